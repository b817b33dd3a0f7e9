/-! WallHouse$DrawingReader.<init>(LWallHouse$Tokens;)V -/
def f_X2_init (a0 : Nat) (p1 : Nat) (h : AH) : Option (AH) :=
  b2 (nwO 1 6 dX1 h) fun a1 h2 =>
  (f_X1_init a1 h2).bind fun h3 =>
  (pQ 2 h3 a0 1 (some a1)).bind fun h4 =>
  b2 (nwA 0 6 h4) fun a5 h6 =>
  (pQ 2 h6 a0 4 (some a5)).bind fun h7 =>
  b2 (nwA 0 21 h7) fun a8 h9 =>
  (pQ 2 h9 a0 6 (some a8)).bind fun h10 =>
  (pQ 2 h10 a0 0 (some p1)).bind fun h11 =>
  some h11
set_option maxRecDepth 100000 in
set_option maxHeartbeats 4000000 in
theorem w_X2_init {l : Launch} {G : GX} {a0 : Nat} {p1 : Nat} {h : AH} {hr : AH} (hf : f_X2_init a0 p1 h = some hr) : Ct l G yX2_init 2 40 [.ref a0, .ref p1] h (QV hr) := by
  unfold f_X2_init at hf
  refine Ct_of (own := RX2) (cc := cX2_init) (nL := 2) (ret := none) rfl rfl k_406 (Nat.le_of_ble_eq_true rfl) (fun X C2 C => ?_)
  show V X G h (QV hr) 0 [(0, .ref a0), (1, .ref p1)] [] h
  refine C.seg (pe := 1) (lv' := [(0, .ref a0), (1, .ref p1)]) (st' := [.ref a0]) [(.aload_n 0, 1, 0)] (by decide +kernel) rfl ?_
  refine C.objInit k_407 k_151 k_152 (by omega) (by omega) (Nat.le_of_ble_eq_true rfl) (by decide +kernel) rfl ?_
  refine C.seg (pe := 5) (lv' := [(0, .ref a0), (1, .ref p1)]) (st' := [.ref a0]) [(.aload_n 0, 1, 0)] (by decide +kernel) rfl ?_
  obtain ⟨a1, h2, ga1, hf⟩ := b2_some hf
  refine C.newo cl_1 k_408 ga1 (by decide +kernel) rfl ?_
  refine C.seg (pe := 9) (lv' := [(0, .ref a0), (1, .ref p1)]) (st' := [.ref a1, .ref a1, .ref a0]) [(.dup, 1, 0)] (by decide +kernel) rfl ?_
  obtain ⟨h3, gh3, hf⟩ := Option.bind_eq_some_iff.mp hf
  refine C.callIr C2 [] [.ref a1, .ref a0] mi_410 rfl (w_X1_init gh3) (by omega) (by omega) (Nat.le_of_ble_eq_true rfl) (by decide +kernel) rfl ?_
  obtain ⟨h4, gh4, hf⟩ := Option.bind_eq_some_iff.mp hf
  refine C.putFA C2.2.1 fl_444 (Or.inl ⟨_, rfl⟩) gh4 (by decide +kernel) rfl ?_
  refine C.seg (pe := 18) (lv' := [(0, .ref a0), (1, .ref p1)]) (st' := [.int 6, .ref a0]) [(.aload_n 0, 1, 0), (.bipush 6, 2, 6)] (by decide +kernel) rfl ?_
  obtain ⟨a5, h6, ga5, hf⟩ := b2_some hf
  refine C.newa0 k_180 ga5 (by decide +kernel) rfl ?_
  obtain ⟨h7, gh7, hf⟩ := Option.bind_eq_some_iff.mp hf
  refine C.putFA C2.2.1 fl_448 (Or.inr ⟨_, rfl⟩) gh7 (by decide +kernel) rfl ?_
  refine C.seg (pe := 26) (lv' := [(0, .ref a0), (1, .ref p1)]) (st' := [.int 21, .ref a0]) [(.aload_n 0, 1, 0), (.bipush 21, 2, 21)] (by decide +kernel) rfl ?_
  obtain ⟨a8, h9, ga8, hf⟩ := b2_some hf
  refine C.newa0 k_180 ga8 (by decide +kernel) rfl ?_
  obtain ⟨h10, gh10, hf⟩ := Option.bind_eq_some_iff.mp hf
  refine C.putFA C2.2.1 fl_450 (Or.inr ⟨_, rfl⟩) gh10 (by decide +kernel) rfl ?_
  refine C.seg (pe := 33) (lv' := [(0, .ref a0), (1, .ref p1)]) (st' := [.ref p1, .ref a0]) [(.aload_n 0, 1, 0), (.aload_n 1, 1, 0)] (by decide +kernel) rfl ?_
  obtain ⟨h11, gh11, hf⟩ := Option.bind_eq_some_iff.mp hf
  refine C.putFA C2.2.1 fl_443 (Or.inl ⟨_, rfl⟩) gh11 (by decide +kernel) rfl ?_
  cases hf
  exact C.retV rfl (by decide +kernel) ⟨rfl, rfl⟩
/-! WallHouse$DrawingReader.readColour()I -/
def f_X2_readColour (a0 : Nat) (h : AH) : Option (Int32 × AH) :=
  if isO 2 h a0 = true then
    (gA 2 h a0 0).bind fun a1 =>
    b2 (f_X7_kind a1 h) fun x2 h3 =>
    if x2 = 3 then
      (gA 2 h3 a0 0).bind fun a4 =>
      b2 (f_X7_value a4 h3) fun y5 h6 =>
      if y5.toInt32 < 8 then
        (gA 2 h6 a0 0).bind fun a7 =>
        (f_X7_advance a7 h6).bind fun h8 =>
        some (y5.toInt32, h8)
      else
        (gA 2 h6 a0 0).bind fun a9 =>
        b2 (f_X7_fail a9 3 h6) fun x10 h11 =>
        some ((-1), h11)
    else
      (gA 2 h3 a0 0).bind fun a13 =>
      b2 (f_X7_fail a13 1 h3) fun x14 h15 =>
      some ((-1), h15)
  else none
set_option maxRecDepth 100000 in
set_option maxHeartbeats 4000000 in
theorem w_X2_readColour {l : Launch} {G : GX} {a0 : Nat} {h : AH} {rr : Int32} {hr : AH} (hf : f_X2_readColour a0 h = some (rr, hr)) : Ct l G yX2_readColour 1 21 [.ref a0] h (QI rr hr) := by
  unfold f_X2_readColour at hf
  obtain ⟨ho, hf⟩ := ifO hf
  refine Ct_of (own := RX2) (cc := cX2_readColour) (nL := 2) (ret := (some .int)) rfl rfl k_989 (Nat.le_of_ble_eq_true rfl) (fun X C2 C => ?_)
  show V X G h (QI rr hr) 0 [(0, .ref a0)] [] h
  refine C.seg (pe := 1) (lv' := [(0, .ref a0)]) (st' := [.ref a0]) [(.aload_n 0, 1, 0)] (by decide +kernel) rfl ?_
  obtain ⟨a1, ga1, hf⟩ := Option.bind_eq_some_iff.mp hf
  refine C.rdA fr_443 ga1 (by decide +kernel) rfl ?_
  obtain ⟨x2, h3, gx2, hf⟩ := b2_some hf
  refine C.callVr C2 [] [] mv_962 rfl (o_X7_kind gx2) (w_X7_kind gx2) (by omega) (by omega) (Nat.le_of_ble_eq_true rfl) (by decide +kernel) rfl ?_
  refine C.seg (pe := 8) (lv' := [(0, .ref a0)]) (st' := [.int 3, .int x2]) [(.iconst 3, 1, 3)] (by decide +kernel) rfl ?_
  refine C.icmp_eq (off := 14) (tgt := 22) (pf := 11) (by decide +kernel) (by decide) rfl (fun c16 => ?_) (fun c16 => ?_)
  · replace hf := ifp c16 hf
    refine C.seg (pe := 23) (lv' := [(0, .ref a0)]) (st' := [.ref a0]) [(.aload_n 0, 1, 0)] (by decide +kernel) rfl ?_
    obtain ⟨a4, ga4, hf⟩ := Option.bind_eq_some_iff.mp hf
    refine C.rdA fr_443 ga4 (by decide +kernel) rfl ?_
    obtain ⟨y5, h6, gy5, hf⟩ := b2_some hf
    refine C.callVr C2 [] [] mv_990 rfl (o_X7_value gy5) (w_X7_value gy5) (by omega) (by omega) (Nat.le_of_ble_eq_true rfl) (by decide +kernel) rfl ?_
    refine C.seg (pe := 34) (lv' := [(1, .int y5.toInt32), (0, .ref a0)]) (st' := [.int 8, .int y5.toInt32]) [(.l2i, 1, 0), (.istore_n 1, 1, 0), (.iload_n 1, 1, 0), (.bipush 8, 2, 8)] (by decide +kernel) rfl ?_
    refine C.icmp_lt (off := 14) (tgt := 48) (pf := 37) (by decide +kernel) (by decide) rfl (fun c12 => ?_) (fun c12 => ?_)
    · replace hf := ifp c12 hf
      refine C.seg (pe := 49) (lv' := [(1, .int y5.toInt32), (0, .ref a0)]) (st' := [.ref a0]) [(.aload_n 0, 1, 0)] (by decide +kernel) rfl ?_
      obtain ⟨a7, ga7, hf⟩ := Option.bind_eq_some_iff.mp hf
      refine C.rdA fr_443 ga7 (by decide +kernel) rfl ?_
      obtain ⟨h8, gh8, hf⟩ := Option.bind_eq_some_iff.mp hf
      refine C.callVr C2 [] [] mv_978 rfl (o_X7_advance gh8) (w_X7_advance gh8) (by omega) (by omega) (Nat.le_of_ble_eq_true rfl) (by decide +kernel) rfl ?_
      refine C.seg (pe := 56) (lv' := [(1, .int y5.toInt32), (0, .ref a0)]) (st' := [.int y5.toInt32]) [(.iload_n 1, 1, 0)] (by decide +kernel) rfl ?_
      cases hf
      exact C.retI rfl (by decide +kernel) ⟨rfl, rfl⟩
    · replace hf := ifn c12 hf
      refine C.seg (pe := 38) (lv' := [(1, .int y5.toInt32), (0, .ref a0)]) (st' := [.ref a0]) [(.aload_n 0, 1, 0)] (by decide +kernel) rfl ?_
      obtain ⟨a9, ga9, hf⟩ := Option.bind_eq_some_iff.mp hf
      refine C.rdA fr_443 ga9 (by decide +kernel) rfl ?_
      refine C.seg (pe := 42) (lv' := [(1, .int y5.toInt32), (0, .ref a0)]) (st' := [.int 3, .ref a9]) [(.iconst 3, 1, 3)] (by decide +kernel) rfl ?_
      obtain ⟨x10, h11, gx10, hf⟩ := b2_some hf
      refine C.callVr C2 [.int 3] [] mv_966 rfl (o_X7_fail gx10) (w_X7_fail gx10) (by omega) (by omega) (Nat.le_of_ble_eq_true rfl) (by decide +kernel) rfl ?_
      refine C.seg (pe := 47) (lv' := [(1, .int y5.toInt32), (0, .ref a0)]) (st' := [.int (-1)]) [(.pop, 1, 0), (.iconst (-1), 1, (-1))] (by decide +kernel) rfl ?_
      cases hf
      exact C.retI rfl (by decide +kernel) ⟨rfl, rfl⟩
  · replace hf := ifn c16 hf
    refine C.seg (pe := 12) (lv' := [(0, .ref a0)]) (st' := [.ref a0]) [(.aload_n 0, 1, 0)] (by decide +kernel) rfl ?_
    obtain ⟨a13, ga13, hf⟩ := Option.bind_eq_some_iff.mp hf
    refine C.rdA fr_443 ga13 (by decide +kernel) rfl ?_
    refine C.seg (pe := 16) (lv' := [(0, .ref a0)]) (st' := [.int 1, .ref a13]) [(.iconst 1, 1, 1)] (by decide +kernel) rfl ?_
    obtain ⟨x14, h15, gx14, hf⟩ := b2_some hf
    refine C.callVr C2 [.int 1] [] mv_966 rfl (o_X7_fail gx14) (w_X7_fail gx14) (by omega) (by omega) (Nat.le_of_ble_eq_true rfl) (by decide +kernel) rfl ?_
    refine C.seg (pe := 21) (lv' := [(0, .ref a0)]) (st' := [.int (-1)]) [(.pop, 1, 0), (.iconst (-1), 1, (-1))] (by decide +kernel) rfl ?_
    cases hf
    exact C.retI rfl (by decide +kernel) ⟨rfl, rfl⟩
theorem o_X2_readColour {a0 : Nat} {h : AH} {rr : Int32} {hr : AH} (hf : f_X2_readColour a0 h = some (rr, hr)) : isO 2 h a0 = true := by
  unfold f_X2_readColour at hf
  exact (ifO hf).1
/-! WallHouse$DrawingReader.holdSign(I)V -/
def f_X2_holdSign_32 (h : AH) : Option (AH) :=
  some h
set_option maxRecDepth 100000 in
set_option maxHeartbeats 4000000 in
theorem l_X2_holdSign_32 {X : MX} {l : Launch} {G : GX} {h0 : AH} {hr : AH} (C : Cx X G RX2 cX2_holdSign 2 none 0 0 h0) (C2 : Cy X l "holdSign" []) (h : AH) (hf : f_X2_holdSign_32 h = some hr) : V X G h0 (QV hr) 32 [] [] h := by
  unfold f_X2_holdSign_32 at hf
  cases hf
  exact C.retV rfl (by decide +kernel) ⟨rfl, rfl⟩
def f_X2_holdSign (a0 : Nat) (p1 : Int32) (h : AH) : Option (AH) :=
  if isO 2 h a0 = true then
    (gI 2 h a0 7).bind fun x1 =>
    (gA 2 h a0 6).bind fun a2 =>
    (aN h a2).bind fun x3 =>
    if x3 ≤ x1 then
      f_X2_holdSign_32 h
    else
      (gA 2 h a0 6).bind fun a4 =>
      (gI 2 h a0 7).bind fun x5 =>
      (sI 0 h a4 x5 p1).bind fun h6 =>
      (gI 2 h6 a0 7).bind fun x7 =>
      (pI 2 h6 a0 7 (x7 + 1)).bind fun h8 =>
      f_X2_holdSign_32 h8
  else none
set_option maxRecDepth 100000 in
set_option maxHeartbeats 4000000 in
theorem w_X2_holdSign {l : Launch} {G : GX} {a0 : Nat} {p1 : Int32} {h : AH} {hr : AH} (hf : f_X2_holdSign a0 p1 h = some hr) : Ct l G yX2_holdSign 0 0 [.ref a0, .int p1] h (QV hr) := by
  unfold f_X2_holdSign at hf
  obtain ⟨ho, hf⟩ := ifO hf
  refine Ct_of (own := RX2) (cc := cX2_holdSign) (nL := 2) (ret := none) rfl rfl k_1007 (Nat.le_of_ble_eq_true rfl) (fun X C2 C => ?_)
  show V X G h (QV hr) 0 [(0, .ref a0), (1, .int p1)] [] h
  refine C.seg (pe := 1) (lv' := [(0, .ref a0), (1, .int p1)]) (st' := [.ref a0]) [(.aload_n 0, 1, 0)] (by decide +kernel) rfl ?_
  obtain ⟨x1, gx1, hf⟩ := Option.bind_eq_some_iff.mp hf
  refine C.rdI fr_451 gx1 (by decide +kernel) rfl ?_
  refine C.seg (pe := 5) (lv' := [(0, .ref a0), (1, .int p1)]) (st' := [.ref a0, .int x1]) [(.aload_n 0, 1, 0)] (by decide +kernel) rfl ?_
  obtain ⟨a2, ga2, hf⟩ := Option.bind_eq_some_iff.mp hf
  refine C.rdA fr_450 ga2 (by decide +kernel) rfl ?_
  obtain ⟨x3, gx3, hf⟩ := Option.bind_eq_some_iff.mp hf
  refine C.alen gx3 (by decide +kernel) rfl ?_
  refine C.icmp_ge (off := 23) (tgt := 32) (pf := 12) (by decide +kernel) (by decide) rfl (fun c9 => ?_) (fun c9 => ?_)
  · replace hf := ifp c9 hf
    refine Vsub [] rfl ?_
    exact l_X2_holdSign_32 C C2 h hf
  · replace hf := ifn c9 hf
    refine C.seg (pe := 13) (lv' := [(0, .ref a0), (1, .int p1)]) (st' := [.ref a0]) [(.aload_n 0, 1, 0)] (by decide +kernel) rfl ?_
    obtain ⟨a4, ga4, hf⟩ := Option.bind_eq_some_iff.mp hf
    refine C.rdA fr_450 ga4 (by decide +kernel) rfl ?_
    refine C.seg (pe := 17) (lv' := [(0, .ref a0), (1, .int p1)]) (st' := [.ref a0, .ref a4]) [(.aload_n 0, 1, 0)] (by decide +kernel) rfl ?_
    obtain ⟨x5, gx5, hf⟩ := Option.bind_eq_some_iff.mp hf
    refine C.rdI fr_451 gx5 (by decide +kernel) rfl ?_
    refine C.seg (pe := 21) (lv' := [(0, .ref a0), (1, .int p1)]) (st' := [.int p1, .int x5, .ref a4]) [(.iload_n 1, 1, 0)] (by decide +kernel) rfl ?_
    obtain ⟨h6, gh6, hf⟩ := Option.bind_eq_some_iff.mp hf
    refine C.ast gh6 (by decide +kernel) rfl ?_
    refine C.seg (pe := 24) (lv' := [(0, .ref a0), (1, .int p1)]) (st' := [.ref a0, .ref a0]) [(.aload_n 0, 1, 0), (.dup, 1, 0)] (by decide +kernel) rfl ?_
    obtain ⟨x7, gx7, hf⟩ := Option.bind_eq_some_iff.mp hf
    refine C.rdI fr_451 gx7 (by decide +kernel) rfl ?_
    refine C.seg (pe := 29) (lv' := [(0, .ref a0), (1, .int p1)]) (st' := [.int (x7 + 1), .ref a0]) [(.iconst 1, 1, 1), (.iadd, 1, 0)] (by decide +kernel) rfl ?_
    obtain ⟨h8, gh8, hf⟩ := Option.bind_eq_some_iff.mp hf
    refine C.putI fl_451 gh8 (by decide +kernel) rfl ?_
    refine Vsub [] rfl ?_
    exact l_X2_holdSign_32 C C2 h8 hf
theorem o_X2_holdSign {a0 : Nat} {p1 : Int32} {h : AH} {hr : AH} (hf : f_X2_holdSign a0 p1 h = some hr) : isO 2 h a0 = true := by
  unfold f_X2_holdSign at hf
  exact (ifO hf).1
/-! WallHouse$DrawingReader.isVariable(I)Z -/
def f_X2_isVariable_17 (si0 : Int32) (h : AH) : Option (Int32 × AH) :=
  (ckZ si0).bind fun x1 =>
  some (x1, h)
set_option maxRecDepth 100000 in
set_option maxHeartbeats 4000000 in
theorem l_X2_isVariable_17 {X : MX} {l : Launch} {G : GX} {h0 : AH} {rr : Int32} {hr : AH} (C : Cx X G RX2 cX2_isVariable 1 (some .boolean) 0 0 h0) (C2 : Cy X l "isVariable" []) (si0 : Int32) (h : AH) (hf : f_X2_isVariable_17 si0 h = some (rr, hr)) : V X G h0 (QI rr hr) 17 [] [.int si0] h := by
  unfold f_X2_isVariable_17 at hf
  obtain ⟨x1, gx1, hf⟩ := Option.bind_eq_some_iff.mp hf
  have ex1 := ckZ_eq gx1
  subst ex1
  cases hf
  exact C.retZ rfl gx1 (by decide +kernel) ⟨rfl, rfl⟩
def f_X2_isVariable_16 (h : AH) : Option (Int32 × AH) :=
  f_X2_isVariable_17 0 h
set_option maxRecDepth 100000 in
set_option maxHeartbeats 4000000 in
theorem l_X2_isVariable_16 {X : MX} {l : Launch} {G : GX} {h0 : AH} {rr : Int32} {hr : AH} (C : Cx X G RX2 cX2_isVariable 1 (some .boolean) 0 0 h0) (C2 : Cy X l "isVariable" []) (h : AH) (hf : f_X2_isVariable_16 h = some (rr, hr)) : V X G h0 (QI rr hr) 16 [] [] h := by
  unfold f_X2_isVariable_16 at hf
  refine C.seg (pe := 17) (lv' := []) (st' := [.int 0]) [(.iconst 0, 1, 0)] (by decide +kernel) rfl ?_
  exact l_X2_isVariable_17 C C2 0 h hf
def f_X2_isVariable (p1 : Int32) (h : AH) : Option (Int32 × AH) :=
  if p1 < 7 then
    f_X2_isVariable_16 h
  else
    if 11 < p1 then
      f_X2_isVariable_16 h
    else
      f_X2_isVariable_17 1 h
set_option maxRecDepth 100000 in
set_option maxHeartbeats 4000000 in
theorem w_X2_isVariable {l : Launch} {G : GX} {p1 : Int32} {h : AH} {rr : Int32} {hr : AH} (hf : f_X2_isVariable p1 h = some (rr, hr)) : Ct l G yX2_isVariable 0 0 [.int p1] h (QI rr hr) := by
  unfold f_X2_isVariable at hf
  refine Ct_of (own := RX2) (cc := cX2_isVariable) (nL := 1) (ret := (some .boolean)) rfl rfl k_1014 (Nat.le_of_ble_eq_true rfl) (fun X C2 C => ?_)
  show V X G h (QI rr hr) 0 [(0, .int p1)] [] h
  refine C.seg (pe := 3) (lv' := [(0, .int p1)]) (st' := [.int 7, .int p1]) [(.iload_n 0, 1, 0), (.bipush 7, 2, 7)] (by decide +kernel) rfl ?_
  refine C.icmp_lt (off := 13) (tgt := 16) (pf := 6) (by decide +kernel) (by decide) rfl (fun c2 => ?_) (fun c2 => ?_)
  · replace hf := ifp c2 hf
    refine Vsub [] rfl ?_
    exact l_X2_isVariable_16 C C2 h hf
  · replace hf := ifn c2 hf
    refine C.seg (pe := 9) (lv' := [(0, .int p1)]) (st' := [.int 11, .int p1]) [(.iload_n 0, 1, 0), (.bipush 11, 2, 11)] (by decide +kernel) rfl ?_
    refine C.icmp_gt (off := 7) (tgt := 16) (pf := 12) (by decide +kernel) (by decide) rfl (fun c1 => ?_) (fun c1 => ?_)
    · replace hf := ifp c1 hf
      refine Vsub [] rfl ?_
      exact l_X2_isVariable_16 C C2 h hf
    · replace hf := ifn c1 hf
      refine C.seg (pe := 13) (lv' := [(0, .int p1)]) (st' := [.int 1]) [(.iconst 1, 1, 1)] (by decide +kernel) rfl ?_
      refine C.goto (off := 4) (tgt := 17) (by decide +kernel) (by decide) ?_
      refine Vsub [] rfl ?_
      exact l_X2_isVariable_17 C C2 1 h hf
/-! WallHouse$DrawingReader.readPart()Z -/
def f_X2_readPart_194 (r0 : Nat) (h : AH) : Option (Int32 × AH) :=
  (gA 2 h r0 0).bind fun a1 =>
  (f_X7_advance a1 h).bind fun h2 =>
  some (1, h2)
set_option maxRecDepth 100000 in
set_option maxHeartbeats 4000000 in
theorem l_X2_readPart_194 {X : MX} {l : Launch} {G : GX} {h0 : AH} {rr : Int32} {hr : AH} (C : Cx X G RX2 cX2_readPart 3 (some .boolean) 1 22 h0) (C2 : Cy X l "readPart" []) (r0 : Nat) (h : AH) (hf : f_X2_readPart_194 r0 h = some (rr, hr)) : V X G h0 (QI rr hr) 194 [(0, .ref r0)] [] h := by
  unfold f_X2_readPart_194 at hf
  refine C.seg (pe := 195) (lv' := [(0, .ref r0)]) (st' := [.ref r0]) [(.aload_n 0, 1, 0)] (by decide +kernel) rfl ?_
  obtain ⟨a1, ga1, hf⟩ := Option.bind_eq_some_iff.mp hf
  refine C.rdA fr_443 ga1 (by decide +kernel) rfl ?_
  obtain ⟨h2, gh2, hf⟩ := Option.bind_eq_some_iff.mp hf
  refine C.callVr C2 [] [] mv_978 rfl (o_X7_advance gh2) (w_X7_advance gh2) (by omega) (by omega) (Nat.le_of_ble_eq_true rfl) (by decide +kernel) rfl ?_
  refine C.seg (pe := 202) (lv' := [(0, .ref r0)]) (st' := [.int 1]) [(.iconst 1, 1, 1)] (by decide +kernel) rfl ?_
  cases hf
  exact C.retZ rfl (by decide) (by decide +kernel) ⟨rfl, rfl⟩
def f_X2_readPart_190 (r0 : Nat) (si0 : Int32) (sr1 : Nat) (h : AH) : Option (Int32 × AH) :=
  (f_X1_put sr1 si0 0 h).bind fun h1 =>
  f_X2_readPart_194 r0 h1
set_option maxRecDepth 100000 in
set_option maxHeartbeats 4000000 in
theorem l_X2_readPart_190 {X : MX} {l : Launch} {G : GX} {h0 : AH} {rr : Int32} {hr : AH} (C : Cx X G RX2 cX2_readPart 3 (some .boolean) 1 22 h0) (C2 : Cy X l "readPart" []) (r0 : Nat) (si0 : Int32) (sr1 : Nat) (h : AH) (hf : f_X2_readPart_190 r0 si0 sr1 h = some (rr, hr)) : V X G h0 (QI rr hr) 190 [(0, .ref r0)] [.int si0, .ref sr1] h := by
  unfold f_X2_readPart_190 at hf
  refine C.seg (pe := 191) (lv' := [(0, .ref r0)]) (st' := [.int 0, .int si0, .ref sr1]) [(.iconst 0, 1, 0)] (by decide +kernel) rfl ?_
  obtain ⟨h1, gh1, hf⟩ := Option.bind_eq_some_iff.mp hf
  refine C.callVr C2 [.int si0, .int 0] [] mv_974 rfl (o_X1_put gh1) (w_X1_put gh1) (by omega) (by omega) (Nat.le_of_ble_eq_true rfl) (by decide +kernel) rfl ?_
  exact l_X2_readPart_194 C C2 r0 h1 hf
def f_X2_readPart_95 (r0 : Nat) (i1 : Int32) (h : AH) : Option (Int32 × AH) :=
  (gI 2 h r0 3).bind fun x1 =>
  if x1 < 120 then
    (gI 2 h r0 3).bind fun x2 =>
    (pI 2 h r0 3 (x2 + 1)).bind fun h3 =>
    (gA 2 h3 r0 0).bind fun a4 =>
    b2 (f_X7_kind a4 h3) fun x5 h6 =>
    if x5 = 3 then
      (gA 2 h6 r0 1).bind fun a14 =>
      (gA 2 h6 r0 0).bind fun a15 =>
      b2 (f_X7_value a15 h6) fun y16 h17 =>
      (f_X1_put a14 1 y16.toInt32 h17).bind fun h18 =>
      f_X2_readPart_194 r0 h18
    else
      b2 (f_X2_isVariable i1 h6) fun x7 h8 =>
      if x7 = 0 then
        (gA 2 h8 r0 1).bind fun a9 =>
        if i1 = 12 then
          f_X2_readPart_190 r0 3 a9 h8
        else
          f_X2_readPart_190 r0 4 a9 h8
      else
        (gA 2 h8 r0 1).bind fun a11 =>
        (f_X1_put a11 2 (i1 - 7) h8).bind fun h12 =>
        f_X2_readPart_194 r0 h12
  else
    (gA 2 h r0 0).bind fun a20 =>
    b2 (f_X7_fail a20 4 h) fun x21 h22 =>
    (ckZ x21).bind fun x23 =>
    some (x23, h22)
set_option maxRecDepth 100000 in
set_option maxHeartbeats 4000000 in
theorem l_X2_readPart_95 {X : MX} {l : Launch} {G : GX} {h0 : AH} {rr : Int32} {hr : AH} (C : Cx X G RX2 cX2_readPart 3 (some .boolean) 1 22 h0) (C2 : Cy X l "readPart" []) (r0 : Nat) (i1 : Int32) (h : AH) (hf : f_X2_readPart_95 r0 i1 h = some (rr, hr)) : V X G h0 (QI rr hr) 95 [(0, .ref r0), (1, .int i1)] [] h := by
  unfold f_X2_readPart_95 at hf
  refine C.seg (pe := 96) (lv' := [(0, .ref r0), (1, .int i1)]) (st' := [.ref r0]) [(.aload_n 0, 1, 0)] (by decide +kernel) rfl ?_
  obtain ⟨x1, gx1, hf⟩ := Option.bind_eq_some_iff.mp hf
  refine C.rdI fr_447 gx1 (by decide +kernel) rfl ?_
  refine C.seg (pe := 101) (lv' := [(0, .ref r0), (1, .int i1)]) (st' := [.int 120, .int x1]) [(.bipush 120, 2, 120)] (by decide +kernel) rfl ?_
  refine C.icmp_lt (off := 12) (tgt := 113) (pf := 104) (by decide +kernel) (by decide) rfl (fun c24 => ?_) (fun c24 => ?_)
  · replace hf := ifp c24 hf
    refine C.seg (pe := 115) (lv' := [(0, .ref r0), (1, .int i1)]) (st' := [.ref r0, .ref r0]) [(.aload_n 0, 1, 0), (.dup, 1, 0)] (by decide +kernel) rfl ?_
    obtain ⟨x2, gx2, hf⟩ := Option.bind_eq_some_iff.mp hf
    refine C.rdI fr_447 gx2 (by decide +kernel) rfl ?_
    refine C.seg (pe := 120) (lv' := [(0, .ref r0), (1, .int i1)]) (st' := [.int (x2 + 1), .ref r0]) [(.iconst 1, 1, 1), (.iadd, 1, 0)] (by decide +kernel) rfl ?_
    obtain ⟨h3, gh3, hf⟩ := Option.bind_eq_some_iff.mp hf
    refine C.putI fl_447 gh3 (by decide +kernel) rfl ?_
    refine C.seg (pe := 124) (lv' := [(0, .ref r0), (1, .int i1)]) (st' := [.ref r0]) [(.aload_n 0, 1, 0)] (by decide +kernel) rfl ?_
    obtain ⟨a4, ga4, hf⟩ := Option.bind_eq_some_iff.mp hf
    refine C.rdA fr_443 ga4 (by decide +kernel) rfl ?_
    obtain ⟨x5, h6, gx5, hf⟩ := b2_some hf
    refine C.callVr C2 [] [] mv_962 rfl (o_X7_kind gx5) (w_X7_kind gx5) (by omega) (by omega) (Nat.le_of_ble_eq_true rfl) (by decide +kernel) rfl ?_
    refine C.seg (pe := 131) (lv' := [(0, .ref r0), (1, .int i1)]) (st' := [.int 3, .int x5]) [(.iconst 3, 1, 3)] (by decide +kernel) rfl ?_
    refine C.icmp_ne (off := 22) (tgt := 153) (pf := 134) (by decide +kernel) (by decide) rfl (fun c19 => ?_) (fun c19 => ?_)
    · replace hf := ifn c19 hf
      refine C.seg (pe := 154) (lv' := [(0, .ref r0), (1, .int i1)]) (st' := [.int i1]) [(.iload_n 1, 1, 0)] (by decide +kernel) rfl ?_
      obtain ⟨x7, h8, gx7, hf⟩ := b2_some hf
      refine C.callSr C2 [.int i1] [] ms_1012 rfl (w_X2_isVariable gx7) (by omega) (by omega) (Nat.le_of_ble_eq_true rfl) (by decide +kernel) rfl ?_
      refine C.if_eq (off := 18) (tgt := 175) (pf := 160) (by decide +kernel) (by decide) rfl (fun c13 => ?_) (fun c13 => ?_)
      · replace hf := ifp c13 hf
        refine C.seg (pe := 176) (lv' := [(0, .ref r0), (1, .int i1)]) (st' := [.ref r0]) [(.aload_n 0, 1, 0)] (by decide +kernel) rfl ?_
        obtain ⟨a9, ga9, hf⟩ := Option.bind_eq_some_iff.mp hf
        refine C.rdA fr_444 ga9 (by decide +kernel) rfl ?_
        refine C.seg (pe := 182) (lv' := [(0, .ref r0), (1, .int i1)]) (st' := [.int 12, .int i1, .ref a9]) [(.iload_n 1, 1, 0), (.bipush 12, 2, 12)] (by decide +kernel) rfl ?_
        refine C.icmp_ne (off := 7) (tgt := 189) (pf := 185) (by decide +kernel) (by decide) rfl (fun c10 => ?_) (fun c10 => ?_)
        · replace hf := ifn c10 hf
          refine C.seg (pe := 190) (lv' := [(0, .ref r0), (1, .int i1)]) (st' := [.int 4, .ref a9]) [(.iconst 4, 1, 4)] (by decide +kernel) rfl ?_
          refine Vsub [0] rfl ?_
          exact l_X2_readPart_190 C C2 r0 4 a9 h8 hf
        · replace hf := ifp c10 hf
          refine C.seg (pe := 186) (lv' := [(0, .ref r0), (1, .int i1)]) (st' := [.int 3, .ref a9]) [(.iconst 3, 1, 3)] (by decide +kernel) rfl ?_
          refine C.goto (off := 4) (tgt := 190) (by decide +kernel) (by decide) ?_
          refine Vsub [0] rfl ?_
          exact l_X2_readPart_190 C C2 r0 3 a9 h8 hf
      · replace hf := ifn c13 hf
        refine C.seg (pe := 161) (lv' := [(0, .ref r0), (1, .int i1)]) (st' := [.ref r0]) [(.aload_n 0, 1, 0)] (by decide +kernel) rfl ?_
        obtain ⟨a11, ga11, hf⟩ := Option.bind_eq_some_iff.mp hf
        refine C.rdA fr_444 ga11 (by decide +kernel) rfl ?_
        refine C.seg (pe := 169) (lv' := [(0, .ref r0), (1, .int i1)]) (st' := [.int (i1 - 7), .int 2, .ref a11]) [(.iconst 2, 1, 2), (.iload_n 1, 1, 0), (.bipush 7, 2, 7), (.isub, 1, 0)] (by decide +kernel) rfl ?_
        obtain ⟨h12, gh12, hf⟩ := Option.bind_eq_some_iff.mp hf
        refine C.callVr C2 [.int 2, .int (i1 - 7)] [] mv_974 rfl (o_X1_put gh12) (w_X1_put gh12) (by omega) (by omega) (Nat.le_of_ble_eq_true rfl) (by decide +kernel) rfl ?_
        refine C.goto (off := 22) (tgt := 194) (by decide +kernel) (by decide) ?_
        refine Vsub [0] rfl ?_
        exact l_X2_readPart_194 C C2 r0 h12 hf
    · replace hf := ifp c19 hf
      refine C.seg (pe := 135) (lv' := [(0, .ref r0), (1, .int i1)]) (st' := [.ref r0]) [(.aload_n 0, 1, 0)] (by decide +kernel) rfl ?_
      obtain ⟨a14, ga14, hf⟩ := Option.bind_eq_some_iff.mp hf
      refine C.rdA fr_444 ga14 (by decide +kernel) rfl ?_
      refine C.seg (pe := 140) (lv' := [(0, .ref r0), (1, .int i1)]) (st' := [.ref r0, .int 1, .ref a14]) [(.iconst 1, 1, 1), (.aload_n 0, 1, 0)] (by decide +kernel) rfl ?_
      obtain ⟨a15, ga15, hf⟩ := Option.bind_eq_some_iff.mp hf
      refine C.rdA fr_443 ga15 (by decide +kernel) rfl ?_
      obtain ⟨y16, h17, gy16, hf⟩ := b2_some hf
      refine C.callVr C2 [] [.int 1, .ref a14] mv_990 rfl (o_X7_value gy16) (w_X7_value gy16) (by omega) (by omega) (Nat.le_of_ble_eq_true rfl) (by decide +kernel) rfl ?_
      refine C.seg (pe := 147) (lv' := [(0, .ref r0), (1, .int i1)]) (st' := [.int y16.toInt32, .int 1, .ref a14]) [(.l2i, 1, 0)] (by decide +kernel) rfl ?_
      obtain ⟨h18, gh18, hf⟩ := Option.bind_eq_some_iff.mp hf
      refine C.callVr C2 [.int 1, .int y16.toInt32] [] mv_974 rfl (o_X1_put gh18) (w_X1_put gh18) (by omega) (by omega) (Nat.le_of_ble_eq_true rfl) (by decide +kernel) rfl ?_
      refine C.goto (off := 44) (tgt := 194) (by decide +kernel) (by decide) ?_
      refine Vsub [0] rfl ?_
      exact l_X2_readPart_194 C C2 r0 h18 hf
  · replace hf := ifn c24 hf
    refine C.seg (pe := 105) (lv' := [(0, .ref r0), (1, .int i1)]) (st' := [.ref r0]) [(.aload_n 0, 1, 0)] (by decide +kernel) rfl ?_
    obtain ⟨a20, ga20, hf⟩ := Option.bind_eq_some_iff.mp hf
    refine C.rdA fr_443 ga20 (by decide +kernel) rfl ?_
    refine C.seg (pe := 109) (lv' := [(0, .ref r0), (1, .int i1)]) (st' := [.int 4, .ref a20]) [(.iconst 4, 1, 4)] (by decide +kernel) rfl ?_
    obtain ⟨x21, h22, gx21, hf⟩ := b2_some hf
    refine C.callVr C2 [.int 4] [] mv_966 rfl (o_X7_fail gx21) (w_X7_fail gx21) (by omega) (by omega) (Nat.le_of_ble_eq_true rfl) (by decide +kernel) rfl ?_
    obtain ⟨x23, gx23, hf⟩ := Option.bind_eq_some_iff.mp hf
    have ex23 := ckZ_eq gx23
    subst ex23
    cases hf
    exact C.retZ rfl gx23 (by decide +kernel) ⟨rfl, rfl⟩
def f_X2_readPart_91 (si0 : Int32) (sr1 : Nat) (h : AH) : Option (Int32 × AH) :=
  b2 (f_X7_fail sr1 si0 h) fun x1 h2 =>
  (ckZ x1).bind fun x3 =>
  some (x3, h2)
set_option maxRecDepth 100000 in
set_option maxHeartbeats 4000000 in
theorem l_X2_readPart_91 {X : MX} {l : Launch} {G : GX} {h0 : AH} {rr : Int32} {hr : AH} (C : Cx X G RX2 cX2_readPart 3 (some .boolean) 1 22 h0) (C2 : Cy X l "readPart" []) (si0 : Int32) (sr1 : Nat) (h : AH) (hf : f_X2_readPart_91 si0 sr1 h = some (rr, hr)) : V X G h0 (QI rr hr) 91 [] [.int si0, .ref sr1] h := by
  unfold f_X2_readPart_91 at hf
  obtain ⟨x1, h2, gx1, hf⟩ := b2_some hf
  refine C.callVr C2 [.int si0] [] mv_966 rfl (o_X7_fail gx1) (w_X7_fail gx1) (by omega) (by omega) (Nat.le_of_ble_eq_true rfl) (by decide +kernel) rfl ?_
  obtain ⟨x3, gx3, hf⟩ := Option.bind_eq_some_iff.mp hf
  have ex3 := ckZ_eq gx3
  subst ex3
  cases hf
  exact C.retZ rfl gx3 (by decide +kernel) ⟨rfl, rfl⟩
def f_X2_readPart_77 (r0 : Nat) (si0 : Int32) (h : AH) : Option (Int32 × AH) :=
  (gA 2 h r0 0).bind fun a1 =>
  if si0 = 0 then
    f_X2_readPart_91 2 a1 h
  else
    f_X2_readPart_91 1 a1 h
set_option maxRecDepth 100000 in
set_option maxHeartbeats 4000000 in
theorem l_X2_readPart_77 {X : MX} {l : Launch} {G : GX} {h0 : AH} {rr : Int32} {hr : AH} (C : Cx X G RX2 cX2_readPart 3 (some .boolean) 1 22 h0) (C2 : Cy X l "readPart" []) (r0 : Nat) (si0 : Int32) (h : AH) (hf : f_X2_readPart_77 r0 si0 h = some (rr, hr)) : V X G h0 (QI rr hr) 77 [(0, .ref r0)] [.int si0] h := by
  unfold f_X2_readPart_77 at hf
  refine C.seg (pe := 79) (lv' := [(2, .int si0), (0, .ref r0)]) (st' := [.ref r0]) [(.istore_n 2, 1, 0), (.aload_n 0, 1, 0)] (by decide +kernel) rfl ?_
  obtain ⟨a1, ga1, hf⟩ := Option.bind_eq_some_iff.mp hf
  refine C.rdA fr_443 ga1 (by decide +kernel) rfl ?_
  refine C.seg (pe := 83) (lv' := [(2, .int si0), (0, .ref r0)]) (st' := [.int si0, .ref a1]) [(.iload_n 2, 1, 0)] (by decide +kernel) rfl ?_
  refine C.if_eq (off := 7) (tgt := 90) (pf := 86) (by decide +kernel) (by decide) rfl (fun c2 => ?_) (fun c2 => ?_)
  · replace hf := ifp c2 hf
    refine C.seg (pe := 91) (lv' := [(2, .int si0), (0, .ref r0)]) (st' := [.int 2, .ref a1]) [(.iconst 2, 1, 2)] (by decide +kernel) rfl ?_
    refine Vsub [] rfl ?_
    exact l_X2_readPart_91 C C2 2 a1 h hf
  · replace hf := ifn c2 hf
    refine C.seg (pe := 87) (lv' := [(2, .int si0), (0, .ref r0)]) (st' := [.int 1, .ref a1]) [(.iconst 1, 1, 1)] (by decide +kernel) rfl ?_
    refine C.goto (off := 4) (tgt := 91) (by decide +kernel) (by decide) ?_
    refine Vsub [] rfl ?_
    exact l_X2_readPart_91 C C2 1 a1 h hf
def f_X2_readPart_76 (r0 : Nat) (h : AH) : Option (Int32 × AH) :=
  f_X2_readPart_77 r0 0 h
set_option maxRecDepth 100000 in
set_option maxHeartbeats 4000000 in
theorem l_X2_readPart_76 {X : MX} {l : Launch} {G : GX} {h0 : AH} {rr : Int32} {hr : AH} (C : Cx X G RX2 cX2_readPart 3 (some .boolean) 1 22 h0) (C2 : Cy X l "readPart" []) (r0 : Nat) (h : AH) (hf : f_X2_readPart_76 r0 h = some (rr, hr)) : V X G h0 (QI rr hr) 76 [(0, .ref r0)] [] h := by
  unfold f_X2_readPart_76 at hf
  refine C.seg (pe := 77) (lv' := [(0, .ref r0)]) (st' := [.int 0]) [(.iconst 0, 1, 0)] (by decide +kernel) rfl ?_
  exact l_X2_readPart_77 C C2 r0 0 h hf
def f_X2_readPart_62 (r0 : Nat) (i1 : Int32) (h : AH) : Option (Int32 × AH) :=
  if i1 < 0 then
    f_X2_readPart_76 r0 h
  else
    if 6 < i1 then
      f_X2_readPart_76 r0 h
    else
      f_X2_readPart_77 r0 1 h
set_option maxRecDepth 100000 in
set_option maxHeartbeats 4000000 in
theorem l_X2_readPart_62 {X : MX} {l : Launch} {G : GX} {h0 : AH} {rr : Int32} {hr : AH} (C : Cx X G RX2 cX2_readPart 3 (some .boolean) 1 22 h0) (C2 : Cy X l "readPart" []) (r0 : Nat) (i1 : Int32) (h : AH) (hf : f_X2_readPart_62 r0 i1 h = some (rr, hr)) : V X G h0 (QI rr hr) 62 [(0, .ref r0), (1, .int i1)] [] h := by
  unfold f_X2_readPart_62 at hf
  refine C.seg (pe := 63) (lv' := [(0, .ref r0), (1, .int i1)]) (st' := [.int i1]) [(.iload_n 1, 1, 0)] (by decide +kernel) rfl ?_
  refine C.if_lt (off := 13) (tgt := 76) (pf := 66) (by decide +kernel) (by decide) rfl (fun c2 => ?_) (fun c2 => ?_)
  · replace hf := ifp c2 hf
    refine Vsub [0] rfl ?_
    exact l_X2_readPart_76 C C2 r0 h hf
  · replace hf := ifn c2 hf
    refine C.seg (pe := 69) (lv' := [(0, .ref r0), (1, .int i1)]) (st' := [.int 6, .int i1]) [(.iload_n 1, 1, 0), (.bipush 6, 2, 6)] (by decide +kernel) rfl ?_
    refine C.icmp_gt (off := 7) (tgt := 76) (pf := 72) (by decide +kernel) (by decide) rfl (fun c1 => ?_) (fun c1 => ?_)
    · replace hf := ifp c1 hf
      refine Vsub [0] rfl ?_
      exact l_X2_readPart_76 C C2 r0 h hf
    · replace hf := ifn c1 hf
      refine C.seg (pe := 73) (lv' := [(0, .ref r0), (1, .int i1)]) (st' := [.int 1]) [(.iconst 1, 1, 1)] (by decide +kernel) rfl ?_
      refine C.goto (off := 4) (tgt := 77) (by decide +kernel) (by decide) ?_
      refine Vsub [0] rfl ?_
      exact l_X2_readPart_77 C C2 r0 1 h hf
def f_X2_readPart_39 (r0 : Nat) (i1 : Int32) (h : AH) : Option (Int32 × AH) :=
  (gA 2 h r0 0).bind fun a1 =>
  b2 (f_X7_kind a1 h) fun x2 h3 =>
  if x2 = 2 then
    if i1 < 7 then
      f_X2_readPart_62 r0 i1 h3
    else
      if i1 ≤ 13 then
        f_X2_readPart_95 r0 i1 h3
      else
        f_X2_readPart_62 r0 i1 h3
  else
    f_X2_readPart_95 r0 i1 h3
set_option maxRecDepth 100000 in
set_option maxHeartbeats 4000000 in
theorem l_X2_readPart_39 {X : MX} {l : Launch} {G : GX} {h0 : AH} {rr : Int32} {hr : AH} (C : Cx X G RX2 cX2_readPart 3 (some .boolean) 1 22 h0) (C2 : Cy X l "readPart" []) (r0 : Nat) (i1 : Int32) (h : AH) (hf : f_X2_readPart_39 r0 i1 h = some (rr, hr)) : V X G h0 (QI rr hr) 39 [(0, .ref r0), (1, .int i1)] [] h := by
  unfold f_X2_readPart_39 at hf
  refine C.seg (pe := 40) (lv' := [(0, .ref r0), (1, .int i1)]) (st' := [.ref r0]) [(.aload_n 0, 1, 0)] (by decide +kernel) rfl ?_
  obtain ⟨a1, ga1, hf⟩ := Option.bind_eq_some_iff.mp hf
  refine C.rdA fr_443 ga1 (by decide +kernel) rfl ?_
  obtain ⟨x2, h3, gx2, hf⟩ := b2_some hf
  refine C.callVr C2 [] [] mv_962 rfl (o_X7_kind gx2) (w_X7_kind gx2) (by omega) (by omega) (Nat.le_of_ble_eq_true rfl) (by decide +kernel) rfl ?_
  refine C.seg (pe := 47) (lv' := [(0, .ref r0), (1, .int i1)]) (st' := [.int 2, .int x2]) [(.iconst 2, 1, 2)] (by decide +kernel) rfl ?_
  refine C.icmp_ne (off := 48) (tgt := 95) (pf := 50) (by decide +kernel) (by decide) rfl (fun c6 => ?_) (fun c6 => ?_)
  · replace hf := ifn c6 hf
    exact l_X2_readPart_95 C C2 r0 i1 h3 hf
  · replace hf := ifp c6 hf
    refine C.seg (pe := 53) (lv' := [(0, .ref r0), (1, .int i1)]) (st' := [.int 7, .int i1]) [(.iload_n 1, 1, 0), (.bipush 7, 2, 7)] (by decide +kernel) rfl ?_
    refine C.icmp_lt (off := 9) (tgt := 62) (pf := 56) (by decide +kernel) (by decide) rfl (fun c5 => ?_) (fun c5 => ?_)
    · replace hf := ifp c5 hf
      exact l_X2_readPart_62 C C2 r0 i1 h3 hf
    · replace hf := ifn c5 hf
      refine C.seg (pe := 59) (lv' := [(0, .ref r0), (1, .int i1)]) (st' := [.int 13, .int i1]) [(.iload_n 1, 1, 0), (.bipush 13, 2, 13)] (by decide +kernel) rfl ?_
      refine C.icmp_le (off := 36) (tgt := 95) (pf := 62) (by decide +kernel) (by decide) rfl (fun c4 => ?_) (fun c4 => ?_)
      · replace hf := ifp c4 hf
        exact l_X2_readPart_95 C C2 r0 i1 h3 hf
      · replace hf := ifn c4 hf
        exact l_X2_readPart_62 C C2 r0 i1 h3 hf
def f_X2_readPart (a0 : Nat) (h : AH) : Option (Int32 × AH) :=
  if isO 2 h a0 = true then
    (gA 2 h a0 0).bind fun a1 =>
    b2 (f_X7_name a1 h) fun x2 h3 =>
    (gA 2 h3 a0 0).bind fun a4 =>
    b2 (f_X7_kind a4 h3) fun x5 h6 =>
    if x5 = 3 then
      f_X2_readPart_39 a0 x2 h6
    else
      (gA 2 h6 a0 0).bind fun a7 =>
      b2 (f_X7_kind a7 h6) fun x8 h9 =>
      if x8 = 2 then
        f_X2_readPart_39 a0 x2 h9
      else
        (gA 2 h9 a0 0).bind fun a10 =>
        b2 (f_X7_fail a10 1 h9) fun x11 h12 =>
        (ckZ x11).bind fun x13 =>
        some (x13, h12)
  else none
set_option maxRecDepth 100000 in
set_option maxHeartbeats 4000000 in
theorem w_X2_readPart {l : Launch} {G : GX} {a0 : Nat} {h : AH} {rr : Int32} {hr : AH} (hf : f_X2_readPart a0 h = some (rr, hr)) : Ct l G yX2_readPart 1 22 [.ref a0] h (QI rr hr) := by
  unfold f_X2_readPart at hf
  obtain ⟨ho, hf⟩ := ifO hf
  refine Ct_of (own := RX2) (cc := cX2_readPart) (nL := 3) (ret := (some .boolean)) rfl rfl k_1011 (Nat.le_of_ble_eq_true rfl) (fun X C2 C => ?_)
  show V X G h (QI rr hr) 0 [(0, .ref a0)] [] h
  refine C.seg (pe := 1) (lv' := [(0, .ref a0)]) (st' := [.ref a0]) [(.aload_n 0, 1, 0)] (by decide +kernel) rfl ?_
  obtain ⟨a1, ga1, hf⟩ := Option.bind_eq_some_iff.mp hf
  refine C.rdA fr_443 ga1 (by decide +kernel) rfl ?_
  obtain ⟨x2, h3, gx2, hf⟩ := b2_some hf
  refine C.callVr C2 [] [] mv_970 rfl (o_X7_name gx2) (w_X7_name gx2) (by omega) (by omega) (Nat.le_of_ble_eq_true rfl) (by decide +kernel) rfl ?_
  refine C.seg (pe := 9) (lv' := [(1, .int x2), (0, .ref a0)]) (st' := [.ref a0]) [(.istore_n 1, 1, 0), (.aload_n 0, 1, 0)] (by decide +kernel) rfl ?_
  obtain ⟨a4, ga4, hf⟩ := Option.bind_eq_some_iff.mp hf
  refine C.rdA fr_443 ga4 (by decide +kernel) rfl ?_
  obtain ⟨x5, h6, gx5, hf⟩ := b2_some hf
  refine C.callVr C2 [] [] mv_962 rfl (o_X7_kind gx5) (w_X7_kind gx5) (by omega) (by omega) (Nat.le_of_ble_eq_true rfl) (by decide +kernel) rfl ?_
  refine C.seg (pe := 16) (lv' := [(1, .int x2), (0, .ref a0)]) (st' := [.int 3, .int x5]) [(.iconst 3, 1, 3)] (by decide +kernel) rfl ?_
  refine C.icmp_eq (off := 23) (tgt := 39) (pf := 19) (by decide +kernel) (by decide) rfl (fun c15 => ?_) (fun c15 => ?_)
  · replace hf := ifp c15 hf
    refine Vsub [1, 0] rfl ?_
    exact l_X2_readPart_39 C C2 a0 x2 h6 hf
  · replace hf := ifn c15 hf
    refine C.seg (pe := 20) (lv' := [(1, .int x2), (0, .ref a0)]) (st' := [.ref a0]) [(.aload_n 0, 1, 0)] (by decide +kernel) rfl ?_
    obtain ⟨a7, ga7, hf⟩ := Option.bind_eq_some_iff.mp hf
    refine C.rdA fr_443 ga7 (by decide +kernel) rfl ?_
    obtain ⟨x8, h9, gx8, hf⟩ := b2_some hf
    refine C.callVr C2 [] [] mv_962 rfl (o_X7_kind gx8) (w_X7_kind gx8) (by omega) (by omega) (Nat.le_of_ble_eq_true rfl) (by decide +kernel) rfl ?_
    refine C.seg (pe := 27) (lv' := [(1, .int x2), (0, .ref a0)]) (st' := [.int 2, .int x8]) [(.iconst 2, 1, 2)] (by decide +kernel) rfl ?_
    refine C.icmp_eq (off := 12) (tgt := 39) (pf := 30) (by decide +kernel) (by decide) rfl (fun c14 => ?_) (fun c14 => ?_)
    · replace hf := ifp c14 hf
      refine Vsub [1, 0] rfl ?_
      exact l_X2_readPart_39 C C2 a0 x2 h9 hf
    · replace hf := ifn c14 hf
      refine C.seg (pe := 31) (lv' := [(1, .int x2), (0, .ref a0)]) (st' := [.ref a0]) [(.aload_n 0, 1, 0)] (by decide +kernel) rfl ?_
      obtain ⟨a10, ga10, hf⟩ := Option.bind_eq_some_iff.mp hf
      refine C.rdA fr_443 ga10 (by decide +kernel) rfl ?_
      refine C.seg (pe := 35) (lv' := [(1, .int x2), (0, .ref a0)]) (st' := [.int 1, .ref a10]) [(.iconst 1, 1, 1)] (by decide +kernel) rfl ?_
      obtain ⟨x11, h12, gx11, hf⟩ := b2_some hf
      refine C.callVr C2 [.int 1] [] mv_966 rfl (o_X7_fail gx11) (w_X7_fail gx11) (by omega) (by omega) (Nat.le_of_ble_eq_true rfl) (by decide +kernel) rfl ?_
      obtain ⟨x13, gx13, hf⟩ := Option.bind_eq_some_iff.mp hf
      have ex13 := ckZ_eq gx13
      subst ex13
      cases hf
      exact C.retZ rfl gx13 (by decide +kernel) ⟨rfl, rfl⟩
theorem o_X2_readPart {a0 : Nat} {h : AH} {rr : Int32} {hr : AH} (hf : f_X2_readPart a0 h = some (rr, hr)) : isO 2 h a0 = true := by
  unfold f_X2_readPart at hf
  exact (ifO hf).1
/-! WallHouse$DrawingReader.rankOf(I)I -/
def f_X2_rankOf_31 (si0 : Int32) (h : AH) : Option (Int32 × AH) :=
  some (si0, h)
set_option maxRecDepth 100000 in
set_option maxHeartbeats 4000000 in
theorem l_X2_rankOf_31 {X : MX} {l : Launch} {G : GX} {h0 : AH} {rr : Int32} {hr : AH} (C : Cx X G RX2 cX2_rankOf 1 (some .int) 0 0 h0) (C2 : Cy X l "rankOf" []) (si0 : Int32) (h : AH) (hf : f_X2_rankOf_31 si0 h = some (rr, hr)) : V X G h0 (QI rr hr) 31 [] [.int si0] h := by
  unfold f_X2_rankOf_31 at hf
  cases hf
  exact C.retI rfl (by decide +kernel) ⟨rfl, rfl⟩
def f_X2_rankOf_26 (h : AH) : Option (Int32 × AH) :=
  f_X2_rankOf_31 1 h
set_option maxRecDepth 100000 in
set_option maxHeartbeats 4000000 in
theorem l_X2_rankOf_26 {X : MX} {l : Launch} {G : GX} {h0 : AH} {rr : Int32} {hr : AH} (C : Cx X G RX2 cX2_rankOf 1 (some .int) 0 0 h0) (C2 : Cy X l "rankOf" []) (h : AH) (hf : f_X2_rankOf_26 h = some (rr, hr)) : V X G h0 (QI rr hr) 26 [] [] h := by
  unfold f_X2_rankOf_26 at hf
  refine C.seg (pe := 27) (lv' := []) (st' := [.int 1]) [(.iconst 1, 1, 1)] (by decide +kernel) rfl ?_
  refine C.goto (off := 4) (tgt := 31) (by decide +kernel) (by decide) ?_
  exact l_X2_rankOf_31 C C2 1 h hf
def f_X2_rankOf_12 (h : AH) : Option (Int32 × AH) :=
  some (2, h)
set_option maxRecDepth 100000 in
set_option maxHeartbeats 4000000 in
theorem l_X2_rankOf_12 {X : MX} {l : Launch} {G : GX} {h0 : AH} {rr : Int32} {hr : AH} (C : Cx X G RX2 cX2_rankOf 1 (some .int) 0 0 h0) (C2 : Cy X l "rankOf" []) (h : AH) (hf : f_X2_rankOf_12 h = some (rr, hr)) : V X G h0 (QI rr hr) 12 [] [] h := by
  unfold f_X2_rankOf_12 at hf
  refine C.seg (pe := 13) (lv' := []) (st' := [.int 2]) [(.iconst 2, 1, 2)] (by decide +kernel) rfl ?_
  cases hf
  exact C.retI rfl (by decide +kernel) ⟨rfl, rfl⟩
def f_X2_rankOf (p1 : Int32) (h : AH) : Option (Int32 × AH) :=
  if p1 = 42 then
    f_X2_rankOf_12 h
  else
    if p1 = 47 then
      f_X2_rankOf_12 h
    else
      if p1 = 43 then
        f_X2_rankOf_26 h
      else
        if p1 = 45 then
          f_X2_rankOf_26 h
        else
          f_X2_rankOf_31 0 h
set_option maxRecDepth 100000 in
set_option maxHeartbeats 4000000 in
theorem w_X2_rankOf {l : Launch} {G : GX} {p1 : Int32} {h : AH} {rr : Int32} {hr : AH} (hf : f_X2_rankOf p1 h = some (rr, hr)) : Ct l G yX2_rankOf 0 0 [.int p1] h (QI rr hr) := by
  unfold f_X2_rankOf at hf
  refine Ct_of (own := RX2) (cc := cX2_rankOf) (nL := 1) (ret := (some .int)) rfl rfl k_1021 (Nat.le_of_ble_eq_true rfl) (fun X C2 C => ?_)
  show V X G h (QI rr hr) 0 [(0, .int p1)] [] h
  refine C.seg (pe := 3) (lv' := [(0, .int p1)]) (st' := [.int 42, .int p1]) [(.iload_n 0, 1, 0), (.bipush 42, 2, 42)] (by decide +kernel) rfl ?_
  refine C.icmp_eq (off := 9) (tgt := 12) (pf := 6) (by decide +kernel) (by decide) rfl (fun c4 => ?_) (fun c4 => ?_)
  · replace hf := ifp c4 hf
    refine Vsub [] rfl ?_
    exact l_X2_rankOf_12 C C2 h hf
  · replace hf := ifn c4 hf
    refine C.seg (pe := 9) (lv' := [(0, .int p1)]) (st' := [.int 47, .int p1]) [(.iload_n 0, 1, 0), (.bipush 47, 2, 47)] (by decide +kernel) rfl ?_
    refine C.icmp_ne (off := 5) (tgt := 14) (pf := 12) (by decide +kernel) (by decide) rfl (fun c3 => ?_) (fun c3 => ?_)
    · replace hf := ifn c3 hf
      refine C.seg (pe := 17) (lv' := [(0, .int p1)]) (st' := [.int 43, .int p1]) [(.iload_n 0, 1, 0), (.bipush 43, 2, 43)] (by decide +kernel) rfl ?_
      refine C.icmp_eq (off := 9) (tgt := 26) (pf := 20) (by decide +kernel) (by decide) rfl (fun c2 => ?_) (fun c2 => ?_)
      · replace hf := ifp c2 hf
        refine Vsub [] rfl ?_
        exact l_X2_rankOf_26 C C2 h hf
      · replace hf := ifn c2 hf
        refine C.seg (pe := 23) (lv' := [(0, .int p1)]) (st' := [.int 45, .int p1]) [(.iload_n 0, 1, 0), (.bipush 45, 2, 45)] (by decide +kernel) rfl ?_
        refine C.icmp_ne (off := 7) (tgt := 30) (pf := 26) (by decide +kernel) (by decide) rfl (fun c1 => ?_) (fun c1 => ?_)
        · replace hf := ifn c1 hf
          refine C.seg (pe := 31) (lv' := [(0, .int p1)]) (st' := [.int 0]) [(.iconst 0, 1, 0)] (by decide +kernel) rfl ?_
          refine Vsub [] rfl ?_
          exact l_X2_rankOf_31 C C2 0 h hf
        · replace hf := ifp c1 hf
          refine Vsub [] rfl ?_
          exact l_X2_rankOf_26 C C2 h hf
    · replace hf := ifp c3 hf
      refine Vsub [] rfl ?_
      exact l_X2_rankOf_12 C C2 h hf
/-! WallHouse$DrawingReader.settleSigns(I)V -/
def f_X2_settleSigns_55 (h : AH) : Option (AH) :=
  some h
set_option maxRecDepth 100000 in
set_option maxHeartbeats 4000000 in
theorem l_X2_settleSigns_55 {X : MX} {l : Launch} {G : GX} {h0 : AH} {hr : AH} (C : Cx X G RX2 cX2_settleSigns 2 none 1 22 h0) (C2 : Cy X l "settleSigns" []) (h : AH) (hf : f_X2_settleSigns_55 h = some hr) : V X G h0 (QV hr) 55 [] [] h := by
  unfold f_X2_settleSigns_55 at hf
  cases hf
  exact C.retV rfl (by decide +kernel) ⟨rfl, rfl⟩
def f_X2_settleSigns_0 : Nat → Nat → Int32 → AH → Option (AH)
  | 0, _, _, _ => none
  | n + 1, r0, i1, h =>
    (gI 2 h r0 7).bind fun x1 =>
    if x1 ≤ 0 then
      f_X2_settleSigns_55 h
    else
      (gA 2 h r0 6).bind fun a2 =>
      (gI 2 h r0 7).bind fun x3 =>
      (aI 0 h a2 (x3 - 1)).bind fun x4 =>
      b2 (f_X2_rankOf x4 h) fun x5 h6 =>
      if x5 < i1 then
        f_X2_settleSigns_55 h6
      else
        (gI 2 h6 r0 7).bind fun x7 =>
        (pI 2 h6 r0 7 (x7 - 1)).bind fun h8 =>
        (gA 2 h8 r0 1).bind fun a9 =>
        (gA 2 h8 r0 6).bind fun a10 =>
        (gI 2 h8 r0 7).bind fun x11 =>
        (aI 0 h8 a10 x11).bind fun x12 =>
        (f_X1_put a9 5 x12 h8).bind fun h13 =>
        (f_X2_settleSigns_0 n) r0 i1 h13
set_option maxRecDepth 100000 in
set_option maxHeartbeats 4000000 in
theorem l_X2_settleSigns_0 {X : MX} {l : Launch} {G : GX} {h0 : AH} {hr : AH} (C : Cx X G RX2 cX2_settleSigns 2 none 1 22 h0) (C2 : Cy X l "settleSigns" []) : ∀ (n : Nat) (r0 : Nat) (i1 : Int32) (h : AH), f_X2_settleSigns_0 n r0 i1 h = some hr → V X G h0 (QV hr) 0 [(0, .ref r0), (1, .int i1)] [] h := by
  intro n
  induction n with
  | zero => intro r0 i1 h hf; rw [f_X2_settleSigns_0] at hf; cases hf
  | succ n ih =>
    intro r0 i1 h hf
    rw [f_X2_settleSigns_0] at hf
    refine C.seg (pe := 1) (lv' := [(0, .ref r0), (1, .int i1)]) (st' := [.ref r0]) [(.aload_n 0, 1, 0)] (by decide +kernel) rfl ?_
    obtain ⟨x1, gx1, hf⟩ := Option.bind_eq_some_iff.mp hf
    refine C.rdI fr_451 gx1 (by decide +kernel) rfl ?_
    refine C.if_le (off := 51) (tgt := 55) (pf := 7) (by decide +kernel) (by decide) rfl (fun c15 => ?_) (fun c15 => ?_)
    · replace hf := ifp c15 hf
      refine Vsub [] rfl ?_
      exact l_X2_settleSigns_55 C C2 h hf
    · replace hf := ifn c15 hf
      refine C.seg (pe := 8) (lv' := [(0, .ref r0), (1, .int i1)]) (st' := [.ref r0]) [(.aload_n 0, 1, 0)] (by decide +kernel) rfl ?_
      obtain ⟨a2, ga2, hf⟩ := Option.bind_eq_some_iff.mp hf
      refine C.rdA fr_450 ga2 (by decide +kernel) rfl ?_
      refine C.seg (pe := 12) (lv' := [(0, .ref r0), (1, .int i1)]) (st' := [.ref r0, .ref a2]) [(.aload_n 0, 1, 0)] (by decide +kernel) rfl ?_
      obtain ⟨x3, gx3, hf⟩ := Option.bind_eq_some_iff.mp hf
      refine C.rdI fr_451 gx3 (by decide +kernel) rfl ?_
      refine C.seg (pe := 17) (lv' := [(0, .ref r0), (1, .int i1)]) (st' := [.int (x3 - 1), .ref a2]) [(.iconst 1, 1, 1), (.isub, 1, 0)] (by decide +kernel) rfl ?_
      obtain ⟨x4, gx4, hf⟩ := Option.bind_eq_some_iff.mp hf
      refine C.ald 0 rfl gx4 (by decide +kernel) rfl ?_
      obtain ⟨x5, h6, gx5, hf⟩ := b2_some hf
      refine C.callSr C2 [.int x4] [] ms_1019 rfl (w_X2_rankOf gx5) (by omega) (by omega) (Nat.le_of_ble_eq_true rfl) (by decide +kernel) rfl ?_
      refine C.seg (pe := 22) (lv' := [(0, .ref r0), (1, .int i1)]) (st' := [.int i1, .int x5]) [(.iload_n 1, 1, 0)] (by decide +kernel) rfl ?_
      refine C.icmp_lt (off := 33) (tgt := 55) (pf := 25) (by decide +kernel) (by decide) rfl (fun c14 => ?_) (fun c14 => ?_)
      · replace hf := ifp c14 hf
        refine Vsub [] rfl ?_
        exact l_X2_settleSigns_55 C C2 h6 hf
      · replace hf := ifn c14 hf
        refine C.seg (pe := 27) (lv' := [(0, .ref r0), (1, .int i1)]) (st' := [.ref r0, .ref r0]) [(.aload_n 0, 1, 0), (.dup, 1, 0)] (by decide +kernel) rfl ?_
        obtain ⟨x7, gx7, hf⟩ := Option.bind_eq_some_iff.mp hf
        refine C.rdI fr_451 gx7 (by decide +kernel) rfl ?_
        refine C.seg (pe := 32) (lv' := [(0, .ref r0), (1, .int i1)]) (st' := [.int (x7 - 1), .ref r0]) [(.iconst 1, 1, 1), (.isub, 1, 0)] (by decide +kernel) rfl ?_
        obtain ⟨h8, gh8, hf⟩ := Option.bind_eq_some_iff.mp hf
        refine C.putI fl_451 gh8 (by decide +kernel) rfl ?_
        refine C.seg (pe := 36) (lv' := [(0, .ref r0), (1, .int i1)]) (st' := [.ref r0]) [(.aload_n 0, 1, 0)] (by decide +kernel) rfl ?_
        obtain ⟨a9, ga9, hf⟩ := Option.bind_eq_some_iff.mp hf
        refine C.rdA fr_444 ga9 (by decide +kernel) rfl ?_
        refine C.seg (pe := 41) (lv' := [(0, .ref r0), (1, .int i1)]) (st' := [.ref r0, .int 5, .ref a9]) [(.iconst 5, 1, 5), (.aload_n 0, 1, 0)] (by decide +kernel) rfl ?_
        obtain ⟨a10, ga10, hf⟩ := Option.bind_eq_some_iff.mp hf
        refine C.rdA fr_450 ga10 (by decide +kernel) rfl ?_
        refine C.seg (pe := 45) (lv' := [(0, .ref r0), (1, .int i1)]) (st' := [.ref r0, .ref a10, .int 5, .ref a9]) [(.aload_n 0, 1, 0)] (by decide +kernel) rfl ?_
        obtain ⟨x11, gx11, hf⟩ := Option.bind_eq_some_iff.mp hf
        refine C.rdI fr_451 gx11 (by decide +kernel) rfl ?_
        obtain ⟨x12, gx12, hf⟩ := Option.bind_eq_some_iff.mp hf
        refine C.ald 0 rfl gx12 (by decide +kernel) rfl ?_
        obtain ⟨h13, gh13, hf⟩ := Option.bind_eq_some_iff.mp hf
        refine C.callVr C2 [.int 5, .int x12] [] mv_974 rfl (o_X1_put gh13) (w_X1_put gh13) (by omega) (by omega) (Nat.le_of_ble_eq_true rfl) (by decide +kernel) rfl ?_
        refine C.goto (off := (-52)) (tgt := 0) (by decide +kernel) (by decide) ?_
        exact ih r0 i1 h13 hf
def f_X2_settleSigns (a0 : Nat) (p1 : Int32) (h : AH) : Option (AH) :=
  if isO 2 h a0 = true then
    f_X2_settleSigns_0 FU a0 p1 h
  else none
set_option maxRecDepth 100000 in
set_option maxHeartbeats 4000000 in
theorem w_X2_settleSigns {l : Launch} {G : GX} {a0 : Nat} {p1 : Int32} {h : AH} {hr : AH} (hf : f_X2_settleSigns a0 p1 h = some hr) : Ct l G yX2_settleSigns 1 22 [.ref a0, .int p1] h (QV hr) := by
  unfold f_X2_settleSigns at hf
  obtain ⟨ho, hf⟩ := ifO hf
  refine Ct_of (own := RX2) (cc := cX2_settleSigns) (nL := 2) (ret := none) rfl rfl k_1018 (Nat.le_of_ble_eq_true rfl) (fun X C2 C => ?_)
  show V X G h (QV hr) 0 [(0, .ref a0), (1, .int p1)] [] h
  exact l_X2_settleSigns_0 C C2 FU a0 p1 h hf
theorem o_X2_settleSigns {a0 : Nat} {p1 : Int32} {h : AH} {hr : AH} (hf : f_X2_settleSigns a0 p1 h = some hr) : isO 2 h a0 = true := by
  unfold f_X2_settleSigns at hf
  exact (ifO hf).1
/-! WallHouse$DrawingReader.readSum()Z -/
def f_X2_readSum_183 (k9 : Nat → Int32 → Int32 → AH → Option (Int32 × AH)) (r0 : Nat) (i1 : Int32) (i2 : Int32) (h : AH) : Option (Int32 × AH) :=
  k9 r0 i1 (i2 + 1) h
set_option maxRecDepth 100000 in
set_option maxHeartbeats 4000000 in
theorem l_X2_readSum_183 {X : MX} {l : Launch} {G : GX} {h0 : AH} {rr : Int32} {hr : AH} (C : Cx X G RX2 cX2_readSum 4 (some .boolean) 2 44 h0) (C2 : Cy X l "readSum" []) {k9 : Nat → Int32 → Int32 → AH → Option (Int32 × AH)} (hk9 : ∀ (r0 : Nat) (i1 : Int32) (i2 : Int32) (h : AH), k9 r0 i1 i2 h = some (rr, hr) → V X G h0 (QI rr hr) 9 [(0, .ref r0), (1, .int i1), (2, .int i2)] [] h) (r0 : Nat) (i1 : Int32) (i2 : Int32) (h : AH) (hf : f_X2_readSum_183 k9 r0 i1 i2 h = some (rr, hr)) : V X G h0 (QI rr hr) 183 [(0, .ref r0), (1, .int i1), (2, .int i2)] [] h := by
  unfold f_X2_readSum_183 at hf
  refine C.seg (pe := 186) (lv' := [(2, .int (i2 + 1)), (0, .ref r0), (1, .int i1)]) (st' := []) [(.iinc 2 1, 3, 1)] (by decide +kernel) rfl ?_
  refine C.goto (off := (-177)) (tgt := 9) (by decide +kernel) (by decide) ?_
  refine Vsub [1, 2, 0] rfl ?_
  exact hk9 r0 i1 (i2 + 1) h hf
def f_X2_readSum_159 (si0 : Int32) (h : AH) : Option (Int32 × AH) :=
  (ckZ si0).bind fun x1 =>
  some (x1, h)
set_option maxRecDepth 100000 in
set_option maxHeartbeats 4000000 in
theorem l_X2_readSum_159 {X : MX} {l : Launch} {G : GX} {h0 : AH} {rr : Int32} {hr : AH} (C : Cx X G RX2 cX2_readSum 4 (some .boolean) 2 44 h0) (C2 : Cy X l "readSum" []) (si0 : Int32) (h : AH) (hf : f_X2_readSum_159 si0 h = some (rr, hr)) : V X G h0 (QI rr hr) 159 [] [.int si0] h := by
  unfold f_X2_readSum_159 at hf
  obtain ⟨x1, gx1, hf⟩ := Option.bind_eq_some_iff.mp hf
  have ex1 := ckZ_eq gx1
  subst ex1
  cases hf
  exact C.retZ rfl gx1 (by decide +kernel) ⟨rfl, rfl⟩
def f_X2_readSum_154 (h : AH) : Option (Int32 × AH) :=
  f_X2_readSum_159 1 h
set_option maxRecDepth 100000 in
set_option maxHeartbeats 4000000 in
theorem l_X2_readSum_154 {X : MX} {l : Launch} {G : GX} {h0 : AH} {rr : Int32} {hr : AH} (C : Cx X G RX2 cX2_readSum 4 (some .boolean) 2 44 h0) (C2 : Cy X l "readSum" []) (h : AH) (hf : f_X2_readSum_154 h = some (rr, hr)) : V X G h0 (QI rr hr) 154 [] [] h := by
  unfold f_X2_readSum_154 at hf
  refine C.seg (pe := 155) (lv' := []) (st' := [.int 1]) [(.iconst 1, 1, 1)] (by decide +kernel) rfl ?_
  refine C.goto (off := 4) (tgt := 159) (by decide +kernel) (by decide) ?_
  exact l_X2_readSum_159 C C2 1 h hf
def f_X2_readSum_119 (k9 : Nat → Int32 → Int32 → AH → Option (Int32 × AH)) (r0 : Nat) (i1 : Int32) (i2 : Int32) (h : AH) : Option (Int32 × AH) :=
  (gA 2 h r0 0).bind fun a1 =>
  b2 (f_X7_sign a1 h) fun x2 h3 =>
  b2 (f_X2_rankOf x2 h3) fun x4 h5 =>
  if x4 = 0 then
    (f_X2_settleSigns r0 1 h5).bind fun h13 =>
    if i1 = 0 then
      f_X2_readSum_154 h13
    else
      (gA 2 h13 r0 0).bind fun a14 =>
      b2 (f_X7_fail a14 1 h13) fun x15 h16 =>
      if x15 = 0 then
        f_X2_readSum_159 0 h16
      else
        f_X2_readSum_154 h16
  else
    (f_X2_settleSigns r0 x4 h5).bind fun h6 =>
    (gA 2 h6 r0 0).bind fun a7 =>
    b2 (f_X7_sign a7 h6) fun x8 h9 =>
    (f_X2_holdSign r0 x8 h9).bind fun h10 =>
    (gA 2 h10 r0 0).bind fun a11 =>
    (f_X7_advance a11 h10).bind fun h12 =>
    f_X2_readSum_183 k9 r0 i1 i2 h12
set_option maxRecDepth 100000 in
set_option maxHeartbeats 4000000 in
theorem l_X2_readSum_119 {X : MX} {l : Launch} {G : GX} {h0 : AH} {rr : Int32} {hr : AH} (C : Cx X G RX2 cX2_readSum 4 (some .boolean) 2 44 h0) (C2 : Cy X l "readSum" []) {k9 : Nat → Int32 → Int32 → AH → Option (Int32 × AH)} (hk9 : ∀ (r0 : Nat) (i1 : Int32) (i2 : Int32) (h : AH), k9 r0 i1 i2 h = some (rr, hr) → V X G h0 (QI rr hr) 9 [(0, .ref r0), (1, .int i1), (2, .int i2)] [] h) (r0 : Nat) (i1 : Int32) (i2 : Int32) (h : AH) (hf : f_X2_readSum_119 k9 r0 i1 i2 h = some (rr, hr)) : V X G h0 (QI rr hr) 119 [(0, .ref r0), (1, .int i1), (2, .int i2)] [] h := by
  unfold f_X2_readSum_119 at hf
  refine C.seg (pe := 120) (lv' := [(0, .ref r0), (1, .int i1), (2, .int i2)]) (st' := [.ref r0]) [(.aload_n 0, 1, 0)] (by decide +kernel) rfl ?_
  obtain ⟨a1, ga1, hf⟩ := Option.bind_eq_some_iff.mp hf
  refine C.rdA fr_443 ga1 (by decide +kernel) rfl ?_
  obtain ⟨x2, h3, gx2, hf⟩ := b2_some hf
  refine C.callVr C2 [] [] mv_998 rfl (o_X7_sign gx2) (w_X7_sign gx2) (by omega) (by omega) (Nat.le_of_ble_eq_true rfl) (by decide +kernel) rfl ?_
  obtain ⟨x4, h5, gx4, hf⟩ := b2_some hf
  refine C.callSr C2 [.int x2] [] ms_1019 rfl (w_X2_rankOf gx4) (by omega) (by omega) (Nat.le_of_ble_eq_true rfl) (by decide +kernel) rfl ?_
  refine C.seg (pe := 131) (lv' := [(3, .int x4), (0, .ref r0), (1, .int i1), (2, .int i2)]) (st' := [.int x4]) [(.istore_n 3, 1, 0), (.iload_n 3, 1, 0)] (by decide +kernel) rfl ?_
  refine C.if_ne (off := 29) (tgt := 160) (pf := 134) (by decide +kernel) (by decide) rfl (fun c19 => ?_) (fun c19 => ?_)
  · replace hf := ifn c19 hf
    refine C.seg (pe := 162) (lv' := [(3, .int x4), (0, .ref r0), (1, .int i1), (2, .int i2)]) (st' := [.int x4, .ref r0]) [(.aload_n 0, 1, 0), (.iload_n 3, 1, 0)] (by decide +kernel) rfl ?_
    obtain ⟨h6, gh6, hf⟩ := Option.bind_eq_some_iff.mp hf
    refine C.callVr C2 [.int x4] [] mv_1015 rfl (o_X2_settleSigns gh6) (w_X2_settleSigns gh6) (by omega) (by omega) (Nat.le_of_ble_eq_true rfl) (by decide +kernel) rfl ?_
    refine C.seg (pe := 167) (lv' := [(3, .int x4), (0, .ref r0), (1, .int i1), (2, .int i2)]) (st' := [.ref r0, .ref r0]) [(.aload_n 0, 1, 0), (.aload_n 0, 1, 0)] (by decide +kernel) rfl ?_
    obtain ⟨a7, ga7, hf⟩ := Option.bind_eq_some_iff.mp hf
    refine C.rdA fr_443 ga7 (by decide +kernel) rfl ?_
    obtain ⟨x8, h9, gx8, hf⟩ := b2_some hf
    refine C.callVr C2 [] [.ref r0] mv_998 rfl (o_X7_sign gx8) (w_X7_sign gx8) (by omega) (by omega) (Nat.le_of_ble_eq_true rfl) (by decide +kernel) rfl ?_
    obtain ⟨h10, gh10, hf⟩ := Option.bind_eq_some_iff.mp hf
    refine C.callVr C2 [.int x8] [] mv_1004 rfl (o_X2_holdSign gh10) (w_X2_holdSign gh10) (by omega) (by omega) (Nat.le_of_ble_eq_true rfl) (by decide +kernel) rfl ?_
    refine C.seg (pe := 177) (lv' := [(3, .int x4), (0, .ref r0), (1, .int i1), (2, .int i2)]) (st' := [.ref r0]) [(.aload_n 0, 1, 0)] (by decide +kernel) rfl ?_
    obtain ⟨a11, ga11, hf⟩ := Option.bind_eq_some_iff.mp hf
    refine C.rdA fr_443 ga11 (by decide +kernel) rfl ?_
    obtain ⟨h12, gh12, hf⟩ := Option.bind_eq_some_iff.mp hf
    refine C.callVr C2 [] [] mv_978 rfl (o_X7_advance gh12) (w_X7_advance gh12) (by omega) (by omega) (Nat.le_of_ble_eq_true rfl) (by decide +kernel) rfl ?_
    refine Vsub [1, 2, 3] rfl ?_
    exact l_X2_readSum_183 C C2 hk9 r0 i1 i2 h12 hf
  · replace hf := ifp c19 hf
    refine C.seg (pe := 136) (lv' := [(3, .int x4), (0, .ref r0), (1, .int i1), (2, .int i2)]) (st' := [.int 1, .ref r0]) [(.aload_n 0, 1, 0), (.iconst 1, 1, 1)] (by decide +kernel) rfl ?_
    obtain ⟨h13, gh13, hf⟩ := Option.bind_eq_some_iff.mp hf
    refine C.callVr C2 [.int 1] [] mv_1015 rfl (o_X2_settleSigns gh13) (w_X2_settleSigns gh13) (by omega) (by omega) (Nat.le_of_ble_eq_true rfl) (by decide +kernel) rfl ?_
    refine C.seg (pe := 140) (lv' := [(3, .int x4), (0, .ref r0), (1, .int i1), (2, .int i2)]) (st' := [.int i1]) [(.iload_n 1, 1, 0)] (by decide +kernel) rfl ?_
    refine C.if_eq (off := 14) (tgt := 154) (pf := 143) (by decide +kernel) (by decide) rfl (fun c18 => ?_) (fun c18 => ?_)
    · replace hf := ifp c18 hf
      refine Vsub [] rfl ?_
      exact l_X2_readSum_154 C C2 h13 hf
    · replace hf := ifn c18 hf
      refine C.seg (pe := 144) (lv' := [(3, .int x4), (0, .ref r0), (1, .int i1), (2, .int i2)]) (st' := [.ref r0]) [(.aload_n 0, 1, 0)] (by decide +kernel) rfl ?_
      obtain ⟨a14, ga14, hf⟩ := Option.bind_eq_some_iff.mp hf
      refine C.rdA fr_443 ga14 (by decide +kernel) rfl ?_
      refine C.seg (pe := 148) (lv' := [(3, .int x4), (0, .ref r0), (1, .int i1), (2, .int i2)]) (st' := [.int 1, .ref a14]) [(.iconst 1, 1, 1)] (by decide +kernel) rfl ?_
      obtain ⟨x15, h16, gx15, hf⟩ := b2_some hf
      refine C.callVr C2 [.int 1] [] mv_966 rfl (o_X7_fail gx15) (w_X7_fail gx15) (by omega) (by omega) (Nat.le_of_ble_eq_true rfl) (by decide +kernel) rfl ?_
      refine C.if_eq (off := 7) (tgt := 158) (pf := 154) (by decide +kernel) (by decide) rfl (fun c17 => ?_) (fun c17 => ?_)
      · replace hf := ifp c17 hf
        refine C.seg (pe := 159) (lv' := [(3, .int x4), (0, .ref r0), (1, .int i1), (2, .int i2)]) (st' := [.int 0]) [(.iconst 0, 1, 0)] (by decide +kernel) rfl ?_
        refine Vsub [] rfl ?_
        exact l_X2_readSum_159 C C2 0 h16 hf
      · replace hf := ifn c17 hf
        refine Vsub [] rfl ?_
        exact l_X2_readSum_154 C C2 h16 hf
def f_X2_readSum_71 (k9 : Nat → Int32 → Int32 → AH → Option (Int32 × AH)) : Nat → Nat → Int32 → Int32 → AH → Option (Int32 × AH)
  | 0, _, _, _, _ => none
  | n + 1, r0, i1, i2, h =>
    if i1 ≤ 0 then
      f_X2_readSum_119 k9 r0 i1 i2 h
    else
      (gA 2 h r0 0).bind fun a1 =>
      b2 (f_X7_sign a1 h) fun x2 h3 =>
      if x2 = 41 then
        (f_X2_settleSigns r0 1 h3).bind fun h4 =>
        (gI 2 h4 r0 7).bind fun x5 =>
        (pI 2 h4 r0 7 (mxI 0 (x5 - 1))).bind fun h6 =>
        (gA 2 h6 r0 0).bind fun a7 =>
        (f_X7_advance a7 h6).bind fun h8 =>
        (f_X2_readSum_71 k9 n) r0 (i1 + (-1)) i2 h8
      else
        f_X2_readSum_119 k9 r0 i1 i2 h3
set_option maxRecDepth 100000 in
set_option maxHeartbeats 4000000 in
theorem l_X2_readSum_71 {X : MX} {l : Launch} {G : GX} {h0 : AH} {rr : Int32} {hr : AH} (C : Cx X G RX2 cX2_readSum 4 (some .boolean) 2 44 h0) (C2 : Cy X l "readSum" []) {k9 : Nat → Int32 → Int32 → AH → Option (Int32 × AH)} (hk9 : ∀ (r0 : Nat) (i1 : Int32) (i2 : Int32) (h : AH), k9 r0 i1 i2 h = some (rr, hr) → V X G h0 (QI rr hr) 9 [(0, .ref r0), (1, .int i1), (2, .int i2)] [] h) : ∀ (n : Nat) (r0 : Nat) (i1 : Int32) (i2 : Int32) (h : AH), f_X2_readSum_71 k9 n r0 i1 i2 h = some (rr, hr) → V X G h0 (QI rr hr) 71 [(0, .ref r0), (1, .int i1), (2, .int i2)] [] h := by
  intro n
  induction n with
  | zero => intro r0 i1 i2 h hf; rw [f_X2_readSum_71] at hf; cases hf
  | succ n ih =>
    intro r0 i1 i2 h hf
    rw [f_X2_readSum_71] at hf
    refine C.seg (pe := 72) (lv' := [(0, .ref r0), (1, .int i1), (2, .int i2)]) (st' := [.int i1]) [(.iload_n 1, 1, 0)] (by decide +kernel) rfl ?_
    refine C.if_le (off := 47) (tgt := 119) (pf := 75) (by decide +kernel) (by decide) rfl (fun c10 => ?_) (fun c10 => ?_)
    · replace hf := ifp c10 hf
      exact l_X2_readSum_119 C C2 hk9 r0 i1 i2 h hf
    · replace hf := ifn c10 hf
      refine C.seg (pe := 76) (lv' := [(0, .ref r0), (1, .int i1), (2, .int i2)]) (st' := [.ref r0]) [(.aload_n 0, 1, 0)] (by decide +kernel) rfl ?_
      obtain ⟨a1, ga1, hf⟩ := Option.bind_eq_some_iff.mp hf
      refine C.rdA fr_443 ga1 (by decide +kernel) rfl ?_
      obtain ⟨x2, h3, gx2, hf⟩ := b2_some hf
      refine C.callVr C2 [] [] mv_998 rfl (o_X7_sign gx2) (w_X7_sign gx2) (by omega) (by omega) (Nat.le_of_ble_eq_true rfl) (by decide +kernel) rfl ?_
      refine C.seg (pe := 84) (lv' := [(0, .ref r0), (1, .int i1), (2, .int i2)]) (st' := [.int 41, .int x2]) [(.bipush 41, 2, 41)] (by decide +kernel) rfl ?_
      refine C.icmp_ne (off := 35) (tgt := 119) (pf := 87) (by decide +kernel) (by decide) rfl (fun c9 => ?_) (fun c9 => ?_)
      · replace hf := ifn c9 hf
        exact l_X2_readSum_119 C C2 hk9 r0 i1 i2 h3 hf
      · replace hf := ifp c9 hf
        refine C.seg (pe := 89) (lv' := [(0, .ref r0), (1, .int i1), (2, .int i2)]) (st' := [.int 1, .ref r0]) [(.aload_n 0, 1, 0), (.iconst 1, 1, 1)] (by decide +kernel) rfl ?_
        obtain ⟨h4, gh4, hf⟩ := Option.bind_eq_some_iff.mp hf
        refine C.callVr C2 [.int 1] [] mv_1015 rfl (o_X2_settleSigns gh4) (w_X2_settleSigns gh4) (by omega) (by omega) (Nat.le_of_ble_eq_true rfl) (by decide +kernel) rfl ?_
        refine C.seg (pe := 95) (lv' := [(0, .ref r0), (1, .int i1), (2, .int i2)]) (st' := [.ref r0, .int 0, .ref r0]) [(.aload_n 0, 1, 0), (.iconst 0, 1, 0), (.aload_n 0, 1, 0)] (by decide +kernel) rfl ?_
        obtain ⟨x5, gx5, hf⟩ := Option.bind_eq_some_iff.mp hf
        refine C.rdI fr_451 gx5 (by decide +kernel) rfl ?_
        refine C.seg (pe := 100) (lv' := [(0, .ref r0), (1, .int i1), (2, .int i2)]) (st' := [.int (x5 - 1), .int 0, .ref r0]) [(.iconst 1, 1, 1), (.isub, 1, 0)] (by decide +kernel) rfl ?_
        refine C.mmax k_1022 k_636 k_137 k_637 (by omega) (by omega) (Nat.le_of_ble_eq_true rfl) (by decide +kernel) rfl ?_
        obtain ⟨h6, gh6, hf⟩ := Option.bind_eq_some_iff.mp hf
        refine C.putI fl_451 gh6 (by decide +kernel) rfl ?_
        refine C.seg (pe := 110) (lv' := [(1, .int (i1 + (-1))), (0, .ref r0), (2, .int i2)]) (st' := [.ref r0]) [(.iinc 1 (-1), 3, (-1)), (.aload_n 0, 1, 0)] (by decide +kernel) rfl ?_
        obtain ⟨a7, ga7, hf⟩ := Option.bind_eq_some_iff.mp hf
        refine C.rdA fr_443 ga7 (by decide +kernel) rfl ?_
        obtain ⟨h8, gh8, hf⟩ := Option.bind_eq_some_iff.mp hf
        refine C.callVr C2 [] [] mv_978 rfl (o_X7_advance gh8) (w_X7_advance gh8) (by omega) (by omega) (Nat.le_of_ble_eq_true rfl) (by decide +kernel) rfl ?_
        refine C.goto (off := (-45)) (tgt := 71) (by decide +kernel) (by decide) ?_
        refine Vsub [1, 0, 2] rfl ?_
        exact ih r0 (i1 + (-1)) i2 h8 hf
def f_X2_readSum_9 : Nat → Nat → Int32 → Int32 → AH → Option (Int32 × AH)
  | 0, _, _, _, _ => none
  | n + 1, r0, i1, i2, h =>
    if 400 ≤ i2 then
      (gA 2 h r0 0).bind fun a1 =>
      b2 (f_X7_fail a1 1 h) fun x2 h3 =>
      (ckZ x2).bind fun x4 =>
      some (x4, h3)
    else
      (gA 2 h r0 0).bind fun a5 =>
      b2 (f_X7_sign a5 h) fun x6 h7 =>
      if x6 = 40 then
        if i1 < 6 then
          (f_X2_holdSign r0 40 h7).bind fun h11 =>
          (gA 2 h11 r0 0).bind fun a12 =>
          (f_X7_advance a12 h11).bind fun h13 =>
          f_X2_readSum_183 (f_X2_readSum_9 n) r0 (i1 + 1) i2 h13
        else
          (gA 2 h7 r0 0).bind fun a14 =>
          b2 (f_X7_fail a14 4 h7) fun x15 h16 =>
          (ckZ x15).bind fun x17 =>
          some (x17, h16)
      else
        b2 (f_X2_readPart r0 h7) fun x8 h9 =>
        if x8 = 0 then
          some (0, h9)
        else
          f_X2_readSum_71 (f_X2_readSum_9 n) FU r0 i1 i2 h9
set_option maxRecDepth 100000 in
set_option maxHeartbeats 4000000 in
theorem l_X2_readSum_9 {X : MX} {l : Launch} {G : GX} {h0 : AH} {rr : Int32} {hr : AH} (C : Cx X G RX2 cX2_readSum 4 (some .boolean) 2 44 h0) (C2 : Cy X l "readSum" []) : ∀ (n : Nat) (r0 : Nat) (i1 : Int32) (i2 : Int32) (h : AH), f_X2_readSum_9 n r0 i1 i2 h = some (rr, hr) → V X G h0 (QI rr hr) 9 [(0, .ref r0), (1, .int i1), (2, .int i2)] [] h := by
  intro n
  induction n with
  | zero => intro r0 i1 i2 h hf; rw [f_X2_readSum_9] at hf; cases hf
  | succ n ih =>
    intro r0 i1 i2 h hf
    rw [f_X2_readSum_9] at hf
    refine C.seg (pe := 13) (lv' := [(0, .ref r0), (1, .int i1), (2, .int i2)]) (st' := [.int 400, .int i2]) [(.iload_n 2, 1, 0), (.sipush 400, 3, 400)] (by decide +kernel) rfl ?_
    refine C.icmp_ge (off := 176) (tgt := 189) (pf := 16) (by decide +kernel) (by decide) rfl (fun c20 => ?_) (fun c20 => ?_)
    · replace hf := ifp c20 hf
      refine C.seg (pe := 190) (lv' := [(0, .ref r0), (1, .int i1), (2, .int i2)]) (st' := [.ref r0]) [(.aload_n 0, 1, 0)] (by decide +kernel) rfl ?_
      obtain ⟨a1, ga1, hf⟩ := Option.bind_eq_some_iff.mp hf
      refine C.rdA fr_443 ga1 (by decide +kernel) rfl ?_
      refine C.seg (pe := 194) (lv' := [(0, .ref r0), (1, .int i1), (2, .int i2)]) (st' := [.int 1, .ref a1]) [(.iconst 1, 1, 1)] (by decide +kernel) rfl ?_
      obtain ⟨x2, h3, gx2, hf⟩ := b2_some hf
      refine C.callVr C2 [.int 1] [] mv_966 rfl (o_X7_fail gx2) (w_X7_fail gx2) (by omega) (by omega) (Nat.le_of_ble_eq_true rfl) (by decide +kernel) rfl ?_
      obtain ⟨x4, gx4, hf⟩ := Option.bind_eq_some_iff.mp hf
      have ex4 := ckZ_eq gx4
      subst ex4
      cases hf
      exact C.retZ rfl gx4 (by decide +kernel) ⟨rfl, rfl⟩
    · replace hf := ifn c20 hf
      refine C.seg (pe := 17) (lv' := [(0, .ref r0), (1, .int i1), (2, .int i2)]) (st' := [.ref r0]) [(.aload_n 0, 1, 0)] (by decide +kernel) rfl ?_
      obtain ⟨a5, ga5, hf⟩ := Option.bind_eq_some_iff.mp hf
      refine C.rdA fr_443 ga5 (by decide +kernel) rfl ?_
      obtain ⟨x6, h7, gx6, hf⟩ := b2_some hf
      refine C.callVr C2 [] [] mv_998 rfl (o_X7_sign gx6) (w_X7_sign gx6) (by omega) (by omega) (Nat.le_of_ble_eq_true rfl) (by decide +kernel) rfl ?_
      refine C.seg (pe := 25) (lv' := [(0, .ref r0), (1, .int i1), (2, .int i2)]) (st' := [.int 40, .int x6]) [(.bipush 40, 2, 40)] (by decide +kernel) rfl ?_
      refine C.icmp_ne (off := 37) (tgt := 62) (pf := 28) (by decide +kernel) (by decide) rfl (fun c19 => ?_) (fun c19 => ?_)
      · replace hf := ifn c19 hf
        refine C.seg (pe := 63) (lv' := [(0, .ref r0), (1, .int i1), (2, .int i2)]) (st' := [.ref r0]) [(.aload_n 0, 1, 0)] (by decide +kernel) rfl ?_
        obtain ⟨x8, h9, gx8, hf⟩ := b2_some hf
        refine C.callVr C2 [] [] mv_1008 rfl (o_X2_readPart gx8) (w_X2_readPart gx8) (by omega) (by omega) (Nat.le_of_ble_eq_true rfl) (by decide +kernel) rfl ?_
        refine C.if_ne (off := 5) (tgt := 71) (pf := 69) (by decide +kernel) (by decide) rfl (fun c10 => ?_) (fun c10 => ?_)
        · replace hf := ifn c10 hf
          exact l_X2_readSum_71 C C2 ih FU r0 i1 i2 h9 hf
        · replace hf := ifp c10 hf
          refine C.seg (pe := 70) (lv' := [(0, .ref r0), (1, .int i1), (2, .int i2)]) (st' := [.int 0]) [(.iconst 0, 1, 0)] (by decide +kernel) rfl ?_
          cases hf
          exact C.retZ rfl (by decide) (by decide +kernel) ⟨rfl, rfl⟩
      · replace hf := ifp c19 hf
        refine C.seg (pe := 31) (lv' := [(0, .ref r0), (1, .int i1), (2, .int i2)]) (st' := [.int 6, .int i1]) [(.iload_n 1, 1, 0), (.bipush 6, 2, 6)] (by decide +kernel) rfl ?_
        refine C.icmp_lt (off := 12) (tgt := 43) (pf := 34) (by decide +kernel) (by decide) rfl (fun c18 => ?_) (fun c18 => ?_)
        · replace hf := ifp c18 hf
          refine C.seg (pe := 49) (lv' := [(1, .int (i1 + 1)), (0, .ref r0), (2, .int i2)]) (st' := [.int 40, .ref r0]) [(.iinc 1 1, 3, 1), (.aload_n 0, 1, 0), (.bipush 40, 2, 40)] (by decide +kernel) rfl ?_
          obtain ⟨h11, gh11, hf⟩ := Option.bind_eq_some_iff.mp hf
          refine C.callVr C2 [.int 40] [] mv_1004 rfl (o_X2_holdSign gh11) (w_X2_holdSign gh11) (by omega) (by omega) (Nat.le_of_ble_eq_true rfl) (by decide +kernel) rfl ?_
          refine C.seg (pe := 53) (lv' := [(1, .int (i1 + 1)), (0, .ref r0), (2, .int i2)]) (st' := [.ref r0]) [(.aload_n 0, 1, 0)] (by decide +kernel) rfl ?_
          obtain ⟨a12, ga12, hf⟩ := Option.bind_eq_some_iff.mp hf
          refine C.rdA fr_443 ga12 (by decide +kernel) rfl ?_
          obtain ⟨h13, gh13, hf⟩ := Option.bind_eq_some_iff.mp hf
          refine C.callVr C2 [] [] mv_978 rfl (o_X7_advance gh13) (w_X7_advance gh13) (by omega) (by omega) (Nat.le_of_ble_eq_true rfl) (by decide +kernel) rfl ?_
          refine C.goto (off := 124) (tgt := 183) (by decide +kernel) (by decide) ?_
          refine Vsub [1, 0, 2] rfl ?_
          exact l_X2_readSum_183 C C2 ih r0 (i1 + 1) i2 h13 hf
        · replace hf := ifn c18 hf
          refine C.seg (pe := 35) (lv' := [(0, .ref r0), (1, .int i1), (2, .int i2)]) (st' := [.ref r0]) [(.aload_n 0, 1, 0)] (by decide +kernel) rfl ?_
          obtain ⟨a14, ga14, hf⟩ := Option.bind_eq_some_iff.mp hf
          refine C.rdA fr_443 ga14 (by decide +kernel) rfl ?_
          refine C.seg (pe := 39) (lv' := [(0, .ref r0), (1, .int i1), (2, .int i2)]) (st' := [.int 4, .ref a14]) [(.iconst 4, 1, 4)] (by decide +kernel) rfl ?_
          obtain ⟨x15, h16, gx15, hf⟩ := b2_some hf
          refine C.callVr C2 [.int 4] [] mv_966 rfl (o_X7_fail gx15) (w_X7_fail gx15) (by omega) (by omega) (Nat.le_of_ble_eq_true rfl) (by decide +kernel) rfl ?_
          obtain ⟨x17, gx17, hf⟩ := Option.bind_eq_some_iff.mp hf
          have ex17 := ckZ_eq gx17
          subst ex17
          cases hf
          exact C.retZ rfl gx17 (by decide +kernel) ⟨rfl, rfl⟩
def f_X2_readSum (a0 : Nat) (h : AH) : Option (Int32 × AH) :=
  if isO 2 h a0 = true then
    (pI 2 h a0 7 0).bind fun h1 =>
    f_X2_readSum_9 FU a0 0 0 h1
  else none
set_option maxRecDepth 100000 in
set_option maxHeartbeats 4000000 in
theorem w_X2_readSum {l : Launch} {G : GX} {a0 : Nat} {h : AH} {rr : Int32} {hr : AH} (hf : f_X2_readSum a0 h = some (rr, hr)) : Ct l G yX2_readSum 2 44 [.ref a0] h (QI rr hr) := by
  unfold f_X2_readSum at hf
  obtain ⟨ho, hf⟩ := ifO hf
  refine Ct_of (own := RX2) (cc := cX2_readSum) (nL := 4) (ret := (some .boolean)) rfl rfl k_997 (Nat.le_of_ble_eq_true rfl) (fun X C2 C => ?_)
  show V X G h (QI rr hr) 0 [(0, .ref a0)] [] h
  refine C.seg (pe := 2) (lv' := [(0, .ref a0)]) (st' := [.int 0, .ref a0]) [(.aload_n 0, 1, 0), (.iconst 0, 1, 0)] (by decide +kernel) rfl ?_
  obtain ⟨h1, gh1, hf⟩ := Option.bind_eq_some_iff.mp hf
  refine C.putI fl_451 gh1 (by decide +kernel) rfl ?_
  refine C.seg (pe := 9) (lv' := [(2, .int 0), (1, .int 0), (0, .ref a0)]) (st' := []) [(.iconst 0, 1, 0), (.istore_n 1, 1, 0), (.iconst 0, 1, 0), (.istore_n 2, 1, 0)] (by decide +kernel) rfl ?_
  refine Vsub [2, 1, 0] rfl ?_
  exact l_X2_readSum_9 C C2 FU a0 0 0 h1 hf
theorem o_X2_readSum {a0 : Nat} {h : AH} {rr : Int32} {hr : AH} (hf : f_X2_readSum a0 h = some (rr, hr)) : isO 2 h a0 = true := by
  unfold f_X2_readSum at hf
  exact (ifO hf).1
/-! WallHouse$DrawingReader.readShape(II)Z -/
def f_X2_readShape_15 : Nat → Nat → Int32 → Int32 → Int32 → Int32 → AH → Option (Int32 × AH)
  | 0, _, _, _, _, _, _ => none
  | n + 1, r0, i1, i2, i3, i4, h =>
    if i2 ≤ i4 then
      (gA 2 h r0 1).bind fun a1 =>
      (f_X1_put a1 i1 i3 h).bind fun h2 =>
      some (1, h2)
    else
      b2 (f_X2_readSum r0 h) fun x3 h4 =>
      if x3 = 0 then
        some (0, h4)
      else
        (f_X2_readShape_15 n) r0 i1 i2 i3 (i4 + 1) h4
set_option maxRecDepth 100000 in
set_option maxHeartbeats 4000000 in
theorem l_X2_readShape_15 {X : MX} {l : Launch} {G : GX} {h0 : AH} {rr : Int32} {hr : AH} (C : Cx X G RX2 cX2_readShape 5 (some .boolean) 3 67 h0) (C2 : Cy X l "readShape" []) : ∀ (n : Nat) (r0 : Nat) (i1 : Int32) (i2 : Int32) (i3 : Int32) (i4 : Int32) (h : AH), f_X2_readShape_15 n r0 i1 i2 i3 i4 h = some (rr, hr) → V X G h0 (QI rr hr) 15 [(0, .ref r0), (1, .int i1), (2, .int i2), (3, .int i3), (4, .int i4)] [] h := by
  intro n
  induction n with
  | zero => intro r0 i1 i2 i3 i4 h hf; rw [f_X2_readShape_15] at hf; cases hf
  | succ n ih =>
    intro r0 i1 i2 i3 i4 h hf
    rw [f_X2_readShape_15] at hf
    refine C.seg (pe := 18) (lv' := [(0, .ref r0), (1, .int i1), (2, .int i2), (3, .int i3), (4, .int i4)]) (st' := [.int i2, .int i4]) [(.iload 4, 2, 0), (.iload_n 2, 1, 0)] (by decide +kernel) rfl ?_
    refine C.icmp_ge (off := 18) (tgt := 36) (pf := 21) (by decide +kernel) (by decide) rfl (fun c6 => ?_) (fun c6 => ?_)
    · replace hf := ifp c6 hf
      refine C.seg (pe := 37) (lv' := [(0, .ref r0), (1, .int i1), (2, .int i2), (3, .int i3), (4, .int i4)]) (st' := [.ref r0]) [(.aload_n 0, 1, 0)] (by decide +kernel) rfl ?_
      obtain ⟨a1, ga1, hf⟩ := Option.bind_eq_some_iff.mp hf
      refine C.rdA fr_444 ga1 (by decide +kernel) rfl ?_
      refine C.seg (pe := 42) (lv' := [(0, .ref r0), (1, .int i1), (2, .int i2), (3, .int i3), (4, .int i4)]) (st' := [.int i3, .int i1, .ref a1]) [(.iload_n 1, 1, 0), (.iload_n 3, 1, 0)] (by decide +kernel) rfl ?_
      obtain ⟨h2, gh2, hf⟩ := Option.bind_eq_some_iff.mp hf
      refine C.callVr C2 [.int i1, .int i3] [] mv_974 rfl (o_X1_put gh2) (w_X1_put gh2) (by omega) (by omega) (Nat.le_of_ble_eq_true rfl) (by decide +kernel) rfl ?_
      refine C.seg (pe := 46) (lv' := [(0, .ref r0), (1, .int i1), (2, .int i2), (3, .int i3), (4, .int i4)]) (st' := [.int 1]) [(.iconst 1, 1, 1)] (by decide +kernel) rfl ?_
      cases hf
      exact C.retZ rfl (by decide) (by decide +kernel) ⟨rfl, rfl⟩
    · replace hf := ifn c6 hf
      refine C.seg (pe := 22) (lv' := [(0, .ref r0), (1, .int i1), (2, .int i2), (3, .int i3), (4, .int i4)]) (st' := [.ref r0]) [(.aload_n 0, 1, 0)] (by decide +kernel) rfl ?_
      obtain ⟨x3, h4, gx3, hf⟩ := b2_some hf
      refine C.callVr C2 [] [] mv_994 rfl (o_X2_readSum gx3) (w_X2_readSum gx3) (by omega) (by omega) (Nat.le_of_ble_eq_true rfl) (by decide +kernel) rfl ?_
      refine C.if_ne (off := 5) (tgt := 30) (pf := 28) (by decide +kernel) (by decide) rfl (fun c5 => ?_) (fun c5 => ?_)
      · replace hf := ifn c5 hf
        refine C.seg (pe := 33) (lv' := [(4, .int (i4 + 1)), (0, .ref r0), (1, .int i1), (2, .int i2), (3, .int i3)]) (st' := []) [(.iinc 4 1, 3, 1)] (by decide +kernel) rfl ?_
        refine C.goto (off := (-18)) (tgt := 15) (by decide +kernel) (by decide) ?_
        refine Vsub [1, 2, 3, 4, 0] rfl ?_
        exact ih r0 i1 i2 i3 (i4 + 1) h4 hf
      · replace hf := ifp c5 hf
        refine C.seg (pe := 29) (lv' := [(0, .ref r0), (1, .int i1), (2, .int i2), (3, .int i3), (4, .int i4)]) (st' := [.int 0]) [(.iconst 0, 1, 0)] (by decide +kernel) rfl ?_
        cases hf
        exact C.retZ rfl (by decide) (by decide +kernel) ⟨rfl, rfl⟩
def f_X2_readShape (a0 : Nat) (p1 : Int32) (p2 : Int32) (h : AH) : Option (Int32 × AH) :=
  if isO 2 h a0 = true then
    b2 (f_X2_readColour a0 h) fun x1 h2 =>
    if x1 = (-1) then
      some (0, h2)
    else
      f_X2_readShape_15 FU a0 p1 p2 x1 0 h2
  else none
set_option maxRecDepth 100000 in
set_option maxHeartbeats 4000000 in
theorem w_X2_readShape {l : Launch} {G : GX} {a0 : Nat} {p1 : Int32} {p2 : Int32} {h : AH} {rr : Int32} {hr : AH} (hf : f_X2_readShape a0 p1 p2 h = some (rr, hr)) : Ct l G yX2_readShape 3 67 [.ref a0, .int p1, .int p2] h (QI rr hr) := by
  unfold f_X2_readShape at hf
  obtain ⟨ho, hf⟩ := ifO hf
  refine Ct_of (own := RX2) (cc := cX2_readShape) (nL := 5) (ret := (some .boolean)) rfl rfl k_985 (Nat.le_of_ble_eq_true rfl) (fun X C2 C => ?_)
  show V X G h (QI rr hr) 0 [(0, .ref a0), (1, .int p1), (2, .int p2)] [] h
  refine C.seg (pe := 1) (lv' := [(0, .ref a0), (1, .int p1), (2, .int p2)]) (st' := [.ref a0]) [(.aload_n 0, 1, 0)] (by decide +kernel) rfl ?_
  obtain ⟨x1, h2, gx1, hf⟩ := b2_some hf
  refine C.callVr C2 [] [] mv_986 rfl (o_X2_readColour gx1) (w_X2_readColour gx1) (by omega) (by omega) (Nat.le_of_ble_eq_true rfl) (by decide +kernel) rfl ?_
  refine C.seg (pe := 7) (lv' := [(3, .int x1), (0, .ref a0), (1, .int p1), (2, .int p2)]) (st' := [.int (-1), .int x1]) [(.istore_n 3, 1, 0), (.iload_n 3, 1, 0), (.iconst (-1), 1, (-1))] (by decide +kernel) rfl ?_
  refine C.icmp_ne (off := 5) (tgt := 12) (pf := 10) (by decide +kernel) (by decide) rfl (fun c3 => ?_) (fun c3 => ?_)
  · replace hf := ifn c3 hf
    refine C.seg (pe := 15) (lv' := [(4, .int 0), (3, .int x1), (0, .ref a0), (1, .int p1), (2, .int p2)]) (st' := []) [(.iconst 0, 1, 0), (.istore 4, 2, 0)] (by decide +kernel) rfl ?_
    refine Vsub [2, 3, 4, 1, 0] rfl ?_
    exact l_X2_readShape_15 C C2 FU a0 p1 p2 x1 0 h2 hf
  · replace hf := ifp c3 hf
    refine C.seg (pe := 11) (lv' := [(3, .int x1), (0, .ref a0), (1, .int p1), (2, .int p2)]) (st' := [.int 0]) [(.iconst 0, 1, 0)] (by decide +kernel) rfl ?_
    cases hf
    exact C.retZ rfl (by decide) (by decide +kernel) ⟨rfl, rfl⟩
theorem o_X2_readShape {a0 : Nat} {p1 : Int32} {p2 : Int32} {h : AH} {rr : Int32} {hr : AH} (hf : f_X2_readShape a0 p1 p2 h = some (rr, hr)) : isO 2 h a0 = true := by
  unfold f_X2_readShape at hf
  exact (ifO hf).1
/-! WallHouse$DrawingReader.readSay()Z -/
def f_X2_readSay_61 (h : AH) : Option (Int32 × AH) :=
  some (0, h)
set_option maxRecDepth 100000 in
set_option maxHeartbeats 4000000 in
theorem l_X2_readSay_61 {X : MX} {l : Launch} {G : GX} {h0 : AH} {rr : Int32} {hr : AH} (C : Cx X G RX2 cX2_readSay 4 (some .boolean) 3 67 h0) (C2 : Cy X l "readSay" []) (h : AH) (hf : f_X2_readSay_61 h = some (rr, hr)) : V X G h0 (QI rr hr) 61 [] [] h := by
  unfold f_X2_readSay_61 at hf
  refine C.seg (pe := 62) (lv' := []) (st' := [.int 0]) [(.iconst 0, 1, 0)] (by decide +kernel) rfl ?_
  cases hf
  exact C.retZ rfl (by decide) (by decide +kernel) ⟨rfl, rfl⟩
def f_X2_readSay (a0 : Nat) (h : AH) : Option (Int32 × AH) :=
  if isO 2 h a0 = true then
    b2 (f_X2_readColour a0 h) fun x1 h2 =>
    if x1 = (-1) then
      some (0, h2)
    else
      (gA 2 h2 a0 0).bind fun a3 =>
      b2 (f_X7_kind a3 h2) fun x4 h5 =>
      if x4 = 2 then
        (gA 2 h5 a0 0).bind fun a6 =>
        b2 (f_X7_value a6 h5) fun y7 h8 =>
        (gA 2 h8 a0 0).bind fun a9 =>
        (f_X7_advance a9 h8).bind fun h10 =>
        b2 (f_X2_readSum a0 h10) fun x11 h12 =>
        if x11 = 0 then
          f_X2_readSay_61 h12
        else
          b2 (f_X2_readSum a0 h12) fun x13 h14 =>
          if x13 = 0 then
            f_X2_readSay_61 h14
          else
            (gA 2 h14 a0 1).bind fun a15 =>
            (f_X1_putSay a15 x1 y7 h14).bind fun h16 =>
            some (1, h16)
      else
        (gA 2 h5 a0 0).bind fun a19 =>
        b2 (f_X7_fail a19 1 h5) fun x20 h21 =>
        (ckZ x20).bind fun x22 =>
        some (x22, h21)
  else none
set_option maxRecDepth 100000 in
set_option maxHeartbeats 4000000 in
theorem w_X2_readSay {l : Launch} {G : GX} {a0 : Nat} {h : AH} {rr : Int32} {hr : AH} (hf : f_X2_readSay a0 h = some (rr, hr)) : Ct l G yX2_readSay 3 67 [.ref a0] h (QI rr hr) := by
  unfold f_X2_readSay at hf
  obtain ⟨ho, hf⟩ := ifO hf
  refine Ct_of (own := RX2) (cc := cX2_readSay) (nL := 4) (ret := (some .boolean)) rfl rfl k_1026 (Nat.le_of_ble_eq_true rfl) (fun X C2 C => ?_)
  show V X G h (QI rr hr) 0 [(0, .ref a0)] [] h
  refine C.seg (pe := 1) (lv' := [(0, .ref a0)]) (st' := [.ref a0]) [(.aload_n 0, 1, 0)] (by decide +kernel) rfl ?_
  obtain ⟨x1, h2, gx1, hf⟩ := b2_some hf
  refine C.callVr C2 [] [] mv_986 rfl (o_X2_readColour gx1) (w_X2_readColour gx1) (by omega) (by omega) (Nat.le_of_ble_eq_true rfl) (by decide +kernel) rfl ?_
  refine C.seg (pe := 7) (lv' := [(1, .int x1), (0, .ref a0)]) (st' := [.int (-1), .int x1]) [(.istore_n 1, 1, 0), (.iload_n 1, 1, 0), (.iconst (-1), 1, (-1))] (by decide +kernel) rfl ?_
  refine C.icmp_ne (off := 5) (tgt := 12) (pf := 10) (by decide +kernel) (by decide) rfl (fun c24 => ?_) (fun c24 => ?_)
  · replace hf := ifn c24 hf
    refine C.seg (pe := 13) (lv' := [(1, .int x1), (0, .ref a0)]) (st' := [.ref a0]) [(.aload_n 0, 1, 0)] (by decide +kernel) rfl ?_
    obtain ⟨a3, ga3, hf⟩ := Option.bind_eq_some_iff.mp hf
    refine C.rdA fr_443 ga3 (by decide +kernel) rfl ?_
    obtain ⟨x4, h5, gx4, hf⟩ := b2_some hf
    refine C.callVr C2 [] [] mv_962 rfl (o_X7_kind gx4) (w_X7_kind gx4) (by omega) (by omega) (Nat.le_of_ble_eq_true rfl) (by decide +kernel) rfl ?_
    refine C.seg (pe := 20) (lv' := [(1, .int x1), (0, .ref a0)]) (st' := [.int 2, .int x4]) [(.iconst 2, 1, 2)] (by decide +kernel) rfl ?_
    refine C.icmp_eq (off := 12) (tgt := 32) (pf := 23) (by decide +kernel) (by decide) rfl (fun c23 => ?_) (fun c23 => ?_)
    · replace hf := ifp c23 hf
      refine C.seg (pe := 33) (lv' := [(1, .int x1), (0, .ref a0)]) (st' := [.ref a0]) [(.aload_n 0, 1, 0)] (by decide +kernel) rfl ?_
      obtain ⟨a6, ga6, hf⟩ := Option.bind_eq_some_iff.mp hf
      refine C.rdA fr_443 ga6 (by decide +kernel) rfl ?_
      obtain ⟨y7, h8, gy7, hf⟩ := b2_some hf
      refine C.callVr C2 [] [] mv_990 rfl (o_X7_value gy7) (w_X7_value gy7) (by omega) (by omega) (Nat.le_of_ble_eq_true rfl) (by decide +kernel) rfl ?_
      refine C.seg (pe := 41) (lv' := [(2, .long y7), (1, .int x1), (0, .ref a0)]) (st' := [.ref a0]) [(.lstore_n 2, 1, 0), (.aload_n 0, 1, 0)] (by decide +kernel) rfl ?_
      obtain ⟨a9, ga9, hf⟩ := Option.bind_eq_some_iff.mp hf
      refine C.rdA fr_443 ga9 (by decide +kernel) rfl ?_
      obtain ⟨h10, gh10, hf⟩ := Option.bind_eq_some_iff.mp hf
      refine C.callVr C2 [] [] mv_978 rfl (o_X7_advance gh10) (w_X7_advance gh10) (by omega) (by omega) (Nat.le_of_ble_eq_true rfl) (by decide +kernel) rfl ?_
      refine C.seg (pe := 48) (lv' := [(2, .long y7), (1, .int x1), (0, .ref a0)]) (st' := [.ref a0]) [(.aload_n 0, 1, 0)] (by decide +kernel) rfl ?_
      obtain ⟨x11, h12, gx11, hf⟩ := b2_some hf
      refine C.callVr C2 [] [] mv_994 rfl (o_X2_readSum gx11) (w_X2_readSum gx11) (by omega) (by omega) (Nat.le_of_ble_eq_true rfl) (by decide +kernel) rfl ?_
      refine C.if_eq (off := 10) (tgt := 61) (pf := 54) (by decide +kernel) (by decide) rfl (fun c18 => ?_) (fun c18 => ?_)
      · replace hf := ifp c18 hf
        refine Vsub [] rfl ?_
        exact l_X2_readSay_61 C C2 h12 hf
      · replace hf := ifn c18 hf
        refine C.seg (pe := 55) (lv' := [(2, .long y7), (1, .int x1), (0, .ref a0)]) (st' := [.ref a0]) [(.aload_n 0, 1, 0)] (by decide +kernel) rfl ?_
        obtain ⟨x13, h14, gx13, hf⟩ := b2_some hf
        refine C.callVr C2 [] [] mv_994 rfl (o_X2_readSum gx13) (w_X2_readSum gx13) (by omega) (by omega) (Nat.le_of_ble_eq_true rfl) (by decide +kernel) rfl ?_
        refine C.if_ne (off := 5) (tgt := 63) (pf := 61) (by decide +kernel) (by decide) rfl (fun c17 => ?_) (fun c17 => ?_)
        · replace hf := ifn c17 hf
          refine C.seg (pe := 64) (lv' := [(2, .long y7), (1, .int x1), (0, .ref a0)]) (st' := [.ref a0]) [(.aload_n 0, 1, 0)] (by decide +kernel) rfl ?_
          obtain ⟨a15, ga15, hf⟩ := Option.bind_eq_some_iff.mp hf
          refine C.rdA fr_444 ga15 (by decide +kernel) rfl ?_
          refine C.seg (pe := 69) (lv' := [(2, .long y7), (1, .int x1), (0, .ref a0)]) (st' := [.long y7, .int x1, .ref a15]) [(.iload_n 1, 1, 0), (.lload_n 2, 1, 0)] (by decide +kernel) rfl ?_
          obtain ⟨h16, gh16, hf⟩ := Option.bind_eq_some_iff.mp hf
          refine C.callVr C2 [.int x1, .long y7] [] mv_1027 rfl (o_X1_putSay gh16) (w_X1_putSay gh16) (by omega) (by omega) (Nat.le_of_ble_eq_true rfl) (by decide +kernel) rfl ?_
          refine C.seg (pe := 73) (lv' := [(2, .long y7), (1, .int x1), (0, .ref a0)]) (st' := [.int 1]) [(.iconst 1, 1, 1)] (by decide +kernel) rfl ?_
          cases hf
          exact C.retZ rfl (by decide) (by decide +kernel) ⟨rfl, rfl⟩
        · replace hf := ifp c17 hf
          refine Vsub [] rfl ?_
          exact l_X2_readSay_61 C C2 h14 hf
    · replace hf := ifn c23 hf
      refine C.seg (pe := 24) (lv' := [(1, .int x1), (0, .ref a0)]) (st' := [.ref a0]) [(.aload_n 0, 1, 0)] (by decide +kernel) rfl ?_
      obtain ⟨a19, ga19, hf⟩ := Option.bind_eq_some_iff.mp hf
      refine C.rdA fr_443 ga19 (by decide +kernel) rfl ?_
      refine C.seg (pe := 28) (lv' := [(1, .int x1), (0, .ref a0)]) (st' := [.int 1, .ref a19]) [(.iconst 1, 1, 1)] (by decide +kernel) rfl ?_
      obtain ⟨x20, h21, gx20, hf⟩ := b2_some hf
      refine C.callVr C2 [.int 1] [] mv_966 rfl (o_X7_fail gx20) (w_X7_fail gx20) (by omega) (by omega) (Nat.le_of_ble_eq_true rfl) (by decide +kernel) rfl ?_
      obtain ⟨x22, gx22, hf⟩ := Option.bind_eq_some_iff.mp hf
      have ex22 := ckZ_eq gx22
      subst ex22
      cases hf
      exact C.retZ rfl gx22 (by decide +kernel) ⟨rfl, rfl⟩
  · replace hf := ifp c24 hf
    refine C.seg (pe := 11) (lv' := [(1, .int x1), (0, .ref a0)]) (st' := [.int 0]) [(.iconst 0, 1, 0)] (by decide +kernel) rfl ?_
    cases hf
    exact C.retZ rfl (by decide) (by decide +kernel) ⟨rfl, rfl⟩
theorem o_X2_readSay {a0 : Nat} {h : AH} {rr : Int32} {hr : AH} (hf : f_X2_readSay a0 h = some (rr, hr)) : isO 2 h a0 = true := by
  unfold f_X2_readSay at hf
  exact (ifO hf).1
/-! WallHouse$DrawingReader.openBracket(II)Z -/
def f_X2_openBracket (a0 : Nat) (p1 : Int32) (p2 : Int32) (h : AH) : Option (Int32 × AH) :=
  if isO 2 h a0 = true then
    (gA 2 h a0 0).bind fun a1 =>
    b2 (f_X7_sign a1 h) fun x2 h3 =>
    if x2 = 91 then
      (gI 2 h3 a0 5).bind fun x4 =>
      (gA 2 h3 a0 4).bind fun a5 =>
      (aN h3 a5).bind fun x6 =>
      if x4 < x6 then
        (gA 2 h3 a0 4).bind fun a7 =>
        (gI 2 h3 a0 5).bind fun x8 =>
        (gA 2 h3 a0 1).bind fun a9 =>
        (gI 1 h3 a9 4).bind fun x10 =>
        (sI 0 h3 a7 x8 x10).bind fun h11 =>
        (gI 2 h11 a0 5).bind fun x12 =>
        (pI 2 h11 a0 5 (x12 + 1)).bind fun h13 =>
        (gA 2 h13 a0 1).bind fun a14 =>
        (f_X1_put a14 p1 p2 h13).bind fun h15 =>
        (gA 2 h15 a0 0).bind fun a16 =>
        (f_X7_advance a16 h15).bind fun h17 =>
        some (1, h17)
      else
        (gA 2 h3 a0 0).bind fun a18 =>
        b2 (f_X7_fail a18 4 h3) fun x19 h20 =>
        (ckZ x19).bind fun x21 =>
        some (x21, h20)
    else
      (gA 2 h3 a0 0).bind fun a23 =>
      b2 (f_X7_fail a23 1 h3) fun x24 h25 =>
      (ckZ x24).bind fun x26 =>
      some (x26, h25)
  else none
set_option maxRecDepth 100000 in
set_option maxHeartbeats 4000000 in
theorem w_X2_openBracket {l : Launch} {G : GX} {a0 : Nat} {p1 : Int32} {p2 : Int32} {h : AH} {rr : Int32} {hr : AH} (hf : f_X2_openBracket a0 p1 p2 h = some (rr, hr)) : Ct l G yX2_openBracket 2 40 [.ref a0, .int p1, .int p2] h (QI rr hr) := by
  unfold f_X2_openBracket at hf
  obtain ⟨ho, hf⟩ := ifO hf
  refine Ct_of (own := RX2) (cc := cX2_openBracket) (nL := 3) (ret := (some .boolean)) rfl rfl k_1039 (Nat.le_of_ble_eq_true rfl) (fun X C2 C => ?_)
  show V X G h (QI rr hr) 0 [(0, .ref a0), (1, .int p1), (2, .int p2)] [] h
  refine C.seg (pe := 1) (lv' := [(0, .ref a0), (1, .int p1), (2, .int p2)]) (st' := [.ref a0]) [(.aload_n 0, 1, 0)] (by decide +kernel) rfl ?_
  obtain ⟨a1, ga1, hf⟩ := Option.bind_eq_some_iff.mp hf
  refine C.rdA fr_443 ga1 (by decide +kernel) rfl ?_
  obtain ⟨x2, h3, gx2, hf⟩ := b2_some hf
  refine C.callVr C2 [] [] mv_998 rfl (o_X7_sign gx2) (w_X7_sign gx2) (by omega) (by omega) (Nat.le_of_ble_eq_true rfl) (by decide +kernel) rfl ?_
  refine C.seg (pe := 9) (lv' := [(0, .ref a0), (1, .int p1), (2, .int p2)]) (st' := [.int 91, .int x2]) [(.bipush 91, 2, 91)] (by decide +kernel) rfl ?_
  refine C.icmp_eq (off := 12) (tgt := 21) (pf := 12) (by decide +kernel) (by decide) rfl (fun c27 => ?_) (fun c27 => ?_)
  · replace hf := ifp c27 hf
    refine C.seg (pe := 22) (lv' := [(0, .ref a0), (1, .int p1), (2, .int p2)]) (st' := [.ref a0]) [(.aload_n 0, 1, 0)] (by decide +kernel) rfl ?_
    obtain ⟨x4, gx4, hf⟩ := Option.bind_eq_some_iff.mp hf
    refine C.rdI fr_449 gx4 (by decide +kernel) rfl ?_
    refine C.seg (pe := 26) (lv' := [(0, .ref a0), (1, .int p1), (2, .int p2)]) (st' := [.ref a0, .int x4]) [(.aload_n 0, 1, 0)] (by decide +kernel) rfl ?_
    obtain ⟨a5, ga5, hf⟩ := Option.bind_eq_some_iff.mp hf
    refine C.rdA fr_448 ga5 (by decide +kernel) rfl ?_
    obtain ⟨x6, gx6, hf⟩ := Option.bind_eq_some_iff.mp hf
    refine C.alen gx6 (by decide +kernel) rfl ?_
    refine C.icmp_lt (off := 12) (tgt := 42) (pf := 33) (by decide +kernel) (by decide) rfl (fun c22 => ?_) (fun c22 => ?_)
    · replace hf := ifp c22 hf
      refine C.seg (pe := 43) (lv' := [(0, .ref a0), (1, .int p1), (2, .int p2)]) (st' := [.ref a0]) [(.aload_n 0, 1, 0)] (by decide +kernel) rfl ?_
      obtain ⟨a7, ga7, hf⟩ := Option.bind_eq_some_iff.mp hf
      refine C.rdA fr_448 ga7 (by decide +kernel) rfl ?_
      refine C.seg (pe := 47) (lv' := [(0, .ref a0), (1, .int p1), (2, .int p2)]) (st' := [.ref a0, .ref a7]) [(.aload_n 0, 1, 0)] (by decide +kernel) rfl ?_
      obtain ⟨x8, gx8, hf⟩ := Option.bind_eq_some_iff.mp hf
      refine C.rdI fr_449 gx8 (by decide +kernel) rfl ?_
      refine C.seg (pe := 51) (lv' := [(0, .ref a0), (1, .int p1), (2, .int p2)]) (st' := [.ref a0, .int x8, .ref a7]) [(.aload_n 0, 1, 0)] (by decide +kernel) rfl ?_
      obtain ⟨a9, ga9, hf⟩ := Option.bind_eq_some_iff.mp hf
      refine C.rdA fr_444 ga9 (by decide +kernel) rfl ?_
      obtain ⟨x10, gx10, hf⟩ := Option.bind_eq_some_iff.mp hf
      refine C.rdI fr_426 gx10 (by decide +kernel) rfl ?_
      obtain ⟨h11, gh11, hf⟩ := Option.bind_eq_some_iff.mp hf
      refine C.ast gh11 (by decide +kernel) rfl ?_
      refine C.seg (pe := 60) (lv' := [(0, .ref a0), (1, .int p1), (2, .int p2)]) (st' := [.ref a0, .ref a0]) [(.aload_n 0, 1, 0), (.dup, 1, 0)] (by decide +kernel) rfl ?_
      obtain ⟨x12, gx12, hf⟩ := Option.bind_eq_some_iff.mp hf
      refine C.rdI fr_449 gx12 (by decide +kernel) rfl ?_
      refine C.seg (pe := 65) (lv' := [(0, .ref a0), (1, .int p1), (2, .int p2)]) (st' := [.int (x12 + 1), .ref a0]) [(.iconst 1, 1, 1), (.iadd, 1, 0)] (by decide +kernel) rfl ?_
      obtain ⟨h13, gh13, hf⟩ := Option.bind_eq_some_iff.mp hf
      refine C.putI fl_449 gh13 (by decide +kernel) rfl ?_
      refine C.seg (pe := 69) (lv' := [(0, .ref a0), (1, .int p1), (2, .int p2)]) (st' := [.ref a0]) [(.aload_n 0, 1, 0)] (by decide +kernel) rfl ?_
      obtain ⟨a14, ga14, hf⟩ := Option.bind_eq_some_iff.mp hf
      refine C.rdA fr_444 ga14 (by decide +kernel) rfl ?_
      refine C.seg (pe := 74) (lv' := [(0, .ref a0), (1, .int p1), (2, .int p2)]) (st' := [.int p2, .int p1, .ref a14]) [(.iload_n 1, 1, 0), (.iload_n 2, 1, 0)] (by decide +kernel) rfl ?_
      obtain ⟨h15, gh15, hf⟩ := Option.bind_eq_some_iff.mp hf
      refine C.callVr C2 [.int p1, .int p2] [] mv_974 rfl (o_X1_put gh15) (w_X1_put gh15) (by omega) (by omega) (Nat.le_of_ble_eq_true rfl) (by decide +kernel) rfl ?_
      refine C.seg (pe := 78) (lv' := [(0, .ref a0), (1, .int p1), (2, .int p2)]) (st' := [.ref a0]) [(.aload_n 0, 1, 0)] (by decide +kernel) rfl ?_
      obtain ⟨a16, ga16, hf⟩ := Option.bind_eq_some_iff.mp hf
      refine C.rdA fr_443 ga16 (by decide +kernel) rfl ?_
      obtain ⟨h17, gh17, hf⟩ := Option.bind_eq_some_iff.mp hf
      refine C.callVr C2 [] [] mv_978 rfl (o_X7_advance gh17) (w_X7_advance gh17) (by omega) (by omega) (Nat.le_of_ble_eq_true rfl) (by decide +kernel) rfl ?_
      refine C.seg (pe := 85) (lv' := [(0, .ref a0), (1, .int p1), (2, .int p2)]) (st' := [.int 1]) [(.iconst 1, 1, 1)] (by decide +kernel) rfl ?_
      cases hf
      exact C.retZ rfl (by decide) (by decide +kernel) ⟨rfl, rfl⟩
    · replace hf := ifn c22 hf
      refine C.seg (pe := 34) (lv' := [(0, .ref a0), (1, .int p1), (2, .int p2)]) (st' := [.ref a0]) [(.aload_n 0, 1, 0)] (by decide +kernel) rfl ?_
      obtain ⟨a18, ga18, hf⟩ := Option.bind_eq_some_iff.mp hf
      refine C.rdA fr_443 ga18 (by decide +kernel) rfl ?_
      refine C.seg (pe := 38) (lv' := [(0, .ref a0), (1, .int p1), (2, .int p2)]) (st' := [.int 4, .ref a18]) [(.iconst 4, 1, 4)] (by decide +kernel) rfl ?_
      obtain ⟨x19, h20, gx19, hf⟩ := b2_some hf
      refine C.callVr C2 [.int 4] [] mv_966 rfl (o_X7_fail gx19) (w_X7_fail gx19) (by omega) (by omega) (Nat.le_of_ble_eq_true rfl) (by decide +kernel) rfl ?_
      obtain ⟨x21, gx21, hf⟩ := Option.bind_eq_some_iff.mp hf
      have ex21 := ckZ_eq gx21
      subst ex21
      cases hf
      exact C.retZ rfl gx21 (by decide +kernel) ⟨rfl, rfl⟩
  · replace hf := ifn c27 hf
    refine C.seg (pe := 13) (lv' := [(0, .ref a0), (1, .int p1), (2, .int p2)]) (st' := [.ref a0]) [(.aload_n 0, 1, 0)] (by decide +kernel) rfl ?_
    obtain ⟨a23, ga23, hf⟩ := Option.bind_eq_some_iff.mp hf
    refine C.rdA fr_443 ga23 (by decide +kernel) rfl ?_
    refine C.seg (pe := 17) (lv' := [(0, .ref a0), (1, .int p1), (2, .int p2)]) (st' := [.int 1, .ref a23]) [(.iconst 1, 1, 1)] (by decide +kernel) rfl ?_
    obtain ⟨x24, h25, gx24, hf⟩ := b2_some hf
    refine C.callVr C2 [.int 1] [] mv_966 rfl (o_X7_fail gx24) (w_X7_fail gx24) (by omega) (by omega) (Nat.le_of_ble_eq_true rfl) (by decide +kernel) rfl ?_
    obtain ⟨x26, gx26, hf⟩ := Option.bind_eq_some_iff.mp hf
    have ex26 := ckZ_eq gx26
    subst ex26
    cases hf
    exact C.retZ rfl gx26 (by decide +kernel) ⟨rfl, rfl⟩
theorem o_X2_openBracket {a0 : Nat} {p1 : Int32} {p2 : Int32} {h : AH} {rr : Int32} {hr : AH} (hf : f_X2_openBracket a0 p1 p2 h = some (rr, hr)) : isO 2 h a0 = true := by
  unfold f_X2_openBracket at hf
  exact (ifO hf).1
/-! WallHouse$DrawingReader.readEach()Z -/
def f_X2_readEach_120 (si0 : Int32) (h : AH) : Option (Int32 × AH) :=
  (ckZ si0).bind fun x1 =>
  some (x1, h)
set_option maxRecDepth 100000 in
set_option maxHeartbeats 4000000 in
theorem l_X2_readEach_120 {X : MX} {l : Launch} {G : GX} {h0 : AH} {rr : Int32} {hr : AH} (C : Cx X G RX2 cX2_readEach 2 (some .boolean) 3 67 h0) (C2 : Cy X l "readEach" []) (si0 : Int32) (h : AH) (hf : f_X2_readEach_120 si0 h = some (rr, hr)) : V X G h0 (QI rr hr) 120 [] [.int si0] h := by
  unfold f_X2_readEach_120 at hf
  obtain ⟨x1, gx1, hf⟩ := Option.bind_eq_some_iff.mp hf
  have ex1 := ckZ_eq gx1
  subst ex1
  cases hf
  exact C.retZ rfl gx1 (by decide +kernel) ⟨rfl, rfl⟩
def f_X2_readEach_119 (h : AH) : Option (Int32 × AH) :=
  f_X2_readEach_120 0 h
set_option maxRecDepth 100000 in
set_option maxHeartbeats 4000000 in
theorem l_X2_readEach_119 {X : MX} {l : Launch} {G : GX} {h0 : AH} {rr : Int32} {hr : AH} (C : Cx X G RX2 cX2_readEach 2 (some .boolean) 3 67 h0) (C2 : Cy X l "readEach" []) (h : AH) (hf : f_X2_readEach_119 h = some (rr, hr)) : V X G h0 (QI rr hr) 119 [] [] h := by
  unfold f_X2_readEach_119 at hf
  refine C.seg (pe := 120) (lv' := []) (st' := [.int 0]) [(.iconst 0, 1, 0)] (by decide +kernel) rfl ?_
  exact l_X2_readEach_120 C C2 0 h hf
def f_X2_readEach (a0 : Nat) (h : AH) : Option (Int32 × AH) :=
  if isO 2 h a0 = true then
    (gA 2 h a0 0).bind fun a1 =>
    b2 (f_X7_name a1 h) fun x2 h3 =>
    b2 (f_X2_isVariable x2 h3) fun x4 h5 =>
    if x4 = 0 then
      (gA 2 h5 a0 0).bind fun a37 =>
      b2 (f_X7_fail a37 1 h5) fun x38 h39 =>
      (ckZ x38).bind fun x40 =>
      some (x40, h39)
    else
      (gA 2 h5 a0 0).bind fun a6 =>
      (f_X7_advance a6 h5).bind fun h7 =>
      (gA 2 h7 a0 0).bind fun a8 =>
      b2 (f_X7_name a8 h7) fun x9 h10 =>
      if x9 = 5 then
        (gA 2 h10 a0 0).bind fun a11 =>
        (f_X7_advance a11 h10).bind fun h12 =>
        b2 (f_X2_readSum a0 h12) fun x13 h14 =>
        if x13 = 0 then
          some (0, h14)
        else
          (gA 2 h14 a0 0).bind fun a15 =>
          b2 (f_X7_name a15 h14) fun x16 h17 =>
          if x16 = 6 then
            (gA 2 h17 a0 0).bind fun a18 =>
            (f_X7_advance a18 h17).bind fun h19 =>
            b2 (f_X2_readSum a0 h19) fun x20 h21 =>
            if x20 = 0 then
              f_X2_readEach_119 h21
            else
              b2 (f_X2_openBracket a0 9 (x2 - 7) h21) fun x22 h23 =>
              if x22 = 0 then
                f_X2_readEach_119 h23
              else
                f_X2_readEach_120 1 h23
          else
            (gA 2 h17 a0 0).bind fun a26 =>
            b2 (f_X7_fail a26 1 h17) fun x27 h28 =>
            (ckZ x27).bind fun x29 =>
            some (x29, h28)
      else
        (gA 2 h10 a0 0).bind fun a32 =>
        b2 (f_X7_fail a32 1 h10) fun x33 h34 =>
        (ckZ x33).bind fun x35 =>
        some (x35, h34)
  else none
set_option maxRecDepth 100000 in
set_option maxHeartbeats 4000000 in
theorem w_X2_readEach {l : Launch} {G : GX} {a0 : Nat} {h : AH} {rr : Int32} {hr : AH} (hf : f_X2_readEach a0 h = some (rr, hr)) : Ct l G yX2_readEach 3 67 [.ref a0] h (QI rr hr) := by
  unfold f_X2_readEach at hf
  obtain ⟨ho, hf⟩ := ifO hf
  refine Ct_of (own := RX2) (cc := cX2_readEach) (nL := 2) (ret := (some .boolean)) rfl rfl k_1035 (Nat.le_of_ble_eq_true rfl) (fun X C2 C => ?_)
  show V X G h (QI rr hr) 0 [(0, .ref a0)] [] h
  refine C.seg (pe := 1) (lv' := [(0, .ref a0)]) (st' := [.ref a0]) [(.aload_n 0, 1, 0)] (by decide +kernel) rfl ?_
  obtain ⟨a1, ga1, hf⟩ := Option.bind_eq_some_iff.mp hf
  refine C.rdA fr_443 ga1 (by decide +kernel) rfl ?_
  obtain ⟨x2, h3, gx2, hf⟩ := b2_some hf
  refine C.callVr C2 [] [] mv_970 rfl (o_X7_name gx2) (w_X7_name gx2) (by omega) (by omega) (Nat.le_of_ble_eq_true rfl) (by decide +kernel) rfl ?_
  refine C.seg (pe := 9) (lv' := [(1, .int x2), (0, .ref a0)]) (st' := [.int x2]) [(.istore_n 1, 1, 0), (.iload_n 1, 1, 0)] (by decide +kernel) rfl ?_
  obtain ⟨x4, h5, gx4, hf⟩ := b2_some hf
  refine C.callSr C2 [.int x2] [] ms_1012 rfl (w_X2_isVariable gx4) (by omega) (by omega) (Nat.le_of_ble_eq_true rfl) (by decide +kernel) rfl ?_
  refine C.if_ne (off := 12) (tgt := 24) (pf := 15) (by decide +kernel) (by decide) rfl (fun c41 => ?_) (fun c41 => ?_)
  · replace hf := ifn c41 hf
    refine C.seg (pe := 25) (lv' := [(1, .int x2), (0, .ref a0)]) (st' := [.ref a0]) [(.aload_n 0, 1, 0)] (by decide +kernel) rfl ?_
    obtain ⟨a6, ga6, hf⟩ := Option.bind_eq_some_iff.mp hf
    refine C.rdA fr_443 ga6 (by decide +kernel) rfl ?_
    obtain ⟨h7, gh7, hf⟩ := Option.bind_eq_some_iff.mp hf
    refine C.callVr C2 [] [] mv_978 rfl (o_X7_advance gh7) (w_X7_advance gh7) (by omega) (by omega) (Nat.le_of_ble_eq_true rfl) (by decide +kernel) rfl ?_
    refine C.seg (pe := 32) (lv' := [(1, .int x2), (0, .ref a0)]) (st' := [.ref a0]) [(.aload_n 0, 1, 0)] (by decide +kernel) rfl ?_
    obtain ⟨a8, ga8, hf⟩ := Option.bind_eq_some_iff.mp hf
    refine C.rdA fr_443 ga8 (by decide +kernel) rfl ?_
    obtain ⟨x9, h10, gx9, hf⟩ := b2_some hf
    refine C.callVr C2 [] [] mv_970 rfl (o_X7_name gx9) (w_X7_name gx9) (by omega) (by omega) (Nat.le_of_ble_eq_true rfl) (by decide +kernel) rfl ?_
    refine C.seg (pe := 39) (lv' := [(1, .int x2), (0, .ref a0)]) (st' := [.int 5, .int x9]) [(.iconst 5, 1, 5)] (by decide +kernel) rfl ?_
    refine C.icmp_eq (off := 12) (tgt := 51) (pf := 42) (by decide +kernel) (by decide) rfl (fun c36 => ?_) (fun c36 => ?_)
    · replace hf := ifp c36 hf
      refine C.seg (pe := 52) (lv' := [(1, .int x2), (0, .ref a0)]) (st' := [.ref a0]) [(.aload_n 0, 1, 0)] (by decide +kernel) rfl ?_
      obtain ⟨a11, ga11, hf⟩ := Option.bind_eq_some_iff.mp hf
      refine C.rdA fr_443 ga11 (by decide +kernel) rfl ?_
      obtain ⟨h12, gh12, hf⟩ := Option.bind_eq_some_iff.mp hf
      refine C.callVr C2 [] [] mv_978 rfl (o_X7_advance gh12) (w_X7_advance gh12) (by omega) (by omega) (Nat.le_of_ble_eq_true rfl) (by decide +kernel) rfl ?_
      refine C.seg (pe := 59) (lv' := [(1, .int x2), (0, .ref a0)]) (st' := [.ref a0]) [(.aload_n 0, 1, 0)] (by decide +kernel) rfl ?_
      obtain ⟨x13, h14, gx13, hf⟩ := b2_some hf
      refine C.callVr C2 [] [] mv_994 rfl (o_X2_readSum gx13) (w_X2_readSum gx13) (by omega) (by omega) (Nat.le_of_ble_eq_true rfl) (by decide +kernel) rfl ?_
      refine C.if_ne (off := 5) (tgt := 67) (pf := 65) (by decide +kernel) (by decide) rfl (fun c31 => ?_) (fun c31 => ?_)
      · replace hf := ifn c31 hf
        refine C.seg (pe := 68) (lv' := [(1, .int x2), (0, .ref a0)]) (st' := [.ref a0]) [(.aload_n 0, 1, 0)] (by decide +kernel) rfl ?_
        obtain ⟨a15, ga15, hf⟩ := Option.bind_eq_some_iff.mp hf
        refine C.rdA fr_443 ga15 (by decide +kernel) rfl ?_
        obtain ⟨x16, h17, gx16, hf⟩ := b2_some hf
        refine C.callVr C2 [] [] mv_970 rfl (o_X7_name gx16) (w_X7_name gx16) (by omega) (by omega) (Nat.le_of_ble_eq_true rfl) (by decide +kernel) rfl ?_
        refine C.seg (pe := 76) (lv' := [(1, .int x2), (0, .ref a0)]) (st' := [.int 6, .int x16]) [(.bipush 6, 2, 6)] (by decide +kernel) rfl ?_
        refine C.icmp_eq (off := 12) (tgt := 88) (pf := 79) (by decide +kernel) (by decide) rfl (fun c30 => ?_) (fun c30 => ?_)
        · replace hf := ifp c30 hf
          refine C.seg (pe := 89) (lv' := [(1, .int x2), (0, .ref a0)]) (st' := [.ref a0]) [(.aload_n 0, 1, 0)] (by decide +kernel) rfl ?_
          obtain ⟨a18, ga18, hf⟩ := Option.bind_eq_some_iff.mp hf
          refine C.rdA fr_443 ga18 (by decide +kernel) rfl ?_
          obtain ⟨h19, gh19, hf⟩ := Option.bind_eq_some_iff.mp hf
          refine C.callVr C2 [] [] mv_978 rfl (o_X7_advance gh19) (w_X7_advance gh19) (by omega) (by omega) (Nat.le_of_ble_eq_true rfl) (by decide +kernel) rfl ?_
          refine C.seg (pe := 96) (lv' := [(1, .int x2), (0, .ref a0)]) (st' := [.ref a0]) [(.aload_n 0, 1, 0)] (by decide +kernel) rfl ?_
          obtain ⟨x20, h21, gx20, hf⟩ := b2_some hf
          refine C.callVr C2 [] [] mv_994 rfl (o_X2_readSum gx20) (w_X2_readSum gx20) (by omega) (by omega) (Nat.le_of_ble_eq_true rfl) (by decide +kernel) rfl ?_
          refine C.if_eq (off := 20) (tgt := 119) (pf := 102) (by decide +kernel) (by decide) rfl (fun c25 => ?_) (fun c25 => ?_)
          · replace hf := ifp c25 hf
            refine Vsub [] rfl ?_
            exact l_X2_readEach_119 C C2 h21 hf
          · replace hf := ifn c25 hf
            refine C.seg (pe := 109) (lv' := [(1, .int x2), (0, .ref a0)]) (st' := [.int (x2 - 7), .int 9, .ref a0]) [(.aload_n 0, 1, 0), (.bipush 9, 2, 9), (.iload_n 1, 1, 0), (.bipush 7, 2, 7), (.isub, 1, 0)] (by decide +kernel) rfl ?_
            obtain ⟨x22, h23, gx22, hf⟩ := b2_some hf
            refine C.callVr C2 [.int 9, .int (x2 - 7)] [] mv_1036 rfl (o_X2_openBracket gx22) (w_X2_openBracket gx22) (by omega) (by omega) (Nat.le_of_ble_eq_true rfl) (by decide +kernel) rfl ?_
            refine C.if_eq (off := 7) (tgt := 119) (pf := 115) (by decide +kernel) (by decide) rfl (fun c24 => ?_) (fun c24 => ?_)
            · replace hf := ifp c24 hf
              refine Vsub [] rfl ?_
              exact l_X2_readEach_119 C C2 h23 hf
            · replace hf := ifn c24 hf
              refine C.seg (pe := 116) (lv' := [(1, .int x2), (0, .ref a0)]) (st' := [.int 1]) [(.iconst 1, 1, 1)] (by decide +kernel) rfl ?_
              refine C.goto (off := 4) (tgt := 120) (by decide +kernel) (by decide) ?_
              refine Vsub [] rfl ?_
              exact l_X2_readEach_120 C C2 1 h23 hf
        · replace hf := ifn c30 hf
          refine C.seg (pe := 80) (lv' := [(1, .int x2), (0, .ref a0)]) (st' := [.ref a0]) [(.aload_n 0, 1, 0)] (by decide +kernel) rfl ?_
          obtain ⟨a26, ga26, hf⟩ := Option.bind_eq_some_iff.mp hf
          refine C.rdA fr_443 ga26 (by decide +kernel) rfl ?_
          refine C.seg (pe := 84) (lv' := [(1, .int x2), (0, .ref a0)]) (st' := [.int 1, .ref a26]) [(.iconst 1, 1, 1)] (by decide +kernel) rfl ?_
          obtain ⟨x27, h28, gx27, hf⟩ := b2_some hf
          refine C.callVr C2 [.int 1] [] mv_966 rfl (o_X7_fail gx27) (w_X7_fail gx27) (by omega) (by omega) (Nat.le_of_ble_eq_true rfl) (by decide +kernel) rfl ?_
          obtain ⟨x29, gx29, hf⟩ := Option.bind_eq_some_iff.mp hf
          have ex29 := ckZ_eq gx29
          subst ex29
          cases hf
          exact C.retZ rfl gx29 (by decide +kernel) ⟨rfl, rfl⟩
      · replace hf := ifp c31 hf
        refine C.seg (pe := 66) (lv' := [(1, .int x2), (0, .ref a0)]) (st' := [.int 0]) [(.iconst 0, 1, 0)] (by decide +kernel) rfl ?_
        cases hf
        exact C.retZ rfl (by decide) (by decide +kernel) ⟨rfl, rfl⟩
    · replace hf := ifn c36 hf
      refine C.seg (pe := 43) (lv' := [(1, .int x2), (0, .ref a0)]) (st' := [.ref a0]) [(.aload_n 0, 1, 0)] (by decide +kernel) rfl ?_
      obtain ⟨a32, ga32, hf⟩ := Option.bind_eq_some_iff.mp hf
      refine C.rdA fr_443 ga32 (by decide +kernel) rfl ?_
      refine C.seg (pe := 47) (lv' := [(1, .int x2), (0, .ref a0)]) (st' := [.int 1, .ref a32]) [(.iconst 1, 1, 1)] (by decide +kernel) rfl ?_
      obtain ⟨x33, h34, gx33, hf⟩ := b2_some hf
      refine C.callVr C2 [.int 1] [] mv_966 rfl (o_X7_fail gx33) (w_X7_fail gx33) (by omega) (by omega) (Nat.le_of_ble_eq_true rfl) (by decide +kernel) rfl ?_
      obtain ⟨x35, gx35, hf⟩ := Option.bind_eq_some_iff.mp hf
      have ex35 := ckZ_eq gx35
      subst ex35
      cases hf
      exact C.retZ rfl gx35 (by decide +kernel) ⟨rfl, rfl⟩
  · replace hf := ifp c41 hf
    refine C.seg (pe := 16) (lv' := [(1, .int x2), (0, .ref a0)]) (st' := [.ref a0]) [(.aload_n 0, 1, 0)] (by decide +kernel) rfl ?_
    obtain ⟨a37, ga37, hf⟩ := Option.bind_eq_some_iff.mp hf
    refine C.rdA fr_443 ga37 (by decide +kernel) rfl ?_
    refine C.seg (pe := 20) (lv' := [(1, .int x2), (0, .ref a0)]) (st' := [.int 1, .ref a37]) [(.iconst 1, 1, 1)] (by decide +kernel) rfl ?_
    obtain ⟨x38, h39, gx38, hf⟩ := b2_some hf
    refine C.callVr C2 [.int 1] [] mv_966 rfl (o_X7_fail gx38) (w_X7_fail gx38) (by omega) (by omega) (Nat.le_of_ble_eq_true rfl) (by decide +kernel) rfl ?_
    obtain ⟨x40, gx40, hf⟩ := Option.bind_eq_some_iff.mp hf
    have ex40 := ckZ_eq gx40
    subst ex40
    cases hf
    exact C.retZ rfl gx40 (by decide +kernel) ⟨rfl, rfl⟩
theorem o_X2_readEach {a0 : Nat} {h : AH} {rr : Int32} {hr : AH} (hf : f_X2_readEach a0 h = some (rr, hr)) : isO 2 h a0 = true := by
  unfold f_X2_readEach at hf
  exact (ifO hf).1
/-! WallHouse$DrawingReader.readIf()Z -/
def f_X2_readIf_73 (si0 : Int32) (h : AH) : Option (Int32 × AH) :=
  (ckZ si0).bind fun x1 =>
  some (x1, h)
set_option maxRecDepth 100000 in
set_option maxHeartbeats 4000000 in
theorem l_X2_readIf_73 {X : MX} {l : Launch} {G : GX} {h0 : AH} {rr : Int32} {hr : AH} (C : Cx X G RX2 cX2_readIf 2 (some .boolean) 3 67 h0) (C2 : Cy X l "readIf" []) (si0 : Int32) (h : AH) (hf : f_X2_readIf_73 si0 h = some (rr, hr)) : V X G h0 (QI rr hr) 73 [] [.int si0] h := by
  unfold f_X2_readIf_73 at hf
  obtain ⟨x1, gx1, hf⟩ := Option.bind_eq_some_iff.mp hf
  have ex1 := ckZ_eq gx1
  subst ex1
  cases hf
  exact C.retZ rfl gx1 (by decide +kernel) ⟨rfl, rfl⟩
def f_X2_readIf_72 (h : AH) : Option (Int32 × AH) :=
  f_X2_readIf_73 0 h
set_option maxRecDepth 100000 in
set_option maxHeartbeats 4000000 in
theorem l_X2_readIf_72 {X : MX} {l : Launch} {G : GX} {h0 : AH} {rr : Int32} {hr : AH} (C : Cx X G RX2 cX2_readIf 2 (some .boolean) 3 67 h0) (C2 : Cy X l "readIf" []) (h : AH) (hf : f_X2_readIf_72 h = some (rr, hr)) : V X G h0 (QI rr hr) 72 [] [] h := by
  unfold f_X2_readIf_72 at hf
  refine C.seg (pe := 73) (lv' := []) (st' := [.int 0]) [(.iconst 0, 1, 0)] (by decide +kernel) rfl ?_
  exact l_X2_readIf_73 C C2 0 h hf
def f_X2_readIf_44 (r0 : Nat) (i1 : Int32) (h : AH) : Option (Int32 × AH) :=
  (gA 2 h r0 0).bind fun a1 =>
  (f_X7_advance a1 h).bind fun h2 =>
  b2 (f_X2_readSum r0 h2) fun x3 h4 =>
  if x3 = 0 then
    f_X2_readIf_72 h4
  else
    b2 (f_X2_openBracket r0 11 i1 h4) fun x5 h6 =>
    if x5 = 0 then
      f_X2_readIf_72 h6
    else
      f_X2_readIf_73 1 h6
set_option maxRecDepth 100000 in
set_option maxHeartbeats 4000000 in
theorem l_X2_readIf_44 {X : MX} {l : Launch} {G : GX} {h0 : AH} {rr : Int32} {hr : AH} (C : Cx X G RX2 cX2_readIf 2 (some .boolean) 3 67 h0) (C2 : Cy X l "readIf" []) (r0 : Nat) (i1 : Int32) (h : AH) (hf : f_X2_readIf_44 r0 i1 h = some (rr, hr)) : V X G h0 (QI rr hr) 44 [(0, .ref r0), (1, .int i1)] [] h := by
  unfold f_X2_readIf_44 at hf
  refine C.seg (pe := 45) (lv' := [(0, .ref r0), (1, .int i1)]) (st' := [.ref r0]) [(.aload_n 0, 1, 0)] (by decide +kernel) rfl ?_
  obtain ⟨a1, ga1, hf⟩ := Option.bind_eq_some_iff.mp hf
  refine C.rdA fr_443 ga1 (by decide +kernel) rfl ?_
  obtain ⟨h2, gh2, hf⟩ := Option.bind_eq_some_iff.mp hf
  refine C.callVr C2 [] [] mv_978 rfl (o_X7_advance gh2) (w_X7_advance gh2) (by omega) (by omega) (Nat.le_of_ble_eq_true rfl) (by decide +kernel) rfl ?_
  refine C.seg (pe := 52) (lv' := [(0, .ref r0), (1, .int i1)]) (st' := [.ref r0]) [(.aload_n 0, 1, 0)] (by decide +kernel) rfl ?_
  obtain ⟨x3, h4, gx3, hf⟩ := b2_some hf
  refine C.callVr C2 [] [] mv_994 rfl (o_X2_readSum gx3) (w_X2_readSum gx3) (by omega) (by omega) (Nat.le_of_ble_eq_true rfl) (by decide +kernel) rfl ?_
  refine C.if_eq (off := 17) (tgt := 72) (pf := 58) (by decide +kernel) (by decide) rfl (fun c8 => ?_) (fun c8 => ?_)
  · replace hf := ifp c8 hf
    refine Vsub [] rfl ?_
    exact l_X2_readIf_72 C C2 h4 hf
  · replace hf := ifn c8 hf
    refine C.seg (pe := 62) (lv' := [(0, .ref r0), (1, .int i1)]) (st' := [.int i1, .int 11, .ref r0]) [(.aload_n 0, 1, 0), (.bipush 11, 2, 11), (.iload_n 1, 1, 0)] (by decide +kernel) rfl ?_
    obtain ⟨x5, h6, gx5, hf⟩ := b2_some hf
    refine C.callVr C2 [.int 11, .int i1] [] mv_1036 rfl (o_X2_openBracket gx5) (w_X2_openBracket gx5) (by omega) (by omega) (Nat.le_of_ble_eq_true rfl) (by decide +kernel) rfl ?_
    refine C.if_eq (off := 7) (tgt := 72) (pf := 68) (by decide +kernel) (by decide) rfl (fun c7 => ?_) (fun c7 => ?_)
    · replace hf := ifp c7 hf
      refine Vsub [] rfl ?_
      exact l_X2_readIf_72 C C2 h6 hf
    · replace hf := ifn c7 hf
      refine C.seg (pe := 69) (lv' := [(0, .ref r0), (1, .int i1)]) (st' := [.int 1]) [(.iconst 1, 1, 1)] (by decide +kernel) rfl ?_
      refine C.goto (off := 4) (tgt := 73) (by decide +kernel) (by decide) ?_
      refine Vsub [] rfl ?_
      exact l_X2_readIf_73 C C2 1 h6 hf
def f_X2_readIf (a0 : Nat) (h : AH) : Option (Int32 × AH) :=
  if isO 2 h a0 = true then
    b2 (f_X2_readSum a0 h) fun x1 h2 =>
    if x1 = 0 then
      some (0, h2)
    else
      (gA 2 h2 a0 0).bind fun a3 =>
      b2 (f_X7_sign a3 h2) fun x4 h5 =>
      if x4 = 60 then
        f_X2_readIf_44 a0 x4 h5
      else
        if x4 = 62 then
          f_X2_readIf_44 a0 x4 h5
        else
          if x4 = 61 then
            f_X2_readIf_44 a0 x4 h5
          else
            (gA 2 h5 a0 0).bind fun a6 =>
            b2 (f_X7_fail a6 1 h5) fun x7 h8 =>
            (ckZ x7).bind fun x9 =>
            some (x9, h8)
  else none
set_option maxRecDepth 100000 in
set_option maxHeartbeats 4000000 in
theorem w_X2_readIf {l : Launch} {G : GX} {a0 : Nat} {h : AH} {rr : Int32} {hr : AH} (hf : f_X2_readIf a0 h = some (rr, hr)) : Ct l G yX2_readIf 3 67 [.ref a0] h (QI rr hr) := by
  unfold f_X2_readIf at hf
  obtain ⟨ho, hf⟩ := ifO hf
  refine Ct_of (own := RX2) (cc := cX2_readIf) (nL := 2) (ret := (some .boolean)) rfl rfl k_1043 (Nat.le_of_ble_eq_true rfl) (fun X C2 C => ?_)
  show V X G h (QI rr hr) 0 [(0, .ref a0)] [] h
  refine C.seg (pe := 1) (lv' := [(0, .ref a0)]) (st' := [.ref a0]) [(.aload_n 0, 1, 0)] (by decide +kernel) rfl ?_
  obtain ⟨x1, h2, gx1, hf⟩ := b2_some hf
  refine C.callVr C2 [] [] mv_994 rfl (o_X2_readSum gx1) (w_X2_readSum gx1) (by omega) (by omega) (Nat.le_of_ble_eq_true rfl) (by decide +kernel) rfl ?_
  refine C.if_ne (off := 5) (tgt := 9) (pf := 7) (by decide +kernel) (by decide) rfl (fun c13 => ?_) (fun c13 => ?_)
  · replace hf := ifn c13 hf
    refine C.seg (pe := 10) (lv' := [(0, .ref a0)]) (st' := [.ref a0]) [(.aload_n 0, 1, 0)] (by decide +kernel) rfl ?_
    obtain ⟨a3, ga3, hf⟩ := Option.bind_eq_some_iff.mp hf
    refine C.rdA fr_443 ga3 (by decide +kernel) rfl ?_
    obtain ⟨x4, h5, gx4, hf⟩ := b2_some hf
    refine C.callVr C2 [] [] mv_998 rfl (o_X7_sign gx4) (w_X7_sign gx4) (by omega) (by omega) (Nat.le_of_ble_eq_true rfl) (by decide +kernel) rfl ?_
    refine C.seg (pe := 20) (lv' := [(1, .int x4), (0, .ref a0)]) (st' := [.int 60, .int x4]) [(.istore_n 1, 1, 0), (.iload_n 1, 1, 0), (.bipush 60, 2, 60)] (by decide +kernel) rfl ?_
    refine C.icmp_eq (off := 24) (tgt := 44) (pf := 23) (by decide +kernel) (by decide) rfl (fun c12 => ?_) (fun c12 => ?_)
    · replace hf := ifp c12 hf
      refine Vsub [1, 0] rfl ?_
      exact l_X2_readIf_44 C C2 a0 x4 h5 hf
    · replace hf := ifn c12 hf
      refine C.seg (pe := 26) (lv' := [(1, .int x4), (0, .ref a0)]) (st' := [.int 62, .int x4]) [(.iload_n 1, 1, 0), (.bipush 62, 2, 62)] (by decide +kernel) rfl ?_
      refine C.icmp_eq (off := 18) (tgt := 44) (pf := 29) (by decide +kernel) (by decide) rfl (fun c11 => ?_) (fun c11 => ?_)
      · replace hf := ifp c11 hf
        refine Vsub [1, 0] rfl ?_
        exact l_X2_readIf_44 C C2 a0 x4 h5 hf
      · replace hf := ifn c11 hf
        refine C.seg (pe := 32) (lv' := [(1, .int x4), (0, .ref a0)]) (st' := [.int 61, .int x4]) [(.iload_n 1, 1, 0), (.bipush 61, 2, 61)] (by decide +kernel) rfl ?_
        refine C.icmp_eq (off := 12) (tgt := 44) (pf := 35) (by decide +kernel) (by decide) rfl (fun c10 => ?_) (fun c10 => ?_)
        · replace hf := ifp c10 hf
          refine Vsub [1, 0] rfl ?_
          exact l_X2_readIf_44 C C2 a0 x4 h5 hf
        · replace hf := ifn c10 hf
          refine C.seg (pe := 36) (lv' := [(1, .int x4), (0, .ref a0)]) (st' := [.ref a0]) [(.aload_n 0, 1, 0)] (by decide +kernel) rfl ?_
          obtain ⟨a6, ga6, hf⟩ := Option.bind_eq_some_iff.mp hf
          refine C.rdA fr_443 ga6 (by decide +kernel) rfl ?_
          refine C.seg (pe := 40) (lv' := [(1, .int x4), (0, .ref a0)]) (st' := [.int 1, .ref a6]) [(.iconst 1, 1, 1)] (by decide +kernel) rfl ?_
          obtain ⟨x7, h8, gx7, hf⟩ := b2_some hf
          refine C.callVr C2 [.int 1] [] mv_966 rfl (o_X7_fail gx7) (w_X7_fail gx7) (by omega) (by omega) (Nat.le_of_ble_eq_true rfl) (by decide +kernel) rfl ?_
          obtain ⟨x9, gx9, hf⟩ := Option.bind_eq_some_iff.mp hf
          have ex9 := ckZ_eq gx9
          subst ex9
          cases hf
          exact C.retZ rfl gx9 (by decide +kernel) ⟨rfl, rfl⟩
  · replace hf := ifp c13 hf
    refine C.seg (pe := 8) (lv' := [(0, .ref a0)]) (st' := [.int 0]) [(.iconst 0, 1, 0)] (by decide +kernel) rfl ?_
    cases hf
    exact C.retZ rfl (by decide) (by decide +kernel) ⟨rfl, rfl⟩
theorem o_X2_readIf {a0 : Nat} {h : AH} {rr : Int32} {hr : AH} (hf : f_X2_readIf a0 h = some (rr, hr)) : isO 2 h a0 = true := by
  unfold f_X2_readIf at hf
  exact (ifO hf).1
/-! WallHouse$DrawingReader.readStep()Z -/
def f_X2_readStep_37 (r0 : Nat) (h : AH) : Option (Int32 × AH) :=
  (gA 2 h r0 0).bind fun a1 =>
  b2 (f_X7_fail a1 2 h) fun x2 h3 =>
  (ckZ x2).bind fun x4 =>
  some (x4, h3)
set_option maxRecDepth 100000 in
set_option maxHeartbeats 4000000 in
theorem l_X2_readStep_37 {X : MX} {l : Launch} {G : GX} {h0 : AH} {rr : Int32} {hr : AH} (C : Cx X G RX2 cX2_readStep 2 (some .boolean) 4 91 h0) (C2 : Cy X l "readStep" []) (r0 : Nat) (h : AH) (hf : f_X2_readStep_37 r0 h = some (rr, hr)) : V X G h0 (QI rr hr) 37 [(0, .ref r0)] [] h := by
  unfold f_X2_readStep_37 at hf
  refine C.seg (pe := 38) (lv' := [(0, .ref r0)]) (st' := [.ref r0]) [(.aload_n 0, 1, 0)] (by decide +kernel) rfl ?_
  obtain ⟨a1, ga1, hf⟩ := Option.bind_eq_some_iff.mp hf
  refine C.rdA fr_443 ga1 (by decide +kernel) rfl ?_
  refine C.seg (pe := 42) (lv' := [(0, .ref r0)]) (st' := [.int 2, .ref a1]) [(.iconst 2, 1, 2)] (by decide +kernel) rfl ?_
  obtain ⟨x2, h3, gx2, hf⟩ := b2_some hf
  refine C.callVr C2 [.int 2] [] mv_966 rfl (o_X7_fail gx2) (w_X7_fail gx2) (by omega) (by omega) (Nat.le_of_ble_eq_true rfl) (by decide +kernel) rfl ?_
  obtain ⟨x4, gx4, hf⟩ := Option.bind_eq_some_iff.mp hf
  have ex4 := ckZ_eq gx4
  subst ex4
  cases hf
  exact C.retZ rfl gx4 (by decide +kernel) ⟨rfl, rfl⟩
def f_X2_readStep (a0 : Nat) (h : AH) : Option (Int32 × AH) :=
  if isO 2 h a0 = true then
    (gA 2 h a0 0).bind fun a1 =>
    b2 (f_X7_kind a1 h) fun x2 h3 =>
    if x2 = 2 then
      (gA 2 h3 a0 0).bind fun a4 =>
      b2 (f_X7_name a4 h3) fun x5 h6 =>
      if x5 < 0 then
        f_X2_readStep_37 a0 h6
      else
        if x5 ≤ 4 then
          (gI 2 h6 a0 2).bind fun x7 =>
          if x7 < 40 then
            (gI 2 h6 a0 2).bind fun x8 =>
            (pI 2 h6 a0 2 (x8 + 1)).bind fun h9 =>
            (gA 2 h9 a0 1).bind fun a10 =>
            (f_X1_put a10 0 0 h9).bind fun h11 =>
            (gA 2 h11 a0 0).bind fun a12 =>
            (f_X7_advance a12 h11).bind fun h13 =>
            if x5 = 0 then
              b2 (f_X2_readShape a0 6 4 h13) fun x21 h22 =>
              (ckZ x21).bind fun x23 =>
              some (x23, h22)
            else
              if x5 = 1 then
                b2 (f_X2_readShape a0 7 3 h13) fun x24 h25 =>
                (ckZ x24).bind fun x26 =>
                some (x26, h25)
              else
                if x5 = 2 then
                  b2 (f_X2_readSay a0 h13) fun x27 h28 =>
                  (ckZ x27).bind fun x29 =>
                  some (x29, h28)
                else
                  if x5 = 3 then
                    b2 (f_X2_readEach a0 h13) fun x30 h31 =>
                    (ckZ x30).bind fun x32 =>
                    some (x32, h31)
                  else
                    b2 (f_X2_readIf a0 h13) fun x14 h15 =>
                    (ckZ x14).bind fun x16 =>
                    some (x16, h15)
          else
            (gA 2 h6 a0 0).bind fun a33 =>
            b2 (f_X7_fail a33 4 h6) fun x34 h35 =>
            (ckZ x34).bind fun x36 =>
            some (x36, h35)
        else
          f_X2_readStep_37 a0 h6
    else
      (gA 2 h3 a0 0).bind fun a40 =>
      b2 (f_X7_fail a40 1 h3) fun x41 h42 =>
      (ckZ x41).bind fun x43 =>
      some (x43, h42)
  else none
set_option maxRecDepth 100000 in
set_option maxHeartbeats 4000000 in
theorem w_X2_readStep {l : Launch} {G : GX} {a0 : Nat} {h : AH} {rr : Int32} {hr : AH} (hf : f_X2_readStep a0 h = some (rr, hr)) : Ct l G yX2_readStep 4 91 [.ref a0] h (QI rr hr) := by
  unfold f_X2_readStep at hf
  obtain ⟨ho, hf⟩ := ifO hf
  refine Ct_of (own := RX2) (cc := cX2_readStep) (nL := 2) (ret := (some .boolean)) rfl rfl k_961 (Nat.le_of_ble_eq_true rfl) (fun X C2 C => ?_)
  show V X G h (QI rr hr) 0 [(0, .ref a0)] [] h
  refine C.seg (pe := 1) (lv' := [(0, .ref a0)]) (st' := [.ref a0]) [(.aload_n 0, 1, 0)] (by decide +kernel) rfl ?_
  obtain ⟨a1, ga1, hf⟩ := Option.bind_eq_some_iff.mp hf
  refine C.rdA fr_443 ga1 (by decide +kernel) rfl ?_
  obtain ⟨x2, h3, gx2, hf⟩ := b2_some hf
  refine C.callVr C2 [] [] mv_962 rfl (o_X7_kind gx2) (w_X7_kind gx2) (by omega) (by omega) (Nat.le_of_ble_eq_true rfl) (by decide +kernel) rfl ?_
  refine C.seg (pe := 8) (lv' := [(0, .ref a0)]) (st' := [.int 2, .int x2]) [(.iconst 2, 1, 2)] (by decide +kernel) rfl ?_
  refine C.icmp_eq (off := 12) (tgt := 20) (pf := 11) (by decide +kernel) (by decide) rfl (fun c44 => ?_) (fun c44 => ?_)
  · replace hf := ifp c44 hf
    refine C.seg (pe := 21) (lv' := [(0, .ref a0)]) (st' := [.ref a0]) [(.aload_n 0, 1, 0)] (by decide +kernel) rfl ?_
    obtain ⟨a4, ga4, hf⟩ := Option.bind_eq_some_iff.mp hf
    refine C.rdA fr_443 ga4 (by decide +kernel) rfl ?_
    obtain ⟨x5, h6, gx5, hf⟩ := b2_some hf
    refine C.callVr C2 [] [] mv_970 rfl (o_X7_name gx5) (w_X7_name gx5) (by omega) (by omega) (Nat.le_of_ble_eq_true rfl) (by decide +kernel) rfl ?_
    refine C.seg (pe := 29) (lv' := [(1, .int x5), (0, .ref a0)]) (st' := [.int x5]) [(.istore_n 1, 1, 0), (.iload_n 1, 1, 0)] (by decide +kernel) rfl ?_
    refine C.if_lt (off := 8) (tgt := 37) (pf := 32) (by decide +kernel) (by decide) rfl (fun c39 => ?_) (fun c39 => ?_)
    · replace hf := ifp c39 hf
      refine Vsub [1] rfl ?_
      exact l_X2_readStep_37 C C2 a0 h6 hf
    · replace hf := ifn c39 hf
      refine C.seg (pe := 34) (lv' := [(1, .int x5), (0, .ref a0)]) (st' := [.int 4, .int x5]) [(.iload_n 1, 1, 0), (.iconst 4, 1, 4)] (by decide +kernel) rfl ?_
      refine C.icmp_le (off := 12) (tgt := 46) (pf := 37) (by decide +kernel) (by decide) rfl (fun c38 => ?_) (fun c38 => ?_)
      · replace hf := ifp c38 hf
        refine C.seg (pe := 47) (lv' := [(1, .int x5), (0, .ref a0)]) (st' := [.ref a0]) [(.aload_n 0, 1, 0)] (by decide +kernel) rfl ?_
        obtain ⟨x7, gx7, hf⟩ := Option.bind_eq_some_iff.mp hf
        refine C.rdI fr_446 gx7 (by decide +kernel) rfl ?_
        refine C.seg (pe := 52) (lv' := [(1, .int x5), (0, .ref a0)]) (st' := [.int 40, .int x7]) [(.bipush 40, 2, 40)] (by decide +kernel) rfl ?_
        refine C.icmp_lt (off := 12) (tgt := 64) (pf := 55) (by decide +kernel) (by decide) rfl (fun c37 => ?_) (fun c37 => ?_)
        · replace hf := ifp c37 hf
          refine C.seg (pe := 66) (lv' := [(1, .int x5), (0, .ref a0)]) (st' := [.ref a0, .ref a0]) [(.aload_n 0, 1, 0), (.dup, 1, 0)] (by decide +kernel) rfl ?_
          obtain ⟨x8, gx8, hf⟩ := Option.bind_eq_some_iff.mp hf
          refine C.rdI fr_446 gx8 (by decide +kernel) rfl ?_
          refine C.seg (pe := 71) (lv' := [(1, .int x5), (0, .ref a0)]) (st' := [.int (x8 + 1), .ref a0]) [(.iconst 1, 1, 1), (.iadd, 1, 0)] (by decide +kernel) rfl ?_
          obtain ⟨h9, gh9, hf⟩ := Option.bind_eq_some_iff.mp hf
          refine C.putI fl_446 gh9 (by decide +kernel) rfl ?_
          refine C.seg (pe := 75) (lv' := [(1, .int x5), (0, .ref a0)]) (st' := [.ref a0]) [(.aload_n 0, 1, 0)] (by decide +kernel) rfl ?_
          obtain ⟨a10, ga10, hf⟩ := Option.bind_eq_some_iff.mp hf
          refine C.rdA fr_444 ga10 (by decide +kernel) rfl ?_
          refine C.seg (pe := 80) (lv' := [(1, .int x5), (0, .ref a0)]) (st' := [.int 0, .int 0, .ref a10]) [(.iconst 0, 1, 0), (.iconst 0, 1, 0)] (by decide +kernel) rfl ?_
          obtain ⟨h11, gh11, hf⟩ := Option.bind_eq_some_iff.mp hf
          refine C.callVr C2 [.int 0, .int 0] [] mv_974 rfl (o_X1_put gh11) (w_X1_put gh11) (by omega) (by omega) (Nat.le_of_ble_eq_true rfl) (by decide +kernel) rfl ?_
          refine C.seg (pe := 84) (lv' := [(1, .int x5), (0, .ref a0)]) (st' := [.ref a0]) [(.aload_n 0, 1, 0)] (by decide +kernel) rfl ?_
          obtain ⟨a12, ga12, hf⟩ := Option.bind_eq_some_iff.mp hf
          refine C.rdA fr_443 ga12 (by decide +kernel) rfl ?_
          obtain ⟨h13, gh13, hf⟩ := Option.bind_eq_some_iff.mp hf
          refine C.callVr C2 [] [] mv_978 rfl (o_X7_advance gh13) (w_X7_advance gh13) (by omega) (by omega) (Nat.le_of_ble_eq_true rfl) (by decide +kernel) rfl ?_
          refine C.seg (pe := 91) (lv' := [(1, .int x5), (0, .ref a0)]) (st' := [.int x5]) [(.iload_n 1, 1, 0)] (by decide +kernel) rfl ?_
          by_cases c17 : x5 = 0
          · replace hf := ifp c17 hf
            refine C.tsIn (len := 29) (dflt := 55) (a := 0) (b := 3) (offs := #[29, 37, 45, 50]) (k := 0) (off := 29) (tgt := 120) c17 (by decide +kernel) (by decide) (by decide) rfl (by decide) ?_
            refine C.seg (pe := 124) (lv' := [(1, .int x5), (0, .ref a0)]) (st' := [.int 4, .int 6, .ref a0]) [(.aload_n 0, 1, 0), (.bipush 6, 2, 6), (.iconst 4, 1, 4)] (by decide +kernel) rfl ?_
            obtain ⟨x21, h22, gx21, hf⟩ := b2_some hf
            refine C.callVr C2 [.int 6, .int 4] [] mv_982 rfl (o_X2_readShape gx21) (w_X2_readShape gx21) (by omega) (by omega) (Nat.le_of_ble_eq_true rfl) (by decide +kernel) rfl ?_
            obtain ⟨x23, gx23, hf⟩ := Option.bind_eq_some_iff.mp hf
            have ex23 := ckZ_eq gx23
            subst ex23
            cases hf
            exact C.retZ rfl gx23 (by decide +kernel) ⟨rfl, rfl⟩
          · replace hf := ifn c17 hf
            by_cases c18 : x5 = 1
            · replace hf := ifp c18 hf
              refine C.tsIn (len := 29) (dflt := 55) (a := 0) (b := 3) (offs := #[29, 37, 45, 50]) (k := 1) (off := 37) (tgt := 128) c18 (by decide +kernel) (by decide) (by decide) rfl (by decide) ?_
              refine C.seg (pe := 132) (lv' := [(1, .int x5), (0, .ref a0)]) (st' := [.int 3, .int 7, .ref a0]) [(.aload_n 0, 1, 0), (.bipush 7, 2, 7), (.iconst 3, 1, 3)] (by decide +kernel) rfl ?_
              obtain ⟨x24, h25, gx24, hf⟩ := b2_some hf
              refine C.callVr C2 [.int 7, .int 3] [] mv_982 rfl (o_X2_readShape gx24) (w_X2_readShape gx24) (by omega) (by omega) (Nat.le_of_ble_eq_true rfl) (by decide +kernel) rfl ?_
              obtain ⟨x26, gx26, hf⟩ := Option.bind_eq_some_iff.mp hf
              have ex26 := ckZ_eq gx26
              subst ex26
              cases hf
              exact C.retZ rfl gx26 (by decide +kernel) ⟨rfl, rfl⟩
            · replace hf := ifn c18 hf
              by_cases c19 : x5 = 2
              · replace hf := ifp c19 hf
                refine C.tsIn (len := 29) (dflt := 55) (a := 0) (b := 3) (offs := #[29, 37, 45, 50]) (k := 2) (off := 45) (tgt := 136) c19 (by decide +kernel) (by decide) (by decide) rfl (by decide) ?_
                refine C.seg (pe := 137) (lv' := [(1, .int x5), (0, .ref a0)]) (st' := [.ref a0]) [(.aload_n 0, 1, 0)] (by decide +kernel) rfl ?_
                obtain ⟨x27, h28, gx27, hf⟩ := b2_some hf
                refine C.callVr C2 [] [] mv_1023 rfl (o_X2_readSay gx27) (w_X2_readSay gx27) (by omega) (by omega) (Nat.le_of_ble_eq_true rfl) (by decide +kernel) rfl ?_
                obtain ⟨x29, gx29, hf⟩ := Option.bind_eq_some_iff.mp hf
                have ex29 := ckZ_eq gx29
                subst ex29
                cases hf
                exact C.retZ rfl gx29 (by decide +kernel) ⟨rfl, rfl⟩
              · replace hf := ifn c19 hf
                by_cases c20 : x5 = 3
                · replace hf := ifp c20 hf
                  refine C.tsIn (len := 29) (dflt := 55) (a := 0) (b := 3) (offs := #[29, 37, 45, 50]) (k := 3) (off := 50) (tgt := 141) c20 (by decide +kernel) (by decide) (by decide) rfl (by decide) ?_
                  refine C.seg (pe := 142) (lv' := [(1, .int x5), (0, .ref a0)]) (st' := [.ref a0]) [(.aload_n 0, 1, 0)] (by decide +kernel) rfl ?_
                  obtain ⟨x30, h31, gx30, hf⟩ := b2_some hf
                  refine C.callVr C2 [] [] mv_1032 rfl (o_X2_readEach gx30) (w_X2_readEach gx30) (by omega) (by omega) (Nat.le_of_ble_eq_true rfl) (by decide +kernel) rfl ?_
                  obtain ⟨x32, gx32, hf⟩ := Option.bind_eq_some_iff.mp hf
                  have ex32 := ckZ_eq gx32
                  subst ex32
                  cases hf
                  exact C.retZ rfl gx32 (by decide +kernel) ⟨rfl, rfl⟩
                · replace hf := ifn c20 hf
                  have qc17 := lv_neT c17 (by decide : (0 : Int32).toInt = 0)
                  have qc18 := lv_neT c18 (by decide : (1 : Int32).toInt = 1)
                  have qc19 := lv_neT c19 (by decide : (2 : Int32).toInt = 2)
                  have qc20 := lv_neT c20 (by decide : (3 : Int32).toInt = 3)
                  refine C.tsOut (len := 29) (dflt := 55) (a := 0) (b := 3) (offs := #[29, 37, 45, 50]) (tgt := 146) (by decide +kernel) (by omega) (by decide) ?_
                  refine C.seg (pe := 147) (lv' := [(1, .int x5), (0, .ref a0)]) (st' := [.ref a0]) [(.aload_n 0, 1, 0)] (by decide +kernel) rfl ?_
                  obtain ⟨x14, h15, gx14, hf⟩ := b2_some hf
                  refine C.callVr C2 [] [] mv_1040 rfl (o_X2_readIf gx14) (w_X2_readIf gx14) (by omega) (by omega) (Nat.le_of_ble_eq_true rfl) (by decide +kernel) rfl ?_
                  obtain ⟨x16, gx16, hf⟩ := Option.bind_eq_some_iff.mp hf
                  have ex16 := ckZ_eq gx16
                  subst ex16
                  cases hf
                  exact C.retZ rfl gx16 (by decide +kernel) ⟨rfl, rfl⟩
        · replace hf := ifn c37 hf
          refine C.seg (pe := 56) (lv' := [(1, .int x5), (0, .ref a0)]) (st' := [.ref a0]) [(.aload_n 0, 1, 0)] (by decide +kernel) rfl ?_
          obtain ⟨a33, ga33, hf⟩ := Option.bind_eq_some_iff.mp hf
          refine C.rdA fr_443 ga33 (by decide +kernel) rfl ?_
          refine C.seg (pe := 60) (lv' := [(1, .int x5), (0, .ref a0)]) (st' := [.int 4, .ref a33]) [(.iconst 4, 1, 4)] (by decide +kernel) rfl ?_
          obtain ⟨x34, h35, gx34, hf⟩ := b2_some hf
          refine C.callVr C2 [.int 4] [] mv_966 rfl (o_X7_fail gx34) (w_X7_fail gx34) (by omega) (by omega) (Nat.le_of_ble_eq_true rfl) (by decide +kernel) rfl ?_
          obtain ⟨x36, gx36, hf⟩ := Option.bind_eq_some_iff.mp hf
          have ex36 := ckZ_eq gx36
          subst ex36
          cases hf
          exact C.retZ rfl gx36 (by decide +kernel) ⟨rfl, rfl⟩
      · replace hf := ifn c38 hf
        refine Vsub [1] rfl ?_
        exact l_X2_readStep_37 C C2 a0 h6 hf
  · replace hf := ifn c44 hf
    refine C.seg (pe := 12) (lv' := [(0, .ref a0)]) (st' := [.ref a0]) [(.aload_n 0, 1, 0)] (by decide +kernel) rfl ?_
    obtain ⟨a40, ga40, hf⟩ := Option.bind_eq_some_iff.mp hf
    refine C.rdA fr_443 ga40 (by decide +kernel) rfl ?_
    refine C.seg (pe := 16) (lv' := [(0, .ref a0)]) (st' := [.int 1, .ref a40]) [(.iconst 1, 1, 1)] (by decide +kernel) rfl ?_
    obtain ⟨x41, h42, gx41, hf⟩ := b2_some hf
    refine C.callVr C2 [.int 1] [] mv_966 rfl (o_X7_fail gx41) (w_X7_fail gx41) (by omega) (by omega) (Nat.le_of_ble_eq_true rfl) (by decide +kernel) rfl ?_
    obtain ⟨x43, gx43, hf⟩ := Option.bind_eq_some_iff.mp hf
    have ex43 := ckZ_eq gx43
    subst ex43
    cases hf
    exact C.retZ rfl gx43 (by decide +kernel) ⟨rfl, rfl⟩
theorem o_X2_readStep {a0 : Nat} {h : AH} {rr : Int32} {hr : AH} (hf : f_X2_readStep a0 h = some (rr, hr)) : isO 2 h a0 = true := by
  unfold f_X2_readStep at hf
  exact (ifO hf).1
/-! WallHouse$DrawingReader.closeBrackets()V -/
def f_X2_closeBrackets_115 (h : AH) : Option (AH) :=
  some h
set_option maxRecDepth 100000 in
set_option maxHeartbeats 4000000 in
theorem l_X2_closeBrackets_115 {X : MX} {l : Launch} {G : GX} {h0 : AH} {hr : AH} (C : Cx X G RX2 cX2_closeBrackets 2 none 2 40 h0) (C2 : Cy X l "closeBrackets" []) (h : AH) (hf : f_X2_closeBrackets_115 h = some hr) : V X G h0 (QV hr) 115 [] [] h := by
  unfold f_X2_closeBrackets_115 at hf
  cases hf
  exact C.retV rfl (by decide +kernel) ⟨rfl, rfl⟩
def f_X2_closeBrackets_97 (k0 : Nat → AH → Option (AH)) (r0 : Nat) (i1 : Int32) (h : AH) : Option (AH) :=
  (gA 2 h r0 1).bind fun a1 =>
  (f_X1_aim a1 i1 h).bind fun h2 =>
  (gA 2 h2 r0 0).bind fun a3 =>
  (f_X7_advance a3 h2).bind fun h4 =>
  k0 r0 h4
set_option maxRecDepth 100000 in
set_option maxHeartbeats 4000000 in
theorem l_X2_closeBrackets_97 {X : MX} {l : Launch} {G : GX} {h0 : AH} {hr : AH} (C : Cx X G RX2 cX2_closeBrackets 2 none 2 40 h0) (C2 : Cy X l "closeBrackets" []) {k0 : Nat → AH → Option (AH)} (hk0 : ∀ (r0 : Nat) (h : AH), k0 r0 h = some hr → V X G h0 (QV hr) 0 [(0, .ref r0)] [] h) (r0 : Nat) (i1 : Int32) (h : AH) (hf : f_X2_closeBrackets_97 k0 r0 i1 h = some hr) : V X G h0 (QV hr) 97 [(0, .ref r0), (1, .int i1)] [] h := by
  unfold f_X2_closeBrackets_97 at hf
  refine C.seg (pe := 98) (lv' := [(0, .ref r0), (1, .int i1)]) (st' := [.ref r0]) [(.aload_n 0, 1, 0)] (by decide +kernel) rfl ?_
  obtain ⟨a1, ga1, hf⟩ := Option.bind_eq_some_iff.mp hf
  refine C.rdA fr_444 ga1 (by decide +kernel) rfl ?_
  refine C.seg (pe := 102) (lv' := [(0, .ref r0), (1, .int i1)]) (st' := [.int i1, .ref a1]) [(.iload_n 1, 1, 0)] (by decide +kernel) rfl ?_
  obtain ⟨h2, gh2, hf⟩ := Option.bind_eq_some_iff.mp hf
  refine C.callVr C2 [.int i1] [] mv_1048 rfl (o_X1_aim gh2) (w_X1_aim gh2) (by omega) (by omega) (Nat.le_of_ble_eq_true rfl) (by decide +kernel) rfl ?_
  refine C.seg (pe := 106) (lv' := [(0, .ref r0), (1, .int i1)]) (st' := [.ref r0]) [(.aload_n 0, 1, 0)] (by decide +kernel) rfl ?_
  obtain ⟨a3, ga3, hf⟩ := Option.bind_eq_some_iff.mp hf
  refine C.rdA fr_443 ga3 (by decide +kernel) rfl ?_
  obtain ⟨h4, gh4, hf⟩ := Option.bind_eq_some_iff.mp hf
  refine C.callVr C2 [] [] mv_978 rfl (o_X7_advance gh4) (w_X7_advance gh4) (by omega) (by omega) (Nat.le_of_ble_eq_true rfl) (by decide +kernel) rfl ?_
  refine C.goto (off := (-112)) (tgt := 0) (by decide +kernel) (by decide) ?_
  refine Vsub [0] rfl ?_
  exact hk0 r0 h4 hf
def f_X2_closeBrackets_0 : Nat → Nat → AH → Option (AH)
  | 0, _, _ => none
  | n + 1, r0, h =>
    (gI 2 h r0 5).bind fun x1 =>
    if x1 ≤ 0 then
      f_X2_closeBrackets_115 h
    else
      (gA 2 h r0 0).bind fun a2 =>
      b2 (f_X7_sign a2 h) fun x3 h4 =>
      if x3 = 93 then
        (gI 2 h4 r0 5).bind fun x5 =>
        (pI 2 h4 r0 5 (x5 - 1)).bind fun h6 =>
        (gA 2 h6 r0 4).bind fun a7 =>
        (gI 2 h6 r0 5).bind fun x8 =>
        (aI 0 h6 a7 x8).bind fun x9 =>
        if x9 < 0 then
          f_X2_closeBrackets_97 (f_X2_closeBrackets_0 n) r0 x9 h6
        else
          (gA 2 h6 r0 1).bind fun a10 =>
          (gI 1 h6 a10 4).bind fun x11 =>
          if x11 ≤ x9 then
            f_X2_closeBrackets_97 (f_X2_closeBrackets_0 n) r0 x9 h6
          else
            (gA 2 h6 r0 1).bind fun a12 =>
            (gA 1 h6 a12 0).bind fun a13 =>
            (aI 1 h6 a13 x9).bind fun x14 =>
            if x14 = 9 then
              (gA 2 h6 r0 1).bind fun a15 =>
              (f_X1_put a15 10 0 h6).bind fun h16 =>
              (gA 2 h16 r0 1).bind fun a17 =>
              (gA 1 h16 a17 2).bind fun a18 =>
              (gA 2 h16 r0 1).bind fun a19 =>
              (gI 1 h16 a19 4).bind fun x20 =>
              (sI 3 h16 a18 (x20 - 1) x9.toInt16.toInt32).bind fun h21 =>
              f_X2_closeBrackets_97 (f_X2_closeBrackets_0 n) r0 x9 h21
            else
              f_X2_closeBrackets_97 (f_X2_closeBrackets_0 n) r0 x9 h6
      else
        f_X2_closeBrackets_115 h4
set_option maxRecDepth 100000 in
set_option maxHeartbeats 4000000 in
theorem l_X2_closeBrackets_0 {X : MX} {l : Launch} {G : GX} {h0 : AH} {hr : AH} (C : Cx X G RX2 cX2_closeBrackets 2 none 2 40 h0) (C2 : Cy X l "closeBrackets" []) : ∀ (n : Nat) (r0 : Nat) (h : AH), f_X2_closeBrackets_0 n r0 h = some hr → V X G h0 (QV hr) 0 [(0, .ref r0)] [] h := by
  intro n
  induction n with
  | zero => intro r0 h hf; rw [f_X2_closeBrackets_0] at hf; cases hf
  | succ n ih =>
    intro r0 h hf
    rw [f_X2_closeBrackets_0] at hf
    refine C.seg (pe := 1) (lv' := [(0, .ref r0)]) (st' := [.ref r0]) [(.aload_n 0, 1, 0)] (by decide +kernel) rfl ?_
    obtain ⟨x1, gx1, hf⟩ := Option.bind_eq_some_iff.mp hf
    refine C.rdI fr_449 gx1 (by decide +kernel) rfl ?_
    refine C.if_le (off := 111) (tgt := 115) (pf := 7) (by decide +kernel) (by decide) rfl (fun c26 => ?_) (fun c26 => ?_)
    · replace hf := ifp c26 hf
      refine Vsub [] rfl ?_
      exact l_X2_closeBrackets_115 C C2 h hf
    · replace hf := ifn c26 hf
      refine C.seg (pe := 8) (lv' := [(0, .ref r0)]) (st' := [.ref r0]) [(.aload_n 0, 1, 0)] (by decide +kernel) rfl ?_
      obtain ⟨a2, ga2, hf⟩ := Option.bind_eq_some_iff.mp hf
      refine C.rdA fr_443 ga2 (by decide +kernel) rfl ?_
      obtain ⟨x3, h4, gx3, hf⟩ := b2_some hf
      refine C.callVr C2 [] [] mv_998 rfl (o_X7_sign gx3) (w_X7_sign gx3) (by omega) (by omega) (Nat.le_of_ble_eq_true rfl) (by decide +kernel) rfl ?_
      refine C.seg (pe := 16) (lv' := [(0, .ref r0)]) (st' := [.int 93, .int x3]) [(.bipush 93, 2, 93)] (by decide +kernel) rfl ?_
      refine C.icmp_ne (off := 99) (tgt := 115) (pf := 19) (by decide +kernel) (by decide) rfl (fun c25 => ?_) (fun c25 => ?_)
      · replace hf := ifn c25 hf
        refine Vsub [] rfl ?_
        exact l_X2_closeBrackets_115 C C2 h4 hf
      · replace hf := ifp c25 hf
        refine C.seg (pe := 21) (lv' := [(0, .ref r0)]) (st' := [.ref r0, .ref r0]) [(.aload_n 0, 1, 0), (.dup, 1, 0)] (by decide +kernel) rfl ?_
        obtain ⟨x5, gx5, hf⟩ := Option.bind_eq_some_iff.mp hf
        refine C.rdI fr_449 gx5 (by decide +kernel) rfl ?_
        refine C.seg (pe := 26) (lv' := [(0, .ref r0)]) (st' := [.int (x5 - 1), .ref r0]) [(.iconst 1, 1, 1), (.isub, 1, 0)] (by decide +kernel) rfl ?_
        obtain ⟨h6, gh6, hf⟩ := Option.bind_eq_some_iff.mp hf
        refine C.putI fl_449 gh6 (by decide +kernel) rfl ?_
        refine C.seg (pe := 30) (lv' := [(0, .ref r0)]) (st' := [.ref r0]) [(.aload_n 0, 1, 0)] (by decide +kernel) rfl ?_
        obtain ⟨a7, ga7, hf⟩ := Option.bind_eq_some_iff.mp hf
        refine C.rdA fr_448 ga7 (by decide +kernel) rfl ?_
        refine C.seg (pe := 34) (lv' := [(0, .ref r0)]) (st' := [.ref r0, .ref a7]) [(.aload_n 0, 1, 0)] (by decide +kernel) rfl ?_
        obtain ⟨x8, gx8, hf⟩ := Option.bind_eq_some_iff.mp hf
        refine C.rdI fr_449 gx8 (by decide +kernel) rfl ?_
        obtain ⟨x9, gx9, hf⟩ := Option.bind_eq_some_iff.mp hf
        refine C.ald 0 rfl gx9 (by decide +kernel) rfl ?_
        refine C.seg (pe := 40) (lv' := [(1, .int x9), (0, .ref r0)]) (st' := [.int x9]) [(.istore_n 1, 1, 0), (.iload_n 1, 1, 0)] (by decide +kernel) rfl ?_
        refine C.if_lt (off := 57) (tgt := 97) (pf := 43) (by decide +kernel) (by decide) rfl (fun c24 => ?_) (fun c24 => ?_)
        · replace hf := ifp c24 hf
          refine Vsub [1, 0] rfl ?_
          exact l_X2_closeBrackets_97 C C2 ih r0 x9 h6 hf
        · replace hf := ifn c24 hf
          refine C.seg (pe := 45) (lv' := [(1, .int x9), (0, .ref r0)]) (st' := [.ref r0, .int x9]) [(.iload_n 1, 1, 0), (.aload_n 0, 1, 0)] (by decide +kernel) rfl ?_
          obtain ⟨a10, ga10, hf⟩ := Option.bind_eq_some_iff.mp hf
          refine C.rdA fr_444 ga10 (by decide +kernel) rfl ?_
          obtain ⟨x11, gx11, hf⟩ := Option.bind_eq_some_iff.mp hf
          refine C.rdI fr_426 gx11 (by decide +kernel) rfl ?_
          refine C.icmp_ge (off := 46) (tgt := 97) (pf := 54) (by decide +kernel) (by decide) rfl (fun c23 => ?_) (fun c23 => ?_)
          · replace hf := ifp c23 hf
            refine Vsub [1, 0] rfl ?_
            exact l_X2_closeBrackets_97 C C2 ih r0 x9 h6 hf
          · replace hf := ifn c23 hf
            refine C.seg (pe := 55) (lv' := [(1, .int x9), (0, .ref r0)]) (st' := [.ref r0]) [(.aload_n 0, 1, 0)] (by decide +kernel) rfl ?_
            obtain ⟨a12, ga12, hf⟩ := Option.bind_eq_some_iff.mp hf
            refine C.rdA fr_444 ga12 (by decide +kernel) rfl ?_
            obtain ⟨a13, ga13, hf⟩ := Option.bind_eq_some_iff.mp hf
            refine C.rdA fr_416 ga13 (by decide +kernel) rfl ?_
            refine C.seg (pe := 62) (lv' := [(1, .int x9), (0, .ref r0)]) (st' := [.int x9, .ref a13]) [(.iload_n 1, 1, 0)] (by decide +kernel) rfl ?_
            obtain ⟨x14, gx14, hf⟩ := Option.bind_eq_some_iff.mp hf
            refine C.bald 1 rfl gx14 (by decide +kernel) rfl ?_
            refine C.seg (pe := 65) (lv' := [(1, .int x9), (0, .ref r0)]) (st' := [.int 9, .int x14]) [(.bipush 9, 2, 9)] (by decide +kernel) rfl ?_
            refine C.icmp_ne (off := 32) (tgt := 97) (pf := 68) (by decide +kernel) (by decide) rfl (fun c22 => ?_) (fun c22 => ?_)
            · replace hf := ifn c22 hf
              refine Vsub [1, 0] rfl ?_
              exact l_X2_closeBrackets_97 C C2 ih r0 x9 h6 hf
            · replace hf := ifp c22 hf
              refine C.seg (pe := 69) (lv' := [(1, .int x9), (0, .ref r0)]) (st' := [.ref r0]) [(.aload_n 0, 1, 0)] (by decide +kernel) rfl ?_
              obtain ⟨a15, ga15, hf⟩ := Option.bind_eq_some_iff.mp hf
              refine C.rdA fr_444 ga15 (by decide +kernel) rfl ?_
              refine C.seg (pe := 75) (lv' := [(1, .int x9), (0, .ref r0)]) (st' := [.int 0, .int 10, .ref a15]) [(.bipush 10, 2, 10), (.iconst 0, 1, 0)] (by decide +kernel) rfl ?_
              obtain ⟨h16, gh16, hf⟩ := Option.bind_eq_some_iff.mp hf
              refine C.callVr C2 [.int 10, .int 0] [] mv_974 rfl (o_X1_put gh16) (w_X1_put gh16) (by omega) (by omega) (Nat.le_of_ble_eq_true rfl) (by decide +kernel) rfl ?_
              refine C.seg (pe := 79) (lv' := [(1, .int x9), (0, .ref r0)]) (st' := [.ref r0]) [(.aload_n 0, 1, 0)] (by decide +kernel) rfl ?_
              obtain ⟨a17, ga17, hf⟩ := Option.bind_eq_some_iff.mp hf
              refine C.rdA fr_444 ga17 (by decide +kernel) rfl ?_
              obtain ⟨a18, ga18, hf⟩ := Option.bind_eq_some_iff.mp hf
              refine C.rdA fr_421 ga18 (by decide +kernel) rfl ?_
              refine C.seg (pe := 86) (lv' := [(1, .int x9), (0, .ref r0)]) (st' := [.ref r0, .ref a18]) [(.aload_n 0, 1, 0)] (by decide +kernel) rfl ?_
              obtain ⟨a19, ga19, hf⟩ := Option.bind_eq_some_iff.mp hf
              refine C.rdA fr_444 ga19 (by decide +kernel) rfl ?_
              obtain ⟨x20, gx20, hf⟩ := Option.bind_eq_some_iff.mp hf
              refine C.rdI fr_426 gx20 (by decide +kernel) rfl ?_
              refine C.seg (pe := 96) (lv' := [(1, .int x9), (0, .ref r0)]) (st' := [.int x9.toInt16.toInt32, .int (x20 - 1), .ref a18]) [(.iconst 1, 1, 1), (.isub, 1, 0), (.iload_n 1, 1, 0), (.i2s, 1, 0)] (by decide +kernel) rfl ?_
              obtain ⟨h21, gh21, hf⟩ := Option.bind_eq_some_iff.mp hf
              refine C.sast gh21 (by decide +kernel) rfl ?_
              refine Vsub [1, 0] rfl ?_
              exact l_X2_closeBrackets_97 C C2 ih r0 x9 h21 hf
def f_X2_closeBrackets (a0 : Nat) (h : AH) : Option (AH) :=
  if isO 2 h a0 = true then
    f_X2_closeBrackets_0 FU a0 h
  else none
set_option maxRecDepth 100000 in
set_option maxHeartbeats 4000000 in
theorem w_X2_closeBrackets {l : Launch} {G : GX} {a0 : Nat} {h : AH} {hr : AH} (hf : f_X2_closeBrackets a0 h = some hr) : Ct l G yX2_closeBrackets 2 40 [.ref a0] h (QV hr) := by
  unfold f_X2_closeBrackets at hf
  obtain ⟨ho, hf⟩ := ifO hf
  refine Ct_of (own := RX2) (cc := cX2_closeBrackets) (nL := 2) (ret := none) rfl rfl k_1047 (Nat.le_of_ble_eq_true rfl) (fun X C2 C => ?_)
  show V X G h (QV hr) 0 [(0, .ref a0)] [] h
  exact l_X2_closeBrackets_0 C C2 FU a0 h hf
theorem o_X2_closeBrackets {a0 : Nat} {h : AH} {hr : AH} (hf : f_X2_closeBrackets a0 h = some hr) : isO 2 h a0 = true := by
  unfold f_X2_closeBrackets at hf
  exact (ifO hf).1
/-! WallHouse$DrawingReader.read()V -/
def f_X2_read_104 (k24 : Nat → Int32 → AH → Option (AH)) (r0 : Nat) (i1 : Int32) (h : AH) : Option (AH) :=
  k24 r0 (i1 + 1) h
set_option maxRecDepth 100000 in
set_option maxHeartbeats 4000000 in
theorem l_X2_read_104 {X : MX} {l : Launch} {G : GX} {h0 : AH} {hr : AH} (C : Cx X G RX2 cX2_read 3 none 5 112 h0) (C2 : Cy X l "read" []) {k24 : Nat → Int32 → AH → Option (AH)} (hk24 : ∀ (r0 : Nat) (i1 : Int32) (h : AH), k24 r0 i1 h = some hr → V X G h0 (QV hr) 24 [(0, .ref r0), (1, .int i1)] [] h) (r0 : Nat) (i1 : Int32) (h : AH) (hf : f_X2_read_104 k24 r0 i1 h = some hr) : V X G h0 (QV hr) 104 [(0, .ref r0), (1, .int i1)] [] h := by
  unfold f_X2_read_104 at hf
  refine C.seg (pe := 107) (lv' := [(1, .int (i1 + 1)), (0, .ref r0)]) (st' := []) [(.iinc 1 1, 3, 1)] (by decide +kernel) rfl ?_
  refine C.goto (off := (-83)) (tgt := 24) (by decide +kernel) (by decide) ?_
  refine Vsub [1, 0] rfl ?_
  exact hk24 r0 (i1 + 1) h hf
def f_X2_read_96 (h : AH) : Option (AH) :=
  some h
set_option maxRecDepth 100000 in
set_option maxHeartbeats 4000000 in
theorem l_X2_read_96 {X : MX} {l : Launch} {G : GX} {h0 : AH} {hr : AH} (C : Cx X G RX2 cX2_read 3 none 5 112 h0) (C2 : Cy X l "read" []) (h : AH) (hf : f_X2_read_96 h = some hr) : V X G h0 (QV hr) 96 [] [] h := by
  unfold f_X2_read_96 at hf
  cases hf
  exact C.retV rfl (by decide +kernel) ⟨rfl, rfl⟩
def f_X2_read_87 (r0 : Nat) (h : AH) : Option (AH) :=
  (gA 2 h r0 0).bind fun a1 =>
  b2 (f_X7_fail a1 1 h) fun x2 h3 =>
  f_X2_read_96 h3
set_option maxRecDepth 100000 in
set_option maxHeartbeats 4000000 in
theorem l_X2_read_87 {X : MX} {l : Launch} {G : GX} {h0 : AH} {hr : AH} (C : Cx X G RX2 cX2_read 3 none 5 112 h0) (C2 : Cy X l "read" []) (r0 : Nat) (h : AH) (hf : f_X2_read_87 r0 h = some hr) : V X G h0 (QV hr) 87 [(0, .ref r0)] [] h := by
  unfold f_X2_read_87 at hf
  refine C.seg (pe := 88) (lv' := [(0, .ref r0)]) (st' := [.ref r0]) [(.aload_n 0, 1, 0)] (by decide +kernel) rfl ?_
  obtain ⟨a1, ga1, hf⟩ := Option.bind_eq_some_iff.mp hf
  refine C.rdA fr_443 ga1 (by decide +kernel) rfl ?_
  refine C.seg (pe := 92) (lv' := [(0, .ref r0)]) (st' := [.int 1, .ref a1]) [(.iconst 1, 1, 1)] (by decide +kernel) rfl ?_
  obtain ⟨x2, h3, gx2, hf⟩ := b2_some hf
  refine C.callVr C2 [.int 1] [] mv_966 rfl (o_X7_fail gx2) (w_X7_fail gx2) (by omega) (by omega) (Nat.le_of_ble_eq_true rfl) (by decide +kernel) rfl ?_
  refine C.seg (pe := 96) (lv' := [(0, .ref r0)]) (st' := []) [(.pop, 1, 0)] (by decide +kernel) rfl ?_
  refine Vsub [] rfl ?_
  exact l_X2_read_96 C C2 h3 hf
def f_X2_read_24 : Nat → Nat → Int32 → AH → Option (AH)
  | 0, _, _, _ => none
  | n + 1, r0, i1, h =>
    if 40 < i1 then
      some h
    else
      (gI 2 h r0 5).bind fun x1 =>
      b2 (f_X2_readStep r0 h) fun x2 h3 =>
      if x2 = 0 then
        some h3
      else
        (gI 2 h3 r0 5).bind fun x4 =>
        if x4 ≤ x1 then
          (f_X2_closeBrackets r0 h3).bind fun h5 =>
          (gA 2 h5 r0 0).bind fun a6 =>
          b2 (f_X7_sign a6 h5) fun x7 h8 =>
          if x7 = 59 then
            (gA 2 h8 r0 0).bind fun a9 =>
            (f_X7_advance a9 h8).bind fun h10 =>
            f_X2_read_104 (f_X2_read_24 n) r0 i1 h10
          else
            (gI 2 h8 r0 5).bind fun x11 =>
            if 0 < x11 then
              f_X2_read_87 r0 h8
            else
              (gA 2 h8 r0 0).bind fun a12 =>
              b2 (f_X7_kind a12 h8) fun x13 h14 =>
              if x13 = 0 then
                f_X2_read_96 h14
              else
                f_X2_read_87 r0 h14
        else
          f_X2_read_104 (f_X2_read_24 n) r0 i1 h3
set_option maxRecDepth 100000 in
set_option maxHeartbeats 4000000 in
theorem l_X2_read_24 {X : MX} {l : Launch} {G : GX} {h0 : AH} {hr : AH} (C : Cx X G RX2 cX2_read 3 none 5 112 h0) (C2 : Cy X l "read" []) : ∀ (n : Nat) (r0 : Nat) (i1 : Int32) (h : AH), f_X2_read_24 n r0 i1 h = some hr → V X G h0 (QV hr) 24 [(0, .ref r0), (1, .int i1)] [] h := by
  intro n
  induction n with
  | zero => intro r0 i1 h hf; rw [f_X2_read_24] at hf; cases hf
  | succ n ih =>
    intro r0 i1 h hf
    rw [f_X2_read_24] at hf
    refine C.seg (pe := 27) (lv' := [(0, .ref r0), (1, .int i1)]) (st' := [.int 40, .int i1]) [(.iload_n 1, 1, 0), (.bipush 40, 2, 40)] (by decide +kernel) rfl ?_
    refine C.icmp_gt (off := 83) (tgt := 110) (pf := 30) (by decide +kernel) (by decide) rfl (fun c20 => ?_) (fun c20 => ?_)
    · replace hf := ifp c20 hf
      cases hf
      exact C.retV rfl (by decide +kernel) ⟨rfl, rfl⟩
    · replace hf := ifn c20 hf
      refine C.seg (pe := 31) (lv' := [(0, .ref r0), (1, .int i1)]) (st' := [.ref r0]) [(.aload_n 0, 1, 0)] (by decide +kernel) rfl ?_
      obtain ⟨x1, gx1, hf⟩ := Option.bind_eq_some_iff.mp hf
      refine C.rdI fr_449 gx1 (by decide +kernel) rfl ?_
      refine C.seg (pe := 36) (lv' := [(2, .int x1), (0, .ref r0), (1, .int i1)]) (st' := [.ref r0]) [(.istore_n 2, 1, 0), (.aload_n 0, 1, 0)] (by decide +kernel) rfl ?_
      obtain ⟨x2, h3, gx2, hf⟩ := b2_some hf
      refine C.callVr C2 [] [] mv_958 rfl (o_X2_readStep gx2) (w_X2_readStep gx2) (by omega) (by omega) (Nat.le_of_ble_eq_true rfl) (by decide +kernel) rfl ?_
      refine C.if_ne (off := 4) (tgt := 43) (pf := 42) (by decide +kernel) (by decide) rfl (fun c19 => ?_) (fun c19 => ?_)
      · replace hf := ifn c19 hf
        refine C.seg (pe := 44) (lv' := [(2, .int x1), (0, .ref r0), (1, .int i1)]) (st' := [.ref r0]) [(.aload_n 0, 1, 0)] (by decide +kernel) rfl ?_
        obtain ⟨x4, gx4, hf⟩ := Option.bind_eq_some_iff.mp hf
        refine C.rdI fr_449 gx4 (by decide +kernel) rfl ?_
        refine C.seg (pe := 48) (lv' := [(2, .int x1), (0, .ref r0), (1, .int i1)]) (st' := [.int x1, .int x4]) [(.iload_n 2, 1, 0)] (by decide +kernel) rfl ?_
        refine C.icmp_le (off := 6) (tgt := 54) (pf := 51) (by decide +kernel) (by decide) rfl (fun c18 => ?_) (fun c18 => ?_)
        · replace hf := ifp c18 hf
          refine C.seg (pe := 55) (lv' := [(2, .int x1), (0, .ref r0), (1, .int i1)]) (st' := [.ref r0]) [(.aload_n 0, 1, 0)] (by decide +kernel) rfl ?_
          obtain ⟨h5, gh5, hf⟩ := Option.bind_eq_some_iff.mp hf
          refine C.callVr C2 [] [] mv_1044 rfl (o_X2_closeBrackets gh5) (w_X2_closeBrackets gh5) (by omega) (by omega) (Nat.le_of_ble_eq_true rfl) (by decide +kernel) rfl ?_
          refine C.seg (pe := 59) (lv' := [(2, .int x1), (0, .ref r0), (1, .int i1)]) (st' := [.ref r0]) [(.aload_n 0, 1, 0)] (by decide +kernel) rfl ?_
          obtain ⟨a6, ga6, hf⟩ := Option.bind_eq_some_iff.mp hf
          refine C.rdA fr_443 ga6 (by decide +kernel) rfl ?_
          obtain ⟨x7, h8, gx7, hf⟩ := b2_some hf
          refine C.callVr C2 [] [] mv_998 rfl (o_X7_sign gx7) (w_X7_sign gx7) (by omega) (by omega) (Nat.le_of_ble_eq_true rfl) (by decide +kernel) rfl ?_
          refine C.seg (pe := 67) (lv' := [(2, .int x1), (0, .ref r0), (1, .int i1)]) (st' := [.int 59, .int x7]) [(.bipush 59, 2, 59)] (by decide +kernel) rfl ?_
          refine C.icmp_eq (off := 30) (tgt := 97) (pf := 70) (by decide +kernel) (by decide) rfl (fun c17 => ?_) (fun c17 => ?_)
          · replace hf := ifp c17 hf
            refine C.seg (pe := 98) (lv' := [(2, .int x1), (0, .ref r0), (1, .int i1)]) (st' := [.ref r0]) [(.aload_n 0, 1, 0)] (by decide +kernel) rfl ?_
            obtain ⟨a9, ga9, hf⟩ := Option.bind_eq_some_iff.mp hf
            refine C.rdA fr_443 ga9 (by decide +kernel) rfl ?_
            obtain ⟨h10, gh10, hf⟩ := Option.bind_eq_some_iff.mp hf
            refine C.callVr C2 [] [] mv_978 rfl (o_X7_advance gh10) (w_X7_advance gh10) (by omega) (by omega) (Nat.le_of_ble_eq_true rfl) (by decide +kernel) rfl ?_
            refine Vsub [1, 2] rfl ?_
            exact l_X2_read_104 C C2 ih r0 i1 h10 hf
          · replace hf := ifn c17 hf
            refine C.seg (pe := 71) (lv' := [(2, .int x1), (0, .ref r0), (1, .int i1)]) (st' := [.ref r0]) [(.aload_n 0, 1, 0)] (by decide +kernel) rfl ?_
            obtain ⟨x11, gx11, hf⟩ := Option.bind_eq_some_iff.mp hf
            refine C.rdI fr_449 gx11 (by decide +kernel) rfl ?_
            refine C.if_gt (off := 13) (tgt := 87) (pf := 77) (by decide +kernel) (by decide) rfl (fun c16 => ?_) (fun c16 => ?_)
            · replace hf := ifp c16 hf
              refine Vsub [1] rfl ?_
              exact l_X2_read_87 C C2 r0 h8 hf
            · replace hf := ifn c16 hf
              refine C.seg (pe := 78) (lv' := [(2, .int x1), (0, .ref r0), (1, .int i1)]) (st' := [.ref r0]) [(.aload_n 0, 1, 0)] (by decide +kernel) rfl ?_
              obtain ⟨a12, ga12, hf⟩ := Option.bind_eq_some_iff.mp hf
              refine C.rdA fr_443 ga12 (by decide +kernel) rfl ?_
              obtain ⟨x13, h14, gx13, hf⟩ := b2_some hf
              refine C.callVr C2 [] [] mv_962 rfl (o_X7_kind gx13) (w_X7_kind gx13) (by omega) (by omega) (Nat.le_of_ble_eq_true rfl) (by decide +kernel) rfl ?_
              refine C.if_eq (off := 12) (tgt := 96) (pf := 87) (by decide +kernel) (by decide) rfl (fun c15 => ?_) (fun c15 => ?_)
              · replace hf := ifp c15 hf
                refine Vsub [] rfl ?_
                exact l_X2_read_96 C C2 h14 hf
              · replace hf := ifn c15 hf
                refine Vsub [1] rfl ?_
                exact l_X2_read_87 C C2 r0 h14 hf
        · replace hf := ifn c18 hf
          refine C.goto (off := 53) (tgt := 104) (by decide +kernel) (by decide) ?_
          refine Vsub [1, 2] rfl ?_
          exact l_X2_read_104 C C2 ih r0 i1 h3 hf
      · replace hf := ifp c19 hf
        cases hf
        exact C.retV rfl (by decide +kernel) ⟨rfl, rfl⟩
def f_X2_read (a0 : Nat) (h : AH) : Option (AH) :=
  if isO 2 h a0 = true then
    (gA 2 h a0 1).bind fun a1 =>
    (f_X1_clear a1 h).bind fun h2 =>
    (pI 2 h2 a0 2 0).bind fun h3 =>
    (pI 2 h3 a0 3 0).bind fun h4 =>
    (pI 2 h4 a0 5 0).bind fun h5 =>
    f_X2_read_24 FU a0 0 h5
  else none
set_option maxRecDepth 100000 in
set_option maxHeartbeats 4000000 in
theorem w_X2_read {l : Launch} {G : GX} {a0 : Nat} {h : AH} {hr : AH} (hf : f_X2_read a0 h = some hr) : Ct l G yX2_read 5 112 [.ref a0] h (QV hr) := by
  unfold f_X2_read at hf
  obtain ⟨ho, hf⟩ := ifO hf
  refine Ct_of (own := RX2) (cc := cX2_read) (nL := 3) (ret := none) rfl rfl k_953 (Nat.le_of_ble_eq_true rfl) (fun X C2 C => ?_)
  show V X G h (QV hr) 0 [(0, .ref a0)] [] h
  refine C.seg (pe := 1) (lv' := [(0, .ref a0)]) (st' := [.ref a0]) [(.aload_n 0, 1, 0)] (by decide +kernel) rfl ?_
  obtain ⟨a1, ga1, hf⟩ := Option.bind_eq_some_iff.mp hf
  refine C.rdA fr_444 ga1 (by decide +kernel) rfl ?_
  obtain ⟨h2, gh2, hf⟩ := Option.bind_eq_some_iff.mp hf
  refine C.callVr C2 [] [] mv_954 rfl (o_X1_clear gh2) (w_X1_clear gh2) (by omega) (by omega) (Nat.le_of_ble_eq_true rfl) (by decide +kernel) rfl ?_
  refine C.seg (pe := 9) (lv' := [(0, .ref a0)]) (st' := [.int 0, .ref a0]) [(.aload_n 0, 1, 0), (.iconst 0, 1, 0)] (by decide +kernel) rfl ?_
  obtain ⟨h3, gh3, hf⟩ := Option.bind_eq_some_iff.mp hf
  refine C.putI fl_446 gh3 (by decide +kernel) rfl ?_
  refine C.seg (pe := 14) (lv' := [(0, .ref a0)]) (st' := [.int 0, .ref a0]) [(.aload_n 0, 1, 0), (.iconst 0, 1, 0)] (by decide +kernel) rfl ?_
  obtain ⟨h4, gh4, hf⟩ := Option.bind_eq_some_iff.mp hf
  refine C.putI fl_447 gh4 (by decide +kernel) rfl ?_
  refine C.seg (pe := 19) (lv' := [(0, .ref a0)]) (st' := [.int 0, .ref a0]) [(.aload_n 0, 1, 0), (.iconst 0, 1, 0)] (by decide +kernel) rfl ?_
  obtain ⟨h5, gh5, hf⟩ := Option.bind_eq_some_iff.mp hf
  refine C.putI fl_449 gh5 (by decide +kernel) rfl ?_
  refine C.seg (pe := 24) (lv' := [(1, .int 0), (0, .ref a0)]) (st' := []) [(.iconst 0, 1, 0), (.istore_n 1, 1, 0)] (by decide +kernel) rfl ?_
  refine Vsub [1, 0] rfl ?_
  exact l_X2_read_24 C C2 FU a0 0 h5 hf
theorem o_X2_read {a0 : Nat} {h : AH} {hr : AH} (hf : f_X2_read a0 h = some hr) : isO 2 h a0 = true := by
  unfold f_X2_read at hf
  exact (ifO hf).1
