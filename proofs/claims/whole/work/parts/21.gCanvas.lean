/-! WallHouse$Canvas.<init>([J)V -/
def f_X0_init (a0 : Nat) (p1 : Nat) (h : AH) : Option (AH) :=
  b2 (nwA 1 192 h) fun a1 h2 =>
  (pQ 0 h2 a0 0 (some a1)).bind fun h3 =>
  b2 (nwA 2 192 h3) fun a4 h5 =>
  (pQ 0 h5 a0 9 (some a4)).bind fun h6 =>
  b2 (nwA 0 5 h6) fun a7 h8 =>
  (pQ 0 h8 a0 10 (some a7)).bind fun h9 =>
  b2 (nwA 0 32 h9) fun a10 h11 =>
  (pQ 0 h11 a0 11 (some a10)).bind fun h12 =>
  b2 (nwA 0 6 h12) fun a13 h14 =>
  (pQ 0 h14 a0 13 (some a13)).bind fun h15 =>
  b2 (nwA 0 6 h15) fun a16 h17 =>
  (pQ 0 h17 a0 14 (some a16)).bind fun h18 =>
  (pQ 0 h18 a0 7 (some p1)).bind fun h19 =>
  some h19
set_option maxRecDepth 100000 in
set_option maxHeartbeats 4000000 in
theorem w_X0_init {l : Launch} {G : GX} {a0 : Nat} {p1 : Nat} {h : AH} {hr : AH} (hf : f_X0_init a0 p1 h = some hr) : Ct l G yX0_init 1 20 [.ref a0, .ref p1] h (QV hr) := by
  unfold f_X0_init at hf
  refine Ct_of (own := RX0) (cc := cX0_init) (nL := 2) (ret := none) rfl rfl k_501 (Nat.le_of_ble_eq_true rfl) (fun X C2 C => ?_)
  show V X G h (QV hr) 0 [(0, .ref a0), (1, .ref p1)] [] h
  refine C.seg (pe := 1) (lv' := [(0, .ref a0), (1, .ref p1)]) (st' := [.ref a0]) [(.aload_n 0, 1, 0)] (by decide +kernel) rfl ?_
  refine C.objInit k_502 k_151 k_152 (by omega) (by omega) (Nat.le_of_ble_eq_true rfl) (by decide +kernel) rfl ?_
  refine C.seg (pe := 8) (lv' := [(0, .ref a0), (1, .ref p1)]) (st' := [.int 192, .ref a0]) [(.aload_n 0, 1, 0), (.sipush 192, 3, 192)] (by decide +kernel) rfl ?_
  obtain ⟨a1, h2, ga1, hf⟩ := b2_some hf
  refine C.newa1 k_400 ga1 (by decide +kernel) rfl ?_
  obtain ⟨h3, gh3, hf⟩ := Option.bind_eq_some_iff.mp hf
  refine C.putFA C2.2.1 fl_503 (Or.inr ⟨_, rfl⟩) gh3 (by decide +kernel) rfl ?_
  refine C.seg (pe := 17) (lv' := [(0, .ref a0), (1, .ref p1)]) (st' := [.int 192, .ref a0]) [(.aload_n 0, 1, 0), (.sipush 192, 3, 192)] (by decide +kernel) rfl ?_
  obtain ⟨a4, h5, ga4, hf⟩ := b2_some hf
  refine C.newa2 k_559 ga4 (by decide +kernel) rfl ?_
  obtain ⟨h6, gh6, hf⟩ := Option.bind_eq_some_iff.mp hf
  refine C.putFA C2.2.1 fl_519 (Or.inr ⟨_, rfl⟩) gh6 (by decide +kernel) rfl ?_
  refine C.seg (pe := 24) (lv' := [(0, .ref a0), (1, .ref p1)]) (st' := [.int 5, .ref a0]) [(.aload_n 0, 1, 0), (.iconst 5, 1, 5)] (by decide +kernel) rfl ?_
  obtain ⟨a7, h8, ga7, hf⟩ := b2_some hf
  refine C.newa0 k_180 ga7 (by decide +kernel) rfl ?_
  obtain ⟨h9, gh9, hf⟩ := Option.bind_eq_some_iff.mp hf
  refine C.putFA C2.2.1 fl_520 (Or.inr ⟨_, rfl⟩) gh9 (by decide +kernel) rfl ?_
  refine C.seg (pe := 32) (lv' := [(0, .ref a0), (1, .ref p1)]) (st' := [.int 32, .ref a0]) [(.aload_n 0, 1, 0), (.bipush 32, 2, 32)] (by decide +kernel) rfl ?_
  obtain ⟨a10, h11, ga10, hf⟩ := b2_some hf
  refine C.newa0 k_180 ga10 (by decide +kernel) rfl ?_
  obtain ⟨h12, gh12, hf⟩ := Option.bind_eq_some_iff.mp hf
  refine C.putFA C2.2.1 fl_521 (Or.inr ⟨_, rfl⟩) gh12 (by decide +kernel) rfl ?_
  refine C.seg (pe := 40) (lv' := [(0, .ref a0), (1, .ref p1)]) (st' := [.int 6, .ref a0]) [(.aload_n 0, 1, 0), (.bipush 6, 2, 6)] (by decide +kernel) rfl ?_
  obtain ⟨a13, h14, ga13, hf⟩ := b2_some hf
  refine C.newa0 k_180 ga13 (by decide +kernel) rfl ?_
  obtain ⟨h15, gh15, hf⟩ := Option.bind_eq_some_iff.mp hf
  refine C.putFA C2.2.1 fl_523 (Or.inr ⟨_, rfl⟩) gh15 (by decide +kernel) rfl ?_
  refine C.seg (pe := 48) (lv' := [(0, .ref a0), (1, .ref p1)]) (st' := [.int 6, .ref a0]) [(.aload_n 0, 1, 0), (.bipush 6, 2, 6)] (by decide +kernel) rfl ?_
  obtain ⟨a16, h17, ga16, hf⟩ := b2_some hf
  refine C.newa0 k_180 ga16 (by decide +kernel) rfl ?_
  obtain ⟨h18, gh18, hf⟩ := Option.bind_eq_some_iff.mp hf
  refine C.putFA C2.2.1 fl_524 (Or.inr ⟨_, rfl⟩) gh18 (by decide +kernel) rfl ?_
  refine C.seg (pe := 55) (lv' := [(0, .ref a0), (1, .ref p1)]) (st' := [.ref p1, .ref a0]) [(.aload_n 0, 1, 0), (.aload_n 1, 1, 0)] (by decide +kernel) rfl ?_
  obtain ⟨h19, gh19, hf⟩ := Option.bind_eq_some_iff.mp hf
  refine C.putFA C2.2.1 fl_517 (Or.inr ⟨_, rfl⟩) gh19 (by decide +kernel) rfl ?_
  cases hf
  exact C.retV rfl (by decide +kernel) ⟨rfl, rfl⟩
/-! WallHouse$Canvas.come()V -/
def f_X0_come_28 (h : AH) : Option (AH) :=
  some h
set_option maxRecDepth 100000 in
set_option maxHeartbeats 4000000 in
theorem l_X0_come_28 {X : MX} {l : Launch} {G : GX} {h0 : AH} {hr : AH} (C : Cx X G RX0 cX0_come 1 none 0 0 h0) (C2 : Cy X l "come" []) (h : AH) (hf : f_X0_come_28 h = some hr) : V X G h0 (QV hr) 28 [] [] h := by
  unfold f_X0_come_28 at hf
  cases hf
  exact C.retV rfl (by decide +kernel) ⟨rfl, rfl⟩
def f_X0_come (a0 : Nat) (h : AH) : Option (AH) :=
  if isO 0 h a0 = true then
    (gI 0 h a0 4).bind fun x1 =>
    if x1 < 1500 then
      (gI 0 h a0 4).bind fun x2 =>
      (pI 0 h a0 4 (x2 + 1)).bind fun h3 =>
      f_X0_come_28 h3
    else
      (pZ 0 h a0 5 1).bind fun h4 =>
      f_X0_come_28 h4
  else none
set_option maxRecDepth 100000 in
set_option maxHeartbeats 4000000 in
theorem w_X0_come {l : Launch} {G : GX} {a0 : Nat} {h : AH} {hr : AH} (hf : f_X0_come a0 h = some hr) : Ct l G yX0_come 0 0 [.ref a0] h (QV hr) := by
  unfold f_X0_come at hf
  obtain ⟨ho, hf⟩ := ifO hf
  refine Ct_of (own := RX0) (cc := cX0_come) (nL := 1) (ret := none) rfl rfl k_1161 (Nat.le_of_ble_eq_true rfl) (fun X C2 C => ?_)
  show V X G h (QV hr) 0 [(0, .ref a0)] [] h
  refine C.seg (pe := 1) (lv' := [(0, .ref a0)]) (st' := [.ref a0]) [(.aload_n 0, 1, 0)] (by decide +kernel) rfl ?_
  obtain ⟨x1, gx1, hf⟩ := Option.bind_eq_some_iff.mp hf
  refine C.rdI fr_511 gx1 (by decide +kernel) rfl ?_
  refine C.seg (pe := 7) (lv' := [(0, .ref a0)]) (st' := [.int 1500, .int x1]) [(.sipush 1500, 3, 1500)] (by decide +kernel) rfl ?_
  refine C.icmp_lt (off := 11) (tgt := 18) (pf := 10) (by decide +kernel) (by decide) rfl (fun c5 => ?_) (fun c5 => ?_)
  · replace hf := ifp c5 hf
    refine C.seg (pe := 20) (lv' := [(0, .ref a0)]) (st' := [.ref a0, .ref a0]) [(.aload_n 0, 1, 0), (.dup, 1, 0)] (by decide +kernel) rfl ?_
    obtain ⟨x2, gx2, hf⟩ := Option.bind_eq_some_iff.mp hf
    refine C.rdI fr_511 gx2 (by decide +kernel) rfl ?_
    refine C.seg (pe := 25) (lv' := [(0, .ref a0)]) (st' := [.int (x2 + 1), .ref a0]) [(.iconst 1, 1, 1), (.iadd, 1, 0)] (by decide +kernel) rfl ?_
    obtain ⟨h3, gh3, hf⟩ := Option.bind_eq_some_iff.mp hf
    refine C.putI fl_511 gh3 (by decide +kernel) rfl ?_
    refine Vsub [] rfl ?_
    exact l_X0_come_28 C C2 h3 hf
  · replace hf := ifn c5 hf
    refine C.seg (pe := 12) (lv' := [(0, .ref a0)]) (st' := [.int 1, .ref a0]) [(.aload_n 0, 1, 0), (.iconst 1, 1, 1)] (by decide +kernel) rfl ?_
    obtain ⟨h4, gh4, hf⟩ := Option.bind_eq_some_iff.mp hf
    refine C.putZ fl_513 gh4 (by decide +kernel) rfl ?_
    refine C.goto (off := 13) (tgt := 28) (by decide +kernel) (by decide) ?_
    refine Vsub [] rfl ?_
    exact l_X0_come_28 C C2 h4 hf
theorem o_X0_come {a0 : Nat} {h : AH} {hr : AH} (hf : f_X0_come a0 h = some hr) : isO 0 h a0 = true := by
  unfold f_X0_come at hf
  exact (ifO hf).1
/-! WallHouse$Canvas.hold(I)V -/
def f_X0_hold_32 (h : AH) : Option (AH) :=
  some h
set_option maxRecDepth 100000 in
set_option maxHeartbeats 4000000 in
theorem l_X0_hold_32 {X : MX} {l : Launch} {G : GX} {h0 : AH} {hr : AH} (C : Cx X G RX0 cX0_hold 2 none 0 0 h0) (C2 : Cy X l "hold" []) (h : AH) (hf : f_X0_hold_32 h = some hr) : V X G h0 (QV hr) 32 [] [] h := by
  unfold f_X0_hold_32 at hf
  cases hf
  exact C.retV rfl (by decide +kernel) ⟨rfl, rfl⟩
def f_X0_hold (a0 : Nat) (p1 : Int32) (h : AH) : Option (AH) :=
  if isO 0 h a0 = true then
    (gI 0 h a0 12).bind fun x1 =>
    (gA 0 h a0 11).bind fun a2 =>
    (aN h a2).bind fun x3 =>
    if x3 ≤ x1 then
      f_X0_hold_32 h
    else
      (gA 0 h a0 11).bind fun a4 =>
      (gI 0 h a0 12).bind fun x5 =>
      (sI 0 h a4 x5 p1).bind fun h6 =>
      (gI 0 h6 a0 12).bind fun x7 =>
      (pI 0 h6 a0 12 (x7 + 1)).bind fun h8 =>
      f_X0_hold_32 h8
  else none
set_option maxRecDepth 100000 in
set_option maxHeartbeats 4000000 in
theorem w_X0_hold {l : Launch} {G : GX} {a0 : Nat} {p1 : Int32} {h : AH} {hr : AH} (hf : f_X0_hold a0 p1 h = some hr) : Ct l G yX0_hold 0 0 [.ref a0, .int p1] h (QV hr) := by
  unfold f_X0_hold at hf
  obtain ⟨ho, hf⟩ := ifO hf
  refine Ct_of (own := RX0) (cc := cX0_hold) (nL := 2) (ret := none) rfl rfl k_1165 (Nat.le_of_ble_eq_true rfl) (fun X C2 C => ?_)
  show V X G h (QV hr) 0 [(0, .ref a0), (1, .int p1)] [] h
  refine C.seg (pe := 1) (lv' := [(0, .ref a0), (1, .int p1)]) (st' := [.ref a0]) [(.aload_n 0, 1, 0)] (by decide +kernel) rfl ?_
  obtain ⟨x1, gx1, hf⟩ := Option.bind_eq_some_iff.mp hf
  refine C.rdI fr_522 gx1 (by decide +kernel) rfl ?_
  refine C.seg (pe := 5) (lv' := [(0, .ref a0), (1, .int p1)]) (st' := [.ref a0, .int x1]) [(.aload_n 0, 1, 0)] (by decide +kernel) rfl ?_
  obtain ⟨a2, ga2, hf⟩ := Option.bind_eq_some_iff.mp hf
  refine C.rdA fr_521 ga2 (by decide +kernel) rfl ?_
  obtain ⟨x3, gx3, hf⟩ := Option.bind_eq_some_iff.mp hf
  refine C.alen gx3 (by decide +kernel) rfl ?_
  refine C.icmp_ge (off := 23) (tgt := 32) (pf := 12) (by decide +kernel) (by decide) rfl (fun c9 => ?_) (fun c9 => ?_)
  · replace hf := ifp c9 hf
    refine Vsub [] rfl ?_
    exact l_X0_hold_32 C C2 h hf
  · replace hf := ifn c9 hf
    refine C.seg (pe := 13) (lv' := [(0, .ref a0), (1, .int p1)]) (st' := [.ref a0]) [(.aload_n 0, 1, 0)] (by decide +kernel) rfl ?_
    obtain ⟨a4, ga4, hf⟩ := Option.bind_eq_some_iff.mp hf
    refine C.rdA fr_521 ga4 (by decide +kernel) rfl ?_
    refine C.seg (pe := 17) (lv' := [(0, .ref a0), (1, .int p1)]) (st' := [.ref a0, .ref a4]) [(.aload_n 0, 1, 0)] (by decide +kernel) rfl ?_
    obtain ⟨x5, gx5, hf⟩ := Option.bind_eq_some_iff.mp hf
    refine C.rdI fr_522 gx5 (by decide +kernel) rfl ?_
    refine C.seg (pe := 21) (lv' := [(0, .ref a0), (1, .int p1)]) (st' := [.int p1, .int x5, .ref a4]) [(.iload_n 1, 1, 0)] (by decide +kernel) rfl ?_
    obtain ⟨h6, gh6, hf⟩ := Option.bind_eq_some_iff.mp hf
    refine C.ast gh6 (by decide +kernel) rfl ?_
    refine C.seg (pe := 24) (lv' := [(0, .ref a0), (1, .int p1)]) (st' := [.ref a0, .ref a0]) [(.aload_n 0, 1, 0), (.dup, 1, 0)] (by decide +kernel) rfl ?_
    obtain ⟨x7, gx7, hf⟩ := Option.bind_eq_some_iff.mp hf
    refine C.rdI fr_522 gx7 (by decide +kernel) rfl ?_
    refine C.seg (pe := 29) (lv' := [(0, .ref a0), (1, .int p1)]) (st' := [.int (x7 + 1), .ref a0]) [(.iconst 1, 1, 1), (.iadd, 1, 0)] (by decide +kernel) rfl ?_
    obtain ⟨h8, gh8, hf⟩ := Option.bind_eq_some_iff.mp hf
    refine C.putI fl_522 gh8 (by decide +kernel) rfl ?_
    refine Vsub [] rfl ?_
    exact l_X0_hold_32 C C2 h8 hf
theorem o_X0_hold {a0 : Nat} {p1 : Int32} {h : AH} {hr : AH} (hf : f_X0_hold a0 p1 h = some hr) : isO 0 h a0 = true := by
  unfold f_X0_hold at hf
  exact (ifO hf).1
/-! WallHouse$Canvas.release()I -/
def f_X0_release (a0 : Nat) (h : AH) : Option (Int32 × AH) :=
  if isO 0 h a0 = true then
    (gI 0 h a0 12).bind fun x1 =>
    if 0 < x1 then
      (gI 0 h a0 12).bind fun x2 =>
      (pI 0 h a0 12 (x2 - 1)).bind fun h3 =>
      (gA 0 h3 a0 11).bind fun a4 =>
      (gI 0 h3 a0 12).bind fun x5 =>
      (aI 0 h3 a4 x5).bind fun x6 =>
      some (x6, h3)
    else
      some (0, h)
  else none
set_option maxRecDepth 100000 in
set_option maxHeartbeats 4000000 in
theorem w_X0_release {l : Launch} {G : GX} {a0 : Nat} {h : AH} {rr : Int32} {hr : AH} (hf : f_X0_release a0 h = some (rr, hr)) : Ct l G yX0_release 0 0 [.ref a0] h (QI rr hr) := by
  unfold f_X0_release at hf
  obtain ⟨ho, hf⟩ := ifO hf
  refine Ct_of (own := RX0) (cc := cX0_release) (nL := 1) (ret := (some .int)) rfl rfl k_1173 (Nat.le_of_ble_eq_true rfl) (fun X C2 C => ?_)
  show V X G h (QI rr hr) 0 [(0, .ref a0)] [] h
  refine C.seg (pe := 1) (lv' := [(0, .ref a0)]) (st' := [.ref a0]) [(.aload_n 0, 1, 0)] (by decide +kernel) rfl ?_
  obtain ⟨x1, gx1, hf⟩ := Option.bind_eq_some_iff.mp hf
  refine C.rdI fr_522 gx1 (by decide +kernel) rfl ?_
  refine C.if_gt (off := 5) (tgt := 9) (pf := 7) (by decide +kernel) (by decide) rfl (fun c7 => ?_) (fun c7 => ?_)
  · replace hf := ifp c7 hf
    refine C.seg (pe := 11) (lv' := [(0, .ref a0)]) (st' := [.ref a0, .ref a0]) [(.aload_n 0, 1, 0), (.dup, 1, 0)] (by decide +kernel) rfl ?_
    obtain ⟨x2, gx2, hf⟩ := Option.bind_eq_some_iff.mp hf
    refine C.rdI fr_522 gx2 (by decide +kernel) rfl ?_
    refine C.seg (pe := 16) (lv' := [(0, .ref a0)]) (st' := [.int (x2 - 1), .ref a0]) [(.iconst 1, 1, 1), (.isub, 1, 0)] (by decide +kernel) rfl ?_
    obtain ⟨h3, gh3, hf⟩ := Option.bind_eq_some_iff.mp hf
    refine C.putI fl_522 gh3 (by decide +kernel) rfl ?_
    refine C.seg (pe := 20) (lv' := [(0, .ref a0)]) (st' := [.ref a0]) [(.aload_n 0, 1, 0)] (by decide +kernel) rfl ?_
    obtain ⟨a4, ga4, hf⟩ := Option.bind_eq_some_iff.mp hf
    refine C.rdA fr_521 ga4 (by decide +kernel) rfl ?_
    refine C.seg (pe := 24) (lv' := [(0, .ref a0)]) (st' := [.ref a0, .ref a4]) [(.aload_n 0, 1, 0)] (by decide +kernel) rfl ?_
    obtain ⟨x5, gx5, hf⟩ := Option.bind_eq_some_iff.mp hf
    refine C.rdI fr_522 gx5 (by decide +kernel) rfl ?_
    obtain ⟨x6, gx6, hf⟩ := Option.bind_eq_some_iff.mp hf
    refine C.ald 0 rfl gx6 (by decide +kernel) rfl ?_
    cases hf
    exact C.retI rfl (by decide +kernel) ⟨rfl, rfl⟩
  · replace hf := ifn c7 hf
    refine C.seg (pe := 8) (lv' := [(0, .ref a0)]) (st' := [.int 0]) [(.iconst 0, 1, 0)] (by decide +kernel) rfl ?_
    cases hf
    exact C.retI rfl (by decide +kernel) ⟨rfl, rfl⟩
theorem o_X0_release {a0 : Nat} {h : AH} {rr : Int32} {hr : AH} (hf : f_X0_release a0 h = some (rr, hr)) : isO 0 h a0 = true := by
  unfold f_X0_release at hf
  exact (ifO hf).1
/-! WallHouse$Canvas.reckon(I)V -/
def f_X0_reckon_77 (r0 : Nat) (i4 : Int32) (h : AH) : Option (AH) :=
  (f_X0_hold r0 (mxI (-9999) (mnI 9999 i4)) h).bind fun h1 =>
  some h1
set_option maxRecDepth 100000 in
set_option maxHeartbeats 4000000 in
theorem l_X0_reckon_77 {X : MX} {l : Launch} {G : GX} {h0 : AH} {hr : AH} (C : Cx X G RX0 cX0_reckon 5 none 1 40 h0) (C2 : Cy X l "reckon" []) (r0 : Nat) (i4 : Int32) (h : AH) (hf : f_X0_reckon_77 r0 i4 h = some hr) : V X G h0 (QV hr) 77 [(0, .ref r0), (4, .int i4)] [] h := by
  unfold f_X0_reckon_77 at hf
  refine C.seg (pe := 86) (lv' := [(0, .ref r0), (4, .int i4)]) (st' := [.int i4, .int 9999, .int (-9999), .ref r0]) [(.aload_n 0, 1, 0), (.sipush (-9999), 3, (-9999)), (.sipush 9999, 3, 9999), (.iload 4, 2, 0)] (by decide +kernel) rfl ?_
  refine C.mmin k_1150 k_639 k_137 k_640 (by omega) (by omega) (Nat.le_of_ble_eq_true rfl) (by decide +kernel) rfl ?_
  refine C.mmax k_1174 k_636 k_137 k_637 (by omega) (by omega) (Nat.le_of_ble_eq_true rfl) (by decide +kernel) rfl ?_
  obtain ⟨h1, gh1, hf⟩ := Option.bind_eq_some_iff.mp hf
  refine C.callVr C2 [.int (mxI (-9999) (mnI 9999 i4))] [] mv_1162 rfl (o_X0_hold gh1) (w_X0_hold gh1) (by omega) (by omega) (Nat.le_of_ble_eq_true rfl) (by decide +kernel) rfl ?_
  cases hf
  exact C.retV rfl (by decide +kernel) ⟨rfl, rfl⟩
def f_X0_reckon_75 (r0 : Nat) (si0 : Int32) (h : AH) : Option (AH) :=
  f_X0_reckon_77 r0 si0 h
set_option maxRecDepth 100000 in
set_option maxHeartbeats 4000000 in
theorem l_X0_reckon_75 {X : MX} {l : Launch} {G : GX} {h0 : AH} {hr : AH} (C : Cx X G RX0 cX0_reckon 5 none 1 40 h0) (C2 : Cy X l "reckon" []) (r0 : Nat) (si0 : Int32) (h : AH) (hf : f_X0_reckon_75 r0 si0 h = some hr) : V X G h0 (QV hr) 75 [(0, .ref r0)] [.int si0] h := by
  unfold f_X0_reckon_75 at hf
  refine C.seg (pe := 77) (lv' := [(4, .int si0), (0, .ref r0)]) (st' := []) [(.istore 4, 2, 0)] (by decide +kernel) rfl ?_
  refine Vsub [1, 0] rfl ?_
  exact l_X0_reckon_77 C C2 r0 si0 h hf
def f_X0_reckon (a0 : Nat) (p1 : Int32) (h : AH) : Option (AH) :=
  if isO 0 h a0 = true then
    b2 (f_X0_release a0 h) fun x1 h2 =>
    b2 (f_X0_release a0 h2) fun x3 h4 =>
    if p1 = 42 then
      f_X0_reckon_77 a0 (x3 * x1) h4
    else
      if p1 = 43 then
        f_X0_reckon_77 a0 (x3 + x1) h4
      else
        if p1 = 44 then
          if x1 = 0 then
            f_X0_reckon_75 a0 0 h4
          else
            (ckD x1).bind fun x5 =>
            f_X0_reckon_75 a0 (x3 / x1) h4
        else
          if p1 = 45 then
            f_X0_reckon_77 a0 (x3 - x1) h4
          else
            if x1 = 0 then
              f_X0_reckon_75 a0 0 h4
            else
              (ckD x1).bind fun x5 =>
              f_X0_reckon_75 a0 (x3 / x1) h4
  else none
set_option maxRecDepth 100000 in
set_option maxHeartbeats 4000000 in
theorem w_X0_reckon {l : Launch} {G : GX} {a0 : Nat} {p1 : Int32} {h : AH} {hr : AH} (hf : f_X0_reckon a0 p1 h = some hr) : Ct l G yX0_reckon 1 40 [.ref a0, .int p1] h (QV hr) := by
  unfold f_X0_reckon at hf
  obtain ⟨ho, hf⟩ := ifO hf
  refine Ct_of (own := RX0) (cc := cX0_reckon) (nL := 5) (ret := none) rfl rfl k_1169 (Nat.le_of_ble_eq_true rfl) (fun X C2 C => ?_)
  show V X G h (QV hr) 0 [(0, .ref a0), (1, .int p1)] [] h
  refine C.seg (pe := 1) (lv' := [(0, .ref a0), (1, .int p1)]) (st' := [.ref a0]) [(.aload_n 0, 1, 0)] (by decide +kernel) rfl ?_
  obtain ⟨x1, h2, gx1, hf⟩ := b2_some hf
  refine C.callVr C2 [] [] mv_1170 rfl (o_X0_release gx1) (w_X0_release gx1) (by omega) (by omega) (Nat.le_of_ble_eq_true rfl) (by decide +kernel) rfl ?_
  refine C.seg (pe := 6) (lv' := [(2, .int x1), (0, .ref a0), (1, .int p1)]) (st' := [.ref a0]) [(.istore_n 2, 1, 0), (.aload_n 0, 1, 0)] (by decide +kernel) rfl ?_
  obtain ⟨x3, h4, gx3, hf⟩ := b2_some hf
  refine C.callVr C2 [] [] mv_1170 rfl (o_X0_release gx3) (w_X0_release gx3) (by omega) (by omega) (Nat.le_of_ble_eq_true rfl) (by decide +kernel) rfl ?_
  refine C.seg (pe := 11) (lv' := [(3, .int x3), (2, .int x1), (0, .ref a0), (1, .int p1)]) (st' := [.int p1]) [(.istore_n 3, 1, 0), (.iload_n 1, 1, 0)] (by decide +kernel) rfl ?_
  by_cases c7 : p1 = 42
  · replace hf := ifp c7 hf
    refine C.tsIn (len := 29) (dflt := 53) (a := 42) (b := 45) (offs := #[45, 29, 53, 37]) (k := 42) (off := 45) (tgt := 56) c7 (by decide +kernel) (by decide) (by decide) rfl (by decide) ?_
    refine C.seg (pe := 61) (lv' := [(4, .int (x3 * x1)), (3, .int x3), (2, .int x1), (0, .ref a0), (1, .int p1)]) (st' := []) [(.iload_n 3, 1, 0), (.iload_n 2, 1, 0), (.imul, 1, 0), (.istore 4, 2, 0)] (by decide +kernel) rfl ?_
    refine C.goto (off := 16) (tgt := 77) (by decide +kernel) (by decide) ?_
    refine Vsub [3, 0] rfl ?_
    exact l_X0_reckon_77 C C2 a0 (x3 * x1) h4 hf
  · replace hf := ifn c7 hf
    by_cases c8 : p1 = 43
    · replace hf := ifp c8 hf
      refine C.tsIn (len := 29) (dflt := 53) (a := 42) (b := 45) (offs := #[45, 29, 53, 37]) (k := 43) (off := 29) (tgt := 40) c8 (by decide +kernel) (by decide) (by decide) rfl (by decide) ?_
      refine C.seg (pe := 45) (lv' := [(4, .int (x3 + x1)), (3, .int x3), (2, .int x1), (0, .ref a0), (1, .int p1)]) (st' := []) [(.iload_n 3, 1, 0), (.iload_n 2, 1, 0), (.iadd, 1, 0), (.istore 4, 2, 0)] (by decide +kernel) rfl ?_
      refine C.goto (off := 32) (tgt := 77) (by decide +kernel) (by decide) ?_
      refine Vsub [3, 0] rfl ?_
      exact l_X0_reckon_77 C C2 a0 (x3 + x1) h4 hf
    · replace hf := ifn c8 hf
      by_cases c9 : p1 = 44
      · replace hf := ifp c9 hf
        refine C.tsIn (len := 29) (dflt := 53) (a := 42) (b := 45) (offs := #[45, 29, 53, 37]) (k := 44) (off := 53) (tgt := 64) c9 (by decide +kernel) (by decide) (by decide) rfl (by decide) ?_
        refine C.seg (pe := 65) (lv' := [(3, .int x3), (2, .int x1), (0, .ref a0), (1, .int p1)]) (st' := [.int x1]) [(.iload_n 2, 1, 0)] (by decide +kernel) rfl ?_
        refine C.if_ne (off := 7) (tgt := 72) (pf := 68) (by decide +kernel) (by decide) rfl (fun c6 => ?_) (fun c6 => ?_)
        · replace hf := ifn c6 hf
          refine C.seg (pe := 74) (lv' := [(3, .int x3), (2, .int x1), (0, .ref a0), (1, .int p1)]) (st' := [.int x1, .int x3]) [(.iload_n 3, 1, 0), (.iload_n 2, 1, 0)] (by decide +kernel) rfl ?_
          obtain ⟨x5, gx5, hf⟩ := Option.bind_eq_some_iff.mp hf
          refine C.idiv (by decide +kernel) rfl (ckD_self gx5) ?_
          refine Vsub [2] rfl ?_
          exact l_X0_reckon_75 C C2 a0 (x3 / x1) h4 hf
        · replace hf := ifp c6 hf
          refine C.seg (pe := 69) (lv' := [(3, .int x3), (2, .int x1), (0, .ref a0), (1, .int p1)]) (st' := [.int 0]) [(.iconst 0, 1, 0)] (by decide +kernel) rfl ?_
          refine C.goto (off := 6) (tgt := 75) (by decide +kernel) (by decide) ?_
          refine Vsub [2] rfl ?_
          exact l_X0_reckon_75 C C2 a0 0 h4 hf
      · replace hf := ifn c9 hf
        by_cases c10 : p1 = 45
        · replace hf := ifp c10 hf
          refine C.tsIn (len := 29) (dflt := 53) (a := 42) (b := 45) (offs := #[45, 29, 53, 37]) (k := 45) (off := 37) (tgt := 48) c10 (by decide +kernel) (by decide) (by decide) rfl (by decide) ?_
          refine C.seg (pe := 53) (lv' := [(4, .int (x3 - x1)), (3, .int x3), (2, .int x1), (0, .ref a0), (1, .int p1)]) (st' := []) [(.iload_n 3, 1, 0), (.iload_n 2, 1, 0), (.isub, 1, 0), (.istore 4, 2, 0)] (by decide +kernel) rfl ?_
          refine C.goto (off := 24) (tgt := 77) (by decide +kernel) (by decide) ?_
          refine Vsub [3, 0] rfl ?_
          exact l_X0_reckon_77 C C2 a0 (x3 - x1) h4 hf
        · replace hf := ifn c10 hf
          have qc7 := lv_neT c7 (by decide : (42 : Int32).toInt = 42)
          have qc8 := lv_neT c8 (by decide : (43 : Int32).toInt = 43)
          have qc9 := lv_neT c9 (by decide : (44 : Int32).toInt = 44)
          have qc10 := lv_neT c10 (by decide : (45 : Int32).toInt = 45)
          refine C.tsOut (len := 29) (dflt := 53) (a := 42) (b := 45) (offs := #[45, 29, 53, 37]) (tgt := 64) (by decide +kernel) (by omega) (by decide) ?_
          refine C.seg (pe := 65) (lv' := [(3, .int x3), (2, .int x1), (0, .ref a0), (1, .int p1)]) (st' := [.int x1]) [(.iload_n 2, 1, 0)] (by decide +kernel) rfl ?_
          refine C.if_ne (off := 7) (tgt := 72) (pf := 68) (by decide +kernel) (by decide) rfl (fun c6 => ?_) (fun c6 => ?_)
          · replace hf := ifn c6 hf
            refine C.seg (pe := 74) (lv' := [(3, .int x3), (2, .int x1), (0, .ref a0), (1, .int p1)]) (st' := [.int x1, .int x3]) [(.iload_n 3, 1, 0), (.iload_n 2, 1, 0)] (by decide +kernel) rfl ?_
            obtain ⟨x5, gx5, hf⟩ := Option.bind_eq_some_iff.mp hf
            refine C.idiv (by decide +kernel) rfl (ckD_self gx5) ?_
            refine Vsub [2] rfl ?_
            exact l_X0_reckon_75 C C2 a0 (x3 / x1) h4 hf
          · replace hf := ifp c6 hf
            refine C.seg (pe := 69) (lv' := [(3, .int x3), (2, .int x1), (0, .ref a0), (1, .int p1)]) (st' := [.int 0]) [(.iconst 0, 1, 0)] (by decide +kernel) rfl ?_
            refine C.goto (off := 6) (tgt := 75) (by decide +kernel) (by decide) ?_
            refine Vsub [2] rfl ?_
            exact l_X0_reckon_75 C C2 a0 0 h4 hf
theorem o_X0_reckon {a0 : Nat} {p1 : Int32} {h : AH} {hr : AH} (hf : f_X0_reckon a0 p1 h = some hr) : isO 0 h a0 = true := by
  unfold f_X0_reckon at hf
  exact (ifO hf).1
/-! WallHouse$Canvas.dot(III)V -/
def f_X0_dot_44 (h : AH) : Option (AH) :=
  some h
set_option maxRecDepth 100000 in
set_option maxHeartbeats 4000000 in
theorem l_X0_dot_44 {X : MX} {l : Launch} {G : GX} {h0 : AH} {hr : AH} (C : Cx X G RX0 cX0_dot 5 none 0 0 h0) (C2 : Cy X l "dot" []) (h : AH) (hf : f_X0_dot_44 h = some hr) : V X G h0 (QV hr) 44 [] [] h := by
  unfold f_X0_dot_44 at hf
  cases hf
  exact C.retV rfl (by decide +kernel) ⟨rfl, rfl⟩
def f_X0_dot (a0 : Nat) (p1 : Int32) (p2 : Int32) (p3 : Int32) (h : AH) : Option (AH) :=
  if isO 0 h a0 = true then
    (gI 0 h a0 1).bind fun x1 =>
    if (p2 * x1) + p1 < 0 then
      f_X0_dot_44 h
    else
      (gA 0 h a0 0).bind fun a2 =>
      (aN h a2).bind fun x3 =>
      if x3 ≤ (p2 * x1) + p1 then
        f_X0_dot_44 h
      else
        (gA 0 h a0 9).bind fun a4 =>
        (aI 2 h a4 ((p2 * x1) + p1)).bind fun x5 =>
        if x5 = 0 then
          (gA 0 h a0 0).bind fun a6 =>
          (sI 1 h a6 ((p2 * x1) + p1) p3.toInt8.toInt32).bind fun h7 =>
          f_X0_dot_44 h7
        else
          f_X0_dot_44 h
  else none
set_option maxRecDepth 100000 in
set_option maxHeartbeats 4000000 in
theorem w_X0_dot {l : Launch} {G : GX} {a0 : Nat} {p1 : Int32} {p2 : Int32} {p3 : Int32} {h : AH} {hr : AH} (hf : f_X0_dot a0 p1 p2 p3 h = some hr) : Ct l G yX0_dot 0 0 [.ref a0, .int p1, .int p2, .int p3] h (QV hr) := by
  unfold f_X0_dot at hf
  obtain ⟨ho, hf⟩ := ifO hf
  refine Ct_of (own := RX0) (cc := cX0_dot) (nL := 5) (ret := none) rfl rfl k_1182 (Nat.le_of_ble_eq_true rfl) (fun X C2 C => ?_)
  show V X G h (QV hr) 0 [(0, .ref a0), (1, .int p1), (2, .int p2), (3, .int p3)] [] h
  refine C.seg (pe := 2) (lv' := [(0, .ref a0), (1, .int p1), (2, .int p2), (3, .int p3)]) (st' := [.ref a0, .int p2]) [(.iload_n 2, 1, 0), (.aload_n 0, 1, 0)] (by decide +kernel) rfl ?_
  obtain ⟨x1, gx1, hf⟩ := Option.bind_eq_some_iff.mp hf
  refine C.rdI fr_505 gx1 (by decide +kernel) rfl ?_
  refine C.seg (pe := 12) (lv' := [(4, .int ((p2 * x1) + p1)), (0, .ref a0), (1, .int p1), (2, .int p2), (3, .int p3)]) (st' := [.int ((p2 * x1) + p1)]) [(.imul, 1, 0), (.iload_n 1, 1, 0), (.iadd, 1, 0), (.istore 4, 2, 0), (.iload 4, 2, 0)] (by decide +kernel) rfl ?_
  refine C.if_lt (off := 32) (tgt := 44) (pf := 15) (by decide +kernel) (by decide) rfl (fun c10 => ?_) (fun c10 => ?_)
  · replace hf := ifp c10 hf
    refine Vsub [] rfl ?_
    exact l_X0_dot_44 C C2 h hf
  · replace hf := ifn c10 hf
    refine C.seg (pe := 18) (lv' := [(4, .int ((p2 * x1) + p1)), (0, .ref a0), (1, .int p1), (2, .int p2), (3, .int p3)]) (st' := [.ref a0, .int ((p2 * x1) + p1)]) [(.iload 4, 2, 0), (.aload_n 0, 1, 0)] (by decide +kernel) rfl ?_
    obtain ⟨a2, ga2, hf⟩ := Option.bind_eq_some_iff.mp hf
    refine C.rdA fr_503 ga2 (by decide +kernel) rfl ?_
    obtain ⟨x3, gx3, hf⟩ := Option.bind_eq_some_iff.mp hf
    refine C.alen gx3 (by decide +kernel) rfl ?_
    refine C.icmp_ge (off := 22) (tgt := 44) (pf := 25) (by decide +kernel) (by decide) rfl (fun c9 => ?_) (fun c9 => ?_)
    · replace hf := ifp c9 hf
      refine Vsub [] rfl ?_
      exact l_X0_dot_44 C C2 h hf
    · replace hf := ifn c9 hf
      refine C.seg (pe := 26) (lv' := [(4, .int ((p2 * x1) + p1)), (0, .ref a0), (1, .int p1), (2, .int p2), (3, .int p3)]) (st' := [.ref a0]) [(.aload_n 0, 1, 0)] (by decide +kernel) rfl ?_
      obtain ⟨a4, ga4, hf⟩ := Option.bind_eq_some_iff.mp hf
      refine C.rdA fr_519 ga4 (by decide +kernel) rfl ?_
      refine C.seg (pe := 31) (lv' := [(4, .int ((p2 * x1) + p1)), (0, .ref a0), (1, .int p1), (2, .int p2), (3, .int p3)]) (st' := [.int ((p2 * x1) + p1), .ref a4]) [(.iload 4, 2, 0)] (by decide +kernel) rfl ?_
      obtain ⟨x5, gx5, hf⟩ := Option.bind_eq_some_iff.mp hf
      refine C.zald 2 rfl gx5 (by decide +kernel) rfl ?_
      refine C.if_ne (off := 12) (tgt := 44) (pf := 35) (by decide +kernel) (by decide) rfl (fun c8 => ?_) (fun c8 => ?_)
      · replace hf := ifn c8 hf
        refine Vsub [] rfl ?_
        exact l_X0_dot_44 C C2 h hf
      · replace hf := ifp c8 hf
        refine C.seg (pe := 36) (lv' := [(4, .int ((p2 * x1) + p1)), (0, .ref a0), (1, .int p1), (2, .int p2), (3, .int p3)]) (st' := [.ref a0]) [(.aload_n 0, 1, 0)] (by decide +kernel) rfl ?_
        obtain ⟨a6, ga6, hf⟩ := Option.bind_eq_some_iff.mp hf
        refine C.rdA fr_503 ga6 (by decide +kernel) rfl ?_
        refine C.seg (pe := 43) (lv' := [(4, .int ((p2 * x1) + p1)), (0, .ref a0), (1, .int p1), (2, .int p2), (3, .int p3)]) (st' := [.int p3.toInt8.toInt32, .int ((p2 * x1) + p1), .ref a6]) [(.iload 4, 2, 0), (.iload_n 3, 1, 0), (.i2b, 1, 0)] (by decide +kernel) rfl ?_
        obtain ⟨h7, gh7, hf⟩ := Option.bind_eq_some_iff.mp hf
        refine C.bast gh7 (by decide +kernel) rfl ?_
        refine Vsub [] rfl ?_
        exact l_X0_dot_44 C C2 h7 hf
theorem o_X0_dot {a0 : Nat} {p1 : Int32} {p2 : Int32} {p3 : Int32} {h : AH} {hr : AH} (hf : f_X0_dot a0 p1 p2 p3 h = some hr) : isO 0 h a0 = true := by
  unfold f_X0_dot at hf
  exact (ifO hf).1
/-! WallHouse$Canvas.rect(I)V -/
def f_X0_rect_95 (h : AH) : Option (AH) :=
  some h
set_option maxRecDepth 100000 in
set_option maxHeartbeats 4000000 in
theorem l_X0_rect_95 {X : MX} {l : Launch} {G : GX} {h0 : AH} {hr : AH} (C : Cx X G RX0 cX0_rect 8 none 1 40 h0) (C2 : Cy X l "rect" []) (h : AH) (hf : f_X0_rect_95 h = some hr) : V X G h0 (QV hr) 95 [] [] h := by
  unfold f_X0_rect_95 at hf
  cases hf
  exact C.retV rfl (by decide +kernel) ⟨rfl, rfl⟩
def f_X0_rect_89 (k30 : Nat → Int32 → Int32 → Int32 → Int32 → Int32 → Int32 → AH → Option (AH)) (r0 : Nat) (i1 : Int32) (i2 : Int32) (i3 : Int32) (i4 : Int32) (i5 : Int32) (i6 : Int32) (h : AH) : Option (AH) :=
  k30 r0 i1 i2 i3 i4 i5 (i6 + 1) h
set_option maxRecDepth 100000 in
set_option maxHeartbeats 4000000 in
theorem l_X0_rect_89 {X : MX} {l : Launch} {G : GX} {h0 : AH} {hr : AH} (C : Cx X G RX0 cX0_rect 8 none 1 40 h0) (C2 : Cy X l "rect" []) {k30 : Nat → Int32 → Int32 → Int32 → Int32 → Int32 → Int32 → AH → Option (AH)} (hk30 : ∀ (r0 : Nat) (i1 : Int32) (i2 : Int32) (i3 : Int32) (i4 : Int32) (i5 : Int32) (i6 : Int32) (h : AH), k30 r0 i1 i2 i3 i4 i5 i6 h = some hr → V X G h0 (QV hr) 30 [(0, .ref r0), (1, .int i1), (2, .int i2), (3, .int i3), (4, .int i4), (5, .int i5), (6, .int i6)] [] h) (r0 : Nat) (i1 : Int32) (i2 : Int32) (i3 : Int32) (i4 : Int32) (i5 : Int32) (i6 : Int32) (h : AH) (hf : f_X0_rect_89 k30 r0 i1 i2 i3 i4 i5 i6 h = some hr) : V X G h0 (QV hr) 89 [(0, .ref r0), (1, .int i1), (2, .int i2), (3, .int i3), (4, .int i4), (5, .int i5), (6, .int i6)] [] h := by
  unfold f_X0_rect_89 at hf
  refine C.seg (pe := 92) (lv' := [(6, .int (i6 + 1)), (0, .ref r0), (1, .int i1), (2, .int i2), (3, .int i3), (4, .int i4), (5, .int i5)]) (st' := []) [(.iinc 6 1, 3, 1)] (by decide +kernel) rfl ?_
  refine C.goto (off := (-62)) (tgt := 30) (by decide +kernel) (by decide) ?_
  refine Vsub [1, 2, 3, 4, 5, 6, 0] rfl ?_
  exact hk30 r0 i1 i2 i3 i4 i5 (i6 + 1) h hf
def f_X0_rect_56 (k30 : Nat → Int32 → Int32 → Int32 → Int32 → Int32 → Int32 → AH → Option (AH)) : Nat → Nat → Int32 → Int32 → Int32 → Int32 → Int32 → Int32 → Int32 → AH → Option (AH)
  | 0, _, _, _, _, _, _, _, _, _ => none
  | n + 1, r0, i1, i2, i3, i4, i5, i6, i7, h =>
    (gI 0 h r0 1).bind fun x1 =>
    if x1 ≤ i7 then
      f_X0_rect_89 k30 r0 i1 i2 i3 i4 i5 i6 h
    else
      if i5 + i3 ≤ i7 then
        f_X0_rect_89 k30 r0 i1 i2 i3 i4 i5 i6 h
      else
        (f_X0_dot r0 i7 i6 i1 h).bind fun h2 =>
        (f_X0_rect_56 k30 n) r0 i1 i2 i3 i4 i5 i6 (i7 + 1) h2
set_option maxRecDepth 100000 in
set_option maxHeartbeats 4000000 in
theorem l_X0_rect_56 {X : MX} {l : Launch} {G : GX} {h0 : AH} {hr : AH} (C : Cx X G RX0 cX0_rect 8 none 1 40 h0) (C2 : Cy X l "rect" []) {k30 : Nat → Int32 → Int32 → Int32 → Int32 → Int32 → Int32 → AH → Option (AH)} (hk30 : ∀ (r0 : Nat) (i1 : Int32) (i2 : Int32) (i3 : Int32) (i4 : Int32) (i5 : Int32) (i6 : Int32) (h : AH), k30 r0 i1 i2 i3 i4 i5 i6 h = some hr → V X G h0 (QV hr) 30 [(0, .ref r0), (1, .int i1), (2, .int i2), (3, .int i3), (4, .int i4), (5, .int i5), (6, .int i6)] [] h) : ∀ (n : Nat) (r0 : Nat) (i1 : Int32) (i2 : Int32) (i3 : Int32) (i4 : Int32) (i5 : Int32) (i6 : Int32) (i7 : Int32) (h : AH), f_X0_rect_56 k30 n r0 i1 i2 i3 i4 i5 i6 i7 h = some hr → V X G h0 (QV hr) 56 [(0, .ref r0), (1, .int i1), (2, .int i2), (3, .int i3), (4, .int i4), (5, .int i5), (6, .int i6), (7, .int i7)] [] h := by
  intro n
  induction n with
  | zero => intro r0 i1 i2 i3 i4 i5 i6 i7 h hf; rw [f_X0_rect_56] at hf; cases hf
  | succ n ih =>
    intro r0 i1 i2 i3 i4 i5 i6 i7 h hf
    rw [f_X0_rect_56] at hf
    refine C.seg (pe := 59) (lv' := [(0, .ref r0), (1, .int i1), (2, .int i2), (3, .int i3), (4, .int i4), (5, .int i5), (6, .int i6), (7, .int i7)]) (st' := [.ref r0, .int i7]) [(.iload 7, 2, 0), (.aload_n 0, 1, 0)] (by decide +kernel) rfl ?_
    obtain ⟨x1, gx1, hf⟩ := Option.bind_eq_some_iff.mp hf
    refine C.rdI fr_505 gx1 (by decide +kernel) rfl ?_
    refine C.icmp_ge (off := 27) (tgt := 89) (pf := 65) (by decide +kernel) (by decide) rfl (fun c4 => ?_) (fun c4 => ?_)
    · replace hf := ifp c4 hf
      refine Vsub [0, 1, 2, 3, 4, 5, 6] rfl ?_
      exact l_X0_rect_89 C C2 hk30 r0 i1 i2 i3 i4 i5 i6 h hf
    · replace hf := ifn c4 hf
      refine C.seg (pe := 71) (lv' := [(0, .ref r0), (1, .int i1), (2, .int i2), (3, .int i3), (4, .int i4), (5, .int i5), (6, .int i6), (7, .int i7)]) (st' := [.int (i5 + i3), .int i7]) [(.iload 7, 2, 0), (.iload 5, 2, 0), (.iload_n 3, 1, 0), (.iadd, 1, 0)] (by decide +kernel) rfl ?_
      refine C.icmp_ge (off := 18) (tgt := 89) (pf := 74) (by decide +kernel) (by decide) rfl (fun c3 => ?_) (fun c3 => ?_)
      · replace hf := ifp c3 hf
        refine Vsub [0, 1, 2, 3, 4, 5, 6] rfl ?_
        exact l_X0_rect_89 C C2 hk30 r0 i1 i2 i3 i4 i5 i6 h hf
      · replace hf := ifn c3 hf
        refine C.seg (pe := 80) (lv' := [(0, .ref r0), (1, .int i1), (2, .int i2), (3, .int i3), (4, .int i4), (5, .int i5), (6, .int i6), (7, .int i7)]) (st' := [.int i1, .int i6, .int i7, .ref r0]) [(.aload_n 0, 1, 0), (.iload 7, 2, 0), (.iload 6, 2, 0), (.iload_n 1, 1, 0)] (by decide +kernel) rfl ?_
        obtain ⟨h2, gh2, hf⟩ := Option.bind_eq_some_iff.mp hf
        refine C.callVr C2 [.int i7, .int i6, .int i1] [] mv_1179 rfl (o_X0_dot gh2) (w_X0_dot gh2) (by omega) (by omega) (Nat.le_of_ble_eq_true rfl) (by decide +kernel) rfl ?_
        refine C.seg (pe := 86) (lv' := [(7, .int (i7 + 1)), (0, .ref r0), (1, .int i1), (2, .int i2), (3, .int i3), (4, .int i4), (5, .int i5), (6, .int i6)]) (st' := []) [(.iinc 7 1, 3, 1)] (by decide +kernel) rfl ?_
        refine C.goto (off := (-30)) (tgt := 56) (by decide +kernel) (by decide) ?_
        refine Vsub [1, 2, 3, 4, 5, 6, 7, 0] rfl ?_
        exact ih r0 i1 i2 i3 i4 i5 i6 (i7 + 1) h2 hf
def f_X0_rect_30 : Nat → Nat → Int32 → Int32 → Int32 → Int32 → Int32 → Int32 → AH → Option (AH)
  | 0, _, _, _, _, _, _, _, _ => none
  | n + 1, r0, i1, i2, i3, i4, i5, i6, h =>
    (gI 0 h r0 2).bind fun x1 =>
    if x1 ≤ i6 then
      f_X0_rect_95 h
    else
      if i4 + i2 ≤ i6 then
        f_X0_rect_95 h
      else
        f_X0_rect_56 (f_X0_rect_30 n) FU r0 i1 i2 i3 i4 i5 i6 (mxI 0 i5) h
set_option maxRecDepth 100000 in
set_option maxHeartbeats 4000000 in
theorem l_X0_rect_30 {X : MX} {l : Launch} {G : GX} {h0 : AH} {hr : AH} (C : Cx X G RX0 cX0_rect 8 none 1 40 h0) (C2 : Cy X l "rect" []) : ∀ (n : Nat) (r0 : Nat) (i1 : Int32) (i2 : Int32) (i3 : Int32) (i4 : Int32) (i5 : Int32) (i6 : Int32) (h : AH), f_X0_rect_30 n r0 i1 i2 i3 i4 i5 i6 h = some hr → V X G h0 (QV hr) 30 [(0, .ref r0), (1, .int i1), (2, .int i2), (3, .int i3), (4, .int i4), (5, .int i5), (6, .int i6)] [] h := by
  intro n
  induction n with
  | zero => intro r0 i1 i2 i3 i4 i5 i6 h hf; rw [f_X0_rect_30] at hf; cases hf
  | succ n ih =>
    intro r0 i1 i2 i3 i4 i5 i6 h hf
    rw [f_X0_rect_30] at hf
    refine C.seg (pe := 33) (lv' := [(0, .ref r0), (1, .int i1), (2, .int i2), (3, .int i3), (4, .int i4), (5, .int i5), (6, .int i6)]) (st' := [.ref r0, .int i6]) [(.iload 6, 2, 0), (.aload_n 0, 1, 0)] (by decide +kernel) rfl ?_
    obtain ⟨x1, gx1, hf⟩ := Option.bind_eq_some_iff.mp hf
    refine C.rdI fr_507 gx1 (by decide +kernel) rfl ?_
    refine C.icmp_ge (off := 59) (tgt := 95) (pf := 39) (by decide +kernel) (by decide) rfl (fun c3 => ?_) (fun c3 => ?_)
    · replace hf := ifp c3 hf
      refine Vsub [] rfl ?_
      exact l_X0_rect_95 C C2 h hf
    · replace hf := ifn c3 hf
      refine C.seg (pe := 45) (lv' := [(0, .ref r0), (1, .int i1), (2, .int i2), (3, .int i3), (4, .int i4), (5, .int i5), (6, .int i6)]) (st' := [.int (i4 + i2), .int i6]) [(.iload 6, 2, 0), (.iload 4, 2, 0), (.iload_n 2, 1, 0), (.iadd, 1, 0)] (by decide +kernel) rfl ?_
      refine C.icmp_ge (off := 50) (tgt := 95) (pf := 48) (by decide +kernel) (by decide) rfl (fun c2 => ?_) (fun c2 => ?_)
      · replace hf := ifp c2 hf
        refine Vsub [] rfl ?_
        exact l_X0_rect_95 C C2 h hf
      · replace hf := ifn c2 hf
        refine C.seg (pe := 51) (lv' := [(0, .ref r0), (1, .int i1), (2, .int i2), (3, .int i3), (4, .int i4), (5, .int i5), (6, .int i6)]) (st' := [.int i5, .int 0]) [(.iconst 0, 1, 0), (.iload 5, 2, 0)] (by decide +kernel) rfl ?_
        refine C.mmax k_1174 k_636 k_137 k_637 (by omega) (by omega) (Nat.le_of_ble_eq_true rfl) (by decide +kernel) rfl ?_
        refine C.seg (pe := 56) (lv' := [(7, .int (mxI 0 i5)), (0, .ref r0), (1, .int i1), (2, .int i2), (3, .int i3), (4, .int i4), (5, .int i5), (6, .int i6)]) (st' := []) [(.istore 7, 2, 0)] (by decide +kernel) rfl ?_
        refine Vsub [1, 2, 3, 4, 5, 6, 7, 0] rfl ?_
        exact l_X0_rect_56 C C2 ih FU r0 i1 i2 i3 i4 i5 i6 (mxI 0 i5) h hf
def f_X0_rect (a0 : Nat) (p1 : Int32) (h : AH) : Option (AH) :=
  if isO 0 h a0 = true then
    b2 (f_X0_release a0 h) fun x1 h2 =>
    b2 (f_X0_release a0 h2) fun x3 h4 =>
    b2 (f_X0_release a0 h4) fun x5 h6 =>
    b2 (f_X0_release a0 h6) fun x7 h8 =>
    f_X0_rect_30 FU a0 p1 x1 x3 x5 x7 (mxI 0 x5) h8
  else none
set_option maxRecDepth 100000 in
set_option maxHeartbeats 4000000 in
theorem w_X0_rect {l : Launch} {G : GX} {a0 : Nat} {p1 : Int32} {h : AH} {hr : AH} (hf : f_X0_rect a0 p1 h = some hr) : Ct l G yX0_rect 1 40 [.ref a0, .int p1] h (QV hr) := by
  unfold f_X0_rect at hf
  obtain ⟨ho, hf⟩ := ifO hf
  refine Ct_of (own := RX0) (cc := cX0_rect) (nL := 8) (ret := none) rfl rfl k_1178 (Nat.le_of_ble_eq_true rfl) (fun X C2 C => ?_)
  show V X G h (QV hr) 0 [(0, .ref a0), (1, .int p1)] [] h
  refine C.seg (pe := 1) (lv' := [(0, .ref a0), (1, .int p1)]) (st' := [.ref a0]) [(.aload_n 0, 1, 0)] (by decide +kernel) rfl ?_
  obtain ⟨x1, h2, gx1, hf⟩ := b2_some hf
  refine C.callVr C2 [] [] mv_1170 rfl (o_X0_release gx1) (w_X0_release gx1) (by omega) (by omega) (Nat.le_of_ble_eq_true rfl) (by decide +kernel) rfl ?_
  refine C.seg (pe := 6) (lv' := [(2, .int x1), (0, .ref a0), (1, .int p1)]) (st' := [.ref a0]) [(.istore_n 2, 1, 0), (.aload_n 0, 1, 0)] (by decide +kernel) rfl ?_
  obtain ⟨x3, h4, gx3, hf⟩ := b2_some hf
  refine C.callVr C2 [] [] mv_1170 rfl (o_X0_release gx3) (w_X0_release gx3) (by omega) (by omega) (Nat.le_of_ble_eq_true rfl) (by decide +kernel) rfl ?_
  refine C.seg (pe := 11) (lv' := [(3, .int x3), (2, .int x1), (0, .ref a0), (1, .int p1)]) (st' := [.ref a0]) [(.istore_n 3, 1, 0), (.aload_n 0, 1, 0)] (by decide +kernel) rfl ?_
  obtain ⟨x5, h6, gx5, hf⟩ := b2_some hf
  refine C.callVr C2 [] [] mv_1170 rfl (o_X0_release gx5) (w_X0_release gx5) (by omega) (by omega) (Nat.le_of_ble_eq_true rfl) (by decide +kernel) rfl ?_
  refine C.seg (pe := 17) (lv' := [(4, .int x5), (3, .int x3), (2, .int x1), (0, .ref a0), (1, .int p1)]) (st' := [.ref a0]) [(.istore 4, 2, 0), (.aload_n 0, 1, 0)] (by decide +kernel) rfl ?_
  obtain ⟨x7, h8, gx7, hf⟩ := b2_some hf
  refine C.callVr C2 [] [] mv_1170 rfl (o_X0_release gx7) (w_X0_release gx7) (by omega) (by omega) (Nat.le_of_ble_eq_true rfl) (by decide +kernel) rfl ?_
  refine C.seg (pe := 25) (lv' := [(5, .int x7), (4, .int x5), (3, .int x3), (2, .int x1), (0, .ref a0), (1, .int p1)]) (st' := [.int x5, .int 0]) [(.istore 5, 2, 0), (.iconst 0, 1, 0), (.iload 4, 2, 0)] (by decide +kernel) rfl ?_
  refine C.mmax k_1174 k_636 k_137 k_637 (by omega) (by omega) (Nat.le_of_ble_eq_true rfl) (by decide +kernel) rfl ?_
  refine C.seg (pe := 30) (lv' := [(6, .int (mxI 0 x5)), (5, .int x7), (4, .int x5), (3, .int x3), (2, .int x1), (0, .ref a0), (1, .int p1)]) (st' := []) [(.istore 6, 2, 0)] (by decide +kernel) rfl ?_
  refine Vsub [5, 6, 4, 3, 2, 1, 0] rfl ?_
  exact l_X0_rect_30 C C2 FU a0 p1 x1 x3 x5 x7 (mxI 0 x5) h8 hf
theorem o_X0_rect {a0 : Nat} {p1 : Int32} {h : AH} {hr : AH} (hf : f_X0_rect a0 p1 h = some hr) : isO 0 h a0 = true := by
  unfold f_X0_rect at hf
  exact (ifO hf).1
/-! WallHouse$Canvas.disc(I)V -/
def f_X0_disc_92 (h : AH) : Option (AH) :=
  some h
set_option maxRecDepth 100000 in
set_option maxHeartbeats 4000000 in
theorem l_X0_disc_92 {X : MX} {l : Launch} {G : GX} {h0 : AH} {hr : AH} (C : Cx X G RX0 cX0_disc 7 none 1 24 h0) (C2 : Cy X l "disc" []) (h : AH) (hf : f_X0_disc_92 h = some hr) : V X G h0 (QV hr) 92 [] [] h := by
  unfold f_X0_disc_92 at hf
  cases hf
  exact C.retV rfl (by decide +kernel) ⟨rfl, rfl⟩
def f_X0_disc_80 (k19 : Nat → Int32 → Int32 → Int32 → Int32 → Int32 → AH → Option (AH)) (k35 : Nat → Int32 → Int32 → Int32 → Int32 → Int32 → Int32 → AH → Option (AH)) (r0 : Nat) (i1 : Int32) (i2 : Int32) (i3 : Int32) (i4 : Int32) (i5 : Int32) (i6 : Int32) (h : AH) : Option (AH) :=
  k35 r0 i1 i2 i3 i4 i5 (i6 + 1) h
set_option maxRecDepth 100000 in
set_option maxHeartbeats 4000000 in
theorem l_X0_disc_80 {X : MX} {l : Launch} {G : GX} {h0 : AH} {hr : AH} (C : Cx X G RX0 cX0_disc 7 none 1 24 h0) (C2 : Cy X l "disc" []) {k19 : Nat → Int32 → Int32 → Int32 → Int32 → Int32 → AH → Option (AH)} (hk19 : ∀ (r0 : Nat) (i1 : Int32) (i2 : Int32) (i3 : Int32) (i4 : Int32) (i5 : Int32) (h : AH), k19 r0 i1 i2 i3 i4 i5 h = some hr → V X G h0 (QV hr) 19 [(0, .ref r0), (1, .int i1), (2, .int i2), (3, .int i3), (4, .int i4), (5, .int i5)] [] h) {k35 : Nat → Int32 → Int32 → Int32 → Int32 → Int32 → Int32 → AH → Option (AH)} (hk35 : ∀ (r0 : Nat) (i1 : Int32) (i2 : Int32) (i3 : Int32) (i4 : Int32) (i5 : Int32) (i6 : Int32) (h : AH), k35 r0 i1 i2 i3 i4 i5 i6 h = some hr → V X G h0 (QV hr) 35 [(0, .ref r0), (1, .int i1), (2, .int i2), (3, .int i3), (4, .int i4), (5, .int i5), (6, .int i6)] [] h) (r0 : Nat) (i1 : Int32) (i2 : Int32) (i3 : Int32) (i4 : Int32) (i5 : Int32) (i6 : Int32) (h : AH) (hf : f_X0_disc_80 k19 k35 r0 i1 i2 i3 i4 i5 i6 h = some hr) : V X G h0 (QV hr) 80 [(0, .ref r0), (1, .int i1), (2, .int i2), (3, .int i3), (4, .int i4), (5, .int i5), (6, .int i6)] [] h := by
  unfold f_X0_disc_80 at hf
  refine C.seg (pe := 83) (lv' := [(6, .int (i6 + 1)), (0, .ref r0), (1, .int i1), (2, .int i2), (3, .int i3), (4, .int i4), (5, .int i5)]) (st' := []) [(.iinc 6 1, 3, 1)] (by decide +kernel) rfl ?_
  refine C.goto (off := (-48)) (tgt := 35) (by decide +kernel) (by decide) ?_
  refine Vsub [1, 2, 3, 4, 5, 6, 0] rfl ?_
  exact hk35 r0 i1 i2 i3 i4 i5 (i6 + 1) h hf
def f_X0_disc_35 (k19 : Nat → Int32 → Int32 → Int32 → Int32 → Int32 → AH → Option (AH)) : Nat → Nat → Int32 → Int32 → Int32 → Int32 → Int32 → Int32 → AH → Option (AH)
  | 0, _, _, _, _, _, _, _, _ => none
  | n + 1, r0, i1, i2, i3, i4, i5, i6, h =>
    (gI 0 h r0 1).bind fun x1 =>
    if x1 ≤ i6 then
      k19 r0 i1 i2 i3 i4 (i5 + 1) h
    else
      if i2 * i2 < ((i6 - i4) * (i6 - i4)) + ((i5 - i3) * (i5 - i3)) then
        f_X0_disc_80 k19 (f_X0_disc_35 k19 n) r0 i1 i2 i3 i4 i5 i6 h
      else
        (f_X0_dot r0 i6 i5 i1 h).bind fun h2 =>
        f_X0_disc_80 k19 (f_X0_disc_35 k19 n) r0 i1 i2 i3 i4 i5 i6 h2
set_option maxRecDepth 100000 in
set_option maxHeartbeats 4000000 in
theorem l_X0_disc_35 {X : MX} {l : Launch} {G : GX} {h0 : AH} {hr : AH} (C : Cx X G RX0 cX0_disc 7 none 1 24 h0) (C2 : Cy X l "disc" []) {k19 : Nat → Int32 → Int32 → Int32 → Int32 → Int32 → AH → Option (AH)} (hk19 : ∀ (r0 : Nat) (i1 : Int32) (i2 : Int32) (i3 : Int32) (i4 : Int32) (i5 : Int32) (h : AH), k19 r0 i1 i2 i3 i4 i5 h = some hr → V X G h0 (QV hr) 19 [(0, .ref r0), (1, .int i1), (2, .int i2), (3, .int i3), (4, .int i4), (5, .int i5)] [] h) : ∀ (n : Nat) (r0 : Nat) (i1 : Int32) (i2 : Int32) (i3 : Int32) (i4 : Int32) (i5 : Int32) (i6 : Int32) (h : AH), f_X0_disc_35 k19 n r0 i1 i2 i3 i4 i5 i6 h = some hr → V X G h0 (QV hr) 35 [(0, .ref r0), (1, .int i1), (2, .int i2), (3, .int i3), (4, .int i4), (5, .int i5), (6, .int i6)] [] h := by
  intro n
  induction n with
  | zero => intro r0 i1 i2 i3 i4 i5 i6 h hf; rw [f_X0_disc_35] at hf; cases hf
  | succ n ih =>
    intro r0 i1 i2 i3 i4 i5 i6 h hf
    rw [f_X0_disc_35] at hf
    refine C.seg (pe := 38) (lv' := [(0, .ref r0), (1, .int i1), (2, .int i2), (3, .int i3), (4, .int i4), (5, .int i5), (6, .int i6)]) (st' := [.ref r0, .int i6]) [(.iload 6, 2, 0), (.aload_n 0, 1, 0)] (by decide +kernel) rfl ?_
    obtain ⟨x1, gx1, hf⟩ := Option.bind_eq_some_iff.mp hf
    refine C.rdI fr_505 gx1 (by decide +kernel) rfl ?_
    refine C.icmp_ge (off := 45) (tgt := 86) (pf := 44) (by decide +kernel) (by decide) rfl (fun c4 => ?_) (fun c4 => ?_)
    · replace hf := ifp c4 hf
      refine C.seg (pe := 89) (lv' := [(5, .int (i5 + 1)), (0, .ref r0), (1, .int i1), (2, .int i2), (3, .int i3), (4, .int i4), (6, .int i6)]) (st' := []) [(.iinc 5 1, 3, 1)] (by decide +kernel) rfl ?_
      refine C.goto (off := (-70)) (tgt := 19) (by decide +kernel) (by decide) ?_
      refine Vsub [1, 2, 3, 4, 5, 0] rfl ?_
      exact hk19 r0 i1 i2 i3 i4 (i5 + 1) h hf
    · replace hf := ifn c4 hf
      refine C.seg (pe := 68) (lv' := [(0, .ref r0), (1, .int i1), (2, .int i2), (3, .int i3), (4, .int i4), (5, .int i5), (6, .int i6)]) (st' := [.int (i2 * i2), .int (((i6 - i4) * (i6 - i4)) + ((i5 - i3) * (i5 - i3)))]) [(.iload 6, 2, 0), (.iload 4, 2, 0), (.isub, 1, 0), (.iload 6, 2, 0), (.iload 4, 2, 0), (.isub, 1, 0), (.imul, 1, 0), (.iload 5, 2, 0), (.iload_n 3, 1, 0), (.isub, 1, 0), (.iload 5, 2, 0), (.iload_n 3, 1, 0), (.isub, 1, 0), (.imul, 1, 0), (.iadd, 1, 0), (.iload_n 2, 1, 0), (.iload_n 2, 1, 0), (.imul, 1, 0)] (by decide +kernel) rfl ?_
      refine C.icmp_gt (off := 12) (tgt := 80) (pf := 71) (by decide +kernel) (by decide) rfl (fun c3 => ?_) (fun c3 => ?_)
      · replace hf := ifp c3 hf
        exact l_X0_disc_80 C C2 hk19 ih r0 i1 i2 i3 i4 i5 i6 h hf
      · replace hf := ifn c3 hf
        refine C.seg (pe := 77) (lv' := [(0, .ref r0), (1, .int i1), (2, .int i2), (3, .int i3), (4, .int i4), (5, .int i5), (6, .int i6)]) (st' := [.int i1, .int i5, .int i6, .ref r0]) [(.aload_n 0, 1, 0), (.iload 6, 2, 0), (.iload 5, 2, 0), (.iload_n 1, 1, 0)] (by decide +kernel) rfl ?_
        obtain ⟨h2, gh2, hf⟩ := Option.bind_eq_some_iff.mp hf
        refine C.callVr C2 [.int i6, .int i5, .int i1] [] mv_1179 rfl (o_X0_dot gh2) (w_X0_dot gh2) (by omega) (by omega) (Nat.le_of_ble_eq_true rfl) (by decide +kernel) rfl ?_
        exact l_X0_disc_80 C C2 hk19 ih r0 i1 i2 i3 i4 i5 i6 h2 hf
def f_X0_disc_19 : Nat → Nat → Int32 → Int32 → Int32 → Int32 → Int32 → AH → Option (AH)
  | 0, _, _, _, _, _, _, _ => none
  | n + 1, r0, i1, i2, i3, i4, i5, h =>
    (gI 0 h r0 2).bind fun x1 =>
    if x1 ≤ i5 then
      f_X0_disc_92 h
    else
      if i2 < 0 then
        f_X0_disc_92 h
      else
        f_X0_disc_35 (f_X0_disc_19 n) FU r0 i1 i2 i3 i4 i5 0 h
set_option maxRecDepth 100000 in
set_option maxHeartbeats 4000000 in
theorem l_X0_disc_19 {X : MX} {l : Launch} {G : GX} {h0 : AH} {hr : AH} (C : Cx X G RX0 cX0_disc 7 none 1 24 h0) (C2 : Cy X l "disc" []) : ∀ (n : Nat) (r0 : Nat) (i1 : Int32) (i2 : Int32) (i3 : Int32) (i4 : Int32) (i5 : Int32) (h : AH), f_X0_disc_19 n r0 i1 i2 i3 i4 i5 h = some hr → V X G h0 (QV hr) 19 [(0, .ref r0), (1, .int i1), (2, .int i2), (3, .int i3), (4, .int i4), (5, .int i5)] [] h := by
  intro n
  induction n with
  | zero => intro r0 i1 i2 i3 i4 i5 h hf; rw [f_X0_disc_19] at hf; cases hf
  | succ n ih =>
    intro r0 i1 i2 i3 i4 i5 h hf
    rw [f_X0_disc_19] at hf
    refine C.seg (pe := 22) (lv' := [(0, .ref r0), (1, .int i1), (2, .int i2), (3, .int i3), (4, .int i4), (5, .int i5)]) (st' := [.ref r0, .int i5]) [(.iload 5, 2, 0), (.aload_n 0, 1, 0)] (by decide +kernel) rfl ?_
    obtain ⟨x1, gx1, hf⟩ := Option.bind_eq_some_iff.mp hf
    refine C.rdI fr_507 gx1 (by decide +kernel) rfl ?_
    refine C.icmp_ge (off := 67) (tgt := 92) (pf := 28) (by decide +kernel) (by decide) rfl (fun c3 => ?_) (fun c3 => ?_)
    · replace hf := ifp c3 hf
      refine Vsub [] rfl ?_
      exact l_X0_disc_92 C C2 h hf
    · replace hf := ifn c3 hf
      refine C.seg (pe := 29) (lv' := [(0, .ref r0), (1, .int i1), (2, .int i2), (3, .int i3), (4, .int i4), (5, .int i5)]) (st' := [.int i2]) [(.iload_n 2, 1, 0)] (by decide +kernel) rfl ?_
      refine C.if_lt (off := 63) (tgt := 92) (pf := 32) (by decide +kernel) (by decide) rfl (fun c2 => ?_) (fun c2 => ?_)
      · replace hf := ifp c2 hf
        refine Vsub [] rfl ?_
        exact l_X0_disc_92 C C2 h hf
      · replace hf := ifn c2 hf
        refine C.seg (pe := 35) (lv' := [(6, .int 0), (0, .ref r0), (1, .int i1), (2, .int i2), (3, .int i3), (4, .int i4), (5, .int i5)]) (st' := []) [(.iconst 0, 1, 0), (.istore 6, 2, 0)] (by decide +kernel) rfl ?_
        refine Vsub [1, 2, 3, 4, 5, 6, 0] rfl ?_
        exact l_X0_disc_35 C C2 ih FU r0 i1 i2 i3 i4 i5 0 h hf
def f_X0_disc (a0 : Nat) (p1 : Int32) (h : AH) : Option (AH) :=
  if isO 0 h a0 = true then
    b2 (f_X0_release a0 h) fun x1 h2 =>
    b2 (f_X0_release a0 h2) fun x3 h4 =>
    b2 (f_X0_release a0 h4) fun x5 h6 =>
    f_X0_disc_19 FU a0 p1 x1 x3 x5 0 h6
  else none
set_option maxRecDepth 100000 in
set_option maxHeartbeats 4000000 in
theorem w_X0_disc {l : Launch} {G : GX} {a0 : Nat} {p1 : Int32} {h : AH} {hr : AH} (hf : f_X0_disc a0 p1 h = some hr) : Ct l G yX0_disc 1 24 [.ref a0, .int p1] h (QV hr) := by
  unfold f_X0_disc at hf
  obtain ⟨ho, hf⟩ := ifO hf
  refine Ct_of (own := RX0) (cc := cX0_disc) (nL := 7) (ret := none) rfl rfl k_1186 (Nat.le_of_ble_eq_true rfl) (fun X C2 C => ?_)
  show V X G h (QV hr) 0 [(0, .ref a0), (1, .int p1)] [] h
  refine C.seg (pe := 1) (lv' := [(0, .ref a0), (1, .int p1)]) (st' := [.ref a0]) [(.aload_n 0, 1, 0)] (by decide +kernel) rfl ?_
  obtain ⟨x1, h2, gx1, hf⟩ := b2_some hf
  refine C.callVr C2 [] [] mv_1170 rfl (o_X0_release gx1) (w_X0_release gx1) (by omega) (by omega) (Nat.le_of_ble_eq_true rfl) (by decide +kernel) rfl ?_
  refine C.seg (pe := 6) (lv' := [(2, .int x1), (0, .ref a0), (1, .int p1)]) (st' := [.ref a0]) [(.istore_n 2, 1, 0), (.aload_n 0, 1, 0)] (by decide +kernel) rfl ?_
  obtain ⟨x3, h4, gx3, hf⟩ := b2_some hf
  refine C.callVr C2 [] [] mv_1170 rfl (o_X0_release gx3) (w_X0_release gx3) (by omega) (by omega) (Nat.le_of_ble_eq_true rfl) (by decide +kernel) rfl ?_
  refine C.seg (pe := 11) (lv' := [(3, .int x3), (2, .int x1), (0, .ref a0), (1, .int p1)]) (st' := [.ref a0]) [(.istore_n 3, 1, 0), (.aload_n 0, 1, 0)] (by decide +kernel) rfl ?_
  obtain ⟨x5, h6, gx5, hf⟩ := b2_some hf
  refine C.callVr C2 [] [] mv_1170 rfl (o_X0_release gx5) (w_X0_release gx5) (by omega) (by omega) (Nat.le_of_ble_eq_true rfl) (by decide +kernel) rfl ?_
  refine C.seg (pe := 19) (lv' := [(5, .int 0), (4, .int x5), (3, .int x3), (2, .int x1), (0, .ref a0), (1, .int p1)]) (st' := []) [(.istore 4, 2, 0), (.iconst 0, 1, 0), (.istore 5, 2, 0)] (by decide +kernel) rfl ?_
  refine Vsub [4, 5, 3, 2, 1, 0] rfl ?_
  exact l_X0_disc_19 C C2 FU a0 p1 x1 x3 x5 0 h6 hf
theorem o_X0_disc {a0 : Nat} {p1 : Int32} {h : AH} {hr : AH} (hf : f_X0_disc a0 p1 h = some hr) : isO 0 h a0 = true := by
  unfold f_X0_disc at hf
  exact (ifO hf).1
/-! WallHouse$Canvas.holds(II)Z -/
def f_X0_holds_29 (si0 : Int32) (h : AH) : Option (Int32 × AH) :=
  (ckZ si0).bind fun x1 =>
  some (x1, h)
set_option maxRecDepth 100000 in
set_option maxHeartbeats 4000000 in
theorem l_X0_holds_29 {X : MX} {l : Launch} {G : GX} {h0 : AH} {rr : Int32} {hr : AH} (C : Cx X G RX0 cX0_holds 3 (some .boolean) 0 0 h0) (C2 : Cy X l "holds" []) (si0 : Int32) (h : AH) (hf : f_X0_holds_29 si0 h = some (rr, hr)) : V X G h0 (QI rr hr) 29 [] [.int si0] h := by
  unfold f_X0_holds_29 at hf
  obtain ⟨x1, gx1, hf⟩ := Option.bind_eq_some_iff.mp hf
  have ex1 := ckZ_eq gx1
  subst ex1
  cases hf
  exact C.retZ rfl gx1 (by decide +kernel) ⟨rfl, rfl⟩
def f_X0_holds_28 (h : AH) : Option (Int32 × AH) :=
  f_X0_holds_29 0 h
set_option maxRecDepth 100000 in
set_option maxHeartbeats 4000000 in
theorem l_X0_holds_28 {X : MX} {l : Launch} {G : GX} {h0 : AH} {rr : Int32} {hr : AH} (C : Cx X G RX0 cX0_holds 3 (some .boolean) 0 0 h0) (C2 : Cy X l "holds" []) (h : AH) (hf : f_X0_holds_28 h = some (rr, hr)) : V X G h0 (QI rr hr) 28 [] [] h := by
  unfold f_X0_holds_28 at hf
  refine C.seg (pe := 29) (lv' := []) (st' := [.int 0]) [(.iconst 0, 1, 0)] (by decide +kernel) rfl ?_
  exact l_X0_holds_29 C C2 0 h hf
def f_X0_holds (a0 : Nat) (p1 : Int32) (p2 : Int32) (h : AH) : Option (Int32 × AH) :=
  if isO 0 h a0 = true then
    if p1 < 0 then
      f_X0_holds_28 h
    else
      (gI 0 h a0 1).bind fun x1 =>
      if x1 ≤ p1 then
        f_X0_holds_28 h
      else
        if p2 < 0 then
          f_X0_holds_28 h
        else
          (gI 0 h a0 2).bind fun x2 =>
          if x2 ≤ p2 then
            f_X0_holds_28 h
          else
            f_X0_holds_29 1 h
  else none
set_option maxRecDepth 100000 in
set_option maxHeartbeats 4000000 in
theorem w_X0_holds {l : Launch} {G : GX} {a0 : Nat} {p1 : Int32} {p2 : Int32} {h : AH} {rr : Int32} {hr : AH} (hf : f_X0_holds a0 p1 p2 h = some (rr, hr)) : Ct l G yX0_holds 0 0 [.ref a0, .int p1, .int p2] h (QI rr hr) := by
  unfold f_X0_holds at hf
  obtain ⟨ho, hf⟩ := ifO hf
  refine Ct_of (own := RX0) (cc := cX0_holds) (nL := 3) (ret := (some .boolean)) rfl rfl k_1194 (Nat.le_of_ble_eq_true rfl) (fun X C2 C => ?_)
  show V X G h (QI rr hr) 0 [(0, .ref a0), (1, .int p1), (2, .int p2)] [] h
  refine C.seg (pe := 1) (lv' := [(0, .ref a0), (1, .int p1), (2, .int p2)]) (st' := [.int p1]) [(.iload_n 1, 1, 0)] (by decide +kernel) rfl ?_
  refine C.if_lt (off := 27) (tgt := 28) (pf := 4) (by decide +kernel) (by decide) rfl (fun c6 => ?_) (fun c6 => ?_)
  · replace hf := ifp c6 hf
    refine Vsub [] rfl ?_
    exact l_X0_holds_28 C C2 h hf
  · replace hf := ifn c6 hf
    refine C.seg (pe := 6) (lv' := [(0, .ref a0), (1, .int p1), (2, .int p2)]) (st' := [.ref a0, .int p1]) [(.iload_n 1, 1, 0), (.aload_n 0, 1, 0)] (by decide +kernel) rfl ?_
    obtain ⟨x1, gx1, hf⟩ := Option.bind_eq_some_iff.mp hf
    refine C.rdI fr_505 gx1 (by decide +kernel) rfl ?_
    refine C.icmp_ge (off := 19) (tgt := 28) (pf := 12) (by decide +kernel) (by decide) rfl (fun c5 => ?_) (fun c5 => ?_)
    · replace hf := ifp c5 hf
      refine Vsub [] rfl ?_
      exact l_X0_holds_28 C C2 h hf
    · replace hf := ifn c5 hf
      refine C.seg (pe := 13) (lv' := [(0, .ref a0), (1, .int p1), (2, .int p2)]) (st' := [.int p2]) [(.iload_n 2, 1, 0)] (by decide +kernel) rfl ?_
      refine C.if_lt (off := 15) (tgt := 28) (pf := 16) (by decide +kernel) (by decide) rfl (fun c4 => ?_) (fun c4 => ?_)
      · replace hf := ifp c4 hf
        refine Vsub [] rfl ?_
        exact l_X0_holds_28 C C2 h hf
      · replace hf := ifn c4 hf
        refine C.seg (pe := 18) (lv' := [(0, .ref a0), (1, .int p1), (2, .int p2)]) (st' := [.ref a0, .int p2]) [(.iload_n 2, 1, 0), (.aload_n 0, 1, 0)] (by decide +kernel) rfl ?_
        obtain ⟨x2, gx2, hf⟩ := Option.bind_eq_some_iff.mp hf
        refine C.rdI fr_507 gx2 (by decide +kernel) rfl ?_
        refine C.icmp_ge (off := 7) (tgt := 28) (pf := 24) (by decide +kernel) (by decide) rfl (fun c3 => ?_) (fun c3 => ?_)
        · replace hf := ifp c3 hf
          refine Vsub [] rfl ?_
          exact l_X0_holds_28 C C2 h hf
        · replace hf := ifn c3 hf
          refine C.seg (pe := 25) (lv' := [(0, .ref a0), (1, .int p1), (2, .int p2)]) (st' := [.int 1]) [(.iconst 1, 1, 1)] (by decide +kernel) rfl ?_
          refine C.goto (off := 4) (tgt := 29) (by decide +kernel) (by decide) ?_
          refine Vsub [] rfl ?_
          exact l_X0_holds_29 C C2 1 h hf
theorem o_X0_holds {a0 : Nat} {p1 : Int32} {p2 : Int32} {h : AH} {rr : Int32} {hr : AH} (hf : f_X0_holds a0 p1 p2 h = some (rr, hr)) : isO 0 h a0 = true := by
  unfold f_X0_holds at hf
  exact (ifO hf).1
/-! WallHouse$Canvas.noteShown(J)V -/
def f_X0_noteShown_33 (k2 : Nat → Int64 → Int32 → AH → Option (AH)) (r0 : Nat) (j1 : Int64) (i3 : Int32) (h : AH) : Option (AH) :=
  k2 r0 j1 (i3 + 1) h
set_option maxRecDepth 100000 in
set_option maxHeartbeats 4000000 in
theorem l_X0_noteShown_33 {X : MX} {l : Launch} {G : GX} {h0 : AH} {hr : AH} (C : Cx X G RX0 cX0_noteShown 4 none 0 0 h0) (C2 : Cy X l "noteShown" []) {k2 : Nat → Int64 → Int32 → AH → Option (AH)} (hk2 : ∀ (r0 : Nat) (j1 : Int64) (i3 : Int32) (h : AH), k2 r0 j1 i3 h = some hr → V X G h0 (QV hr) 2 [(0, .ref r0), (1, .long j1), (3, .int i3)] [] h) (r0 : Nat) (j1 : Int64) (i3 : Int32) (h : AH) (hf : f_X0_noteShown_33 k2 r0 j1 i3 h = some hr) : V X G h0 (QV hr) 33 [(0, .ref r0), (1, .long j1), (3, .int i3)] [] h := by
  unfold f_X0_noteShown_33 at hf
  refine C.seg (pe := 36) (lv' := [(3, .int (i3 + 1)), (0, .ref r0), (1, .long j1)]) (st' := []) [(.iinc 3 1, 3, 1)] (by decide +kernel) rfl ?_
  refine C.goto (off := (-34)) (tgt := 2) (by decide +kernel) (by decide) ?_
  refine Vsub [1, 2, 0] rfl ?_
  exact hk2 r0 j1 (i3 + 1) h hf
def f_X0_noteShown_2 : Nat → Nat → Int64 → Int32 → AH → Option (AH)
  | 0, _, _, _, _ => none
  | n + 1, r0, j1, i3, h =>
    (gI 0 h r0 8).bind fun x1 =>
    if x1 ≤ i3 then
      some h
    else
      (gA 0 h r0 7).bind fun a2 =>
      (aL h a2 i3).bind fun y3 =>
      if lg_cmp y3 j1 = 0 then
        (gI 0 h r0 6).bind fun x4 =>
        (pI 0 h r0 6 (x4 ||| (1 <<< (i3 &&& 31)))).bind fun h5 =>
        f_X0_noteShown_33 (f_X0_noteShown_2 n) r0 j1 i3 h5
      else
        f_X0_noteShown_33 (f_X0_noteShown_2 n) r0 j1 i3 h
set_option maxRecDepth 100000 in
set_option maxHeartbeats 4000000 in
theorem l_X0_noteShown_2 {X : MX} {l : Launch} {G : GX} {h0 : AH} {hr : AH} (C : Cx X G RX0 cX0_noteShown 4 none 0 0 h0) (C2 : Cy X l "noteShown" []) : ∀ (n : Nat) (r0 : Nat) (j1 : Int64) (i3 : Int32) (h : AH), f_X0_noteShown_2 n r0 j1 i3 h = some hr → V X G h0 (QV hr) 2 [(0, .ref r0), (1, .long j1), (3, .int i3)] [] h := by
  intro n
  induction n with
  | zero => intro r0 j1 i3 h hf; rw [f_X0_noteShown_2] at hf; cases hf
  | succ n ih =>
    intro r0 j1 i3 h hf
    rw [f_X0_noteShown_2] at hf
    refine C.seg (pe := 4) (lv' := [(0, .ref r0), (1, .long j1), (3, .int i3)]) (st' := [.ref r0, .int i3]) [(.iload_n 3, 1, 0), (.aload_n 0, 1, 0)] (by decide +kernel) rfl ?_
    obtain ⟨x1, gx1, hf⟩ := Option.bind_eq_some_iff.mp hf
    refine C.rdI fr_518 gx1 (by decide +kernel) rfl ?_
    refine C.icmp_ge (off := 32) (tgt := 39) (pf := 10) (by decide +kernel) (by decide) rfl (fun c7 => ?_) (fun c7 => ?_)
    · replace hf := ifp c7 hf
      cases hf
      exact C.retV rfl (by decide +kernel) ⟨rfl, rfl⟩
    · replace hf := ifn c7 hf
      refine C.seg (pe := 11) (lv' := [(0, .ref r0), (1, .long j1), (3, .int i3)]) (st' := [.ref r0]) [(.aload_n 0, 1, 0)] (by decide +kernel) rfl ?_
      obtain ⟨a2, ga2, hf⟩ := Option.bind_eq_some_iff.mp hf
      refine C.rdA fr_517 ga2 (by decide +kernel) rfl ?_
      refine C.seg (pe := 15) (lv' := [(0, .ref r0), (1, .long j1), (3, .int i3)]) (st' := [.int i3, .ref a2]) [(.iload_n 3, 1, 0)] (by decide +kernel) rfl ?_
      obtain ⟨y3, gy3, hf⟩ := Option.bind_eq_some_iff.mp hf
      refine C.lald gy3 (by decide +kernel) rfl ?_
      refine C.seg (pe := 18) (lv' := [(0, .ref r0), (1, .long j1), (3, .int i3)]) (st' := [.int (lg_cmp y3 j1)]) [(.lload_n 1, 1, 0), (.lcmp, 1, 0)] (by decide +kernel) rfl ?_
      refine C.if_ne (off := 15) (tgt := 33) (pf := 21) (by decide +kernel) (by decide) rfl (fun c6 => ?_) (fun c6 => ?_)
      · replace hf := ifn c6 hf
        exact l_X0_noteShown_33 C C2 ih r0 j1 i3 h hf
      · replace hf := ifp c6 hf
        refine C.seg (pe := 23) (lv' := [(0, .ref r0), (1, .long j1), (3, .int i3)]) (st' := [.ref r0, .ref r0]) [(.aload_n 0, 1, 0), (.dup, 1, 0)] (by decide +kernel) rfl ?_
        obtain ⟨x4, gx4, hf⟩ := Option.bind_eq_some_iff.mp hf
        refine C.rdI fr_515 gx4 (by decide +kernel) rfl ?_
        refine C.seg (pe := 30) (lv' := [(0, .ref r0), (1, .long j1), (3, .int i3)]) (st' := [.int (x4 ||| (1 <<< (i3 &&& 31))), .ref r0]) [(.iconst 1, 1, 1), (.iload_n 3, 1, 0), (.ishl, 1, 0), (.ior, 1, 0)] (by decide +kernel) rfl ?_
        obtain ⟨h5, gh5, hf⟩ := Option.bind_eq_some_iff.mp hf
        refine C.putI fl_515 gh5 (by decide +kernel) rfl ?_
        exact l_X0_noteShown_33 C C2 ih r0 j1 i3 h5 hf
def f_X0_noteShown (a0 : Nat) (p1 : Int64) (h : AH) : Option (AH) :=
  if isO 0 h a0 = true then
    f_X0_noteShown_2 FU a0 p1 0 h
  else none
set_option maxRecDepth 100000 in
set_option maxHeartbeats 4000000 in
theorem w_X0_noteShown {l : Launch} {G : GX} {a0 : Nat} {p1 : Int64} {h : AH} {hr : AH} (hf : f_X0_noteShown a0 p1 h = some hr) : Ct l G yX0_noteShown 0 0 [.ref a0, .long p1] h (QV hr) := by
  unfold f_X0_noteShown at hf
  obtain ⟨ho, hf⟩ := ifO hf
  refine Ct_of (own := RX0) (cc := cX0_noteShown) (nL := 4) (ret := none) rfl rfl k_1198 (Nat.le_of_ble_eq_true rfl) (fun X C2 C => ?_)
  show V X G h (QV hr) 0 [(0, .ref a0), (1, .long p1)] [] h
  refine C.seg (pe := 2) (lv' := [(3, .int 0), (0, .ref a0), (1, .long p1)]) (st' := []) [(.iconst 0, 1, 0), (.istore_n 3, 1, 0)] (by decide +kernel) rfl ?_
  refine Vsub [1, 2, 0] rfl ?_
  exact l_X0_noteShown_2 C C2 FU a0 p1 0 h hf
theorem o_X0_noteShown {a0 : Nat} {p1 : Int64} {h : AH} {hr : AH} (hf : f_X0_noteShown a0 p1 h = some hr) : isO 0 h a0 = true := by
  unfold f_X0_noteShown at hf
  exact (ifO hf).1
/-! WallHouse$Canvas.say(LWallHouse$Drawing;II)V -/
def f_X0_say_109 (h : AH) : Option (AH) :=
  some h
set_option maxRecDepth 100000 in
set_option maxHeartbeats 4000000 in
theorem l_X0_say_109 {X : MX} {l : Launch} {G : GX} {h0 : AH} {hr : AH} (C : Cx X G RX0 cX0_say 10 none 1 24 h0) (C2 : Cy X l "say" []) (h : AH) (hf : f_X0_say_109 h = some hr) : V X G h0 (QV hr) 109 [] [] h := by
  unfold f_X0_say_109 at hf
  cases hf
  exact C.retV rfl (by decide +kernel) ⟨rfl, rfl⟩
def f_X0_say_94 (r0 : Nat) (r1 : Nat) (i3 : Int32) (i6 : Int32) (h : AH) : Option (AH) :=
  if i6 = 0 then
    f_X0_say_109 h
  else
    (gA 1 h r1 3).bind fun a1 =>
    (aL h a1 i3).bind fun y2 =>
    (f_X0_noteShown r0 y2 h).bind fun h3 =>
    f_X0_say_109 h3
set_option maxRecDepth 100000 in
set_option maxHeartbeats 4000000 in
theorem l_X0_say_94 {X : MX} {l : Launch} {G : GX} {h0 : AH} {hr : AH} (C : Cx X G RX0 cX0_say 10 none 1 24 h0) (C2 : Cy X l "say" []) (r0 : Nat) (r1 : Nat) (i3 : Int32) (i6 : Int32) (h : AH) (hf : f_X0_say_94 r0 r1 i3 i6 h = some hr) : V X G h0 (QV hr) 94 [(0, .ref r0), (1, .ref r1), (3, .int i3), (6, .int i6)] [] h := by
  unfold f_X0_say_94 at hf
  refine C.seg (pe := 96) (lv' := [(0, .ref r0), (1, .ref r1), (3, .int i3), (6, .int i6)]) (st' := [.int i6]) [(.iload 6, 2, 0)] (by decide +kernel) rfl ?_
  refine C.if_eq (off := 13) (tgt := 109) (pf := 99) (by decide +kernel) (by decide) rfl (fun c4 => ?_) (fun c4 => ?_)
  · replace hf := ifp c4 hf
    refine Vsub [] rfl ?_
    exact l_X0_say_109 C C2 h hf
  · replace hf := ifn c4 hf
    refine C.seg (pe := 101) (lv' := [(0, .ref r0), (1, .ref r1), (3, .int i3), (6, .int i6)]) (st' := [.ref r1, .ref r0]) [(.aload_n 0, 1, 0), (.aload_n 1, 1, 0)] (by decide +kernel) rfl ?_
    obtain ⟨a1, ga1, hf⟩ := Option.bind_eq_some_iff.mp hf
    refine C.rdA fr_423 ga1 (by decide +kernel) rfl ?_
    refine C.seg (pe := 105) (lv' := [(0, .ref r0), (1, .ref r1), (3, .int i3), (6, .int i6)]) (st' := [.int i3, .ref a1, .ref r0]) [(.iload_n 3, 1, 0)] (by decide +kernel) rfl ?_
    obtain ⟨y2, gy2, hf⟩ := Option.bind_eq_some_iff.mp hf
    refine C.lald gy2 (by decide +kernel) rfl ?_
    obtain ⟨h3, gh3, hf⟩ := Option.bind_eq_some_iff.mp hf
    refine C.callVr C2 [.long y2] [] mv_1195 rfl (o_X0_noteShown gh3) (w_X0_noteShown gh3) (by omega) (by omega) (Nat.le_of_ble_eq_true rfl) (by decide +kernel) rfl ?_
    refine Vsub [] rfl ?_
    exact l_X0_say_109 C C2 h3 hf
def f_X0_say_82 (k39 : Nat → Nat → Int32 → Int32 → Int32 → Int32 → Int32 → Int64 → Int32 → AH → Option (AH)) (r0 : Nat) (r1 : Nat) (i2 : Int32) (i3 : Int32) (i4 : Int32) (i5 : Int32) (i6 : Int32) (j7 : Int64) (i9 : Int32) (h : AH) : Option (AH) :=
  lt (j7 >>> ((5 : Int32).toInt64 &&& 63) : Int64) fun y1 =>
  k39 r0 r1 i2 i3 i4 i5 i6 y1 (i9 + 1) h
set_option maxRecDepth 100000 in
set_option maxHeartbeats 4000000 in
theorem l_X0_say_82 {X : MX} {l : Launch} {G : GX} {h0 : AH} {hr : AH} (C : Cx X G RX0 cX0_say 10 none 1 24 h0) (C2 : Cy X l "say" []) {k39 : Nat → Nat → Int32 → Int32 → Int32 → Int32 → Int32 → Int64 → Int32 → AH → Option (AH)} (hk39 : ∀ (r0 : Nat) (r1 : Nat) (i2 : Int32) (i3 : Int32) (i4 : Int32) (i5 : Int32) (i6 : Int32) (j7 : Int64) (i9 : Int32) (h : AH), k39 r0 r1 i2 i3 i4 i5 i6 j7 i9 h = some hr → V X G h0 (QV hr) 39 [(0, .ref r0), (1, .ref r1), (2, .int i2), (3, .int i3), (4, .int i4), (5, .int i5), (6, .int i6), (7, .long j7), (9, .int i9)] [] h) (r0 : Nat) (r1 : Nat) (i2 : Int32) (i3 : Int32) (i4 : Int32) (i5 : Int32) (i6 : Int32) (j7 : Int64) (i9 : Int32) (h : AH) (hf : f_X0_say_82 k39 r0 r1 i2 i3 i4 i5 i6 j7 i9 h = some hr) : V X G h0 (QV hr) 82 [(0, .ref r0), (1, .ref r1), (2, .int i2), (3, .int i3), (4, .int i4), (5, .int i5), (6, .int i6), (7, .long j7), (9, .int i9)] [] h := by
  unfold f_X0_say_82 at hf
  refine C.seg (pe := 86) (lv' := [(0, .ref r0), (1, .ref r1), (2, .int i2), (3, .int i3), (4, .int i4), (5, .int i5), (6, .int i6), (7, .long j7), (9, .int i9)]) (st' := [.long (j7 >>> ((5 : Int32).toInt64 &&& 63))]) [(.lload 7, 2, 0), (.iconst 5, 1, 5), (.lshr, 1, 0)] (by decide +kernel) rfl ?_
  refine Vtopl (fun y1 ey1 => ?_)
  replace hf := lt_ap ey1 hf
  clear ey1
  refine C.seg (pe := 91) (lv' := [(9, .int (i9 + 1)), (7, .long y1), (0, .ref r0), (1, .ref r1), (2, .int i2), (3, .int i3), (4, .int i4), (5, .int i5), (6, .int i6)]) (st' := []) [(.lstore 7, 2, 0), (.iinc 9 1, 3, 1)] (by decide +kernel) rfl ?_
  refine C.goto (off := (-52)) (tgt := 39) (by decide +kernel) (by decide) ?_
  refine Vsub [2, 3, 4, 5, 6, 7, 8, 1, 0] rfl ?_
  exact hk39 r0 r1 i2 i3 i4 i5 i6 y1 (i9 + 1) h hf
def f_X0_say_39 : Nat → Nat → Nat → Int32 → Int32 → Int32 → Int32 → Int32 → Int64 → Int32 → AH → Option (AH)
  | 0, _, _, _, _, _, _, _, _, _, _ => none
  | n + 1, r0, r1, i2, i3, i4, i5, i6, j7, i9, h =>
    if 8 ≤ i9 then
      f_X0_say_94 r0 r1 i3 i6 h
    else
      if lg_cmp j7 ((Int64.ofNat 0)) = 0 then
        f_X0_say_94 r0 r1 i3 i6 h
      else
        b2 (f_X0_holds r0 (i5 + i9) i4 h) fun x1 h2 =>
        if x1 = 0 then
          f_X0_say_82 (f_X0_say_39 n) r0 r1 i2 i3 i4 i5 i6 j7 i9 h2
        else
          (f_X0_dot r0 (i5 + i9) i4 i2 h2).bind fun h3 =>
          f_X0_say_82 (f_X0_say_39 n) r0 r1 i2 i3 i4 i5 1 j7 i9 h3
set_option maxRecDepth 100000 in
set_option maxHeartbeats 4000000 in
theorem l_X0_say_39 {X : MX} {l : Launch} {G : GX} {h0 : AH} {hr : AH} (C : Cx X G RX0 cX0_say 10 none 1 24 h0) (C2 : Cy X l "say" []) : ∀ (n : Nat) (r0 : Nat) (r1 : Nat) (i2 : Int32) (i3 : Int32) (i4 : Int32) (i5 : Int32) (i6 : Int32) (j7 : Int64) (i9 : Int32) (h : AH), f_X0_say_39 n r0 r1 i2 i3 i4 i5 i6 j7 i9 h = some hr → V X G h0 (QV hr) 39 [(0, .ref r0), (1, .ref r1), (2, .int i2), (3, .int i3), (4, .int i4), (5, .int i5), (6, .int i6), (7, .long j7), (9, .int i9)] [] h := by
  intro n
  induction n with
  | zero => intro r0 r1 i2 i3 i4 i5 i6 j7 i9 h hf; rw [f_X0_say_39] at hf; cases hf
  | succ n ih =>
    intro r0 r1 i2 i3 i4 i5 i6 j7 i9 h hf
    rw [f_X0_say_39] at hf
    refine C.seg (pe := 43) (lv' := [(0, .ref r0), (1, .ref r1), (2, .int i2), (3, .int i3), (4, .int i4), (5, .int i5), (6, .int i6), (7, .long j7), (9, .int i9)]) (st' := [.int 8, .int i9]) [(.iload 9, 2, 0), (.bipush 8, 2, 8)] (by decide +kernel) rfl ?_
    refine C.icmp_ge (off := 51) (tgt := 94) (pf := 46) (by decide +kernel) (by decide) rfl (fun c6 => ?_) (fun c6 => ?_)
    · replace hf := ifp c6 hf
      refine Vsub [0, 1, 3, 6] rfl ?_
      exact l_X0_say_94 C C2 r0 r1 i3 i6 h hf
    · replace hf := ifn c6 hf
      refine C.seg (pe := 50) (lv' := [(0, .ref r0), (1, .ref r1), (2, .int i2), (3, .int i3), (4, .int i4), (5, .int i5), (6, .int i6), (7, .long j7), (9, .int i9)]) (st' := [.int (lg_cmp j7 ((Int64.ofNat 0)))]) [(.lload 7, 2, 0), (.lconst 0, 1, 0), (.lcmp, 1, 0)] (by decide +kernel) rfl ?_
      refine C.if_eq (off := 44) (tgt := 94) (pf := 53) (by decide +kernel) (by decide) rfl (fun c5 => ?_) (fun c5 => ?_)
      · replace hf := ifp c5 hf
        refine Vsub [0, 1, 3, 6] rfl ?_
        exact l_X0_say_94 C C2 r0 r1 i3 i6 h hf
      · replace hf := ifn c5 hf
        refine C.seg (pe := 61) (lv' := [(0, .ref r0), (1, .ref r1), (2, .int i2), (3, .int i3), (4, .int i4), (5, .int i5), (6, .int i6), (7, .long j7), (9, .int i9)]) (st' := [.int i4, .int (i5 + i9), .ref r0]) [(.aload_n 0, 1, 0), (.iload 5, 2, 0), (.iload 9, 2, 0), (.iadd, 1, 0), (.iload 4, 2, 0)] (by decide +kernel) rfl ?_
        obtain ⟨x1, h2, gx1, hf⟩ := b2_some hf
        refine C.callVr C2 [.int (i5 + i9), .int i4] [] mv_1191 rfl (o_X0_holds gx1) (w_X0_holds gx1) (by omega) (by omega) (Nat.le_of_ble_eq_true rfl) (by decide +kernel) rfl ?_
        refine C.if_eq (off := 18) (tgt := 82) (pf := 67) (by decide +kernel) (by decide) rfl (fun c4 => ?_) (fun c4 => ?_)
        · replace hf := ifp c4 hf
          exact l_X0_say_82 C C2 ih r0 r1 i2 i3 i4 i5 i6 j7 i9 h2 hf
        · replace hf := ifn c4 hf
          refine C.seg (pe := 76) (lv' := [(0, .ref r0), (1, .ref r1), (2, .int i2), (3, .int i3), (4, .int i4), (5, .int i5), (6, .int i6), (7, .long j7), (9, .int i9)]) (st' := [.int i2, .int i4, .int (i5 + i9), .ref r0]) [(.aload_n 0, 1, 0), (.iload 5, 2, 0), (.iload 9, 2, 0), (.iadd, 1, 0), (.iload 4, 2, 0), (.iload_n 2, 1, 0)] (by decide +kernel) rfl ?_
          obtain ⟨h3, gh3, hf⟩ := Option.bind_eq_some_iff.mp hf
          refine C.callVr C2 [.int (i5 + i9), .int i4, .int i2] [] mv_1179 rfl (o_X0_dot gh3) (w_X0_dot gh3) (by omega) (by omega) (Nat.le_of_ble_eq_true rfl) (by decide +kernel) rfl ?_
          refine C.seg (pe := 82) (lv' := [(6, .int 1), (0, .ref r0), (1, .ref r1), (2, .int i2), (3, .int i3), (4, .int i4), (5, .int i5), (7, .long j7), (9, .int i9)]) (st' := []) [(.iconst 1, 1, 1), (.istore 6, 2, 0)] (by decide +kernel) rfl ?_
          refine Vsub [1, 2, 3, 4, 5, 6, 0, 7, 8] rfl ?_
          exact l_X0_say_82 C C2 ih r0 r1 i2 i3 i4 i5 1 j7 i9 h3 hf
def f_X0_say_24 (h : AH) : Option (AH) :=
  some h
set_option maxRecDepth 100000 in
set_option maxHeartbeats 4000000 in
theorem l_X0_say_24 {X : MX} {l : Launch} {G : GX} {h0 : AH} {hr : AH} (C : Cx X G RX0 cX0_say 10 none 1 24 h0) (C2 : Cy X l "say" []) (h : AH) (hf : f_X0_say_24 h = some hr) : V X G h0 (QV hr) 24 [] [] h := by
  unfold f_X0_say_24 at hf
  cases hf
  exact C.retV rfl (by decide +kernel) ⟨rfl, rfl⟩
def f_X0_say (a0 : Nat) (p1 : Nat) (p2 : Int32) (p3 : Int32) (h : AH) : Option (AH) :=
  if isO 0 h a0 = true then
    b2 (f_X0_release a0 h) fun x1 h2 =>
    b2 (f_X0_release a0 h2) fun x3 h4 =>
    if p3 < 0 then
      f_X0_say_24 h4
    else
      (gI 1 h4 p1 5).bind fun x5 =>
      if p3 < x5 then
        (gA 1 h4 p1 3).bind fun a6 =>
        (aL h4 a6 p3).bind fun y7 =>
        f_X0_say_39 FU a0 p1 p2 p3 x1 x3 0 y7 0 h4
      else
        f_X0_say_24 h4
  else none
set_option maxRecDepth 100000 in
set_option maxHeartbeats 4000000 in
theorem w_X0_say {l : Launch} {G : GX} {a0 : Nat} {p1 : Nat} {p2 : Int32} {p3 : Int32} {h : AH} {hr : AH} (hf : f_X0_say a0 p1 p2 p3 h = some hr) : Ct l G yX0_say 1 24 [.ref a0, .ref p1, .int p2, .int p3] h (QV hr) := by
  unfold f_X0_say at hf
  obtain ⟨ho, hf⟩ := ifO hf
  refine Ct_of (own := RX0) (cc := cX0_say) (nL := 10) (ret := none) rfl rfl k_1190 (Nat.le_of_ble_eq_true rfl) (fun X C2 C => ?_)
  show V X G h (QV hr) 0 [(0, .ref a0), (1, .ref p1), (2, .int p2), (3, .int p3)] [] h
  refine C.seg (pe := 1) (lv' := [(0, .ref a0), (1, .ref p1), (2, .int p2), (3, .int p3)]) (st' := [.ref a0]) [(.aload_n 0, 1, 0)] (by decide +kernel) rfl ?_
  obtain ⟨x1, h2, gx1, hf⟩ := b2_some hf
  refine C.callVr C2 [] [] mv_1170 rfl (o_X0_release gx1) (w_X0_release gx1) (by omega) (by omega) (Nat.le_of_ble_eq_true rfl) (by decide +kernel) rfl ?_
  refine C.seg (pe := 7) (lv' := [(4, .int x1), (0, .ref a0), (1, .ref p1), (2, .int p2), (3, .int p3)]) (st' := [.ref a0]) [(.istore 4, 2, 0), (.aload_n 0, 1, 0)] (by decide +kernel) rfl ?_
  obtain ⟨x3, h4, gx3, hf⟩ := b2_some hf
  refine C.callVr C2 [] [] mv_1170 rfl (o_X0_release gx3) (w_X0_release gx3) (by omega) (by omega) (Nat.le_of_ble_eq_true rfl) (by decide +kernel) rfl ?_
  refine C.seg (pe := 13) (lv' := [(5, .int x3), (4, .int x1), (0, .ref a0), (1, .ref p1), (2, .int p2), (3, .int p3)]) (st' := [.int p3]) [(.istore 5, 2, 0), (.iload_n 3, 1, 0)] (by decide +kernel) rfl ?_
  refine C.if_lt (off := 11) (tgt := 24) (pf := 16) (by decide +kernel) (by decide) rfl (fun c9 => ?_) (fun c9 => ?_)
  · replace hf := ifp c9 hf
    refine Vsub [] rfl ?_
    exact l_X0_say_24 C C2 h4 hf
  · replace hf := ifn c9 hf
    refine C.seg (pe := 18) (lv' := [(5, .int x3), (4, .int x1), (0, .ref a0), (1, .ref p1), (2, .int p2), (3, .int p3)]) (st' := [.ref p1, .int p3]) [(.iload_n 3, 1, 0), (.aload_n 1, 1, 0)] (by decide +kernel) rfl ?_
    obtain ⟨x5, gx5, hf⟩ := Option.bind_eq_some_iff.mp hf
    refine C.rdI fr_428 gx5 (by decide +kernel) rfl ?_
    refine C.icmp_lt (off := 4) (tgt := 25) (pf := 24) (by decide +kernel) (by decide) rfl (fun c8 => ?_) (fun c8 => ?_)
    · replace hf := ifp c8 hf
      refine C.seg (pe := 29) (lv' := [(6, .int 0), (5, .int x3), (4, .int x1), (0, .ref a0), (1, .ref p1), (2, .int p2), (3, .int p3)]) (st' := [.ref p1]) [(.iconst 0, 1, 0), (.istore 6, 2, 0), (.aload_n 1, 1, 0)] (by decide +kernel) rfl ?_
      obtain ⟨a6, ga6, hf⟩ := Option.bind_eq_some_iff.mp hf
      refine C.rdA fr_423 ga6 (by decide +kernel) rfl ?_
      refine C.seg (pe := 33) (lv' := [(6, .int 0), (5, .int x3), (4, .int x1), (0, .ref a0), (1, .ref p1), (2, .int p2), (3, .int p3)]) (st' := [.int p3, .ref a6]) [(.iload_n 3, 1, 0)] (by decide +kernel) rfl ?_
      obtain ⟨y7, gy7, hf⟩ := Option.bind_eq_some_iff.mp hf
      refine C.lald gy7 (by decide +kernel) rfl ?_
      refine C.seg (pe := 39) (lv' := [(9, .int 0), (7, .long y7), (6, .int 0), (5, .int x3), (4, .int x1), (0, .ref a0), (1, .ref p1), (2, .int p2), (3, .int p3)]) (st' := []) [(.lstore 7, 2, 0), (.iconst 0, 1, 0), (.istore 9, 2, 0)] (by decide +kernel) rfl ?_
      refine Vsub [5, 6, 7, 8, 4, 3, 2, 1, 0] rfl ?_
      exact l_X0_say_39 C C2 FU a0 p1 p2 p3 x1 x3 0 y7 0 h4 hf
    · replace hf := ifn c8 hf
      refine Vsub [] rfl ?_
      exact l_X0_say_24 C C2 h4 hf
theorem o_X0_say {a0 : Nat} {p1 : Nat} {p2 : Int32} {p3 : Int32} {h : AH} {hr : AH} (hf : f_X0_say a0 p1 p2 p3 h = some hr) : isO 0 h a0 = true := by
  unfold f_X0_say at hf
  exact (ifO hf).1
/-! WallHouse$Canvas.setVar(II)V -/
def f_X0_setVar_20 (h : AH) : Option (AH) :=
  some h
set_option maxRecDepth 100000 in
set_option maxHeartbeats 4000000 in
theorem l_X0_setVar_20 {X : MX} {l : Launch} {G : GX} {h0 : AH} {hr : AH} (C : Cx X G RX0 cX0_setVar 3 none 0 0 h0) (C2 : Cy X l "setVar" []) (h : AH) (hf : f_X0_setVar_20 h = some hr) : V X G h0 (QV hr) 20 [] [] h := by
  unfold f_X0_setVar_20 at hf
  cases hf
  exact C.retV rfl (by decide +kernel) ⟨rfl, rfl⟩
def f_X0_setVar (a0 : Nat) (p1 : Int32) (p2 : Int32) (h : AH) : Option (AH) :=
  if isO 0 h a0 = true then
    if p1 < 0 then
      f_X0_setVar_20 h
    else
      (gA 0 h a0 10).bind fun a1 =>
      (aN h a1).bind fun x2 =>
      if x2 ≤ p1 then
        f_X0_setVar_20 h
      else
        (gA 0 h a0 10).bind fun a3 =>
        (sI 0 h a3 p1 p2).bind fun h4 =>
        f_X0_setVar_20 h4
  else none
set_option maxRecDepth 100000 in
set_option maxHeartbeats 4000000 in
theorem w_X0_setVar {l : Launch} {G : GX} {a0 : Nat} {p1 : Int32} {p2 : Int32} {h : AH} {hr : AH} (hf : f_X0_setVar a0 p1 p2 h = some hr) : Ct l G yX0_setVar 0 0 [.ref a0, .int p1, .int p2] h (QV hr) := by
  unfold f_X0_setVar at hf
  obtain ⟨ho, hf⟩ := ifO hf
  refine Ct_of (own := RX0) (cc := cX0_setVar) (nL := 3) (ret := none) rfl rfl k_1206 (Nat.le_of_ble_eq_true rfl) (fun X C2 C => ?_)
  show V X G h (QV hr) 0 [(0, .ref a0), (1, .int p1), (2, .int p2)] [] h
  refine C.seg (pe := 1) (lv' := [(0, .ref a0), (1, .int p1), (2, .int p2)]) (st' := [.int p1]) [(.iload_n 1, 1, 0)] (by decide +kernel) rfl ?_
  refine C.if_lt (off := 19) (tgt := 20) (pf := 4) (by decide +kernel) (by decide) rfl (fun c6 => ?_) (fun c6 => ?_)
  · replace hf := ifp c6 hf
    refine Vsub [] rfl ?_
    exact l_X0_setVar_20 C C2 h hf
  · replace hf := ifn c6 hf
    refine C.seg (pe := 6) (lv' := [(0, .ref a0), (1, .int p1), (2, .int p2)]) (st' := [.ref a0, .int p1]) [(.iload_n 1, 1, 0), (.aload_n 0, 1, 0)] (by decide +kernel) rfl ?_
    obtain ⟨a1, ga1, hf⟩ := Option.bind_eq_some_iff.mp hf
    refine C.rdA fr_520 ga1 (by decide +kernel) rfl ?_
    obtain ⟨x2, gx2, hf⟩ := Option.bind_eq_some_iff.mp hf
    refine C.alen gx2 (by decide +kernel) rfl ?_
    refine C.icmp_ge (off := 10) (tgt := 20) (pf := 13) (by decide +kernel) (by decide) rfl (fun c5 => ?_) (fun c5 => ?_)
    · replace hf := ifp c5 hf
      refine Vsub [] rfl ?_
      exact l_X0_setVar_20 C C2 h hf
    · replace hf := ifn c5 hf
      refine C.seg (pe := 14) (lv' := [(0, .ref a0), (1, .int p1), (2, .int p2)]) (st' := [.ref a0]) [(.aload_n 0, 1, 0)] (by decide +kernel) rfl ?_
      obtain ⟨a3, ga3, hf⟩ := Option.bind_eq_some_iff.mp hf
      refine C.rdA fr_520 ga3 (by decide +kernel) rfl ?_
      refine C.seg (pe := 19) (lv' := [(0, .ref a0), (1, .int p1), (2, .int p2)]) (st' := [.int p2, .int p1, .ref a3]) [(.iload_n 1, 1, 0), (.iload_n 2, 1, 0)] (by decide +kernel) rfl ?_
      obtain ⟨h4, gh4, hf⟩ := Option.bind_eq_some_iff.mp hf
      refine C.ast gh4 (by decide +kernel) rfl ?_
      refine Vsub [] rfl ?_
      exact l_X0_setVar_20 C C2 h4 hf
theorem o_X0_setVar {a0 : Nat} {p1 : Int32} {p2 : Int32} {h : AH} {hr : AH} (hf : f_X0_setVar a0 p1 p2 h = some hr) : isO 0 h a0 = true := by
  unfold f_X0_setVar at hf
  exact (ifO hf).1
/-! WallHouse$Canvas.beginEach(LWallHouse$Drawing;I)I -/
def f_X0_beginEach_29 (r1 : Nat) (i2 : Int32) (h : AH) : Option (Int32 × AH) :=
  (gA 1 h r1 2).bind fun a1 =>
  (aI 3 h a1 i2).bind fun x2 =>
  some (x2, h)
set_option maxRecDepth 100000 in
set_option maxHeartbeats 4000000 in
theorem l_X0_beginEach_29 {X : MX} {l : Launch} {G : GX} {h0 : AH} {rr : Int32} {hr : AH} (C : Cx X G RX0 cX0_beginEach 5 (some .int) 1 22 h0) (C2 : Cy X l "beginEach" []) (r1 : Nat) (i2 : Int32) (h : AH) (hf : f_X0_beginEach_29 r1 i2 h = some (rr, hr)) : V X G h0 (QI rr hr) 29 [(1, .ref r1), (2, .int i2)] [] h := by
  unfold f_X0_beginEach_29 at hf
  refine C.seg (pe := 30) (lv' := [(1, .ref r1), (2, .int i2)]) (st' := [.ref r1]) [(.aload_n 1, 1, 0)] (by decide +kernel) rfl ?_
  obtain ⟨a1, ga1, hf⟩ := Option.bind_eq_some_iff.mp hf
  refine C.rdA fr_420 ga1 (by decide +kernel) rfl ?_
  refine C.seg (pe := 34) (lv' := [(1, .ref r1), (2, .int i2)]) (st' := [.int i2, .ref a1]) [(.iload_n 2, 1, 0)] (by decide +kernel) rfl ?_
  obtain ⟨x2, gx2, hf⟩ := Option.bind_eq_some_iff.mp hf
  refine C.sald 3 rfl gx2 (by decide +kernel) rfl ?_
  cases hf
  exact C.retI rfl (by decide +kernel) ⟨rfl, rfl⟩
def f_X0_beginEach (a0 : Nat) (p1 : Nat) (p2 : Int32) (h : AH) : Option (Int32 × AH) :=
  if isO 0 h a0 = true then
    b2 (f_X0_release a0 h) fun x1 h2 =>
    b2 (f_X0_release a0 h2) fun x3 h4 =>
    if x1 < x3 then
      f_X0_beginEach_29 p1 p2 h4
    else
      (gI 0 h4 a0 15).bind fun x5 =>
      (gA 0 h4 a0 13).bind fun a6 =>
      (aN h4 a6).bind fun x7 =>
      if x5 < x7 then
        (gA 0 h4 a0 13).bind fun a8 =>
        (gI 0 h4 a0 15).bind fun x9 =>
        (sI 0 h4 a8 x9 x3).bind fun h10 =>
        (gA 0 h10 a0 14).bind fun a11 =>
        (gI 0 h10 a0 15).bind fun x12 =>
        (sI 0 h10 a11 x12 x1).bind fun h13 =>
        (gI 0 h13 a0 15).bind fun x14 =>
        (pI 0 h13 a0 15 (x14 + 1)).bind fun h15 =>
        (gA 1 h15 p1 1).bind fun a16 =>
        (aI 3 h15 a16 p2).bind fun x17 =>
        (f_X0_setVar a0 x17 x3 h15).bind fun h18 =>
        some (p2 + 1, h18)
      else
        f_X0_beginEach_29 p1 p2 h4
  else none
set_option maxRecDepth 100000 in
set_option maxHeartbeats 4000000 in
theorem w_X0_beginEach {l : Launch} {G : GX} {a0 : Nat} {p1 : Nat} {p2 : Int32} {h : AH} {rr : Int32} {hr : AH} (hf : f_X0_beginEach a0 p1 p2 h = some (rr, hr)) : Ct l G yX0_beginEach 1 22 [.ref a0, .ref p1, .int p2] h (QI rr hr) := by
  unfold f_X0_beginEach at hf
  obtain ⟨ho, hf⟩ := ifO hf
  refine Ct_of (own := RX0) (cc := cX0_beginEach) (nL := 5) (ret := (some .int)) rfl rfl k_1202 (Nat.le_of_ble_eq_true rfl) (fun X C2 C => ?_)
  show V X G h (QI rr hr) 0 [(0, .ref a0), (1, .ref p1), (2, .int p2)] [] h
  refine C.seg (pe := 1) (lv' := [(0, .ref a0), (1, .ref p1), (2, .int p2)]) (st' := [.ref a0]) [(.aload_n 0, 1, 0)] (by decide +kernel) rfl ?_
  obtain ⟨x1, h2, gx1, hf⟩ := b2_some hf
  refine C.callVr C2 [] [] mv_1170 rfl (o_X0_release gx1) (w_X0_release gx1) (by omega) (by omega) (Nat.le_of_ble_eq_true rfl) (by decide +kernel) rfl ?_
  refine C.seg (pe := 6) (lv' := [(3, .int x1), (0, .ref a0), (1, .ref p1), (2, .int p2)]) (st' := [.ref a0]) [(.istore_n 3, 1, 0), (.aload_n 0, 1, 0)] (by decide +kernel) rfl ?_
  obtain ⟨x3, h4, gx3, hf⟩ := b2_some hf
  refine C.callVr C2 [] [] mv_1170 rfl (o_X0_release gx3) (w_X0_release gx3) (by omega) (by omega) (Nat.le_of_ble_eq_true rfl) (by decide +kernel) rfl ?_
  refine C.seg (pe := 14) (lv' := [(4, .int x3), (3, .int x1), (0, .ref a0), (1, .ref p1), (2, .int p2)]) (st' := [.int x3, .int x1]) [(.istore 4, 2, 0), (.iload_n 3, 1, 0), (.iload 4, 2, 0)] (by decide +kernel) rfl ?_
  refine C.icmp_lt (off := 15) (tgt := 29) (pf := 17) (by decide +kernel) (by decide) rfl (fun c20 => ?_) (fun c20 => ?_)
  · replace hf := ifp c20 hf
    refine Vsub [3, 4] rfl ?_
    exact l_X0_beginEach_29 C C2 p1 p2 h4 hf
  · replace hf := ifn c20 hf
    refine C.seg (pe := 18) (lv' := [(4, .int x3), (3, .int x1), (0, .ref a0), (1, .ref p1), (2, .int p2)]) (st' := [.ref a0]) [(.aload_n 0, 1, 0)] (by decide +kernel) rfl ?_
    obtain ⟨x5, gx5, hf⟩ := Option.bind_eq_some_iff.mp hf
    refine C.rdI fr_525 gx5 (by decide +kernel) rfl ?_
    refine C.seg (pe := 22) (lv' := [(4, .int x3), (3, .int x1), (0, .ref a0), (1, .ref p1), (2, .int p2)]) (st' := [.ref a0, .int x5]) [(.aload_n 0, 1, 0)] (by decide +kernel) rfl ?_
    obtain ⟨a6, ga6, hf⟩ := Option.bind_eq_some_iff.mp hf
    refine C.rdA fr_523 ga6 (by decide +kernel) rfl ?_
    obtain ⟨x7, gx7, hf⟩ := Option.bind_eq_some_iff.mp hf
    refine C.alen gx7 (by decide +kernel) rfl ?_
    refine C.icmp_lt (off := 10) (tgt := 36) (pf := 29) (by decide +kernel) (by decide) rfl (fun c19 => ?_) (fun c19 => ?_)
    · replace hf := ifp c19 hf
      refine C.seg (pe := 37) (lv' := [(4, .int x3), (3, .int x1), (0, .ref a0), (1, .ref p1), (2, .int p2)]) (st' := [.ref a0]) [(.aload_n 0, 1, 0)] (by decide +kernel) rfl ?_
      obtain ⟨a8, ga8, hf⟩ := Option.bind_eq_some_iff.mp hf
      refine C.rdA fr_523 ga8 (by decide +kernel) rfl ?_
      refine C.seg (pe := 41) (lv' := [(4, .int x3), (3, .int x1), (0, .ref a0), (1, .ref p1), (2, .int p2)]) (st' := [.ref a0, .ref a8]) [(.aload_n 0, 1, 0)] (by decide +kernel) rfl ?_
      obtain ⟨x9, gx9, hf⟩ := Option.bind_eq_some_iff.mp hf
      refine C.rdI fr_525 gx9 (by decide +kernel) rfl ?_
      refine C.seg (pe := 46) (lv' := [(4, .int x3), (3, .int x1), (0, .ref a0), (1, .ref p1), (2, .int p2)]) (st' := [.int x3, .int x9, .ref a8]) [(.iload 4, 2, 0)] (by decide +kernel) rfl ?_
      obtain ⟨h10, gh10, hf⟩ := Option.bind_eq_some_iff.mp hf
      refine C.ast gh10 (by decide +kernel) rfl ?_
      refine C.seg (pe := 48) (lv' := [(4, .int x3), (3, .int x1), (0, .ref a0), (1, .ref p1), (2, .int p2)]) (st' := [.ref a0]) [(.aload_n 0, 1, 0)] (by decide +kernel) rfl ?_
      obtain ⟨a11, ga11, hf⟩ := Option.bind_eq_some_iff.mp hf
      refine C.rdA fr_524 ga11 (by decide +kernel) rfl ?_
      refine C.seg (pe := 52) (lv' := [(4, .int x3), (3, .int x1), (0, .ref a0), (1, .ref p1), (2, .int p2)]) (st' := [.ref a0, .ref a11]) [(.aload_n 0, 1, 0)] (by decide +kernel) rfl ?_
      obtain ⟨x12, gx12, hf⟩ := Option.bind_eq_some_iff.mp hf
      refine C.rdI fr_525 gx12 (by decide +kernel) rfl ?_
      refine C.seg (pe := 56) (lv' := [(4, .int x3), (3, .int x1), (0, .ref a0), (1, .ref p1), (2, .int p2)]) (st' := [.int x1, .int x12, .ref a11]) [(.iload_n 3, 1, 0)] (by decide +kernel) rfl ?_
      obtain ⟨h13, gh13, hf⟩ := Option.bind_eq_some_iff.mp hf
      refine C.ast gh13 (by decide +kernel) rfl ?_
      refine C.seg (pe := 59) (lv' := [(4, .int x3), (3, .int x1), (0, .ref a0), (1, .ref p1), (2, .int p2)]) (st' := [.ref a0, .ref a0]) [(.aload_n 0, 1, 0), (.dup, 1, 0)] (by decide +kernel) rfl ?_
      obtain ⟨x14, gx14, hf⟩ := Option.bind_eq_some_iff.mp hf
      refine C.rdI fr_525 gx14 (by decide +kernel) rfl ?_
      refine C.seg (pe := 64) (lv' := [(4, .int x3), (3, .int x1), (0, .ref a0), (1, .ref p1), (2, .int p2)]) (st' := [.int (x14 + 1), .ref a0]) [(.iconst 1, 1, 1), (.iadd, 1, 0)] (by decide +kernel) rfl ?_
      obtain ⟨h15, gh15, hf⟩ := Option.bind_eq_some_iff.mp hf
      refine C.putI fl_525 gh15 (by decide +kernel) rfl ?_
      refine C.seg (pe := 69) (lv' := [(4, .int x3), (3, .int x1), (0, .ref a0), (1, .ref p1), (2, .int p2)]) (st' := [.ref p1, .ref a0]) [(.aload_n 0, 1, 0), (.aload_n 1, 1, 0)] (by decide +kernel) rfl ?_
      obtain ⟨a16, ga16, hf⟩ := Option.bind_eq_some_iff.mp hf
      refine C.rdA fr_418 ga16 (by decide +kernel) rfl ?_
      refine C.seg (pe := 73) (lv' := [(4, .int x3), (3, .int x1), (0, .ref a0), (1, .ref p1), (2, .int p2)]) (st' := [.int p2, .ref a16, .ref a0]) [(.iload_n 2, 1, 0)] (by decide +kernel) rfl ?_
      obtain ⟨x17, gx17, hf⟩ := Option.bind_eq_some_iff.mp hf
      refine C.sald 3 rfl gx17 (by decide +kernel) rfl ?_
      refine C.seg (pe := 76) (lv' := [(4, .int x3), (3, .int x1), (0, .ref a0), (1, .ref p1), (2, .int p2)]) (st' := [.int x3, .int x17, .ref a0]) [(.iload 4, 2, 0)] (by decide +kernel) rfl ?_
      obtain ⟨h18, gh18, hf⟩ := Option.bind_eq_some_iff.mp hf
      refine C.callVr C2 [.int x17, .int x3] [] mv_1203 rfl (o_X0_setVar gh18) (w_X0_setVar gh18) (by omega) (by omega) (Nat.le_of_ble_eq_true rfl) (by decide +kernel) rfl ?_
      refine C.seg (pe := 82) (lv' := [(4, .int x3), (3, .int x1), (0, .ref a0), (1, .ref p1), (2, .int p2)]) (st' := [.int (p2 + 1)]) [(.iload_n 2, 1, 0), (.iconst 1, 1, 1), (.iadd, 1, 0)] (by decide +kernel) rfl ?_
      cases hf
      exact C.retI rfl (by decide +kernel) ⟨rfl, rfl⟩
    · replace hf := ifn c19 hf
      refine Vsub [3, 4] rfl ?_
      exact l_X0_beginEach_29 C C2 p1 p2 h4 hf
theorem o_X0_beginEach {a0 : Nat} {p1 : Nat} {p2 : Int32} {h : AH} {rr : Int32} {hr : AH} (hf : f_X0_beginEach a0 p1 p2 h = some (rr, hr)) : isO 0 h a0 = true := by
  unfold f_X0_beginEach at hf
  exact (ifO hf).1
/-! WallHouse$Canvas.goOn(LWallHouse$Drawing;I)I -/
def f_X0_goOn_26 (i2 : Int32) (h : AH) : Option (Int32 × AH) :=
  some (i2 + 1, h)
set_option maxRecDepth 100000 in
set_option maxHeartbeats 4000000 in
theorem l_X0_goOn_26 {X : MX} {l : Launch} {G : GX} {h0 : AH} {rr : Int32} {hr : AH} (C : Cx X G RX0 cX0_goOn 5 (some .int) 1 22 h0) (C2 : Cy X l "goOn" []) (i2 : Int32) (h : AH) (hf : f_X0_goOn_26 i2 h = some (rr, hr)) : V X G h0 (QI rr hr) 26 [(2, .int i2)] [] h := by
  unfold f_X0_goOn_26 at hf
  refine C.seg (pe := 29) (lv' := [(2, .int i2)]) (st' := [.int (i2 + 1)]) [(.iload_n 2, 1, 0), (.iconst 1, 1, 1), (.iadd, 1, 0)] (by decide +kernel) rfl ?_
  cases hf
  exact C.retI rfl (by decide +kernel) ⟨rfl, rfl⟩
def f_X0_goOn (a0 : Nat) (p1 : Nat) (p2 : Int32) (h : AH) : Option (Int32 × AH) :=
  if isO 0 h a0 = true then
    (gA 1 h p1 2).bind fun a1 =>
    (aI 3 h a1 p2).bind fun x2 =>
    (gI 0 h a0 15).bind fun x3 =>
    if x3 ≤ 0 then
      f_X0_goOn_26 p2 h
    else
      if x2 < 0 then
        f_X0_goOn_26 p2 h
      else
        (gI 1 h p1 4).bind fun x4 =>
        if x2 < x4 then
          (gI 0 h a0 15).bind fun x5 =>
          (gA 0 h a0 13).bind fun a6 =>
          (aI 0 h a6 (x5 - 1)).bind fun x7 =>
          (gA 0 h a0 14).bind fun a8 =>
          (aI 0 h a8 (x5 - 1)).bind fun x9 =>
          if x7 < x9 then
            (gA 0 h a0 13).bind fun a10 =>
            (aI 0 h a10 (x5 - 1)).bind fun x11 =>
            (sI 0 h a10 (x5 - 1) (x11 + 1)).bind fun h12 =>
            (gA 1 h12 p1 1).bind fun a13 =>
            (aI 3 h12 a13 x2).bind fun x14 =>
            (gA 0 h12 a0 13).bind fun a15 =>
            (aI 0 h12 a15 (x5 - 1)).bind fun x16 =>
            (f_X0_setVar a0 x14 x16 h12).bind fun h17 =>
            some (x2 + 1, h17)
          else
            (pI 0 h a0 15 (x5 - 1)).bind fun h18 =>
            some (p2 + 1, h18)
        else
          f_X0_goOn_26 p2 h
  else none
set_option maxRecDepth 100000 in
set_option maxHeartbeats 4000000 in
theorem w_X0_goOn {l : Launch} {G : GX} {a0 : Nat} {p1 : Nat} {p2 : Int32} {h : AH} {rr : Int32} {hr : AH} (hf : f_X0_goOn a0 p1 p2 h = some (rr, hr)) : Ct l G yX0_goOn 1 22 [.ref a0, .ref p1, .int p2] h (QI rr hr) := by
  unfold f_X0_goOn at hf
  obtain ⟨ho, hf⟩ := ifO hf
  refine Ct_of (own := RX0) (cc := cX0_goOn) (nL := 5) (ret := (some .int)) rfl rfl k_1210 (Nat.le_of_ble_eq_true rfl) (fun X C2 C => ?_)
  show V X G h (QI rr hr) 0 [(0, .ref a0), (1, .ref p1), (2, .int p2)] [] h
  refine C.seg (pe := 1) (lv' := [(0, .ref a0), (1, .ref p1), (2, .int p2)]) (st' := [.ref p1]) [(.aload_n 1, 1, 0)] (by decide +kernel) rfl ?_
  obtain ⟨a1, ga1, hf⟩ := Option.bind_eq_some_iff.mp hf
  refine C.rdA fr_420 ga1 (by decide +kernel) rfl ?_
  refine C.seg (pe := 5) (lv' := [(0, .ref a0), (1, .ref p1), (2, .int p2)]) (st' := [.int p2, .ref a1]) [(.iload_n 2, 1, 0)] (by decide +kernel) rfl ?_
  obtain ⟨x2, gx2, hf⟩ := Option.bind_eq_some_iff.mp hf
  refine C.sald 3 rfl gx2 (by decide +kernel) rfl ?_
  refine C.seg (pe := 8) (lv' := [(3, .int x2), (0, .ref a0), (1, .ref p1), (2, .int p2)]) (st' := [.ref a0]) [(.istore_n 3, 1, 0), (.aload_n 0, 1, 0)] (by decide +kernel) rfl ?_
  obtain ⟨x3, gx3, hf⟩ := Option.bind_eq_some_iff.mp hf
  refine C.rdI fr_525 gx3 (by decide +kernel) rfl ?_
  refine C.if_le (off := 15) (tgt := 26) (pf := 14) (by decide +kernel) (by decide) rfl (fun c22 => ?_) (fun c22 => ?_)
  · replace hf := ifp c22 hf
    refine Vsub [3] rfl ?_
    exact l_X0_goOn_26 C C2 p2 h hf
  · replace hf := ifn c22 hf
    refine C.seg (pe := 15) (lv' := [(3, .int x2), (0, .ref a0), (1, .ref p1), (2, .int p2)]) (st' := [.int x2]) [(.iload_n 3, 1, 0)] (by decide +kernel) rfl ?_
    refine C.if_lt (off := 11) (tgt := 26) (pf := 18) (by decide +kernel) (by decide) rfl (fun c21 => ?_) (fun c21 => ?_)
    · replace hf := ifp c21 hf
      refine Vsub [3] rfl ?_
      exact l_X0_goOn_26 C C2 p2 h hf
    · replace hf := ifn c21 hf
      refine C.seg (pe := 20) (lv' := [(3, .int x2), (0, .ref a0), (1, .ref p1), (2, .int p2)]) (st' := [.ref p1, .int x2]) [(.iload_n 3, 1, 0), (.aload_n 1, 1, 0)] (by decide +kernel) rfl ?_
      obtain ⟨x4, gx4, hf⟩ := Option.bind_eq_some_iff.mp hf
      refine C.rdI fr_425 gx4 (by decide +kernel) rfl ?_
      refine C.icmp_lt (off := 7) (tgt := 30) (pf := 26) (by decide +kernel) (by decide) rfl (fun c20 => ?_) (fun c20 => ?_)
      · replace hf := ifp c20 hf
        refine C.seg (pe := 31) (lv' := [(3, .int x2), (0, .ref a0), (1, .ref p1), (2, .int p2)]) (st' := [.ref a0]) [(.aload_n 0, 1, 0)] (by decide +kernel) rfl ?_
        obtain ⟨x5, gx5, hf⟩ := Option.bind_eq_some_iff.mp hf
        refine C.rdI fr_525 gx5 (by decide +kernel) rfl ?_
        refine C.seg (pe := 39) (lv' := [(4, .int (x5 - 1)), (3, .int x2), (0, .ref a0), (1, .ref p1), (2, .int p2)]) (st' := [.ref a0]) [(.iconst 1, 1, 1), (.isub, 1, 0), (.istore 4, 2, 0), (.aload_n 0, 1, 0)] (by decide +kernel) rfl ?_
        obtain ⟨a6, ga6, hf⟩ := Option.bind_eq_some_iff.mp hf
        refine C.rdA fr_523 ga6 (by decide +kernel) rfl ?_
        refine C.seg (pe := 44) (lv' := [(4, .int (x5 - 1)), (3, .int x2), (0, .ref a0), (1, .ref p1), (2, .int p2)]) (st' := [.int (x5 - 1), .ref a6]) [(.iload 4, 2, 0)] (by decide +kernel) rfl ?_
        obtain ⟨x7, gx7, hf⟩ := Option.bind_eq_some_iff.mp hf
        refine C.ald 0 rfl gx7 (by decide +kernel) rfl ?_
        refine C.seg (pe := 46) (lv' := [(4, .int (x5 - 1)), (3, .int x2), (0, .ref a0), (1, .ref p1), (2, .int p2)]) (st' := [.ref a0, .int x7]) [(.aload_n 0, 1, 0)] (by decide +kernel) rfl ?_
        obtain ⟨a8, ga8, hf⟩ := Option.bind_eq_some_iff.mp hf
        refine C.rdA fr_524 ga8 (by decide +kernel) rfl ?_
        refine C.seg (pe := 51) (lv' := [(4, .int (x5 - 1)), (3, .int x2), (0, .ref a0), (1, .ref p1), (2, .int p2)]) (st' := [.int (x5 - 1), .ref a8, .int x7]) [(.iload 4, 2, 0)] (by decide +kernel) rfl ?_
        obtain ⟨x9, gx9, hf⟩ := Option.bind_eq_some_iff.mp hf
        refine C.ald 0 rfl gx9 (by decide +kernel) rfl ?_
        refine C.icmp_lt (off := 13) (tgt := 65) (pf := 55) (by decide +kernel) (by decide) rfl (fun c19 => ?_) (fun c19 => ?_)
        · replace hf := ifp c19 hf
          refine C.seg (pe := 66) (lv' := [(4, .int (x5 - 1)), (3, .int x2), (0, .ref a0), (1, .ref p1), (2, .int p2)]) (st' := [.ref a0]) [(.aload_n 0, 1, 0)] (by decide +kernel) rfl ?_
          obtain ⟨a10, ga10, hf⟩ := Option.bind_eq_some_iff.mp hf
          refine C.rdA fr_523 ga10 (by decide +kernel) rfl ?_
          refine C.seg (pe := 72) (lv' := [(4, .int (x5 - 1)), (3, .int x2), (0, .ref a0), (1, .ref p1), (2, .int p2)]) (st' := [.int (x5 - 1), .ref a10, .int (x5 - 1), .ref a10]) [(.iload 4, 2, 0), (.dup2, 1, 0)] (by decide +kernel) rfl ?_
          obtain ⟨x11, gx11, hf⟩ := Option.bind_eq_some_iff.mp hf
          refine C.ald 0 rfl gx11 (by decide +kernel) rfl ?_
          refine C.seg (pe := 75) (lv' := [(4, .int (x5 - 1)), (3, .int x2), (0, .ref a0), (1, .ref p1), (2, .int p2)]) (st' := [.int (x11 + 1), .int (x5 - 1), .ref a10]) [(.iconst 1, 1, 1), (.iadd, 1, 0)] (by decide +kernel) rfl ?_
          obtain ⟨h12, gh12, hf⟩ := Option.bind_eq_some_iff.mp hf
          refine C.ast gh12 (by decide +kernel) rfl ?_
          refine C.seg (pe := 78) (lv' := [(4, .int (x5 - 1)), (3, .int x2), (0, .ref a0), (1, .ref p1), (2, .int p2)]) (st' := [.ref p1, .ref a0]) [(.aload_n 0, 1, 0), (.aload_n 1, 1, 0)] (by decide +kernel) rfl ?_
          obtain ⟨a13, ga13, hf⟩ := Option.bind_eq_some_iff.mp hf
          refine C.rdA fr_418 ga13 (by decide +kernel) rfl ?_
          refine C.seg (pe := 82) (lv' := [(4, .int (x5 - 1)), (3, .int x2), (0, .ref a0), (1, .ref p1), (2, .int p2)]) (st' := [.int x2, .ref a13, .ref a0]) [(.iload_n 3, 1, 0)] (by decide +kernel) rfl ?_
          obtain ⟨x14, gx14, hf⟩ := Option.bind_eq_some_iff.mp hf
          refine C.sald 3 rfl gx14 (by decide +kernel) rfl ?_
          refine C.seg (pe := 84) (lv' := [(4, .int (x5 - 1)), (3, .int x2), (0, .ref a0), (1, .ref p1), (2, .int p2)]) (st' := [.ref a0, .int x14, .ref a0]) [(.aload_n 0, 1, 0)] (by decide +kernel) rfl ?_
          obtain ⟨a15, ga15, hf⟩ := Option.bind_eq_some_iff.mp hf
          refine C.rdA fr_523 ga15 (by decide +kernel) rfl ?_
          refine C.seg (pe := 89) (lv' := [(4, .int (x5 - 1)), (3, .int x2), (0, .ref a0), (1, .ref p1), (2, .int p2)]) (st' := [.int (x5 - 1), .ref a15, .int x14, .ref a0]) [(.iload 4, 2, 0)] (by decide +kernel) rfl ?_
          obtain ⟨x16, gx16, hf⟩ := Option.bind_eq_some_iff.mp hf
          refine C.ald 0 rfl gx16 (by decide +kernel) rfl ?_
          obtain ⟨h17, gh17, hf⟩ := Option.bind_eq_some_iff.mp hf
          refine C.callVr C2 [.int x14, .int x16] [] mv_1203 rfl (o_X0_setVar gh17) (w_X0_setVar gh17) (by omega) (by omega) (Nat.le_of_ble_eq_true rfl) (by decide +kernel) rfl ?_
          refine C.seg (pe := 96) (lv' := [(4, .int (x5 - 1)), (3, .int x2), (0, .ref a0), (1, .ref p1), (2, .int p2)]) (st' := [.int (x2 + 1)]) [(.iload_n 3, 1, 0), (.iconst 1, 1, 1), (.iadd, 1, 0)] (by decide +kernel) rfl ?_
          cases hf
          exact C.retI rfl (by decide +kernel) ⟨rfl, rfl⟩
        · replace hf := ifn c19 hf
          refine C.seg (pe := 58) (lv' := [(4, .int (x5 - 1)), (3, .int x2), (0, .ref a0), (1, .ref p1), (2, .int p2)]) (st' := [.int (x5 - 1), .ref a0]) [(.aload_n 0, 1, 0), (.iload 4, 2, 0)] (by decide +kernel) rfl ?_
          obtain ⟨h18, gh18, hf⟩ := Option.bind_eq_some_iff.mp hf
          refine C.putI fl_525 gh18 (by decide +kernel) rfl ?_
          refine C.seg (pe := 64) (lv' := [(4, .int (x5 - 1)), (3, .int x2), (0, .ref a0), (1, .ref p1), (2, .int p2)]) (st' := [.int (p2 + 1)]) [(.iload_n 2, 1, 0), (.iconst 1, 1, 1), (.iadd, 1, 0)] (by decide +kernel) rfl ?_
          cases hf
          exact C.retI rfl (by decide +kernel) ⟨rfl, rfl⟩
      · replace hf := ifn c20 hf
        refine Vsub [3] rfl ?_
        exact l_X0_goOn_26 C C2 p2 h hf
theorem o_X0_goOn {a0 : Nat} {p1 : Nat} {p2 : Int32} {h : AH} {rr : Int32} {hr : AH} (hf : f_X0_goOn a0 p1 p2 h = some (rr, hr)) : isO 0 h a0 = true := by
  unfold f_X0_goOn at hf
  exact (ifO hf).1
/-! WallHouse$Canvas.compare(I)Z -/
def f_X0_compare_56 (si0 : Int32) (h : AH) : Option (Int32 × AH) :=
  (ckZ si0).bind fun x1 =>
  some (x1, h)
set_option maxRecDepth 100000 in
set_option maxHeartbeats 4000000 in
theorem l_X0_compare_56 {X : MX} {l : Launch} {G : GX} {h0 : AH} {rr : Int32} {hr : AH} (C : Cx X G RX0 cX0_compare 4 (some .boolean) 1 20 h0) (C2 : Cy X l "compare" []) (si0 : Int32) (h : AH) (hf : f_X0_compare_56 si0 h = some (rr, hr)) : V X G h0 (QI rr hr) 56 [] [.int si0] h := by
  unfold f_X0_compare_56 at hf
  obtain ⟨x1, gx1, hf⟩ := Option.bind_eq_some_iff.mp hf
  have ex1 := ckZ_eq gx1
  subst ex1
  cases hf
  exact C.retZ rfl gx1 (by decide +kernel) ⟨rfl, rfl⟩
def f_X0_compare_26 (si0 : Int32) (h : AH) : Option (Int32 × AH) :=
  (ckZ si0).bind fun x1 =>
  some (x1, h)
set_option maxRecDepth 100000 in
set_option maxHeartbeats 4000000 in
theorem l_X0_compare_26 {X : MX} {l : Launch} {G : GX} {h0 : AH} {rr : Int32} {hr : AH} (C : Cx X G RX0 cX0_compare 4 (some .boolean) 1 20 h0) (C2 : Cy X l "compare" []) (si0 : Int32) (h : AH) (hf : f_X0_compare_26 si0 h = some (rr, hr)) : V X G h0 (QI rr hr) 26 [] [.int si0] h := by
  unfold f_X0_compare_26 at hf
  obtain ⟨x1, gx1, hf⟩ := Option.bind_eq_some_iff.mp hf
  have ex1 := ckZ_eq gx1
  subst ex1
  cases hf
  exact C.retZ rfl gx1 (by decide +kernel) ⟨rfl, rfl⟩
def f_X0_compare (a0 : Nat) (p1 : Int32) (h : AH) : Option (Int32 × AH) :=
  if isO 0 h a0 = true then
    b2 (f_X0_release a0 h) fun x1 h2 =>
    b2 (f_X0_release a0 h2) fun x3 h4 =>
    if p1 = 60 then
      if x1 ≤ x3 then
        f_X0_compare_26 0 h4
      else
        f_X0_compare_26 1 h4
    else
      if p1 = 62 then
        if x3 ≤ x1 then
          f_X0_compare_56 0 h4
        else
          f_X0_compare_56 1 h4
      else
        if x3 = x1 then
          f_X0_compare_56 1 h4
        else
          f_X0_compare_56 0 h4
  else none
set_option maxRecDepth 100000 in
set_option maxHeartbeats 4000000 in
theorem w_X0_compare {l : Launch} {G : GX} {a0 : Nat} {p1 : Int32} {h : AH} {rr : Int32} {hr : AH} (hf : f_X0_compare a0 p1 h = some (rr, hr)) : Ct l G yX0_compare 1 20 [.ref a0, .int p1] h (QI rr hr) := by
  unfold f_X0_compare at hf
  obtain ⟨ho, hf⟩ := ifO hf
  refine Ct_of (own := RX0) (cc := cX0_compare) (nL := 4) (ret := (some .boolean)) rfl rfl k_1214 (Nat.le_of_ble_eq_true rfl) (fun X C2 C => ?_)
  show V X G h (QI rr hr) 0 [(0, .ref a0), (1, .int p1)] [] h
  refine C.seg (pe := 1) (lv' := [(0, .ref a0), (1, .int p1)]) (st' := [.ref a0]) [(.aload_n 0, 1, 0)] (by decide +kernel) rfl ?_
  obtain ⟨x1, h2, gx1, hf⟩ := b2_some hf
  refine C.callVr C2 [] [] mv_1170 rfl (o_X0_release gx1) (w_X0_release gx1) (by omega) (by omega) (Nat.le_of_ble_eq_true rfl) (by decide +kernel) rfl ?_
  refine C.seg (pe := 6) (lv' := [(2, .int x1), (0, .ref a0), (1, .int p1)]) (st' := [.ref a0]) [(.istore_n 2, 1, 0), (.aload_n 0, 1, 0)] (by decide +kernel) rfl ?_
  obtain ⟨x3, h4, gx3, hf⟩ := b2_some hf
  refine C.callVr C2 [] [] mv_1170 rfl (o_X0_release gx3) (w_X0_release gx3) (by omega) (by omega) (Nat.le_of_ble_eq_true rfl) (by decide +kernel) rfl ?_
  refine C.seg (pe := 13) (lv' := [(3, .int x3), (2, .int x1), (0, .ref a0), (1, .int p1)]) (st' := [.int 60, .int p1]) [(.istore_n 3, 1, 0), (.iload_n 1, 1, 0), (.bipush 60, 2, 60)] (by decide +kernel) rfl ?_
  refine C.icmp_ne (off := 14) (tgt := 27) (pf := 16) (by decide +kernel) (by decide) rfl (fun c9 => ?_) (fun c9 => ?_)
  · replace hf := ifn c9 hf
    refine C.seg (pe := 30) (lv' := [(3, .int x3), (2, .int x1), (0, .ref a0), (1, .int p1)]) (st' := [.int 62, .int p1]) [(.iload_n 1, 1, 0), (.bipush 62, 2, 62)] (by decide +kernel) rfl ?_
    refine C.icmp_ne (off := 16) (tgt := 46) (pf := 33) (by decide +kernel) (by decide) rfl (fun c7 => ?_) (fun c7 => ?_)
    · replace hf := ifn c7 hf
      refine C.seg (pe := 48) (lv' := [(3, .int x3), (2, .int x1), (0, .ref a0), (1, .int p1)]) (st' := [.int x1, .int x3]) [(.iload_n 3, 1, 0), (.iload_n 2, 1, 0)] (by decide +kernel) rfl ?_
      refine C.icmp_ne (off := 7) (tgt := 55) (pf := 51) (by decide +kernel) (by decide) rfl (fun c5 => ?_) (fun c5 => ?_)
      · replace hf := ifn c5 hf
        refine C.seg (pe := 56) (lv' := [(3, .int x3), (2, .int x1), (0, .ref a0), (1, .int p1)]) (st' := [.int 0]) [(.iconst 0, 1, 0)] (by decide +kernel) rfl ?_
        refine Vsub [] rfl ?_
        exact l_X0_compare_56 C C2 0 h4 hf
      · replace hf := ifp c5 hf
        refine C.seg (pe := 52) (lv' := [(3, .int x3), (2, .int x1), (0, .ref a0), (1, .int p1)]) (st' := [.int 1]) [(.iconst 1, 1, 1)] (by decide +kernel) rfl ?_
        refine C.goto (off := 4) (tgt := 56) (by decide +kernel) (by decide) ?_
        refine Vsub [] rfl ?_
        exact l_X0_compare_56 C C2 1 h4 hf
    · replace hf := ifp c7 hf
      refine C.seg (pe := 35) (lv' := [(3, .int x3), (2, .int x1), (0, .ref a0), (1, .int p1)]) (st' := [.int x1, .int x3]) [(.iload_n 3, 1, 0), (.iload_n 2, 1, 0)] (by decide +kernel) rfl ?_
      refine C.icmp_le (off := 7) (tgt := 42) (pf := 38) (by decide +kernel) (by decide) rfl (fun c6 => ?_) (fun c6 => ?_)
      · replace hf := ifp c6 hf
        refine C.seg (pe := 43) (lv' := [(3, .int x3), (2, .int x1), (0, .ref a0), (1, .int p1)]) (st' := [.int 0]) [(.iconst 0, 1, 0)] (by decide +kernel) rfl ?_
        refine C.goto (off := 13) (tgt := 56) (by decide +kernel) (by decide) ?_
        refine Vsub [] rfl ?_
        exact l_X0_compare_56 C C2 0 h4 hf
      · replace hf := ifn c6 hf
        refine C.seg (pe := 39) (lv' := [(3, .int x3), (2, .int x1), (0, .ref a0), (1, .int p1)]) (st' := [.int 1]) [(.iconst 1, 1, 1)] (by decide +kernel) rfl ?_
        refine C.goto (off := 17) (tgt := 56) (by decide +kernel) (by decide) ?_
        refine Vsub [] rfl ?_
        exact l_X0_compare_56 C C2 1 h4 hf
  · replace hf := ifp c9 hf
    refine C.seg (pe := 18) (lv' := [(3, .int x3), (2, .int x1), (0, .ref a0), (1, .int p1)]) (st' := [.int x1, .int x3]) [(.iload_n 3, 1, 0), (.iload_n 2, 1, 0)] (by decide +kernel) rfl ?_
    refine C.icmp_ge (off := 7) (tgt := 25) (pf := 21) (by decide +kernel) (by decide) rfl (fun c8 => ?_) (fun c8 => ?_)
    · replace hf := ifp c8 hf
      refine C.seg (pe := 26) (lv' := [(3, .int x3), (2, .int x1), (0, .ref a0), (1, .int p1)]) (st' := [.int 0]) [(.iconst 0, 1, 0)] (by decide +kernel) rfl ?_
      refine Vsub [] rfl ?_
      exact l_X0_compare_26 C C2 0 h4 hf
    · replace hf := ifn c8 hf
      refine C.seg (pe := 22) (lv' := [(3, .int x3), (2, .int x1), (0, .ref a0), (1, .int p1)]) (st' := [.int 1]) [(.iconst 1, 1, 1)] (by decide +kernel) rfl ?_
      refine C.goto (off := 4) (tgt := 26) (by decide +kernel) (by decide) ?_
      refine Vsub [] rfl ?_
      exact l_X0_compare_26 C C2 1 h4 hf
theorem o_X0_compare {a0 : Nat} {p1 : Int32} {h : AH} {rr : Int32} {hr : AH} (hf : f_X0_compare a0 p1 h = some (rr, hr)) : isO 0 h a0 = true := by
  unfold f_X0_compare at hf
  exact (ifO hf).1
/-! WallHouse$Canvas.act(LWallHouse$Drawing;I)I -/
def f_X0_act_229 (i2 : Int32) (h : AH) : Option (Int32 × AH) :=
  some (i2 + 1, h)
set_option maxRecDepth 100000 in
set_option maxHeartbeats 4000000 in
theorem l_X0_act_229 {X : MX} {l : Launch} {G : GX} {h0 : AH} {rr : Int32} {hr : AH} (C : Cx X G RX0 cX0_act 4 (some .int) 2 67 h0) (C2 : Cy X l "act" []) (i2 : Int32) (h : AH) (hf : f_X0_act_229 i2 h = some (rr, hr)) : V X G h0 (QI rr hr) 229 [(2, .int i2)] [] h := by
  unfold f_X0_act_229 at hf
  refine C.seg (pe := 232) (lv' := [(2, .int i2)]) (st' := [.int (i2 + 1)]) [(.iload_n 2, 1, 0), (.iconst 1, 1, 1), (.iadd, 1, 0)] (by decide +kernel) rfl ?_
  cases hf
  exact C.retI rfl (by decide +kernel) ⟨rfl, rfl⟩
def f_X0_act_228 (si0 : Int32) (h : AH) : Option (Int32 × AH) :=
  some (si0, h)
set_option maxRecDepth 100000 in
set_option maxHeartbeats 4000000 in
theorem l_X0_act_228 {X : MX} {l : Launch} {G : GX} {h0 : AH} {rr : Int32} {hr : AH} (C : Cx X G RX0 cX0_act 4 (some .int) 2 67 h0) (C2 : Cy X l "act" []) (si0 : Int32) (h : AH) (hf : f_X0_act_228 si0 h = some (rr, hr)) : V X G h0 (QI rr hr) 228 [] [.int si0] h := by
  unfold f_X0_act_228 at hf
  cases hf
  exact C.retI rfl (by decide +kernel) ⟨rfl, rfl⟩
def f_X0_act_127 (i2 : Int32) (si0 : Int32) (sr1 : Nat) (h : AH) : Option (Int32 × AH) :=
  (f_X0_hold sr1 si0 h).bind fun h1 =>
  f_X0_act_229 i2 h1
set_option maxRecDepth 100000 in
set_option maxHeartbeats 4000000 in
theorem l_X0_act_127 {X : MX} {l : Launch} {G : GX} {h0 : AH} {rr : Int32} {hr : AH} (C : Cx X G RX0 cX0_act 4 (some .int) 2 67 h0) (C2 : Cy X l "act" []) (i2 : Int32) (si0 : Int32) (sr1 : Nat) (h : AH) (hf : f_X0_act_127 i2 si0 sr1 h = some (rr, hr)) : V X G h0 (QI rr hr) 127 [(2, .int i2)] [.int si0, .ref sr1] h := by
  unfold f_X0_act_127 at hf
  obtain ⟨h1, gh1, hf⟩ := Option.bind_eq_some_iff.mp hf
  refine C.callVr C2 [.int si0] [] mv_1162 rfl (o_X0_hold gh1) (w_X0_hold gh1) (by omega) (by omega) (Nat.le_of_ble_eq_true rfl) (by decide +kernel) rfl ?_
  refine C.goto (off := 99) (tgt := 229) (by decide +kernel) (by decide) ?_
  exact l_X0_act_229 C C2 i2 h1 hf
def f_X0_act_126 (i2 : Int32) (sr0 : Nat) (h : AH) : Option (Int32 × AH) :=
  f_X0_act_127 i2 0 sr0 h
set_option maxRecDepth 100000 in
set_option maxHeartbeats 4000000 in
theorem l_X0_act_126 {X : MX} {l : Launch} {G : GX} {h0 : AH} {rr : Int32} {hr : AH} (C : Cx X G RX0 cX0_act 4 (some .int) 2 67 h0) (C2 : Cy X l "act" []) (i2 : Int32) (sr0 : Nat) (h : AH) (hf : f_X0_act_126 i2 sr0 h = some (rr, hr)) : V X G h0 (QI rr hr) 126 [(2, .int i2)] [.ref sr0] h := by
  unfold f_X0_act_126 at hf
  refine C.seg (pe := 127) (lv' := [(2, .int i2)]) (st' := [.int 0, .ref sr0]) [(.iconst 0, 1, 0)] (by decide +kernel) rfl ?_
  exact l_X0_act_127 C C2 i2 0 sr0 h hf
def f_X0_act_12 (i2 : Int32) (h : AH) : Option (Int32 × AH) :=
  some (i2, h)
set_option maxRecDepth 100000 in
set_option maxHeartbeats 4000000 in
theorem l_X0_act_12 {X : MX} {l : Launch} {G : GX} {h0 : AH} {rr : Int32} {hr : AH} (C : Cx X G RX0 cX0_act 4 (some .int) 2 67 h0) (C2 : Cy X l "act" []) (i2 : Int32) (h : AH) (hf : f_X0_act_12 i2 h = some (rr, hr)) : V X G h0 (QI rr hr) 12 [(2, .int i2)] [] h := by
  unfold f_X0_act_12 at hf
  refine C.seg (pe := 13) (lv' := [(2, .int i2)]) (st' := [.int i2]) [(.iload_n 2, 1, 0)] (by decide +kernel) rfl ?_
  cases hf
  exact C.retI rfl (by decide +kernel) ⟨rfl, rfl⟩
def f_X0_act (a0 : Nat) (p1 : Nat) (p2 : Int32) (h : AH) : Option (Int32 × AH) :=
  if isO 0 h a0 = true then
    if p2 < 0 then
      f_X0_act_12 p2 h
    else
      (gI 1 h p1 4).bind fun x1 =>
      if p2 < x1 then
        (gA 1 h p1 1).bind fun a2 =>
        (aI 3 h a2 p2).bind fun x3 =>
        (gA 1 h p1 0).bind fun a4 =>
        (aI 1 h a4 p2).bind fun x5 =>
        if x5 = 0 then
          (f_X0_come a0 h).bind fun h18 =>
          f_X0_act_229 p2 h18
        else
          if x5 = 1 then
            (f_X0_hold a0 x3 h).bind fun h19 =>
            f_X0_act_229 p2 h19
          else
            if x5 = 2 then
              if x3 < 0 then
                f_X0_act_126 p2 a0 h
              else
                (gA 0 h a0 10).bind fun a20 =>
                (aN h a20).bind fun x21 =>
                if x21 ≤ x3 then
                  f_X0_act_126 p2 a0 h
                else
                  (gA 0 h a0 10).bind fun a22 =>
                  (aI 0 h a22 x3).bind fun x23 =>
                  f_X0_act_127 p2 x23 a0 h
            else
              if x5 = 3 then
                (gI 0 h a0 1).bind fun x26 =>
                (f_X0_hold a0 x26 h).bind fun h27 =>
                f_X0_act_229 p2 h27
              else
                if x5 = 4 then
                  (gI 0 h a0 2).bind fun x28 =>
                  (f_X0_hold a0 x28 h).bind fun h29 =>
                  f_X0_act_229 p2 h29
                else
                  if x5 = 5 then
                    (f_X0_reckon a0 x3 h).bind fun h30 =>
                    f_X0_act_229 p2 h30
                  else
                    if x5 = 6 then
                      (f_X0_rect a0 x3 h).bind fun h31 =>
                      f_X0_act_229 p2 h31
                    else
                      if x5 = 7 then
                        (f_X0_disc a0 x3 h).bind fun h32 =>
                        f_X0_act_229 p2 h32
                      else
                        if x5 = 8 then
                          (gA 1 h p1 2).bind fun a33 =>
                          (aI 3 h a33 p2).bind fun x34 =>
                          (f_X0_say a0 p1 x3 x34 h).bind fun h35 =>
                          f_X0_act_229 p2 h35
                        else
                          if x5 = 9 then
                            b2 (f_X0_beginEach a0 p1 p2 h) fun x36 h37 =>
                            some (x36, h37)
                          else
                            if x5 = 10 then
                              b2 (f_X0_goOn a0 p1 p2 h) fun x38 h39 =>
                              some (x38, h39)
                            else
                              if x5 = 11 then
                                b2 (f_X0_compare a0 x3 h) fun x40 h41 =>
                                if x40 = 0 then
                                  (gA 1 h41 p1 2).bind fun a42 =>
                                  (aI 3 h41 a42 p2).bind fun x43 =>
                                  f_X0_act_228 x43 h41
                                else
                                  f_X0_act_228 (p2 + 1) h41
                              else
                                f_X0_act_229 p2 h
      else
        f_X0_act_12 p2 h
  else none
set_option maxRecDepth 100000 in
set_option maxHeartbeats 4000000 in
theorem w_X0_act {l : Launch} {G : GX} {a0 : Nat} {p1 : Nat} {p2 : Int32} {h : AH} {rr : Int32} {hr : AH} (hf : f_X0_act a0 p1 p2 h = some (rr, hr)) : Ct l G yX0_act 2 67 [.ref a0, .ref p1, .int p2] h (QI rr hr) := by
  unfold f_X0_act at hf
  obtain ⟨ho, hf⟩ := ifO hf
  refine Ct_of (own := RX0) (cc := cX0_act) (nL := 4) (ret := (some .int)) rfl rfl k_1157 (Nat.le_of_ble_eq_true rfl) (fun X C2 C => ?_)
  show V X G h (QI rr hr) 0 [(0, .ref a0), (1, .ref p1), (2, .int p2)] [] h
  refine C.seg (pe := 1) (lv' := [(0, .ref a0), (1, .ref p1), (2, .int p2)]) (st' := [.int p2]) [(.iload_n 2, 1, 0)] (by decide +kernel) rfl ?_
  refine C.if_lt (off := 11) (tgt := 12) (pf := 4) (by decide +kernel) (by decide) rfl (fun c46 => ?_) (fun c46 => ?_)
  · replace hf := ifp c46 hf
    refine Vsub [2] rfl ?_
    exact l_X0_act_12 C C2 p2 h hf
  · replace hf := ifn c46 hf
    refine C.seg (pe := 6) (lv' := [(0, .ref a0), (1, .ref p1), (2, .int p2)]) (st' := [.ref p1, .int p2]) [(.iload_n 2, 1, 0), (.aload_n 1, 1, 0)] (by decide +kernel) rfl ?_
    obtain ⟨x1, gx1, hf⟩ := Option.bind_eq_some_iff.mp hf
    refine C.rdI fr_425 gx1 (by decide +kernel) rfl ?_
    refine C.icmp_lt (off := 5) (tgt := 14) (pf := 12) (by decide +kernel) (by decide) rfl (fun c45 => ?_) (fun c45 => ?_)
    · replace hf := ifp c45 hf
      refine C.seg (pe := 15) (lv' := [(0, .ref a0), (1, .ref p1), (2, .int p2)]) (st' := [.ref p1]) [(.aload_n 1, 1, 0)] (by decide +kernel) rfl ?_
      obtain ⟨a2, ga2, hf⟩ := Option.bind_eq_some_iff.mp hf
      refine C.rdA fr_418 ga2 (by decide +kernel) rfl ?_
      refine C.seg (pe := 19) (lv' := [(0, .ref a0), (1, .ref p1), (2, .int p2)]) (st' := [.int p2, .ref a2]) [(.iload_n 2, 1, 0)] (by decide +kernel) rfl ?_
      obtain ⟨x3, gx3, hf⟩ := Option.bind_eq_some_iff.mp hf
      refine C.sald 3 rfl gx3 (by decide +kernel) rfl ?_
      refine C.seg (pe := 22) (lv' := [(3, .int x3), (0, .ref a0), (1, .ref p1), (2, .int p2)]) (st' := [.ref p1]) [(.istore_n 3, 1, 0), (.aload_n 1, 1, 0)] (by decide +kernel) rfl ?_
      obtain ⟨a4, ga4, hf⟩ := Option.bind_eq_some_iff.mp hf
      refine C.rdA fr_415 ga4 (by decide +kernel) rfl ?_
      refine C.seg (pe := 26) (lv' := [(3, .int x3), (0, .ref a0), (1, .ref p1), (2, .int p2)]) (st' := [.int p2, .ref a4]) [(.iload_n 2, 1, 0)] (by decide +kernel) rfl ?_
      obtain ⟨x5, gx5, hf⟩ := Option.bind_eq_some_iff.mp hf
      refine C.bald 1 rfl gx5 (by decide +kernel) rfl ?_
      by_cases c6 : x5 = 0
      · replace hf := ifp c6 hf
        refine C.tsIn (len := 61) (dflt := 202) (a := 0) (b := 11) (offs := #[61, 68, 76, 106, 117, 128, 136, 144, 152, 167, 174, 181]) (k := 0) (off := 61) (tgt := 88) c6 (by decide +kernel) (by decide) (by decide) rfl (by decide) ?_
        refine C.seg (pe := 89) (lv' := [(3, .int x3), (0, .ref a0), (1, .ref p1), (2, .int p2)]) (st' := [.ref a0]) [(.aload_n 0, 1, 0)] (by decide +kernel) rfl ?_
        obtain ⟨h18, gh18, hf⟩ := Option.bind_eq_some_iff.mp hf
        refine C.callVr C2 [] [] mv_1158 rfl (o_X0_come gh18) (w_X0_come gh18) (by omega) (by omega) (Nat.le_of_ble_eq_true rfl) (by decide +kernel) rfl ?_
        refine C.goto (off := 137) (tgt := 229) (by decide +kernel) (by decide) ?_
        refine Vsub [3] rfl ?_
        exact l_X0_act_229 C C2 p2 h18 hf
      · replace hf := ifn c6 hf
        by_cases c7 : x5 = 1
        · replace hf := ifp c7 hf
          refine C.tsIn (len := 61) (dflt := 202) (a := 0) (b := 11) (offs := #[61, 68, 76, 106, 117, 128, 136, 144, 152, 167, 174, 181]) (k := 1) (off := 68) (tgt := 95) c7 (by decide +kernel) (by decide) (by decide) rfl (by decide) ?_
          refine C.seg (pe := 97) (lv' := [(3, .int x3), (0, .ref a0), (1, .ref p1), (2, .int p2)]) (st' := [.int x3, .ref a0]) [(.aload_n 0, 1, 0), (.iload_n 3, 1, 0)] (by decide +kernel) rfl ?_
          obtain ⟨h19, gh19, hf⟩ := Option.bind_eq_some_iff.mp hf
          refine C.callVr C2 [.int x3] [] mv_1162 rfl (o_X0_hold gh19) (w_X0_hold gh19) (by omega) (by omega) (Nat.le_of_ble_eq_true rfl) (by decide +kernel) rfl ?_
          refine C.goto (off := 129) (tgt := 229) (by decide +kernel) (by decide) ?_
          refine Vsub [3] rfl ?_
          exact l_X0_act_229 C C2 p2 h19 hf
        · replace hf := ifn c7 hf
          by_cases c8 : x5 = 2
          · replace hf := ifp c8 hf
            refine C.tsIn (len := 61) (dflt := 202) (a := 0) (b := 11) (offs := #[61, 68, 76, 106, 117, 128, 136, 144, 152, 167, 174, 181]) (k := 2) (off := 76) (tgt := 103) c8 (by decide +kernel) (by decide) (by decide) rfl (by decide) ?_
            refine C.seg (pe := 105) (lv' := [(3, .int x3), (0, .ref a0), (1, .ref p1), (2, .int p2)]) (st' := [.int x3, .ref a0]) [(.aload_n 0, 1, 0), (.iload_n 3, 1, 0)] (by decide +kernel) rfl ?_
            refine C.if_lt (off := 21) (tgt := 126) (pf := 108) (by decide +kernel) (by decide) rfl (fun c25 => ?_) (fun c25 => ?_)
            · replace hf := ifp c25 hf
              refine Vsub [3] rfl ?_
              exact l_X0_act_126 C C2 p2 a0 h hf
            · replace hf := ifn c25 hf
              refine C.seg (pe := 110) (lv' := [(3, .int x3), (0, .ref a0), (1, .ref p1), (2, .int p2)]) (st' := [.ref a0, .int x3, .ref a0]) [(.iload_n 3, 1, 0), (.aload_n 0, 1, 0)] (by decide +kernel) rfl ?_
              obtain ⟨a20, ga20, hf⟩ := Option.bind_eq_some_iff.mp hf
              refine C.rdA fr_520 ga20 (by decide +kernel) rfl ?_
              obtain ⟨x21, gx21, hf⟩ := Option.bind_eq_some_iff.mp hf
              refine C.alen gx21 (by decide +kernel) rfl ?_
              refine C.icmp_ge (off := 12) (tgt := 126) (pf := 117) (by decide +kernel) (by decide) rfl (fun c24 => ?_) (fun c24 => ?_)
              · replace hf := ifp c24 hf
                refine Vsub [3] rfl ?_
                exact l_X0_act_126 C C2 p2 a0 h hf
              · replace hf := ifn c24 hf
                refine C.seg (pe := 118) (lv' := [(3, .int x3), (0, .ref a0), (1, .ref p1), (2, .int p2)]) (st' := [.ref a0, .ref a0]) [(.aload_n 0, 1, 0)] (by decide +kernel) rfl ?_
                obtain ⟨a22, ga22, hf⟩ := Option.bind_eq_some_iff.mp hf
                refine C.rdA fr_520 ga22 (by decide +kernel) rfl ?_
                refine C.seg (pe := 122) (lv' := [(3, .int x3), (0, .ref a0), (1, .ref p1), (2, .int p2)]) (st' := [.int x3, .ref a22, .ref a0]) [(.iload_n 3, 1, 0)] (by decide +kernel) rfl ?_
                obtain ⟨x23, gx23, hf⟩ := Option.bind_eq_some_iff.mp hf
                refine C.ald 0 rfl gx23 (by decide +kernel) rfl ?_
                refine C.goto (off := 4) (tgt := 127) (by decide +kernel) (by decide) ?_
                refine Vsub [3] rfl ?_
                exact l_X0_act_127 C C2 p2 x23 a0 h hf
          · replace hf := ifn c8 hf
            by_cases c9 : x5 = 3
            · replace hf := ifp c9 hf
              refine C.tsIn (len := 61) (dflt := 202) (a := 0) (b := 11) (offs := #[61, 68, 76, 106, 117, 128, 136, 144, 152, 167, 174, 181]) (k := 3) (off := 106) (tgt := 133) c9 (by decide +kernel) (by decide) (by decide) rfl (by decide) ?_
              refine C.seg (pe := 135) (lv' := [(3, .int x3), (0, .ref a0), (1, .ref p1), (2, .int p2)]) (st' := [.ref a0, .ref a0]) [(.aload_n 0, 1, 0), (.aload_n 0, 1, 0)] (by decide +kernel) rfl ?_
              obtain ⟨x26, gx26, hf⟩ := Option.bind_eq_some_iff.mp hf
              refine C.rdI fr_505 gx26 (by decide +kernel) rfl ?_
              obtain ⟨h27, gh27, hf⟩ := Option.bind_eq_some_iff.mp hf
              refine C.callVr C2 [.int x26] [] mv_1162 rfl (o_X0_hold gh27) (w_X0_hold gh27) (by omega) (by omega) (Nat.le_of_ble_eq_true rfl) (by decide +kernel) rfl ?_
              refine C.goto (off := 88) (tgt := 229) (by decide +kernel) (by decide) ?_
              refine Vsub [3] rfl ?_
              exact l_X0_act_229 C C2 p2 h27 hf
            · replace hf := ifn c9 hf
              by_cases c10 : x5 = 4
              · replace hf := ifp c10 hf
                refine C.tsIn (len := 61) (dflt := 202) (a := 0) (b := 11) (offs := #[61, 68, 76, 106, 117, 128, 136, 144, 152, 167, 174, 181]) (k := 4) (off := 117) (tgt := 144) c10 (by decide +kernel) (by decide) (by decide) rfl (by decide) ?_
                refine C.seg (pe := 146) (lv' := [(3, .int x3), (0, .ref a0), (1, .ref p1), (2, .int p2)]) (st' := [.ref a0, .ref a0]) [(.aload_n 0, 1, 0), (.aload_n 0, 1, 0)] (by decide +kernel) rfl ?_
                obtain ⟨x28, gx28, hf⟩ := Option.bind_eq_some_iff.mp hf
                refine C.rdI fr_507 gx28 (by decide +kernel) rfl ?_
                obtain ⟨h29, gh29, hf⟩ := Option.bind_eq_some_iff.mp hf
                refine C.callVr C2 [.int x28] [] mv_1162 rfl (o_X0_hold gh29) (w_X0_hold gh29) (by omega) (by omega) (Nat.le_of_ble_eq_true rfl) (by decide +kernel) rfl ?_
                refine C.goto (off := 77) (tgt := 229) (by decide +kernel) (by decide) ?_
                refine Vsub [3] rfl ?_
                exact l_X0_act_229 C C2 p2 h29 hf
              · replace hf := ifn c10 hf
                by_cases c11 : x5 = 5
                · replace hf := ifp c11 hf
                  refine C.tsIn (len := 61) (dflt := 202) (a := 0) (b := 11) (offs := #[61, 68, 76, 106, 117, 128, 136, 144, 152, 167, 174, 181]) (k := 5) (off := 128) (tgt := 155) c11 (by decide +kernel) (by decide) (by decide) rfl (by decide) ?_
                  refine C.seg (pe := 157) (lv' := [(3, .int x3), (0, .ref a0), (1, .ref p1), (2, .int p2)]) (st' := [.int x3, .ref a0]) [(.aload_n 0, 1, 0), (.iload_n 3, 1, 0)] (by decide +kernel) rfl ?_
                  obtain ⟨h30, gh30, hf⟩ := Option.bind_eq_some_iff.mp hf
                  refine C.callVr C2 [.int x3] [] mv_1166 rfl (o_X0_reckon gh30) (w_X0_reckon gh30) (by omega) (by omega) (Nat.le_of_ble_eq_true rfl) (by decide +kernel) rfl ?_
                  refine C.goto (off := 69) (tgt := 229) (by decide +kernel) (by decide) ?_
                  refine Vsub [3] rfl ?_
                  exact l_X0_act_229 C C2 p2 h30 hf
                · replace hf := ifn c11 hf
                  by_cases c12 : x5 = 6
                  · replace hf := ifp c12 hf
                    refine C.tsIn (len := 61) (dflt := 202) (a := 0) (b := 11) (offs := #[61, 68, 76, 106, 117, 128, 136, 144, 152, 167, 174, 181]) (k := 6) (off := 136) (tgt := 163) c12 (by decide +kernel) (by decide) (by decide) rfl (by decide) ?_
                    refine C.seg (pe := 165) (lv' := [(3, .int x3), (0, .ref a0), (1, .ref p1), (2, .int p2)]) (st' := [.int x3, .ref a0]) [(.aload_n 0, 1, 0), (.iload_n 3, 1, 0)] (by decide +kernel) rfl ?_
                    obtain ⟨h31, gh31, hf⟩ := Option.bind_eq_some_iff.mp hf
                    refine C.callVr C2 [.int x3] [] mv_1175 rfl (o_X0_rect gh31) (w_X0_rect gh31) (by omega) (by omega) (Nat.le_of_ble_eq_true rfl) (by decide +kernel) rfl ?_
                    refine C.goto (off := 61) (tgt := 229) (by decide +kernel) (by decide) ?_
                    refine Vsub [3] rfl ?_
                    exact l_X0_act_229 C C2 p2 h31 hf
                  · replace hf := ifn c12 hf
                    by_cases c13 : x5 = 7
                    · replace hf := ifp c13 hf
                      refine C.tsIn (len := 61) (dflt := 202) (a := 0) (b := 11) (offs := #[61, 68, 76, 106, 117, 128, 136, 144, 152, 167, 174, 181]) (k := 7) (off := 144) (tgt := 171) c13 (by decide +kernel) (by decide) (by decide) rfl (by decide) ?_
                      refine C.seg (pe := 173) (lv' := [(3, .int x3), (0, .ref a0), (1, .ref p1), (2, .int p2)]) (st' := [.int x3, .ref a0]) [(.aload_n 0, 1, 0), (.iload_n 3, 1, 0)] (by decide +kernel) rfl ?_
                      obtain ⟨h32, gh32, hf⟩ := Option.bind_eq_some_iff.mp hf
                      refine C.callVr C2 [.int x3] [] mv_1183 rfl (o_X0_disc gh32) (w_X0_disc gh32) (by omega) (by omega) (Nat.le_of_ble_eq_true rfl) (by decide +kernel) rfl ?_
                      refine C.goto (off := 53) (tgt := 229) (by decide +kernel) (by decide) ?_
                      refine Vsub [3] rfl ?_
                      exact l_X0_act_229 C C2 p2 h32 hf
                    · replace hf := ifn c13 hf
                      by_cases c14 : x5 = 8
                      · replace hf := ifp c14 hf
                        refine C.tsIn (len := 61) (dflt := 202) (a := 0) (b := 11) (offs := #[61, 68, 76, 106, 117, 128, 136, 144, 152, 167, 174, 181]) (k := 8) (off := 152) (tgt := 179) c14 (by decide +kernel) (by decide) (by decide) rfl (by decide) ?_
                        refine C.seg (pe := 183) (lv' := [(3, .int x3), (0, .ref a0), (1, .ref p1), (2, .int p2)]) (st' := [.ref p1, .int x3, .ref p1, .ref a0]) [(.aload_n 0, 1, 0), (.aload_n 1, 1, 0), (.iload_n 3, 1, 0), (.aload_n 1, 1, 0)] (by decide +kernel) rfl ?_
                        obtain ⟨a33, ga33, hf⟩ := Option.bind_eq_some_iff.mp hf
                        refine C.rdA fr_420 ga33 (by decide +kernel) rfl ?_
                        refine C.seg (pe := 187) (lv' := [(3, .int x3), (0, .ref a0), (1, .ref p1), (2, .int p2)]) (st' := [.int p2, .ref a33, .int x3, .ref p1, .ref a0]) [(.iload_n 2, 1, 0)] (by decide +kernel) rfl ?_
                        obtain ⟨x34, gx34, hf⟩ := Option.bind_eq_some_iff.mp hf
                        refine C.sald 3 rfl gx34 (by decide +kernel) rfl ?_
                        obtain ⟨h35, gh35, hf⟩ := Option.bind_eq_some_iff.mp hf
                        refine C.callVr C2 [.ref p1, .int x3, .int x34] [] mv_1187 rfl (o_X0_say gh35) (w_X0_say gh35) (by omega) (by omega) (Nat.le_of_ble_eq_true rfl) (by decide +kernel) rfl ?_
                        refine C.goto (off := 38) (tgt := 229) (by decide +kernel) (by decide) ?_
                        refine Vsub [3] rfl ?_
                        exact l_X0_act_229 C C2 p2 h35 hf
                      · replace hf := ifn c14 hf
                        by_cases c15 : x5 = 9
                        · replace hf := ifp c15 hf
                          refine C.tsIn (len := 61) (dflt := 202) (a := 0) (b := 11) (offs := #[61, 68, 76, 106, 117, 128, 136, 144, 152, 167, 174, 181]) (k := 9) (off := 167) (tgt := 194) c15 (by decide +kernel) (by decide) (by decide) rfl (by decide) ?_
                          refine C.seg (pe := 197) (lv' := [(3, .int x3), (0, .ref a0), (1, .ref p1), (2, .int p2)]) (st' := [.int p2, .ref p1, .ref a0]) [(.aload_n 0, 1, 0), (.aload_n 1, 1, 0), (.iload_n 2, 1, 0)] (by decide +kernel) rfl ?_
                          obtain ⟨x36, h37, gx36, hf⟩ := b2_some hf
                          refine C.callVr C2 [.ref p1, .int p2] [] mv_1199 rfl (o_X0_beginEach gx36) (w_X0_beginEach gx36) (by omega) (by omega) (Nat.le_of_ble_eq_true rfl) (by decide +kernel) rfl ?_
                          cases hf
                          exact C.retI rfl (by decide +kernel) ⟨rfl, rfl⟩
                        · replace hf := ifn c15 hf
                          by_cases c16 : x5 = 10
                          · replace hf := ifp c16 hf
                            refine C.tsIn (len := 61) (dflt := 202) (a := 0) (b := 11) (offs := #[61, 68, 76, 106, 117, 128, 136, 144, 152, 167, 174, 181]) (k := 10) (off := 174) (tgt := 201) c16 (by decide +kernel) (by decide) (by decide) rfl (by decide) ?_
                            refine C.seg (pe := 204) (lv' := [(3, .int x3), (0, .ref a0), (1, .ref p1), (2, .int p2)]) (st' := [.int p2, .ref p1, .ref a0]) [(.aload_n 0, 1, 0), (.aload_n 1, 1, 0), (.iload_n 2, 1, 0)] (by decide +kernel) rfl ?_
                            obtain ⟨x38, h39, gx38, hf⟩ := b2_some hf
                            refine C.callVr C2 [.ref p1, .int p2] [] mv_1207 rfl (o_X0_goOn gx38) (w_X0_goOn gx38) (by omega) (by omega) (Nat.le_of_ble_eq_true rfl) (by decide +kernel) rfl ?_
                            cases hf
                            exact C.retI rfl (by decide +kernel) ⟨rfl, rfl⟩
                          · replace hf := ifn c16 hf
                            by_cases c17 : x5 = 11
                            · replace hf := ifp c17 hf
                              refine C.tsIn (len := 61) (dflt := 202) (a := 0) (b := 11) (offs := #[61, 68, 76, 106, 117, 128, 136, 144, 152, 167, 174, 181]) (k := 11) (off := 181) (tgt := 208) c17 (by decide +kernel) (by decide) (by decide) rfl (by decide) ?_
                              refine C.seg (pe := 210) (lv' := [(3, .int x3), (0, .ref a0), (1, .ref p1), (2, .int p2)]) (st' := [.int x3, .ref a0]) [(.aload_n 0, 1, 0), (.iload_n 3, 1, 0)] (by decide +kernel) rfl ?_
                              obtain ⟨x40, h41, gx40, hf⟩ := b2_some hf
                              refine C.callVr C2 [.int x3] [] mv_1211 rfl (o_X0_compare gx40) (w_X0_compare gx40) (by omega) (by omega) (Nat.le_of_ble_eq_true rfl) (by decide +kernel) rfl ?_
                              refine C.if_eq (off := 9) (tgt := 222) (pf := 216) (by decide +kernel) (by decide) rfl (fun c44 => ?_) (fun c44 => ?_)
                              · replace hf := ifp c44 hf
                                refine C.seg (pe := 223) (lv' := [(3, .int x3), (0, .ref a0), (1, .ref p1), (2, .int p2)]) (st' := [.ref p1]) [(.aload_n 1, 1, 0)] (by decide +kernel) rfl ?_
                                obtain ⟨a42, ga42, hf⟩ := Option.bind_eq_some_iff.mp hf
                                refine C.rdA fr_420 ga42 (by decide +kernel) rfl ?_
                                refine C.seg (pe := 227) (lv' := [(3, .int x3), (0, .ref a0), (1, .ref p1), (2, .int p2)]) (st' := [.int p2, .ref a42]) [(.iload_n 2, 1, 0)] (by decide +kernel) rfl ?_
                                obtain ⟨x43, gx43, hf⟩ := Option.bind_eq_some_iff.mp hf
                                refine C.sald 3 rfl gx43 (by decide +kernel) rfl ?_
                                refine Vsub [] rfl ?_
                                exact l_X0_act_228 C C2 x43 h41 hf
                              · replace hf := ifn c44 hf
                                refine C.seg (pe := 219) (lv' := [(3, .int x3), (0, .ref a0), (1, .ref p1), (2, .int p2)]) (st' := [.int (p2 + 1)]) [(.iload_n 2, 1, 0), (.iconst 1, 1, 1), (.iadd, 1, 0)] (by decide +kernel) rfl ?_
                                refine C.goto (off := 9) (tgt := 228) (by decide +kernel) (by decide) ?_
                                refine Vsub [] rfl ?_
                                exact l_X0_act_228 C C2 (p2 + 1) h41 hf
                            · replace hf := ifn c17 hf
                              have qc6 := lv_neT c6 (by decide : (0 : Int32).toInt = 0)
                              have qc7 := lv_neT c7 (by decide : (1 : Int32).toInt = 1)
                              have qc8 := lv_neT c8 (by decide : (2 : Int32).toInt = 2)
                              have qc9 := lv_neT c9 (by decide : (3 : Int32).toInt = 3)
                              have qc10 := lv_neT c10 (by decide : (4 : Int32).toInt = 4)
                              have qc11 := lv_neT c11 (by decide : (5 : Int32).toInt = 5)
                              have qc12 := lv_neT c12 (by decide : (6 : Int32).toInt = 6)
                              have qc13 := lv_neT c13 (by decide : (7 : Int32).toInt = 7)
                              have qc14 := lv_neT c14 (by decide : (8 : Int32).toInt = 8)
                              have qc15 := lv_neT c15 (by decide : (9 : Int32).toInt = 9)
                              have qc16 := lv_neT c16 (by decide : (10 : Int32).toInt = 10)
                              have qc17 := lv_neT c17 (by decide : (11 : Int32).toInt = 11)
                              refine C.tsOut (len := 61) (dflt := 202) (a := 0) (b := 11) (offs := #[61, 68, 76, 106, 117, 128, 136, 144, 152, 167, 174, 181]) (tgt := 229) (by decide +kernel) (by omega) (by decide) ?_
                              refine Vsub [3] rfl ?_
                              exact l_X0_act_229 C C2 p2 h hf
    · replace hf := ifn c45 hf
      refine Vsub [2] rfl ?_
      exact l_X0_act_12 C C2 p2 h hf
theorem o_X0_act {a0 : Nat} {p1 : Nat} {p2 : Int32} {h : AH} {rr : Int32} {hr : AH} (hf : f_X0_act a0 p1 p2 h = some (rr, hr)) : isO 0 h a0 = true := by
  unfold f_X0_act at hf
  exact (ifO hf).1
/-! WallHouse$Canvas.paint(LWallHouse$Drawing;LWallHouse$Wall;I)V -/
def f_X0_paint_176 (h : AH) : Option (AH) :=
  some h
set_option maxRecDepth 100000 in
set_option maxHeartbeats 4000000 in
theorem l_X0_paint_176 {X : MX} {l : Launch} {G : GX} {h0 : AH} {hr : AH} (C : Cx X G RX0 cX0_paint 6 none 3 90 h0) (C2 : Cy X l "paint" []) (h : AH) (hf : f_X0_paint_176 h = some hr) : V X G h0 (QV hr) 176 [] [] h := by
  unfold f_X0_paint_176 at hf
  cases hf
  exact C.retV rfl (by decide +kernel) ⟨rfl, rfl⟩
def f_X0_paint_133 : Nat → Nat → Nat → Int32 → Int32 → AH → Option (AH)
  | 0, _, _, _, _, _ => none
  | n + 1, r0, r1, i4, i5, h =>
    if 1000000 ≤ i5 then
      f_X0_paint_176 h
    else
      (gI 0 h r0 5).bind fun x1 =>
      if x1 = 0 then
        if i4 < 0 then
          f_X0_paint_176 h
        else
          (gI 1 h r1 4).bind fun x2 =>
          if x2 ≤ i4 then
            f_X0_paint_176 h
          else
            b2 (f_X0_act r0 r1 i4 h) fun x3 h4 =>
            (f_X0_paint_133 n) r0 r1 x3 (i5 + 1) h4
      else
        f_X0_paint_176 h
set_option maxRecDepth 100000 in
set_option maxHeartbeats 4000000 in
theorem l_X0_paint_133 {X : MX} {l : Launch} {G : GX} {h0 : AH} {hr : AH} (C : Cx X G RX0 cX0_paint 6 none 3 90 h0) (C2 : Cy X l "paint" []) : ∀ (n : Nat) (r0 : Nat) (r1 : Nat) (i4 : Int32) (i5 : Int32) (h : AH), f_X0_paint_133 n r0 r1 i4 i5 h = some hr → V X G h0 (QV hr) 133 [(0, .ref r0), (1, .ref r1), (4, .int i4), (5, .int i5)] [] h := by
  intro n
  induction n with
  | zero => intro r0 r1 i4 i5 h hf; rw [f_X0_paint_133] at hf; cases hf
  | succ n ih =>
    intro r0 r1 i4 i5 h hf
    rw [f_X0_paint_133] at hf
    refine C.seg (pe := 135) (lv' := [(0, .ref r0), (1, .ref r1), (4, .int i4), (5, .int i5)]) (st' := [.int i5]) [(.iload 5, 2, 0)] (by decide +kernel) rfl ?_
    refine C.ldcI k_1153 (by decide +kernel) rfl ?_
    refine C.icmp_ge (off := 39) (tgt := 176) (pf := 140) (by decide +kernel) (by decide) rfl (fun c8 => ?_) (fun c8 => ?_)
    · replace hf := ifp c8 hf
      refine Vsub [] rfl ?_
      exact l_X0_paint_176 C C2 h hf
    · replace hf := ifn c8 hf
      refine C.seg (pe := 141) (lv' := [(0, .ref r0), (1, .ref r1), (4, .int i4), (5, .int i5)]) (st' := [.ref r0]) [(.aload_n 0, 1, 0)] (by decide +kernel) rfl ?_
      obtain ⟨x1, gx1, hf⟩ := Option.bind_eq_some_iff.mp hf
      refine C.rdI fr_513 gx1 (by decide +kernel) rfl ?_
      refine C.if_ne (off := 32) (tgt := 176) (pf := 147) (by decide +kernel) (by decide) rfl (fun c7 => ?_) (fun c7 => ?_)
      · replace hf := ifn c7 hf
        refine Vsub [] rfl ?_
        exact l_X0_paint_176 C C2 h hf
      · replace hf := ifp c7 hf
        refine C.seg (pe := 149) (lv' := [(0, .ref r0), (1, .ref r1), (4, .int i4), (5, .int i5)]) (st' := [.int i4]) [(.iload 4, 2, 0)] (by decide +kernel) rfl ?_
        refine C.if_lt (off := 27) (tgt := 176) (pf := 152) (by decide +kernel) (by decide) rfl (fun c6 => ?_) (fun c6 => ?_)
        · replace hf := ifp c6 hf
          refine Vsub [] rfl ?_
          exact l_X0_paint_176 C C2 h hf
        · replace hf := ifn c6 hf
          refine C.seg (pe := 155) (lv' := [(0, .ref r0), (1, .ref r1), (4, .int i4), (5, .int i5)]) (st' := [.ref r1, .int i4]) [(.iload 4, 2, 0), (.aload_n 1, 1, 0)] (by decide +kernel) rfl ?_
          obtain ⟨x2, gx2, hf⟩ := Option.bind_eq_some_iff.mp hf
          refine C.rdI fr_425 gx2 (by decide +kernel) rfl ?_
          refine C.icmp_ge (off := 18) (tgt := 176) (pf := 161) (by decide +kernel) (by decide) rfl (fun c5 => ?_) (fun c5 => ?_)
          · replace hf := ifp c5 hf
            refine Vsub [] rfl ?_
            exact l_X0_paint_176 C C2 h hf
          · replace hf := ifn c5 hf
            refine C.seg (pe := 165) (lv' := [(0, .ref r0), (1, .ref r1), (4, .int i4), (5, .int i5)]) (st' := [.int i4, .ref r1, .ref r0]) [(.aload_n 0, 1, 0), (.aload_n 1, 1, 0), (.iload 4, 2, 0)] (by decide +kernel) rfl ?_
            obtain ⟨x3, h4, gx3, hf⟩ := b2_some hf
            refine C.callVr C2 [.ref r1, .int i4] [] mv_1154 rfl (o_X0_act gx3) (w_X0_act gx3) (by omega) (by omega) (Nat.le_of_ble_eq_true rfl) (by decide +kernel) rfl ?_
            refine C.seg (pe := 173) (lv' := [(5, .int (i5 + 1)), (4, .int x3), (0, .ref r0), (1, .ref r1)]) (st' := []) [(.istore 4, 2, 0), (.iinc 5 1, 3, 1)] (by decide +kernel) rfl ?_
            refine C.goto (off := (-40)) (tgt := 133) (by decide +kernel) (by decide) ?_
            refine Vsub [2, 3, 1, 0] rfl ?_
            exact ih r0 r1 x3 (i5 + 1) h4 hf
def f_X0_paint_127 (r0 : Nat) (r1 : Nat) (h : AH) : Option (AH) :=
  f_X0_paint_133 FU r0 r1 0 0 h
set_option maxRecDepth 100000 in
set_option maxHeartbeats 4000000 in
theorem l_X0_paint_127 {X : MX} {l : Launch} {G : GX} {h0 : AH} {hr : AH} (C : Cx X G RX0 cX0_paint 6 none 3 90 h0) (C2 : Cy X l "paint" []) (r0 : Nat) (r1 : Nat) (h : AH) (hf : f_X0_paint_127 r0 r1 h = some hr) : V X G h0 (QV hr) 127 [(0, .ref r0), (1, .ref r1)] [] h := by
  unfold f_X0_paint_127 at hf
  refine C.seg (pe := 133) (lv' := [(5, .int 0), (4, .int 0), (0, .ref r0), (1, .ref r1)]) (st' := []) [(.iconst 0, 1, 0), (.istore 4, 2, 0), (.iconst 0, 1, 0), (.istore 5, 2, 0)] (by decide +kernel) rfl ?_
  refine Vsub [2, 3, 1, 0] rfl ?_
  exact l_X0_paint_133 C C2 FU r0 r1 0 0 h hf
def f_X0_paint_87 : Nat → Nat → Nat → Nat → Int32 → AH → Option (AH)
  | 0, _, _, _, _, _ => none
  | n + 1, r0, r1, r2, i4, h =>
    (gA 8 h r2 11).bind fun a1 =>
    (aN h a1).bind fun x2 =>
    if x2 ≤ i4 then
      f_X0_paint_127 r0 r1 h
    else
      (gA 0 h r0 9).bind fun a3 =>
      (aN h a3).bind fun x4 =>
      if x4 ≤ i4 then
        f_X0_paint_127 r0 r1 h
      else
        (gA 0 h r0 9).bind fun a5 =>
        (gA 8 h r2 11).bind fun a6 =>
        (aI 2 h a6 i4).bind fun x7 =>
        (sI 2 h a5 i4 x7).bind fun h8 =>
        (f_X0_paint_87 n) r0 r1 r2 (i4 + 1) h8
set_option maxRecDepth 100000 in
set_option maxHeartbeats 4000000 in
theorem l_X0_paint_87 {X : MX} {l : Launch} {G : GX} {h0 : AH} {hr : AH} (C : Cx X G RX0 cX0_paint 6 none 3 90 h0) (C2 : Cy X l "paint" []) : ∀ (n : Nat) (r0 : Nat) (r1 : Nat) (r2 : Nat) (i4 : Int32) (h : AH), f_X0_paint_87 n r0 r1 r2 i4 h = some hr → V X G h0 (QV hr) 87 [(0, .ref r0), (1, .ref r1), (2, .ref r2), (4, .int i4)] [] h := by
  intro n
  induction n with
  | zero => intro r0 r1 r2 i4 h hf; rw [f_X0_paint_87] at hf; cases hf
  | succ n ih =>
    intro r0 r1 r2 i4 h hf
    rw [f_X0_paint_87] at hf
    refine C.seg (pe := 90) (lv' := [(0, .ref r0), (1, .ref r1), (2, .ref r2), (4, .int i4)]) (st' := [.ref r2, .int i4]) [(.iload 4, 2, 0), (.aload_n 2, 1, 0)] (by decide +kernel) rfl ?_
    obtain ⟨a1, ga1, hf⟩ := Option.bind_eq_some_iff.mp hf
    refine C.rdA fr_669 ga1 (by decide +kernel) rfl ?_
    obtain ⟨x2, gx2, hf⟩ := Option.bind_eq_some_iff.mp hf
    refine C.alen gx2 (by decide +kernel) rfl ?_
    refine C.icmp_ge (off := 33) (tgt := 127) (pf := 97) (by decide +kernel) (by decide) rfl (fun c10 => ?_) (fun c10 => ?_)
    · replace hf := ifp c10 hf
      refine Vsub [0, 1] rfl ?_
      exact l_X0_paint_127 C C2 r0 r1 h hf
    · replace hf := ifn c10 hf
      refine C.seg (pe := 100) (lv' := [(0, .ref r0), (1, .ref r1), (2, .ref r2), (4, .int i4)]) (st' := [.ref r0, .int i4]) [(.iload 4, 2, 0), (.aload_n 0, 1, 0)] (by decide +kernel) rfl ?_
      obtain ⟨a3, ga3, hf⟩ := Option.bind_eq_some_iff.mp hf
      refine C.rdA fr_519 ga3 (by decide +kernel) rfl ?_
      obtain ⟨x4, gx4, hf⟩ := Option.bind_eq_some_iff.mp hf
      refine C.alen gx4 (by decide +kernel) rfl ?_
      refine C.icmp_ge (off := 23) (tgt := 127) (pf := 107) (by decide +kernel) (by decide) rfl (fun c9 => ?_) (fun c9 => ?_)
      · replace hf := ifp c9 hf
        refine Vsub [0, 1] rfl ?_
        exact l_X0_paint_127 C C2 r0 r1 h hf
      · replace hf := ifn c9 hf
        refine C.seg (pe := 108) (lv' := [(0, .ref r0), (1, .ref r1), (2, .ref r2), (4, .int i4)]) (st' := [.ref r0]) [(.aload_n 0, 1, 0)] (by decide +kernel) rfl ?_
        obtain ⟨a5, ga5, hf⟩ := Option.bind_eq_some_iff.mp hf
        refine C.rdA fr_519 ga5 (by decide +kernel) rfl ?_
        refine C.seg (pe := 114) (lv' := [(0, .ref r0), (1, .ref r1), (2, .ref r2), (4, .int i4)]) (st' := [.ref r2, .int i4, .ref a5]) [(.iload 4, 2, 0), (.aload_n 2, 1, 0)] (by decide +kernel) rfl ?_
        obtain ⟨a6, ga6, hf⟩ := Option.bind_eq_some_iff.mp hf
        refine C.rdA fr_669 ga6 (by decide +kernel) rfl ?_
        refine C.seg (pe := 119) (lv' := [(0, .ref r0), (1, .ref r1), (2, .ref r2), (4, .int i4)]) (st' := [.int i4, .ref a6, .int i4, .ref a5]) [(.iload 4, 2, 0)] (by decide +kernel) rfl ?_
        obtain ⟨x7, gx7, hf⟩ := Option.bind_eq_some_iff.mp hf
        refine C.zald 2 rfl gx7 (by decide +kernel) rfl ?_
        obtain ⟨h8, gh8, hf⟩ := Option.bind_eq_some_iff.mp hf
        refine C.zast gh8 (by decide +kernel) rfl ?_
        refine C.seg (pe := 124) (lv' := [(4, .int (i4 + 1)), (0, .ref r0), (1, .ref r1), (2, .ref r2)]) (st' := []) [(.iinc 4 1, 3, 1)] (by decide +kernel) rfl ?_
        refine C.goto (off := (-37)) (tgt := 87) (by decide +kernel) (by decide) ?_
        refine Vsub [1, 2, 3, 0] rfl ?_
        exact ih r0 r1 r2 (i4 + 1) h8 hf
def f_X0_paint (a0 : Nat) (p1 : Nat) (p2 : Nat) (p3 : Int32) (h : AH) : Option (AH) :=
  if isO 0 h a0 = true then
    (pZ 0 h a0 3 1).bind fun h1 =>
    (gI 8 h1 p2 0).bind fun x2 =>
    (pI 0 h1 a0 1 x2).bind fun h3 =>
    (gI 8 h3 p2 1).bind fun x4 =>
    (pI 0 h3 a0 2 x4).bind fun h5 =>
    (gA 0 h5 a0 7).bind fun a6 =>
    (aN h5 a6).bind fun x7 =>
    (pI 0 h5 a0 8 (mnI p3 x7)).bind fun h8 =>
    (pI 0 h8 a0 4 0).bind fun h9 =>
    (pZ 0 h9 a0 5 0).bind fun h10 =>
    (pI 0 h10 a0 6 0).bind fun h11 =>
    (pI 0 h11 a0 12 0).bind fun h12 =>
    (pI 0 h12 a0 15 0).bind fun h13 =>
    (gA 0 h13 a0 10).bind fun a14 =>
    (f_J7_fill_53178 a14 0 h13).bind fun h15 =>
    (gA 0 h15 a0 0).bind fun a16 =>
    (f_J7_fill_031fb a16 (-1) h15).bind fun h17 =>
    f_X0_paint_87 FU a0 p1 p2 0 h17
  else none
set_option maxRecDepth 100000 in
set_option maxHeartbeats 4000000 in
theorem w_X0_paint {l : Launch} {G : GX} {a0 : Nat} {p1 : Nat} {p2 : Nat} {p3 : Int32} {h : AH} {hr : AH} (hf : f_X0_paint a0 p1 p2 p3 h = some hr) : Ct l G yX0_paint 3 90 [.ref a0, .ref p1, .ref p2, .int p3] h (QV hr) := by
  unfold f_X0_paint at hf
  obtain ⟨ho, hf⟩ := ifO hf
  refine Ct_of (own := RX0) (cc := cX0_paint) (nL := 6) (ret := none) rfl rfl k_1149 (Nat.le_of_ble_eq_true rfl) (fun X C2 C => ?_)
  show V X G h (QV hr) 0 [(0, .ref a0), (1, .ref p1), (2, .ref p2), (3, .int p3)] [] h
  refine C.seg (pe := 1) (lv' := [(0, .ref a0), (1, .ref p1), (2, .ref p2), (3, .int p3)]) (st' := [.ref p1]) [(.aload_n 1, 1, 0)] (by decide +kernel) rfl ?_
  refine C.nullR (off := 7) (pf := 4) (by decide +kernel) rfl ?_
  refine C.seg (pe := 5) (lv' := [(0, .ref a0), (1, .ref p1), (2, .ref p2), (3, .int p3)]) (st' := [.ref p2]) [(.aload_n 2, 1, 0)] (by decide +kernel) rfl ?_
  refine C.nonnullR (off := 4) (tgt := 9) (by decide +kernel) (by decide) ?_
  refine C.seg (pe := 11) (lv' := [(0, .ref a0), (1, .ref p1), (2, .ref p2), (3, .int p3)]) (st' := [.int 1, .ref a0]) [(.aload_n 0, 1, 0), (.iconst 1, 1, 1)] (by decide +kernel) rfl ?_
  obtain ⟨h1, gh1, hf⟩ := Option.bind_eq_some_iff.mp hf
  refine C.putZ fl_509 gh1 (by decide +kernel) rfl ?_
  refine C.seg (pe := 16) (lv' := [(0, .ref a0), (1, .ref p1), (2, .ref p2), (3, .int p3)]) (st' := [.ref p2, .ref a0]) [(.aload_n 0, 1, 0), (.aload_n 2, 1, 0)] (by decide +kernel) rfl ?_
  obtain ⟨x2, gx2, hf⟩ := Option.bind_eq_some_iff.mp hf
  refine C.rdI fr_645 gx2 (by decide +kernel) rfl ?_
  obtain ⟨h3, gh3, hf⟩ := Option.bind_eq_some_iff.mp hf
  refine C.putI fl_505 gh3 (by decide +kernel) rfl ?_
  refine C.seg (pe := 24) (lv' := [(0, .ref a0), (1, .ref p1), (2, .ref p2), (3, .int p3)]) (st' := [.ref p2, .ref a0]) [(.aload_n 0, 1, 0), (.aload_n 2, 1, 0)] (by decide +kernel) rfl ?_
  obtain ⟨x4, gx4, hf⟩ := Option.bind_eq_some_iff.mp hf
  refine C.rdI fr_648 gx4 (by decide +kernel) rfl ?_
  obtain ⟨h5, gh5, hf⟩ := Option.bind_eq_some_iff.mp hf
  refine C.putI fl_507 gh5 (by decide +kernel) rfl ?_
  refine C.seg (pe := 33) (lv' := [(0, .ref a0), (1, .ref p1), (2, .ref p2), (3, .int p3)]) (st' := [.ref a0, .int p3, .ref a0]) [(.aload_n 0, 1, 0), (.iload_n 3, 1, 0), (.aload_n 0, 1, 0)] (by decide +kernel) rfl ?_
  obtain ⟨a6, ga6, hf⟩ := Option.bind_eq_some_iff.mp hf
  refine C.rdA fr_517 ga6 (by decide +kernel) rfl ?_
  obtain ⟨x7, gx7, hf⟩ := Option.bind_eq_some_iff.mp hf
  refine C.alen gx7 (by decide +kernel) rfl ?_
  refine C.mmin k_1150 k_639 k_137 k_640 (by omega) (by omega) (Nat.le_of_ble_eq_true rfl) (by decide +kernel) rfl ?_
  obtain ⟨h8, gh8, hf⟩ := Option.bind_eq_some_iff.mp hf
  refine C.putI fl_518 gh8 (by decide +kernel) rfl ?_
  refine C.seg (pe := 45) (lv' := [(0, .ref a0), (1, .ref p1), (2, .ref p2), (3, .int p3)]) (st' := [.int 0, .ref a0]) [(.aload_n 0, 1, 0), (.iconst 0, 1, 0)] (by decide +kernel) rfl ?_
  obtain ⟨h9, gh9, hf⟩ := Option.bind_eq_some_iff.mp hf
  refine C.putI fl_511 gh9 (by decide +kernel) rfl ?_
  refine C.seg (pe := 50) (lv' := [(0, .ref a0), (1, .ref p1), (2, .ref p2), (3, .int p3)]) (st' := [.int 0, .ref a0]) [(.aload_n 0, 1, 0), (.iconst 0, 1, 0)] (by decide +kernel) rfl ?_
  obtain ⟨h10, gh10, hf⟩ := Option.bind_eq_some_iff.mp hf
  refine C.putZ fl_513 gh10 (by decide +kernel) rfl ?_
  refine C.seg (pe := 55) (lv' := [(0, .ref a0), (1, .ref p1), (2, .ref p2), (3, .int p3)]) (st' := [.int 0, .ref a0]) [(.aload_n 0, 1, 0), (.iconst 0, 1, 0)] (by decide +kernel) rfl ?_
  obtain ⟨h11, gh11, hf⟩ := Option.bind_eq_some_iff.mp hf
  refine C.putI fl_515 gh11 (by decide +kernel) rfl ?_
  refine C.seg (pe := 60) (lv' := [(0, .ref a0), (1, .ref p1), (2, .ref p2), (3, .int p3)]) (st' := [.int 0, .ref a0]) [(.aload_n 0, 1, 0), (.iconst 0, 1, 0)] (by decide +kernel) rfl ?_
  obtain ⟨h12, gh12, hf⟩ := Option.bind_eq_some_iff.mp hf
  refine C.putI fl_522 gh12 (by decide +kernel) rfl ?_
  refine C.seg (pe := 65) (lv' := [(0, .ref a0), (1, .ref p1), (2, .ref p2), (3, .int p3)]) (st' := [.int 0, .ref a0]) [(.aload_n 0, 1, 0), (.iconst 0, 1, 0)] (by decide +kernel) rfl ?_
  obtain ⟨h13, gh13, hf⟩ := Option.bind_eq_some_iff.mp hf
  refine C.putI fl_525 gh13 (by decide +kernel) rfl ?_
  refine C.seg (pe := 69) (lv' := [(0, .ref a0), (1, .ref p1), (2, .ref p2), (3, .int p3)]) (st' := [.ref a0]) [(.aload_n 0, 1, 0)] (by decide +kernel) rfl ?_
  obtain ⟨a14, ga14, hf⟩ := Option.bind_eq_some_iff.mp hf
  refine C.rdA fr_520 ga14 (by decide +kernel) rfl ?_
  refine C.seg (pe := 73) (lv' := [(0, .ref a0), (1, .ref p1), (2, .ref p2), (3, .int p3)]) (st' := [.int 0, .ref a14]) [(.iconst 0, 1, 0)] (by decide +kernel) rfl ?_
  obtain ⟨h15, gh15, hf⟩ := Option.bind_eq_some_iff.mp hf
  refine C.callSr C2 [.ref a14, .int 0] [] ms_1151 rfl (w_J7_fill_53178 gh15) (by omega) (by omega) (Nat.le_of_ble_eq_true rfl) (by decide +kernel) rfl ?_
  refine C.seg (pe := 77) (lv' := [(0, .ref a0), (1, .ref p1), (2, .ref p2), (3, .int p3)]) (st' := [.ref a0]) [(.aload_n 0, 1, 0)] (by decide +kernel) rfl ?_
  obtain ⟨a16, ga16, hf⟩ := Option.bind_eq_some_iff.mp hf
  refine C.rdA fr_503 ga16 (by decide +kernel) rfl ?_
  refine C.seg (pe := 81) (lv' := [(0, .ref a0), (1, .ref p1), (2, .ref p2), (3, .int p3)]) (st' := [.int (-1), .ref a16]) [(.iconst (-1), 1, (-1))] (by decide +kernel) rfl ?_
  obtain ⟨h17, gh17, hf⟩ := Option.bind_eq_some_iff.mp hf
  refine C.callSr C2 [.ref a16, .int (-1)] [] ms_1152 rfl (w_J7_fill_031fb gh17) (by omega) (by omega) (Nat.le_of_ble_eq_true rfl) (by decide +kernel) rfl ?_
  refine C.seg (pe := 87) (lv' := [(4, .int 0), (0, .ref a0), (1, .ref p1), (2, .ref p2), (3, .int p3)]) (st' := []) [(.iconst 0, 1, 0), (.istore 4, 2, 0)] (by decide +kernel) rfl ?_
  refine Vsub [1, 2, 3, 0] rfl ?_
  exact l_X0_paint_87 C C2 FU a0 p1 p2 0 h17 hf
theorem o_X0_paint {a0 : Nat} {p1 : Nat} {p2 : Nat} {p3 : Int32} {h : AH} {hr : AH} (hf : f_X0_paint a0 p1 p2 p3 h = some hr) : isO 0 h a0 = true := by
  unfold f_X0_paint at hf
  exact (ifO hf).1
/-! WallHouse$Canvas.area(I)I -/
def f_X0_area_26 (k4 : Nat → Int32 → Int32 → Int32 → AH → Option (Int32 × AH)) (r0 : Nat) (i1 : Int32) (i2 : Int32) (i3 : Int32) (h : AH) : Option (Int32 × AH) :=
  k4 r0 i1 i2 (i3 + 1) h
set_option maxRecDepth 100000 in
set_option maxHeartbeats 4000000 in
theorem l_X0_area_26 {X : MX} {l : Launch} {G : GX} {h0 : AH} {rr : Int32} {hr : AH} (C : Cx X G RX0 cX0_area 4 (some .int) 0 0 h0) (C2 : Cy X l "area" []) {k4 : Nat → Int32 → Int32 → Int32 → AH → Option (Int32 × AH)} (hk4 : ∀ (r0 : Nat) (i1 : Int32) (i2 : Int32) (i3 : Int32) (h : AH), k4 r0 i1 i2 i3 h = some (rr, hr) → V X G h0 (QI rr hr) 4 [(0, .ref r0), (1, .int i1), (2, .int i2), (3, .int i3)] [] h) (r0 : Nat) (i1 : Int32) (i2 : Int32) (i3 : Int32) (h : AH) (hf : f_X0_area_26 k4 r0 i1 i2 i3 h = some (rr, hr)) : V X G h0 (QI rr hr) 26 [(0, .ref r0), (1, .int i1), (2, .int i2), (3, .int i3)] [] h := by
  unfold f_X0_area_26 at hf
  refine C.seg (pe := 29) (lv' := [(3, .int (i3 + 1)), (0, .ref r0), (1, .int i1), (2, .int i2)]) (st' := []) [(.iinc 3 1, 3, 1)] (by decide +kernel) rfl ?_
  refine C.goto (off := (-25)) (tgt := 4) (by decide +kernel) (by decide) ?_
  refine Vsub [1, 2, 3, 0] rfl ?_
  exact hk4 r0 i1 i2 (i3 + 1) h hf
def f_X0_area_4 : Nat → Nat → Int32 → Int32 → Int32 → AH → Option (Int32 × AH)
  | 0, _, _, _, _, _ => none
  | n + 1, r0, i1, i2, i3, h =>
    (gA 0 h r0 0).bind fun a1 =>
    (aN h a1).bind fun x2 =>
    if x2 ≤ i3 then
      some (i2, h)
    else
      (gA 0 h r0 0).bind fun a3 =>
      (aI 1 h a3 i3).bind fun x4 =>
      if x4 = i1 then
        f_X0_area_26 (f_X0_area_4 n) r0 i1 (i2 + 1) i3 h
      else
        f_X0_area_26 (f_X0_area_4 n) r0 i1 i2 i3 h
set_option maxRecDepth 100000 in
set_option maxHeartbeats 4000000 in
theorem l_X0_area_4 {X : MX} {l : Launch} {G : GX} {h0 : AH} {rr : Int32} {hr : AH} (C : Cx X G RX0 cX0_area 4 (some .int) 0 0 h0) (C2 : Cy X l "area" []) : ∀ (n : Nat) (r0 : Nat) (i1 : Int32) (i2 : Int32) (i3 : Int32) (h : AH), f_X0_area_4 n r0 i1 i2 i3 h = some (rr, hr) → V X G h0 (QI rr hr) 4 [(0, .ref r0), (1, .int i1), (2, .int i2), (3, .int i3)] [] h := by
  intro n
  induction n with
  | zero => intro r0 i1 i2 i3 h hf; rw [f_X0_area_4] at hf; cases hf
  | succ n ih =>
    intro r0 i1 i2 i3 h hf
    rw [f_X0_area_4] at hf
    refine C.seg (pe := 6) (lv' := [(0, .ref r0), (1, .int i1), (2, .int i2), (3, .int i3)]) (st' := [.ref r0, .int i3]) [(.iload_n 3, 1, 0), (.aload_n 0, 1, 0)] (by decide +kernel) rfl ?_
    obtain ⟨a1, ga1, hf⟩ := Option.bind_eq_some_iff.mp hf
    refine C.rdA fr_503 ga1 (by decide +kernel) rfl ?_
    obtain ⟨x2, gx2, hf⟩ := Option.bind_eq_some_iff.mp hf
    refine C.alen gx2 (by decide +kernel) rfl ?_
    refine C.icmp_ge (off := 22) (tgt := 32) (pf := 13) (by decide +kernel) (by decide) rfl (fun c6 => ?_) (fun c6 => ?_)
    · replace hf := ifp c6 hf
      refine C.seg (pe := 33) (lv' := [(0, .ref r0), (1, .int i1), (2, .int i2), (3, .int i3)]) (st' := [.int i2]) [(.iload_n 2, 1, 0)] (by decide +kernel) rfl ?_
      cases hf
      exact C.retI rfl (by decide +kernel) ⟨rfl, rfl⟩
    · replace hf := ifn c6 hf
      refine C.seg (pe := 14) (lv' := [(0, .ref r0), (1, .int i1), (2, .int i2), (3, .int i3)]) (st' := [.ref r0]) [(.aload_n 0, 1, 0)] (by decide +kernel) rfl ?_
      obtain ⟨a3, ga3, hf⟩ := Option.bind_eq_some_iff.mp hf
      refine C.rdA fr_503 ga3 (by decide +kernel) rfl ?_
      refine C.seg (pe := 18) (lv' := [(0, .ref r0), (1, .int i1), (2, .int i2), (3, .int i3)]) (st' := [.int i3, .ref a3]) [(.iload_n 3, 1, 0)] (by decide +kernel) rfl ?_
      obtain ⟨x4, gx4, hf⟩ := Option.bind_eq_some_iff.mp hf
      refine C.bald 1 rfl gx4 (by decide +kernel) rfl ?_
      refine C.seg (pe := 20) (lv' := [(0, .ref r0), (1, .int i1), (2, .int i2), (3, .int i3)]) (st' := [.int i1, .int x4]) [(.iload_n 1, 1, 0)] (by decide +kernel) rfl ?_
      refine C.icmp_ne (off := 6) (tgt := 26) (pf := 23) (by decide +kernel) (by decide) rfl (fun c5 => ?_) (fun c5 => ?_)
      · replace hf := ifn c5 hf
        exact l_X0_area_26 C C2 ih r0 i1 i2 i3 h hf
      · replace hf := ifp c5 hf
        refine C.seg (pe := 26) (lv' := [(2, .int (i2 + 1)), (0, .ref r0), (1, .int i1), (3, .int i3)]) (st' := []) [(.iinc 2 1, 3, 1)] (by decide +kernel) rfl ?_
        refine Vsub [1, 2, 0, 3] rfl ?_
        exact l_X0_area_26 C C2 ih r0 i1 (i2 + 1) i3 h hf
def f_X0_area (a0 : Nat) (p1 : Int32) (h : AH) : Option (Int32 × AH) :=
  if isO 0 h a0 = true then
    f_X0_area_4 FU a0 p1 0 0 h
  else none
set_option maxRecDepth 100000 in
set_option maxHeartbeats 4000000 in
theorem w_X0_area {l : Launch} {G : GX} {a0 : Nat} {p1 : Int32} {h : AH} {rr : Int32} {hr : AH} (hf : f_X0_area a0 p1 h = some (rr, hr)) : Ct l G yX0_area 0 0 [.ref a0, .int p1] h (QI rr hr) := by
  unfold f_X0_area at hf
  obtain ⟨ho, hf⟩ := ifO hf
  refine Ct_of (own := RX0) (cc := cX0_area) (nL := 4) (ret := (some .int)) rfl rfl k_1222 (Nat.le_of_ble_eq_true rfl) (fun X C2 C => ?_)
  show V X G h (QI rr hr) 0 [(0, .ref a0), (1, .int p1)] [] h
  refine C.seg (pe := 4) (lv' := [(3, .int 0), (2, .int 0), (0, .ref a0), (1, .int p1)]) (st' := []) [(.iconst 0, 1, 0), (.istore_n 2, 1, 0), (.iconst 0, 1, 0), (.istore_n 3, 1, 0)] (by decide +kernel) rfl ?_
  refine Vsub [2, 3, 1, 0] rfl ?_
  exact l_X0_area_4 C C2 FU a0 p1 0 0 h hf
theorem o_X0_area {a0 : Nat} {p1 : Int32} {h : AH} {rr : Int32} {hr : AH} (hf : f_X0_area a0 p1 h = some (rr, hr)) : isO 0 h a0 = true := by
  unfold f_X0_area at hf
  exact (ifO hf).1
/-! WallHouse$Canvas.painted()I -/
def f_X0_painted (a0 : Nat) (h : AH) : Option (Int32 × AH) :=
  if isO 0 h a0 = true then
    (gA 0 h a0 0).bind fun a1 =>
    (aN h a1).bind fun x2 =>
    b2 (f_X0_area a0 (-1) h) fun x3 h4 =>
    some (x2 - x3, h4)
  else none
set_option maxRecDepth 100000 in
set_option maxHeartbeats 4000000 in
theorem w_X0_painted {l : Launch} {G : GX} {a0 : Nat} {h : AH} {rr : Int32} {hr : AH} (hf : f_X0_painted a0 h = some (rr, hr)) : Ct l G yX0_painted 1 23 [.ref a0] h (QI rr hr) := by
  unfold f_X0_painted at hf
  obtain ⟨ho, hf⟩ := ifO hf
  refine Ct_of (own := RX0) (cc := cX0_painted) (nL := 1) (ret := (some .int)) rfl rfl k_1218 (Nat.le_of_ble_eq_true rfl) (fun X C2 C => ?_)
  show V X G h (QI rr hr) 0 [(0, .ref a0)] [] h
  refine C.seg (pe := 1) (lv' := [(0, .ref a0)]) (st' := [.ref a0]) [(.aload_n 0, 1, 0)] (by decide +kernel) rfl ?_
  obtain ⟨a1, ga1, hf⟩ := Option.bind_eq_some_iff.mp hf
  refine C.rdA fr_503 ga1 (by decide +kernel) rfl ?_
  obtain ⟨x2, gx2, hf⟩ := Option.bind_eq_some_iff.mp hf
  refine C.alen gx2 (by decide +kernel) rfl ?_
  refine C.seg (pe := 7) (lv' := [(0, .ref a0)]) (st' := [.int (-1), .ref a0, .int x2]) [(.aload_n 0, 1, 0), (.iconst (-1), 1, (-1))] (by decide +kernel) rfl ?_
  obtain ⟨x3, h4, gx3, hf⟩ := b2_some hf
  refine C.callVr C2 [.int (-1)] [.int x2] mv_1219 rfl (o_X0_area gx3) (w_X0_area gx3) (by omega) (by omega) (Nat.le_of_ble_eq_true rfl) (by decide +kernel) rfl ?_
  refine C.seg (pe := 11) (lv' := [(0, .ref a0)]) (st' := [.int (x2 - x3)]) [(.isub, 1, 0)] (by decide +kernel) rfl ?_
  cases hf
  exact C.retI rfl (by decide +kernel) ⟨rfl, rfl⟩
theorem o_X0_painted {a0 : Nat} {h : AH} {rr : Int32} {hr : AH} (hf : f_X0_painted a0 h = some (rr, hr)) : isO 0 h a0 = true := by
  unfold f_X0_painted at hf
  exact (ifO hf).1
/-! WallHouse$Canvas.colourAt(II)I -/
def f_X0_colourAt_41 (si0 : Int32) (h : AH) : Option (Int32 × AH) :=
  some (si0, h)
set_option maxRecDepth 100000 in
set_option maxHeartbeats 4000000 in
theorem l_X0_colourAt_41 {X : MX} {l : Launch} {G : GX} {h0 : AH} {rr : Int32} {hr : AH} (C : Cx X G RX0 cX0_colourAt 4 (some .int) 1 22 h0) (C2 : Cy X l "colourAt" []) (si0 : Int32) (h : AH) (hf : f_X0_colourAt_41 si0 h = some (rr, hr)) : V X G h0 (QI rr hr) 41 [] [.int si0] h := by
  unfold f_X0_colourAt_41 at hf
  cases hf
  exact C.retI rfl (by decide +kernel) ⟨rfl, rfl⟩
def f_X0_colourAt_40 (h : AH) : Option (Int32 × AH) :=
  f_X0_colourAt_41 (-1) h
set_option maxRecDepth 100000 in
set_option maxHeartbeats 4000000 in
theorem l_X0_colourAt_40 {X : MX} {l : Launch} {G : GX} {h0 : AH} {rr : Int32} {hr : AH} (C : Cx X G RX0 cX0_colourAt 4 (some .int) 1 22 h0) (C2 : Cy X l "colourAt" []) (h : AH) (hf : f_X0_colourAt_40 h = some (rr, hr)) : V X G h0 (QI rr hr) 40 [] [] h := by
  unfold f_X0_colourAt_40 at hf
  refine C.seg (pe := 41) (lv' := []) (st' := [.int (-1)]) [(.iconst (-1), 1, (-1))] (by decide +kernel) rfl ?_
  exact l_X0_colourAt_41 C C2 (-1) h hf
def f_X0_colourAt (a0 : Nat) (p1 : Int32) (p2 : Int32) (h : AH) : Option (Int32 × AH) :=
  if isO 0 h a0 = true then
    (gI 0 h a0 1).bind fun x1 =>
    b2 (f_X0_holds a0 p1 p2 h) fun x2 h3 =>
    if x2 = 0 then
      f_X0_colourAt_40 h3
    else
      if (p2 * x1) + p1 < 0 then
        f_X0_colourAt_40 h3
      else
        (gA 0 h3 a0 0).bind fun a4 =>
        (aN h3 a4).bind fun x5 =>
        if x5 ≤ (p2 * x1) + p1 then
          f_X0_colourAt_40 h3
        else
          (gA 0 h3 a0 0).bind fun a6 =>
          (aI 1 h3 a6 ((p2 * x1) + p1)).bind fun x7 =>
          f_X0_colourAt_41 x7 h3
  else none
set_option maxRecDepth 100000 in
set_option maxHeartbeats 4000000 in
theorem w_X0_colourAt {l : Launch} {G : GX} {a0 : Nat} {p1 : Int32} {p2 : Int32} {h : AH} {rr : Int32} {hr : AH} (hf : f_X0_colourAt a0 p1 p2 h = some (rr, hr)) : Ct l G yX0_colourAt 1 22 [.ref a0, .int p1, .int p2] h (QI rr hr) := by
  unfold f_X0_colourAt at hf
  obtain ⟨ho, hf⟩ := ifO hf
  refine Ct_of (own := RX0) (cc := cX0_colourAt) (nL := 4) (ret := (some .int)) rfl rfl k_1231 (Nat.le_of_ble_eq_true rfl) (fun X C2 C => ?_)
  show V X G h (QI rr hr) 0 [(0, .ref a0), (1, .int p1), (2, .int p2)] [] h
  refine C.seg (pe := 2) (lv' := [(0, .ref a0), (1, .int p1), (2, .int p2)]) (st' := [.ref a0, .int p2]) [(.iload_n 2, 1, 0), (.aload_n 0, 1, 0)] (by decide +kernel) rfl ?_
  obtain ⟨x1, gx1, hf⟩ := Option.bind_eq_some_iff.mp hf
  refine C.rdI fr_505 gx1 (by decide +kernel) rfl ?_
  refine C.seg (pe := 12) (lv' := [(3, .int ((p2 * x1) + p1)), (0, .ref a0), (1, .int p1), (2, .int p2)]) (st' := [.int p2, .int p1, .ref a0]) [(.imul, 1, 0), (.iload_n 1, 1, 0), (.iadd, 1, 0), (.istore_n 3, 1, 0), (.aload_n 0, 1, 0), (.iload_n 1, 1, 0), (.iload_n 2, 1, 0)] (by decide +kernel) rfl ?_
  obtain ⟨x2, h3, gx2, hf⟩ := b2_some hf
  refine C.callVr C2 [.int p1, .int p2] [] mv_1191 rfl (o_X0_holds gx2) (w_X0_holds gx2) (by omega) (by omega) (Nat.le_of_ble_eq_true rfl) (by decide +kernel) rfl ?_
  refine C.if_eq (off := 25) (tgt := 40) (pf := 18) (by decide +kernel) (by decide) rfl (fun c10 => ?_) (fun c10 => ?_)
  · replace hf := ifp c10 hf
    refine Vsub [] rfl ?_
    exact l_X0_colourAt_40 C C2 h3 hf
  · replace hf := ifn c10 hf
    refine C.seg (pe := 19) (lv' := [(3, .int ((p2 * x1) + p1)), (0, .ref a0), (1, .int p1), (2, .int p2)]) (st' := [.int ((p2 * x1) + p1)]) [(.iload_n 3, 1, 0)] (by decide +kernel) rfl ?_
    refine C.if_lt (off := 21) (tgt := 40) (pf := 22) (by decide +kernel) (by decide) rfl (fun c9 => ?_) (fun c9 => ?_)
    · replace hf := ifp c9 hf
      refine Vsub [] rfl ?_
      exact l_X0_colourAt_40 C C2 h3 hf
    · replace hf := ifn c9 hf
      refine C.seg (pe := 24) (lv' := [(3, .int ((p2 * x1) + p1)), (0, .ref a0), (1, .int p1), (2, .int p2)]) (st' := [.ref a0, .int ((p2 * x1) + p1)]) [(.iload_n 3, 1, 0), (.aload_n 0, 1, 0)] (by decide +kernel) rfl ?_
      obtain ⟨a4, ga4, hf⟩ := Option.bind_eq_some_iff.mp hf
      refine C.rdA fr_503 ga4 (by decide +kernel) rfl ?_
      obtain ⟨x5, gx5, hf⟩ := Option.bind_eq_some_iff.mp hf
      refine C.alen gx5 (by decide +kernel) rfl ?_
      refine C.icmp_ge (off := 12) (tgt := 40) (pf := 31) (by decide +kernel) (by decide) rfl (fun c8 => ?_) (fun c8 => ?_)
      · replace hf := ifp c8 hf
        refine Vsub [] rfl ?_
        exact l_X0_colourAt_40 C C2 h3 hf
      · replace hf := ifn c8 hf
        refine C.seg (pe := 32) (lv' := [(3, .int ((p2 * x1) + p1)), (0, .ref a0), (1, .int p1), (2, .int p2)]) (st' := [.ref a0]) [(.aload_n 0, 1, 0)] (by decide +kernel) rfl ?_
        obtain ⟨a6, ga6, hf⟩ := Option.bind_eq_some_iff.mp hf
        refine C.rdA fr_503 ga6 (by decide +kernel) rfl ?_
        refine C.seg (pe := 36) (lv' := [(3, .int ((p2 * x1) + p1)), (0, .ref a0), (1, .int p1), (2, .int p2)]) (st' := [.int ((p2 * x1) + p1), .ref a6]) [(.iload_n 3, 1, 0)] (by decide +kernel) rfl ?_
        obtain ⟨x7, gx7, hf⟩ := Option.bind_eq_some_iff.mp hf
        refine C.bald 1 rfl gx7 (by decide +kernel) rfl ?_
        refine C.goto (off := 4) (tgt := 41) (by decide +kernel) (by decide) ?_
        refine Vsub [] rfl ?_
        exact l_X0_colourAt_41 C C2 x7 h3 hf
theorem o_X0_colourAt {a0 : Nat} {p1 : Int32} {p2 : Int32} {h : AH} {rr : Int32} {hr : AH} (hf : f_X0_colourAt a0 p1 p2 h = some (rr, hr)) : isO 0 h a0 = true := by
  unfold f_X0_colourAt at hf
  exact (ifO hf).1
