/-! WallHouse$Drawing.<init>()V -/
def f_X1_init (a0 : Nat) (h : AH) : Option (AH) :=
  b2 (nwA 1 360 h) fun a1 h2 =>
  (pQ 1 h2 a0 0 (some a1)).bind fun h3 =>
  b2 (nwA 3 360 h3) fun a4 h5 =>
  (pQ 1 h5 a0 1 (some a4)).bind fun h6 =>
  b2 (nwA 3 360 h6) fun a7 h8 =>
  (pQ 1 h8 a0 2 (some a7)).bind fun h9 =>
  b2 (nwA 4 40 h9) fun a10 h11 =>
  (pQ 1 h11 a0 3 (some a10)).bind fun h12 =>
  some h12
set_option maxRecDepth 100000 in
set_option maxHeartbeats 4000000 in
theorem w_X1_init {l : Launch} {G : GX} {a0 : Nat} {h : AH} {hr : AH} (hf : f_X1_init a0 h = some hr) : Ct l G yX1_init 1 20 [.ref a0] h (QV hr) := by
  unfold f_X1_init at hf
  refine Ct_of (own := RX1) (cc := cX1_init) (nL := 1) (ret := none) rfl rfl k_412 (Nat.le_of_ble_eq_true rfl) (fun X C2 C => ?_)
  show V X G h (QV hr) 0 [(0, .ref a0)] [] h
  refine C.seg (pe := 1) (lv' := [(0, .ref a0)]) (st' := [.ref a0]) [(.aload_n 0, 1, 0)] (by decide +kernel) rfl ?_
  refine C.objInit k_413 k_151 k_152 (by omega) (by omega) (Nat.le_of_ble_eq_true rfl) (by decide +kernel) rfl ?_
  refine C.seg (pe := 8) (lv' := [(0, .ref a0)]) (st' := [.int 360, .ref a0]) [(.aload_n 0, 1, 0), (.sipush 360, 3, 360)] (by decide +kernel) rfl ?_
  obtain ⟨a1, h2, ga1, hf⟩ := b2_some hf
  refine C.newa1 k_400 ga1 (by decide +kernel) rfl ?_
  obtain ⟨h3, gh3, hf⟩ := Option.bind_eq_some_iff.mp hf
  refine C.putFA C2.2.1 fl_414 (Or.inr ⟨_, rfl⟩) gh3 (by decide +kernel) rfl ?_
  refine C.seg (pe := 17) (lv' := [(0, .ref a0)]) (st' := [.int 360, .ref a0]) [(.aload_n 0, 1, 0), (.sipush 360, 3, 360)] (by decide +kernel) rfl ?_
  obtain ⟨a4, h5, ga4, hf⟩ := b2_some hf
  refine C.newa3 k_442 ga4 (by decide +kernel) rfl ?_
  obtain ⟨h6, gh6, hf⟩ := Option.bind_eq_some_iff.mp hf
  refine C.putFA C2.2.1 fl_417 (Or.inr ⟨_, rfl⟩) gh6 (by decide +kernel) rfl ?_
  refine C.seg (pe := 26) (lv' := [(0, .ref a0)]) (st' := [.int 360, .ref a0]) [(.aload_n 0, 1, 0), (.sipush 360, 3, 360)] (by decide +kernel) rfl ?_
  obtain ⟨a7, h8, ga7, hf⟩ := b2_some hf
  refine C.newa3 k_442 ga7 (by decide +kernel) rfl ?_
  obtain ⟨h9, gh9, hf⟩ := Option.bind_eq_some_iff.mp hf
  refine C.putFA C2.2.1 fl_419 (Or.inr ⟨_, rfl⟩) gh9 (by decide +kernel) rfl ?_
  refine C.seg (pe := 34) (lv' := [(0, .ref a0)]) (st' := [.int 40, .ref a0]) [(.aload_n 0, 1, 0), (.bipush 40, 2, 40)] (by decide +kernel) rfl ?_
  obtain ⟨a10, h11, ga10, hf⟩ := b2_some hf
  refine C.newa4 k_401 ga10 (by decide +kernel) rfl ?_
  obtain ⟨h12, gh12, hf⟩ := Option.bind_eq_some_iff.mp hf
  refine C.putFA C2.2.1 fl_422 (Or.inr ⟨_, rfl⟩) gh12 (by decide +kernel) rfl ?_
  cases hf
  exact C.retV rfl (by decide +kernel) ⟨rfl, rfl⟩
/-! WallHouse$Drawing.clear()V -/
def f_X1_clear (a0 : Nat) (h : AH) : Option (AH) :=
  if isO 1 h a0 = true then
    (pI 1 h a0 4 0).bind fun h1 =>
    (pI 1 h1 a0 5 0).bind fun h2 =>
    some h2
  else none
set_option maxRecDepth 100000 in
set_option maxHeartbeats 4000000 in
theorem w_X1_clear {l : Launch} {G : GX} {a0 : Nat} {h : AH} {hr : AH} (hf : f_X1_clear a0 h = some hr) : Ct l G yX1_clear 0 0 [.ref a0] h (QV hr) := by
  unfold f_X1_clear at hf
  obtain ⟨ho, hf⟩ := ifO hf
  refine Ct_of (own := RX1) (cc := cX1_clear) (nL := 1) (ret := none) rfl rfl k_957 (Nat.le_of_ble_eq_true rfl) (fun X C2 C => ?_)
  show V X G h (QV hr) 0 [(0, .ref a0)] [] h
  refine C.seg (pe := 2) (lv' := [(0, .ref a0)]) (st' := [.int 0, .ref a0]) [(.aload_n 0, 1, 0), (.iconst 0, 1, 0)] (by decide +kernel) rfl ?_
  obtain ⟨h1, gh1, hf⟩ := Option.bind_eq_some_iff.mp hf
  refine C.putI fl_424 gh1 (by decide +kernel) rfl ?_
  refine C.seg (pe := 7) (lv' := [(0, .ref a0)]) (st' := [.int 0, .ref a0]) [(.aload_n 0, 1, 0), (.iconst 0, 1, 0)] (by decide +kernel) rfl ?_
  obtain ⟨h2, gh2, hf⟩ := Option.bind_eq_some_iff.mp hf
  refine C.putI fl_427 gh2 (by decide +kernel) rfl ?_
  cases hf
  exact C.retV rfl (by decide +kernel) ⟨rfl, rfl⟩
theorem o_X1_clear {a0 : Nat} {h : AH} {hr : AH} (hf : f_X1_clear a0 h = some hr) : isO 1 h a0 = true := by
  unfold f_X1_clear at hf
  exact (ifO hf).1
/-! WallHouse$Drawing.put(II)V -/
def f_X1_put_54 (h : AH) : Option (AH) :=
  some h
set_option maxRecDepth 100000 in
set_option maxHeartbeats 4000000 in
theorem l_X1_put_54 {X : MX} {l : Launch} {G : GX} {h0 : AH} {hr : AH} (C : Cx X G RX1 cX1_put 3 none 0 0 h0) (C2 : Cy X l "put" []) (h : AH) (hf : f_X1_put_54 h = some hr) : V X G h0 (QV hr) 54 [] [] h := by
  unfold f_X1_put_54 at hf
  cases hf
  exact C.retV rfl (by decide +kernel) ⟨rfl, rfl⟩
def f_X1_put (a0 : Nat) (p1 : Int32) (p2 : Int32) (h : AH) : Option (AH) :=
  if isO 1 h a0 = true then
    (gI 1 h a0 4).bind fun x1 =>
    (gA 1 h a0 0).bind fun a2 =>
    (aN h a2).bind fun x3 =>
    if x3 ≤ x1 then
      f_X1_put_54 h
    else
      (gA 1 h a0 0).bind fun a4 =>
      (gI 1 h a0 4).bind fun x5 =>
      (sI 1 h a4 x5 p1.toInt8.toInt32).bind fun h6 =>
      (gA 1 h6 a0 1).bind fun a7 =>
      (gI 1 h6 a0 4).bind fun x8 =>
      (sI 3 h6 a7 x8 p2.toInt16.toInt32).bind fun h9 =>
      (gA 1 h9 a0 2).bind fun a10 =>
      (gI 1 h9 a0 4).bind fun x11 =>
      (sI 3 h9 a10 x11 0).bind fun h12 =>
      (gI 1 h12 a0 4).bind fun x13 =>
      (pI 1 h12 a0 4 (x13 + 1)).bind fun h14 =>
      f_X1_put_54 h14
  else none
set_option maxRecDepth 100000 in
set_option maxHeartbeats 4000000 in
theorem w_X1_put {l : Launch} {G : GX} {a0 : Nat} {p1 : Int32} {p2 : Int32} {h : AH} {hr : AH} (hf : f_X1_put a0 p1 p2 h = some hr) : Ct l G yX1_put 0 0 [.ref a0, .int p1, .int p2] h (QV hr) := by
  unfold f_X1_put at hf
  obtain ⟨ho, hf⟩ := ifO hf
  refine Ct_of (own := RX1) (cc := cX1_put) (nL := 3) (ret := none) rfl rfl k_977 (Nat.le_of_ble_eq_true rfl) (fun X C2 C => ?_)
  show V X G h (QV hr) 0 [(0, .ref a0), (1, .int p1), (2, .int p2)] [] h
  refine C.seg (pe := 1) (lv' := [(0, .ref a0), (1, .int p1), (2, .int p2)]) (st' := [.ref a0]) [(.aload_n 0, 1, 0)] (by decide +kernel) rfl ?_
  obtain ⟨x1, gx1, hf⟩ := Option.bind_eq_some_iff.mp hf
  refine C.rdI fr_424 gx1 (by decide +kernel) rfl ?_
  refine C.seg (pe := 5) (lv' := [(0, .ref a0), (1, .int p1), (2, .int p2)]) (st' := [.ref a0, .int x1]) [(.aload_n 0, 1, 0)] (by decide +kernel) rfl ?_
  obtain ⟨a2, ga2, hf⟩ := Option.bind_eq_some_iff.mp hf
  refine C.rdA fr_414 ga2 (by decide +kernel) rfl ?_
  obtain ⟨x3, gx3, hf⟩ := Option.bind_eq_some_iff.mp hf
  refine C.alen gx3 (by decide +kernel) rfl ?_
  refine C.icmp_ge (off := 45) (tgt := 54) (pf := 12) (by decide +kernel) (by decide) rfl (fun c15 => ?_) (fun c15 => ?_)
  · replace hf := ifp c15 hf
    refine Vsub [] rfl ?_
    exact l_X1_put_54 C C2 h hf
  · replace hf := ifn c15 hf
    refine C.seg (pe := 13) (lv' := [(0, .ref a0), (1, .int p1), (2, .int p2)]) (st' := [.ref a0]) [(.aload_n 0, 1, 0)] (by decide +kernel) rfl ?_
    obtain ⟨a4, ga4, hf⟩ := Option.bind_eq_some_iff.mp hf
    refine C.rdA fr_414 ga4 (by decide +kernel) rfl ?_
    refine C.seg (pe := 17) (lv' := [(0, .ref a0), (1, .int p1), (2, .int p2)]) (st' := [.ref a0, .ref a4]) [(.aload_n 0, 1, 0)] (by decide +kernel) rfl ?_
    obtain ⟨x5, gx5, hf⟩ := Option.bind_eq_some_iff.mp hf
    refine C.rdI fr_424 gx5 (by decide +kernel) rfl ?_
    refine C.seg (pe := 22) (lv' := [(0, .ref a0), (1, .int p1), (2, .int p2)]) (st' := [.int p1.toInt8.toInt32, .int x5, .ref a4]) [(.iload_n 1, 1, 0), (.i2b, 1, 0)] (by decide +kernel) rfl ?_
    obtain ⟨h6, gh6, hf⟩ := Option.bind_eq_some_iff.mp hf
    refine C.bast gh6 (by decide +kernel) rfl ?_
    refine C.seg (pe := 24) (lv' := [(0, .ref a0), (1, .int p1), (2, .int p2)]) (st' := [.ref a0]) [(.aload_n 0, 1, 0)] (by decide +kernel) rfl ?_
    obtain ⟨a7, ga7, hf⟩ := Option.bind_eq_some_iff.mp hf
    refine C.rdA fr_417 ga7 (by decide +kernel) rfl ?_
    refine C.seg (pe := 28) (lv' := [(0, .ref a0), (1, .int p1), (2, .int p2)]) (st' := [.ref a0, .ref a7]) [(.aload_n 0, 1, 0)] (by decide +kernel) rfl ?_
    obtain ⟨x8, gx8, hf⟩ := Option.bind_eq_some_iff.mp hf
    refine C.rdI fr_424 gx8 (by decide +kernel) rfl ?_
    refine C.seg (pe := 33) (lv' := [(0, .ref a0), (1, .int p1), (2, .int p2)]) (st' := [.int p2.toInt16.toInt32, .int x8, .ref a7]) [(.iload_n 2, 1, 0), (.i2s, 1, 0)] (by decide +kernel) rfl ?_
    obtain ⟨h9, gh9, hf⟩ := Option.bind_eq_some_iff.mp hf
    refine C.sast gh9 (by decide +kernel) rfl ?_
    refine C.seg (pe := 35) (lv' := [(0, .ref a0), (1, .int p1), (2, .int p2)]) (st' := [.ref a0]) [(.aload_n 0, 1, 0)] (by decide +kernel) rfl ?_
    obtain ⟨a10, ga10, hf⟩ := Option.bind_eq_some_iff.mp hf
    refine C.rdA fr_419 ga10 (by decide +kernel) rfl ?_
    refine C.seg (pe := 39) (lv' := [(0, .ref a0), (1, .int p1), (2, .int p2)]) (st' := [.ref a0, .ref a10]) [(.aload_n 0, 1, 0)] (by decide +kernel) rfl ?_
    obtain ⟨x11, gx11, hf⟩ := Option.bind_eq_some_iff.mp hf
    refine C.rdI fr_424 gx11 (by decide +kernel) rfl ?_
    refine C.seg (pe := 43) (lv' := [(0, .ref a0), (1, .int p1), (2, .int p2)]) (st' := [.int 0, .int x11, .ref a10]) [(.iconst 0, 1, 0)] (by decide +kernel) rfl ?_
    obtain ⟨h12, gh12, hf⟩ := Option.bind_eq_some_iff.mp hf
    refine C.sast gh12 (by decide +kernel) rfl ?_
    refine C.seg (pe := 46) (lv' := [(0, .ref a0), (1, .int p1), (2, .int p2)]) (st' := [.ref a0, .ref a0]) [(.aload_n 0, 1, 0), (.dup, 1, 0)] (by decide +kernel) rfl ?_
    obtain ⟨x13, gx13, hf⟩ := Option.bind_eq_some_iff.mp hf
    refine C.rdI fr_424 gx13 (by decide +kernel) rfl ?_
    refine C.seg (pe := 51) (lv' := [(0, .ref a0), (1, .int p1), (2, .int p2)]) (st' := [.int (x13 + 1), .ref a0]) [(.iconst 1, 1, 1), (.iadd, 1, 0)] (by decide +kernel) rfl ?_
    obtain ⟨h14, gh14, hf⟩ := Option.bind_eq_some_iff.mp hf
    refine C.putI fl_424 gh14 (by decide +kernel) rfl ?_
    refine Vsub [] rfl ?_
    exact l_X1_put_54 C C2 h14 hf
theorem o_X1_put {a0 : Nat} {p1 : Int32} {p2 : Int32} {h : AH} {hr : AH} (hf : f_X1_put a0 p1 p2 h = some hr) : isO 1 h a0 = true := by
  unfold f_X1_put at hf
  exact (ifO hf).1
/-! WallHouse$Drawing.putSay(IJ)V -/
def f_X1_putSay_62 (h : AH) : Option (AH) :=
  some h
set_option maxRecDepth 100000 in
set_option maxHeartbeats 4000000 in
theorem l_X1_putSay_62 {X : MX} {l : Launch} {G : GX} {h0 : AH} {hr : AH} (C : Cx X G RX1 cX1_putSay 4 none 1 22 h0) (C2 : Cy X l "putSay" []) (h : AH) (hf : f_X1_putSay_62 h = some hr) : V X G h0 (QV hr) 62 [] [] h := by
  unfold f_X1_putSay_62 at hf
  cases hf
  exact C.retV rfl (by decide +kernel) ⟨rfl, rfl⟩
def f_X1_putSay_52 (r0 : Nat) (h : AH) : Option (AH) :=
  (gI 1 h r0 5).bind fun x1 =>
  (pI 1 h r0 5 (x1 + 1)).bind fun h2 =>
  f_X1_putSay_62 h2
set_option maxRecDepth 100000 in
set_option maxHeartbeats 4000000 in
theorem l_X1_putSay_52 {X : MX} {l : Launch} {G : GX} {h0 : AH} {hr : AH} (C : Cx X G RX1 cX1_putSay 4 none 1 22 h0) (C2 : Cy X l "putSay" []) (r0 : Nat) (h : AH) (hf : f_X1_putSay_52 r0 h = some hr) : V X G h0 (QV hr) 52 [(0, .ref r0)] [] h := by
  unfold f_X1_putSay_52 at hf
  refine C.seg (pe := 54) (lv' := [(0, .ref r0)]) (st' := [.ref r0, .ref r0]) [(.aload_n 0, 1, 0), (.dup, 1, 0)] (by decide +kernel) rfl ?_
  obtain ⟨x1, gx1, hf⟩ := Option.bind_eq_some_iff.mp hf
  refine C.rdI fr_427 gx1 (by decide +kernel) rfl ?_
  refine C.seg (pe := 59) (lv' := [(0, .ref r0)]) (st' := [.int (x1 + 1), .ref r0]) [(.iconst 1, 1, 1), (.iadd, 1, 0)] (by decide +kernel) rfl ?_
  obtain ⟨h2, gh2, hf⟩ := Option.bind_eq_some_iff.mp hf
  refine C.putI fl_427 gh2 (by decide +kernel) rfl ?_
  refine Vsub [] rfl ?_
  exact l_X1_putSay_62 C C2 h2 hf
def f_X1_putSay (a0 : Nat) (p1 : Int32) (p2 : Int64) (h : AH) : Option (AH) :=
  if isO 1 h a0 = true then
    (gI 1 h a0 5).bind fun x1 =>
    (gA 1 h a0 3).bind fun a2 =>
    (aN h a2).bind fun x3 =>
    if x3 ≤ x1 then
      f_X1_putSay_62 h
    else
      (gA 1 h a0 3).bind fun a4 =>
      (gI 1 h a0 5).bind fun x5 =>
      (sL h a4 x5 p2).bind fun h6 =>
      (f_X1_put a0 8 p1 h6).bind fun h7 =>
      (gI 1 h7 a0 4).bind fun x8 =>
      if x8 ≤ 0 then
        f_X1_putSay_52 a0 h7
      else
        (gA 1 h7 a0 2).bind fun a9 =>
        (gI 1 h7 a0 4).bind fun x10 =>
        (gI 1 h7 a0 5).bind fun x11 =>
        (sI 3 h7 a9 (x10 - 1) x11.toInt16.toInt32).bind fun h12 =>
        f_X1_putSay_52 a0 h12
  else none
set_option maxRecDepth 100000 in
set_option maxHeartbeats 4000000 in
theorem w_X1_putSay {l : Launch} {G : GX} {a0 : Nat} {p1 : Int32} {p2 : Int64} {h : AH} {hr : AH} (hf : f_X1_putSay a0 p1 p2 h = some hr) : Ct l G yX1_putSay 1 22 [.ref a0, .int p1, .long p2] h (QV hr) := by
  unfold f_X1_putSay at hf
  obtain ⟨ho, hf⟩ := ifO hf
  refine Ct_of (own := RX1) (cc := cX1_putSay) (nL := 4) (ret := none) rfl rfl k_1030 (Nat.le_of_ble_eq_true rfl) (fun X C2 C => ?_)
  show V X G h (QV hr) 0 [(0, .ref a0), (1, .int p1), (2, .long p2)] [] h
  refine C.seg (pe := 1) (lv' := [(0, .ref a0), (1, .int p1), (2, .long p2)]) (st' := [.ref a0]) [(.aload_n 0, 1, 0)] (by decide +kernel) rfl ?_
  obtain ⟨x1, gx1, hf⟩ := Option.bind_eq_some_iff.mp hf
  refine C.rdI fr_427 gx1 (by decide +kernel) rfl ?_
  refine C.seg (pe := 5) (lv' := [(0, .ref a0), (1, .int p1), (2, .long p2)]) (st' := [.ref a0, .int x1]) [(.aload_n 0, 1, 0)] (by decide +kernel) rfl ?_
  obtain ⟨a2, ga2, hf⟩ := Option.bind_eq_some_iff.mp hf
  refine C.rdA fr_422 ga2 (by decide +kernel) rfl ?_
  obtain ⟨x3, gx3, hf⟩ := Option.bind_eq_some_iff.mp hf
  refine C.alen gx3 (by decide +kernel) rfl ?_
  refine C.icmp_ge (off := 53) (tgt := 62) (pf := 12) (by decide +kernel) (by decide) rfl (fun c14 => ?_) (fun c14 => ?_)
  · replace hf := ifp c14 hf
    refine Vsub [] rfl ?_
    exact l_X1_putSay_62 C C2 h hf
  · replace hf := ifn c14 hf
    refine C.seg (pe := 13) (lv' := [(0, .ref a0), (1, .int p1), (2, .long p2)]) (st' := [.ref a0]) [(.aload_n 0, 1, 0)] (by decide +kernel) rfl ?_
    obtain ⟨a4, ga4, hf⟩ := Option.bind_eq_some_iff.mp hf
    refine C.rdA fr_422 ga4 (by decide +kernel) rfl ?_
    refine C.seg (pe := 17) (lv' := [(0, .ref a0), (1, .int p1), (2, .long p2)]) (st' := [.ref a0, .ref a4]) [(.aload_n 0, 1, 0)] (by decide +kernel) rfl ?_
    obtain ⟨x5, gx5, hf⟩ := Option.bind_eq_some_iff.mp hf
    refine C.rdI fr_427 gx5 (by decide +kernel) rfl ?_
    refine C.seg (pe := 21) (lv' := [(0, .ref a0), (1, .int p1), (2, .long p2)]) (st' := [.long p2, .int x5, .ref a4]) [(.lload_n 2, 1, 0)] (by decide +kernel) rfl ?_
    obtain ⟨h6, gh6, hf⟩ := Option.bind_eq_some_iff.mp hf
    refine C.last gh6 (by decide +kernel) rfl ?_
    refine C.seg (pe := 26) (lv' := [(0, .ref a0), (1, .int p1), (2, .long p2)]) (st' := [.int p1, .int 8, .ref a0]) [(.aload_n 0, 1, 0), (.bipush 8, 2, 8), (.iload_n 1, 1, 0)] (by decide +kernel) rfl ?_
    obtain ⟨h7, gh7, hf⟩ := Option.bind_eq_some_iff.mp hf
    refine C.callVr C2 [.int 8, .int p1] [] mv_1031 rfl (o_X1_put gh7) (w_X1_put gh7) (by omega) (by omega) (Nat.le_of_ble_eq_true rfl) (by decide +kernel) rfl ?_
    refine C.seg (pe := 30) (lv' := [(0, .ref a0), (1, .int p1), (2, .long p2)]) (st' := [.ref a0]) [(.aload_n 0, 1, 0)] (by decide +kernel) rfl ?_
    obtain ⟨x8, gx8, hf⟩ := Option.bind_eq_some_iff.mp hf
    refine C.rdI fr_424 gx8 (by decide +kernel) rfl ?_
    refine C.if_le (off := 19) (tgt := 52) (pf := 36) (by decide +kernel) (by decide) rfl (fun c13 => ?_) (fun c13 => ?_)
    · replace hf := ifp c13 hf
      refine Vsub [0] rfl ?_
      exact l_X1_putSay_52 C C2 a0 h7 hf
    · replace hf := ifn c13 hf
      refine C.seg (pe := 37) (lv' := [(0, .ref a0), (1, .int p1), (2, .long p2)]) (st' := [.ref a0]) [(.aload_n 0, 1, 0)] (by decide +kernel) rfl ?_
      obtain ⟨a9, ga9, hf⟩ := Option.bind_eq_some_iff.mp hf
      refine C.rdA fr_419 ga9 (by decide +kernel) rfl ?_
      refine C.seg (pe := 41) (lv' := [(0, .ref a0), (1, .int p1), (2, .long p2)]) (st' := [.ref a0, .ref a9]) [(.aload_n 0, 1, 0)] (by decide +kernel) rfl ?_
      obtain ⟨x10, gx10, hf⟩ := Option.bind_eq_some_iff.mp hf
      refine C.rdI fr_424 gx10 (by decide +kernel) rfl ?_
      refine C.seg (pe := 47) (lv' := [(0, .ref a0), (1, .int p1), (2, .long p2)]) (st' := [.ref a0, .int (x10 - 1), .ref a9]) [(.iconst 1, 1, 1), (.isub, 1, 0), (.aload_n 0, 1, 0)] (by decide +kernel) rfl ?_
      obtain ⟨x11, gx11, hf⟩ := Option.bind_eq_some_iff.mp hf
      refine C.rdI fr_427 gx11 (by decide +kernel) rfl ?_
      refine C.seg (pe := 51) (lv' := [(0, .ref a0), (1, .int p1), (2, .long p2)]) (st' := [.int x11.toInt16.toInt32, .int (x10 - 1), .ref a9]) [(.i2s, 1, 0)] (by decide +kernel) rfl ?_
      obtain ⟨h12, gh12, hf⟩ := Option.bind_eq_some_iff.mp hf
      refine C.sast gh12 (by decide +kernel) rfl ?_
      refine Vsub [0] rfl ?_
      exact l_X1_putSay_52 C C2 a0 h12 hf
theorem o_X1_putSay {a0 : Nat} {p1 : Int32} {p2 : Int64} {h : AH} {hr : AH} (hf : f_X1_putSay a0 p1 p2 h = some hr) : isO 1 h a0 = true := by
  unfold f_X1_putSay at hf
  exact (ifO hf).1
/-! WallHouse$Drawing.aim(I)V -/
def f_X1_aim_23 (h : AH) : Option (AH) :=
  some h
set_option maxRecDepth 100000 in
set_option maxHeartbeats 4000000 in
theorem l_X1_aim_23 {X : MX} {l : Launch} {G : GX} {h0 : AH} {hr : AH} (C : Cx X G RX1 cX1_aim 2 none 0 0 h0) (C2 : Cy X l "aim" []) (h : AH) (hf : f_X1_aim_23 h = some hr) : V X G h0 (QV hr) 23 [] [] h := by
  unfold f_X1_aim_23 at hf
  cases hf
  exact C.retV rfl (by decide +kernel) ⟨rfl, rfl⟩
def f_X1_aim (a0 : Nat) (p1 : Int32) (h : AH) : Option (AH) :=
  if isO 1 h a0 = true then
    if p1 < 0 then
      f_X1_aim_23 h
    else
      (gI 1 h a0 4).bind fun x1 =>
      if x1 ≤ p1 then
        f_X1_aim_23 h
      else
        (gA 1 h a0 2).bind fun a2 =>
        (gI 1 h a0 4).bind fun x3 =>
        (sI 3 h a2 p1 x3.toInt16.toInt32).bind fun h4 =>
        f_X1_aim_23 h4
  else none
set_option maxRecDepth 100000 in
set_option maxHeartbeats 4000000 in
theorem w_X1_aim {l : Launch} {G : GX} {a0 : Nat} {p1 : Int32} {h : AH} {hr : AH} (hf : f_X1_aim a0 p1 h = some hr) : Ct l G yX1_aim 0 0 [.ref a0, .int p1] h (QV hr) := by
  unfold f_X1_aim at hf
  obtain ⟨ho, hf⟩ := ifO hf
  refine Ct_of (own := RX1) (cc := cX1_aim) (nL := 2) (ret := none) rfl rfl k_1051 (Nat.le_of_ble_eq_true rfl) (fun X C2 C => ?_)
  show V X G h (QV hr) 0 [(0, .ref a0), (1, .int p1)] [] h
  refine C.seg (pe := 1) (lv' := [(0, .ref a0), (1, .int p1)]) (st' := [.int p1]) [(.iload_n 1, 1, 0)] (by decide +kernel) rfl ?_
  refine C.if_lt (off := 22) (tgt := 23) (pf := 4) (by decide +kernel) (by decide) rfl (fun c6 => ?_) (fun c6 => ?_)
  · replace hf := ifp c6 hf
    refine Vsub [] rfl ?_
    exact l_X1_aim_23 C C2 h hf
  · replace hf := ifn c6 hf
    refine C.seg (pe := 6) (lv' := [(0, .ref a0), (1, .int p1)]) (st' := [.ref a0, .int p1]) [(.iload_n 1, 1, 0), (.aload_n 0, 1, 0)] (by decide +kernel) rfl ?_
    obtain ⟨x1, gx1, hf⟩ := Option.bind_eq_some_iff.mp hf
    refine C.rdI fr_424 gx1 (by decide +kernel) rfl ?_
    refine C.icmp_ge (off := 14) (tgt := 23) (pf := 12) (by decide +kernel) (by decide) rfl (fun c5 => ?_) (fun c5 => ?_)
    · replace hf := ifp c5 hf
      refine Vsub [] rfl ?_
      exact l_X1_aim_23 C C2 h hf
    · replace hf := ifn c5 hf
      refine C.seg (pe := 13) (lv' := [(0, .ref a0), (1, .int p1)]) (st' := [.ref a0]) [(.aload_n 0, 1, 0)] (by decide +kernel) rfl ?_
      obtain ⟨a2, ga2, hf⟩ := Option.bind_eq_some_iff.mp hf
      refine C.rdA fr_419 ga2 (by decide +kernel) rfl ?_
      refine C.seg (pe := 18) (lv' := [(0, .ref a0), (1, .int p1)]) (st' := [.ref a0, .int p1, .ref a2]) [(.iload_n 1, 1, 0), (.aload_n 0, 1, 0)] (by decide +kernel) rfl ?_
      obtain ⟨x3, gx3, hf⟩ := Option.bind_eq_some_iff.mp hf
      refine C.rdI fr_424 gx3 (by decide +kernel) rfl ?_
      refine C.seg (pe := 22) (lv' := [(0, .ref a0), (1, .int p1)]) (st' := [.int x3.toInt16.toInt32, .int p1, .ref a2]) [(.i2s, 1, 0)] (by decide +kernel) rfl ?_
      obtain ⟨h4, gh4, hf⟩ := Option.bind_eq_some_iff.mp hf
      refine C.sast gh4 (by decide +kernel) rfl ?_
      refine Vsub [] rfl ?_
      exact l_X1_aim_23 C C2 h4 hf
theorem o_X1_aim {a0 : Nat} {p1 : Int32} {h : AH} {hr : AH} (hf : f_X1_aim a0 p1 h = some hr) : isO 1 h a0 = true := by
  unfold f_X1_aim at hf
  exact (ifO hf).1
/-! WallHouse$Drawing.<init>(LWallHouse$Drawing;)V -/
def f_X1_init_ (a0 : Nat) (p1 : Nat) (h : AH) : Option (AH) :=
  (gI 1 h p1 4).bind fun x1 =>
  (pI 1 h a0 4 (mxI 0 x1)).bind fun h2 =>
  (gI 1 h2 p1 5).bind fun x3 =>
  (pI 1 h2 a0 5 (mxI 0 x3)).bind fun h4 =>
  (gA 1 h4 p1 0).bind fun a5 =>
  (gI 1 h4 a0 4).bind fun x6 =>
  b2 (f_J7_copyOf_9075b a5 x6 h4) fun q7 h8 =>
  tr q7 (
    none) fun a9 =>
  (pQ 1 h8 a0 0 (some a9)).bind fun h60 =>
  (gA 1 h60 p1 1).bind fun a61 =>
  (gI 1 h60 a0 4).bind fun x62 =>
  b2 (f_J7_copyOf_974b1 a61 x62 h60) fun q63 h64 =>
  tr q63 (
    none) fun a65 =>
  (pQ 1 h64 a0 1 (some a65)).bind fun h88 =>
  (gA 1 h88 p1 2).bind fun a89 =>
  (gI 1 h88 a0 4).bind fun x90 =>
  b2 (f_J7_copyOf_974b1 a89 x90 h88) fun q91 h92 =>
  tr q91 (
    none) fun a93 =>
  (pQ 1 h92 a0 2 (some a93)).bind fun h102 =>
  (gA 1 h102 p1 3).bind fun a103 =>
  (gI 1 h102 a0 5).bind fun x104 =>
  b2 (f_J7_copyOf_c38d5 a103 x104 h102) fun q105 h106 =>
  tr q105 (
    none) fun a107 =>
  (pQ 1 h106 a0 3 (some a107)).bind fun h109 =>
  some h109
set_option maxRecDepth 100000 in
set_option maxHeartbeats 4000000 in
theorem w_X1_init_ {l : Launch} {G : GX} {a0 : Nat} {p1 : Nat} {h : AH} {hr : AH} (hf : f_X1_init_ a0 p1 h = some hr) : Ct l G yX1_init_ 2 102 [.ref a0, .ref p1] h (QV hr) := by
  unfold f_X1_init_ at hf
  refine Ct_of (own := RX1) (cc := cX1_init_) (nL := 2) (ret := none) rfl rfl k_1058 (Nat.le_of_ble_eq_true rfl) (fun X C2 C => ?_)
  show V X G h (QV hr) 0 [(0, .ref a0), (1, .ref p1)] [] h
  refine C.seg (pe := 1) (lv' := [(0, .ref a0), (1, .ref p1)]) (st' := [.ref a0]) [(.aload_n 0, 1, 0)] (by decide +kernel) rfl ?_
  refine C.objInit k_413 k_151 k_152 (by omega) (by omega) (Nat.le_of_ble_eq_true rfl) (by decide +kernel) rfl ?_
  refine C.seg (pe := 7) (lv' := [(0, .ref a0), (1, .ref p1)]) (st' := [.ref p1, .int 0, .ref a0]) [(.aload_n 0, 1, 0), (.iconst 0, 1, 0), (.aload_n 1, 1, 0)] (by decide +kernel) rfl ?_
  obtain ⟨x1, gx1, hf⟩ := Option.bind_eq_some_iff.mp hf
  refine C.rdI fr_424 gx1 (by decide +kernel) rfl ?_
  refine C.mmax k_1059 k_636 k_137 k_637 (by omega) (by omega) (Nat.le_of_ble_eq_true rfl) (by decide +kernel) rfl ?_
  obtain ⟨h2, gh2, hf⟩ := Option.bind_eq_some_iff.mp hf
  refine C.putI fl_424 gh2 (by decide +kernel) rfl ?_
  refine C.seg (pe := 19) (lv' := [(0, .ref a0), (1, .ref p1)]) (st' := [.ref p1, .int 0, .ref a0]) [(.aload_n 0, 1, 0), (.iconst 0, 1, 0), (.aload_n 1, 1, 0)] (by decide +kernel) rfl ?_
  obtain ⟨x3, gx3, hf⟩ := Option.bind_eq_some_iff.mp hf
  refine C.rdI fr_427 gx3 (by decide +kernel) rfl ?_
  refine C.mmax k_1059 k_636 k_137 k_637 (by omega) (by omega) (Nat.le_of_ble_eq_true rfl) (by decide +kernel) rfl ?_
  obtain ⟨h4, gh4, hf⟩ := Option.bind_eq_some_iff.mp hf
  refine C.putI fl_427 gh4 (by decide +kernel) rfl ?_
  refine C.seg (pe := 30) (lv' := [(0, .ref a0), (1, .ref p1)]) (st' := [.ref p1, .ref a0]) [(.aload_n 0, 1, 0), (.aload_n 1, 1, 0)] (by decide +kernel) rfl ?_
  obtain ⟨a5, ga5, hf⟩ := Option.bind_eq_some_iff.mp hf
  refine C.rdA fr_414 ga5 (by decide +kernel) rfl ?_
  refine C.seg (pe := 34) (lv' := [(0, .ref a0), (1, .ref p1)]) (st' := [.ref a0, .ref a5, .ref a0]) [(.aload_n 0, 1, 0)] (by decide +kernel) rfl ?_
  obtain ⟨x6, gx6, hf⟩ := Option.bind_eq_some_iff.mp hf
  refine C.rdI fr_424 gx6 (by decide +kernel) rfl ?_
  obtain ⟨q7, h8, gq7, hf⟩ := b2_some hf
  cases q7 with
  | none =>
    replace hf := tr_none hf
    refine C.callSr C2 [.ref a5, .int x6] [.ref a0] ms_1060 rfl (w_J7_copyOf_9075b gq7) (by omega) (by omega) (Nat.le_of_ble_eq_true rfl) (by decide +kernel) rfl ?_
    cases hf
  | some a9 =>
    replace hf := tr_some hf
    refine C.callSr C2 [.ref a5, .int x6] [.ref a0] ms_1060 rfl (w_J7_copyOf_9075b gq7) (by omega) (by omega) (Nat.le_of_ble_eq_true rfl) (by decide +kernel) rfl ?_
    obtain ⟨h60, gh60, hf⟩ := Option.bind_eq_some_iff.mp hf
    refine C.putFA C2.2.1 fl_414 (Or.inr ⟨_, rfl⟩) gh60 (by decide +kernel) rfl ?_
    refine C.seg (pe := 45) (lv' := [(0, .ref a0), (1, .ref p1)]) (st' := [.ref p1, .ref a0]) [(.aload_n 0, 1, 0), (.aload_n 1, 1, 0)] (by decide +kernel) rfl ?_
    obtain ⟨a61, ga61, hf⟩ := Option.bind_eq_some_iff.mp hf
    refine C.rdA fr_417 ga61 (by decide +kernel) rfl ?_
    refine C.seg (pe := 49) (lv' := [(0, .ref a0), (1, .ref p1)]) (st' := [.ref a0, .ref a61, .ref a0]) [(.aload_n 0, 1, 0)] (by decide +kernel) rfl ?_
    obtain ⟨x62, gx62, hf⟩ := Option.bind_eq_some_iff.mp hf
    refine C.rdI fr_424 gx62 (by decide +kernel) rfl ?_
    obtain ⟨q63, h64, gq63, hf⟩ := b2_some hf
    cases q63 with
    | none =>
      replace hf := tr_none hf
      refine C.callSr C2 [.ref a61, .int x62] [.ref a0] ms_1074 rfl (w_J7_copyOf_974b1 gq63) (by omega) (by omega) (Nat.le_of_ble_eq_true rfl) (by decide +kernel) rfl ?_
      cases hf
    | some a65 =>
      replace hf := tr_some hf
      refine C.callSr C2 [.ref a61, .int x62] [.ref a0] ms_1074 rfl (w_J7_copyOf_974b1 gq63) (by omega) (by omega) (Nat.le_of_ble_eq_true rfl) (by decide +kernel) rfl ?_
      obtain ⟨h88, gh88, hf⟩ := Option.bind_eq_some_iff.mp hf
      refine C.putFA C2.2.1 fl_417 (Or.inr ⟨_, rfl⟩) gh88 (by decide +kernel) rfl ?_
      refine C.seg (pe := 60) (lv' := [(0, .ref a0), (1, .ref p1)]) (st' := [.ref p1, .ref a0]) [(.aload_n 0, 1, 0), (.aload_n 1, 1, 0)] (by decide +kernel) rfl ?_
      obtain ⟨a89, ga89, hf⟩ := Option.bind_eq_some_iff.mp hf
      refine C.rdA fr_419 ga89 (by decide +kernel) rfl ?_
      refine C.seg (pe := 64) (lv' := [(0, .ref a0), (1, .ref p1)]) (st' := [.ref a0, .ref a89, .ref a0]) [(.aload_n 0, 1, 0)] (by decide +kernel) rfl ?_
      obtain ⟨x90, gx90, hf⟩ := Option.bind_eq_some_iff.mp hf
      refine C.rdI fr_424 gx90 (by decide +kernel) rfl ?_
      obtain ⟨q91, h92, gq91, hf⟩ := b2_some hf
      cases q91 with
      | none =>
        replace hf := tr_none hf
        refine C.callSr C2 [.ref a89, .int x90] [.ref a0] ms_1074 rfl (w_J7_copyOf_974b1 gq91) (by omega) (by omega) (Nat.le_of_ble_eq_true rfl) (by decide +kernel) rfl ?_
        cases hf
      | some a93 =>
        replace hf := tr_some hf
        refine C.callSr C2 [.ref a89, .int x90] [.ref a0] ms_1074 rfl (w_J7_copyOf_974b1 gq91) (by omega) (by omega) (Nat.le_of_ble_eq_true rfl) (by decide +kernel) rfl ?_
        obtain ⟨h102, gh102, hf⟩ := Option.bind_eq_some_iff.mp hf
        refine C.putFA C2.2.1 fl_419 (Or.inr ⟨_, rfl⟩) gh102 (by decide +kernel) rfl ?_
        refine C.seg (pe := 75) (lv' := [(0, .ref a0), (1, .ref p1)]) (st' := [.ref p1, .ref a0]) [(.aload_n 0, 1, 0), (.aload_n 1, 1, 0)] (by decide +kernel) rfl ?_
        obtain ⟨a103, ga103, hf⟩ := Option.bind_eq_some_iff.mp hf
        refine C.rdA fr_422 ga103 (by decide +kernel) rfl ?_
        refine C.seg (pe := 79) (lv' := [(0, .ref a0), (1, .ref p1)]) (st' := [.ref a0, .ref a103, .ref a0]) [(.aload_n 0, 1, 0)] (by decide +kernel) rfl ?_
        obtain ⟨x104, gx104, hf⟩ := Option.bind_eq_some_iff.mp hf
        refine C.rdI fr_427 gx104 (by decide +kernel) rfl ?_
        obtain ⟨q105, h106, gq105, hf⟩ := b2_some hf
        cases q105 with
        | none =>
          replace hf := tr_none hf
          refine C.callSr C2 [.ref a103, .int x104] [.ref a0] ms_1082 rfl (w_J7_copyOf_c38d5 gq105) (by omega) (by omega) (Nat.le_of_ble_eq_true rfl) (by decide +kernel) rfl ?_
          cases hf
        | some a107 =>
          replace hf := tr_some hf
          refine C.callSr C2 [.ref a103, .int x104] [.ref a0] ms_1082 rfl (w_J7_copyOf_c38d5 gq105) (by omega) (by omega) (Nat.le_of_ble_eq_true rfl) (by decide +kernel) rfl ?_
          obtain ⟨h109, gh109, hf⟩ := Option.bind_eq_some_iff.mp hf
          refine C.putFA C2.2.1 fl_422 (Or.inr ⟨_, rfl⟩) gh109 (by decide +kernel) rfl ?_
          cases hf
          exact C.retV rfl (by decide +kernel) ⟨rfl, rfl⟩
