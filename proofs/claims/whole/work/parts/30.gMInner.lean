/-! WallHouseModel$Stop.<init>()V -/
def f_X14_init (z : ZX) (a0 : Nat) (h : AH) : Option (AH) :=
  (f_E1 z a0 none none 0 0 h).bind fun h1 =>
  some h1
set_option maxRecDepth 100000 in
set_option maxHeartbeats 4000000 in
theorem w_X14_init {l : Launch} {G : GX} {a0 : Nat} {h : AH} {hr : AH} (hf : f_X14_init G.2.2 a0 h = some hr) : Ct l G yX14_init 4 92 [.ref a0] h (QV hr) := by
  unfold f_X14_init at hf
  refine Ct_of (own := RX14) (cc := cX14_init) (nL := 1) (ret := none) rfl rfl k_1678 (Nat.le_of_ble_eq_true rfl) (fun X C2 C => ?_)
  show V X G h (QV hr) 0 [(0, .ref a0)] [] h
  refine C.seg (pe := 5) (lv' := [(0, .ref a0)]) (st' := [.int 0, .int 0, .null, .null, .ref a0]) [(.aload_n 0, 1, 0), (.aconst_null, 1, 0), (.aconst_null, 1, 0), (.iconst 0, 1, 0), (.iconst 0, 1, 0)] (by decide +kernel) rfl ?_
  obtain ⟨h1, gh1, hf⟩ := Option.bind_eq_some_iff.mp hf
  refine C.callIr C2 [.null, .null, .int 0, .int 0] [] mi_1679 rfl (w_E1 gh1) (by omega) (by omega) (Nat.le_of_ble_eq_true rfl) (by decide +kernel) rfl ?_
  cases hf
  exact C.retV rfl (by decide +kernel) ⟨rfl, rfl⟩
/-! WallHouseModel$Drawing.<init>()V -/
def f_X12_init (a0 : Nat) (h : AH) : Option (AH) :=
  b2 (nwA 0 40 h) fun a1 h2 =>
  (pQ 12 h2 a0 2 (some a1)).bind fun h3 =>
  b2 (nwA 0 40 h3) fun a4 h5 =>
  (pQ 12 h5 a0 3 (some a4)).bind fun h6 =>
  b2 (nwA 0 40 h6) fun a7 h8 =>
  (pQ 12 h8 a0 4 (some a7)).bind fun h9 =>
  b2 (nwA 0 40 h9) fun a10 h11 =>
  (pQ 12 h11 a0 5 (some a10)).bind fun h12 =>
  b2 (nwA 0 40 h12) fun a13 h14 =>
  (pQ 12 h14 a0 6 (some a13)).bind fun h15 =>
  b2 (nwA 0 40 h15) fun a16 h17 =>
  (pQ 12 h17 a0 7 (some a16)).bind fun h18 =>
  b2 (nwA 0 160 h18) fun a19 h20 =>
  (pQ 12 h20 a0 8 (some a19)).bind fun h21 =>
  b2 (nwA 0 160 h21) fun a22 h23 =>
  (pQ 12 h23 a0 9 (some a22)).bind fun h24 =>
  b2 (nwA 0 400 h24) fun a25 h26 =>
  (pQ 12 h26 a0 10 (some a25)).bind fun h27 =>
  b2 (nwA 0 400 h27) fun a28 h29 =>
  (pQ 12 h29 a0 11 (some a28)).bind fun h30 =>
  b2 (nwA 4 40 h30) fun a31 h32 =>
  (pQ 12 h32 a0 12 (some a31)).bind fun h33 =>
  some h33
set_option maxRecDepth 100000 in
set_option maxHeartbeats 4000000 in
theorem w_X12_init {l : Launch} {G : GX} {a0 : Nat} {h : AH} {hr : AH} (hf : f_X12_init a0 h = some hr) : Ct l G yX12_init 1 20 [.ref a0] h (QV hr) := by
  unfold f_X12_init at hf
  refine Ct_of (own := RX12) (cc := cX12_init) (nL := 1) (ret := none) rfl rfl k_1712 (Nat.le_of_ble_eq_true rfl) (fun X C2 C => ?_)
  show V X G h (QV hr) 0 [(0, .ref a0)] [] h
  refine C.seg (pe := 1) (lv' := [(0, .ref a0)]) (st' := [.ref a0]) [(.aload_n 0, 1, 0)] (by decide +kernel) rfl ?_
  refine C.objInit k_1713 k_151 k_152 (by omega) (by omega) (Nat.le_of_ble_eq_true rfl) (by decide +kernel) rfl ?_
  refine C.seg (pe := 7) (lv' := [(0, .ref a0)]) (st' := [.int 40, .ref a0]) [(.aload_n 0, 1, 0), (.bipush 40, 2, 40)] (by decide +kernel) rfl ?_
  obtain ⟨a1, h2, ga1, hf⟩ := b2_some hf
  refine C.newa0 k_180 ga1 (by decide +kernel) rfl ?_
  obtain ⟨h3, gh3, hf⟩ := Option.bind_eq_some_iff.mp hf
  refine C.putFA C2.2.1 fl_1717 (Or.inr ⟨_, rfl⟩) gh3 (by decide +kernel) rfl ?_
  refine C.seg (pe := 15) (lv' := [(0, .ref a0)]) (st' := [.int 40, .ref a0]) [(.aload_n 0, 1, 0), (.bipush 40, 2, 40)] (by decide +kernel) rfl ?_
  obtain ⟨a4, h5, ga4, hf⟩ := b2_some hf
  refine C.newa0 k_180 ga4 (by decide +kernel) rfl ?_
  obtain ⟨h6, gh6, hf⟩ := Option.bind_eq_some_iff.mp hf
  refine C.putFA C2.2.1 fl_1719 (Or.inr ⟨_, rfl⟩) gh6 (by decide +kernel) rfl ?_
  refine C.seg (pe := 23) (lv' := [(0, .ref a0)]) (st' := [.int 40, .ref a0]) [(.aload_n 0, 1, 0), (.bipush 40, 2, 40)] (by decide +kernel) rfl ?_
  obtain ⟨a7, h8, ga7, hf⟩ := b2_some hf
  refine C.newa0 k_180 ga7 (by decide +kernel) rfl ?_
  obtain ⟨h9, gh9, hf⟩ := Option.bind_eq_some_iff.mp hf
  refine C.putFA C2.2.1 fl_1721 (Or.inr ⟨_, rfl⟩) gh9 (by decide +kernel) rfl ?_
  refine C.seg (pe := 31) (lv' := [(0, .ref a0)]) (st' := [.int 40, .ref a0]) [(.aload_n 0, 1, 0), (.bipush 40, 2, 40)] (by decide +kernel) rfl ?_
  obtain ⟨a10, h11, ga10, hf⟩ := b2_some hf
  refine C.newa0 k_180 ga10 (by decide +kernel) rfl ?_
  obtain ⟨h12, gh12, hf⟩ := Option.bind_eq_some_iff.mp hf
  refine C.putFA C2.2.1 fl_1723 (Or.inr ⟨_, rfl⟩) gh12 (by decide +kernel) rfl ?_
  refine C.seg (pe := 39) (lv' := [(0, .ref a0)]) (st' := [.int 40, .ref a0]) [(.aload_n 0, 1, 0), (.bipush 40, 2, 40)] (by decide +kernel) rfl ?_
  obtain ⟨a13, h14, ga13, hf⟩ := b2_some hf
  refine C.newa0 k_180 ga13 (by decide +kernel) rfl ?_
  obtain ⟨h15, gh15, hf⟩ := Option.bind_eq_some_iff.mp hf
  refine C.putFA C2.2.1 fl_1725 (Or.inr ⟨_, rfl⟩) gh15 (by decide +kernel) rfl ?_
  refine C.seg (pe := 47) (lv' := [(0, .ref a0)]) (st' := [.int 40, .ref a0]) [(.aload_n 0, 1, 0), (.bipush 40, 2, 40)] (by decide +kernel) rfl ?_
  obtain ⟨a16, h17, ga16, hf⟩ := b2_some hf
  refine C.newa0 k_180 ga16 (by decide +kernel) rfl ?_
  obtain ⟨h18, gh18, hf⟩ := Option.bind_eq_some_iff.mp hf
  refine C.putFA C2.2.1 fl_1727 (Or.inr ⟨_, rfl⟩) gh18 (by decide +kernel) rfl ?_
  refine C.seg (pe := 56) (lv' := [(0, .ref a0)]) (st' := [.int 160, .ref a0]) [(.aload_n 0, 1, 0), (.sipush 160, 3, 160)] (by decide +kernel) rfl ?_
  obtain ⟨a19, h20, ga19, hf⟩ := b2_some hf
  refine C.newa0 k_180 ga19 (by decide +kernel) rfl ?_
  obtain ⟨h21, gh21, hf⟩ := Option.bind_eq_some_iff.mp hf
  refine C.putFA C2.2.1 fl_1729 (Or.inr ⟨_, rfl⟩) gh21 (by decide +kernel) rfl ?_
  refine C.seg (pe := 65) (lv' := [(0, .ref a0)]) (st' := [.int 160, .ref a0]) [(.aload_n 0, 1, 0), (.sipush 160, 3, 160)] (by decide +kernel) rfl ?_
  obtain ⟨a22, h23, ga22, hf⟩ := b2_some hf
  refine C.newa0 k_180 ga22 (by decide +kernel) rfl ?_
  obtain ⟨h24, gh24, hf⟩ := Option.bind_eq_some_iff.mp hf
  refine C.putFA C2.2.1 fl_1731 (Or.inr ⟨_, rfl⟩) gh24 (by decide +kernel) rfl ?_
  refine C.seg (pe := 74) (lv' := [(0, .ref a0)]) (st' := [.int 400, .ref a0]) [(.aload_n 0, 1, 0), (.sipush 400, 3, 400)] (by decide +kernel) rfl ?_
  obtain ⟨a25, h26, ga25, hf⟩ := b2_some hf
  refine C.newa0 k_180 ga25 (by decide +kernel) rfl ?_
  obtain ⟨h27, gh27, hf⟩ := Option.bind_eq_some_iff.mp hf
  refine C.putFA C2.2.1 fl_1733 (Or.inr ⟨_, rfl⟩) gh27 (by decide +kernel) rfl ?_
  refine C.seg (pe := 83) (lv' := [(0, .ref a0)]) (st' := [.int 400, .ref a0]) [(.aload_n 0, 1, 0), (.sipush 400, 3, 400)] (by decide +kernel) rfl ?_
  obtain ⟨a28, h29, ga28, hf⟩ := b2_some hf
  refine C.newa0 k_180 ga28 (by decide +kernel) rfl ?_
  obtain ⟨h30, gh30, hf⟩ := Option.bind_eq_some_iff.mp hf
  refine C.putFA C2.2.1 fl_1735 (Or.inr ⟨_, rfl⟩) gh30 (by decide +kernel) rfl ?_
  refine C.seg (pe := 91) (lv' := [(0, .ref a0)]) (st' := [.int 40, .ref a0]) [(.aload_n 0, 1, 0), (.bipush 40, 2, 40)] (by decide +kernel) rfl ?_
  obtain ⟨a31, h32, ga31, hf⟩ := b2_some hf
  refine C.newa4 k_401 ga31 (by decide +kernel) rfl ?_
  obtain ⟨h33, gh33, hf⟩ := Option.bind_eq_some_iff.mp hf
  refine C.putFA C2.2.1 fl_1737 (Or.inr ⟨_, rfl⟩) gh33 (by decide +kernel) rfl ?_
  cases hf
  exact C.retV rfl (by decide +kernel) ⟨rfl, rfl⟩
/-! WallHouseModel$Right.<init>()V -/
def f_X13_init (a0 : Nat) (h : AH) : Option (AH) :=
  b2 (nwA 0 8 h) fun a1 h2 =>
  (pQ 13 h2 a0 1 (some a1)).bind fun h3 =>
  b2 (nwA 0 8 h3) fun a4 h5 =>
  (pQ 13 h5 a0 2 (some a4)).bind fun h6 =>
  some h6
set_option maxRecDepth 100000 in
set_option maxHeartbeats 4000000 in
theorem w_X13_init {l : Launch} {G : GX} {a0 : Nat} {h : AH} {hr : AH} (hf : f_X13_init a0 h = some hr) : Ct l G yX13_init 1 20 [.ref a0] h (QV hr) := by
  unfold f_X13_init at hf
  refine Ct_of (own := RX13) (cc := cX13_init) (nL := 1) (ret := none) rfl rfl k_1771 (Nat.le_of_ble_eq_true rfl) (fun X C2 C => ?_)
  show V X G h (QV hr) 0 [(0, .ref a0)] [] h
  refine C.seg (pe := 1) (lv' := [(0, .ref a0)]) (st' := [.ref a0]) [(.aload_n 0, 1, 0)] (by decide +kernel) rfl ?_
  refine C.objInit k_1772 k_151 k_152 (by omega) (by omega) (Nat.le_of_ble_eq_true rfl) (by decide +kernel) rfl ?_
  refine C.seg (pe := 7) (lv' := [(0, .ref a0)]) (st' := [.int 8, .ref a0]) [(.aload_n 0, 1, 0), (.bipush 8, 2, 8)] (by decide +kernel) rfl ?_
  obtain ⟨a1, h2, ga1, hf⟩ := b2_some hf
  refine C.newa0 k_180 ga1 (by decide +kernel) rfl ?_
  obtain ⟨h3, gh3, hf⟩ := Option.bind_eq_some_iff.mp hf
  refine C.putFA C2.2.1 fl_1774 (Or.inr ⟨_, rfl⟩) gh3 (by decide +kernel) rfl ?_
  refine C.seg (pe := 15) (lv' := [(0, .ref a0)]) (st' := [.int 8, .ref a0]) [(.aload_n 0, 1, 0), (.bipush 8, 2, 8)] (by decide +kernel) rfl ?_
  obtain ⟨a4, h5, ga4, hf⟩ := b2_some hf
  refine C.newa0 k_180 ga4 (by decide +kernel) rfl ?_
  obtain ⟨h6, gh6, hf⟩ := Option.bind_eq_some_iff.mp hf
  refine C.putFA C2.2.1 fl_1776 (Or.inr ⟨_, rfl⟩) gh6 (by decide +kernel) rfl ?_
  cases hf
  exact C.retV rfl (by decide +kernel) ⟨rfl, rfl⟩
/-! WallHouseModel$Drawing.put(II)V -/
def f_X12_put (a0 : Nat) (p1 : Int32) (p2 : Int32) (h : AH) : Option (AH) :=
  if isO 12 h a0 = true then
    (gA 12 h a0 10).bind fun a1 =>
    (gI 12 h a0 1).bind fun x2 =>
    (sI 0 h a1 x2 p1).bind fun h3 =>
    (gA 12 h3 a0 11).bind fun a4 =>
    (gI 12 h3 a0 1).bind fun x5 =>
    (sI 0 h3 a4 x5 p2).bind fun h6 =>
    (gI 12 h6 a0 1).bind fun x7 =>
    (pI 12 h6 a0 1 (x7 + 1)).bind fun h8 =>
    some h8
  else none
set_option maxRecDepth 100000 in
set_option maxHeartbeats 4000000 in
theorem w_X12_put {l : Launch} {G : GX} {a0 : Nat} {p1 : Int32} {p2 : Int32} {h : AH} {hr : AH} (hf : f_X12_put a0 p1 p2 h = some hr) : Ct l G yX12_put 0 0 [.ref a0, .int p1, .int p2] h (QV hr) := by
  unfold f_X12_put at hf
  obtain ⟨ho, hf⟩ := ifO hf
  refine Ct_of (own := RX12) (cc := cX12_put) (nL := 3) (ret := none) rfl rfl k_2286 (Nat.le_of_ble_eq_true rfl) (fun X C2 C => ?_)
  show V X G h (QV hr) 0 [(0, .ref a0), (1, .int p1), (2, .int p2)] [] h
  refine C.seg (pe := 1) (lv' := [(0, .ref a0), (1, .int p1), (2, .int p2)]) (st' := [.ref a0]) [(.aload_n 0, 1, 0)] (by decide +kernel) rfl ?_
  obtain ⟨a1, ga1, hf⟩ := Option.bind_eq_some_iff.mp hf
  refine C.rdA fr_1733 ga1 (by decide +kernel) rfl ?_
  refine C.seg (pe := 5) (lv' := [(0, .ref a0), (1, .int p1), (2, .int p2)]) (st' := [.ref a0, .ref a1]) [(.aload_n 0, 1, 0)] (by decide +kernel) rfl ?_
  obtain ⟨x2, gx2, hf⟩ := Option.bind_eq_some_iff.mp hf
  refine C.rdI fr_1715 gx2 (by decide +kernel) rfl ?_
  refine C.seg (pe := 9) (lv' := [(0, .ref a0), (1, .int p1), (2, .int p2)]) (st' := [.int p1, .int x2, .ref a1]) [(.iload_n 1, 1, 0)] (by decide +kernel) rfl ?_
  obtain ⟨h3, gh3, hf⟩ := Option.bind_eq_some_iff.mp hf
  refine C.ast gh3 (by decide +kernel) rfl ?_
  refine C.seg (pe := 11) (lv' := [(0, .ref a0), (1, .int p1), (2, .int p2)]) (st' := [.ref a0]) [(.aload_n 0, 1, 0)] (by decide +kernel) rfl ?_
  obtain ⟨a4, ga4, hf⟩ := Option.bind_eq_some_iff.mp hf
  refine C.rdA fr_1735 ga4 (by decide +kernel) rfl ?_
  refine C.seg (pe := 15) (lv' := [(0, .ref a0), (1, .int p1), (2, .int p2)]) (st' := [.ref a0, .ref a4]) [(.aload_n 0, 1, 0)] (by decide +kernel) rfl ?_
  obtain ⟨x5, gx5, hf⟩ := Option.bind_eq_some_iff.mp hf
  refine C.rdI fr_1715 gx5 (by decide +kernel) rfl ?_
  refine C.seg (pe := 19) (lv' := [(0, .ref a0), (1, .int p1), (2, .int p2)]) (st' := [.int p2, .int x5, .ref a4]) [(.iload_n 2, 1, 0)] (by decide +kernel) rfl ?_
  obtain ⟨h6, gh6, hf⟩ := Option.bind_eq_some_iff.mp hf
  refine C.ast gh6 (by decide +kernel) rfl ?_
  refine C.seg (pe := 22) (lv' := [(0, .ref a0), (1, .int p1), (2, .int p2)]) (st' := [.ref a0, .ref a0]) [(.aload_n 0, 1, 0), (.dup, 1, 0)] (by decide +kernel) rfl ?_
  obtain ⟨x7, gx7, hf⟩ := Option.bind_eq_some_iff.mp hf
  refine C.rdI fr_1715 gx7 (by decide +kernel) rfl ?_
  refine C.seg (pe := 27) (lv' := [(0, .ref a0), (1, .int p1), (2, .int p2)]) (st' := [.int (x7 + 1), .ref a0]) [(.iconst 1, 1, 1), (.iadd, 1, 0)] (by decide +kernel) rfl ?_
  obtain ⟨h8, gh8, hf⟩ := Option.bind_eq_some_iff.mp hf
  refine C.putI fl_1715 gh8 (by decide +kernel) rfl ?_
  cases hf
  exact C.retV rfl (by decide +kernel) ⟨rfl, rfl⟩
theorem o_X12_put {a0 : Nat} {p1 : Int32} {p2 : Int32} {h : AH} {hr : AH} (hf : f_X12_put a0 p1 p2 h = some hr) : isO 12 h a0 = true := by
  unfold f_X12_put at hf
  exact (ifO hf).1
