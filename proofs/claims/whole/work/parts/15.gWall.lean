/-! WallHouse$Wall.<init>(IIII)V -/
def f_X8_init (a0 : Nat) (p1 : Int32) (p2 : Int32) (p3 : Int32) (p4 : Int32) (h : AH) : Option (AH) :=
  (pI 8 h a0 0 (mnI (mxI p1 1) 16)).bind fun h1 =>
  (pI 8 h1 a0 1 (mnI (mxI p2 1) 12)).bind fun h2 =>
  (pI 8 h2 a0 2 p3).bind fun h3 =>
  (pI 8 h3 a0 3 p4).bind fun h4 =>
  (pI 8 h4 a0 4 0).bind fun h5 =>
  (pI 8 h5 a0 5 (-1)).bind fun h6 =>
  (pI 8 h6 a0 8 (-2)).bind fun h7 =>
  (pI 8 h7 a0 9 (-2)).bind fun h8 =>
  (gI 8 h8 a0 0).bind fun x9 =>
  (gI 8 h8 a0 1).bind fun x10 =>
  b2 (nwA 2 (x9 * x10) h8) fun a11 h12 =>
  (pQ 8 h12 a0 11 (some a11)).bind fun h13 =>
  b2 (nwA 1 (x9 * x10) h13) fun a14 h15 =>
  (pQ 8 h15 a0 12 (some a14)).bind fun h16 =>
  b2 (nwA 1 (x9 * x10) h16) fun a17 h18 =>
  (pQ 8 h18 a0 13 (some a17)).bind fun h19 =>
  b2 (nwA 1 (x9 * x10) h19) fun a20 h21 =>
  (pQ 8 h21 a0 14 (some a20)).bind fun h22 =>
  (gA 8 h22 a0 12).bind fun a23 =>
  (f_J7_fill_031fb a23 (-1) h22).bind fun h24 =>
  (gA 8 h24 a0 13).bind fun a25 =>
  (f_J7_fill_031fb a25 (-2) h24).bind fun h26 =>
  some h26
set_option maxRecDepth 100000 in
set_option maxHeartbeats 4000000 in
theorem w_X8_init {l : Launch} {G : GX} {a0 : Nat} {p1 : Int32} {p2 : Int32} {p3 : Int32} {p4 : Int32} {h : AH} {hr : AH} (hf : f_X8_init a0 p1 p2 p3 p4 h = some hr) : Ct l G yX8_init 1 40 [.ref a0, .int p1, .int p2, .int p3, .int p4] h (QV hr) := by
  unfold f_X8_init at hf
  refine Ct_of (own := RX8) (cc := cX8_init) (nL := 6) (ret := none) rfl rfl k_633 (Nat.le_of_ble_eq_true rfl) (fun X C2 C => ?_)
  show V X G h (QV hr) 0 [(0, .ref a0), (1, .int p1), (2, .int p2), (3, .int p3), (4, .int p4)] [] h
  refine C.seg (pe := 1) (lv' := [(0, .ref a0), (1, .int p1), (2, .int p2), (3, .int p3), (4, .int p4)]) (st' := [.ref a0]) [(.aload_n 0, 1, 0)] (by decide +kernel) rfl ?_
  refine C.objInit k_634 k_151 k_152 (by omega) (by omega) (Nat.le_of_ble_eq_true rfl) (by decide +kernel) rfl ?_
  refine C.seg (pe := 7) (lv' := [(0, .ref a0), (1, .int p1), (2, .int p2), (3, .int p3), (4, .int p4)]) (st' := [.int 1, .int p1, .ref a0]) [(.aload_n 0, 1, 0), (.iload_n 1, 1, 0), (.iconst 1, 1, 1)] (by decide +kernel) rfl ?_
  refine C.mmax k_635 k_636 k_137 k_637 (by omega) (by omega) (Nat.le_of_ble_eq_true rfl) (by decide +kernel) rfl ?_
  refine C.seg (pe := 12) (lv' := [(0, .ref a0), (1, .int p1), (2, .int p2), (3, .int p3), (4, .int p4)]) (st' := [.int 16, .int (mxI p1 1), .ref a0]) [(.bipush 16, 2, 16)] (by decide +kernel) rfl ?_
  refine C.mmin k_638 k_639 k_137 k_640 (by omega) (by omega) (Nat.le_of_ble_eq_true rfl) (by decide +kernel) rfl ?_
  obtain ⟨h1, gh1, hf⟩ := Option.bind_eq_some_iff.mp hf
  refine C.putFI C2.2.1 fl_644 gh1 (by decide +kernel) rfl ?_
  refine C.seg (pe := 21) (lv' := [(0, .ref a0), (1, .int p1), (2, .int p2), (3, .int p3), (4, .int p4)]) (st' := [.int 1, .int p2, .ref a0]) [(.aload_n 0, 1, 0), (.iload_n 2, 1, 0), (.iconst 1, 1, 1)] (by decide +kernel) rfl ?_
  refine C.mmax k_635 k_636 k_137 k_637 (by omega) (by omega) (Nat.le_of_ble_eq_true rfl) (by decide +kernel) rfl ?_
  refine C.seg (pe := 26) (lv' := [(0, .ref a0), (1, .int p1), (2, .int p2), (3, .int p3), (4, .int p4)]) (st' := [.int 12, .int (mxI p2 1), .ref a0]) [(.bipush 12, 2, 12)] (by decide +kernel) rfl ?_
  refine C.mmin k_638 k_639 k_137 k_640 (by omega) (by omega) (Nat.le_of_ble_eq_true rfl) (by decide +kernel) rfl ?_
  obtain ⟨h2, gh2, hf⟩ := Option.bind_eq_some_iff.mp hf
  refine C.putFI C2.2.1 fl_647 gh2 (by decide +kernel) rfl ?_
  refine C.seg (pe := 34) (lv' := [(0, .ref a0), (1, .int p1), (2, .int p2), (3, .int p3), (4, .int p4)]) (st' := [.int p3, .ref a0]) [(.aload_n 0, 1, 0), (.iload_n 3, 1, 0)] (by decide +kernel) rfl ?_
  obtain ⟨h3, gh3, hf⟩ := Option.bind_eq_some_iff.mp hf
  refine C.putFI C2.2.1 fl_650 gh3 (by decide +kernel) rfl ?_
  refine C.seg (pe := 40) (lv' := [(0, .ref a0), (1, .int p1), (2, .int p2), (3, .int p3), (4, .int p4)]) (st' := [.int p4, .ref a0]) [(.aload_n 0, 1, 0), (.iload 4, 2, 0)] (by decide +kernel) rfl ?_
  obtain ⟨h4, gh4, hf⟩ := Option.bind_eq_some_iff.mp hf
  refine C.putI fl_652 gh4 (by decide +kernel) rfl ?_
  refine C.seg (pe := 45) (lv' := [(0, .ref a0), (1, .int p1), (2, .int p2), (3, .int p3), (4, .int p4)]) (st' := [.int 0, .ref a0]) [(.aload_n 0, 1, 0), (.iconst 0, 1, 0)] (by decide +kernel) rfl ?_
  obtain ⟨h5, gh5, hf⟩ := Option.bind_eq_some_iff.mp hf
  refine C.putI fl_654 gh5 (by decide +kernel) rfl ?_
  refine C.seg (pe := 50) (lv' := [(0, .ref a0), (1, .int p1), (2, .int p2), (3, .int p3), (4, .int p4)]) (st' := [.int (-1), .ref a0]) [(.aload_n 0, 1, 0), (.iconst (-1), 1, (-1))] (by decide +kernel) rfl ?_
  obtain ⟨h6, gh6, hf⟩ := Option.bind_eq_some_iff.mp hf
  refine C.putI fl_655 gh6 (by decide +kernel) rfl ?_
  refine C.seg (pe := 56) (lv' := [(0, .ref a0), (1, .int p1), (2, .int p2), (3, .int p3), (4, .int p4)]) (st' := [.int (-2), .ref a0]) [(.aload_n 0, 1, 0), (.bipush (-2), 2, (-2))] (by decide +kernel) rfl ?_
  obtain ⟨h7, gh7, hf⟩ := Option.bind_eq_some_iff.mp hf
  refine C.putI fl_659 gh7 (by decide +kernel) rfl ?_
  refine C.seg (pe := 62) (lv' := [(0, .ref a0), (1, .int p1), (2, .int p2), (3, .int p3), (4, .int p4)]) (st' := [.int (-2), .ref a0]) [(.aload_n 0, 1, 0), (.bipush (-2), 2, (-2))] (by decide +kernel) rfl ?_
  obtain ⟨h8, gh8, hf⟩ := Option.bind_eq_some_iff.mp hf
  refine C.putI fl_663 gh8 (by decide +kernel) rfl ?_
  refine C.seg (pe := 66) (lv' := [(0, .ref a0), (1, .int p1), (2, .int p2), (3, .int p3), (4, .int p4)]) (st' := [.ref a0]) [(.aload_n 0, 1, 0)] (by decide +kernel) rfl ?_
  obtain ⟨x9, gx9, hf⟩ := Option.bind_eq_some_iff.mp hf
  refine C.rdI fr_644 gx9 (by decide +kernel) rfl ?_
  refine C.seg (pe := 70) (lv' := [(0, .ref a0), (1, .int p1), (2, .int p2), (3, .int p3), (4, .int p4)]) (st' := [.ref a0, .int x9]) [(.aload_n 0, 1, 0)] (by decide +kernel) rfl ?_
  obtain ⟨x10, gx10, hf⟩ := Option.bind_eq_some_iff.mp hf
  refine C.rdI fr_647 gx10 (by decide +kernel) rfl ?_
  refine C.seg (pe := 79) (lv' := [(5, .int (x9 * x10)), (0, .ref a0), (1, .int p1), (2, .int p2), (3, .int p3), (4, .int p4)]) (st' := [.int (x9 * x10), .ref a0]) [(.imul, 1, 0), (.istore 5, 2, 0), (.aload_n 0, 1, 0), (.iload 5, 2, 0)] (by decide +kernel) rfl ?_
  obtain ⟨a11, h12, ga11, hf⟩ := b2_some hf
  refine C.newa2 k_559 ga11 (by decide +kernel) rfl ?_
  obtain ⟨h13, gh13, hf⟩ := Option.bind_eq_some_iff.mp hf
  refine C.putFA C2.2.1 fl_668 (Or.inr ⟨_, rfl⟩) gh13 (by decide +kernel) rfl ?_
  refine C.seg (pe := 87) (lv' := [(5, .int (x9 * x10)), (0, .ref a0), (1, .int p1), (2, .int p2), (3, .int p3), (4, .int p4)]) (st' := [.int (x9 * x10), .ref a0]) [(.aload_n 0, 1, 0), (.iload 5, 2, 0)] (by decide +kernel) rfl ?_
  obtain ⟨a14, h15, ga14, hf⟩ := b2_some hf
  refine C.newa1 k_400 ga14 (by decide +kernel) rfl ?_
  obtain ⟨h16, gh16, hf⟩ := Option.bind_eq_some_iff.mp hf
  refine C.putFA C2.2.1 fl_670 (Or.inr ⟨_, rfl⟩) gh16 (by decide +kernel) rfl ?_
  refine C.seg (pe := 95) (lv' := [(5, .int (x9 * x10)), (0, .ref a0), (1, .int p1), (2, .int p2), (3, .int p3), (4, .int p4)]) (st' := [.int (x9 * x10), .ref a0]) [(.aload_n 0, 1, 0), (.iload 5, 2, 0)] (by decide +kernel) rfl ?_
  obtain ⟨a17, h18, ga17, hf⟩ := b2_some hf
  refine C.newa1 k_400 ga17 (by decide +kernel) rfl ?_
  obtain ⟨h19, gh19, hf⟩ := Option.bind_eq_some_iff.mp hf
  refine C.putFA C2.2.1 fl_673 (Or.inr ⟨_, rfl⟩) gh19 (by decide +kernel) rfl ?_
  refine C.seg (pe := 103) (lv' := [(5, .int (x9 * x10)), (0, .ref a0), (1, .int p1), (2, .int p2), (3, .int p3), (4, .int p4)]) (st' := [.int (x9 * x10), .ref a0]) [(.aload_n 0, 1, 0), (.iload 5, 2, 0)] (by decide +kernel) rfl ?_
  obtain ⟨a20, h21, ga20, hf⟩ := b2_some hf
  refine C.newa1 k_400 ga20 (by decide +kernel) rfl ?_
  obtain ⟨h22, gh22, hf⟩ := Option.bind_eq_some_iff.mp hf
  refine C.putFA C2.2.1 fl_675 (Or.inr ⟨_, rfl⟩) gh22 (by decide +kernel) rfl ?_
  refine C.seg (pe := 109) (lv' := [(5, .int (x9 * x10)), (0, .ref a0), (1, .int p1), (2, .int p2), (3, .int p3), (4, .int p4)]) (st' := [.ref a0]) [(.aload_n 0, 1, 0)] (by decide +kernel) rfl ?_
  obtain ⟨a23, ga23, hf⟩ := Option.bind_eq_some_iff.mp hf
  refine C.rdA fr_670 ga23 (by decide +kernel) rfl ?_
  refine C.seg (pe := 113) (lv' := [(5, .int (x9 * x10)), (0, .ref a0), (1, .int p1), (2, .int p2), (3, .int p3), (4, .int p4)]) (st' := [.int (-1), .ref a23]) [(.iconst (-1), 1, (-1))] (by decide +kernel) rfl ?_
  obtain ⟨h24, gh24, hf⟩ := Option.bind_eq_some_iff.mp hf
  refine C.callSr C2 [.ref a23, .int (-1)] [] ms_641 rfl (w_J7_fill_031fb gh24) (by omega) (by omega) (Nat.le_of_ble_eq_true rfl) (by decide +kernel) rfl ?_
  refine C.seg (pe := 117) (lv' := [(5, .int (x9 * x10)), (0, .ref a0), (1, .int p1), (2, .int p2), (3, .int p3), (4, .int p4)]) (st' := [.ref a0]) [(.aload_n 0, 1, 0)] (by decide +kernel) rfl ?_
  obtain ⟨a25, ga25, hf⟩ := Option.bind_eq_some_iff.mp hf
  refine C.rdA fr_673 ga25 (by decide +kernel) rfl ?_
  refine C.seg (pe := 122) (lv' := [(5, .int (x9 * x10)), (0, .ref a0), (1, .int p1), (2, .int p2), (3, .int p3), (4, .int p4)]) (st' := [.int (-2), .ref a25]) [(.bipush (-2), 2, (-2))] (by decide +kernel) rfl ?_
  obtain ⟨h26, gh26, hf⟩ := Option.bind_eq_some_iff.mp hf
  refine C.callSr C2 [.ref a25, .int (-2)] [] ms_641 rfl (w_J7_fill_031fb gh26) (by omega) (by omega) (Nat.le_of_ble_eq_true rfl) (by decide +kernel) rfl ?_
  cases hf
  exact C.retV rfl (by decide +kernel) ⟨rfl, rfl⟩
/-! WallHouse$Wall.hasLeave(I)Z -/
def f_X8_hasLeave_21 (si0 : Int32) (h : AH) : Option (Int32 × AH) :=
  (ckZ si0).bind fun x1 =>
  some (x1, h)
set_option maxRecDepth 100000 in
set_option maxHeartbeats 4000000 in
theorem l_X8_hasLeave_21 {X : MX} {l : Launch} {G : GX} {h0 : AH} {rr : Int32} {hr : AH} (C : Cx X G RX8 cX8_hasLeave 2 (some .boolean) 0 0 h0) (C2 : Cy X l "hasLeave" []) (si0 : Int32) (h : AH) (hf : f_X8_hasLeave_21 si0 h = some (rr, hr)) : V X G h0 (QI rr hr) 21 [] [.int si0] h := by
  unfold f_X8_hasLeave_21 at hf
  obtain ⟨x1, gx1, hf⟩ := Option.bind_eq_some_iff.mp hf
  have ex1 := ckZ_eq gx1
  subst ex1
  cases hf
  exact C.retZ rfl gx1 (by decide +kernel) ⟨rfl, rfl⟩
def f_X8_hasLeave_20 (h : AH) : Option (Int32 × AH) :=
  f_X8_hasLeave_21 0 h
set_option maxRecDepth 100000 in
set_option maxHeartbeats 4000000 in
theorem l_X8_hasLeave_20 {X : MX} {l : Launch} {G : GX} {h0 : AH} {rr : Int32} {hr : AH} (C : Cx X G RX8 cX8_hasLeave 2 (some .boolean) 0 0 h0) (C2 : Cy X l "hasLeave" []) (h : AH) (hf : f_X8_hasLeave_20 h = some (rr, hr)) : V X G h0 (QI rr hr) 20 [] [] h := by
  unfold f_X8_hasLeave_20 at hf
  refine C.seg (pe := 21) (lv' := []) (st' := [.int 0]) [(.iconst 0, 1, 0)] (by decide +kernel) rfl ?_
  exact l_X8_hasLeave_21 C C2 0 h hf
def f_X8_hasLeave (a0 : Nat) (p1 : Int32) (h : AH) : Option (Int32 × AH) :=
  if isO 8 h a0 = true then
    (gI 8 h a0 4).bind fun x1 =>
    if p1 < x1 then
      f_X8_hasLeave_20 h
    else
      (gI 8 h a0 5).bind fun x2 =>
      if x2 < p1 then
        f_X8_hasLeave_20 h
      else
        f_X8_hasLeave_21 1 h
  else none
set_option maxRecDepth 100000 in
set_option maxHeartbeats 4000000 in
theorem w_X8_hasLeave {l : Launch} {G : GX} {a0 : Nat} {p1 : Int32} {h : AH} {rr : Int32} {hr : AH} (hf : f_X8_hasLeave a0 p1 h = some (rr, hr)) : Ct l G yX8_hasLeave 0 0 [.ref a0, .int p1] h (QI rr hr) := by
  unfold f_X8_hasLeave at hf
  obtain ⟨ho, hf⟩ := ifO hf
  refine Ct_of (own := RX8) (cc := cX8_hasLeave) (nL := 2) (ret := (some .boolean)) rfl rfl k_731 (Nat.le_of_ble_eq_true rfl) (fun X C2 C => ?_)
  show V X G h (QI rr hr) 0 [(0, .ref a0), (1, .int p1)] [] h
  refine C.seg (pe := 2) (lv' := [(0, .ref a0), (1, .int p1)]) (st' := [.ref a0, .int p1]) [(.iload_n 1, 1, 0), (.aload_n 0, 1, 0)] (by decide +kernel) rfl ?_
  obtain ⟨x1, gx1, hf⟩ := Option.bind_eq_some_iff.mp hf
  refine C.rdI fr_654 gx1 (by decide +kernel) rfl ?_
  refine C.icmp_lt (off := 15) (tgt := 20) (pf := 8) (by decide +kernel) (by decide) rfl (fun c4 => ?_) (fun c4 => ?_)
  · replace hf := ifp c4 hf
    refine Vsub [] rfl ?_
    exact l_X8_hasLeave_20 C C2 h hf
  · replace hf := ifn c4 hf
    refine C.seg (pe := 10) (lv' := [(0, .ref a0), (1, .int p1)]) (st' := [.ref a0, .int p1]) [(.iload_n 1, 1, 0), (.aload_n 0, 1, 0)] (by decide +kernel) rfl ?_
    obtain ⟨x2, gx2, hf⟩ := Option.bind_eq_some_iff.mp hf
    refine C.rdI fr_655 gx2 (by decide +kernel) rfl ?_
    refine C.icmp_gt (off := 7) (tgt := 20) (pf := 16) (by decide +kernel) (by decide) rfl (fun c3 => ?_) (fun c3 => ?_)
    · replace hf := ifp c3 hf
      refine Vsub [] rfl ?_
      exact l_X8_hasLeave_20 C C2 h hf
    · replace hf := ifn c3 hf
      refine C.seg (pe := 17) (lv' := [(0, .ref a0), (1, .int p1)]) (st' := [.int 1]) [(.iconst 1, 1, 1)] (by decide +kernel) rfl ?_
      refine C.goto (off := 4) (tgt := 21) (by decide +kernel) (by decide) ?_
      refine Vsub [] rfl ?_
      exact l_X8_hasLeave_21 C C2 1 h hf
theorem o_X8_hasLeave {a0 : Nat} {p1 : Int32} {h : AH} {rr : Int32} {hr : AH} (hf : f_X8_hasLeave a0 p1 h = some (rr, hr)) : isO 8 h a0 = true := by
  unfold f_X8_hasLeave at hf
  exact (ifO hf).1
/-! WallHouse$Wall.holeCount()I -/
def f_X8_holeCount_25 (k4 : Nat → Int32 → Int32 → AH → Option (Int32 × AH)) (r0 : Nat) (i1 : Int32) (i2 : Int32) (h : AH) : Option (Int32 × AH) :=
  k4 r0 i1 (i2 + 1) h
set_option maxRecDepth 100000 in
set_option maxHeartbeats 4000000 in
theorem l_X8_holeCount_25 {X : MX} {l : Launch} {G : GX} {h0 : AH} {rr : Int32} {hr : AH} (C : Cx X G RX8 cX8_holeCount 3 (some .int) 0 0 h0) (C2 : Cy X l "holeCount" []) {k4 : Nat → Int32 → Int32 → AH → Option (Int32 × AH)} (hk4 : ∀ (r0 : Nat) (i1 : Int32) (i2 : Int32) (h : AH), k4 r0 i1 i2 h = some (rr, hr) → V X G h0 (QI rr hr) 4 [(0, .ref r0), (1, .int i1), (2, .int i2)] [] h) (r0 : Nat) (i1 : Int32) (i2 : Int32) (h : AH) (hf : f_X8_holeCount_25 k4 r0 i1 i2 h = some (rr, hr)) : V X G h0 (QI rr hr) 25 [(0, .ref r0), (1, .int i1), (2, .int i2)] [] h := by
  unfold f_X8_holeCount_25 at hf
  refine C.seg (pe := 28) (lv' := [(2, .int (i2 + 1)), (0, .ref r0), (1, .int i1)]) (st' := []) [(.iinc 2 1, 3, 1)] (by decide +kernel) rfl ?_
  refine C.goto (off := (-24)) (tgt := 4) (by decide +kernel) (by decide) ?_
  refine Vsub [1, 2, 0] rfl ?_
  exact hk4 r0 i1 (i2 + 1) h hf
def f_X8_holeCount_4 : Nat → Nat → Int32 → Int32 → AH → Option (Int32 × AH)
  | 0, _, _, _, _ => none
  | n + 1, r0, i1, i2, h =>
    (gA 8 h r0 11).bind fun a1 =>
    (aN h a1).bind fun x2 =>
    if x2 ≤ i2 then
      some (i1, h)
    else
      (gA 8 h r0 11).bind fun a3 =>
      (aI 2 h a3 i2).bind fun x4 =>
      if x4 = 0 then
        f_X8_holeCount_25 (f_X8_holeCount_4 n) r0 i1 i2 h
      else
        f_X8_holeCount_25 (f_X8_holeCount_4 n) r0 (i1 + 1) i2 h
set_option maxRecDepth 100000 in
set_option maxHeartbeats 4000000 in
theorem l_X8_holeCount_4 {X : MX} {l : Launch} {G : GX} {h0 : AH} {rr : Int32} {hr : AH} (C : Cx X G RX8 cX8_holeCount 3 (some .int) 0 0 h0) (C2 : Cy X l "holeCount" []) : ∀ (n : Nat) (r0 : Nat) (i1 : Int32) (i2 : Int32) (h : AH), f_X8_holeCount_4 n r0 i1 i2 h = some (rr, hr) → V X G h0 (QI rr hr) 4 [(0, .ref r0), (1, .int i1), (2, .int i2)] [] h := by
  intro n
  induction n with
  | zero => intro r0 i1 i2 h hf; rw [f_X8_holeCount_4] at hf; cases hf
  | succ n ih =>
    intro r0 i1 i2 h hf
    rw [f_X8_holeCount_4] at hf
    refine C.seg (pe := 6) (lv' := [(0, .ref r0), (1, .int i1), (2, .int i2)]) (st' := [.ref r0, .int i2]) [(.iload_n 2, 1, 0), (.aload_n 0, 1, 0)] (by decide +kernel) rfl ?_
    obtain ⟨a1, ga1, hf⟩ := Option.bind_eq_some_iff.mp hf
    refine C.rdA fr_668 ga1 (by decide +kernel) rfl ?_
    obtain ⟨x2, gx2, hf⟩ := Option.bind_eq_some_iff.mp hf
    refine C.alen gx2 (by decide +kernel) rfl ?_
    refine C.icmp_ge (off := 21) (tgt := 31) (pf := 13) (by decide +kernel) (by decide) rfl (fun c6 => ?_) (fun c6 => ?_)
    · replace hf := ifp c6 hf
      refine C.seg (pe := 32) (lv' := [(0, .ref r0), (1, .int i1), (2, .int i2)]) (st' := [.int i1]) [(.iload_n 1, 1, 0)] (by decide +kernel) rfl ?_
      cases hf
      exact C.retI rfl (by decide +kernel) ⟨rfl, rfl⟩
    · replace hf := ifn c6 hf
      refine C.seg (pe := 14) (lv' := [(0, .ref r0), (1, .int i1), (2, .int i2)]) (st' := [.ref r0]) [(.aload_n 0, 1, 0)] (by decide +kernel) rfl ?_
      obtain ⟨a3, ga3, hf⟩ := Option.bind_eq_some_iff.mp hf
      refine C.rdA fr_668 ga3 (by decide +kernel) rfl ?_
      refine C.seg (pe := 18) (lv' := [(0, .ref r0), (1, .int i1), (2, .int i2)]) (st' := [.int i2, .ref a3]) [(.iload_n 2, 1, 0)] (by decide +kernel) rfl ?_
      obtain ⟨x4, gx4, hf⟩ := Option.bind_eq_some_iff.mp hf
      refine C.zald 2 rfl gx4 (by decide +kernel) rfl ?_
      refine C.if_eq (off := 6) (tgt := 25) (pf := 22) (by decide +kernel) (by decide) rfl (fun c5 => ?_) (fun c5 => ?_)
      · replace hf := ifp c5 hf
        exact l_X8_holeCount_25 C C2 ih r0 i1 i2 h hf
      · replace hf := ifn c5 hf
        refine C.seg (pe := 25) (lv' := [(1, .int (i1 + 1)), (0, .ref r0), (2, .int i2)]) (st' := []) [(.iinc 1 1, 3, 1)] (by decide +kernel) rfl ?_
        refine Vsub [1, 0, 2] rfl ?_
        exact l_X8_holeCount_25 C C2 ih r0 (i1 + 1) i2 h hf
def f_X8_holeCount (a0 : Nat) (h : AH) : Option (Int32 × AH) :=
  if isO 8 h a0 = true then
    f_X8_holeCount_4 FU a0 0 0 h
  else none
set_option maxRecDepth 100000 in
set_option maxHeartbeats 4000000 in
theorem w_X8_holeCount {l : Launch} {G : GX} {a0 : Nat} {h : AH} {rr : Int32} {hr : AH} (hf : f_X8_holeCount a0 h = some (rr, hr)) : Ct l G yX8_holeCount 0 0 [.ref a0] h (QI rr hr) := by
  unfold f_X8_holeCount at hf
  obtain ⟨ho, hf⟩ := ifO hf
  refine Ct_of (own := RX8) (cc := cX8_holeCount) (nL := 3) (ret := (some .int)) rfl rfl k_735 (Nat.le_of_ble_eq_true rfl) (fun X C2 C => ?_)
  show V X G h (QI rr hr) 0 [(0, .ref a0)] [] h
  refine C.seg (pe := 4) (lv' := [(2, .int 0), (1, .int 0), (0, .ref a0)]) (st' := []) [(.iconst 0, 1, 0), (.istore_n 1, 1, 0), (.iconst 0, 1, 0), (.istore_n 2, 1, 0)] (by decide +kernel) rfl ?_
  refine Vsub [2, 1, 0] rfl ?_
  exact l_X8_holeCount_4 C C2 FU a0 0 0 h hf
theorem o_X8_holeCount {a0 : Nat} {h : AH} {rr : Int32} {hr : AH} (hf : f_X8_holeCount a0 h = some (rr, hr)) : isO 8 h a0 = true := by
  unfold f_X8_holeCount at hf
  exact (ifO hf).1
/-! WallHouse$Wall.painted()I -/
def f_X8_painted_26 (k4 : Nat → Int32 → Int32 → AH → Option (Int32 × AH)) (r0 : Nat) (i1 : Int32) (i2 : Int32) (h : AH) : Option (Int32 × AH) :=
  k4 r0 i1 (i2 + 1) h
set_option maxRecDepth 100000 in
set_option maxHeartbeats 4000000 in
theorem l_X8_painted_26 {X : MX} {l : Launch} {G : GX} {h0 : AH} {rr : Int32} {hr : AH} (C : Cx X G RX8 cX8_painted 3 (some .int) 0 0 h0) (C2 : Cy X l "painted" []) {k4 : Nat → Int32 → Int32 → AH → Option (Int32 × AH)} (hk4 : ∀ (r0 : Nat) (i1 : Int32) (i2 : Int32) (h : AH), k4 r0 i1 i2 h = some (rr, hr) → V X G h0 (QI rr hr) 4 [(0, .ref r0), (1, .int i1), (2, .int i2)] [] h) (r0 : Nat) (i1 : Int32) (i2 : Int32) (h : AH) (hf : f_X8_painted_26 k4 r0 i1 i2 h = some (rr, hr)) : V X G h0 (QI rr hr) 26 [(0, .ref r0), (1, .int i1), (2, .int i2)] [] h := by
  unfold f_X8_painted_26 at hf
  refine C.seg (pe := 29) (lv' := [(2, .int (i2 + 1)), (0, .ref r0), (1, .int i1)]) (st' := []) [(.iinc 2 1, 3, 1)] (by decide +kernel) rfl ?_
  refine C.goto (off := (-25)) (tgt := 4) (by decide +kernel) (by decide) ?_
  refine Vsub [1, 2, 0] rfl ?_
  exact hk4 r0 i1 (i2 + 1) h hf
def f_X8_painted_4 : Nat → Nat → Int32 → Int32 → AH → Option (Int32 × AH)
  | 0, _, _, _, _ => none
  | n + 1, r0, i1, i2, h =>
    (gA 8 h r0 12).bind fun a1 =>
    (aN h a1).bind fun x2 =>
    if x2 ≤ i2 then
      some (i1, h)
    else
      (gA 8 h r0 12).bind fun a3 =>
      (aI 1 h a3 i2).bind fun x4 =>
      if x4 = (-1) then
        f_X8_painted_26 (f_X8_painted_4 n) r0 i1 i2 h
      else
        f_X8_painted_26 (f_X8_painted_4 n) r0 (i1 + 1) i2 h
set_option maxRecDepth 100000 in
set_option maxHeartbeats 4000000 in
theorem l_X8_painted_4 {X : MX} {l : Launch} {G : GX} {h0 : AH} {rr : Int32} {hr : AH} (C : Cx X G RX8 cX8_painted 3 (some .int) 0 0 h0) (C2 : Cy X l "painted" []) : ∀ (n : Nat) (r0 : Nat) (i1 : Int32) (i2 : Int32) (h : AH), f_X8_painted_4 n r0 i1 i2 h = some (rr, hr) → V X G h0 (QI rr hr) 4 [(0, .ref r0), (1, .int i1), (2, .int i2)] [] h := by
  intro n
  induction n with
  | zero => intro r0 i1 i2 h hf; rw [f_X8_painted_4] at hf; cases hf
  | succ n ih =>
    intro r0 i1 i2 h hf
    rw [f_X8_painted_4] at hf
    refine C.seg (pe := 6) (lv' := [(0, .ref r0), (1, .int i1), (2, .int i2)]) (st' := [.ref r0, .int i2]) [(.iload_n 2, 1, 0), (.aload_n 0, 1, 0)] (by decide +kernel) rfl ?_
    obtain ⟨a1, ga1, hf⟩ := Option.bind_eq_some_iff.mp hf
    refine C.rdA fr_670 ga1 (by decide +kernel) rfl ?_
    obtain ⟨x2, gx2, hf⟩ := Option.bind_eq_some_iff.mp hf
    refine C.alen gx2 (by decide +kernel) rfl ?_
    refine C.icmp_ge (off := 22) (tgt := 32) (pf := 13) (by decide +kernel) (by decide) rfl (fun c6 => ?_) (fun c6 => ?_)
    · replace hf := ifp c6 hf
      refine C.seg (pe := 33) (lv' := [(0, .ref r0), (1, .int i1), (2, .int i2)]) (st' := [.int i1]) [(.iload_n 1, 1, 0)] (by decide +kernel) rfl ?_
      cases hf
      exact C.retI rfl (by decide +kernel) ⟨rfl, rfl⟩
    · replace hf := ifn c6 hf
      refine C.seg (pe := 14) (lv' := [(0, .ref r0), (1, .int i1), (2, .int i2)]) (st' := [.ref r0]) [(.aload_n 0, 1, 0)] (by decide +kernel) rfl ?_
      obtain ⟨a3, ga3, hf⟩ := Option.bind_eq_some_iff.mp hf
      refine C.rdA fr_670 ga3 (by decide +kernel) rfl ?_
      refine C.seg (pe := 18) (lv' := [(0, .ref r0), (1, .int i1), (2, .int i2)]) (st' := [.int i2, .ref a3]) [(.iload_n 2, 1, 0)] (by decide +kernel) rfl ?_
      obtain ⟨x4, gx4, hf⟩ := Option.bind_eq_some_iff.mp hf
      refine C.bald 1 rfl gx4 (by decide +kernel) rfl ?_
      refine C.seg (pe := 20) (lv' := [(0, .ref r0), (1, .int i1), (2, .int i2)]) (st' := [.int (-1), .int x4]) [(.iconst (-1), 1, (-1))] (by decide +kernel) rfl ?_
      refine C.icmp_eq (off := 6) (tgt := 26) (pf := 23) (by decide +kernel) (by decide) rfl (fun c5 => ?_) (fun c5 => ?_)
      · replace hf := ifp c5 hf
        exact l_X8_painted_26 C C2 ih r0 i1 i2 h hf
      · replace hf := ifn c5 hf
        refine C.seg (pe := 26) (lv' := [(1, .int (i1 + 1)), (0, .ref r0), (2, .int i2)]) (st' := []) [(.iinc 1 1, 3, 1)] (by decide +kernel) rfl ?_
        refine Vsub [1, 0, 2] rfl ?_
        exact l_X8_painted_26 C C2 ih r0 (i1 + 1) i2 h hf
def f_X8_painted (a0 : Nat) (h : AH) : Option (Int32 × AH) :=
  if isO 8 h a0 = true then
    f_X8_painted_4 FU a0 0 0 h
  else none
set_option maxRecDepth 100000 in
set_option maxHeartbeats 4000000 in
theorem w_X8_painted {l : Launch} {G : GX} {a0 : Nat} {h : AH} {rr : Int32} {hr : AH} (hf : f_X8_painted a0 h = some (rr, hr)) : Ct l G yX8_painted 0 0 [.ref a0] h (QI rr hr) := by
  unfold f_X8_painted at hf
  obtain ⟨ho, hf⟩ := ifO hf
  refine Ct_of (own := RX8) (cc := cX8_painted) (nL := 3) (ret := (some .int)) rfl rfl k_739 (Nat.le_of_ble_eq_true rfl) (fun X C2 C => ?_)
  show V X G h (QI rr hr) 0 [(0, .ref a0)] [] h
  refine C.seg (pe := 4) (lv' := [(2, .int 0), (1, .int 0), (0, .ref a0)]) (st' := []) [(.iconst 0, 1, 0), (.istore_n 1, 1, 0), (.iconst 0, 1, 0), (.istore_n 2, 1, 0)] (by decide +kernel) rfl ?_
  refine Vsub [2, 1, 0] rfl ?_
  exact l_X8_painted_4 C C2 FU a0 0 0 h hf
theorem o_X8_painted {a0 : Nat} {h : AH} {rr : Int32} {hr : AH} (hf : f_X8_painted a0 h = some (rr, hr)) : isO 8 h a0 = true := by
  unfold f_X8_painted at hf
  exact (ifO hf).1
/-! WallHouse$Wall.holds(IIII)Z -/
def f_X8_holds_61 (si0 : Int32) (h : AH) : Option (Int32 × AH) :=
  (ckZ si0).bind fun x1 =>
  some (x1, h)
set_option maxRecDepth 100000 in
set_option maxHeartbeats 4000000 in
theorem l_X8_holds_61 {X : MX} {l : Launch} {G : GX} {h0 : AH} {rr : Int32} {hr : AH} (C : Cx X G RX8 cX8_holds 5 (some .boolean) 0 0 h0) (C2 : Cy X l "holds" []) (si0 : Int32) (h : AH) (hf : f_X8_holds_61 si0 h = some (rr, hr)) : V X G h0 (QI rr hr) 61 [] [.int si0] h := by
  unfold f_X8_holds_61 at hf
  obtain ⟨x1, gx1, hf⟩ := Option.bind_eq_some_iff.mp hf
  have ex1 := ckZ_eq gx1
  subst ex1
  cases hf
  exact C.retZ rfl gx1 (by decide +kernel) ⟨rfl, rfl⟩
def f_X8_holds_60 (h : AH) : Option (Int32 × AH) :=
  f_X8_holds_61 0 h
set_option maxRecDepth 100000 in
set_option maxHeartbeats 4000000 in
theorem l_X8_holds_60 {X : MX} {l : Launch} {G : GX} {h0 : AH} {rr : Int32} {hr : AH} (C : Cx X G RX8 cX8_holds 5 (some .boolean) 0 0 h0) (C2 : Cy X l "holds" []) (h : AH) (hf : f_X8_holds_60 h = some (rr, hr)) : V X G h0 (QI rr hr) 60 [] [] h := by
  unfold f_X8_holds_60 at hf
  refine C.seg (pe := 61) (lv' := []) (st' := [.int 0]) [(.iconst 0, 1, 0)] (by decide +kernel) rfl ?_
  exact l_X8_holds_61 C C2 0 h hf
def f_X8_holds (a0 : Nat) (p1 : Int32) (p2 : Int32) (p3 : Int32) (p4 : Int32) (h : AH) : Option (Int32 × AH) :=
  if isO 8 h a0 = true then
    if p1 < 0 then
      f_X8_holds_60 h
    else
      (gI 8 h a0 0).bind fun x1 =>
      if x1 ≤ p1 then
        f_X8_holds_60 h
      else
        if p2 < 0 then
          f_X8_holds_60 h
        else
          (gI 8 h a0 1).bind fun x2 =>
          if x2 ≤ p2 then
            f_X8_holds_60 h
          else
            if p3 < 1 then
              f_X8_holds_60 h
            else
              (gI 8 h a0 0).bind fun x3 =>
              if x3 - p1 < p3 then
                f_X8_holds_60 h
              else
                if p4 < 1 then
                  f_X8_holds_60 h
                else
                  (gI 8 h a0 1).bind fun x4 =>
                  if x4 - p2 < p4 then
                    f_X8_holds_60 h
                  else
                    f_X8_holds_61 1 h
  else none
set_option maxRecDepth 100000 in
set_option maxHeartbeats 4000000 in
theorem w_X8_holds {l : Launch} {G : GX} {a0 : Nat} {p1 : Int32} {p2 : Int32} {p3 : Int32} {p4 : Int32} {h : AH} {rr : Int32} {hr : AH} (hf : f_X8_holds a0 p1 p2 p3 p4 h = some (rr, hr)) : Ct l G yX8_holds 0 0 [.ref a0, .int p1, .int p2, .int p3, .int p4] h (QI rr hr) := by
  unfold f_X8_holds at hf
  obtain ⟨ho, hf⟩ := ifO hf
  refine Ct_of (own := RX8) (cc := cX8_holds) (nL := 5) (ret := (some .boolean)) rfl rfl k_747 (Nat.le_of_ble_eq_true rfl) (fun X C2 C => ?_)
  show V X G h (QI rr hr) 0 [(0, .ref a0), (1, .int p1), (2, .int p2), (3, .int p3), (4, .int p4)] [] h
  refine C.seg (pe := 1) (lv' := [(0, .ref a0), (1, .int p1), (2, .int p2), (3, .int p3), (4, .int p4)]) (st' := [.int p1]) [(.iload_n 1, 1, 0)] (by decide +kernel) rfl ?_
  refine C.if_lt (off := 59) (tgt := 60) (pf := 4) (by decide +kernel) (by decide) rfl (fun c12 => ?_) (fun c12 => ?_)
  · replace hf := ifp c12 hf
    refine Vsub [] rfl ?_
    exact l_X8_holds_60 C C2 h hf
  · replace hf := ifn c12 hf
    refine C.seg (pe := 6) (lv' := [(0, .ref a0), (1, .int p1), (2, .int p2), (3, .int p3), (4, .int p4)]) (st' := [.ref a0, .int p1]) [(.iload_n 1, 1, 0), (.aload_n 0, 1, 0)] (by decide +kernel) rfl ?_
    obtain ⟨x1, gx1, hf⟩ := Option.bind_eq_some_iff.mp hf
    refine C.rdI fr_644 gx1 (by decide +kernel) rfl ?_
    refine C.icmp_ge (off := 51) (tgt := 60) (pf := 12) (by decide +kernel) (by decide) rfl (fun c11 => ?_) (fun c11 => ?_)
    · replace hf := ifp c11 hf
      refine Vsub [] rfl ?_
      exact l_X8_holds_60 C C2 h hf
    · replace hf := ifn c11 hf
      refine C.seg (pe := 13) (lv' := [(0, .ref a0), (1, .int p1), (2, .int p2), (3, .int p3), (4, .int p4)]) (st' := [.int p2]) [(.iload_n 2, 1, 0)] (by decide +kernel) rfl ?_
      refine C.if_lt (off := 47) (tgt := 60) (pf := 16) (by decide +kernel) (by decide) rfl (fun c10 => ?_) (fun c10 => ?_)
      · replace hf := ifp c10 hf
        refine Vsub [] rfl ?_
        exact l_X8_holds_60 C C2 h hf
      · replace hf := ifn c10 hf
        refine C.seg (pe := 18) (lv' := [(0, .ref a0), (1, .int p1), (2, .int p2), (3, .int p3), (4, .int p4)]) (st' := [.ref a0, .int p2]) [(.iload_n 2, 1, 0), (.aload_n 0, 1, 0)] (by decide +kernel) rfl ?_
        obtain ⟨x2, gx2, hf⟩ := Option.bind_eq_some_iff.mp hf
        refine C.rdI fr_647 gx2 (by decide +kernel) rfl ?_
        refine C.icmp_ge (off := 39) (tgt := 60) (pf := 24) (by decide +kernel) (by decide) rfl (fun c9 => ?_) (fun c9 => ?_)
        · replace hf := ifp c9 hf
          refine Vsub [] rfl ?_
          exact l_X8_holds_60 C C2 h hf
        · replace hf := ifn c9 hf
          refine C.seg (pe := 26) (lv' := [(0, .ref a0), (1, .int p1), (2, .int p2), (3, .int p3), (4, .int p4)]) (st' := [.int 1, .int p3]) [(.iload_n 3, 1, 0), (.iconst 1, 1, 1)] (by decide +kernel) rfl ?_
          refine C.icmp_lt (off := 34) (tgt := 60) (pf := 29) (by decide +kernel) (by decide) rfl (fun c8 => ?_) (fun c8 => ?_)
          · replace hf := ifp c8 hf
            refine Vsub [] rfl ?_
            exact l_X8_holds_60 C C2 h hf
          · replace hf := ifn c8 hf
            refine C.seg (pe := 31) (lv' := [(0, .ref a0), (1, .int p1), (2, .int p2), (3, .int p3), (4, .int p4)]) (st' := [.ref a0, .int p3]) [(.iload_n 3, 1, 0), (.aload_n 0, 1, 0)] (by decide +kernel) rfl ?_
            obtain ⟨x3, gx3, hf⟩ := Option.bind_eq_some_iff.mp hf
            refine C.rdI fr_644 gx3 (by decide +kernel) rfl ?_
            refine C.seg (pe := 36) (lv' := [(0, .ref a0), (1, .int p1), (2, .int p2), (3, .int p3), (4, .int p4)]) (st' := [.int (x3 - p1), .int p3]) [(.iload_n 1, 1, 0), (.isub, 1, 0)] (by decide +kernel) rfl ?_
            refine C.icmp_gt (off := 24) (tgt := 60) (pf := 39) (by decide +kernel) (by decide) rfl (fun c7 => ?_) (fun c7 => ?_)
            · replace hf := ifp c7 hf
              refine Vsub [] rfl ?_
              exact l_X8_holds_60 C C2 h hf
            · replace hf := ifn c7 hf
              refine C.seg (pe := 42) (lv' := [(0, .ref a0), (1, .int p1), (2, .int p2), (3, .int p3), (4, .int p4)]) (st' := [.int 1, .int p4]) [(.iload 4, 2, 0), (.iconst 1, 1, 1)] (by decide +kernel) rfl ?_
              refine C.icmp_lt (off := 18) (tgt := 60) (pf := 45) (by decide +kernel) (by decide) rfl (fun c6 => ?_) (fun c6 => ?_)
              · replace hf := ifp c6 hf
                refine Vsub [] rfl ?_
                exact l_X8_holds_60 C C2 h hf
              · replace hf := ifn c6 hf
                refine C.seg (pe := 48) (lv' := [(0, .ref a0), (1, .int p1), (2, .int p2), (3, .int p3), (4, .int p4)]) (st' := [.ref a0, .int p4]) [(.iload 4, 2, 0), (.aload_n 0, 1, 0)] (by decide +kernel) rfl ?_
                obtain ⟨x4, gx4, hf⟩ := Option.bind_eq_some_iff.mp hf
                refine C.rdI fr_647 gx4 (by decide +kernel) rfl ?_
                refine C.seg (pe := 53) (lv' := [(0, .ref a0), (1, .int p1), (2, .int p2), (3, .int p3), (4, .int p4)]) (st' := [.int (x4 - p2), .int p4]) [(.iload_n 2, 1, 0), (.isub, 1, 0)] (by decide +kernel) rfl ?_
                refine C.icmp_gt (off := 7) (tgt := 60) (pf := 56) (by decide +kernel) (by decide) rfl (fun c5 => ?_) (fun c5 => ?_)
                · replace hf := ifp c5 hf
                  refine Vsub [] rfl ?_
                  exact l_X8_holds_60 C C2 h hf
                · replace hf := ifn c5 hf
                  refine C.seg (pe := 57) (lv' := [(0, .ref a0), (1, .int p1), (2, .int p2), (3, .int p3), (4, .int p4)]) (st' := [.int 1]) [(.iconst 1, 1, 1)] (by decide +kernel) rfl ?_
                  refine C.goto (off := 4) (tgt := 61) (by decide +kernel) (by decide) ?_
                  refine Vsub [] rfl ?_
                  exact l_X8_holds_61 C C2 1 h hf
theorem o_X8_holds {a0 : Nat} {p1 : Int32} {p2 : Int32} {p3 : Int32} {p4 : Int32} {h : AH} {rr : Int32} {hr : AH} (hf : f_X8_holds a0 p1 p2 p3 p4 h = some (rr, hr)) : isO 8 h a0 = true := by
  unfold f_X8_holds at hf
  exact (ifO hf).1
/-! WallHouse$Wall.placeOf(II)I -/
def f_X8_placeOf (a0 : Nat) (p1 : Int32) (p2 : Int32) (h : AH) : Option (Int32 × AH) :=
  if isO 8 h a0 = true then
    (gI 8 h a0 0).bind fun x1 =>
    some ((p2 * x1) + p1, h)
  else none
set_option maxRecDepth 100000 in
set_option maxHeartbeats 4000000 in
theorem w_X8_placeOf {l : Launch} {G : GX} {a0 : Nat} {p1 : Int32} {p2 : Int32} {h : AH} {rr : Int32} {hr : AH} (hf : f_X8_placeOf a0 p1 p2 h = some (rr, hr)) : Ct l G yX8_placeOf 0 0 [.ref a0, .int p1, .int p2] h (QI rr hr) := by
  unfold f_X8_placeOf at hf
  obtain ⟨ho, hf⟩ := ifO hf
  refine Ct_of (own := RX8) (cc := cX8_placeOf) (nL := 3) (ret := (some .int)) rfl rfl k_756 (Nat.le_of_ble_eq_true rfl) (fun X C2 C => ?_)
  show V X G h (QI rr hr) 0 [(0, .ref a0), (1, .int p1), (2, .int p2)] [] h
  refine C.seg (pe := 2) (lv' := [(0, .ref a0), (1, .int p1), (2, .int p2)]) (st' := [.ref a0, .int p2]) [(.iload_n 2, 1, 0), (.aload_n 0, 1, 0)] (by decide +kernel) rfl ?_
  obtain ⟨x1, gx1, hf⟩ := Option.bind_eq_some_iff.mp hf
  refine C.rdI fr_644 gx1 (by decide +kernel) rfl ?_
  refine C.seg (pe := 8) (lv' := [(0, .ref a0), (1, .int p1), (2, .int p2)]) (st' := [.int ((p2 * x1) + p1)]) [(.imul, 1, 0), (.iload_n 1, 1, 0), (.iadd, 1, 0)] (by decide +kernel) rfl ?_
  cases hf
  exact C.retI rfl (by decide +kernel) ⟨rfl, rfl⟩
theorem o_X8_placeOf {a0 : Nat} {p1 : Int32} {p2 : Int32} {h : AH} {rr : Int32} {hr : AH} (hf : f_X8_placeOf a0 p1 p2 h = some (rr, hr)) : isO 8 h a0 = true := by
  unfold f_X8_placeOf at hf
  exact (ifO hf).1
/-! WallHouse$Wall.cut(IIII)I -/
def f_X8_cut_88 (k20 : Nat → Int32 → Int32 → Int32 → Int32 → Int32 → Int32 → AH → Option (Int32 × AH)) (k32 : Nat → Int32 → Int32 → Int32 → Int32 → Int32 → Int32 → Int32 → AH → Option (Int32 × AH)) (r0 : Nat) (i1 : Int32) (i2 : Int32) (i3 : Int32) (i4 : Int32) (i5 : Int32) (i6 : Int32) (i7 : Int32) (h : AH) : Option (Int32 × AH) :=
  k32 r0 i1 i2 i3 i4 i5 i6 (i7 + 1) h
set_option maxRecDepth 100000 in
set_option maxHeartbeats 4000000 in
theorem l_X8_cut_88 {X : MX} {l : Launch} {G : GX} {h0 : AH} {rr : Int32} {hr : AH} (C : Cx X G RX8 cX8_cut 9 (some .int) 1 24 h0) (C2 : Cy X l "cut" []) {k20 : Nat → Int32 → Int32 → Int32 → Int32 → Int32 → Int32 → AH → Option (Int32 × AH)} (hk20 : ∀ (r0 : Nat) (i1 : Int32) (i2 : Int32) (i3 : Int32) (i4 : Int32) (i5 : Int32) (i6 : Int32) (h : AH), k20 r0 i1 i2 i3 i4 i5 i6 h = some (rr, hr) → V X G h0 (QI rr hr) 20 [(0, .ref r0), (1, .int i1), (2, .int i2), (3, .int i3), (4, .int i4), (5, .int i5), (6, .int i6)] [] h) {k32 : Nat → Int32 → Int32 → Int32 → Int32 → Int32 → Int32 → Int32 → AH → Option (Int32 × AH)} (hk32 : ∀ (r0 : Nat) (i1 : Int32) (i2 : Int32) (i3 : Int32) (i4 : Int32) (i5 : Int32) (i6 : Int32) (i7 : Int32) (h : AH), k32 r0 i1 i2 i3 i4 i5 i6 i7 h = some (rr, hr) → V X G h0 (QI rr hr) 32 [(0, .ref r0), (1, .int i1), (2, .int i2), (3, .int i3), (4, .int i4), (5, .int i5), (6, .int i6), (7, .int i7)] [] h) (r0 : Nat) (i1 : Int32) (i2 : Int32) (i3 : Int32) (i4 : Int32) (i5 : Int32) (i6 : Int32) (i7 : Int32) (h : AH) (hf : f_X8_cut_88 k20 k32 r0 i1 i2 i3 i4 i5 i6 i7 h = some (rr, hr)) : V X G h0 (QI rr hr) 88 [(0, .ref r0), (1, .int i1), (2, .int i2), (3, .int i3), (4, .int i4), (5, .int i5), (6, .int i6), (7, .int i7)] [] h := by
  unfold f_X8_cut_88 at hf
  refine C.seg (pe := 91) (lv' := [(7, .int (i7 + 1)), (0, .ref r0), (1, .int i1), (2, .int i2), (3, .int i3), (4, .int i4), (5, .int i5), (6, .int i6)]) (st' := []) [(.iinc 7 1, 3, 1)] (by decide +kernel) rfl ?_
  refine C.goto (off := (-59)) (tgt := 32) (by decide +kernel) (by decide) ?_
  refine Vsub [1, 2, 3, 4, 5, 6, 7, 0] rfl ?_
  exact hk32 r0 i1 i2 i3 i4 i5 i6 (i7 + 1) h hf
def f_X8_cut_32 (k20 : Nat → Int32 → Int32 → Int32 → Int32 → Int32 → Int32 → AH → Option (Int32 × AH)) : Nat → Nat → Int32 → Int32 → Int32 → Int32 → Int32 → Int32 → Int32 → AH → Option (Int32 × AH)
  | 0, _, _, _, _, _, _, _, _, _ => none
  | n + 1, r0, i1, i2, i3, i4, i5, i6, i7, h =>
    if i1 + i3 ≤ i7 then
      k20 r0 i1 i2 i3 i4 i5 (i6 + 1) h
    else
      b2 (f_X8_placeOf r0 i7 i6 h) fun x1 h2 =>
      (gA 8 h2 r0 11).bind fun a3 =>
      (aI 2 h2 a3 x1).bind fun x4 =>
      if x4 = 0 then
        (gA 8 h2 r0 11).bind fun a5 =>
        (sI 2 h2 a5 x1 1).bind fun h6 =>
        (gA 8 h6 r0 12).bind fun a7 =>
        (sI 1 h6 a7 x1 (-1)).bind fun h8 =>
        (gA 8 h8 r0 13).bind fun a9 =>
        (sI 1 h8 a9 x1 (-2)).bind fun h10 =>
        f_X8_cut_88 k20 (f_X8_cut_32 k20 n) r0 i1 i2 i3 i4 (i5 + 1) i6 i7 h10
      else
        f_X8_cut_88 k20 (f_X8_cut_32 k20 n) r0 i1 i2 i3 i4 i5 i6 i7 h2
set_option maxRecDepth 100000 in
set_option maxHeartbeats 4000000 in
theorem l_X8_cut_32 {X : MX} {l : Launch} {G : GX} {h0 : AH} {rr : Int32} {hr : AH} (C : Cx X G RX8 cX8_cut 9 (some .int) 1 24 h0) (C2 : Cy X l "cut" []) {k20 : Nat → Int32 → Int32 → Int32 → Int32 → Int32 → Int32 → AH → Option (Int32 × AH)} (hk20 : ∀ (r0 : Nat) (i1 : Int32) (i2 : Int32) (i3 : Int32) (i4 : Int32) (i5 : Int32) (i6 : Int32) (h : AH), k20 r0 i1 i2 i3 i4 i5 i6 h = some (rr, hr) → V X G h0 (QI rr hr) 20 [(0, .ref r0), (1, .int i1), (2, .int i2), (3, .int i3), (4, .int i4), (5, .int i5), (6, .int i6)] [] h) : ∀ (n : Nat) (r0 : Nat) (i1 : Int32) (i2 : Int32) (i3 : Int32) (i4 : Int32) (i5 : Int32) (i6 : Int32) (i7 : Int32) (h : AH), f_X8_cut_32 k20 n r0 i1 i2 i3 i4 i5 i6 i7 h = some (rr, hr) → V X G h0 (QI rr hr) 32 [(0, .ref r0), (1, .int i1), (2, .int i2), (3, .int i3), (4, .int i4), (5, .int i5), (6, .int i6), (7, .int i7)] [] h := by
  intro n
  induction n with
  | zero => intro r0 i1 i2 i3 i4 i5 i6 i7 h hf; rw [f_X8_cut_32] at hf; cases hf
  | succ n ih =>
    intro r0 i1 i2 i3 i4 i5 i6 i7 h hf
    rw [f_X8_cut_32] at hf
    refine C.seg (pe := 37) (lv' := [(0, .ref r0), (1, .int i1), (2, .int i2), (3, .int i3), (4, .int i4), (5, .int i5), (6, .int i6), (7, .int i7)]) (st' := [.int (i1 + i3), .int i7]) [(.iload 7, 2, 0), (.iload_n 1, 1, 0), (.iload_n 3, 1, 0), (.iadd, 1, 0)] (by decide +kernel) rfl ?_
    refine C.icmp_ge (off := 57) (tgt := 94) (pf := 40) (by decide +kernel) (by decide) rfl (fun c12 => ?_) (fun c12 => ?_)
    · replace hf := ifp c12 hf
      refine C.seg (pe := 97) (lv' := [(6, .int (i6 + 1)), (0, .ref r0), (1, .int i1), (2, .int i2), (3, .int i3), (4, .int i4), (5, .int i5), (7, .int i7)]) (st' := []) [(.iinc 6 1, 3, 1)] (by decide +kernel) rfl ?_
      refine C.goto (off := (-77)) (tgt := 20) (by decide +kernel) (by decide) ?_
      refine Vsub [1, 2, 3, 4, 5, 6, 0] rfl ?_
      exact hk20 r0 i1 i2 i3 i4 i5 (i6 + 1) h hf
    · replace hf := ifn c12 hf
      refine C.seg (pe := 45) (lv' := [(0, .ref r0), (1, .int i1), (2, .int i2), (3, .int i3), (4, .int i4), (5, .int i5), (6, .int i6), (7, .int i7)]) (st' := [.int i6, .int i7, .ref r0]) [(.aload_n 0, 1, 0), (.iload 7, 2, 0), (.iload 6, 2, 0)] (by decide +kernel) rfl ?_
      obtain ⟨x1, h2, gx1, hf⟩ := b2_some hf
      refine C.callVr C2 [.int i7, .int i6] [] mv_753 rfl (o_X8_placeOf gx1) (w_X8_placeOf gx1) (by omega) (by omega) (Nat.le_of_ble_eq_true rfl) (by decide +kernel) rfl ?_
      refine C.seg (pe := 51) (lv' := [(8, .int x1), (0, .ref r0), (1, .int i1), (2, .int i2), (3, .int i3), (4, .int i4), (5, .int i5), (6, .int i6), (7, .int i7)]) (st' := [.ref r0]) [(.istore 8, 2, 0), (.aload_n 0, 1, 0)] (by decide +kernel) rfl ?_
      obtain ⟨a3, ga3, hf⟩ := Option.bind_eq_some_iff.mp hf
      refine C.rdA fr_668 ga3 (by decide +kernel) rfl ?_
      refine C.seg (pe := 56) (lv' := [(8, .int x1), (0, .ref r0), (1, .int i1), (2, .int i2), (3, .int i3), (4, .int i4), (5, .int i5), (6, .int i6), (7, .int i7)]) (st' := [.int x1, .ref a3]) [(.iload 8, 2, 0)] (by decide +kernel) rfl ?_
      obtain ⟨x4, gx4, hf⟩ := Option.bind_eq_some_iff.mp hf
      refine C.zald 2 rfl gx4 (by decide +kernel) rfl ?_
      refine C.if_ne (off := 31) (tgt := 88) (pf := 60) (by decide +kernel) (by decide) rfl (fun c11 => ?_) (fun c11 => ?_)
      · replace hf := ifn c11 hf
        refine Vsub [1, 2, 3, 4, 5, 6, 7, 8] rfl ?_
        exact l_X8_cut_88 C C2 hk20 ih r0 i1 i2 i3 i4 i5 i6 i7 h2 hf
      · replace hf := ifp c11 hf
        refine C.seg (pe := 61) (lv' := [(8, .int x1), (0, .ref r0), (1, .int i1), (2, .int i2), (3, .int i3), (4, .int i4), (5, .int i5), (6, .int i6), (7, .int i7)]) (st' := [.ref r0]) [(.aload_n 0, 1, 0)] (by decide +kernel) rfl ?_
        obtain ⟨a5, ga5, hf⟩ := Option.bind_eq_some_iff.mp hf
        refine C.rdA fr_668 ga5 (by decide +kernel) rfl ?_
        refine C.seg (pe := 67) (lv' := [(8, .int x1), (0, .ref r0), (1, .int i1), (2, .int i2), (3, .int i3), (4, .int i4), (5, .int i5), (6, .int i6), (7, .int i7)]) (st' := [.int 1, .int x1, .ref a5]) [(.iload 8, 2, 0), (.iconst 1, 1, 1)] (by decide +kernel) rfl ?_
        obtain ⟨h6, gh6, hf⟩ := Option.bind_eq_some_iff.mp hf
        refine C.zast gh6 (by decide +kernel) rfl ?_
        refine C.seg (pe := 69) (lv' := [(8, .int x1), (0, .ref r0), (1, .int i1), (2, .int i2), (3, .int i3), (4, .int i4), (5, .int i5), (6, .int i6), (7, .int i7)]) (st' := [.ref r0]) [(.aload_n 0, 1, 0)] (by decide +kernel) rfl ?_
        obtain ⟨a7, ga7, hf⟩ := Option.bind_eq_some_iff.mp hf
        refine C.rdA fr_670 ga7 (by decide +kernel) rfl ?_
        refine C.seg (pe := 75) (lv' := [(8, .int x1), (0, .ref r0), (1, .int i1), (2, .int i2), (3, .int i3), (4, .int i4), (5, .int i5), (6, .int i6), (7, .int i7)]) (st' := [.int (-1), .int x1, .ref a7]) [(.iload 8, 2, 0), (.iconst (-1), 1, (-1))] (by decide +kernel) rfl ?_
        obtain ⟨h8, gh8, hf⟩ := Option.bind_eq_some_iff.mp hf
        refine C.bast gh8 (by decide +kernel) rfl ?_
        refine C.seg (pe := 77) (lv' := [(8, .int x1), (0, .ref r0), (1, .int i1), (2, .int i2), (3, .int i3), (4, .int i4), (5, .int i5), (6, .int i6), (7, .int i7)]) (st' := [.ref r0]) [(.aload_n 0, 1, 0)] (by decide +kernel) rfl ?_
        obtain ⟨a9, ga9, hf⟩ := Option.bind_eq_some_iff.mp hf
        refine C.rdA fr_673 ga9 (by decide +kernel) rfl ?_
        refine C.seg (pe := 84) (lv' := [(8, .int x1), (0, .ref r0), (1, .int i1), (2, .int i2), (3, .int i3), (4, .int i4), (5, .int i5), (6, .int i6), (7, .int i7)]) (st' := [.int (-2), .int x1, .ref a9]) [(.iload 8, 2, 0), (.bipush (-2), 2, (-2))] (by decide +kernel) rfl ?_
        obtain ⟨h10, gh10, hf⟩ := Option.bind_eq_some_iff.mp hf
        refine C.bast gh10 (by decide +kernel) rfl ?_
        refine C.seg (pe := 88) (lv' := [(5, .int (i5 + 1)), (8, .int x1), (0, .ref r0), (1, .int i1), (2, .int i2), (3, .int i3), (4, .int i4), (6, .int i6), (7, .int i7)]) (st' := []) [(.iinc 5 1, 3, 1)] (by decide +kernel) rfl ?_
        refine Vsub [2, 3, 4, 5, 6, 0, 7, 8] rfl ?_
        exact l_X8_cut_88 C C2 hk20 ih r0 i1 i2 i3 i4 (i5 + 1) i6 i7 h10 hf
def f_X8_cut_20 : Nat → Nat → Int32 → Int32 → Int32 → Int32 → Int32 → Int32 → AH → Option (Int32 × AH)
  | 0, _, _, _, _, _, _, _, _ => none
  | n + 1, r0, i1, i2, i3, i4, i5, i6, h =>
    if i2 + i4 ≤ i6 then
      some (i5, h)
    else
      f_X8_cut_32 (f_X8_cut_20 n) FU r0 i1 i2 i3 i4 i5 i6 i1 h
set_option maxRecDepth 100000 in
set_option maxHeartbeats 4000000 in
theorem l_X8_cut_20 {X : MX} {l : Launch} {G : GX} {h0 : AH} {rr : Int32} {hr : AH} (C : Cx X G RX8 cX8_cut 9 (some .int) 1 24 h0) (C2 : Cy X l "cut" []) : ∀ (n : Nat) (r0 : Nat) (i1 : Int32) (i2 : Int32) (i3 : Int32) (i4 : Int32) (i5 : Int32) (i6 : Int32) (h : AH), f_X8_cut_20 n r0 i1 i2 i3 i4 i5 i6 h = some (rr, hr) → V X G h0 (QI rr hr) 20 [(0, .ref r0), (1, .int i1), (2, .int i2), (3, .int i3), (4, .int i4), (5, .int i5), (6, .int i6)] [] h := by
  intro n
  induction n with
  | zero => intro r0 i1 i2 i3 i4 i5 i6 h hf; rw [f_X8_cut_20] at hf; cases hf
  | succ n ih =>
    intro r0 i1 i2 i3 i4 i5 i6 h hf
    rw [f_X8_cut_20] at hf
    refine C.seg (pe := 26) (lv' := [(0, .ref r0), (1, .int i1), (2, .int i2), (3, .int i3), (4, .int i4), (5, .int i5), (6, .int i6)]) (st' := [.int (i2 + i4), .int i6]) [(.iload 6, 2, 0), (.iload_n 2, 1, 0), (.iload 4, 2, 0), (.iadd, 1, 0)] (by decide +kernel) rfl ?_
    refine C.icmp_ge (off := 74) (tgt := 100) (pf := 29) (by decide +kernel) (by decide) rfl (fun c1 => ?_) (fun c1 => ?_)
    · replace hf := ifp c1 hf
      refine C.seg (pe := 102) (lv' := [(0, .ref r0), (1, .int i1), (2, .int i2), (3, .int i3), (4, .int i4), (5, .int i5), (6, .int i6)]) (st' := [.int i5]) [(.iload 5, 2, 0)] (by decide +kernel) rfl ?_
      cases hf
      exact C.retI rfl (by decide +kernel) ⟨rfl, rfl⟩
    · replace hf := ifn c1 hf
      refine C.seg (pe := 32) (lv' := [(7, .int i1), (0, .ref r0), (1, .int i1), (2, .int i2), (3, .int i3), (4, .int i4), (5, .int i5), (6, .int i6)]) (st' := []) [(.iload_n 1, 1, 0), (.istore 7, 2, 0)] (by decide +kernel) rfl ?_
      refine Vsub [1, 2, 3, 4, 5, 6, 7, 0] rfl ?_
      exact l_X8_cut_32 C C2 ih FU r0 i1 i2 i3 i4 i5 i6 i1 h hf
def f_X8_cut (a0 : Nat) (p1 : Int32) (p2 : Int32) (p3 : Int32) (p4 : Int32) (h : AH) : Option (Int32 × AH) :=
  if isO 8 h a0 = true then
    b2 (f_X8_holds a0 p1 p2 p3 p4 h) fun x1 h2 =>
    if x1 = 0 then
      some (0, h2)
    else
      f_X8_cut_20 FU a0 p1 p2 p3 p4 0 p2 h2
  else none
set_option maxRecDepth 100000 in
set_option maxHeartbeats 4000000 in
theorem w_X8_cut {l : Launch} {G : GX} {a0 : Nat} {p1 : Int32} {p2 : Int32} {p3 : Int32} {p4 : Int32} {h : AH} {rr : Int32} {hr : AH} (hf : f_X8_cut a0 p1 p2 p3 p4 h = some (rr, hr)) : Ct l G yX8_cut 1 24 [.ref a0, .int p1, .int p2, .int p3, .int p4] h (QI rr hr) := by
  unfold f_X8_cut at hf
  obtain ⟨ho, hf⟩ := ifO hf
  refine Ct_of (own := RX8) (cc := cX8_cut) (nL := 9) (ret := (some .int)) rfl rfl k_751 (Nat.le_of_ble_eq_true rfl) (fun X C2 C => ?_)
  show V X G h (QI rr hr) 0 [(0, .ref a0), (1, .int p1), (2, .int p2), (3, .int p3), (4, .int p4)] [] h
  refine C.seg (pe := 6) (lv' := [(0, .ref a0), (1, .int p1), (2, .int p2), (3, .int p3), (4, .int p4)]) (st' := [.int p4, .int p3, .int p2, .int p1, .ref a0]) [(.aload_n 0, 1, 0), (.iload_n 1, 1, 0), (.iload_n 2, 1, 0), (.iload_n 3, 1, 0), (.iload 4, 2, 0)] (by decide +kernel) rfl ?_
  obtain ⟨x1, h2, gx1, hf⟩ := b2_some hf
  refine C.callVr C2 [.int p1, .int p2, .int p3, .int p4] [] mv_752 rfl (o_X8_holds gx1) (w_X8_holds gx1) (by omega) (by omega) (Nat.le_of_ble_eq_true rfl) (by decide +kernel) rfl ?_
  refine C.if_ne (off := 5) (tgt := 14) (pf := 12) (by decide +kernel) (by decide) rfl (fun c3 => ?_) (fun c3 => ?_)
  · replace hf := ifn c3 hf
    refine C.seg (pe := 20) (lv' := [(6, .int p2), (5, .int 0), (0, .ref a0), (1, .int p1), (2, .int p2), (3, .int p3), (4, .int p4)]) (st' := []) [(.iconst 0, 1, 0), (.istore 5, 2, 0), (.iload_n 2, 1, 0), (.istore 6, 2, 0)] (by decide +kernel) rfl ?_
    refine Vsub [2, 3, 4, 5, 6, 1, 0] rfl ?_
    exact l_X8_cut_20 C C2 FU a0 p1 p2 p3 p4 0 p2 h2 hf
  · replace hf := ifp c3 hf
    refine C.seg (pe := 13) (lv' := [(0, .ref a0), (1, .int p1), (2, .int p2), (3, .int p3), (4, .int p4)]) (st' := [.int 0]) [(.iconst 0, 1, 0)] (by decide +kernel) rfl ?_
    cases hf
    exact C.retI rfl (by decide +kernel) ⟨rfl, rfl⟩
theorem o_X8_cut {a0 : Nat} {p1 : Int32} {p2 : Int32} {p3 : Int32} {p4 : Int32} {h : AH} {rr : Int32} {hr : AH} (hf : f_X8_cut a0 p1 p2 p3 p4 h = some (rr, hr)) : isO 8 h a0 = true := by
  unfold f_X8_cut at hf
  exact (ifO hf).1
/-! WallHouse$Wall.setLeave(IIZ)V -/
def f_X8_setLeave (a0 : Nat) (p1 : Int32) (p2 : Int32) (p3 : Int32) (h : AH) : Option (AH) :=
  if isO 8 h a0 = true then
    (pI 8 h a0 4 p1).bind fun h1 =>
    (pI 8 h1 a0 5 p2).bind fun h2 =>
    (pZ 8 h2 a0 6 p3).bind fun h3 =>
    some h3
  else none
set_option maxRecDepth 100000 in
set_option maxHeartbeats 4000000 in
theorem w_X8_setLeave {l : Launch} {G : GX} {a0 : Nat} {p1 : Int32} {p2 : Int32} {p3 : Int32} {h : AH} {hr : AH} (hf : f_X8_setLeave a0 p1 p2 p3 h = some hr) : Ct l G yX8_setLeave 0 0 [.ref a0, .int p1, .int p2, .int p3] h (QV hr) := by
  unfold f_X8_setLeave at hf
  obtain ⟨ho, hf⟩ := ifO hf
  refine Ct_of (own := RX8) (cc := cX8_setLeave) (nL := 4) (ret := none) rfl rfl k_768 (Nat.le_of_ble_eq_true rfl) (fun X C2 C => ?_)
  show V X G h (QV hr) 0 [(0, .ref a0), (1, .int p1), (2, .int p2), (3, .int p3)] [] h
  refine C.seg (pe := 2) (lv' := [(0, .ref a0), (1, .int p1), (2, .int p2), (3, .int p3)]) (st' := [.int p1, .ref a0]) [(.aload_n 0, 1, 0), (.iload_n 1, 1, 0)] (by decide +kernel) rfl ?_
  obtain ⟨h1, gh1, hf⟩ := Option.bind_eq_some_iff.mp hf
  refine C.putI fl_654 gh1 (by decide +kernel) rfl ?_
  refine C.seg (pe := 7) (lv' := [(0, .ref a0), (1, .int p1), (2, .int p2), (3, .int p3)]) (st' := [.int p2, .ref a0]) [(.aload_n 0, 1, 0), (.iload_n 2, 1, 0)] (by decide +kernel) rfl ?_
  obtain ⟨h2, gh2, hf⟩ := Option.bind_eq_some_iff.mp hf
  refine C.putI fl_655 gh2 (by decide +kernel) rfl ?_
  refine C.seg (pe := 12) (lv' := [(0, .ref a0), (1, .int p1), (2, .int p2), (3, .int p3)]) (st' := [.int p3, .ref a0]) [(.aload_n 0, 1, 0), (.iload_n 3, 1, 0)] (by decide +kernel) rfl ?_
  obtain ⟨h3, gh3, hf⟩ := Option.bind_eq_some_iff.mp hf
  refine C.putZ fl_656 gh3 (by decide +kernel) rfl ?_
  cases hf
  exact C.retV rfl (by decide +kernel) ⟨rfl, rfl⟩
theorem o_X8_setLeave {a0 : Nat} {p1 : Int32} {p2 : Int32} {p3 : Int32} {h : AH} {hr : AH} (hf : f_X8_setLeave a0 p1 p2 p3 h = some hr) : isO 8 h a0 = true := by
  unfold f_X8_setLeave at hf
  exact (ifO hf).1
/-! WallHouse$Wall.sellTo(I)V -/
def f_X8_sellTo_22 (h : AH) : Option (AH) :=
  some h
set_option maxRecDepth 100000 in
set_option maxHeartbeats 4000000 in
theorem l_X8_sellTo_22 {X : MX} {l : Launch} {G : GX} {h0 : AH} {hr : AH} (C : Cx X G RX8 cX8_sellTo 2 none 0 0 h0) (C2 : Cy X l "sellTo" []) (h : AH) (hf : f_X8_sellTo_22 h = some hr) : V X G h0 (QV hr) 22 [] [] h := by
  unfold f_X8_sellTo_22 at hf
  cases hf
  exact C.retV rfl (by decide +kernel) ⟨rfl, rfl⟩
def f_X8_sellTo (a0 : Nat) (p1 : Int32) (h : AH) : Option (AH) :=
  if isO 8 h a0 = true then
    (pI 8 h a0 3 p1).bind fun h1 =>
    (gI 8 h1 a0 6).bind fun x2 =>
    if x2 = 0 then
      (pI 8 h1 a0 4 0).bind fun h3 =>
      (pI 8 h3 a0 5 (-1)).bind fun h4 =>
      f_X8_sellTo_22 h4
    else
      f_X8_sellTo_22 h1
  else none
set_option maxRecDepth 100000 in
set_option maxHeartbeats 4000000 in
theorem w_X8_sellTo {l : Launch} {G : GX} {a0 : Nat} {p1 : Int32} {h : AH} {hr : AH} (hf : f_X8_sellTo a0 p1 h = some hr) : Ct l G yX8_sellTo 0 0 [.ref a0, .int p1] h (QV hr) := by
  unfold f_X8_sellTo at hf
  obtain ⟨ho, hf⟩ := ifO hf
  refine Ct_of (own := RX8) (cc := cX8_sellTo) (nL := 2) (ret := none) rfl rfl k_780 (Nat.le_of_ble_eq_true rfl) (fun X C2 C => ?_)
  show V X G h (QV hr) 0 [(0, .ref a0), (1, .int p1)] [] h
  refine C.seg (pe := 2) (lv' := [(0, .ref a0), (1, .int p1)]) (st' := [.int p1, .ref a0]) [(.aload_n 0, 1, 0), (.iload_n 1, 1, 0)] (by decide +kernel) rfl ?_
  obtain ⟨h1, gh1, hf⟩ := Option.bind_eq_some_iff.mp hf
  refine C.putI fl_652 gh1 (by decide +kernel) rfl ?_
  refine C.seg (pe := 6) (lv' := [(0, .ref a0), (1, .int p1)]) (st' := [.ref a0]) [(.aload_n 0, 1, 0)] (by decide +kernel) rfl ?_
  obtain ⟨x2, gx2, hf⟩ := Option.bind_eq_some_iff.mp hf
  refine C.rdI fr_656 gx2 (by decide +kernel) rfl ?_
  refine C.if_ne (off := 13) (tgt := 22) (pf := 12) (by decide +kernel) (by decide) rfl (fun c5 => ?_) (fun c5 => ?_)
  · replace hf := ifn c5 hf
    refine Vsub [] rfl ?_
    exact l_X8_sellTo_22 C C2 h1 hf
  · replace hf := ifp c5 hf
    refine C.seg (pe := 14) (lv' := [(0, .ref a0), (1, .int p1)]) (st' := [.int 0, .ref a0]) [(.aload_n 0, 1, 0), (.iconst 0, 1, 0)] (by decide +kernel) rfl ?_
    obtain ⟨h3, gh3, hf⟩ := Option.bind_eq_some_iff.mp hf
    refine C.putI fl_654 gh3 (by decide +kernel) rfl ?_
    refine C.seg (pe := 19) (lv' := [(0, .ref a0), (1, .int p1)]) (st' := [.int (-1), .ref a0]) [(.aload_n 0, 1, 0), (.iconst (-1), 1, (-1))] (by decide +kernel) rfl ?_
    obtain ⟨h4, gh4, hf⟩ := Option.bind_eq_some_iff.mp hf
    refine C.putI fl_655 gh4 (by decide +kernel) rfl ?_
    refine Vsub [] rfl ?_
    exact l_X8_sellTo_22 C C2 h4 hf
theorem o_X8_sellTo {a0 : Nat} {p1 : Int32} {h : AH} {hr : AH} (hf : f_X8_sellTo a0 p1 h = some hr) : isO 8 h a0 = true := by
  unfold f_X8_sellTo at hf
  exact (ifO hf).1
/-! WallHouse$Wall.latestWork()I -/
def f_X8_latestWork_20 (si0 : Int32) (h : AH) : Option (Int32 × AH) :=
  some (si0, h)
set_option maxRecDepth 100000 in
set_option maxHeartbeats 4000000 in
theorem l_X8_latestWork_20 {X : MX} {l : Launch} {G : GX} {h0 : AH} {rr : Int32} {hr : AH} (C : Cx X G RX8 cX8_latestWork 1 (some .int) 0 0 h0) (C2 : Cy X l "latestWork" []) (si0 : Int32) (h : AH) (hf : f_X8_latestWork_20 si0 h = some (rr, hr)) : V X G h0 (QI rr hr) 20 [] [.int si0] h := by
  unfold f_X8_latestWork_20 at hf
  cases hf
  exact C.retI rfl (by decide +kernel) ⟨rfl, rfl⟩
def f_X8_latestWork (a0 : Nat) (h : AH) : Option (Int32 × AH) :=
  if isO 8 h a0 = true then
    (gI 8 h a0 8).bind fun x1 =>
    if x1 = (-2) then
      (gI 8 h a0 9).bind fun x2 =>
      f_X8_latestWork_20 x2 h
    else
      (gI 8 h a0 8).bind fun x3 =>
      f_X8_latestWork_20 x3 h
  else none
set_option maxRecDepth 100000 in
set_option maxHeartbeats 4000000 in
theorem w_X8_latestWork {l : Launch} {G : GX} {a0 : Nat} {h : AH} {rr : Int32} {hr : AH} (hf : f_X8_latestWork a0 h = some (rr, hr)) : Ct l G yX8_latestWork 0 0 [.ref a0] h (QI rr hr) := by
  unfold f_X8_latestWork at hf
  obtain ⟨ho, hf⟩ := ifO hf
  refine Ct_of (own := RX8) (cc := cX8_latestWork) (nL := 1) (ret := (some .int)) rfl rfl k_1334 (Nat.le_of_ble_eq_true rfl) (fun X C2 C => ?_)
  show V X G h (QI rr hr) 0 [(0, .ref a0)] [] h
  refine C.seg (pe := 1) (lv' := [(0, .ref a0)]) (st' := [.ref a0]) [(.aload_n 0, 1, 0)] (by decide +kernel) rfl ?_
  obtain ⟨x1, gx1, hf⟩ := Option.bind_eq_some_iff.mp hf
  refine C.rdI fr_659 gx1 (by decide +kernel) rfl ?_
  refine C.seg (pe := 6) (lv' := [(0, .ref a0)]) (st' := [.int (-2), .int x1]) [(.bipush (-2), 2, (-2))] (by decide +kernel) rfl ?_
  refine C.icmp_eq (off := 10) (tgt := 16) (pf := 9) (by decide +kernel) (by decide) rfl (fun c4 => ?_) (fun c4 => ?_)
  · replace hf := ifp c4 hf
    refine C.seg (pe := 17) (lv' := [(0, .ref a0)]) (st' := [.ref a0]) [(.aload_n 0, 1, 0)] (by decide +kernel) rfl ?_
    obtain ⟨x2, gx2, hf⟩ := Option.bind_eq_some_iff.mp hf
    refine C.rdI fr_663 gx2 (by decide +kernel) rfl ?_
    refine Vsub [] rfl ?_
    exact l_X8_latestWork_20 C C2 x2 h hf
  · replace hf := ifn c4 hf
    refine C.seg (pe := 10) (lv' := [(0, .ref a0)]) (st' := [.ref a0]) [(.aload_n 0, 1, 0)] (by decide +kernel) rfl ?_
    obtain ⟨x3, gx3, hf⟩ := Option.bind_eq_some_iff.mp hf
    refine C.rdI fr_659 gx3 (by decide +kernel) rfl ?_
    refine C.goto (off := 7) (tgt := 20) (by decide +kernel) (by decide) ?_
    refine Vsub [] rfl ?_
    exact l_X8_latestWork_20 C C2 x3 h hf
theorem o_X8_latestWork {a0 : Nat} {h : AH} {rr : Int32} {hr : AH} (hf : f_X8_latestWork a0 h = some (rr, hr)) : isO 8 h a0 = true := by
  unfold f_X8_latestWork at hf
  exact (ifO hf).1
/-! WallHouse$Wall.plan([B)V -/
def f_X8_plan_32 (h : AH) : Option (AH) :=
  some h
set_option maxRecDepth 100000 in
set_option maxHeartbeats 4000000 in
theorem l_X8_plan_32 {X : MX} {l : Launch} {G : GX} {h0 : AH} {hr : AH} (C : Cx X G RX8 cX8_plan 3 none 0 0 h0) (C2 : Cy X l "plan" []) (h : AH) (hf : f_X8_plan_32 h = some hr) : V X G h0 (QV hr) 32 [] [] h := by
  unfold f_X8_plan_32 at hf
  cases hf
  exact C.retV rfl (by decide +kernel) ⟨rfl, rfl⟩
def f_X8_plan_2 : Nat → Nat → Nat → Int32 → AH → Option (AH)
  | 0, _, _, _, _ => none
  | n + 1, r0, r1, i2, h =>
    (gA 8 h r0 14).bind fun a1 =>
    (aN h a1).bind fun x2 =>
    if x2 ≤ i2 then
      f_X8_plan_32 h
    else
      (aN h r1).bind fun x3 =>
      if x3 ≤ i2 then
        f_X8_plan_32 h
      else
        (gA 8 h r0 14).bind fun a4 =>
        (aI 1 h r1 i2).bind fun x5 =>
        (sI 1 h a4 i2 x5).bind fun h6 =>
        (f_X8_plan_2 n) r0 r1 (i2 + 1) h6
set_option maxRecDepth 100000 in
set_option maxHeartbeats 4000000 in
theorem l_X8_plan_2 {X : MX} {l : Launch} {G : GX} {h0 : AH} {hr : AH} (C : Cx X G RX8 cX8_plan 3 none 0 0 h0) (C2 : Cy X l "plan" []) : ∀ (n : Nat) (r0 : Nat) (r1 : Nat) (i2 : Int32) (h : AH), f_X8_plan_2 n r0 r1 i2 h = some hr → V X G h0 (QV hr) 2 [(0, .ref r0), (1, .ref r1), (2, .int i2)] [] h := by
  intro n
  induction n with
  | zero => intro r0 r1 i2 h hf; rw [f_X8_plan_2] at hf; cases hf
  | succ n ih =>
    intro r0 r1 i2 h hf
    rw [f_X8_plan_2] at hf
    refine C.seg (pe := 4) (lv' := [(0, .ref r0), (1, .ref r1), (2, .int i2)]) (st' := [.ref r0, .int i2]) [(.iload_n 2, 1, 0), (.aload_n 0, 1, 0)] (by decide +kernel) rfl ?_
    obtain ⟨a1, ga1, hf⟩ := Option.bind_eq_some_iff.mp hf
    refine C.rdA fr_675 ga1 (by decide +kernel) rfl ?_
    obtain ⟨x2, gx2, hf⟩ := Option.bind_eq_some_iff.mp hf
    refine C.alen gx2 (by decide +kernel) rfl ?_
    refine C.icmp_ge (off := 24) (tgt := 32) (pf := 11) (by decide +kernel) (by decide) rfl (fun c8 => ?_) (fun c8 => ?_)
    · replace hf := ifp c8 hf
      refine Vsub [] rfl ?_
      exact l_X8_plan_32 C C2 h hf
    · replace hf := ifn c8 hf
      refine C.seg (pe := 13) (lv' := [(0, .ref r0), (1, .ref r1), (2, .int i2)]) (st' := [.ref r1, .int i2]) [(.iload_n 2, 1, 0), (.aload_n 1, 1, 0)] (by decide +kernel) rfl ?_
      obtain ⟨x3, gx3, hf⟩ := Option.bind_eq_some_iff.mp hf
      refine C.alen gx3 (by decide +kernel) rfl ?_
      refine C.icmp_ge (off := 18) (tgt := 32) (pf := 17) (by decide +kernel) (by decide) rfl (fun c7 => ?_) (fun c7 => ?_)
      · replace hf := ifp c7 hf
        refine Vsub [] rfl ?_
        exact l_X8_plan_32 C C2 h hf
      · replace hf := ifn c7 hf
        refine C.seg (pe := 18) (lv' := [(0, .ref r0), (1, .ref r1), (2, .int i2)]) (st' := [.ref r0]) [(.aload_n 0, 1, 0)] (by decide +kernel) rfl ?_
        obtain ⟨a4, ga4, hf⟩ := Option.bind_eq_some_iff.mp hf
        refine C.rdA fr_675 ga4 (by decide +kernel) rfl ?_
        refine C.seg (pe := 24) (lv' := [(0, .ref r0), (1, .ref r1), (2, .int i2)]) (st' := [.int i2, .ref r1, .int i2, .ref a4]) [(.iload_n 2, 1, 0), (.aload_n 1, 1, 0), (.iload_n 2, 1, 0)] (by decide +kernel) rfl ?_
        obtain ⟨x5, gx5, hf⟩ := Option.bind_eq_some_iff.mp hf
        refine C.bald 1 rfl gx5 (by decide +kernel) rfl ?_
        obtain ⟨h6, gh6, hf⟩ := Option.bind_eq_some_iff.mp hf
        refine C.bast gh6 (by decide +kernel) rfl ?_
        refine C.seg (pe := 29) (lv' := [(2, .int (i2 + 1)), (0, .ref r0), (1, .ref r1)]) (st' := []) [(.iinc 2 1, 3, 1)] (by decide +kernel) rfl ?_
        refine C.goto (off := (-27)) (tgt := 2) (by decide +kernel) (by decide) ?_
        refine Vsub [1, 2, 0] rfl ?_
        exact ih r0 r1 (i2 + 1) h6 hf
def f_X8_plan (a0 : Nat) (p1 : Nat) (h : AH) : Option (AH) :=
  if isO 8 h a0 = true then
    f_X8_plan_2 FU a0 p1 0 h
  else none
set_option maxRecDepth 100000 in
set_option maxHeartbeats 4000000 in
theorem w_X8_plan {l : Launch} {G : GX} {a0 : Nat} {p1 : Nat} {h : AH} {hr : AH} (hf : f_X8_plan a0 p1 h = some hr) : Ct l G yX8_plan 0 0 [.ref a0, .ref p1] h (QV hr) := by
  unfold f_X8_plan at hf
  obtain ⟨ho, hf⟩ := ifO hf
  refine Ct_of (own := RX8) (cc := cX8_plan) (nL := 3) (ret := none) rfl rfl k_1384 (Nat.le_of_ble_eq_true rfl) (fun X C2 C => ?_)
  show V X G h (QV hr) 0 [(0, .ref a0), (1, .ref p1)] [] h
  refine C.seg (pe := 2) (lv' := [(2, .int 0), (0, .ref a0), (1, .ref p1)]) (st' := []) [(.iconst 0, 1, 0), (.istore_n 2, 1, 0)] (by decide +kernel) rfl ?_
  refine Vsub [1, 2, 0] rfl ?_
  exact l_X8_plan_2 C C2 FU a0 p1 0 h hf
theorem o_X8_plan {a0 : Nat} {p1 : Nat} {h : AH} {hr : AH} (hf : f_X8_plan a0 p1 h = some hr) : isO 8 h a0 = true := by
  unfold f_X8_plan at hf
  exact (ifO hf).1
/-! WallHouse$Wall.colourOf(I)I -/
def f_X8_colourOf_23 (si0 : Int32) (h : AH) : Option (Int32 × AH) :=
  some (si0, h)
set_option maxRecDepth 100000 in
set_option maxHeartbeats 4000000 in
theorem l_X8_colourOf_23 {X : MX} {l : Launch} {G : GX} {h0 : AH} {rr : Int32} {hr : AH} (C : Cx X G RX8 cX8_colourOf 2 (some .int) 0 0 h0) (C2 : Cy X l "colourOf" []) (si0 : Int32) (h : AH) (hf : f_X8_colourOf_23 si0 h = some (rr, hr)) : V X G h0 (QI rr hr) 23 [] [.int si0] h := by
  unfold f_X8_colourOf_23 at hf
  cases hf
  exact C.retI rfl (by decide +kernel) ⟨rfl, rfl⟩
def f_X8_colourOf_22 (h : AH) : Option (Int32 × AH) :=
  f_X8_colourOf_23 (-1) h
set_option maxRecDepth 100000 in
set_option maxHeartbeats 4000000 in
theorem l_X8_colourOf_22 {X : MX} {l : Launch} {G : GX} {h0 : AH} {rr : Int32} {hr : AH} (C : Cx X G RX8 cX8_colourOf 2 (some .int) 0 0 h0) (C2 : Cy X l "colourOf" []) (h : AH) (hf : f_X8_colourOf_22 h = some (rr, hr)) : V X G h0 (QI rr hr) 22 [] [] h := by
  unfold f_X8_colourOf_22 at hf
  refine C.seg (pe := 23) (lv' := []) (st' := [.int (-1)]) [(.iconst (-1), 1, (-1))] (by decide +kernel) rfl ?_
  exact l_X8_colourOf_23 C C2 (-1) h hf
def f_X8_colourOf (a0 : Nat) (p1 : Int32) (h : AH) : Option (Int32 × AH) :=
  if isO 8 h a0 = true then
    if p1 < 0 then
      f_X8_colourOf_22 h
    else
      (gA 8 h a0 12).bind fun a1 =>
      (aN h a1).bind fun x2 =>
      if x2 ≤ p1 then
        f_X8_colourOf_22 h
      else
        (gA 8 h a0 12).bind fun a3 =>
        (aI 1 h a3 p1).bind fun x4 =>
        f_X8_colourOf_23 x4 h
  else none
set_option maxRecDepth 100000 in
set_option maxHeartbeats 4000000 in
theorem w_X8_colourOf {l : Launch} {G : GX} {a0 : Nat} {p1 : Int32} {h : AH} {rr : Int32} {hr : AH} (hf : f_X8_colourOf a0 p1 h = some (rr, hr)) : Ct l G yX8_colourOf 0 0 [.ref a0, .int p1] h (QI rr hr) := by
  unfold f_X8_colourOf at hf
  obtain ⟨ho, hf⟩ := ifO hf
  refine Ct_of (own := RX8) (cc := cX8_colourOf) (nL := 2) (ret := (some .int)) rfl rfl k_1481 (Nat.le_of_ble_eq_true rfl) (fun X C2 C => ?_)
  show V X G h (QI rr hr) 0 [(0, .ref a0), (1, .int p1)] [] h
  refine C.seg (pe := 1) (lv' := [(0, .ref a0), (1, .int p1)]) (st' := [.int p1]) [(.iload_n 1, 1, 0)] (by decide +kernel) rfl ?_
  refine C.if_lt (off := 21) (tgt := 22) (pf := 4) (by decide +kernel) (by decide) rfl (fun c6 => ?_) (fun c6 => ?_)
  · replace hf := ifp c6 hf
    refine Vsub [] rfl ?_
    exact l_X8_colourOf_22 C C2 h hf
  · replace hf := ifn c6 hf
    refine C.seg (pe := 6) (lv' := [(0, .ref a0), (1, .int p1)]) (st' := [.ref a0, .int p1]) [(.iload_n 1, 1, 0), (.aload_n 0, 1, 0)] (by decide +kernel) rfl ?_
    obtain ⟨a1, ga1, hf⟩ := Option.bind_eq_some_iff.mp hf
    refine C.rdA fr_670 ga1 (by decide +kernel) rfl ?_
    obtain ⟨x2, gx2, hf⟩ := Option.bind_eq_some_iff.mp hf
    refine C.alen gx2 (by decide +kernel) rfl ?_
    refine C.icmp_ge (off := 12) (tgt := 22) (pf := 13) (by decide +kernel) (by decide) rfl (fun c5 => ?_) (fun c5 => ?_)
    · replace hf := ifp c5 hf
      refine Vsub [] rfl ?_
      exact l_X8_colourOf_22 C C2 h hf
    · replace hf := ifn c5 hf
      refine C.seg (pe := 14) (lv' := [(0, .ref a0), (1, .int p1)]) (st' := [.ref a0]) [(.aload_n 0, 1, 0)] (by decide +kernel) rfl ?_
      obtain ⟨a3, ga3, hf⟩ := Option.bind_eq_some_iff.mp hf
      refine C.rdA fr_670 ga3 (by decide +kernel) rfl ?_
      refine C.seg (pe := 18) (lv' := [(0, .ref a0), (1, .int p1)]) (st' := [.int p1, .ref a3]) [(.iload_n 1, 1, 0)] (by decide +kernel) rfl ?_
      obtain ⟨x4, gx4, hf⟩ := Option.bind_eq_some_iff.mp hf
      refine C.bald 1 rfl gx4 (by decide +kernel) rfl ?_
      refine C.goto (off := 4) (tgt := 23) (by decide +kernel) (by decide) ?_
      refine Vsub [] rfl ?_
      exact l_X8_colourOf_23 C C2 x4 h hf
theorem o_X8_colourOf {a0 : Nat} {p1 : Int32} {h : AH} {rr : Int32} {hr : AH} (hf : f_X8_colourOf a0 p1 h = some (rr, hr)) : isO 8 h a0 = true := by
  unfold f_X8_colourOf at hf
  exact (ifO hf).1
/-! WallHouse$Wall.freshness(II)I -/
def f_X8_freshness_39 (z : ZX) (r0 : Nat) (i2 : Int32) (i3 : Int32) (h : AH) : Option (Int32 × AH) :=
  (gI 8 h r0 10).bind fun x1 =>
  some (mxI 0 (100 - (((i2 - x1) / 30) * i3)), h)
set_option maxRecDepth 100000 in
set_option maxHeartbeats 4000000 in
theorem l_X8_freshness_39 {X : MX} {l : Launch} {G : GX} {h0 : AH} {rr : Int32} {hr : AH} (C : Cx X G RX8 cX8_freshness 4 (some .int) 1 40 h0) (C2 : Cy X l "freshness" []) (r0 : Nat) (i2 : Int32) (i3 : Int32) (h : AH) (hf : f_X8_freshness_39 G.2.2 r0 i2 i3 h = some (rr, hr)) : V X G h0 (QI rr hr) 39 [(0, .ref r0), (2, .int i2), (3, .int i3)] [] h := by
  unfold f_X8_freshness_39 at hf
  refine C.seg (pe := 44) (lv' := [(0, .ref r0), (2, .int i2), (3, .int i3)]) (st' := [.ref r0, .int i2, .int 100, .int 0]) [(.iconst 0, 1, 0), (.bipush 100, 2, 100), (.iload_n 2, 1, 0), (.aload_n 0, 1, 0)] (by decide +kernel) rfl ?_
  obtain ⟨x1, gx1, hf⟩ := Option.bind_eq_some_iff.mp hf
  refine C.rdI fr_666 gx1 (by decide +kernel) rfl ?_
  refine C.seg (pe := 50) (lv' := [(0, .ref r0), (2, .int i2), (3, .int i3)]) (st' := [.int 30, .int (i2 - x1), .int 100, .int 0]) [(.isub, 1, 0), (.bipush 30, 2, 30)] (by decide +kernel) rfl ?_
  refine C.idiv (by decide +kernel) rfl (by decide) ?_
  refine C.seg (pe := 54) (lv' := [(0, .ref r0), (2, .int i2), (3, .int i3)]) (st' := [.int (100 - (((i2 - x1) / 30) * i3)), .int 0]) [(.iload_n 3, 1, 0), (.imul, 1, 0), (.isub, 1, 0)] (by decide +kernel) rfl ?_
  refine C.mmax k_635 k_636 k_137 k_637 (by omega) (by omega) (Nat.le_of_ble_eq_true rfl) (by decide +kernel) rfl ?_
  cases hf
  exact C.retI rfl (by decide +kernel) ⟨rfl, rfl⟩
def f_X8_freshness_30 (z : ZX) (r0 : Nat) (i1 : Int32) (i2 : Int32) (si0 : Int32) (h : AH) : Option (Int32 × AH) :=
  if i1 ≤ 4 then
    f_X8_freshness_39 z r0 i2 si0 h
  else
    f_X8_freshness_39 z r0 i2 (si0 + 1) h
set_option maxRecDepth 100000 in
set_option maxHeartbeats 4000000 in
theorem l_X8_freshness_30 {X : MX} {l : Launch} {G : GX} {h0 : AH} {rr : Int32} {hr : AH} (C : Cx X G RX8 cX8_freshness 4 (some .int) 1 40 h0) (C2 : Cy X l "freshness" []) (r0 : Nat) (i1 : Int32) (i2 : Int32) (si0 : Int32) (h : AH) (hf : f_X8_freshness_30 G.2.2 r0 i1 i2 si0 h = some (rr, hr)) : V X G h0 (QI rr hr) 30 [(0, .ref r0), (1, .int i1), (2, .int i2)] [.int si0] h := by
  unfold f_X8_freshness_30 at hf
  refine C.seg (pe := 33) (lv' := [(3, .int si0), (0, .ref r0), (1, .int i1), (2, .int i2)]) (st' := [.int 4, .int i1]) [(.istore_n 3, 1, 0), (.iload_n 1, 1, 0), (.iconst 4, 1, 4)] (by decide +kernel) rfl ?_
  refine C.icmp_le (off := 6) (tgt := 39) (pf := 36) (by decide +kernel) (by decide) rfl (fun c1 => ?_) (fun c1 => ?_)
  · replace hf := ifp c1 hf
    refine Vsub [1, 3, 0] rfl ?_
    exact l_X8_freshness_39 C C2 r0 i2 si0 h hf
  · replace hf := ifn c1 hf
    refine C.seg (pe := 39) (lv' := [(3, .int (si0 + 1)), (0, .ref r0), (1, .int i1), (2, .int i2)]) (st' := []) [(.iinc 3 1, 3, 1)] (by decide +kernel) rfl ?_
    refine Vsub [1, 3, 0] rfl ?_
    exact l_X8_freshness_39 C C2 r0 i2 (si0 + 1) h hf
def f_X8_freshness_29 (z : ZX) (r0 : Nat) (i1 : Int32) (i2 : Int32) (h : AH) : Option (Int32 × AH) :=
  f_X8_freshness_30 z r0 i1 i2 0 h
set_option maxRecDepth 100000 in
set_option maxHeartbeats 4000000 in
theorem l_X8_freshness_29 {X : MX} {l : Launch} {G : GX} {h0 : AH} {rr : Int32} {hr : AH} (C : Cx X G RX8 cX8_freshness 4 (some .int) 1 40 h0) (C2 : Cy X l "freshness" []) (r0 : Nat) (i1 : Int32) (i2 : Int32) (h : AH) (hf : f_X8_freshness_29 G.2.2 r0 i1 i2 h = some (rr, hr)) : V X G h0 (QI rr hr) 29 [(0, .ref r0), (1, .int i1), (2, .int i2)] [] h := by
  unfold f_X8_freshness_29 at hf
  refine C.seg (pe := 30) (lv' := [(0, .ref r0), (1, .int i1), (2, .int i2)]) (st' := [.int 0]) [(.iconst 0, 1, 0)] (by decide +kernel) rfl ?_
  exact l_X8_freshness_30 C C2 r0 i1 i2 0 h hf
def f_X8_freshness (z : ZX) (a0 : Nat) (p1 : Int32) (p2 : Int32) (h : AH) : Option (Int32 × AH) :=
  if isO 8 h a0 = true then
    (gI 8 h a0 2).bind fun x1 =>
    if x1 < 0 then
      f_X8_freshness_29 z a0 p1 p2 h
    else
      (gI 8 h a0 2).bind fun x2 =>
      (aN h z.2.1).bind fun x3 =>
      if x3 ≤ x2 then
        f_X8_freshness_29 z a0 p1 p2 h
      else
        (gI 8 h a0 2).bind fun x4 =>
        (aI 20 h z.2.1 x4).bind fun x5 =>
        f_X8_freshness_30 z a0 p1 p2 x5 h
  else none
set_option maxRecDepth 100000 in
set_option maxHeartbeats 4000000 in
theorem w_X8_freshness {l : Launch} {G : GX} {a0 : Nat} {p1 : Int32} {p2 : Int32} {h : AH} {rr : Int32} {hr : AH} (hf : f_X8_freshness G.2.2 a0 p1 p2 h = some (rr, hr)) : Ct l G yX8_freshness 1 40 [.ref a0, .int p1, .int p2] h (QI rr hr) := by
  unfold f_X8_freshness at hf
  obtain ⟨ho, hf⟩ := ifO hf
  refine Ct_of (own := RX8) (cc := cX8_freshness) (nL := 4) (ret := (some .int)) rfl rfl k_1489 (Nat.le_of_ble_eq_true rfl) (fun X C2 C => ?_)
  show V X G h (QI rr hr) 0 [(0, .ref a0), (1, .int p1), (2, .int p2)] [] h
  refine C.seg (pe := 1) (lv' := [(0, .ref a0), (1, .int p1), (2, .int p2)]) (st' := [.ref a0]) [(.aload_n 0, 1, 0)] (by decide +kernel) rfl ?_
  obtain ⟨x1, gx1, hf⟩ := Option.bind_eq_some_iff.mp hf
  refine C.rdI fr_650 gx1 (by decide +kernel) rfl ?_
  refine C.if_lt (off := 25) (tgt := 29) (pf := 7) (by decide +kernel) (by decide) rfl (fun c7 => ?_) (fun c7 => ?_)
  · replace hf := ifp c7 hf
    exact l_X8_freshness_29 C C2 a0 p1 p2 h hf
  · replace hf := ifn c7 hf
    refine C.seg (pe := 8) (lv' := [(0, .ref a0), (1, .int p1), (2, .int p2)]) (st' := [.ref a0]) [(.aload_n 0, 1, 0)] (by decide +kernel) rfl ?_
    obtain ⟨x2, gx2, hf⟩ := Option.bind_eq_some_iff.mp hf
    refine C.rdI fr_650 gx2 (by decide +kernel) rfl ?_
    refine C.fades k_1490 (by decide +kernel) rfl ?_
    obtain ⟨x3, gx3, hf⟩ := Option.bind_eq_some_iff.mp hf
    refine C.alen gx3 (by decide +kernel) rfl ?_
    refine C.icmp_ge (off := 14) (tgt := 29) (pf := 18) (by decide +kernel) (by decide) rfl (fun c6 => ?_) (fun c6 => ?_)
    · replace hf := ifp c6 hf
      exact l_X8_freshness_29 C C2 a0 p1 p2 h hf
    · replace hf := ifn c6 hf
      refine C.fades k_1490 (by decide +kernel) rfl ?_
      refine C.seg (pe := 22) (lv' := [(0, .ref a0), (1, .int p1), (2, .int p2)]) (st' := [.ref a0, .ref G.2.2.2.1]) [(.aload_n 0, 1, 0)] (by decide +kernel) rfl ?_
      obtain ⟨x4, gx4, hf⟩ := Option.bind_eq_some_iff.mp hf
      refine C.rdI fr_650 gx4 (by decide +kernel) rfl ?_
      obtain ⟨x5, gx5, hf⟩ := Option.bind_eq_some_iff.mp hf
      refine C.ald 20 rfl gx5 (by decide +kernel) rfl ?_
      refine C.goto (off := 4) (tgt := 30) (by decide +kernel) (by decide) ?_
      exact l_X8_freshness_30 C C2 a0 p1 p2 x5 h hf
theorem o_X8_freshness {z : ZX} {a0 : Nat} {p1 : Int32} {p2 : Int32} {h : AH} {rr : Int32} {hr : AH} (hf : f_X8_freshness z a0 p1 p2 h = some (rr, hr)) : isO 8 h a0 = true := by
  unfold f_X8_freshness at hf
  exact (ifO hf).1
/-! WallHouse$Wall.isPale(II)Z -/
def f_X8_isPale_71 (z : ZX) (si0 : Int32) (h : AH) : Option (Int32 × AH) :=
  (ckZ si0).bind fun x1 =>
  some (x1, h)
set_option maxRecDepth 100000 in
set_option maxHeartbeats 4000000 in
theorem l_X8_isPale_71 {X : MX} {l : Launch} {G : GX} {h0 : AH} {rr : Int32} {hr : AH} (C : Cx X G RX8 cX8_isPale 6 (some .boolean) 2 63 h0) (C2 : Cy X l "isPale" []) (si0 : Int32) (h : AH) (hf : f_X8_isPale_71 G.2.2 si0 h = some (rr, hr)) : V X G h0 (QI rr hr) 71 [] [.int si0] h := by
  unfold f_X8_isPale_71 at hf
  obtain ⟨x1, gx1, hf⟩ := Option.bind_eq_some_iff.mp hf
  have ex1 := ckZ_eq gx1
  subst ex1
  cases hf
  exact C.retZ rfl gx1 (by decide +kernel) ⟨rfl, rfl⟩
def f_X8_isPale_70 (z : ZX) (h : AH) : Option (Int32 × AH) :=
  f_X8_isPale_71 z 0 h
set_option maxRecDepth 100000 in
set_option maxHeartbeats 4000000 in
theorem l_X8_isPale_70 {X : MX} {l : Launch} {G : GX} {h0 : AH} {rr : Int32} {hr : AH} (C : Cx X G RX8 cX8_isPale 6 (some .boolean) 2 63 h0) (C2 : Cy X l "isPale" []) (h : AH) (hf : f_X8_isPale_70 G.2.2 h = some (rr, hr)) : V X G h0 (QI rr hr) 70 [] [] h := by
  unfold f_X8_isPale_70 at hf
  refine C.seg (pe := 71) (lv' := []) (st' := [.int 0]) [(.iconst 0, 1, 0)] (by decide +kernel) rfl ?_
  exact l_X8_isPale_71 C C2 0 h hf
def f_X8_isPale_47 (z : ZX) (k8 : Nat → Int32 → Int32 → Int32 → Int32 → Int32 → AH → Option (Int32 × AH)) (r0 : Nat) (i1 : Int32) (i2 : Int32) (i3 : Int32) (i4 : Int32) (i5 : Int32) (h : AH) : Option (Int32 × AH) :=
  k8 r0 i1 i2 i3 i4 (i5 + 1) h
set_option maxRecDepth 100000 in
set_option maxHeartbeats 4000000 in
theorem l_X8_isPale_47 {X : MX} {l : Launch} {G : GX} {h0 : AH} {rr : Int32} {hr : AH} (C : Cx X G RX8 cX8_isPale 6 (some .boolean) 2 63 h0) (C2 : Cy X l "isPale" []) {k8 : Nat → Int32 → Int32 → Int32 → Int32 → Int32 → AH → Option (Int32 × AH)} (hk8 : ∀ (r0 : Nat) (i1 : Int32) (i2 : Int32) (i3 : Int32) (i4 : Int32) (i5 : Int32) (h : AH), k8 r0 i1 i2 i3 i4 i5 h = some (rr, hr) → V X G h0 (QI rr hr) 8 [(0, .ref r0), (1, .int i1), (2, .int i2), (3, .int i3), (4, .int i4), (5, .int i5)] [] h) (r0 : Nat) (i1 : Int32) (i2 : Int32) (i3 : Int32) (i4 : Int32) (i5 : Int32) (h : AH) (hf : f_X8_isPale_47 G.2.2 k8 r0 i1 i2 i3 i4 i5 h = some (rr, hr)) : V X G h0 (QI rr hr) 47 [(0, .ref r0), (1, .int i1), (2, .int i2), (3, .int i3), (4, .int i4), (5, .int i5)] [] h := by
  unfold f_X8_isPale_47 at hf
  refine C.seg (pe := 50) (lv' := [(5, .int (i5 + 1)), (0, .ref r0), (1, .int i1), (2, .int i2), (3, .int i3), (4, .int i4)]) (st' := []) [(.iinc 5 1, 3, 1)] (by decide +kernel) rfl ?_
  refine C.goto (off := (-42)) (tgt := 8) (by decide +kernel) (by decide) ?_
  refine Vsub [1, 2, 3, 4, 5, 0] rfl ?_
  exact hk8 r0 i1 i2 i3 i4 (i5 + 1) h hf
def f_X8_isPale_8 (z : ZX) : Nat → Nat → Int32 → Int32 → Int32 → Int32 → Int32 → AH → Option (Int32 × AH)
  | 0, _, _, _, _, _, _, _ => none
  | n + 1, r0, i1, i2, i3, i4, i5, h =>
    (gA 8 h r0 12).bind fun a1 =>
    (aN h a1).bind fun x2 =>
    if x2 ≤ i5 then
      if i4 ≤ 0 then
        f_X8_isPale_70 z h
      else
        (ckD i4).bind fun x4 =>
        if i1 ≤ i3 / i4 then
          f_X8_isPale_70 z h
        else
          f_X8_isPale_71 z 1 h
    else
      (gA 8 h r0 12).bind fun a6 =>
      (aI 1 h a6 i5).bind fun x7 =>
      if x7 = (-1) then
        f_X8_isPale_47 z (f_X8_isPale_8 z n) r0 i1 i2 i3 i4 i5 h
      else
        (gA 8 h r0 12).bind fun a8 =>
        (aI 1 h a8 i5).bind fun x9 =>
        b2 (f_X8_freshness z r0 x9 i2 h) fun x10 h11 =>
        f_X8_isPale_47 z (f_X8_isPale_8 z n) r0 i1 i2 (i3 + x10) (i4 + 1) i5 h11
set_option maxRecDepth 100000 in
set_option maxHeartbeats 4000000 in
theorem l_X8_isPale_8 {X : MX} {l : Launch} {G : GX} {h0 : AH} {rr : Int32} {hr : AH} (C : Cx X G RX8 cX8_isPale 6 (some .boolean) 2 63 h0) (C2 : Cy X l "isPale" []) : ∀ (n : Nat) (r0 : Nat) (i1 : Int32) (i2 : Int32) (i3 : Int32) (i4 : Int32) (i5 : Int32) (h : AH), f_X8_isPale_8 G.2.2 n r0 i1 i2 i3 i4 i5 h = some (rr, hr) → V X G h0 (QI rr hr) 8 [(0, .ref r0), (1, .int i1), (2, .int i2), (3, .int i3), (4, .int i4), (5, .int i5)] [] h := by
  intro n
  induction n with
  | zero => intro r0 i1 i2 i3 i4 i5 h hf; rw [f_X8_isPale_8] at hf; cases hf
  | succ n ih =>
    intro r0 i1 i2 i3 i4 i5 h hf
    rw [f_X8_isPale_8] at hf
    refine C.seg (pe := 11) (lv' := [(0, .ref r0), (1, .int i1), (2, .int i2), (3, .int i3), (4, .int i4), (5, .int i5)]) (st' := [.ref r0, .int i5]) [(.iload 5, 2, 0), (.aload_n 0, 1, 0)] (by decide +kernel) rfl ?_
    obtain ⟨a1, ga1, hf⟩ := Option.bind_eq_some_iff.mp hf
    refine C.rdA fr_670 ga1 (by decide +kernel) rfl ?_
    obtain ⟨x2, gx2, hf⟩ := Option.bind_eq_some_iff.mp hf
    refine C.alen gx2 (by decide +kernel) rfl ?_
    refine C.icmp_ge (off := 38) (tgt := 53) (pf := 18) (by decide +kernel) (by decide) rfl (fun c13 => ?_) (fun c13 => ?_)
    · replace hf := ifp c13 hf
      refine C.seg (pe := 55) (lv' := [(0, .ref r0), (1, .int i1), (2, .int i2), (3, .int i3), (4, .int i4), (5, .int i5)]) (st' := [.int i4]) [(.iload 4, 2, 0)] (by decide +kernel) rfl ?_
      refine C.if_le (off := 15) (tgt := 70) (pf := 58) (by decide +kernel) (by decide) rfl (fun c5 => ?_) (fun c5 => ?_)
      · replace hf := ifp c5 hf
        refine Vsub [] rfl ?_
        exact l_X8_isPale_70 C C2 h hf
      · replace hf := ifn c5 hf
        refine C.seg (pe := 61) (lv' := [(0, .ref r0), (1, .int i1), (2, .int i2), (3, .int i3), (4, .int i4), (5, .int i5)]) (st' := [.int i4, .int i3]) [(.iload_n 3, 1, 0), (.iload 4, 2, 0)] (by decide +kernel) rfl ?_
        obtain ⟨x4, gx4, hf⟩ := Option.bind_eq_some_iff.mp hf
        refine C.idiv (by decide +kernel) rfl (ckD_self gx4) ?_
        refine C.seg (pe := 63) (lv' := [(0, .ref r0), (1, .int i1), (2, .int i2), (3, .int i3), (4, .int i4), (5, .int i5)]) (st' := [.int i1, .int (i3 / i4)]) [(.iload_n 1, 1, 0)] (by decide +kernel) rfl ?_
        refine C.icmp_ge (off := 7) (tgt := 70) (pf := 66) (by decide +kernel) (by decide) rfl (fun c3 => ?_) (fun c3 => ?_)
        · replace hf := ifp c3 hf
          refine Vsub [] rfl ?_
          exact l_X8_isPale_70 C C2 h hf
        · replace hf := ifn c3 hf
          refine C.seg (pe := 67) (lv' := [(0, .ref r0), (1, .int i1), (2, .int i2), (3, .int i3), (4, .int i4), (5, .int i5)]) (st' := [.int 1]) [(.iconst 1, 1, 1)] (by decide +kernel) rfl ?_
          refine C.goto (off := 4) (tgt := 71) (by decide +kernel) (by decide) ?_
          refine Vsub [] rfl ?_
          exact l_X8_isPale_71 C C2 1 h hf
    · replace hf := ifn c13 hf
      refine C.seg (pe := 19) (lv' := [(0, .ref r0), (1, .int i1), (2, .int i2), (3, .int i3), (4, .int i4), (5, .int i5)]) (st' := [.ref r0]) [(.aload_n 0, 1, 0)] (by decide +kernel) rfl ?_
      obtain ⟨a6, ga6, hf⟩ := Option.bind_eq_some_iff.mp hf
      refine C.rdA fr_670 ga6 (by decide +kernel) rfl ?_
      refine C.seg (pe := 24) (lv' := [(0, .ref r0), (1, .int i1), (2, .int i2), (3, .int i3), (4, .int i4), (5, .int i5)]) (st' := [.int i5, .ref a6]) [(.iload 5, 2, 0)] (by decide +kernel) rfl ?_
      obtain ⟨x7, gx7, hf⟩ := Option.bind_eq_some_iff.mp hf
      refine C.bald 1 rfl gx7 (by decide +kernel) rfl ?_
      refine C.seg (pe := 26) (lv' := [(0, .ref r0), (1, .int i1), (2, .int i2), (3, .int i3), (4, .int i4), (5, .int i5)]) (st' := [.int (-1), .int x7]) [(.iconst (-1), 1, (-1))] (by decide +kernel) rfl ?_
      refine C.icmp_eq (off := 21) (tgt := 47) (pf := 29) (by decide +kernel) (by decide) rfl (fun c12 => ?_) (fun c12 => ?_)
      · replace hf := ifp c12 hf
        exact l_X8_isPale_47 C C2 ih r0 i1 i2 i3 i4 i5 h hf
      · replace hf := ifn c12 hf
        refine C.seg (pe := 32) (lv' := [(0, .ref r0), (1, .int i1), (2, .int i2), (3, .int i3), (4, .int i4), (5, .int i5)]) (st' := [.ref r0, .ref r0, .int i3]) [(.iload_n 3, 1, 0), (.aload_n 0, 1, 0), (.aload_n 0, 1, 0)] (by decide +kernel) rfl ?_
        obtain ⟨a8, ga8, hf⟩ := Option.bind_eq_some_iff.mp hf
        refine C.rdA fr_670 ga8 (by decide +kernel) rfl ?_
        refine C.seg (pe := 37) (lv' := [(0, .ref r0), (1, .int i1), (2, .int i2), (3, .int i3), (4, .int i4), (5, .int i5)]) (st' := [.int i5, .ref a8, .ref r0, .int i3]) [(.iload 5, 2, 0)] (by decide +kernel) rfl ?_
        obtain ⟨x9, gx9, hf⟩ := Option.bind_eq_some_iff.mp hf
        refine C.bald 1 rfl gx9 (by decide +kernel) rfl ?_
        refine C.seg (pe := 39) (lv' := [(0, .ref r0), (1, .int i1), (2, .int i2), (3, .int i3), (4, .int i4), (5, .int i5)]) (st' := [.int i2, .int x9, .ref r0, .int i3]) [(.iload_n 2, 1, 0)] (by decide +kernel) rfl ?_
        obtain ⟨x10, h11, gx10, hf⟩ := b2_some hf
        refine C.callVr C2 [.int x9, .int i2] [.int i3] mv_1500 rfl (o_X8_freshness gx10) (w_X8_freshness gx10) (by omega) (by omega) (Nat.le_of_ble_eq_true rfl) (by decide +kernel) rfl ?_
        refine C.seg (pe := 47) (lv' := [(4, .int (i4 + 1)), (3, .int (i3 + x10)), (0, .ref r0), (1, .int i1), (2, .int i2), (5, .int i5)]) (st' := []) [(.iadd, 1, 0), (.istore_n 3, 1, 0), (.iinc 4 1, 3, 1)] (by decide +kernel) rfl ?_
        refine Vsub [2, 3, 4, 1, 0, 5] rfl ?_
        exact l_X8_isPale_47 C C2 ih r0 i1 i2 (i3 + x10) (i4 + 1) i5 h11 hf
def f_X8_isPale (z : ZX) (a0 : Nat) (p1 : Int32) (p2 : Int32) (h : AH) : Option (Int32 × AH) :=
  if isO 8 h a0 = true then
    f_X8_isPale_8 z FU a0 p1 p2 0 0 0 h
  else none
set_option maxRecDepth 100000 in
set_option maxHeartbeats 4000000 in
theorem w_X8_isPale {l : Launch} {G : GX} {a0 : Nat} {p1 : Int32} {p2 : Int32} {h : AH} {rr : Int32} {hr : AH} (hf : f_X8_isPale G.2.2 a0 p1 p2 h = some (rr, hr)) : Ct l G yX8_isPale 2 63 [.ref a0, .int p1, .int p2] h (QI rr hr) := by
  unfold f_X8_isPale at hf
  obtain ⟨ho, hf⟩ := ifO hf
  refine Ct_of (own := RX8) (cc := cX8_isPale) (nL := 6) (ret := (some .boolean)) rfl rfl k_1499 (Nat.le_of_ble_eq_true rfl) (fun X C2 C => ?_)
  show V X G h (QI rr hr) 0 [(0, .ref a0), (1, .int p1), (2, .int p2)] [] h
  refine C.seg (pe := 8) (lv' := [(5, .int 0), (4, .int 0), (3, .int 0), (0, .ref a0), (1, .int p1), (2, .int p2)]) (st' := []) [(.iconst 0, 1, 0), (.istore_n 3, 1, 0), (.iconst 0, 1, 0), (.istore 4, 2, 0), (.iconst 0, 1, 0), (.istore 5, 2, 0)] (by decide +kernel) rfl ?_
  refine Vsub [3, 4, 5, 2, 1, 0] rfl ?_
  exact l_X8_isPale_8 C C2 FU a0 p1 p2 0 0 0 h hf
theorem o_X8_isPale {z : ZX} {a0 : Nat} {p1 : Int32} {p2 : Int32} {h : AH} {rr : Int32} {hr : AH} (hf : f_X8_isPale z a0 p1 p2 h = some (rr, hr)) : isO 8 h a0 = true := by
  unfold f_X8_isPale at hf
  exact (ifO hf).1
/-! WallHouse$Wall.tinOf(I)I -/
def f_X8_tinOf_24 (si0 : Int32) (h : AH) : Option (Int32 × AH) :=
  some (si0, h)
set_option maxRecDepth 100000 in
set_option maxHeartbeats 4000000 in
theorem l_X8_tinOf_24 {X : MX} {l : Launch} {G : GX} {h0 : AH} {rr : Int32} {hr : AH} (C : Cx X G RX8 cX8_tinOf 2 (some .int) 0 0 h0) (C2 : Cy X l "tinOf" []) (si0 : Int32) (h : AH) (hf : f_X8_tinOf_24 si0 h = some (rr, hr)) : V X G h0 (QI rr hr) 24 [] [.int si0] h := by
  unfold f_X8_tinOf_24 at hf
  cases hf
  exact C.retI rfl (by decide +kernel) ⟨rfl, rfl⟩
def f_X8_tinOf_22 (h : AH) : Option (Int32 × AH) :=
  f_X8_tinOf_24 (-2) h
set_option maxRecDepth 100000 in
set_option maxHeartbeats 4000000 in
theorem l_X8_tinOf_22 {X : MX} {l : Launch} {G : GX} {h0 : AH} {rr : Int32} {hr : AH} (C : Cx X G RX8 cX8_tinOf 2 (some .int) 0 0 h0) (C2 : Cy X l "tinOf" []) (h : AH) (hf : f_X8_tinOf_22 h = some (rr, hr)) : V X G h0 (QI rr hr) 22 [] [] h := by
  unfold f_X8_tinOf_22 at hf
  refine C.seg (pe := 24) (lv' := []) (st' := [.int (-2)]) [(.bipush (-2), 2, (-2))] (by decide +kernel) rfl ?_
  exact l_X8_tinOf_24 C C2 (-2) h hf
def f_X8_tinOf (a0 : Nat) (p1 : Int32) (h : AH) : Option (Int32 × AH) :=
  if isO 8 h a0 = true then
    if p1 < 0 then
      f_X8_tinOf_22 h
    else
      (gA 8 h a0 13).bind fun a1 =>
      (aN h a1).bind fun x2 =>
      if x2 ≤ p1 then
        f_X8_tinOf_22 h
      else
        (gA 8 h a0 13).bind fun a3 =>
        (aI 1 h a3 p1).bind fun x4 =>
        f_X8_tinOf_24 x4 h
  else none
set_option maxRecDepth 100000 in
set_option maxHeartbeats 4000000 in
theorem w_X8_tinOf {l : Launch} {G : GX} {a0 : Nat} {p1 : Int32} {h : AH} {rr : Int32} {hr : AH} (hf : f_X8_tinOf a0 p1 h = some (rr, hr)) : Ct l G yX8_tinOf 0 0 [.ref a0, .int p1] h (QI rr hr) := by
  unfold f_X8_tinOf at hf
  obtain ⟨ho, hf⟩ := ifO hf
  refine Ct_of (own := RX8) (cc := cX8_tinOf) (nL := 2) (ret := (some .int)) rfl rfl k_1610 (Nat.le_of_ble_eq_true rfl) (fun X C2 C => ?_)
  show V X G h (QI rr hr) 0 [(0, .ref a0), (1, .int p1)] [] h
  refine C.seg (pe := 1) (lv' := [(0, .ref a0), (1, .int p1)]) (st' := [.int p1]) [(.iload_n 1, 1, 0)] (by decide +kernel) rfl ?_
  refine C.if_lt (off := 21) (tgt := 22) (pf := 4) (by decide +kernel) (by decide) rfl (fun c6 => ?_) (fun c6 => ?_)
  · replace hf := ifp c6 hf
    refine Vsub [] rfl ?_
    exact l_X8_tinOf_22 C C2 h hf
  · replace hf := ifn c6 hf
    refine C.seg (pe := 6) (lv' := [(0, .ref a0), (1, .int p1)]) (st' := [.ref a0, .int p1]) [(.iload_n 1, 1, 0), (.aload_n 0, 1, 0)] (by decide +kernel) rfl ?_
    obtain ⟨a1, ga1, hf⟩ := Option.bind_eq_some_iff.mp hf
    refine C.rdA fr_673 ga1 (by decide +kernel) rfl ?_
    obtain ⟨x2, gx2, hf⟩ := Option.bind_eq_some_iff.mp hf
    refine C.alen gx2 (by decide +kernel) rfl ?_
    refine C.icmp_ge (off := 12) (tgt := 22) (pf := 13) (by decide +kernel) (by decide) rfl (fun c5 => ?_) (fun c5 => ?_)
    · replace hf := ifp c5 hf
      refine Vsub [] rfl ?_
      exact l_X8_tinOf_22 C C2 h hf
    · replace hf := ifn c5 hf
      refine C.seg (pe := 14) (lv' := [(0, .ref a0), (1, .int p1)]) (st' := [.ref a0]) [(.aload_n 0, 1, 0)] (by decide +kernel) rfl ?_
      obtain ⟨a3, ga3, hf⟩ := Option.bind_eq_some_iff.mp hf
      refine C.rdA fr_673 ga3 (by decide +kernel) rfl ?_
      refine C.seg (pe := 18) (lv' := [(0, .ref a0), (1, .int p1)]) (st' := [.int p1, .ref a3]) [(.iload_n 1, 1, 0)] (by decide +kernel) rfl ?_
      obtain ⟨x4, gx4, hf⟩ := Option.bind_eq_some_iff.mp hf
      refine C.bald 1 rfl gx4 (by decide +kernel) rfl ?_
      refine C.goto (off := 5) (tgt := 24) (by decide +kernel) (by decide) ?_
      refine Vsub [] rfl ?_
      exact l_X8_tinOf_24 C C2 x4 h hf
theorem o_X8_tinOf {a0 : Nat} {p1 : Int32} {h : AH} {rr : Int32} {hr : AH} (hf : f_X8_tinOf a0 p1 h = some (rr, hr)) : isO 8 h a0 = true := by
  unfold f_X8_tinOf at hf
  exact (ifO hf).1
/-! WallHouse$Wall.cellsOfTin(I)I -/
def f_X8_cellsOfTin_26 (k4 : Nat → Int32 → Int32 → Int32 → AH → Option (Int32 × AH)) (r0 : Nat) (i1 : Int32) (i2 : Int32) (i3 : Int32) (h : AH) : Option (Int32 × AH) :=
  k4 r0 i1 i2 (i3 + 1) h
set_option maxRecDepth 100000 in
set_option maxHeartbeats 4000000 in
theorem l_X8_cellsOfTin_26 {X : MX} {l : Launch} {G : GX} {h0 : AH} {rr : Int32} {hr : AH} (C : Cx X G RX8 cX8_cellsOfTin 4 (some .int) 0 0 h0) (C2 : Cy X l "cellsOfTin" []) {k4 : Nat → Int32 → Int32 → Int32 → AH → Option (Int32 × AH)} (hk4 : ∀ (r0 : Nat) (i1 : Int32) (i2 : Int32) (i3 : Int32) (h : AH), k4 r0 i1 i2 i3 h = some (rr, hr) → V X G h0 (QI rr hr) 4 [(0, .ref r0), (1, .int i1), (2, .int i2), (3, .int i3)] [] h) (r0 : Nat) (i1 : Int32) (i2 : Int32) (i3 : Int32) (h : AH) (hf : f_X8_cellsOfTin_26 k4 r0 i1 i2 i3 h = some (rr, hr)) : V X G h0 (QI rr hr) 26 [(0, .ref r0), (1, .int i1), (2, .int i2), (3, .int i3)] [] h := by
  unfold f_X8_cellsOfTin_26 at hf
  refine C.seg (pe := 29) (lv' := [(3, .int (i3 + 1)), (0, .ref r0), (1, .int i1), (2, .int i2)]) (st' := []) [(.iinc 3 1, 3, 1)] (by decide +kernel) rfl ?_
  refine C.goto (off := (-25)) (tgt := 4) (by decide +kernel) (by decide) ?_
  refine Vsub [1, 2, 3, 0] rfl ?_
  exact hk4 r0 i1 i2 (i3 + 1) h hf
def f_X8_cellsOfTin_4 : Nat → Nat → Int32 → Int32 → Int32 → AH → Option (Int32 × AH)
  | 0, _, _, _, _, _ => none
  | n + 1, r0, i1, i2, i3, h =>
    (gA 8 h r0 13).bind fun a1 =>
    (aN h a1).bind fun x2 =>
    if x2 ≤ i3 then
      some (i2, h)
    else
      (gA 8 h r0 13).bind fun a3 =>
      (aI 1 h a3 i3).bind fun x4 =>
      if x4 = i1 then
        f_X8_cellsOfTin_26 (f_X8_cellsOfTin_4 n) r0 i1 (i2 + 1) i3 h
      else
        f_X8_cellsOfTin_26 (f_X8_cellsOfTin_4 n) r0 i1 i2 i3 h
set_option maxRecDepth 100000 in
set_option maxHeartbeats 4000000 in
theorem l_X8_cellsOfTin_4 {X : MX} {l : Launch} {G : GX} {h0 : AH} {rr : Int32} {hr : AH} (C : Cx X G RX8 cX8_cellsOfTin 4 (some .int) 0 0 h0) (C2 : Cy X l "cellsOfTin" []) : ∀ (n : Nat) (r0 : Nat) (i1 : Int32) (i2 : Int32) (i3 : Int32) (h : AH), f_X8_cellsOfTin_4 n r0 i1 i2 i3 h = some (rr, hr) → V X G h0 (QI rr hr) 4 [(0, .ref r0), (1, .int i1), (2, .int i2), (3, .int i3)] [] h := by
  intro n
  induction n with
  | zero => intro r0 i1 i2 i3 h hf; rw [f_X8_cellsOfTin_4] at hf; cases hf
  | succ n ih =>
    intro r0 i1 i2 i3 h hf
    rw [f_X8_cellsOfTin_4] at hf
    refine C.seg (pe := 6) (lv' := [(0, .ref r0), (1, .int i1), (2, .int i2), (3, .int i3)]) (st' := [.ref r0, .int i3]) [(.iload_n 3, 1, 0), (.aload_n 0, 1, 0)] (by decide +kernel) rfl ?_
    obtain ⟨a1, ga1, hf⟩ := Option.bind_eq_some_iff.mp hf
    refine C.rdA fr_673 ga1 (by decide +kernel) rfl ?_
    obtain ⟨x2, gx2, hf⟩ := Option.bind_eq_some_iff.mp hf
    refine C.alen gx2 (by decide +kernel) rfl ?_
    refine C.icmp_ge (off := 22) (tgt := 32) (pf := 13) (by decide +kernel) (by decide) rfl (fun c6 => ?_) (fun c6 => ?_)
    · replace hf := ifp c6 hf
      refine C.seg (pe := 33) (lv' := [(0, .ref r0), (1, .int i1), (2, .int i2), (3, .int i3)]) (st' := [.int i2]) [(.iload_n 2, 1, 0)] (by decide +kernel) rfl ?_
      cases hf
      exact C.retI rfl (by decide +kernel) ⟨rfl, rfl⟩
    · replace hf := ifn c6 hf
      refine C.seg (pe := 14) (lv' := [(0, .ref r0), (1, .int i1), (2, .int i2), (3, .int i3)]) (st' := [.ref r0]) [(.aload_n 0, 1, 0)] (by decide +kernel) rfl ?_
      obtain ⟨a3, ga3, hf⟩ := Option.bind_eq_some_iff.mp hf
      refine C.rdA fr_673 ga3 (by decide +kernel) rfl ?_
      refine C.seg (pe := 18) (lv' := [(0, .ref r0), (1, .int i1), (2, .int i2), (3, .int i3)]) (st' := [.int i3, .ref a3]) [(.iload_n 3, 1, 0)] (by decide +kernel) rfl ?_
      obtain ⟨x4, gx4, hf⟩ := Option.bind_eq_some_iff.mp hf
      refine C.bald 1 rfl gx4 (by decide +kernel) rfl ?_
      refine C.seg (pe := 20) (lv' := [(0, .ref r0), (1, .int i1), (2, .int i2), (3, .int i3)]) (st' := [.int i1, .int x4]) [(.iload_n 1, 1, 0)] (by decide +kernel) rfl ?_
      refine C.icmp_ne (off := 6) (tgt := 26) (pf := 23) (by decide +kernel) (by decide) rfl (fun c5 => ?_) (fun c5 => ?_)
      · replace hf := ifn c5 hf
        exact l_X8_cellsOfTin_26 C C2 ih r0 i1 i2 i3 h hf
      · replace hf := ifp c5 hf
        refine C.seg (pe := 26) (lv' := [(2, .int (i2 + 1)), (0, .ref r0), (1, .int i1), (3, .int i3)]) (st' := []) [(.iinc 2 1, 3, 1)] (by decide +kernel) rfl ?_
        refine Vsub [1, 2, 0, 3] rfl ?_
        exact l_X8_cellsOfTin_26 C C2 ih r0 i1 (i2 + 1) i3 h hf
def f_X8_cellsOfTin (a0 : Nat) (p1 : Int32) (h : AH) : Option (Int32 × AH) :=
  if isO 8 h a0 = true then
    f_X8_cellsOfTin_4 FU a0 p1 0 0 h
  else none
set_option maxRecDepth 100000 in
set_option maxHeartbeats 4000000 in
theorem w_X8_cellsOfTin {l : Launch} {G : GX} {a0 : Nat} {p1 : Int32} {h : AH} {rr : Int32} {hr : AH} (hf : f_X8_cellsOfTin a0 p1 h = some (rr, hr)) : Ct l G yX8_cellsOfTin 0 0 [.ref a0, .int p1] h (QI rr hr) := by
  unfold f_X8_cellsOfTin at hf
  obtain ⟨ho, hf⟩ := ifO hf
  refine Ct_of (own := RX8) (cc := cX8_cellsOfTin) (nL := 4) (ret := (some .int)) rfl rfl k_1618 (Nat.le_of_ble_eq_true rfl) (fun X C2 C => ?_)
  show V X G h (QI rr hr) 0 [(0, .ref a0), (1, .int p1)] [] h
  refine C.seg (pe := 4) (lv' := [(3, .int 0), (2, .int 0), (0, .ref a0), (1, .int p1)]) (st' := []) [(.iconst 0, 1, 0), (.istore_n 2, 1, 0), (.iconst 0, 1, 0), (.istore_n 3, 1, 0)] (by decide +kernel) rfl ?_
  refine Vsub [2, 3, 1, 0] rfl ?_
  exact l_X8_cellsOfTin_4 C C2 FU a0 p1 0 0 h hf
theorem o_X8_cellsOfTin {a0 : Nat} {p1 : Int32} {h : AH} {rr : Int32} {hr : AH} (hf : f_X8_cellsOfTin a0 p1 h = some (rr, hr)) : isO 8 h a0 = true := by
  unfold f_X8_cellsOfTin at hf
  exact (ifO hf).1
