/-! WallHouseModel.faulty(LWallHouseModel$Stop;)I -/
def f_X15_faulty (a0 : Nat) (p1 : Nat) (h : AH) : Option (Int32 × AH) :=
  if isO 15 h a0 = true then
    (gI 14 h p1 6).bind fun x1 =>
    (pI 15 h a0 3 x1).bind fun h2 =>
    (pI 15 h2 a0 1 4).bind fun h3 =>
    (gI 14 h3 p1 7).bind fun x4 =>
    (pI 15 h3 a0 2 x4).bind fun h5 =>
    some ((-1), h5)
  else none
set_option maxRecDepth 100000 in
set_option maxHeartbeats 4000000 in
theorem w_X15_faulty {l : Launch} {G : GX} {a0 : Nat} {p1 : Nat} {h : AH} {rr : Int32} {hr : AH} (hf : f_X15_faulty a0 p1 h = some (rr, hr)) : Ct l G yX15_faulty 0 0 [.ref a0, .ref p1] h (QI rr hr) := by
  unfold f_X15_faulty at hf
  obtain ⟨ho, hf⟩ := ifO hf
  refine Ct_of (own := RX15) (cc := cX15_faulty) (nL := 2) (ret := (some .int)) rfl rfl k_2306 (Nat.le_of_ble_eq_true rfl) (fun X C2 C => ?_)
  show V X G h (QI rr hr) 0 [(0, .ref a0), (1, .ref p1)] [] h
  refine C.seg (pe := 2) (lv' := [(0, .ref a0), (1, .ref p1)]) (st' := [.ref p1, .ref a0]) [(.aload_n 0, 1, 0), (.aload_n 1, 1, 0)] (by decide +kernel) rfl ?_
  obtain ⟨x1, gx1, hf⟩ := Option.bind_eq_some_iff.mp hf
  refine C.rdI fr_1688 gx1 (by decide +kernel) rfl ?_
  obtain ⟨h2, gh2, hf⟩ := Option.bind_eq_some_iff.mp hf
  refine C.putI fl_1789 gh2 (by decide +kernel) rfl ?_
  refine C.seg (pe := 10) (lv' := [(0, .ref a0), (1, .ref p1)]) (st' := [.int 4, .ref a0]) [(.aload_n 0, 1, 0), (.iconst 4, 1, 4)] (by decide +kernel) rfl ?_
  obtain ⟨h3, gh3, hf⟩ := Option.bind_eq_some_iff.mp hf
  refine C.putI fl_1787 gh3 (by decide +kernel) rfl ?_
  refine C.seg (pe := 15) (lv' := [(0, .ref a0), (1, .ref p1)]) (st' := [.ref p1, .ref a0]) [(.aload_n 0, 1, 0), (.aload_n 1, 1, 0)] (by decide +kernel) rfl ?_
  obtain ⟨x4, gx4, hf⟩ := Option.bind_eq_some_iff.mp hf
  refine C.rdI fr_1689 gx4 (by decide +kernel) rfl ?_
  obtain ⟨h5, gh5, hf⟩ := Option.bind_eq_some_iff.mp hf
  refine C.putI fl_1788 gh5 (by decide +kernel) rfl ?_
  refine C.seg (pe := 22) (lv' := [(0, .ref a0), (1, .ref p1)]) (st' := [.int (-1)]) [(.iconst (-1), 1, (-1))] (by decide +kernel) rfl ?_
  cases hf
  exact C.retI rfl (by decide +kernel) ⟨rfl, rfl⟩
theorem o_X15_faulty {a0 : Nat} {p1 : Nat} {h : AH} {rr : Int32} {hr : AH} (hf : f_X15_faulty a0 p1 h = some (rr, hr)) : isO 15 h a0 = true := by
  unfold f_X15_faulty at hf
  exact (ifO hf).1
/-! WallHouseModel.drawing(I)I -/
def f_X15_drawing (z : ZX) (a0 : Nat) (p1 : Int32) (h : AH) : Option (Int32 × AH) :=
  if isO 15 h a0 = true then
    (pI 15 h a0 0 0).bind fun h1 =>
    b2 (f_X15_isTaped a0 p1 h1) fun x2 h3 =>
    if x2 = 0 then
      b2 (f_X15_refused a0 2 h3) fun x46 h47 =>
      some (x46, h47)
    else
      (pI 15 h3 a0 26 p1).bind fun h4 =>
      (pI 15 h4 a0 25 0).bind fun h5 =>
      (pI 15 h5 a0 27 0).bind fun h6 =>
      (pI 15 h6 a0 3 0).bind fun h7 =>
      (pZ 15 h7 a0 36 0).bind fun h8 =>
      (pI 15 h8 a0 33 0).bind fun h9 =>
      (pI 15 h9 a0 34 0).bind fun h10 =>
      (pI 15 h10 a0 35 0).bind fun h11 =>
      (gA 15 h11 a0 40).bind fun a12 =>
      (pI 12 h11 a12 0 0).bind fun h13 =>
      (gA 15 h13 a0 40).bind fun a14 =>
      (pI 12 h13 a14 1 0).bind fun h15 =>
      (f_X15_next a0 h15).bind fun h16 =>
      b2 (f_X15_readText z 8 a0 h16) fun q17 h18 =>
      tr q17 (
        (gI 15 h18 a0 28).bind fun x20 =>
        if x20 = 1 then
          (gI 15 h18 a0 38).bind fun x21 =>
          if x21 = 12 then
            b2 (f_X15_refused a0 3 h18) fun x35 h36 =>
            some (x35, h36)
          else
            (gA 15 h18 a0 39).bind fun a22 =>
            (gI 15 h18 a0 38).bind fun x23 =>
            (gA 15 h18 a0 40).bind fun a24 =>
            (sQ 7 12 h18 a22 x23 a24).bind fun h25 =>
            b2 (nwO 12 13 dX12 h25) fun a26 h27 =>
            (f_X12_init a26 h27).bind fun h28 =>
            (pQ 15 h28 a0 40 (some a26)).bind fun h29 =>
            (gI 15 h29 a0 38).bind fun x30 =>
            (pI 15 h29 a0 38 (x30 + 1)).bind fun h31 =>
            (gI 15 h31 a0 38).bind fun x32 =>
            b2 (f_X15_done a0 (x32 - 1) h31) fun x33 h34 =>
            some (x33, h34)
        else
          b2 (f_X15_stop a0 1 h18) fun q38 h39 =>
          tr q38 (
            none) fun a40 =>
          (ckO 14 h39 a40).bind fun _ =>
          b2 (f_X15_faulty a0 a40 h39) fun x41 h42 =>
          some (x41, h42)) fun a19 =>
      (ckO 14 h18 a19).bind fun _ =>
      b2 (f_X15_faulty a0 a19 h18) fun x44 h45 =>
      some (x44, h45)
  else none
set_option maxRecDepth 100000 in
set_option maxHeartbeats 4000000 in
theorem w_X15_drawing {l : Launch} {G : GX} {a0 : Nat} {p1 : Int32} {h : AH} {rr : Int32} {hr : AH} (hf : f_X15_drawing G.2.2 a0 p1 h = some (rr, hr)) : Ct l G yX15_drawing 661 12221 [.ref a0, .int p1] h (QI rr hr) := by
  unfold f_X15_drawing at hf
  obtain ⟨ho, hf⟩ := ifO hf
  refine Ct_ofH (own := RX15) (cc := cX15_drawing) (nL := 3) (ret := (some .int)) rfl rfl k_2188 (Nat.le_of_ble_eq_true rfl) (fun X C2 C => ?_)
  show V X G h (QI rr hr) 0 [(0, .ref a0), (1, .int p1)] [] h
  refine C.seg (pe := 2) (lv' := [(0, .ref a0), (1, .int p1)]) (st' := [.int 0, .ref a0]) [(.aload_n 0, 1, 0), (.iconst 0, 1, 0)] (by decide +kernel) rfl ?_
  obtain ⟨h1, gh1, hf⟩ := Option.bind_eq_some_iff.mp hf
  refine C.putI fl_1786 gh1 (by decide +kernel) rfl ?_
  refine C.seg (pe := 7) (lv' := [(0, .ref a0), (1, .int p1)]) (st' := [.int p1, .ref a0]) [(.aload_n 0, 1, 0), (.iload_n 1, 1, 0)] (by decide +kernel) rfl ?_
  obtain ⟨x2, h3, gx2, hf⟩ := b2_some hf
  refine C.callVr C2 [.int p1] [] mv_2189 rfl (o_X15_isTaped gx2) (w_X15_isTaped gx2) (by omega) (by omega) (Nat.le_of_ble_eq_true rfl) (by decide +kernel) rfl ?_
  refine C.if_ne (off := 9) (tgt := 19) (pf := 13) (by decide +kernel) (by decide) rfl (fun c48 => ?_) (fun c48 => ?_)
  · replace hf := ifn c48 hf
    refine C.seg (pe := 21) (lv' := [(0, .ref a0), (1, .int p1)]) (st' := [.int p1, .ref a0]) [(.aload_n 0, 1, 0), (.iload_n 1, 1, 0)] (by decide +kernel) rfl ?_
    obtain ⟨h4, gh4, hf⟩ := Option.bind_eq_some_iff.mp hf
    refine C.putI fl_1812 gh4 (by decide +kernel) rfl ?_
    refine C.seg (pe := 26) (lv' := [(0, .ref a0), (1, .int p1)]) (st' := [.int 0, .ref a0]) [(.aload_n 0, 1, 0), (.iconst 0, 1, 0)] (by decide +kernel) rfl ?_
    obtain ⟨h5, gh5, hf⟩ := Option.bind_eq_some_iff.mp hf
    refine C.putI fl_1811 gh5 (by decide +kernel) rfl ?_
    refine C.seg (pe := 31) (lv' := [(0, .ref a0), (1, .int p1)]) (st' := [.int 0, .ref a0]) [(.aload_n 0, 1, 0), (.iconst 0, 1, 0)] (by decide +kernel) rfl ?_
    obtain ⟨h6, gh6, hf⟩ := Option.bind_eq_some_iff.mp hf
    refine C.putI fl_1813 gh6 (by decide +kernel) rfl ?_
    refine C.seg (pe := 36) (lv' := [(0, .ref a0), (1, .int p1)]) (st' := [.int 0, .ref a0]) [(.aload_n 0, 1, 0), (.iconst 0, 1, 0)] (by decide +kernel) rfl ?_
    obtain ⟨h7, gh7, hf⟩ := Option.bind_eq_some_iff.mp hf
    refine C.putI fl_1789 gh7 (by decide +kernel) rfl ?_
    refine C.seg (pe := 41) (lv' := [(0, .ref a0), (1, .int p1)]) (st' := [.int 0, .ref a0]) [(.aload_n 0, 1, 0), (.iconst 0, 1, 0)] (by decide +kernel) rfl ?_
    obtain ⟨h8, gh8, hf⟩ := Option.bind_eq_some_iff.mp hf
    refine C.putZ fl_1822 gh8 (by decide +kernel) rfl ?_
    refine C.seg (pe := 46) (lv' := [(0, .ref a0), (1, .int p1)]) (st' := [.int 0, .ref a0]) [(.aload_n 0, 1, 0), (.iconst 0, 1, 0)] (by decide +kernel) rfl ?_
    obtain ⟨h9, gh9, hf⟩ := Option.bind_eq_some_iff.mp hf
    refine C.putI fl_1819 gh9 (by decide +kernel) rfl ?_
    refine C.seg (pe := 51) (lv' := [(0, .ref a0), (1, .int p1)]) (st' := [.int 0, .ref a0]) [(.aload_n 0, 1, 0), (.iconst 0, 1, 0)] (by decide +kernel) rfl ?_
    obtain ⟨h10, gh10, hf⟩ := Option.bind_eq_some_iff.mp hf
    refine C.putI fl_1820 gh10 (by decide +kernel) rfl ?_
    refine C.seg (pe := 56) (lv' := [(0, .ref a0), (1, .int p1)]) (st' := [.int 0, .ref a0]) [(.aload_n 0, 1, 0), (.iconst 0, 1, 0)] (by decide +kernel) rfl ?_
    obtain ⟨h11, gh11, hf⟩ := Option.bind_eq_some_iff.mp hf
    refine C.putI fl_1821 gh11 (by decide +kernel) rfl ?_
    refine C.seg (pe := 60) (lv' := [(0, .ref a0), (1, .int p1)]) (st' := [.ref a0]) [(.aload_n 0, 1, 0)] (by decide +kernel) rfl ?_
    obtain ⟨a12, ga12, hf⟩ := Option.bind_eq_some_iff.mp hf
    refine C.rdA fr_1826 ga12 (by decide +kernel) rfl ?_
    refine C.seg (pe := 64) (lv' := [(0, .ref a0), (1, .int p1)]) (st' := [.int 0, .ref a12]) [(.iconst 0, 1, 0)] (by decide +kernel) rfl ?_
    obtain ⟨h13, gh13, hf⟩ := Option.bind_eq_some_iff.mp hf
    refine C.putI fl_1714 gh13 (by decide +kernel) rfl ?_
    refine C.seg (pe := 68) (lv' := [(0, .ref a0), (1, .int p1)]) (st' := [.ref a0]) [(.aload_n 0, 1, 0)] (by decide +kernel) rfl ?_
    obtain ⟨a14, ga14, hf⟩ := Option.bind_eq_some_iff.mp hf
    refine C.rdA fr_1826 ga14 (by decide +kernel) rfl ?_
    refine C.seg (pe := 72) (lv' := [(0, .ref a0), (1, .int p1)]) (st' := [.int 0, .ref a14]) [(.iconst 0, 1, 0)] (by decide +kernel) rfl ?_
    obtain ⟨h15, gh15, hf⟩ := Option.bind_eq_some_iff.mp hf
    refine C.putI fl_1716 gh15 (by decide +kernel) rfl ?_
    refine C.seg (pe := 76) (lv' := [(0, .ref a0), (1, .int p1)]) (st' := [.ref a0]) [(.aload_n 0, 1, 0)] (by decide +kernel) rfl ?_
    obtain ⟨h16, gh16, hf⟩ := Option.bind_eq_some_iff.mp hf
    refine C.callVr C2 [] [] mv_2193 rfl (o_X15_next gh16) (w_X15_next gh16) (by omega) (by omega) (Nat.le_of_ble_eq_true rfl) (by decide +kernel) rfl ?_
    refine C.seg (pe := 80) (lv' := [(0, .ref a0), (1, .int p1)]) (st' := [.ref a0]) [(.aload_n 0, 1, 0)] (by decide +kernel) rfl ?_
    obtain ⟨q17, h18, gq17, hf⟩ := b2_some hf
    cases q17 with
    | none =>
      replace hf := tr_none hf
      refine C.callVr C2 [] [] mv_2212 rfl (o_X15_readText gq17) (w_X15_readText 8 gq17) (by omega) (by omega) (Nat.le_of_ble_eq_true rfl) (by decide +kernel) rfl ?_
      refine C.seg (pe := 84) (lv' := [(0, .ref a0), (1, .int p1)]) (st' := [.ref a0]) [(.aload_n 0, 1, 0)] (by decide +kernel) rfl ?_
      obtain ⟨x20, gx20, hf⟩ := Option.bind_eq_some_iff.mp hf
      refine C.rdI fr_1814 gx20 (by decide +kernel) rfl ?_
      refine C.seg (pe := 88) (lv' := [(0, .ref a0), (1, .int p1)]) (st' := [.int 1, .int x20]) [(.iconst 1, 1, 1)] (by decide +kernel) rfl ?_
      refine C.icmp_eq (off := 9) (tgt := 97) (pf := 91) (by decide +kernel) (by decide) rfl (fun c43 => ?_) (fun c43 => ?_)
      · replace hf := ifp c43 hf
        refine C.goto (off := 10) (tgt := 107) (by decide +kernel) (by decide) ?_
        refine C.seg (pe := 108) (lv' := [(0, .ref a0), (1, .int p1)]) (st' := [.ref a0]) [(.aload_n 0, 1, 0)] (by decide +kernel) rfl ?_
        obtain ⟨x21, gx21, hf⟩ := Option.bind_eq_some_iff.mp hf
        refine C.rdI fr_1824 gx21 (by decide +kernel) rfl ?_
        refine C.seg (pe := 113) (lv' := [(0, .ref a0), (1, .int p1)]) (st' := [.int 12, .int x21]) [(.bipush 12, 2, 12)] (by decide +kernel) rfl ?_
        refine C.icmp_ne (off := 9) (tgt := 122) (pf := 116) (by decide +kernel) (by decide) rfl (fun c37 => ?_) (fun c37 => ?_)
        · replace hf := ifn c37 hf
          refine C.seg (pe := 123) (lv' := [(0, .ref a0), (1, .int p1)]) (st' := [.ref a0]) [(.aload_n 0, 1, 0)] (by decide +kernel) rfl ?_
          obtain ⟨a22, ga22, hf⟩ := Option.bind_eq_some_iff.mp hf
          refine C.rdA fr_1825 ga22 (by decide +kernel) rfl ?_
          refine C.seg (pe := 127) (lv' := [(0, .ref a0), (1, .int p1)]) (st' := [.ref a0, .ref a22]) [(.aload_n 0, 1, 0)] (by decide +kernel) rfl ?_
          obtain ⟨x23, gx23, hf⟩ := Option.bind_eq_some_iff.mp hf
          refine C.rdI fr_1824 gx23 (by decide +kernel) rfl ?_
          refine C.seg (pe := 131) (lv' := [(0, .ref a0), (1, .int p1)]) (st' := [.ref a0, .int x23, .ref a22]) [(.aload_n 0, 1, 0)] (by decide +kernel) rfl ?_
          obtain ⟨a24, ga24, hf⟩ := Option.bind_eq_some_iff.mp hf
          refine C.rdA fr_1826 ga24 (by decide +kernel) rfl ?_
          obtain ⟨h25, gh25, hf⟩ := Option.bind_eq_some_iff.mp hf
          refine C.aast 7 (ci := 12) rfl (by decide) rfl gh25 (by decide +kernel) rfl ?_
          refine C.seg (pe := 136) (lv' := [(0, .ref a0), (1, .int p1)]) (st' := [.ref a0]) [(.aload_n 0, 1, 0)] (by decide +kernel) rfl ?_
          obtain ⟨a26, h27, ga26, hf⟩ := b2_some hf
          refine C.newo cl_12 k_1707 ga26 (by decide +kernel) rfl ?_
          refine C.seg (pe := 140) (lv' := [(0, .ref a0), (1, .int p1)]) (st' := [.ref a26, .ref a26, .ref a0]) [(.dup, 1, 0)] (by decide +kernel) rfl ?_
          obtain ⟨h28, gh28, hf⟩ := Option.bind_eq_some_iff.mp hf
          refine C.callIr C2 [] [.ref a26, .ref a0] mi_1710 rfl (w_X12_init gh28) (by omega) (by omega) (Nat.le_of_ble_eq_true rfl) (by decide +kernel) rfl ?_
          obtain ⟨h29, gh29, hf⟩ := Option.bind_eq_some_iff.mp hf
          refine C.putA fl_1826 (Or.inl ⟨_, rfl⟩) gh29 (by decide +kernel) rfl ?_
          refine C.seg (pe := 148) (lv' := [(0, .ref a0), (1, .int p1)]) (st' := [.ref a0, .ref a0]) [(.aload_n 0, 1, 0), (.dup, 1, 0)] (by decide +kernel) rfl ?_
          obtain ⟨x30, gx30, hf⟩ := Option.bind_eq_some_iff.mp hf
          refine C.rdI fr_1824 gx30 (by decide +kernel) rfl ?_
          refine C.seg (pe := 153) (lv' := [(0, .ref a0), (1, .int p1)]) (st' := [.int (x30 + 1), .ref a0]) [(.iconst 1, 1, 1), (.iadd, 1, 0)] (by decide +kernel) rfl ?_
          obtain ⟨h31, gh31, hf⟩ := Option.bind_eq_some_iff.mp hf
          refine C.putI fl_1824 gh31 (by decide +kernel) rfl ?_
          refine C.seg (pe := 158) (lv' := [(0, .ref a0), (1, .int p1)]) (st' := [.ref a0, .ref a0]) [(.aload_n 0, 1, 0), (.aload_n 0, 1, 0)] (by decide +kernel) rfl ?_
          obtain ⟨x32, gx32, hf⟩ := Option.bind_eq_some_iff.mp hf
          refine C.rdI fr_1824 gx32 (by decide +kernel) rfl ?_
          refine C.seg (pe := 163) (lv' := [(0, .ref a0), (1, .int p1)]) (st' := [.int (x32 - 1), .ref a0]) [(.iconst 1, 1, 1), (.isub, 1, 0)] (by decide +kernel) rfl ?_
          obtain ⟨x33, h34, gx33, hf⟩ := b2_some hf
          refine C.callVr C2 [.int (x32 - 1)] [] mv_2116 rfl (o_X15_done gx33) (w_X15_done gx33) (by omega) (by omega) (Nat.le_of_ble_eq_true rfl) (by decide +kernel) rfl ?_
          cases hf
          exact C.retI rfl (by decide +kernel) ⟨rfl, rfl⟩
        · replace hf := ifp c37 hf
          refine C.seg (pe := 118) (lv' := [(0, .ref a0), (1, .int p1)]) (st' := [.int 3, .ref a0]) [(.aload_n 0, 1, 0), (.iconst 3, 1, 3)] (by decide +kernel) rfl ?_
          obtain ⟨x35, h36, gx35, hf⟩ := b2_some hf
          refine C.callVr C2 [.int 3] [] mv_2112 rfl (o_X15_refused gx35) (w_X15_refused gx35) (by omega) (by omega) (Nat.le_of_ble_eq_true rfl) (by decide +kernel) rfl ?_
          cases hf
          exact C.retI rfl (by decide +kernel) ⟨rfl, rfl⟩
      · replace hf := ifn c43 hf
        refine C.seg (pe := 93) (lv' := [(0, .ref a0), (1, .int p1)]) (st' := [.int 1, .ref a0]) [(.aload_n 0, 1, 0), (.iconst 1, 1, 1)] (by decide +kernel) rfl ?_
        obtain ⟨q38, h39, gq38, hf⟩ := b2_some hf
        cases q38 with
        | none =>
          replace hf := tr_none hf
          refine C.callVr C2 [.int 1] [] mv_2220 rfl (o_X15_stop gq38) (w_X15_stop gq38) (by omega) (by omega) (Nat.le_of_ble_eq_true rfl) (by decide +kernel) rfl ?_
          cases hf
        | some a40 =>
          replace hf := tr_some hf
          refine C.callVr C2 [.int 1] [] mv_2220 rfl (o_X15_stop gq38) (w_X15_stop gq38) (by omega) (by omega) (Nat.le_of_ble_eq_true rfl) (by decide +kernel) rfl ?_
          obtain ⟨_, g0, hf⟩ := Option.bind_eq_some_iff.mp hf
          refine C.athrowH C2 (hp := 100) (k_1637) g0 (by decide +kernel) rfl ?_
          refine C.seg (pe := 103) (lv' := [(2, .ref a40), (0, .ref a0), (1, .int p1)]) (st' := [.ref a40, .ref a0]) [(.astore_n 2, 1, 0), (.aload_n 0, 1, 0), (.aload_n 2, 1, 0)] (by decide +kernel) rfl ?_
          obtain ⟨x41, h42, gx41, hf⟩ := b2_some hf
          refine C.callVr C2 [.ref a40] [] mv_2303 rfl (o_X15_faulty gx41) (w_X15_faulty gx41) (by omega) (by omega) (Nat.le_of_ble_eq_true rfl) (by decide +kernel) rfl ?_
          cases hf
          exact C.retI rfl (by decide +kernel) ⟨rfl, rfl⟩
    | some a19 =>
      replace hf := tr_some hf
      obtain ⟨_, g0, hf⟩ := Option.bind_eq_some_iff.mp hf
      refine C.callVh C2 [] [] mv_2212 rfl (o_X15_readText gq17) (w_X15_readText 8 gq17) (by omega) (by omega) (Nat.le_of_ble_eq_true rfl) (by decide +kernel) (hp := 100) (k_1637) g0 ?_
      refine C.seg (pe := 103) (lv' := [(2, .ref a19), (0, .ref a0), (1, .int p1)]) (st' := [.ref a19, .ref a0]) [(.astore_n 2, 1, 0), (.aload_n 0, 1, 0), (.aload_n 2, 1, 0)] (by decide +kernel) rfl ?_
      obtain ⟨x44, h45, gx44, hf⟩ := b2_some hf
      refine C.callVr C2 [.ref a19] [] mv_2303 rfl (o_X15_faulty gx44) (w_X15_faulty gx44) (by omega) (by omega) (Nat.le_of_ble_eq_true rfl) (by decide +kernel) rfl ?_
      cases hf
      exact C.retI rfl (by decide +kernel) ⟨rfl, rfl⟩
  · replace hf := ifp c48 hf
    refine C.seg (pe := 15) (lv' := [(0, .ref a0), (1, .int p1)]) (st' := [.int 2, .ref a0]) [(.aload_n 0, 1, 0), (.iconst 2, 1, 2)] (by decide +kernel) rfl ?_
    obtain ⟨x46, h47, gx46, hf⟩ := b2_some hf
    refine C.callVr C2 [.int 2] [] mv_2112 rfl (o_X15_refused gx46) (w_X15_refused gx46) (by omega) (by omega) (Nat.le_of_ble_eq_true rfl) (by decide +kernel) rfl ?_
    cases hf
    exact C.retI rfl (by decide +kernel) ⟨rfl, rfl⟩
theorem o_X15_drawing {z : ZX} {a0 : Nat} {p1 : Int32} {h : AH} {rr : Int32} {hr : AH} (hf : f_X15_drawing z a0 p1 h = some (rr, hr)) : isO 15 h a0 = true := by
  unfold f_X15_drawing at hf
  exact (ifO hf).1
/-! WallHouseModel.bar(I)I -/
def f_X15_bar_90 (r0 : Nat) (i2 : Int32) (h : AH) : Option (Int32 × AH) :=
  (pI 15 h r0 3 1).bind fun h1 =>
  (pI 15 h1 r0 1 4).bind fun h2 =>
  (pI 15 h2 r0 2 i2).bind fun h3 =>
  some ((-1), h3)
set_option maxRecDepth 100000 in
set_option maxHeartbeats 4000000 in
theorem l_X15_bar_90 {X : MX} {l : Launch} {G : GX} {h0 : AH} {rr : Int32} {hr : AH} (C : Cx X G RX15 cX15_bar 5 (some .int) 1 21 h0) (C2 : Cy X l "bar" []) (r0 : Nat) (i2 : Int32) (h : AH) (hf : f_X15_bar_90 r0 i2 h = some (rr, hr)) : V X G h0 (QI rr hr) 90 [(0, .ref r0), (2, .int i2)] [] h := by
  unfold f_X15_bar_90 at hf
  refine C.seg (pe := 92) (lv' := [(0, .ref r0), (2, .int i2)]) (st' := [.int 1, .ref r0]) [(.aload_n 0, 1, 0), (.iconst 1, 1, 1)] (by decide +kernel) rfl ?_
  obtain ⟨h1, gh1, hf⟩ := Option.bind_eq_some_iff.mp hf
  refine C.putI fl_1789 gh1 (by decide +kernel) rfl ?_
  refine C.seg (pe := 97) (lv' := [(0, .ref r0), (2, .int i2)]) (st' := [.int 4, .ref r0]) [(.aload_n 0, 1, 0), (.iconst 4, 1, 4)] (by decide +kernel) rfl ?_
  obtain ⟨h2, gh2, hf⟩ := Option.bind_eq_some_iff.mp hf
  refine C.putI fl_1787 gh2 (by decide +kernel) rfl ?_
  refine C.seg (pe := 102) (lv' := [(0, .ref r0), (2, .int i2)]) (st' := [.int i2, .ref r0]) [(.aload_n 0, 1, 0), (.iload_n 2, 1, 0)] (by decide +kernel) rfl ?_
  obtain ⟨h3, gh3, hf⟩ := Option.bind_eq_some_iff.mp hf
  refine C.putI fl_1788 gh3 (by decide +kernel) rfl ?_
  refine C.seg (pe := 106) (lv' := [(0, .ref r0), (2, .int i2)]) (st' := [.int (-1)]) [(.iconst (-1), 1, (-1))] (by decide +kernel) rfl ?_
  cases hf
  exact C.retI rfl (by decide +kernel) ⟨rfl, rfl⟩
def f_X15_bar_81 (r0 : Nat) (i1 : Int32) (i2 : Int32) (j3 : Int64) (h : AH) : Option (Int32 × AH) :=
  if i2 < i1 then
    f_X15_bar_90 r0 i2 h
  else
    if i1 = 0 then
      f_X15_bar_90 r0 i2 h
    else
      (gI 15 h r0 41).bind fun x1 =>
      if x1 = 12 then
        b2 (f_X15_refused r0 3 h) fun x10 h11 =>
        some (x10, h11)
      else
        (gA 15 h r0 42).bind fun a2 =>
        (gI 15 h r0 41).bind fun x3 =>
        (sL h a2 x3 j3).bind fun h4 =>
        (gI 15 h4 r0 41).bind fun x5 =>
        (pI 15 h4 r0 41 (x5 + 1)).bind fun h6 =>
        (gI 15 h6 r0 41).bind fun x7 =>
        b2 (f_X15_done r0 x7 h6) fun x8 h9 =>
        some (x8, h9)
set_option maxRecDepth 100000 in
set_option maxHeartbeats 4000000 in
theorem l_X15_bar_81 {X : MX} {l : Launch} {G : GX} {h0 : AH} {rr : Int32} {hr : AH} (C : Cx X G RX15 cX15_bar 5 (some .int) 1 21 h0) (C2 : Cy X l "bar" []) (r0 : Nat) (i1 : Int32) (i2 : Int32) (j3 : Int64) (h : AH) (hf : f_X15_bar_81 r0 i1 i2 j3 h = some (rr, hr)) : V X G h0 (QI rr hr) 81 [(0, .ref r0), (1, .int i1), (2, .int i2), (3, .long j3)] [] h := by
  unfold f_X15_bar_81 at hf
  refine C.seg (pe := 83) (lv' := [(0, .ref r0), (1, .int i1), (2, .int i2), (3, .long j3)]) (st' := [.int i1, .int i2]) [(.iload_n 2, 1, 0), (.iload_n 1, 1, 0)] (by decide +kernel) rfl ?_
  refine C.icmp_lt (off := 7) (tgt := 90) (pf := 86) (by decide +kernel) (by decide) rfl (fun c14 => ?_) (fun c14 => ?_)
  · replace hf := ifp c14 hf
    refine Vsub [0, 2] rfl ?_
    exact l_X15_bar_90 C C2 r0 i2 h hf
  · replace hf := ifn c14 hf
    refine C.seg (pe := 87) (lv' := [(0, .ref r0), (1, .int i1), (2, .int i2), (3, .long j3)]) (st' := [.int i1]) [(.iload_n 1, 1, 0)] (by decide +kernel) rfl ?_
    refine C.if_ne (off := 20) (tgt := 107) (pf := 90) (by decide +kernel) (by decide) rfl (fun c13 => ?_) (fun c13 => ?_)
    · replace hf := ifn c13 hf
      refine C.seg (pe := 108) (lv' := [(0, .ref r0), (1, .int i1), (2, .int i2), (3, .long j3)]) (st' := [.ref r0]) [(.aload_n 0, 1, 0)] (by decide +kernel) rfl ?_
      obtain ⟨x1, gx1, hf⟩ := Option.bind_eq_some_iff.mp hf
      refine C.rdI fr_1827 gx1 (by decide +kernel) rfl ?_
      refine C.seg (pe := 113) (lv' := [(0, .ref r0), (1, .int i1), (2, .int i2), (3, .long j3)]) (st' := [.int 12, .int x1]) [(.bipush 12, 2, 12)] (by decide +kernel) rfl ?_
      refine C.icmp_ne (off := 9) (tgt := 122) (pf := 116) (by decide +kernel) (by decide) rfl (fun c12 => ?_) (fun c12 => ?_)
      · replace hf := ifn c12 hf
        refine C.seg (pe := 123) (lv' := [(0, .ref r0), (1, .int i1), (2, .int i2), (3, .long j3)]) (st' := [.ref r0]) [(.aload_n 0, 1, 0)] (by decide +kernel) rfl ?_
        obtain ⟨a2, ga2, hf⟩ := Option.bind_eq_some_iff.mp hf
        refine C.rdA fr_1828 ga2 (by decide +kernel) rfl ?_
        refine C.seg (pe := 127) (lv' := [(0, .ref r0), (1, .int i1), (2, .int i2), (3, .long j3)]) (st' := [.ref r0, .ref a2]) [(.aload_n 0, 1, 0)] (by decide +kernel) rfl ?_
        obtain ⟨x3, gx3, hf⟩ := Option.bind_eq_some_iff.mp hf
        refine C.rdI fr_1827 gx3 (by decide +kernel) rfl ?_
        refine C.seg (pe := 131) (lv' := [(0, .ref r0), (1, .int i1), (2, .int i2), (3, .long j3)]) (st' := [.long j3, .int x3, .ref a2]) [(.lload_n 3, 1, 0)] (by decide +kernel) rfl ?_
        obtain ⟨h4, gh4, hf⟩ := Option.bind_eq_some_iff.mp hf
        refine C.last gh4 (by decide +kernel) rfl ?_
        refine C.seg (pe := 134) (lv' := [(0, .ref r0), (1, .int i1), (2, .int i2), (3, .long j3)]) (st' := [.ref r0, .ref r0]) [(.aload_n 0, 1, 0), (.dup, 1, 0)] (by decide +kernel) rfl ?_
        obtain ⟨x5, gx5, hf⟩ := Option.bind_eq_some_iff.mp hf
        refine C.rdI fr_1827 gx5 (by decide +kernel) rfl ?_
        refine C.seg (pe := 139) (lv' := [(0, .ref r0), (1, .int i1), (2, .int i2), (3, .long j3)]) (st' := [.int (x5 + 1), .ref r0]) [(.iconst 1, 1, 1), (.iadd, 1, 0)] (by decide +kernel) rfl ?_
        obtain ⟨h6, gh6, hf⟩ := Option.bind_eq_some_iff.mp hf
        refine C.putI fl_1827 gh6 (by decide +kernel) rfl ?_
        refine C.seg (pe := 144) (lv' := [(0, .ref r0), (1, .int i1), (2, .int i2), (3, .long j3)]) (st' := [.ref r0, .ref r0]) [(.aload_n 0, 1, 0), (.aload_n 0, 1, 0)] (by decide +kernel) rfl ?_
        obtain ⟨x7, gx7, hf⟩ := Option.bind_eq_some_iff.mp hf
        refine C.rdI fr_1827 gx7 (by decide +kernel) rfl ?_
        obtain ⟨x8, h9, gx8, hf⟩ := b2_some hf
        refine C.callVr C2 [.int x7] [] mv_2116 rfl (o_X15_done gx8) (w_X15_done gx8) (by omega) (by omega) (Nat.le_of_ble_eq_true rfl) (by decide +kernel) rfl ?_
        cases hf
        exact C.retI rfl (by decide +kernel) ⟨rfl, rfl⟩
      · replace hf := ifp c12 hf
        refine C.seg (pe := 118) (lv' := [(0, .ref r0), (1, .int i1), (2, .int i2), (3, .long j3)]) (st' := [.int 3, .ref r0]) [(.aload_n 0, 1, 0), (.iconst 3, 1, 3)] (by decide +kernel) rfl ?_
        obtain ⟨x10, h11, gx10, hf⟩ := b2_some hf
        refine C.callVr C2 [.int 3] [] mv_2112 rfl (o_X15_refused gx10) (w_X15_refused gx10) (by omega) (by omega) (Nat.le_of_ble_eq_true rfl) (by decide +kernel) rfl ?_
        cases hf
        exact C.retI rfl (by decide +kernel) ⟨rfl, rfl⟩
    · replace hf := ifp c13 hf
      refine Vsub [0, 2] rfl ?_
      exact l_X15_bar_90 C C2 r0 i2 h hf
def f_X15_bar_33 : Nat → Nat → Int32 → Int32 → Int64 → AH → Option (Int32 × AH)
  | 0, _, _, _, _, _ => none
  | n + 1, r0, i1, i2, j3, h =>
    if i1 ≤ i2 then
      f_X15_bar_81 r0 i1 i2 j3 h
    else
      if 8 ≤ i2 then
        f_X15_bar_81 r0 i1 i2 j3 h
      else
        (gA 15 h r0 24).bind fun a1 =>
        (aI 1 h a1 i2).bind fun x2 =>
        b2 (f_X15_isLetter x2 h) fun x3 h4 =>
        if x3 = 0 then
          f_X15_bar_81 r0 i1 i2 j3 h4
        else
          (gA 15 h4 r0 24).bind fun a5 =>
          (aI 1 h4 a5 i2).bind fun x6 =>
          lt ((((32 : Int64)) * j3) + (((x6 - 97) + 1).toInt64) : Int64) fun y7 =>
          (f_X15_bar_33 n) r0 i1 (i2 + 1) y7 h4
set_option maxRecDepth 100000 in
set_option maxHeartbeats 4000000 in
theorem l_X15_bar_33 {X : MX} {l : Launch} {G : GX} {h0 : AH} {rr : Int32} {hr : AH} (C : Cx X G RX15 cX15_bar 5 (some .int) 1 21 h0) (C2 : Cy X l "bar" []) : ∀ (n : Nat) (r0 : Nat) (i1 : Int32) (i2 : Int32) (j3 : Int64) (h : AH), f_X15_bar_33 n r0 i1 i2 j3 h = some (rr, hr) → V X G h0 (QI rr hr) 33 [(0, .ref r0), (1, .int i1), (2, .int i2), (3, .long j3)] [] h := by
  intro n
  induction n with
  | zero => intro r0 i1 i2 j3 h hf; rw [f_X15_bar_33] at hf; cases hf
  | succ n ih =>
    intro r0 i1 i2 j3 h hf
    rw [f_X15_bar_33] at hf
    refine C.seg (pe := 35) (lv' := [(0, .ref r0), (1, .int i1), (2, .int i2), (3, .long j3)]) (st' := [.int i1, .int i2]) [(.iload_n 2, 1, 0), (.iload_n 1, 1, 0)] (by decide +kernel) rfl ?_
    refine C.icmp_ge (off := 46) (tgt := 81) (pf := 38) (by decide +kernel) (by decide) rfl (fun c10 => ?_) (fun c10 => ?_)
    · replace hf := ifp c10 hf
      exact l_X15_bar_81 C C2 r0 i1 i2 j3 h hf
    · replace hf := ifn c10 hf
      refine C.seg (pe := 41) (lv' := [(0, .ref r0), (1, .int i1), (2, .int i2), (3, .long j3)]) (st' := [.int 8, .int i2]) [(.iload_n 2, 1, 0), (.bipush 8, 2, 8)] (by decide +kernel) rfl ?_
      refine C.icmp_ge (off := 40) (tgt := 81) (pf := 44) (by decide +kernel) (by decide) rfl (fun c9 => ?_) (fun c9 => ?_)
      · replace hf := ifp c9 hf
        exact l_X15_bar_81 C C2 r0 i1 i2 j3 h hf
      · replace hf := ifn c9 hf
        refine C.seg (pe := 45) (lv' := [(0, .ref r0), (1, .int i1), (2, .int i2), (3, .long j3)]) (st' := [.ref r0]) [(.aload_n 0, 1, 0)] (by decide +kernel) rfl ?_
        obtain ⟨a1, ga1, hf⟩ := Option.bind_eq_some_iff.mp hf
        refine C.rdA fr_1810 ga1 (by decide +kernel) rfl ?_
        refine C.seg (pe := 49) (lv' := [(0, .ref r0), (1, .int i1), (2, .int i2), (3, .long j3)]) (st' := [.int i2, .ref a1]) [(.iload_n 2, 1, 0)] (by decide +kernel) rfl ?_
        obtain ⟨x2, gx2, hf⟩ := Option.bind_eq_some_iff.mp hf
        refine C.bald 1 rfl gx2 (by decide +kernel) rfl ?_
        obtain ⟨x3, h4, gx3, hf⟩ := b2_some hf
        refine C.callSr C2 [.int x2] [] ms_2201 rfl (w_X15_isLetter gx3) (by omega) (by omega) (Nat.le_of_ble_eq_true rfl) (by decide +kernel) rfl ?_
        refine C.if_eq (off := 28) (tgt := 81) (pf := 56) (by decide +kernel) (by decide) rfl (fun c8 => ?_) (fun c8 => ?_)
        · replace hf := ifp c8 hf
          exact l_X15_bar_81 C C2 r0 i1 i2 j3 h4 hf
        · replace hf := ifn c8 hf
          refine C.ldcL k_2204 (by decide +kernel) rfl ?_
          refine C.seg (pe := 62) (lv' := [(0, .ref r0), (1, .int i1), (2, .int i2), (3, .long j3)]) (st' := [.ref r0, .long (((32 : Int64)) * j3)]) [(.lload_n 3, 1, 0), (.lmul, 1, 0), (.aload_n 0, 1, 0)] (by decide +kernel) rfl ?_
          obtain ⟨a5, ga5, hf⟩ := Option.bind_eq_some_iff.mp hf
          refine C.rdA fr_1810 ga5 (by decide +kernel) rfl ?_
          refine C.seg (pe := 66) (lv' := [(0, .ref r0), (1, .int i1), (2, .int i2), (3, .long j3)]) (st' := [.int i2, .ref a5, .long (((32 : Int64)) * j3)]) [(.iload_n 2, 1, 0)] (by decide +kernel) rfl ?_
          obtain ⟨x6, gx6, hf⟩ := Option.bind_eq_some_iff.mp hf
          refine C.bald 1 rfl gx6 (by decide +kernel) rfl ?_
          refine C.seg (pe := 74) (lv' := [(0, .ref r0), (1, .int i1), (2, .int i2), (3, .long j3)]) (st' := [.long ((((32 : Int64)) * j3) + (((x6 - 97) + 1).toInt64))]) [(.bipush 97, 2, 97), (.isub, 1, 0), (.iconst 1, 1, 1), (.iadd, 1, 0), (.i2l, 1, 0), (.ladd, 1, 0)] (by decide +kernel) rfl ?_
          refine Vtopl (fun y7 ey7 => ?_)
          replace hf := lt_ap ey7 hf
          clear ey7
          refine C.seg (pe := 78) (lv' := [(2, .int (i2 + 1)), (3, .long y7), (0, .ref r0), (1, .int i1)]) (st' := []) [(.lstore_n 3, 1, 0), (.iinc 2 1, 3, 1)] (by decide +kernel) rfl ?_
          refine C.goto (off := (-45)) (tgt := 33) (by decide +kernel) (by decide) ?_
          refine Vsub [2, 3, 0, 1] rfl ?_
          exact ih r0 i1 (i2 + 1) y7 h4 hf
def f_X15_bar (a0 : Nat) (p1 : Int32) (h : AH) : Option (Int32 × AH) :=
  if isO 15 h a0 = true then
    (pI 15 h a0 0 0).bind fun h1 =>
    b2 (f_X15_isTaped a0 p1 h1) fun x2 h3 =>
    if x2 = 0 then
      b2 (f_X15_refused a0 2 h3) fun x7 h8 =>
      some (x7, h8)
    else
      (pI 15 h3 a0 25 0).bind fun h4 =>
      (pI 15 h4 a0 3 0).bind fun h5 =>
      lt ((Int64.ofNat 0) : Int64) fun y6 =>
      f_X15_bar_33 FU a0 p1 0 y6 h5
  else none
set_option maxRecDepth 100000 in
set_option maxHeartbeats 4000000 in
theorem w_X15_bar {l : Launch} {G : GX} {a0 : Nat} {p1 : Int32} {h : AH} {rr : Int32} {hr : AH} (hf : f_X15_bar a0 p1 h = some (rr, hr)) : Ct l G yX15_bar 1 21 [.ref a0, .int p1] h (QI rr hr) := by
  unfold f_X15_bar at hf
  obtain ⟨ho, hf⟩ := ifO hf
  refine Ct_of (own := RX15) (cc := cX15_bar) (nL := 5) (ret := (some .int)) rfl rfl k_2310 (Nat.le_of_ble_eq_true rfl) (fun X C2 C => ?_)
  show V X G h (QI rr hr) 0 [(0, .ref a0), (1, .int p1)] [] h
  refine C.seg (pe := 2) (lv' := [(0, .ref a0), (1, .int p1)]) (st' := [.int 0, .ref a0]) [(.aload_n 0, 1, 0), (.iconst 0, 1, 0)] (by decide +kernel) rfl ?_
  obtain ⟨h1, gh1, hf⟩ := Option.bind_eq_some_iff.mp hf
  refine C.putI fl_1786 gh1 (by decide +kernel) rfl ?_
  refine C.seg (pe := 7) (lv' := [(0, .ref a0), (1, .int p1)]) (st' := [.int p1, .ref a0]) [(.aload_n 0, 1, 0), (.iload_n 1, 1, 0)] (by decide +kernel) rfl ?_
  obtain ⟨x2, h3, gx2, hf⟩ := b2_some hf
  refine C.callVr C2 [.int p1] [] mv_2189 rfl (o_X15_isTaped gx2) (w_X15_isTaped gx2) (by omega) (by omega) (Nat.le_of_ble_eq_true rfl) (by decide +kernel) rfl ?_
  refine C.if_ne (off := 9) (tgt := 19) (pf := 13) (by decide +kernel) (by decide) rfl (fun c9 => ?_) (fun c9 => ?_)
  · replace hf := ifn c9 hf
    refine C.seg (pe := 21) (lv' := [(0, .ref a0), (1, .int p1)]) (st' := [.int 0, .ref a0]) [(.aload_n 0, 1, 0), (.iconst 0, 1, 0)] (by decide +kernel) rfl ?_
    obtain ⟨h4, gh4, hf⟩ := Option.bind_eq_some_iff.mp hf
    refine C.putI fl_1811 gh4 (by decide +kernel) rfl ?_
    refine C.seg (pe := 26) (lv' := [(0, .ref a0), (1, .int p1)]) (st' := [.int 0, .ref a0]) [(.aload_n 0, 1, 0), (.iconst 0, 1, 0)] (by decide +kernel) rfl ?_
    obtain ⟨h5, gh5, hf⟩ := Option.bind_eq_some_iff.mp hf
    refine C.putI fl_1789 gh5 (by decide +kernel) rfl ?_
    refine C.seg (pe := 32) (lv' := [(2, .int 0), (0, .ref a0), (1, .int p1)]) (st' := [.long ((Int64.ofNat 0))]) [(.iconst 0, 1, 0), (.istore_n 2, 1, 0), (.lconst 0, 1, 0)] (by decide +kernel) rfl ?_
    refine Vtopl (fun y6 ey6 => ?_)
    replace hf := lt_ap ey6 hf
    clear ey6
    refine C.seg (pe := 33) (lv' := [(3, .long y6), (2, .int 0), (0, .ref a0), (1, .int p1)]) (st' := []) [(.lstore_n 3, 1, 0)] (by decide +kernel) rfl ?_
    refine Vsub [2, 3, 1, 0] rfl ?_
    exact l_X15_bar_33 C C2 FU a0 p1 0 y6 h5 hf
  · replace hf := ifp c9 hf
    refine C.seg (pe := 15) (lv' := [(0, .ref a0), (1, .int p1)]) (st' := [.int 2, .ref a0]) [(.aload_n 0, 1, 0), (.iconst 2, 1, 2)] (by decide +kernel) rfl ?_
    obtain ⟨x7, h8, gx7, hf⟩ := b2_some hf
    refine C.callVr C2 [.int 2] [] mv_2112 rfl (o_X15_refused gx7) (w_X15_refused gx7) (by omega) (by omega) (Nat.le_of_ble_eq_true rfl) (by decide +kernel) rfl ?_
    cases hf
    exact C.retI rfl (by decide +kernel) ⟨rfl, rfl⟩
theorem o_X15_bar {a0 : Nat} {p1 : Int32} {h : AH} {rr : Int32} {hr : AH} (hf : f_X15_bar a0 p1 h = some (rr, hr)) : isO 15 h a0 = true := by
  unfold f_X15_bar at hf
  exact (ifO hf).1
/-! WallHouseModel.isDrawing(I)Z -/
def f_X15_isDrawing_17 (si0 : Int32) (h : AH) : Option (Int32 × AH) :=
  (ckZ si0).bind fun x1 =>
  some (x1, h)
set_option maxRecDepth 100000 in
set_option maxHeartbeats 4000000 in
theorem l_X15_isDrawing_17 {X : MX} {l : Launch} {G : GX} {h0 : AH} {rr : Int32} {hr : AH} (C : Cx X G RX15 cX15_isDrawing 2 (some .boolean) 0 0 h0) (C2 : Cy X l "isDrawing" []) (si0 : Int32) (h : AH) (hf : f_X15_isDrawing_17 si0 h = some (rr, hr)) : V X G h0 (QI rr hr) 17 [] [.int si0] h := by
  unfold f_X15_isDrawing_17 at hf
  obtain ⟨x1, gx1, hf⟩ := Option.bind_eq_some_iff.mp hf
  have ex1 := ckZ_eq gx1
  subst ex1
  cases hf
  exact C.retZ rfl gx1 (by decide +kernel) ⟨rfl, rfl⟩
def f_X15_isDrawing_16 (h : AH) : Option (Int32 × AH) :=
  f_X15_isDrawing_17 0 h
set_option maxRecDepth 100000 in
set_option maxHeartbeats 4000000 in
theorem l_X15_isDrawing_16 {X : MX} {l : Launch} {G : GX} {h0 : AH} {rr : Int32} {hr : AH} (C : Cx X G RX15 cX15_isDrawing 2 (some .boolean) 0 0 h0) (C2 : Cy X l "isDrawing" []) (h : AH) (hf : f_X15_isDrawing_16 h = some (rr, hr)) : V X G h0 (QI rr hr) 16 [] [] h := by
  unfold f_X15_isDrawing_16 at hf
  refine C.seg (pe := 17) (lv' := []) (st' := [.int 0]) [(.iconst 0, 1, 0)] (by decide +kernel) rfl ?_
  exact l_X15_isDrawing_17 C C2 0 h hf
def f_X15_isDrawing (a0 : Nat) (p1 : Int32) (h : AH) : Option (Int32 × AH) :=
  if isO 15 h a0 = true then
    if p1 < 0 then
      f_X15_isDrawing_16 h
    else
      (gI 15 h a0 38).bind fun x1 =>
      if x1 ≤ p1 then
        f_X15_isDrawing_16 h
      else
        f_X15_isDrawing_17 1 h
  else none
set_option maxRecDepth 100000 in
set_option maxHeartbeats 4000000 in
theorem w_X15_isDrawing {l : Launch} {G : GX} {a0 : Nat} {p1 : Int32} {h : AH} {rr : Int32} {hr : AH} (hf : f_X15_isDrawing a0 p1 h = some (rr, hr)) : Ct l G yX15_isDrawing 0 0 [.ref a0, .int p1] h (QI rr hr) := by
  unfold f_X15_isDrawing at hf
  obtain ⟨ho, hf⟩ := ifO hf
  refine Ct_of (own := RX15) (cc := cX15_isDrawing) (nL := 2) (ret := (some .boolean)) rfl rfl k_2318 (Nat.le_of_ble_eq_true rfl) (fun X C2 C => ?_)
  show V X G h (QI rr hr) 0 [(0, .ref a0), (1, .int p1)] [] h
  refine C.seg (pe := 1) (lv' := [(0, .ref a0), (1, .int p1)]) (st' := [.int p1]) [(.iload_n 1, 1, 0)] (by decide +kernel) rfl ?_
  refine C.if_lt (off := 15) (tgt := 16) (pf := 4) (by decide +kernel) (by decide) rfl (fun c3 => ?_) (fun c3 => ?_)
  · replace hf := ifp c3 hf
    refine Vsub [] rfl ?_
    exact l_X15_isDrawing_16 C C2 h hf
  · replace hf := ifn c3 hf
    refine C.seg (pe := 6) (lv' := [(0, .ref a0), (1, .int p1)]) (st' := [.ref a0, .int p1]) [(.iload_n 1, 1, 0), (.aload_n 0, 1, 0)] (by decide +kernel) rfl ?_
    obtain ⟨x1, gx1, hf⟩ := Option.bind_eq_some_iff.mp hf
    refine C.rdI fr_1824 gx1 (by decide +kernel) rfl ?_
    refine C.icmp_ge (off := 7) (tgt := 16) (pf := 12) (by decide +kernel) (by decide) rfl (fun c2 => ?_) (fun c2 => ?_)
    · replace hf := ifp c2 hf
      refine Vsub [] rfl ?_
      exact l_X15_isDrawing_16 C C2 h hf
    · replace hf := ifn c2 hf
      refine C.seg (pe := 13) (lv' := [(0, .ref a0), (1, .int p1)]) (st' := [.int 1]) [(.iconst 1, 1, 1)] (by decide +kernel) rfl ?_
      refine C.goto (off := 4) (tgt := 17) (by decide +kernel) (by decide) ?_
      refine Vsub [] rfl ?_
      exact l_X15_isDrawing_17 C C2 1 h hf
theorem o_X15_isDrawing {a0 : Nat} {p1 : Int32} {h : AH} {rr : Int32} {hr : AH} (hf : f_X15_isDrawing a0 p1 h = some (rr, hr)) : isO 15 h a0 = true := by
  unfold f_X15_isDrawing at hf
  exact (ifO hf).1
/-! WallHouseModel.bound(I)I -/
def f_X15_bound (p1 : Int32) (h : AH) : Option (Int32 × AH) :=
  some (mxI (-9999) (mnI 9999 p1), h)
set_option maxRecDepth 100000 in
set_option maxHeartbeats 4000000 in
theorem w_X15_bound {l : Launch} {G : GX} {p1 : Int32} {h : AH} {rr : Int32} {hr : AH} (hf : f_X15_bound p1 h = some (rr, hr)) : Ct l G yX15_bound 1 40 [.int p1] h (QI rr hr) := by
  unfold f_X15_bound at hf
  refine Ct_of (own := RX15) (cc := cX15_bound) (nL := 1) (ret := (some .int)) rfl rfl k_2333 (Nat.le_of_ble_eq_true rfl) (fun X C2 C => ?_)
  show V X G h (QI rr hr) 0 [(0, .int p1)] [] h
  refine C.seg (pe := 7) (lv' := [(0, .int p1)]) (st' := [.int p1, .int 9999, .int (-9999)]) [(.sipush (-9999), 3, (-9999)), (.sipush 9999, 3, 9999), (.iload_n 0, 1, 0)] (by decide +kernel) rfl ?_
  refine C.mmin k_2164 k_639 k_137 k_640 (by omega) (by omega) (Nat.le_of_ble_eq_true rfl) (by decide +kernel) rfl ?_
  refine C.mmax k_2334 k_636 k_137 k_637 (by omega) (by omega) (Nat.le_of_ble_eq_true rfl) (by decide +kernel) rfl ?_
  cases hf
  exact C.retI rfl (by decide +kernel) ⟨rfl, rfl⟩
/-! WallHouseModel.valueOf(LWallHouseModel$Drawing;II)I -/
def f_X15_valueOf_213 (k15 : Nat → Nat → Int32 → Int32 → Int32 → Int32 → AH → Option (Int32 × AH)) (r0 : Nat) (r1 : Nat) (i2 : Int32) (i3 : Int32) (i4 : Int32) (i5 : Int32) (h : AH) : Option (Int32 × AH) :=
  k15 r0 r1 i2 i3 i4 (i5 + 1) h
set_option maxRecDepth 100000 in
set_option maxHeartbeats 4000000 in
theorem l_X15_valueOf_213 {X : MX} {l : Launch} {G : GX} {h0 : AH} {rr : Int32} {hr : AH} (C : Cx X G RX15 cX15_valueOf 9 (some .int) 2 60 h0) (C2 : Cy X l "valueOf" []) {k15 : Nat → Nat → Int32 → Int32 → Int32 → Int32 → AH → Option (Int32 × AH)} (hk15 : ∀ (r0 : Nat) (r1 : Nat) (i2 : Int32) (i3 : Int32) (i4 : Int32) (i5 : Int32) (h : AH), k15 r0 r1 i2 i3 i4 i5 h = some (rr, hr) → V X G h0 (QI rr hr) 15 [(0, .ref r0), (1, .ref r1), (2, .int i2), (3, .int i3), (4, .int i4), (5, .int i5)] [] h) (r0 : Nat) (r1 : Nat) (i2 : Int32) (i3 : Int32) (i4 : Int32) (i5 : Int32) (h : AH) (hf : f_X15_valueOf_213 k15 r0 r1 i2 i3 i4 i5 h = some (rr, hr)) : V X G h0 (QI rr hr) 213 [(0, .ref r0), (1, .ref r1), (2, .int i2), (3, .int i3), (4, .int i4), (5, .int i5)] [] h := by
  unfold f_X15_valueOf_213 at hf
  refine C.seg (pe := 216) (lv' := [(5, .int (i5 + 1)), (0, .ref r0), (1, .ref r1), (2, .int i2), (3, .int i3), (4, .int i4)]) (st' := []) [(.iinc 5 1, 3, 1)] (by decide +kernel) rfl ?_
  refine C.goto (off := (-201)) (tgt := 15) (by decide +kernel) (by decide) ?_
  refine Vsub [1, 2, 3, 4, 5, 0] rfl ?_
  exact hk15 r0 r1 i2 i3 i4 (i5 + 1) h hf
def f_X15_valueOf_209 (k15 : Nat → Nat → Int32 → Int32 → Int32 → Int32 → AH → Option (Int32 × AH)) (r0 : Nat) (r1 : Nat) (i2 : Int32) (i3 : Int32) (i4 : Int32) (i5 : Int32) (si0 : Int32) (si1 : Int32) (sr2 : Nat) (h : AH) : Option (Int32 × AH) :=
  b2 (f_X15_bound si0 h) fun x1 h2 =>
  (sI 0 h2 sr2 si1 x1).bind fun h3 =>
  f_X15_valueOf_213 k15 r0 r1 i2 i3 i4 i5 h3
set_option maxRecDepth 100000 in
set_option maxHeartbeats 4000000 in
theorem l_X15_valueOf_209 {X : MX} {l : Launch} {G : GX} {h0 : AH} {rr : Int32} {hr : AH} (C : Cx X G RX15 cX15_valueOf 9 (some .int) 2 60 h0) (C2 : Cy X l "valueOf" []) {k15 : Nat → Nat → Int32 → Int32 → Int32 → Int32 → AH → Option (Int32 × AH)} (hk15 : ∀ (r0 : Nat) (r1 : Nat) (i2 : Int32) (i3 : Int32) (i4 : Int32) (i5 : Int32) (h : AH), k15 r0 r1 i2 i3 i4 i5 h = some (rr, hr) → V X G h0 (QI rr hr) 15 [(0, .ref r0), (1, .ref r1), (2, .int i2), (3, .int i3), (4, .int i4), (5, .int i5)] [] h) (r0 : Nat) (r1 : Nat) (i2 : Int32) (i3 : Int32) (i4 : Int32) (i5 : Int32) (si0 : Int32) (si1 : Int32) (sr2 : Nat) (h : AH) (hf : f_X15_valueOf_209 k15 r0 r1 i2 i3 i4 i5 si0 si1 sr2 h = some (rr, hr)) : V X G h0 (QI rr hr) 209 [(0, .ref r0), (1, .ref r1), (2, .int i2), (3, .int i3), (4, .int i4), (5, .int i5)] [.int si0, .int si1, .ref sr2] h := by
  unfold f_X15_valueOf_209 at hf
  obtain ⟨x1, h2, gx1, hf⟩ := b2_some hf
  refine C.callSr C2 [.int si0] [.int si1, .ref sr2] ms_2331 rfl (w_X15_bound gx1) (by omega) (by omega) (Nat.le_of_ble_eq_true rfl) (by decide +kernel) rfl ?_
  obtain ⟨h3, gh3, hf⟩ := Option.bind_eq_some_iff.mp hf
  refine C.ast gh3 (by decide +kernel) rfl ?_
  exact l_X15_valueOf_213 C C2 hk15 r0 r1 i2 i3 i4 i5 h3 hf
def f_X15_valueOf_114 (k15 : Nat → Nat → Int32 → Int32 → Int32 → Int32 → AH → Option (Int32 × AH)) (r0 : Nat) (r1 : Nat) (i2 : Int32) (i3 : Int32) (i4 : Int32) (i5 : Int32) (si0 : Int32) (si1 : Int32) (sr2 : Nat) (h : AH) : Option (Int32 × AH) :=
  (sI 0 h sr2 si1 si0).bind fun h1 =>
  f_X15_valueOf_213 k15 r0 r1 i2 i3 (i4 + 1) i5 h1
set_option maxRecDepth 100000 in
set_option maxHeartbeats 4000000 in
theorem l_X15_valueOf_114 {X : MX} {l : Launch} {G : GX} {h0 : AH} {rr : Int32} {hr : AH} (C : Cx X G RX15 cX15_valueOf 9 (some .int) 2 60 h0) (C2 : Cy X l "valueOf" []) {k15 : Nat → Nat → Int32 → Int32 → Int32 → Int32 → AH → Option (Int32 × AH)} (hk15 : ∀ (r0 : Nat) (r1 : Nat) (i2 : Int32) (i3 : Int32) (i4 : Int32) (i5 : Int32) (h : AH), k15 r0 r1 i2 i3 i4 i5 h = some (rr, hr) → V X G h0 (QI rr hr) 15 [(0, .ref r0), (1, .ref r1), (2, .int i2), (3, .int i3), (4, .int i4), (5, .int i5)] [] h) (r0 : Nat) (r1 : Nat) (i2 : Int32) (i3 : Int32) (i4 : Int32) (i5 : Int32) (si0 : Int32) (si1 : Int32) (sr2 : Nat) (h : AH) (hf : f_X15_valueOf_114 k15 r0 r1 i2 i3 i4 i5 si0 si1 sr2 h = some (rr, hr)) : V X G h0 (QI rr hr) 114 [(0, .ref r0), (1, .ref r1), (2, .int i2), (3, .int i3), (4, .int i4), (5, .int i5)] [.int si0, .int si1, .ref sr2] h := by
  unfold f_X15_valueOf_114 at hf
  obtain ⟨h1, gh1, hf⟩ := Option.bind_eq_some_iff.mp hf
  refine C.ast gh1 (by decide +kernel) rfl ?_
  refine C.seg (pe := 118) (lv' := [(4, .int (i4 + 1)), (0, .ref r0), (1, .ref r1), (2, .int i2), (3, .int i3), (5, .int i5)]) (st' := []) [(.iinc 4 1, 3, 1)] (by decide +kernel) rfl ?_
  refine C.goto (off := 95) (tgt := 213) (by decide +kernel) (by decide) ?_
  refine Vsub [1, 2, 3, 4, 0, 5] rfl ?_
  exact l_X15_valueOf_213 C C2 hk15 r0 r1 i2 i3 (i4 + 1) i5 h1 hf
def f_X15_valueOf_15 : Nat → Nat → Nat → Int32 → Int32 → Int32 → Int32 → AH → Option (Int32 × AH)
  | 0, _, _, _, _, _, _, _ => none
  | n + 1, r0, r1, i2, i3, i4, i5, h =>
    (gA 12 h r1 9).bind fun a1 =>
    (aI 0 h a1 ((4 * i2) + i3)).bind fun x2 =>
    if x2 ≤ i5 then
      (gA 15 h r0 45).bind fun a3 =>
      (aI 0 h a3 0).bind fun x4 =>
      some (x4, h)
    else
      (gA 12 h r1 10).bind fun a5 =>
      (aI 0 h a5 i5).bind fun x6 =>
      if 4 ≤ x6 then
        (gA 15 h r0 45).bind fun a7 =>
        (aI 0 h a7 ((i4 + (-1)) - 1)).bind fun x8 =>
        (gA 15 h r0 45).bind fun a9 =>
        (aI 0 h a9 (i4 + (-1))).bind fun x10 =>
        (gA 15 h r0 45).bind fun a11 =>
        if x6 = 4 then
          f_X15_valueOf_209 (f_X15_valueOf_15 n) r0 r1 i2 i3 (i4 + (-1)) i5 (x8 + x10) ((i4 + (-1)) - 1) a11 h
        else
          if x6 = 5 then
            f_X15_valueOf_209 (f_X15_valueOf_15 n) r0 r1 i2 i3 (i4 + (-1)) i5 (x8 - x10) ((i4 + (-1)) - 1) a11 h
          else
            if x6 = 6 then
              f_X15_valueOf_209 (f_X15_valueOf_15 n) r0 r1 i2 i3 (i4 + (-1)) i5 (x8 * x10) ((i4 + (-1)) - 1) a11 h
            else
              if x10 = 0 then
                f_X15_valueOf_209 (f_X15_valueOf_15 n) r0 r1 i2 i3 (i4 + (-1)) i5 0 ((i4 + (-1)) - 1) a11 h
              else
                (ckD x10).bind fun x12 =>
                f_X15_valueOf_209 (f_X15_valueOf_15 n) r0 r1 i2 i3 (i4 + (-1)) i5 (x8 / x10) ((i4 + (-1)) - 1) a11 h
      else
        (gA 15 h r0 45).bind fun a17 =>
        if x6 = 0 then
          (gA 12 h r1 11).bind fun a30 =>
          (aI 0 h a30 i5).bind fun x31 =>
          f_X15_valueOf_114 (f_X15_valueOf_15 n) r0 r1 i2 i3 i4 i5 x31 i4 a17 h
        else
          if x6 = 1 then
            (gA 15 h r0 44).bind fun a25 =>
            (gA 12 h r1 11).bind fun a26 =>
            (aI 0 h a26 i5).bind fun x27 =>
            (aI 0 h a25 x27).bind fun x28 =>
            f_X15_valueOf_114 (f_X15_valueOf_15 n) r0 r1 i2 i3 i4 i5 x28 i4 a17 h
          else
            if x6 = 2 then
              (gA 15 h r0 6).bind fun a21 =>
              (gI 15 h r0 47).bind fun x22 =>
              (aI 0 h a21 x22).bind fun x23 =>
              f_X15_valueOf_114 (f_X15_valueOf_15 n) r0 r1 i2 i3 i4 i5 x23 i4 a17 h
            else
              (gA 15 h r0 7).bind fun a18 =>
              (gI 15 h r0 47).bind fun x19 =>
              (aI 0 h a18 x19).bind fun x20 =>
              f_X15_valueOf_114 (f_X15_valueOf_15 n) r0 r1 i2 i3 i4 i5 x20 i4 a17 h
set_option maxRecDepth 100000 in
set_option maxHeartbeats 4000000 in
theorem l_X15_valueOf_15 {X : MX} {l : Launch} {G : GX} {h0 : AH} {rr : Int32} {hr : AH} (C : Cx X G RX15 cX15_valueOf 9 (some .int) 2 60 h0) (C2 : Cy X l "valueOf" []) : ∀ (n : Nat) (r0 : Nat) (r1 : Nat) (i2 : Int32) (i3 : Int32) (i4 : Int32) (i5 : Int32) (h : AH), f_X15_valueOf_15 n r0 r1 i2 i3 i4 i5 h = some (rr, hr) → V X G h0 (QI rr hr) 15 [(0, .ref r0), (1, .ref r1), (2, .int i2), (3, .int i3), (4, .int i4), (5, .int i5)] [] h := by
  intro n
  induction n with
  | zero => intro r0 r1 i2 i3 i4 i5 h hf; rw [f_X15_valueOf_15] at hf; cases hf
  | succ n ih =>
    intro r0 r1 i2 i3 i4 i5 h hf
    rw [f_X15_valueOf_15] at hf
    refine C.seg (pe := 18) (lv' := [(0, .ref r0), (1, .ref r1), (2, .int i2), (3, .int i3), (4, .int i4), (5, .int i5)]) (st' := [.ref r1, .int i5]) [(.iload 5, 2, 0), (.aload_n 1, 1, 0)] (by decide +kernel) rfl ?_
    obtain ⟨a1, ga1, hf⟩ := Option.bind_eq_some_iff.mp hf
    refine C.rdA fr_1732 ga1 (by decide +kernel) rfl ?_
    refine C.seg (pe := 26) (lv' := [(0, .ref r0), (1, .ref r1), (2, .int i2), (3, .int i3), (4, .int i4), (5, .int i5)]) (st' := [.int ((4 * i2) + i3), .ref a1, .int i5]) [(.iconst 4, 1, 4), (.iload_n 2, 1, 0), (.imul, 1, 0), (.iload_n 3, 1, 0), (.iadd, 1, 0)] (by decide +kernel) rfl ?_
    obtain ⟨x2, gx2, hf⟩ := Option.bind_eq_some_iff.mp hf
    refine C.ald 0 rfl gx2 (by decide +kernel) rfl ?_
    refine C.icmp_ge (off := 192) (tgt := 219) (pf := 30) (by decide +kernel) (by decide) rfl (fun c34 => ?_) (fun c34 => ?_)
    · replace hf := ifp c34 hf
      refine C.seg (pe := 220) (lv' := [(0, .ref r0), (1, .ref r1), (2, .int i2), (3, .int i3), (4, .int i4), (5, .int i5)]) (st' := [.ref r0]) [(.aload_n 0, 1, 0)] (by decide +kernel) rfl ?_
      obtain ⟨a3, ga3, hf⟩ := Option.bind_eq_some_iff.mp hf
      refine C.rdA fr_1831 ga3 (by decide +kernel) rfl ?_
      refine C.seg (pe := 224) (lv' := [(0, .ref r0), (1, .ref r1), (2, .int i2), (3, .int i3), (4, .int i4), (5, .int i5)]) (st' := [.int 0, .ref a3]) [(.iconst 0, 1, 0)] (by decide +kernel) rfl ?_
      obtain ⟨x4, gx4, hf⟩ := Option.bind_eq_some_iff.mp hf
      refine C.ald 0 rfl gx4 (by decide +kernel) rfl ?_
      cases hf
      exact C.retI rfl (by decide +kernel) ⟨rfl, rfl⟩
    · replace hf := ifn c34 hf
      refine C.seg (pe := 31) (lv' := [(0, .ref r0), (1, .ref r1), (2, .int i2), (3, .int i3), (4, .int i4), (5, .int i5)]) (st' := [.ref r1]) [(.aload_n 1, 1, 0)] (by decide +kernel) rfl ?_
      obtain ⟨a5, ga5, hf⟩ := Option.bind_eq_some_iff.mp hf
      refine C.rdA fr_1734 ga5 (by decide +kernel) rfl ?_
      refine C.seg (pe := 36) (lv' := [(0, .ref r0), (1, .ref r1), (2, .int i2), (3, .int i3), (4, .int i4), (5, .int i5)]) (st' := [.int i5, .ref a5]) [(.iload 5, 2, 0)] (by decide +kernel) rfl ?_
      obtain ⟨x6, gx6, hf⟩ := Option.bind_eq_some_iff.mp hf
      refine C.ald 0 rfl gx6 (by decide +kernel) rfl ?_
      refine C.seg (pe := 42) (lv' := [(6, .int x6), (0, .ref r0), (1, .ref r1), (2, .int i2), (3, .int i3), (4, .int i4), (5, .int i5)]) (st' := [.int 4, .int x6]) [(.istore 6, 2, 0), (.iload 6, 2, 0), (.iconst 4, 1, 4)] (by decide +kernel) rfl ?_
      refine C.icmp_ge (off := 79) (tgt := 121) (pf := 45) (by decide +kernel) (by decide) rfl (fun c33 => ?_) (fun c33 => ?_)
      · replace hf := ifp c33 hf
        refine C.seg (pe := 125) (lv' := [(4, .int (i4 + (-1))), (6, .int x6), (0, .ref r0), (1, .ref r1), (2, .int i2), (3, .int i3), (5, .int i5)]) (st' := [.ref r0]) [(.iinc 4 (-1), 3, (-1)), (.aload_n 0, 1, 0)] (by decide +kernel) rfl ?_
        obtain ⟨a7, ga7, hf⟩ := Option.bind_eq_some_iff.mp hf
        refine C.rdA fr_1831 ga7 (by decide +kernel) rfl ?_
        refine C.seg (pe := 132) (lv' := [(4, .int (i4 + (-1))), (6, .int x6), (0, .ref r0), (1, .ref r1), (2, .int i2), (3, .int i3), (5, .int i5)]) (st' := [.int ((i4 + (-1)) - 1), .ref a7]) [(.iload 4, 2, 0), (.iconst 1, 1, 1), (.isub, 1, 0)] (by decide +kernel) rfl ?_
        obtain ⟨x8, gx8, hf⟩ := Option.bind_eq_some_iff.mp hf
        refine C.ald 0 rfl gx8 (by decide +kernel) rfl ?_
        refine C.seg (pe := 136) (lv' := [(7, .int x8), (4, .int (i4 + (-1))), (6, .int x6), (0, .ref r0), (1, .ref r1), (2, .int i2), (3, .int i3), (5, .int i5)]) (st' := [.ref r0]) [(.istore 7, 2, 0), (.aload_n 0, 1, 0)] (by decide +kernel) rfl ?_
        obtain ⟨a9, ga9, hf⟩ := Option.bind_eq_some_iff.mp hf
        refine C.rdA fr_1831 ga9 (by decide +kernel) rfl ?_
        refine C.seg (pe := 141) (lv' := [(7, .int x8), (4, .int (i4 + (-1))), (6, .int x6), (0, .ref r0), (1, .ref r1), (2, .int i2), (3, .int i3), (5, .int i5)]) (st' := [.int (i4 + (-1)), .ref a9]) [(.iload 4, 2, 0)] (by decide +kernel) rfl ?_
        obtain ⟨x10, gx10, hf⟩ := Option.bind_eq_some_iff.mp hf
        refine C.ald 0 rfl gx10 (by decide +kernel) rfl ?_
        refine C.seg (pe := 145) (lv' := [(8, .int x10), (7, .int x8), (4, .int (i4 + (-1))), (6, .int x6), (0, .ref r0), (1, .ref r1), (2, .int i2), (3, .int i3), (5, .int i5)]) (st' := [.ref r0]) [(.istore 8, 2, 0), (.aload_n 0, 1, 0)] (by decide +kernel) rfl ?_
        obtain ⟨a11, ga11, hf⟩ := Option.bind_eq_some_iff.mp hf
        refine C.rdA fr_1831 ga11 (by decide +kernel) rfl ?_
        refine C.seg (pe := 155) (lv' := [(8, .int x10), (7, .int x8), (4, .int (i4 + (-1))), (6, .int x6), (0, .ref r0), (1, .ref r1), (2, .int i2), (3, .int i3), (5, .int i5)]) (st' := [.int 4, .int x6, .int ((i4 + (-1)) - 1), .ref a11]) [(.iload 4, 2, 0), (.iconst 1, 1, 1), (.isub, 1, 0), (.iload 6, 2, 0), (.iconst 4, 1, 4)] (by decide +kernel) rfl ?_
        refine C.icmp_ne (off := 11) (tgt := 166) (pf := 158) (by decide +kernel) (by decide) rfl (fun c16 => ?_) (fun c16 => ?_)
        · replace hf := ifn c16 hf
          refine C.seg (pe := 169) (lv' := [(8, .int x10), (7, .int x8), (4, .int (i4 + (-1))), (6, .int x6), (0, .ref r0), (1, .ref r1), (2, .int i2), (3, .int i3), (5, .int i5)]) (st' := [.int 5, .int x6, .int ((i4 + (-1)) - 1), .ref a11]) [(.iload 6, 2, 0), (.iconst 5, 1, 5)] (by decide +kernel) rfl ?_
          refine C.icmp_ne (off := 11) (tgt := 180) (pf := 172) (by decide +kernel) (by decide) rfl (fun c15 => ?_) (fun c15 => ?_)
          · replace hf := ifn c15 hf
            refine C.seg (pe := 184) (lv' := [(8, .int x10), (7, .int x8), (4, .int (i4 + (-1))), (6, .int x6), (0, .ref r0), (1, .ref r1), (2, .int i2), (3, .int i3), (5, .int i5)]) (st' := [.int 6, .int x6, .int ((i4 + (-1)) - 1), .ref a11]) [(.iload 6, 2, 0), (.bipush 6, 2, 6)] (by decide +kernel) rfl ?_
            refine C.icmp_ne (off := 11) (tgt := 195) (pf := 187) (by decide +kernel) (by decide) rfl (fun c14 => ?_) (fun c14 => ?_)
            · replace hf := ifn c14 hf
              refine C.seg (pe := 197) (lv' := [(8, .int x10), (7, .int x8), (4, .int (i4 + (-1))), (6, .int x6), (0, .ref r0), (1, .ref r1), (2, .int i2), (3, .int i3), (5, .int i5)]) (st' := [.int x10, .int ((i4 + (-1)) - 1), .ref a11]) [(.iload 8, 2, 0)] (by decide +kernel) rfl ?_
              refine C.if_ne (off := 7) (tgt := 204) (pf := 200) (by decide +kernel) (by decide) rfl (fun c13 => ?_) (fun c13 => ?_)
              · replace hf := ifn c13 hf
                refine C.seg (pe := 208) (lv' := [(8, .int x10), (7, .int x8), (4, .int (i4 + (-1))), (6, .int x6), (0, .ref r0), (1, .ref r1), (2, .int i2), (3, .int i3), (5, .int i5)]) (st' := [.int x10, .int x8, .int ((i4 + (-1)) - 1), .ref a11]) [(.iload 7, 2, 0), (.iload 8, 2, 0)] (by decide +kernel) rfl ?_
                obtain ⟨x12, gx12, hf⟩ := Option.bind_eq_some_iff.mp hf
                refine C.idiv (by decide +kernel) rfl (ckD_self gx12) ?_
                refine Vsub [4, 5, 6, 7, 2, 8] rfl ?_
                exact l_X15_valueOf_209 C C2 ih r0 r1 i2 i3 (i4 + (-1)) i5 (x8 / x10) ((i4 + (-1)) - 1) a11 h hf
              · replace hf := ifp c13 hf
                refine C.seg (pe := 201) (lv' := [(8, .int x10), (7, .int x8), (4, .int (i4 + (-1))), (6, .int x6), (0, .ref r0), (1, .ref r1), (2, .int i2), (3, .int i3), (5, .int i5)]) (st' := [.int 0, .int ((i4 + (-1)) - 1), .ref a11]) [(.iconst 0, 1, 0)] (by decide +kernel) rfl ?_
                refine C.goto (off := 8) (tgt := 209) (by decide +kernel) (by decide) ?_
                refine Vsub [4, 5, 6, 7, 2, 8] rfl ?_
                exact l_X15_valueOf_209 C C2 ih r0 r1 i2 i3 (i4 + (-1)) i5 0 ((i4 + (-1)) - 1) a11 h hf
            · replace hf := ifp c14 hf
              refine C.seg (pe := 192) (lv' := [(8, .int x10), (7, .int x8), (4, .int (i4 + (-1))), (6, .int x6), (0, .ref r0), (1, .ref r1), (2, .int i2), (3, .int i3), (5, .int i5)]) (st' := [.int (x8 * x10), .int ((i4 + (-1)) - 1), .ref a11]) [(.iload 7, 2, 0), (.iload 8, 2, 0), (.imul, 1, 0)] (by decide +kernel) rfl ?_
              refine C.goto (off := 17) (tgt := 209) (by decide +kernel) (by decide) ?_
              refine Vsub [4, 5, 6, 7, 2, 8] rfl ?_
              exact l_X15_valueOf_209 C C2 ih r0 r1 i2 i3 (i4 + (-1)) i5 (x8 * x10) ((i4 + (-1)) - 1) a11 h hf
          · replace hf := ifp c15 hf
            refine C.seg (pe := 177) (lv' := [(8, .int x10), (7, .int x8), (4, .int (i4 + (-1))), (6, .int x6), (0, .ref r0), (1, .ref r1), (2, .int i2), (3, .int i3), (5, .int i5)]) (st' := [.int (x8 - x10), .int ((i4 + (-1)) - 1), .ref a11]) [(.iload 7, 2, 0), (.iload 8, 2, 0), (.isub, 1, 0)] (by decide +kernel) rfl ?_
            refine C.goto (off := 32) (tgt := 209) (by decide +kernel) (by decide) ?_
            refine Vsub [4, 5, 6, 7, 2, 8] rfl ?_
            exact l_X15_valueOf_209 C C2 ih r0 r1 i2 i3 (i4 + (-1)) i5 (x8 - x10) ((i4 + (-1)) - 1) a11 h hf
        · replace hf := ifp c16 hf
          refine C.seg (pe := 163) (lv' := [(8, .int x10), (7, .int x8), (4, .int (i4 + (-1))), (6, .int x6), (0, .ref r0), (1, .ref r1), (2, .int i2), (3, .int i3), (5, .int i5)]) (st' := [.int (x8 + x10), .int ((i4 + (-1)) - 1), .ref a11]) [(.iload 7, 2, 0), (.iload 8, 2, 0), (.iadd, 1, 0)] (by decide +kernel) rfl ?_
          refine C.goto (off := 46) (tgt := 209) (by decide +kernel) (by decide) ?_
          refine Vsub [4, 5, 6, 7, 2, 8] rfl ?_
          exact l_X15_valueOf_209 C C2 ih r0 r1 i2 i3 (i4 + (-1)) i5 (x8 + x10) ((i4 + (-1)) - 1) a11 h hf
      · replace hf := ifn c33 hf
        refine C.seg (pe := 46) (lv' := [(6, .int x6), (0, .ref r0), (1, .ref r1), (2, .int i2), (3, .int i3), (4, .int i4), (5, .int i5)]) (st' := [.ref r0]) [(.aload_n 0, 1, 0)] (by decide +kernel) rfl ?_
        obtain ⟨a17, ga17, hf⟩ := Option.bind_eq_some_iff.mp hf
        refine C.rdA fr_1831 ga17 (by decide +kernel) rfl ?_
        refine C.seg (pe := 53) (lv' := [(6, .int x6), (0, .ref r0), (1, .ref r1), (2, .int i2), (3, .int i3), (4, .int i4), (5, .int i5)]) (st' := [.int x6, .int i4, .ref a17]) [(.iload 4, 2, 0), (.iload 6, 2, 0)] (by decide +kernel) rfl ?_
        refine C.if_ne (off := 13) (tgt := 66) (pf := 56) (by decide +kernel) (by decide) rfl (fun c32 => ?_) (fun c32 => ?_)
        · replace hf := ifn c32 hf
          refine C.seg (pe := 69) (lv' := [(6, .int x6), (0, .ref r0), (1, .ref r1), (2, .int i2), (3, .int i3), (4, .int i4), (5, .int i5)]) (st' := [.int 1, .int x6, .int i4, .ref a17]) [(.iload 6, 2, 0), (.iconst 1, 1, 1)] (by decide +kernel) rfl ?_
          refine C.icmp_ne (off := 18) (tgt := 87) (pf := 72) (by decide +kernel) (by decide) rfl (fun c29 => ?_) (fun c29 => ?_)
          · replace hf := ifn c29 hf
            refine C.seg (pe := 90) (lv' := [(6, .int x6), (0, .ref r0), (1, .ref r1), (2, .int i2), (3, .int i3), (4, .int i4), (5, .int i5)]) (st' := [.int 2, .int x6, .int i4, .ref a17]) [(.iload 6, 2, 0), (.iconst 2, 1, 2)] (by decide +kernel) rfl ?_
            refine C.icmp_ne (off := 15) (tgt := 105) (pf := 93) (by decide +kernel) (by decide) rfl (fun c24 => ?_) (fun c24 => ?_)
            · replace hf := ifn c24 hf
              refine C.seg (pe := 106) (lv' := [(6, .int x6), (0, .ref r0), (1, .ref r1), (2, .int i2), (3, .int i3), (4, .int i4), (5, .int i5)]) (st' := [.ref r0, .int i4, .ref a17]) [(.aload_n 0, 1, 0)] (by decide +kernel) rfl ?_
              obtain ⟨a18, ga18, hf⟩ := Option.bind_eq_some_iff.mp hf
              refine C.rdA fr_1793 ga18 (by decide +kernel) rfl ?_
              refine C.seg (pe := 110) (lv' := [(6, .int x6), (0, .ref r0), (1, .ref r1), (2, .int i2), (3, .int i3), (4, .int i4), (5, .int i5)]) (st' := [.ref r0, .ref a18, .int i4, .ref a17]) [(.aload_n 0, 1, 0)] (by decide +kernel) rfl ?_
              obtain ⟨x19, gx19, hf⟩ := Option.bind_eq_some_iff.mp hf
              refine C.rdI fr_1833 gx19 (by decide +kernel) rfl ?_
              obtain ⟨x20, gx20, hf⟩ := Option.bind_eq_some_iff.mp hf
              refine C.ald 0 rfl gx20 (by decide +kernel) rfl ?_
              refine Vsub [1, 2, 3, 4, 5, 6] rfl ?_
              exact l_X15_valueOf_114 C C2 ih r0 r1 i2 i3 i4 i5 x20 i4 a17 h hf
            · replace hf := ifp c24 hf
              refine C.seg (pe := 94) (lv' := [(6, .int x6), (0, .ref r0), (1, .ref r1), (2, .int i2), (3, .int i3), (4, .int i4), (5, .int i5)]) (st' := [.ref r0, .int i4, .ref a17]) [(.aload_n 0, 1, 0)] (by decide +kernel) rfl ?_
              obtain ⟨a21, ga21, hf⟩ := Option.bind_eq_some_iff.mp hf
              refine C.rdA fr_1792 ga21 (by decide +kernel) rfl ?_
              refine C.seg (pe := 98) (lv' := [(6, .int x6), (0, .ref r0), (1, .ref r1), (2, .int i2), (3, .int i3), (4, .int i4), (5, .int i5)]) (st' := [.ref r0, .ref a21, .int i4, .ref a17]) [(.aload_n 0, 1, 0)] (by decide +kernel) rfl ?_
              obtain ⟨x22, gx22, hf⟩ := Option.bind_eq_some_iff.mp hf
              refine C.rdI fr_1833 gx22 (by decide +kernel) rfl ?_
              obtain ⟨x23, gx23, hf⟩ := Option.bind_eq_some_iff.mp hf
              refine C.ald 0 rfl gx23 (by decide +kernel) rfl ?_
              refine C.goto (off := 12) (tgt := 114) (by decide +kernel) (by decide) ?_
              refine Vsub [1, 2, 3, 4, 5, 6] rfl ?_
              exact l_X15_valueOf_114 C C2 ih r0 r1 i2 i3 i4 i5 x23 i4 a17 h hf
          · replace hf := ifp c29 hf
            refine C.seg (pe := 73) (lv' := [(6, .int x6), (0, .ref r0), (1, .ref r1), (2, .int i2), (3, .int i3), (4, .int i4), (5, .int i5)]) (st' := [.ref r0, .int i4, .ref a17]) [(.aload_n 0, 1, 0)] (by decide +kernel) rfl ?_
            obtain ⟨a25, ga25, hf⟩ := Option.bind_eq_some_iff.mp hf
            refine C.rdA fr_1830 ga25 (by decide +kernel) rfl ?_
            refine C.seg (pe := 77) (lv' := [(6, .int x6), (0, .ref r0), (1, .ref r1), (2, .int i2), (3, .int i3), (4, .int i4), (5, .int i5)]) (st' := [.ref r1, .ref a25, .int i4, .ref a17]) [(.aload_n 1, 1, 0)] (by decide +kernel) rfl ?_
            obtain ⟨a26, ga26, hf⟩ := Option.bind_eq_some_iff.mp hf
            refine C.rdA fr_1736 ga26 (by decide +kernel) rfl ?_
            refine C.seg (pe := 82) (lv' := [(6, .int x6), (0, .ref r0), (1, .ref r1), (2, .int i2), (3, .int i3), (4, .int i4), (5, .int i5)]) (st' := [.int i5, .ref a26, .ref a25, .int i4, .ref a17]) [(.iload 5, 2, 0)] (by decide +kernel) rfl ?_
            obtain ⟨x27, gx27, hf⟩ := Option.bind_eq_some_iff.mp hf
            refine C.ald 0 rfl gx27 (by decide +kernel) rfl ?_
            obtain ⟨x28, gx28, hf⟩ := Option.bind_eq_some_iff.mp hf
            refine C.ald 0 rfl gx28 (by decide +kernel) rfl ?_
            refine C.goto (off := 30) (tgt := 114) (by decide +kernel) (by decide) ?_
            refine Vsub [1, 2, 3, 4, 5, 6] rfl ?_
            exact l_X15_valueOf_114 C C2 ih r0 r1 i2 i3 i4 i5 x28 i4 a17 h hf
        · replace hf := ifp c32 hf
          refine C.seg (pe := 57) (lv' := [(6, .int x6), (0, .ref r0), (1, .ref r1), (2, .int i2), (3, .int i3), (4, .int i4), (5, .int i5)]) (st' := [.ref r1, .int i4, .ref a17]) [(.aload_n 1, 1, 0)] (by decide +kernel) rfl ?_
          obtain ⟨a30, ga30, hf⟩ := Option.bind_eq_some_iff.mp hf
          refine C.rdA fr_1736 ga30 (by decide +kernel) rfl ?_
          refine C.seg (pe := 62) (lv' := [(6, .int x6), (0, .ref r0), (1, .ref r1), (2, .int i2), (3, .int i3), (4, .int i4), (5, .int i5)]) (st' := [.int i5, .ref a30, .int i4, .ref a17]) [(.iload 5, 2, 0)] (by decide +kernel) rfl ?_
          obtain ⟨x31, gx31, hf⟩ := Option.bind_eq_some_iff.mp hf
          refine C.ald 0 rfl gx31 (by decide +kernel) rfl ?_
          refine C.goto (off := 51) (tgt := 114) (by decide +kernel) (by decide) ?_
          refine Vsub [1, 2, 3, 4, 5, 6] rfl ?_
          exact l_X15_valueOf_114 C C2 ih r0 r1 i2 i3 i4 i5 x31 i4 a17 h hf
def f_X15_valueOf (a0 : Nat) (p1 : Nat) (p2 : Int32) (p3 : Int32) (h : AH) : Option (Int32 × AH) :=
  if isO 15 h a0 = true then
    (gA 12 h p1 8).bind fun a1 =>
    (aI 0 h a1 ((4 * p2) + p3)).bind fun x2 =>
    f_X15_valueOf_15 FU a0 p1 p2 p3 0 x2 h
  else none
set_option maxRecDepth 100000 in
set_option maxHeartbeats 4000000 in
theorem w_X15_valueOf {l : Launch} {G : GX} {a0 : Nat} {p1 : Nat} {p2 : Int32} {p3 : Int32} {h : AH} {rr : Int32} {hr : AH} (hf : f_X15_valueOf a0 p1 p2 p3 h = some (rr, hr)) : Ct l G yX15_valueOf 2 60 [.ref a0, .ref p1, .int p2, .int p3] h (QI rr hr) := by
  unfold f_X15_valueOf at hf
  obtain ⟨ho, hf⟩ := ifO hf
  refine Ct_of (own := RX15) (cc := cX15_valueOf) (nL := 9) (ret := (some .int)) rfl rfl k_2330 (Nat.le_of_ble_eq_true rfl) (fun X C2 C => ?_)
  show V X G h (QI rr hr) 0 [(0, .ref a0), (1, .ref p1), (2, .int p2), (3, .int p3)] [] h
  refine C.seg (pe := 4) (lv' := [(4, .int 0), (0, .ref a0), (1, .ref p1), (2, .int p2), (3, .int p3)]) (st' := [.ref p1]) [(.iconst 0, 1, 0), (.istore 4, 2, 0), (.aload_n 1, 1, 0)] (by decide +kernel) rfl ?_
  obtain ⟨a1, ga1, hf⟩ := Option.bind_eq_some_iff.mp hf
  refine C.rdA fr_1730 ga1 (by decide +kernel) rfl ?_
  refine C.seg (pe := 12) (lv' := [(4, .int 0), (0, .ref a0), (1, .ref p1), (2, .int p2), (3, .int p3)]) (st' := [.int ((4 * p2) + p3), .ref a1]) [(.iconst 4, 1, 4), (.iload_n 2, 1, 0), (.imul, 1, 0), (.iload_n 3, 1, 0), (.iadd, 1, 0)] (by decide +kernel) rfl ?_
  obtain ⟨x2, gx2, hf⟩ := Option.bind_eq_some_iff.mp hf
  refine C.ald 0 rfl gx2 (by decide +kernel) rfl ?_
  refine C.seg (pe := 15) (lv' := [(5, .int x2), (4, .int 0), (0, .ref a0), (1, .ref p1), (2, .int p2), (3, .int p3)]) (st' := []) [(.istore 5, 2, 0)] (by decide +kernel) rfl ?_
  refine Vsub [2, 3, 4, 5, 1, 0] rfl ?_
  exact l_X15_valueOf_15 C C2 FU a0 p1 p2 p3 0 x2 h hf
theorem o_X15_valueOf {a0 : Nat} {p1 : Nat} {p2 : Int32} {p3 : Int32} {h : AH} {rr : Int32} {hr : AH} (hf : f_X15_valueOf a0 p1 p2 p3 h = some (rr, hr)) : isO 15 h a0 = true := by
  unfold f_X15_valueOf at hf
  exact (ifO hf).1
/-! WallHouseModel.dot(III)V -/
def f_X15_dot_56 (h : AH) : Option (AH) :=
  some h
set_option maxRecDepth 100000 in
set_option maxHeartbeats 4000000 in
theorem l_X15_dot_56 {X : MX} {l : Launch} {G : GX} {h0 : AH} {hr : AH} (C : Cx X G RX15 cX15_dot 4 none 1 23 h0) (C2 : Cy X l "dot" []) (h : AH) (hf : f_X15_dot_56 h = some hr) : V X G h0 (QV hr) 56 [] [] h := by
  unfold f_X15_dot_56 at hf
  cases hf
  exact C.retV rfl (by decide +kernel) ⟨rfl, rfl⟩
def f_X15_dot (a0 : Nat) (p1 : Int32) (p2 : Int32) (p3 : Int32) (h : AH) : Option (AH) :=
  if isO 15 h a0 = true then
    (gA 15 h a0 6).bind fun a1 =>
    (gI 15 h a0 47).bind fun x2 =>
    (aI 0 h a1 x2).bind fun x3 =>
    b2 (f_X15_in p1 0 (x3 - 1) h) fun x4 h5 =>
    if x4 = 0 then
      f_X15_dot_56 h5
    else
      (gA 15 h5 a0 7).bind fun a6 =>
      (gI 15 h5 a0 47).bind fun x7 =>
      (aI 0 h5 a6 x7).bind fun x8 =>
      b2 (f_X15_in p2 0 (x8 - 1) h5) fun x9 h10 =>
      if x9 = 0 then
        f_X15_dot_56 h10
      else
        (gA 15 h10 a0 17).bind fun a11 =>
        (gI 15 h10 a0 47).bind fun x12 =>
        b2 (f_X15_cellOf a0 x12 p1 p2 h10) fun x13 h14 =>
        (aI 2 h14 a11 x13).bind fun x15 =>
        if x15 = 0 then
          (gA 15 h14 a0 43).bind fun a16 =>
          (gA 15 h14 a0 6).bind fun a17 =>
          (gI 15 h14 a0 47).bind fun x18 =>
          (aI 0 h14 a17 x18).bind fun x19 =>
          (sI 0 h14 a16 ((x19 * p2) + p1) p3).bind fun h20 =>
          some h20
        else
          f_X15_dot_56 h14
  else none
set_option maxRecDepth 100000 in
set_option maxHeartbeats 4000000 in
theorem w_X15_dot {l : Launch} {G : GX} {a0 : Nat} {p1 : Int32} {p2 : Int32} {p3 : Int32} {h : AH} {hr : AH} (hf : f_X15_dot a0 p1 p2 p3 h = some hr) : Ct l G yX15_dot 1 23 [.ref a0, .int p1, .int p2, .int p3] h (QV hr) := by
  unfold f_X15_dot at hf
  obtain ⟨ho, hf⟩ := ifO hf
  refine Ct_of (own := RX15) (cc := cX15_dot) (nL := 4) (ret := none) rfl rfl k_2342 (Nat.le_of_ble_eq_true rfl) (fun X C2 C => ?_)
  show V X G h (QV hr) 0 [(0, .ref a0), (1, .int p1), (2, .int p2), (3, .int p3)] [] h
  refine C.seg (pe := 3) (lv' := [(0, .ref a0), (1, .int p1), (2, .int p2), (3, .int p3)]) (st' := [.ref a0, .int 0, .int p1]) [(.iload_n 1, 1, 0), (.iconst 0, 1, 0), (.aload_n 0, 1, 0)] (by decide +kernel) rfl ?_
  obtain ⟨a1, ga1, hf⟩ := Option.bind_eq_some_iff.mp hf
  refine C.rdA fr_1792 ga1 (by decide +kernel) rfl ?_
  refine C.seg (pe := 7) (lv' := [(0, .ref a0), (1, .int p1), (2, .int p2), (3, .int p3)]) (st' := [.ref a0, .ref a1, .int 0, .int p1]) [(.aload_n 0, 1, 0)] (by decide +kernel) rfl ?_
  obtain ⟨x2, gx2, hf⟩ := Option.bind_eq_some_iff.mp hf
  refine C.rdI fr_1833 gx2 (by decide +kernel) rfl ?_
  obtain ⟨x3, gx3, hf⟩ := Option.bind_eq_some_iff.mp hf
  refine C.ald 0 rfl gx3 (by decide +kernel) rfl ?_
  refine C.seg (pe := 13) (lv' := [(0, .ref a0), (1, .int p1), (2, .int p2), (3, .int p3)]) (st' := [.int (x3 - 1), .int 0, .int p1]) [(.iconst 1, 1, 1), (.isub, 1, 0)] (by decide +kernel) rfl ?_
  obtain ⟨x4, h5, gx4, hf⟩ := b2_some hf
  refine C.callSr C2 [.int p1, .int 0, .int (x3 - 1)] [] ms_2109 rfl (w_X15_in gx4) (by omega) (by omega) (Nat.le_of_ble_eq_true rfl) (by decide +kernel) rfl ?_
  refine C.if_eq (off := 40) (tgt := 56) (pf := 19) (by decide +kernel) (by decide) rfl (fun c23 => ?_) (fun c23 => ?_)
  · replace hf := ifp c23 hf
    refine Vsub [] rfl ?_
    exact l_X15_dot_56 C C2 h5 hf
  · replace hf := ifn c23 hf
    refine C.seg (pe := 22) (lv' := [(0, .ref a0), (1, .int p1), (2, .int p2), (3, .int p3)]) (st' := [.ref a0, .int 0, .int p2]) [(.iload_n 2, 1, 0), (.iconst 0, 1, 0), (.aload_n 0, 1, 0)] (by decide +kernel) rfl ?_
    obtain ⟨a6, ga6, hf⟩ := Option.bind_eq_some_iff.mp hf
    refine C.rdA fr_1793 ga6 (by decide +kernel) rfl ?_
    refine C.seg (pe := 26) (lv' := [(0, .ref a0), (1, .int p1), (2, .int p2), (3, .int p3)]) (st' := [.ref a0, .ref a6, .int 0, .int p2]) [(.aload_n 0, 1, 0)] (by decide +kernel) rfl ?_
    obtain ⟨x7, gx7, hf⟩ := Option.bind_eq_some_iff.mp hf
    refine C.rdI fr_1833 gx7 (by decide +kernel) rfl ?_
    obtain ⟨x8, gx8, hf⟩ := Option.bind_eq_some_iff.mp hf
    refine C.ald 0 rfl gx8 (by decide +kernel) rfl ?_
    refine C.seg (pe := 32) (lv' := [(0, .ref a0), (1, .int p1), (2, .int p2), (3, .int p3)]) (st' := [.int (x8 - 1), .int 0, .int p2]) [(.iconst 1, 1, 1), (.isub, 1, 0)] (by decide +kernel) rfl ?_
    obtain ⟨x9, h10, gx9, hf⟩ := b2_some hf
    refine C.callSr C2 [.int p2, .int 0, .int (x8 - 1)] [] ms_2109 rfl (w_X15_in gx9) (by omega) (by omega) (Nat.le_of_ble_eq_true rfl) (by decide +kernel) rfl ?_
    refine C.if_eq (off := 21) (tgt := 56) (pf := 38) (by decide +kernel) (by decide) rfl (fun c22 => ?_) (fun c22 => ?_)
    · replace hf := ifp c22 hf
      refine Vsub [] rfl ?_
      exact l_X15_dot_56 C C2 h10 hf
    · replace hf := ifn c22 hf
      refine C.seg (pe := 39) (lv' := [(0, .ref a0), (1, .int p1), (2, .int p2), (3, .int p3)]) (st' := [.ref a0]) [(.aload_n 0, 1, 0)] (by decide +kernel) rfl ?_
      obtain ⟨a11, ga11, hf⟩ := Option.bind_eq_some_iff.mp hf
      refine C.rdA fr_1803 ga11 (by decide +kernel) rfl ?_
      refine C.seg (pe := 44) (lv' := [(0, .ref a0), (1, .int p1), (2, .int p2), (3, .int p3)]) (st' := [.ref a0, .ref a0, .ref a11]) [(.aload_n 0, 1, 0), (.aload_n 0, 1, 0)] (by decide +kernel) rfl ?_
      obtain ⟨x12, gx12, hf⟩ := Option.bind_eq_some_iff.mp hf
      refine C.rdI fr_1833 gx12 (by decide +kernel) rfl ?_
      refine C.seg (pe := 49) (lv' := [(0, .ref a0), (1, .int p1), (2, .int p2), (3, .int p3)]) (st' := [.int p2, .int p1, .int x12, .ref a0, .ref a11]) [(.iload_n 1, 1, 0), (.iload_n 2, 1, 0)] (by decide +kernel) rfl ?_
      obtain ⟨x13, h14, gx13, hf⟩ := b2_some hf
      refine C.callVr C2 [.int x12, .int p1, .int p2] [.ref a11] mv_2144 rfl (o_X15_cellOf gx13) (w_X15_cellOf gx13) (by omega) (by omega) (Nat.le_of_ble_eq_true rfl) (by decide +kernel) rfl ?_
      obtain ⟨x15, gx15, hf⟩ := Option.bind_eq_some_iff.mp hf
      refine C.zald 2 rfl gx15 (by decide +kernel) rfl ?_
      refine C.if_eq (off := 4) (tgt := 57) (pf := 56) (by decide +kernel) (by decide) rfl (fun c21 => ?_) (fun c21 => ?_)
      · replace hf := ifp c21 hf
        refine C.seg (pe := 58) (lv' := [(0, .ref a0), (1, .int p1), (2, .int p2), (3, .int p3)]) (st' := [.ref a0]) [(.aload_n 0, 1, 0)] (by decide +kernel) rfl ?_
        obtain ⟨a16, ga16, hf⟩ := Option.bind_eq_some_iff.mp hf
        refine C.rdA fr_1829 ga16 (by decide +kernel) rfl ?_
        refine C.seg (pe := 62) (lv' := [(0, .ref a0), (1, .int p1), (2, .int p2), (3, .int p3)]) (st' := [.ref a0, .ref a16]) [(.aload_n 0, 1, 0)] (by decide +kernel) rfl ?_
        obtain ⟨a17, ga17, hf⟩ := Option.bind_eq_some_iff.mp hf
        refine C.rdA fr_1792 ga17 (by decide +kernel) rfl ?_
        refine C.seg (pe := 66) (lv' := [(0, .ref a0), (1, .int p1), (2, .int p2), (3, .int p3)]) (st' := [.ref a0, .ref a17, .ref a16]) [(.aload_n 0, 1, 0)] (by decide +kernel) rfl ?_
        obtain ⟨x18, gx18, hf⟩ := Option.bind_eq_some_iff.mp hf
        refine C.rdI fr_1833 gx18 (by decide +kernel) rfl ?_
        obtain ⟨x19, gx19, hf⟩ := Option.bind_eq_some_iff.mp hf
        refine C.ald 0 rfl gx19 (by decide +kernel) rfl ?_
        refine C.seg (pe := 75) (lv' := [(0, .ref a0), (1, .int p1), (2, .int p2), (3, .int p3)]) (st' := [.int p3, .int ((x19 * p2) + p1), .ref a16]) [(.iload_n 2, 1, 0), (.imul, 1, 0), (.iload_n 1, 1, 0), (.iadd, 1, 0), (.iload_n 3, 1, 0)] (by decide +kernel) rfl ?_
        obtain ⟨h20, gh20, hf⟩ := Option.bind_eq_some_iff.mp hf
        refine C.ast gh20 (by decide +kernel) rfl ?_
        cases hf
        exact C.retV rfl (by decide +kernel) ⟨rfl, rfl⟩
      · replace hf := ifn c21 hf
        refine Vsub [] rfl ?_
        exact l_X15_dot_56 C C2 h14 hf
theorem o_X15_dot {a0 : Nat} {p1 : Int32} {p2 : Int32} {p3 : Int32} {h : AH} {hr : AH} (hf : f_X15_dot a0 p1 p2 p3 h = some hr) : isO 15 h a0 = true := by
  unfold f_X15_dot at hf
  exact (ifO hf).1
/-! WallHouseModel.rect(IIIII)V -/
def f_X15_rect_81 (h : AH) : Option (AH) :=
  some h
set_option maxRecDepth 100000 in
set_option maxHeartbeats 4000000 in
theorem l_X15_rect_81 {X : MX} {l : Launch} {G : GX} {h0 : AH} {hr : AH} (C : Cx X G RX15 cX15_rect 8 none 2 46 h0) (C2 : Cy X l "rect" []) (h : AH) (hf : f_X15_rect_81 h = some hr) : V X G h0 (QV hr) 81 [] [] h := by
  unfold f_X15_rect_81 at hf
  cases hf
  exact C.retV rfl (by decide +kernel) ⟨rfl, rfl⟩
def f_X15_rect_75 (k7 : Nat → Int32 → Int32 → Int32 → Int32 → Int32 → Int32 → AH → Option (AH)) (r0 : Nat) (i1 : Int32) (i2 : Int32) (i3 : Int32) (i4 : Int32) (i5 : Int32) (i6 : Int32) (h : AH) : Option (AH) :=
  k7 r0 i1 i2 i3 i4 i5 (i6 + 1) h
set_option maxRecDepth 100000 in
set_option maxHeartbeats 4000000 in
theorem l_X15_rect_75 {X : MX} {l : Launch} {G : GX} {h0 : AH} {hr : AH} (C : Cx X G RX15 cX15_rect 8 none 2 46 h0) (C2 : Cy X l "rect" []) {k7 : Nat → Int32 → Int32 → Int32 → Int32 → Int32 → Int32 → AH → Option (AH)} (hk7 : ∀ (r0 : Nat) (i1 : Int32) (i2 : Int32) (i3 : Int32) (i4 : Int32) (i5 : Int32) (i6 : Int32) (h : AH), k7 r0 i1 i2 i3 i4 i5 i6 h = some hr → V X G h0 (QV hr) 7 [(0, .ref r0), (1, .int i1), (2, .int i2), (3, .int i3), (4, .int i4), (5, .int i5), (6, .int i6)] [] h) (r0 : Nat) (i1 : Int32) (i2 : Int32) (i3 : Int32) (i4 : Int32) (i5 : Int32) (i6 : Int32) (h : AH) (hf : f_X15_rect_75 k7 r0 i1 i2 i3 i4 i5 i6 h = some hr) : V X G h0 (QV hr) 75 [(0, .ref r0), (1, .int i1), (2, .int i2), (3, .int i3), (4, .int i4), (5, .int i5), (6, .int i6)] [] h := by
  unfold f_X15_rect_75 at hf
  refine C.seg (pe := 78) (lv' := [(6, .int (i6 + 1)), (0, .ref r0), (1, .int i1), (2, .int i2), (3, .int i3), (4, .int i4), (5, .int i5)]) (st' := []) [(.iinc 6 1, 3, 1)] (by decide +kernel) rfl ?_
  refine C.goto (off := (-71)) (tgt := 7) (by decide +kernel) (by decide) ?_
  refine Vsub [1, 2, 3, 4, 5, 6, 0] rfl ?_
  exact hk7 r0 i1 i2 i3 i4 i5 (i6 + 1) h hf
def f_X15_rect_37 (k7 : Nat → Int32 → Int32 → Int32 → Int32 → Int32 → Int32 → AH → Option (AH)) : Nat → Nat → Int32 → Int32 → Int32 → Int32 → Int32 → Int32 → Int32 → AH → Option (AH)
  | 0, _, _, _, _, _, _, _, _, _ => none
  | n + 1, r0, i1, i2, i3, i4, i5, i6, i7, h =>
    if i2 + i4 ≤ i7 then
      f_X15_rect_75 k7 r0 i1 i2 i3 i4 i5 i6 h
    else
      (gA 15 h r0 6).bind fun a1 =>
      (gI 15 h r0 47).bind fun x2 =>
      (aI 0 h a1 x2).bind fun x3 =>
      if x3 ≤ i7 then
        f_X15_rect_75 k7 r0 i1 i2 i3 i4 i5 i6 h
      else
        (f_X15_dot r0 i7 i6 i1 h).bind fun h4 =>
        (f_X15_rect_37 k7 n) r0 i1 i2 i3 i4 i5 i6 (i7 + 1) h4
set_option maxRecDepth 100000 in
set_option maxHeartbeats 4000000 in
theorem l_X15_rect_37 {X : MX} {l : Launch} {G : GX} {h0 : AH} {hr : AH} (C : Cx X G RX15 cX15_rect 8 none 2 46 h0) (C2 : Cy X l "rect" []) {k7 : Nat → Int32 → Int32 → Int32 → Int32 → Int32 → Int32 → AH → Option (AH)} (hk7 : ∀ (r0 : Nat) (i1 : Int32) (i2 : Int32) (i3 : Int32) (i4 : Int32) (i5 : Int32) (i6 : Int32) (h : AH), k7 r0 i1 i2 i3 i4 i5 i6 h = some hr → V X G h0 (QV hr) 7 [(0, .ref r0), (1, .int i1), (2, .int i2), (3, .int i3), (4, .int i4), (5, .int i5), (6, .int i6)] [] h) : ∀ (n : Nat) (r0 : Nat) (i1 : Int32) (i2 : Int32) (i3 : Int32) (i4 : Int32) (i5 : Int32) (i6 : Int32) (i7 : Int32) (h : AH), f_X15_rect_37 k7 n r0 i1 i2 i3 i4 i5 i6 i7 h = some hr → V X G h0 (QV hr) 37 [(0, .ref r0), (1, .int i1), (2, .int i2), (3, .int i3), (4, .int i4), (5, .int i5), (6, .int i6), (7, .int i7)] [] h := by
  intro n
  induction n with
  | zero => intro r0 i1 i2 i3 i4 i5 i6 i7 h hf; rw [f_X15_rect_37] at hf; cases hf
  | succ n ih =>
    intro r0 i1 i2 i3 i4 i5 i6 i7 h hf
    rw [f_X15_rect_37] at hf
    refine C.seg (pe := 43) (lv' := [(0, .ref r0), (1, .int i1), (2, .int i2), (3, .int i3), (4, .int i4), (5, .int i5), (6, .int i6), (7, .int i7)]) (st' := [.int (i2 + i4), .int i7]) [(.iload 7, 2, 0), (.iload_n 2, 1, 0), (.iload 4, 2, 0), (.iadd, 1, 0)] (by decide +kernel) rfl ?_
    refine C.icmp_ge (off := 32) (tgt := 75) (pf := 46) (by decide +kernel) (by decide) rfl (fun c6 => ?_) (fun c6 => ?_)
    · replace hf := ifp c6 hf
      refine Vsub [0, 1, 2, 3, 4, 5, 6] rfl ?_
      exact l_X15_rect_75 C C2 hk7 r0 i1 i2 i3 i4 i5 i6 h hf
    · replace hf := ifn c6 hf
      refine C.seg (pe := 49) (lv' := [(0, .ref r0), (1, .int i1), (2, .int i2), (3, .int i3), (4, .int i4), (5, .int i5), (6, .int i6), (7, .int i7)]) (st' := [.ref r0, .int i7]) [(.iload 7, 2, 0), (.aload_n 0, 1, 0)] (by decide +kernel) rfl ?_
      obtain ⟨a1, ga1, hf⟩ := Option.bind_eq_some_iff.mp hf
      refine C.rdA fr_1792 ga1 (by decide +kernel) rfl ?_
      refine C.seg (pe := 53) (lv' := [(0, .ref r0), (1, .int i1), (2, .int i2), (3, .int i3), (4, .int i4), (5, .int i5), (6, .int i6), (7, .int i7)]) (st' := [.ref r0, .ref a1, .int i7]) [(.aload_n 0, 1, 0)] (by decide +kernel) rfl ?_
      obtain ⟨x2, gx2, hf⟩ := Option.bind_eq_some_iff.mp hf
      refine C.rdI fr_1833 gx2 (by decide +kernel) rfl ?_
      obtain ⟨x3, gx3, hf⟩ := Option.bind_eq_some_iff.mp hf
      refine C.ald 0 rfl gx3 (by decide +kernel) rfl ?_
      refine C.icmp_ge (off := 18) (tgt := 75) (pf := 60) (by decide +kernel) (by decide) rfl (fun c5 => ?_) (fun c5 => ?_)
      · replace hf := ifp c5 hf
        refine Vsub [0, 1, 2, 3, 4, 5, 6] rfl ?_
        exact l_X15_rect_75 C C2 hk7 r0 i1 i2 i3 i4 i5 i6 h hf
      · replace hf := ifn c5 hf
        refine C.seg (pe := 66) (lv' := [(0, .ref r0), (1, .int i1), (2, .int i2), (3, .int i3), (4, .int i4), (5, .int i5), (6, .int i6), (7, .int i7)]) (st' := [.int i1, .int i6, .int i7, .ref r0]) [(.aload_n 0, 1, 0), (.iload 7, 2, 0), (.iload 6, 2, 0), (.iload_n 1, 1, 0)] (by decide +kernel) rfl ?_
        obtain ⟨h4, gh4, hf⟩ := Option.bind_eq_some_iff.mp hf
        refine C.callVr C2 [.int i7, .int i6, .int i1] [] mv_2339 rfl (o_X15_dot gh4) (w_X15_dot gh4) (by omega) (by omega) (Nat.le_of_ble_eq_true rfl) (by decide +kernel) rfl ?_
        refine C.seg (pe := 72) (lv' := [(7, .int (i7 + 1)), (0, .ref r0), (1, .int i1), (2, .int i2), (3, .int i3), (4, .int i4), (5, .int i5), (6, .int i6)]) (st' := []) [(.iinc 7 1, 3, 1)] (by decide +kernel) rfl ?_
        refine C.goto (off := (-35)) (tgt := 37) (by decide +kernel) (by decide) ?_
        refine Vsub [1, 2, 3, 4, 5, 6, 7, 0] rfl ?_
        exact ih r0 i1 i2 i3 i4 i5 i6 (i7 + 1) h4 hf
def f_X15_rect_7 : Nat → Nat → Int32 → Int32 → Int32 → Int32 → Int32 → Int32 → AH → Option (AH)
  | 0, _, _, _, _, _, _, _, _ => none
  | n + 1, r0, i1, i2, i3, i4, i5, i6, h =>
    if i3 + i5 ≤ i6 then
      f_X15_rect_81 h
    else
      (gA 15 h r0 7).bind fun a1 =>
      (gI 15 h r0 47).bind fun x2 =>
      (aI 0 h a1 x2).bind fun x3 =>
      if x3 ≤ i6 then
        f_X15_rect_81 h
      else
        f_X15_rect_37 (f_X15_rect_7 n) FU r0 i1 i2 i3 i4 i5 i6 (mxI 0 i2) h
set_option maxRecDepth 100000 in
set_option maxHeartbeats 4000000 in
theorem l_X15_rect_7 {X : MX} {l : Launch} {G : GX} {h0 : AH} {hr : AH} (C : Cx X G RX15 cX15_rect 8 none 2 46 h0) (C2 : Cy X l "rect" []) : ∀ (n : Nat) (r0 : Nat) (i1 : Int32) (i2 : Int32) (i3 : Int32) (i4 : Int32) (i5 : Int32) (i6 : Int32) (h : AH), f_X15_rect_7 n r0 i1 i2 i3 i4 i5 i6 h = some hr → V X G h0 (QV hr) 7 [(0, .ref r0), (1, .int i1), (2, .int i2), (3, .int i3), (4, .int i4), (5, .int i5), (6, .int i6)] [] h := by
  intro n
  induction n with
  | zero => intro r0 i1 i2 i3 i4 i5 i6 h hf; rw [f_X15_rect_7] at hf; cases hf
  | succ n ih =>
    intro r0 i1 i2 i3 i4 i5 i6 h hf
    rw [f_X15_rect_7] at hf
    refine C.seg (pe := 13) (lv' := [(0, .ref r0), (1, .int i1), (2, .int i2), (3, .int i3), (4, .int i4), (5, .int i5), (6, .int i6)]) (st' := [.int (i3 + i5), .int i6]) [(.iload 6, 2, 0), (.iload_n 3, 1, 0), (.iload 5, 2, 0), (.iadd, 1, 0)] (by decide +kernel) rfl ?_
    refine C.icmp_ge (off := 68) (tgt := 81) (pf := 16) (by decide +kernel) (by decide) rfl (fun c5 => ?_) (fun c5 => ?_)
    · replace hf := ifp c5 hf
      refine Vsub [] rfl ?_
      exact l_X15_rect_81 C C2 h hf
    · replace hf := ifn c5 hf
      refine C.seg (pe := 19) (lv' := [(0, .ref r0), (1, .int i1), (2, .int i2), (3, .int i3), (4, .int i4), (5, .int i5), (6, .int i6)]) (st' := [.ref r0, .int i6]) [(.iload 6, 2, 0), (.aload_n 0, 1, 0)] (by decide +kernel) rfl ?_
      obtain ⟨a1, ga1, hf⟩ := Option.bind_eq_some_iff.mp hf
      refine C.rdA fr_1793 ga1 (by decide +kernel) rfl ?_
      refine C.seg (pe := 23) (lv' := [(0, .ref r0), (1, .int i1), (2, .int i2), (3, .int i3), (4, .int i4), (5, .int i5), (6, .int i6)]) (st' := [.ref r0, .ref a1, .int i6]) [(.aload_n 0, 1, 0)] (by decide +kernel) rfl ?_
      obtain ⟨x2, gx2, hf⟩ := Option.bind_eq_some_iff.mp hf
      refine C.rdI fr_1833 gx2 (by decide +kernel) rfl ?_
      obtain ⟨x3, gx3, hf⟩ := Option.bind_eq_some_iff.mp hf
      refine C.ald 0 rfl gx3 (by decide +kernel) rfl ?_
      refine C.icmp_ge (off := 54) (tgt := 81) (pf := 30) (by decide +kernel) (by decide) rfl (fun c4 => ?_) (fun c4 => ?_)
      · replace hf := ifp c4 hf
        refine Vsub [] rfl ?_
        exact l_X15_rect_81 C C2 h hf
      · replace hf := ifn c4 hf
        refine C.seg (pe := 32) (lv' := [(0, .ref r0), (1, .int i1), (2, .int i2), (3, .int i3), (4, .int i4), (5, .int i5), (6, .int i6)]) (st' := [.int i2, .int 0]) [(.iconst 0, 1, 0), (.iload_n 2, 1, 0)] (by decide +kernel) rfl ?_
        refine C.mmax k_2334 k_636 k_137 k_637 (by omega) (by omega) (Nat.le_of_ble_eq_true rfl) (by decide +kernel) rfl ?_
        refine C.seg (pe := 37) (lv' := [(7, .int (mxI 0 i2)), (0, .ref r0), (1, .int i1), (2, .int i2), (3, .int i3), (4, .int i4), (5, .int i5), (6, .int i6)]) (st' := []) [(.istore 7, 2, 0)] (by decide +kernel) rfl ?_
        refine Vsub [1, 2, 3, 4, 5, 6, 7, 0] rfl ?_
        exact l_X15_rect_37 C C2 ih FU r0 i1 i2 i3 i4 i5 i6 (mxI 0 i2) h hf
def f_X15_rect (a0 : Nat) (p1 : Int32) (p2 : Int32) (p3 : Int32) (p4 : Int32) (p5 : Int32) (h : AH) : Option (AH) :=
  if isO 15 h a0 = true then
    f_X15_rect_7 FU a0 p1 p2 p3 p4 p5 (mxI 0 p3) h
  else none
set_option maxRecDepth 100000 in
set_option maxHeartbeats 4000000 in
theorem w_X15_rect {l : Launch} {G : GX} {a0 : Nat} {p1 : Int32} {p2 : Int32} {p3 : Int32} {p4 : Int32} {p5 : Int32} {h : AH} {hr : AH} (hf : f_X15_rect a0 p1 p2 p3 p4 p5 h = some hr) : Ct l G yX15_rect 2 46 [.ref a0, .int p1, .int p2, .int p3, .int p4, .int p5] h (QV hr) := by
  unfold f_X15_rect at hf
  obtain ⟨ho, hf⟩ := ifO hf
  refine Ct_of (own := RX15) (cc := cX15_rect) (nL := 8) (ret := none) rfl rfl k_2338 (Nat.le_of_ble_eq_true rfl) (fun X C2 C => ?_)
  show V X G h (QV hr) 0 [(0, .ref a0), (1, .int p1), (2, .int p2), (3, .int p3), (4, .int p4), (5, .int p5)] [] h
  refine C.seg (pe := 2) (lv' := [(0, .ref a0), (1, .int p1), (2, .int p2), (3, .int p3), (4, .int p4), (5, .int p5)]) (st' := [.int p3, .int 0]) [(.iconst 0, 1, 0), (.iload_n 3, 1, 0)] (by decide +kernel) rfl ?_
  refine C.mmax k_2334 k_636 k_137 k_637 (by omega) (by omega) (Nat.le_of_ble_eq_true rfl) (by decide +kernel) rfl ?_
  refine C.seg (pe := 7) (lv' := [(6, .int (mxI 0 p3)), (0, .ref a0), (1, .int p1), (2, .int p2), (3, .int p3), (4, .int p4), (5, .int p5)]) (st' := []) [(.istore 6, 2, 0)] (by decide +kernel) rfl ?_
  refine Vsub [1, 2, 3, 4, 5, 6, 0] rfl ?_
  exact l_X15_rect_7 C C2 FU a0 p1 p2 p3 p4 p5 (mxI 0 p3) h hf
theorem o_X15_rect {a0 : Nat} {p1 : Int32} {p2 : Int32} {p3 : Int32} {p4 : Int32} {p5 : Int32} {h : AH} {hr : AH} (hf : f_X15_rect a0 p1 p2 p3 p4 p5 h = some hr) : isO 15 h a0 = true := by
  unfold f_X15_rect at hf
  exact (ifO hf).1
/-! WallHouseModel.disc(IIII)V -/
def f_X15_disc_87 (h : AH) : Option (AH) :=
  some h
set_option maxRecDepth 100000 in
set_option maxHeartbeats 4000000 in
theorem l_X15_disc_87 {X : MX} {l : Launch} {G : GX} {h0 : AH} {hr : AH} (C : Cx X G RX15 cX15_disc 7 none 2 46 h0) (C2 : Cy X l "disc" []) (h : AH) (hf : f_X15_disc_87 h = some hr) : V X G h0 (QV hr) 87 [] [] h := by
  unfold f_X15_disc_87 at hf
  cases hf
  exact C.retV rfl (by decide +kernel) ⟨rfl, rfl⟩
def f_X15_disc_75 (k3 : Nat → Int32 → Int32 → Int32 → Int32 → Int32 → AH → Option (AH)) (k25 : Nat → Int32 → Int32 → Int32 → Int32 → Int32 → Int32 → AH → Option (AH)) (r0 : Nat) (i1 : Int32) (i2 : Int32) (i3 : Int32) (i4 : Int32) (i5 : Int32) (i6 : Int32) (h : AH) : Option (AH) :=
  k25 r0 i1 i2 i3 i4 i5 (i6 + 1) h
set_option maxRecDepth 100000 in
set_option maxHeartbeats 4000000 in
theorem l_X15_disc_75 {X : MX} {l : Launch} {G : GX} {h0 : AH} {hr : AH} (C : Cx X G RX15 cX15_disc 7 none 2 46 h0) (C2 : Cy X l "disc" []) {k3 : Nat → Int32 → Int32 → Int32 → Int32 → Int32 → AH → Option (AH)} (hk3 : ∀ (r0 : Nat) (i1 : Int32) (i2 : Int32) (i3 : Int32) (i4 : Int32) (i5 : Int32) (h : AH), k3 r0 i1 i2 i3 i4 i5 h = some hr → V X G h0 (QV hr) 3 [(0, .ref r0), (1, .int i1), (2, .int i2), (3, .int i3), (4, .int i4), (5, .int i5)] [] h) {k25 : Nat → Int32 → Int32 → Int32 → Int32 → Int32 → Int32 → AH → Option (AH)} (hk25 : ∀ (r0 : Nat) (i1 : Int32) (i2 : Int32) (i3 : Int32) (i4 : Int32) (i5 : Int32) (i6 : Int32) (h : AH), k25 r0 i1 i2 i3 i4 i5 i6 h = some hr → V X G h0 (QV hr) 25 [(0, .ref r0), (1, .int i1), (2, .int i2), (3, .int i3), (4, .int i4), (5, .int i5), (6, .int i6)] [] h) (r0 : Nat) (i1 : Int32) (i2 : Int32) (i3 : Int32) (i4 : Int32) (i5 : Int32) (i6 : Int32) (h : AH) (hf : f_X15_disc_75 k3 k25 r0 i1 i2 i3 i4 i5 i6 h = some hr) : V X G h0 (QV hr) 75 [(0, .ref r0), (1, .int i1), (2, .int i2), (3, .int i3), (4, .int i4), (5, .int i5), (6, .int i6)] [] h := by
  unfold f_X15_disc_75 at hf
  refine C.seg (pe := 78) (lv' := [(6, .int (i6 + 1)), (0, .ref r0), (1, .int i1), (2, .int i2), (3, .int i3), (4, .int i4), (5, .int i5)]) (st' := []) [(.iinc 6 1, 3, 1)] (by decide +kernel) rfl ?_
  refine C.goto (off := (-53)) (tgt := 25) (by decide +kernel) (by decide) ?_
  refine Vsub [1, 2, 3, 4, 5, 6, 0] rfl ?_
  exact hk25 r0 i1 i2 i3 i4 i5 (i6 + 1) h hf
def f_X15_disc_25 (k3 : Nat → Int32 → Int32 → Int32 → Int32 → Int32 → AH → Option (AH)) : Nat → Nat → Int32 → Int32 → Int32 → Int32 → Int32 → Int32 → AH → Option (AH)
  | 0, _, _, _, _, _, _, _, _ => none
  | n + 1, r0, i1, i2, i3, i4, i5, i6, h =>
    (gA 15 h r0 6).bind fun a1 =>
    (gI 15 h r0 47).bind fun x2 =>
    (aI 0 h a1 x2).bind fun x3 =>
    if x3 ≤ i6 then
      k3 r0 i1 i2 i3 i4 (i5 + 1) h
    else
      if i4 * i4 < ((i6 - i2) * (i6 - i2)) + ((i5 - i3) * (i5 - i3)) then
        f_X15_disc_75 k3 (f_X15_disc_25 k3 n) r0 i1 i2 i3 i4 i5 i6 h
      else
        (f_X15_dot r0 i6 i5 i1 h).bind fun h4 =>
        f_X15_disc_75 k3 (f_X15_disc_25 k3 n) r0 i1 i2 i3 i4 i5 i6 h4
set_option maxRecDepth 100000 in
set_option maxHeartbeats 4000000 in
theorem l_X15_disc_25 {X : MX} {l : Launch} {G : GX} {h0 : AH} {hr : AH} (C : Cx X G RX15 cX15_disc 7 none 2 46 h0) (C2 : Cy X l "disc" []) {k3 : Nat → Int32 → Int32 → Int32 → Int32 → Int32 → AH → Option (AH)} (hk3 : ∀ (r0 : Nat) (i1 : Int32) (i2 : Int32) (i3 : Int32) (i4 : Int32) (i5 : Int32) (h : AH), k3 r0 i1 i2 i3 i4 i5 h = some hr → V X G h0 (QV hr) 3 [(0, .ref r0), (1, .int i1), (2, .int i2), (3, .int i3), (4, .int i4), (5, .int i5)] [] h) : ∀ (n : Nat) (r0 : Nat) (i1 : Int32) (i2 : Int32) (i3 : Int32) (i4 : Int32) (i5 : Int32) (i6 : Int32) (h : AH), f_X15_disc_25 k3 n r0 i1 i2 i3 i4 i5 i6 h = some hr → V X G h0 (QV hr) 25 [(0, .ref r0), (1, .int i1), (2, .int i2), (3, .int i3), (4, .int i4), (5, .int i5), (6, .int i6)] [] h := by
  intro n
  induction n with
  | zero => intro r0 i1 i2 i3 i4 i5 i6 h hf; rw [f_X15_disc_25] at hf; cases hf
  | succ n ih =>
    intro r0 i1 i2 i3 i4 i5 i6 h hf
    rw [f_X15_disc_25] at hf
    refine C.seg (pe := 28) (lv' := [(0, .ref r0), (1, .int i1), (2, .int i2), (3, .int i3), (4, .int i4), (5, .int i5), (6, .int i6)]) (st' := [.ref r0, .int i6]) [(.iload 6, 2, 0), (.aload_n 0, 1, 0)] (by decide +kernel) rfl ?_
    obtain ⟨a1, ga1, hf⟩ := Option.bind_eq_some_iff.mp hf
    refine C.rdA fr_1792 ga1 (by decide +kernel) rfl ?_
    refine C.seg (pe := 32) (lv' := [(0, .ref r0), (1, .int i1), (2, .int i2), (3, .int i3), (4, .int i4), (5, .int i5), (6, .int i6)]) (st' := [.ref r0, .ref a1, .int i6]) [(.aload_n 0, 1, 0)] (by decide +kernel) rfl ?_
    obtain ⟨x2, gx2, hf⟩ := Option.bind_eq_some_iff.mp hf
    refine C.rdI fr_1833 gx2 (by decide +kernel) rfl ?_
    obtain ⟨x3, gx3, hf⟩ := Option.bind_eq_some_iff.mp hf
    refine C.ald 0 rfl gx3 (by decide +kernel) rfl ?_
    refine C.icmp_ge (off := 45) (tgt := 81) (pf := 39) (by decide +kernel) (by decide) rfl (fun c6 => ?_) (fun c6 => ?_)
    · replace hf := ifp c6 hf
      refine C.seg (pe := 84) (lv' := [(5, .int (i5 + 1)), (0, .ref r0), (1, .int i1), (2, .int i2), (3, .int i3), (4, .int i4), (6, .int i6)]) (st' := []) [(.iinc 5 1, 3, 1)] (by decide +kernel) rfl ?_
      refine C.goto (off := (-81)) (tgt := 3) (by decide +kernel) (by decide) ?_
      refine Vsub [1, 2, 3, 4, 5, 0] rfl ?_
      exact hk3 r0 i1 i2 i3 i4 (i5 + 1) h hf
    · replace hf := ifn c6 hf
      refine C.seg (pe := 63) (lv' := [(0, .ref r0), (1, .int i1), (2, .int i2), (3, .int i3), (4, .int i4), (5, .int i5), (6, .int i6)]) (st' := [.int (i4 * i4), .int (((i6 - i2) * (i6 - i2)) + ((i5 - i3) * (i5 - i3)))]) [(.iload 6, 2, 0), (.iload_n 2, 1, 0), (.isub, 1, 0), (.iload 6, 2, 0), (.iload_n 2, 1, 0), (.isub, 1, 0), (.imul, 1, 0), (.iload 5, 2, 0), (.iload_n 3, 1, 0), (.isub, 1, 0), (.iload 5, 2, 0), (.iload_n 3, 1, 0), (.isub, 1, 0), (.imul, 1, 0), (.iadd, 1, 0), (.iload 4, 2, 0), (.iload 4, 2, 0), (.imul, 1, 0)] (by decide +kernel) rfl ?_
      refine C.icmp_gt (off := 12) (tgt := 75) (pf := 66) (by decide +kernel) (by decide) rfl (fun c5 => ?_) (fun c5 => ?_)
      · replace hf := ifp c5 hf
        exact l_X15_disc_75 C C2 hk3 ih r0 i1 i2 i3 i4 i5 i6 h hf
      · replace hf := ifn c5 hf
        refine C.seg (pe := 72) (lv' := [(0, .ref r0), (1, .int i1), (2, .int i2), (3, .int i3), (4, .int i4), (5, .int i5), (6, .int i6)]) (st' := [.int i1, .int i5, .int i6, .ref r0]) [(.aload_n 0, 1, 0), (.iload 6, 2, 0), (.iload 5, 2, 0), (.iload_n 1, 1, 0)] (by decide +kernel) rfl ?_
        obtain ⟨h4, gh4, hf⟩ := Option.bind_eq_some_iff.mp hf
        refine C.callVr C2 [.int i6, .int i5, .int i1] [] mv_2339 rfl (o_X15_dot gh4) (w_X15_dot gh4) (by omega) (by omega) (Nat.le_of_ble_eq_true rfl) (by decide +kernel) rfl ?_
        exact l_X15_disc_75 C C2 hk3 ih r0 i1 i2 i3 i4 i5 i6 h4 hf
def f_X15_disc_3 : Nat → Nat → Int32 → Int32 → Int32 → Int32 → Int32 → AH → Option (AH)
  | 0, _, _, _, _, _, _, _ => none
  | n + 1, r0, i1, i2, i3, i4, i5, h =>
    (gA 15 h r0 7).bind fun a1 =>
    (gI 15 h r0 47).bind fun x2 =>
    (aI 0 h a1 x2).bind fun x3 =>
    if x3 ≤ i5 then
      f_X15_disc_87 h
    else
      if i4 < 0 then
        f_X15_disc_87 h
      else
        f_X15_disc_25 (f_X15_disc_3 n) FU r0 i1 i2 i3 i4 i5 0 h
set_option maxRecDepth 100000 in
set_option maxHeartbeats 4000000 in
theorem l_X15_disc_3 {X : MX} {l : Launch} {G : GX} {h0 : AH} {hr : AH} (C : Cx X G RX15 cX15_disc 7 none 2 46 h0) (C2 : Cy X l "disc" []) : ∀ (n : Nat) (r0 : Nat) (i1 : Int32) (i2 : Int32) (i3 : Int32) (i4 : Int32) (i5 : Int32) (h : AH), f_X15_disc_3 n r0 i1 i2 i3 i4 i5 h = some hr → V X G h0 (QV hr) 3 [(0, .ref r0), (1, .int i1), (2, .int i2), (3, .int i3), (4, .int i4), (5, .int i5)] [] h := by
  intro n
  induction n with
  | zero => intro r0 i1 i2 i3 i4 i5 h hf; rw [f_X15_disc_3] at hf; cases hf
  | succ n ih =>
    intro r0 i1 i2 i3 i4 i5 h hf
    rw [f_X15_disc_3] at hf
    refine C.seg (pe := 6) (lv' := [(0, .ref r0), (1, .int i1), (2, .int i2), (3, .int i3), (4, .int i4), (5, .int i5)]) (st' := [.ref r0, .int i5]) [(.iload 5, 2, 0), (.aload_n 0, 1, 0)] (by decide +kernel) rfl ?_
    obtain ⟨a1, ga1, hf⟩ := Option.bind_eq_some_iff.mp hf
    refine C.rdA fr_1793 ga1 (by decide +kernel) rfl ?_
    refine C.seg (pe := 10) (lv' := [(0, .ref r0), (1, .int i1), (2, .int i2), (3, .int i3), (4, .int i4), (5, .int i5)]) (st' := [.ref r0, .ref a1, .int i5]) [(.aload_n 0, 1, 0)] (by decide +kernel) rfl ?_
    obtain ⟨x2, gx2, hf⟩ := Option.bind_eq_some_iff.mp hf
    refine C.rdI fr_1833 gx2 (by decide +kernel) rfl ?_
    obtain ⟨x3, gx3, hf⟩ := Option.bind_eq_some_iff.mp hf
    refine C.ald 0 rfl gx3 (by decide +kernel) rfl ?_
    refine C.icmp_ge (off := 73) (tgt := 87) (pf := 17) (by decide +kernel) (by decide) rfl (fun c5 => ?_) (fun c5 => ?_)
    · replace hf := ifp c5 hf
      refine Vsub [] rfl ?_
      exact l_X15_disc_87 C C2 h hf
    · replace hf := ifn c5 hf
      refine C.seg (pe := 19) (lv' := [(0, .ref r0), (1, .int i1), (2, .int i2), (3, .int i3), (4, .int i4), (5, .int i5)]) (st' := [.int i4]) [(.iload 4, 2, 0)] (by decide +kernel) rfl ?_
      refine C.if_lt (off := 68) (tgt := 87) (pf := 22) (by decide +kernel) (by decide) rfl (fun c4 => ?_) (fun c4 => ?_)
      · replace hf := ifp c4 hf
        refine Vsub [] rfl ?_
        exact l_X15_disc_87 C C2 h hf
      · replace hf := ifn c4 hf
        refine C.seg (pe := 25) (lv' := [(6, .int 0), (0, .ref r0), (1, .int i1), (2, .int i2), (3, .int i3), (4, .int i4), (5, .int i5)]) (st' := []) [(.iconst 0, 1, 0), (.istore 6, 2, 0)] (by decide +kernel) rfl ?_
        refine Vsub [1, 2, 3, 4, 5, 6, 0] rfl ?_
        exact l_X15_disc_25 C C2 ih FU r0 i1 i2 i3 i4 i5 0 h hf
def f_X15_disc (a0 : Nat) (p1 : Int32) (p2 : Int32) (p3 : Int32) (p4 : Int32) (h : AH) : Option (AH) :=
  if isO 15 h a0 = true then
    f_X15_disc_3 FU a0 p1 p2 p3 p4 0 h
  else none
set_option maxRecDepth 100000 in
set_option maxHeartbeats 4000000 in
theorem w_X15_disc {l : Launch} {G : GX} {a0 : Nat} {p1 : Int32} {p2 : Int32} {p3 : Int32} {p4 : Int32} {h : AH} {hr : AH} (hf : f_X15_disc a0 p1 p2 p3 p4 h = some hr) : Ct l G yX15_disc 2 46 [.ref a0, .int p1, .int p2, .int p3, .int p4] h (QV hr) := by
  unfold f_X15_disc at hf
  obtain ⟨ho, hf⟩ := ifO hf
  refine Ct_of (own := RX15) (cc := cX15_disc) (nL := 7) (ret := none) rfl rfl k_2346 (Nat.le_of_ble_eq_true rfl) (fun X C2 C => ?_)
  show V X G h (QV hr) 0 [(0, .ref a0), (1, .int p1), (2, .int p2), (3, .int p3), (4, .int p4)] [] h
  refine C.seg (pe := 3) (lv' := [(5, .int 0), (0, .ref a0), (1, .int p1), (2, .int p2), (3, .int p3), (4, .int p4)]) (st' := []) [(.iconst 0, 1, 0), (.istore 5, 2, 0)] (by decide +kernel) rfl ?_
  refine Vsub [1, 2, 3, 4, 5, 0] rfl ?_
  exact l_X15_disc_3 C C2 FU a0 p1 p2 p3 p4 0 h hf
theorem o_X15_disc {a0 : Nat} {p1 : Int32} {p2 : Int32} {p3 : Int32} {p4 : Int32} {h : AH} {hr : AH} (hf : f_X15_disc a0 p1 p2 p3 p4 h = some hr) : isO 15 h a0 = true := by
  unfold f_X15_disc at hf
  exact (ifO hf).1
/-! WallHouseModel.says(LWallHouseModel$Drawing;III)V -/
def f_X15_says_153 (h : AH) : Option (AH) :=
  some h
set_option maxRecDepth 100000 in
set_option maxHeartbeats 4000000 in
theorem l_X15_says_153 {X : MX} {l : Launch} {G : GX} {h0 : AH} {hr : AH} (C : Cx X G RX15 cX15_says 8 none 2 46 h0) (C2 : Cy X l "says" []) (h : AH) (hf : f_X15_says_153 h = some hr) : V X G h0 (QV hr) 153 [] [] h := by
  unfold f_X15_says_153 at hf
  cases hf
  exact C.retV rfl (by decide +kernel) ⟨rfl, rfl⟩
def f_X15_says_135 (k99 : Nat → Nat → Int32 → Int32 → Int32 → Int32 → AH → Option (AH)) (r0 : Nat) (r1 : Nat) (i2 : Int32) (i5 : Int32) (i7 : Int32) (si0 : Int32) (h : AH) : Option (AH) :=
  k99 r0 r1 i2 i5 si0 (i7 + 1) h
set_option maxRecDepth 100000 in
set_option maxHeartbeats 4000000 in
theorem l_X15_says_135 {X : MX} {l : Launch} {G : GX} {h0 : AH} {hr : AH} (C : Cx X G RX15 cX15_says 8 none 2 46 h0) (C2 : Cy X l "says" []) {k99 : Nat → Nat → Int32 → Int32 → Int32 → Int32 → AH → Option (AH)} (hk99 : ∀ (r0 : Nat) (r1 : Nat) (i2 : Int32) (i5 : Int32) (i6 : Int32) (i7 : Int32) (h : AH), k99 r0 r1 i2 i5 i6 i7 h = some hr → V X G h0 (QV hr) 99 [(0, .ref r0), (1, .ref r1), (2, .int i2), (5, .int i5), (6, .int i6), (7, .int i7)] [] h) (r0 : Nat) (r1 : Nat) (i2 : Int32) (i5 : Int32) (i7 : Int32) (si0 : Int32) (h : AH) (hf : f_X15_says_135 k99 r0 r1 i2 i5 i7 si0 h = some hr) : V X G h0 (QV hr) 135 [(0, .ref r0), (1, .ref r1), (2, .int i2), (5, .int i5), (7, .int i7)] [.int si0] h := by
  unfold f_X15_says_135 at hf
  refine C.seg (pe := 140) (lv' := [(7, .int (i7 + 1)), (6, .int si0), (0, .ref r0), (1, .ref r1), (2, .int i2), (5, .int i5)]) (st' := []) [(.istore 6, 2, 0), (.iinc 7 1, 3, 1)] (by decide +kernel) rfl ?_
  refine C.goto (off := (-41)) (tgt := 99) (by decide +kernel) (by decide) ?_
  refine Vsub [2, 3, 4, 5, 1, 0] rfl ?_
  exact hk99 r0 r1 i2 i5 si0 (i7 + 1) h hf
def f_X15_says_130 (k99 : Nat → Nat → Int32 → Int32 → Int32 → Int32 → AH → Option (AH)) (r0 : Nat) (r1 : Nat) (i2 : Int32) (i5 : Int32) (i7 : Int32) (h : AH) : Option (AH) :=
  f_X15_says_135 k99 r0 r1 i2 i5 i7 1 h
set_option maxRecDepth 100000 in
set_option maxHeartbeats 4000000 in
theorem l_X15_says_130 {X : MX} {l : Launch} {G : GX} {h0 : AH} {hr : AH} (C : Cx X G RX15 cX15_says 8 none 2 46 h0) (C2 : Cy X l "says" []) {k99 : Nat → Nat → Int32 → Int32 → Int32 → Int32 → AH → Option (AH)} (hk99 : ∀ (r0 : Nat) (r1 : Nat) (i2 : Int32) (i5 : Int32) (i6 : Int32) (i7 : Int32) (h : AH), k99 r0 r1 i2 i5 i6 i7 h = some hr → V X G h0 (QV hr) 99 [(0, .ref r0), (1, .ref r1), (2, .int i2), (5, .int i5), (6, .int i6), (7, .int i7)] [] h) (r0 : Nat) (r1 : Nat) (i2 : Int32) (i5 : Int32) (i7 : Int32) (h : AH) (hf : f_X15_says_130 k99 r0 r1 i2 i5 i7 h = some hr) : V X G h0 (QV hr) 130 [(0, .ref r0), (1, .ref r1), (2, .int i2), (5, .int i5), (7, .int i7)] [] h := by
  unfold f_X15_says_130 at hf
  refine C.seg (pe := 131) (lv' := [(0, .ref r0), (1, .ref r1), (2, .int i2), (5, .int i5), (7, .int i7)]) (st' := [.int 1]) [(.iconst 1, 1, 1)] (by decide +kernel) rfl ?_
  refine C.goto (off := 4) (tgt := 135) (by decide +kernel) (by decide) ?_
  exact l_X15_says_135 C C2 hk99 r0 r1 i2 i5 i7 1 h hf
def f_X15_says_99 : Nat → Nat → Nat → Int32 → Int32 → Int32 → Int32 → AH → Option (AH)
  | 0, _, _, _, _, _, _, _ => none
  | n + 1, r0, r1, i2, i5, i6, i7, h =>
    (gI 15 h r0 49).bind fun x1 =>
    if x1 ≤ i7 then
      if i5 = 0 then
        f_X15_says_153 h
      else
        if i6 = 0 then
          (gA 15 h r0 46).bind fun a2 =>
          (gI 15 h r0 49).bind fun x3 =>
          (gA 12 h r1 12).bind fun a4 =>
          (aL h a4 i2).bind fun y5 =>
          (sL h a2 x3 y5).bind fun h6 =>
          (gI 15 h6 r0 49).bind fun x7 =>
          (pI 15 h6 r0 49 (x7 + 1)).bind fun h8 =>
          some h8
        else
          f_X15_says_153 h
    else
      if i6 = 0 then
        (gA 15 h r0 46).bind fun a11 =>
        (aL h a11 i7).bind fun y12 =>
        (gA 12 h r1 12).bind fun a13 =>
        (aL h a13 i2).bind fun y14 =>
        if lg_cmp y12 y14 = 0 then
          f_X15_says_130 (f_X15_says_99 n) r0 r1 i2 i5 i7 h
        else
          f_X15_says_135 (f_X15_says_99 n) r0 r1 i2 i5 i7 0 h
      else
        f_X15_says_130 (f_X15_says_99 n) r0 r1 i2 i5 i7 h
set_option maxRecDepth 100000 in
set_option maxHeartbeats 4000000 in
theorem l_X15_says_99 {X : MX} {l : Launch} {G : GX} {h0 : AH} {hr : AH} (C : Cx X G RX15 cX15_says 8 none 2 46 h0) (C2 : Cy X l "says" []) : ∀ (n : Nat) (r0 : Nat) (r1 : Nat) (i2 : Int32) (i5 : Int32) (i6 : Int32) (i7 : Int32) (h : AH), f_X15_says_99 n r0 r1 i2 i5 i6 i7 h = some hr → V X G h0 (QV hr) 99 [(0, .ref r0), (1, .ref r1), (2, .int i2), (5, .int i5), (6, .int i6), (7, .int i7)] [] h := by
  intro n
  induction n with
  | zero => intro r0 r1 i2 i5 i6 i7 h hf; rw [f_X15_says_99] at hf; cases hf
  | succ n ih =>
    intro r0 r1 i2 i5 i6 i7 h hf
    rw [f_X15_says_99] at hf
    refine C.seg (pe := 102) (lv' := [(0, .ref r0), (1, .ref r1), (2, .int i2), (5, .int i5), (6, .int i6), (7, .int i7)]) (st' := [.ref r0, .int i7]) [(.iload 7, 2, 0), (.aload_n 0, 1, 0)] (by decide +kernel) rfl ?_
    obtain ⟨x1, gx1, hf⟩ := Option.bind_eq_some_iff.mp hf
    refine C.rdI fr_1835 gx1 (by decide +kernel) rfl ?_
    refine C.icmp_ge (off := 38) (tgt := 143) (pf := 108) (by decide +kernel) (by decide) rfl (fun c17 => ?_) (fun c17 => ?_)
    · replace hf := ifp c17 hf
      refine C.seg (pe := 145) (lv' := [(0, .ref r0), (1, .ref r1), (2, .int i2), (5, .int i5), (6, .int i6), (7, .int i7)]) (st' := [.int i5]) [(.iload 5, 2, 0)] (by decide +kernel) rfl ?_
      refine C.if_eq (off := 8) (tgt := 153) (pf := 148) (by decide +kernel) (by decide) rfl (fun c10 => ?_) (fun c10 => ?_)
      · replace hf := ifp c10 hf
        refine Vsub [] rfl ?_
        exact l_X15_says_153 C C2 h hf
      · replace hf := ifn c10 hf
        refine C.seg (pe := 150) (lv' := [(0, .ref r0), (1, .ref r1), (2, .int i2), (5, .int i5), (6, .int i6), (7, .int i7)]) (st' := [.int i6]) [(.iload 6, 2, 0)] (by decide +kernel) rfl ?_
        refine C.if_eq (off := 4) (tgt := 154) (pf := 153) (by decide +kernel) (by decide) rfl (fun c9 => ?_) (fun c9 => ?_)
        · replace hf := ifp c9 hf
          refine C.seg (pe := 155) (lv' := [(0, .ref r0), (1, .ref r1), (2, .int i2), (5, .int i5), (6, .int i6), (7, .int i7)]) (st' := [.ref r0]) [(.aload_n 0, 1, 0)] (by decide +kernel) rfl ?_
          obtain ⟨a2, ga2, hf⟩ := Option.bind_eq_some_iff.mp hf
          refine C.rdA fr_1832 ga2 (by decide +kernel) rfl ?_
          refine C.seg (pe := 159) (lv' := [(0, .ref r0), (1, .ref r1), (2, .int i2), (5, .int i5), (6, .int i6), (7, .int i7)]) (st' := [.ref r0, .ref a2]) [(.aload_n 0, 1, 0)] (by decide +kernel) rfl ?_
          obtain ⟨x3, gx3, hf⟩ := Option.bind_eq_some_iff.mp hf
          refine C.rdI fr_1835 gx3 (by decide +kernel) rfl ?_
          refine C.seg (pe := 163) (lv' := [(0, .ref r0), (1, .ref r1), (2, .int i2), (5, .int i5), (6, .int i6), (7, .int i7)]) (st' := [.ref r1, .int x3, .ref a2]) [(.aload_n 1, 1, 0)] (by decide +kernel) rfl ?_
          obtain ⟨a4, ga4, hf⟩ := Option.bind_eq_some_iff.mp hf
          refine C.rdA fr_1738 ga4 (by decide +kernel) rfl ?_
          refine C.seg (pe := 167) (lv' := [(0, .ref r0), (1, .ref r1), (2, .int i2), (5, .int i5), (6, .int i6), (7, .int i7)]) (st' := [.int i2, .ref a4, .int x3, .ref a2]) [(.iload_n 2, 1, 0)] (by decide +kernel) rfl ?_
          obtain ⟨y5, gy5, hf⟩ := Option.bind_eq_some_iff.mp hf
          refine C.lald gy5 (by decide +kernel) rfl ?_
          obtain ⟨h6, gh6, hf⟩ := Option.bind_eq_some_iff.mp hf
          refine C.last gh6 (by decide +kernel) rfl ?_
          refine C.seg (pe := 171) (lv' := [(0, .ref r0), (1, .ref r1), (2, .int i2), (5, .int i5), (6, .int i6), (7, .int i7)]) (st' := [.ref r0, .ref r0]) [(.aload_n 0, 1, 0), (.dup, 1, 0)] (by decide +kernel) rfl ?_
          obtain ⟨x7, gx7, hf⟩ := Option.bind_eq_some_iff.mp hf
          refine C.rdI fr_1835 gx7 (by decide +kernel) rfl ?_
          refine C.seg (pe := 176) (lv' := [(0, .ref r0), (1, .ref r1), (2, .int i2), (5, .int i5), (6, .int i6), (7, .int i7)]) (st' := [.int (x7 + 1), .ref r0]) [(.iconst 1, 1, 1), (.iadd, 1, 0)] (by decide +kernel) rfl ?_
          obtain ⟨h8, gh8, hf⟩ := Option.bind_eq_some_iff.mp hf
          refine C.putI fl_1835 gh8 (by decide +kernel) rfl ?_
          cases hf
          exact C.retV rfl (by decide +kernel) ⟨rfl, rfl⟩
        · replace hf := ifn c9 hf
          refine Vsub [] rfl ?_
          exact l_X15_says_153 C C2 h hf
    · replace hf := ifn c17 hf
      refine C.seg (pe := 110) (lv' := [(0, .ref r0), (1, .ref r1), (2, .int i2), (5, .int i5), (6, .int i6), (7, .int i7)]) (st' := [.int i6]) [(.iload 6, 2, 0)] (by decide +kernel) rfl ?_
      refine C.if_ne (off := 20) (tgt := 130) (pf := 113) (by decide +kernel) (by decide) rfl (fun c16 => ?_) (fun c16 => ?_)
      · replace hf := ifn c16 hf
        refine Vsub [0, 1, 2, 3, 5] rfl ?_
        exact l_X15_says_130 C C2 ih r0 r1 i2 i5 i7 h hf
      · replace hf := ifp c16 hf
        refine C.seg (pe := 114) (lv' := [(0, .ref r0), (1, .ref r1), (2, .int i2), (5, .int i5), (6, .int i6), (7, .int i7)]) (st' := [.ref r0]) [(.aload_n 0, 1, 0)] (by decide +kernel) rfl ?_
        obtain ⟨a11, ga11, hf⟩ := Option.bind_eq_some_iff.mp hf
        refine C.rdA fr_1832 ga11 (by decide +kernel) rfl ?_
        refine C.seg (pe := 119) (lv' := [(0, .ref r0), (1, .ref r1), (2, .int i2), (5, .int i5), (6, .int i6), (7, .int i7)]) (st' := [.int i7, .ref a11]) [(.iload 7, 2, 0)] (by decide +kernel) rfl ?_
        obtain ⟨y12, gy12, hf⟩ := Option.bind_eq_some_iff.mp hf
        refine C.lald gy12 (by decide +kernel) rfl ?_
        refine C.seg (pe := 121) (lv' := [(0, .ref r0), (1, .ref r1), (2, .int i2), (5, .int i5), (6, .int i6), (7, .int i7)]) (st' := [.ref r1, .long y12]) [(.aload_n 1, 1, 0)] (by decide +kernel) rfl ?_
        obtain ⟨a13, ga13, hf⟩ := Option.bind_eq_some_iff.mp hf
        refine C.rdA fr_1738 ga13 (by decide +kernel) rfl ?_
        refine C.seg (pe := 125) (lv' := [(0, .ref r0), (1, .ref r1), (2, .int i2), (5, .int i5), (6, .int i6), (7, .int i7)]) (st' := [.int i2, .ref a13, .long y12]) [(.iload_n 2, 1, 0)] (by decide +kernel) rfl ?_
        obtain ⟨y14, gy14, hf⟩ := Option.bind_eq_some_iff.mp hf
        refine C.lald gy14 (by decide +kernel) rfl ?_
        refine C.seg (pe := 127) (lv' := [(0, .ref r0), (1, .ref r1), (2, .int i2), (5, .int i5), (6, .int i6), (7, .int i7)]) (st' := [.int (lg_cmp y12 y14)]) [(.lcmp, 1, 0)] (by decide +kernel) rfl ?_
        refine C.if_ne (off := 7) (tgt := 134) (pf := 130) (by decide +kernel) (by decide) rfl (fun c15 => ?_) (fun c15 => ?_)
        · replace hf := ifn c15 hf
          refine C.seg (pe := 135) (lv' := [(0, .ref r0), (1, .ref r1), (2, .int i2), (5, .int i5), (6, .int i6), (7, .int i7)]) (st' := [.int 0]) [(.iconst 0, 1, 0)] (by decide +kernel) rfl ?_
          refine Vsub [0, 1, 2, 3, 5] rfl ?_
          exact l_X15_says_135 C C2 ih r0 r1 i2 i5 i7 0 h hf
        · replace hf := ifp c15 hf
          refine Vsub [0, 1, 2, 3, 5] rfl ?_
          exact l_X15_says_130 C C2 ih r0 r1 i2 i5 i7 h hf
def f_X15_says_69 (k6 : Nat → Nat → Int32 → Int32 → Int32 → Int32 → Int32 → AH → Option (AH)) (r0 : Nat) (r1 : Nat) (i2 : Int32) (i3 : Int32) (i4 : Int32) (i6 : Int32) (si0 : Int32) (h : AH) : Option (AH) :=
  (gA 12 h r1 3).bind fun a1 =>
  (aI 0 h a1 i2).bind fun x2 =>
  (f_X15_dot r0 (i3 + i6) i4 x2 h).bind fun h3 =>
  k6 r0 r1 i2 i3 i4 si0 (i6 + 1) h3
set_option maxRecDepth 100000 in
set_option maxHeartbeats 4000000 in
theorem l_X15_says_69 {X : MX} {l : Launch} {G : GX} {h0 : AH} {hr : AH} (C : Cx X G RX15 cX15_says 8 none 2 46 h0) (C2 : Cy X l "says" []) {k6 : Nat → Nat → Int32 → Int32 → Int32 → Int32 → Int32 → AH → Option (AH)} (hk6 : ∀ (r0 : Nat) (r1 : Nat) (i2 : Int32) (i3 : Int32) (i4 : Int32) (i5 : Int32) (i6 : Int32) (h : AH), k6 r0 r1 i2 i3 i4 i5 i6 h = some hr → V X G h0 (QV hr) 6 [(0, .ref r0), (1, .ref r1), (2, .int i2), (3, .int i3), (4, .int i4), (5, .int i5), (6, .int i6)] [] h) (r0 : Nat) (r1 : Nat) (i2 : Int32) (i3 : Int32) (i4 : Int32) (i6 : Int32) (si0 : Int32) (h : AH) (hf : f_X15_says_69 k6 r0 r1 i2 i3 i4 i6 si0 h = some hr) : V X G h0 (QV hr) 69 [(0, .ref r0), (1, .ref r1), (2, .int i2), (3, .int i3), (4, .int i4), (6, .int i6)] [.int si0] h := by
  unfold f_X15_says_69 at hf
  refine C.seg (pe := 79) (lv' := [(5, .int si0), (0, .ref r0), (1, .ref r1), (2, .int i2), (3, .int i3), (4, .int i4), (6, .int i6)]) (st' := [.ref r1, .int i4, .int (i3 + i6), .ref r0]) [(.istore 5, 2, 0), (.aload_n 0, 1, 0), (.iload_n 3, 1, 0), (.iload 6, 2, 0), (.iadd, 1, 0), (.iload 4, 2, 0), (.aload_n 1, 1, 0)] (by decide +kernel) rfl ?_
  obtain ⟨a1, ga1, hf⟩ := Option.bind_eq_some_iff.mp hf
  refine C.rdA fr_1720 ga1 (by decide +kernel) rfl ?_
  refine C.seg (pe := 83) (lv' := [(5, .int si0), (0, .ref r0), (1, .ref r1), (2, .int i2), (3, .int i3), (4, .int i4), (6, .int i6)]) (st' := [.int i2, .ref a1, .int i4, .int (i3 + i6), .ref r0]) [(.iload_n 2, 1, 0)] (by decide +kernel) rfl ?_
  obtain ⟨x2, gx2, hf⟩ := Option.bind_eq_some_iff.mp hf
  refine C.ald 0 rfl gx2 (by decide +kernel) rfl ?_
  obtain ⟨h3, gh3, hf⟩ := Option.bind_eq_some_iff.mp hf
  refine C.callVr C2 [.int (i3 + i6), .int i4, .int x2] [] mv_2339 rfl (o_X15_dot gh3) (w_X15_dot gh3) (by omega) (by omega) (Nat.le_of_ble_eq_true rfl) (by decide +kernel) rfl ?_
  refine C.seg (pe := 90) (lv' := [(6, .int (i6 + 1)), (5, .int si0), (0, .ref r0), (1, .ref r1), (2, .int i2), (3, .int i3), (4, .int i4)]) (st' := []) [(.iinc 6 1, 3, 1)] (by decide +kernel) rfl ?_
  refine C.goto (off := (-84)) (tgt := 6) (by decide +kernel) (by decide) ?_
  refine Vsub [2, 3, 4, 5, 6, 1, 0] rfl ?_
  exact hk6 r0 r1 i2 i3 i4 si0 (i6 + 1) h3 hf
def f_X15_says_68 (k6 : Nat → Nat → Int32 → Int32 → Int32 → Int32 → Int32 → AH → Option (AH)) (r0 : Nat) (r1 : Nat) (i2 : Int32) (i3 : Int32) (i4 : Int32) (i6 : Int32) (h : AH) : Option (AH) :=
  f_X15_says_69 k6 r0 r1 i2 i3 i4 i6 0 h
set_option maxRecDepth 100000 in
set_option maxHeartbeats 4000000 in
theorem l_X15_says_68 {X : MX} {l : Launch} {G : GX} {h0 : AH} {hr : AH} (C : Cx X G RX15 cX15_says 8 none 2 46 h0) (C2 : Cy X l "says" []) {k6 : Nat → Nat → Int32 → Int32 → Int32 → Int32 → Int32 → AH → Option (AH)} (hk6 : ∀ (r0 : Nat) (r1 : Nat) (i2 : Int32) (i3 : Int32) (i4 : Int32) (i5 : Int32) (i6 : Int32) (h : AH), k6 r0 r1 i2 i3 i4 i5 i6 h = some hr → V X G h0 (QV hr) 6 [(0, .ref r0), (1, .ref r1), (2, .int i2), (3, .int i3), (4, .int i4), (5, .int i5), (6, .int i6)] [] h) (r0 : Nat) (r1 : Nat) (i2 : Int32) (i3 : Int32) (i4 : Int32) (i6 : Int32) (h : AH) (hf : f_X15_says_68 k6 r0 r1 i2 i3 i4 i6 h = some hr) : V X G h0 (QV hr) 68 [(0, .ref r0), (1, .ref r1), (2, .int i2), (3, .int i3), (4, .int i4), (6, .int i6)] [] h := by
  unfold f_X15_says_68 at hf
  refine C.seg (pe := 69) (lv' := [(0, .ref r0), (1, .ref r1), (2, .int i2), (3, .int i3), (4, .int i4), (6, .int i6)]) (st' := [.int 0]) [(.iconst 0, 1, 0)] (by decide +kernel) rfl ?_
  exact l_X15_says_69 C C2 hk6 r0 r1 i2 i3 i4 i6 0 h hf
def f_X15_says_64 (k6 : Nat → Nat → Int32 → Int32 → Int32 → Int32 → Int32 → AH → Option (AH)) (r0 : Nat) (r1 : Nat) (i2 : Int32) (i3 : Int32) (i4 : Int32) (i6 : Int32) (h : AH) : Option (AH) :=
  f_X15_says_69 k6 r0 r1 i2 i3 i4 i6 1 h
set_option maxRecDepth 100000 in
set_option maxHeartbeats 4000000 in
theorem l_X15_says_64 {X : MX} {l : Launch} {G : GX} {h0 : AH} {hr : AH} (C : Cx X G RX15 cX15_says 8 none 2 46 h0) (C2 : Cy X l "says" []) {k6 : Nat → Nat → Int32 → Int32 → Int32 → Int32 → Int32 → AH → Option (AH)} (hk6 : ∀ (r0 : Nat) (r1 : Nat) (i2 : Int32) (i3 : Int32) (i4 : Int32) (i5 : Int32) (i6 : Int32) (h : AH), k6 r0 r1 i2 i3 i4 i5 i6 h = some hr → V X G h0 (QV hr) 6 [(0, .ref r0), (1, .ref r1), (2, .int i2), (3, .int i3), (4, .int i4), (5, .int i5), (6, .int i6)] [] h) (r0 : Nat) (r1 : Nat) (i2 : Int32) (i3 : Int32) (i4 : Int32) (i6 : Int32) (h : AH) (hf : f_X15_says_64 k6 r0 r1 i2 i3 i4 i6 h = some hr) : V X G h0 (QV hr) 64 [(0, .ref r0), (1, .ref r1), (2, .int i2), (3, .int i3), (4, .int i4), (6, .int i6)] [] h := by
  unfold f_X15_says_64 at hf
  refine C.seg (pe := 65) (lv' := [(0, .ref r0), (1, .ref r1), (2, .int i2), (3, .int i3), (4, .int i4), (6, .int i6)]) (st' := [.int 1]) [(.iconst 1, 1, 1)] (by decide +kernel) rfl ?_
  refine C.goto (off := 4) (tgt := 69) (by decide +kernel) (by decide) ?_
  exact l_X15_says_69 C C2 hk6 r0 r1 i2 i3 i4 i6 1 h hf
def f_X15_says_6 : Nat → Nat → Nat → Int32 → Int32 → Int32 → Int32 → Int32 → AH → Option (AH)
  | 0, _, _, _, _, _, _, _, _ => none
  | n + 1, r0, r1, i2, i3, i4, i5, i6, h =>
    (gA 12 h r1 7).bind fun a1 =>
    (aI 0 h a1 i2).bind fun x2 =>
    if x2 ≤ i6 then
      f_X15_says_99 FU r0 r1 i2 i5 0 0 h
    else
      if i5 = 0 then
        (gA 15 h r0 6).bind fun a3 =>
        (gI 15 h r0 47).bind fun x4 =>
        (aI 0 h a3 x4).bind fun x5 =>
        b2 (f_X15_in (i3 + i6) 0 (x5 - 1) h) fun x6 h7 =>
        if x6 = 0 then
          f_X15_says_68 (f_X15_says_6 n) r0 r1 i2 i3 i4 i6 h7
        else
          (gA 15 h7 r0 7).bind fun a8 =>
          (gI 15 h7 r0 47).bind fun x9 =>
          (aI 0 h7 a8 x9).bind fun x10 =>
          b2 (f_X15_in i4 0 (x10 - 1) h7) fun x11 h12 =>
          if x11 = 0 then
            f_X15_says_68 (f_X15_says_6 n) r0 r1 i2 i3 i4 i6 h12
          else
            f_X15_says_64 (f_X15_says_6 n) r0 r1 i2 i3 i4 i6 h12
      else
        f_X15_says_64 (f_X15_says_6 n) r0 r1 i2 i3 i4 i6 h
set_option maxRecDepth 100000 in
set_option maxHeartbeats 4000000 in
theorem l_X15_says_6 {X : MX} {l : Launch} {G : GX} {h0 : AH} {hr : AH} (C : Cx X G RX15 cX15_says 8 none 2 46 h0) (C2 : Cy X l "says" []) : ∀ (n : Nat) (r0 : Nat) (r1 : Nat) (i2 : Int32) (i3 : Int32) (i4 : Int32) (i5 : Int32) (i6 : Int32) (h : AH), f_X15_says_6 n r0 r1 i2 i3 i4 i5 i6 h = some hr → V X G h0 (QV hr) 6 [(0, .ref r0), (1, .ref r1), (2, .int i2), (3, .int i3), (4, .int i4), (5, .int i5), (6, .int i6)] [] h := by
  intro n
  induction n with
  | zero => intro r0 r1 i2 i3 i4 i5 i6 h hf; rw [f_X15_says_6] at hf; cases hf
  | succ n ih =>
    intro r0 r1 i2 i3 i4 i5 i6 h hf
    rw [f_X15_says_6] at hf
    refine C.seg (pe := 9) (lv' := [(0, .ref r0), (1, .ref r1), (2, .int i2), (3, .int i3), (4, .int i4), (5, .int i5), (6, .int i6)]) (st' := [.ref r1, .int i6]) [(.iload 6, 2, 0), (.aload_n 1, 1, 0)] (by decide +kernel) rfl ?_
    obtain ⟨a1, ga1, hf⟩ := Option.bind_eq_some_iff.mp hf
    refine C.rdA fr_1728 ga1 (by decide +kernel) rfl ?_
    refine C.seg (pe := 13) (lv' := [(0, .ref r0), (1, .ref r1), (2, .int i2), (3, .int i3), (4, .int i4), (5, .int i5), (6, .int i6)]) (st' := [.int i2, .ref a1, .int i6]) [(.iload_n 2, 1, 0)] (by decide +kernel) rfl ?_
    obtain ⟨x2, gx2, hf⟩ := Option.bind_eq_some_iff.mp hf
    refine C.ald 0 rfl gx2 (by decide +kernel) rfl ?_
    refine C.icmp_ge (off := 79) (tgt := 93) (pf := 17) (by decide +kernel) (by decide) rfl (fun c16 => ?_) (fun c16 => ?_)
    · replace hf := ifp c16 hf
      refine C.seg (pe := 99) (lv' := [(7, .int 0), (6, .int 0), (0, .ref r0), (1, .ref r1), (2, .int i2), (3, .int i3), (4, .int i4), (5, .int i5)]) (st' := []) [(.iconst 0, 1, 0), (.istore 6, 2, 0), (.iconst 0, 1, 0), (.istore 7, 2, 0)] (by decide +kernel) rfl ?_
      refine Vsub [2, 3, 4, 7, 1, 0] rfl ?_
      exact l_X15_says_99 C C2 FU r0 r1 i2 i5 0 0 h hf
    · replace hf := ifn c16 hf
      refine C.seg (pe := 19) (lv' := [(0, .ref r0), (1, .ref r1), (2, .int i2), (3, .int i3), (4, .int i4), (5, .int i5), (6, .int i6)]) (st' := [.int i5]) [(.iload 5, 2, 0)] (by decide +kernel) rfl ?_
      refine C.if_ne (off := 45) (tgt := 64) (pf := 22) (by decide +kernel) (by decide) rfl (fun c15 => ?_) (fun c15 => ?_)
      · replace hf := ifn c15 hf
        refine Vsub [0, 1, 2, 3, 4, 6] rfl ?_
        exact l_X15_says_64 C C2 ih r0 r1 i2 i3 i4 i6 h hf
      · replace hf := ifp c15 hf
        refine C.seg (pe := 28) (lv' := [(0, .ref r0), (1, .ref r1), (2, .int i2), (3, .int i3), (4, .int i4), (5, .int i5), (6, .int i6)]) (st' := [.ref r0, .int 0, .int (i3 + i6)]) [(.iload_n 3, 1, 0), (.iload 6, 2, 0), (.iadd, 1, 0), (.iconst 0, 1, 0), (.aload_n 0, 1, 0)] (by decide +kernel) rfl ?_
        obtain ⟨a3, ga3, hf⟩ := Option.bind_eq_some_iff.mp hf
        refine C.rdA fr_1792 ga3 (by decide +kernel) rfl ?_
        refine C.seg (pe := 32) (lv' := [(0, .ref r0), (1, .ref r1), (2, .int i2), (3, .int i3), (4, .int i4), (5, .int i5), (6, .int i6)]) (st' := [.ref r0, .ref a3, .int 0, .int (i3 + i6)]) [(.aload_n 0, 1, 0)] (by decide +kernel) rfl ?_
        obtain ⟨x4, gx4, hf⟩ := Option.bind_eq_some_iff.mp hf
        refine C.rdI fr_1833 gx4 (by decide +kernel) rfl ?_
        obtain ⟨x5, gx5, hf⟩ := Option.bind_eq_some_iff.mp hf
        refine C.ald 0 rfl gx5 (by decide +kernel) rfl ?_
        refine C.seg (pe := 38) (lv' := [(0, .ref r0), (1, .ref r1), (2, .int i2), (3, .int i3), (4, .int i4), (5, .int i5), (6, .int i6)]) (st' := [.int (x5 - 1), .int 0, .int (i3 + i6)]) [(.iconst 1, 1, 1), (.isub, 1, 0)] (by decide +kernel) rfl ?_
        obtain ⟨x6, h7, gx6, hf⟩ := b2_some hf
        refine C.callSr C2 [.int (i3 + i6), .int 0, .int (x5 - 1)] [] ms_2109 rfl (w_X15_in gx6) (by omega) (by omega) (Nat.le_of_ble_eq_true rfl) (by decide +kernel) rfl ?_
        refine C.if_eq (off := 27) (tgt := 68) (pf := 44) (by decide +kernel) (by decide) rfl (fun c14 => ?_) (fun c14 => ?_)
        · replace hf := ifp c14 hf
          refine Vsub [0, 1, 2, 3, 4, 6] rfl ?_
          exact l_X15_says_68 C C2 ih r0 r1 i2 i3 i4 i6 h7 hf
        · replace hf := ifn c14 hf
          refine C.seg (pe := 48) (lv' := [(0, .ref r0), (1, .ref r1), (2, .int i2), (3, .int i3), (4, .int i4), (5, .int i5), (6, .int i6)]) (st' := [.ref r0, .int 0, .int i4]) [(.iload 4, 2, 0), (.iconst 0, 1, 0), (.aload_n 0, 1, 0)] (by decide +kernel) rfl ?_
          obtain ⟨a8, ga8, hf⟩ := Option.bind_eq_some_iff.mp hf
          refine C.rdA fr_1793 ga8 (by decide +kernel) rfl ?_
          refine C.seg (pe := 52) (lv' := [(0, .ref r0), (1, .ref r1), (2, .int i2), (3, .int i3), (4, .int i4), (5, .int i5), (6, .int i6)]) (st' := [.ref r0, .ref a8, .int 0, .int i4]) [(.aload_n 0, 1, 0)] (by decide +kernel) rfl ?_
          obtain ⟨x9, gx9, hf⟩ := Option.bind_eq_some_iff.mp hf
          refine C.rdI fr_1833 gx9 (by decide +kernel) rfl ?_
          obtain ⟨x10, gx10, hf⟩ := Option.bind_eq_some_iff.mp hf
          refine C.ald 0 rfl gx10 (by decide +kernel) rfl ?_
          refine C.seg (pe := 58) (lv' := [(0, .ref r0), (1, .ref r1), (2, .int i2), (3, .int i3), (4, .int i4), (5, .int i5), (6, .int i6)]) (st' := [.int (x10 - 1), .int 0, .int i4]) [(.iconst 1, 1, 1), (.isub, 1, 0)] (by decide +kernel) rfl ?_
          obtain ⟨x11, h12, gx11, hf⟩ := b2_some hf
          refine C.callSr C2 [.int i4, .int 0, .int (x10 - 1)] [] ms_2109 rfl (w_X15_in gx11) (by omega) (by omega) (Nat.le_of_ble_eq_true rfl) (by decide +kernel) rfl ?_
          refine C.if_eq (off := 7) (tgt := 68) (pf := 64) (by decide +kernel) (by decide) rfl (fun c13 => ?_) (fun c13 => ?_)
          · replace hf := ifp c13 hf
            refine Vsub [0, 1, 2, 3, 4, 6] rfl ?_
            exact l_X15_says_68 C C2 ih r0 r1 i2 i3 i4 i6 h12 hf
          · replace hf := ifn c13 hf
            refine Vsub [0, 1, 2, 3, 4, 6] rfl ?_
            exact l_X15_says_64 C C2 ih r0 r1 i2 i3 i4 i6 h12 hf
def f_X15_says (a0 : Nat) (p1 : Nat) (p2 : Int32) (p3 : Int32) (p4 : Int32) (h : AH) : Option (AH) :=
  if isO 15 h a0 = true then
    f_X15_says_6 FU a0 p1 p2 p3 p4 0 0 h
  else none
set_option maxRecDepth 100000 in
set_option maxHeartbeats 4000000 in
theorem w_X15_says {l : Launch} {G : GX} {a0 : Nat} {p1 : Nat} {p2 : Int32} {p3 : Int32} {p4 : Int32} {h : AH} {hr : AH} (hf : f_X15_says a0 p1 p2 p3 p4 h = some hr) : Ct l G yX15_says 2 46 [.ref a0, .ref p1, .int p2, .int p3, .int p4] h (QV hr) := by
  unfold f_X15_says at hf
  obtain ⟨ho, hf⟩ := ifO hf
  refine Ct_of (own := RX15) (cc := cX15_says) (nL := 8) (ret := none) rfl rfl k_2350 (Nat.le_of_ble_eq_true rfl) (fun X C2 C => ?_)
  show V X G h (QV hr) 0 [(0, .ref a0), (1, .ref p1), (2, .int p2), (3, .int p3), (4, .int p4)] [] h
  refine C.seg (pe := 6) (lv' := [(6, .int 0), (5, .int 0), (0, .ref a0), (1, .ref p1), (2, .int p2), (3, .int p3), (4, .int p4)]) (st' := []) [(.iconst 0, 1, 0), (.istore 5, 2, 0), (.iconst 0, 1, 0), (.istore 6, 2, 0)] (by decide +kernel) rfl ?_
  refine Vsub [2, 3, 4, 5, 6, 1, 0] rfl ?_
  exact l_X15_says_6 C C2 FU a0 p1 p2 p3 p4 0 0 h hf
theorem o_X15_says {a0 : Nat} {p1 : Nat} {p2 : Int32} {p3 : Int32} {p4 : Int32} {h : AH} {hr : AH} (hf : f_X15_says a0 p1 p2 p3 p4 h = some hr) : isO 15 h a0 = true := by
  unfold f_X15_says at hf
  exact (ifO hf).1
/-! WallHouseModel.paints(LWallHouseModel$Drawing;II)V -/
def f_X15_paints_307 (kX : Nat → Nat → Int32 → Int32 → AH → Option (AH)) (h : AH) : Option (AH) :=
  some h
set_option maxRecDepth 100000 in
set_option maxHeartbeats 4000000 in
theorem l_X15_paints_307 {X : MX} {l : Launch} {G : GX} {h0 : AH} {fT lT : Nat} {hr : AH} (C : Cx X G RX15 cX15_paints 8 none (fT + 20) (lT + 400) h0) (C2 : Cy X l "paints" []) {kX : Nat → Nat → Int32 → Int32 → AH → Option (AH)} (hfT : 200 ≤ fT) (hlT : 4000 ≤ lT) (hkX : ∀ (b0 : Nat) (b1 : Nat) (b2 : Int32) (b3 : Int32) (h : AH) (hr : AH), kX b0 b1 b2 b3 h = some hr → Ct l G yX15_paints fT lT [.ref b0, .ref b1, .int b2, .int b3] h (QV hr)) (hoX : ∀ (b0 : Nat) (b1 : Nat) (b2 : Int32) (b3 : Int32) (h : AH) (hr : AH), kX b0 b1 b2 b3 h = some hr → isO 15 h b0 = true) (h : AH) (hf : f_X15_paints_307 kX h = some hr) : V X G h0 (QV hr) 307 [] [] h := by
  unfold f_X15_paints_307 at hf
  cases hf
  exact C.retV rfl (by decide +kernel) ⟨rfl, rfl⟩
def f_X15_paints_295 (kX : Nat → Nat → Int32 → Int32 → AH → Option (AH)) (k3 : Nat → Nat → Int32 → Int32 → AH → Option (AH)) (r0 : Nat) (r1 : Nat) (i3 : Int32) (i4 : Int32) (h : AH) : Option (AH) :=
  (gA 12 h r1 6).bind fun a1 =>
  (aI 0 h a1 i4).bind fun x2 =>
  k3 r0 r1 i3 x2 h
set_option maxRecDepth 100000 in
set_option maxHeartbeats 4000000 in
theorem l_X15_paints_295 {X : MX} {l : Launch} {G : GX} {h0 : AH} {fT lT : Nat} {hr : AH} (C : Cx X G RX15 cX15_paints 8 none (fT + 20) (lT + 400) h0) (C2 : Cy X l "paints" []) {kX : Nat → Nat → Int32 → Int32 → AH → Option (AH)} (hfT : 200 ≤ fT) (hlT : 4000 ≤ lT) (hkX : ∀ (b0 : Nat) (b1 : Nat) (b2 : Int32) (b3 : Int32) (h : AH) (hr : AH), kX b0 b1 b2 b3 h = some hr → Ct l G yX15_paints fT lT [.ref b0, .ref b1, .int b2, .int b3] h (QV hr)) (hoX : ∀ (b0 : Nat) (b1 : Nat) (b2 : Int32) (b3 : Int32) (h : AH) (hr : AH), kX b0 b1 b2 b3 h = some hr → isO 15 h b0 = true) {k3 : Nat → Nat → Int32 → Int32 → AH → Option (AH)} (hk3 : ∀ (r0 : Nat) (r1 : Nat) (i3 : Int32) (i4 : Int32) (h : AH), k3 r0 r1 i3 i4 h = some hr → V X G h0 (QV hr) 3 [(0, .ref r0), (1, .ref r1), (3, .int i3), (4, .int i4)] [] h) (r0 : Nat) (r1 : Nat) (i3 : Int32) (i4 : Int32) (h : AH) (hf : f_X15_paints_295 kX k3 r0 r1 i3 i4 h = some hr) : V X G h0 (QV hr) 295 [(0, .ref r0), (1, .ref r1), (3, .int i3), (4, .int i4)] [] h := by
  unfold f_X15_paints_295 at hf
  refine C.seg (pe := 296) (lv' := [(0, .ref r0), (1, .ref r1), (3, .int i3), (4, .int i4)]) (st' := [.ref r1]) [(.aload_n 1, 1, 0)] (by decide +kernel) rfl ?_
  obtain ⟨a1, ga1, hf⟩ := Option.bind_eq_some_iff.mp hf
  refine C.rdA fr_1726 ga1 (by decide +kernel) rfl ?_
  refine C.seg (pe := 301) (lv' := [(0, .ref r0), (1, .ref r1), (3, .int i3), (4, .int i4)]) (st' := [.int i4, .ref a1]) [(.iload 4, 2, 0)] (by decide +kernel) rfl ?_
  obtain ⟨x2, gx2, hf⟩ := Option.bind_eq_some_iff.mp hf
  refine C.ald 0 rfl gx2 (by decide +kernel) rfl ?_
  refine C.seg (pe := 304) (lv' := [(4, .int x2), (0, .ref r0), (1, .ref r1), (3, .int i3)]) (st' := []) [(.istore 4, 2, 0)] (by decide +kernel) rfl ?_
  refine C.goto (off := (-301)) (tgt := 3) (by decide +kernel) (by decide) ?_
  refine Vsub [1, 2, 3, 0] rfl ?_
  exact hk3 r0 r1 i3 x2 h hf
def f_X15_paints_279 (kX : Nat → Nat → Int32 → Int32 → AH → Option (AH)) (k3 : Nat → Nat → Int32 → Int32 → AH → Option (AH)) (r0 : Nat) (r1 : Nat) (i3 : Int32) (i4 : Int32) (h : AH) : Option (AH) :=
  (gA 12 h r1 6).bind fun a1 =>
  (aI 0 h a1 i4).bind fun x2 =>
  (kX r0 r1 (i4 + 1) x2 h).bind fun h3 =>
  f_X15_paints_295 kX k3 r0 r1 i3 i4 h3
set_option maxRecDepth 100000 in
set_option maxHeartbeats 4000000 in
theorem l_X15_paints_279 {X : MX} {l : Launch} {G : GX} {h0 : AH} {fT lT : Nat} {hr : AH} (C : Cx X G RX15 cX15_paints 8 none (fT + 20) (lT + 400) h0) (C2 : Cy X l "paints" []) {kX : Nat → Nat → Int32 → Int32 → AH → Option (AH)} (hfT : 200 ≤ fT) (hlT : 4000 ≤ lT) (hkX : ∀ (b0 : Nat) (b1 : Nat) (b2 : Int32) (b3 : Int32) (h : AH) (hr : AH), kX b0 b1 b2 b3 h = some hr → Ct l G yX15_paints fT lT [.ref b0, .ref b1, .int b2, .int b3] h (QV hr)) (hoX : ∀ (b0 : Nat) (b1 : Nat) (b2 : Int32) (b3 : Int32) (h : AH) (hr : AH), kX b0 b1 b2 b3 h = some hr → isO 15 h b0 = true) {k3 : Nat → Nat → Int32 → Int32 → AH → Option (AH)} (hk3 : ∀ (r0 : Nat) (r1 : Nat) (i3 : Int32) (i4 : Int32) (h : AH), k3 r0 r1 i3 i4 h = some hr → V X G h0 (QV hr) 3 [(0, .ref r0), (1, .ref r1), (3, .int i3), (4, .int i4)] [] h) (r0 : Nat) (r1 : Nat) (i3 : Int32) (i4 : Int32) (h : AH) (hf : f_X15_paints_279 kX k3 r0 r1 i3 i4 h = some hr) : V X G h0 (QV hr) 279 [(0, .ref r0), (1, .ref r1), (3, .int i3), (4, .int i4)] [] h := by
  unfold f_X15_paints_279 at hf
  refine C.seg (pe := 286) (lv' := [(0, .ref r0), (1, .ref r1), (3, .int i3), (4, .int i4)]) (st' := [.ref r1, .int (i4 + 1), .ref r1, .ref r0]) [(.aload_n 0, 1, 0), (.aload_n 1, 1, 0), (.iload 4, 2, 0), (.iconst 1, 1, 1), (.iadd, 1, 0), (.aload_n 1, 1, 0)] (by decide +kernel) rfl ?_
  obtain ⟨a1, ga1, hf⟩ := Option.bind_eq_some_iff.mp hf
  refine C.rdA fr_1726 ga1 (by decide +kernel) rfl ?_
  refine C.seg (pe := 291) (lv' := [(0, .ref r0), (1, .ref r1), (3, .int i3), (4, .int i4)]) (st' := [.int i4, .ref a1, .int (i4 + 1), .ref r1, .ref r0]) [(.iload 4, 2, 0)] (by decide +kernel) rfl ?_
  obtain ⟨x2, gx2, hf⟩ := Option.bind_eq_some_iff.mp hf
  refine C.ald 0 rfl gx2 (by decide +kernel) rfl ?_
  obtain ⟨h3, gh3, hf⟩ := Option.bind_eq_some_iff.mp hf
  refine C.callVr C2 [.ref r1, .int (i4 + 1), .int x2] [] mv_2323 rfl (hoX _ _ _ _ _ _ gh3) (hkX _ _ _ _ _ _ gh3) (by omega) (by omega) (Nat.le_of_ble_eq_true rfl) (by decide +kernel) rfl ?_
  exact l_X15_paints_295 C C2 hfT hlT hkX hoX hk3 r0 r1 i3 i4 h3 hf
def f_X15_paints_228 (kX : Nat → Nat → Int32 → Int32 → AH → Option (AH)) (k3 : Nat → Nat → Int32 → Int32 → AH → Option (AH)) (r0 : Nat) (r1 : Nat) (i3 : Int32) (i4 : Int32) (h : AH) : Option (AH) :=
  f_X15_paints_295 kX k3 r0 r1 i3 i4 h
set_option maxRecDepth 100000 in
set_option maxHeartbeats 4000000 in
theorem l_X15_paints_228 {X : MX} {l : Launch} {G : GX} {h0 : AH} {fT lT : Nat} {hr : AH} (C : Cx X G RX15 cX15_paints 8 none (fT + 20) (lT + 400) h0) (C2 : Cy X l "paints" []) {kX : Nat → Nat → Int32 → Int32 → AH → Option (AH)} (hfT : 200 ≤ fT) (hlT : 4000 ≤ lT) (hkX : ∀ (b0 : Nat) (b1 : Nat) (b2 : Int32) (b3 : Int32) (h : AH) (hr : AH), kX b0 b1 b2 b3 h = some hr → Ct l G yX15_paints fT lT [.ref b0, .ref b1, .int b2, .int b3] h (QV hr)) (hoX : ∀ (b0 : Nat) (b1 : Nat) (b2 : Int32) (b3 : Int32) (h : AH) (hr : AH), kX b0 b1 b2 b3 h = some hr → isO 15 h b0 = true) {k3 : Nat → Nat → Int32 → Int32 → AH → Option (AH)} (hk3 : ∀ (r0 : Nat) (r1 : Nat) (i3 : Int32) (i4 : Int32) (h : AH), k3 r0 r1 i3 i4 h = some hr → V X G h0 (QV hr) 3 [(0, .ref r0), (1, .ref r1), (3, .int i3), (4, .int i4)] [] h) (r0 : Nat) (r1 : Nat) (i3 : Int32) (i4 : Int32) (h : AH) (hf : f_X15_paints_228 kX k3 r0 r1 i3 i4 h = some hr) : V X G h0 (QV hr) 228 [(0, .ref r0), (1, .ref r1), (3, .int i3), (4, .int i4)] [] h := by
  unfold f_X15_paints_228 at hf
  refine C.goto (off := 67) (tgt := 295) (by decide +kernel) (by decide) ?_
  exact l_X15_paints_295 C C2 hfT hlT hkX hoX hk3 r0 r1 i3 i4 h hf
def f_X15_paints_178 (kX : Nat → Nat → Int32 → Int32 → AH → Option (AH)) (k3 : Nat → Nat → Int32 → Int32 → AH → Option (AH)) : Nat → Nat → Nat → Int32 → Int32 → Int32 → Int32 → AH → Option (AH)
  | 0, _, _, _, _, _, _, _ => none
  | n + 1, r0, r1, i3, i4, i6, i7, h =>
    if i6 < i7 then
      f_X15_paints_228 kX k3 r0 r1 i3 i4 h
    else
      (gI 15 h r0 50).bind fun x1 =>
      if x1 = 0 then
        (gA 15 h r0 44).bind fun a2 =>
        (gA 12 h r1 4).bind fun a3 =>
        (aI 0 h a3 i4).bind fun x4 =>
        (sI 0 h a2 x4 i7).bind fun h5 =>
        (gA 12 h5 r1 6).bind fun a6 =>
        (aI 0 h5 a6 i4).bind fun x7 =>
        (kX r0 r1 (i4 + 1) x7 h5).bind fun h8 =>
        (f_X15_paints_178 kX k3 n) r0 r1 i3 i4 i6 (i7 + 1) h8
      else
        f_X15_paints_228 kX k3 r0 r1 i3 i4 h
set_option maxRecDepth 100000 in
set_option maxHeartbeats 4000000 in
theorem l_X15_paints_178 {X : MX} {l : Launch} {G : GX} {h0 : AH} {fT lT : Nat} {hr : AH} (C : Cx X G RX15 cX15_paints 8 none (fT + 20) (lT + 400) h0) (C2 : Cy X l "paints" []) {kX : Nat → Nat → Int32 → Int32 → AH → Option (AH)} (hfT : 200 ≤ fT) (hlT : 4000 ≤ lT) (hkX : ∀ (b0 : Nat) (b1 : Nat) (b2 : Int32) (b3 : Int32) (h : AH) (hr : AH), kX b0 b1 b2 b3 h = some hr → Ct l G yX15_paints fT lT [.ref b0, .ref b1, .int b2, .int b3] h (QV hr)) (hoX : ∀ (b0 : Nat) (b1 : Nat) (b2 : Int32) (b3 : Int32) (h : AH) (hr : AH), kX b0 b1 b2 b3 h = some hr → isO 15 h b0 = true) {k3 : Nat → Nat → Int32 → Int32 → AH → Option (AH)} (hk3 : ∀ (r0 : Nat) (r1 : Nat) (i3 : Int32) (i4 : Int32) (h : AH), k3 r0 r1 i3 i4 h = some hr → V X G h0 (QV hr) 3 [(0, .ref r0), (1, .ref r1), (3, .int i3), (4, .int i4)] [] h) : ∀ (n : Nat) (r0 : Nat) (r1 : Nat) (i3 : Int32) (i4 : Int32) (i6 : Int32) (i7 : Int32) (h : AH), f_X15_paints_178 kX k3 n r0 r1 i3 i4 i6 i7 h = some hr → V X G h0 (QV hr) 178 [(0, .ref r0), (1, .ref r1), (3, .int i3), (4, .int i4), (6, .int i6), (7, .int i7)] [] h := by
  intro n
  induction n with
  | zero => intro r0 r1 i3 i4 i6 i7 h hf; rw [f_X15_paints_178] at hf; cases hf
  | succ n ih =>
    intro r0 r1 i3 i4 i6 i7 h hf
    rw [f_X15_paints_178] at hf
    refine C.seg (pe := 182) (lv' := [(0, .ref r0), (1, .ref r1), (3, .int i3), (4, .int i4), (6, .int i6), (7, .int i7)]) (st' := [.int i6, .int i7]) [(.iload 7, 2, 0), (.iload 6, 2, 0)] (by decide +kernel) rfl ?_
    refine C.icmp_gt (off := 46) (tgt := 228) (pf := 185) (by decide +kernel) (by decide) rfl (fun c10 => ?_) (fun c10 => ?_)
    · replace hf := ifp c10 hf
      refine Vsub [0, 1, 2, 3] rfl ?_
      exact l_X15_paints_228 C C2 hfT hlT hkX hoX hk3 r0 r1 i3 i4 h hf
    · replace hf := ifn c10 hf
      refine C.seg (pe := 186) (lv' := [(0, .ref r0), (1, .ref r1), (3, .int i3), (4, .int i4), (6, .int i6), (7, .int i7)]) (st' := [.ref r0]) [(.aload_n 0, 1, 0)] (by decide +kernel) rfl ?_
      obtain ⟨x1, gx1, hf⟩ := Option.bind_eq_some_iff.mp hf
      refine C.rdI fr_1836 gx1 (by decide +kernel) rfl ?_
      refine C.if_ne (off := 39) (tgt := 228) (pf := 192) (by decide +kernel) (by decide) rfl (fun c9 => ?_) (fun c9 => ?_)
      · replace hf := ifn c9 hf
        refine Vsub [0, 1, 2, 3] rfl ?_
        exact l_X15_paints_228 C C2 hfT hlT hkX hoX hk3 r0 r1 i3 i4 h hf
      · replace hf := ifp c9 hf
        refine C.seg (pe := 193) (lv' := [(0, .ref r0), (1, .ref r1), (3, .int i3), (4, .int i4), (6, .int i6), (7, .int i7)]) (st' := [.ref r0]) [(.aload_n 0, 1, 0)] (by decide +kernel) rfl ?_
        obtain ⟨a2, ga2, hf⟩ := Option.bind_eq_some_iff.mp hf
        refine C.rdA fr_1830 ga2 (by decide +kernel) rfl ?_
        refine C.seg (pe := 197) (lv' := [(0, .ref r0), (1, .ref r1), (3, .int i3), (4, .int i4), (6, .int i6), (7, .int i7)]) (st' := [.ref r1, .ref a2]) [(.aload_n 1, 1, 0)] (by decide +kernel) rfl ?_
        obtain ⟨a3, ga3, hf⟩ := Option.bind_eq_some_iff.mp hf
        refine C.rdA fr_1722 ga3 (by decide +kernel) rfl ?_
        refine C.seg (pe := 202) (lv' := [(0, .ref r0), (1, .ref r1), (3, .int i3), (4, .int i4), (6, .int i6), (7, .int i7)]) (st' := [.int i4, .ref a3, .ref a2]) [(.iload 4, 2, 0)] (by decide +kernel) rfl ?_
        obtain ⟨x4, gx4, hf⟩ := Option.bind_eq_some_iff.mp hf
        refine C.ald 0 rfl gx4 (by decide +kernel) rfl ?_
        refine C.seg (pe := 205) (lv' := [(0, .ref r0), (1, .ref r1), (3, .int i3), (4, .int i4), (6, .int i6), (7, .int i7)]) (st' := [.int i7, .int x4, .ref a2]) [(.iload 7, 2, 0)] (by decide +kernel) rfl ?_
        obtain ⟨h5, gh5, hf⟩ := Option.bind_eq_some_iff.mp hf
        refine C.ast gh5 (by decide +kernel) rfl ?_
        refine C.seg (pe := 213) (lv' := [(0, .ref r0), (1, .ref r1), (3, .int i3), (4, .int i4), (6, .int i6), (7, .int i7)]) (st' := [.ref r1, .int (i4 + 1), .ref r1, .ref r0]) [(.aload_n 0, 1, 0), (.aload_n 1, 1, 0), (.iload 4, 2, 0), (.iconst 1, 1, 1), (.iadd, 1, 0), (.aload_n 1, 1, 0)] (by decide +kernel) rfl ?_
        obtain ⟨a6, ga6, hf⟩ := Option.bind_eq_some_iff.mp hf
        refine C.rdA fr_1726 ga6 (by decide +kernel) rfl ?_
        refine C.seg (pe := 218) (lv' := [(0, .ref r0), (1, .ref r1), (3, .int i3), (4, .int i4), (6, .int i6), (7, .int i7)]) (st' := [.int i4, .ref a6, .int (i4 + 1), .ref r1, .ref r0]) [(.iload 4, 2, 0)] (by decide +kernel) rfl ?_
        obtain ⟨x7, gx7, hf⟩ := Option.bind_eq_some_iff.mp hf
        refine C.ald 0 rfl gx7 (by decide +kernel) rfl ?_
        obtain ⟨h8, gh8, hf⟩ := Option.bind_eq_some_iff.mp hf
        refine C.callVr C2 [.ref r1, .int (i4 + 1), .int x7] [] mv_2323 rfl (hoX _ _ _ _ _ _ gh8) (hkX _ _ _ _ _ _ gh8) (by omega) (by omega) (Nat.le_of_ble_eq_true rfl) (by decide +kernel) rfl ?_
        refine C.seg (pe := 225) (lv' := [(7, .int (i7 + 1)), (0, .ref r0), (1, .ref r1), (3, .int i3), (4, .int i4), (6, .int i6)]) (st' := []) [(.iinc 7 1, 3, 1)] (by decide +kernel) rfl ?_
        refine C.goto (off := (-47)) (tgt := 178) (by decide +kernel) (by decide) ?_
        refine Vsub [1, 2, 3, 4, 5, 0] rfl ?_
        exact ih r0 r1 i3 i4 i6 (i7 + 1) h8 hf
def f_X15_paints_3 (kX : Nat → Nat → Int32 → Int32 → AH → Option (AH)) : Nat → Nat → Nat → Int32 → Int32 → AH → Option (AH)
  | 0, _, _, _, _, _ => none
  | n + 1, r0, r1, i3, i4, h =>
    if i3 ≤ i4 then
      f_X15_paints_307 kX h
    else
      (gI 15 h r0 50).bind fun x1 =>
      if x1 = 0 then
        (gI 15 h r0 48).bind fun x2 =>
        if x2 = 1500 then
          (pZ 15 h r0 50 1).bind fun h37 =>
          some h37
        else
          (gI 15 h r0 48).bind fun x3 =>
          (pI 15 h r0 48 (x3 + 1)).bind fun h4 =>
          b2 (f_X15_valueOf r0 r1 i4 0 h4) fun x5 h6 =>
          b2 (f_X15_valueOf r0 r1 i4 1 h6) fun x7 h8 =>
          (gA 12 h8 r1 2).bind fun a9 =>
          (aI 0 h8 a9 i4).bind fun x10 =>
          if x10 = 0 then
            (gA 12 h8 r1 3).bind fun a24 =>
            (aI 0 h8 a24 i4).bind fun x25 =>
            b2 (f_X15_valueOf r0 r1 i4 2 h8) fun x26 h27 =>
            b2 (f_X15_valueOf r0 r1 i4 3 h27) fun x28 h29 =>
            (f_X15_rect r0 x25 x5 x7 x26 x28 h29).bind fun h30 =>
            f_X15_paints_295 kX (f_X15_paints_3 kX n) r0 r1 i3 i4 h30
          else
            if x10 = 1 then
              (gA 12 h8 r1 3).bind fun a31 =>
              (aI 0 h8 a31 i4).bind fun x32 =>
              b2 (f_X15_valueOf r0 r1 i4 2 h8) fun x33 h34 =>
              (f_X15_disc r0 x32 x5 x7 x33 h34).bind fun h35 =>
              f_X15_paints_295 kX (f_X15_paints_3 kX n) r0 r1 i3 i4 h35
            else
              if x10 = 2 then
                (f_X15_says r0 r1 i4 x5 x7 h8).bind fun h36 =>
                f_X15_paints_295 kX (f_X15_paints_3 kX n) r0 r1 i3 i4 h36
              else
                if x10 = 3 then
                  f_X15_paints_178 kX (f_X15_paints_3 kX n) FU r0 r1 i3 i4 x7 x5 h8
                else
                  (gA 12 h8 r1 5).bind fun a11 =>
                  (aI 0 h8 a11 i4).bind fun x12 =>
                  if x12 = 0 then
                    if x7 ≤ x5 then
                      f_X15_paints_295 kX (f_X15_paints_3 kX n) r0 r1 i3 i4 h8
                    else
                      f_X15_paints_279 kX (f_X15_paints_3 kX n) r0 r1 i3 i4 h8
                  else
                    (gA 12 h8 r1 5).bind fun a13 =>
                    (aI 0 h8 a13 i4).bind fun x14 =>
                    if x14 = 1 then
                      if x5 = x7 then
                        f_X15_paints_279 kX (f_X15_paints_3 kX n) r0 r1 i3 i4 h8
                      else
                        f_X15_paints_295 kX (f_X15_paints_3 kX n) r0 r1 i3 i4 h8
                    else
                      if x5 ≤ x7 then
                        f_X15_paints_295 kX (f_X15_paints_3 kX n) r0 r1 i3 i4 h8
                      else
                        f_X15_paints_279 kX (f_X15_paints_3 kX n) r0 r1 i3 i4 h8
      else
        f_X15_paints_307 kX h
set_option maxRecDepth 100000 in
set_option maxHeartbeats 4000000 in
theorem l_X15_paints_3 {X : MX} {l : Launch} {G : GX} {h0 : AH} {fT lT : Nat} {hr : AH} (C : Cx X G RX15 cX15_paints 8 none (fT + 20) (lT + 400) h0) (C2 : Cy X l "paints" []) {kX : Nat → Nat → Int32 → Int32 → AH → Option (AH)} (hfT : 200 ≤ fT) (hlT : 4000 ≤ lT) (hkX : ∀ (b0 : Nat) (b1 : Nat) (b2 : Int32) (b3 : Int32) (h : AH) (hr : AH), kX b0 b1 b2 b3 h = some hr → Ct l G yX15_paints fT lT [.ref b0, .ref b1, .int b2, .int b3] h (QV hr)) (hoX : ∀ (b0 : Nat) (b1 : Nat) (b2 : Int32) (b3 : Int32) (h : AH) (hr : AH), kX b0 b1 b2 b3 h = some hr → isO 15 h b0 = true) : ∀ (n : Nat) (r0 : Nat) (r1 : Nat) (i3 : Int32) (i4 : Int32) (h : AH), f_X15_paints_3 kX n r0 r1 i3 i4 h = some hr → V X G h0 (QV hr) 3 [(0, .ref r0), (1, .ref r1), (3, .int i3), (4, .int i4)] [] h := by
  intro n
  induction n with
  | zero => intro r0 r1 i3 i4 h hf; rw [f_X15_paints_3] at hf; cases hf
  | succ n ih =>
    intro r0 r1 i3 i4 h hf
    rw [f_X15_paints_3] at hf
    refine C.seg (pe := 6) (lv' := [(0, .ref r0), (1, .ref r1), (3, .int i3), (4, .int i4)]) (st' := [.int i3, .int i4]) [(.iload 4, 2, 0), (.iload_n 3, 1, 0)] (by decide +kernel) rfl ?_
    refine C.icmp_ge (off := 301) (tgt := 307) (pf := 9) (by decide +kernel) (by decide) rfl (fun c40 => ?_) (fun c40 => ?_)
    · replace hf := ifp c40 hf
      refine Vsub [] rfl ?_
      exact l_X15_paints_307 C C2 hfT hlT hkX hoX h hf
    · replace hf := ifn c40 hf
      refine C.seg (pe := 10) (lv' := [(0, .ref r0), (1, .ref r1), (3, .int i3), (4, .int i4)]) (st' := [.ref r0]) [(.aload_n 0, 1, 0)] (by decide +kernel) rfl ?_
      obtain ⟨x1, gx1, hf⟩ := Option.bind_eq_some_iff.mp hf
      refine C.rdI fr_1836 gx1 (by decide +kernel) rfl ?_
      refine C.if_ne (off := 294) (tgt := 307) (pf := 16) (by decide +kernel) (by decide) rfl (fun c39 => ?_) (fun c39 => ?_)
      · replace hf := ifn c39 hf
        refine Vsub [] rfl ?_
        exact l_X15_paints_307 C C2 hfT hlT hkX hoX h hf
      · replace hf := ifp c39 hf
        refine C.seg (pe := 17) (lv' := [(0, .ref r0), (1, .ref r1), (3, .int i3), (4, .int i4)]) (st' := [.ref r0]) [(.aload_n 0, 1, 0)] (by decide +kernel) rfl ?_
        obtain ⟨x2, gx2, hf⟩ := Option.bind_eq_some_iff.mp hf
        refine C.rdI fr_1834 gx2 (by decide +kernel) rfl ?_
        refine C.seg (pe := 23) (lv' := [(0, .ref r0), (1, .ref r1), (3, .int i3), (4, .int i4)]) (st' := [.int 1500, .int x2]) [(.sipush 1500, 3, 1500)] (by decide +kernel) rfl ?_
        refine C.icmp_ne (off := 9) (tgt := 32) (pf := 26) (by decide +kernel) (by decide) rfl (fun c38 => ?_) (fun c38 => ?_)
        · replace hf := ifn c38 hf
          refine C.seg (pe := 34) (lv' := [(0, .ref r0), (1, .ref r1), (3, .int i3), (4, .int i4)]) (st' := [.ref r0, .ref r0]) [(.aload_n 0, 1, 0), (.dup, 1, 0)] (by decide +kernel) rfl ?_
          obtain ⟨x3, gx3, hf⟩ := Option.bind_eq_some_iff.mp hf
          refine C.rdI fr_1834 gx3 (by decide +kernel) rfl ?_
          refine C.seg (pe := 39) (lv' := [(0, .ref r0), (1, .ref r1), (3, .int i3), (4, .int i4)]) (st' := [.int (x3 + 1), .ref r0]) [(.iconst 1, 1, 1), (.iadd, 1, 0)] (by decide +kernel) rfl ?_
          obtain ⟨h4, gh4, hf⟩ := Option.bind_eq_some_iff.mp hf
          refine C.putI fl_1834 gh4 (by decide +kernel) rfl ?_
          refine C.seg (pe := 47) (lv' := [(0, .ref r0), (1, .ref r1), (3, .int i3), (4, .int i4)]) (st' := [.int 0, .int i4, .ref r1, .ref r0]) [(.aload_n 0, 1, 0), (.aload_n 1, 1, 0), (.iload 4, 2, 0), (.iconst 0, 1, 0)] (by decide +kernel) rfl ?_
          obtain ⟨x5, h6, gx5, hf⟩ := b2_some hf
          refine C.callVr C2 [.ref r1, .int i4, .int 0] [] mv_2327 rfl (o_X15_valueOf gx5) (w_X15_valueOf gx5) (by omega) (by omega) (Nat.le_of_ble_eq_true rfl) (by decide +kernel) rfl ?_
          refine C.seg (pe := 57) (lv' := [(5, .int x5), (0, .ref r0), (1, .ref r1), (3, .int i3), (4, .int i4)]) (st' := [.int 1, .int i4, .ref r1, .ref r0]) [(.istore 5, 2, 0), (.aload_n 0, 1, 0), (.aload_n 1, 1, 0), (.iload 4, 2, 0), (.iconst 1, 1, 1)] (by decide +kernel) rfl ?_
          obtain ⟨x7, h8, gx7, hf⟩ := b2_some hf
          refine C.callVr C2 [.ref r1, .int i4, .int 1] [] mv_2327 rfl (o_X15_valueOf gx7) (w_X15_valueOf gx7) (by omega) (by omega) (Nat.le_of_ble_eq_true rfl) (by decide +kernel) rfl ?_
          refine C.seg (pe := 63) (lv' := [(6, .int x7), (5, .int x5), (0, .ref r0), (1, .ref r1), (3, .int i3), (4, .int i4)]) (st' := [.ref r1]) [(.istore 6, 2, 0), (.aload_n 1, 1, 0)] (by decide +kernel) rfl ?_
          obtain ⟨a9, ga9, hf⟩ := Option.bind_eq_some_iff.mp hf
          refine C.rdA fr_1718 ga9 (by decide +kernel) rfl ?_
          refine C.seg (pe := 68) (lv' := [(6, .int x7), (5, .int x5), (0, .ref r0), (1, .ref r1), (3, .int i3), (4, .int i4)]) (st' := [.int i4, .ref a9]) [(.iload 4, 2, 0)] (by decide +kernel) rfl ?_
          obtain ⟨x10, gx10, hf⟩ := Option.bind_eq_some_iff.mp hf
          refine C.ald 0 rfl gx10 (by decide +kernel) rfl ?_
          by_cases c20 : x10 = 0
          · replace hf := ifp c20 hf
            refine C.tsIn (len := 31) (dflt := 162) (a := 0) (b := 3) (offs := #[31, 65, 91, 105]) (k := 0) (off := 31) (tgt := 100) c20 (by decide +kernel) (by decide) (by decide) rfl (by decide) ?_
            refine C.seg (pe := 102) (lv' := [(6, .int x7), (5, .int x5), (0, .ref r0), (1, .ref r1), (3, .int i3), (4, .int i4)]) (st' := [.ref r1, .ref r0]) [(.aload_n 0, 1, 0), (.aload_n 1, 1, 0)] (by decide +kernel) rfl ?_
            obtain ⟨a24, ga24, hf⟩ := Option.bind_eq_some_iff.mp hf
            refine C.rdA fr_1720 ga24 (by decide +kernel) rfl ?_
            refine C.seg (pe := 107) (lv' := [(6, .int x7), (5, .int x5), (0, .ref r0), (1, .ref r1), (3, .int i3), (4, .int i4)]) (st' := [.int i4, .ref a24, .ref r0]) [(.iload 4, 2, 0)] (by decide +kernel) rfl ?_
            obtain ⟨x25, gx25, hf⟩ := Option.bind_eq_some_iff.mp hf
            refine C.ald 0 rfl gx25 (by decide +kernel) rfl ?_
            refine C.seg (pe := 117) (lv' := [(6, .int x7), (5, .int x5), (0, .ref r0), (1, .ref r1), (3, .int i3), (4, .int i4)]) (st' := [.int 2, .int i4, .ref r1, .ref r0, .int x7, .int x5, .int x25, .ref r0]) [(.iload 5, 2, 0), (.iload 6, 2, 0), (.aload_n 0, 1, 0), (.aload_n 1, 1, 0), (.iload 4, 2, 0), (.iconst 2, 1, 2)] (by decide +kernel) rfl ?_
            obtain ⟨x26, h27, gx26, hf⟩ := b2_some hf
            refine C.callVr C2 [.ref r1, .int i4, .int 2] [.int x7, .int x5, .int x25, .ref r0] mv_2327 rfl (o_X15_valueOf gx26) (w_X15_valueOf gx26) (by omega) (by omega) (Nat.le_of_ble_eq_true rfl) (by decide +kernel) rfl ?_
            refine C.seg (pe := 125) (lv' := [(6, .int x7), (5, .int x5), (0, .ref r0), (1, .ref r1), (3, .int i3), (4, .int i4)]) (st' := [.int 3, .int i4, .ref r1, .ref r0, .int x26, .int x7, .int x5, .int x25, .ref r0]) [(.aload_n 0, 1, 0), (.aload_n 1, 1, 0), (.iload 4, 2, 0), (.iconst 3, 1, 3)] (by decide +kernel) rfl ?_
            obtain ⟨x28, h29, gx28, hf⟩ := b2_some hf
            refine C.callVr C2 [.ref r1, .int i4, .int 3] [.int x26, .int x7, .int x5, .int x25, .ref r0] mv_2327 rfl (o_X15_valueOf gx28) (w_X15_valueOf gx28) (by omega) (by omega) (Nat.le_of_ble_eq_true rfl) (by decide +kernel) rfl ?_
            obtain ⟨h30, gh30, hf⟩ := Option.bind_eq_some_iff.mp hf
            refine C.callVr C2 [.int x25, .int x5, .int x7, .int x26, .int x28] [] mv_2335 rfl (o_X15_rect gh30) (w_X15_rect gh30) (by omega) (by omega) (Nat.le_of_ble_eq_true rfl) (by decide +kernel) rfl ?_
            refine C.goto (off := 164) (tgt := 295) (by decide +kernel) (by decide) ?_
            refine Vsub [2, 3, 4, 5] rfl ?_
            exact l_X15_paints_295 C C2 hfT hlT hkX hoX ih r0 r1 i3 i4 h30 hf
          · replace hf := ifn c20 hf
            by_cases c21 : x10 = 1
            · replace hf := ifp c21 hf
              refine C.tsIn (len := 31) (dflt := 162) (a := 0) (b := 3) (offs := #[31, 65, 91, 105]) (k := 1) (off := 65) (tgt := 134) c21 (by decide +kernel) (by decide) (by decide) rfl (by decide) ?_
              refine C.seg (pe := 136) (lv' := [(6, .int x7), (5, .int x5), (0, .ref r0), (1, .ref r1), (3, .int i3), (4, .int i4)]) (st' := [.ref r1, .ref r0]) [(.aload_n 0, 1, 0), (.aload_n 1, 1, 0)] (by decide +kernel) rfl ?_
              obtain ⟨a31, ga31, hf⟩ := Option.bind_eq_some_iff.mp hf
              refine C.rdA fr_1720 ga31 (by decide +kernel) rfl ?_
              refine C.seg (pe := 141) (lv' := [(6, .int x7), (5, .int x5), (0, .ref r0), (1, .ref r1), (3, .int i3), (4, .int i4)]) (st' := [.int i4, .ref a31, .ref r0]) [(.iload 4, 2, 0)] (by decide +kernel) rfl ?_
              obtain ⟨x32, gx32, hf⟩ := Option.bind_eq_some_iff.mp hf
              refine C.ald 0 rfl gx32 (by decide +kernel) rfl ?_
              refine C.seg (pe := 151) (lv' := [(6, .int x7), (5, .int x5), (0, .ref r0), (1, .ref r1), (3, .int i3), (4, .int i4)]) (st' := [.int 2, .int i4, .ref r1, .ref r0, .int x7, .int x5, .int x32, .ref r0]) [(.iload 5, 2, 0), (.iload 6, 2, 0), (.aload_n 0, 1, 0), (.aload_n 1, 1, 0), (.iload 4, 2, 0), (.iconst 2, 1, 2)] (by decide +kernel) rfl ?_
              obtain ⟨x33, h34, gx33, hf⟩ := b2_some hf
              refine C.callVr C2 [.ref r1, .int i4, .int 2] [.int x7, .int x5, .int x32, .ref r0] mv_2327 rfl (o_X15_valueOf gx33) (w_X15_valueOf gx33) (by omega) (by omega) (Nat.le_of_ble_eq_true rfl) (by decide +kernel) rfl ?_
              obtain ⟨h35, gh35, hf⟩ := Option.bind_eq_some_iff.mp hf
              refine C.callVr C2 [.int x32, .int x5, .int x7, .int x33] [] mv_2343 rfl (o_X15_disc gh35) (w_X15_disc gh35) (by omega) (by omega) (Nat.le_of_ble_eq_true rfl) (by decide +kernel) rfl ?_
              refine C.goto (off := 138) (tgt := 295) (by decide +kernel) (by decide) ?_
              refine Vsub [2, 3, 4, 5] rfl ?_
              exact l_X15_paints_295 C C2 hfT hlT hkX hoX ih r0 r1 i3 i4 h35 hf
            · replace hf := ifn c21 hf
              by_cases c22 : x10 = 2
              · replace hf := ifp c22 hf
                refine C.tsIn (len := 31) (dflt := 162) (a := 0) (b := 3) (offs := #[31, 65, 91, 105]) (k := 2) (off := 91) (tgt := 160) c22 (by decide +kernel) (by decide) (by decide) rfl (by decide) ?_
                refine C.seg (pe := 168) (lv' := [(6, .int x7), (5, .int x5), (0, .ref r0), (1, .ref r1), (3, .int i3), (4, .int i4)]) (st' := [.int x7, .int x5, .int i4, .ref r1, .ref r0]) [(.aload_n 0, 1, 0), (.aload_n 1, 1, 0), (.iload 4, 2, 0), (.iload 5, 2, 0), (.iload 6, 2, 0)] (by decide +kernel) rfl ?_
                obtain ⟨h36, gh36, hf⟩ := Option.bind_eq_some_iff.mp hf
                refine C.callVr C2 [.ref r1, .int i4, .int x5, .int x7] [] mv_2347 rfl (o_X15_says gh36) (w_X15_says gh36) (by omega) (by omega) (Nat.le_of_ble_eq_true rfl) (by decide +kernel) rfl ?_
                refine C.goto (off := 124) (tgt := 295) (by decide +kernel) (by decide) ?_
                refine Vsub [2, 3, 4, 5] rfl ?_
                exact l_X15_paints_295 C C2 hfT hlT hkX hoX ih r0 r1 i3 i4 h36 hf
              · replace hf := ifn c22 hf
                by_cases c23 : x10 = 3
                · replace hf := ifp c23 hf
                  refine C.tsIn (len := 31) (dflt := 162) (a := 0) (b := 3) (offs := #[31, 65, 91, 105]) (k := 3) (off := 105) (tgt := 174) c23 (by decide +kernel) (by decide) (by decide) rfl (by decide) ?_
                  refine C.seg (pe := 178) (lv' := [(7, .int x5), (6, .int x7), (5, .int x5), (0, .ref r0), (1, .ref r1), (3, .int i3), (4, .int i4)]) (st' := []) [(.iload 5, 2, 0), (.istore 7, 2, 0)] (by decide +kernel) rfl ?_
                  refine Vsub [3, 4, 5, 6, 1, 0] rfl ?_
                  exact l_X15_paints_178 C C2 hfT hlT hkX hoX ih FU r0 r1 i3 i4 x7 x5 h8 hf
                · replace hf := ifn c23 hf
                  have qc20 := lv_neT c20 (by decide : (0 : Int32).toInt = 0)
                  have qc21 := lv_neT c21 (by decide : (1 : Int32).toInt = 1)
                  have qc22 := lv_neT c22 (by decide : (2 : Int32).toInt = 2)
                  have qc23 := lv_neT c23 (by decide : (3 : Int32).toInt = 3)
                  refine C.tsOut (len := 31) (dflt := 162) (a := 0) (b := 3) (offs := #[31, 65, 91, 105]) (tgt := 231) (by decide +kernel) (by omega) (by decide) ?_
                  refine C.seg (pe := 232) (lv' := [(6, .int x7), (5, .int x5), (0, .ref r0), (1, .ref r1), (3, .int i3), (4, .int i4)]) (st' := [.ref r1]) [(.aload_n 1, 1, 0)] (by decide +kernel) rfl ?_
                  obtain ⟨a11, ga11, hf⟩ := Option.bind_eq_some_iff.mp hf
                  refine C.rdA fr_1724 ga11 (by decide +kernel) rfl ?_
                  refine C.seg (pe := 237) (lv' := [(6, .int x7), (5, .int x5), (0, .ref r0), (1, .ref r1), (3, .int i3), (4, .int i4)]) (st' := [.int i4, .ref a11]) [(.iload 4, 2, 0)] (by decide +kernel) rfl ?_
                  obtain ⟨x12, gx12, hf⟩ := Option.bind_eq_some_iff.mp hf
                  refine C.ald 0 rfl gx12 (by decide +kernel) rfl ?_
                  refine C.if_ne (off := 13) (tgt := 251) (pf := 241) (by decide +kernel) (by decide) rfl (fun c19 => ?_) (fun c19 => ?_)
                  · replace hf := ifn c19 hf
                    refine C.seg (pe := 252) (lv' := [(6, .int x7), (5, .int x5), (0, .ref r0), (1, .ref r1), (3, .int i3), (4, .int i4)]) (st' := [.ref r1]) [(.aload_n 1, 1, 0)] (by decide +kernel) rfl ?_
                    obtain ⟨a13, ga13, hf⟩ := Option.bind_eq_some_iff.mp hf
                    refine C.rdA fr_1724 ga13 (by decide +kernel) rfl ?_
                    refine C.seg (pe := 257) (lv' := [(6, .int x7), (5, .int x5), (0, .ref r0), (1, .ref r1), (3, .int i3), (4, .int i4)]) (st' := [.int i4, .ref a13]) [(.iload 4, 2, 0)] (by decide +kernel) rfl ?_
                    obtain ⟨x14, gx14, hf⟩ := Option.bind_eq_some_iff.mp hf
                    refine C.ald 0 rfl gx14 (by decide +kernel) rfl ?_
                    refine C.seg (pe := 259) (lv' := [(6, .int x7), (5, .int x5), (0, .ref r0), (1, .ref r1), (3, .int i3), (4, .int i4)]) (st' := [.int 1, .int x14]) [(.iconst 1, 1, 1)] (by decide +kernel) rfl ?_
                    refine C.icmp_ne (off := 13) (tgt := 272) (pf := 262) (by decide +kernel) (by decide) rfl (fun c17 => ?_) (fun c17 => ?_)
                    · replace hf := ifn c17 hf
                      refine C.seg (pe := 276) (lv' := [(6, .int x7), (5, .int x5), (0, .ref r0), (1, .ref r1), (3, .int i3), (4, .int i4)]) (st' := [.int x7, .int x5]) [(.iload 5, 2, 0), (.iload 6, 2, 0)] (by decide +kernel) rfl ?_
                      refine C.icmp_le (off := 19) (tgt := 295) (pf := 279) (by decide +kernel) (by decide) rfl (fun c15 => ?_) (fun c15 => ?_)
                      · replace hf := ifp c15 hf
                        refine Vsub [2, 3, 4, 5] rfl ?_
                        exact l_X15_paints_295 C C2 hfT hlT hkX hoX ih r0 r1 i3 i4 h8 hf
                      · replace hf := ifn c15 hf
                        refine Vsub [2, 3, 4, 5] rfl ?_
                        exact l_X15_paints_279 C C2 hfT hlT hkX hoX ih r0 r1 i3 i4 h8 hf
                    · replace hf := ifp c17 hf
                      refine C.seg (pe := 266) (lv' := [(6, .int x7), (5, .int x5), (0, .ref r0), (1, .ref r1), (3, .int i3), (4, .int i4)]) (st' := [.int x7, .int x5]) [(.iload 5, 2, 0), (.iload 6, 2, 0)] (by decide +kernel) rfl ?_
                      refine C.icmp_ne (off := 29) (tgt := 295) (pf := 269) (by decide +kernel) (by decide) rfl (fun c16 => ?_) (fun c16 => ?_)
                      · replace hf := ifn c16 hf
                        refine Vsub [2, 3, 4, 5] rfl ?_
                        exact l_X15_paints_295 C C2 hfT hlT hkX hoX ih r0 r1 i3 i4 h8 hf
                      · replace hf := ifp c16 hf
                        refine C.goto (off := 10) (tgt := 279) (by decide +kernel) (by decide) ?_
                        refine Vsub [2, 3, 4, 5] rfl ?_
                        exact l_X15_paints_279 C C2 hfT hlT hkX hoX ih r0 r1 i3 i4 h8 hf
                  · replace hf := ifp c19 hf
                    refine C.seg (pe := 245) (lv' := [(6, .int x7), (5, .int x5), (0, .ref r0), (1, .ref r1), (3, .int i3), (4, .int i4)]) (st' := [.int x7, .int x5]) [(.iload 5, 2, 0), (.iload 6, 2, 0)] (by decide +kernel) rfl ?_
                    refine C.icmp_ge (off := 50) (tgt := 295) (pf := 248) (by decide +kernel) (by decide) rfl (fun c18 => ?_) (fun c18 => ?_)
                    · replace hf := ifp c18 hf
                      refine Vsub [2, 3, 4, 5] rfl ?_
                      exact l_X15_paints_295 C C2 hfT hlT hkX hoX ih r0 r1 i3 i4 h8 hf
                    · replace hf := ifn c18 hf
                      refine C.goto (off := 31) (tgt := 279) (by decide +kernel) (by decide) ?_
                      refine Vsub [2, 3, 4, 5] rfl ?_
                      exact l_X15_paints_279 C C2 hfT hlT hkX hoX ih r0 r1 i3 i4 h8 hf
        · replace hf := ifp c38 hf
          refine C.seg (pe := 28) (lv' := [(0, .ref r0), (1, .ref r1), (3, .int i3), (4, .int i4)]) (st' := [.int 1, .ref r0]) [(.aload_n 0, 1, 0), (.iconst 1, 1, 1)] (by decide +kernel) rfl ?_
          obtain ⟨h37, gh37, hf⟩ := Option.bind_eq_some_iff.mp hf
          refine C.putZ fl_1836 gh37 (by decide +kernel) rfl ?_
          cases hf
          exact C.retV rfl (by decide +kernel) ⟨rfl, rfl⟩
def f_X15_paints_b (kX : Nat → Nat → Int32 → Int32 → AH → Option (AH)) (a0 : Nat) (p1 : Nat) (p2 : Int32) (p3 : Int32) (h : AH) : Option (AH) :=
  if isO 15 h a0 = true then
    f_X15_paints_3 kX FU a0 p1 p3 p2 h
  else none
def f_X15_paints : Nat → Nat → Nat → Int32 → Int32 → AH → Option (AH)
  | 0, _, _, _, _, _ => none
  | d + 1, a0, p1, p2, p3, h => f_X15_paints_b (f_X15_paints d) a0 p1 p2 p3 h
set_option maxRecDepth 100000 in
set_option maxHeartbeats 4000000 in
theorem w_X15_paints_b {l : Launch} {G : GX} {fT lT : Nat} {kX : Nat → Nat → Int32 → Int32 → AH → Option (AH)} (hfT : 200 ≤ fT) (hlT : 4000 ≤ lT) (hkX : ∀ (b0 : Nat) (b1 : Nat) (b2 : Int32) (b3 : Int32) (h : AH) (hr : AH), kX b0 b1 b2 b3 h = some hr → Ct l G yX15_paints fT lT [.ref b0, .ref b1, .int b2, .int b3] h (QV hr)) (hoX : ∀ (b0 : Nat) (b1 : Nat) (b2 : Int32) (b3 : Int32) (h : AH) (hr : AH), kX b0 b1 b2 b3 h = some hr → isO 15 h b0 = true)  {a0 : Nat} {p1 : Nat} {p2 : Int32} {p3 : Int32} {h : AH} {hr : AH} (hf : f_X15_paints_b kX a0 p1 p2 p3 h = some hr) : Ct l G yX15_paints (fT + 20) (lT + 400) [.ref a0, .ref p1, .int p2, .int p3] h (QV hr) := by
  unfold f_X15_paints_b at hf
  obtain ⟨ho, hf⟩ := ifO hf
  refine Ct_of (own := RX15) (cc := cX15_paints) (nL := 8) (ret := none) rfl rfl k_2326 (Nat.le_of_ble_eq_true rfl) (fun X C2 C => ?_)
  show V X G h (QV hr) 0 [(0, .ref a0), (1, .ref p1), (2, .int p2), (3, .int p3)] [] h
  refine C.seg (pe := 3) (lv' := [(4, .int p2), (0, .ref a0), (1, .ref p1), (2, .int p2), (3, .int p3)]) (st' := []) [(.iload_n 2, 1, 0), (.istore 4, 2, 0)] (by decide +kernel) rfl ?_
  refine Vsub [1, 2, 4, 0] rfl ?_
  exact l_X15_paints_3 C C2 hfT hlT hkX hoX FU a0 p1 p3 p2 h hf
theorem o_X15_paints {d : Nat} {a0 : Nat} {p1 : Nat} {p2 : Int32} {p3 : Int32} {h : AH} {hr : AH} (hf : f_X15_paints d a0 p1 p2 p3 h = some hr) : isO 15 h a0 = true := by
  cases d with
  | zero => rw [f_X15_paints] at hf; cases hf
  | succ d =>
    rw [f_X15_paints, f_X15_paints_b] at hf
    exact (ifO hf).1
theorem w_X15_paints {l : Launch} {G : GX} (d : Nat) : ∀ {a0 : Nat} {p1 : Nat} {p2 : Int32} {p3 : Int32} {h : AH} {hr : AH}, f_X15_paints d a0 p1 p2 p3 h = some hr → Ct l G yX15_paints (200 + 20 * d) (4000 + 400 * d) [.ref a0, .ref p1, .int p2, .int p3] h (QV hr) := by
  induction d with
  | zero => intro a0 p1 p2 p3 h hr hf; rw [f_X15_paints] at hf; cases hf
  | succ d ih =>
    intro a0 p1 p2 p3 h hr hf
    rw [f_X15_paints] at hf
    have q := w_X15_paints_b (fT := 200 + 20 * d) (lT := 4000 + 400 * d) (by omega) (by omega) (fun b0 b1 b2 b3 h hr g => ih g) (fun b0 b1 b2 b3 h hr g => o_X15_paints g) hf
    rw [show 200 + 20 * (d + 1) = 200 + 20 * d + 20 by omega, show 4000 + 400 * (d + 1) = 4000 + 400 * d + 400 by omega]
    exact q
/-! WallHouseModel.paintsOn(II)I -/
def f_X15_paintsOn_112 (k87 : Nat → Int32 → Int32 → AH → Option (Int32 × AH)) (r0 : Nat) (i4 : Int32) (si0 : Int32) (si1 : Int32) (h : AH) : Option (Int32 × AH) :=
  k87 r0 (si1 + si0) (i4 + 1) h
set_option maxRecDepth 100000 in
set_option maxHeartbeats 4000000 in
theorem l_X15_paintsOn_112 {X : MX} {l : Launch} {G : GX} {h0 : AH} {rr : Int32} {hr : AH} (C : Cx X G RX15 cX15_paintsOn 5 (some .int) 361 7227 h0) (C2 : Cy X l "paintsOn" []) {k87 : Nat → Int32 → Int32 → AH → Option (Int32 × AH)} (hk87 : ∀ (r0 : Nat) (i3 : Int32) (i4 : Int32) (h : AH), k87 r0 i3 i4 h = some (rr, hr) → V X G h0 (QI rr hr) 87 [(0, .ref r0), (3, .int i3), (4, .int i4)] [] h) (r0 : Nat) (i4 : Int32) (si0 : Int32) (si1 : Int32) (h : AH) (hf : f_X15_paintsOn_112 k87 r0 i4 si0 si1 h = some (rr, hr)) : V X G h0 (QI rr hr) 112 [(0, .ref r0), (4, .int i4)] [.int si0, .int si1] h := by
  unfold f_X15_paintsOn_112 at hf
  refine C.seg (pe := 117) (lv' := [(4, .int (i4 + 1)), (3, .int (si1 + si0)), (0, .ref r0)]) (st' := []) [(.iadd, 1, 0), (.istore_n 3, 1, 0), (.iinc 4 1, 3, 1)] (by decide +kernel) rfl ?_
  refine C.goto (off := (-30)) (tgt := 87) (by decide +kernel) (by decide) ?_
  refine Vsub [2, 1, 0] rfl ?_
  exact hk87 r0 (si1 + si0) (i4 + 1) h hf
def f_X15_paintsOn_87 : Nat → Nat → Int32 → Int32 → AH → Option (Int32 × AH)
  | 0, _, _, _, _ => none
  | n + 1, r0, i3, i4, h =>
    if 192 ≤ i4 then
      some (i3, h)
    else
      (gA 15 h r0 43).bind fun a1 =>
      (aI 0 h a1 i4).bind fun x2 =>
      if x2 = (-1) then
        f_X15_paintsOn_112 (f_X15_paintsOn_87 n) r0 i4 0 i3 h
      else
        f_X15_paintsOn_112 (f_X15_paintsOn_87 n) r0 i4 1 i3 h
set_option maxRecDepth 100000 in
set_option maxHeartbeats 4000000 in
theorem l_X15_paintsOn_87 {X : MX} {l : Launch} {G : GX} {h0 : AH} {rr : Int32} {hr : AH} (C : Cx X G RX15 cX15_paintsOn 5 (some .int) 361 7227 h0) (C2 : Cy X l "paintsOn" []) : ∀ (n : Nat) (r0 : Nat) (i3 : Int32) (i4 : Int32) (h : AH), f_X15_paintsOn_87 n r0 i3 i4 h = some (rr, hr) → V X G h0 (QI rr hr) 87 [(0, .ref r0), (3, .int i3), (4, .int i4)] [] h := by
  intro n
  induction n with
  | zero => intro r0 i3 i4 h hf; rw [f_X15_paintsOn_87] at hf; cases hf
  | succ n ih =>
    intro r0 i3 i4 h hf
    rw [f_X15_paintsOn_87] at hf
    refine C.seg (pe := 92) (lv' := [(0, .ref r0), (3, .int i3), (4, .int i4)]) (st' := [.int 192, .int i4]) [(.iload 4, 2, 0), (.sipush 192, 3, 192)] (by decide +kernel) rfl ?_
    refine C.icmp_ge (off := 28) (tgt := 120) (pf := 95) (by decide +kernel) (by decide) rfl (fun c4 => ?_) (fun c4 => ?_)
    · replace hf := ifp c4 hf
      refine C.seg (pe := 121) (lv' := [(0, .ref r0), (3, .int i3), (4, .int i4)]) (st' := [.int i3]) [(.iload_n 3, 1, 0)] (by decide +kernel) rfl ?_
      cases hf
      exact C.retI rfl (by decide +kernel) ⟨rfl, rfl⟩
    · replace hf := ifn c4 hf
      refine C.seg (pe := 97) (lv' := [(0, .ref r0), (3, .int i3), (4, .int i4)]) (st' := [.ref r0, .int i3]) [(.iload_n 3, 1, 0), (.aload_n 0, 1, 0)] (by decide +kernel) rfl ?_
      obtain ⟨a1, ga1, hf⟩ := Option.bind_eq_some_iff.mp hf
      refine C.rdA fr_1829 ga1 (by decide +kernel) rfl ?_
      refine C.seg (pe := 102) (lv' := [(0, .ref r0), (3, .int i3), (4, .int i4)]) (st' := [.int i4, .ref a1, .int i3]) [(.iload 4, 2, 0)] (by decide +kernel) rfl ?_
      obtain ⟨x2, gx2, hf⟩ := Option.bind_eq_some_iff.mp hf
      refine C.ald 0 rfl gx2 (by decide +kernel) rfl ?_
      refine C.seg (pe := 104) (lv' := [(0, .ref r0), (3, .int i3), (4, .int i4)]) (st' := [.int (-1), .int x2, .int i3]) [(.iconst (-1), 1, (-1))] (by decide +kernel) rfl ?_
      refine C.icmp_ne (off := 7) (tgt := 111) (pf := 107) (by decide +kernel) (by decide) rfl (fun c3 => ?_) (fun c3 => ?_)
      · replace hf := ifn c3 hf
        refine C.seg (pe := 112) (lv' := [(0, .ref r0), (3, .int i3), (4, .int i4)]) (st' := [.int 1, .int i3]) [(.iconst 1, 1, 1)] (by decide +kernel) rfl ?_
        refine Vsub [0, 2] rfl ?_
        exact l_X15_paintsOn_112 C C2 ih r0 i4 1 i3 h hf
      · replace hf := ifp c3 hf
        refine C.seg (pe := 108) (lv' := [(0, .ref r0), (3, .int i3), (4, .int i4)]) (st' := [.int 0, .int i3]) [(.iconst 0, 1, 0)] (by decide +kernel) rfl ?_
        refine C.goto (off := 4) (tgt := 112) (by decide +kernel) (by decide) ?_
        refine Vsub [0, 2] rfl ?_
        exact l_X15_paintsOn_112 C C2 ih r0 i4 0 i3 h hf
def f_X15_paintsOn_24 : Nat → Nat → Int32 → Int32 → Int32 → AH → Option (Int32 × AH)
  | 0, _, _, _, _, _ => none
  | n + 1, r0, i1, i2, i3, h =>
    if 5 ≤ i3 then
      (pI 15 h r0 47 i2).bind fun h1 =>
      (pI 15 h1 r0 48 0).bind fun h2 =>
      (pI 15 h2 r0 49 0).bind fun h3 =>
      (pZ 15 h3 r0 50 0).bind fun h4 =>
      (gA 15 h4 r0 39).bind fun a5 =>
      (aQ 7 h4 a5 i1).bind fun q6 =>
      tr q6 (
        (gA 15 h4 r0 39).bind fun a8 =>
        (aQ 7 h4 a8 i1).bind fun q9 =>
        tr q9 (
          none) fun a10 =>
        (gI 12 h4 a10 0).bind fun x11 =>
        none) fun a7 =>
      (gA 15 h4 r0 39).bind fun a12 =>
      (aQ 7 h4 a12 i1).bind fun q13 =>
      tr q13 (
        none) fun a14 =>
      (gI 12 h4 a14 0).bind fun x15 =>
      (f_X15_paints 8 r0 a7 0 x15 h4).bind fun h16 =>
      f_X15_paintsOn_87 FU r0 0 0 h16
    else
      (gA 15 h r0 44).bind fun a17 =>
      (sI 0 h a17 i3 0).bind fun h18 =>
      (f_X15_paintsOn_24 n) r0 i1 i2 (i3 + 1) h18
set_option maxRecDepth 100000 in
set_option maxHeartbeats 4000000 in
theorem l_X15_paintsOn_24 {X : MX} {l : Launch} {G : GX} {h0 : AH} {rr : Int32} {hr : AH} (C : Cx X G RX15 cX15_paintsOn 5 (some .int) 361 7227 h0) (C2 : Cy X l "paintsOn" []) : ∀ (n : Nat) (r0 : Nat) (i1 : Int32) (i2 : Int32) (i3 : Int32) (h : AH), f_X15_paintsOn_24 n r0 i1 i2 i3 h = some (rr, hr) → V X G h0 (QI rr hr) 24 [(0, .ref r0), (1, .int i1), (2, .int i2), (3, .int i3)] [] h := by
  intro n
  induction n with
  | zero => intro r0 i1 i2 i3 h hf; rw [f_X15_paintsOn_24] at hf; cases hf
  | succ n ih =>
    intro r0 i1 i2 i3 h hf
    rw [f_X15_paintsOn_24] at hf
    refine C.seg (pe := 26) (lv' := [(0, .ref r0), (1, .int i1), (2, .int i2), (3, .int i3)]) (st' := [.int 5, .int i3]) [(.iload_n 3, 1, 0), (.iconst 5, 1, 5)] (by decide +kernel) rfl ?_
    refine C.icmp_ge (off := 16) (tgt := 42) (pf := 29) (by decide +kernel) (by decide) rfl (fun c19 => ?_) (fun c19 => ?_)
    · replace hf := ifp c19 hf
      refine C.seg (pe := 44) (lv' := [(0, .ref r0), (1, .int i1), (2, .int i2), (3, .int i3)]) (st' := [.int i2, .ref r0]) [(.aload_n 0, 1, 0), (.iload_n 2, 1, 0)] (by decide +kernel) rfl ?_
      obtain ⟨h1, gh1, hf⟩ := Option.bind_eq_some_iff.mp hf
      refine C.putI fl_1833 gh1 (by decide +kernel) rfl ?_
      refine C.seg (pe := 49) (lv' := [(0, .ref r0), (1, .int i1), (2, .int i2), (3, .int i3)]) (st' := [.int 0, .ref r0]) [(.aload_n 0, 1, 0), (.iconst 0, 1, 0)] (by decide +kernel) rfl ?_
      obtain ⟨h2, gh2, hf⟩ := Option.bind_eq_some_iff.mp hf
      refine C.putI fl_1834 gh2 (by decide +kernel) rfl ?_
      refine C.seg (pe := 54) (lv' := [(0, .ref r0), (1, .int i1), (2, .int i2), (3, .int i3)]) (st' := [.int 0, .ref r0]) [(.aload_n 0, 1, 0), (.iconst 0, 1, 0)] (by decide +kernel) rfl ?_
      obtain ⟨h3, gh3, hf⟩ := Option.bind_eq_some_iff.mp hf
      refine C.putI fl_1835 gh3 (by decide +kernel) rfl ?_
      refine C.seg (pe := 59) (lv' := [(0, .ref r0), (1, .int i1), (2, .int i2), (3, .int i3)]) (st' := [.int 0, .ref r0]) [(.aload_n 0, 1, 0), (.iconst 0, 1, 0)] (by decide +kernel) rfl ?_
      obtain ⟨h4, gh4, hf⟩ := Option.bind_eq_some_iff.mp hf
      refine C.putZ fl_1836 gh4 (by decide +kernel) rfl ?_
      refine C.seg (pe := 64) (lv' := [(0, .ref r0), (1, .int i1), (2, .int i2), (3, .int i3)]) (st' := [.ref r0, .ref r0]) [(.aload_n 0, 1, 0), (.aload_n 0, 1, 0)] (by decide +kernel) rfl ?_
      obtain ⟨a5, ga5, hf⟩ := Option.bind_eq_some_iff.mp hf
      refine C.rdA fr_1825 ga5 (by decide +kernel) rfl ?_
      refine C.seg (pe := 68) (lv' := [(0, .ref r0), (1, .int i1), (2, .int i2), (3, .int i3)]) (st' := [.int i1, .ref a5, .ref r0]) [(.iload_n 1, 1, 0)] (by decide +kernel) rfl ?_
      obtain ⟨q6, gq6, hf⟩ := Option.bind_eq_some_iff.mp hf
      cases q6 with
      | none =>
        refine C.aald 7 rfl gq6 (by decide +kernel) rfl ?_
        replace hf := tr_none hf
        refine C.seg (pe := 71) (lv' := [(0, .ref r0), (1, .int i1), (2, .int i2), (3, .int i3)]) (st' := [.ref r0, .int 0, .null, .ref r0]) [(.iconst 0, 1, 0), (.aload_n 0, 1, 0)] (by decide +kernel) rfl ?_
        obtain ⟨a8, ga8, hf⟩ := Option.bind_eq_some_iff.mp hf
        refine C.rdA fr_1825 ga8 (by decide +kernel) rfl ?_
        refine C.seg (pe := 75) (lv' := [(0, .ref r0), (1, .int i1), (2, .int i2), (3, .int i3)]) (st' := [.int i1, .ref a8, .int 0, .null, .ref r0]) [(.iload_n 1, 1, 0)] (by decide +kernel) rfl ?_
        obtain ⟨q9, gq9, hf⟩ := Option.bind_eq_some_iff.mp hf
        cases q9 with
        | none =>
          refine C.aald 7 rfl gq9 (by decide +kernel) rfl ?_
          replace hf := tr_none hf
          cases hf
        | some a10 =>
          refine C.aald 7 rfl gq9 (by decide +kernel) rfl ?_
          replace hf := tr_some hf
          obtain ⟨x11, gx11, hf⟩ := Option.bind_eq_some_iff.mp hf
          refine C.rdI fr_1714 gx11 (by decide +kernel) rfl ?_
          cases hf
      | some a7 =>
        refine C.aald 7 rfl gq6 (by decide +kernel) rfl ?_
        replace hf := tr_some hf
        refine C.seg (pe := 71) (lv' := [(0, .ref r0), (1, .int i1), (2, .int i2), (3, .int i3)]) (st' := [.ref r0, .int 0, .ref a7, .ref r0]) [(.iconst 0, 1, 0), (.aload_n 0, 1, 0)] (by decide +kernel) rfl ?_
        obtain ⟨a12, ga12, hf⟩ := Option.bind_eq_some_iff.mp hf
        refine C.rdA fr_1825 ga12 (by decide +kernel) rfl ?_
        refine C.seg (pe := 75) (lv' := [(0, .ref r0), (1, .int i1), (2, .int i2), (3, .int i3)]) (st' := [.int i1, .ref a12, .int 0, .ref a7, .ref r0]) [(.iload_n 1, 1, 0)] (by decide +kernel) rfl ?_
        obtain ⟨q13, gq13, hf⟩ := Option.bind_eq_some_iff.mp hf
        cases q13 with
        | none =>
          refine C.aald 7 rfl gq13 (by decide +kernel) rfl ?_
          replace hf := tr_none hf
          cases hf
        | some a14 =>
          refine C.aald 7 rfl gq13 (by decide +kernel) rfl ?_
          replace hf := tr_some hf
          obtain ⟨x15, gx15, hf⟩ := Option.bind_eq_some_iff.mp hf
          refine C.rdI fr_1714 gx15 (by decide +kernel) rfl ?_
          obtain ⟨h16, gh16, hf⟩ := Option.bind_eq_some_iff.mp hf
          refine C.callVr C2 [.ref a7, .int 0, .int x15] [] mv_2323 rfl (o_X15_paints gh16) (w_X15_paints 8 gh16) (by omega) (by omega) (Nat.le_of_ble_eq_true rfl) (by decide +kernel) rfl ?_
          refine C.seg (pe := 87) (lv' := [(4, .int 0), (3, .int 0), (0, .ref r0), (1, .int i1), (2, .int i2)]) (st' := []) [(.iconst 0, 1, 0), (.istore_n 3, 1, 0), (.iconst 0, 1, 0), (.istore 4, 2, 0)] (by decide +kernel) rfl ?_
          refine Vsub [2, 1, 0] rfl ?_
          exact l_X15_paintsOn_87 C C2 FU r0 0 0 h16 hf
    · replace hf := ifn c19 hf
      refine C.seg (pe := 30) (lv' := [(0, .ref r0), (1, .int i1), (2, .int i2), (3, .int i3)]) (st' := [.ref r0]) [(.aload_n 0, 1, 0)] (by decide +kernel) rfl ?_
      obtain ⟨a17, ga17, hf⟩ := Option.bind_eq_some_iff.mp hf
      refine C.rdA fr_1830 ga17 (by decide +kernel) rfl ?_
      refine C.seg (pe := 35) (lv' := [(0, .ref r0), (1, .int i1), (2, .int i2), (3, .int i3)]) (st' := [.int 0, .int i3, .ref a17]) [(.iload_n 3, 1, 0), (.iconst 0, 1, 0)] (by decide +kernel) rfl ?_
      obtain ⟨h18, gh18, hf⟩ := Option.bind_eq_some_iff.mp hf
      refine C.ast gh18 (by decide +kernel) rfl ?_
      refine C.seg (pe := 39) (lv' := [(3, .int (i3 + 1)), (0, .ref r0), (1, .int i1), (2, .int i2)]) (st' := []) [(.iinc 3 1, 3, 1)] (by decide +kernel) rfl ?_
      refine C.goto (off := (-15)) (tgt := 24) (by decide +kernel) (by decide) ?_
      refine Vsub [1, 2, 3, 0] rfl ?_
      exact ih r0 i1 i2 (i3 + 1) h18 hf
def f_X15_paintsOn_2 : Nat → Nat → Int32 → Int32 → Int32 → AH → Option (Int32 × AH)
  | 0, _, _, _, _, _ => none
  | n + 1, r0, i1, i2, i3, h =>
    if 192 ≤ i3 then
      f_X15_paintsOn_24 FU r0 i1 i2 0 h
    else
      (gA 15 h r0 43).bind fun a1 =>
      (sI 0 h a1 i3 (-1)).bind fun h2 =>
      (f_X15_paintsOn_2 n) r0 i1 i2 (i3 + 1) h2
set_option maxRecDepth 100000 in
set_option maxHeartbeats 4000000 in
theorem l_X15_paintsOn_2 {X : MX} {l : Launch} {G : GX} {h0 : AH} {rr : Int32} {hr : AH} (C : Cx X G RX15 cX15_paintsOn 5 (some .int) 361 7227 h0) (C2 : Cy X l "paintsOn" []) : ∀ (n : Nat) (r0 : Nat) (i1 : Int32) (i2 : Int32) (i3 : Int32) (h : AH), f_X15_paintsOn_2 n r0 i1 i2 i3 h = some (rr, hr) → V X G h0 (QI rr hr) 2 [(0, .ref r0), (1, .int i1), (2, .int i2), (3, .int i3)] [] h := by
  intro n
  induction n with
  | zero => intro r0 i1 i2 i3 h hf; rw [f_X15_paintsOn_2] at hf; cases hf
  | succ n ih =>
    intro r0 i1 i2 i3 h hf
    rw [f_X15_paintsOn_2] at hf
    refine C.seg (pe := 6) (lv' := [(0, .ref r0), (1, .int i1), (2, .int i2), (3, .int i3)]) (st' := [.int 192, .int i3]) [(.iload_n 3, 1, 0), (.sipush 192, 3, 192)] (by decide +kernel) rfl ?_
    refine C.icmp_ge (off := 16) (tgt := 22) (pf := 9) (by decide +kernel) (by decide) rfl (fun c3 => ?_) (fun c3 => ?_)
    · replace hf := ifp c3 hf
      refine C.seg (pe := 24) (lv' := [(3, .int 0), (0, .ref r0), (1, .int i1), (2, .int i2)]) (st' := []) [(.iconst 0, 1, 0), (.istore_n 3, 1, 0)] (by decide +kernel) rfl ?_
      refine Vsub [1, 2, 3, 0] rfl ?_
      exact l_X15_paintsOn_24 C C2 FU r0 i1 i2 0 h hf
    · replace hf := ifn c3 hf
      refine C.seg (pe := 10) (lv' := [(0, .ref r0), (1, .int i1), (2, .int i2), (3, .int i3)]) (st' := [.ref r0]) [(.aload_n 0, 1, 0)] (by decide +kernel) rfl ?_
      obtain ⟨a1, ga1, hf⟩ := Option.bind_eq_some_iff.mp hf
      refine C.rdA fr_1829 ga1 (by decide +kernel) rfl ?_
      refine C.seg (pe := 15) (lv' := [(0, .ref r0), (1, .int i1), (2, .int i2), (3, .int i3)]) (st' := [.int (-1), .int i3, .ref a1]) [(.iload_n 3, 1, 0), (.iconst (-1), 1, (-1))] (by decide +kernel) rfl ?_
      obtain ⟨h2, gh2, hf⟩ := Option.bind_eq_some_iff.mp hf
      refine C.ast gh2 (by decide +kernel) rfl ?_
      refine C.seg (pe := 19) (lv' := [(3, .int (i3 + 1)), (0, .ref r0), (1, .int i1), (2, .int i2)]) (st' := []) [(.iinc 3 1, 3, 1)] (by decide +kernel) rfl ?_
      refine C.goto (off := (-17)) (tgt := 2) (by decide +kernel) (by decide) ?_
      refine Vsub [1, 2, 3, 0] rfl ?_
      exact ih r0 i1 i2 (i3 + 1) h2 hf
def f_X15_paintsOn (a0 : Nat) (p1 : Int32) (p2 : Int32) (h : AH) : Option (Int32 × AH) :=
  if isO 15 h a0 = true then
    f_X15_paintsOn_2 FU a0 p1 p2 0 h
  else none
set_option maxRecDepth 100000 in
set_option maxHeartbeats 4000000 in
theorem w_X15_paintsOn {l : Launch} {G : GX} {a0 : Nat} {p1 : Int32} {p2 : Int32} {h : AH} {rr : Int32} {hr : AH} (hf : f_X15_paintsOn a0 p1 p2 h = some (rr, hr)) : Ct l G yX15_paintsOn 361 7227 [.ref a0, .int p1, .int p2] h (QI rr hr) := by
  unfold f_X15_paintsOn at hf
  obtain ⟨ho, hf⟩ := ifO hf
  refine Ct_of (own := RX15) (cc := cX15_paintsOn) (nL := 5) (ret := (some .int)) rfl rfl k_2322 (Nat.le_of_ble_eq_true rfl) (fun X C2 C => ?_)
  show V X G h (QI rr hr) 0 [(0, .ref a0), (1, .int p1), (2, .int p2)] [] h
  refine C.seg (pe := 2) (lv' := [(3, .int 0), (0, .ref a0), (1, .int p1), (2, .int p2)]) (st' := []) [(.iconst 0, 1, 0), (.istore_n 3, 1, 0)] (by decide +kernel) rfl ?_
  refine Vsub [1, 2, 3, 0] rfl ?_
  exact l_X15_paintsOn_2 C C2 FU a0 p1 p2 0 h hf
theorem o_X15_paintsOn {a0 : Nat} {p1 : Int32} {p2 : Int32} {h : AH} {rr : Int32} {hr : AH} (hf : f_X15_paintsOn a0 p1 p2 h = some (rr, hr)) : isO 15 h a0 = true := by
  unfold f_X15_paintsOn at hf
  exact (ifO hf).1
/-! WallHouseModel.barsShown()I -/
def f_X15_barsShown_44 (k4 : Nat → Int32 → Int32 → AH → Option (Int32 × AH)) (k14 : Nat → Int32 → Int32 → Int32 → AH → Option (Int32 × AH)) (r0 : Nat) (i2 : Int32) (i3 : Int32) (si0 : Int32) (si1 : Int32) (h : AH) : Option (Int32 × AH) :=
  k14 r0 (si1 + si0) i2 (i3 + 1) h
set_option maxRecDepth 100000 in
set_option maxHeartbeats 4000000 in
theorem l_X15_barsShown_44 {X : MX} {l : Launch} {G : GX} {h0 : AH} {rr : Int32} {hr : AH} (C : Cx X G RX15 cX15_barsShown 4 (some .int) 0 0 h0) (C2 : Cy X l "barsShown" []) {k4 : Nat → Int32 → Int32 → AH → Option (Int32 × AH)} (hk4 : ∀ (r0 : Nat) (i1 : Int32) (i2 : Int32) (h : AH), k4 r0 i1 i2 h = some (rr, hr) → V X G h0 (QI rr hr) 4 [(0, .ref r0), (1, .int i1), (2, .int i2)] [] h) {k14 : Nat → Int32 → Int32 → Int32 → AH → Option (Int32 × AH)} (hk14 : ∀ (r0 : Nat) (i1 : Int32) (i2 : Int32) (i3 : Int32) (h : AH), k14 r0 i1 i2 i3 h = some (rr, hr) → V X G h0 (QI rr hr) 14 [(0, .ref r0), (1, .int i1), (2, .int i2), (3, .int i3)] [] h) (r0 : Nat) (i2 : Int32) (i3 : Int32) (si0 : Int32) (si1 : Int32) (h : AH) (hf : f_X15_barsShown_44 k4 k14 r0 i2 i3 si0 si1 h = some (rr, hr)) : V X G h0 (QI rr hr) 44 [(0, .ref r0), (2, .int i2), (3, .int i3)] [.int si0, .int si1] h := by
  unfold f_X15_barsShown_44 at hf
  refine C.seg (pe := 49) (lv' := [(3, .int (i3 + 1)), (1, .int (si1 + si0)), (0, .ref r0), (2, .int i2)]) (st' := []) [(.iadd, 1, 0), (.istore_n 1, 1, 0), (.iinc 3 1, 3, 1)] (by decide +kernel) rfl ?_
  refine C.goto (off := (-35)) (tgt := 14) (by decide +kernel) (by decide) ?_
  refine Vsub [2, 1, 3, 0] rfl ?_
  exact hk14 r0 (si1 + si0) i2 (i3 + 1) h hf
def f_X15_barsShown_14 (k4 : Nat → Int32 → Int32 → AH → Option (Int32 × AH)) : Nat → Nat → Int32 → Int32 → Int32 → AH → Option (Int32 × AH)
  | 0, _, _, _, _, _ => none
  | n + 1, r0, i1, i2, i3, h =>
    (gI 15 h r0 49).bind fun x1 =>
    if x1 ≤ i3 then
      k4 r0 i1 (i2 + 1) h
    else
      (gA 15 h r0 46).bind fun a2 =>
      (aL h a2 i3).bind fun y3 =>
      (gA 15 h r0 42).bind fun a4 =>
      (aL h a4 i2).bind fun y5 =>
      if lg_cmp y3 y5 = 0 then
        f_X15_barsShown_44 k4 (f_X15_barsShown_14 k4 n) r0 i2 i3 1 i1 h
      else
        f_X15_barsShown_44 k4 (f_X15_barsShown_14 k4 n) r0 i2 i3 0 i1 h
set_option maxRecDepth 100000 in
set_option maxHeartbeats 4000000 in
theorem l_X15_barsShown_14 {X : MX} {l : Launch} {G : GX} {h0 : AH} {rr : Int32} {hr : AH} (C : Cx X G RX15 cX15_barsShown 4 (some .int) 0 0 h0) (C2 : Cy X l "barsShown" []) {k4 : Nat → Int32 → Int32 → AH → Option (Int32 × AH)} (hk4 : ∀ (r0 : Nat) (i1 : Int32) (i2 : Int32) (h : AH), k4 r0 i1 i2 h = some (rr, hr) → V X G h0 (QI rr hr) 4 [(0, .ref r0), (1, .int i1), (2, .int i2)] [] h) : ∀ (n : Nat) (r0 : Nat) (i1 : Int32) (i2 : Int32) (i3 : Int32) (h : AH), f_X15_barsShown_14 k4 n r0 i1 i2 i3 h = some (rr, hr) → V X G h0 (QI rr hr) 14 [(0, .ref r0), (1, .int i1), (2, .int i2), (3, .int i3)] [] h := by
  intro n
  induction n with
  | zero => intro r0 i1 i2 i3 h hf; rw [f_X15_barsShown_14] at hf; cases hf
  | succ n ih =>
    intro r0 i1 i2 i3 h hf
    rw [f_X15_barsShown_14] at hf
    refine C.seg (pe := 16) (lv' := [(0, .ref r0), (1, .int i1), (2, .int i2), (3, .int i3)]) (st' := [.ref r0, .int i3]) [(.iload_n 3, 1, 0), (.aload_n 0, 1, 0)] (by decide +kernel) rfl ?_
    obtain ⟨x1, gx1, hf⟩ := Option.bind_eq_some_iff.mp hf
    refine C.rdI fr_1835 gx1 (by decide +kernel) rfl ?_
    refine C.icmp_ge (off := 33) (tgt := 52) (pf := 22) (by decide +kernel) (by decide) rfl (fun c7 => ?_) (fun c7 => ?_)
    · replace hf := ifp c7 hf
      refine C.seg (pe := 55) (lv' := [(2, .int (i2 + 1)), (0, .ref r0), (1, .int i1), (3, .int i3)]) (st' := []) [(.iinc 2 1, 3, 1)] (by decide +kernel) rfl ?_
      refine C.goto (off := (-51)) (tgt := 4) (by decide +kernel) (by decide) ?_
      refine Vsub [1, 2, 0] rfl ?_
      exact hk4 r0 i1 (i2 + 1) h hf
    · replace hf := ifn c7 hf
      refine C.seg (pe := 24) (lv' := [(0, .ref r0), (1, .int i1), (2, .int i2), (3, .int i3)]) (st' := [.ref r0, .int i1]) [(.iload_n 1, 1, 0), (.aload_n 0, 1, 0)] (by decide +kernel) rfl ?_
      obtain ⟨a2, ga2, hf⟩ := Option.bind_eq_some_iff.mp hf
      refine C.rdA fr_1832 ga2 (by decide +kernel) rfl ?_
      refine C.seg (pe := 28) (lv' := [(0, .ref r0), (1, .int i1), (2, .int i2), (3, .int i3)]) (st' := [.int i3, .ref a2, .int i1]) [(.iload_n 3, 1, 0)] (by decide +kernel) rfl ?_
      obtain ⟨y3, gy3, hf⟩ := Option.bind_eq_some_iff.mp hf
      refine C.lald gy3 (by decide +kernel) rfl ?_
      refine C.seg (pe := 30) (lv' := [(0, .ref r0), (1, .int i1), (2, .int i2), (3, .int i3)]) (st' := [.ref r0, .long y3, .int i1]) [(.aload_n 0, 1, 0)] (by decide +kernel) rfl ?_
      obtain ⟨a4, ga4, hf⟩ := Option.bind_eq_some_iff.mp hf
      refine C.rdA fr_1828 ga4 (by decide +kernel) rfl ?_
      refine C.seg (pe := 34) (lv' := [(0, .ref r0), (1, .int i1), (2, .int i2), (3, .int i3)]) (st' := [.int i2, .ref a4, .long y3, .int i1]) [(.iload_n 2, 1, 0)] (by decide +kernel) rfl ?_
      obtain ⟨y5, gy5, hf⟩ := Option.bind_eq_some_iff.mp hf
      refine C.lald gy5 (by decide +kernel) rfl ?_
      refine C.seg (pe := 36) (lv' := [(0, .ref r0), (1, .int i1), (2, .int i2), (3, .int i3)]) (st' := [.int (lg_cmp y3 y5), .int i1]) [(.lcmp, 1, 0)] (by decide +kernel) rfl ?_
      refine C.if_ne (off := 7) (tgt := 43) (pf := 39) (by decide +kernel) (by decide) rfl (fun c6 => ?_) (fun c6 => ?_)
      · replace hf := ifn c6 hf
        refine C.seg (pe := 44) (lv' := [(0, .ref r0), (1, .int i1), (2, .int i2), (3, .int i3)]) (st' := [.int 0, .int i1]) [(.iconst 0, 1, 0)] (by decide +kernel) rfl ?_
        refine Vsub [0, 2, 3] rfl ?_
        exact l_X15_barsShown_44 C C2 hk4 ih r0 i2 i3 0 i1 h hf
      · replace hf := ifp c6 hf
        refine C.seg (pe := 40) (lv' := [(0, .ref r0), (1, .int i1), (2, .int i2), (3, .int i3)]) (st' := [.int 1, .int i1]) [(.iconst 1, 1, 1)] (by decide +kernel) rfl ?_
        refine C.goto (off := 4) (tgt := 44) (by decide +kernel) (by decide) ?_
        refine Vsub [0, 2, 3] rfl ?_
        exact l_X15_barsShown_44 C C2 hk4 ih r0 i2 i3 1 i1 h hf
def f_X15_barsShown_4 : Nat → Nat → Int32 → Int32 → AH → Option (Int32 × AH)
  | 0, _, _, _, _ => none
  | n + 1, r0, i1, i2, h =>
    (gI 15 h r0 41).bind fun x1 =>
    if x1 ≤ i2 then
      some (i1, h)
    else
      f_X15_barsShown_14 (f_X15_barsShown_4 n) FU r0 i1 i2 0 h
set_option maxRecDepth 100000 in
set_option maxHeartbeats 4000000 in
theorem l_X15_barsShown_4 {X : MX} {l : Launch} {G : GX} {h0 : AH} {rr : Int32} {hr : AH} (C : Cx X G RX15 cX15_barsShown 4 (some .int) 0 0 h0) (C2 : Cy X l "barsShown" []) : ∀ (n : Nat) (r0 : Nat) (i1 : Int32) (i2 : Int32) (h : AH), f_X15_barsShown_4 n r0 i1 i2 h = some (rr, hr) → V X G h0 (QI rr hr) 4 [(0, .ref r0), (1, .int i1), (2, .int i2)] [] h := by
  intro n
  induction n with
  | zero => intro r0 i1 i2 h hf; rw [f_X15_barsShown_4] at hf; cases hf
  | succ n ih =>
    intro r0 i1 i2 h hf
    rw [f_X15_barsShown_4] at hf
    refine C.seg (pe := 6) (lv' := [(0, .ref r0), (1, .int i1), (2, .int i2)]) (st' := [.ref r0, .int i2]) [(.iload_n 2, 1, 0), (.aload_n 0, 1, 0)] (by decide +kernel) rfl ?_
    obtain ⟨x1, gx1, hf⟩ := Option.bind_eq_some_iff.mp hf
    refine C.rdI fr_1827 gx1 (by decide +kernel) rfl ?_
    refine C.icmp_ge (off := 49) (tgt := 58) (pf := 12) (by decide +kernel) (by decide) rfl (fun c2 => ?_) (fun c2 => ?_)
    · replace hf := ifp c2 hf
      refine C.seg (pe := 59) (lv' := [(0, .ref r0), (1, .int i1), (2, .int i2)]) (st' := [.int i1]) [(.iload_n 1, 1, 0)] (by decide +kernel) rfl ?_
      cases hf
      exact C.retI rfl (by decide +kernel) ⟨rfl, rfl⟩
    · replace hf := ifn c2 hf
      refine C.seg (pe := 14) (lv' := [(3, .int 0), (0, .ref r0), (1, .int i1), (2, .int i2)]) (st' := []) [(.iconst 0, 1, 0), (.istore_n 3, 1, 0)] (by decide +kernel) rfl ?_
      refine Vsub [1, 2, 3, 0] rfl ?_
      exact l_X15_barsShown_14 C C2 ih FU r0 i1 i2 0 h hf
def f_X15_barsShown (a0 : Nat) (h : AH) : Option (Int32 × AH) :=
  if isO 15 h a0 = true then
    f_X15_barsShown_4 FU a0 0 0 h
  else none
set_option maxRecDepth 100000 in
set_option maxHeartbeats 4000000 in
theorem w_X15_barsShown {l : Launch} {G : GX} {a0 : Nat} {h : AH} {rr : Int32} {hr : AH} (hf : f_X15_barsShown a0 h = some (rr, hr)) : Ct l G yX15_barsShown 0 0 [.ref a0] h (QI rr hr) := by
  unfold f_X15_barsShown at hf
  obtain ⟨ho, hf⟩ := ifO hf
  refine Ct_of (own := RX15) (cc := cX15_barsShown) (nL := 4) (ret := (some .int)) rfl rfl k_2354 (Nat.le_of_ble_eq_true rfl) (fun X C2 C => ?_)
  show V X G h (QI rr hr) 0 [(0, .ref a0)] [] h
  refine C.seg (pe := 4) (lv' := [(2, .int 0), (1, .int 0), (0, .ref a0)]) (st' := []) [(.iconst 0, 1, 0), (.istore_n 1, 1, 0), (.iconst 0, 1, 0), (.istore_n 2, 1, 0)] (by decide +kernel) rfl ?_
  refine Vsub [2, 1, 0] rfl ?_
  exact l_X15_barsShown_4 C C2 FU a0 0 0 h hf
theorem o_X15_barsShown {a0 : Nat} {h : AH} {rr : Int32} {hr : AH} (hf : f_X15_barsShown a0 h = some (rr, hr)) : isO 15 h a0 = true := by
  unfold f_X15_barsShown at hf
  exact (ifO hf).1
/-! WallHouseModel.sketch(II)I -/
def f_X15_sketch_37 : Nat → Nat → Int32 → Int32 → Int32 → AH → Option (Int32 × AH)
  | 0, _, _, _, _, _ => none
  | n + 1, r0, i2, i3, i4, h =>
    if 192 ≤ i4 then
      (pZ 15 h r0 56 1).bind fun h1 =>
      (gA 15 h1 r0 6).bind fun a2 =>
      (aI 0 h1 a2 i2).bind fun x3 =>
      (pI 15 h1 r0 52 x3).bind fun h4 =>
      (gA 15 h4 r0 7).bind fun a5 =>
      (aI 0 h4 a5 i2).bind fun x6 =>
      (pI 15 h4 r0 53 x6).bind fun h7 =>
      (gI 15 h7 r0 48).bind fun x8 =>
      (pI 15 h7 r0 54 x8).bind fun h9 =>
      (gI 15 h9 r0 50).bind fun x10 =>
      (pZ 15 h9 r0 57 x10).bind fun h11 =>
      b2 (f_X15_barsShown r0 h11) fun x12 h13 =>
      (pI 15 h13 r0 55 x12).bind fun h14 =>
      b2 (f_X15_done r0 i3 h14) fun x15 h16 =>
      some (x15, h16)
    else
      (gA 15 h r0 51).bind fun a17 =>
      (gA 15 h r0 43).bind fun a18 =>
      (aI 0 h a18 i4).bind fun x19 =>
      (sI 0 h a17 i4 x19).bind fun h20 =>
      (f_X15_sketch_37 n) r0 i2 i3 (i4 + 1) h20
set_option maxRecDepth 100000 in
set_option maxHeartbeats 4000000 in
theorem l_X15_sketch_37 {X : MX} {l : Launch} {G : GX} {h0 : AH} {rr : Int32} {hr : AH} (C : Cx X G RX15 cX15_sketch 5 (some .int) 362 7251 h0) (C2 : Cy X l "sketch" []) : ∀ (n : Nat) (r0 : Nat) (i2 : Int32) (i3 : Int32) (i4 : Int32) (h : AH), f_X15_sketch_37 n r0 i2 i3 i4 h = some (rr, hr) → V X G h0 (QI rr hr) 37 [(0, .ref r0), (2, .int i2), (3, .int i3), (4, .int i4)] [] h := by
  intro n
  induction n with
  | zero => intro r0 i2 i3 i4 h hf; rw [f_X15_sketch_37] at hf; cases hf
  | succ n ih =>
    intro r0 i2 i3 i4 h hf
    rw [f_X15_sketch_37] at hf
    refine C.seg (pe := 42) (lv' := [(0, .ref r0), (2, .int i2), (3, .int i3), (4, .int i4)]) (st' := [.int 192, .int i4]) [(.iload 4, 2, 0), (.sipush 192, 3, 192)] (by decide +kernel) rfl ?_
    refine C.icmp_ge (off := 23) (tgt := 65) (pf := 45) (by decide +kernel) (by decide) rfl (fun c21 => ?_) (fun c21 => ?_)
    · replace hf := ifp c21 hf
      refine C.seg (pe := 67) (lv' := [(0, .ref r0), (2, .int i2), (3, .int i3), (4, .int i4)]) (st' := [.int 1, .ref r0]) [(.aload_n 0, 1, 0), (.iconst 1, 1, 1)] (by decide +kernel) rfl ?_
      obtain ⟨h1, gh1, hf⟩ := Option.bind_eq_some_iff.mp hf
      refine C.putZ fl_1842 gh1 (by decide +kernel) rfl ?_
      refine C.seg (pe := 72) (lv' := [(0, .ref r0), (2, .int i2), (3, .int i3), (4, .int i4)]) (st' := [.ref r0, .ref r0]) [(.aload_n 0, 1, 0), (.aload_n 0, 1, 0)] (by decide +kernel) rfl ?_
      obtain ⟨a2, ga2, hf⟩ := Option.bind_eq_some_iff.mp hf
      refine C.rdA fr_1792 ga2 (by decide +kernel) rfl ?_
      refine C.seg (pe := 76) (lv' := [(0, .ref r0), (2, .int i2), (3, .int i3), (4, .int i4)]) (st' := [.int i2, .ref a2, .ref r0]) [(.iload_n 2, 1, 0)] (by decide +kernel) rfl ?_
      obtain ⟨x3, gx3, hf⟩ := Option.bind_eq_some_iff.mp hf
      refine C.ald 0 rfl gx3 (by decide +kernel) rfl ?_
      obtain ⟨h4, gh4, hf⟩ := Option.bind_eq_some_iff.mp hf
      refine C.putI fl_1838 gh4 (by decide +kernel) rfl ?_
      refine C.seg (pe := 82) (lv' := [(0, .ref r0), (2, .int i2), (3, .int i3), (4, .int i4)]) (st' := [.ref r0, .ref r0]) [(.aload_n 0, 1, 0), (.aload_n 0, 1, 0)] (by decide +kernel) rfl ?_
      obtain ⟨a5, ga5, hf⟩ := Option.bind_eq_some_iff.mp hf
      refine C.rdA fr_1793 ga5 (by decide +kernel) rfl ?_
      refine C.seg (pe := 86) (lv' := [(0, .ref r0), (2, .int i2), (3, .int i3), (4, .int i4)]) (st' := [.int i2, .ref a5, .ref r0]) [(.iload_n 2, 1, 0)] (by decide +kernel) rfl ?_
      obtain ⟨x6, gx6, hf⟩ := Option.bind_eq_some_iff.mp hf
      refine C.ald 0 rfl gx6 (by decide +kernel) rfl ?_
      obtain ⟨h7, gh7, hf⟩ := Option.bind_eq_some_iff.mp hf
      refine C.putI fl_1839 gh7 (by decide +kernel) rfl ?_
      refine C.seg (pe := 92) (lv' := [(0, .ref r0), (2, .int i2), (3, .int i3), (4, .int i4)]) (st' := [.ref r0, .ref r0]) [(.aload_n 0, 1, 0), (.aload_n 0, 1, 0)] (by decide +kernel) rfl ?_
      obtain ⟨x8, gx8, hf⟩ := Option.bind_eq_some_iff.mp hf
      refine C.rdI fr_1834 gx8 (by decide +kernel) rfl ?_
      obtain ⟨h9, gh9, hf⟩ := Option.bind_eq_some_iff.mp hf
      refine C.putI fl_1840 gh9 (by decide +kernel) rfl ?_
      refine C.seg (pe := 100) (lv' := [(0, .ref r0), (2, .int i2), (3, .int i3), (4, .int i4)]) (st' := [.ref r0, .ref r0]) [(.aload_n 0, 1, 0), (.aload_n 0, 1, 0)] (by decide +kernel) rfl ?_
      obtain ⟨x10, gx10, hf⟩ := Option.bind_eq_some_iff.mp hf
      refine C.rdI fr_1836 gx10 (by decide +kernel) rfl ?_
      obtain ⟨h11, gh11, hf⟩ := Option.bind_eq_some_iff.mp hf
      refine C.putZ fl_1843 gh11 (by decide +kernel) rfl ?_
      refine C.seg (pe := 108) (lv' := [(0, .ref r0), (2, .int i2), (3, .int i3), (4, .int i4)]) (st' := [.ref r0, .ref r0]) [(.aload_n 0, 1, 0), (.aload_n 0, 1, 0)] (by decide +kernel) rfl ?_
      obtain ⟨x12, h13, gx12, hf⟩ := b2_some hf
      refine C.callVr C2 [] [.ref r0] mv_2351 rfl (o_X15_barsShown gx12) (w_X15_barsShown gx12) (by omega) (by omega) (Nat.le_of_ble_eq_true rfl) (by decide +kernel) rfl ?_
      obtain ⟨h14, gh14, hf⟩ := Option.bind_eq_some_iff.mp hf
      refine C.putI fl_1841 gh14 (by decide +kernel) rfl ?_
      refine C.seg (pe := 116) (lv' := [(0, .ref r0), (2, .int i2), (3, .int i3), (4, .int i4)]) (st' := [.int i3, .ref r0]) [(.aload_n 0, 1, 0), (.iload_n 3, 1, 0)] (by decide +kernel) rfl ?_
      obtain ⟨x15, h16, gx15, hf⟩ := b2_some hf
      refine C.callVr C2 [.int i3] [] mv_2116 rfl (o_X15_done gx15) (w_X15_done gx15) (by omega) (by omega) (Nat.le_of_ble_eq_true rfl) (by decide +kernel) rfl ?_
      cases hf
      exact C.retI rfl (by decide +kernel) ⟨rfl, rfl⟩
    · replace hf := ifn c21 hf
      refine C.seg (pe := 46) (lv' := [(0, .ref r0), (2, .int i2), (3, .int i3), (4, .int i4)]) (st' := [.ref r0]) [(.aload_n 0, 1, 0)] (by decide +kernel) rfl ?_
      obtain ⟨a17, ga17, hf⟩ := Option.bind_eq_some_iff.mp hf
      refine C.rdA fr_1837 ga17 (by decide +kernel) rfl ?_
      refine C.seg (pe := 52) (lv' := [(0, .ref r0), (2, .int i2), (3, .int i3), (4, .int i4)]) (st' := [.ref r0, .int i4, .ref a17]) [(.iload 4, 2, 0), (.aload_n 0, 1, 0)] (by decide +kernel) rfl ?_
      obtain ⟨a18, ga18, hf⟩ := Option.bind_eq_some_iff.mp hf
      refine C.rdA fr_1829 ga18 (by decide +kernel) rfl ?_
      refine C.seg (pe := 57) (lv' := [(0, .ref r0), (2, .int i2), (3, .int i3), (4, .int i4)]) (st' := [.int i4, .ref a18, .int i4, .ref a17]) [(.iload 4, 2, 0)] (by decide +kernel) rfl ?_
      obtain ⟨x19, gx19, hf⟩ := Option.bind_eq_some_iff.mp hf
      refine C.ald 0 rfl gx19 (by decide +kernel) rfl ?_
      obtain ⟨h20, gh20, hf⟩ := Option.bind_eq_some_iff.mp hf
      refine C.ast gh20 (by decide +kernel) rfl ?_
      refine C.seg (pe := 62) (lv' := [(4, .int (i4 + 1)), (0, .ref r0), (2, .int i2), (3, .int i3)]) (st' := []) [(.iinc 4 1, 3, 1)] (by decide +kernel) rfl ?_
      refine C.goto (off := (-25)) (tgt := 37) (by decide +kernel) (by decide) ?_
      refine Vsub [1, 2, 3, 0] rfl ?_
      exact ih r0 i2 i3 (i4 + 1) h20 hf
def f_X15_sketch_21 (r0 : Nat) (h : AH) : Option (Int32 × AH) :=
  b2 (f_X15_refused r0 1 h) fun x1 h2 =>
  some (x1, h2)
set_option maxRecDepth 100000 in
set_option maxHeartbeats 4000000 in
theorem l_X15_sketch_21 {X : MX} {l : Launch} {G : GX} {h0 : AH} {rr : Int32} {hr : AH} (C : Cx X G RX15 cX15_sketch 5 (some .int) 362 7251 h0) (C2 : Cy X l "sketch" []) (r0 : Nat) (h : AH) (hf : f_X15_sketch_21 r0 h = some (rr, hr)) : V X G h0 (QI rr hr) 21 [(0, .ref r0)] [] h := by
  unfold f_X15_sketch_21 at hf
  refine C.seg (pe := 23) (lv' := [(0, .ref r0)]) (st' := [.int 1, .ref r0]) [(.aload_n 0, 1, 0), (.iconst 1, 1, 1)] (by decide +kernel) rfl ?_
  obtain ⟨x1, h2, gx1, hf⟩ := b2_some hf
  refine C.callVr C2 [.int 1] [] mv_2112 rfl (o_X15_refused gx1) (w_X15_refused gx1) (by omega) (by omega) (Nat.le_of_ble_eq_true rfl) (by decide +kernel) rfl ?_
  cases hf
  exact C.retI rfl (by decide +kernel) ⟨rfl, rfl⟩
def f_X15_sketch (a0 : Nat) (p1 : Int32) (p2 : Int32) (h : AH) : Option (Int32 × AH) :=
  if isO 15 h a0 = true then
    (pI 15 h a0 0 0).bind fun h1 =>
    b2 (f_X15_isDrawing a0 p1 h1) fun x2 h3 =>
    if x2 = 0 then
      f_X15_sketch_21 a0 h3
    else
      b2 (f_X15_isWall a0 p2 h3) fun x4 h5 =>
      if x4 = 0 then
        f_X15_sketch_21 a0 h5
      else
        b2 (f_X15_paintsOn a0 p1 p2 h5) fun x6 h7 =>
        f_X15_sketch_37 FU a0 p2 x6 0 h7
  else none
set_option maxRecDepth 100000 in
set_option maxHeartbeats 4000000 in
theorem w_X15_sketch {l : Launch} {G : GX} {a0 : Nat} {p1 : Int32} {p2 : Int32} {h : AH} {rr : Int32} {hr : AH} (hf : f_X15_sketch a0 p1 p2 h = some (rr, hr)) : Ct l G yX15_sketch 362 7251 [.ref a0, .int p1, .int p2] h (QI rr hr) := by
  unfold f_X15_sketch at hf
  obtain ⟨ho, hf⟩ := ifO hf
  refine Ct_of (own := RX15) (cc := cX15_sketch) (nL := 5) (ret := (some .int)) rfl rfl k_2314 (Nat.le_of_ble_eq_true rfl) (fun X C2 C => ?_)
  show V X G h (QI rr hr) 0 [(0, .ref a0), (1, .int p1), (2, .int p2)] [] h
  refine C.seg (pe := 2) (lv' := [(0, .ref a0), (1, .int p1), (2, .int p2)]) (st' := [.int 0, .ref a0]) [(.aload_n 0, 1, 0), (.iconst 0, 1, 0)] (by decide +kernel) rfl ?_
  obtain ⟨h1, gh1, hf⟩ := Option.bind_eq_some_iff.mp hf
  refine C.putI fl_1786 gh1 (by decide +kernel) rfl ?_
  refine C.seg (pe := 7) (lv' := [(0, .ref a0), (1, .int p1), (2, .int p2)]) (st' := [.int p1, .ref a0]) [(.aload_n 0, 1, 0), (.iload_n 1, 1, 0)] (by decide +kernel) rfl ?_
  obtain ⟨x2, h3, gx2, hf⟩ := b2_some hf
  refine C.callVr C2 [.int p1] [] mv_2315 rfl (o_X15_isDrawing gx2) (w_X15_isDrawing gx2) (by omega) (by omega) (Nat.le_of_ble_eq_true rfl) (by decide +kernel) rfl ?_
  refine C.if_eq (off := 11) (tgt := 21) (pf := 13) (by decide +kernel) (by decide) rfl (fun c9 => ?_) (fun c9 => ?_)
  · replace hf := ifp c9 hf
    refine Vsub [0] rfl ?_
    exact l_X15_sketch_21 C C2 a0 h3 hf
  · replace hf := ifn c9 hf
    refine C.seg (pe := 15) (lv' := [(0, .ref a0), (1, .int p1), (2, .int p2)]) (st' := [.int p2, .ref a0]) [(.aload_n 0, 1, 0), (.iload_n 2, 1, 0)] (by decide +kernel) rfl ?_
    obtain ⟨x4, h5, gx4, hf⟩ := b2_some hf
    refine C.callVr C2 [.int p2] [] mv_2124 rfl (o_X15_isWall gx4) (w_X15_isWall gx4) (by omega) (by omega) (Nat.le_of_ble_eq_true rfl) (by decide +kernel) rfl ?_
    refine C.if_ne (off := 9) (tgt := 27) (pf := 21) (by decide +kernel) (by decide) rfl (fun c8 => ?_) (fun c8 => ?_)
    · replace hf := ifn c8 hf
      refine C.seg (pe := 30) (lv' := [(0, .ref a0), (1, .int p1), (2, .int p2)]) (st' := [.int p2, .int p1, .ref a0]) [(.aload_n 0, 1, 0), (.iload_n 1, 1, 0), (.iload_n 2, 1, 0)] (by decide +kernel) rfl ?_
      obtain ⟨x6, h7, gx6, hf⟩ := b2_some hf
      refine C.callVr C2 [.int p1, .int p2] [] mv_2319 rfl (o_X15_paintsOn gx6) (w_X15_paintsOn gx6) (by omega) (by omega) (Nat.le_of_ble_eq_true rfl) (by decide +kernel) rfl ?_
      refine C.seg (pe := 37) (lv' := [(4, .int 0), (3, .int x6), (0, .ref a0), (1, .int p1), (2, .int p2)]) (st' := []) [(.istore_n 3, 1, 0), (.iconst 0, 1, 0), (.istore 4, 2, 0)] (by decide +kernel) rfl ?_
      refine Vsub [2, 4, 1, 0] rfl ?_
      exact l_X15_sketch_37 C C2 FU a0 p2 x6 0 h7 hf
    · replace hf := ifp c8 hf
      refine Vsub [0] rfl ?_
      exact l_X15_sketch_21 C C2 a0 h5 hf
theorem o_X15_sketch {a0 : Nat} {p1 : Int32} {p2 : Int32} {h : AH} {rr : Int32} {hr : AH} (hf : f_X15_sketch a0 p1 p2 h = some (rr, hr)) : isO 15 h a0 = true := by
  unfold f_X15_sketch at hf
  exact (ifO hf).1
/-! WallHouseModel.sketched(II)I -/
def f_X15_sketched_67 (si0 : Int32) (h : AH) : Option (Int32 × AH) :=
  some (si0, h)
set_option maxRecDepth 100000 in
set_option maxHeartbeats 4000000 in
theorem l_X15_sketched_67 {X : MX} {l : Launch} {G : GX} {h0 : AH} {rr : Int32} {hr : AH} (C : Cx X G RX15 cX15_sketched 4 (some .int) 1 22 h0) (C2 : Cy X l "sketched" []) (si0 : Int32) (h : AH) (hf : f_X15_sketched_67 si0 h = some (rr, hr)) : V X G h0 (QI rr hr) 67 [] [.int si0] h := by
  unfold f_X15_sketched_67 at hf
  cases hf
  exact C.retI rfl (by decide +kernel) ⟨rfl, rfl⟩
def f_X15_sketched_40 (h : AH) : Option (Int32 × AH) :=
  some ((-1), h)
set_option maxRecDepth 100000 in
set_option maxHeartbeats 4000000 in
theorem l_X15_sketched_40 {X : MX} {l : Launch} {G : GX} {h0 : AH} {rr : Int32} {hr : AH} (C : Cx X G RX15 cX15_sketched 4 (some .int) 1 22 h0) (C2 : Cy X l "sketched" []) (h : AH) (hf : f_X15_sketched_40 h = some (rr, hr)) : V X G h0 (QI rr hr) 40 [] [] h := by
  unfold f_X15_sketched_40 at hf
  refine C.seg (pe := 41) (lv' := []) (st' := [.int (-1)]) [(.iconst (-1), 1, (-1))] (by decide +kernel) rfl ?_
  cases hf
  exact C.retI rfl (by decide +kernel) ⟨rfl, rfl⟩
def f_X15_sketched (a0 : Nat) (p1 : Int32) (p2 : Int32) (h : AH) : Option (Int32 × AH) :=
  if isO 15 h a0 = true then
    (pI 15 h a0 0 0).bind fun h1 =>
    (gI 15 h1 a0 56).bind fun x2 =>
    if x2 = 0 then
      f_X15_sketched_40 h1
    else
      (gI 15 h1 a0 52).bind fun x3 =>
      b2 (f_X15_in p1 0 (x3 - 1) h1) fun x4 h5 =>
      if x4 = 0 then
        f_X15_sketched_40 h5
      else
        (gI 15 h5 a0 53).bind fun x6 =>
        b2 (f_X15_in p2 0 (x6 - 1) h5) fun x7 h8 =>
        if x7 = 0 then
          f_X15_sketched_40 h8
        else
          (gA 15 h8 a0 51).bind fun a9 =>
          (gI 15 h8 a0 52).bind fun x10 =>
          (aI 0 h8 a9 ((x10 * p2) + p1)).bind fun x11 =>
          if x11 = (-1) then
            f_X15_sketched_67 (-2) h8
          else
            f_X15_sketched_67 x11 h8
  else none
set_option maxRecDepth 100000 in
set_option maxHeartbeats 4000000 in
theorem w_X15_sketched {l : Launch} {G : GX} {a0 : Nat} {p1 : Int32} {p2 : Int32} {h : AH} {rr : Int32} {hr : AH} (hf : f_X15_sketched a0 p1 p2 h = some (rr, hr)) : Ct l G yX15_sketched 1 22 [.ref a0, .int p1, .int p2] h (QI rr hr) := by
  unfold f_X15_sketched at hf
  obtain ⟨ho, hf⟩ := ifO hf
  refine Ct_of (own := RX15) (cc := cX15_sketched) (nL := 4) (ret := (some .int)) rfl rfl k_2358 (Nat.le_of_ble_eq_true rfl) (fun X C2 C => ?_)
  show V X G h (QI rr hr) 0 [(0, .ref a0), (1, .int p1), (2, .int p2)] [] h
  refine C.seg (pe := 2) (lv' := [(0, .ref a0), (1, .int p1), (2, .int p2)]) (st' := [.int 0, .ref a0]) [(.aload_n 0, 1, 0), (.iconst 0, 1, 0)] (by decide +kernel) rfl ?_
  obtain ⟨h1, gh1, hf⟩ := Option.bind_eq_some_iff.mp hf
  refine C.putI fl_1786 gh1 (by decide +kernel) rfl ?_
  refine C.seg (pe := 6) (lv' := [(0, .ref a0), (1, .int p1), (2, .int p2)]) (st' := [.ref a0]) [(.aload_n 0, 1, 0)] (by decide +kernel) rfl ?_
  obtain ⟨x2, gx2, hf⟩ := Option.bind_eq_some_iff.mp hf
  refine C.rdI fr_1842 gx2 (by decide +kernel) rfl ?_
  refine C.if_eq (off := 31) (tgt := 40) (pf := 12) (by decide +kernel) (by decide) rfl (fun c15 => ?_) (fun c15 => ?_)
  · replace hf := ifp c15 hf
    refine Vsub [] rfl ?_
    exact l_X15_sketched_40 C C2 h1 hf
  · replace hf := ifn c15 hf
    refine C.seg (pe := 15) (lv' := [(0, .ref a0), (1, .int p1), (2, .int p2)]) (st' := [.ref a0, .int 0, .int p1]) [(.iload_n 1, 1, 0), (.iconst 0, 1, 0), (.aload_n 0, 1, 0)] (by decide +kernel) rfl ?_
    obtain ⟨x3, gx3, hf⟩ := Option.bind_eq_some_iff.mp hf
    refine C.rdI fr_1838 gx3 (by decide +kernel) rfl ?_
    refine C.seg (pe := 20) (lv' := [(0, .ref a0), (1, .int p1), (2, .int p2)]) (st' := [.int (x3 - 1), .int 0, .int p1]) [(.iconst 1, 1, 1), (.isub, 1, 0)] (by decide +kernel) rfl ?_
    obtain ⟨x4, h5, gx4, hf⟩ := b2_some hf
    refine C.callSr C2 [.int p1, .int 0, .int (x3 - 1)] [] ms_2109 rfl (w_X15_in gx4) (by omega) (by omega) (Nat.le_of_ble_eq_true rfl) (by decide +kernel) rfl ?_
    refine C.if_eq (off := 17) (tgt := 40) (pf := 26) (by decide +kernel) (by decide) rfl (fun c14 => ?_) (fun c14 => ?_)
    · replace hf := ifp c14 hf
      refine Vsub [] rfl ?_
      exact l_X15_sketched_40 C C2 h5 hf
    · replace hf := ifn c14 hf
      refine C.seg (pe := 29) (lv' := [(0, .ref a0), (1, .int p1), (2, .int p2)]) (st' := [.ref a0, .int 0, .int p2]) [(.iload_n 2, 1, 0), (.iconst 0, 1, 0), (.aload_n 0, 1, 0)] (by decide +kernel) rfl ?_
      obtain ⟨x6, gx6, hf⟩ := Option.bind_eq_some_iff.mp hf
      refine C.rdI fr_1839 gx6 (by decide +kernel) rfl ?_
      refine C.seg (pe := 34) (lv' := [(0, .ref a0), (1, .int p1), (2, .int p2)]) (st' := [.int (x6 - 1), .int 0, .int p2]) [(.iconst 1, 1, 1), (.isub, 1, 0)] (by decide +kernel) rfl ?_
      obtain ⟨x7, h8, gx7, hf⟩ := b2_some hf
      refine C.callSr C2 [.int p2, .int 0, .int (x6 - 1)] [] ms_2109 rfl (w_X15_in gx7) (by omega) (by omega) (Nat.le_of_ble_eq_true rfl) (by decide +kernel) rfl ?_
      refine C.if_ne (off := 5) (tgt := 42) (pf := 40) (by decide +kernel) (by decide) rfl (fun c13 => ?_) (fun c13 => ?_)
      · replace hf := ifn c13 hf
        refine C.seg (pe := 43) (lv' := [(0, .ref a0), (1, .int p1), (2, .int p2)]) (st' := [.ref a0]) [(.aload_n 0, 1, 0)] (by decide +kernel) rfl ?_
        obtain ⟨a9, ga9, hf⟩ := Option.bind_eq_some_iff.mp hf
        refine C.rdA fr_1837 ga9 (by decide +kernel) rfl ?_
        refine C.seg (pe := 47) (lv' := [(0, .ref a0), (1, .int p1), (2, .int p2)]) (st' := [.ref a0, .ref a9]) [(.aload_n 0, 1, 0)] (by decide +kernel) rfl ?_
        obtain ⟨x10, gx10, hf⟩ := Option.bind_eq_some_iff.mp hf
        refine C.rdI fr_1838 gx10 (by decide +kernel) rfl ?_
        refine C.seg (pe := 54) (lv' := [(0, .ref a0), (1, .int p1), (2, .int p2)]) (st' := [.int ((x10 * p2) + p1), .ref a9]) [(.iload_n 2, 1, 0), (.imul, 1, 0), (.iload_n 1, 1, 0), (.iadd, 1, 0)] (by decide +kernel) rfl ?_
        obtain ⟨x11, gx11, hf⟩ := Option.bind_eq_some_iff.mp hf
        refine C.ald 0 rfl gx11 (by decide +kernel) rfl ?_
        refine C.seg (pe := 58) (lv' := [(3, .int x11), (0, .ref a0), (1, .int p1), (2, .int p2)]) (st' := [.int (-1), .int x11]) [(.istore_n 3, 1, 0), (.iload_n 3, 1, 0), (.iconst (-1), 1, (-1))] (by decide +kernel) rfl ?_
        refine C.icmp_ne (off := 8) (tgt := 66) (pf := 61) (by decide +kernel) (by decide) rfl (fun c12 => ?_) (fun c12 => ?_)
        · replace hf := ifn c12 hf
          refine C.seg (pe := 67) (lv' := [(3, .int x11), (0, .ref a0), (1, .int p1), (2, .int p2)]) (st' := [.int x11]) [(.iload_n 3, 1, 0)] (by decide +kernel) rfl ?_
          refine Vsub [] rfl ?_
          exact l_X15_sketched_67 C C2 x11 h8 hf
        · replace hf := ifp c12 hf
          refine C.seg (pe := 63) (lv' := [(3, .int x11), (0, .ref a0), (1, .int p1), (2, .int p2)]) (st' := [.int (-2)]) [(.bipush (-2), 2, (-2))] (by decide +kernel) rfl ?_
          refine C.goto (off := 4) (tgt := 67) (by decide +kernel) (by decide) ?_
          refine Vsub [] rfl ?_
          exact l_X15_sketched_67 C C2 (-2) h8 hf
      · replace hf := ifp c13 hf
        refine Vsub [] rfl ?_
        exact l_X15_sketched_40 C C2 h8 hf
theorem o_X15_sketched {a0 : Nat} {p1 : Int32} {p2 : Int32} {h : AH} {rr : Int32} {hr : AH} (hf : f_X15_sketched a0 p1 p2 h = some (rr, hr)) : isO 15 h a0 = true := by
  unfold f_X15_sketched at hf
  exact (ifO hf).1
/-! WallHouseModel.sketchOf(I)I -/
def f_X15_sketchOf_92 (k69 : Nat → Int32 → Int32 → Int32 → AH → Option (Int32 × AH)) (r0 : Nat) (i1 : Int32) (i3 : Int32) (si0 : Int32) (si1 : Int32) (h : AH) : Option (Int32 × AH) :=
  k69 r0 i1 (si1 + si0) (i3 + 1) h
set_option maxRecDepth 100000 in
set_option maxHeartbeats 4000000 in
theorem l_X15_sketchOf_92 {X : MX} {l : Launch} {G : GX} {h0 : AH} {rr : Int32} {hr : AH} (C : Cx X G RX15 cX15_sketchOf 4 (some .int) 1 22 h0) (C2 : Cy X l "sketchOf" []) {k69 : Nat → Int32 → Int32 → Int32 → AH → Option (Int32 × AH)} (hk69 : ∀ (r0 : Nat) (i1 : Int32) (i2 : Int32) (i3 : Int32) (h : AH), k69 r0 i1 i2 i3 h = some (rr, hr) → V X G h0 (QI rr hr) 69 [(0, .ref r0), (1, .int i1), (2, .int i2), (3, .int i3)] [] h) (r0 : Nat) (i1 : Int32) (i3 : Int32) (si0 : Int32) (si1 : Int32) (h : AH) (hf : f_X15_sketchOf_92 k69 r0 i1 i3 si0 si1 h = some (rr, hr)) : V X G h0 (QI rr hr) 92 [(0, .ref r0), (1, .int i1), (3, .int i3)] [.int si0, .int si1] h := by
  unfold f_X15_sketchOf_92 at hf
  refine C.seg (pe := 97) (lv' := [(3, .int (i3 + 1)), (2, .int (si1 + si0)), (0, .ref r0), (1, .int i1)]) (st' := []) [(.iadd, 1, 0), (.istore_n 2, 1, 0), (.iinc 3 1, 3, 1)] (by decide +kernel) rfl ?_
  refine C.goto (off := (-28)) (tgt := 69) (by decide +kernel) (by decide) ?_
  refine Vsub [2, 3, 1, 0] rfl ?_
  exact hk69 r0 i1 (si1 + si0) (i3 + 1) h hf
def f_X15_sketchOf_69 : Nat → Nat → Int32 → Int32 → Int32 → AH → Option (Int32 × AH)
  | 0, _, _, _, _, _ => none
  | n + 1, r0, i1, i2, i3, h =>
    if 192 ≤ i3 then
      some (i2, h)
    else
      (gA 15 h r0 51).bind fun a1 =>
      (aI 0 h a1 i3).bind fun x2 =>
      if x2 = i1 then
        f_X15_sketchOf_92 (f_X15_sketchOf_69 n) r0 i1 i3 1 i2 h
      else
        f_X15_sketchOf_92 (f_X15_sketchOf_69 n) r0 i1 i3 0 i2 h
set_option maxRecDepth 100000 in
set_option maxHeartbeats 4000000 in
theorem l_X15_sketchOf_69 {X : MX} {l : Launch} {G : GX} {h0 : AH} {rr : Int32} {hr : AH} (C : Cx X G RX15 cX15_sketchOf 4 (some .int) 1 22 h0) (C2 : Cy X l "sketchOf" []) : ∀ (n : Nat) (r0 : Nat) (i1 : Int32) (i2 : Int32) (i3 : Int32) (h : AH), f_X15_sketchOf_69 n r0 i1 i2 i3 h = some (rr, hr) → V X G h0 (QI rr hr) 69 [(0, .ref r0), (1, .int i1), (2, .int i2), (3, .int i3)] [] h := by
  intro n
  induction n with
  | zero => intro r0 i1 i2 i3 h hf; rw [f_X15_sketchOf_69] at hf; cases hf
  | succ n ih =>
    intro r0 i1 i2 i3 h hf
    rw [f_X15_sketchOf_69] at hf
    refine C.seg (pe := 73) (lv' := [(0, .ref r0), (1, .int i1), (2, .int i2), (3, .int i3)]) (st' := [.int 192, .int i3]) [(.iload_n 3, 1, 0), (.sipush 192, 3, 192)] (by decide +kernel) rfl ?_
    refine C.icmp_ge (off := 27) (tgt := 100) (pf := 76) (by decide +kernel) (by decide) rfl (fun c4 => ?_) (fun c4 => ?_)
    · replace hf := ifp c4 hf
      refine C.seg (pe := 101) (lv' := [(0, .ref r0), (1, .int i1), (2, .int i2), (3, .int i3)]) (st' := [.int i2]) [(.iload_n 2, 1, 0)] (by decide +kernel) rfl ?_
      cases hf
      exact C.retI rfl (by decide +kernel) ⟨rfl, rfl⟩
    · replace hf := ifn c4 hf
      refine C.seg (pe := 78) (lv' := [(0, .ref r0), (1, .int i1), (2, .int i2), (3, .int i3)]) (st' := [.ref r0, .int i2]) [(.iload_n 2, 1, 0), (.aload_n 0, 1, 0)] (by decide +kernel) rfl ?_
      obtain ⟨a1, ga1, hf⟩ := Option.bind_eq_some_iff.mp hf
      refine C.rdA fr_1837 ga1 (by decide +kernel) rfl ?_
      refine C.seg (pe := 82) (lv' := [(0, .ref r0), (1, .int i1), (2, .int i2), (3, .int i3)]) (st' := [.int i3, .ref a1, .int i2]) [(.iload_n 3, 1, 0)] (by decide +kernel) rfl ?_
      obtain ⟨x2, gx2, hf⟩ := Option.bind_eq_some_iff.mp hf
      refine C.ald 0 rfl gx2 (by decide +kernel) rfl ?_
      refine C.seg (pe := 84) (lv' := [(0, .ref r0), (1, .int i1), (2, .int i2), (3, .int i3)]) (st' := [.int i1, .int x2, .int i2]) [(.iload_n 1, 1, 0)] (by decide +kernel) rfl ?_
      refine C.icmp_ne (off := 7) (tgt := 91) (pf := 87) (by decide +kernel) (by decide) rfl (fun c3 => ?_) (fun c3 => ?_)
      · replace hf := ifn c3 hf
        refine C.seg (pe := 92) (lv' := [(0, .ref r0), (1, .int i1), (2, .int i2), (3, .int i3)]) (st' := [.int 0, .int i2]) [(.iconst 0, 1, 0)] (by decide +kernel) rfl ?_
        refine Vsub [0, 1, 3] rfl ?_
        exact l_X15_sketchOf_92 C C2 ih r0 i1 i3 0 i2 h hf
      · replace hf := ifp c3 hf
        refine C.seg (pe := 88) (lv' := [(0, .ref r0), (1, .int i1), (2, .int i2), (3, .int i3)]) (st' := [.int 1, .int i2]) [(.iconst 1, 1, 1)] (by decide +kernel) rfl ?_
        refine C.goto (off := 4) (tgt := 92) (by decide +kernel) (by decide) ?_
        refine Vsub [0, 1, 3] rfl ?_
        exact l_X15_sketchOf_92 C C2 ih r0 i1 i3 1 i2 h hf
def f_X15_sketchOf_53 (si0 : Int32) (h : AH) : Option (Int32 × AH) :=
  some (si0, h)
set_option maxRecDepth 100000 in
set_option maxHeartbeats 4000000 in
theorem l_X15_sketchOf_53 {X : MX} {l : Launch} {G : GX} {h0 : AH} {rr : Int32} {hr : AH} (C : Cx X G RX15 cX15_sketchOf 4 (some .int) 1 22 h0) (C2 : Cy X l "sketchOf" []) (si0 : Int32) (h : AH) (hf : f_X15_sketchOf_53 si0 h = some (rr, hr)) : V X G h0 (QI rr hr) 53 [] [.int si0] h := by
  unfold f_X15_sketchOf_53 at hf
  cases hf
  exact C.retI rfl (by decide +kernel) ⟨rfl, rfl⟩
def f_X15_sketchOf_22 (h : AH) : Option (Int32 × AH) :=
  some ((-1), h)
set_option maxRecDepth 100000 in
set_option maxHeartbeats 4000000 in
theorem l_X15_sketchOf_22 {X : MX} {l : Launch} {G : GX} {h0 : AH} {rr : Int32} {hr : AH} (C : Cx X G RX15 cX15_sketchOf 4 (some .int) 1 22 h0) (C2 : Cy X l "sketchOf" []) (h : AH) (hf : f_X15_sketchOf_22 h = some (rr, hr)) : V X G h0 (QI rr hr) 22 [] [] h := by
  unfold f_X15_sketchOf_22 at hf
  refine C.seg (pe := 23) (lv' := []) (st' := [.int (-1)]) [(.iconst (-1), 1, (-1))] (by decide +kernel) rfl ?_
  cases hf
  exact C.retI rfl (by decide +kernel) ⟨rfl, rfl⟩
def f_X15_sketchOf (a0 : Nat) (p1 : Int32) (h : AH) : Option (Int32 × AH) :=
  if isO 15 h a0 = true then
    (pI 15 h a0 0 0).bind fun h1 =>
    (gI 15 h1 a0 56).bind fun x2 =>
    if x2 = 0 then
      f_X15_sketchOf_22 h1
    else
      b2 (f_X15_in p1 0 10 h1) fun x3 h4 =>
      if x3 = 0 then
        f_X15_sketchOf_22 h4
      else
        if p1 = 8 then
          (gI 15 h4 a0 54).bind fun x10 =>
          some (x10, h4)
        else
          if p1 = 9 then
            (gI 15 h4 a0 57).bind fun x7 =>
            if x7 = 0 then
              f_X15_sketchOf_53 0 h4
            else
              f_X15_sketchOf_53 1 h4
          else
            if p1 = 10 then
              (gI 15 h4 a0 55).bind fun x5 =>
              some (x5, h4)
            else
              f_X15_sketchOf_69 FU a0 p1 0 0 h4
  else none
set_option maxRecDepth 100000 in
set_option maxHeartbeats 4000000 in
theorem w_X15_sketchOf {l : Launch} {G : GX} {a0 : Nat} {p1 : Int32} {h : AH} {rr : Int32} {hr : AH} (hf : f_X15_sketchOf a0 p1 h = some (rr, hr)) : Ct l G yX15_sketchOf 1 22 [.ref a0, .int p1] h (QI rr hr) := by
  unfold f_X15_sketchOf at hf
  obtain ⟨ho, hf⟩ := ifO hf
  refine Ct_of (own := RX15) (cc := cX15_sketchOf) (nL := 4) (ret := (some .int)) rfl rfl k_2362 (Nat.le_of_ble_eq_true rfl) (fun X C2 C => ?_)
  show V X G h (QI rr hr) 0 [(0, .ref a0), (1, .int p1)] [] h
  refine C.seg (pe := 2) (lv' := [(0, .ref a0), (1, .int p1)]) (st' := [.int 0, .ref a0]) [(.aload_n 0, 1, 0), (.iconst 0, 1, 0)] (by decide +kernel) rfl ?_
  obtain ⟨h1, gh1, hf⟩ := Option.bind_eq_some_iff.mp hf
  refine C.putI fl_1786 gh1 (by decide +kernel) rfl ?_
  refine C.seg (pe := 6) (lv' := [(0, .ref a0), (1, .int p1)]) (st' := [.ref a0]) [(.aload_n 0, 1, 0)] (by decide +kernel) rfl ?_
  obtain ⟨x2, gx2, hf⟩ := Option.bind_eq_some_iff.mp hf
  refine C.rdI fr_1842 gx2 (by decide +kernel) rfl ?_
  refine C.if_eq (off := 13) (tgt := 22) (pf := 12) (by decide +kernel) (by decide) rfl (fun c13 => ?_) (fun c13 => ?_)
  · replace hf := ifp c13 hf
    refine Vsub [] rfl ?_
    exact l_X15_sketchOf_22 C C2 h1 hf
  · replace hf := ifn c13 hf
    refine C.seg (pe := 16) (lv' := [(0, .ref a0), (1, .int p1)]) (st' := [.int 10, .int 0, .int p1]) [(.iload_n 1, 1, 0), (.iconst 0, 1, 0), (.bipush 10, 2, 10)] (by decide +kernel) rfl ?_
    obtain ⟨x3, h4, gx3, hf⟩ := b2_some hf
    refine C.callSr C2 [.int p1, .int 0, .int 10] [] ms_2109 rfl (w_X15_in gx3) (by omega) (by omega) (Nat.le_of_ble_eq_true rfl) (by decide +kernel) rfl ?_
    refine C.if_ne (off := 5) (tgt := 24) (pf := 22) (by decide +kernel) (by decide) rfl (fun c12 => ?_) (fun c12 => ?_)
    · replace hf := ifn c12 hf
      refine C.seg (pe := 27) (lv' := [(0, .ref a0), (1, .int p1)]) (st' := [.int 8, .int p1]) [(.iload_n 1, 1, 0), (.bipush 8, 2, 8)] (by decide +kernel) rfl ?_
      refine C.icmp_ne (off := 8) (tgt := 35) (pf := 30) (by decide +kernel) (by decide) rfl (fun c11 => ?_) (fun c11 => ?_)
      · replace hf := ifn c11 hf
        refine C.seg (pe := 38) (lv' := [(0, .ref a0), (1, .int p1)]) (st' := [.int 9, .int p1]) [(.iload_n 1, 1, 0), (.bipush 9, 2, 9)] (by decide +kernel) rfl ?_
        refine C.icmp_ne (off := 16) (tgt := 54) (pf := 41) (by decide +kernel) (by decide) rfl (fun c9 => ?_) (fun c9 => ?_)
        · replace hf := ifn c9 hf
          refine C.seg (pe := 57) (lv' := [(0, .ref a0), (1, .int p1)]) (st' := [.int 10, .int p1]) [(.iload_n 1, 1, 0), (.bipush 10, 2, 10)] (by decide +kernel) rfl ?_
          refine C.icmp_ne (off := 8) (tgt := 65) (pf := 60) (by decide +kernel) (by decide) rfl (fun c6 => ?_) (fun c6 => ?_)
          · replace hf := ifn c6 hf
            refine C.seg (pe := 69) (lv' := [(3, .int 0), (2, .int 0), (0, .ref a0), (1, .int p1)]) (st' := []) [(.iconst 0, 1, 0), (.istore_n 2, 1, 0), (.iconst 0, 1, 0), (.istore_n 3, 1, 0)] (by decide +kernel) rfl ?_
            refine Vsub [2, 3, 1, 0] rfl ?_
            exact l_X15_sketchOf_69 C C2 FU a0 p1 0 0 h4 hf
          · replace hf := ifp c6 hf
            refine C.seg (pe := 61) (lv' := [(0, .ref a0), (1, .int p1)]) (st' := [.ref a0]) [(.aload_n 0, 1, 0)] (by decide +kernel) rfl ?_
            obtain ⟨x5, gx5, hf⟩ := Option.bind_eq_some_iff.mp hf
            refine C.rdI fr_1841 gx5 (by decide +kernel) rfl ?_
            cases hf
            exact C.retI rfl (by decide +kernel) ⟨rfl, rfl⟩
        · replace hf := ifp c9 hf
          refine C.seg (pe := 42) (lv' := [(0, .ref a0), (1, .int p1)]) (st' := [.ref a0]) [(.aload_n 0, 1, 0)] (by decide +kernel) rfl ?_
          obtain ⟨x7, gx7, hf⟩ := Option.bind_eq_some_iff.mp hf
          refine C.rdI fr_1843 gx7 (by decide +kernel) rfl ?_
          refine C.if_eq (off := 7) (tgt := 52) (pf := 48) (by decide +kernel) (by decide) rfl (fun c8 => ?_) (fun c8 => ?_)
          · replace hf := ifp c8 hf
            refine C.seg (pe := 53) (lv' := [(0, .ref a0), (1, .int p1)]) (st' := [.int 0]) [(.iconst 0, 1, 0)] (by decide +kernel) rfl ?_
            refine Vsub [] rfl ?_
            exact l_X15_sketchOf_53 C C2 0 h4 hf
          · replace hf := ifn c8 hf
            refine C.seg (pe := 49) (lv' := [(0, .ref a0), (1, .int p1)]) (st' := [.int 1]) [(.iconst 1, 1, 1)] (by decide +kernel) rfl ?_
            refine C.goto (off := 4) (tgt := 53) (by decide +kernel) (by decide) ?_
            refine Vsub [] rfl ?_
            exact l_X15_sketchOf_53 C C2 1 h4 hf
      · replace hf := ifp c11 hf
        refine C.seg (pe := 31) (lv' := [(0, .ref a0), (1, .int p1)]) (st' := [.ref a0]) [(.aload_n 0, 1, 0)] (by decide +kernel) rfl ?_
        obtain ⟨x10, gx10, hf⟩ := Option.bind_eq_some_iff.mp hf
        refine C.rdI fr_1840 gx10 (by decide +kernel) rfl ?_
        cases hf
        exact C.retI rfl (by decide +kernel) ⟨rfl, rfl⟩
    · replace hf := ifp c12 hf
      refine Vsub [] rfl ?_
      exact l_X15_sketchOf_22 C C2 h4 hf
theorem o_X15_sketchOf {a0 : Nat} {p1 : Int32} {h : AH} {rr : Int32} {hr : AH} (hf : f_X15_sketchOf a0 p1 h = some (rr, hr)) : isO 15 h a0 = true := by
  unfold f_X15_sketchOf at hf
  exact (ifO hf).1
/-! WallHouseModel.unlike(I)I -/
def f_X15_unlike_92 (k52 : Nat → Int32 → Int32 → Int32 → AH → Option (Int32 × AH)) (r0 : Nat) (i1 : Int32) (i3 : Int32) (si0 : Int32) (si1 : Int32) (h : AH) : Option (Int32 × AH) :=
  k52 r0 i1 (si1 + si0) (i3 + 1) h
set_option maxRecDepth 100000 in
set_option maxHeartbeats 4000000 in
theorem l_X15_unlike_92 {X : MX} {l : Launch} {G : GX} {h0 : AH} {rr : Int32} {hr : AH} (C : Cx X G RX15 cX15_unlike 4 (some .int) 1 21 h0) (C2 : Cy X l "unlike" []) {k52 : Nat → Int32 → Int32 → Int32 → AH → Option (Int32 × AH)} (hk52 : ∀ (r0 : Nat) (i1 : Int32) (i2 : Int32) (i3 : Int32) (h : AH), k52 r0 i1 i2 i3 h = some (rr, hr) → V X G h0 (QI rr hr) 52 [(0, .ref r0), (1, .int i1), (2, .int i2), (3, .int i3)] [] h) (r0 : Nat) (i1 : Int32) (i3 : Int32) (si0 : Int32) (si1 : Int32) (h : AH) (hf : f_X15_unlike_92 k52 r0 i1 i3 si0 si1 h = some (rr, hr)) : V X G h0 (QI rr hr) 92 [(0, .ref r0), (1, .int i1), (3, .int i3)] [.int si0, .int si1] h := by
  unfold f_X15_unlike_92 at hf
  refine C.seg (pe := 97) (lv' := [(3, .int (i3 + 1)), (2, .int (si1 + si0)), (0, .ref r0), (1, .int i1)]) (st' := []) [(.iadd, 1, 0), (.istore_n 2, 1, 0), (.iinc 3 1, 3, 1)] (by decide +kernel) rfl ?_
  refine C.goto (off := (-45)) (tgt := 52) (by decide +kernel) (by decide) ?_
  refine Vsub [2, 3, 1, 0] rfl ?_
  exact hk52 r0 i1 (si1 + si0) (i3 + 1) h hf
def f_X15_unlike_52 : Nat → Nat → Int32 → Int32 → Int32 → AH → Option (Int32 × AH)
  | 0, _, _, _, _, _ => none
  | n + 1, r0, i1, i2, i3, h =>
    (gI 15 h r0 52).bind fun x1 =>
    (gI 15 h r0 53).bind fun x2 =>
    if x1 * x2 ≤ i3 then
      some (i2, h)
    else
      (gA 15 h r0 51).bind fun a3 =>
      (aI 0 h a3 i3).bind fun x4 =>
      (gA 15 h r0 19).bind fun a5 =>
      (aI 0 h a5 ((192 * i1) + i3)).bind fun x6 =>
      if x4 = x6 then
        f_X15_unlike_92 (f_X15_unlike_52 n) r0 i1 i3 0 i2 h
      else
        f_X15_unlike_92 (f_X15_unlike_52 n) r0 i1 i3 1 i2 h
set_option maxRecDepth 100000 in
set_option maxHeartbeats 4000000 in
theorem l_X15_unlike_52 {X : MX} {l : Launch} {G : GX} {h0 : AH} {rr : Int32} {hr : AH} (C : Cx X G RX15 cX15_unlike 4 (some .int) 1 21 h0) (C2 : Cy X l "unlike" []) : ∀ (n : Nat) (r0 : Nat) (i1 : Int32) (i2 : Int32) (i3 : Int32) (h : AH), f_X15_unlike_52 n r0 i1 i2 i3 h = some (rr, hr) → V X G h0 (QI rr hr) 52 [(0, .ref r0), (1, .int i1), (2, .int i2), (3, .int i3)] [] h := by
  intro n
  induction n with
  | zero => intro r0 i1 i2 i3 h hf; rw [f_X15_unlike_52] at hf; cases hf
  | succ n ih =>
    intro r0 i1 i2 i3 h hf
    rw [f_X15_unlike_52] at hf
    refine C.seg (pe := 54) (lv' := [(0, .ref r0), (1, .int i1), (2, .int i2), (3, .int i3)]) (st' := [.ref r0, .int i3]) [(.iload_n 3, 1, 0), (.aload_n 0, 1, 0)] (by decide +kernel) rfl ?_
    obtain ⟨x1, gx1, hf⟩ := Option.bind_eq_some_iff.mp hf
    refine C.rdI fr_1838 gx1 (by decide +kernel) rfl ?_
    refine C.seg (pe := 58) (lv' := [(0, .ref r0), (1, .int i1), (2, .int i2), (3, .int i3)]) (st' := [.ref r0, .int x1, .int i3]) [(.aload_n 0, 1, 0)] (by decide +kernel) rfl ?_
    obtain ⟨x2, gx2, hf⟩ := Option.bind_eq_some_iff.mp hf
    refine C.rdI fr_1839 gx2 (by decide +kernel) rfl ?_
    refine C.seg (pe := 62) (lv' := [(0, .ref r0), (1, .int i1), (2, .int i2), (3, .int i3)]) (st' := [.int (x1 * x2), .int i3]) [(.imul, 1, 0)] (by decide +kernel) rfl ?_
    refine C.icmp_ge (off := 38) (tgt := 100) (pf := 65) (by decide +kernel) (by decide) rfl (fun c8 => ?_) (fun c8 => ?_)
    · replace hf := ifp c8 hf
      refine C.seg (pe := 101) (lv' := [(0, .ref r0), (1, .int i1), (2, .int i2), (3, .int i3)]) (st' := [.int i2]) [(.iload_n 2, 1, 0)] (by decide +kernel) rfl ?_
      cases hf
      exact C.retI rfl (by decide +kernel) ⟨rfl, rfl⟩
    · replace hf := ifn c8 hf
      refine C.seg (pe := 67) (lv' := [(0, .ref r0), (1, .int i1), (2, .int i2), (3, .int i3)]) (st' := [.ref r0, .int i2]) [(.iload_n 2, 1, 0), (.aload_n 0, 1, 0)] (by decide +kernel) rfl ?_
      obtain ⟨a3, ga3, hf⟩ := Option.bind_eq_some_iff.mp hf
      refine C.rdA fr_1837 ga3 (by decide +kernel) rfl ?_
      refine C.seg (pe := 71) (lv' := [(0, .ref r0), (1, .int i1), (2, .int i2), (3, .int i3)]) (st' := [.int i3, .ref a3, .int i2]) [(.iload_n 3, 1, 0)] (by decide +kernel) rfl ?_
      obtain ⟨x4, gx4, hf⟩ := Option.bind_eq_some_iff.mp hf
      refine C.ald 0 rfl gx4 (by decide +kernel) rfl ?_
      refine C.seg (pe := 73) (lv' := [(0, .ref r0), (1, .int i1), (2, .int i2), (3, .int i3)]) (st' := [.ref r0, .int x4, .int i2]) [(.aload_n 0, 1, 0)] (by decide +kernel) rfl ?_
      obtain ⟨a5, ga5, hf⟩ := Option.bind_eq_some_iff.mp hf
      refine C.rdA fr_1805 ga5 (by decide +kernel) rfl ?_
      refine C.seg (pe := 83) (lv' := [(0, .ref r0), (1, .int i1), (2, .int i2), (3, .int i3)]) (st' := [.int ((192 * i1) + i3), .ref a5, .int x4, .int i2]) [(.sipush 192, 3, 192), (.iload_n 1, 1, 0), (.imul, 1, 0), (.iload_n 3, 1, 0), (.iadd, 1, 0)] (by decide +kernel) rfl ?_
      obtain ⟨x6, gx6, hf⟩ := Option.bind_eq_some_iff.mp hf
      refine C.ald 0 rfl gx6 (by decide +kernel) rfl ?_
      refine C.icmp_ne (off := 7) (tgt := 91) (pf := 87) (by decide +kernel) (by decide) rfl (fun c7 => ?_) (fun c7 => ?_)
      · replace hf := ifn c7 hf
        refine C.seg (pe := 92) (lv' := [(0, .ref r0), (1, .int i1), (2, .int i2), (3, .int i3)]) (st' := [.int 1, .int i2]) [(.iconst 1, 1, 1)] (by decide +kernel) rfl ?_
        refine Vsub [0, 1, 3] rfl ?_
        exact l_X15_unlike_92 C C2 ih r0 i1 i3 1 i2 h hf
      · replace hf := ifp c7 hf
        refine C.seg (pe := 88) (lv' := [(0, .ref r0), (1, .int i1), (2, .int i2), (3, .int i3)]) (st' := [.int 0, .int i2]) [(.iconst 0, 1, 0)] (by decide +kernel) rfl ?_
        refine C.goto (off := 4) (tgt := 92) (by decide +kernel) (by decide) ?_
        refine Vsub [0, 1, 3] rfl ?_
        exact l_X15_unlike_92 C C2 ih r0 i1 i3 0 i2 h hf
def f_X15_unlike_46 (h : AH) : Option (Int32 × AH) :=
  some ((-1), h)
set_option maxRecDepth 100000 in
set_option maxHeartbeats 4000000 in
theorem l_X15_unlike_46 {X : MX} {l : Launch} {G : GX} {h0 : AH} {rr : Int32} {hr : AH} (C : Cx X G RX15 cX15_unlike 4 (some .int) 1 21 h0) (C2 : Cy X l "unlike" []) (h : AH) (hf : f_X15_unlike_46 h = some (rr, hr)) : V X G h0 (QI rr hr) 46 [] [] h := by
  unfold f_X15_unlike_46 at hf
  refine C.seg (pe := 47) (lv' := []) (st' := [.int (-1)]) [(.iconst (-1), 1, (-1))] (by decide +kernel) rfl ?_
  cases hf
  exact C.retI rfl (by decide +kernel) ⟨rfl, rfl⟩
def f_X15_unlike (a0 : Nat) (p1 : Int32) (h : AH) : Option (Int32 × AH) :=
  if isO 15 h a0 = true then
    (pI 15 h a0 0 0).bind fun h1 =>
    (gI 15 h1 a0 56).bind fun x2 =>
    if x2 = 0 then
      f_X15_unlike_46 h1
    else
      b2 (f_X15_isWall a0 p1 h1) fun x3 h4 =>
      if x3 = 0 then
        f_X15_unlike_46 h4
      else
        (gA 15 h4 a0 6).bind fun a5 =>
        (aI 0 h4 a5 p1).bind fun x6 =>
        (gI 15 h4 a0 52).bind fun x7 =>
        if x6 = x7 then
          (gA 15 h4 a0 7).bind fun a8 =>
          (aI 0 h4 a8 p1).bind fun x9 =>
          (gI 15 h4 a0 53).bind fun x10 =>
          if x9 = x10 then
            f_X15_unlike_52 FU a0 p1 0 0 h4
          else
            f_X15_unlike_46 h4
        else
          f_X15_unlike_46 h4
  else none
set_option maxRecDepth 100000 in
set_option maxHeartbeats 4000000 in
theorem w_X15_unlike {l : Launch} {G : GX} {a0 : Nat} {p1 : Int32} {h : AH} {rr : Int32} {hr : AH} (hf : f_X15_unlike a0 p1 h = some (rr, hr)) : Ct l G yX15_unlike 1 21 [.ref a0, .int p1] h (QI rr hr) := by
  unfold f_X15_unlike at hf
  obtain ⟨ho, hf⟩ := ifO hf
  refine Ct_of (own := RX15) (cc := cX15_unlike) (nL := 4) (ret := (some .int)) rfl rfl k_2366 (Nat.le_of_ble_eq_true rfl) (fun X C2 C => ?_)
  show V X G h (QI rr hr) 0 [(0, .ref a0), (1, .int p1)] [] h
  refine C.seg (pe := 2) (lv' := [(0, .ref a0), (1, .int p1)]) (st' := [.int 0, .ref a0]) [(.aload_n 0, 1, 0), (.iconst 0, 1, 0)] (by decide +kernel) rfl ?_
  obtain ⟨h1, gh1, hf⟩ := Option.bind_eq_some_iff.mp hf
  refine C.putI fl_1786 gh1 (by decide +kernel) rfl ?_
  refine C.seg (pe := 6) (lv' := [(0, .ref a0), (1, .int p1)]) (st' := [.ref a0]) [(.aload_n 0, 1, 0)] (by decide +kernel) rfl ?_
  obtain ⟨x2, gx2, hf⟩ := Option.bind_eq_some_iff.mp hf
  refine C.rdI fr_1842 gx2 (by decide +kernel) rfl ?_
  refine C.if_eq (off := 37) (tgt := 46) (pf := 12) (by decide +kernel) (by decide) rfl (fun c14 => ?_) (fun c14 => ?_)
  · replace hf := ifp c14 hf
    refine Vsub [] rfl ?_
    exact l_X15_unlike_46 C C2 h1 hf
  · replace hf := ifn c14 hf
    refine C.seg (pe := 14) (lv' := [(0, .ref a0), (1, .int p1)]) (st' := [.int p1, .ref a0]) [(.aload_n 0, 1, 0), (.iload_n 1, 1, 0)] (by decide +kernel) rfl ?_
    obtain ⟨x3, h4, gx3, hf⟩ := b2_some hf
    refine C.callVr C2 [.int p1] [] mv_2124 rfl (o_X15_isWall gx3) (w_X15_isWall gx3) (by omega) (by omega) (Nat.le_of_ble_eq_true rfl) (by decide +kernel) rfl ?_
    refine C.if_eq (off := 29) (tgt := 46) (pf := 20) (by decide +kernel) (by decide) rfl (fun c13 => ?_) (fun c13 => ?_)
    · replace hf := ifp c13 hf
      refine Vsub [] rfl ?_
      exact l_X15_unlike_46 C C2 h4 hf
    · replace hf := ifn c13 hf
      refine C.seg (pe := 21) (lv' := [(0, .ref a0), (1, .int p1)]) (st' := [.ref a0]) [(.aload_n 0, 1, 0)] (by decide +kernel) rfl ?_
      obtain ⟨a5, ga5, hf⟩ := Option.bind_eq_some_iff.mp hf
      refine C.rdA fr_1792 ga5 (by decide +kernel) rfl ?_
      refine C.seg (pe := 25) (lv' := [(0, .ref a0), (1, .int p1)]) (st' := [.int p1, .ref a5]) [(.iload_n 1, 1, 0)] (by decide +kernel) rfl ?_
      obtain ⟨x6, gx6, hf⟩ := Option.bind_eq_some_iff.mp hf
      refine C.ald 0 rfl gx6 (by decide +kernel) rfl ?_
      refine C.seg (pe := 27) (lv' := [(0, .ref a0), (1, .int p1)]) (st' := [.ref a0, .int x6]) [(.aload_n 0, 1, 0)] (by decide +kernel) rfl ?_
      obtain ⟨x7, gx7, hf⟩ := Option.bind_eq_some_iff.mp hf
      refine C.rdI fr_1838 gx7 (by decide +kernel) rfl ?_
      refine C.icmp_ne (off := 16) (tgt := 46) (pf := 33) (by decide +kernel) (by decide) rfl (fun c12 => ?_) (fun c12 => ?_)
      · replace hf := ifn c12 hf
        refine Vsub [] rfl ?_
        exact l_X15_unlike_46 C C2 h4 hf
      · replace hf := ifp c12 hf
        refine C.seg (pe := 34) (lv' := [(0, .ref a0), (1, .int p1)]) (st' := [.ref a0]) [(.aload_n 0, 1, 0)] (by decide +kernel) rfl ?_
        obtain ⟨a8, ga8, hf⟩ := Option.bind_eq_some_iff.mp hf
        refine C.rdA fr_1793 ga8 (by decide +kernel) rfl ?_
        refine C.seg (pe := 38) (lv' := [(0, .ref a0), (1, .int p1)]) (st' := [.int p1, .ref a8]) [(.iload_n 1, 1, 0)] (by decide +kernel) rfl ?_
        obtain ⟨x9, gx9, hf⟩ := Option.bind_eq_some_iff.mp hf
        refine C.ald 0 rfl gx9 (by decide +kernel) rfl ?_
        refine C.seg (pe := 40) (lv' := [(0, .ref a0), (1, .int p1)]) (st' := [.ref a0, .int x9]) [(.aload_n 0, 1, 0)] (by decide +kernel) rfl ?_
        obtain ⟨x10, gx10, hf⟩ := Option.bind_eq_some_iff.mp hf
        refine C.rdI fr_1839 gx10 (by decide +kernel) rfl ?_
        refine C.icmp_eq (off := 5) (tgt := 48) (pf := 46) (by decide +kernel) (by decide) rfl (fun c11 => ?_) (fun c11 => ?_)
        · replace hf := ifp c11 hf
          refine C.seg (pe := 52) (lv' := [(3, .int 0), (2, .int 0), (0, .ref a0), (1, .int p1)]) (st' := []) [(.iconst 0, 1, 0), (.istore_n 2, 1, 0), (.iconst 0, 1, 0), (.istore_n 3, 1, 0)] (by decide +kernel) rfl ?_
          refine Vsub [2, 3, 1, 0] rfl ?_
          exact l_X15_unlike_52 C C2 FU a0 p1 0 0 h4 hf
        · replace hf := ifn c11 hf
          refine Vsub [] rfl ?_
          exact l_X15_unlike_46 C C2 h4 hf
theorem o_X15_unlike {a0 : Nat} {p1 : Int32} {h : AH} {rr : Int32} {hr : AH} (hf : f_X15_unlike a0 p1 h = some (rr, hr)) : isO 15 h a0 = true := by
  unfold f_X15_unlike at hf
  exact (ifO hf).1
