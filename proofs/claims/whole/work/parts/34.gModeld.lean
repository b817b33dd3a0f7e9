/-! WallHouseModel.painter(II)I -/
def f_X15_painter_24 (r0 : Nat) (h : AH) : Option (Int32 × AH) :=
  b2 (f_X15_refused r0 2 h) fun x1 h2 =>
  some (x1, h2)
set_option maxRecDepth 100000 in
set_option maxHeartbeats 4000000 in
theorem l_X15_painter_24 {X : MX} {l : Launch} {G : GX} {h0 : AH} {rr : Int32} {hr : AH} (C : Cx X G RX15 cX15_painter 3 (some .int) 1 22 h0) (C2 : Cy X l "painter" []) (r0 : Nat) (h : AH) (hf : f_X15_painter_24 r0 h = some (rr, hr)) : V X G h0 (QI rr hr) 24 [(0, .ref r0)] [] h := by
  unfold f_X15_painter_24 at hf
  refine C.seg (pe := 26) (lv' := [(0, .ref r0)]) (st' := [.int 2, .ref r0]) [(.aload_n 0, 1, 0), (.iconst 2, 1, 2)] (by decide +kernel) rfl ?_
  obtain ⟨x1, h2, gx1, hf⟩ := b2_some hf
  refine C.callVr C2 [.int 2] [] mv_2112 rfl (o_X15_refused gx1) (w_X15_refused gx1) (by omega) (by omega) (Nat.le_of_ble_eq_true rfl) (by decide +kernel) rfl ?_
  cases hf
  exact C.retI rfl (by decide +kernel) ⟨rfl, rfl⟩
def f_X15_painter (a0 : Nat) (p1 : Int32) (p2 : Int32) (h : AH) : Option (Int32 × AH) :=
  if isO 15 h a0 = true then
    (pI 15 h a0 0 0).bind fun h1 =>
    b2 (f_X15_in p1 0 5 h1) fun x2 h3 =>
    if x2 = 0 then
      f_X15_painter_24 a0 h3
    else
      b2 (f_X15_in p2 0 99 h3) fun x4 h5 =>
      if x4 = 0 then
        f_X15_painter_24 a0 h5
      else
        (gI 15 h5 a0 58).bind fun x6 =>
        if x6 = 10 then
          b2 (f_X15_refused a0 3 h5) fun x18 h19 =>
          some (x18, h19)
        else
          (gA 15 h5 a0 60).bind fun a7 =>
          (gI 15 h5 a0 58).bind fun x8 =>
          (sI 0 h5 a7 x8 p1).bind fun h9 =>
          (gA 15 h9 a0 61).bind fun a10 =>
          (gI 15 h9 a0 58).bind fun x11 =>
          (sI 0 h9 a10 x11 p2).bind fun h12 =>
          (gI 15 h12 a0 58).bind fun x13 =>
          (pI 15 h12 a0 58 (x13 + 1)).bind fun h14 =>
          (gI 15 h14 a0 58).bind fun x15 =>
          b2 (f_X15_done a0 (x15 - 1) h14) fun x16 h17 =>
          some (x16, h17)
  else none
set_option maxRecDepth 100000 in
set_option maxHeartbeats 4000000 in
theorem w_X15_painter {l : Launch} {G : GX} {a0 : Nat} {p1 : Int32} {p2 : Int32} {h : AH} {rr : Int32} {hr : AH} (hf : f_X15_painter a0 p1 p2 h = some (rr, hr)) : Ct l G yX15_painter 1 22 [.ref a0, .int p1, .int p2] h (QI rr hr) := by
  unfold f_X15_painter at hf
  obtain ⟨ho, hf⟩ := ifO hf
  refine Ct_of (own := RX15) (cc := cX15_painter) (nL := 3) (ret := (some .int)) rfl rfl k_2370 (Nat.le_of_ble_eq_true rfl) (fun X C2 C => ?_)
  show V X G h (QI rr hr) 0 [(0, .ref a0), (1, .int p1), (2, .int p2)] [] h
  refine C.seg (pe := 2) (lv' := [(0, .ref a0), (1, .int p1), (2, .int p2)]) (st' := [.int 0, .ref a0]) [(.aload_n 0, 1, 0), (.iconst 0, 1, 0)] (by decide +kernel) rfl ?_
  obtain ⟨h1, gh1, hf⟩ := Option.bind_eq_some_iff.mp hf
  refine C.putI fl_1786 gh1 (by decide +kernel) rfl ?_
  refine C.seg (pe := 8) (lv' := [(0, .ref a0), (1, .int p1), (2, .int p2)]) (st' := [.int 5, .int 0, .int p1]) [(.iload_n 1, 1, 0), (.iconst 0, 1, 0), (.iconst 5, 1, 5)] (by decide +kernel) rfl ?_
  obtain ⟨x2, h3, gx2, hf⟩ := b2_some hf
  refine C.callSr C2 [.int p1, .int 0, .int 5] [] ms_2109 rfl (w_X15_in gx2) (by omega) (by omega) (Nat.le_of_ble_eq_true rfl) (by decide +kernel) rfl ?_
  refine C.if_eq (off := 13) (tgt := 24) (pf := 14) (by decide +kernel) (by decide) rfl (fun c22 => ?_) (fun c22 => ?_)
  · replace hf := ifp c22 hf
    refine Vsub [0] rfl ?_
    exact l_X15_painter_24 C C2 a0 h3 hf
  · replace hf := ifn c22 hf
    refine C.seg (pe := 18) (lv' := [(0, .ref a0), (1, .int p1), (2, .int p2)]) (st' := [.int 99, .int 0, .int p2]) [(.iload_n 2, 1, 0), (.iconst 0, 1, 0), (.bipush 99, 2, 99)] (by decide +kernel) rfl ?_
    obtain ⟨x4, h5, gx4, hf⟩ := b2_some hf
    refine C.callSr C2 [.int p2, .int 0, .int 99] [] ms_2109 rfl (w_X15_in gx4) (by omega) (by omega) (Nat.le_of_ble_eq_true rfl) (by decide +kernel) rfl ?_
    refine C.if_ne (off := 9) (tgt := 30) (pf := 24) (by decide +kernel) (by decide) rfl (fun c21 => ?_) (fun c21 => ?_)
    · replace hf := ifn c21 hf
      refine C.seg (pe := 31) (lv' := [(0, .ref a0), (1, .int p1), (2, .int p2)]) (st' := [.ref a0]) [(.aload_n 0, 1, 0)] (by decide +kernel) rfl ?_
      obtain ⟨x6, gx6, hf⟩ := Option.bind_eq_some_iff.mp hf
      refine C.rdI fr_1844 gx6 (by decide +kernel) rfl ?_
      refine C.seg (pe := 36) (lv' := [(0, .ref a0), (1, .int p1), (2, .int p2)]) (st' := [.int 10, .int x6]) [(.bipush 10, 2, 10)] (by decide +kernel) rfl ?_
      refine C.icmp_ne (off := 9) (tgt := 45) (pf := 39) (by decide +kernel) (by decide) rfl (fun c20 => ?_) (fun c20 => ?_)
      · replace hf := ifn c20 hf
        refine C.seg (pe := 46) (lv' := [(0, .ref a0), (1, .int p1), (2, .int p2)]) (st' := [.ref a0]) [(.aload_n 0, 1, 0)] (by decide +kernel) rfl ?_
        obtain ⟨a7, ga7, hf⟩ := Option.bind_eq_some_iff.mp hf
        refine C.rdA fr_1846 ga7 (by decide +kernel) rfl ?_
        refine C.seg (pe := 50) (lv' := [(0, .ref a0), (1, .int p1), (2, .int p2)]) (st' := [.ref a0, .ref a7]) [(.aload_n 0, 1, 0)] (by decide +kernel) rfl ?_
        obtain ⟨x8, gx8, hf⟩ := Option.bind_eq_some_iff.mp hf
        refine C.rdI fr_1844 gx8 (by decide +kernel) rfl ?_
        refine C.seg (pe := 54) (lv' := [(0, .ref a0), (1, .int p1), (2, .int p2)]) (st' := [.int p1, .int x8, .ref a7]) [(.iload_n 1, 1, 0)] (by decide +kernel) rfl ?_
        obtain ⟨h9, gh9, hf⟩ := Option.bind_eq_some_iff.mp hf
        refine C.ast gh9 (by decide +kernel) rfl ?_
        refine C.seg (pe := 56) (lv' := [(0, .ref a0), (1, .int p1), (2, .int p2)]) (st' := [.ref a0]) [(.aload_n 0, 1, 0)] (by decide +kernel) rfl ?_
        obtain ⟨a10, ga10, hf⟩ := Option.bind_eq_some_iff.mp hf
        refine C.rdA fr_1847 ga10 (by decide +kernel) rfl ?_
        refine C.seg (pe := 60) (lv' := [(0, .ref a0), (1, .int p1), (2, .int p2)]) (st' := [.ref a0, .ref a10]) [(.aload_n 0, 1, 0)] (by decide +kernel) rfl ?_
        obtain ⟨x11, gx11, hf⟩ := Option.bind_eq_some_iff.mp hf
        refine C.rdI fr_1844 gx11 (by decide +kernel) rfl ?_
        refine C.seg (pe := 64) (lv' := [(0, .ref a0), (1, .int p1), (2, .int p2)]) (st' := [.int p2, .int x11, .ref a10]) [(.iload_n 2, 1, 0)] (by decide +kernel) rfl ?_
        obtain ⟨h12, gh12, hf⟩ := Option.bind_eq_some_iff.mp hf
        refine C.ast gh12 (by decide +kernel) rfl ?_
        refine C.seg (pe := 67) (lv' := [(0, .ref a0), (1, .int p1), (2, .int p2)]) (st' := [.ref a0, .ref a0]) [(.aload_n 0, 1, 0), (.dup, 1, 0)] (by decide +kernel) rfl ?_
        obtain ⟨x13, gx13, hf⟩ := Option.bind_eq_some_iff.mp hf
        refine C.rdI fr_1844 gx13 (by decide +kernel) rfl ?_
        refine C.seg (pe := 72) (lv' := [(0, .ref a0), (1, .int p1), (2, .int p2)]) (st' := [.int (x13 + 1), .ref a0]) [(.iconst 1, 1, 1), (.iadd, 1, 0)] (by decide +kernel) rfl ?_
        obtain ⟨h14, gh14, hf⟩ := Option.bind_eq_some_iff.mp hf
        refine C.putI fl_1844 gh14 (by decide +kernel) rfl ?_
        refine C.seg (pe := 77) (lv' := [(0, .ref a0), (1, .int p1), (2, .int p2)]) (st' := [.ref a0, .ref a0]) [(.aload_n 0, 1, 0), (.aload_n 0, 1, 0)] (by decide +kernel) rfl ?_
        obtain ⟨x15, gx15, hf⟩ := Option.bind_eq_some_iff.mp hf
        refine C.rdI fr_1844 gx15 (by decide +kernel) rfl ?_
        refine C.seg (pe := 82) (lv' := [(0, .ref a0), (1, .int p1), (2, .int p2)]) (st' := [.int (x15 - 1), .ref a0]) [(.iconst 1, 1, 1), (.isub, 1, 0)] (by decide +kernel) rfl ?_
        obtain ⟨x16, h17, gx16, hf⟩ := b2_some hf
        refine C.callVr C2 [.int (x15 - 1)] [] mv_2116 rfl (o_X15_done gx16) (w_X15_done gx16) (by omega) (by omega) (Nat.le_of_ble_eq_true rfl) (by decide +kernel) rfl ?_
        cases hf
        exact C.retI rfl (by decide +kernel) ⟨rfl, rfl⟩
      · replace hf := ifp c20 hf
        refine C.seg (pe := 41) (lv' := [(0, .ref a0), (1, .int p1), (2, .int p2)]) (st' := [.int 3, .ref a0]) [(.aload_n 0, 1, 0), (.iconst 3, 1, 3)] (by decide +kernel) rfl ?_
        obtain ⟨x18, h19, gx18, hf⟩ := b2_some hf
        refine C.callVr C2 [.int 3] [] mv_2112 rfl (o_X15_refused gx18) (w_X15_refused gx18) (by omega) (by omega) (Nat.le_of_ble_eq_true rfl) (by decide +kernel) rfl ?_
        cases hf
        exact C.retI rfl (by decide +kernel) ⟨rfl, rfl⟩
    · replace hf := ifp c21 hf
      refine Vsub [0] rfl ?_
      exact l_X15_painter_24 C C2 a0 h5 hf
theorem o_X15_painter {a0 : Nat} {p1 : Int32} {p2 : Int32} {h : AH} {rr : Int32} {hr : AH} (hf : f_X15_painter a0 p1 p2 h = some (rr, hr)) : isO 15 h a0 = true := by
  unfold f_X15_painter at hf
  exact (ifO hf).1
/-! WallHouseModel.isPainter(I)Z -/
def f_X15_isPainter_17 (si0 : Int32) (h : AH) : Option (Int32 × AH) :=
  (ckZ si0).bind fun x1 =>
  some (x1, h)
set_option maxRecDepth 100000 in
set_option maxHeartbeats 4000000 in
theorem l_X15_isPainter_17 {X : MX} {l : Launch} {G : GX} {h0 : AH} {rr : Int32} {hr : AH} (C : Cx X G RX15 cX15_isPainter 2 (some .boolean) 0 0 h0) (C2 : Cy X l "isPainter" []) (si0 : Int32) (h : AH) (hf : f_X15_isPainter_17 si0 h = some (rr, hr)) : V X G h0 (QI rr hr) 17 [] [.int si0] h := by
  unfold f_X15_isPainter_17 at hf
  obtain ⟨x1, gx1, hf⟩ := Option.bind_eq_some_iff.mp hf
  have ex1 := ckZ_eq gx1
  subst ex1
  cases hf
  exact C.retZ rfl gx1 (by decide +kernel) ⟨rfl, rfl⟩
def f_X15_isPainter_16 (h : AH) : Option (Int32 × AH) :=
  f_X15_isPainter_17 0 h
set_option maxRecDepth 100000 in
set_option maxHeartbeats 4000000 in
theorem l_X15_isPainter_16 {X : MX} {l : Launch} {G : GX} {h0 : AH} {rr : Int32} {hr : AH} (C : Cx X G RX15 cX15_isPainter 2 (some .boolean) 0 0 h0) (C2 : Cy X l "isPainter" []) (h : AH) (hf : f_X15_isPainter_16 h = some (rr, hr)) : V X G h0 (QI rr hr) 16 [] [] h := by
  unfold f_X15_isPainter_16 at hf
  refine C.seg (pe := 17) (lv' := []) (st' := [.int 0]) [(.iconst 0, 1, 0)] (by decide +kernel) rfl ?_
  exact l_X15_isPainter_17 C C2 0 h hf
def f_X15_isPainter (a0 : Nat) (p1 : Int32) (h : AH) : Option (Int32 × AH) :=
  if isO 15 h a0 = true then
    if p1 < 0 then
      f_X15_isPainter_16 h
    else
      (gI 15 h a0 58).bind fun x1 =>
      if x1 ≤ p1 then
        f_X15_isPainter_16 h
      else
        f_X15_isPainter_17 1 h
  else none
set_option maxRecDepth 100000 in
set_option maxHeartbeats 4000000 in
theorem w_X15_isPainter {l : Launch} {G : GX} {a0 : Nat} {p1 : Int32} {h : AH} {rr : Int32} {hr : AH} (hf : f_X15_isPainter a0 p1 h = some (rr, hr)) : Ct l G yX15_isPainter 0 0 [.ref a0, .int p1] h (QI rr hr) := by
  unfold f_X15_isPainter at hf
  obtain ⟨ho, hf⟩ := ifO hf
  refine Ct_of (own := RX15) (cc := cX15_isPainter) (nL := 2) (ret := (some .boolean)) rfl rfl k_2378 (Nat.le_of_ble_eq_true rfl) (fun X C2 C => ?_)
  show V X G h (QI rr hr) 0 [(0, .ref a0), (1, .int p1)] [] h
  refine C.seg (pe := 1) (lv' := [(0, .ref a0), (1, .int p1)]) (st' := [.int p1]) [(.iload_n 1, 1, 0)] (by decide +kernel) rfl ?_
  refine C.if_lt (off := 15) (tgt := 16) (pf := 4) (by decide +kernel) (by decide) rfl (fun c3 => ?_) (fun c3 => ?_)
  · replace hf := ifp c3 hf
    refine Vsub [] rfl ?_
    exact l_X15_isPainter_16 C C2 h hf
  · replace hf := ifn c3 hf
    refine C.seg (pe := 6) (lv' := [(0, .ref a0), (1, .int p1)]) (st' := [.ref a0, .int p1]) [(.iload_n 1, 1, 0), (.aload_n 0, 1, 0)] (by decide +kernel) rfl ?_
    obtain ⟨x1, gx1, hf⟩ := Option.bind_eq_some_iff.mp hf
    refine C.rdI fr_1844 gx1 (by decide +kernel) rfl ?_
    refine C.icmp_ge (off := 7) (tgt := 16) (pf := 12) (by decide +kernel) (by decide) rfl (fun c2 => ?_) (fun c2 => ?_)
    · replace hf := ifp c2 hf
      refine Vsub [] rfl ?_
      exact l_X15_isPainter_16 C C2 h hf
    · replace hf := ifn c2 hf
      refine C.seg (pe := 13) (lv' := [(0, .ref a0), (1, .int p1)]) (st' := [.int 1]) [(.iconst 1, 1, 1)] (by decide +kernel) rfl ?_
      refine C.goto (off := 4) (tgt := 17) (by decide +kernel) (by decide) ?_
      refine Vsub [] rfl ?_
      exact l_X15_isPainter_17 C C2 1 h hf
theorem o_X15_isPainter {a0 : Nat} {p1 : Int32} {h : AH} {rr : Int32} {hr : AH} (hf : f_X15_isPainter a0 p1 h = some (rr, hr)) : isO 15 h a0 = true := by
  unfold f_X15_isPainter at hf
  exact (ifO hf).1
/-! WallHouseModel.wish(III)Z -/
def f_X15_wish_21 (r0 : Nat) (h : AH) : Option (Int32 × AH) :=
  b2 (f_X15_denied r0 1 h) fun x1 h2 =>
  (ckZ x1).bind fun x3 =>
  some (x3, h2)
set_option maxRecDepth 100000 in
set_option maxHeartbeats 4000000 in
theorem l_X15_wish_21 {X : MX} {l : Launch} {G : GX} {h0 : AH} {rr : Int32} {hr : AH} (C : Cx X G RX15 cX15_wish 4 (some .boolean) 1 22 h0) (C2 : Cy X l "wish" []) (r0 : Nat) (h : AH) (hf : f_X15_wish_21 r0 h = some (rr, hr)) : V X G h0 (QI rr hr) 21 [(0, .ref r0)] [] h := by
  unfold f_X15_wish_21 at hf
  refine C.seg (pe := 23) (lv' := [(0, .ref r0)]) (st' := [.int 1, .ref r0]) [(.aload_n 0, 1, 0), (.iconst 1, 1, 1)] (by decide +kernel) rfl ?_
  obtain ⟨x1, h2, gx1, hf⟩ := b2_some hf
  refine C.callVr C2 [.int 1] [] mv_2152 rfl (o_X15_denied gx1) (w_X15_denied gx1) (by omega) (by omega) (Nat.le_of_ble_eq_true rfl) (by decide +kernel) rfl ?_
  obtain ⟨x3, gx3, hf⟩ := Option.bind_eq_some_iff.mp hf
  have ex3 := ckZ_eq gx3
  subst ex3
  cases hf
  exact C.retZ rfl gx3 (by decide +kernel) ⟨rfl, rfl⟩
def f_X15_wish (a0 : Nat) (p1 : Int32) (p2 : Int32) (p3 : Int32) (h : AH) : Option (Int32 × AH) :=
  if isO 15 h a0 = true then
    (pI 15 h a0 0 0).bind fun h1 =>
    b2 (f_X15_isPainter a0 p1 h1) fun x2 h3 =>
    if x2 = 0 then
      f_X15_wish_21 a0 h3
    else
      b2 (f_X15_isWall a0 p2 h3) fun x4 h5 =>
      if x4 = 0 then
        f_X15_wish_21 a0 h5
      else
        b2 (f_X15_in p3 0 9 h5) fun x6 h7 =>
        if x6 = 0 then
          b2 (f_X15_denied a0 2 h7) fun x13 h14 =>
          (ckZ x13).bind fun x15 =>
          some (x15, h14)
        else
          (gA 15 h7 a0 62).bind fun a8 =>
          (sI 0 h7 a8 ((16 * p1) + p2) p3).bind fun h9 =>
          b2 (f_X15_granted a0 h9) fun x10 h11 =>
          (ckZ x10).bind fun x12 =>
          some (x12, h11)
  else none
set_option maxRecDepth 100000 in
set_option maxHeartbeats 4000000 in
theorem w_X15_wish {l : Launch} {G : GX} {a0 : Nat} {p1 : Int32} {p2 : Int32} {p3 : Int32} {h : AH} {rr : Int32} {hr : AH} (hf : f_X15_wish a0 p1 p2 p3 h = some (rr, hr)) : Ct l G yX15_wish 1 22 [.ref a0, .int p1, .int p2, .int p3] h (QI rr hr) := by
  unfold f_X15_wish at hf
  obtain ⟨ho, hf⟩ := ifO hf
  refine Ct_of (own := RX15) (cc := cX15_wish) (nL := 4) (ret := (some .boolean)) rfl rfl k_2374 (Nat.le_of_ble_eq_true rfl) (fun X C2 C => ?_)
  show V X G h (QI rr hr) 0 [(0, .ref a0), (1, .int p1), (2, .int p2), (3, .int p3)] [] h
  refine C.seg (pe := 2) (lv' := [(0, .ref a0), (1, .int p1), (2, .int p2), (3, .int p3)]) (st' := [.int 0, .ref a0]) [(.aload_n 0, 1, 0), (.iconst 0, 1, 0)] (by decide +kernel) rfl ?_
  obtain ⟨h1, gh1, hf⟩ := Option.bind_eq_some_iff.mp hf
  refine C.putI fl_1786 gh1 (by decide +kernel) rfl ?_
  refine C.seg (pe := 7) (lv' := [(0, .ref a0), (1, .int p1), (2, .int p2), (3, .int p3)]) (st' := [.int p1, .ref a0]) [(.aload_n 0, 1, 0), (.iload_n 1, 1, 0)] (by decide +kernel) rfl ?_
  obtain ⟨x2, h3, gx2, hf⟩ := b2_some hf
  refine C.callVr C2 [.int p1] [] mv_2375 rfl (o_X15_isPainter gx2) (w_X15_isPainter gx2) (by omega) (by omega) (Nat.le_of_ble_eq_true rfl) (by decide +kernel) rfl ?_
  refine C.if_eq (off := 11) (tgt := 21) (pf := 13) (by decide +kernel) (by decide) rfl (fun c18 => ?_) (fun c18 => ?_)
  · replace hf := ifp c18 hf
    refine Vsub [0] rfl ?_
    exact l_X15_wish_21 C C2 a0 h3 hf
  · replace hf := ifn c18 hf
    refine C.seg (pe := 15) (lv' := [(0, .ref a0), (1, .int p1), (2, .int p2), (3, .int p3)]) (st' := [.int p2, .ref a0]) [(.aload_n 0, 1, 0), (.iload_n 2, 1, 0)] (by decide +kernel) rfl ?_
    obtain ⟨x4, h5, gx4, hf⟩ := b2_some hf
    refine C.callVr C2 [.int p2] [] mv_2124 rfl (o_X15_isWall gx4) (w_X15_isWall gx4) (by omega) (by omega) (Nat.le_of_ble_eq_true rfl) (by decide +kernel) rfl ?_
    refine C.if_ne (off := 9) (tgt := 27) (pf := 21) (by decide +kernel) (by decide) rfl (fun c17 => ?_) (fun c17 => ?_)
    · replace hf := ifn c17 hf
      refine C.seg (pe := 31) (lv' := [(0, .ref a0), (1, .int p1), (2, .int p2), (3, .int p3)]) (st' := [.int 9, .int 0, .int p3]) [(.iload_n 3, 1, 0), (.iconst 0, 1, 0), (.bipush 9, 2, 9)] (by decide +kernel) rfl ?_
      obtain ⟨x6, h7, gx6, hf⟩ := b2_some hf
      refine C.callSr C2 [.int p3, .int 0, .int 9] [] ms_2109 rfl (w_X15_in gx6) (by omega) (by omega) (Nat.le_of_ble_eq_true rfl) (by decide +kernel) rfl ?_
      refine C.if_ne (off := 9) (tgt := 43) (pf := 37) (by decide +kernel) (by decide) rfl (fun c16 => ?_) (fun c16 => ?_)
      · replace hf := ifn c16 hf
        refine C.seg (pe := 44) (lv' := [(0, .ref a0), (1, .int p1), (2, .int p2), (3, .int p3)]) (st' := [.ref a0]) [(.aload_n 0, 1, 0)] (by decide +kernel) rfl ?_
        obtain ⟨a8, ga8, hf⟩ := Option.bind_eq_some_iff.mp hf
        refine C.rdA fr_1848 ga8 (by decide +kernel) rfl ?_
        refine C.seg (pe := 54) (lv' := [(0, .ref a0), (1, .int p1), (2, .int p2), (3, .int p3)]) (st' := [.int p3, .int ((16 * p1) + p2), .ref a8]) [(.bipush 16, 2, 16), (.iload_n 1, 1, 0), (.imul, 1, 0), (.iload_n 2, 1, 0), (.iadd, 1, 0), (.iload_n 3, 1, 0)] (by decide +kernel) rfl ?_
        obtain ⟨h9, gh9, hf⟩ := Option.bind_eq_some_iff.mp hf
        refine C.ast gh9 (by decide +kernel) rfl ?_
        refine C.seg (pe := 56) (lv' := [(0, .ref a0), (1, .int p1), (2, .int p2), (3, .int p3)]) (st' := [.ref a0]) [(.aload_n 0, 1, 0)] (by decide +kernel) rfl ?_
        obtain ⟨x10, h11, gx10, hf⟩ := b2_some hf
        refine C.callVr C2 [] [] mv_2156 rfl (o_X15_granted gx10) (w_X15_granted gx10) (by omega) (by omega) (Nat.le_of_ble_eq_true rfl) (by decide +kernel) rfl ?_
        obtain ⟨x12, gx12, hf⟩ := Option.bind_eq_some_iff.mp hf
        have ex12 := ckZ_eq gx12
        subst ex12
        cases hf
        exact C.retZ rfl gx12 (by decide +kernel) ⟨rfl, rfl⟩
      · replace hf := ifp c16 hf
        refine C.seg (pe := 39) (lv' := [(0, .ref a0), (1, .int p1), (2, .int p2), (3, .int p3)]) (st' := [.int 2, .ref a0]) [(.aload_n 0, 1, 0), (.iconst 2, 1, 2)] (by decide +kernel) rfl ?_
        obtain ⟨x13, h14, gx13, hf⟩ := b2_some hf
        refine C.callVr C2 [.int 2] [] mv_2152 rfl (o_X15_denied gx13) (w_X15_denied gx13) (by omega) (by omega) (Nat.le_of_ble_eq_true rfl) (by decide +kernel) rfl ?_
        obtain ⟨x15, gx15, hf⟩ := Option.bind_eq_some_iff.mp hf
        have ex15 := ckZ_eq gx15
        subst ex15
        cases hf
        exact C.retZ rfl gx15 (by decide +kernel) ⟨rfl, rfl⟩
    · replace hf := ifp c17 hf
      refine Vsub [0] rfl ?_
      exact l_X15_wish_21 C C2 a0 h5 hf
theorem o_X15_wish {a0 : Nat} {p1 : Int32} {p2 : Int32} {p3 : Int32} {h : AH} {rr : Int32} {hr : AH} (hf : f_X15_wish a0 p1 p2 p3 h = some (rr, hr)) : isO 15 h a0 = true := by
  unfold f_X15_wish at hf
  exact (ifO hf).1
/-! WallHouseModel.vote(IIII)Z -/
def f_X15_vote_120 (r0 : Nat) (i1 : Int32) (i2 : Int32) (i3 : Int32) (i4 : Int32) (i5 : Int32) (h : AH) : Option (Int32 × AH) :=
  if i5 = 300 then
    b2 (f_X15_denied r0 3 h) fun x14 h15 =>
    (ckZ x14).bind fun x16 =>
    some (x16, h15)
  else
    (gI 15 h r0 59).bind fun x1 =>
    (pI 15 h r0 59 (mxI x1 (i5 + 1))).bind fun h2 =>
    (gA 15 h2 r0 63).bind fun a3 =>
    (sI 0 h2 a3 i5 i1).bind fun h4 =>
    (gA 15 h4 r0 64).bind fun a5 =>
    (sI 0 h4 a5 i5 i2).bind fun h6 =>
    (gA 15 h6 r0 65).bind fun a7 =>
    (sI 0 h6 a7 i5 i3).bind fun h8 =>
    (gA 15 h8 r0 66).bind fun a9 =>
    (sI 0 h8 a9 i5 i4).bind fun h10 =>
    b2 (f_X15_granted r0 h10) fun x11 h12 =>
    (ckZ x11).bind fun x13 =>
    some (x13, h12)
set_option maxRecDepth 100000 in
set_option maxHeartbeats 4000000 in
theorem l_X15_vote_120 {X : MX} {l : Launch} {G : GX} {h0 : AH} {rr : Int32} {hr : AH} (C : Cx X G RX15 cX15_vote 6 (some .boolean) 1 40 h0) (C2 : Cy X l "vote" []) (r0 : Nat) (i1 : Int32) (i2 : Int32) (i3 : Int32) (i4 : Int32) (i5 : Int32) (h : AH) (hf : f_X15_vote_120 r0 i1 i2 i3 i4 i5 h = some (rr, hr)) : V X G h0 (QI rr hr) 120 [(0, .ref r0), (1, .int i1), (2, .int i2), (3, .int i3), (4, .int i4), (5, .int i5)] [] h := by
  unfold f_X15_vote_120 at hf
  refine C.seg (pe := 125) (lv' := [(0, .ref r0), (1, .int i1), (2, .int i2), (3, .int i3), (4, .int i4), (5, .int i5)]) (st' := [.int 300, .int i5]) [(.iload 5, 2, 0), (.sipush 300, 3, 300)] (by decide +kernel) rfl ?_
  refine C.icmp_ne (off := 9) (tgt := 134) (pf := 128) (by decide +kernel) (by decide) rfl (fun c17 => ?_) (fun c17 => ?_)
  · replace hf := ifn c17 hf
    refine C.seg (pe := 136) (lv' := [(0, .ref r0), (1, .int i1), (2, .int i2), (3, .int i3), (4, .int i4), (5, .int i5)]) (st' := [.ref r0, .ref r0]) [(.aload_n 0, 1, 0), (.aload_n 0, 1, 0)] (by decide +kernel) rfl ?_
    obtain ⟨x1, gx1, hf⟩ := Option.bind_eq_some_iff.mp hf
    refine C.rdI fr_1845 gx1 (by decide +kernel) rfl ?_
    refine C.seg (pe := 143) (lv' := [(0, .ref r0), (1, .int i1), (2, .int i2), (3, .int i3), (4, .int i4), (5, .int i5)]) (st' := [.int (i5 + 1), .int x1, .ref r0]) [(.iload 5, 2, 0), (.iconst 1, 1, 1), (.iadd, 1, 0)] (by decide +kernel) rfl ?_
    refine C.mmax k_2334 k_636 k_137 k_637 (by omega) (by omega) (Nat.le_of_ble_eq_true rfl) (by decide +kernel) rfl ?_
    obtain ⟨h2, gh2, hf⟩ := Option.bind_eq_some_iff.mp hf
    refine C.putI fl_1845 gh2 (by decide +kernel) rfl ?_
    refine C.seg (pe := 150) (lv' := [(0, .ref r0), (1, .int i1), (2, .int i2), (3, .int i3), (4, .int i4), (5, .int i5)]) (st' := [.ref r0]) [(.aload_n 0, 1, 0)] (by decide +kernel) rfl ?_
    obtain ⟨a3, ga3, hf⟩ := Option.bind_eq_some_iff.mp hf
    refine C.rdA fr_1849 ga3 (by decide +kernel) rfl ?_
    refine C.seg (pe := 156) (lv' := [(0, .ref r0), (1, .int i1), (2, .int i2), (3, .int i3), (4, .int i4), (5, .int i5)]) (st' := [.int i1, .int i5, .ref a3]) [(.iload 5, 2, 0), (.iload_n 1, 1, 0)] (by decide +kernel) rfl ?_
    obtain ⟨h4, gh4, hf⟩ := Option.bind_eq_some_iff.mp hf
    refine C.ast gh4 (by decide +kernel) rfl ?_
    refine C.seg (pe := 158) (lv' := [(0, .ref r0), (1, .int i1), (2, .int i2), (3, .int i3), (4, .int i4), (5, .int i5)]) (st' := [.ref r0]) [(.aload_n 0, 1, 0)] (by decide +kernel) rfl ?_
    obtain ⟨a5, ga5, hf⟩ := Option.bind_eq_some_iff.mp hf
    refine C.rdA fr_1850 ga5 (by decide +kernel) rfl ?_
    refine C.seg (pe := 164) (lv' := [(0, .ref r0), (1, .int i1), (2, .int i2), (3, .int i3), (4, .int i4), (5, .int i5)]) (st' := [.int i2, .int i5, .ref a5]) [(.iload 5, 2, 0), (.iload_n 2, 1, 0)] (by decide +kernel) rfl ?_
    obtain ⟨h6, gh6, hf⟩ := Option.bind_eq_some_iff.mp hf
    refine C.ast gh6 (by decide +kernel) rfl ?_
    refine C.seg (pe := 166) (lv' := [(0, .ref r0), (1, .int i1), (2, .int i2), (3, .int i3), (4, .int i4), (5, .int i5)]) (st' := [.ref r0]) [(.aload_n 0, 1, 0)] (by decide +kernel) rfl ?_
    obtain ⟨a7, ga7, hf⟩ := Option.bind_eq_some_iff.mp hf
    refine C.rdA fr_1851 ga7 (by decide +kernel) rfl ?_
    refine C.seg (pe := 172) (lv' := [(0, .ref r0), (1, .int i1), (2, .int i2), (3, .int i3), (4, .int i4), (5, .int i5)]) (st' := [.int i3, .int i5, .ref a7]) [(.iload 5, 2, 0), (.iload_n 3, 1, 0)] (by decide +kernel) rfl ?_
    obtain ⟨h8, gh8, hf⟩ := Option.bind_eq_some_iff.mp hf
    refine C.ast gh8 (by decide +kernel) rfl ?_
    refine C.seg (pe := 174) (lv' := [(0, .ref r0), (1, .int i1), (2, .int i2), (3, .int i3), (4, .int i4), (5, .int i5)]) (st' := [.ref r0]) [(.aload_n 0, 1, 0)] (by decide +kernel) rfl ?_
    obtain ⟨a9, ga9, hf⟩ := Option.bind_eq_some_iff.mp hf
    refine C.rdA fr_1852 ga9 (by decide +kernel) rfl ?_
    refine C.seg (pe := 181) (lv' := [(0, .ref r0), (1, .int i1), (2, .int i2), (3, .int i3), (4, .int i4), (5, .int i5)]) (st' := [.int i4, .int i5, .ref a9]) [(.iload 5, 2, 0), (.iload 4, 2, 0)] (by decide +kernel) rfl ?_
    obtain ⟨h10, gh10, hf⟩ := Option.bind_eq_some_iff.mp hf
    refine C.ast gh10 (by decide +kernel) rfl ?_
    refine C.seg (pe := 183) (lv' := [(0, .ref r0), (1, .int i1), (2, .int i2), (3, .int i3), (4, .int i4), (5, .int i5)]) (st' := [.ref r0]) [(.aload_n 0, 1, 0)] (by decide +kernel) rfl ?_
    obtain ⟨x11, h12, gx11, hf⟩ := b2_some hf
    refine C.callVr C2 [] [] mv_2156 rfl (o_X15_granted gx11) (w_X15_granted gx11) (by omega) (by omega) (Nat.le_of_ble_eq_true rfl) (by decide +kernel) rfl ?_
    obtain ⟨x13, gx13, hf⟩ := Option.bind_eq_some_iff.mp hf
    have ex13 := ckZ_eq gx13
    subst ex13
    cases hf
    exact C.retZ rfl gx13 (by decide +kernel) ⟨rfl, rfl⟩
  · replace hf := ifp c17 hf
    refine C.seg (pe := 130) (lv' := [(0, .ref r0), (1, .int i1), (2, .int i2), (3, .int i3), (4, .int i4), (5, .int i5)]) (st' := [.int 3, .ref r0]) [(.aload_n 0, 1, 0), (.iconst 3, 1, 3)] (by decide +kernel) rfl ?_
    obtain ⟨x14, h15, gx14, hf⟩ := b2_some hf
    refine C.callVr C2 [.int 3] [] mv_2152 rfl (o_X15_denied gx14) (w_X15_denied gx14) (by omega) (by omega) (Nat.le_of_ble_eq_true rfl) (by decide +kernel) rfl ?_
    obtain ⟨x16, gx16, hf⟩ := Option.bind_eq_some_iff.mp hf
    have ex16 := ckZ_eq gx16
    subst ex16
    cases hf
    exact C.retZ rfl gx16 (by decide +kernel) ⟨rfl, rfl⟩
def f_X15_vote_114 (k72 : Nat → Int32 → Int32 → Int32 → Int32 → Int32 → AH → Option (Int32 × AH)) (r0 : Nat) (i1 : Int32) (i2 : Int32) (i3 : Int32) (i4 : Int32) (i5 : Int32) (h : AH) : Option (Int32 × AH) :=
  k72 r0 i1 i2 i3 i4 (i5 + 1) h
set_option maxRecDepth 100000 in
set_option maxHeartbeats 4000000 in
theorem l_X15_vote_114 {X : MX} {l : Launch} {G : GX} {h0 : AH} {rr : Int32} {hr : AH} (C : Cx X G RX15 cX15_vote 6 (some .boolean) 1 40 h0) (C2 : Cy X l "vote" []) {k72 : Nat → Int32 → Int32 → Int32 → Int32 → Int32 → AH → Option (Int32 × AH)} (hk72 : ∀ (r0 : Nat) (i1 : Int32) (i2 : Int32) (i3 : Int32) (i4 : Int32) (i5 : Int32) (h : AH), k72 r0 i1 i2 i3 i4 i5 h = some (rr, hr) → V X G h0 (QI rr hr) 72 [(0, .ref r0), (1, .int i1), (2, .int i2), (3, .int i3), (4, .int i4), (5, .int i5)] [] h) (r0 : Nat) (i1 : Int32) (i2 : Int32) (i3 : Int32) (i4 : Int32) (i5 : Int32) (h : AH) (hf : f_X15_vote_114 k72 r0 i1 i2 i3 i4 i5 h = some (rr, hr)) : V X G h0 (QI rr hr) 114 [(0, .ref r0), (1, .int i1), (2, .int i2), (3, .int i3), (4, .int i4), (5, .int i5)] [] h := by
  unfold f_X15_vote_114 at hf
  refine C.seg (pe := 117) (lv' := [(5, .int (i5 + 1)), (0, .ref r0), (1, .int i1), (2, .int i2), (3, .int i3), (4, .int i4)]) (st' := []) [(.iinc 5 1, 3, 1)] (by decide +kernel) rfl ?_
  refine C.goto (off := (-45)) (tgt := 72) (by decide +kernel) (by decide) ?_
  refine Vsub [1, 2, 3, 4, 5, 0] rfl ?_
  exact hk72 r0 i1 i2 i3 i4 (i5 + 1) h hf
def f_X15_vote_72 : Nat → Nat → Int32 → Int32 → Int32 → Int32 → Int32 → AH → Option (Int32 × AH)
  | 0, _, _, _, _, _, _, _ => none
  | n + 1, r0, i1, i2, i3, i4, i5, h =>
    (gI 15 h r0 59).bind fun x1 =>
    if x1 ≤ i5 then
      f_X15_vote_120 r0 i1 i2 i3 i4 i5 h
    else
      (gA 15 h r0 63).bind fun a2 =>
      (aI 0 h a2 i5).bind fun x3 =>
      if x3 = i1 then
        (gA 15 h r0 64).bind fun a4 =>
        (aI 0 h a4 i5).bind fun x5 =>
        if x5 = i2 then
          (gA 15 h r0 65).bind fun a6 =>
          (aI 0 h a6 i5).bind fun x7 =>
          if x7 = i3 then
            f_X15_vote_120 r0 i1 i2 i3 i4 i5 h
          else
            f_X15_vote_114 (f_X15_vote_72 n) r0 i1 i2 i3 i4 i5 h
        else
          f_X15_vote_114 (f_X15_vote_72 n) r0 i1 i2 i3 i4 i5 h
      else
        f_X15_vote_114 (f_X15_vote_72 n) r0 i1 i2 i3 i4 i5 h
set_option maxRecDepth 100000 in
set_option maxHeartbeats 4000000 in
theorem l_X15_vote_72 {X : MX} {l : Launch} {G : GX} {h0 : AH} {rr : Int32} {hr : AH} (C : Cx X G RX15 cX15_vote 6 (some .boolean) 1 40 h0) (C2 : Cy X l "vote" []) : ∀ (n : Nat) (r0 : Nat) (i1 : Int32) (i2 : Int32) (i3 : Int32) (i4 : Int32) (i5 : Int32) (h : AH), f_X15_vote_72 n r0 i1 i2 i3 i4 i5 h = some (rr, hr) → V X G h0 (QI rr hr) 72 [(0, .ref r0), (1, .int i1), (2, .int i2), (3, .int i3), (4, .int i4), (5, .int i5)] [] h := by
  intro n
  induction n with
  | zero => intro r0 i1 i2 i3 i4 i5 h hf; rw [f_X15_vote_72] at hf; cases hf
  | succ n ih =>
    intro r0 i1 i2 i3 i4 i5 h hf
    rw [f_X15_vote_72] at hf
    refine C.seg (pe := 75) (lv' := [(0, .ref r0), (1, .int i1), (2, .int i2), (3, .int i3), (4, .int i4), (5, .int i5)]) (st' := [.ref r0, .int i5]) [(.iload 5, 2, 0), (.aload_n 0, 1, 0)] (by decide +kernel) rfl ?_
    obtain ⟨x1, gx1, hf⟩ := Option.bind_eq_some_iff.mp hf
    refine C.rdI fr_1845 gx1 (by decide +kernel) rfl ?_
    refine C.icmp_ge (off := 42) (tgt := 120) (pf := 81) (by decide +kernel) (by decide) rfl (fun c11 => ?_) (fun c11 => ?_)
    · replace hf := ifp c11 hf
      exact l_X15_vote_120 C C2 r0 i1 i2 i3 i4 i5 h hf
    · replace hf := ifn c11 hf
      refine C.seg (pe := 82) (lv' := [(0, .ref r0), (1, .int i1), (2, .int i2), (3, .int i3), (4, .int i4), (5, .int i5)]) (st' := [.ref r0]) [(.aload_n 0, 1, 0)] (by decide +kernel) rfl ?_
      obtain ⟨a2, ga2, hf⟩ := Option.bind_eq_some_iff.mp hf
      refine C.rdA fr_1849 ga2 (by decide +kernel) rfl ?_
      refine C.seg (pe := 87) (lv' := [(0, .ref r0), (1, .int i1), (2, .int i2), (3, .int i3), (4, .int i4), (5, .int i5)]) (st' := [.int i5, .ref a2]) [(.iload 5, 2, 0)] (by decide +kernel) rfl ?_
      obtain ⟨x3, gx3, hf⟩ := Option.bind_eq_some_iff.mp hf
      refine C.ald 0 rfl gx3 (by decide +kernel) rfl ?_
      refine C.seg (pe := 89) (lv' := [(0, .ref r0), (1, .int i1), (2, .int i2), (3, .int i3), (4, .int i4), (5, .int i5)]) (st' := [.int i1, .int x3]) [(.iload_n 1, 1, 0)] (by decide +kernel) rfl ?_
      refine C.icmp_ne (off := 25) (tgt := 114) (pf := 92) (by decide +kernel) (by decide) rfl (fun c10 => ?_) (fun c10 => ?_)
      · replace hf := ifn c10 hf
        exact l_X15_vote_114 C C2 ih r0 i1 i2 i3 i4 i5 h hf
      · replace hf := ifp c10 hf
        refine C.seg (pe := 93) (lv' := [(0, .ref r0), (1, .int i1), (2, .int i2), (3, .int i3), (4, .int i4), (5, .int i5)]) (st' := [.ref r0]) [(.aload_n 0, 1, 0)] (by decide +kernel) rfl ?_
        obtain ⟨a4, ga4, hf⟩ := Option.bind_eq_some_iff.mp hf
        refine C.rdA fr_1850 ga4 (by decide +kernel) rfl ?_
        refine C.seg (pe := 98) (lv' := [(0, .ref r0), (1, .int i1), (2, .int i2), (3, .int i3), (4, .int i4), (5, .int i5)]) (st' := [.int i5, .ref a4]) [(.iload 5, 2, 0)] (by decide +kernel) rfl ?_
        obtain ⟨x5, gx5, hf⟩ := Option.bind_eq_some_iff.mp hf
        refine C.ald 0 rfl gx5 (by decide +kernel) rfl ?_
        refine C.seg (pe := 100) (lv' := [(0, .ref r0), (1, .int i1), (2, .int i2), (3, .int i3), (4, .int i4), (5, .int i5)]) (st' := [.int i2, .int x5]) [(.iload_n 2, 1, 0)] (by decide +kernel) rfl ?_
        refine C.icmp_ne (off := 14) (tgt := 114) (pf := 103) (by decide +kernel) (by decide) rfl (fun c9 => ?_) (fun c9 => ?_)
        · replace hf := ifn c9 hf
          exact l_X15_vote_114 C C2 ih r0 i1 i2 i3 i4 i5 h hf
        · replace hf := ifp c9 hf
          refine C.seg (pe := 104) (lv' := [(0, .ref r0), (1, .int i1), (2, .int i2), (3, .int i3), (4, .int i4), (5, .int i5)]) (st' := [.ref r0]) [(.aload_n 0, 1, 0)] (by decide +kernel) rfl ?_
          obtain ⟨a6, ga6, hf⟩ := Option.bind_eq_some_iff.mp hf
          refine C.rdA fr_1851 ga6 (by decide +kernel) rfl ?_
          refine C.seg (pe := 109) (lv' := [(0, .ref r0), (1, .int i1), (2, .int i2), (3, .int i3), (4, .int i4), (5, .int i5)]) (st' := [.int i5, .ref a6]) [(.iload 5, 2, 0)] (by decide +kernel) rfl ?_
          obtain ⟨x7, gx7, hf⟩ := Option.bind_eq_some_iff.mp hf
          refine C.ald 0 rfl gx7 (by decide +kernel) rfl ?_
          refine C.seg (pe := 111) (lv' := [(0, .ref r0), (1, .int i1), (2, .int i2), (3, .int i3), (4, .int i4), (5, .int i5)]) (st' := [.int i3, .int x7]) [(.iload_n 3, 1, 0)] (by decide +kernel) rfl ?_
          refine C.icmp_eq (off := 9) (tgt := 120) (pf := 114) (by decide +kernel) (by decide) rfl (fun c8 => ?_) (fun c8 => ?_)
          · replace hf := ifp c8 hf
            exact l_X15_vote_120 C C2 r0 i1 i2 i3 i4 i5 h hf
          · replace hf := ifn c8 hf
            exact l_X15_vote_114 C C2 ih r0 i1 i2 i3 i4 i5 h hf
def f_X15_vote_47 (r0 : Nat) (h : AH) : Option (Int32 × AH) :=
  b2 (f_X15_denied r0 2 h) fun x1 h2 =>
  (ckZ x1).bind fun x3 =>
  some (x3, h2)
set_option maxRecDepth 100000 in
set_option maxHeartbeats 4000000 in
theorem l_X15_vote_47 {X : MX} {l : Launch} {G : GX} {h0 : AH} {rr : Int32} {hr : AH} (C : Cx X G RX15 cX15_vote 6 (some .boolean) 1 40 h0) (C2 : Cy X l "vote" []) (r0 : Nat) (h : AH) (hf : f_X15_vote_47 r0 h = some (rr, hr)) : V X G h0 (QI rr hr) 47 [(0, .ref r0)] [] h := by
  unfold f_X15_vote_47 at hf
  refine C.seg (pe := 49) (lv' := [(0, .ref r0)]) (st' := [.int 2, .ref r0]) [(.aload_n 0, 1, 0), (.iconst 2, 1, 2)] (by decide +kernel) rfl ?_
  obtain ⟨x1, h2, gx1, hf⟩ := b2_some hf
  refine C.callVr C2 [.int 2] [] mv_2152 rfl (o_X15_denied gx1) (w_X15_denied gx1) (by omega) (by omega) (Nat.le_of_ble_eq_true rfl) (by decide +kernel) rfl ?_
  obtain ⟨x3, gx3, hf⟩ := Option.bind_eq_some_iff.mp hf
  have ex3 := ckZ_eq gx3
  subst ex3
  cases hf
  exact C.retZ rfl gx3 (by decide +kernel) ⟨rfl, rfl⟩
def f_X15_vote_21 (r0 : Nat) (h : AH) : Option (Int32 × AH) :=
  b2 (f_X15_denied r0 1 h) fun x1 h2 =>
  (ckZ x1).bind fun x3 =>
  some (x3, h2)
set_option maxRecDepth 100000 in
set_option maxHeartbeats 4000000 in
theorem l_X15_vote_21 {X : MX} {l : Launch} {G : GX} {h0 : AH} {rr : Int32} {hr : AH} (C : Cx X G RX15 cX15_vote 6 (some .boolean) 1 40 h0) (C2 : Cy X l "vote" []) (r0 : Nat) (h : AH) (hf : f_X15_vote_21 r0 h = some (rr, hr)) : V X G h0 (QI rr hr) 21 [(0, .ref r0)] [] h := by
  unfold f_X15_vote_21 at hf
  refine C.seg (pe := 23) (lv' := [(0, .ref r0)]) (st' := [.int 1, .ref r0]) [(.aload_n 0, 1, 0), (.iconst 1, 1, 1)] (by decide +kernel) rfl ?_
  obtain ⟨x1, h2, gx1, hf⟩ := b2_some hf
  refine C.callVr C2 [.int 1] [] mv_2152 rfl (o_X15_denied gx1) (w_X15_denied gx1) (by omega) (by omega) (Nat.le_of_ble_eq_true rfl) (by decide +kernel) rfl ?_
  obtain ⟨x3, gx3, hf⟩ := Option.bind_eq_some_iff.mp hf
  have ex3 := ckZ_eq gx3
  subst ex3
  cases hf
  exact C.retZ rfl gx3 (by decide +kernel) ⟨rfl, rfl⟩
def f_X15_vote (a0 : Nat) (p1 : Int32) (p2 : Int32) (p3 : Int32) (p4 : Int32) (h : AH) : Option (Int32 × AH) :=
  if isO 15 h a0 = true then
    (pI 15 h a0 0 0).bind fun h1 =>
    b2 (f_X15_isPainter a0 p2 h1) fun x2 h3 =>
    if x2 = 0 then
      f_X15_vote_21 a0 h3
    else
      b2 (f_X15_isWall a0 p3 h3) fun x4 h5 =>
      if x4 = 0 then
        f_X15_vote_21 a0 h5
      else
        b2 (f_X15_in p1 0 99 h5) fun x6 h7 =>
        if x6 = 0 then
          f_X15_vote_47 a0 h7
        else
          b2 (f_X15_in p4 0 5 h7) fun x8 h9 =>
          if x8 = 0 then
            f_X15_vote_47 a0 h9
          else
            (gA 15 h9 a0 61).bind fun a10 =>
            (aI 0 h9 a10 p2).bind fun x11 =>
            if p1 = x11 then
              b2 (f_X15_denied a0 5 h9) fun x12 h13 =>
              (ckZ x12).bind fun x14 =>
              some (x14, h13)
            else
              f_X15_vote_72 FU a0 p1 p2 p3 p4 0 h9
  else none
set_option maxRecDepth 100000 in
set_option maxHeartbeats 4000000 in
theorem w_X15_vote {l : Launch} {G : GX} {a0 : Nat} {p1 : Int32} {p2 : Int32} {p3 : Int32} {p4 : Int32} {h : AH} {rr : Int32} {hr : AH} (hf : f_X15_vote a0 p1 p2 p3 p4 h = some (rr, hr)) : Ct l G yX15_vote 1 40 [.ref a0, .int p1, .int p2, .int p3, .int p4] h (QI rr hr) := by
  unfold f_X15_vote at hf
  obtain ⟨ho, hf⟩ := ifO hf
  refine Ct_of (own := RX15) (cc := cX15_vote) (nL := 6) (ret := (some .boolean)) rfl rfl k_2382 (Nat.le_of_ble_eq_true rfl) (fun X C2 C => ?_)
  show V X G h (QI rr hr) 0 [(0, .ref a0), (1, .int p1), (2, .int p2), (3, .int p3), (4, .int p4)] [] h
  refine C.seg (pe := 2) (lv' := [(0, .ref a0), (1, .int p1), (2, .int p2), (3, .int p3), (4, .int p4)]) (st' := [.int 0, .ref a0]) [(.aload_n 0, 1, 0), (.iconst 0, 1, 0)] (by decide +kernel) rfl ?_
  obtain ⟨h1, gh1, hf⟩ := Option.bind_eq_some_iff.mp hf
  refine C.putI fl_1786 gh1 (by decide +kernel) rfl ?_
  refine C.seg (pe := 7) (lv' := [(0, .ref a0), (1, .int p1), (2, .int p2), (3, .int p3), (4, .int p4)]) (st' := [.int p2, .ref a0]) [(.aload_n 0, 1, 0), (.iload_n 2, 1, 0)] (by decide +kernel) rfl ?_
  obtain ⟨x2, h3, gx2, hf⟩ := b2_some hf
  refine C.callVr C2 [.int p2] [] mv_2375 rfl (o_X15_isPainter gx2) (w_X15_isPainter gx2) (by omega) (by omega) (Nat.le_of_ble_eq_true rfl) (by decide +kernel) rfl ?_
  refine C.if_eq (off := 11) (tgt := 21) (pf := 13) (by decide +kernel) (by decide) rfl (fun c19 => ?_) (fun c19 => ?_)
  · replace hf := ifp c19 hf
    refine Vsub [0] rfl ?_
    exact l_X15_vote_21 C C2 a0 h3 hf
  · replace hf := ifn c19 hf
    refine C.seg (pe := 15) (lv' := [(0, .ref a0), (1, .int p1), (2, .int p2), (3, .int p3), (4, .int p4)]) (st' := [.int p3, .ref a0]) [(.aload_n 0, 1, 0), (.iload_n 3, 1, 0)] (by decide +kernel) rfl ?_
    obtain ⟨x4, h5, gx4, hf⟩ := b2_some hf
    refine C.callVr C2 [.int p3] [] mv_2124 rfl (o_X15_isWall gx4) (w_X15_isWall gx4) (by omega) (by omega) (Nat.le_of_ble_eq_true rfl) (by decide +kernel) rfl ?_
    refine C.if_ne (off := 9) (tgt := 27) (pf := 21) (by decide +kernel) (by decide) rfl (fun c18 => ?_) (fun c18 => ?_)
    · replace hf := ifn c18 hf
      refine C.seg (pe := 31) (lv' := [(0, .ref a0), (1, .int p1), (2, .int p2), (3, .int p3), (4, .int p4)]) (st' := [.int 99, .int 0, .int p1]) [(.iload_n 1, 1, 0), (.iconst 0, 1, 0), (.bipush 99, 2, 99)] (by decide +kernel) rfl ?_
      obtain ⟨x6, h7, gx6, hf⟩ := b2_some hf
      refine C.callSr C2 [.int p1, .int 0, .int 99] [] ms_2109 rfl (w_X15_in gx6) (by omega) (by omega) (Nat.le_of_ble_eq_true rfl) (by decide +kernel) rfl ?_
      refine C.if_eq (off := 13) (tgt := 47) (pf := 37) (by decide +kernel) (by decide) rfl (fun c17 => ?_) (fun c17 => ?_)
      · replace hf := ifp c17 hf
        refine Vsub [0] rfl ?_
        exact l_X15_vote_47 C C2 a0 h7 hf
      · replace hf := ifn c17 hf
        refine C.seg (pe := 41) (lv' := [(0, .ref a0), (1, .int p1), (2, .int p2), (3, .int p3), (4, .int p4)]) (st' := [.int 5, .int 0, .int p4]) [(.iload 4, 2, 0), (.iconst 0, 1, 0), (.iconst 5, 1, 5)] (by decide +kernel) rfl ?_
        obtain ⟨x8, h9, gx8, hf⟩ := b2_some hf
        refine C.callSr C2 [.int p4, .int 0, .int 5] [] ms_2109 rfl (w_X15_in gx8) (by omega) (by omega) (Nat.le_of_ble_eq_true rfl) (by decide +kernel) rfl ?_
        refine C.if_ne (off := 9) (tgt := 53) (pf := 47) (by decide +kernel) (by decide) rfl (fun c16 => ?_) (fun c16 => ?_)
        · replace hf := ifn c16 hf
          refine C.seg (pe := 55) (lv' := [(0, .ref a0), (1, .int p1), (2, .int p2), (3, .int p3), (4, .int p4)]) (st' := [.ref a0, .int p1]) [(.iload_n 1, 1, 0), (.aload_n 0, 1, 0)] (by decide +kernel) rfl ?_
          obtain ⟨a10, ga10, hf⟩ := Option.bind_eq_some_iff.mp hf
          refine C.rdA fr_1847 ga10 (by decide +kernel) rfl ?_
          refine C.seg (pe := 59) (lv' := [(0, .ref a0), (1, .int p1), (2, .int p2), (3, .int p3), (4, .int p4)]) (st' := [.int p2, .ref a10, .int p1]) [(.iload_n 2, 1, 0)] (by decide +kernel) rfl ?_
          obtain ⟨x11, gx11, hf⟩ := Option.bind_eq_some_iff.mp hf
          refine C.ald 0 rfl gx11 (by decide +kernel) rfl ?_
          refine C.icmp_ne (off := 9) (tgt := 69) (pf := 63) (by decide +kernel) (by decide) rfl (fun c15 => ?_) (fun c15 => ?_)
          · replace hf := ifn c15 hf
            refine C.seg (pe := 72) (lv' := [(5, .int 0), (0, .ref a0), (1, .int p1), (2, .int p2), (3, .int p3), (4, .int p4)]) (st' := []) [(.iconst 0, 1, 0), (.istore 5, 2, 0)] (by decide +kernel) rfl ?_
            refine Vsub [1, 2, 3, 4, 5, 0] rfl ?_
            exact l_X15_vote_72 C C2 FU a0 p1 p2 p3 p4 0 h9 hf
          · replace hf := ifp c15 hf
            refine C.seg (pe := 65) (lv' := [(0, .ref a0), (1, .int p1), (2, .int p2), (3, .int p3), (4, .int p4)]) (st' := [.int 5, .ref a0]) [(.aload_n 0, 1, 0), (.iconst 5, 1, 5)] (by decide +kernel) rfl ?_
            obtain ⟨x12, h13, gx12, hf⟩ := b2_some hf
            refine C.callVr C2 [.int 5] [] mv_2152 rfl (o_X15_denied gx12) (w_X15_denied gx12) (by omega) (by omega) (Nat.le_of_ble_eq_true rfl) (by decide +kernel) rfl ?_
            obtain ⟨x14, gx14, hf⟩ := Option.bind_eq_some_iff.mp hf
            have ex14 := ckZ_eq gx14
            subst ex14
            cases hf
            exact C.retZ rfl gx14 (by decide +kernel) ⟨rfl, rfl⟩
        · replace hf := ifp c16 hf
          refine Vsub [0] rfl ?_
          exact l_X15_vote_47 C C2 a0 h9 hf
    · replace hf := ifp c18 hf
      refine Vsub [0] rfl ?_
      exact l_X15_vote_21 C C2 a0 h5 hf
theorem o_X15_vote {a0 : Nat} {p1 : Int32} {p2 : Int32} {p3 : Int32} {p4 : Int32} {h : AH} {rr : Int32} {hr : AH} (hf : f_X15_vote a0 p1 p2 p3 p4 h = some (rr, hr)) : isO 15 h a0 = true := by
  unfold f_X15_vote at hf
  exact (ifO hf).1
/-! WallHouseModel.likedOf(II)I -/
def f_X15_likedOf_61 (k18 : Nat → Int32 → Int32 → Int32 → Int32 → AH → Option (Int32 × AH)) (r0 : Nat) (i1 : Int32) (i2 : Int32) (i4 : Int32) (si0 : Int32) (si1 : Int32) (h : AH) : Option (Int32 × AH) :=
  k18 r0 i1 i2 (si1 + si0) (i4 + 1) h
set_option maxRecDepth 100000 in
set_option maxHeartbeats 4000000 in
theorem l_X15_likedOf_61 {X : MX} {l : Launch} {G : GX} {h0 : AH} {rr : Int32} {hr : AH} (C : Cx X G RX15 cX15_likedOf 5 (some .int) 0 0 h0) (C2 : Cy X l "likedOf" []) {k18 : Nat → Int32 → Int32 → Int32 → Int32 → AH → Option (Int32 × AH)} (hk18 : ∀ (r0 : Nat) (i1 : Int32) (i2 : Int32) (i3 : Int32) (i4 : Int32) (h : AH), k18 r0 i1 i2 i3 i4 h = some (rr, hr) → V X G h0 (QI rr hr) 18 [(0, .ref r0), (1, .int i1), (2, .int i2), (3, .int i3), (4, .int i4)] [] h) (r0 : Nat) (i1 : Int32) (i2 : Int32) (i4 : Int32) (si0 : Int32) (si1 : Int32) (h : AH) (hf : f_X15_likedOf_61 k18 r0 i1 i2 i4 si0 si1 h = some (rr, hr)) : V X G h0 (QI rr hr) 61 [(0, .ref r0), (1, .int i1), (2, .int i2), (4, .int i4)] [.int si0, .int si1] h := by
  unfold f_X15_likedOf_61 at hf
  refine C.seg (pe := 66) (lv' := [(4, .int (i4 + 1)), (3, .int (si1 + si0)), (0, .ref r0), (1, .int i1), (2, .int i2)]) (st' := []) [(.iadd, 1, 0), (.istore_n 3, 1, 0), (.iinc 4 1, 3, 1)] (by decide +kernel) rfl ?_
  refine C.goto (off := (-48)) (tgt := 18) (by decide +kernel) (by decide) ?_
  refine Vsub [2, 3, 4, 1, 0] rfl ?_
  exact hk18 r0 i1 i2 (si1 + si0) (i4 + 1) h hf
def f_X15_likedOf_60 (k18 : Nat → Int32 → Int32 → Int32 → Int32 → AH → Option (Int32 × AH)) (r0 : Nat) (i1 : Int32) (i2 : Int32) (i4 : Int32) (si0 : Int32) (h : AH) : Option (Int32 × AH) :=
  f_X15_likedOf_61 k18 r0 i1 i2 i4 0 si0 h
set_option maxRecDepth 100000 in
set_option maxHeartbeats 4000000 in
theorem l_X15_likedOf_60 {X : MX} {l : Launch} {G : GX} {h0 : AH} {rr : Int32} {hr : AH} (C : Cx X G RX15 cX15_likedOf 5 (some .int) 0 0 h0) (C2 : Cy X l "likedOf" []) {k18 : Nat → Int32 → Int32 → Int32 → Int32 → AH → Option (Int32 × AH)} (hk18 : ∀ (r0 : Nat) (i1 : Int32) (i2 : Int32) (i3 : Int32) (i4 : Int32) (h : AH), k18 r0 i1 i2 i3 i4 h = some (rr, hr) → V X G h0 (QI rr hr) 18 [(0, .ref r0), (1, .int i1), (2, .int i2), (3, .int i3), (4, .int i4)] [] h) (r0 : Nat) (i1 : Int32) (i2 : Int32) (i4 : Int32) (si0 : Int32) (h : AH) (hf : f_X15_likedOf_60 k18 r0 i1 i2 i4 si0 h = some (rr, hr)) : V X G h0 (QI rr hr) 60 [(0, .ref r0), (1, .int i1), (2, .int i2), (4, .int i4)] [.int si0] h := by
  unfold f_X15_likedOf_60 at hf
  refine C.seg (pe := 61) (lv' := [(0, .ref r0), (1, .int i1), (2, .int i2), (4, .int i4)]) (st' := [.int 0, .int si0]) [(.iconst 0, 1, 0)] (by decide +kernel) rfl ?_
  exact l_X15_likedOf_61 C C2 hk18 r0 i1 i2 i4 0 si0 h hf
def f_X15_likedOf_18 : Nat → Nat → Int32 → Int32 → Int32 → Int32 → AH → Option (Int32 × AH)
  | 0, _, _, _, _, _, _ => none
  | n + 1, r0, i1, i2, i3, i4, h =>
    (gI 15 h r0 59).bind fun x1 =>
    if x1 ≤ i4 then
      some (i3, h)
    else
      (gA 15 h r0 64).bind fun a2 =>
      (aI 0 h a2 i4).bind fun x3 =>
      if x3 = i1 then
        (gA 15 h r0 65).bind fun a4 =>
        (aI 0 h a4 i4).bind fun x5 =>
        if x5 = i2 then
          (gA 15 h r0 66).bind fun a6 =>
          (aI 0 h a6 i4).bind fun x7 =>
          f_X15_likedOf_61 (f_X15_likedOf_18 n) r0 i1 i2 i4 x7 i3 h
        else
          f_X15_likedOf_60 (f_X15_likedOf_18 n) r0 i1 i2 i4 i3 h
      else
        f_X15_likedOf_60 (f_X15_likedOf_18 n) r0 i1 i2 i4 i3 h
set_option maxRecDepth 100000 in
set_option maxHeartbeats 4000000 in
theorem l_X15_likedOf_18 {X : MX} {l : Launch} {G : GX} {h0 : AH} {rr : Int32} {hr : AH} (C : Cx X G RX15 cX15_likedOf 5 (some .int) 0 0 h0) (C2 : Cy X l "likedOf" []) : ∀ (n : Nat) (r0 : Nat) (i1 : Int32) (i2 : Int32) (i3 : Int32) (i4 : Int32) (h : AH), f_X15_likedOf_18 n r0 i1 i2 i3 i4 h = some (rr, hr) → V X G h0 (QI rr hr) 18 [(0, .ref r0), (1, .int i1), (2, .int i2), (3, .int i3), (4, .int i4)] [] h := by
  intro n
  induction n with
  | zero => intro r0 i1 i2 i3 i4 h hf; rw [f_X15_likedOf_18] at hf; cases hf
  | succ n ih =>
    intro r0 i1 i2 i3 i4 h hf
    rw [f_X15_likedOf_18] at hf
    refine C.seg (pe := 21) (lv' := [(0, .ref r0), (1, .int i1), (2, .int i2), (3, .int i3), (4, .int i4)]) (st' := [.ref r0, .int i4]) [(.iload 4, 2, 0), (.aload_n 0, 1, 0)] (by decide +kernel) rfl ?_
    obtain ⟨x1, gx1, hf⟩ := Option.bind_eq_some_iff.mp hf
    refine C.rdI fr_1845 gx1 (by decide +kernel) rfl ?_
    refine C.icmp_ge (off := 45) (tgt := 69) (pf := 27) (by decide +kernel) (by decide) rfl (fun c10 => ?_) (fun c10 => ?_)
    · replace hf := ifp c10 hf
      refine C.seg (pe := 70) (lv' := [(0, .ref r0), (1, .int i1), (2, .int i2), (3, .int i3), (4, .int i4)]) (st' := [.int i3]) [(.iload_n 3, 1, 0)] (by decide +kernel) rfl ?_
      cases hf
      exact C.retI rfl (by decide +kernel) ⟨rfl, rfl⟩
    · replace hf := ifn c10 hf
      refine C.seg (pe := 29) (lv' := [(0, .ref r0), (1, .int i1), (2, .int i2), (3, .int i3), (4, .int i4)]) (st' := [.ref r0, .int i3]) [(.iload_n 3, 1, 0), (.aload_n 0, 1, 0)] (by decide +kernel) rfl ?_
      obtain ⟨a2, ga2, hf⟩ := Option.bind_eq_some_iff.mp hf
      refine C.rdA fr_1850 ga2 (by decide +kernel) rfl ?_
      refine C.seg (pe := 34) (lv' := [(0, .ref r0), (1, .int i1), (2, .int i2), (3, .int i3), (4, .int i4)]) (st' := [.int i4, .ref a2, .int i3]) [(.iload 4, 2, 0)] (by decide +kernel) rfl ?_
      obtain ⟨x3, gx3, hf⟩ := Option.bind_eq_some_iff.mp hf
      refine C.ald 0 rfl gx3 (by decide +kernel) rfl ?_
      refine C.seg (pe := 36) (lv' := [(0, .ref r0), (1, .int i1), (2, .int i2), (3, .int i3), (4, .int i4)]) (st' := [.int i1, .int x3, .int i3]) [(.iload_n 1, 1, 0)] (by decide +kernel) rfl ?_
      refine C.icmp_ne (off := 24) (tgt := 60) (pf := 39) (by decide +kernel) (by decide) rfl (fun c9 => ?_) (fun c9 => ?_)
      · replace hf := ifn c9 hf
        refine Vsub [0, 1, 2, 4] rfl ?_
        exact l_X15_likedOf_60 C C2 ih r0 i1 i2 i4 i3 h hf
      · replace hf := ifp c9 hf
        refine C.seg (pe := 40) (lv' := [(0, .ref r0), (1, .int i1), (2, .int i2), (3, .int i3), (4, .int i4)]) (st' := [.ref r0, .int i3]) [(.aload_n 0, 1, 0)] (by decide +kernel) rfl ?_
        obtain ⟨a4, ga4, hf⟩ := Option.bind_eq_some_iff.mp hf
        refine C.rdA fr_1851 ga4 (by decide +kernel) rfl ?_
        refine C.seg (pe := 45) (lv' := [(0, .ref r0), (1, .int i1), (2, .int i2), (3, .int i3), (4, .int i4)]) (st' := [.int i4, .ref a4, .int i3]) [(.iload 4, 2, 0)] (by decide +kernel) rfl ?_
        obtain ⟨x5, gx5, hf⟩ := Option.bind_eq_some_iff.mp hf
        refine C.ald 0 rfl gx5 (by decide +kernel) rfl ?_
        refine C.seg (pe := 47) (lv' := [(0, .ref r0), (1, .int i1), (2, .int i2), (3, .int i3), (4, .int i4)]) (st' := [.int i2, .int x5, .int i3]) [(.iload_n 2, 1, 0)] (by decide +kernel) rfl ?_
        refine C.icmp_ne (off := 13) (tgt := 60) (pf := 50) (by decide +kernel) (by decide) rfl (fun c8 => ?_) (fun c8 => ?_)
        · replace hf := ifn c8 hf
          refine Vsub [0, 1, 2, 4] rfl ?_
          exact l_X15_likedOf_60 C C2 ih r0 i1 i2 i4 i3 h hf
        · replace hf := ifp c8 hf
          refine C.seg (pe := 51) (lv' := [(0, .ref r0), (1, .int i1), (2, .int i2), (3, .int i3), (4, .int i4)]) (st' := [.ref r0, .int i3]) [(.aload_n 0, 1, 0)] (by decide +kernel) rfl ?_
          obtain ⟨a6, ga6, hf⟩ := Option.bind_eq_some_iff.mp hf
          refine C.rdA fr_1852 ga6 (by decide +kernel) rfl ?_
          refine C.seg (pe := 56) (lv' := [(0, .ref r0), (1, .int i1), (2, .int i2), (3, .int i3), (4, .int i4)]) (st' := [.int i4, .ref a6, .int i3]) [(.iload 4, 2, 0)] (by decide +kernel) rfl ?_
          obtain ⟨x7, gx7, hf⟩ := Option.bind_eq_some_iff.mp hf
          refine C.ald 0 rfl gx7 (by decide +kernel) rfl ?_
          refine C.goto (off := 4) (tgt := 61) (by decide +kernel) (by decide) ?_
          refine Vsub [0, 1, 2, 4] rfl ?_
          exact l_X15_likedOf_61 C C2 ih r0 i1 i2 i4 x7 i3 h hf
def f_X15_likedOf (a0 : Nat) (p1 : Int32) (p2 : Int32) (h : AH) : Option (Int32 × AH) :=
  if isO 15 h a0 = true then
    (gA 15 h a0 62).bind fun a1 =>
    (aI 0 h a1 ((16 * p1) + p2)).bind fun x2 =>
    f_X15_likedOf_18 FU a0 p1 p2 (10 * x2) 0 h
  else none
set_option maxRecDepth 100000 in
set_option maxHeartbeats 4000000 in
theorem w_X15_likedOf {l : Launch} {G : GX} {a0 : Nat} {p1 : Int32} {p2 : Int32} {h : AH} {rr : Int32} {hr : AH} (hf : f_X15_likedOf a0 p1 p2 h = some (rr, hr)) : Ct l G yX15_likedOf 0 0 [.ref a0, .int p1, .int p2] h (QI rr hr) := by
  unfold f_X15_likedOf at hf
  obtain ⟨ho, hf⟩ := ifO hf
  refine Ct_of (own := RX15) (cc := cX15_likedOf) (nL := 5) (ret := (some .int)) rfl rfl k_2390 (Nat.le_of_ble_eq_true rfl) (fun X C2 C => ?_)
  show V X G h (QI rr hr) 0 [(0, .ref a0), (1, .int p1), (2, .int p2)] [] h
  refine C.seg (pe := 3) (lv' := [(0, .ref a0), (1, .int p1), (2, .int p2)]) (st' := [.ref a0, .int 10]) [(.bipush 10, 2, 10), (.aload_n 0, 1, 0)] (by decide +kernel) rfl ?_
  obtain ⟨a1, ga1, hf⟩ := Option.bind_eq_some_iff.mp hf
  refine C.rdA fr_1848 ga1 (by decide +kernel) rfl ?_
  refine C.seg (pe := 12) (lv' := [(0, .ref a0), (1, .int p1), (2, .int p2)]) (st' := [.int ((16 * p1) + p2), .ref a1, .int 10]) [(.bipush 16, 2, 16), (.iload_n 1, 1, 0), (.imul, 1, 0), (.iload_n 2, 1, 0), (.iadd, 1, 0)] (by decide +kernel) rfl ?_
  obtain ⟨x2, gx2, hf⟩ := Option.bind_eq_some_iff.mp hf
  refine C.ald 0 rfl gx2 (by decide +kernel) rfl ?_
  refine C.seg (pe := 18) (lv' := [(4, .int 0), (3, .int (10 * x2)), (0, .ref a0), (1, .int p1), (2, .int p2)]) (st' := []) [(.imul, 1, 0), (.istore_n 3, 1, 0), (.iconst 0, 1, 0), (.istore 4, 2, 0)] (by decide +kernel) rfl ?_
  refine Vsub [2, 3, 4, 1, 0] rfl ?_
  exact l_X15_likedOf_18 C C2 FU a0 p1 p2 (10 * x2) 0 h hf
theorem o_X15_likedOf {a0 : Nat} {p1 : Int32} {p2 : Int32} {h : AH} {rr : Int32} {hr : AH} (hf : f_X15_likedOf a0 p1 p2 h = some (rr, hr)) : isO 15 h a0 = true := by
  unfold f_X15_likedOf at hf
  exact (ifO hf).1
/-! WallHouseModel.liked(II)I -/
def f_X15_liked_31 (si0 : Int32) (h : AH) : Option (Int32 × AH) :=
  some (si0, h)
set_option maxRecDepth 100000 in
set_option maxHeartbeats 4000000 in
theorem l_X15_liked_31 {X : MX} {l : Launch} {G : GX} {h0 : AH} {rr : Int32} {hr : AH} (C : Cx X G RX15 cX15_liked 3 (some .int) 1 24 h0) (C2 : Cy X l "liked" []) (si0 : Int32) (h : AH) (hf : f_X15_liked_31 si0 h = some (rr, hr)) : V X G h0 (QI rr hr) 31 [] [.int si0] h := by
  unfold f_X15_liked_31 at hf
  cases hf
  exact C.retI rfl (by decide +kernel) ⟨rfl, rfl⟩
def f_X15_liked_30 (h : AH) : Option (Int32 × AH) :=
  f_X15_liked_31 (-1) h
set_option maxRecDepth 100000 in
set_option maxHeartbeats 4000000 in
theorem l_X15_liked_30 {X : MX} {l : Launch} {G : GX} {h0 : AH} {rr : Int32} {hr : AH} (C : Cx X G RX15 cX15_liked 3 (some .int) 1 24 h0) (C2 : Cy X l "liked" []) (h : AH) (hf : f_X15_liked_30 h = some (rr, hr)) : V X G h0 (QI rr hr) 30 [] [] h := by
  unfold f_X15_liked_30 at hf
  refine C.seg (pe := 31) (lv' := []) (st' := [.int (-1)]) [(.iconst (-1), 1, (-1))] (by decide +kernel) rfl ?_
  exact l_X15_liked_31 C C2 (-1) h hf
def f_X15_liked (a0 : Nat) (p1 : Int32) (p2 : Int32) (h : AH) : Option (Int32 × AH) :=
  if isO 15 h a0 = true then
    (pI 15 h a0 0 0).bind fun h1 =>
    b2 (f_X15_isPainter a0 p1 h1) fun x2 h3 =>
    if x2 = 0 then
      f_X15_liked_30 h3
    else
      b2 (f_X15_isWall a0 p2 h3) fun x4 h5 =>
      if x4 = 0 then
        f_X15_liked_30 h5
      else
        b2 (f_X15_likedOf a0 p1 p2 h5) fun x6 h7 =>
        f_X15_liked_31 x6 h7
  else none
set_option maxRecDepth 100000 in
set_option maxHeartbeats 4000000 in
theorem w_X15_liked {l : Launch} {G : GX} {a0 : Nat} {p1 : Int32} {p2 : Int32} {h : AH} {rr : Int32} {hr : AH} (hf : f_X15_liked a0 p1 p2 h = some (rr, hr)) : Ct l G yX15_liked 1 24 [.ref a0, .int p1, .int p2] h (QI rr hr) := by
  unfold f_X15_liked at hf
  obtain ⟨ho, hf⟩ := ifO hf
  refine Ct_of (own := RX15) (cc := cX15_liked) (nL := 3) (ret := (some .int)) rfl rfl k_2386 (Nat.le_of_ble_eq_true rfl) (fun X C2 C => ?_)
  show V X G h (QI rr hr) 0 [(0, .ref a0), (1, .int p1), (2, .int p2)] [] h
  refine C.seg (pe := 2) (lv' := [(0, .ref a0), (1, .int p1), (2, .int p2)]) (st' := [.int 0, .ref a0]) [(.aload_n 0, 1, 0), (.iconst 0, 1, 0)] (by decide +kernel) rfl ?_
  obtain ⟨h1, gh1, hf⟩ := Option.bind_eq_some_iff.mp hf
  refine C.putI fl_1786 gh1 (by decide +kernel) rfl ?_
  refine C.seg (pe := 7) (lv' := [(0, .ref a0), (1, .int p1), (2, .int p2)]) (st' := [.int p1, .ref a0]) [(.aload_n 0, 1, 0), (.iload_n 1, 1, 0)] (by decide +kernel) rfl ?_
  obtain ⟨x2, h3, gx2, hf⟩ := b2_some hf
  refine C.callVr C2 [.int p1] [] mv_2375 rfl (o_X15_isPainter gx2) (w_X15_isPainter gx2) (by omega) (by omega) (Nat.le_of_ble_eq_true rfl) (by decide +kernel) rfl ?_
  refine C.if_eq (off := 20) (tgt := 30) (pf := 13) (by decide +kernel) (by decide) rfl (fun c9 => ?_) (fun c9 => ?_)
  · replace hf := ifp c9 hf
    refine Vsub [] rfl ?_
    exact l_X15_liked_30 C C2 h3 hf
  · replace hf := ifn c9 hf
    refine C.seg (pe := 15) (lv' := [(0, .ref a0), (1, .int p1), (2, .int p2)]) (st' := [.int p2, .ref a0]) [(.aload_n 0, 1, 0), (.iload_n 2, 1, 0)] (by decide +kernel) rfl ?_
    obtain ⟨x4, h5, gx4, hf⟩ := b2_some hf
    refine C.callVr C2 [.int p2] [] mv_2124 rfl (o_X15_isWall gx4) (w_X15_isWall gx4) (by omega) (by omega) (Nat.le_of_ble_eq_true rfl) (by decide +kernel) rfl ?_
    refine C.if_eq (off := 12) (tgt := 30) (pf := 21) (by decide +kernel) (by decide) rfl (fun c8 => ?_) (fun c8 => ?_)
    · replace hf := ifp c8 hf
      refine Vsub [] rfl ?_
      exact l_X15_liked_30 C C2 h5 hf
    · replace hf := ifn c8 hf
      refine C.seg (pe := 24) (lv' := [(0, .ref a0), (1, .int p1), (2, .int p2)]) (st' := [.int p2, .int p1, .ref a0]) [(.aload_n 0, 1, 0), (.iload_n 1, 1, 0), (.iload_n 2, 1, 0)] (by decide +kernel) rfl ?_
      obtain ⟨x6, h7, gx6, hf⟩ := b2_some hf
      refine C.callVr C2 [.int p1, .int p2] [] mv_2387 rfl (o_X15_likedOf gx6) (w_X15_likedOf gx6) (by omega) (by omega) (Nat.le_of_ble_eq_true rfl) (by decide +kernel) rfl ?_
      refine C.goto (off := 4) (tgt := 31) (by decide +kernel) (by decide) ?_
      refine Vsub [] rfl ?_
      exact l_X15_liked_31 C C2 x6 h7 hf
theorem o_X15_liked {a0 : Nat} {p1 : Int32} {p2 : Int32} {h : AH} {rr : Int32} {hr : AH} (hf : f_X15_liked a0 p1 p2 h = some (rr, hr)) : isO 15 h a0 = true := by
  unfold f_X15_liked at hf
  exact (ifO hf).1
/-! WallHouseModel.bits(I)I -/
def f_X15_bits_4 : Nat → Int32 → Int32 → AH → Option (Int32 × AH)
  | 0, _, _, _ => none
  | n + 1, i1, i2, h =>
    if i2 = 0 then
      some (i1, h)
    else
      lt (i2 &&& (i2 - 1) : Int32) fun x1 =>
      (f_X15_bits_4 n) (i1 + 1) x1 h
set_option maxRecDepth 100000 in
set_option maxHeartbeats 4000000 in
theorem l_X15_bits_4 {X : MX} {l : Launch} {G : GX} {h0 : AH} {rr : Int32} {hr : AH} (C : Cx X G RX15 cX15_bits 3 (some .int) 0 0 h0) (C2 : Cy X l "bits" []) : ∀ (n : Nat) (i1 : Int32) (i2 : Int32) (h : AH), f_X15_bits_4 n i1 i2 h = some (rr, hr) → V X G h0 (QI rr hr) 4 [(1, .int i1), (2, .int i2)] [] h := by
  intro n
  induction n with
  | zero => intro i1 i2 h hf; rw [f_X15_bits_4] at hf; cases hf
  | succ n ih =>
    intro i1 i2 h hf
    rw [f_X15_bits_4] at hf
    refine C.seg (pe := 5) (lv' := [(1, .int i1), (2, .int i2)]) (st' := [.int i2]) [(.iload_n 2, 1, 0)] (by decide +kernel) rfl ?_
    refine C.if_eq (off := 15) (tgt := 20) (pf := 8) (by decide +kernel) (by decide) rfl (fun c2 => ?_) (fun c2 => ?_)
    · replace hf := ifp c2 hf
      refine C.seg (pe := 21) (lv' := [(1, .int i1), (2, .int i2)]) (st' := [.int i1]) [(.iload_n 1, 1, 0)] (by decide +kernel) rfl ?_
      cases hf
      exact C.retI rfl (by decide +kernel) ⟨rfl, rfl⟩
    · replace hf := ifn c2 hf
      refine C.seg (pe := 16) (lv' := [(1, .int (i1 + 1)), (2, .int i2)]) (st' := [.int (i2 &&& (i2 - 1))]) [(.iinc 1 1, 3, 1), (.iload_n 2, 1, 0), (.iload_n 2, 1, 0), (.iconst 1, 1, 1), (.isub, 1, 0), (.iand, 1, 0)] (by decide +kernel) rfl ?_
      refine Vtopi (fun x1 ex1 => ?_)
      replace hf := lt_ap ex1 hf
      clear ex1
      refine C.seg (pe := 17) (lv' := [(2, .int x1), (1, .int (i1 + 1))]) (st' := []) [(.istore_n 2, 1, 0)] (by decide +kernel) rfl ?_
      refine C.goto (off := (-13)) (tgt := 4) (by decide +kernel) (by decide) ?_
      refine Vsub [1, 0] rfl ?_
      exact ih (i1 + 1) x1 h hf
def f_X15_bits (p1 : Int32) (h : AH) : Option (Int32 × AH) :=
  f_X15_bits_4 FU 0 p1 h
set_option maxRecDepth 100000 in
set_option maxHeartbeats 4000000 in
theorem w_X15_bits {l : Launch} {G : GX} {p1 : Int32} {h : AH} {rr : Int32} {hr : AH} (hf : f_X15_bits p1 h = some (rr, hr)) : Ct l G yX15_bits 0 0 [.int p1] h (QI rr hr) := by
  unfold f_X15_bits at hf
  refine Ct_of (own := RX15) (cc := cX15_bits) (nL := 3) (ret := (some .int)) rfl rfl k_2397 (Nat.le_of_ble_eq_true rfl) (fun X C2 C => ?_)
  show V X G h (QI rr hr) 0 [(0, .int p1)] [] h
  refine C.seg (pe := 4) (lv' := [(2, .int p1), (1, .int 0), (0, .int p1)]) (st' := []) [(.iconst 0, 1, 0), (.istore_n 1, 1, 0), (.iload_n 0, 1, 0), (.istore_n 2, 1, 0)] (by decide +kernel) rfl ?_
  refine Vsub [1, 0] rfl ?_
  exact l_X15_bits_4 C C2 FU 0 p1 h hf
/-! WallHouseModel.isAmong(I)Z -/
def f_X15_isAmong_31 (k4 : Nat → Int32 → Int32 → Int32 → AH → Option (Int32 × AH)) (r0 : Nat) (i1 : Int32) (i3 : Int32) (si0 : Int32) (h : AH) : Option (Int32 × AH) :=
  k4 r0 i1 si0 (i3 + 1) h
set_option maxRecDepth 100000 in
set_option maxHeartbeats 4000000 in
theorem l_X15_isAmong_31 {X : MX} {l : Launch} {G : GX} {h0 : AH} {rr : Int32} {hr : AH} (C : Cx X G RX15 cX15_isAmong 4 (some .boolean) 0 0 h0) (C2 : Cy X l "isAmong" []) {k4 : Nat → Int32 → Int32 → Int32 → AH → Option (Int32 × AH)} (hk4 : ∀ (r0 : Nat) (i1 : Int32) (i2 : Int32) (i3 : Int32) (h : AH), k4 r0 i1 i2 i3 h = some (rr, hr) → V X G h0 (QI rr hr) 4 [(0, .ref r0), (1, .int i1), (2, .int i2), (3, .int i3)] [] h) (r0 : Nat) (i1 : Int32) (i3 : Int32) (si0 : Int32) (h : AH) (hf : f_X15_isAmong_31 k4 r0 i1 i3 si0 h = some (rr, hr)) : V X G h0 (QI rr hr) 31 [(0, .ref r0), (1, .int i1), (3, .int i3)] [.int si0] h := by
  unfold f_X15_isAmong_31 at hf
  refine C.seg (pe := 35) (lv' := [(3, .int (i3 + 1)), (2, .int si0), (0, .ref r0), (1, .int i1)]) (st' := []) [(.istore_n 2, 1, 0), (.iinc 3 1, 3, 1)] (by decide +kernel) rfl ?_
  refine C.goto (off := (-31)) (tgt := 4) (by decide +kernel) (by decide) ?_
  refine Vsub [2, 3, 1, 0] rfl ?_
  exact hk4 r0 i1 si0 (i3 + 1) h hf
def f_X15_isAmong_26 (k4 : Nat → Int32 → Int32 → Int32 → AH → Option (Int32 × AH)) (r0 : Nat) (i1 : Int32) (i3 : Int32) (h : AH) : Option (Int32 × AH) :=
  f_X15_isAmong_31 k4 r0 i1 i3 1 h
set_option maxRecDepth 100000 in
set_option maxHeartbeats 4000000 in
theorem l_X15_isAmong_26 {X : MX} {l : Launch} {G : GX} {h0 : AH} {rr : Int32} {hr : AH} (C : Cx X G RX15 cX15_isAmong 4 (some .boolean) 0 0 h0) (C2 : Cy X l "isAmong" []) {k4 : Nat → Int32 → Int32 → Int32 → AH → Option (Int32 × AH)} (hk4 : ∀ (r0 : Nat) (i1 : Int32) (i2 : Int32) (i3 : Int32) (h : AH), k4 r0 i1 i2 i3 h = some (rr, hr) → V X G h0 (QI rr hr) 4 [(0, .ref r0), (1, .int i1), (2, .int i2), (3, .int i3)] [] h) (r0 : Nat) (i1 : Int32) (i3 : Int32) (h : AH) (hf : f_X15_isAmong_26 k4 r0 i1 i3 h = some (rr, hr)) : V X G h0 (QI rr hr) 26 [(0, .ref r0), (1, .int i1), (3, .int i3)] [] h := by
  unfold f_X15_isAmong_26 at hf
  refine C.seg (pe := 27) (lv' := [(0, .ref r0), (1, .int i1), (3, .int i3)]) (st' := [.int 1]) [(.iconst 1, 1, 1)] (by decide +kernel) rfl ?_
  refine C.goto (off := 4) (tgt := 31) (by decide +kernel) (by decide) ?_
  exact l_X15_isAmong_31 C C2 hk4 r0 i1 i3 1 h hf
def f_X15_isAmong_4 : Nat → Nat → Int32 → Int32 → Int32 → AH → Option (Int32 × AH)
  | 0, _, _, _, _, _ => none
  | n + 1, r0, i1, i2, i3, h =>
    (gI 15 h r0 72).bind fun x1 =>
    if x1 ≤ i3 then
      (ckZ i2).bind fun x2 =>
      some (x2, h)
    else
      if i2 = 0 then
        (gA 15 h r0 67).bind fun a3 =>
        (aI 0 h a3 i3).bind fun x4 =>
        if x4 = i1 then
          f_X15_isAmong_26 (f_X15_isAmong_4 n) r0 i1 i3 h
        else
          f_X15_isAmong_31 (f_X15_isAmong_4 n) r0 i1 i3 0 h
      else
        f_X15_isAmong_26 (f_X15_isAmong_4 n) r0 i1 i3 h
set_option maxRecDepth 100000 in
set_option maxHeartbeats 4000000 in
theorem l_X15_isAmong_4 {X : MX} {l : Launch} {G : GX} {h0 : AH} {rr : Int32} {hr : AH} (C : Cx X G RX15 cX15_isAmong 4 (some .boolean) 0 0 h0) (C2 : Cy X l "isAmong" []) : ∀ (n : Nat) (r0 : Nat) (i1 : Int32) (i2 : Int32) (i3 : Int32) (h : AH), f_X15_isAmong_4 n r0 i1 i2 i3 h = some (rr, hr) → V X G h0 (QI rr hr) 4 [(0, .ref r0), (1, .int i1), (2, .int i2), (3, .int i3)] [] h := by
  intro n
  induction n with
  | zero => intro r0 i1 i2 i3 h hf; rw [f_X15_isAmong_4] at hf; cases hf
  | succ n ih =>
    intro r0 i1 i2 i3 h hf
    rw [f_X15_isAmong_4] at hf
    refine C.seg (pe := 6) (lv' := [(0, .ref r0), (1, .int i1), (2, .int i2), (3, .int i3)]) (st' := [.ref r0, .int i3]) [(.iload_n 3, 1, 0), (.aload_n 0, 1, 0)] (by decide +kernel) rfl ?_
    obtain ⟨x1, gx1, hf⟩ := Option.bind_eq_some_iff.mp hf
    refine C.rdI fr_1858 gx1 (by decide +kernel) rfl ?_
    refine C.icmp_ge (off := 29) (tgt := 38) (pf := 12) (by decide +kernel) (by decide) rfl (fun c7 => ?_) (fun c7 => ?_)
    · replace hf := ifp c7 hf
      refine C.seg (pe := 39) (lv' := [(0, .ref r0), (1, .int i1), (2, .int i2), (3, .int i3)]) (st' := [.int i2]) [(.iload_n 2, 1, 0)] (by decide +kernel) rfl ?_
      obtain ⟨x2, gx2, hf⟩ := Option.bind_eq_some_iff.mp hf
      have ex2 := ckZ_eq gx2
      subst ex2
      cases hf
      exact C.retZ rfl gx2 (by decide +kernel) ⟨rfl, rfl⟩
    · replace hf := ifn c7 hf
      refine C.seg (pe := 13) (lv' := [(0, .ref r0), (1, .int i1), (2, .int i2), (3, .int i3)]) (st' := [.int i2]) [(.iload_n 2, 1, 0)] (by decide +kernel) rfl ?_
      refine C.if_ne (off := 13) (tgt := 26) (pf := 16) (by decide +kernel) (by decide) rfl (fun c6 => ?_) (fun c6 => ?_)
      · replace hf := ifn c6 hf
        refine Vsub [0, 1, 3] rfl ?_
        exact l_X15_isAmong_26 C C2 ih r0 i1 i3 h hf
      · replace hf := ifp c6 hf
        refine C.seg (pe := 17) (lv' := [(0, .ref r0), (1, .int i1), (2, .int i2), (3, .int i3)]) (st' := [.ref r0]) [(.aload_n 0, 1, 0)] (by decide +kernel) rfl ?_
        obtain ⟨a3, ga3, hf⟩ := Option.bind_eq_some_iff.mp hf
        refine C.rdA fr_1853 ga3 (by decide +kernel) rfl ?_
        refine C.seg (pe := 21) (lv' := [(0, .ref r0), (1, .int i1), (2, .int i2), (3, .int i3)]) (st' := [.int i3, .ref a3]) [(.iload_n 3, 1, 0)] (by decide +kernel) rfl ?_
        obtain ⟨x4, gx4, hf⟩ := Option.bind_eq_some_iff.mp hf
        refine C.ald 0 rfl gx4 (by decide +kernel) rfl ?_
        refine C.seg (pe := 23) (lv' := [(0, .ref r0), (1, .int i1), (2, .int i2), (3, .int i3)]) (st' := [.int i1, .int x4]) [(.iload_n 1, 1, 0)] (by decide +kernel) rfl ?_
        refine C.icmp_ne (off := 7) (tgt := 30) (pf := 26) (by decide +kernel) (by decide) rfl (fun c5 => ?_) (fun c5 => ?_)
        · replace hf := ifn c5 hf
          refine C.seg (pe := 31) (lv' := [(0, .ref r0), (1, .int i1), (2, .int i2), (3, .int i3)]) (st' := [.int 0]) [(.iconst 0, 1, 0)] (by decide +kernel) rfl ?_
          refine Vsub [0, 1, 3] rfl ?_
          exact l_X15_isAmong_31 C C2 ih r0 i1 i3 0 h hf
        · replace hf := ifp c5 hf
          refine Vsub [0, 1, 3] rfl ?_
          exact l_X15_isAmong_26 C C2 ih r0 i1 i3 h hf
def f_X15_isAmong (a0 : Nat) (p1 : Int32) (h : AH) : Option (Int32 × AH) :=
  if isO 15 h a0 = true then
    f_X15_isAmong_4 FU a0 p1 0 0 h
  else none
set_option maxRecDepth 100000 in
set_option maxHeartbeats 4000000 in
theorem w_X15_isAmong {l : Launch} {G : GX} {a0 : Nat} {p1 : Int32} {h : AH} {rr : Int32} {hr : AH} (hf : f_X15_isAmong a0 p1 h = some (rr, hr)) : Ct l G yX15_isAmong 0 0 [.ref a0, .int p1] h (QI rr hr) := by
  unfold f_X15_isAmong at hf
  obtain ⟨ho, hf⟩ := ifO hf
  refine Ct_of (own := RX15) (cc := cX15_isAmong) (nL := 4) (ret := (some .boolean)) rfl rfl k_2409 (Nat.le_of_ble_eq_true rfl) (fun X C2 C => ?_)
  show V X G h (QI rr hr) 0 [(0, .ref a0), (1, .int p1)] [] h
  refine C.seg (pe := 4) (lv' := [(3, .int 0), (2, .int 0), (0, .ref a0), (1, .int p1)]) (st' := []) [(.iconst 0, 1, 0), (.istore_n 2, 1, 0), (.iconst 0, 1, 0), (.istore_n 3, 1, 0)] (by decide +kernel) rfl ?_
  refine Vsub [2, 3, 1, 0] rfl ?_
  exact l_X15_isAmong_4 C C2 FU a0 p1 0 0 h hf
theorem o_X15_isAmong {a0 : Nat} {p1 : Int32} {h : AH} {rr : Int32} {hr : AH} (hf : f_X15_isAmong a0 p1 h = some (rr, hr)) : isO 15 h a0 = true := by
  unfold f_X15_isAmong at hf
  exact (ifO hf).1
/-! WallHouseModel.mayHave(II)Z -/
def f_X15_mayHave_201 (k117 : Nat → Int32 → Int32 → Int32 → Int32 → AH → Option (Int32 × AH)) (r0 : Nat) (i1 : Int32) (i2 : Int32) (i4 : Int32) (si0 : Int32) (h : AH) : Option (Int32 × AH) :=
  k117 r0 i1 i2 si0 (i4 + 1) h
set_option maxRecDepth 100000 in
set_option maxHeartbeats 4000000 in
theorem l_X15_mayHave_201 {X : MX} {l : Launch} {G : GX} {h0 : AH} {rr : Int32} {hr : AH} (C : Cx X G RX15 cX15_mayHave 5 (some .boolean) 1 24 h0) (C2 : Cy X l "mayHave" []) {k117 : Nat → Int32 → Int32 → Int32 → Int32 → AH → Option (Int32 × AH)} (hk117 : ∀ (r0 : Nat) (i1 : Int32) (i2 : Int32) (i3 : Int32) (i4 : Int32) (h : AH), k117 r0 i1 i2 i3 i4 h = some (rr, hr) → V X G h0 (QI rr hr) 117 [(0, .ref r0), (1, .int i1), (2, .int i2), (3, .int i3), (4, .int i4)] [] h) (r0 : Nat) (i1 : Int32) (i2 : Int32) (i4 : Int32) (si0 : Int32) (h : AH) (hf : f_X15_mayHave_201 k117 r0 i1 i2 i4 si0 h = some (rr, hr)) : V X G h0 (QI rr hr) 201 [(0, .ref r0), (1, .int i1), (2, .int i2), (4, .int i4)] [.int si0] h := by
  unfold f_X15_mayHave_201 at hf
  refine C.seg (pe := 205) (lv' := [(4, .int (i4 + 1)), (3, .int si0), (0, .ref r0), (1, .int i1), (2, .int i2)]) (st' := []) [(.istore_n 3, 1, 0), (.iinc 4 1, 3, 1)] (by decide +kernel) rfl ?_
  refine C.goto (off := (-88)) (tgt := 117) (by decide +kernel) (by decide) ?_
  refine Vsub [2, 3, 4, 1, 0] rfl ?_
  exact hk117 r0 i1 i2 si0 (i4 + 1) h hf
def f_X15_mayHave_200 (k117 : Nat → Int32 → Int32 → Int32 → Int32 → AH → Option (Int32 × AH)) (r0 : Nat) (i1 : Int32) (i2 : Int32) (i4 : Int32) (h : AH) : Option (Int32 × AH) :=
  f_X15_mayHave_201 k117 r0 i1 i2 i4 0 h
set_option maxRecDepth 100000 in
set_option maxHeartbeats 4000000 in
theorem l_X15_mayHave_200 {X : MX} {l : Launch} {G : GX} {h0 : AH} {rr : Int32} {hr : AH} (C : Cx X G RX15 cX15_mayHave 5 (some .boolean) 1 24 h0) (C2 : Cy X l "mayHave" []) {k117 : Nat → Int32 → Int32 → Int32 → Int32 → AH → Option (Int32 × AH)} (hk117 : ∀ (r0 : Nat) (i1 : Int32) (i2 : Int32) (i3 : Int32) (i4 : Int32) (h : AH), k117 r0 i1 i2 i3 i4 h = some (rr, hr) → V X G h0 (QI rr hr) 117 [(0, .ref r0), (1, .int i1), (2, .int i2), (3, .int i3), (4, .int i4)] [] h) (r0 : Nat) (i1 : Int32) (i2 : Int32) (i4 : Int32) (h : AH) (hf : f_X15_mayHave_200 k117 r0 i1 i2 i4 h = some (rr, hr)) : V X G h0 (QI rr hr) 200 [(0, .ref r0), (1, .int i1), (2, .int i2), (4, .int i4)] [] h := by
  unfold f_X15_mayHave_200 at hf
  refine C.seg (pe := 201) (lv' := [(0, .ref r0), (1, .int i1), (2, .int i2), (4, .int i4)]) (st' := [.int 0]) [(.iconst 0, 1, 0)] (by decide +kernel) rfl ?_
  exact l_X15_mayHave_201 C C2 hk117 r0 i1 i2 i4 0 h hf
def f_X15_mayHave_196 (k117 : Nat → Int32 → Int32 → Int32 → Int32 → AH → Option (Int32 × AH)) (r0 : Nat) (i1 : Int32) (i2 : Int32) (i4 : Int32) (h : AH) : Option (Int32 × AH) :=
  f_X15_mayHave_201 k117 r0 i1 i2 i4 1 h
set_option maxRecDepth 100000 in
set_option maxHeartbeats 4000000 in
theorem l_X15_mayHave_196 {X : MX} {l : Launch} {G : GX} {h0 : AH} {rr : Int32} {hr : AH} (C : Cx X G RX15 cX15_mayHave 5 (some .boolean) 1 24 h0) (C2 : Cy X l "mayHave" []) {k117 : Nat → Int32 → Int32 → Int32 → Int32 → AH → Option (Int32 × AH)} (hk117 : ∀ (r0 : Nat) (i1 : Int32) (i2 : Int32) (i3 : Int32) (i4 : Int32) (h : AH), k117 r0 i1 i2 i3 i4 h = some (rr, hr) → V X G h0 (QI rr hr) 117 [(0, .ref r0), (1, .int i1), (2, .int i2), (3, .int i3), (4, .int i4)] [] h) (r0 : Nat) (i1 : Int32) (i2 : Int32) (i4 : Int32) (h : AH) (hf : f_X15_mayHave_196 k117 r0 i1 i2 i4 h = some (rr, hr)) : V X G h0 (QI rr hr) 196 [(0, .ref r0), (1, .int i1), (2, .int i2), (4, .int i4)] [] h := by
  unfold f_X15_mayHave_196 at hf
  refine C.seg (pe := 197) (lv' := [(0, .ref r0), (1, .int i1), (2, .int i2), (4, .int i4)]) (st' := [.int 1]) [(.iconst 1, 1, 1)] (by decide +kernel) rfl ?_
  refine C.goto (off := 4) (tgt := 201) (by decide +kernel) (by decide) ?_
  exact l_X15_mayHave_201 C C2 hk117 r0 i1 i2 i4 1 h hf
def f_X15_mayHave_117 : Nat → Nat → Int32 → Int32 → Int32 → Int32 → AH → Option (Int32 × AH)
  | 0, _, _, _, _, _, _ => none
  | n + 1, r0, i1, i2, i3, i4, h =>
    (gI 15 h r0 4).bind fun x1 =>
    if x1 ≤ i4 then
      (ckZ i3).bind fun x2 =>
      some (x2, h)
    else
      if i3 = 0 then
        f_X15_mayHave_200 (f_X15_mayHave_117 n) r0 i1 i2 i4 h
      else
        (gA 15 h r0 18).bind fun a3 =>
        (gA 15 h r0 67).bind fun a4 =>
        (aI 0 h a4 i2).bind fun x5 =>
        (aI 2 h a3 ((16 * x5) + i4)).bind fun x6 =>
        if x6 = 0 then
          f_X15_mayHave_196 (f_X15_mayHave_117 n) r0 i1 i2 i4 h
        else
          (gA 15 h r0 15).bind fun a7 =>
          (aI 0 h a7 i4).bind fun x8 =>
          if x8 = (-1) then
            f_X15_mayHave_196 (f_X15_mayHave_117 n) r0 i1 i2 i4 h
          else
            b2 (f_X15_isAmong r0 i4 h) fun x9 h10 =>
            if x9 = 0 then
              (gA 15 h10 r0 60).bind fun a11 =>
              (gA 15 h10 r0 80).bind fun a12 =>
              (gA 15 h10 r0 15).bind fun a13 =>
              (aI 0 h10 a13 i4).bind fun x14 =>
              (aI 0 h10 a12 x14).bind fun x15 =>
              (aI 0 h10 a11 x15).bind fun x16 =>
              (gA 15 h10 r0 60).bind fun a17 =>
              (aI 0 h10 a17 i1).bind fun x18 =>
              if x16 = x18 then
                f_X15_mayHave_200 (f_X15_mayHave_117 n) r0 i1 i2 i4 h10
              else
                f_X15_mayHave_196 (f_X15_mayHave_117 n) r0 i1 i2 i4 h10
            else
              f_X15_mayHave_196 (f_X15_mayHave_117 n) r0 i1 i2 i4 h10
set_option maxRecDepth 100000 in
set_option maxHeartbeats 4000000 in
theorem l_X15_mayHave_117 {X : MX} {l : Launch} {G : GX} {h0 : AH} {rr : Int32} {hr : AH} (C : Cx X G RX15 cX15_mayHave 5 (some .boolean) 1 24 h0) (C2 : Cy X l "mayHave" []) : ∀ (n : Nat) (r0 : Nat) (i1 : Int32) (i2 : Int32) (i3 : Int32) (i4 : Int32) (h : AH), f_X15_mayHave_117 n r0 i1 i2 i3 i4 h = some (rr, hr) → V X G h0 (QI rr hr) 117 [(0, .ref r0), (1, .int i1), (2, .int i2), (3, .int i3), (4, .int i4)] [] h := by
  intro n
  induction n with
  | zero => intro r0 i1 i2 i3 i4 h hf; rw [f_X15_mayHave_117] at hf; cases hf
  | succ n ih =>
    intro r0 i1 i2 i3 i4 h hf
    rw [f_X15_mayHave_117] at hf
    refine C.seg (pe := 120) (lv' := [(0, .ref r0), (1, .int i1), (2, .int i2), (3, .int i3), (4, .int i4)]) (st' := [.ref r0, .int i4]) [(.iload 4, 2, 0), (.aload_n 0, 1, 0)] (by decide +kernel) rfl ?_
    obtain ⟨x1, gx1, hf⟩ := Option.bind_eq_some_iff.mp hf
    refine C.rdI fr_1790 gx1 (by decide +kernel) rfl ?_
    refine C.icmp_ge (off := 85) (tgt := 208) (pf := 126) (by decide +kernel) (by decide) rfl (fun c24 => ?_) (fun c24 => ?_)
    · replace hf := ifp c24 hf
      refine C.seg (pe := 209) (lv' := [(0, .ref r0), (1, .int i1), (2, .int i2), (3, .int i3), (4, .int i4)]) (st' := [.int i3]) [(.iload_n 3, 1, 0)] (by decide +kernel) rfl ?_
      obtain ⟨x2, gx2, hf⟩ := Option.bind_eq_some_iff.mp hf
      have ex2 := ckZ_eq gx2
      subst ex2
      cases hf
      exact C.retZ rfl gx2 (by decide +kernel) ⟨rfl, rfl⟩
    · replace hf := ifn c24 hf
      refine C.seg (pe := 127) (lv' := [(0, .ref r0), (1, .int i1), (2, .int i2), (3, .int i3), (4, .int i4)]) (st' := [.int i3]) [(.iload_n 3, 1, 0)] (by decide +kernel) rfl ?_
      refine C.if_eq (off := 73) (tgt := 200) (pf := 130) (by decide +kernel) (by decide) rfl (fun c23 => ?_) (fun c23 => ?_)
      · replace hf := ifp c23 hf
        refine Vsub [0, 1, 2, 4] rfl ?_
        exact l_X15_mayHave_200 C C2 ih r0 i1 i2 i4 h hf
      · replace hf := ifn c23 hf
        refine C.seg (pe := 131) (lv' := [(0, .ref r0), (1, .int i1), (2, .int i2), (3, .int i3), (4, .int i4)]) (st' := [.ref r0]) [(.aload_n 0, 1, 0)] (by decide +kernel) rfl ?_
        obtain ⟨a3, ga3, hf⟩ := Option.bind_eq_some_iff.mp hf
        refine C.rdA fr_1804 ga3 (by decide +kernel) rfl ?_
        refine C.seg (pe := 137) (lv' := [(0, .ref r0), (1, .int i1), (2, .int i2), (3, .int i3), (4, .int i4)]) (st' := [.ref r0, .int 16, .ref a3]) [(.bipush 16, 2, 16), (.aload_n 0, 1, 0)] (by decide +kernel) rfl ?_
        obtain ⟨a4, ga4, hf⟩ := Option.bind_eq_some_iff.mp hf
        refine C.rdA fr_1853 ga4 (by decide +kernel) rfl ?_
        refine C.seg (pe := 141) (lv' := [(0, .ref r0), (1, .int i1), (2, .int i2), (3, .int i3), (4, .int i4)]) (st' := [.int i2, .ref a4, .int 16, .ref a3]) [(.iload_n 2, 1, 0)] (by decide +kernel) rfl ?_
        obtain ⟨x5, gx5, hf⟩ := Option.bind_eq_some_iff.mp hf
        refine C.ald 0 rfl gx5 (by decide +kernel) rfl ?_
        refine C.seg (pe := 146) (lv' := [(0, .ref r0), (1, .int i1), (2, .int i2), (3, .int i3), (4, .int i4)]) (st' := [.int ((16 * x5) + i4), .ref a3]) [(.imul, 1, 0), (.iload 4, 2, 0), (.iadd, 1, 0)] (by decide +kernel) rfl ?_
        obtain ⟨x6, gx6, hf⟩ := Option.bind_eq_some_iff.mp hf
        refine C.zald 2 rfl gx6 (by decide +kernel) rfl ?_
        refine C.if_eq (off := 49) (tgt := 196) (pf := 150) (by decide +kernel) (by decide) rfl (fun c22 => ?_) (fun c22 => ?_)
        · replace hf := ifp c22 hf
          refine Vsub [0, 1, 2, 4] rfl ?_
          exact l_X15_mayHave_196 C C2 ih r0 i1 i2 i4 h hf
        · replace hf := ifn c22 hf
          refine C.seg (pe := 151) (lv' := [(0, .ref r0), (1, .int i1), (2, .int i2), (3, .int i3), (4, .int i4)]) (st' := [.ref r0]) [(.aload_n 0, 1, 0)] (by decide +kernel) rfl ?_
          obtain ⟨a7, ga7, hf⟩ := Option.bind_eq_some_iff.mp hf
          refine C.rdA fr_1801 ga7 (by decide +kernel) rfl ?_
          refine C.seg (pe := 156) (lv' := [(0, .ref r0), (1, .int i1), (2, .int i2), (3, .int i3), (4, .int i4)]) (st' := [.int i4, .ref a7]) [(.iload 4, 2, 0)] (by decide +kernel) rfl ?_
          obtain ⟨x8, gx8, hf⟩ := Option.bind_eq_some_iff.mp hf
          refine C.ald 0 rfl gx8 (by decide +kernel) rfl ?_
          refine C.seg (pe := 158) (lv' := [(0, .ref r0), (1, .int i1), (2, .int i2), (3, .int i3), (4, .int i4)]) (st' := [.int (-1), .int x8]) [(.iconst (-1), 1, (-1))] (by decide +kernel) rfl ?_
          refine C.icmp_eq (off := 38) (tgt := 196) (pf := 161) (by decide +kernel) (by decide) rfl (fun c21 => ?_) (fun c21 => ?_)
          · replace hf := ifp c21 hf
            refine Vsub [0, 1, 2, 4] rfl ?_
            exact l_X15_mayHave_196 C C2 ih r0 i1 i2 i4 h hf
          · replace hf := ifn c21 hf
            refine C.seg (pe := 164) (lv' := [(0, .ref r0), (1, .int i1), (2, .int i2), (3, .int i3), (4, .int i4)]) (st' := [.int i4, .ref r0]) [(.aload_n 0, 1, 0), (.iload 4, 2, 0)] (by decide +kernel) rfl ?_
            obtain ⟨x9, h10, gx9, hf⟩ := b2_some hf
            refine C.callVr C2 [.int i4] [] mv_2406 rfl (o_X15_isAmong gx9) (w_X15_isAmong gx9) (by omega) (by omega) (Nat.le_of_ble_eq_true rfl) (by decide +kernel) rfl ?_
            refine C.if_ne (off := 29) (tgt := 196) (pf := 170) (by decide +kernel) (by decide) rfl (fun c20 => ?_) (fun c20 => ?_)
            · replace hf := ifn c20 hf
              refine Vsub [0, 1, 2, 4] rfl ?_
              exact l_X15_mayHave_196 C C2 ih r0 i1 i2 i4 h10 hf
            · replace hf := ifp c20 hf
              refine C.seg (pe := 171) (lv' := [(0, .ref r0), (1, .int i1), (2, .int i2), (3, .int i3), (4, .int i4)]) (st' := [.ref r0]) [(.aload_n 0, 1, 0)] (by decide +kernel) rfl ?_
              obtain ⟨a11, ga11, hf⟩ := Option.bind_eq_some_iff.mp hf
              refine C.rdA fr_1846 ga11 (by decide +kernel) rfl ?_
              refine C.seg (pe := 175) (lv' := [(0, .ref r0), (1, .int i1), (2, .int i2), (3, .int i3), (4, .int i4)]) (st' := [.ref r0, .ref a11]) [(.aload_n 0, 1, 0)] (by decide +kernel) rfl ?_
              obtain ⟨a12, ga12, hf⟩ := Option.bind_eq_some_iff.mp hf
              refine C.rdA fr_1866 ga12 (by decide +kernel) rfl ?_
              refine C.seg (pe := 179) (lv' := [(0, .ref r0), (1, .int i1), (2, .int i2), (3, .int i3), (4, .int i4)]) (st' := [.ref r0, .ref a12, .ref a11]) [(.aload_n 0, 1, 0)] (by decide +kernel) rfl ?_
              obtain ⟨a13, ga13, hf⟩ := Option.bind_eq_some_iff.mp hf
              refine C.rdA fr_1801 ga13 (by decide +kernel) rfl ?_
              refine C.seg (pe := 184) (lv' := [(0, .ref r0), (1, .int i1), (2, .int i2), (3, .int i3), (4, .int i4)]) (st' := [.int i4, .ref a13, .ref a12, .ref a11]) [(.iload 4, 2, 0)] (by decide +kernel) rfl ?_
              obtain ⟨x14, gx14, hf⟩ := Option.bind_eq_some_iff.mp hf
              refine C.ald 0 rfl gx14 (by decide +kernel) rfl ?_
              obtain ⟨x15, gx15, hf⟩ := Option.bind_eq_some_iff.mp hf
              refine C.ald 0 rfl gx15 (by decide +kernel) rfl ?_
              obtain ⟨x16, gx16, hf⟩ := Option.bind_eq_some_iff.mp hf
              refine C.ald 0 rfl gx16 (by decide +kernel) rfl ?_
              refine C.seg (pe := 188) (lv' := [(0, .ref r0), (1, .int i1), (2, .int i2), (3, .int i3), (4, .int i4)]) (st' := [.ref r0, .int x16]) [(.aload_n 0, 1, 0)] (by decide +kernel) rfl ?_
              obtain ⟨a17, ga17, hf⟩ := Option.bind_eq_some_iff.mp hf
              refine C.rdA fr_1846 ga17 (by decide +kernel) rfl ?_
              refine C.seg (pe := 192) (lv' := [(0, .ref r0), (1, .int i1), (2, .int i2), (3, .int i3), (4, .int i4)]) (st' := [.int i1, .ref a17, .int x16]) [(.iload_n 1, 1, 0)] (by decide +kernel) rfl ?_
              obtain ⟨x18, gx18, hf⟩ := Option.bind_eq_some_iff.mp hf
              refine C.ald 0 rfl gx18 (by decide +kernel) rfl ?_
              refine C.icmp_eq (off := 7) (tgt := 200) (pf := 196) (by decide +kernel) (by decide) rfl (fun c19 => ?_) (fun c19 => ?_)
              · replace hf := ifp c19 hf
                refine Vsub [0, 1, 2, 4] rfl ?_
                exact l_X15_mayHave_200 C C2 ih r0 i1 i2 i4 h10 hf
              · replace hf := ifn c19 hf
                refine Vsub [0, 1, 2, 4] rfl ?_
                exact l_X15_mayHave_196 C C2 ih r0 i1 i2 i4 h10 hf
def f_X15_mayHave_107 (k23 : Nat → Int32 → Int32 → Int32 → Int32 → AH → Option (Int32 × AH)) (r0 : Nat) (i1 : Int32) (i2 : Int32) (i4 : Int32) (si0 : Int32) (h : AH) : Option (Int32 × AH) :=
  k23 r0 i1 i2 si0 (i4 + 1) h
set_option maxRecDepth 100000 in
set_option maxHeartbeats 4000000 in
theorem l_X15_mayHave_107 {X : MX} {l : Launch} {G : GX} {h0 : AH} {rr : Int32} {hr : AH} (C : Cx X G RX15 cX15_mayHave 5 (some .boolean) 1 24 h0) (C2 : Cy X l "mayHave" []) {k23 : Nat → Int32 → Int32 → Int32 → Int32 → AH → Option (Int32 × AH)} (hk23 : ∀ (r0 : Nat) (i1 : Int32) (i2 : Int32) (i3 : Int32) (i4 : Int32) (h : AH), k23 r0 i1 i2 i3 i4 h = some (rr, hr) → V X G h0 (QI rr hr) 23 [(0, .ref r0), (1, .int i1), (2, .int i2), (3, .int i3), (4, .int i4)] [] h) (r0 : Nat) (i1 : Int32) (i2 : Int32) (i4 : Int32) (si0 : Int32) (h : AH) (hf : f_X15_mayHave_107 k23 r0 i1 i2 i4 si0 h = some (rr, hr)) : V X G h0 (QI rr hr) 107 [(0, .ref r0), (1, .int i1), (2, .int i2), (4, .int i4)] [.int si0] h := by
  unfold f_X15_mayHave_107 at hf
  refine C.seg (pe := 111) (lv' := [(4, .int (i4 + 1)), (3, .int si0), (0, .ref r0), (1, .int i1), (2, .int i2)]) (st' := []) [(.istore_n 3, 1, 0), (.iinc 4 1, 3, 1)] (by decide +kernel) rfl ?_
  refine C.goto (off := (-88)) (tgt := 23) (by decide +kernel) (by decide) ?_
  refine Vsub [2, 3, 4, 1, 0] rfl ?_
  exact hk23 r0 i1 i2 si0 (i4 + 1) h hf
def f_X15_mayHave_106 (k23 : Nat → Int32 → Int32 → Int32 → Int32 → AH → Option (Int32 × AH)) (r0 : Nat) (i1 : Int32) (i2 : Int32) (i4 : Int32) (h : AH) : Option (Int32 × AH) :=
  f_X15_mayHave_107 k23 r0 i1 i2 i4 0 h
set_option maxRecDepth 100000 in
set_option maxHeartbeats 4000000 in
theorem l_X15_mayHave_106 {X : MX} {l : Launch} {G : GX} {h0 : AH} {rr : Int32} {hr : AH} (C : Cx X G RX15 cX15_mayHave 5 (some .boolean) 1 24 h0) (C2 : Cy X l "mayHave" []) {k23 : Nat → Int32 → Int32 → Int32 → Int32 → AH → Option (Int32 × AH)} (hk23 : ∀ (r0 : Nat) (i1 : Int32) (i2 : Int32) (i3 : Int32) (i4 : Int32) (h : AH), k23 r0 i1 i2 i3 i4 h = some (rr, hr) → V X G h0 (QI rr hr) 23 [(0, .ref r0), (1, .int i1), (2, .int i2), (3, .int i3), (4, .int i4)] [] h) (r0 : Nat) (i1 : Int32) (i2 : Int32) (i4 : Int32) (h : AH) (hf : f_X15_mayHave_106 k23 r0 i1 i2 i4 h = some (rr, hr)) : V X G h0 (QI rr hr) 106 [(0, .ref r0), (1, .int i1), (2, .int i2), (4, .int i4)] [] h := by
  unfold f_X15_mayHave_106 at hf
  refine C.seg (pe := 107) (lv' := [(0, .ref r0), (1, .int i1), (2, .int i2), (4, .int i4)]) (st' := [.int 0]) [(.iconst 0, 1, 0)] (by decide +kernel) rfl ?_
  exact l_X15_mayHave_107 C C2 hk23 r0 i1 i2 i4 0 h hf
def f_X15_mayHave_102 (k23 : Nat → Int32 → Int32 → Int32 → Int32 → AH → Option (Int32 × AH)) (r0 : Nat) (i1 : Int32) (i2 : Int32) (i4 : Int32) (h : AH) : Option (Int32 × AH) :=
  f_X15_mayHave_107 k23 r0 i1 i2 i4 1 h
set_option maxRecDepth 100000 in
set_option maxHeartbeats 4000000 in
theorem l_X15_mayHave_102 {X : MX} {l : Launch} {G : GX} {h0 : AH} {rr : Int32} {hr : AH} (C : Cx X G RX15 cX15_mayHave 5 (some .boolean) 1 24 h0) (C2 : Cy X l "mayHave" []) {k23 : Nat → Int32 → Int32 → Int32 → Int32 → AH → Option (Int32 × AH)} (hk23 : ∀ (r0 : Nat) (i1 : Int32) (i2 : Int32) (i3 : Int32) (i4 : Int32) (h : AH), k23 r0 i1 i2 i3 i4 h = some (rr, hr) → V X G h0 (QI rr hr) 23 [(0, .ref r0), (1, .int i1), (2, .int i2), (3, .int i3), (4, .int i4)] [] h) (r0 : Nat) (i1 : Int32) (i2 : Int32) (i4 : Int32) (h : AH) (hf : f_X15_mayHave_102 k23 r0 i1 i2 i4 h = some (rr, hr)) : V X G h0 (QI rr hr) 102 [(0, .ref r0), (1, .int i1), (2, .int i2), (4, .int i4)] [] h := by
  unfold f_X15_mayHave_102 at hf
  refine C.seg (pe := 103) (lv' := [(0, .ref r0), (1, .int i1), (2, .int i2), (4, .int i4)]) (st' := [.int 1]) [(.iconst 1, 1, 1)] (by decide +kernel) rfl ?_
  refine C.goto (off := 4) (tgt := 107) (by decide +kernel) (by decide) ?_
  exact l_X15_mayHave_107 C C2 hk23 r0 i1 i2 i4 1 h hf
def f_X15_mayHave_23 : Nat → Nat → Int32 → Int32 → Int32 → Int32 → AH → Option (Int32 × AH)
  | 0, _, _, _, _, _, _ => none
  | n + 1, r0, i1, i2, i3, i4, h =>
    if i2 ≤ i4 then
      f_X15_mayHave_117 FU r0 i1 i2 i3 0 h
    else
      if i3 = 0 then
        f_X15_mayHave_106 (f_X15_mayHave_23 n) r0 i1 i2 i4 h
      else
        (gA 15 h r0 68).bind fun a1 =>
        (aI 0 h a1 i4).bind fun x2 =>
        if x2 = i1 then
          f_X15_mayHave_106 (f_X15_mayHave_23 n) r0 i1 i2 i4 h
        else
          (gA 15 h r0 68).bind fun a3 =>
          (aI 0 h a3 i4).bind fun x4 =>
          if x4 = (-2) then
            f_X15_mayHave_102 (f_X15_mayHave_23 n) r0 i1 i2 i4 h
          else
            (gA 15 h r0 18).bind fun a5 =>
            (gA 15 h r0 67).bind fun a6 =>
            (aI 0 h a6 i2).bind fun x7 =>
            (gA 15 h r0 67).bind fun a8 =>
            (aI 0 h a8 i4).bind fun x9 =>
            (aI 2 h a5 ((16 * x7) + x9)).bind fun x10 =>
            if x10 = 0 then
              f_X15_mayHave_102 (f_X15_mayHave_23 n) r0 i1 i2 i4 h
            else
              (gA 15 h r0 60).bind fun a11 =>
              (gA 15 h r0 68).bind fun a12 =>
              (aI 0 h a12 i4).bind fun x13 =>
              (aI 0 h a11 x13).bind fun x14 =>
              (gA 15 h r0 60).bind fun a15 =>
              (aI 0 h a15 i1).bind fun x16 =>
              if x14 = x16 then
                f_X15_mayHave_106 (f_X15_mayHave_23 n) r0 i1 i2 i4 h
              else
                f_X15_mayHave_102 (f_X15_mayHave_23 n) r0 i1 i2 i4 h
set_option maxRecDepth 100000 in
set_option maxHeartbeats 4000000 in
theorem l_X15_mayHave_23 {X : MX} {l : Launch} {G : GX} {h0 : AH} {rr : Int32} {hr : AH} (C : Cx X G RX15 cX15_mayHave 5 (some .boolean) 1 24 h0) (C2 : Cy X l "mayHave" []) : ∀ (n : Nat) (r0 : Nat) (i1 : Int32) (i2 : Int32) (i3 : Int32) (i4 : Int32) (h : AH), f_X15_mayHave_23 n r0 i1 i2 i3 i4 h = some (rr, hr) → V X G h0 (QI rr hr) 23 [(0, .ref r0), (1, .int i1), (2, .int i2), (3, .int i3), (4, .int i4)] [] h := by
  intro n
  induction n with
  | zero => intro r0 i1 i2 i3 i4 h hf; rw [f_X15_mayHave_23] at hf; cases hf
  | succ n ih =>
    intro r0 i1 i2 i3 i4 h hf
    rw [f_X15_mayHave_23] at hf
    refine C.seg (pe := 26) (lv' := [(0, .ref r0), (1, .int i1), (2, .int i2), (3, .int i3), (4, .int i4)]) (st' := [.int i2, .int i4]) [(.iload 4, 2, 0), (.iload_n 2, 1, 0)] (by decide +kernel) rfl ?_
    refine C.icmp_ge (off := 88) (tgt := 114) (pf := 29) (by decide +kernel) (by decide) rfl (fun c22 => ?_) (fun c22 => ?_)
    · replace hf := ifp c22 hf
      refine C.seg (pe := 117) (lv' := [(4, .int 0), (0, .ref r0), (1, .int i1), (2, .int i2), (3, .int i3)]) (st' := []) [(.iconst 0, 1, 0), (.istore 4, 2, 0)] (by decide +kernel) rfl ?_
      refine Vsub [1, 2, 3, 4, 0] rfl ?_
      exact l_X15_mayHave_117 C C2 FU r0 i1 i2 i3 0 h hf
    · replace hf := ifn c22 hf
      refine C.seg (pe := 30) (lv' := [(0, .ref r0), (1, .int i1), (2, .int i2), (3, .int i3), (4, .int i4)]) (st' := [.int i3]) [(.iload_n 3, 1, 0)] (by decide +kernel) rfl ?_
      refine C.if_eq (off := 76) (tgt := 106) (pf := 33) (by decide +kernel) (by decide) rfl (fun c21 => ?_) (fun c21 => ?_)
      · replace hf := ifp c21 hf
        refine Vsub [0, 1, 2, 4] rfl ?_
        exact l_X15_mayHave_106 C C2 ih r0 i1 i2 i4 h hf
      · replace hf := ifn c21 hf
        refine C.seg (pe := 34) (lv' := [(0, .ref r0), (1, .int i1), (2, .int i2), (3, .int i3), (4, .int i4)]) (st' := [.ref r0]) [(.aload_n 0, 1, 0)] (by decide +kernel) rfl ?_
        obtain ⟨a1, ga1, hf⟩ := Option.bind_eq_some_iff.mp hf
        refine C.rdA fr_1854 ga1 (by decide +kernel) rfl ?_
        refine C.seg (pe := 39) (lv' := [(0, .ref r0), (1, .int i1), (2, .int i2), (3, .int i3), (4, .int i4)]) (st' := [.int i4, .ref a1]) [(.iload 4, 2, 0)] (by decide +kernel) rfl ?_
        obtain ⟨x2, gx2, hf⟩ := Option.bind_eq_some_iff.mp hf
        refine C.ald 0 rfl gx2 (by decide +kernel) rfl ?_
        refine C.seg (pe := 41) (lv' := [(0, .ref r0), (1, .int i1), (2, .int i2), (3, .int i3), (4, .int i4)]) (st' := [.int i1, .int x2]) [(.iload_n 1, 1, 0)] (by decide +kernel) rfl ?_
        refine C.icmp_eq (off := 65) (tgt := 106) (pf := 44) (by decide +kernel) (by decide) rfl (fun c20 => ?_) (fun c20 => ?_)
        · replace hf := ifp c20 hf
          refine Vsub [0, 1, 2, 4] rfl ?_
          exact l_X15_mayHave_106 C C2 ih r0 i1 i2 i4 h hf
        · replace hf := ifn c20 hf
          refine C.seg (pe := 45) (lv' := [(0, .ref r0), (1, .int i1), (2, .int i2), (3, .int i3), (4, .int i4)]) (st' := [.ref r0]) [(.aload_n 0, 1, 0)] (by decide +kernel) rfl ?_
          obtain ⟨a3, ga3, hf⟩ := Option.bind_eq_some_iff.mp hf
          refine C.rdA fr_1854 ga3 (by decide +kernel) rfl ?_
          refine C.seg (pe := 50) (lv' := [(0, .ref r0), (1, .int i1), (2, .int i2), (3, .int i3), (4, .int i4)]) (st' := [.int i4, .ref a3]) [(.iload 4, 2, 0)] (by decide +kernel) rfl ?_
          obtain ⟨x4, gx4, hf⟩ := Option.bind_eq_some_iff.mp hf
          refine C.ald 0 rfl gx4 (by decide +kernel) rfl ?_
          refine C.seg (pe := 53) (lv' := [(0, .ref r0), (1, .int i1), (2, .int i2), (3, .int i3), (4, .int i4)]) (st' := [.int (-2), .int x4]) [(.bipush (-2), 2, (-2))] (by decide +kernel) rfl ?_
          refine C.icmp_eq (off := 49) (tgt := 102) (pf := 56) (by decide +kernel) (by decide) rfl (fun c19 => ?_) (fun c19 => ?_)
          · replace hf := ifp c19 hf
            refine Vsub [0, 1, 2, 4] rfl ?_
            exact l_X15_mayHave_102 C C2 ih r0 i1 i2 i4 h hf
          · replace hf := ifn c19 hf
            refine C.seg (pe := 57) (lv' := [(0, .ref r0), (1, .int i1), (2, .int i2), (3, .int i3), (4, .int i4)]) (st' := [.ref r0]) [(.aload_n 0, 1, 0)] (by decide +kernel) rfl ?_
            obtain ⟨a5, ga5, hf⟩ := Option.bind_eq_some_iff.mp hf
            refine C.rdA fr_1804 ga5 (by decide +kernel) rfl ?_
            refine C.seg (pe := 63) (lv' := [(0, .ref r0), (1, .int i1), (2, .int i2), (3, .int i3), (4, .int i4)]) (st' := [.ref r0, .int 16, .ref a5]) [(.bipush 16, 2, 16), (.aload_n 0, 1, 0)] (by decide +kernel) rfl ?_
            obtain ⟨a6, ga6, hf⟩ := Option.bind_eq_some_iff.mp hf
            refine C.rdA fr_1853 ga6 (by decide +kernel) rfl ?_
            refine C.seg (pe := 67) (lv' := [(0, .ref r0), (1, .int i1), (2, .int i2), (3, .int i3), (4, .int i4)]) (st' := [.int i2, .ref a6, .int 16, .ref a5]) [(.iload_n 2, 1, 0)] (by decide +kernel) rfl ?_
            obtain ⟨x7, gx7, hf⟩ := Option.bind_eq_some_iff.mp hf
            refine C.ald 0 rfl gx7 (by decide +kernel) rfl ?_
            refine C.seg (pe := 70) (lv' := [(0, .ref r0), (1, .int i1), (2, .int i2), (3, .int i3), (4, .int i4)]) (st' := [.ref r0, .int (16 * x7), .ref a5]) [(.imul, 1, 0), (.aload_n 0, 1, 0)] (by decide +kernel) rfl ?_
            obtain ⟨a8, ga8, hf⟩ := Option.bind_eq_some_iff.mp hf
            refine C.rdA fr_1853 ga8 (by decide +kernel) rfl ?_
            refine C.seg (pe := 75) (lv' := [(0, .ref r0), (1, .int i1), (2, .int i2), (3, .int i3), (4, .int i4)]) (st' := [.int i4, .ref a8, .int (16 * x7), .ref a5]) [(.iload 4, 2, 0)] (by decide +kernel) rfl ?_
            obtain ⟨x9, gx9, hf⟩ := Option.bind_eq_some_iff.mp hf
            refine C.ald 0 rfl gx9 (by decide +kernel) rfl ?_
            refine C.seg (pe := 77) (lv' := [(0, .ref r0), (1, .int i1), (2, .int i2), (3, .int i3), (4, .int i4)]) (st' := [.int ((16 * x7) + x9), .ref a5]) [(.iadd, 1, 0)] (by decide +kernel) rfl ?_
            obtain ⟨x10, gx10, hf⟩ := Option.bind_eq_some_iff.mp hf
            refine C.zald 2 rfl gx10 (by decide +kernel) rfl ?_
            refine C.if_eq (off := 24) (tgt := 102) (pf := 81) (by decide +kernel) (by decide) rfl (fun c18 => ?_) (fun c18 => ?_)
            · replace hf := ifp c18 hf
              refine Vsub [0, 1, 2, 4] rfl ?_
              exact l_X15_mayHave_102 C C2 ih r0 i1 i2 i4 h hf
            · replace hf := ifn c18 hf
              refine C.seg (pe := 82) (lv' := [(0, .ref r0), (1, .int i1), (2, .int i2), (3, .int i3), (4, .int i4)]) (st' := [.ref r0]) [(.aload_n 0, 1, 0)] (by decide +kernel) rfl ?_
              obtain ⟨a11, ga11, hf⟩ := Option.bind_eq_some_iff.mp hf
              refine C.rdA fr_1846 ga11 (by decide +kernel) rfl ?_
              refine C.seg (pe := 86) (lv' := [(0, .ref r0), (1, .int i1), (2, .int i2), (3, .int i3), (4, .int i4)]) (st' := [.ref r0, .ref a11]) [(.aload_n 0, 1, 0)] (by decide +kernel) rfl ?_
              obtain ⟨a12, ga12, hf⟩ := Option.bind_eq_some_iff.mp hf
              refine C.rdA fr_1854 ga12 (by decide +kernel) rfl ?_
              refine C.seg (pe := 91) (lv' := [(0, .ref r0), (1, .int i1), (2, .int i2), (3, .int i3), (4, .int i4)]) (st' := [.int i4, .ref a12, .ref a11]) [(.iload 4, 2, 0)] (by decide +kernel) rfl ?_
              obtain ⟨x13, gx13, hf⟩ := Option.bind_eq_some_iff.mp hf
              refine C.ald 0 rfl gx13 (by decide +kernel) rfl ?_
              obtain ⟨x14, gx14, hf⟩ := Option.bind_eq_some_iff.mp hf
              refine C.ald 0 rfl gx14 (by decide +kernel) rfl ?_
              refine C.seg (pe := 94) (lv' := [(0, .ref r0), (1, .int i1), (2, .int i2), (3, .int i3), (4, .int i4)]) (st' := [.ref r0, .int x14]) [(.aload_n 0, 1, 0)] (by decide +kernel) rfl ?_
              obtain ⟨a15, ga15, hf⟩ := Option.bind_eq_some_iff.mp hf
              refine C.rdA fr_1846 ga15 (by decide +kernel) rfl ?_
              refine C.seg (pe := 98) (lv' := [(0, .ref r0), (1, .int i1), (2, .int i2), (3, .int i3), (4, .int i4)]) (st' := [.int i1, .ref a15, .int x14]) [(.iload_n 1, 1, 0)] (by decide +kernel) rfl ?_
              obtain ⟨x16, gx16, hf⟩ := Option.bind_eq_some_iff.mp hf
              refine C.ald 0 rfl gx16 (by decide +kernel) rfl ?_
              refine C.icmp_eq (off := 7) (tgt := 106) (pf := 102) (by decide +kernel) (by decide) rfl (fun c17 => ?_) (fun c17 => ?_)
              · replace hf := ifp c17 hf
                refine Vsub [0, 1, 2, 4] rfl ?_
                exact l_X15_mayHave_106 C C2 ih r0 i1 i2 i4 h hf
              · replace hf := ifn c17 hf
                refine Vsub [0, 1, 2, 4] rfl ?_
                exact l_X15_mayHave_102 C C2 ih r0 i1 i2 i4 h hf
def f_X15_mayHave_19 (r0 : Nat) (i1 : Int32) (i2 : Int32) (si0 : Int32) (h : AH) : Option (Int32 × AH) :=
  f_X15_mayHave_23 FU r0 i1 i2 si0 0 h
set_option maxRecDepth 100000 in
set_option maxHeartbeats 4000000 in
theorem l_X15_mayHave_19 {X : MX} {l : Launch} {G : GX} {h0 : AH} {rr : Int32} {hr : AH} (C : Cx X G RX15 cX15_mayHave 5 (some .boolean) 1 24 h0) (C2 : Cy X l "mayHave" []) (r0 : Nat) (i1 : Int32) (i2 : Int32) (si0 : Int32) (h : AH) (hf : f_X15_mayHave_19 r0 i1 i2 si0 h = some (rr, hr)) : V X G h0 (QI rr hr) 19 [(0, .ref r0), (1, .int i1), (2, .int i2)] [.int si0] h := by
  unfold f_X15_mayHave_19 at hf
  refine C.seg (pe := 23) (lv' := [(4, .int 0), (3, .int si0), (0, .ref r0), (1, .int i1), (2, .int i2)]) (st' := []) [(.istore_n 3, 1, 0), (.iconst 0, 1, 0), (.istore 4, 2, 0)] (by decide +kernel) rfl ?_
  refine Vsub [2, 3, 4, 1, 0] rfl ?_
  exact l_X15_mayHave_23 C C2 FU r0 i1 i2 si0 0 h hf
def f_X15_mayHave (a0 : Nat) (p1 : Int32) (p2 : Int32) (h : AH) : Option (Int32 × AH) :=
  if isO 15 h a0 = true then
    (gA 15 h a0 67).bind fun a1 =>
    (aI 0 h a1 p2).bind fun x2 =>
    b2 (f_X15_likedOf a0 p1 x2 h) fun x3 h4 =>
    if x3 ≤ 0 then
      f_X15_mayHave_19 a0 p1 p2 0 h4
    else
      f_X15_mayHave_19 a0 p1 p2 1 h4
  else none
set_option maxRecDepth 100000 in
set_option maxHeartbeats 4000000 in
theorem w_X15_mayHave {l : Launch} {G : GX} {a0 : Nat} {p1 : Int32} {p2 : Int32} {h : AH} {rr : Int32} {hr : AH} (hf : f_X15_mayHave a0 p1 p2 h = some (rr, hr)) : Ct l G yX15_mayHave 1 24 [.ref a0, .int p1, .int p2] h (QI rr hr) := by
  unfold f_X15_mayHave at hf
  obtain ⟨ho, hf⟩ := ifO hf
  refine Ct_of (own := RX15) (cc := cX15_mayHave) (nL := 5) (ret := (some .boolean)) rfl rfl k_2405 (Nat.le_of_ble_eq_true rfl) (fun X C2 C => ?_)
  show V X G h (QI rr hr) 0 [(0, .ref a0), (1, .int p1), (2, .int p2)] [] h
  refine C.seg (pe := 3) (lv' := [(0, .ref a0), (1, .int p1), (2, .int p2)]) (st' := [.ref a0, .int p1, .ref a0]) [(.aload_n 0, 1, 0), (.iload_n 1, 1, 0), (.aload_n 0, 1, 0)] (by decide +kernel) rfl ?_
  obtain ⟨a1, ga1, hf⟩ := Option.bind_eq_some_iff.mp hf
  refine C.rdA fr_1853 ga1 (by decide +kernel) rfl ?_
  refine C.seg (pe := 7) (lv' := [(0, .ref a0), (1, .int p1), (2, .int p2)]) (st' := [.int p2, .ref a1, .int p1, .ref a0]) [(.iload_n 2, 1, 0)] (by decide +kernel) rfl ?_
  obtain ⟨x2, gx2, hf⟩ := Option.bind_eq_some_iff.mp hf
  refine C.ald 0 rfl gx2 (by decide +kernel) rfl ?_
  obtain ⟨x3, h4, gx3, hf⟩ := b2_some hf
  refine C.callVr C2 [.int p1, .int x2] [] mv_2387 rfl (o_X15_likedOf gx3) (w_X15_likedOf gx3) (by omega) (by omega) (Nat.le_of_ble_eq_true rfl) (by decide +kernel) rfl ?_
  refine C.if_le (off := 7) (tgt := 18) (pf := 14) (by decide +kernel) (by decide) rfl (fun c5 => ?_) (fun c5 => ?_)
  · replace hf := ifp c5 hf
    refine C.seg (pe := 19) (lv' := [(0, .ref a0), (1, .int p1), (2, .int p2)]) (st' := [.int 0]) [(.iconst 0, 1, 0)] (by decide +kernel) rfl ?_
    exact l_X15_mayHave_19 C C2 a0 p1 p2 0 h4 hf
  · replace hf := ifn c5 hf
    refine C.seg (pe := 15) (lv' := [(0, .ref a0), (1, .int p1), (2, .int p2)]) (st' := [.int 1]) [(.iconst 1, 1, 1)] (by decide +kernel) rfl ?_
    refine C.goto (off := 4) (tgt := 19) (by decide +kernel) (by decide) ?_
    exact l_X15_mayHave_19 C C2 a0 p1 p2 1 h4 hf
theorem o_X15_mayHave {a0 : Nat} {p1 : Int32} {p2 : Int32} {h : AH} {rr : Int32} {hr : AH} (hf : f_X15_mayHave a0 p1 p2 h = some (rr, hr)) : isO 15 h a0 = true := by
  unfold f_X15_mayHave at hf
  exact (ifO hf).1
/-! WallHouseModel.gives(III)V -/
def f_X15_gives_139 (kX : Nat → Int32 → Int32 → Int32 → AH → Option (AH)) (k79 : Nat → Int32 → Int32 → Int32 → Int32 → AH → Option (AH)) (r0 : Nat) (i1 : Int32) (i2 : Int32) (i3 : Int32) (i4 : Int32) (h : AH) : Option (AH) :=
  k79 r0 i1 i2 i3 (i4 + 1) h
set_option maxRecDepth 100000 in
set_option maxHeartbeats 4000000 in
theorem l_X15_gives_139 {X : MX} {l : Launch} {G : GX} {h0 : AH} {fT lT : Nat} {hr : AH} (C : Cx X G RX15 cX15_gives 5 none (fT + 20) (lT + 400) h0) (C2 : Cy X l "gives" []) {kX : Nat → Int32 → Int32 → Int32 → AH → Option (AH)} (hfT : 200 ≤ fT) (hlT : 4000 ≤ lT) (hkX : ∀ (b0 : Nat) (b1 : Int32) (b2 : Int32) (b3 : Int32) (h : AH) (hr : AH), kX b0 b1 b2 b3 h = some hr → Ct l G yX15_gives fT lT [.ref b0, .int b1, .int b2, .int b3] h (QV hr)) (hoX : ∀ (b0 : Nat) (b1 : Int32) (b2 : Int32) (b3 : Int32) (h : AH) (hr : AH), kX b0 b1 b2 b3 h = some hr → isO 15 h b0 = true) {k79 : Nat → Int32 → Int32 → Int32 → Int32 → AH → Option (AH)} (hk79 : ∀ (r0 : Nat) (i1 : Int32) (i2 : Int32) (i3 : Int32) (i4 : Int32) (h : AH), k79 r0 i1 i2 i3 i4 h = some hr → V X G h0 (QV hr) 79 [(0, .ref r0), (1, .int i1), (2, .int i2), (3, .int i3), (4, .int i4)] [] h) (r0 : Nat) (i1 : Int32) (i2 : Int32) (i3 : Int32) (i4 : Int32) (h : AH) (hf : f_X15_gives_139 kX k79 r0 i1 i2 i3 i4 h = some hr) : V X G h0 (QV hr) 139 [(0, .ref r0), (1, .int i1), (2, .int i2), (3, .int i3), (4, .int i4)] [] h := by
  unfold f_X15_gives_139 at hf
  refine C.seg (pe := 142) (lv' := [(4, .int (i4 + 1)), (0, .ref r0), (1, .int i1), (2, .int i2), (3, .int i3)]) (st' := []) [(.iinc 4 1, 3, 1)] (by decide +kernel) rfl ?_
  refine C.goto (off := (-63)) (tgt := 79) (by decide +kernel) (by decide) ?_
  refine Vsub [1, 2, 3, 4, 0] rfl ?_
  exact hk79 r0 i1 i2 i3 (i4 + 1) h hf
def f_X15_gives_79 (kX : Nat → Int32 → Int32 → Int32 → AH → Option (AH)) : Nat → Nat → Int32 → Int32 → Int32 → Int32 → AH → Option (AH)
  | 0, _, _, _, _, _, _ => none
  | n + 1, r0, i1, i2, i3, i4, h =>
    (gI 15 h r0 58).bind fun x1 =>
    if x1 ≤ i4 then
      (gA 15 h r0 68).bind fun a2 =>
      (sI 0 h a2 i1 (-2)).bind fun h3 =>
      (kX r0 (i1 + 1) i2 i3 h3).bind fun h4 =>
      some h4
    else
      b2 (f_X15_mayHave r0 i4 i1 h) fun x5 h6 =>
      if x5 = 0 then
        f_X15_gives_139 kX (f_X15_gives_79 kX n) r0 i1 i2 i3 i4 h6
      else
        (gA 15 h6 r0 68).bind fun a7 =>
        (sI 0 h6 a7 i1 i4).bind fun h8 =>
        (gA 15 h8 r0 67).bind fun a9 =>
        (aI 0 h8 a9 i1).bind fun x10 =>
        b2 (f_X15_likedOf r0 i4 x10 h8) fun x11 h12 =>
        (gA 15 h12 r0 71).bind fun a13 =>
        (aI 0 h12 a13 i4).bind fun x14 =>
        (kX r0 (i1 + 1) (i2 + x11) (i3 + x14) h12).bind fun h15 =>
        f_X15_gives_139 kX (f_X15_gives_79 kX n) r0 i1 i2 i3 i4 h15
set_option maxRecDepth 100000 in
set_option maxHeartbeats 4000000 in
theorem l_X15_gives_79 {X : MX} {l : Launch} {G : GX} {h0 : AH} {fT lT : Nat} {hr : AH} (C : Cx X G RX15 cX15_gives 5 none (fT + 20) (lT + 400) h0) (C2 : Cy X l "gives" []) {kX : Nat → Int32 → Int32 → Int32 → AH → Option (AH)} (hfT : 200 ≤ fT) (hlT : 4000 ≤ lT) (hkX : ∀ (b0 : Nat) (b1 : Int32) (b2 : Int32) (b3 : Int32) (h : AH) (hr : AH), kX b0 b1 b2 b3 h = some hr → Ct l G yX15_gives fT lT [.ref b0, .int b1, .int b2, .int b3] h (QV hr)) (hoX : ∀ (b0 : Nat) (b1 : Int32) (b2 : Int32) (b3 : Int32) (h : AH) (hr : AH), kX b0 b1 b2 b3 h = some hr → isO 15 h b0 = true) : ∀ (n : Nat) (r0 : Nat) (i1 : Int32) (i2 : Int32) (i3 : Int32) (i4 : Int32) (h : AH), f_X15_gives_79 kX n r0 i1 i2 i3 i4 h = some hr → V X G h0 (QV hr) 79 [(0, .ref r0), (1, .int i1), (2, .int i2), (3, .int i3), (4, .int i4)] [] h := by
  intro n
  induction n with
  | zero => intro r0 i1 i2 i3 i4 h hf; rw [f_X15_gives_79] at hf; cases hf
  | succ n ih =>
    intro r0 i1 i2 i3 i4 h hf
    rw [f_X15_gives_79] at hf
    refine C.seg (pe := 82) (lv' := [(0, .ref r0), (1, .int i1), (2, .int i2), (3, .int i3), (4, .int i4)]) (st' := [.ref r0, .int i4]) [(.iload 4, 2, 0), (.aload_n 0, 1, 0)] (by decide +kernel) rfl ?_
    obtain ⟨x1, gx1, hf⟩ := Option.bind_eq_some_iff.mp hf
    refine C.rdI fr_1844 gx1 (by decide +kernel) rfl ?_
    refine C.icmp_ge (off := 60) (tgt := 145) (pf := 88) (by decide +kernel) (by decide) rfl (fun c17 => ?_) (fun c17 => ?_)
    · replace hf := ifp c17 hf
      refine C.seg (pe := 146) (lv' := [(0, .ref r0), (1, .int i1), (2, .int i2), (3, .int i3), (4, .int i4)]) (st' := [.ref r0]) [(.aload_n 0, 1, 0)] (by decide +kernel) rfl ?_
      obtain ⟨a2, ga2, hf⟩ := Option.bind_eq_some_iff.mp hf
      refine C.rdA fr_1854 ga2 (by decide +kernel) rfl ?_
      refine C.seg (pe := 152) (lv' := [(0, .ref r0), (1, .int i1), (2, .int i2), (3, .int i3), (4, .int i4)]) (st' := [.int (-2), .int i1, .ref a2]) [(.iload_n 1, 1, 0), (.bipush (-2), 2, (-2))] (by decide +kernel) rfl ?_
      obtain ⟨h3, gh3, hf⟩ := Option.bind_eq_some_iff.mp hf
      refine C.ast gh3 (by decide +kernel) rfl ?_
      refine C.seg (pe := 159) (lv' := [(0, .ref r0), (1, .int i1), (2, .int i2), (3, .int i3), (4, .int i4)]) (st' := [.int i3, .int i2, .int (i1 + 1), .ref r0]) [(.aload_n 0, 1, 0), (.iload_n 1, 1, 0), (.iconst 1, 1, 1), (.iadd, 1, 0), (.iload_n 2, 1, 0), (.iload_n 3, 1, 0)] (by decide +kernel) rfl ?_
      obtain ⟨h4, gh4, hf⟩ := Option.bind_eq_some_iff.mp hf
      refine C.callVr C2 [.int (i1 + 1), .int i2, .int i3] [] mv_2398 rfl (hoX _ _ _ _ _ _ gh4) (hkX _ _ _ _ _ _ gh4) (by omega) (by omega) (Nat.le_of_ble_eq_true rfl) (by decide +kernel) rfl ?_
      cases hf
      exact C.retV rfl (by decide +kernel) ⟨rfl, rfl⟩
    · replace hf := ifn c17 hf
      refine C.seg (pe := 92) (lv' := [(0, .ref r0), (1, .int i1), (2, .int i2), (3, .int i3), (4, .int i4)]) (st' := [.int i1, .int i4, .ref r0]) [(.aload_n 0, 1, 0), (.iload 4, 2, 0), (.iload_n 1, 1, 0)] (by decide +kernel) rfl ?_
      obtain ⟨x5, h6, gx5, hf⟩ := b2_some hf
      refine C.callVr C2 [.int i4, .int i1] [] mv_2402 rfl (o_X15_mayHave gx5) (w_X15_mayHave gx5) (by omega) (by omega) (Nat.le_of_ble_eq_true rfl) (by decide +kernel) rfl ?_
      refine C.if_ne (off := 6) (tgt := 101) (pf := 98) (by decide +kernel) (by decide) rfl (fun c16 => ?_) (fun c16 => ?_)
      · replace hf := ifn c16 hf
        refine C.seg (pe := 102) (lv' := [(0, .ref r0), (1, .int i1), (2, .int i2), (3, .int i3), (4, .int i4)]) (st' := [.ref r0]) [(.aload_n 0, 1, 0)] (by decide +kernel) rfl ?_
        obtain ⟨a7, ga7, hf⟩ := Option.bind_eq_some_iff.mp hf
        refine C.rdA fr_1854 ga7 (by decide +kernel) rfl ?_
        refine C.seg (pe := 108) (lv' := [(0, .ref r0), (1, .int i1), (2, .int i2), (3, .int i3), (4, .int i4)]) (st' := [.int i4, .int i1, .ref a7]) [(.iload_n 1, 1, 0), (.iload 4, 2, 0)] (by decide +kernel) rfl ?_
        obtain ⟨h8, gh8, hf⟩ := Option.bind_eq_some_iff.mp hf
        refine C.ast gh8 (by decide +kernel) rfl ?_
        refine C.seg (pe := 118) (lv' := [(0, .ref r0), (1, .int i1), (2, .int i2), (3, .int i3), (4, .int i4)]) (st' := [.ref r0, .int i4, .ref r0, .int i2, .int (i1 + 1), .ref r0]) [(.aload_n 0, 1, 0), (.iload_n 1, 1, 0), (.iconst 1, 1, 1), (.iadd, 1, 0), (.iload_n 2, 1, 0), (.aload_n 0, 1, 0), (.iload 4, 2, 0), (.aload_n 0, 1, 0)] (by decide +kernel) rfl ?_
        obtain ⟨a9, ga9, hf⟩ := Option.bind_eq_some_iff.mp hf
        refine C.rdA fr_1853 ga9 (by decide +kernel) rfl ?_
        refine C.seg (pe := 122) (lv' := [(0, .ref r0), (1, .int i1), (2, .int i2), (3, .int i3), (4, .int i4)]) (st' := [.int i1, .ref a9, .int i4, .ref r0, .int i2, .int (i1 + 1), .ref r0]) [(.iload_n 1, 1, 0)] (by decide +kernel) rfl ?_
        obtain ⟨x10, gx10, hf⟩ := Option.bind_eq_some_iff.mp hf
        refine C.ald 0 rfl gx10 (by decide +kernel) rfl ?_
        obtain ⟨x11, h12, gx11, hf⟩ := b2_some hf
        refine C.callVr C2 [.int i4, .int x10] [.int i2, .int (i1 + 1), .ref r0] mv_2387 rfl (o_X15_likedOf gx11) (w_X15_likedOf gx11) (by omega) (by omega) (Nat.le_of_ble_eq_true rfl) (by decide +kernel) rfl ?_
        refine C.seg (pe := 129) (lv' := [(0, .ref r0), (1, .int i1), (2, .int i2), (3, .int i3), (4, .int i4)]) (st' := [.ref r0, .int i3, .int (i2 + x11), .int (i1 + 1), .ref r0]) [(.iadd, 1, 0), (.iload_n 3, 1, 0), (.aload_n 0, 1, 0)] (by decide +kernel) rfl ?_
        obtain ⟨a13, ga13, hf⟩ := Option.bind_eq_some_iff.mp hf
        refine C.rdA fr_1857 ga13 (by decide +kernel) rfl ?_
        refine C.seg (pe := 134) (lv' := [(0, .ref r0), (1, .int i1), (2, .int i2), (3, .int i3), (4, .int i4)]) (st' := [.int i4, .ref a13, .int i3, .int (i2 + x11), .int (i1 + 1), .ref r0]) [(.iload 4, 2, 0)] (by decide +kernel) rfl ?_
        obtain ⟨x14, gx14, hf⟩ := Option.bind_eq_some_iff.mp hf
        refine C.ald 0 rfl gx14 (by decide +kernel) rfl ?_
        refine C.seg (pe := 136) (lv' := [(0, .ref r0), (1, .int i1), (2, .int i2), (3, .int i3), (4, .int i4)]) (st' := [.int (i3 + x14), .int (i2 + x11), .int (i1 + 1), .ref r0]) [(.iadd, 1, 0)] (by decide +kernel) rfl ?_
        obtain ⟨h15, gh15, hf⟩ := Option.bind_eq_some_iff.mp hf
        refine C.callVr C2 [.int (i1 + 1), .int (i2 + x11), .int (i3 + x14)] [] mv_2398 rfl (hoX _ _ _ _ _ _ gh15) (hkX _ _ _ _ _ _ gh15) (by omega) (by omega) (Nat.le_of_ble_eq_true rfl) (by decide +kernel) rfl ?_
        exact l_X15_gives_139 C C2 hfT hlT hkX hoX ih r0 i1 i2 i3 i4 h15 hf
      · replace hf := ifp c16 hf
        refine C.goto (off := 41) (tgt := 139) (by decide +kernel) (by decide) ?_
        exact l_X15_gives_139 C C2 hfT hlT hkX hoX ih r0 i1 i2 i3 i4 h6 hf
def f_X15_gives_46 (kX : Nat → Int32 → Int32 → Int32 → AH → Option (AH)) : Nat → Nat → Int32 → AH → Option (AH)
  | 0, _, _, _ => none
  | n + 1, r0, i4, h =>
    (gI 15 h r0 72).bind fun x1 =>
    if x1 ≤ i4 then
      some h
    else
      (gA 15 h r0 69).bind fun a2 =>
      (gA 15 h r0 68).bind fun a3 =>
      (aI 0 h a3 i4).bind fun x4 =>
      (sI 0 h a2 i4 x4).bind fun h5 =>
      (f_X15_gives_46 kX n) r0 (i4 + 1) h5
set_option maxRecDepth 100000 in
set_option maxHeartbeats 4000000 in
theorem l_X15_gives_46 {X : MX} {l : Launch} {G : GX} {h0 : AH} {fT lT : Nat} {hr : AH} (C : Cx X G RX15 cX15_gives 5 none (fT + 20) (lT + 400) h0) (C2 : Cy X l "gives" []) {kX : Nat → Int32 → Int32 → Int32 → AH → Option (AH)} (hfT : 200 ≤ fT) (hlT : 4000 ≤ lT) (hkX : ∀ (b0 : Nat) (b1 : Int32) (b2 : Int32) (b3 : Int32) (h : AH) (hr : AH), kX b0 b1 b2 b3 h = some hr → Ct l G yX15_gives fT lT [.ref b0, .int b1, .int b2, .int b3] h (QV hr)) (hoX : ∀ (b0 : Nat) (b1 : Int32) (b2 : Int32) (b3 : Int32) (h : AH) (hr : AH), kX b0 b1 b2 b3 h = some hr → isO 15 h b0 = true) : ∀ (n : Nat) (r0 : Nat) (i4 : Int32) (h : AH), f_X15_gives_46 kX n r0 i4 h = some hr → V X G h0 (QV hr) 46 [(0, .ref r0), (4, .int i4)] [] h := by
  intro n
  induction n with
  | zero => intro r0 i4 h hf; rw [f_X15_gives_46] at hf; cases hf
  | succ n ih =>
    intro r0 i4 h hf
    rw [f_X15_gives_46] at hf
    refine C.seg (pe := 49) (lv' := [(0, .ref r0), (4, .int i4)]) (st' := [.ref r0, .int i4]) [(.iload 4, 2, 0), (.aload_n 0, 1, 0)] (by decide +kernel) rfl ?_
    obtain ⟨x1, gx1, hf⟩ := Option.bind_eq_some_iff.mp hf
    refine C.rdI fr_1858 gx1 (by decide +kernel) rfl ?_
    refine C.icmp_ge (off := 23) (tgt := 75) (pf := 55) (by decide +kernel) (by decide) rfl (fun c6 => ?_) (fun c6 => ?_)
    · replace hf := ifp c6 hf
      cases hf
      exact C.retV rfl (by decide +kernel) ⟨rfl, rfl⟩
    · replace hf := ifn c6 hf
      refine C.seg (pe := 56) (lv' := [(0, .ref r0), (4, .int i4)]) (st' := [.ref r0]) [(.aload_n 0, 1, 0)] (by decide +kernel) rfl ?_
      obtain ⟨a2, ga2, hf⟩ := Option.bind_eq_some_iff.mp hf
      refine C.rdA fr_1855 ga2 (by decide +kernel) rfl ?_
      refine C.seg (pe := 62) (lv' := [(0, .ref r0), (4, .int i4)]) (st' := [.ref r0, .int i4, .ref a2]) [(.iload 4, 2, 0), (.aload_n 0, 1, 0)] (by decide +kernel) rfl ?_
      obtain ⟨a3, ga3, hf⟩ := Option.bind_eq_some_iff.mp hf
      refine C.rdA fr_1854 ga3 (by decide +kernel) rfl ?_
      refine C.seg (pe := 67) (lv' := [(0, .ref r0), (4, .int i4)]) (st' := [.int i4, .ref a3, .int i4, .ref a2]) [(.iload 4, 2, 0)] (by decide +kernel) rfl ?_
      obtain ⟨x4, gx4, hf⟩ := Option.bind_eq_some_iff.mp hf
      refine C.ald 0 rfl gx4 (by decide +kernel) rfl ?_
      obtain ⟨h5, gh5, hf⟩ := Option.bind_eq_some_iff.mp hf
      refine C.ast gh5 (by decide +kernel) rfl ?_
      refine C.seg (pe := 72) (lv' := [(4, .int (i4 + 1)), (0, .ref r0)]) (st' := []) [(.iinc 4 1, 3, 1)] (by decide +kernel) rfl ?_
      refine C.goto (off := (-26)) (tgt := 46) (by decide +kernel) (by decide) ?_
      refine Vsub [1, 0] rfl ?_
      exact ih r0 (i4 + 1) h5 hf
def f_X15_gives_33 (kX : Nat → Int32 → Int32 → Int32 → AH → Option (AH)) (r0 : Nat) (i2 : Int32) (i3 : Int32) (h : AH) : Option (AH) :=
  (pI 15 h r0 73 i2).bind fun h1 =>
  (pI 15 h1 r0 74 i3).bind fun h2 =>
  f_X15_gives_46 kX FU r0 0 h2
set_option maxRecDepth 100000 in
set_option maxHeartbeats 4000000 in
theorem l_X15_gives_33 {X : MX} {l : Launch} {G : GX} {h0 : AH} {fT lT : Nat} {hr : AH} (C : Cx X G RX15 cX15_gives 5 none (fT + 20) (lT + 400) h0) (C2 : Cy X l "gives" []) {kX : Nat → Int32 → Int32 → Int32 → AH → Option (AH)} (hfT : 200 ≤ fT) (hlT : 4000 ≤ lT) (hkX : ∀ (b0 : Nat) (b1 : Int32) (b2 : Int32) (b3 : Int32) (h : AH) (hr : AH), kX b0 b1 b2 b3 h = some hr → Ct l G yX15_gives fT lT [.ref b0, .int b1, .int b2, .int b3] h (QV hr)) (hoX : ∀ (b0 : Nat) (b1 : Int32) (b2 : Int32) (b3 : Int32) (h : AH) (hr : AH), kX b0 b1 b2 b3 h = some hr → isO 15 h b0 = true) (r0 : Nat) (i2 : Int32) (i3 : Int32) (h : AH) (hf : f_X15_gives_33 kX r0 i2 i3 h = some hr) : V X G h0 (QV hr) 33 [(0, .ref r0), (2, .int i2), (3, .int i3)] [] h := by
  unfold f_X15_gives_33 at hf
  refine C.seg (pe := 35) (lv' := [(0, .ref r0), (2, .int i2), (3, .int i3)]) (st' := [.int i2, .ref r0]) [(.aload_n 0, 1, 0), (.iload_n 2, 1, 0)] (by decide +kernel) rfl ?_
  obtain ⟨h1, gh1, hf⟩ := Option.bind_eq_some_iff.mp hf
  refine C.putI fl_1859 gh1 (by decide +kernel) rfl ?_
  refine C.seg (pe := 40) (lv' := [(0, .ref r0), (2, .int i2), (3, .int i3)]) (st' := [.int i3, .ref r0]) [(.aload_n 0, 1, 0), (.iload_n 3, 1, 0)] (by decide +kernel) rfl ?_
  obtain ⟨h2, gh2, hf⟩ := Option.bind_eq_some_iff.mp hf
  refine C.putI fl_1860 gh2 (by decide +kernel) rfl ?_
  refine C.seg (pe := 46) (lv' := [(4, .int 0), (0, .ref r0), (2, .int i2), (3, .int i3)]) (st' := []) [(.iconst 0, 1, 0), (.istore 4, 2, 0)] (by decide +kernel) rfl ?_
  refine Vsub [1, 0] rfl ?_
  exact l_X15_gives_46 C C2 hfT hlT hkX hoX FU r0 0 h2 hf
def f_X15_gives_32 (kX : Nat → Int32 → Int32 → Int32 → AH → Option (AH)) (h : AH) : Option (AH) :=
  some h
set_option maxRecDepth 100000 in
set_option maxHeartbeats 4000000 in
theorem l_X15_gives_32 {X : MX} {l : Launch} {G : GX} {h0 : AH} {fT lT : Nat} {hr : AH} (C : Cx X G RX15 cX15_gives 5 none (fT + 20) (lT + 400) h0) (C2 : Cy X l "gives" []) {kX : Nat → Int32 → Int32 → Int32 → AH → Option (AH)} (hfT : 200 ≤ fT) (hlT : 4000 ≤ lT) (hkX : ∀ (b0 : Nat) (b1 : Int32) (b2 : Int32) (b3 : Int32) (h : AH) (hr : AH), kX b0 b1 b2 b3 h = some hr → Ct l G yX15_gives fT lT [.ref b0, .int b1, .int b2, .int b3] h (QV hr)) (hoX : ∀ (b0 : Nat) (b1 : Int32) (b2 : Int32) (b3 : Int32) (h : AH) (hr : AH), kX b0 b1 b2 b3 h = some hr → isO 15 h b0 = true) (h : AH) (hf : f_X15_gives_32 kX h = some hr) : V X G h0 (QV hr) 32 [] [] h := by
  unfold f_X15_gives_32 at hf
  cases hf
  exact C.retV rfl (by decide +kernel) ⟨rfl, rfl⟩
def f_X15_gives_b (kX : Nat → Int32 → Int32 → Int32 → AH → Option (AH)) (a0 : Nat) (p1 : Int32) (p2 : Int32) (p3 : Int32) (h : AH) : Option (AH) :=
  if isO 15 h a0 = true then
    (gI 15 h a0 72).bind fun x1 =>
    if p1 = x1 then
      (gI 15 h a0 73).bind fun x2 =>
      if p2 < x2 then
        f_X15_gives_32 kX h
      else
        (gI 15 h a0 73).bind fun x3 =>
        if p2 = x3 then
          (gI 15 h a0 74).bind fun x4 =>
          if p3 < x4 then
            f_X15_gives_33 kX a0 p2 p3 h
          else
            f_X15_gives_32 kX h
        else
          f_X15_gives_33 kX a0 p2 p3 h
    else
      f_X15_gives_79 kX FU a0 p1 p2 p3 0 h
  else none
def f_X15_gives : Nat → Nat → Int32 → Int32 → Int32 → AH → Option (AH)
  | 0, _, _, _, _, _ => none
  | d + 1, a0, p1, p2, p3, h => f_X15_gives_b (f_X15_gives d) a0 p1 p2 p3 h
set_option maxRecDepth 100000 in
set_option maxHeartbeats 4000000 in
theorem w_X15_gives_b {l : Launch} {G : GX} {fT lT : Nat} {kX : Nat → Int32 → Int32 → Int32 → AH → Option (AH)} (hfT : 200 ≤ fT) (hlT : 4000 ≤ lT) (hkX : ∀ (b0 : Nat) (b1 : Int32) (b2 : Int32) (b3 : Int32) (h : AH) (hr : AH), kX b0 b1 b2 b3 h = some hr → Ct l G yX15_gives fT lT [.ref b0, .int b1, .int b2, .int b3] h (QV hr)) (hoX : ∀ (b0 : Nat) (b1 : Int32) (b2 : Int32) (b3 : Int32) (h : AH) (hr : AH), kX b0 b1 b2 b3 h = some hr → isO 15 h b0 = true)  {a0 : Nat} {p1 : Int32} {p2 : Int32} {p3 : Int32} {h : AH} {hr : AH} (hf : f_X15_gives_b kX a0 p1 p2 p3 h = some hr) : Ct l G yX15_gives (fT + 20) (lT + 400) [.ref a0, .int p1, .int p2, .int p3] h (QV hr) := by
  unfold f_X15_gives_b at hf
  obtain ⟨ho, hf⟩ := ifO hf
  refine Ct_of (own := RX15) (cc := cX15_gives) (nL := 5) (ret := none) rfl rfl k_2401 (Nat.le_of_ble_eq_true rfl) (fun X C2 C => ?_)
  show V X G h (QV hr) 0 [(0, .ref a0), (1, .int p1), (2, .int p2), (3, .int p3)] [] h
  refine C.seg (pe := 2) (lv' := [(0, .ref a0), (1, .int p1), (2, .int p2), (3, .int p3)]) (st' := [.ref a0, .int p1]) [(.iload_n 1, 1, 0), (.aload_n 0, 1, 0)] (by decide +kernel) rfl ?_
  obtain ⟨x1, gx1, hf⟩ := Option.bind_eq_some_iff.mp hf
  refine C.rdI fr_1858 gx1 (by decide +kernel) rfl ?_
  refine C.icmp_ne (off := 71) (tgt := 76) (pf := 8) (by decide +kernel) (by decide) rfl (fun c8 => ?_) (fun c8 => ?_)
  · replace hf := ifn c8 hf
    refine C.seg (pe := 79) (lv' := [(4, .int 0), (0, .ref a0), (1, .int p1), (2, .int p2), (3, .int p3)]) (st' := []) [(.iconst 0, 1, 0), (.istore 4, 2, 0)] (by decide +kernel) rfl ?_
    refine Vsub [1, 2, 3, 4, 0] rfl ?_
    exact l_X15_gives_79 C C2 hfT hlT hkX hoX FU a0 p1 p2 p3 0 h hf
  · replace hf := ifp c8 hf
    refine C.seg (pe := 10) (lv' := [(0, .ref a0), (1, .int p1), (2, .int p2), (3, .int p3)]) (st' := [.ref a0, .int p2]) [(.iload_n 2, 1, 0), (.aload_n 0, 1, 0)] (by decide +kernel) rfl ?_
    obtain ⟨x2, gx2, hf⟩ := Option.bind_eq_some_iff.mp hf
    refine C.rdI fr_1859 gx2 (by decide +kernel) rfl ?_
    refine C.icmp_lt (off := 19) (tgt := 32) (pf := 16) (by decide +kernel) (by decide) rfl (fun c7 => ?_) (fun c7 => ?_)
    · replace hf := ifp c7 hf
      refine Vsub [] rfl ?_
      exact l_X15_gives_32 C C2 hfT hlT hkX hoX h hf
    · replace hf := ifn c7 hf
      refine C.seg (pe := 18) (lv' := [(0, .ref a0), (1, .int p1), (2, .int p2), (3, .int p3)]) (st' := [.ref a0, .int p2]) [(.iload_n 2, 1, 0), (.aload_n 0, 1, 0)] (by decide +kernel) rfl ?_
      obtain ⟨x3, gx3, hf⟩ := Option.bind_eq_some_iff.mp hf
      refine C.rdI fr_1859 gx3 (by decide +kernel) rfl ?_
      refine C.icmp_ne (off := 12) (tgt := 33) (pf := 24) (by decide +kernel) (by decide) rfl (fun c6 => ?_) (fun c6 => ?_)
      · replace hf := ifn c6 hf
        refine Vsub [0, 2, 3] rfl ?_
        exact l_X15_gives_33 C C2 hfT hlT hkX hoX a0 p2 p3 h hf
      · replace hf := ifp c6 hf
        refine C.seg (pe := 26) (lv' := [(0, .ref a0), (1, .int p1), (2, .int p2), (3, .int p3)]) (st' := [.ref a0, .int p3]) [(.iload_n 3, 1, 0), (.aload_n 0, 1, 0)] (by decide +kernel) rfl ?_
        obtain ⟨x4, gx4, hf⟩ := Option.bind_eq_some_iff.mp hf
        refine C.rdI fr_1860 gx4 (by decide +kernel) rfl ?_
        refine C.icmp_lt (off := 4) (tgt := 33) (pf := 32) (by decide +kernel) (by decide) rfl (fun c5 => ?_) (fun c5 => ?_)
        · replace hf := ifp c5 hf
          refine Vsub [0, 2, 3] rfl ?_
          exact l_X15_gives_33 C C2 hfT hlT hkX hoX a0 p2 p3 h hf
        · replace hf := ifn c5 hf
          refine Vsub [] rfl ?_
          exact l_X15_gives_32 C C2 hfT hlT hkX hoX h hf
theorem o_X15_gives {d : Nat} {a0 : Nat} {p1 : Int32} {p2 : Int32} {p3 : Int32} {h : AH} {hr : AH} (hf : f_X15_gives d a0 p1 p2 p3 h = some hr) : isO 15 h a0 = true := by
  cases d with
  | zero => rw [f_X15_gives] at hf; cases hf
  | succ d =>
    rw [f_X15_gives, f_X15_gives_b] at hf
    exact (ifO hf).1
theorem w_X15_gives {l : Launch} {G : GX} (d : Nat) : ∀ {a0 : Nat} {p1 : Int32} {p2 : Int32} {p3 : Int32} {h : AH} {hr : AH}, f_X15_gives d a0 p1 p2 p3 h = some hr → Ct l G yX15_gives (200 + 20 * d) (4000 + 400 * d) [.ref a0, .int p1, .int p2, .int p3] h (QV hr) := by
  induction d with
  | zero => intro a0 p1 p2 p3 h hr hf; rw [f_X15_gives] at hf; cases hf
  | succ d ih =>
    intro a0 p1 p2 p3 h hr hf
    rw [f_X15_gives] at hf
    have q := w_X15_gives_b (fT := 200 + 20 * d) (lT := 4000 + 400 * d) (by omega) (by omega) (fun b0 b1 b2 b3 h hr g => ih g) (fun b0 b1 b2 b3 h hr g => o_X15_gives g) hf
    rw [show 200 + 20 * (d + 1) = 200 + 20 * d + 20 by omega, show 4000 + 400 * (d + 1) = 4000 + 400 * d + 400 by omega]
    exact q
/-! WallHouseModel.give(I)I -/
def f_X15_give_279 : Nat → Nat → Int32 → AH → Option (Int32 × AH)
  | 0, _, _, _ => none
  | n + 1, r0, i3, h =>
    (gI 15 h r0 72).bind fun x1 =>
    if x1 ≤ i3 then
      (gI 15 h r0 73).bind fun x2 =>
      b2 (f_X15_done r0 x2 h) fun x3 h4 =>
      some (x3, h4)
    else
      (gA 15 h r0 70).bind fun a5 =>
      (gA 15 h r0 67).bind fun a6 =>
      (aI 0 h a6 i3).bind fun x7 =>
      (gA 15 h r0 69).bind fun a8 =>
      (aI 0 h a8 i3).bind fun x9 =>
      (sI 0 h a5 x7 x9).bind fun h10 =>
      (f_X15_give_279 n) r0 (i3 + 1) h10
set_option maxRecDepth 100000 in
set_option maxHeartbeats 4000000 in
theorem l_X15_give_279 {X : MX} {l : Launch} {G : GX} {h0 : AH} {rr : Int32} {hr : AH} (C : Cx X G RX15 cX15_give 5 (some .int) 361 7224 h0) (C2 : Cy X l "give" []) : ∀ (n : Nat) (r0 : Nat) (i3 : Int32) (h : AH), f_X15_give_279 n r0 i3 h = some (rr, hr) → V X G h0 (QI rr hr) 279 [(0, .ref r0), (3, .int i3)] [] h := by
  intro n
  induction n with
  | zero => intro r0 i3 h hf; rw [f_X15_give_279] at hf; cases hf
  | succ n ih =>
    intro r0 i3 h hf
    rw [f_X15_give_279] at hf
    refine C.seg (pe := 281) (lv' := [(0, .ref r0), (3, .int i3)]) (st' := [.ref r0, .int i3]) [(.iload_n 3, 1, 0), (.aload_n 0, 1, 0)] (by decide +kernel) rfl ?_
    obtain ⟨x1, gx1, hf⟩ := Option.bind_eq_some_iff.mp hf
    refine C.rdI fr_1858 gx1 (by decide +kernel) rfl ?_
    refine C.icmp_ge (off := 26) (tgt := 310) (pf := 287) (by decide +kernel) (by decide) rfl (fun c11 => ?_) (fun c11 => ?_)
    · replace hf := ifp c11 hf
      refine C.seg (pe := 312) (lv' := [(0, .ref r0), (3, .int i3)]) (st' := [.ref r0, .ref r0]) [(.aload_n 0, 1, 0), (.aload_n 0, 1, 0)] (by decide +kernel) rfl ?_
      obtain ⟨x2, gx2, hf⟩ := Option.bind_eq_some_iff.mp hf
      refine C.rdI fr_1859 gx2 (by decide +kernel) rfl ?_
      obtain ⟨x3, h4, gx3, hf⟩ := b2_some hf
      refine C.callVr C2 [.int x2] [] mv_2116 rfl (o_X15_done gx3) (w_X15_done gx3) (by omega) (by omega) (Nat.le_of_ble_eq_true rfl) (by decide +kernel) rfl ?_
      cases hf
      exact C.retI rfl (by decide +kernel) ⟨rfl, rfl⟩
    · replace hf := ifn c11 hf
      refine C.seg (pe := 288) (lv' := [(0, .ref r0), (3, .int i3)]) (st' := [.ref r0]) [(.aload_n 0, 1, 0)] (by decide +kernel) rfl ?_
      obtain ⟨a5, ga5, hf⟩ := Option.bind_eq_some_iff.mp hf
      refine C.rdA fr_1856 ga5 (by decide +kernel) rfl ?_
      refine C.seg (pe := 292) (lv' := [(0, .ref r0), (3, .int i3)]) (st' := [.ref r0, .ref a5]) [(.aload_n 0, 1, 0)] (by decide +kernel) rfl ?_
      obtain ⟨a6, ga6, hf⟩ := Option.bind_eq_some_iff.mp hf
      refine C.rdA fr_1853 ga6 (by decide +kernel) rfl ?_
      refine C.seg (pe := 296) (lv' := [(0, .ref r0), (3, .int i3)]) (st' := [.int i3, .ref a6, .ref a5]) [(.iload_n 3, 1, 0)] (by decide +kernel) rfl ?_
      obtain ⟨x7, gx7, hf⟩ := Option.bind_eq_some_iff.mp hf
      refine C.ald 0 rfl gx7 (by decide +kernel) rfl ?_
      refine C.seg (pe := 298) (lv' := [(0, .ref r0), (3, .int i3)]) (st' := [.ref r0, .int x7, .ref a5]) [(.aload_n 0, 1, 0)] (by decide +kernel) rfl ?_
      obtain ⟨a8, ga8, hf⟩ := Option.bind_eq_some_iff.mp hf
      refine C.rdA fr_1855 ga8 (by decide +kernel) rfl ?_
      refine C.seg (pe := 302) (lv' := [(0, .ref r0), (3, .int i3)]) (st' := [.int i3, .ref a8, .int x7, .ref a5]) [(.iload_n 3, 1, 0)] (by decide +kernel) rfl ?_
      obtain ⟨x9, gx9, hf⟩ := Option.bind_eq_some_iff.mp hf
      refine C.ald 0 rfl gx9 (by decide +kernel) rfl ?_
      obtain ⟨h10, gh10, hf⟩ := Option.bind_eq_some_iff.mp hf
      refine C.ast gh10 (by decide +kernel) rfl ?_
      refine C.seg (pe := 307) (lv' := [(3, .int (i3 + 1)), (0, .ref r0)]) (st' := []) [(.iinc 3 1, 3, 1)] (by decide +kernel) rfl ?_
      refine C.goto (off := (-28)) (tgt := 279) (by decide +kernel) (by decide) ?_
      refine Vsub [1, 0] rfl ?_
      exact ih r0 (i3 + 1) h10 hf
def f_X15_give_241 (k191 : Nat → Int32 → AH → Option (Int32 × AH)) (k209 : Nat → Int32 → Int32 → AH → Option (Int32 × AH)) (r0 : Nat) (i3 : Int32) (i4 : Int32) (si0 : Int32) (si1 : Int32) (si2 : Int32) (sr3 : Nat) (h : AH) : Option (Int32 × AH) :=
  (sI 0 h sr3 si2 (si1 + si0)).bind fun h1 =>
  k209 r0 i3 (i4 + 1) h1
set_option maxRecDepth 100000 in
set_option maxHeartbeats 4000000 in
theorem l_X15_give_241 {X : MX} {l : Launch} {G : GX} {h0 : AH} {rr : Int32} {hr : AH} (C : Cx X G RX15 cX15_give 5 (some .int) 361 7224 h0) (C2 : Cy X l "give" []) {k191 : Nat → Int32 → AH → Option (Int32 × AH)} (hk191 : ∀ (r0 : Nat) (i3 : Int32) (h : AH), k191 r0 i3 h = some (rr, hr) → V X G h0 (QI rr hr) 191 [(0, .ref r0), (3, .int i3)] [] h) {k209 : Nat → Int32 → Int32 → AH → Option (Int32 × AH)} (hk209 : ∀ (r0 : Nat) (i3 : Int32) (i4 : Int32) (h : AH), k209 r0 i3 i4 h = some (rr, hr) → V X G h0 (QI rr hr) 209 [(0, .ref r0), (3, .int i3), (4, .int i4)] [] h) (r0 : Nat) (i3 : Int32) (i4 : Int32) (si0 : Int32) (si1 : Int32) (si2 : Int32) (sr3 : Nat) (h : AH) (hf : f_X15_give_241 k191 k209 r0 i3 i4 si0 si1 si2 sr3 h = some (rr, hr)) : V X G h0 (QI rr hr) 241 [(0, .ref r0), (3, .int i3), (4, .int i4)] [.int si0, .int si1, .int si2, .ref sr3] h := by
  unfold f_X15_give_241 at hf
  refine C.seg (pe := 242) (lv' := [(0, .ref r0), (3, .int i3), (4, .int i4)]) (st' := [.int (si1 + si0), .int si2, .ref sr3]) [(.iadd, 1, 0)] (by decide +kernel) rfl ?_
  obtain ⟨h1, gh1, hf⟩ := Option.bind_eq_some_iff.mp hf
  refine C.ast gh1 (by decide +kernel) rfl ?_
  refine C.seg (pe := 246) (lv' := [(4, .int (i4 + 1)), (0, .ref r0), (3, .int i3)]) (st' := []) [(.iinc 4 1, 3, 1)] (by decide +kernel) rfl ?_
  refine C.goto (off := (-37)) (tgt := 209) (by decide +kernel) (by decide) ?_
  refine Vsub [1, 2, 0] rfl ?_
  exact hk209 r0 i3 (i4 + 1) h1 hf
def f_X15_give_209 (k191 : Nat → Int32 → AH → Option (Int32 × AH)) : Nat → Nat → Int32 → Int32 → AH → Option (Int32 × AH)
  | 0, _, _, _, _ => none
  | n + 1, r0, i3, i4, h =>
    (gI 15 h r0 76).bind fun x1 =>
    if x1 ≤ i4 then
      k191 r0 (i3 + 1) h
    else
      (gA 15 h r0 71).bind fun a2 =>
      (aI 0 h a2 i3).bind fun x3 =>
      (gA 15 h r0 80).bind fun a4 =>
      (aI 0 h a4 i4).bind fun x5 =>
      if x5 = i3 then
        f_X15_give_241 k191 (f_X15_give_209 k191 n) r0 i3 i4 1 x3 i3 a2 h
      else
        f_X15_give_241 k191 (f_X15_give_209 k191 n) r0 i3 i4 0 x3 i3 a2 h
set_option maxRecDepth 100000 in
set_option maxHeartbeats 4000000 in
theorem l_X15_give_209 {X : MX} {l : Launch} {G : GX} {h0 : AH} {rr : Int32} {hr : AH} (C : Cx X G RX15 cX15_give 5 (some .int) 361 7224 h0) (C2 : Cy X l "give" []) {k191 : Nat → Int32 → AH → Option (Int32 × AH)} (hk191 : ∀ (r0 : Nat) (i3 : Int32) (h : AH), k191 r0 i3 h = some (rr, hr) → V X G h0 (QI rr hr) 191 [(0, .ref r0), (3, .int i3)] [] h) : ∀ (n : Nat) (r0 : Nat) (i3 : Int32) (i4 : Int32) (h : AH), f_X15_give_209 k191 n r0 i3 i4 h = some (rr, hr) → V X G h0 (QI rr hr) 209 [(0, .ref r0), (3, .int i3), (4, .int i4)] [] h := by
  intro n
  induction n with
  | zero => intro r0 i3 i4 h hf; rw [f_X15_give_209] at hf; cases hf
  | succ n ih =>
    intro r0 i3 i4 h hf
    rw [f_X15_give_209] at hf
    refine C.seg (pe := 212) (lv' := [(0, .ref r0), (3, .int i3), (4, .int i4)]) (st' := [.ref r0, .int i4]) [(.iload 4, 2, 0), (.aload_n 0, 1, 0)] (by decide +kernel) rfl ?_
    obtain ⟨x1, gx1, hf⟩ := Option.bind_eq_some_iff.mp hf
    refine C.rdI fr_1862 gx1 (by decide +kernel) rfl ?_
    refine C.icmp_ge (off := 34) (tgt := 249) (pf := 218) (by decide +kernel) (by decide) rfl (fun c7 => ?_) (fun c7 => ?_)
    · replace hf := ifp c7 hf
      refine C.seg (pe := 252) (lv' := [(3, .int (i3 + 1)), (0, .ref r0), (4, .int i4)]) (st' := []) [(.iinc 3 1, 3, 1)] (by decide +kernel) rfl ?_
      refine C.goto (off := (-61)) (tgt := 191) (by decide +kernel) (by decide) ?_
      refine Vsub [1, 0] rfl ?_
      exact hk191 r0 (i3 + 1) h hf
    · replace hf := ifn c7 hf
      refine C.seg (pe := 219) (lv' := [(0, .ref r0), (3, .int i3), (4, .int i4)]) (st' := [.ref r0]) [(.aload_n 0, 1, 0)] (by decide +kernel) rfl ?_
      obtain ⟨a2, ga2, hf⟩ := Option.bind_eq_some_iff.mp hf
      refine C.rdA fr_1857 ga2 (by decide +kernel) rfl ?_
      refine C.seg (pe := 224) (lv' := [(0, .ref r0), (3, .int i3), (4, .int i4)]) (st' := [.int i3, .ref a2, .int i3, .ref a2]) [(.iload_n 3, 1, 0), (.dup2, 1, 0)] (by decide +kernel) rfl ?_
      obtain ⟨x3, gx3, hf⟩ := Option.bind_eq_some_iff.mp hf
      refine C.ald 0 rfl gx3 (by decide +kernel) rfl ?_
      refine C.seg (pe := 226) (lv' := [(0, .ref r0), (3, .int i3), (4, .int i4)]) (st' := [.ref r0, .int x3, .int i3, .ref a2]) [(.aload_n 0, 1, 0)] (by decide +kernel) rfl ?_
      obtain ⟨a4, ga4, hf⟩ := Option.bind_eq_some_iff.mp hf
      refine C.rdA fr_1866 ga4 (by decide +kernel) rfl ?_
      refine C.seg (pe := 231) (lv' := [(0, .ref r0), (3, .int i3), (4, .int i4)]) (st' := [.int i4, .ref a4, .int x3, .int i3, .ref a2]) [(.iload 4, 2, 0)] (by decide +kernel) rfl ?_
      obtain ⟨x5, gx5, hf⟩ := Option.bind_eq_some_iff.mp hf
      refine C.ald 0 rfl gx5 (by decide +kernel) rfl ?_
      refine C.seg (pe := 233) (lv' := [(0, .ref r0), (3, .int i3), (4, .int i4)]) (st' := [.int i3, .int x5, .int x3, .int i3, .ref a2]) [(.iload_n 3, 1, 0)] (by decide +kernel) rfl ?_
      refine C.icmp_ne (off := 7) (tgt := 240) (pf := 236) (by decide +kernel) (by decide) rfl (fun c6 => ?_) (fun c6 => ?_)
      · replace hf := ifn c6 hf
        refine C.seg (pe := 241) (lv' := [(0, .ref r0), (3, .int i3), (4, .int i4)]) (st' := [.int 0, .int x3, .int i3, .ref a2]) [(.iconst 0, 1, 0)] (by decide +kernel) rfl ?_
        exact l_X15_give_241 C C2 hk191 ih r0 i3 i4 0 x3 i3 a2 h hf
      · replace hf := ifp c6 hf
        refine C.seg (pe := 237) (lv' := [(0, .ref r0), (3, .int i3), (4, .int i4)]) (st' := [.int 1, .int x3, .int i3, .ref a2]) [(.iconst 1, 1, 1)] (by decide +kernel) rfl ?_
        refine C.goto (off := 4) (tgt := 241) (by decide +kernel) (by decide) ?_
        exact l_X15_give_241 C C2 hk191 ih r0 i3 i4 1 x3 i3 a2 h hf
def f_X15_give_191 : Nat → Nat → Int32 → AH → Option (Int32 × AH)
  | 0, _, _, _ => none
  | n + 1, r0, i3, h =>
    (gI 15 h r0 58).bind fun x1 =>
    if x1 ≤ i3 then
      (pI 15 h r0 73 (-1)).bind fun h2 =>
      (pI 15 h2 r0 74 0).bind fun h3 =>
      (f_X15_gives 8 r0 0 0 0 h3).bind fun h4 =>
      (pZ 15 h4 r0 75 1).bind fun h5 =>
      f_X15_give_279 FU r0 0 h5
    else
      (gA 15 h r0 71).bind fun a6 =>
      (sI 0 h a6 i3 0).bind fun h7 =>
      f_X15_give_209 (f_X15_give_191 n) FU r0 i3 0 h7
set_option maxRecDepth 100000 in
set_option maxHeartbeats 4000000 in
theorem l_X15_give_191 {X : MX} {l : Launch} {G : GX} {h0 : AH} {rr : Int32} {hr : AH} (C : Cx X G RX15 cX15_give 5 (some .int) 361 7224 h0) (C2 : Cy X l "give" []) : ∀ (n : Nat) (r0 : Nat) (i3 : Int32) (h : AH), f_X15_give_191 n r0 i3 h = some (rr, hr) → V X G h0 (QI rr hr) 191 [(0, .ref r0), (3, .int i3)] [] h := by
  intro n
  induction n with
  | zero => intro r0 i3 h hf; rw [f_X15_give_191] at hf; cases hf
  | succ n ih =>
    intro r0 i3 h hf
    rw [f_X15_give_191] at hf
    refine C.seg (pe := 193) (lv' := [(0, .ref r0), (3, .int i3)]) (st' := [.ref r0, .int i3]) [(.iload_n 3, 1, 0), (.aload_n 0, 1, 0)] (by decide +kernel) rfl ?_
    obtain ⟨x1, gx1, hf⟩ := Option.bind_eq_some_iff.mp hf
    refine C.rdI fr_1844 gx1 (by decide +kernel) rfl ?_
    refine C.icmp_ge (off := 59) (tgt := 255) (pf := 199) (by decide +kernel) (by decide) rfl (fun c8 => ?_) (fun c8 => ?_)
    · replace hf := ifp c8 hf
      refine C.seg (pe := 257) (lv' := [(0, .ref r0), (3, .int i3)]) (st' := [.int (-1), .ref r0]) [(.aload_n 0, 1, 0), (.iconst (-1), 1, (-1))] (by decide +kernel) rfl ?_
      obtain ⟨h2, gh2, hf⟩ := Option.bind_eq_some_iff.mp hf
      refine C.putI fl_1859 gh2 (by decide +kernel) rfl ?_
      refine C.seg (pe := 262) (lv' := [(0, .ref r0), (3, .int i3)]) (st' := [.int 0, .ref r0]) [(.aload_n 0, 1, 0), (.iconst 0, 1, 0)] (by decide +kernel) rfl ?_
      obtain ⟨h3, gh3, hf⟩ := Option.bind_eq_some_iff.mp hf
      refine C.putI fl_1860 gh3 (by decide +kernel) rfl ?_
      refine C.seg (pe := 269) (lv' := [(0, .ref r0), (3, .int i3)]) (st' := [.int 0, .int 0, .int 0, .ref r0]) [(.aload_n 0, 1, 0), (.iconst 0, 1, 0), (.iconst 0, 1, 0), (.iconst 0, 1, 0)] (by decide +kernel) rfl ?_
      obtain ⟨h4, gh4, hf⟩ := Option.bind_eq_some_iff.mp hf
      refine C.callVr C2 [.int 0, .int 0, .int 0] [] mv_2398 rfl (o_X15_gives gh4) (w_X15_gives 8 gh4) (by omega) (by omega) (Nat.le_of_ble_eq_true rfl) (by decide +kernel) rfl ?_
      refine C.seg (pe := 274) (lv' := [(0, .ref r0), (3, .int i3)]) (st' := [.int 1, .ref r0]) [(.aload_n 0, 1, 0), (.iconst 1, 1, 1)] (by decide +kernel) rfl ?_
      obtain ⟨h5, gh5, hf⟩ := Option.bind_eq_some_iff.mp hf
      refine C.putZ fl_1861 gh5 (by decide +kernel) rfl ?_
      refine C.seg (pe := 279) (lv' := [(3, .int 0), (0, .ref r0)]) (st' := []) [(.iconst 0, 1, 0), (.istore_n 3, 1, 0)] (by decide +kernel) rfl ?_
      refine Vsub [1, 0] rfl ?_
      exact l_X15_give_279 C C2 FU r0 0 h5 hf
    · replace hf := ifn c8 hf
      refine C.seg (pe := 200) (lv' := [(0, .ref r0), (3, .int i3)]) (st' := [.ref r0]) [(.aload_n 0, 1, 0)] (by decide +kernel) rfl ?_
      obtain ⟨a6, ga6, hf⟩ := Option.bind_eq_some_iff.mp hf
      refine C.rdA fr_1857 ga6 (by decide +kernel) rfl ?_
      refine C.seg (pe := 205) (lv' := [(0, .ref r0), (3, .int i3)]) (st' := [.int 0, .int i3, .ref a6]) [(.iload_n 3, 1, 0), (.iconst 0, 1, 0)] (by decide +kernel) rfl ?_
      obtain ⟨h7, gh7, hf⟩ := Option.bind_eq_some_iff.mp hf
      refine C.ast gh7 (by decide +kernel) rfl ?_
      refine C.seg (pe := 209) (lv' := [(4, .int 0), (0, .ref r0), (3, .int i3)]) (st' := []) [(.iconst 0, 1, 0), (.istore 4, 2, 0)] (by decide +kernel) rfl ?_
      refine Vsub [1, 2, 0] rfl ?_
      exact l_X15_give_209 C C2 ih FU r0 i3 0 h7 hf
def f_X15_give_170 : Nat → Nat → Int32 → AH → Option (Int32 × AH)
  | 0, _, _, _ => none
  | n + 1, r0, i3, h =>
    if 16 ≤ i3 then
      f_X15_give_191 FU r0 0 h
    else
      (gA 15 h r0 70).bind fun a1 =>
      (sI 0 h a1 i3 (-1)).bind fun h2 =>
      (f_X15_give_170 n) r0 (i3 + 1) h2
set_option maxRecDepth 100000 in
set_option maxHeartbeats 4000000 in
theorem l_X15_give_170 {X : MX} {l : Launch} {G : GX} {h0 : AH} {rr : Int32} {hr : AH} (C : Cx X G RX15 cX15_give 5 (some .int) 361 7224 h0) (C2 : Cy X l "give" []) : ∀ (n : Nat) (r0 : Nat) (i3 : Int32) (h : AH), f_X15_give_170 n r0 i3 h = some (rr, hr) → V X G h0 (QI rr hr) 170 [(0, .ref r0), (3, .int i3)] [] h := by
  intro n
  induction n with
  | zero => intro r0 i3 h hf; rw [f_X15_give_170] at hf; cases hf
  | succ n ih =>
    intro r0 i3 h hf
    rw [f_X15_give_170] at hf
    refine C.seg (pe := 173) (lv' := [(0, .ref r0), (3, .int i3)]) (st' := [.int 16, .int i3]) [(.iload_n 3, 1, 0), (.bipush 16, 2, 16)] (by decide +kernel) rfl ?_
    refine C.icmp_ge (off := 16) (tgt := 189) (pf := 176) (by decide +kernel) (by decide) rfl (fun c3 => ?_) (fun c3 => ?_)
    · replace hf := ifp c3 hf
      refine C.seg (pe := 191) (lv' := [(3, .int 0), (0, .ref r0)]) (st' := []) [(.iconst 0, 1, 0), (.istore_n 3, 1, 0)] (by decide +kernel) rfl ?_
      refine Vsub [1, 0] rfl ?_
      exact l_X15_give_191 C C2 FU r0 0 h hf
    · replace hf := ifn c3 hf
      refine C.seg (pe := 177) (lv' := [(0, .ref r0), (3, .int i3)]) (st' := [.ref r0]) [(.aload_n 0, 1, 0)] (by decide +kernel) rfl ?_
      obtain ⟨a1, ga1, hf⟩ := Option.bind_eq_some_iff.mp hf
      refine C.rdA fr_1856 ga1 (by decide +kernel) rfl ?_
      refine C.seg (pe := 182) (lv' := [(0, .ref r0), (3, .int i3)]) (st' := [.int (-1), .int i3, .ref a1]) [(.iload_n 3, 1, 0), (.iconst (-1), 1, (-1))] (by decide +kernel) rfl ?_
      obtain ⟨h2, gh2, hf⟩ := Option.bind_eq_some_iff.mp hf
      refine C.ast gh2 (by decide +kernel) rfl ?_
      refine C.seg (pe := 186) (lv' := [(3, .int (i3 + 1)), (0, .ref r0)]) (st' := []) [(.iinc 3 1, 3, 1)] (by decide +kernel) rfl ?_
      refine C.goto (off := (-16)) (tgt := 170) (by decide +kernel) (by decide) ?_
      refine Vsub [1, 0] rfl ?_
      exact ih r0 (i3 + 1) h2 hf
def f_X15_give_159 (k113 : Nat → Int32 → Int32 → AH → Option (Int32 × AH)) (r0 : Nat) (i1 : Int32) (i3 : Int32) (h : AH) : Option (Int32 × AH) :=
  k113 r0 i1 (i3 + 1) h
set_option maxRecDepth 100000 in
set_option maxHeartbeats 4000000 in
theorem l_X15_give_159 {X : MX} {l : Launch} {G : GX} {h0 : AH} {rr : Int32} {hr : AH} (C : Cx X G RX15 cX15_give 5 (some .int) 361 7224 h0) (C2 : Cy X l "give" []) {k113 : Nat → Int32 → Int32 → AH → Option (Int32 × AH)} (hk113 : ∀ (r0 : Nat) (i1 : Int32) (i3 : Int32) (h : AH), k113 r0 i1 i3 h = some (rr, hr) → V X G h0 (QI rr hr) 113 [(0, .ref r0), (1, .int i1), (3, .int i3)] [] h) (r0 : Nat) (i1 : Int32) (i3 : Int32) (h : AH) (hf : f_X15_give_159 k113 r0 i1 i3 h = some (rr, hr)) : V X G h0 (QI rr hr) 159 [(0, .ref r0), (1, .int i1), (3, .int i3)] [] h := by
  unfold f_X15_give_159 at hf
  refine C.seg (pe := 162) (lv' := [(3, .int (i3 + 1)), (0, .ref r0), (1, .int i1)]) (st' := []) [(.iinc 3 1, 3, 1)] (by decide +kernel) rfl ?_
  refine C.goto (off := (-49)) (tgt := 113) (by decide +kernel) (by decide) ?_
  refine Vsub [1, 2, 0] rfl ?_
  exact hk113 r0 i1 (i3 + 1) h hf
def f_X15_give_113 : Nat → Nat → Int32 → Int32 → AH → Option (Int32 × AH)
  | 0, _, _, _, _ => none
  | n + 1, r0, i1, i3, h =>
    (gI 15 h r0 4).bind fun x1 =>
    if x1 ≤ i3 then
      (gI 15 h r0 4).bind fun x2 =>
      f_X15_give_170 FU r0 x2 h
    else
      (gA 15 h r0 70).bind fun a3 =>
      (sI 0 h a3 i3 (-1)).bind fun h4 =>
      if (i1 >>> (i3 &&& 31)) &&& 1 = 0 then
        f_X15_give_159 (f_X15_give_113 n) r0 i1 i3 h4
      else
        (gA 15 h4 r0 67).bind fun a5 =>
        (gI 15 h4 r0 72).bind fun x6 =>
        (sI 0 h4 a5 x6 i3).bind fun h7 =>
        (gI 15 h7 r0 72).bind fun x8 =>
        (pI 15 h7 r0 72 (x8 + 1)).bind fun h9 =>
        f_X15_give_159 (f_X15_give_113 n) r0 i1 i3 h9
set_option maxRecDepth 100000 in
set_option maxHeartbeats 4000000 in
theorem l_X15_give_113 {X : MX} {l : Launch} {G : GX} {h0 : AH} {rr : Int32} {hr : AH} (C : Cx X G RX15 cX15_give 5 (some .int) 361 7224 h0) (C2 : Cy X l "give" []) : ∀ (n : Nat) (r0 : Nat) (i1 : Int32) (i3 : Int32) (h : AH), f_X15_give_113 n r0 i1 i3 h = some (rr, hr) → V X G h0 (QI rr hr) 113 [(0, .ref r0), (1, .int i1), (3, .int i3)] [] h := by
  intro n
  induction n with
  | zero => intro r0 i1 i3 h hf; rw [f_X15_give_113] at hf; cases hf
  | succ n ih =>
    intro r0 i1 i3 h hf
    rw [f_X15_give_113] at hf
    refine C.seg (pe := 115) (lv' := [(0, .ref r0), (1, .int i1), (3, .int i3)]) (st' := [.ref r0, .int i3]) [(.iload_n 3, 1, 0), (.aload_n 0, 1, 0)] (by decide +kernel) rfl ?_
    obtain ⟨x1, gx1, hf⟩ := Option.bind_eq_some_iff.mp hf
    refine C.rdI fr_1790 gx1 (by decide +kernel) rfl ?_
    refine C.icmp_ge (off := 47) (tgt := 165) (pf := 121) (by decide +kernel) (by decide) rfl (fun c11 => ?_) (fun c11 => ?_)
    · replace hf := ifp c11 hf
      refine C.seg (pe := 166) (lv' := [(0, .ref r0), (1, .int i1), (3, .int i3)]) (st' := [.ref r0]) [(.aload_n 0, 1, 0)] (by decide +kernel) rfl ?_
      obtain ⟨x2, gx2, hf⟩ := Option.bind_eq_some_iff.mp hf
      refine C.rdI fr_1790 gx2 (by decide +kernel) rfl ?_
      refine C.seg (pe := 170) (lv' := [(3, .int x2), (0, .ref r0), (1, .int i1)]) (st' := []) [(.istore_n 3, 1, 0)] (by decide +kernel) rfl ?_
      refine Vsub [1, 0] rfl ?_
      exact l_X15_give_170 C C2 FU r0 x2 h hf
    · replace hf := ifn c11 hf
      refine C.seg (pe := 122) (lv' := [(0, .ref r0), (1, .int i1), (3, .int i3)]) (st' := [.ref r0]) [(.aload_n 0, 1, 0)] (by decide +kernel) rfl ?_
      obtain ⟨a3, ga3, hf⟩ := Option.bind_eq_some_iff.mp hf
      refine C.rdA fr_1856 ga3 (by decide +kernel) rfl ?_
      refine C.seg (pe := 127) (lv' := [(0, .ref r0), (1, .int i1), (3, .int i3)]) (st' := [.int (-1), .int i3, .ref a3]) [(.iload_n 3, 1, 0), (.iconst (-1), 1, (-1))] (by decide +kernel) rfl ?_
      obtain ⟨h4, gh4, hf⟩ := Option.bind_eq_some_iff.mp hf
      refine C.ast gh4 (by decide +kernel) rfl ?_
      refine C.seg (pe := 133) (lv' := [(0, .ref r0), (1, .int i1), (3, .int i3)]) (st' := [.int ((i1 >>> (i3 &&& 31)) &&& 1)]) [(.iload_n 1, 1, 0), (.iload_n 3, 1, 0), (.ishr, 1, 0), (.iconst 1, 1, 1), (.iand, 1, 0)] (by decide +kernel) rfl ?_
      refine C.if_ne (off := 6) (tgt := 139) (pf := 136) (by decide +kernel) (by decide) rfl (fun c10 => ?_) (fun c10 => ?_)
      · replace hf := ifn c10 hf
        refine C.seg (pe := 140) (lv' := [(0, .ref r0), (1, .int i1), (3, .int i3)]) (st' := [.ref r0]) [(.aload_n 0, 1, 0)] (by decide +kernel) rfl ?_
        obtain ⟨a5, ga5, hf⟩ := Option.bind_eq_some_iff.mp hf
        refine C.rdA fr_1853 ga5 (by decide +kernel) rfl ?_
        refine C.seg (pe := 144) (lv' := [(0, .ref r0), (1, .int i1), (3, .int i3)]) (st' := [.ref r0, .ref a5]) [(.aload_n 0, 1, 0)] (by decide +kernel) rfl ?_
        obtain ⟨x6, gx6, hf⟩ := Option.bind_eq_some_iff.mp hf
        refine C.rdI fr_1858 gx6 (by decide +kernel) rfl ?_
        refine C.seg (pe := 148) (lv' := [(0, .ref r0), (1, .int i1), (3, .int i3)]) (st' := [.int i3, .int x6, .ref a5]) [(.iload_n 3, 1, 0)] (by decide +kernel) rfl ?_
        obtain ⟨h7, gh7, hf⟩ := Option.bind_eq_some_iff.mp hf
        refine C.ast gh7 (by decide +kernel) rfl ?_
        refine C.seg (pe := 151) (lv' := [(0, .ref r0), (1, .int i1), (3, .int i3)]) (st' := [.ref r0, .ref r0]) [(.aload_n 0, 1, 0), (.dup, 1, 0)] (by decide +kernel) rfl ?_
        obtain ⟨x8, gx8, hf⟩ := Option.bind_eq_some_iff.mp hf
        refine C.rdI fr_1858 gx8 (by decide +kernel) rfl ?_
        refine C.seg (pe := 156) (lv' := [(0, .ref r0), (1, .int i1), (3, .int i3)]) (st' := [.int (x8 + 1), .ref r0]) [(.iconst 1, 1, 1), (.iadd, 1, 0)] (by decide +kernel) rfl ?_
        obtain ⟨h9, gh9, hf⟩ := Option.bind_eq_some_iff.mp hf
        refine C.putI fl_1858 gh9 (by decide +kernel) rfl ?_
        exact l_X15_give_159 C C2 ih r0 i1 i3 h9 hf
      · replace hf := ifp c10 hf
        refine C.goto (off := 23) (tgt := 159) (by decide +kernel) (by decide) ?_
        exact l_X15_give_159 C C2 ih r0 i1 i3 h4 hf
def f_X15_give_73 (k29 : Nat → Int32 → Int32 → Int32 → AH → Option (Int32 × AH)) (r0 : Nat) (i1 : Int32) (i3 : Int32) (si0 : Int32) (h : AH) : Option (Int32 × AH) :=
  k29 r0 i1 si0 (i3 + 1) h
set_option maxRecDepth 100000 in
set_option maxHeartbeats 4000000 in
theorem l_X15_give_73 {X : MX} {l : Launch} {G : GX} {h0 : AH} {rr : Int32} {hr : AH} (C : Cx X G RX15 cX15_give 5 (some .int) 361 7224 h0) (C2 : Cy X l "give" []) {k29 : Nat → Int32 → Int32 → Int32 → AH → Option (Int32 × AH)} (hk29 : ∀ (r0 : Nat) (i1 : Int32) (i2 : Int32) (i3 : Int32) (h : AH), k29 r0 i1 i2 i3 h = some (rr, hr) → V X G h0 (QI rr hr) 29 [(0, .ref r0), (1, .int i1), (2, .int i2), (3, .int i3)] [] h) (r0 : Nat) (i1 : Int32) (i3 : Int32) (si0 : Int32) (h : AH) (hf : f_X15_give_73 k29 r0 i1 i3 si0 h = some (rr, hr)) : V X G h0 (QI rr hr) 73 [(0, .ref r0), (1, .int i1), (3, .int i3)] [.int si0] h := by
  unfold f_X15_give_73 at hf
  refine C.seg (pe := 77) (lv' := [(3, .int (i3 + 1)), (2, .int si0), (0, .ref r0), (1, .int i1)]) (st' := []) [(.istore_n 2, 1, 0), (.iinc 3 1, 3, 1)] (by decide +kernel) rfl ?_
  refine C.goto (off := (-48)) (tgt := 29) (by decide +kernel) (by decide) ?_
  refine Vsub [2, 3, 1, 0] rfl ?_
  exact hk29 r0 i1 si0 (i3 + 1) h hf
def f_X15_give_72 (k29 : Nat → Int32 → Int32 → Int32 → AH → Option (Int32 × AH)) (r0 : Nat) (i1 : Int32) (i3 : Int32) (h : AH) : Option (Int32 × AH) :=
  f_X15_give_73 k29 r0 i1 i3 0 h
set_option maxRecDepth 100000 in
set_option maxHeartbeats 4000000 in
theorem l_X15_give_72 {X : MX} {l : Launch} {G : GX} {h0 : AH} {rr : Int32} {hr : AH} (C : Cx X G RX15 cX15_give 5 (some .int) 361 7224 h0) (C2 : Cy X l "give" []) {k29 : Nat → Int32 → Int32 → Int32 → AH → Option (Int32 × AH)} (hk29 : ∀ (r0 : Nat) (i1 : Int32) (i2 : Int32) (i3 : Int32) (h : AH), k29 r0 i1 i2 i3 h = some (rr, hr) → V X G h0 (QI rr hr) 29 [(0, .ref r0), (1, .int i1), (2, .int i2), (3, .int i3)] [] h) (r0 : Nat) (i1 : Int32) (i3 : Int32) (h : AH) (hf : f_X15_give_72 k29 r0 i1 i3 h = some (rr, hr)) : V X G h0 (QI rr hr) 72 [(0, .ref r0), (1, .int i1), (3, .int i3)] [] h := by
  unfold f_X15_give_72 at hf
  refine C.seg (pe := 73) (lv' := [(0, .ref r0), (1, .int i1), (3, .int i3)]) (st' := [.int 0]) [(.iconst 0, 1, 0)] (by decide +kernel) rfl ?_
  exact l_X15_give_73 C C2 hk29 r0 i1 i3 0 h hf
def f_X15_give_68 (k29 : Nat → Int32 → Int32 → Int32 → AH → Option (Int32 × AH)) (r0 : Nat) (i1 : Int32) (i3 : Int32) (h : AH) : Option (Int32 × AH) :=
  f_X15_give_73 k29 r0 i1 i3 1 h
set_option maxRecDepth 100000 in
set_option maxHeartbeats 4000000 in
theorem l_X15_give_68 {X : MX} {l : Launch} {G : GX} {h0 : AH} {rr : Int32} {hr : AH} (C : Cx X G RX15 cX15_give 5 (some .int) 361 7224 h0) (C2 : Cy X l "give" []) {k29 : Nat → Int32 → Int32 → Int32 → AH → Option (Int32 × AH)} (hk29 : ∀ (r0 : Nat) (i1 : Int32) (i2 : Int32) (i3 : Int32) (h : AH), k29 r0 i1 i2 i3 h = some (rr, hr) → V X G h0 (QI rr hr) 29 [(0, .ref r0), (1, .int i1), (2, .int i2), (3, .int i3)] [] h) (r0 : Nat) (i1 : Int32) (i3 : Int32) (h : AH) (hf : f_X15_give_68 k29 r0 i1 i3 h = some (rr, hr)) : V X G h0 (QI rr hr) 68 [(0, .ref r0), (1, .int i1), (3, .int i3)] [] h := by
  unfold f_X15_give_68 at hf
  refine C.seg (pe := 69) (lv' := [(0, .ref r0), (1, .int i1), (3, .int i3)]) (st' := [.int 1]) [(.iconst 1, 1, 1)] (by decide +kernel) rfl ?_
  refine C.goto (off := 4) (tgt := 73) (by decide +kernel) (by decide) ?_
  exact l_X15_give_73 C C2 hk29 r0 i1 i3 1 h hf
def f_X15_give_29 : Nat → Nat → Int32 → Int32 → Int32 → AH → Option (Int32 × AH)
  | 0, _, _, _, _, _ => none
  | n + 1, r0, i1, i2, i3, h =>
    (gI 15 h r0 4).bind fun x1 =>
    if x1 ≤ i3 then
      if i2 = 0 then
        b2 (f_X15_refused r0 5 h) fun x8 h9 =>
        some (x8, h9)
      else
        b2 (f_X15_bits i1 h) fun x2 h3 =>
        if x2 ≤ 6 then
          (pI 15 h3 r0 72 0).bind fun h4 =>
          f_X15_give_113 FU r0 i1 0 h4
        else
          b2 (f_X15_refused r0 6 h3) fun x5 h6 =>
          some (x5, h6)
    else
      if i2 = 0 then
        f_X15_give_72 (f_X15_give_29 n) r0 i1 i3 h
      else
        if (i1 >>> (i3 &&& 31)) &&& 1 = 0 then
          f_X15_give_68 (f_X15_give_29 n) r0 i1 i3 h
        else
          b2 (f_X15_hasLeave r0 i3 h) fun x11 h12 =>
          if x11 = 0 then
            f_X15_give_72 (f_X15_give_29 n) r0 i1 i3 h12
          else
            (gA 15 h12 r0 13).bind fun a13 =>
            (aI 0 h12 a13 i3).bind fun x14 =>
            if x14 = (-2) then
              f_X15_give_68 (f_X15_give_29 n) r0 i1 i3 h12
            else
              f_X15_give_72 (f_X15_give_29 n) r0 i1 i3 h12
set_option maxRecDepth 100000 in
set_option maxHeartbeats 4000000 in
theorem l_X15_give_29 {X : MX} {l : Launch} {G : GX} {h0 : AH} {rr : Int32} {hr : AH} (C : Cx X G RX15 cX15_give 5 (some .int) 361 7224 h0) (C2 : Cy X l "give" []) : ∀ (n : Nat) (r0 : Nat) (i1 : Int32) (i2 : Int32) (i3 : Int32) (h : AH), f_X15_give_29 n r0 i1 i2 i3 h = some (rr, hr) → V X G h0 (QI rr hr) 29 [(0, .ref r0), (1, .int i1), (2, .int i2), (3, .int i3)] [] h := by
  intro n
  induction n with
  | zero => intro r0 i1 i2 i3 h hf; rw [f_X15_give_29] at hf; cases hf
  | succ n ih =>
    intro r0 i1 i2 i3 h hf
    rw [f_X15_give_29] at hf
    refine C.seg (pe := 31) (lv' := [(0, .ref r0), (1, .int i1), (2, .int i2), (3, .int i3)]) (st' := [.ref r0, .int i3]) [(.iload_n 3, 1, 0), (.aload_n 0, 1, 0)] (by decide +kernel) rfl ?_
    obtain ⟨x1, gx1, hf⟩ := Option.bind_eq_some_iff.mp hf
    refine C.rdI fr_1790 gx1 (by decide +kernel) rfl ?_
    refine C.icmp_ge (off := 46) (tgt := 80) (pf := 37) (by decide +kernel) (by decide) rfl (fun c19 => ?_) (fun c19 => ?_)
    · replace hf := ifp c19 hf
      refine C.seg (pe := 81) (lv' := [(0, .ref r0), (1, .int i1), (2, .int i2), (3, .int i3)]) (st' := [.int i2]) [(.iload_n 2, 1, 0)] (by decide +kernel) rfl ?_
      refine C.if_ne (off := 9) (tgt := 90) (pf := 84) (by decide +kernel) (by decide) rfl (fun c10 => ?_) (fun c10 => ?_)
      · replace hf := ifn c10 hf
        refine C.seg (pe := 91) (lv' := [(0, .ref r0), (1, .int i1), (2, .int i2), (3, .int i3)]) (st' := [.int i1]) [(.iload_n 1, 1, 0)] (by decide +kernel) rfl ?_
        obtain ⟨x2, h3, gx2, hf⟩ := b2_some hf
        refine C.callSr C2 [.int i1] [] ms_2395 rfl (w_X15_bits gx2) (by omega) (by omega) (Nat.le_of_ble_eq_true rfl) (by decide +kernel) rfl ?_
        refine C.seg (pe := 96) (lv' := [(0, .ref r0), (1, .int i1), (2, .int i2), (3, .int i3)]) (st' := [.int 6, .int x2]) [(.bipush 6, 2, 6)] (by decide +kernel) rfl ?_
        refine C.icmp_le (off := 10) (tgt := 106) (pf := 99) (by decide +kernel) (by decide) rfl (fun c7 => ?_) (fun c7 => ?_)
        · replace hf := ifp c7 hf
          refine C.seg (pe := 108) (lv' := [(0, .ref r0), (1, .int i1), (2, .int i2), (3, .int i3)]) (st' := [.int 0, .ref r0]) [(.aload_n 0, 1, 0), (.iconst 0, 1, 0)] (by decide +kernel) rfl ?_
          obtain ⟨h4, gh4, hf⟩ := Option.bind_eq_some_iff.mp hf
          refine C.putI fl_1858 gh4 (by decide +kernel) rfl ?_
          refine C.seg (pe := 113) (lv' := [(3, .int 0), (0, .ref r0), (1, .int i1), (2, .int i2)]) (st' := []) [(.iconst 0, 1, 0), (.istore_n 3, 1, 0)] (by decide +kernel) rfl ?_
          refine Vsub [1, 2, 0] rfl ?_
          exact l_X15_give_113 C C2 FU r0 i1 0 h4 hf
        · replace hf := ifn c7 hf
          refine C.seg (pe := 102) (lv' := [(0, .ref r0), (1, .int i1), (2, .int i2), (3, .int i3)]) (st' := [.int 6, .ref r0]) [(.aload_n 0, 1, 0), (.bipush 6, 2, 6)] (by decide +kernel) rfl ?_
          obtain ⟨x5, h6, gx5, hf⟩ := b2_some hf
          refine C.callVr C2 [.int 6] [] mv_2112 rfl (o_X15_refused gx5) (w_X15_refused gx5) (by omega) (by omega) (Nat.le_of_ble_eq_true rfl) (by decide +kernel) rfl ?_
          cases hf
          exact C.retI rfl (by decide +kernel) ⟨rfl, rfl⟩
      · replace hf := ifp c10 hf
        refine C.seg (pe := 86) (lv' := [(0, .ref r0), (1, .int i1), (2, .int i2), (3, .int i3)]) (st' := [.int 5, .ref r0]) [(.aload_n 0, 1, 0), (.iconst 5, 1, 5)] (by decide +kernel) rfl ?_
        obtain ⟨x8, h9, gx8, hf⟩ := b2_some hf
        refine C.callVr C2 [.int 5] [] mv_2112 rfl (o_X15_refused gx8) (w_X15_refused gx8) (by omega) (by omega) (Nat.le_of_ble_eq_true rfl) (by decide +kernel) rfl ?_
        cases hf
        exact C.retI rfl (by decide +kernel) ⟨rfl, rfl⟩
    · replace hf := ifn c19 hf
      refine C.seg (pe := 38) (lv' := [(0, .ref r0), (1, .int i1), (2, .int i2), (3, .int i3)]) (st' := [.int i2]) [(.iload_n 2, 1, 0)] (by decide +kernel) rfl ?_
      refine C.if_eq (off := 34) (tgt := 72) (pf := 41) (by decide +kernel) (by decide) rfl (fun c18 => ?_) (fun c18 => ?_)
      · replace hf := ifp c18 hf
        refine Vsub [0, 1, 3] rfl ?_
        exact l_X15_give_72 C C2 ih r0 i1 i3 h hf
      · replace hf := ifn c18 hf
        refine C.seg (pe := 46) (lv' := [(0, .ref r0), (1, .int i1), (2, .int i2), (3, .int i3)]) (st' := [.int ((i1 >>> (i3 &&& 31)) &&& 1)]) [(.iload_n 1, 1, 0), (.iload_n 3, 1, 0), (.ishr, 1, 0), (.iconst 1, 1, 1), (.iand, 1, 0)] (by decide +kernel) rfl ?_
        refine C.if_eq (off := 22) (tgt := 68) (pf := 49) (by decide +kernel) (by decide) rfl (fun c17 => ?_) (fun c17 => ?_)
        · replace hf := ifp c17 hf
          refine Vsub [0, 1, 3] rfl ?_
          exact l_X15_give_68 C C2 ih r0 i1 i3 h hf
        · replace hf := ifn c17 hf
          refine C.seg (pe := 51) (lv' := [(0, .ref r0), (1, .int i1), (2, .int i2), (3, .int i3)]) (st' := [.int i3, .ref r0]) [(.aload_n 0, 1, 0), (.iload_n 3, 1, 0)] (by decide +kernel) rfl ?_
          obtain ⟨x11, h12, gx11, hf⟩ := b2_some hf
          refine C.callVr C2 [.int i3] [] mv_2128 rfl (o_X15_hasLeave gx11) (w_X15_hasLeave gx11) (by omega) (by omega) (Nat.le_of_ble_eq_true rfl) (by decide +kernel) rfl ?_
          refine C.if_eq (off := 18) (tgt := 72) (pf := 57) (by decide +kernel) (by decide) rfl (fun c16 => ?_) (fun c16 => ?_)
          · replace hf := ifp c16 hf
            refine Vsub [0, 1, 3] rfl ?_
            exact l_X15_give_72 C C2 ih r0 i1 i3 h12 hf
          · replace hf := ifn c16 hf
            refine C.seg (pe := 58) (lv' := [(0, .ref r0), (1, .int i1), (2, .int i2), (3, .int i3)]) (st' := [.ref r0]) [(.aload_n 0, 1, 0)] (by decide +kernel) rfl ?_
            obtain ⟨a13, ga13, hf⟩ := Option.bind_eq_some_iff.mp hf
            refine C.rdA fr_1799 ga13 (by decide +kernel) rfl ?_
            refine C.seg (pe := 62) (lv' := [(0, .ref r0), (1, .int i1), (2, .int i2), (3, .int i3)]) (st' := [.int i3, .ref a13]) [(.iload_n 3, 1, 0)] (by decide +kernel) rfl ?_
            obtain ⟨x14, gx14, hf⟩ := Option.bind_eq_some_iff.mp hf
            refine C.ald 0 rfl gx14 (by decide +kernel) rfl ?_
            refine C.seg (pe := 65) (lv' := [(0, .ref r0), (1, .int i1), (2, .int i2), (3, .int i3)]) (st' := [.int (-2), .int x14]) [(.bipush (-2), 2, (-2))] (by decide +kernel) rfl ?_
            refine C.icmp_ne (off := 7) (tgt := 72) (pf := 68) (by decide +kernel) (by decide) rfl (fun c15 => ?_) (fun c15 => ?_)
            · replace hf := ifn c15 hf
              refine Vsub [0, 1, 3] rfl ?_
              exact l_X15_give_72 C C2 ih r0 i1 i3 h12 hf
            · replace hf := ifp c15 hf
              refine Vsub [0, 1, 3] rfl ?_
              exact l_X15_give_68 C C2 ih r0 i1 i3 h12 hf
def f_X15_give_19 (r0 : Nat) (h : AH) : Option (Int32 × AH) :=
  b2 (f_X15_refused r0 1 h) fun x1 h2 =>
  some (x1, h2)
set_option maxRecDepth 100000 in
set_option maxHeartbeats 4000000 in
theorem l_X15_give_19 {X : MX} {l : Launch} {G : GX} {h0 : AH} {rr : Int32} {hr : AH} (C : Cx X G RX15 cX15_give 5 (some .int) 361 7224 h0) (C2 : Cy X l "give" []) (r0 : Nat) (h : AH) (hf : f_X15_give_19 r0 h = some (rr, hr)) : V X G h0 (QI rr hr) 19 [(0, .ref r0)] [] h := by
  unfold f_X15_give_19 at hf
  refine C.seg (pe := 21) (lv' := [(0, .ref r0)]) (st' := [.int 1, .ref r0]) [(.aload_n 0, 1, 0), (.iconst 1, 1, 1)] (by decide +kernel) rfl ?_
  obtain ⟨x1, h2, gx1, hf⟩ := b2_some hf
  refine C.callVr C2 [.int 1] [] mv_2112 rfl (o_X15_refused gx1) (w_X15_refused gx1) (by omega) (by omega) (Nat.le_of_ble_eq_true rfl) (by decide +kernel) rfl ?_
  cases hf
  exact C.retI rfl (by decide +kernel) ⟨rfl, rfl⟩
def f_X15_give (a0 : Nat) (p1 : Int32) (h : AH) : Option (Int32 × AH) :=
  if isO 15 h a0 = true then
    (pI 15 h a0 0 0).bind fun h1 =>
    if p1 ≤ 0 then
      f_X15_give_19 a0 h1
    else
      (gI 15 h1 a0 4).bind fun x2 =>
      if p1 < 1 <<< (x2 &&& 31) then
        f_X15_give_29 FU a0 p1 1 0 h1
      else
        f_X15_give_19 a0 h1
  else none
set_option maxRecDepth 100000 in
set_option maxHeartbeats 4000000 in
theorem w_X15_give {l : Launch} {G : GX} {a0 : Nat} {p1 : Int32} {h : AH} {rr : Int32} {hr : AH} (hf : f_X15_give a0 p1 h = some (rr, hr)) : Ct l G yX15_give 361 7224 [.ref a0, .int p1] h (QI rr hr) := by
  unfold f_X15_give at hf
  obtain ⟨ho, hf⟩ := ifO hf
  refine Ct_of (own := RX15) (cc := cX15_give) (nL := 5) (ret := (some .int)) rfl rfl k_2394 (Nat.le_of_ble_eq_true rfl) (fun X C2 C => ?_)
  show V X G h (QI rr hr) 0 [(0, .ref a0), (1, .int p1)] [] h
  refine C.seg (pe := 2) (lv' := [(0, .ref a0), (1, .int p1)]) (st' := [.int 0, .ref a0]) [(.aload_n 0, 1, 0), (.iconst 0, 1, 0)] (by decide +kernel) rfl ?_
  obtain ⟨h1, gh1, hf⟩ := Option.bind_eq_some_iff.mp hf
  refine C.putI fl_1786 gh1 (by decide +kernel) rfl ?_
  refine C.seg (pe := 6) (lv' := [(0, .ref a0), (1, .int p1)]) (st' := [.int p1]) [(.iload_n 1, 1, 0)] (by decide +kernel) rfl ?_
  refine C.if_le (off := 13) (tgt := 19) (pf := 9) (by decide +kernel) (by decide) rfl (fun c4 => ?_) (fun c4 => ?_)
  · replace hf := ifp c4 hf
    refine Vsub [0] rfl ?_
    exact l_X15_give_19 C C2 a0 h1 hf
  · replace hf := ifn c4 hf
    refine C.seg (pe := 12) (lv' := [(0, .ref a0), (1, .int p1)]) (st' := [.ref a0, .int 1, .int p1]) [(.iload_n 1, 1, 0), (.iconst 1, 1, 1), (.aload_n 0, 1, 0)] (by decide +kernel) rfl ?_
    obtain ⟨x2, gx2, hf⟩ := Option.bind_eq_some_iff.mp hf
    refine C.rdI fr_1790 gx2 (by decide +kernel) rfl ?_
    refine C.seg (pe := 16) (lv' := [(0, .ref a0), (1, .int p1)]) (st' := [.int (1 <<< (x2 &&& 31)), .int p1]) [(.ishl, 1, 0)] (by decide +kernel) rfl ?_
    refine C.icmp_lt (off := 9) (tgt := 25) (pf := 19) (by decide +kernel) (by decide) rfl (fun c3 => ?_) (fun c3 => ?_)
    · replace hf := ifp c3 hf
      refine C.seg (pe := 29) (lv' := [(3, .int 0), (2, .int 1), (0, .ref a0), (1, .int p1)]) (st' := []) [(.iconst 1, 1, 1), (.istore_n 2, 1, 0), (.iconst 0, 1, 0), (.istore_n 3, 1, 0)] (by decide +kernel) rfl ?_
      refine Vsub [2, 3, 1, 0] rfl ?_
      exact l_X15_give_29 C C2 FU a0 p1 1 0 h1 hf
    · replace hf := ifn c3 hf
      refine Vsub [0] rfl ?_
      exact l_X15_give_19 C C2 a0 h1 hf
theorem o_X15_give {a0 : Nat} {p1 : Int32} {h : AH} {rr : Int32} {hr : AH} (hf : f_X15_give a0 p1 h = some (rr, hr)) : isO 15 h a0 = true := by
  unfold f_X15_give at hf
  exact (ifO hf).1
/-! WallHouseModel.given(I)I -/
def f_X15_given_30 (si0 : Int32) (h : AH) : Option (Int32 × AH) :=
  some (si0, h)
set_option maxRecDepth 100000 in
set_option maxHeartbeats 4000000 in
theorem l_X15_given_30 {X : MX} {l : Launch} {G : GX} {h0 : AH} {rr : Int32} {hr : AH} (C : Cx X G RX15 cX15_given 2 (some .int) 1 21 h0) (C2 : Cy X l "given" []) (si0 : Int32) (h : AH) (hf : f_X15_given_30 si0 h = some (rr, hr)) : V X G h0 (QI rr hr) 30 [] [.int si0] h := by
  unfold f_X15_given_30 at hf
  cases hf
  exact C.retI rfl (by decide +kernel) ⟨rfl, rfl⟩
def f_X15_given_29 (h : AH) : Option (Int32 × AH) :=
  f_X15_given_30 (-1) h
set_option maxRecDepth 100000 in
set_option maxHeartbeats 4000000 in
theorem l_X15_given_29 {X : MX} {l : Launch} {G : GX} {h0 : AH} {rr : Int32} {hr : AH} (C : Cx X G RX15 cX15_given 2 (some .int) 1 21 h0) (C2 : Cy X l "given" []) (h : AH) (hf : f_X15_given_29 h = some (rr, hr)) : V X G h0 (QI rr hr) 29 [] [] h := by
  unfold f_X15_given_29 at hf
  refine C.seg (pe := 30) (lv' := []) (st' := [.int (-1)]) [(.iconst (-1), 1, (-1))] (by decide +kernel) rfl ?_
  exact l_X15_given_30 C C2 (-1) h hf
def f_X15_given (a0 : Nat) (p1 : Int32) (h : AH) : Option (Int32 × AH) :=
  if isO 15 h a0 = true then
    (pI 15 h a0 0 0).bind fun h1 =>
    (gI 15 h1 a0 75).bind fun x2 =>
    if x2 = 0 then
      f_X15_given_29 h1
    else
      b2 (f_X15_isWall a0 p1 h1) fun x3 h4 =>
      if x3 = 0 then
        f_X15_given_29 h4
      else
        (gA 15 h4 a0 70).bind fun a5 =>
        (aI 0 h4 a5 p1).bind fun x6 =>
        f_X15_given_30 x6 h4
  else none
set_option maxRecDepth 100000 in
set_option maxHeartbeats 4000000 in
theorem w_X15_given {l : Launch} {G : GX} {a0 : Nat} {p1 : Int32} {h : AH} {rr : Int32} {hr : AH} (hf : f_X15_given a0 p1 h = some (rr, hr)) : Ct l G yX15_given 1 21 [.ref a0, .int p1] h (QI rr hr) := by
  unfold f_X15_given at hf
  obtain ⟨ho, hf⟩ := ifO hf
  refine Ct_of (own := RX15) (cc := cX15_given) (nL := 2) (ret := (some .int)) rfl rfl k_2413 (Nat.le_of_ble_eq_true rfl) (fun X C2 C => ?_)
  show V X G h (QI rr hr) 0 [(0, .ref a0), (1, .int p1)] [] h
  refine C.seg (pe := 2) (lv' := [(0, .ref a0), (1, .int p1)]) (st' := [.int 0, .ref a0]) [(.aload_n 0, 1, 0), (.iconst 0, 1, 0)] (by decide +kernel) rfl ?_
  obtain ⟨h1, gh1, hf⟩ := Option.bind_eq_some_iff.mp hf
  refine C.putI fl_1786 gh1 (by decide +kernel) rfl ?_
  refine C.seg (pe := 6) (lv' := [(0, .ref a0), (1, .int p1)]) (st' := [.ref a0]) [(.aload_n 0, 1, 0)] (by decide +kernel) rfl ?_
  obtain ⟨x2, gx2, hf⟩ := Option.bind_eq_some_iff.mp hf
  refine C.rdI fr_1861 gx2 (by decide +kernel) rfl ?_
  refine C.if_eq (off := 20) (tgt := 29) (pf := 12) (by decide +kernel) (by decide) rfl (fun c8 => ?_) (fun c8 => ?_)
  · replace hf := ifp c8 hf
    refine Vsub [] rfl ?_
    exact l_X15_given_29 C C2 h1 hf
  · replace hf := ifn c8 hf
    refine C.seg (pe := 14) (lv' := [(0, .ref a0), (1, .int p1)]) (st' := [.int p1, .ref a0]) [(.aload_n 0, 1, 0), (.iload_n 1, 1, 0)] (by decide +kernel) rfl ?_
    obtain ⟨x3, h4, gx3, hf⟩ := b2_some hf
    refine C.callVr C2 [.int p1] [] mv_2124 rfl (o_X15_isWall gx3) (w_X15_isWall gx3) (by omega) (by omega) (Nat.le_of_ble_eq_true rfl) (by decide +kernel) rfl ?_
    refine C.if_eq (off := 12) (tgt := 29) (pf := 20) (by decide +kernel) (by decide) rfl (fun c7 => ?_) (fun c7 => ?_)
    · replace hf := ifp c7 hf
      refine Vsub [] rfl ?_
      exact l_X15_given_29 C C2 h4 hf
    · replace hf := ifn c7 hf
      refine C.seg (pe := 21) (lv' := [(0, .ref a0), (1, .int p1)]) (st' := [.ref a0]) [(.aload_n 0, 1, 0)] (by decide +kernel) rfl ?_
      obtain ⟨a5, ga5, hf⟩ := Option.bind_eq_some_iff.mp hf
      refine C.rdA fr_1856 ga5 (by decide +kernel) rfl ?_
      refine C.seg (pe := 25) (lv' := [(0, .ref a0), (1, .int p1)]) (st' := [.int p1, .ref a5]) [(.iload_n 1, 1, 0)] (by decide +kernel) rfl ?_
      obtain ⟨x6, gx6, hf⟩ := Option.bind_eq_some_iff.mp hf
      refine C.ald 0 rfl gx6 (by decide +kernel) rfl ?_
      refine C.goto (off := 4) (tgt := 30) (by decide +kernel) (by decide) ?_
      refine Vsub [] rfl ?_
      exact l_X15_given_30 C C2 x6 h4 hf
theorem o_X15_given {a0 : Nat} {p1 : Int32} {h : AH} {rr : Int32} {hr : AH} (hf : f_X15_given a0 p1 h = some (rr, hr)) : isO 15 h a0 = true := by
  unfold f_X15_given at hf
  exact (ifO hf).1
/-! WallHouseModel.work(III)I -/
def f_X15_work_200 : Nat → Nat → Int32 → Int32 → Int32 → AH → Option (Int32 × AH)
  | 0, _, _, _, _, _ => none
  | n + 1, r0, i1, i5, i6, h =>
    if 192 ≤ i6 then
      (gA 15 h r0 13).bind fun a1 =>
      (sI 0 h a1 i1 i5).bind fun h2 =>
      (gA 15 h2 r0 15).bind fun a3 =>
      (sI 0 h2 a3 i1 i5).bind fun h4 =>
      b2 (f_X15_done r0 i5 h4) fun x5 h6 =>
      some (x5, h6)
    else
      (gA 15 h r0 88).bind fun a7 =>
      (gA 15 h r0 43).bind fun a8 =>
      (aI 0 h a8 i6).bind fun x9 =>
      (sI 0 h a7 ((192 * i5) + i6) x9).bind fun h10 =>
      (f_X15_work_200 n) r0 i1 i5 (i6 + 1) h10
set_option maxRecDepth 100000 in
set_option maxHeartbeats 4000000 in
theorem l_X15_work_200 {X : MX} {l : Launch} {G : GX} {h0 : AH} {rr : Int32} {hr : AH} (C : Cx X G RX15 cX15_work 7 (some .int) 362 7251 h0) (C2 : Cy X l "work" []) : ∀ (n : Nat) (r0 : Nat) (i1 : Int32) (i5 : Int32) (i6 : Int32) (h : AH), f_X15_work_200 n r0 i1 i5 i6 h = some (rr, hr) → V X G h0 (QI rr hr) 200 [(0, .ref r0), (1, .int i1), (5, .int i5), (6, .int i6)] [] h := by
  intro n
  induction n with
  | zero => intro r0 i1 i5 i6 h hf; rw [f_X15_work_200] at hf; cases hf
  | succ n ih =>
    intro r0 i1 i5 i6 h hf
    rw [f_X15_work_200] at hf
    refine C.seg (pe := 205) (lv' := [(0, .ref r0), (1, .int i1), (5, .int i5), (6, .int i6)]) (st' := [.int 192, .int i6]) [(.iload 6, 2, 0), (.sipush 192, 3, 192)] (by decide +kernel) rfl ?_
    refine C.icmp_ge (off := 30) (tgt := 235) (pf := 208) (by decide +kernel) (by decide) rfl (fun c11 => ?_) (fun c11 => ?_)
    · replace hf := ifp c11 hf
      refine C.seg (pe := 236) (lv' := [(0, .ref r0), (1, .int i1), (5, .int i5), (6, .int i6)]) (st' := [.ref r0]) [(.aload_n 0, 1, 0)] (by decide +kernel) rfl ?_
      obtain ⟨a1, ga1, hf⟩ := Option.bind_eq_some_iff.mp hf
      refine C.rdA fr_1799 ga1 (by decide +kernel) rfl ?_
      refine C.seg (pe := 242) (lv' := [(0, .ref r0), (1, .int i1), (5, .int i5), (6, .int i6)]) (st' := [.int i5, .int i1, .ref a1]) [(.iload_n 1, 1, 0), (.iload 5, 2, 0)] (by decide +kernel) rfl ?_
      obtain ⟨h2, gh2, hf⟩ := Option.bind_eq_some_iff.mp hf
      refine C.ast gh2 (by decide +kernel) rfl ?_
      refine C.seg (pe := 244) (lv' := [(0, .ref r0), (1, .int i1), (5, .int i5), (6, .int i6)]) (st' := [.ref r0]) [(.aload_n 0, 1, 0)] (by decide +kernel) rfl ?_
      obtain ⟨a3, ga3, hf⟩ := Option.bind_eq_some_iff.mp hf
      refine C.rdA fr_1801 ga3 (by decide +kernel) rfl ?_
      refine C.seg (pe := 250) (lv' := [(0, .ref r0), (1, .int i1), (5, .int i5), (6, .int i6)]) (st' := [.int i5, .int i1, .ref a3]) [(.iload_n 1, 1, 0), (.iload 5, 2, 0)] (by decide +kernel) rfl ?_
      obtain ⟨h4, gh4, hf⟩ := Option.bind_eq_some_iff.mp hf
      refine C.ast gh4 (by decide +kernel) rfl ?_
      refine C.seg (pe := 254) (lv' := [(0, .ref r0), (1, .int i1), (5, .int i5), (6, .int i6)]) (st' := [.int i5, .ref r0]) [(.aload_n 0, 1, 0), (.iload 5, 2, 0)] (by decide +kernel) rfl ?_
      obtain ⟨x5, h6, gx5, hf⟩ := b2_some hf
      refine C.callVr C2 [.int i5] [] mv_2116 rfl (o_X15_done gx5) (w_X15_done gx5) (by omega) (by omega) (Nat.le_of_ble_eq_true rfl) (by decide +kernel) rfl ?_
      cases hf
      exact C.retI rfl (by decide +kernel) ⟨rfl, rfl⟩
    · replace hf := ifn c11 hf
      refine C.seg (pe := 209) (lv' := [(0, .ref r0), (1, .int i1), (5, .int i5), (6, .int i6)]) (st' := [.ref r0]) [(.aload_n 0, 1, 0)] (by decide +kernel) rfl ?_
      obtain ⟨a7, ga7, hf⟩ := Option.bind_eq_some_iff.mp hf
      refine C.rdA fr_1874 ga7 (by decide +kernel) rfl ?_
      refine C.seg (pe := 222) (lv' := [(0, .ref r0), (1, .int i1), (5, .int i5), (6, .int i6)]) (st' := [.ref r0, .int ((192 * i5) + i6), .ref a7]) [(.sipush 192, 3, 192), (.iload 5, 2, 0), (.imul, 1, 0), (.iload 6, 2, 0), (.iadd, 1, 0), (.aload_n 0, 1, 0)] (by decide +kernel) rfl ?_
      obtain ⟨a8, ga8, hf⟩ := Option.bind_eq_some_iff.mp hf
      refine C.rdA fr_1829 ga8 (by decide +kernel) rfl ?_
      refine C.seg (pe := 227) (lv' := [(0, .ref r0), (1, .int i1), (5, .int i5), (6, .int i6)]) (st' := [.int i6, .ref a8, .int ((192 * i5) + i6), .ref a7]) [(.iload 6, 2, 0)] (by decide +kernel) rfl ?_
      obtain ⟨x9, gx9, hf⟩ := Option.bind_eq_some_iff.mp hf
      refine C.ald 0 rfl gx9 (by decide +kernel) rfl ?_
      obtain ⟨h10, gh10, hf⟩ := Option.bind_eq_some_iff.mp hf
      refine C.ast gh10 (by decide +kernel) rfl ?_
      refine C.seg (pe := 232) (lv' := [(6, .int (i6 + 1)), (0, .ref r0), (1, .int i1), (5, .int i5)]) (st' := []) [(.iinc 6 1, 3, 1)] (by decide +kernel) rfl ?_
      refine C.goto (off := (-32)) (tgt := 200) (by decide +kernel) (by decide) ?_
      refine Vsub [1, 2, 3, 0] rfl ?_
      exact ih r0 i1 i5 (i6 + 1) h10 hf
def f_X15_work_54 (r0 : Nat) (h : AH) : Option (Int32 × AH) :=
  b2 (f_X15_refused r0 5 h) fun x1 h2 =>
  some (x1, h2)
set_option maxRecDepth 100000 in
set_option maxHeartbeats 4000000 in
theorem l_X15_work_54 {X : MX} {l : Launch} {G : GX} {h0 : AH} {rr : Int32} {hr : AH} (C : Cx X G RX15 cX15_work 7 (some .int) 362 7251 h0) (C2 : Cy X l "work" []) (r0 : Nat) (h : AH) (hf : f_X15_work_54 r0 h = some (rr, hr)) : V X G h0 (QI rr hr) 54 [(0, .ref r0)] [] h := by
  unfold f_X15_work_54 at hf
  refine C.seg (pe := 56) (lv' := [(0, .ref r0)]) (st' := [.int 5, .ref r0]) [(.aload_n 0, 1, 0), (.iconst 5, 1, 5)] (by decide +kernel) rfl ?_
  obtain ⟨x1, h2, gx1, hf⟩ := b2_some hf
  refine C.callVr C2 [.int 5] [] mv_2112 rfl (o_X15_refused gx1) (w_X15_refused gx1) (by omega) (by omega) (Nat.le_of_ble_eq_true rfl) (by decide +kernel) rfl ?_
  cases hf
  exact C.retI rfl (by decide +kernel) ⟨rfl, rfl⟩
def f_X15_work_29 (r0 : Nat) (h : AH) : Option (Int32 × AH) :=
  b2 (f_X15_refused r0 1 h) fun x1 h2 =>
  some (x1, h2)
set_option maxRecDepth 100000 in
set_option maxHeartbeats 4000000 in
theorem l_X15_work_29 {X : MX} {l : Launch} {G : GX} {h0 : AH} {rr : Int32} {hr : AH} (C : Cx X G RX15 cX15_work 7 (some .int) 362 7251 h0) (C2 : Cy X l "work" []) (r0 : Nat) (h : AH) (hf : f_X15_work_29 r0 h = some (rr, hr)) : V X G h0 (QI rr hr) 29 [(0, .ref r0)] [] h := by
  unfold f_X15_work_29 at hf
  refine C.seg (pe := 31) (lv' := [(0, .ref r0)]) (st' := [.int 1, .ref r0]) [(.aload_n 0, 1, 0), (.iconst 1, 1, 1)] (by decide +kernel) rfl ?_
  obtain ⟨x1, h2, gx1, hf⟩ := b2_some hf
  refine C.callVr C2 [.int 1] [] mv_2112 rfl (o_X15_refused gx1) (w_X15_refused gx1) (by omega) (by omega) (Nat.le_of_ble_eq_true rfl) (by decide +kernel) rfl ?_
  cases hf
  exact C.retI rfl (by decide +kernel) ⟨rfl, rfl⟩
def f_X15_work (a0 : Nat) (p1 : Int32) (p2 : Int32) (p3 : Int32) (h : AH) : Option (Int32 × AH) :=
  if isO 15 h a0 = true then
    (pI 15 h a0 0 0).bind fun h1 =>
    b2 (f_X15_isWall a0 p1 h1) fun x2 h3 =>
    if x2 = 0 then
      f_X15_work_29 a0 h3
    else
      b2 (f_X15_isPainter a0 p2 h3) fun x4 h5 =>
      if x4 = 0 then
        f_X15_work_29 a0 h5
      else
        b2 (f_X15_isDrawing a0 p3 h5) fun x6 h7 =>
        if x6 = 0 then
          f_X15_work_29 a0 h7
        else
          b2 (f_X15_hasLeave a0 p1 h7) fun x8 h9 =>
          if x8 = 0 then
            f_X15_work_54 a0 h9
          else
            (gA 15 h9 a0 13).bind fun a10 =>
            (aI 0 h9 a10 p1).bind fun x11 =>
            if x11 = (-2) then
              b2 (f_X15_paintsOn a0 p3 p1 h9) fun x12 h13 =>
              b2 (f_X15_barsShown a0 h13) fun x14 h15 =>
              if x14 ≤ 0 then
                (gI 15 h15 a0 76).bind fun x16 =>
                if x16 = 40 then
                  b2 (f_X15_refused a0 3 h15) fun x38 h39 =>
                  some (x38, h39)
                else
                  (gI 15 h15 a0 76).bind fun x17 =>
                  (gI 15 h15 a0 76).bind fun x18 =>
                  (pI 15 h15 a0 76 (x18 + 1)).bind fun h19 =>
                  (gA 15 h19 a0 79).bind fun a20 =>
                  (sI 0 h19 a20 x17 p1).bind fun h21 =>
                  (gA 15 h21 a0 80).bind fun a22 =>
                  (sI 0 h21 a22 x17 p2).bind fun h23 =>
                  (gA 15 h23 a0 81).bind fun a24 =>
                  (sI 0 h23 a24 x17 p3).bind fun h25 =>
                  (gA 15 h25 a0 82).bind fun a26 =>
                  (sI 0 h25 a26 x17 0).bind fun h27 =>
                  (gA 15 h27 a0 83).bind fun a28 =>
                  (sI 0 h27 a28 x17 1).bind fun h29 =>
                  (gA 15 h29 a0 84).bind fun a30 =>
                  (sI 0 h29 a30 x17 (mxI 1 ((x12 + 23) / 24))).bind fun h31 =>
                  (gA 15 h31 a0 85).bind fun a32 =>
                  (sI 0 h31 a32 x17 (-2)).bind fun h33 =>
                  (gA 15 h33 a0 86).bind fun a34 =>
                  (sI 0 h33 a34 x17 x12).bind fun h35 =>
                  (gA 15 h35 a0 87).bind fun a36 =>
                  (sI 0 h35 a36 x17 0).bind fun h37 =>
                  f_X15_work_200 FU a0 p1 x17 0 h37
              else
                b2 (f_X15_refused a0 5 h15) fun x41 h42 =>
                some (x41, h42)
            else
              f_X15_work_54 a0 h9
  else none
set_option maxRecDepth 100000 in
set_option maxHeartbeats 4000000 in
theorem w_X15_work {l : Launch} {G : GX} {a0 : Nat} {p1 : Int32} {p2 : Int32} {p3 : Int32} {h : AH} {rr : Int32} {hr : AH} (hf : f_X15_work a0 p1 p2 p3 h = some (rr, hr)) : Ct l G yX15_work 362 7251 [.ref a0, .int p1, .int p2, .int p3] h (QI rr hr) := by
  unfold f_X15_work at hf
  obtain ⟨ho, hf⟩ := ifO hf
  refine Ct_of (own := RX15) (cc := cX15_work) (nL := 7) (ret := (some .int)) rfl rfl k_2417 (Nat.le_of_ble_eq_true rfl) (fun X C2 C => ?_)
  show V X G h (QI rr hr) 0 [(0, .ref a0), (1, .int p1), (2, .int p2), (3, .int p3)] [] h
  refine C.seg (pe := 2) (lv' := [(0, .ref a0), (1, .int p1), (2, .int p2), (3, .int p3)]) (st' := [.int 0, .ref a0]) [(.aload_n 0, 1, 0), (.iconst 0, 1, 0)] (by decide +kernel) rfl ?_
  obtain ⟨h1, gh1, hf⟩ := Option.bind_eq_some_iff.mp hf
  refine C.putI fl_1786 gh1 (by decide +kernel) rfl ?_
  refine C.seg (pe := 7) (lv' := [(0, .ref a0), (1, .int p1), (2, .int p2), (3, .int p3)]) (st' := [.int p1, .ref a0]) [(.aload_n 0, 1, 0), (.iload_n 1, 1, 0)] (by decide +kernel) rfl ?_
  obtain ⟨x2, h3, gx2, hf⟩ := b2_some hf
  refine C.callVr C2 [.int p1] [] mv_2124 rfl (o_X15_isWall gx2) (w_X15_isWall gx2) (by omega) (by omega) (Nat.le_of_ble_eq_true rfl) (by decide +kernel) rfl ?_
  refine C.if_eq (off := 19) (tgt := 29) (pf := 13) (by decide +kernel) (by decide) rfl (fun c48 => ?_) (fun c48 => ?_)
  · replace hf := ifp c48 hf
    refine Vsub [0] rfl ?_
    exact l_X15_work_29 C C2 a0 h3 hf
  · replace hf := ifn c48 hf
    refine C.seg (pe := 15) (lv' := [(0, .ref a0), (1, .int p1), (2, .int p2), (3, .int p3)]) (st' := [.int p2, .ref a0]) [(.aload_n 0, 1, 0), (.iload_n 2, 1, 0)] (by decide +kernel) rfl ?_
    obtain ⟨x4, h5, gx4, hf⟩ := b2_some hf
    refine C.callVr C2 [.int p2] [] mv_2375 rfl (o_X15_isPainter gx4) (w_X15_isPainter gx4) (by omega) (by omega) (Nat.le_of_ble_eq_true rfl) (by decide +kernel) rfl ?_
    refine C.if_eq (off := 11) (tgt := 29) (pf := 21) (by decide +kernel) (by decide) rfl (fun c47 => ?_) (fun c47 => ?_)
    · replace hf := ifp c47 hf
      refine Vsub [0] rfl ?_
      exact l_X15_work_29 C C2 a0 h5 hf
    · replace hf := ifn c47 hf
      refine C.seg (pe := 23) (lv' := [(0, .ref a0), (1, .int p1), (2, .int p2), (3, .int p3)]) (st' := [.int p3, .ref a0]) [(.aload_n 0, 1, 0), (.iload_n 3, 1, 0)] (by decide +kernel) rfl ?_
      obtain ⟨x6, h7, gx6, hf⟩ := b2_some hf
      refine C.callVr C2 [.int p3] [] mv_2315 rfl (o_X15_isDrawing gx6) (w_X15_isDrawing gx6) (by omega) (by omega) (Nat.le_of_ble_eq_true rfl) (by decide +kernel) rfl ?_
      refine C.if_ne (off := 9) (tgt := 35) (pf := 29) (by decide +kernel) (by decide) rfl (fun c46 => ?_) (fun c46 => ?_)
      · replace hf := ifn c46 hf
        refine C.seg (pe := 37) (lv' := [(0, .ref a0), (1, .int p1), (2, .int p2), (3, .int p3)]) (st' := [.int p1, .ref a0]) [(.aload_n 0, 1, 0), (.iload_n 1, 1, 0)] (by decide +kernel) rfl ?_
        obtain ⟨x8, h9, gx8, hf⟩ := b2_some hf
        refine C.callVr C2 [.int p1] [] mv_2128 rfl (o_X15_hasLeave gx8) (w_X15_hasLeave gx8) (by omega) (by omega) (Nat.le_of_ble_eq_true rfl) (by decide +kernel) rfl ?_
        refine C.if_eq (off := 14) (tgt := 54) (pf := 43) (by decide +kernel) (by decide) rfl (fun c45 => ?_) (fun c45 => ?_)
        · replace hf := ifp c45 hf
          refine Vsub [0] rfl ?_
          exact l_X15_work_54 C C2 a0 h9 hf
        · replace hf := ifn c45 hf
          refine C.seg (pe := 44) (lv' := [(0, .ref a0), (1, .int p1), (2, .int p2), (3, .int p3)]) (st' := [.ref a0]) [(.aload_n 0, 1, 0)] (by decide +kernel) rfl ?_
          obtain ⟨a10, ga10, hf⟩ := Option.bind_eq_some_iff.mp hf
          refine C.rdA fr_1799 ga10 (by decide +kernel) rfl ?_
          refine C.seg (pe := 48) (lv' := [(0, .ref a0), (1, .int p1), (2, .int p2), (3, .int p3)]) (st' := [.int p1, .ref a10]) [(.iload_n 1, 1, 0)] (by decide +kernel) rfl ?_
          obtain ⟨x11, gx11, hf⟩ := Option.bind_eq_some_iff.mp hf
          refine C.ald 0 rfl gx11 (by decide +kernel) rfl ?_
          refine C.seg (pe := 51) (lv' := [(0, .ref a0), (1, .int p1), (2, .int p2), (3, .int p3)]) (st' := [.int (-2), .int x11]) [(.bipush (-2), 2, (-2))] (by decide +kernel) rfl ?_
          refine C.icmp_eq (off := 9) (tgt := 60) (pf := 54) (by decide +kernel) (by decide) rfl (fun c44 => ?_) (fun c44 => ?_)
          · replace hf := ifp c44 hf
            refine C.seg (pe := 63) (lv' := [(0, .ref a0), (1, .int p1), (2, .int p2), (3, .int p3)]) (st' := [.int p1, .int p3, .ref a0]) [(.aload_n 0, 1, 0), (.iload_n 3, 1, 0), (.iload_n 1, 1, 0)] (by decide +kernel) rfl ?_
            obtain ⟨x12, h13, gx12, hf⟩ := b2_some hf
            refine C.callVr C2 [.int p3, .int p1] [] mv_2319 rfl (o_X15_paintsOn gx12) (w_X15_paintsOn gx12) (by omega) (by omega) (Nat.le_of_ble_eq_true rfl) (by decide +kernel) rfl ?_
            refine C.seg (pe := 69) (lv' := [(4, .int x12), (0, .ref a0), (1, .int p1), (2, .int p2), (3, .int p3)]) (st' := [.ref a0]) [(.istore 4, 2, 0), (.aload_n 0, 1, 0)] (by decide +kernel) rfl ?_
            obtain ⟨x14, h15, gx14, hf⟩ := b2_some hf
            refine C.callVr C2 [] [] mv_2351 rfl (o_X15_barsShown gx14) (w_X15_barsShown gx14) (by omega) (by omega) (Nat.le_of_ble_eq_true rfl) (by decide +kernel) rfl ?_
            refine C.if_le (off := 9) (tgt := 81) (pf := 75) (by decide +kernel) (by decide) rfl (fun c43 => ?_) (fun c43 => ?_)
            · replace hf := ifp c43 hf
              refine C.seg (pe := 82) (lv' := [(4, .int x12), (0, .ref a0), (1, .int p1), (2, .int p2), (3, .int p3)]) (st' := [.ref a0]) [(.aload_n 0, 1, 0)] (by decide +kernel) rfl ?_
              obtain ⟨x16, gx16, hf⟩ := Option.bind_eq_some_iff.mp hf
              refine C.rdI fr_1862 gx16 (by decide +kernel) rfl ?_
              refine C.seg (pe := 87) (lv' := [(4, .int x12), (0, .ref a0), (1, .int p1), (2, .int p2), (3, .int p3)]) (st' := [.int 40, .int x16]) [(.bipush 40, 2, 40)] (by decide +kernel) rfl ?_
              refine C.icmp_ne (off := 9) (tgt := 96) (pf := 90) (by decide +kernel) (by decide) rfl (fun c40 => ?_) (fun c40 => ?_)
              · replace hf := ifn c40 hf
                refine C.seg (pe := 97) (lv' := [(4, .int x12), (0, .ref a0), (1, .int p1), (2, .int p2), (3, .int p3)]) (st' := [.ref a0]) [(.aload_n 0, 1, 0)] (by decide +kernel) rfl ?_
                obtain ⟨x17, gx17, hf⟩ := Option.bind_eq_some_iff.mp hf
                refine C.rdI fr_1862 gx17 (by decide +kernel) rfl ?_
                refine C.seg (pe := 104) (lv' := [(5, .int x17), (4, .int x12), (0, .ref a0), (1, .int p1), (2, .int p2), (3, .int p3)]) (st' := [.ref a0, .ref a0]) [(.istore 5, 2, 0), (.aload_n 0, 1, 0), (.dup, 1, 0)] (by decide +kernel) rfl ?_
                obtain ⟨x18, gx18, hf⟩ := Option.bind_eq_some_iff.mp hf
                refine C.rdI fr_1862 gx18 (by decide +kernel) rfl ?_
                refine C.seg (pe := 109) (lv' := [(5, .int x17), (4, .int x12), (0, .ref a0), (1, .int p1), (2, .int p2), (3, .int p3)]) (st' := [.int (x18 + 1), .ref a0]) [(.iconst 1, 1, 1), (.iadd, 1, 0)] (by decide +kernel) rfl ?_
                obtain ⟨h19, gh19, hf⟩ := Option.bind_eq_some_iff.mp hf
                refine C.putI fl_1862 gh19 (by decide +kernel) rfl ?_
                refine C.seg (pe := 113) (lv' := [(5, .int x17), (4, .int x12), (0, .ref a0), (1, .int p1), (2, .int p2), (3, .int p3)]) (st' := [.ref a0]) [(.aload_n 0, 1, 0)] (by decide +kernel) rfl ?_
                obtain ⟨a20, ga20, hf⟩ := Option.bind_eq_some_iff.mp hf
                refine C.rdA fr_1865 ga20 (by decide +kernel) rfl ?_
                refine C.seg (pe := 119) (lv' := [(5, .int x17), (4, .int x12), (0, .ref a0), (1, .int p1), (2, .int p2), (3, .int p3)]) (st' := [.int p1, .int x17, .ref a20]) [(.iload 5, 2, 0), (.iload_n 1, 1, 0)] (by decide +kernel) rfl ?_
                obtain ⟨h21, gh21, hf⟩ := Option.bind_eq_some_iff.mp hf
                refine C.ast gh21 (by decide +kernel) rfl ?_
                refine C.seg (pe := 121) (lv' := [(5, .int x17), (4, .int x12), (0, .ref a0), (1, .int p1), (2, .int p2), (3, .int p3)]) (st' := [.ref a0]) [(.aload_n 0, 1, 0)] (by decide +kernel) rfl ?_
                obtain ⟨a22, ga22, hf⟩ := Option.bind_eq_some_iff.mp hf
                refine C.rdA fr_1866 ga22 (by decide +kernel) rfl ?_
                refine C.seg (pe := 127) (lv' := [(5, .int x17), (4, .int x12), (0, .ref a0), (1, .int p1), (2, .int p2), (3, .int p3)]) (st' := [.int p2, .int x17, .ref a22]) [(.iload 5, 2, 0), (.iload_n 2, 1, 0)] (by decide +kernel) rfl ?_
                obtain ⟨h23, gh23, hf⟩ := Option.bind_eq_some_iff.mp hf
                refine C.ast gh23 (by decide +kernel) rfl ?_
                refine C.seg (pe := 129) (lv' := [(5, .int x17), (4, .int x12), (0, .ref a0), (1, .int p1), (2, .int p2), (3, .int p3)]) (st' := [.ref a0]) [(.aload_n 0, 1, 0)] (by decide +kernel) rfl ?_
                obtain ⟨a24, ga24, hf⟩ := Option.bind_eq_some_iff.mp hf
                refine C.rdA fr_1867 ga24 (by decide +kernel) rfl ?_
                refine C.seg (pe := 135) (lv' := [(5, .int x17), (4, .int x12), (0, .ref a0), (1, .int p1), (2, .int p2), (3, .int p3)]) (st' := [.int p3, .int x17, .ref a24]) [(.iload 5, 2, 0), (.iload_n 3, 1, 0)] (by decide +kernel) rfl ?_
                obtain ⟨h25, gh25, hf⟩ := Option.bind_eq_some_iff.mp hf
                refine C.ast gh25 (by decide +kernel) rfl ?_
                refine C.seg (pe := 137) (lv' := [(5, .int x17), (4, .int x12), (0, .ref a0), (1, .int p1), (2, .int p2), (3, .int p3)]) (st' := [.ref a0]) [(.aload_n 0, 1, 0)] (by decide +kernel) rfl ?_
                obtain ⟨a26, ga26, hf⟩ := Option.bind_eq_some_iff.mp hf
                refine C.rdA fr_1868 ga26 (by decide +kernel) rfl ?_
                refine C.seg (pe := 143) (lv' := [(5, .int x17), (4, .int x12), (0, .ref a0), (1, .int p1), (2, .int p2), (3, .int p3)]) (st' := [.int 0, .int x17, .ref a26]) [(.iload 5, 2, 0), (.iconst 0, 1, 0)] (by decide +kernel) rfl ?_
                obtain ⟨h27, gh27, hf⟩ := Option.bind_eq_some_iff.mp hf
                refine C.ast gh27 (by decide +kernel) rfl ?_
                refine C.seg (pe := 145) (lv' := [(5, .int x17), (4, .int x12), (0, .ref a0), (1, .int p1), (2, .int p2), (3, .int p3)]) (st' := [.ref a0]) [(.aload_n 0, 1, 0)] (by decide +kernel) rfl ?_
                obtain ⟨a28, ga28, hf⟩ := Option.bind_eq_some_iff.mp hf
                refine C.rdA fr_1869 ga28 (by decide +kernel) rfl ?_
                refine C.seg (pe := 151) (lv' := [(5, .int x17), (4, .int x12), (0, .ref a0), (1, .int p1), (2, .int p2), (3, .int p3)]) (st' := [.int 1, .int x17, .ref a28]) [(.iload 5, 2, 0), (.iconst 1, 1, 1)] (by decide +kernel) rfl ?_
                obtain ⟨h29, gh29, hf⟩ := Option.bind_eq_some_iff.mp hf
                refine C.ast gh29 (by decide +kernel) rfl ?_
                refine C.seg (pe := 153) (lv' := [(5, .int x17), (4, .int x12), (0, .ref a0), (1, .int p1), (2, .int p2), (3, .int p3)]) (st' := [.ref a0]) [(.aload_n 0, 1, 0)] (by decide +kernel) rfl ?_
                obtain ⟨a30, ga30, hf⟩ := Option.bind_eq_some_iff.mp hf
                refine C.rdA fr_1870 ga30 (by decide +kernel) rfl ?_
                refine C.seg (pe := 166) (lv' := [(5, .int x17), (4, .int x12), (0, .ref a0), (1, .int p1), (2, .int p2), (3, .int p3)]) (st' := [.int 24, .int (x12 + 23), .int 1, .int x17, .ref a30]) [(.iload 5, 2, 0), (.iconst 1, 1, 1), (.iload 4, 2, 0), (.bipush 23, 2, 23), (.iadd, 1, 0), (.bipush 24, 2, 24)] (by decide +kernel) rfl ?_
                refine C.idiv (by decide +kernel) rfl (by decide) ?_
                refine C.mmax k_2334 k_636 k_137 k_637 (by omega) (by omega) (Nat.le_of_ble_eq_true rfl) (by decide +kernel) rfl ?_
                obtain ⟨h31, gh31, hf⟩ := Option.bind_eq_some_iff.mp hf
                refine C.ast gh31 (by decide +kernel) rfl ?_
                refine C.seg (pe := 172) (lv' := [(5, .int x17), (4, .int x12), (0, .ref a0), (1, .int p1), (2, .int p2), (3, .int p3)]) (st' := [.ref a0]) [(.aload_n 0, 1, 0)] (by decide +kernel) rfl ?_
                obtain ⟨a32, ga32, hf⟩ := Option.bind_eq_some_iff.mp hf
                refine C.rdA fr_1871 ga32 (by decide +kernel) rfl ?_
                refine C.seg (pe := 179) (lv' := [(5, .int x17), (4, .int x12), (0, .ref a0), (1, .int p1), (2, .int p2), (3, .int p3)]) (st' := [.int (-2), .int x17, .ref a32]) [(.iload 5, 2, 0), (.bipush (-2), 2, (-2))] (by decide +kernel) rfl ?_
                obtain ⟨h33, gh33, hf⟩ := Option.bind_eq_some_iff.mp hf
                refine C.ast gh33 (by decide +kernel) rfl ?_
                refine C.seg (pe := 181) (lv' := [(5, .int x17), (4, .int x12), (0, .ref a0), (1, .int p1), (2, .int p2), (3, .int p3)]) (st' := [.ref a0]) [(.aload_n 0, 1, 0)] (by decide +kernel) rfl ?_
                obtain ⟨a34, ga34, hf⟩ := Option.bind_eq_some_iff.mp hf
                refine C.rdA fr_1872 ga34 (by decide +kernel) rfl ?_
                refine C.seg (pe := 188) (lv' := [(5, .int x17), (4, .int x12), (0, .ref a0), (1, .int p1), (2, .int p2), (3, .int p3)]) (st' := [.int x12, .int x17, .ref a34]) [(.iload 5, 2, 0), (.iload 4, 2, 0)] (by decide +kernel) rfl ?_
                obtain ⟨h35, gh35, hf⟩ := Option.bind_eq_some_iff.mp hf
                refine C.ast gh35 (by decide +kernel) rfl ?_
                refine C.seg (pe := 190) (lv' := [(5, .int x17), (4, .int x12), (0, .ref a0), (1, .int p1), (2, .int p2), (3, .int p3)]) (st' := [.ref a0]) [(.aload_n 0, 1, 0)] (by decide +kernel) rfl ?_
                obtain ⟨a36, ga36, hf⟩ := Option.bind_eq_some_iff.mp hf
                refine C.rdA fr_1873 ga36 (by decide +kernel) rfl ?_
                refine C.seg (pe := 196) (lv' := [(5, .int x17), (4, .int x12), (0, .ref a0), (1, .int p1), (2, .int p2), (3, .int p3)]) (st' := [.int 0, .int x17, .ref a36]) [(.iload 5, 2, 0), (.iconst 0, 1, 0)] (by decide +kernel) rfl ?_
                obtain ⟨h37, gh37, hf⟩ := Option.bind_eq_some_iff.mp hf
                refine C.ast gh37 (by decide +kernel) rfl ?_
                refine C.seg (pe := 200) (lv' := [(6, .int 0), (5, .int x17), (4, .int x12), (0, .ref a0), (1, .int p1), (2, .int p2), (3, .int p3)]) (st' := []) [(.iconst 0, 1, 0), (.istore 6, 2, 0)] (by decide +kernel) rfl ?_
                refine Vsub [3, 4, 1, 0] rfl ?_
                exact l_X15_work_200 C C2 FU a0 p1 x17 0 h37 hf
              · replace hf := ifp c40 hf
                refine C.seg (pe := 92) (lv' := [(4, .int x12), (0, .ref a0), (1, .int p1), (2, .int p2), (3, .int p3)]) (st' := [.int 3, .ref a0]) [(.aload_n 0, 1, 0), (.iconst 3, 1, 3)] (by decide +kernel) rfl ?_
                obtain ⟨x38, h39, gx38, hf⟩ := b2_some hf
                refine C.callVr C2 [.int 3] [] mv_2112 rfl (o_X15_refused gx38) (w_X15_refused gx38) (by omega) (by omega) (Nat.le_of_ble_eq_true rfl) (by decide +kernel) rfl ?_
                cases hf
                exact C.retI rfl (by decide +kernel) ⟨rfl, rfl⟩
            · replace hf := ifn c43 hf
              refine C.seg (pe := 77) (lv' := [(4, .int x12), (0, .ref a0), (1, .int p1), (2, .int p2), (3, .int p3)]) (st' := [.int 5, .ref a0]) [(.aload_n 0, 1, 0), (.iconst 5, 1, 5)] (by decide +kernel) rfl ?_
              obtain ⟨x41, h42, gx41, hf⟩ := b2_some hf
              refine C.callVr C2 [.int 5] [] mv_2112 rfl (o_X15_refused gx41) (w_X15_refused gx41) (by omega) (by omega) (Nat.le_of_ble_eq_true rfl) (by decide +kernel) rfl ?_
              cases hf
              exact C.retI rfl (by decide +kernel) ⟨rfl, rfl⟩
          · replace hf := ifn c44 hf
            refine Vsub [0] rfl ?_
            exact l_X15_work_54 C C2 a0 h9 hf
      · replace hf := ifp c46 hf
        refine Vsub [0] rfl ?_
        exact l_X15_work_29 C C2 a0 h7 hf
theorem o_X15_work {a0 : Nat} {p1 : Int32} {p2 : Int32} {p3 : Int32} {h : AH} {rr : Int32} {hr : AH} (hf : f_X15_work a0 p1 p2 p3 h = some (rr, hr)) : isO 15 h a0 = true := by
  unfold f_X15_work at hf
  exact (ifO hf).1
/-! WallHouseModel.isWork(I)Z -/
def f_X15_isWork_17 (si0 : Int32) (h : AH) : Option (Int32 × AH) :=
  (ckZ si0).bind fun x1 =>
  some (x1, h)
set_option maxRecDepth 100000 in
set_option maxHeartbeats 4000000 in
theorem l_X15_isWork_17 {X : MX} {l : Launch} {G : GX} {h0 : AH} {rr : Int32} {hr : AH} (C : Cx X G RX15 cX15_isWork 2 (some .boolean) 0 0 h0) (C2 : Cy X l "isWork" []) (si0 : Int32) (h : AH) (hf : f_X15_isWork_17 si0 h = some (rr, hr)) : V X G h0 (QI rr hr) 17 [] [.int si0] h := by
  unfold f_X15_isWork_17 at hf
  obtain ⟨x1, gx1, hf⟩ := Option.bind_eq_some_iff.mp hf
  have ex1 := ckZ_eq gx1
  subst ex1
  cases hf
  exact C.retZ rfl gx1 (by decide +kernel) ⟨rfl, rfl⟩
def f_X15_isWork_16 (h : AH) : Option (Int32 × AH) :=
  f_X15_isWork_17 0 h
set_option maxRecDepth 100000 in
set_option maxHeartbeats 4000000 in
theorem l_X15_isWork_16 {X : MX} {l : Launch} {G : GX} {h0 : AH} {rr : Int32} {hr : AH} (C : Cx X G RX15 cX15_isWork 2 (some .boolean) 0 0 h0) (C2 : Cy X l "isWork" []) (h : AH) (hf : f_X15_isWork_16 h = some (rr, hr)) : V X G h0 (QI rr hr) 16 [] [] h := by
  unfold f_X15_isWork_16 at hf
  refine C.seg (pe := 17) (lv' := []) (st' := [.int 0]) [(.iconst 0, 1, 0)] (by decide +kernel) rfl ?_
  exact l_X15_isWork_17 C C2 0 h hf
def f_X15_isWork (a0 : Nat) (p1 : Int32) (h : AH) : Option (Int32 × AH) :=
  if isO 15 h a0 = true then
    if p1 < 0 then
      f_X15_isWork_16 h
    else
      (gI 15 h a0 76).bind fun x1 =>
      if x1 ≤ p1 then
        f_X15_isWork_16 h
      else
        f_X15_isWork_17 1 h
  else none
set_option maxRecDepth 100000 in
set_option maxHeartbeats 4000000 in
theorem w_X15_isWork {l : Launch} {G : GX} {a0 : Nat} {p1 : Int32} {h : AH} {rr : Int32} {hr : AH} (hf : f_X15_isWork a0 p1 h = some (rr, hr)) : Ct l G yX15_isWork 0 0 [.ref a0, .int p1] h (QI rr hr) := by
  unfold f_X15_isWork at hf
  obtain ⟨ho, hf⟩ := ifO hf
  refine Ct_of (own := RX15) (cc := cX15_isWork) (nL := 2) (ret := (some .boolean)) rfl rfl k_2425 (Nat.le_of_ble_eq_true rfl) (fun X C2 C => ?_)
  show V X G h (QI rr hr) 0 [(0, .ref a0), (1, .int p1)] [] h
  refine C.seg (pe := 1) (lv' := [(0, .ref a0), (1, .int p1)]) (st' := [.int p1]) [(.iload_n 1, 1, 0)] (by decide +kernel) rfl ?_
  refine C.if_lt (off := 15) (tgt := 16) (pf := 4) (by decide +kernel) (by decide) rfl (fun c3 => ?_) (fun c3 => ?_)
  · replace hf := ifp c3 hf
    refine Vsub [] rfl ?_
    exact l_X15_isWork_16 C C2 h hf
  · replace hf := ifn c3 hf
    refine C.seg (pe := 6) (lv' := [(0, .ref a0), (1, .int p1)]) (st' := [.ref a0, .int p1]) [(.iload_n 1, 1, 0), (.aload_n 0, 1, 0)] (by decide +kernel) rfl ?_
    obtain ⟨x1, gx1, hf⟩ := Option.bind_eq_some_iff.mp hf
    refine C.rdI fr_1862 gx1 (by decide +kernel) rfl ?_
    refine C.icmp_ge (off := 7) (tgt := 16) (pf := 12) (by decide +kernel) (by decide) rfl (fun c2 => ?_) (fun c2 => ?_)
    · replace hf := ifp c2 hf
      refine Vsub [] rfl ?_
      exact l_X15_isWork_16 C C2 h hf
    · replace hf := ifn c2 hf
      refine C.seg (pe := 13) (lv' := [(0, .ref a0), (1, .int p1)]) (st' := [.int 1]) [(.iconst 1, 1, 1)] (by decide +kernel) rfl ?_
      refine C.goto (off := 4) (tgt := 17) (by decide +kernel) (by decide) ?_
      refine Vsub [] rfl ?_
      exact l_X15_isWork_17 C C2 1 h hf
theorem o_X15_isWork {a0 : Nat} {p1 : Int32} {h : AH} {rr : Int32} {hr : AH} (hf : f_X15_isWork a0 p1 h = some (rr, hr)) : isO 15 h a0 = true := by
  unfold f_X15_isWork at hf
  exact (ifO hf).1
/-! WallHouseModel.workOf(II)I -/
def f_X15_workOf_158 (si0 : Int32) (h : AH) : Option (Int32 × AH) :=
  some (si0, h)
set_option maxRecDepth 100000 in
set_option maxHeartbeats 4000000 in
theorem l_X15_workOf_158 {X : MX} {l : Launch} {G : GX} {h0 : AH} {rr : Int32} {hr : AH} (C : Cx X G RX15 cX15_workOf 3 (some .int) 1 21 h0) (C2 : Cy X l "workOf" []) (si0 : Int32) (h : AH) (hf : f_X15_workOf_158 si0 h = some (rr, hr)) : V X G h0 (QI rr hr) 158 [] [.int si0] h := by
  unfold f_X15_workOf_158 at hf
  cases hf
  exact C.retI rfl (by decide +kernel) ⟨rfl, rfl⟩
def f_X15_workOf (a0 : Nat) (p1 : Int32) (p2 : Int32) (h : AH) : Option (Int32 × AH) :=
  if isO 15 h a0 = true then
    (pI 15 h a0 0 0).bind fun h1 =>
    b2 (f_X15_isWork a0 p1 h1) fun x2 h3 =>
    if x2 = 0 then
      some ((-1), h3)
    else
      if p2 = 0 then
        (gA 15 h3 a0 79).bind fun a12 =>
        (aI 0 h3 a12 p1).bind fun x13 =>
        some (x13, h3)
      else
        if p2 = 1 then
          (gA 15 h3 a0 80).bind fun a14 =>
          (aI 0 h3 a14 p1).bind fun x15 =>
          some (x15, h3)
        else
          if p2 = 2 then
            (gA 15 h3 a0 81).bind fun a16 =>
            (aI 0 h3 a16 p1).bind fun x17 =>
            some (x17, h3)
          else
            if p2 = 3 then
              (gA 15 h3 a0 82).bind fun a18 =>
              (aI 0 h3 a18 p1).bind fun x19 =>
              some (x19, h3)
            else
              if p2 = 4 then
                (gA 15 h3 a0 82).bind fun a20 =>
                (aI 0 h3 a20 p1).bind fun x21 =>
                if x21 = 0 then
                  (gA 15 h3 a0 84).bind fun a34 =>
                  (aI 0 h3 a34 p1).bind fun x35 =>
                  f_X15_workOf_158 (3 + x35) h3
                else
                  (gA 15 h3 a0 82).bind fun a22 =>
                  (aI 0 h3 a22 p1).bind fun x23 =>
                  if x23 = 1 then
                    (gA 15 h3 a0 83).bind fun a29 =>
                    (aI 0 h3 a29 p1).bind fun x30 =>
                    (gA 15 h3 a0 84).bind fun a31 =>
                    (aI 0 h3 a31 p1).bind fun x32 =>
                    f_X15_workOf_158 (x30 + x32) h3
                  else
                    (gA 15 h3 a0 82).bind fun a24 =>
                    (aI 0 h3 a24 p1).bind fun x25 =>
                    if x25 = 2 then
                      (gA 15 h3 a0 83).bind fun a26 =>
                      (aI 0 h3 a26 p1).bind fun x27 =>
                      f_X15_workOf_158 x27 h3
                    else
                      f_X15_workOf_158 0 h3
              else
                if p2 = 5 then
                  (gA 15 h3 a0 85).bind fun a37 =>
                  (aI 0 h3 a37 p1).bind fun x38 =>
                  some (x38, h3)
                else
                  if p2 = 6 then
                    (gA 15 h3 a0 86).bind fun a39 =>
                    (aI 0 h3 a39 p1).bind fun x40 =>
                    some (x40, h3)
                  else
                    if p2 = 7 then
                      (gA 15 h3 a0 87).bind fun a41 =>
                      (aI 0 h3 a41 p1).bind fun x42 =>
                      some (x42, h3)
                    else
                      some ((-1), h3)
  else none
set_option maxRecDepth 100000 in
set_option maxHeartbeats 4000000 in
theorem w_X15_workOf {l : Launch} {G : GX} {a0 : Nat} {p1 : Int32} {p2 : Int32} {h : AH} {rr : Int32} {hr : AH} (hf : f_X15_workOf a0 p1 p2 h = some (rr, hr)) : Ct l G yX15_workOf 1 21 [.ref a0, .int p1, .int p2] h (QI rr hr) := by
  unfold f_X15_workOf at hf
  obtain ⟨ho, hf⟩ := ifO hf
  refine Ct_of (own := RX15) (cc := cX15_workOf) (nL := 3) (ret := (some .int)) rfl rfl k_2421 (Nat.le_of_ble_eq_true rfl) (fun X C2 C => ?_)
  show V X G h (QI rr hr) 0 [(0, .ref a0), (1, .int p1), (2, .int p2)] [] h
  refine C.seg (pe := 2) (lv' := [(0, .ref a0), (1, .int p1), (2, .int p2)]) (st' := [.int 0, .ref a0]) [(.aload_n 0, 1, 0), (.iconst 0, 1, 0)] (by decide +kernel) rfl ?_
  obtain ⟨h1, gh1, hf⟩ := Option.bind_eq_some_iff.mp hf
  refine C.putI fl_1786 gh1 (by decide +kernel) rfl ?_
  refine C.seg (pe := 7) (lv' := [(0, .ref a0), (1, .int p1), (2, .int p2)]) (st' := [.int p1, .ref a0]) [(.aload_n 0, 1, 0), (.iload_n 1, 1, 0)] (by decide +kernel) rfl ?_
  obtain ⟨x2, h3, gx2, hf⟩ := b2_some hf
  refine C.callVr C2 [.int p1] [] mv_2422 rfl (o_X15_isWork gx2) (w_X15_isWork gx2) (by omega) (by omega) (Nat.le_of_ble_eq_true rfl) (by decide +kernel) rfl ?_
  refine C.if_ne (off := 5) (tgt := 15) (pf := 13) (by decide +kernel) (by decide) rfl (fun c43 => ?_) (fun c43 => ?_)
  · replace hf := ifn c43 hf
    refine C.seg (pe := 16) (lv' := [(0, .ref a0), (1, .int p1), (2, .int p2)]) (st' := [.int p2]) [(.iload_n 2, 1, 0)] (by decide +kernel) rfl ?_
    by_cases c4 : p2 = 0
    · replace hf := ifp c4 hf
      refine C.tsIn (len := 48) (dflt := 164) (a := 0) (b := 7) (offs := #[48, 55, 62, 69, 76, 143, 150, 157]) (k := 0) (off := 48) (tgt := 64) c4 (by decide +kernel) (by decide) (by decide) rfl (by decide) ?_
      refine C.seg (pe := 65) (lv' := [(0, .ref a0), (1, .int p1), (2, .int p2)]) (st' := [.ref a0]) [(.aload_n 0, 1, 0)] (by decide +kernel) rfl ?_
      obtain ⟨a12, ga12, hf⟩ := Option.bind_eq_some_iff.mp hf
      refine C.rdA fr_1865 ga12 (by decide +kernel) rfl ?_
      refine C.seg (pe := 69) (lv' := [(0, .ref a0), (1, .int p1), (2, .int p2)]) (st' := [.int p1, .ref a12]) [(.iload_n 1, 1, 0)] (by decide +kernel) rfl ?_
      obtain ⟨x13, gx13, hf⟩ := Option.bind_eq_some_iff.mp hf
      refine C.ald 0 rfl gx13 (by decide +kernel) rfl ?_
      cases hf
      exact C.retI rfl (by decide +kernel) ⟨rfl, rfl⟩
    · replace hf := ifn c4 hf
      by_cases c5 : p2 = 1
      · replace hf := ifp c5 hf
        refine C.tsIn (len := 48) (dflt := 164) (a := 0) (b := 7) (offs := #[48, 55, 62, 69, 76, 143, 150, 157]) (k := 1) (off := 55) (tgt := 71) c5 (by decide +kernel) (by decide) (by decide) rfl (by decide) ?_
        refine C.seg (pe := 72) (lv' := [(0, .ref a0), (1, .int p1), (2, .int p2)]) (st' := [.ref a0]) [(.aload_n 0, 1, 0)] (by decide +kernel) rfl ?_
        obtain ⟨a14, ga14, hf⟩ := Option.bind_eq_some_iff.mp hf
        refine C.rdA fr_1866 ga14 (by decide +kernel) rfl ?_
        refine C.seg (pe := 76) (lv' := [(0, .ref a0), (1, .int p1), (2, .int p2)]) (st' := [.int p1, .ref a14]) [(.iload_n 1, 1, 0)] (by decide +kernel) rfl ?_
        obtain ⟨x15, gx15, hf⟩ := Option.bind_eq_some_iff.mp hf
        refine C.ald 0 rfl gx15 (by decide +kernel) rfl ?_
        cases hf
        exact C.retI rfl (by decide +kernel) ⟨rfl, rfl⟩
      · replace hf := ifn c5 hf
        by_cases c6 : p2 = 2
        · replace hf := ifp c6 hf
          refine C.tsIn (len := 48) (dflt := 164) (a := 0) (b := 7) (offs := #[48, 55, 62, 69, 76, 143, 150, 157]) (k := 2) (off := 62) (tgt := 78) c6 (by decide +kernel) (by decide) (by decide) rfl (by decide) ?_
          refine C.seg (pe := 79) (lv' := [(0, .ref a0), (1, .int p1), (2, .int p2)]) (st' := [.ref a0]) [(.aload_n 0, 1, 0)] (by decide +kernel) rfl ?_
          obtain ⟨a16, ga16, hf⟩ := Option.bind_eq_some_iff.mp hf
          refine C.rdA fr_1867 ga16 (by decide +kernel) rfl ?_
          refine C.seg (pe := 83) (lv' := [(0, .ref a0), (1, .int p1), (2, .int p2)]) (st' := [.int p1, .ref a16]) [(.iload_n 1, 1, 0)] (by decide +kernel) rfl ?_
          obtain ⟨x17, gx17, hf⟩ := Option.bind_eq_some_iff.mp hf
          refine C.ald 0 rfl gx17 (by decide +kernel) rfl ?_
          cases hf
          exact C.retI rfl (by decide +kernel) ⟨rfl, rfl⟩
        · replace hf := ifn c6 hf
          by_cases c7 : p2 = 3
          · replace hf := ifp c7 hf
            refine C.tsIn (len := 48) (dflt := 164) (a := 0) (b := 7) (offs := #[48, 55, 62, 69, 76, 143, 150, 157]) (k := 3) (off := 69) (tgt := 85) c7 (by decide +kernel) (by decide) (by decide) rfl (by decide) ?_
            refine C.seg (pe := 86) (lv' := [(0, .ref a0), (1, .int p1), (2, .int p2)]) (st' := [.ref a0]) [(.aload_n 0, 1, 0)] (by decide +kernel) rfl ?_
            obtain ⟨a18, ga18, hf⟩ := Option.bind_eq_some_iff.mp hf
            refine C.rdA fr_1868 ga18 (by decide +kernel) rfl ?_
            refine C.seg (pe := 90) (lv' := [(0, .ref a0), (1, .int p1), (2, .int p2)]) (st' := [.int p1, .ref a18]) [(.iload_n 1, 1, 0)] (by decide +kernel) rfl ?_
            obtain ⟨x19, gx19, hf⟩ := Option.bind_eq_some_iff.mp hf
            refine C.ald 0 rfl gx19 (by decide +kernel) rfl ?_
            cases hf
            exact C.retI rfl (by decide +kernel) ⟨rfl, rfl⟩
          · replace hf := ifn c7 hf
            by_cases c8 : p2 = 4
            · replace hf := ifp c8 hf
              refine C.tsIn (len := 48) (dflt := 164) (a := 0) (b := 7) (offs := #[48, 55, 62, 69, 76, 143, 150, 157]) (k := 4) (off := 76) (tgt := 92) c8 (by decide +kernel) (by decide) (by decide) rfl (by decide) ?_
              refine C.seg (pe := 93) (lv' := [(0, .ref a0), (1, .int p1), (2, .int p2)]) (st' := [.ref a0]) [(.aload_n 0, 1, 0)] (by decide +kernel) rfl ?_
              obtain ⟨a20, ga20, hf⟩ := Option.bind_eq_some_iff.mp hf
              refine C.rdA fr_1868 ga20 (by decide +kernel) rfl ?_
              refine C.seg (pe := 97) (lv' := [(0, .ref a0), (1, .int p1), (2, .int p2)]) (st' := [.int p1, .ref a20]) [(.iload_n 1, 1, 0)] (by decide +kernel) rfl ?_
              obtain ⟨x21, gx21, hf⟩ := Option.bind_eq_some_iff.mp hf
              refine C.ald 0 rfl gx21 (by decide +kernel) rfl ?_
              refine C.if_ne (off := 14) (tgt := 112) (pf := 101) (by decide +kernel) (by decide) rfl (fun c36 => ?_) (fun c36 => ?_)
              · replace hf := ifn c36 hf
                refine C.seg (pe := 113) (lv' := [(0, .ref a0), (1, .int p1), (2, .int p2)]) (st' := [.ref a0]) [(.aload_n 0, 1, 0)] (by decide +kernel) rfl ?_
                obtain ⟨a22, ga22, hf⟩ := Option.bind_eq_some_iff.mp hf
                refine C.rdA fr_1868 ga22 (by decide +kernel) rfl ?_
                refine C.seg (pe := 117) (lv' := [(0, .ref a0), (1, .int p1), (2, .int p2)]) (st' := [.int p1, .ref a22]) [(.iload_n 1, 1, 0)] (by decide +kernel) rfl ?_
                obtain ⟨x23, gx23, hf⟩ := Option.bind_eq_some_iff.mp hf
                refine C.ald 0 rfl gx23 (by decide +kernel) rfl ?_
                refine C.seg (pe := 119) (lv' := [(0, .ref a0), (1, .int p1), (2, .int p2)]) (st' := [.int 1, .int x23]) [(.iconst 1, 1, 1)] (by decide +kernel) rfl ?_
                refine C.icmp_ne (off := 19) (tgt := 138) (pf := 122) (by decide +kernel) (by decide) rfl (fun c33 => ?_) (fun c33 => ?_)
                · replace hf := ifn c33 hf
                  refine C.seg (pe := 139) (lv' := [(0, .ref a0), (1, .int p1), (2, .int p2)]) (st' := [.ref a0]) [(.aload_n 0, 1, 0)] (by decide +kernel) rfl ?_
                  obtain ⟨a24, ga24, hf⟩ := Option.bind_eq_some_iff.mp hf
                  refine C.rdA fr_1868 ga24 (by decide +kernel) rfl ?_
                  refine C.seg (pe := 143) (lv' := [(0, .ref a0), (1, .int p1), (2, .int p2)]) (st' := [.int p1, .ref a24]) [(.iload_n 1, 1, 0)] (by decide +kernel) rfl ?_
                  obtain ⟨x25, gx25, hf⟩ := Option.bind_eq_some_iff.mp hf
                  refine C.ald 0 rfl gx25 (by decide +kernel) rfl ?_
                  refine C.seg (pe := 145) (lv' := [(0, .ref a0), (1, .int p1), (2, .int p2)]) (st' := [.int 2, .int x25]) [(.iconst 2, 1, 2)] (by decide +kernel) rfl ?_
                  refine C.icmp_ne (off := 12) (tgt := 157) (pf := 148) (by decide +kernel) (by decide) rfl (fun c28 => ?_) (fun c28 => ?_)
                  · replace hf := ifn c28 hf
                    refine C.seg (pe := 158) (lv' := [(0, .ref a0), (1, .int p1), (2, .int p2)]) (st' := [.int 0]) [(.iconst 0, 1, 0)] (by decide +kernel) rfl ?_
                    refine Vsub [] rfl ?_
                    exact l_X15_workOf_158 C C2 0 h3 hf
                  · replace hf := ifp c28 hf
                    refine C.seg (pe := 149) (lv' := [(0, .ref a0), (1, .int p1), (2, .int p2)]) (st' := [.ref a0]) [(.aload_n 0, 1, 0)] (by decide +kernel) rfl ?_
                    obtain ⟨a26, ga26, hf⟩ := Option.bind_eq_some_iff.mp hf
                    refine C.rdA fr_1869 ga26 (by decide +kernel) rfl ?_
                    refine C.seg (pe := 153) (lv' := [(0, .ref a0), (1, .int p1), (2, .int p2)]) (st' := [.int p1, .ref a26]) [(.iload_n 1, 1, 0)] (by decide +kernel) rfl ?_
                    obtain ⟨x27, gx27, hf⟩ := Option.bind_eq_some_iff.mp hf
                    refine C.ald 0 rfl gx27 (by decide +kernel) rfl ?_
                    refine C.goto (off := 4) (tgt := 158) (by decide +kernel) (by decide) ?_
                    refine Vsub [] rfl ?_
                    exact l_X15_workOf_158 C C2 x27 h3 hf
                · replace hf := ifp c33 hf
                  refine C.seg (pe := 123) (lv' := [(0, .ref a0), (1, .int p1), (2, .int p2)]) (st' := [.ref a0]) [(.aload_n 0, 1, 0)] (by decide +kernel) rfl ?_
                  obtain ⟨a29, ga29, hf⟩ := Option.bind_eq_some_iff.mp hf
                  refine C.rdA fr_1869 ga29 (by decide +kernel) rfl ?_
                  refine C.seg (pe := 127) (lv' := [(0, .ref a0), (1, .int p1), (2, .int p2)]) (st' := [.int p1, .ref a29]) [(.iload_n 1, 1, 0)] (by decide +kernel) rfl ?_
                  obtain ⟨x30, gx30, hf⟩ := Option.bind_eq_some_iff.mp hf
                  refine C.ald 0 rfl gx30 (by decide +kernel) rfl ?_
                  refine C.seg (pe := 129) (lv' := [(0, .ref a0), (1, .int p1), (2, .int p2)]) (st' := [.ref a0, .int x30]) [(.aload_n 0, 1, 0)] (by decide +kernel) rfl ?_
                  obtain ⟨a31, ga31, hf⟩ := Option.bind_eq_some_iff.mp hf
                  refine C.rdA fr_1870 ga31 (by decide +kernel) rfl ?_
                  refine C.seg (pe := 133) (lv' := [(0, .ref a0), (1, .int p1), (2, .int p2)]) (st' := [.int p1, .ref a31, .int x30]) [(.iload_n 1, 1, 0)] (by decide +kernel) rfl ?_
                  obtain ⟨x32, gx32, hf⟩ := Option.bind_eq_some_iff.mp hf
                  refine C.ald 0 rfl gx32 (by decide +kernel) rfl ?_
                  refine C.seg (pe := 135) (lv' := [(0, .ref a0), (1, .int p1), (2, .int p2)]) (st' := [.int (x30 + x32)]) [(.iadd, 1, 0)] (by decide +kernel) rfl ?_
                  refine C.goto (off := 23) (tgt := 158) (by decide +kernel) (by decide) ?_
                  refine Vsub [] rfl ?_
                  exact l_X15_workOf_158 C C2 (x30 + x32) h3 hf
              · replace hf := ifp c36 hf
                refine C.seg (pe := 103) (lv' := [(0, .ref a0), (1, .int p1), (2, .int p2)]) (st' := [.ref a0, .int 3]) [(.iconst 3, 1, 3), (.aload_n 0, 1, 0)] (by decide +kernel) rfl ?_
                obtain ⟨a34, ga34, hf⟩ := Option.bind_eq_some_iff.mp hf
                refine C.rdA fr_1870 ga34 (by decide +kernel) rfl ?_
                refine C.seg (pe := 107) (lv' := [(0, .ref a0), (1, .int p1), (2, .int p2)]) (st' := [.int p1, .ref a34, .int 3]) [(.iload_n 1, 1, 0)] (by decide +kernel) rfl ?_
                obtain ⟨x35, gx35, hf⟩ := Option.bind_eq_some_iff.mp hf
                refine C.ald 0 rfl gx35 (by decide +kernel) rfl ?_
                refine C.seg (pe := 109) (lv' := [(0, .ref a0), (1, .int p1), (2, .int p2)]) (st' := [.int (3 + x35)]) [(.iadd, 1, 0)] (by decide +kernel) rfl ?_
                refine C.goto (off := 49) (tgt := 158) (by decide +kernel) (by decide) ?_
                refine Vsub [] rfl ?_
                exact l_X15_workOf_158 C C2 (3 + x35) h3 hf
            · replace hf := ifn c8 hf
              by_cases c9 : p2 = 5
              · replace hf := ifp c9 hf
                refine C.tsIn (len := 48) (dflt := 164) (a := 0) (b := 7) (offs := #[48, 55, 62, 69, 76, 143, 150, 157]) (k := 5) (off := 143) (tgt := 159) c9 (by decide +kernel) (by decide) (by decide) rfl (by decide) ?_
                refine C.seg (pe := 160) (lv' := [(0, .ref a0), (1, .int p1), (2, .int p2)]) (st' := [.ref a0]) [(.aload_n 0, 1, 0)] (by decide +kernel) rfl ?_
                obtain ⟨a37, ga37, hf⟩ := Option.bind_eq_some_iff.mp hf
                refine C.rdA fr_1871 ga37 (by decide +kernel) rfl ?_
                refine C.seg (pe := 164) (lv' := [(0, .ref a0), (1, .int p1), (2, .int p2)]) (st' := [.int p1, .ref a37]) [(.iload_n 1, 1, 0)] (by decide +kernel) rfl ?_
                obtain ⟨x38, gx38, hf⟩ := Option.bind_eq_some_iff.mp hf
                refine C.ald 0 rfl gx38 (by decide +kernel) rfl ?_
                cases hf
                exact C.retI rfl (by decide +kernel) ⟨rfl, rfl⟩
              · replace hf := ifn c9 hf
                by_cases c10 : p2 = 6
                · replace hf := ifp c10 hf
                  refine C.tsIn (len := 48) (dflt := 164) (a := 0) (b := 7) (offs := #[48, 55, 62, 69, 76, 143, 150, 157]) (k := 6) (off := 150) (tgt := 166) c10 (by decide +kernel) (by decide) (by decide) rfl (by decide) ?_
                  refine C.seg (pe := 167) (lv' := [(0, .ref a0), (1, .int p1), (2, .int p2)]) (st' := [.ref a0]) [(.aload_n 0, 1, 0)] (by decide +kernel) rfl ?_
                  obtain ⟨a39, ga39, hf⟩ := Option.bind_eq_some_iff.mp hf
                  refine C.rdA fr_1872 ga39 (by decide +kernel) rfl ?_
                  refine C.seg (pe := 171) (lv' := [(0, .ref a0), (1, .int p1), (2, .int p2)]) (st' := [.int p1, .ref a39]) [(.iload_n 1, 1, 0)] (by decide +kernel) rfl ?_
                  obtain ⟨x40, gx40, hf⟩ := Option.bind_eq_some_iff.mp hf
                  refine C.ald 0 rfl gx40 (by decide +kernel) rfl ?_
                  cases hf
                  exact C.retI rfl (by decide +kernel) ⟨rfl, rfl⟩
                · replace hf := ifn c10 hf
                  by_cases c11 : p2 = 7
                  · replace hf := ifp c11 hf
                    refine C.tsIn (len := 48) (dflt := 164) (a := 0) (b := 7) (offs := #[48, 55, 62, 69, 76, 143, 150, 157]) (k := 7) (off := 157) (tgt := 173) c11 (by decide +kernel) (by decide) (by decide) rfl (by decide) ?_
                    refine C.seg (pe := 174) (lv' := [(0, .ref a0), (1, .int p1), (2, .int p2)]) (st' := [.ref a0]) [(.aload_n 0, 1, 0)] (by decide +kernel) rfl ?_
                    obtain ⟨a41, ga41, hf⟩ := Option.bind_eq_some_iff.mp hf
                    refine C.rdA fr_1873 ga41 (by decide +kernel) rfl ?_
                    refine C.seg (pe := 178) (lv' := [(0, .ref a0), (1, .int p1), (2, .int p2)]) (st' := [.int p1, .ref a41]) [(.iload_n 1, 1, 0)] (by decide +kernel) rfl ?_
                    obtain ⟨x42, gx42, hf⟩ := Option.bind_eq_some_iff.mp hf
                    refine C.ald 0 rfl gx42 (by decide +kernel) rfl ?_
                    cases hf
                    exact C.retI rfl (by decide +kernel) ⟨rfl, rfl⟩
                  · replace hf := ifn c11 hf
                    have qc4 := lv_neT c4 (by decide : (0 : Int32).toInt = 0)
                    have qc5 := lv_neT c5 (by decide : (1 : Int32).toInt = 1)
                    have qc6 := lv_neT c6 (by decide : (2 : Int32).toInt = 2)
                    have qc7 := lv_neT c7 (by decide : (3 : Int32).toInt = 3)
                    have qc8 := lv_neT c8 (by decide : (4 : Int32).toInt = 4)
                    have qc9 := lv_neT c9 (by decide : (5 : Int32).toInt = 5)
                    have qc10 := lv_neT c10 (by decide : (6 : Int32).toInt = 6)
                    have qc11 := lv_neT c11 (by decide : (7 : Int32).toInt = 7)
                    refine C.tsOut (len := 48) (dflt := 164) (a := 0) (b := 7) (offs := #[48, 55, 62, 69, 76, 143, 150, 157]) (tgt := 180) (by decide +kernel) (by omega) (by decide) ?_
                    refine C.seg (pe := 181) (lv' := [(0, .ref a0), (1, .int p1), (2, .int p2)]) (st' := [.int (-1)]) [(.iconst (-1), 1, (-1))] (by decide +kernel) rfl ?_
                    cases hf
                    exact C.retI rfl (by decide +kernel) ⟨rfl, rfl⟩
  · replace hf := ifp c43 hf
    refine C.seg (pe := 14) (lv' := [(0, .ref a0), (1, .int p1), (2, .int p2)]) (st' := [.int (-1)]) [(.iconst (-1), 1, (-1))] (by decide +kernel) rfl ?_
    cases hf
    exact C.retI rfl (by decide +kernel) ⟨rfl, rfl⟩
theorem o_X15_workOf {a0 : Nat} {p1 : Int32} {p2 : Int32} {h : AH} {rr : Int32} {hr : AH} (hf : f_X15_workOf a0 p1 p2 h = some (rr, hr)) : isO 15 h a0 = true := by
  unfold f_X15_workOf at hf
  exact (ifO hf).1
