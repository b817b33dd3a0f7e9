/-! WallHouse.liked(II)I -/
def f_X11_liked_22 (h : AH) : Option (Int32 × AH) :=
  some ((-1), h)
set_option maxRecDepth 100000 in
set_option maxHeartbeats 4000000 in
theorem l_X11_liked_22 {X : MX} {l : Launch} {G : GX} {h0 : AH} {rr : Int32} {hr : AH} (C : Cx X G RX11 cX11_liked 3 (some .int) 3 66 h0) (C2 : Cy X l "liked" []) (h : AH) (hf : f_X11_liked_22 h = some (rr, hr)) : V X G h0 (QI rr hr) 22 [] [] h := by
  unfold f_X11_liked_22 at hf
  refine C.seg (pe := 23) (lv' := []) (st' := [.int (-1)]) [(.iconst (-1), 1, (-1))] (by decide +kernel) rfl ?_
  cases hf
  exact C.retI rfl (by decide +kernel) ⟨rfl, rfl⟩
def f_X11_liked (a0 : Nat) (p1 : Int32) (p2 : Int32) (h : AH) : Option (Int32 × AH) :=
  if isO 11 h a0 = true then
    (gA 11 h a0 1).bind fun a1 =>
    b2 (f_X4_has a1 p1 h) fun x2 h3 =>
    if x2 = 0 then
      f_X11_liked_22 h3
    else
      (gA 11 h3 a0 0).bind fun a4 =>
      b2 (f_X9_at a4 p2 h3) fun q5 h6 =>
      tr q5 (
        f_X11_liked_22 h6) fun a7 =>
      (gA 11 h6 a0 1).bind fun a8 =>
      b2 (f_X4_likedOn a8 p1 p2 h6) fun x9 h10 =>
      some (x9, h10)
  else none
set_option maxRecDepth 100000 in
set_option maxHeartbeats 4000000 in
theorem w_X11_liked {l : Launch} {G : GX} {a0 : Nat} {p1 : Int32} {p2 : Int32} {h : AH} {rr : Int32} {hr : AH} (hf : f_X11_liked a0 p1 p2 h = some (rr, hr)) : Ct l G yX11_liked 3 66 [.ref a0, .int p1, .int p2] h (QI rr hr) := by
  unfold f_X11_liked at hf
  obtain ⟨ho, hf⟩ := ifO hf
  refine Ct_of (own := RX11) (cc := cX11_liked) (nL := 3) (ret := (some .int)) rfl rfl k_1290 (Nat.le_of_ble_eq_true rfl) (fun X C2 C => ?_)
  show V X G h (QI rr hr) 0 [(0, .ref a0), (1, .int p1), (2, .int p2)] [] h
  refine C.seg (pe := 1) (lv' := [(0, .ref a0), (1, .int p1), (2, .int p2)]) (st' := [.ref a0]) [(.aload_n 0, 1, 0)] (by decide +kernel) rfl ?_
  obtain ⟨a1, ga1, hf⟩ := Option.bind_eq_some_iff.mp hf
  refine C.rdA fr_561 ga1 (by decide +kernel) rfl ?_
  refine C.seg (pe := 5) (lv' := [(0, .ref a0), (1, .int p1), (2, .int p2)]) (st' := [.int p1, .ref a1]) [(.iload_n 1, 1, 0)] (by decide +kernel) rfl ?_
  obtain ⟨x2, h3, gx2, hf⟩ := b2_some hf
  refine C.callVr C2 [.int p1] [] mv_1259 rfl (o_X4_has gx2) (w_X4_has gx2) (by omega) (by omega) (Nat.le_of_ble_eq_true rfl) (by decide +kernel) rfl ?_
  refine C.if_eq (off := 14) (tgt := 22) (pf := 11) (by decide +kernel) (by decide) rfl (fun c11 => ?_) (fun c11 => ?_)
  · replace hf := ifp c11 hf
    refine Vsub [] rfl ?_
    exact l_X11_liked_22 C C2 h3 hf
  · replace hf := ifn c11 hf
    refine C.seg (pe := 12) (lv' := [(0, .ref a0), (1, .int p1), (2, .int p2)]) (st' := [.ref a0]) [(.aload_n 0, 1, 0)] (by decide +kernel) rfl ?_
    obtain ⟨a4, ga4, hf⟩ := Option.bind_eq_some_iff.mp hf
    refine C.rdA fr_560 ga4 (by decide +kernel) rfl ?_
    refine C.seg (pe := 16) (lv' := [(0, .ref a0), (1, .int p1), (2, .int p2)]) (st' := [.int p2, .ref a4]) [(.iload_n 2, 1, 0)] (by decide +kernel) rfl ?_
    obtain ⟨q5, h6, gq5, hf⟩ := b2_some hf
    cases q5 with
    | none =>
      replace hf := tr_none hf
      refine C.callVr C2 [.int p2] [] mv_720 rfl (o_X9_at gq5) (w_X9_at gq5) (by omega) (by omega) (Nat.le_of_ble_eq_true rfl) (by decide +kernel) rfl ?_
      refine C.nonnullN (off := 5) (pf := 22) (by decide +kernel) rfl ?_
      refine Vsub [] rfl ?_
      exact l_X11_liked_22 C C2 h6 hf
    | some a7 =>
      replace hf := tr_some hf
      refine C.callVr C2 [.int p2] [] mv_720 rfl (o_X9_at gq5) (w_X9_at gq5) (by omega) (by omega) (Nat.le_of_ble_eq_true rfl) (by decide +kernel) rfl ?_
      refine C.nonnullR (off := 5) (tgt := 24) (by decide +kernel) (by decide) ?_
      refine C.seg (pe := 25) (lv' := [(0, .ref a0), (1, .int p1), (2, .int p2)]) (st' := [.ref a0]) [(.aload_n 0, 1, 0)] (by decide +kernel) rfl ?_
      obtain ⟨a8, ga8, hf⟩ := Option.bind_eq_some_iff.mp hf
      refine C.rdA fr_561 ga8 (by decide +kernel) rfl ?_
      refine C.seg (pe := 30) (lv' := [(0, .ref a0), (1, .int p1), (2, .int p2)]) (st' := [.int p2, .int p1, .ref a8]) [(.iload_n 1, 1, 0), (.iload_n 2, 1, 0)] (by decide +kernel) rfl ?_
      obtain ⟨x9, h10, gx9, hf⟩ := b2_some hf
      refine C.callVr C2 [.int p1, .int p2] [] mv_1291 rfl (o_X4_likedOn gx9) (w_X4_likedOn gx9) (by omega) (by omega) (Nat.le_of_ble_eq_true rfl) (by decide +kernel) rfl ?_
      cases hf
      exact C.retI rfl (by decide +kernel) ⟨rfl, rfl⟩
theorem o_X11_liked {a0 : Nat} {p1 : Int32} {p2 : Int32} {h : AH} {rr : Int32} {hr : AH} (hf : f_X11_liked a0 p1 p2 h = some (rr, hr)) : isO 11 h a0 = true := by
  unfold f_X11_liked at hf
  exact (ifO hf).1
/-! WallHouse.give(I)I -/
def f_X11_give (a0 : Nat) (p1 : Int32) (h : AH) : Option (Int32 × AH) :=
  if isO 11 h a0 = true then
    (gA 11 h a0 3).bind fun a1 =>
    b2 (f_X3_areWalls a1 p1 h) fun x2 h3 =>
    if x2 = 0 then
      b2 (f_X11_refuse a0 1 h3) fun x20 h21 =>
      some (x20, h21)
    else
      (gA 11 h3 a0 3).bind fun a4 =>
      b2 (f_X3_areFree a4 p1 h3) fun x5 h6 =>
      if x5 = 0 then
        b2 (f_X11_refuse a0 5 h6) fun x17 h18 =>
        some (x17, h18)
      else
        b2 (f_J6_bitCount_0f7a4 p1 h6) fun x7 h8 =>
        if x7 ≤ 6 then
          (gA 11 h8 a0 3).bind fun a9 =>
          b2 (f_X3_giveAll a9 p1 h8) fun x10 h11 =>
          b2 (f_X11_tell a0 x10 h11) fun x12 h13 =>
          some (x12, h13)
        else
          b2 (f_X11_refuse a0 6 h8) fun x14 h15 =>
          some (x14, h15)
  else none
set_option maxRecDepth 100000 in
set_option maxHeartbeats 4000000 in
theorem w_X11_give {l : Launch} {G : GX} {a0 : Nat} {p1 : Int32} {h : AH} {rr : Int32} {hr : AH} (hf : f_X11_give a0 p1 h = some (rr, hr)) : Ct l G yX11_give 362 7248 [.ref a0, .int p1] h (QI rr hr) := by
  unfold f_X11_give at hf
  obtain ⟨ho, hf⟩ := ifO hf
  refine Ct_of (own := RX11) (cc := cX11_give) (nL := 2) (ret := (some .int)) rfl rfl k_1298 (Nat.le_of_ble_eq_true rfl) (fun X C2 C => ?_)
  show V X G h (QI rr hr) 0 [(0, .ref a0), (1, .int p1)] [] h
  refine C.seg (pe := 1) (lv' := [(0, .ref a0), (1, .int p1)]) (st' := [.ref a0]) [(.aload_n 0, 1, 0)] (by decide +kernel) rfl ?_
  obtain ⟨a1, ga1, hf⟩ := Option.bind_eq_some_iff.mp hf
  refine C.rdA fr_563 ga1 (by decide +kernel) rfl ?_
  refine C.seg (pe := 5) (lv' := [(0, .ref a0), (1, .int p1)]) (st' := [.int p1, .ref a1]) [(.iload_n 1, 1, 0)] (by decide +kernel) rfl ?_
  obtain ⟨x2, h3, gx2, hf⟩ := b2_some hf
  refine C.callVr C2 [.int p1] [] mv_1299 rfl (o_X3_areWalls gx2) (w_X3_areWalls gx2) (by omega) (by omega) (Nat.le_of_ble_eq_true rfl) (by decide +kernel) rfl ?_
  refine C.if_ne (off := 9) (tgt := 17) (pf := 11) (by decide +kernel) (by decide) rfl (fun c22 => ?_) (fun c22 => ?_)
  · replace hf := ifn c22 hf
    refine C.seg (pe := 18) (lv' := [(0, .ref a0), (1, .int p1)]) (st' := [.ref a0]) [(.aload_n 0, 1, 0)] (by decide +kernel) rfl ?_
    obtain ⟨a4, ga4, hf⟩ := Option.bind_eq_some_iff.mp hf
    refine C.rdA fr_563 ga4 (by decide +kernel) rfl ?_
    refine C.seg (pe := 22) (lv' := [(0, .ref a0), (1, .int p1)]) (st' := [.int p1, .ref a4]) [(.iload_n 1, 1, 0)] (by decide +kernel) rfl ?_
    obtain ⟨x5, h6, gx5, hf⟩ := b2_some hf
    refine C.callVr C2 [.int p1] [] mv_1303 rfl (o_X3_areFree gx5) (w_X3_areFree gx5) (by omega) (by omega) (Nat.le_of_ble_eq_true rfl) (by decide +kernel) rfl ?_
    refine C.if_ne (off := 9) (tgt := 34) (pf := 28) (by decide +kernel) (by decide) rfl (fun c19 => ?_) (fun c19 => ?_)
    · replace hf := ifn c19 hf
      refine C.seg (pe := 35) (lv' := [(0, .ref a0), (1, .int p1)]) (st' := [.int p1]) [(.iload_n 1, 1, 0)] (by decide +kernel) rfl ?_
      obtain ⟨x7, h8, gx7, hf⟩ := b2_some hf
      refine C.callSr C2 [.int p1] [] ms_1237 rfl (w_J6_bitCount_0f7a4 gx7) (by omega) (by omega) (Nat.le_of_ble_eq_true rfl) (by decide +kernel) rfl ?_
      refine C.seg (pe := 40) (lv' := [(0, .ref a0), (1, .int p1)]) (st' := [.int 6, .int x7]) [(.bipush 6, 2, 6)] (by decide +kernel) rfl ?_
      refine C.icmp_le (off := 10) (tgt := 50) (pf := 43) (by decide +kernel) (by decide) rfl (fun c16 => ?_) (fun c16 => ?_)
      · replace hf := ifp c16 hf
        refine C.seg (pe := 52) (lv' := [(0, .ref a0), (1, .int p1)]) (st' := [.ref a0, .ref a0]) [(.aload_n 0, 1, 0), (.aload_n 0, 1, 0)] (by decide +kernel) rfl ?_
        obtain ⟨a9, ga9, hf⟩ := Option.bind_eq_some_iff.mp hf
        refine C.rdA fr_563 ga9 (by decide +kernel) rfl ?_
        refine C.seg (pe := 56) (lv' := [(0, .ref a0), (1, .int p1)]) (st' := [.int p1, .ref a9, .ref a0]) [(.iload_n 1, 1, 0)] (by decide +kernel) rfl ?_
        obtain ⟨x10, h11, gx10, hf⟩ := b2_some hf
        refine C.callVr C2 [.int p1] [.ref a0] mv_1310 rfl (o_X3_giveAll gx10) (w_X3_giveAll gx10) (by omega) (by omega) (Nat.le_of_ble_eq_true rfl) (by decide +kernel) rfl ?_
        obtain ⟨x12, h13, gx12, hf⟩ := b2_some hf
        refine C.callVr C2 [.int x10] [] mv_712 rfl (o_X11_tell gx12) (w_X11_tell gx12) (by omega) (by omega) (Nat.le_of_ble_eq_true rfl) (by decide +kernel) rfl ?_
        cases hf
        exact C.retI rfl (by decide +kernel) ⟨rfl, rfl⟩
      · replace hf := ifn c16 hf
        refine C.seg (pe := 46) (lv' := [(0, .ref a0), (1, .int p1)]) (st' := [.int 6, .ref a0]) [(.aload_n 0, 1, 0), (.bipush 6, 2, 6)] (by decide +kernel) rfl ?_
        obtain ⟨x14, h15, gx14, hf⟩ := b2_some hf
        refine C.callVr C2 [.int 6] [] mv_625 rfl (o_X11_refuse gx14) (w_X11_refuse gx14) (by omega) (by omega) (Nat.le_of_ble_eq_true rfl) (by decide +kernel) rfl ?_
        cases hf
        exact C.retI rfl (by decide +kernel) ⟨rfl, rfl⟩
    · replace hf := ifp c19 hf
      refine C.seg (pe := 30) (lv' := [(0, .ref a0), (1, .int p1)]) (st' := [.int 5, .ref a0]) [(.aload_n 0, 1, 0), (.iconst 5, 1, 5)] (by decide +kernel) rfl ?_
      obtain ⟨x17, h18, gx17, hf⟩ := b2_some hf
      refine C.callVr C2 [.int 5] [] mv_625 rfl (o_X11_refuse gx17) (w_X11_refuse gx17) (by omega) (by omega) (Nat.le_of_ble_eq_true rfl) (by decide +kernel) rfl ?_
      cases hf
      exact C.retI rfl (by decide +kernel) ⟨rfl, rfl⟩
  · replace hf := ifp c22 hf
    refine C.seg (pe := 13) (lv' := [(0, .ref a0), (1, .int p1)]) (st' := [.int 1, .ref a0]) [(.aload_n 0, 1, 0), (.iconst 1, 1, 1)] (by decide +kernel) rfl ?_
    obtain ⟨x20, h21, gx20, hf⟩ := b2_some hf
    refine C.callVr C2 [.int 1] [] mv_625 rfl (o_X11_refuse gx20) (w_X11_refuse gx20) (by omega) (by omega) (Nat.le_of_ble_eq_true rfl) (by decide +kernel) rfl ?_
    cases hf
    exact C.retI rfl (by decide +kernel) ⟨rfl, rfl⟩
theorem o_X11_give {a0 : Nat} {p1 : Int32} {h : AH} {rr : Int32} {hr : AH} (hf : f_X11_give a0 p1 h = some (rr, hr)) : isO 11 h a0 = true := by
  unfold f_X11_give at hf
  exact (ifO hf).1
/-! WallHouse.given(I)I -/
def f_X11_given (a0 : Nat) (p1 : Int32) (h : AH) : Option (Int32 × AH) :=
  if isO 11 h a0 = true then
    (gA 11 h a0 3).bind fun a1 =>
    b2 (f_X3_painterFor a1 p1 h) fun x2 h3 =>
    some (x2, h3)
  else none
set_option maxRecDepth 100000 in
set_option maxHeartbeats 4000000 in
theorem w_X11_given {l : Launch} {G : GX} {a0 : Nat} {p1 : Int32} {h : AH} {rr : Int32} {hr : AH} (hf : f_X11_given a0 p1 h = some (rr, hr)) : Ct l G yX11_given 1 21 [.ref a0, .int p1] h (QI rr hr) := by
  unfold f_X11_given at hf
  obtain ⟨ho, hf⟩ := ifO hf
  refine Ct_of (own := RX11) (cc := cX11_given) (nL := 2) (ret := (some .int)) rfl rfl k_1372 (Nat.le_of_ble_eq_true rfl) (fun X C2 C => ?_)
  show V X G h (QI rr hr) 0 [(0, .ref a0), (1, .int p1)] [] h
  refine C.seg (pe := 1) (lv' := [(0, .ref a0), (1, .int p1)]) (st' := [.ref a0]) [(.aload_n 0, 1, 0)] (by decide +kernel) rfl ?_
  obtain ⟨a1, ga1, hf⟩ := Option.bind_eq_some_iff.mp hf
  refine C.rdA fr_563 ga1 (by decide +kernel) rfl ?_
  refine C.seg (pe := 5) (lv' := [(0, .ref a0), (1, .int p1)]) (st' := [.int p1, .ref a1]) [(.iload_n 1, 1, 0)] (by decide +kernel) rfl ?_
  obtain ⟨x2, h3, gx2, hf⟩ := b2_some hf
  refine C.callVr C2 [.int p1] [] mv_1373 rfl (o_X3_painterFor gx2) (w_X3_painterFor gx2) (by omega) (by omega) (Nat.le_of_ble_eq_true rfl) (by decide +kernel) rfl ?_
  cases hf
  exact C.retI rfl (by decide +kernel) ⟨rfl, rfl⟩
theorem o_X11_given {a0 : Nat} {p1 : Int32} {h : AH} {rr : Int32} {hr : AH} (hf : f_X11_given a0 p1 h = some (rr, hr)) : isO 11 h a0 = true := by
  unfold f_X11_given at hf
  exact (ifO hf).1
/-! WallHouse.work(III)I -/
def f_X11_work_69 (r0 : Nat) (h : AH) : Option (Int32 × AH) :=
  b2 (f_X11_refuse r0 5 h) fun x1 h2 =>
  some (x1, h2)
set_option maxRecDepth 100000 in
set_option maxHeartbeats 4000000 in
theorem l_X11_work_69 {X : MX} {l : Launch} {G : GX} {h0 : AH} {rr : Int32} {hr : AH} (C : Cx X G RX11 cX11_work 6 (some .int) 4 115 h0) (C2 : Cy X l "work" []) (r0 : Nat) (h : AH) (hf : f_X11_work_69 r0 h = some (rr, hr)) : V X G h0 (QI rr hr) 69 [(0, .ref r0)] [] h := by
  unfold f_X11_work_69 at hf
  refine C.seg (pe := 71) (lv' := [(0, .ref r0)]) (st' := [.int 5, .ref r0]) [(.aload_n 0, 1, 0), (.iconst 5, 1, 5)] (by decide +kernel) rfl ?_
  obtain ⟨x1, h2, gx1, hf⟩ := b2_some hf
  refine C.callVr C2 [.int 5] [] mv_625 rfl (o_X11_refuse gx1) (w_X11_refuse gx1) (by omega) (by omega) (Nat.le_of_ble_eq_true rfl) (by decide +kernel) rfl ?_
  cases hf
  exact C.retI rfl (by decide +kernel) ⟨rfl, rfl⟩
def f_X11_work_38 (r0 : Nat) (h : AH) : Option (Int32 × AH) :=
  b2 (f_X11_refuse r0 1 h) fun x1 h2 =>
  some (x1, h2)
set_option maxRecDepth 100000 in
set_option maxHeartbeats 4000000 in
theorem l_X11_work_38 {X : MX} {l : Launch} {G : GX} {h0 : AH} {rr : Int32} {hr : AH} (C : Cx X G RX11 cX11_work 6 (some .int) 4 115 h0) (C2 : Cy X l "work" []) (r0 : Nat) (h : AH) (hf : f_X11_work_38 r0 h = some (rr, hr)) : V X G h0 (QI rr hr) 38 [(0, .ref r0)] [] h := by
  unfold f_X11_work_38 at hf
  refine C.seg (pe := 40) (lv' := [(0, .ref r0)]) (st' := [.int 1, .ref r0]) [(.aload_n 0, 1, 0), (.iconst 1, 1, 1)] (by decide +kernel) rfl ?_
  obtain ⟨x1, h2, gx1, hf⟩ := b2_some hf
  refine C.callVr C2 [.int 1] [] mv_625 rfl (o_X11_refuse gx1) (w_X11_refuse gx1) (by omega) (by omega) (Nat.le_of_ble_eq_true rfl) (by decide +kernel) rfl ?_
  cases hf
  exact C.retI rfl (by decide +kernel) ⟨rfl, rfl⟩
def f_X11_work (a0 : Nat) (p1 : Int32) (p2 : Int32) (p3 : Int32) (h : AH) : Option (Int32 × AH) :=
  if isO 11 h a0 = true then
    (gA 11 h a0 0).bind fun a1 =>
    b2 (f_X9_at a1 p1 h) fun q2 h3 =>
    tr q2 (
      b2 (f_X11_drawingAt a0 p3 h3) fun q5 h6 =>
      tr q5 (
        f_X11_work_38 a0 h6) fun a7 =>
      f_X11_work_38 a0 h6) fun a4 =>
    b2 (f_X11_drawingAt a0 p3 h3) fun q8 h9 =>
    tr q8 (
      f_X11_work_38 a0 h9) fun a10 =>
    (gA 11 h9 a0 1).bind fun a11 =>
    b2 (f_X4_has a11 p2 h9) fun x12 h13 =>
    if x12 = 0 then
      f_X11_work_38 a0 h13
    else
      (gA 11 h13 a0 2).bind fun a14 =>
      b2 (f_X10_year a14 h13) fun x15 h16 =>
      b2 (f_X8_hasLeave a4 x15 h16) fun x17 h18 =>
      if x17 = 0 then
        f_X11_work_69 a0 h18
      else
        (gI 8 h18 a4 8).bind fun x19 =>
        if x19 = (-2) then
          (gA 11 h18 a0 15).bind fun a20 =>
          (gI 11 h18 a0 12).bind fun x21 =>
          (f_X0_paint a20 a10 a4 x21 h18).bind fun h22 =>
          (gA 11 h22 a0 15).bind fun a23 =>
          (gI 0 h22 a23 6).bind fun x24 =>
          if x24 = 0 then
            (gA 11 h22 a0 2).bind fun a25 =>
            (gI 10 h22 a25 1).bind fun x26 =>
            if x26 < 40 then
              (gA 11 h22 a0 15).bind fun a27 =>
              (gA 0 h22 a27 0).bind fun a28 =>
              (f_X8_plan a4 a28 h22).bind fun h29 =>
              (gA 11 h29 a0 1).bind fun a30 =>
              (f_X4_countWork a30 p2 h29).bind fun h31 =>
              (gA 11 h31 a0 2).bind fun a32 =>
              (gA 11 h31 a0 15).bind fun a33 =>
              b2 (f_X0_painted a33 h31) fun x34 h35 =>
              b2 (f_X10_begin a32 p1 p2 p3 x34 h35) fun x36 h37 =>
              b2 (f_X11_tell a0 x36 h37) fun x38 h39 =>
              some (x38, h39)
            else
              b2 (f_X11_refuse a0 3 h22) fun x40 h41 =>
              some (x40, h41)
          else
            b2 (f_X11_refuse a0 5 h22) fun x43 h44 =>
            some (x43, h44)
        else
          f_X11_work_69 a0 h18
  else none
set_option maxRecDepth 100000 in
set_option maxHeartbeats 4000000 in
theorem w_X11_work {l : Launch} {G : GX} {a0 : Nat} {p1 : Int32} {p2 : Int32} {p3 : Int32} {h : AH} {rr : Int32} {hr : AH} (hf : f_X11_work a0 p1 p2 p3 h = some (rr, hr)) : Ct l G yX11_work 4 115 [.ref a0, .int p1, .int p2, .int p3] h (QI rr hr) := by
  unfold f_X11_work at hf
  obtain ⟨ho, hf⟩ := ifO hf
  refine Ct_of (own := RX11) (cc := cX11_work) (nL := 6) (ret := (some .int)) rfl rfl k_1380 (Nat.le_of_ble_eq_true rfl) (fun X C2 C => ?_)
  show V X G h (QI rr hr) 0 [(0, .ref a0), (1, .int p1), (2, .int p2), (3, .int p3)] [] h
  refine C.seg (pe := 1) (lv' := [(0, .ref a0), (1, .int p1), (2, .int p2), (3, .int p3)]) (st' := [.ref a0]) [(.aload_n 0, 1, 0)] (by decide +kernel) rfl ?_
  obtain ⟨a1, ga1, hf⟩ := Option.bind_eq_some_iff.mp hf
  refine C.rdA fr_560 ga1 (by decide +kernel) rfl ?_
  refine C.seg (pe := 5) (lv' := [(0, .ref a0), (1, .int p1), (2, .int p2), (3, .int p3)]) (st' := [.int p1, .ref a1]) [(.iload_n 1, 1, 0)] (by decide +kernel) rfl ?_
  obtain ⟨q2, h3, gq2, hf⟩ := b2_some hf
  cases q2 with
  | none =>
    replace hf := tr_none hf
    refine C.callVr C2 [.int p1] [] mv_720 rfl (o_X9_at gq2) (w_X9_at gq2) (by omega) (by omega) (Nat.le_of_ble_eq_true rfl) (by decide +kernel) rfl ?_
    refine C.seg (pe := 12) (lv' := [(4, .null), (0, .ref a0), (1, .int p1), (2, .int p2), (3, .int p3)]) (st' := [.int p3, .ref a0]) [(.astore 4, 2, 0), (.aload_n 0, 1, 0), (.iload_n 3, 1, 0)] (by decide +kernel) rfl ?_
    obtain ⟨q5, h6, gq5, hf⟩ := b2_some hf
    cases q5 with
    | none =>
      replace hf := tr_none hf
      refine C.callVr C2 [.int p3] [] mv_1142 rfl (o_X11_drawingAt gq5) (w_X11_drawingAt gq5) (by omega) (by omega) (Nat.le_of_ble_eq_true rfl) (by decide +kernel) rfl ?_
      refine C.seg (pe := 19) (lv' := [(5, .null), (4, .null), (0, .ref a0), (1, .int p1), (2, .int p2), (3, .int p3)]) (st' := [.null]) [(.astore 5, 2, 0), (.aload 4, 2, 0)] (by decide +kernel) rfl ?_
      refine C.nullN (off := 19) (tgt := 38) (by decide +kernel) (by decide) ?_
      refine Vsub [2] rfl ?_
      exact l_X11_work_38 C C2 a0 h6 hf
    | some a7 =>
      replace hf := tr_some hf
      refine C.callVr C2 [.int p3] [] mv_1142 rfl (o_X11_drawingAt gq5) (w_X11_drawingAt gq5) (by omega) (by omega) (Nat.le_of_ble_eq_true rfl) (by decide +kernel) rfl ?_
      refine C.seg (pe := 19) (lv' := [(5, .ref a7), (4, .null), (0, .ref a0), (1, .int p1), (2, .int p2), (3, .int p3)]) (st' := [.null]) [(.astore 5, 2, 0), (.aload 4, 2, 0)] (by decide +kernel) rfl ?_
      refine C.nullN (off := 19) (tgt := 38) (by decide +kernel) (by decide) ?_
      refine Vsub [2] rfl ?_
      exact l_X11_work_38 C C2 a0 h6 hf
  | some a4 =>
    replace hf := tr_some hf
    refine C.callVr C2 [.int p1] [] mv_720 rfl (o_X9_at gq2) (w_X9_at gq2) (by omega) (by omega) (Nat.le_of_ble_eq_true rfl) (by decide +kernel) rfl ?_
    refine C.seg (pe := 12) (lv' := [(4, .ref a4), (0, .ref a0), (1, .int p1), (2, .int p2), (3, .int p3)]) (st' := [.int p3, .ref a0]) [(.astore 4, 2, 0), (.aload_n 0, 1, 0), (.iload_n 3, 1, 0)] (by decide +kernel) rfl ?_
    obtain ⟨q8, h9, gq8, hf⟩ := b2_some hf
    cases q8 with
    | none =>
      replace hf := tr_none hf
      refine C.callVr C2 [.int p3] [] mv_1142 rfl (o_X11_drawingAt gq8) (w_X11_drawingAt gq8) (by omega) (by omega) (Nat.le_of_ble_eq_true rfl) (by decide +kernel) rfl ?_
      refine C.seg (pe := 19) (lv' := [(5, .null), (4, .ref a4), (0, .ref a0), (1, .int p1), (2, .int p2), (3, .int p3)]) (st' := [.ref a4]) [(.astore 5, 2, 0), (.aload 4, 2, 0)] (by decide +kernel) rfl ?_
      refine C.nullR (off := 19) (pf := 22) (by decide +kernel) rfl ?_
      refine C.seg (pe := 24) (lv' := [(5, .null), (4, .ref a4), (0, .ref a0), (1, .int p1), (2, .int p2), (3, .int p3)]) (st' := [.null]) [(.aload 5, 2, 0)] (by decide +kernel) rfl ?_
      refine C.nullN (off := 14) (tgt := 38) (by decide +kernel) (by decide) ?_
      refine Vsub [2] rfl ?_
      exact l_X11_work_38 C C2 a0 h9 hf
    | some a10 =>
      replace hf := tr_some hf
      refine C.callVr C2 [.int p3] [] mv_1142 rfl (o_X11_drawingAt gq8) (w_X11_drawingAt gq8) (by omega) (by omega) (Nat.le_of_ble_eq_true rfl) (by decide +kernel) rfl ?_
      refine C.seg (pe := 19) (lv' := [(5, .ref a10), (4, .ref a4), (0, .ref a0), (1, .int p1), (2, .int p2), (3, .int p3)]) (st' := [.ref a4]) [(.astore 5, 2, 0), (.aload 4, 2, 0)] (by decide +kernel) rfl ?_
      refine C.nullR (off := 19) (pf := 22) (by decide +kernel) rfl ?_
      refine C.seg (pe := 24) (lv' := [(5, .ref a10), (4, .ref a4), (0, .ref a0), (1, .int p1), (2, .int p2), (3, .int p3)]) (st' := [.ref a10]) [(.aload 5, 2, 0)] (by decide +kernel) rfl ?_
      refine C.nullR (off := 14) (pf := 27) (by decide +kernel) rfl ?_
      refine C.seg (pe := 28) (lv' := [(5, .ref a10), (4, .ref a4), (0, .ref a0), (1, .int p1), (2, .int p2), (3, .int p3)]) (st' := [.ref a0]) [(.aload_n 0, 1, 0)] (by decide +kernel) rfl ?_
      obtain ⟨a11, ga11, hf⟩ := Option.bind_eq_some_iff.mp hf
      refine C.rdA fr_561 ga11 (by decide +kernel) rfl ?_
      refine C.seg (pe := 32) (lv' := [(5, .ref a10), (4, .ref a4), (0, .ref a0), (1, .int p1), (2, .int p2), (3, .int p3)]) (st' := [.int p2, .ref a11]) [(.iload_n 2, 1, 0)] (by decide +kernel) rfl ?_
      obtain ⟨x12, h13, gx12, hf⟩ := b2_some hf
      refine C.callVr C2 [.int p2] [] mv_1259 rfl (o_X4_has gx12) (w_X4_has gx12) (by omega) (by omega) (Nat.le_of_ble_eq_true rfl) (by decide +kernel) rfl ?_
      refine C.if_ne (off := 9) (tgt := 44) (pf := 38) (by decide +kernel) (by decide) rfl (fun c48 => ?_) (fun c48 => ?_)
      · replace hf := ifn c48 hf
        refine C.seg (pe := 47) (lv' := [(5, .ref a10), (4, .ref a4), (0, .ref a0), (1, .int p1), (2, .int p2), (3, .int p3)]) (st' := [.ref a0, .ref a4]) [(.aload 4, 2, 0), (.aload_n 0, 1, 0)] (by decide +kernel) rfl ?_
        obtain ⟨a14, ga14, hf⟩ := Option.bind_eq_some_iff.mp hf
        refine C.rdA fr_562 ga14 (by decide +kernel) rfl ?_
        obtain ⟨x15, h16, gx15, hf⟩ := b2_some hf
        refine C.callVr C2 [] [.ref a4] mv_724 rfl (o_X10_year gx15) (w_X10_year gx15) (by omega) (by omega) (Nat.le_of_ble_eq_true rfl) (by decide +kernel) rfl ?_
        obtain ⟨x17, h18, gx17, hf⟩ := b2_some hf
        refine C.callVr C2 [.int x15] [] mv_728 rfl (o_X8_hasLeave gx17) (w_X8_hasLeave gx17) (by omega) (by omega) (Nat.le_of_ble_eq_true rfl) (by decide +kernel) rfl ?_
        refine C.if_eq (off := 13) (tgt := 69) (pf := 59) (by decide +kernel) (by decide) rfl (fun c47 => ?_) (fun c47 => ?_)
        · replace hf := ifp c47 hf
          refine Vsub [2] rfl ?_
          exact l_X11_work_69 C C2 a0 h18 hf
        · replace hf := ifn c47 hf
          refine C.seg (pe := 61) (lv' := [(5, .ref a10), (4, .ref a4), (0, .ref a0), (1, .int p1), (2, .int p2), (3, .int p3)]) (st' := [.ref a4]) [(.aload 4, 2, 0)] (by decide +kernel) rfl ?_
          obtain ⟨x19, gx19, hf⟩ := Option.bind_eq_some_iff.mp hf
          refine C.rdI fr_661 gx19 (by decide +kernel) rfl ?_
          refine C.seg (pe := 66) (lv' := [(5, .ref a10), (4, .ref a4), (0, .ref a0), (1, .int p1), (2, .int p2), (3, .int p3)]) (st' := [.int (-2), .int x19]) [(.bipush (-2), 2, (-2))] (by decide +kernel) rfl ?_
          refine C.icmp_eq (off := 9) (tgt := 75) (pf := 69) (by decide +kernel) (by decide) rfl (fun c46 => ?_) (fun c46 => ?_)
          · replace hf := ifp c46 hf
            refine C.seg (pe := 76) (lv' := [(5, .ref a10), (4, .ref a4), (0, .ref a0), (1, .int p1), (2, .int p2), (3, .int p3)]) (st' := [.ref a0]) [(.aload_n 0, 1, 0)] (by decide +kernel) rfl ?_
            obtain ⟨a20, ga20, hf⟩ := Option.bind_eq_some_iff.mp hf
            refine C.rdA fr_575 ga20 (by decide +kernel) rfl ?_
            refine C.seg (pe := 84) (lv' := [(5, .ref a10), (4, .ref a4), (0, .ref a0), (1, .int p1), (2, .int p2), (3, .int p3)]) (st' := [.ref a0, .ref a4, .ref a10, .ref a20]) [(.aload 5, 2, 0), (.aload 4, 2, 0), (.aload_n 0, 1, 0)] (by decide +kernel) rfl ?_
            obtain ⟨x21, gx21, hf⟩ := Option.bind_eq_some_iff.mp hf
            refine C.rdI fr_572 gx21 (by decide +kernel) rfl ?_
            obtain ⟨h22, gh22, hf⟩ := Option.bind_eq_some_iff.mp hf
            refine C.callVr C2 [.ref a10, .ref a4, .int x21] [] mv_1146 rfl (o_X0_paint gh22) (w_X0_paint gh22) (by omega) (by omega) (Nat.le_of_ble_eq_true rfl) (by decide +kernel) rfl ?_
            refine C.seg (pe := 91) (lv' := [(5, .ref a10), (4, .ref a4), (0, .ref a0), (1, .int p1), (2, .int p2), (3, .int p3)]) (st' := [.ref a0]) [(.aload_n 0, 1, 0)] (by decide +kernel) rfl ?_
            obtain ⟨a23, ga23, hf⟩ := Option.bind_eq_some_iff.mp hf
            refine C.rdA fr_575 ga23 (by decide +kernel) rfl ?_
            obtain ⟨x24, gx24, hf⟩ := Option.bind_eq_some_iff.mp hf
            refine C.rdI fr_516 gx24 (by decide +kernel) rfl ?_
            refine C.if_eq (off := 9) (tgt := 106) (pf := 100) (by decide +kernel) (by decide) rfl (fun c45 => ?_) (fun c45 => ?_)
            · replace hf := ifp c45 hf
              refine C.seg (pe := 107) (lv' := [(5, .ref a10), (4, .ref a4), (0, .ref a0), (1, .int p1), (2, .int p2), (3, .int p3)]) (st' := [.ref a0]) [(.aload_n 0, 1, 0)] (by decide +kernel) rfl ?_
              obtain ⟨a25, ga25, hf⟩ := Option.bind_eq_some_iff.mp hf
              refine C.rdA fr_562 ga25 (by decide +kernel) rfl ?_
              obtain ⟨x26, gx26, hf⟩ := Option.bind_eq_some_iff.mp hf
              refine C.rdI fr_226 gx26 (by decide +kernel) rfl ?_
              refine C.seg (pe := 115) (lv' := [(5, .ref a10), (4, .ref a4), (0, .ref a0), (1, .int p1), (2, .int p2), (3, .int p3)]) (st' := [.int 40, .int x26]) [(.bipush 40, 2, 40)] (by decide +kernel) rfl ?_
              refine C.icmp_lt (off := 9) (tgt := 124) (pf := 118) (by decide +kernel) (by decide) rfl (fun c42 => ?_) (fun c42 => ?_)
              · replace hf := ifp c42 hf
                refine C.seg (pe := 127) (lv' := [(5, .ref a10), (4, .ref a4), (0, .ref a0), (1, .int p1), (2, .int p2), (3, .int p3)]) (st' := [.ref a0, .ref a4]) [(.aload 4, 2, 0), (.aload_n 0, 1, 0)] (by decide +kernel) rfl ?_
                obtain ⟨a27, ga27, hf⟩ := Option.bind_eq_some_iff.mp hf
                refine C.rdA fr_575 ga27 (by decide +kernel) rfl ?_
                obtain ⟨a28, ga28, hf⟩ := Option.bind_eq_some_iff.mp hf
                refine C.rdA fr_504 ga28 (by decide +kernel) rfl ?_
                obtain ⟨h29, gh29, hf⟩ := Option.bind_eq_some_iff.mp hf
                refine C.callVr C2 [.ref a28] [] mv_1381 rfl (o_X8_plan gh29) (w_X8_plan gh29) (by omega) (by omega) (Nat.le_of_ble_eq_true rfl) (by decide +kernel) rfl ?_
                refine C.seg (pe := 137) (lv' := [(5, .ref a10), (4, .ref a4), (0, .ref a0), (1, .int p1), (2, .int p2), (3, .int p3)]) (st' := [.ref a0]) [(.aload_n 0, 1, 0)] (by decide +kernel) rfl ?_
                obtain ⟨a30, ga30, hf⟩ := Option.bind_eq_some_iff.mp hf
                refine C.rdA fr_561 ga30 (by decide +kernel) rfl ?_
                refine C.seg (pe := 141) (lv' := [(5, .ref a10), (4, .ref a4), (0, .ref a0), (1, .int p1), (2, .int p2), (3, .int p3)]) (st' := [.int p2, .ref a30]) [(.iload_n 2, 1, 0)] (by decide +kernel) rfl ?_
                obtain ⟨h31, gh31, hf⟩ := Option.bind_eq_some_iff.mp hf
                refine C.callVr C2 [.int p2] [] mv_1385 rfl (o_X4_countWork gh31) (w_X4_countWork gh31) (by omega) (by omega) (Nat.le_of_ble_eq_true rfl) (by decide +kernel) rfl ?_
                refine C.seg (pe := 146) (lv' := [(5, .ref a10), (4, .ref a4), (0, .ref a0), (1, .int p1), (2, .int p2), (3, .int p3)]) (st' := [.ref a0, .ref a0]) [(.aload_n 0, 1, 0), (.aload_n 0, 1, 0)] (by decide +kernel) rfl ?_
                obtain ⟨a32, ga32, hf⟩ := Option.bind_eq_some_iff.mp hf
                refine C.rdA fr_562 ga32 (by decide +kernel) rfl ?_
                refine C.seg (pe := 153) (lv' := [(5, .ref a10), (4, .ref a4), (0, .ref a0), (1, .int p1), (2, .int p2), (3, .int p3)]) (st' := [.ref a0, .int p3, .int p2, .int p1, .ref a32, .ref a0]) [(.iload_n 1, 1, 0), (.iload_n 2, 1, 0), (.iload_n 3, 1, 0), (.aload_n 0, 1, 0)] (by decide +kernel) rfl ?_
                obtain ⟨a33, ga33, hf⟩ := Option.bind_eq_some_iff.mp hf
                refine C.rdA fr_575 ga33 (by decide +kernel) rfl ?_
                obtain ⟨x34, h35, gx34, hf⟩ := b2_some hf
                refine C.callVr C2 [] [.int p3, .int p2, .int p1, .ref a32, .ref a0] mv_1215 rfl (o_X0_painted gx34) (w_X0_painted gx34) (by omega) (by omega) (Nat.le_of_ble_eq_true rfl) (by decide +kernel) rfl ?_
                obtain ⟨x36, h37, gx36, hf⟩ := b2_some hf
                refine C.callVr C2 [.int p1, .int p2, .int p3, .int x34] [.ref a0] mv_1389 rfl (o_X10_begin gx36) (w_X10_begin gx36) (by omega) (by omega) (Nat.le_of_ble_eq_true rfl) (by decide +kernel) rfl ?_
                obtain ⟨x38, h39, gx38, hf⟩ := b2_some hf
                refine C.callVr C2 [.int x36] [] mv_712 rfl (o_X11_tell gx38) (w_X11_tell gx38) (by omega) (by omega) (Nat.le_of_ble_eq_true rfl) (by decide +kernel) rfl ?_
                cases hf
                exact C.retI rfl (by decide +kernel) ⟨rfl, rfl⟩
              · replace hf := ifn c42 hf
                refine C.seg (pe := 120) (lv' := [(5, .ref a10), (4, .ref a4), (0, .ref a0), (1, .int p1), (2, .int p2), (3, .int p3)]) (st' := [.int 3, .ref a0]) [(.aload_n 0, 1, 0), (.iconst 3, 1, 3)] (by decide +kernel) rfl ?_
                obtain ⟨x40, h41, gx40, hf⟩ := b2_some hf
                refine C.callVr C2 [.int 3] [] mv_625 rfl (o_X11_refuse gx40) (w_X11_refuse gx40) (by omega) (by omega) (Nat.le_of_ble_eq_true rfl) (by decide +kernel) rfl ?_
                cases hf
                exact C.retI rfl (by decide +kernel) ⟨rfl, rfl⟩
            · replace hf := ifn c45 hf
              refine C.seg (pe := 102) (lv' := [(5, .ref a10), (4, .ref a4), (0, .ref a0), (1, .int p1), (2, .int p2), (3, .int p3)]) (st' := [.int 5, .ref a0]) [(.aload_n 0, 1, 0), (.iconst 5, 1, 5)] (by decide +kernel) rfl ?_
              obtain ⟨x43, h44, gx43, hf⟩ := b2_some hf
              refine C.callVr C2 [.int 5] [] mv_625 rfl (o_X11_refuse gx43) (w_X11_refuse gx43) (by omega) (by omega) (Nat.le_of_ble_eq_true rfl) (by decide +kernel) rfl ?_
              cases hf
              exact C.retI rfl (by decide +kernel) ⟨rfl, rfl⟩
          · replace hf := ifn c46 hf
            refine Vsub [2] rfl ?_
            exact l_X11_work_69 C C2 a0 h18 hf
      · replace hf := ifp c48 hf
        refine Vsub [2] rfl ?_
        exact l_X11_work_38 C C2 a0 h13 hf
theorem o_X11_work {a0 : Nat} {p1 : Int32} {p2 : Int32} {p3 : Int32} {h : AH} {rr : Int32} {hr : AH} (hf : f_X11_work a0 p1 p2 p3 h = some (rr, hr)) : isO 11 h a0 = true := by
  unfold f_X11_work at hf
  exact (ifO hf).1
/-! WallHouse.workOf(II)I -/
def f_X11_workOf (a0 : Nat) (p1 : Int32) (p2 : Int32) (h : AH) : Option (Int32 × AH) :=
  if isO 11 h a0 = true then
    (gA 11 h a0 2).bind fun a1 =>
    b2 (f_X10_tellOf a1 p1 p2 h) fun x2 h3 =>
    some (x2, h3)
  else none
set_option maxRecDepth 100000 in
set_option maxHeartbeats 4000000 in
theorem w_X11_workOf {l : Launch} {G : GX} {a0 : Nat} {p1 : Int32} {p2 : Int32} {h : AH} {rr : Int32} {hr : AH} (hf : f_X11_workOf a0 p1 p2 h = some (rr, hr)) : Ct l G yX11_workOf 2 43 [.ref a0, .int p1, .int p2] h (QI rr hr) := by
  unfold f_X11_workOf at hf
  obtain ⟨ho, hf⟩ := ifO hf
  refine Ct_of (own := RX11) (cc := cX11_workOf) (nL := 3) (ret := (some .int)) rfl rfl k_1398 (Nat.le_of_ble_eq_true rfl) (fun X C2 C => ?_)
  show V X G h (QI rr hr) 0 [(0, .ref a0), (1, .int p1), (2, .int p2)] [] h
  refine C.seg (pe := 1) (lv' := [(0, .ref a0), (1, .int p1), (2, .int p2)]) (st' := [.ref a0]) [(.aload_n 0, 1, 0)] (by decide +kernel) rfl ?_
  obtain ⟨a1, ga1, hf⟩ := Option.bind_eq_some_iff.mp hf
  refine C.rdA fr_562 ga1 (by decide +kernel) rfl ?_
  refine C.seg (pe := 6) (lv' := [(0, .ref a0), (1, .int p1), (2, .int p2)]) (st' := [.int p2, .int p1, .ref a1]) [(.iload_n 1, 1, 0), (.iload_n 2, 1, 0)] (by decide +kernel) rfl ?_
  obtain ⟨x2, h3, gx2, hf⟩ := b2_some hf
  refine C.callVr C2 [.int p1, .int p2] [] mv_1399 rfl (o_X10_tellOf gx2) (w_X10_tellOf gx2) (by omega) (by omega) (Nat.le_of_ble_eq_true rfl) (by decide +kernel) rfl ?_
  cases hf
  exact C.retI rfl (by decide +kernel) ⟨rfl, rfl⟩
theorem o_X11_workOf {a0 : Nat} {p1 : Int32} {p2 : Int32} {h : AH} {rr : Int32} {hr : AH} (hf : f_X11_workOf a0 p1 p2 h = some (rr, hr)) : isO 11 h a0 = true := by
  unfold f_X11_workOf at hf
  exact (ifO hf).1
/-! WallHouse.weather(III)Z -/
def f_X11_weather_65 (r0 : Nat) (si0 : Int32) (si1 : Int32) (sr2 : Nat) (h : AH) : Option (Int32 × AH) :=
  (f_X10_setDay sr2 si1 si0 h).bind fun h1 =>
  b2 (f_X11_grant r0 h1) fun x2 h3 =>
  (ckZ x2).bind fun x4 =>
  some (x4, h3)
set_option maxRecDepth 100000 in
set_option maxHeartbeats 4000000 in
theorem l_X11_weather_65 {X : MX} {l : Launch} {G : GX} {h0 : AH} {rr : Int32} {hr : AH} (C : Cx X G RX11 cX11_weather 4 (some .boolean) 2 62 h0) (C2 : Cy X l "weather" []) (r0 : Nat) (si0 : Int32) (si1 : Int32) (sr2 : Nat) (h : AH) (hf : f_X11_weather_65 r0 si0 si1 sr2 h = some (rr, hr)) : V X G h0 (QI rr hr) 65 [(0, .ref r0)] [.int si0, .int si1, .ref sr2] h := by
  unfold f_X11_weather_65 at hf
  obtain ⟨h1, gh1, hf⟩ := Option.bind_eq_some_iff.mp hf
  refine C.callVr C2 [.int si1, .int si0] [] mv_1404 rfl (o_X10_setDay gh1) (w_X10_setDay gh1) (by omega) (by omega) (Nat.le_of_ble_eq_true rfl) (by decide +kernel) rfl ?_
  refine C.seg (pe := 69) (lv' := [(0, .ref r0)]) (st' := [.ref r0]) [(.aload_n 0, 1, 0)] (by decide +kernel) rfl ?_
  obtain ⟨x2, h3, gx2, hf⟩ := b2_some hf
  refine C.callVr C2 [] [] mv_769 rfl (o_X11_grant gx2) (w_X11_grant gx2) (by omega) (by omega) (Nat.le_of_ble_eq_true rfl) (by decide +kernel) rfl ?_
  obtain ⟨x4, gx4, hf⟩ := Option.bind_eq_some_iff.mp hf
  have ex4 := ckZ_eq gx4
  subst ex4
  cases hf
  exact C.retZ rfl gx4 (by decide +kernel) ⟨rfl, rfl⟩
def f_X11_weather_64 (r0 : Nat) (si0 : Int32) (sr1 : Nat) (h : AH) : Option (Int32 × AH) :=
  f_X11_weather_65 r0 0 si0 sr1 h
set_option maxRecDepth 100000 in
set_option maxHeartbeats 4000000 in
theorem l_X11_weather_64 {X : MX} {l : Launch} {G : GX} {h0 : AH} {rr : Int32} {hr : AH} (C : Cx X G RX11 cX11_weather 4 (some .boolean) 2 62 h0) (C2 : Cy X l "weather" []) (r0 : Nat) (si0 : Int32) (sr1 : Nat) (h : AH) (hf : f_X11_weather_64 r0 si0 sr1 h = some (rr, hr)) : V X G h0 (QI rr hr) 64 [(0, .ref r0)] [.int si0, .ref sr1] h := by
  unfold f_X11_weather_64 at hf
  refine C.seg (pe := 65) (lv' := [(0, .ref r0)]) (st' := [.int 0, .int si0, .ref sr1]) [(.iconst 0, 1, 0)] (by decide +kernel) rfl ?_
  exact l_X11_weather_65 C C2 r0 0 si0 sr1 h hf
def f_X11_weather_39 (r0 : Nat) (h : AH) : Option (Int32 × AH) :=
  b2 (f_X11_deny r0 2 h) fun x1 h2 =>
  (ckZ x1).bind fun x3 =>
  some (x3, h2)
set_option maxRecDepth 100000 in
set_option maxHeartbeats 4000000 in
theorem l_X11_weather_39 {X : MX} {l : Launch} {G : GX} {h0 : AH} {rr : Int32} {hr : AH} (C : Cx X G RX11 cX11_weather 4 (some .boolean) 2 62 h0) (C2 : Cy X l "weather" []) (r0 : Nat) (h : AH) (hf : f_X11_weather_39 r0 h = some (rr, hr)) : V X G h0 (QI rr hr) 39 [(0, .ref r0)] [] h := by
  unfold f_X11_weather_39 at hf
  refine C.seg (pe := 41) (lv' := [(0, .ref r0)]) (st' := [.int 2, .ref r0]) [(.aload_n 0, 1, 0), (.iconst 2, 1, 2)] (by decide +kernel) rfl ?_
  obtain ⟨x1, h2, gx1, hf⟩ := b2_some hf
  refine C.callVr C2 [.int 2] [] mv_761 rfl (o_X11_deny gx1) (w_X11_deny gx1) (by omega) (by omega) (Nat.le_of_ble_eq_true rfl) (by decide +kernel) rfl ?_
  obtain ⟨x3, gx3, hf⟩ := Option.bind_eq_some_iff.mp hf
  have ex3 := ckZ_eq gx3
  subst ex3
  cases hf
  exact C.retZ rfl gx3 (by decide +kernel) ⟨rfl, rfl⟩
def f_X11_weather (a0 : Nat) (p1 : Int32) (p2 : Int32) (p3 : Int32) (h : AH) : Option (Int32 × AH) :=
  if isO 11 h a0 = true then
    (gA 11 h a0 2).bind fun a1 =>
    (gI 10 h a1 14).bind fun x2 =>
    b2 (f_X11_within p1 x2 3649 h) fun x3 h4 =>
    if x3 = 0 then
      f_X11_weather_39 a0 h4
    else
      b2 (f_X11_within p2 (-40) 50 h4) fun x5 h6 =>
      if x5 = 0 then
        f_X11_weather_39 a0 h6
      else
        b2 (f_X11_within p3 0 200 h6) fun x7 h8 =>
        if x7 = 0 then
          f_X11_weather_39 a0 h8
        else
          (gA 11 h8 a0 2).bind fun a9 =>
          if p2 < 10 then
            f_X11_weather_64 a0 p1 a9 h8
          else
            if p3 = 0 then
              f_X11_weather_65 a0 1 p1 a9 h8
            else
              f_X11_weather_64 a0 p1 a9 h8
  else none
set_option maxRecDepth 100000 in
set_option maxHeartbeats 4000000 in
theorem w_X11_weather {l : Launch} {G : GX} {a0 : Nat} {p1 : Int32} {p2 : Int32} {p3 : Int32} {h : AH} {rr : Int32} {hr : AH} (hf : f_X11_weather a0 p1 p2 p3 h = some (rr, hr)) : Ct l G yX11_weather 2 62 [.ref a0, .int p1, .int p2, .int p3] h (QI rr hr) := by
  unfold f_X11_weather at hf
  obtain ⟨ho, hf⟩ := ifO hf
  refine Ct_of (own := RX11) (cc := cX11_weather) (nL := 4) (ret := (some .boolean)) rfl rfl k_1403 (Nat.le_of_ble_eq_true rfl) (fun X C2 C => ?_)
  show V X G h (QI rr hr) 0 [(0, .ref a0), (1, .int p1), (2, .int p2), (3, .int p3)] [] h
  refine C.seg (pe := 2) (lv' := [(0, .ref a0), (1, .int p1), (2, .int p2), (3, .int p3)]) (st' := [.ref a0, .int p1]) [(.iload_n 1, 1, 0), (.aload_n 0, 1, 0)] (by decide +kernel) rfl ?_
  obtain ⟨a1, ga1, hf⟩ := Option.bind_eq_some_iff.mp hf
  refine C.rdA fr_562 ga1 (by decide +kernel) rfl ?_
  obtain ⟨x2, gx2, hf⟩ := Option.bind_eq_some_iff.mp hf
  refine C.rdI fr_241 gx2 (by decide +kernel) rfl ?_
  refine C.seg (pe := 11) (lv' := [(0, .ref a0), (1, .int p1), (2, .int p2), (3, .int p3)]) (st' := [.int 3649, .int x2, .int p1]) [(.sipush 3649, 3, 3649)] (by decide +kernel) rfl ?_
  obtain ⟨x3, h4, gx3, hf⟩ := b2_some hf
  refine C.callSr C2 [.int p1, .int x2, .int 3649] [] ms_622 rfl (w_X11_within gx3) (by omega) (by omega) (Nat.le_of_ble_eq_true rfl) (by decide +kernel) rfl ?_
  refine C.if_eq (off := 25) (tgt := 39) (pf := 17) (by decide +kernel) (by decide) rfl (fun c14 => ?_) (fun c14 => ?_)
  · replace hf := ifp c14 hf
    refine Vsub [0] rfl ?_
    exact l_X11_weather_39 C C2 a0 h4 hf
  · replace hf := ifn c14 hf
    refine C.seg (pe := 22) (lv' := [(0, .ref a0), (1, .int p1), (2, .int p2), (3, .int p3)]) (st' := [.int 50, .int (-40), .int p2]) [(.iload_n 2, 1, 0), (.bipush (-40), 2, (-40)), (.bipush 50, 2, 50)] (by decide +kernel) rfl ?_
    obtain ⟨x5, h6, gx5, hf⟩ := b2_some hf
    refine C.callSr C2 [.int p2, .int (-40), .int 50] [] ms_622 rfl (w_X11_within gx5) (by omega) (by omega) (Nat.le_of_ble_eq_true rfl) (by decide +kernel) rfl ?_
    refine C.if_eq (off := 14) (tgt := 39) (pf := 28) (by decide +kernel) (by decide) rfl (fun c13 => ?_) (fun c13 => ?_)
    · replace hf := ifp c13 hf
      refine Vsub [0] rfl ?_
      exact l_X11_weather_39 C C2 a0 h6 hf
    · replace hf := ifn c13 hf
      refine C.seg (pe := 33) (lv' := [(0, .ref a0), (1, .int p1), (2, .int p2), (3, .int p3)]) (st' := [.int 200, .int 0, .int p3]) [(.iload_n 3, 1, 0), (.iconst 0, 1, 0), (.sipush 200, 3, 200)] (by decide +kernel) rfl ?_
      obtain ⟨x7, h8, gx7, hf⟩ := b2_some hf
      refine C.callSr C2 [.int p3, .int 0, .int 200] [] ms_622 rfl (w_X11_within gx7) (by omega) (by omega) (Nat.le_of_ble_eq_true rfl) (by decide +kernel) rfl ?_
      refine C.if_ne (off := 9) (tgt := 45) (pf := 39) (by decide +kernel) (by decide) rfl (fun c12 => ?_) (fun c12 => ?_)
      · replace hf := ifn c12 hf
        refine C.seg (pe := 46) (lv' := [(0, .ref a0), (1, .int p1), (2, .int p2), (3, .int p3)]) (st' := [.ref a0]) [(.aload_n 0, 1, 0)] (by decide +kernel) rfl ?_
        obtain ⟨a9, ga9, hf⟩ := Option.bind_eq_some_iff.mp hf
        refine C.rdA fr_562 ga9 (by decide +kernel) rfl ?_
        refine C.seg (pe := 53) (lv' := [(0, .ref a0), (1, .int p1), (2, .int p2), (3, .int p3)]) (st' := [.int 10, .int p2, .int p1, .ref a9]) [(.iload_n 1, 1, 0), (.iload_n 2, 1, 0), (.bipush 10, 2, 10)] (by decide +kernel) rfl ?_
        refine C.icmp_lt (off := 11) (tgt := 64) (pf := 56) (by decide +kernel) (by decide) rfl (fun c11 => ?_) (fun c11 => ?_)
        · replace hf := ifp c11 hf
          refine Vsub [0] rfl ?_
          exact l_X11_weather_64 C C2 a0 p1 a9 h8 hf
        · replace hf := ifn c11 hf
          refine C.seg (pe := 57) (lv' := [(0, .ref a0), (1, .int p1), (2, .int p2), (3, .int p3)]) (st' := [.int p3, .int p1, .ref a9]) [(.iload_n 3, 1, 0)] (by decide +kernel) rfl ?_
          refine C.if_ne (off := 7) (tgt := 64) (pf := 60) (by decide +kernel) (by decide) rfl (fun c10 => ?_) (fun c10 => ?_)
          · replace hf := ifn c10 hf
            refine Vsub [0] rfl ?_
            exact l_X11_weather_64 C C2 a0 p1 a9 h8 hf
          · replace hf := ifp c10 hf
            refine C.seg (pe := 61) (lv' := [(0, .ref a0), (1, .int p1), (2, .int p2), (3, .int p3)]) (st' := [.int 1, .int p1, .ref a9]) [(.iconst 1, 1, 1)] (by decide +kernel) rfl ?_
            refine C.goto (off := 4) (tgt := 65) (by decide +kernel) (by decide) ?_
            refine Vsub [0] rfl ?_
            exact l_X11_weather_65 C C2 a0 1 p1 a9 h8 hf
      · replace hf := ifp c12 hf
        refine Vsub [0] rfl ?_
        exact l_X11_weather_39 C C2 a0 h8 hf
theorem o_X11_weather {a0 : Nat} {p1 : Int32} {p2 : Int32} {p3 : Int32} {h : AH} {rr : Int32} {hr : AH} (hf : f_X11_weather a0 p1 p2 p3 h = some (rr, hr)) : isO 11 h a0 = true := by
  unfold f_X11_weather at hf
  exact (ifO hf).1
/-! WallHouse.lifts(I)Z -/
def f_X11_lifts (a0 : Nat) (p1 : Int32) (h : AH) : Option (Int32 × AH) :=
  if isO 11 h a0 = true then
    b2 (f_X11_within p1 1 5 h) fun x1 h2 =>
    if x1 = 0 then
      b2 (f_X11_deny a0 2 h2) fun x8 h9 =>
      (ckZ x8).bind fun x10 =>
      some (x10, h9)
    else
      (gA 11 h2 a0 2).bind fun a3 =>
      (pI 10 h2 a3 13 p1).bind fun h4 =>
      b2 (f_X11_grant a0 h4) fun x5 h6 =>
      (ckZ x5).bind fun x7 =>
      some (x7, h6)
  else none
set_option maxRecDepth 100000 in
set_option maxHeartbeats 4000000 in
theorem w_X11_lifts {l : Launch} {G : GX} {a0 : Nat} {p1 : Int32} {h : AH} {rr : Int32} {hr : AH} (hf : f_X11_lifts a0 p1 h = some (rr, hr)) : Ct l G yX11_lifts 1 22 [.ref a0, .int p1] h (QI rr hr) := by
  unfold f_X11_lifts at hf
  obtain ⟨ho, hf⟩ := ifO hf
  refine Ct_of (own := RX11) (cc := cX11_lifts) (nL := 2) (ret := (some .boolean)) rfl rfl k_1411 (Nat.le_of_ble_eq_true rfl) (fun X C2 C => ?_)
  show V X G h (QI rr hr) 0 [(0, .ref a0), (1, .int p1)] [] h
  refine C.seg (pe := 3) (lv' := [(0, .ref a0), (1, .int p1)]) (st' := [.int 5, .int 1, .int p1]) [(.iload_n 1, 1, 0), (.iconst 1, 1, 1), (.iconst 5, 1, 5)] (by decide +kernel) rfl ?_
  obtain ⟨x1, h2, gx1, hf⟩ := b2_some hf
  refine C.callSr C2 [.int p1, .int 1, .int 5] [] ms_622 rfl (w_X11_within gx1) (by omega) (by omega) (Nat.le_of_ble_eq_true rfl) (by decide +kernel) rfl ?_
  refine C.if_ne (off := 9) (tgt := 15) (pf := 9) (by decide +kernel) (by decide) rfl (fun c11 => ?_) (fun c11 => ?_)
  · replace hf := ifn c11 hf
    refine C.seg (pe := 16) (lv' := [(0, .ref a0), (1, .int p1)]) (st' := [.ref a0]) [(.aload_n 0, 1, 0)] (by decide +kernel) rfl ?_
    obtain ⟨a3, ga3, hf⟩ := Option.bind_eq_some_iff.mp hf
    refine C.rdA fr_562 ga3 (by decide +kernel) rfl ?_
    refine C.seg (pe := 20) (lv' := [(0, .ref a0), (1, .int p1)]) (st' := [.int p1, .ref a3]) [(.iload_n 1, 1, 0)] (by decide +kernel) rfl ?_
    obtain ⟨h4, gh4, hf⟩ := Option.bind_eq_some_iff.mp hf
    refine C.putI fl_239 gh4 (by decide +kernel) rfl ?_
    refine C.seg (pe := 24) (lv' := [(0, .ref a0), (1, .int p1)]) (st' := [.ref a0]) [(.aload_n 0, 1, 0)] (by decide +kernel) rfl ?_
    obtain ⟨x5, h6, gx5, hf⟩ := b2_some hf
    refine C.callVr C2 [] [] mv_769 rfl (o_X11_grant gx5) (w_X11_grant gx5) (by omega) (by omega) (Nat.le_of_ble_eq_true rfl) (by decide +kernel) rfl ?_
    obtain ⟨x7, gx7, hf⟩ := Option.bind_eq_some_iff.mp hf
    have ex7 := ckZ_eq gx7
    subst ex7
    cases hf
    exact C.retZ rfl gx7 (by decide +kernel) ⟨rfl, rfl⟩
  · replace hf := ifp c11 hf
    refine C.seg (pe := 11) (lv' := [(0, .ref a0), (1, .int p1)]) (st' := [.int 2, .ref a0]) [(.aload_n 0, 1, 0), (.iconst 2, 1, 2)] (by decide +kernel) rfl ?_
    obtain ⟨x8, h9, gx8, hf⟩ := b2_some hf
    refine C.callVr C2 [.int 2] [] mv_761 rfl (o_X11_deny gx8) (w_X11_deny gx8) (by omega) (by omega) (Nat.le_of_ble_eq_true rfl) (by decide +kernel) rfl ?_
    obtain ⟨x10, gx10, hf⟩ := Option.bind_eq_some_iff.mp hf
    have ex10 := ckZ_eq gx10
    subst ex10
    cases hf
    exact C.retZ rfl gx10 (by decide +kernel) ⟨rfl, rfl⟩
theorem o_X11_lifts {a0 : Nat} {p1 : Int32} {h : AH} {rr : Int32} {hr : AH} (hf : f_X11_lifts a0 p1 h = some (rr, hr)) : isO 11 h a0 = true := by
  unfold f_X11_lifts at hf
  exact (ifO hf).1
/-! WallHouse.end(I)I -/
def f_X11_end (a0 : Nat) (p1 : Int32) (h : AH) : Option (Int32 × AH) :=
  if isO 11 h a0 = true then
    (gA 11 h a0 2).bind fun a1 =>
    b2 (f_X10_foretoldEnd a1 p1 h) fun x2 h3 =>
    some (x2, h3)
  else none
set_option maxRecDepth 100000 in
set_option maxHeartbeats 4000000 in
theorem w_X11_end {l : Launch} {G : GX} {a0 : Nat} {p1 : Int32} {h : AH} {rr : Int32} {hr : AH} (hf : f_X11_end a0 p1 h = some (rr, hr)) : Ct l G yX11_end 2 102 [.ref a0, .int p1] h (QI rr hr) := by
  unfold f_X11_end at hf
  obtain ⟨ho, hf⟩ := ifO hf
  refine Ct_of (own := RX11) (cc := cX11_end) (nL := 2) (ret := (some .int)) rfl rfl k_1415 (Nat.le_of_ble_eq_true rfl) (fun X C2 C => ?_)
  show V X G h (QI rr hr) 0 [(0, .ref a0), (1, .int p1)] [] h
  refine C.seg (pe := 1) (lv' := [(0, .ref a0), (1, .int p1)]) (st' := [.ref a0]) [(.aload_n 0, 1, 0)] (by decide +kernel) rfl ?_
  obtain ⟨a1, ga1, hf⟩ := Option.bind_eq_some_iff.mp hf
  refine C.rdA fr_562 ga1 (by decide +kernel) rfl ?_
  refine C.seg (pe := 5) (lv' := [(0, .ref a0), (1, .int p1)]) (st' := [.int p1, .ref a1]) [(.iload_n 1, 1, 0)] (by decide +kernel) rfl ?_
  obtain ⟨x2, h3, gx2, hf⟩ := b2_some hf
  refine C.callVr C2 [.int p1] [] mv_1416 rfl (o_X10_foretoldEnd gx2) (w_X10_foretoldEnd gx2) (by omega) (by omega) (Nat.le_of_ble_eq_true rfl) (by decide +kernel) rfl ?_
  cases hf
  exact C.retI rfl (by decide +kernel) ⟨rfl, rfl⟩
theorem o_X11_end {a0 : Nat} {p1 : Int32} {h : AH} {rr : Int32} {hr : AH} (hf : f_X11_end a0 p1 h = some (rr, hr)) : isO 11 h a0 = true := by
  unfold f_X11_end at hf
  exact (ifO hf).1
/-! WallHouse.ready(I)I -/
def f_X11_ready_29 (si0 : Int32) (h : AH) : Option (Int32 × AH) :=
  some (si0, h)
set_option maxRecDepth 100000 in
set_option maxHeartbeats 4000000 in
theorem l_X11_ready_29 {X : MX} {l : Launch} {G : GX} {h0 : AH} {rr : Int32} {hr : AH} (C : Cx X G RX11 cX11_ready 2 (some .int) 2 103 h0) (C2 : Cy X l "ready" []) (si0 : Int32) (h : AH) (hf : f_X11_ready_29 si0 h = some (rr, hr)) : V X G h0 (QI rr hr) 29 [] [.int si0] h := by
  unfold f_X11_ready_29 at hf
  cases hf
  exact C.retI rfl (by decide +kernel) ⟨rfl, rfl⟩
def f_X11_ready (a0 : Nat) (p1 : Int32) (h : AH) : Option (Int32 × AH) :=
  if isO 11 h a0 = true then
    (gA 11 h a0 2).bind fun a1 =>
    (gI 10 h a1 14).bind fun x2 =>
    b2 (f_X11_within p1 x2 3649 h) fun x3 h4 =>
    if x3 = 0 then
      f_X11_ready_29 (-1) h4
    else
      (gA 11 h4 a0 2).bind fun a5 =>
      b2 (f_X10_foretoldOver a5 p1 h4) fun x6 h7 =>
      f_X11_ready_29 x6 h7
  else none
set_option maxRecDepth 100000 in
set_option maxHeartbeats 4000000 in
theorem w_X11_ready {l : Launch} {G : GX} {a0 : Nat} {p1 : Int32} {h : AH} {rr : Int32} {hr : AH} (hf : f_X11_ready a0 p1 h = some (rr, hr)) : Ct l G yX11_ready 2 103 [.ref a0, .int p1] h (QI rr hr) := by
  unfold f_X11_ready at hf
  obtain ⟨ho, hf⟩ := ifO hf
  refine Ct_of (own := RX11) (cc := cX11_ready) (nL := 2) (ret := (some .int)) rfl rfl k_1432 (Nat.le_of_ble_eq_true rfl) (fun X C2 C => ?_)
  show V X G h (QI rr hr) 0 [(0, .ref a0), (1, .int p1)] [] h
  refine C.seg (pe := 2) (lv' := [(0, .ref a0), (1, .int p1)]) (st' := [.ref a0, .int p1]) [(.iload_n 1, 1, 0), (.aload_n 0, 1, 0)] (by decide +kernel) rfl ?_
  obtain ⟨a1, ga1, hf⟩ := Option.bind_eq_some_iff.mp hf
  refine C.rdA fr_562 ga1 (by decide +kernel) rfl ?_
  obtain ⟨x2, gx2, hf⟩ := Option.bind_eq_some_iff.mp hf
  refine C.rdI fr_241 gx2 (by decide +kernel) rfl ?_
  refine C.seg (pe := 11) (lv' := [(0, .ref a0), (1, .int p1)]) (st' := [.int 3649, .int x2, .int p1]) [(.sipush 3649, 3, 3649)] (by decide +kernel) rfl ?_
  obtain ⟨x3, h4, gx3, hf⟩ := b2_some hf
  refine C.callSr C2 [.int p1, .int x2, .int 3649] [] ms_622 rfl (w_X11_within gx3) (by omega) (by omega) (Nat.le_of_ble_eq_true rfl) (by decide +kernel) rfl ?_
  refine C.if_eq (off := 14) (tgt := 28) (pf := 17) (by decide +kernel) (by decide) rfl (fun c8 => ?_) (fun c8 => ?_)
  · replace hf := ifp c8 hf
    refine C.seg (pe := 29) (lv' := [(0, .ref a0), (1, .int p1)]) (st' := [.int (-1)]) [(.iconst (-1), 1, (-1))] (by decide +kernel) rfl ?_
    refine Vsub [] rfl ?_
    exact l_X11_ready_29 C C2 (-1) h4 hf
  · replace hf := ifn c8 hf
    refine C.seg (pe := 18) (lv' := [(0, .ref a0), (1, .int p1)]) (st' := [.ref a0]) [(.aload_n 0, 1, 0)] (by decide +kernel) rfl ?_
    obtain ⟨a5, ga5, hf⟩ := Option.bind_eq_some_iff.mp hf
    refine C.rdA fr_562 ga5 (by decide +kernel) rfl ?_
    refine C.seg (pe := 22) (lv' := [(0, .ref a0), (1, .int p1)]) (st' := [.int p1, .ref a5]) [(.iload_n 1, 1, 0)] (by decide +kernel) rfl ?_
    obtain ⟨x6, h7, gx6, hf⟩ := b2_some hf
    refine C.callVr C2 [.int p1] [] mv_1433 rfl (o_X10_foretoldOver gx6) (w_X10_foretoldOver gx6) (by omega) (by omega) (Nat.le_of_ble_eq_true rfl) (by decide +kernel) rfl ?_
    refine C.goto (off := 4) (tgt := 29) (by decide +kernel) (by decide) ?_
    refine Vsub [] rfl ?_
    exact l_X11_ready_29 C C2 x6 h7 hf
theorem o_X11_ready {a0 : Nat} {p1 : Int32} {h : AH} {rr : Int32} {hr : AH} (hf : f_X11_ready a0 p1 h = some (rr, hr)) : isO 11 h a0 = true := by
  unfold f_X11_ready at hf
  exact (ifO hf).1
/-! WallHouse.tin(II)I -/
def f_X11_tin_21 (r0 : Nat) (h : AH) : Option (Int32 × AH) :=
  b2 (f_X11_refuse r0 2 h) fun x1 h2 =>
  some (x1, h2)
set_option maxRecDepth 100000 in
set_option maxHeartbeats 4000000 in
theorem l_X11_tin_21 {X : MX} {l : Launch} {G : GX} {h0 : AH} {rr : Int32} {hr : AH} (C : Cx X G RX11 cX11_tin 3 (some .int) 1 22 h0) (C2 : Cy X l "tin" []) (r0 : Nat) (h : AH) (hf : f_X11_tin_21 r0 h = some (rr, hr)) : V X G h0 (QI rr hr) 21 [(0, .ref r0)] [] h := by
  unfold f_X11_tin_21 at hf
  refine C.seg (pe := 23) (lv' := [(0, .ref r0)]) (st' := [.int 2, .ref r0]) [(.aload_n 0, 1, 0), (.iconst 2, 1, 2)] (by decide +kernel) rfl ?_
  obtain ⟨x1, h2, gx1, hf⟩ := b2_some hf
  refine C.callVr C2 [.int 2] [] mv_625 rfl (o_X11_refuse gx1) (w_X11_refuse gx1) (by omega) (by omega) (Nat.le_of_ble_eq_true rfl) (by decide +kernel) rfl ?_
  cases hf
  exact C.retI rfl (by decide +kernel) ⟨rfl, rfl⟩
def f_X11_tin (a0 : Nat) (p1 : Int32) (p2 : Int32) (h : AH) : Option (Int32 × AH) :=
  if isO 11 h a0 = true then
    b2 (f_X11_within p1 0 7 h) fun x1 h2 =>
    if x1 = 0 then
      f_X11_tin_21 a0 h2
    else
      b2 (f_X11_within p2 1 999 h2) fun x3 h4 =>
      if x3 = 0 then
        f_X11_tin_21 a0 h4
      else
        (gA 11 h4 a0 2).bind fun a5 =>
        (gI 10 h4 a5 15).bind fun x6 =>
        if x6 < 60 then
          (gA 11 h4 a0 2).bind fun a7 =>
          b2 (f_X10_addTin a7 p1 p2 h4) fun x8 h9 =>
          b2 (f_X11_tell a0 x8 h9) fun x10 h11 =>
          some (x10, h11)
        else
          b2 (f_X11_refuse a0 3 h4) fun x12 h13 =>
          some (x12, h13)
  else none
set_option maxRecDepth 100000 in
set_option maxHeartbeats 4000000 in
theorem w_X11_tin {l : Launch} {G : GX} {a0 : Nat} {p1 : Int32} {p2 : Int32} {h : AH} {rr : Int32} {hr : AH} (hf : f_X11_tin a0 p1 p2 h = some (rr, hr)) : Ct l G yX11_tin 1 22 [.ref a0, .int p1, .int p2] h (QI rr hr) := by
  unfold f_X11_tin at hf
  obtain ⟨ho, hf⟩ := ifO hf
  refine Ct_of (own := RX11) (cc := cX11_tin) (nL := 3) (ret := (some .int)) rfl rfl k_1440 (Nat.le_of_ble_eq_true rfl) (fun X C2 C => ?_)
  show V X G h (QI rr hr) 0 [(0, .ref a0), (1, .int p1), (2, .int p2)] [] h
  refine C.seg (pe := 4) (lv' := [(0, .ref a0), (1, .int p1), (2, .int p2)]) (st' := [.int 7, .int 0, .int p1]) [(.iload_n 1, 1, 0), (.iconst 0, 1, 0), (.bipush 7, 2, 7)] (by decide +kernel) rfl ?_
  obtain ⟨x1, h2, gx1, hf⟩ := b2_some hf
  refine C.callSr C2 [.int p1, .int 0, .int 7] [] ms_622 rfl (w_X11_within gx1) (by omega) (by omega) (Nat.le_of_ble_eq_true rfl) (by decide +kernel) rfl ?_
  refine C.if_eq (off := 14) (tgt := 21) (pf := 10) (by decide +kernel) (by decide) rfl (fun c16 => ?_) (fun c16 => ?_)
  · replace hf := ifp c16 hf
    refine Vsub [0] rfl ?_
    exact l_X11_tin_21 C C2 a0 h2 hf
  · replace hf := ifn c16 hf
    refine C.seg (pe := 15) (lv' := [(0, .ref a0), (1, .int p1), (2, .int p2)]) (st' := [.int 999, .int 1, .int p2]) [(.iload_n 2, 1, 0), (.iconst 1, 1, 1), (.sipush 999, 3, 999)] (by decide +kernel) rfl ?_
    obtain ⟨x3, h4, gx3, hf⟩ := b2_some hf
    refine C.callSr C2 [.int p2, .int 1, .int 999] [] ms_622 rfl (w_X11_within gx3) (by omega) (by omega) (Nat.le_of_ble_eq_true rfl) (by decide +kernel) rfl ?_
    refine C.if_ne (off := 9) (tgt := 27) (pf := 21) (by decide +kernel) (by decide) rfl (fun c15 => ?_) (fun c15 => ?_)
    · replace hf := ifn c15 hf
      refine C.seg (pe := 28) (lv' := [(0, .ref a0), (1, .int p1), (2, .int p2)]) (st' := [.ref a0]) [(.aload_n 0, 1, 0)] (by decide +kernel) rfl ?_
      obtain ⟨a5, ga5, hf⟩ := Option.bind_eq_some_iff.mp hf
      refine C.rdA fr_562 ga5 (by decide +kernel) rfl ?_
      obtain ⟨x6, gx6, hf⟩ := Option.bind_eq_some_iff.mp hf
      refine C.rdI fr_243 gx6 (by decide +kernel) rfl ?_
      refine C.seg (pe := 36) (lv' := [(0, .ref a0), (1, .int p1), (2, .int p2)]) (st' := [.int 60, .int x6]) [(.bipush 60, 2, 60)] (by decide +kernel) rfl ?_
      refine C.icmp_lt (off := 9) (tgt := 45) (pf := 39) (by decide +kernel) (by decide) rfl (fun c14 => ?_) (fun c14 => ?_)
      · replace hf := ifp c14 hf
        refine C.seg (pe := 47) (lv' := [(0, .ref a0), (1, .int p1), (2, .int p2)]) (st' := [.ref a0, .ref a0]) [(.aload_n 0, 1, 0), (.aload_n 0, 1, 0)] (by decide +kernel) rfl ?_
        obtain ⟨a7, ga7, hf⟩ := Option.bind_eq_some_iff.mp hf
        refine C.rdA fr_562 ga7 (by decide +kernel) rfl ?_
        refine C.seg (pe := 52) (lv' := [(0, .ref a0), (1, .int p1), (2, .int p2)]) (st' := [.int p2, .int p1, .ref a7, .ref a0]) [(.iload_n 1, 1, 0), (.iload_n 2, 1, 0)] (by decide +kernel) rfl ?_
        obtain ⟨x8, h9, gx8, hf⟩ := b2_some hf
        refine C.callVr C2 [.int p1, .int p2] [.ref a0] mv_1441 rfl (o_X10_addTin gx8) (w_X10_addTin gx8) (by omega) (by omega) (Nat.le_of_ble_eq_true rfl) (by decide +kernel) rfl ?_
        obtain ⟨x10, h11, gx10, hf⟩ := b2_some hf
        refine C.callVr C2 [.int x8] [] mv_712 rfl (o_X11_tell gx10) (w_X11_tell gx10) (by omega) (by omega) (Nat.le_of_ble_eq_true rfl) (by decide +kernel) rfl ?_
        cases hf
        exact C.retI rfl (by decide +kernel) ⟨rfl, rfl⟩
      · replace hf := ifn c14 hf
        refine C.seg (pe := 41) (lv' := [(0, .ref a0), (1, .int p1), (2, .int p2)]) (st' := [.int 3, .ref a0]) [(.aload_n 0, 1, 0), (.iconst 3, 1, 3)] (by decide +kernel) rfl ?_
        obtain ⟨x12, h13, gx12, hf⟩ := b2_some hf
        refine C.callVr C2 [.int 3] [] mv_625 rfl (o_X11_refuse gx12) (w_X11_refuse gx12) (by omega) (by omega) (Nat.le_of_ble_eq_true rfl) (by decide +kernel) rfl ?_
        cases hf
        exact C.retI rfl (by decide +kernel) ⟨rfl, rfl⟩
    · replace hf := ifp c15 hf
      refine Vsub [0] rfl ?_
      exact l_X11_tin_21 C C2 a0 h4 hf
theorem o_X11_tin {a0 : Nat} {p1 : Int32} {p2 : Int32} {h : AH} {rr : Int32} {hr : AH} (hf : f_X11_tin a0 p1 p2 h = some (rr, hr)) : isO 11 h a0 = true := by
  unfold f_X11_tin at hf
  exact (ifO hf).1
/-! WallHouse.left(I)I -/
def f_X11_left_24 (si0 : Int32) (h : AH) : Option (Int32 × AH) :=
  some (si0, h)
set_option maxRecDepth 100000 in
set_option maxHeartbeats 4000000 in
theorem l_X11_left_24 {X : MX} {l : Launch} {G : GX} {h0 : AH} {rr : Int32} {hr : AH} (C : Cx X G RX11 cX11_left 2 (some .int) 1 21 h0) (C2 : Cy X l "left" []) (si0 : Int32) (h : AH) (hf : f_X11_left_24 si0 h = some (rr, hr)) : V X G h0 (QI rr hr) 24 [] [.int si0] h := by
  unfold f_X11_left_24 at hf
  cases hf
  exact C.retI rfl (by decide +kernel) ⟨rfl, rfl⟩
def f_X11_left (a0 : Nat) (p1 : Int32) (h : AH) : Option (Int32 × AH) :=
  if isO 11 h a0 = true then
    (gA 11 h a0 2).bind fun a1 =>
    b2 (f_X10_isTin a1 p1 h) fun x2 h3 =>
    if x2 = 0 then
      f_X11_left_24 (-1) h3
    else
      (gA 11 h3 a0 2).bind fun a4 =>
      (gA 10 h3 a4 17).bind fun a5 =>
      (aI 0 h3 a5 p1).bind fun x6 =>
      f_X11_left_24 x6 h3
  else none
set_option maxRecDepth 100000 in
set_option maxHeartbeats 4000000 in
theorem w_X11_left {l : Launch} {G : GX} {a0 : Nat} {p1 : Int32} {h : AH} {rr : Int32} {hr : AH} (hf : f_X11_left a0 p1 h = some (rr, hr)) : Ct l G yX11_left 1 21 [.ref a0, .int p1] h (QI rr hr) := by
  unfold f_X11_left at hf
  obtain ⟨ho, hf⟩ := ifO hf
  refine Ct_of (own := RX11) (cc := cX11_left) (nL := 2) (ret := (some .int)) rfl rfl k_1448 (Nat.le_of_ble_eq_true rfl) (fun X C2 C => ?_)
  show V X G h (QI rr hr) 0 [(0, .ref a0), (1, .int p1)] [] h
  refine C.seg (pe := 1) (lv' := [(0, .ref a0), (1, .int p1)]) (st' := [.ref a0]) [(.aload_n 0, 1, 0)] (by decide +kernel) rfl ?_
  obtain ⟨a1, ga1, hf⟩ := Option.bind_eq_some_iff.mp hf
  refine C.rdA fr_562 ga1 (by decide +kernel) rfl ?_
  refine C.seg (pe := 5) (lv' := [(0, .ref a0), (1, .int p1)]) (st' := [.int p1, .ref a1]) [(.iload_n 1, 1, 0)] (by decide +kernel) rfl ?_
  obtain ⟨x2, h3, gx2, hf⟩ := b2_some hf
  refine C.callVr C2 [.int p1] [] mv_1449 rfl (o_X10_isTin gx2) (w_X10_isTin gx2) (by omega) (by omega) (Nat.le_of_ble_eq_true rfl) (by decide +kernel) rfl ?_
  refine C.if_eq (off := 15) (tgt := 23) (pf := 11) (by decide +kernel) (by decide) rfl (fun c7 => ?_) (fun c7 => ?_)
  · replace hf := ifp c7 hf
    refine C.seg (pe := 24) (lv' := [(0, .ref a0), (1, .int p1)]) (st' := [.int (-1)]) [(.iconst (-1), 1, (-1))] (by decide +kernel) rfl ?_
    refine Vsub [] rfl ?_
    exact l_X11_left_24 C C2 (-1) h3 hf
  · replace hf := ifn c7 hf
    refine C.seg (pe := 12) (lv' := [(0, .ref a0), (1, .int p1)]) (st' := [.ref a0]) [(.aload_n 0, 1, 0)] (by decide +kernel) rfl ?_
    obtain ⟨a4, ga4, hf⟩ := Option.bind_eq_some_iff.mp hf
    refine C.rdA fr_562 ga4 (by decide +kernel) rfl ?_
    obtain ⟨a5, ga5, hf⟩ := Option.bind_eq_some_iff.mp hf
    refine C.rdA fr_246 ga5 (by decide +kernel) rfl ?_
    refine C.seg (pe := 19) (lv' := [(0, .ref a0), (1, .int p1)]) (st' := [.int p1, .ref a5]) [(.iload_n 1, 1, 0)] (by decide +kernel) rfl ?_
    obtain ⟨x6, gx6, hf⟩ := Option.bind_eq_some_iff.mp hf
    refine C.ald 0 rfl gx6 (by decide +kernel) rfl ?_
    refine C.goto (off := 4) (tgt := 24) (by decide +kernel) (by decide) ?_
    refine Vsub [] rfl ?_
    exact l_X11_left_24 C C2 x6 h3 hf
theorem o_X11_left {a0 : Nat} {p1 : Int32} {h : AH} {rr : Int32} {hr : AH} (hf : f_X11_left a0 p1 h = some (rr, hr)) : isO 11 h a0 = true := by
  unfold f_X11_left at hf
  exact (ifO hf).1
/-! WallHouse.pass(I)I -/
def f_X11_pass_25 (r0 : Nat) (h : AH) : Option (Int32 × AH) :=
  b2 (f_X11_refuse r0 2 h) fun x1 h2 =>
  some (x1, h2)
set_option maxRecDepth 100000 in
set_option maxHeartbeats 4000000 in
theorem l_X11_pass_25 {X : MX} {l : Launch} {G : GX} {h0 : AH} {rr : Int32} {hr : AH} (C : Cx X G RX11 cX11_pass 2 (some .int) 4 92 h0) (C2 : Cy X l "pass" []) (r0 : Nat) (h : AH) (hf : f_X11_pass_25 r0 h = some (rr, hr)) : V X G h0 (QI rr hr) 25 [(0, .ref r0)] [] h := by
  unfold f_X11_pass_25 at hf
  refine C.seg (pe := 27) (lv' := [(0, .ref r0)]) (st' := [.int 2, .ref r0]) [(.aload_n 0, 1, 0), (.iconst 2, 1, 2)] (by decide +kernel) rfl ?_
  obtain ⟨x1, h2, gx1, hf⟩ := b2_some hf
  refine C.callVr C2 [.int 2] [] mv_625 rfl (o_X11_refuse gx1) (w_X11_refuse gx1) (by omega) (by omega) (Nat.le_of_ble_eq_true rfl) (by decide +kernel) rfl ?_
  cases hf
  exact C.retI rfl (by decide +kernel) ⟨rfl, rfl⟩
def f_X11_pass (a0 : Nat) (p1 : Int32) (h : AH) : Option (Int32 × AH) :=
  if isO 11 h a0 = true then
    b2 (f_X11_within p1 1 100 h) fun x1 h2 =>
    if x1 = 0 then
      f_X11_pass_25 a0 h2
    else
      (gA 11 h2 a0 2).bind fun a3 =>
      (gI 10 h2 a3 14).bind fun x4 =>
      if p1 ≤ 3649 - x4 then
        (gA 11 h2 a0 2).bind fun a5 =>
        b2 (f_X10_goBy a5 p1 h2) fun x6 h7 =>
        b2 (f_X11_tell a0 x6 h7) fun x8 h9 =>
        some (x8, h9)
      else
        f_X11_pass_25 a0 h2
  else none
set_option maxRecDepth 100000 in
set_option maxHeartbeats 4000000 in
theorem w_X11_pass {l : Launch} {G : GX} {a0 : Nat} {p1 : Int32} {h : AH} {rr : Int32} {hr : AH} (hf : f_X11_pass a0 p1 h = some (rr, hr)) : Ct l G yX11_pass 4 92 [.ref a0, .int p1] h (QI rr hr) := by
  unfold f_X11_pass at hf
  obtain ⟨ho, hf⟩ := ifO hf
  refine Ct_of (own := RX11) (cc := cX11_pass) (nL := 2) (ret := (some .int)) rfl rfl k_1456 (Nat.le_of_ble_eq_true rfl) (fun X C2 C => ?_)
  show V X G h (QI rr hr) 0 [(0, .ref a0), (1, .int p1)] [] h
  refine C.seg (pe := 4) (lv' := [(0, .ref a0), (1, .int p1)]) (st' := [.int 100, .int 1, .int p1]) [(.iload_n 1, 1, 0), (.iconst 1, 1, 1), (.bipush 100, 2, 100)] (by decide +kernel) rfl ?_
  obtain ⟨x1, h2, gx1, hf⟩ := b2_some hf
  refine C.callSr C2 [.int p1, .int 1, .int 100] [] ms_622 rfl (w_X11_within gx1) (by omega) (by omega) (Nat.le_of_ble_eq_true rfl) (by decide +kernel) rfl ?_
  refine C.if_eq (off := 18) (tgt := 25) (pf := 10) (by decide +kernel) (by decide) rfl (fun c11 => ?_) (fun c11 => ?_)
  · replace hf := ifp c11 hf
    refine Vsub [0] rfl ?_
    exact l_X11_pass_25 C C2 a0 h2 hf
  · replace hf := ifn c11 hf
    refine C.seg (pe := 15) (lv' := [(0, .ref a0), (1, .int p1)]) (st' := [.ref a0, .int 3649, .int p1]) [(.iload_n 1, 1, 0), (.sipush 3649, 3, 3649), (.aload_n 0, 1, 0)] (by decide +kernel) rfl ?_
    obtain ⟨a3, ga3, hf⟩ := Option.bind_eq_some_iff.mp hf
    refine C.rdA fr_562 ga3 (by decide +kernel) rfl ?_
    obtain ⟨x4, gx4, hf⟩ := Option.bind_eq_some_iff.mp hf
    refine C.rdI fr_241 gx4 (by decide +kernel) rfl ?_
    refine C.seg (pe := 22) (lv' := [(0, .ref a0), (1, .int p1)]) (st' := [.int (3649 - x4), .int p1]) [(.isub, 1, 0)] (by decide +kernel) rfl ?_
    refine C.icmp_le (off := 9) (tgt := 31) (pf := 25) (by decide +kernel) (by decide) rfl (fun c10 => ?_) (fun c10 => ?_)
    · replace hf := ifp c10 hf
      refine C.seg (pe := 33) (lv' := [(0, .ref a0), (1, .int p1)]) (st' := [.ref a0, .ref a0]) [(.aload_n 0, 1, 0), (.aload_n 0, 1, 0)] (by decide +kernel) rfl ?_
      obtain ⟨a5, ga5, hf⟩ := Option.bind_eq_some_iff.mp hf
      refine C.rdA fr_562 ga5 (by decide +kernel) rfl ?_
      refine C.seg (pe := 37) (lv' := [(0, .ref a0), (1, .int p1)]) (st' := [.int p1, .ref a5, .ref a0]) [(.iload_n 1, 1, 0)] (by decide +kernel) rfl ?_
      obtain ⟨x6, h7, gx6, hf⟩ := b2_some hf
      refine C.callVr C2 [.int p1] [.ref a0] mv_1457 rfl (o_X10_goBy gx6) (w_X10_goBy gx6) (by omega) (by omega) (Nat.le_of_ble_eq_true rfl) (by decide +kernel) rfl ?_
      obtain ⟨x8, h9, gx8, hf⟩ := b2_some hf
      refine C.callVr C2 [.int x6] [] mv_712 rfl (o_X11_tell gx8) (w_X11_tell gx8) (by omega) (by omega) (Nat.le_of_ble_eq_true rfl) (by decide +kernel) rfl ?_
      cases hf
      exact C.retI rfl (by decide +kernel) ⟨rfl, rfl⟩
    · replace hf := ifn c10 hf
      refine Vsub [0] rfl ?_
      exact l_X11_pass_25 C C2 a0 h2 hf
theorem o_X11_pass {a0 : Nat} {p1 : Int32} {h : AH} {rr : Int32} {hr : AH} (hf : f_X11_pass a0 p1 h = some (rr, hr)) : isO 11 h a0 = true := by
  unfold f_X11_pass at hf
  exact (ifO hf).1
/-! WallHouse.cell(III)I -/
def f_X11_cell_56 (si0 : Int32) (h : AH) : Option (Int32 × AH) :=
  some (si0, h)
set_option maxRecDepth 100000 in
set_option maxHeartbeats 4000000 in
theorem l_X11_cell_56 {X : MX} {l : Launch} {G : GX} {h0 : AH} {rr : Int32} {hr : AH} (C : Cx X G RX11 cX11_cell 6 (some .int) 1 24 h0) (C2 : Cy X l "cell" []) (si0 : Int32) (h : AH) (hf : f_X11_cell_56 si0 h = some (rr, hr)) : V X G h0 (QI rr hr) 56 [] [.int si0] h := by
  unfold f_X11_cell_56 at hf
  cases hf
  exact C.retI rfl (by decide +kernel) ⟨rfl, rfl⟩
def f_X11_cell_27 (h : AH) : Option (Int32 × AH) :=
  some ((-1), h)
set_option maxRecDepth 100000 in
set_option maxHeartbeats 4000000 in
theorem l_X11_cell_27 {X : MX} {l : Launch} {G : GX} {h0 : AH} {rr : Int32} {hr : AH} (C : Cx X G RX11 cX11_cell 6 (some .int) 1 24 h0) (C2 : Cy X l "cell" []) (h : AH) (hf : f_X11_cell_27 h = some (rr, hr)) : V X G h0 (QI rr hr) 27 [] [] h := by
  unfold f_X11_cell_27 at hf
  refine C.seg (pe := 28) (lv' := []) (st' := [.int (-1)]) [(.iconst (-1), 1, (-1))] (by decide +kernel) rfl ?_
  cases hf
  exact C.retI rfl (by decide +kernel) ⟨rfl, rfl⟩
def f_X11_cell (a0 : Nat) (p1 : Int32) (p2 : Int32) (p3 : Int32) (h : AH) : Option (Int32 × AH) :=
  if isO 11 h a0 = true then
    (gA 11 h a0 0).bind fun a1 =>
    b2 (f_X9_at a1 p1 h) fun q2 h3 =>
    tr q2 (
      f_X11_cell_27 h3) fun a4 =>
    b2 (f_X8_holds a4 p2 p3 1 1 h3) fun x5 h6 =>
    if x5 = 0 then
      f_X11_cell_27 h6
    else
      b2 (f_X8_placeOf a4 p2 p3 h6) fun x7 h8 =>
      b2 (f_X8_colourOf a4 x7 h8) fun x9 h10 =>
      if x9 = (-1) then
        f_X11_cell_56 (-2) h10
      else
        f_X11_cell_56 x9 h10
  else none
set_option maxRecDepth 100000 in
set_option maxHeartbeats 4000000 in
theorem w_X11_cell {l : Launch} {G : GX} {a0 : Nat} {p1 : Int32} {p2 : Int32} {p3 : Int32} {h : AH} {rr : Int32} {hr : AH} (hf : f_X11_cell a0 p1 p2 p3 h = some (rr, hr)) : Ct l G yX11_cell 1 24 [.ref a0, .int p1, .int p2, .int p3] h (QI rr hr) := by
  unfold f_X11_cell at hf
  obtain ⟨ho, hf⟩ := ifO hf
  refine Ct_of (own := RX11) (cc := cX11_cell) (nL := 6) (ret := (some .int)) rfl rfl k_1476 (Nat.le_of_ble_eq_true rfl) (fun X C2 C => ?_)
  show V X G h (QI rr hr) 0 [(0, .ref a0), (1, .int p1), (2, .int p2), (3, .int p3)] [] h
  refine C.seg (pe := 1) (lv' := [(0, .ref a0), (1, .int p1), (2, .int p2), (3, .int p3)]) (st' := [.ref a0]) [(.aload_n 0, 1, 0)] (by decide +kernel) rfl ?_
  obtain ⟨a1, ga1, hf⟩ := Option.bind_eq_some_iff.mp hf
  refine C.rdA fr_560 ga1 (by decide +kernel) rfl ?_
  refine C.seg (pe := 5) (lv' := [(0, .ref a0), (1, .int p1), (2, .int p2), (3, .int p3)]) (st' := [.int p1, .ref a1]) [(.iload_n 1, 1, 0)] (by decide +kernel) rfl ?_
  obtain ⟨q2, h3, gq2, hf⟩ := b2_some hf
  cases q2 with
  | none =>
    replace hf := tr_none hf
    refine C.callVr C2 [.int p1] [] mv_720 rfl (o_X9_at gq2) (w_X9_at gq2) (by omega) (by omega) (Nat.le_of_ble_eq_true rfl) (by decide +kernel) rfl ?_
    refine C.seg (pe := 12) (lv' := [(4, .null), (0, .ref a0), (1, .int p1), (2, .int p2), (3, .int p3)]) (st' := [.null]) [(.astore 4, 2, 0), (.aload 4, 2, 0)] (by decide +kernel) rfl ?_
    refine C.nullN (off := 15) (tgt := 27) (by decide +kernel) (by decide) ?_
    refine Vsub [] rfl ?_
    exact l_X11_cell_27 C C2 h3 hf
  | some a4 =>
    replace hf := tr_some hf
    refine C.callVr C2 [.int p1] [] mv_720 rfl (o_X9_at gq2) (w_X9_at gq2) (by omega) (by omega) (Nat.le_of_ble_eq_true rfl) (by decide +kernel) rfl ?_
    refine C.seg (pe := 12) (lv' := [(4, .ref a4), (0, .ref a0), (1, .int p1), (2, .int p2), (3, .int p3)]) (st' := [.ref a4]) [(.astore 4, 2, 0), (.aload 4, 2, 0)] (by decide +kernel) rfl ?_
    refine C.nullR (off := 15) (pf := 15) (by decide +kernel) rfl ?_
    refine C.seg (pe := 21) (lv' := [(4, .ref a4), (0, .ref a0), (1, .int p1), (2, .int p2), (3, .int p3)]) (st' := [.int 1, .int 1, .int p3, .int p2, .ref a4]) [(.aload 4, 2, 0), (.iload_n 2, 1, 0), (.iload_n 3, 1, 0), (.iconst 1, 1, 1), (.iconst 1, 1, 1)] (by decide +kernel) rfl ?_
    obtain ⟨x5, h6, gx5, hf⟩ := b2_some hf
    refine C.callVr C2 [.int p2, .int p3, .int 1, .int 1] [] mv_744 rfl (o_X8_holds gx5) (w_X8_holds gx5) (by omega) (by omega) (Nat.le_of_ble_eq_true rfl) (by decide +kernel) rfl ?_
    refine C.if_ne (off := 5) (tgt := 29) (pf := 27) (by decide +kernel) (by decide) rfl (fun c12 => ?_) (fun c12 => ?_)
    · replace hf := ifn c12 hf
      refine C.seg (pe := 35) (lv' := [(4, .ref a4), (0, .ref a0), (1, .int p1), (2, .int p2), (3, .int p3)]) (st' := [.int p3, .int p2, .ref a4, .ref a4]) [(.aload 4, 2, 0), (.aload 4, 2, 0), (.iload_n 2, 1, 0), (.iload_n 3, 1, 0)] (by decide +kernel) rfl ?_
      obtain ⟨x7, h8, gx7, hf⟩ := b2_some hf
      refine C.callVr C2 [.int p2, .int p3] [.ref a4] mv_1477 rfl (o_X8_placeOf gx7) (w_X8_placeOf gx7) (by omega) (by omega) (Nat.le_of_ble_eq_true rfl) (by decide +kernel) rfl ?_
      obtain ⟨x9, h10, gx9, hf⟩ := b2_some hf
      refine C.callVr C2 [.int x7] [] mv_1478 rfl (o_X8_colourOf gx9) (w_X8_colourOf gx9) (by omega) (by omega) (Nat.le_of_ble_eq_true rfl) (by decide +kernel) rfl ?_
      refine C.seg (pe := 46) (lv' := [(5, .int x9), (4, .ref a4), (0, .ref a0), (1, .int p1), (2, .int p2), (3, .int p3)]) (st' := [.int (-1), .int x9]) [(.istore 5, 2, 0), (.iload 5, 2, 0), (.iconst (-1), 1, (-1))] (by decide +kernel) rfl ?_
      refine C.icmp_ne (off := 8) (tgt := 54) (pf := 49) (by decide +kernel) (by decide) rfl (fun c11 => ?_) (fun c11 => ?_)
      · replace hf := ifn c11 hf
        refine C.seg (pe := 56) (lv' := [(5, .int x9), (4, .ref a4), (0, .ref a0), (1, .int p1), (2, .int p2), (3, .int p3)]) (st' := [.int x9]) [(.iload 5, 2, 0)] (by decide +kernel) rfl ?_
        refine Vsub [] rfl ?_
        exact l_X11_cell_56 C C2 x9 h10 hf
      · replace hf := ifp c11 hf
        refine C.seg (pe := 51) (lv' := [(5, .int x9), (4, .ref a4), (0, .ref a0), (1, .int p1), (2, .int p2), (3, .int p3)]) (st' := [.int (-2)]) [(.bipush (-2), 2, (-2))] (by decide +kernel) rfl ?_
        refine C.goto (off := 5) (tgt := 56) (by decide +kernel) (by decide) ?_
        refine Vsub [] rfl ?_
        exact l_X11_cell_56 C C2 (-2) h10 hf
    · replace hf := ifp c12 hf
      refine Vsub [] rfl ?_
      exact l_X11_cell_27 C C2 h6 hf
theorem o_X11_cell {a0 : Nat} {p1 : Int32} {p2 : Int32} {p3 : Int32} {h : AH} {rr : Int32} {hr : AH} (hf : f_X11_cell a0 p1 p2 p3 h = some (rr, hr)) : isO 11 h a0 = true := by
  unfold f_X11_cell at hf
  exact (ifO hf).1
/-! WallHouse.looks(II)I -/
def f_X11_looks_51 (z : ZX) (si0 : Int32) (h : AH) : Option (Int32 × AH) :=
  some (si0, h)
set_option maxRecDepth 100000 in
set_option maxHeartbeats 4000000 in
theorem l_X11_looks_51 {X : MX} {l : Launch} {G : GX} {h0 : AH} {rr : Int32} {hr : AH} (C : Cx X G RX11 cX11_looks 4 (some .int) 2 63 h0) (C2 : Cy X l "looks" []) (si0 : Int32) (h : AH) (hf : f_X11_looks_51 G.2.2 si0 h = some (rr, hr)) : V X G h0 (QI rr hr) 51 [] [.int si0] h := by
  unfold f_X11_looks_51 at hf
  cases hf
  exact C.retI rfl (by decide +kernel) ⟨rfl, rfl⟩
def f_X11_looks_23 (z : ZX) (h : AH) : Option (Int32 × AH) :=
  some ((-1), h)
set_option maxRecDepth 100000 in
set_option maxHeartbeats 4000000 in
theorem l_X11_looks_23 {X : MX} {l : Launch} {G : GX} {h0 : AH} {rr : Int32} {hr : AH} (C : Cx X G RX11 cX11_looks 4 (some .int) 2 63 h0) (C2 : Cy X l "looks" []) (h : AH) (hf : f_X11_looks_23 G.2.2 h = some (rr, hr)) : V X G h0 (QI rr hr) 23 [] [] h := by
  unfold f_X11_looks_23 at hf
  refine C.seg (pe := 24) (lv' := []) (st' := [.int (-1)]) [(.iconst (-1), 1, (-1))] (by decide +kernel) rfl ?_
  cases hf
  exact C.retI rfl (by decide +kernel) ⟨rfl, rfl⟩
def f_X11_looks (z : ZX) (a0 : Nat) (p1 : Int32) (p2 : Int32) (h : AH) : Option (Int32 × AH) :=
  if isO 11 h a0 = true then
    (gA 11 h a0 0).bind fun a1 =>
    b2 (f_X9_at a1 p1 h) fun q2 h3 =>
    tr q2 (
      f_X11_looks_23 z h3) fun a4 =>
    b2 (f_X11_within p2 0 7 h3) fun x5 h6 =>
    if x5 = 0 then
      f_X11_looks_23 z h6
    else
      (gI 8 h6 a4 9).bind fun x7 =>
      if x7 = (-2) then
        f_X11_looks_51 z (-2) h6
      else
        (gA 11 h6 a0 2).bind fun a8 =>
        (gI 10 h6 a8 14).bind fun x9 =>
        b2 (f_X8_freshness z a4 p2 x9 h6) fun x10 h11 =>
        f_X11_looks_51 z x10 h11
  else none
set_option maxRecDepth 100000 in
set_option maxHeartbeats 4000000 in
theorem w_X11_looks {l : Launch} {G : GX} {a0 : Nat} {p1 : Int32} {p2 : Int32} {h : AH} {rr : Int32} {hr : AH} (hf : f_X11_looks G.2.2 a0 p1 p2 h = some (rr, hr)) : Ct l G yX11_looks 2 63 [.ref a0, .int p1, .int p2] h (QI rr hr) := by
  unfold f_X11_looks at hf
  obtain ⟨ho, hf⟩ := ifO hf
  refine Ct_of (own := RX11) (cc := cX11_looks) (nL := 4) (ret := (some .int)) rfl rfl k_1485 (Nat.le_of_ble_eq_true rfl) (fun X C2 C => ?_)
  show V X G h (QI rr hr) 0 [(0, .ref a0), (1, .int p1), (2, .int p2)] [] h
  refine C.seg (pe := 1) (lv' := [(0, .ref a0), (1, .int p1), (2, .int p2)]) (st' := [.ref a0]) [(.aload_n 0, 1, 0)] (by decide +kernel) rfl ?_
  obtain ⟨a1, ga1, hf⟩ := Option.bind_eq_some_iff.mp hf
  refine C.rdA fr_560 ga1 (by decide +kernel) rfl ?_
  refine C.seg (pe := 5) (lv' := [(0, .ref a0), (1, .int p1), (2, .int p2)]) (st' := [.int p1, .ref a1]) [(.iload_n 1, 1, 0)] (by decide +kernel) rfl ?_
  obtain ⟨q2, h3, gq2, hf⟩ := b2_some hf
  cases q2 with
  | none =>
    replace hf := tr_none hf
    refine C.callVr C2 [.int p1] [] mv_720 rfl (o_X9_at gq2) (w_X9_at gq2) (by omega) (by omega) (Nat.le_of_ble_eq_true rfl) (by decide +kernel) rfl ?_
    refine C.seg (pe := 10) (lv' := [(3, .null), (0, .ref a0), (1, .int p1), (2, .int p2)]) (st' := [.null]) [(.astore_n 3, 1, 0), (.aload_n 3, 1, 0)] (by decide +kernel) rfl ?_
    refine C.nullN (off := 13) (tgt := 23) (by decide +kernel) (by decide) ?_
    refine Vsub [] rfl ?_
    exact l_X11_looks_23 C C2 h3 hf
  | some a4 =>
    replace hf := tr_some hf
    refine C.callVr C2 [.int p1] [] mv_720 rfl (o_X9_at gq2) (w_X9_at gq2) (by omega) (by omega) (Nat.le_of_ble_eq_true rfl) (by decide +kernel) rfl ?_
    refine C.seg (pe := 10) (lv' := [(3, .ref a4), (0, .ref a0), (1, .int p1), (2, .int p2)]) (st' := [.ref a4]) [(.astore_n 3, 1, 0), (.aload_n 3, 1, 0)] (by decide +kernel) rfl ?_
    refine C.nullR (off := 13) (pf := 13) (by decide +kernel) rfl ?_
    refine C.seg (pe := 17) (lv' := [(3, .ref a4), (0, .ref a0), (1, .int p1), (2, .int p2)]) (st' := [.int 7, .int 0, .int p2]) [(.iload_n 2, 1, 0), (.iconst 0, 1, 0), (.bipush 7, 2, 7)] (by decide +kernel) rfl ?_
    obtain ⟨x5, h6, gx5, hf⟩ := b2_some hf
    refine C.callSr C2 [.int p2, .int 0, .int 7] [] ms_622 rfl (w_X11_within gx5) (by omega) (by omega) (Nat.le_of_ble_eq_true rfl) (by decide +kernel) rfl ?_
    refine C.if_ne (off := 5) (tgt := 25) (pf := 23) (by decide +kernel) (by decide) rfl (fun c13 => ?_) (fun c13 => ?_)
    · replace hf := ifn c13 hf
      refine C.seg (pe := 26) (lv' := [(3, .ref a4), (0, .ref a0), (1, .int p1), (2, .int p2)]) (st' := [.ref a4]) [(.aload_n 3, 1, 0)] (by decide +kernel) rfl ?_
      obtain ⟨x7, gx7, hf⟩ := Option.bind_eq_some_iff.mp hf
      refine C.rdI fr_664 gx7 (by decide +kernel) rfl ?_
      refine C.seg (pe := 31) (lv' := [(3, .ref a4), (0, .ref a0), (1, .int p1), (2, .int p2)]) (st' := [.int (-2), .int x7]) [(.bipush (-2), 2, (-2))] (by decide +kernel) rfl ?_
      refine C.icmp_ne (off := 8) (tgt := 39) (pf := 34) (by decide +kernel) (by decide) rfl (fun c12 => ?_) (fun c12 => ?_)
      · replace hf := ifn c12 hf
        refine C.seg (pe := 42) (lv' := [(3, .ref a4), (0, .ref a0), (1, .int p1), (2, .int p2)]) (st' := [.ref a0, .int p2, .ref a4]) [(.aload_n 3, 1, 0), (.iload_n 2, 1, 0), (.aload_n 0, 1, 0)] (by decide +kernel) rfl ?_
        obtain ⟨a8, ga8, hf⟩ := Option.bind_eq_some_iff.mp hf
        refine C.rdA fr_562 ga8 (by decide +kernel) rfl ?_
        obtain ⟨x9, gx9, hf⟩ := Option.bind_eq_some_iff.mp hf
        refine C.rdI fr_241 gx9 (by decide +kernel) rfl ?_
        obtain ⟨x10, h11, gx10, hf⟩ := b2_some hf
        refine C.callVr C2 [.int p2, .int x9] [] mv_1486 rfl (o_X8_freshness gx10) (w_X8_freshness gx10) (by omega) (by omega) (Nat.le_of_ble_eq_true rfl) (by decide +kernel) rfl ?_
        refine Vsub [] rfl ?_
        exact l_X11_looks_51 C C2 x10 h11 hf
      · replace hf := ifp c12 hf
        refine C.seg (pe := 36) (lv' := [(3, .ref a4), (0, .ref a0), (1, .int p1), (2, .int p2)]) (st' := [.int (-2)]) [(.bipush (-2), 2, (-2))] (by decide +kernel) rfl ?_
        refine C.goto (off := 15) (tgt := 51) (by decide +kernel) (by decide) ?_
        refine Vsub [] rfl ?_
        exact l_X11_looks_51 C C2 (-2) h6 hf
    · replace hf := ifp c13 hf
      refine Vsub [] rfl ?_
      exact l_X11_looks_23 C C2 h6 hf
theorem o_X11_looks {z : ZX} {a0 : Nat} {p1 : Int32} {p2 : Int32} {h : AH} {rr : Int32} {hr : AH} (hf : f_X11_looks z a0 p1 p2 h = some (rr, hr)) : isO 11 h a0 = true := by
  unfold f_X11_looks at hf
  exact (ifO hf).1
/-! WallHouse.pale(I)I -/
def f_X11_pale_65 (z : ZX) (k20 : Nat → Int32 → Int32 → Int32 → AH → Option (Int32 × AH)) (r0 : Nat) (i1 : Int32) (i2 : Int32) (i3 : Int32) (h : AH) : Option (Int32 × AH) :=
  k20 r0 i1 i2 (i3 + 1) h
set_option maxRecDepth 100000 in
set_option maxHeartbeats 4000000 in
theorem l_X11_pale_65 {X : MX} {l : Launch} {G : GX} {h0 : AH} {rr : Int32} {hr : AH} (C : Cx X G RX11 cX11_pale 5 (some .int) 3 88 h0) (C2 : Cy X l "pale" []) {k20 : Nat → Int32 → Int32 → Int32 → AH → Option (Int32 × AH)} (hk20 : ∀ (r0 : Nat) (i1 : Int32) (i2 : Int32) (i3 : Int32) (h : AH), k20 r0 i1 i2 i3 h = some (rr, hr) → V X G h0 (QI rr hr) 20 [(0, .ref r0), (1, .int i1), (2, .int i2), (3, .int i3)] [] h) (r0 : Nat) (i1 : Int32) (i2 : Int32) (i3 : Int32) (h : AH) (hf : f_X11_pale_65 G.2.2 k20 r0 i1 i2 i3 h = some (rr, hr)) : V X G h0 (QI rr hr) 65 [(0, .ref r0), (1, .int i1), (2, .int i2), (3, .int i3)] [] h := by
  unfold f_X11_pale_65 at hf
  refine C.seg (pe := 68) (lv' := [(3, .int (i3 + 1)), (0, .ref r0), (1, .int i1), (2, .int i2)]) (st' := []) [(.iinc 3 1, 3, 1)] (by decide +kernel) rfl ?_
  refine C.goto (off := (-48)) (tgt := 20) (by decide +kernel) (by decide) ?_
  refine Vsub [1, 2, 3, 0] rfl ?_
  exact hk20 r0 i1 i2 (i3 + 1) h hf
def f_X11_pale_20 (z : ZX) : Nat → Nat → Int32 → Int32 → Int32 → AH → Option (Int32 × AH)
  | 0, _, _, _, _, _ => none
  | n + 1, r0, i1, i2, i3, h =>
    (gA 11 h r0 0).bind fun a1 =>
    (gI 9 h a1 1).bind fun x2 =>
    if x2 ≤ i3 then
      b2 (f_X11_tell r0 i2 h) fun x3 h4 =>
      some (x3, h4)
    else
      (gA 11 h r0 0).bind fun a5 =>
      b2 (f_X9_at a5 i3 h) fun q6 h7 =>
      tr q6 (
        f_X11_pale_65 z (f_X11_pale_20 z n) r0 i1 i2 i3 h7) fun a8 =>
      (gA 11 h7 r0 2).bind fun a9 =>
      (gI 10 h7 a9 14).bind fun x10 =>
      b2 (f_X8_isPale z a8 i1 x10 h7) fun x11 h12 =>
      if x11 = 0 then
        f_X11_pale_65 z (f_X11_pale_20 z n) r0 i1 i2 i3 h12
      else
        f_X11_pale_65 z (f_X11_pale_20 z n) r0 i1 (i2 + 1) i3 h12
set_option maxRecDepth 100000 in
set_option maxHeartbeats 4000000 in
theorem l_X11_pale_20 {X : MX} {l : Launch} {G : GX} {h0 : AH} {rr : Int32} {hr : AH} (C : Cx X G RX11 cX11_pale 5 (some .int) 3 88 h0) (C2 : Cy X l "pale" []) : ∀ (n : Nat) (r0 : Nat) (i1 : Int32) (i2 : Int32) (i3 : Int32) (h : AH), f_X11_pale_20 G.2.2 n r0 i1 i2 i3 h = some (rr, hr) → V X G h0 (QI rr hr) 20 [(0, .ref r0), (1, .int i1), (2, .int i2), (3, .int i3)] [] h := by
  intro n
  induction n with
  | zero => intro r0 i1 i2 i3 h hf; rw [f_X11_pale_20] at hf; cases hf
  | succ n ih =>
    intro r0 i1 i2 i3 h hf
    rw [f_X11_pale_20] at hf
    refine C.seg (pe := 22) (lv' := [(0, .ref r0), (1, .int i1), (2, .int i2), (3, .int i3)]) (st' := [.ref r0, .int i3]) [(.iload_n 3, 1, 0), (.aload_n 0, 1, 0)] (by decide +kernel) rfl ?_
    obtain ⟨a1, ga1, hf⟩ := Option.bind_eq_some_iff.mp hf
    refine C.rdA fr_560 ga1 (by decide +kernel) rfl ?_
    obtain ⟨x2, gx2, hf⟩ := Option.bind_eq_some_iff.mp hf
    refine C.rdI fr_167 gx2 (by decide +kernel) rfl ?_
    refine C.icmp_ge (off := 43) (tgt := 71) (pf := 31) (by decide +kernel) (by decide) rfl (fun c14 => ?_) (fun c14 => ?_)
    · replace hf := ifp c14 hf
      refine C.seg (pe := 73) (lv' := [(0, .ref r0), (1, .int i1), (2, .int i2), (3, .int i3)]) (st' := [.int i2, .ref r0]) [(.aload_n 0, 1, 0), (.iload_n 2, 1, 0)] (by decide +kernel) rfl ?_
      obtain ⟨x3, h4, gx3, hf⟩ := b2_some hf
      refine C.callVr C2 [.int i2] [] mv_712 rfl (o_X11_tell gx3) (w_X11_tell gx3) (by omega) (by omega) (Nat.le_of_ble_eq_true rfl) (by decide +kernel) rfl ?_
      cases hf
      exact C.retI rfl (by decide +kernel) ⟨rfl, rfl⟩
    · replace hf := ifn c14 hf
      refine C.seg (pe := 32) (lv' := [(0, .ref r0), (1, .int i1), (2, .int i2), (3, .int i3)]) (st' := [.ref r0]) [(.aload_n 0, 1, 0)] (by decide +kernel) rfl ?_
      obtain ⟨a5, ga5, hf⟩ := Option.bind_eq_some_iff.mp hf
      refine C.rdA fr_560 ga5 (by decide +kernel) rfl ?_
      refine C.seg (pe := 36) (lv' := [(0, .ref r0), (1, .int i1), (2, .int i2), (3, .int i3)]) (st' := [.int i3, .ref a5]) [(.iload_n 3, 1, 0)] (by decide +kernel) rfl ?_
      obtain ⟨q6, h7, gq6, hf⟩ := b2_some hf
      cases q6 with
      | none =>
        replace hf := tr_none hf
        refine C.callVr C2 [.int i3] [] mv_720 rfl (o_X9_at gq6) (w_X9_at gq6) (by omega) (by omega) (Nat.le_of_ble_eq_true rfl) (by decide +kernel) rfl ?_
        refine C.seg (pe := 43) (lv' := [(4, .null), (0, .ref r0), (1, .int i1), (2, .int i2), (3, .int i3)]) (st' := [.null]) [(.astore 4, 2, 0), (.aload 4, 2, 0)] (by decide +kernel) rfl ?_
        refine C.nullN (off := 22) (tgt := 65) (by decide +kernel) (by decide) ?_
        refine Vsub [1, 2, 3, 4] rfl ?_
        exact l_X11_pale_65 C C2 ih r0 i1 i2 i3 h7 hf
      | some a8 =>
        replace hf := tr_some hf
        refine C.callVr C2 [.int i3] [] mv_720 rfl (o_X9_at gq6) (w_X9_at gq6) (by omega) (by omega) (Nat.le_of_ble_eq_true rfl) (by decide +kernel) rfl ?_
        refine C.seg (pe := 43) (lv' := [(4, .ref a8), (0, .ref r0), (1, .int i1), (2, .int i2), (3, .int i3)]) (st' := [.ref a8]) [(.astore 4, 2, 0), (.aload 4, 2, 0)] (by decide +kernel) rfl ?_
        refine C.nullR (off := 22) (pf := 46) (by decide +kernel) rfl ?_
        refine C.seg (pe := 50) (lv' := [(4, .ref a8), (0, .ref r0), (1, .int i1), (2, .int i2), (3, .int i3)]) (st' := [.ref r0, .int i1, .ref a8]) [(.aload 4, 2, 0), (.iload_n 1, 1, 0), (.aload_n 0, 1, 0)] (by decide +kernel) rfl ?_
        obtain ⟨a9, ga9, hf⟩ := Option.bind_eq_some_iff.mp hf
        refine C.rdA fr_562 ga9 (by decide +kernel) rfl ?_
        obtain ⟨x10, gx10, hf⟩ := Option.bind_eq_some_iff.mp hf
        refine C.rdI fr_241 gx10 (by decide +kernel) rfl ?_
        obtain ⟨x11, h12, gx11, hf⟩ := b2_some hf
        refine C.callVr C2 [.int i1, .int x10] [] mv_1496 rfl (o_X8_isPale gx11) (w_X8_isPale gx11) (by omega) (by omega) (Nat.le_of_ble_eq_true rfl) (by decide +kernel) rfl ?_
        refine C.if_eq (off := 6) (tgt := 65) (pf := 62) (by decide +kernel) (by decide) rfl (fun c13 => ?_) (fun c13 => ?_)
        · replace hf := ifp c13 hf
          refine Vsub [1, 2, 3, 4] rfl ?_
          exact l_X11_pale_65 C C2 ih r0 i1 i2 i3 h12 hf
        · replace hf := ifn c13 hf
          refine C.seg (pe := 65) (lv' := [(2, .int (i2 + 1)), (4, .ref a8), (0, .ref r0), (1, .int i1), (3, .int i3)]) (st' := []) [(.iinc 2 1, 3, 1)] (by decide +kernel) rfl ?_
          refine Vsub [2, 3, 0, 4] rfl ?_
          exact l_X11_pale_65 C C2 ih r0 i1 (i2 + 1) i3 h12 hf
def f_X11_pale (z : ZX) (a0 : Nat) (p1 : Int32) (h : AH) : Option (Int32 × AH) :=
  if isO 11 h a0 = true then
    b2 (f_X11_within p1 0 100 h) fun x1 h2 =>
    if x1 = 0 then
      b2 (f_X11_refuse a0 2 h2) fun x3 h4 =>
      some (x3, h4)
    else
      f_X11_pale_20 z FU a0 p1 0 0 h2
  else none
set_option maxRecDepth 100000 in
set_option maxHeartbeats 4000000 in
theorem w_X11_pale {l : Launch} {G : GX} {a0 : Nat} {p1 : Int32} {h : AH} {rr : Int32} {hr : AH} (hf : f_X11_pale G.2.2 a0 p1 h = some (rr, hr)) : Ct l G yX11_pale 3 88 [.ref a0, .int p1] h (QI rr hr) := by
  unfold f_X11_pale at hf
  obtain ⟨ho, hf⟩ := ifO hf
  refine Ct_of (own := RX11) (cc := cX11_pale) (nL := 5) (ret := (some .int)) rfl rfl k_1495 (Nat.le_of_ble_eq_true rfl) (fun X C2 C => ?_)
  show V X G h (QI rr hr) 0 [(0, .ref a0), (1, .int p1)] [] h
  refine C.seg (pe := 4) (lv' := [(0, .ref a0), (1, .int p1)]) (st' := [.int 100, .int 0, .int p1]) [(.iload_n 1, 1, 0), (.iconst 0, 1, 0), (.bipush 100, 2, 100)] (by decide +kernel) rfl ?_
  obtain ⟨x1, h2, gx1, hf⟩ := b2_some hf
  refine C.callSr C2 [.int p1, .int 0, .int 100] [] ms_622 rfl (w_X11_within gx1) (by omega) (by omega) (Nat.le_of_ble_eq_true rfl) (by decide +kernel) rfl ?_
  refine C.if_ne (off := 9) (tgt := 16) (pf := 10) (by decide +kernel) (by decide) rfl (fun c5 => ?_) (fun c5 => ?_)
  · replace hf := ifn c5 hf
    refine C.seg (pe := 20) (lv' := [(3, .int 0), (2, .int 0), (0, .ref a0), (1, .int p1)]) (st' := []) [(.iconst 0, 1, 0), (.istore_n 2, 1, 0), (.iconst 0, 1, 0), (.istore_n 3, 1, 0)] (by decide +kernel) rfl ?_
    refine Vsub [2, 3, 1, 0] rfl ?_
    exact l_X11_pale_20 C C2 FU a0 p1 0 0 h2 hf
  · replace hf := ifp c5 hf
    refine C.seg (pe := 12) (lv' := [(0, .ref a0), (1, .int p1)]) (st' := [.int 2, .ref a0]) [(.aload_n 0, 1, 0), (.iconst 2, 1, 2)] (by decide +kernel) rfl ?_
    obtain ⟨x3, h4, gx3, hf⟩ := b2_some hf
    refine C.callVr C2 [.int 2] [] mv_625 rfl (o_X11_refuse gx3) (w_X11_refuse gx3) (by omega) (by omega) (Nat.le_of_ble_eq_true rfl) (by decide +kernel) rfl ?_
    cases hf
    exact C.retI rfl (by decide +kernel) ⟨rfl, rfl⟩
theorem o_X11_pale {z : ZX} {a0 : Nat} {p1 : Int32} {h : AH} {rr : Int32} {hr : AH} (hf : f_X11_pale z a0 p1 h = some (rr, hr)) : isO 11 h a0 = true := by
  unfold f_X11_pale at hf
  exact (ifO hf).1
/-! WallHouse.tag(II)I -/
def f_X11_tag (a0 : Nat) (p1 : Int32) (p2 : Int32) (h : AH) : Option (Int32 × AH) :=
  if isO 11 h a0 = true then
    (gA 11 h a0 0).bind fun a1 =>
    b2 (f_X9_at a1 p1 h) fun q2 h3 =>
    tr q2 (
      b2 (f_X11_refuse a0 1 h3) fun x5 h6 =>
      some (x5, h6)) fun a4 =>
    b2 (f_X11_within p2 1 30 h3) fun x7 h8 =>
    if x7 = 0 then
      b2 (f_X11_refuse a0 2 h8) fun x21 h22 =>
      some (x21, h22)
    else
      (gA 11 h8 a0 4).bind fun a9 =>
      (gI 6 h8 a9 1).bind fun x10 =>
      if x10 < 100 then
        (gA 11 h8 a0 4).bind fun a11 =>
        (gA 11 h8 a0 2).bind fun a12 =>
        (gI 10 h8 a12 14).bind fun x13 =>
        b2 (f_X6_addTag a11 p1 (x13 + p2) h8) fun x14 h15 =>
        b2 (f_X11_tell a0 x14 h15) fun x16 h17 =>
        some (x16, h17)
      else
        b2 (f_X11_refuse a0 3 h8) fun x18 h19 =>
        some (x18, h19)
  else none
set_option maxRecDepth 100000 in
set_option maxHeartbeats 4000000 in
theorem w_X11_tag {l : Launch} {G : GX} {a0 : Nat} {p1 : Int32} {p2 : Int32} {h : AH} {rr : Int32} {hr : AH} (hf : f_X11_tag a0 p1 p2 h = some (rr, hr)) : Ct l G yX11_tag 1 22 [.ref a0, .int p1, .int p2] h (QI rr hr) := by
  unfold f_X11_tag at hf
  obtain ⟨ho, hf⟩ := ifO hf
  refine Ct_of (own := RX11) (cc := cX11_tag) (nL := 3) (ret := (some .int)) rfl rfl k_1504 (Nat.le_of_ble_eq_true rfl) (fun X C2 C => ?_)
  show V X G h (QI rr hr) 0 [(0, .ref a0), (1, .int p1), (2, .int p2)] [] h
  refine C.seg (pe := 1) (lv' := [(0, .ref a0), (1, .int p1), (2, .int p2)]) (st' := [.ref a0]) [(.aload_n 0, 1, 0)] (by decide +kernel) rfl ?_
  obtain ⟨a1, ga1, hf⟩ := Option.bind_eq_some_iff.mp hf
  refine C.rdA fr_560 ga1 (by decide +kernel) rfl ?_
  refine C.seg (pe := 5) (lv' := [(0, .ref a0), (1, .int p1), (2, .int p2)]) (st' := [.int p1, .ref a1]) [(.iload_n 1, 1, 0)] (by decide +kernel) rfl ?_
  obtain ⟨q2, h3, gq2, hf⟩ := b2_some hf
  cases q2 with
  | none =>
    replace hf := tr_none hf
    refine C.callVr C2 [.int p1] [] mv_720 rfl (o_X9_at gq2) (w_X9_at gq2) (by omega) (by omega) (Nat.le_of_ble_eq_true rfl) (by decide +kernel) rfl ?_
    refine C.nonnullN (off := 9) (pf := 11) (by decide +kernel) rfl ?_
    refine C.seg (pe := 13) (lv' := [(0, .ref a0), (1, .int p1), (2, .int p2)]) (st' := [.int 1, .ref a0]) [(.aload_n 0, 1, 0), (.iconst 1, 1, 1)] (by decide +kernel) rfl ?_
    obtain ⟨x5, h6, gx5, hf⟩ := b2_some hf
    refine C.callVr C2 [.int 1] [] mv_625 rfl (o_X11_refuse gx5) (w_X11_refuse gx5) (by omega) (by omega) (Nat.le_of_ble_eq_true rfl) (by decide +kernel) rfl ?_
    cases hf
    exact C.retI rfl (by decide +kernel) ⟨rfl, rfl⟩
  | some a4 =>
    replace hf := tr_some hf
    refine C.callVr C2 [.int p1] [] mv_720 rfl (o_X9_at gq2) (w_X9_at gq2) (by omega) (by omega) (Nat.le_of_ble_eq_true rfl) (by decide +kernel) rfl ?_
    refine C.nonnullR (off := 9) (tgt := 17) (by decide +kernel) (by decide) ?_
    refine C.seg (pe := 21) (lv' := [(0, .ref a0), (1, .int p1), (2, .int p2)]) (st' := [.int 30, .int 1, .int p2]) [(.iload_n 2, 1, 0), (.iconst 1, 1, 1), (.bipush 30, 2, 30)] (by decide +kernel) rfl ?_
    obtain ⟨x7, h8, gx7, hf⟩ := b2_some hf
    refine C.callSr C2 [.int p2, .int 1, .int 30] [] ms_622 rfl (w_X11_within gx7) (by omega) (by omega) (Nat.le_of_ble_eq_true rfl) (by decide +kernel) rfl ?_
    refine C.if_ne (off := 9) (tgt := 33) (pf := 27) (by decide +kernel) (by decide) rfl (fun c23 => ?_) (fun c23 => ?_)
    · replace hf := ifn c23 hf
      refine C.seg (pe := 34) (lv' := [(0, .ref a0), (1, .int p1), (2, .int p2)]) (st' := [.ref a0]) [(.aload_n 0, 1, 0)] (by decide +kernel) rfl ?_
      obtain ⟨a9, ga9, hf⟩ := Option.bind_eq_some_iff.mp hf
      refine C.rdA fr_564 ga9 (by decide +kernel) rfl ?_
      obtain ⟨x10, gx10, hf⟩ := Option.bind_eq_some_iff.mp hf
      refine C.rdI fr_336 gx10 (by decide +kernel) rfl ?_
      refine C.seg (pe := 42) (lv' := [(0, .ref a0), (1, .int p1), (2, .int p2)]) (st' := [.int 100, .int x10]) [(.bipush 100, 2, 100)] (by decide +kernel) rfl ?_
      refine C.icmp_lt (off := 9) (tgt := 51) (pf := 45) (by decide +kernel) (by decide) rfl (fun c20 => ?_) (fun c20 => ?_)
      · replace hf := ifp c20 hf
        refine C.seg (pe := 53) (lv' := [(0, .ref a0), (1, .int p1), (2, .int p2)]) (st' := [.ref a0, .ref a0]) [(.aload_n 0, 1, 0), (.aload_n 0, 1, 0)] (by decide +kernel) rfl ?_
        obtain ⟨a11, ga11, hf⟩ := Option.bind_eq_some_iff.mp hf
        refine C.rdA fr_564 ga11 (by decide +kernel) rfl ?_
        refine C.seg (pe := 58) (lv' := [(0, .ref a0), (1, .int p1), (2, .int p2)]) (st' := [.ref a0, .int p1, .ref a11, .ref a0]) [(.iload_n 1, 1, 0), (.aload_n 0, 1, 0)] (by decide +kernel) rfl ?_
        obtain ⟨a12, ga12, hf⟩ := Option.bind_eq_some_iff.mp hf
        refine C.rdA fr_562 ga12 (by decide +kernel) rfl ?_
        obtain ⟨x13, gx13, hf⟩ := Option.bind_eq_some_iff.mp hf
        refine C.rdI fr_241 gx13 (by decide +kernel) rfl ?_
        refine C.seg (pe := 66) (lv' := [(0, .ref a0), (1, .int p1), (2, .int p2)]) (st' := [.int (x13 + p2), .int p1, .ref a11, .ref a0]) [(.iload_n 2, 1, 0), (.iadd, 1, 0)] (by decide +kernel) rfl ?_
        obtain ⟨x14, h15, gx14, hf⟩ := b2_some hf
        refine C.callVr C2 [.int p1, .int (x13 + p2)] [.ref a0] mv_1505 rfl (o_X6_addTag gx14) (w_X6_addTag gx14) (by omega) (by omega) (Nat.le_of_ble_eq_true rfl) (by decide +kernel) rfl ?_
        obtain ⟨x16, h17, gx16, hf⟩ := b2_some hf
        refine C.callVr C2 [.int x14] [] mv_712 rfl (o_X11_tell gx16) (w_X11_tell gx16) (by omega) (by omega) (Nat.le_of_ble_eq_true rfl) (by decide +kernel) rfl ?_
        cases hf
        exact C.retI rfl (by decide +kernel) ⟨rfl, rfl⟩
      · replace hf := ifn c20 hf
        refine C.seg (pe := 47) (lv' := [(0, .ref a0), (1, .int p1), (2, .int p2)]) (st' := [.int 3, .ref a0]) [(.aload_n 0, 1, 0), (.iconst 3, 1, 3)] (by decide +kernel) rfl ?_
        obtain ⟨x18, h19, gx18, hf⟩ := b2_some hf
        refine C.callVr C2 [.int 3] [] mv_625 rfl (o_X11_refuse gx18) (w_X11_refuse gx18) (by omega) (by omega) (Nat.le_of_ble_eq_true rfl) (by decide +kernel) rfl ?_
        cases hf
        exact C.retI rfl (by decide +kernel) ⟨rfl, rfl⟩
    · replace hf := ifp c23 hf
      refine C.seg (pe := 29) (lv' := [(0, .ref a0), (1, .int p1), (2, .int p2)]) (st' := [.int 2, .ref a0]) [(.aload_n 0, 1, 0), (.iconst 2, 1, 2)] (by decide +kernel) rfl ?_
      obtain ⟨x21, h22, gx21, hf⟩ := b2_some hf
      refine C.callVr C2 [.int 2] [] mv_625 rfl (o_X11_refuse gx21) (w_X11_refuse gx21) (by omega) (by omega) (Nat.le_of_ble_eq_true rfl) (by decide +kernel) rfl ?_
      cases hf
      exact C.retI rfl (by decide +kernel) ⟨rfl, rfl⟩
theorem o_X11_tag {a0 : Nat} {p1 : Int32} {p2 : Int32} {h : AH} {rr : Int32} {hr : AH} (hf : f_X11_tag a0 p1 p2 h = some (rr, hr)) : isO 11 h a0 = true := by
  unfold f_X11_tag at hf
  exact (ifO hf).1
/-! WallHouse.clean(I)Z -/
def f_X11_clean (a0 : Nat) (p1 : Int32) (h : AH) : Option (Int32 × AH) :=
  if isO 11 h a0 = true then
    (gA 11 h a0 4).bind fun a1 =>
    b2 (f_X6_isTag a1 p1 h) fun x2 h3 =>
    if x2 = 0 then
      b2 (f_X11_deny a0 1 h3) fun x16 h17 =>
      (ckZ x16).bind fun x18 =>
      some (x18, h17)
    else
      (gA 11 h3 a0 4).bind fun a4 =>
      (gA 11 h3 a0 2).bind fun a5 =>
      (gI 10 h3 a5 14).bind fun x6 =>
      b2 (f_X6_cleanTag a4 p1 x6 h3) fun x7 h8 =>
      if x7 = 0 then
        b2 (f_X11_deny a0 5 h8) fun x12 h13 =>
        (ckZ x12).bind fun x14 =>
        some (x14, h13)
      else
        b2 (f_X11_grant a0 h8) fun x9 h10 =>
        (ckZ x9).bind fun x11 =>
        some (x11, h10)
  else none
set_option maxRecDepth 100000 in
set_option maxHeartbeats 4000000 in
theorem w_X11_clean {l : Launch} {G : GX} {a0 : Nat} {p1 : Int32} {h : AH} {rr : Int32} {hr : AH} (hf : f_X11_clean a0 p1 h = some (rr, hr)) : Ct l G yX11_clean 2 43 [.ref a0, .int p1] h (QI rr hr) := by
  unfold f_X11_clean at hf
  obtain ⟨ho, hf⟩ := ifO hf
  refine Ct_of (own := RX11) (cc := cX11_clean) (nL := 2) (ret := (some .boolean)) rfl rfl k_1512 (Nat.le_of_ble_eq_true rfl) (fun X C2 C => ?_)
  show V X G h (QI rr hr) 0 [(0, .ref a0), (1, .int p1)] [] h
  refine C.seg (pe := 1) (lv' := [(0, .ref a0), (1, .int p1)]) (st' := [.ref a0]) [(.aload_n 0, 1, 0)] (by decide +kernel) rfl ?_
  obtain ⟨a1, ga1, hf⟩ := Option.bind_eq_some_iff.mp hf
  refine C.rdA fr_564 ga1 (by decide +kernel) rfl ?_
  refine C.seg (pe := 5) (lv' := [(0, .ref a0), (1, .int p1)]) (st' := [.int p1, .ref a1]) [(.iload_n 1, 1, 0)] (by decide +kernel) rfl ?_
  obtain ⟨x2, h3, gx2, hf⟩ := b2_some hf
  refine C.callVr C2 [.int p1] [] mv_1513 rfl (o_X6_isTag gx2) (w_X6_isTag gx2) (by omega) (by omega) (Nat.le_of_ble_eq_true rfl) (by decide +kernel) rfl ?_
  refine C.if_ne (off := 9) (tgt := 17) (pf := 11) (by decide +kernel) (by decide) rfl (fun c19 => ?_) (fun c19 => ?_)
  · replace hf := ifn c19 hf
    refine C.seg (pe := 18) (lv' := [(0, .ref a0), (1, .int p1)]) (st' := [.ref a0]) [(.aload_n 0, 1, 0)] (by decide +kernel) rfl ?_
    obtain ⟨a4, ga4, hf⟩ := Option.bind_eq_some_iff.mp hf
    refine C.rdA fr_564 ga4 (by decide +kernel) rfl ?_
    refine C.seg (pe := 23) (lv' := [(0, .ref a0), (1, .int p1)]) (st' := [.ref a0, .int p1, .ref a4]) [(.iload_n 1, 1, 0), (.aload_n 0, 1, 0)] (by decide +kernel) rfl ?_
    obtain ⟨a5, ga5, hf⟩ := Option.bind_eq_some_iff.mp hf
    refine C.rdA fr_562 ga5 (by decide +kernel) rfl ?_
    obtain ⟨x6, gx6, hf⟩ := Option.bind_eq_some_iff.mp hf
    refine C.rdI fr_241 gx6 (by decide +kernel) rfl ?_
    obtain ⟨x7, h8, gx7, hf⟩ := b2_some hf
    refine C.callVr C2 [.int p1, .int x6] [] mv_1517 rfl (o_X6_cleanTag gx7) (w_X6_cleanTag gx7) (by omega) (by omega) (Nat.le_of_ble_eq_true rfl) (by decide +kernel) rfl ?_
    refine C.if_ne (off := 9) (tgt := 41) (pf := 35) (by decide +kernel) (by decide) rfl (fun c15 => ?_) (fun c15 => ?_)
    · replace hf := ifn c15 hf
      refine C.seg (pe := 42) (lv' := [(0, .ref a0), (1, .int p1)]) (st' := [.ref a0]) [(.aload_n 0, 1, 0)] (by decide +kernel) rfl ?_
      obtain ⟨x9, h10, gx9, hf⟩ := b2_some hf
      refine C.callVr C2 [] [] mv_769 rfl (o_X11_grant gx9) (w_X11_grant gx9) (by omega) (by omega) (Nat.le_of_ble_eq_true rfl) (by decide +kernel) rfl ?_
      obtain ⟨x11, gx11, hf⟩ := Option.bind_eq_some_iff.mp hf
      have ex11 := ckZ_eq gx11
      subst ex11
      cases hf
      exact C.retZ rfl gx11 (by decide +kernel) ⟨rfl, rfl⟩
    · replace hf := ifp c15 hf
      refine C.seg (pe := 37) (lv' := [(0, .ref a0), (1, .int p1)]) (st' := [.int 5, .ref a0]) [(.aload_n 0, 1, 0), (.iconst 5, 1, 5)] (by decide +kernel) rfl ?_
      obtain ⟨x12, h13, gx12, hf⟩ := b2_some hf
      refine C.callVr C2 [.int 5] [] mv_761 rfl (o_X11_deny gx12) (w_X11_deny gx12) (by omega) (by omega) (Nat.le_of_ble_eq_true rfl) (by decide +kernel) rfl ?_
      obtain ⟨x14, gx14, hf⟩ := Option.bind_eq_some_iff.mp hf
      have ex14 := ckZ_eq gx14
      subst ex14
      cases hf
      exact C.retZ rfl gx14 (by decide +kernel) ⟨rfl, rfl⟩
  · replace hf := ifp c19 hf
    refine C.seg (pe := 13) (lv' := [(0, .ref a0), (1, .int p1)]) (st' := [.int 1, .ref a0]) [(.aload_n 0, 1, 0), (.iconst 1, 1, 1)] (by decide +kernel) rfl ?_
    obtain ⟨x16, h17, gx16, hf⟩ := b2_some hf
    refine C.callVr C2 [.int 1] [] mv_761 rfl (o_X11_deny gx16) (w_X11_deny gx16) (by omega) (by omega) (Nat.le_of_ble_eq_true rfl) (by decide +kernel) rfl ?_
    obtain ⟨x18, gx18, hf⟩ := Option.bind_eq_some_iff.mp hf
    have ex18 := ckZ_eq gx18
    subst ex18
    cases hf
    exact C.retZ rfl gx18 (by decide +kernel) ⟨rfl, rfl⟩
theorem o_X11_clean {a0 : Nat} {p1 : Int32} {h : AH} {rr : Int32} {hr : AH} (hf : f_X11_clean a0 p1 h = some (rr, hr)) : isO 11 h a0 = true := by
  unfold f_X11_clean at hf
  exact (ifO hf).1
/-! WallHouse.late()I -/
def f_X11_late (a0 : Nat) (h : AH) : Option (Int32 × AH) :=
  if isO 11 h a0 = true then
    (gA 11 h a0 4).bind fun a1 =>
    (gA 11 h a0 2).bind fun a2 =>
    (gI 10 h a2 14).bind fun x3 =>
    b2 (f_X6_lateTags a1 x3 h) fun x4 h5 =>
    some (x4, h5)
  else none
set_option maxRecDepth 100000 in
set_option maxHeartbeats 4000000 in
theorem w_X11_late {l : Launch} {G : GX} {a0 : Nat} {h : AH} {rr : Int32} {hr : AH} (hf : f_X11_late a0 h = some (rr, hr)) : Ct l G yX11_late 1 24 [.ref a0] h (QI rr hr) := by
  unfold f_X11_late at hf
  obtain ⟨ho, hf⟩ := ifO hf
  refine Ct_of (own := RX11) (cc := cX11_late) (nL := 1) (ret := (some .int)) rfl rfl k_1525 (Nat.le_of_ble_eq_true rfl) (fun X C2 C => ?_)
  show V X G h (QI rr hr) 0 [(0, .ref a0)] [] h
  refine C.seg (pe := 1) (lv' := [(0, .ref a0)]) (st' := [.ref a0]) [(.aload_n 0, 1, 0)] (by decide +kernel) rfl ?_
  obtain ⟨a1, ga1, hf⟩ := Option.bind_eq_some_iff.mp hf
  refine C.rdA fr_564 ga1 (by decide +kernel) rfl ?_
  refine C.seg (pe := 5) (lv' := [(0, .ref a0)]) (st' := [.ref a0, .ref a1]) [(.aload_n 0, 1, 0)] (by decide +kernel) rfl ?_
  obtain ⟨a2, ga2, hf⟩ := Option.bind_eq_some_iff.mp hf
  refine C.rdA fr_562 ga2 (by decide +kernel) rfl ?_
  obtain ⟨x3, gx3, hf⟩ := Option.bind_eq_some_iff.mp hf
  refine C.rdI fr_241 gx3 (by decide +kernel) rfl ?_
  obtain ⟨x4, h5, gx4, hf⟩ := b2_some hf
  refine C.callVr C2 [.int x3] [] mv_1526 rfl (o_X6_lateTags gx4) (w_X6_lateTags gx4) (by omega) (by omega) (Nat.le_of_ble_eq_true rfl) (by decide +kernel) rfl ?_
  cases hf
  exact C.retI rfl (by decide +kernel) ⟨rfl, rfl⟩
theorem o_X11_late {a0 : Nat} {h : AH} {rr : Int32} {hr : AH} (hf : f_X11_late a0 h = some (rr, hr)) : isO 11 h a0 = true := by
  unfold f_X11_late at hf
  exact (ifO hf).1
/-! WallHouse.round(I)I -/
def f_X11_round (a0 : Nat) (p1 : Int32) (h : AH) : Option (Int32 × AH) :=
  if isO 11 h a0 = true then
    b2 (f_X11_within p1 0 600 h) fun x1 h2 =>
    if x1 = 0 then
      b2 (f_X11_refuse a0 2 h2) fun x15 h16 =>
      some (x15, h16)
    else
      (gA 11 h2 a0 0).bind fun a3 =>
      (gI 9 h2 a3 1).bind fun x4 =>
      if x4 = 0 then
        b2 (f_X11_refuse a0 1 h2) fun x12 h13 =>
        some (x12, h13)
      else
        (gA 11 h2 a0 4).bind fun a5 =>
        (gA 11 h2 a0 2).bind fun a6 =>
        (gI 10 h2 a6 14).bind fun x7 =>
        b2 (f_X6_goRound a5 p1 x7 h2) fun x8 h9 =>
        b2 (f_X11_tell a0 x8 h9) fun x10 h11 =>
        some (x10, h11)
  else none
set_option maxRecDepth 100000 in
set_option maxHeartbeats 4000000 in
theorem w_X11_round {l : Launch} {G : GX} {a0 : Nat} {p1 : Int32} {h : AH} {rr : Int32} {hr : AH} (hf : f_X11_round a0 p1 h = some (rr, hr)) : Ct l G yX11_round 5 120 [.ref a0, .int p1] h (QI rr hr) := by
  unfold f_X11_round at hf
  obtain ⟨ho, hf⟩ := ifO hf
  refine Ct_of (own := RX11) (cc := cX11_round) (nL := 2) (ret := (some .int)) rfl rfl k_1533 (Nat.le_of_ble_eq_true rfl) (fun X C2 C => ?_)
  show V X G h (QI rr hr) 0 [(0, .ref a0), (1, .int p1)] [] h
  refine C.seg (pe := 5) (lv' := [(0, .ref a0), (1, .int p1)]) (st' := [.int 600, .int 0, .int p1]) [(.iload_n 1, 1, 0), (.iconst 0, 1, 0), (.sipush 600, 3, 600)] (by decide +kernel) rfl ?_
  obtain ⟨x1, h2, gx1, hf⟩ := b2_some hf
  refine C.callSr C2 [.int p1, .int 0, .int 600] [] ms_622 rfl (w_X11_within gx1) (by omega) (by omega) (Nat.le_of_ble_eq_true rfl) (by decide +kernel) rfl ?_
  refine C.if_ne (off := 9) (tgt := 17) (pf := 11) (by decide +kernel) (by decide) rfl (fun c17 => ?_) (fun c17 => ?_)
  · replace hf := ifn c17 hf
    refine C.seg (pe := 18) (lv' := [(0, .ref a0), (1, .int p1)]) (st' := [.ref a0]) [(.aload_n 0, 1, 0)] (by decide +kernel) rfl ?_
    obtain ⟨a3, ga3, hf⟩ := Option.bind_eq_some_iff.mp hf
    refine C.rdA fr_560 ga3 (by decide +kernel) rfl ?_
    obtain ⟨x4, gx4, hf⟩ := Option.bind_eq_some_iff.mp hf
    refine C.rdI fr_167 gx4 (by decide +kernel) rfl ?_
    refine C.if_ne (off := 9) (tgt := 33) (pf := 27) (by decide +kernel) (by decide) rfl (fun c14 => ?_) (fun c14 => ?_)
    · replace hf := ifn c14 hf
      refine C.seg (pe := 35) (lv' := [(0, .ref a0), (1, .int p1)]) (st' := [.ref a0, .ref a0]) [(.aload_n 0, 1, 0), (.aload_n 0, 1, 0)] (by decide +kernel) rfl ?_
      obtain ⟨a5, ga5, hf⟩ := Option.bind_eq_some_iff.mp hf
      refine C.rdA fr_564 ga5 (by decide +kernel) rfl ?_
      refine C.seg (pe := 40) (lv' := [(0, .ref a0), (1, .int p1)]) (st' := [.ref a0, .int p1, .ref a5, .ref a0]) [(.iload_n 1, 1, 0), (.aload_n 0, 1, 0)] (by decide +kernel) rfl ?_
      obtain ⟨a6, ga6, hf⟩ := Option.bind_eq_some_iff.mp hf
      refine C.rdA fr_562 ga6 (by decide +kernel) rfl ?_
      obtain ⟨x7, gx7, hf⟩ := Option.bind_eq_some_iff.mp hf
      refine C.rdI fr_241 gx7 (by decide +kernel) rfl ?_
      obtain ⟨x8, h9, gx8, hf⟩ := b2_some hf
      refine C.callVr C2 [.int p1, .int x7] [.ref a0] mv_1534 rfl (o_X6_goRound gx8) (w_X6_goRound gx8) (by omega) (by omega) (Nat.le_of_ble_eq_true rfl) (by decide +kernel) rfl ?_
      obtain ⟨x10, h11, gx10, hf⟩ := b2_some hf
      refine C.callVr C2 [.int x8] [] mv_712 rfl (o_X11_tell gx10) (w_X11_tell gx10) (by omega) (by omega) (Nat.le_of_ble_eq_true rfl) (by decide +kernel) rfl ?_
      cases hf
      exact C.retI rfl (by decide +kernel) ⟨rfl, rfl⟩
    · replace hf := ifp c14 hf
      refine C.seg (pe := 29) (lv' := [(0, .ref a0), (1, .int p1)]) (st' := [.int 1, .ref a0]) [(.aload_n 0, 1, 0), (.iconst 1, 1, 1)] (by decide +kernel) rfl ?_
      obtain ⟨x12, h13, gx12, hf⟩ := b2_some hf
      refine C.callVr C2 [.int 1] [] mv_625 rfl (o_X11_refuse gx12) (w_X11_refuse gx12) (by omega) (by omega) (Nat.le_of_ble_eq_true rfl) (by decide +kernel) rfl ?_
      cases hf
      exact C.retI rfl (by decide +kernel) ⟨rfl, rfl⟩
  · replace hf := ifp c17 hf
    refine C.seg (pe := 13) (lv' := [(0, .ref a0), (1, .int p1)]) (st' := [.int 2, .ref a0]) [(.aload_n 0, 1, 0), (.iconst 2, 1, 2)] (by decide +kernel) rfl ?_
    obtain ⟨x15, h16, gx15, hf⟩ := b2_some hf
    refine C.callVr C2 [.int 2] [] mv_625 rfl (o_X11_refuse gx15) (w_X11_refuse gx15) (by omega) (by omega) (Nat.le_of_ble_eq_true rfl) (by decide +kernel) rfl ?_
    cases hf
    exact C.retI rfl (by decide +kernel) ⟨rfl, rfl⟩
theorem o_X11_round {a0 : Nat} {p1 : Int32} {h : AH} {rr : Int32} {hr : AH} (hf : f_X11_round a0 p1 h = some (rr, hr)) : isO 11 h a0 = true := by
  unfold f_X11_round at hf
  exact (ifO hf).1
/-! WallHouse.themes(II)Z -/
def f_X11_themes (a0 : Nat) (p1 : Int32) (p2 : Int32) (h : AH) : Option (Int32 × AH) :=
  if isO 11 h a0 = true then
    (gA 11 h a0 0).bind fun a1 =>
    b2 (f_X9_at a1 p1 h) fun q2 h3 =>
    tr q2 (
      b2 (f_X11_deny a0 1 h3) fun x5 h6 =>
      (ckZ x5).bind fun x7 =>
      some (x7, h6)) fun a4 =>
    b2 (f_X11_within p2 0 1023 h3) fun x8 h9 =>
    if x8 = 0 then
      b2 (f_X11_deny a0 2 h9) fun x14 h15 =>
      (ckZ x14).bind fun x16 =>
      some (x16, h15)
    else
      (pI 8 h9 a4 7 p2).bind fun h10 =>
      b2 (f_X11_grant a0 h10) fun x11 h12 =>
      (ckZ x11).bind fun x13 =>
      some (x13, h12)
  else none
set_option maxRecDepth 100000 in
set_option maxHeartbeats 4000000 in
theorem w_X11_themes {l : Launch} {G : GX} {a0 : Nat} {p1 : Int32} {p2 : Int32} {h : AH} {rr : Int32} {hr : AH} (hf : f_X11_themes a0 p1 p2 h = some (rr, hr)) : Ct l G yX11_themes 1 22 [.ref a0, .int p1, .int p2] h (QI rr hr) := by
  unfold f_X11_themes at hf
  obtain ⟨ho, hf⟩ := ifO hf
  refine Ct_of (own := RX11) (cc := cX11_themes) (nL := 4) (ret := (some .boolean)) rfl rfl k_1557 (Nat.le_of_ble_eq_true rfl) (fun X C2 C => ?_)
  show V X G h (QI rr hr) 0 [(0, .ref a0), (1, .int p1), (2, .int p2)] [] h
  refine C.seg (pe := 1) (lv' := [(0, .ref a0), (1, .int p1), (2, .int p2)]) (st' := [.ref a0]) [(.aload_n 0, 1, 0)] (by decide +kernel) rfl ?_
  obtain ⟨a1, ga1, hf⟩ := Option.bind_eq_some_iff.mp hf
  refine C.rdA fr_560 ga1 (by decide +kernel) rfl ?_
  refine C.seg (pe := 5) (lv' := [(0, .ref a0), (1, .int p1), (2, .int p2)]) (st' := [.int p1, .ref a1]) [(.iload_n 1, 1, 0)] (by decide +kernel) rfl ?_
  obtain ⟨q2, h3, gq2, hf⟩ := b2_some hf
  cases q2 with
  | none =>
    replace hf := tr_none hf
    refine C.callVr C2 [.int p1] [] mv_720 rfl (o_X9_at gq2) (w_X9_at gq2) (by omega) (by omega) (Nat.le_of_ble_eq_true rfl) (by decide +kernel) rfl ?_
    refine C.seg (pe := 10) (lv' := [(3, .null), (0, .ref a0), (1, .int p1), (2, .int p2)]) (st' := [.null]) [(.astore_n 3, 1, 0), (.aload_n 3, 1, 0)] (by decide +kernel) rfl ?_
    refine C.nonnullN (off := 9) (pf := 13) (by decide +kernel) rfl ?_
    refine C.seg (pe := 15) (lv' := [(3, .null), (0, .ref a0), (1, .int p1), (2, .int p2)]) (st' := [.int 1, .ref a0]) [(.aload_n 0, 1, 0), (.iconst 1, 1, 1)] (by decide +kernel) rfl ?_
    obtain ⟨x5, h6, gx5, hf⟩ := b2_some hf
    refine C.callVr C2 [.int 1] [] mv_761 rfl (o_X11_deny gx5) (w_X11_deny gx5) (by omega) (by omega) (Nat.le_of_ble_eq_true rfl) (by decide +kernel) rfl ?_
    obtain ⟨x7, gx7, hf⟩ := Option.bind_eq_some_iff.mp hf
    have ex7 := ckZ_eq gx7
    subst ex7
    cases hf
    exact C.retZ rfl gx7 (by decide +kernel) ⟨rfl, rfl⟩
  | some a4 =>
    replace hf := tr_some hf
    refine C.callVr C2 [.int p1] [] mv_720 rfl (o_X9_at gq2) (w_X9_at gq2) (by omega) (by omega) (Nat.le_of_ble_eq_true rfl) (by decide +kernel) rfl ?_
    refine C.seg (pe := 10) (lv' := [(3, .ref a4), (0, .ref a0), (1, .int p1), (2, .int p2)]) (st' := [.ref a4]) [(.astore_n 3, 1, 0), (.aload_n 3, 1, 0)] (by decide +kernel) rfl ?_
    refine C.nonnullR (off := 9) (tgt := 19) (by decide +kernel) (by decide) ?_
    refine C.seg (pe := 24) (lv' := [(3, .ref a4), (0, .ref a0), (1, .int p1), (2, .int p2)]) (st' := [.int 1023, .int 0, .int p2]) [(.iload_n 2, 1, 0), (.iconst 0, 1, 0), (.sipush 1023, 3, 1023)] (by decide +kernel) rfl ?_
    obtain ⟨x8, h9, gx8, hf⟩ := b2_some hf
    refine C.callSr C2 [.int p2, .int 0, .int 1023] [] ms_622 rfl (w_X11_within gx8) (by omega) (by omega) (Nat.le_of_ble_eq_true rfl) (by decide +kernel) rfl ?_
    refine C.if_ne (off := 9) (tgt := 36) (pf := 30) (by decide +kernel) (by decide) rfl (fun c17 => ?_) (fun c17 => ?_)
    · replace hf := ifn c17 hf
      refine C.seg (pe := 38) (lv' := [(3, .ref a4), (0, .ref a0), (1, .int p1), (2, .int p2)]) (st' := [.int p2, .ref a4]) [(.aload_n 3, 1, 0), (.iload_n 2, 1, 0)] (by decide +kernel) rfl ?_
      obtain ⟨h10, gh10, hf⟩ := Option.bind_eq_some_iff.mp hf
      refine C.putI fl_657 gh10 (by decide +kernel) rfl ?_
      refine C.seg (pe := 42) (lv' := [(3, .ref a4), (0, .ref a0), (1, .int p1), (2, .int p2)]) (st' := [.ref a0]) [(.aload_n 0, 1, 0)] (by decide +kernel) rfl ?_
      obtain ⟨x11, h12, gx11, hf⟩ := b2_some hf
      refine C.callVr C2 [] [] mv_769 rfl (o_X11_grant gx11) (w_X11_grant gx11) (by omega) (by omega) (Nat.le_of_ble_eq_true rfl) (by decide +kernel) rfl ?_
      obtain ⟨x13, gx13, hf⟩ := Option.bind_eq_some_iff.mp hf
      have ex13 := ckZ_eq gx13
      subst ex13
      cases hf
      exact C.retZ rfl gx13 (by decide +kernel) ⟨rfl, rfl⟩
    · replace hf := ifp c17 hf
      refine C.seg (pe := 32) (lv' := [(3, .ref a4), (0, .ref a0), (1, .int p1), (2, .int p2)]) (st' := [.int 2, .ref a0]) [(.aload_n 0, 1, 0), (.iconst 2, 1, 2)] (by decide +kernel) rfl ?_
      obtain ⟨x14, h15, gx14, hf⟩ := b2_some hf
      refine C.callVr C2 [.int 2] [] mv_761 rfl (o_X11_deny gx14) (w_X11_deny gx14) (by omega) (by omega) (Nat.le_of_ble_eq_true rfl) (by decide +kernel) rfl ?_
      obtain ⟨x16, gx16, hf⟩ := Option.bind_eq_some_iff.mp hf
      have ex16 := ckZ_eq gx16
      subst ex16
      cases hf
      exact C.retZ rfl gx16 (by decide +kernel) ⟨rfl, rfl⟩
theorem o_X11_themes {a0 : Nat} {p1 : Int32} {p2 : Int32} {h : AH} {rr : Int32} {hr : AH} (hf : f_X11_themes a0 p1 p2 h = some (rr, hr)) : isO 11 h a0 = true := by
  unfold f_X11_themes at hf
  exact (ifO hf).1
/-! WallHouse.trail(I)I -/
def f_X11_trail_56 (si0 : Int32) (sr1 : Nat) (h : AH) : Option (Int32 × AH) :=
  b2 (f_X11_tell sr1 si0 h) fun x1 h2 =>
  some (x1, h2)
set_option maxRecDepth 100000 in
set_option maxHeartbeats 4000000 in
theorem l_X11_trail_56 {X : MX} {l : Launch} {G : GX} {h0 : AH} {rr : Int32} {hr : AH} (C : Cx X G RX11 cX11_trail 3 (some .int) 6 140 h0) (C2 : Cy X l "trail" []) (si0 : Int32) (sr1 : Nat) (h : AH) (hf : f_X11_trail_56 si0 sr1 h = some (rr, hr)) : V X G h0 (QI rr hr) 56 [] [.int si0, .ref sr1] h := by
  unfold f_X11_trail_56 at hf
  obtain ⟨x1, h2, gx1, hf⟩ := b2_some hf
  refine C.callVr C2 [.int si0] [] mv_712 rfl (o_X11_tell gx1) (w_X11_tell gx1) (by omega) (by omega) (Nat.le_of_ble_eq_true rfl) (by decide +kernel) rfl ?_
  cases hf
  exact C.retI rfl (by decide +kernel) ⟨rfl, rfl⟩
def f_X11_trail (a0 : Nat) (p1 : Int32) (h : AH) : Option (Int32 × AH) :=
  if isO 11 h a0 = true then
    b2 (f_X11_within p1 0 1023 h) fun x1 h2 =>
    if x1 = 0 then
      b2 (f_X11_refuse a0 2 h2) fun x13 h14 =>
      some (x13, h14)
    else
      (gA 11 h2 a0 4).bind fun a3 =>
      b2 (f_X6_findStops a3 p1 h2) fun x4 h5 =>
      if x4 ≤ 9 then
        if x4 = 0 then
          f_X11_trail_56 (-2) a0 h5
        else
          (gA 11 h5 a0 4).bind fun a6 =>
          b2 (f_X6_shortestTrail a6 h5) fun x7 h8 =>
          f_X11_trail_56 x7 a0 h8
      else
        b2 (f_X11_refuse a0 6 h5) fun x10 h11 =>
        some (x10, h11)
  else none
set_option maxRecDepth 100000 in
set_option maxHeartbeats 4000000 in
theorem w_X11_trail {l : Launch} {G : GX} {a0 : Nat} {p1 : Int32} {h : AH} {rr : Int32} {hr : AH} (hf : f_X11_trail a0 p1 h = some (rr, hr)) : Ct l G yX11_trail 6 140 [.ref a0, .int p1] h (QI rr hr) := by
  unfold f_X11_trail at hf
  obtain ⟨ho, hf⟩ := ifO hf
  refine Ct_of (own := RX11) (cc := cX11_trail) (nL := 3) (ret := (some .int)) rfl rfl k_1561 (Nat.le_of_ble_eq_true rfl) (fun X C2 C => ?_)
  show V X G h (QI rr hr) 0 [(0, .ref a0), (1, .int p1)] [] h
  refine C.seg (pe := 5) (lv' := [(0, .ref a0), (1, .int p1)]) (st' := [.int 1023, .int 0, .int p1]) [(.iload_n 1, 1, 0), (.iconst 0, 1, 0), (.sipush 1023, 3, 1023)] (by decide +kernel) rfl ?_
  obtain ⟨x1, h2, gx1, hf⟩ := b2_some hf
  refine C.callSr C2 [.int p1, .int 0, .int 1023] [] ms_622 rfl (w_X11_within gx1) (by omega) (by omega) (Nat.le_of_ble_eq_true rfl) (by decide +kernel) rfl ?_
  refine C.if_ne (off := 9) (tgt := 17) (pf := 11) (by decide +kernel) (by decide) rfl (fun c15 => ?_) (fun c15 => ?_)
  · replace hf := ifn c15 hf
    refine C.seg (pe := 18) (lv' := [(0, .ref a0), (1, .int p1)]) (st' := [.ref a0]) [(.aload_n 0, 1, 0)] (by decide +kernel) rfl ?_
    obtain ⟨a3, ga3, hf⟩ := Option.bind_eq_some_iff.mp hf
    refine C.rdA fr_564 ga3 (by decide +kernel) rfl ?_
    refine C.seg (pe := 22) (lv' := [(0, .ref a0), (1, .int p1)]) (st' := [.int p1, .ref a3]) [(.iload_n 1, 1, 0)] (by decide +kernel) rfl ?_
    obtain ⟨x4, h5, gx4, hf⟩ := b2_some hf
    refine C.callVr C2 [.int p1] [] mv_1562 rfl (o_X6_findStops gx4) (w_X6_findStops gx4) (by omega) (by omega) (Nat.le_of_ble_eq_true rfl) (by decide +kernel) rfl ?_
    refine C.seg (pe := 29) (lv' := [(2, .int x4), (0, .ref a0), (1, .int p1)]) (st' := [.int 9, .int x4]) [(.istore_n 2, 1, 0), (.iload_n 2, 1, 0), (.bipush 9, 2, 9)] (by decide +kernel) rfl ?_
    refine C.icmp_le (off := 10) (tgt := 39) (pf := 32) (by decide +kernel) (by decide) rfl (fun c12 => ?_) (fun c12 => ?_)
    · replace hf := ifp c12 hf
      refine C.seg (pe := 41) (lv' := [(2, .int x4), (0, .ref a0), (1, .int p1)]) (st' := [.int x4, .ref a0]) [(.aload_n 0, 1, 0), (.iload_n 2, 1, 0)] (by decide +kernel) rfl ?_
      refine C.if_ne (off := 8) (tgt := 49) (pf := 44) (by decide +kernel) (by decide) rfl (fun c9 => ?_) (fun c9 => ?_)
      · replace hf := ifn c9 hf
        refine C.seg (pe := 50) (lv' := [(2, .int x4), (0, .ref a0), (1, .int p1)]) (st' := [.ref a0, .ref a0]) [(.aload_n 0, 1, 0)] (by decide +kernel) rfl ?_
        obtain ⟨a6, ga6, hf⟩ := Option.bind_eq_some_iff.mp hf
        refine C.rdA fr_564 ga6 (by decide +kernel) rfl ?_
        obtain ⟨x7, h8, gx7, hf⟩ := b2_some hf
        refine C.callVr C2 [] [.ref a0] mv_1567 rfl (o_X6_shortestTrail gx7) (w_X6_shortestTrail gx7) (by omega) (by omega) (Nat.le_of_ble_eq_true rfl) (by decide +kernel) rfl ?_
        refine Vsub [] rfl ?_
        exact l_X11_trail_56 C C2 x7 a0 h8 hf
      · replace hf := ifp c9 hf
        refine C.seg (pe := 46) (lv' := [(2, .int x4), (0, .ref a0), (1, .int p1)]) (st' := [.int (-2), .ref a0]) [(.bipush (-2), 2, (-2))] (by decide +kernel) rfl ?_
        refine C.goto (off := 10) (tgt := 56) (by decide +kernel) (by decide) ?_
        refine Vsub [] rfl ?_
        exact l_X11_trail_56 C C2 (-2) a0 h5 hf
    · replace hf := ifn c12 hf
      refine C.seg (pe := 35) (lv' := [(2, .int x4), (0, .ref a0), (1, .int p1)]) (st' := [.int 6, .ref a0]) [(.aload_n 0, 1, 0), (.bipush 6, 2, 6)] (by decide +kernel) rfl ?_
      obtain ⟨x10, h11, gx10, hf⟩ := b2_some hf
      refine C.callVr C2 [.int 6] [] mv_625 rfl (o_X11_refuse gx10) (w_X11_refuse gx10) (by omega) (by omega) (Nat.le_of_ble_eq_true rfl) (by decide +kernel) rfl ?_
      cases hf
      exact C.retI rfl (by decide +kernel) ⟨rfl, rfl⟩
  · replace hf := ifp c15 hf
    refine C.seg (pe := 13) (lv' := [(0, .ref a0), (1, .int p1)]) (st' := [.int 2, .ref a0]) [(.aload_n 0, 1, 0), (.iconst 2, 1, 2)] (by decide +kernel) rfl ?_
    obtain ⟨x13, h14, gx13, hf⟩ := b2_some hf
    refine C.callVr C2 [.int 2] [] mv_625 rfl (o_X11_refuse gx13) (w_X11_refuse gx13) (by omega) (by omega) (Nat.le_of_ble_eq_true rfl) (by decide +kernel) rfl ?_
    cases hf
    exact C.retI rfl (by decide +kernel) ⟨rfl, rfl⟩
theorem o_X11_trail {a0 : Nat} {p1 : Int32} {h : AH} {rr : Int32} {hr : AH} (hf : f_X11_trail a0 p1 h = some (rr, hr)) : isO 11 h a0 = true := by
  unfold f_X11_trail at hf
  exact (ifO hf).1
/-! WallHouse.trailOf()I -/
def f_X11_trailOf (a0 : Nat) (h : AH) : Option (Int32 × AH) :=
  if isO 11 h a0 = true then
    (gA 11 h a0 4).bind fun a1 =>
    (gI 6 h a1 9).bind fun x2 =>
    some (x2, h)
  else none
set_option maxRecDepth 100000 in
set_option maxHeartbeats 4000000 in
theorem w_X11_trailOf {l : Launch} {G : GX} {a0 : Nat} {h : AH} {rr : Int32} {hr : AH} (hf : f_X11_trailOf a0 h = some (rr, hr)) : Ct l G yX11_trailOf 0 0 [.ref a0] h (QI rr hr) := by
  unfold f_X11_trailOf at hf
  obtain ⟨ho, hf⟩ := ifO hf
  refine Ct_of (own := RX11) (cc := cX11_trailOf) (nL := 1) (ret := (some .int)) rfl rfl k_1592 (Nat.le_of_ble_eq_true rfl) (fun X C2 C => ?_)
  show V X G h (QI rr hr) 0 [(0, .ref a0)] [] h
  refine C.seg (pe := 1) (lv' := [(0, .ref a0)]) (st' := [.ref a0]) [(.aload_n 0, 1, 0)] (by decide +kernel) rfl ?_
  obtain ⟨a1, ga1, hf⟩ := Option.bind_eq_some_iff.mp hf
  refine C.rdA fr_564 ga1 (by decide +kernel) rfl ?_
  obtain ⟨x2, gx2, hf⟩ := Option.bind_eq_some_iff.mp hf
  refine C.rdI fr_345 gx2 (by decide +kernel) rfl ?_
  cases hf
  exact C.retI rfl (by decide +kernel) ⟨rfl, rfl⟩
theorem o_X11_trailOf {a0 : Nat} {h : AH} {rr : Int32} {hr : AH} (hf : f_X11_trailOf a0 h = some (rr, hr)) : isO 11 h a0 = true := by
  unfold f_X11_trailOf at hf
  exact (ifO hf).1
/-! WallHouse.gets(III)I -/
def f_X11_gets_43 (r0 : Nat) (h : AH) : Option (Int32 × AH) :=
  b2 (f_X11_refuse r0 2 h) fun x1 h2 =>
  some (x1, h2)
set_option maxRecDepth 100000 in
set_option maxHeartbeats 4000000 in
theorem l_X11_gets_43 {X : MX} {l : Launch} {G : GX} {h0 : AH} {rr : Int32} {hr : AH} (C : Cx X G RX11 cX11_gets 4 (some .int) 2 70 h0) (C2 : Cy X l "gets" []) (r0 : Nat) (h : AH) (hf : f_X11_gets_43 r0 h = some (rr, hr)) : V X G h0 (QI rr hr) 43 [(0, .ref r0)] [] h := by
  unfold f_X11_gets_43 at hf
  refine C.seg (pe := 45) (lv' := [(0, .ref r0)]) (st' := [.int 2, .ref r0]) [(.aload_n 0, 1, 0), (.iconst 2, 1, 2)] (by decide +kernel) rfl ?_
  obtain ⟨x1, h2, gx1, hf⟩ := b2_some hf
  refine C.callVr C2 [.int 2] [] mv_625 rfl (o_X11_refuse gx1) (w_X11_refuse gx1) (by omega) (by omega) (Nat.le_of_ble_eq_true rfl) (by decide +kernel) rfl ?_
  cases hf
  exact C.retI rfl (by decide +kernel) ⟨rfl, rfl⟩
def f_X11_gets (a0 : Nat) (p1 : Int32) (p2 : Int32) (p3 : Int32) (h : AH) : Option (Int32 × AH) :=
  if isO 11 h a0 = true then
    (gA 11 h a0 13).bind fun a1 =>
    (gI 5 h a1 1).bind fun x2 =>
    b2 (f_X11_within p1 0 (x2 - 1) h) fun x3 h4 =>
    if x3 = 0 then
      b2 (f_X11_refuse a0 1 h4) fun x16 h17 =>
      some (x16, h17)
    else
      b2 (f_X11_within p2 0 1000000 h4) fun x5 h6 =>
      if x5 = 0 then
        f_X11_gets_43 a0 h6
      else
        b2 (f_X11_within p3 0 3 h6) fun x7 h8 =>
        if x7 = 0 then
          f_X11_gets_43 a0 h8
        else
          (gA 11 h8 a0 13).bind fun a9 =>
          b2 (f_X5_shareOf a9 p1 p2 p3 h8) fun x10 h11 =>
          b2 (f_X11_tell a0 x10 h11) fun x12 h13 =>
          some (x12, h13)
  else none
set_option maxRecDepth 100000 in
set_option maxHeartbeats 4000000 in
theorem w_X11_gets {l : Launch} {G : GX} {a0 : Nat} {p1 : Int32} {p2 : Int32} {p3 : Int32} {h : AH} {rr : Int32} {hr : AH} (hf : f_X11_gets a0 p1 p2 p3 h = some (rr, hr)) : Ct l G yX11_gets 2 70 [.ref a0, .int p1, .int p2, .int p3] h (QI rr hr) := by
  unfold f_X11_gets at hf
  obtain ⟨ho, hf⟩ := ifO hf
  refine Ct_of (own := RX11) (cc := cX11_gets) (nL := 4) (ret := (some .int)) rfl rfl k_1596 (Nat.le_of_ble_eq_true rfl) (fun X C2 C => ?_)
  show V X G h (QI rr hr) 0 [(0, .ref a0), (1, .int p1), (2, .int p2), (3, .int p3)] [] h
  refine C.seg (pe := 3) (lv' := [(0, .ref a0), (1, .int p1), (2, .int p2), (3, .int p3)]) (st' := [.ref a0, .int 0, .int p1]) [(.iload_n 1, 1, 0), (.iconst 0, 1, 0), (.aload_n 0, 1, 0)] (by decide +kernel) rfl ?_
  obtain ⟨a1, ga1, hf⟩ := Option.bind_eq_some_iff.mp hf
  refine C.rdA fr_573 ga1 (by decide +kernel) rfl ?_
  obtain ⟨x2, gx2, hf⟩ := Option.bind_eq_some_iff.mp hf
  refine C.rdI fr_479 gx2 (by decide +kernel) rfl ?_
  refine C.seg (pe := 11) (lv' := [(0, .ref a0), (1, .int p1), (2, .int p2), (3, .int p3)]) (st' := [.int (x2 - 1), .int 0, .int p1]) [(.iconst 1, 1, 1), (.isub, 1, 0)] (by decide +kernel) rfl ?_
  obtain ⟨x3, h4, gx3, hf⟩ := b2_some hf
  refine C.callSr C2 [.int p1, .int 0, .int (x2 - 1)] [] ms_622 rfl (w_X11_within gx3) (by omega) (by omega) (Nat.le_of_ble_eq_true rfl) (by decide +kernel) rfl ?_
  refine C.if_ne (off := 9) (tgt := 23) (pf := 17) (by decide +kernel) (by decide) rfl (fun c18 => ?_) (fun c18 => ?_)
  · replace hf := ifn c18 hf
    refine C.seg (pe := 25) (lv' := [(0, .ref a0), (1, .int p1), (2, .int p2), (3, .int p3)]) (st' := [.int 0, .int p2]) [(.iload_n 2, 1, 0), (.iconst 0, 1, 0)] (by decide +kernel) rfl ?_
    refine C.ldcwI k_1597 (by decide +kernel) rfl ?_
    obtain ⟨x5, h6, gx5, hf⟩ := b2_some hf
    refine C.callSr C2 [.int p2, .int 0, .int 1000000] [] ms_622 rfl (w_X11_within gx5) (by omega) (by omega) (Nat.le_of_ble_eq_true rfl) (by decide +kernel) rfl ?_
    refine C.if_eq (off := 12) (tgt := 43) (pf := 34) (by decide +kernel) (by decide) rfl (fun c15 => ?_) (fun c15 => ?_)
    · replace hf := ifp c15 hf
      refine Vsub [0] rfl ?_
      exact l_X11_gets_43 C C2 a0 h6 hf
    · replace hf := ifn c15 hf
      refine C.seg (pe := 37) (lv' := [(0, .ref a0), (1, .int p1), (2, .int p2), (3, .int p3)]) (st' := [.int 3, .int 0, .int p3]) [(.iload_n 3, 1, 0), (.iconst 0, 1, 0), (.iconst 3, 1, 3)] (by decide +kernel) rfl ?_
      obtain ⟨x7, h8, gx7, hf⟩ := b2_some hf
      refine C.callSr C2 [.int p3, .int 0, .int 3] [] ms_622 rfl (w_X11_within gx7) (by omega) (by omega) (Nat.le_of_ble_eq_true rfl) (by decide +kernel) rfl ?_
      refine C.if_ne (off := 9) (tgt := 49) (pf := 43) (by decide +kernel) (by decide) rfl (fun c14 => ?_) (fun c14 => ?_)
      · replace hf := ifn c14 hf
        refine C.seg (pe := 51) (lv' := [(0, .ref a0), (1, .int p1), (2, .int p2), (3, .int p3)]) (st' := [.ref a0, .ref a0]) [(.aload_n 0, 1, 0), (.aload_n 0, 1, 0)] (by decide +kernel) rfl ?_
        obtain ⟨a9, ga9, hf⟩ := Option.bind_eq_some_iff.mp hf
        refine C.rdA fr_573 ga9 (by decide +kernel) rfl ?_
        refine C.seg (pe := 57) (lv' := [(0, .ref a0), (1, .int p1), (2, .int p2), (3, .int p3)]) (st' := [.int p3, .int p2, .int p1, .ref a9, .ref a0]) [(.iload_n 1, 1, 0), (.iload_n 2, 1, 0), (.iload_n 3, 1, 0)] (by decide +kernel) rfl ?_
        obtain ⟨x10, h11, gx10, hf⟩ := b2_some hf
        refine C.callVr C2 [.int p1, .int p2, .int p3] [.ref a0] mv_1598 rfl (o_X5_shareOf gx10) (w_X5_shareOf gx10) (by omega) (by omega) (Nat.le_of_ble_eq_true rfl) (by decide +kernel) rfl ?_
        obtain ⟨x12, h13, gx12, hf⟩ := b2_some hf
        refine C.callVr C2 [.int x10] [] mv_712 rfl (o_X11_tell gx12) (w_X11_tell gx12) (by omega) (by omega) (Nat.le_of_ble_eq_true rfl) (by decide +kernel) rfl ?_
        cases hf
        exact C.retI rfl (by decide +kernel) ⟨rfl, rfl⟩
      · replace hf := ifp c14 hf
        refine Vsub [0] rfl ?_
        exact l_X11_gets_43 C C2 a0 h8 hf
  · replace hf := ifp c18 hf
    refine C.seg (pe := 19) (lv' := [(0, .ref a0), (1, .int p1), (2, .int p2), (3, .int p3)]) (st' := [.int 1, .ref a0]) [(.aload_n 0, 1, 0), (.iconst 1, 1, 1)] (by decide +kernel) rfl ?_
    obtain ⟨x16, h17, gx16, hf⟩ := b2_some hf
    refine C.callVr C2 [.int 1] [] mv_625 rfl (o_X11_refuse gx16) (w_X11_refuse gx16) (by omega) (by omega) (Nat.le_of_ble_eq_true rfl) (by decide +kernel) rfl ?_
    cases hf
    exact C.retI rfl (by decide +kernel) ⟨rfl, rfl⟩
theorem o_X11_gets {a0 : Nat} {p1 : Int32} {p2 : Int32} {p3 : Int32} {h : AH} {rr : Int32} {hr : AH} (hf : f_X11_gets a0 p1 p2 p3 h = some (rr, hr)) : isO 11 h a0 = true := by
  unfold f_X11_gets at hf
  exact (ifO hf).1
/-! WallHouse.led(IIII)I -/
def f_X11_led_27 (h : AH) : Option (Int32 × AH) :=
  some ((-1), h)
set_option maxRecDepth 100000 in
set_option maxHeartbeats 4000000 in
theorem l_X11_led_27 {X : MX} {l : Launch} {G : GX} {h0 : AH} {rr : Int32} {hr : AH} (C : Cx X G RX11 cX11_led 7 (some .int) 2 43 h0) (C2 : Cy X l "led" []) (h : AH) (hf : f_X11_led_27 h = some (rr, hr)) : V X G h0 (QI rr hr) 27 [] [] h := by
  unfold f_X11_led_27 at hf
  refine C.seg (pe := 28) (lv' := []) (st' := [.int (-1)]) [(.iconst (-1), 1, (-1))] (by decide +kernel) rfl ?_
  cases hf
  exact C.retI rfl (by decide +kernel) ⟨rfl, rfl⟩
def f_X11_led (a0 : Nat) (p1 : Int32) (p2 : Int32) (p3 : Int32) (p4 : Int32) (h : AH) : Option (Int32 × AH) :=
  if isO 11 h a0 = true then
    (gA 11 h a0 0).bind fun a1 =>
    b2 (f_X9_at a1 p1 h) fun q2 h3 =>
    tr q2 (
      f_X11_led_27 h3) fun a4 =>
    b2 (f_X8_holds a4 p2 p3 1 1 h3) fun x5 h6 =>
    if x5 = 0 then
      f_X11_led_27 h6
    else
      b2 (f_X8_placeOf a4 p2 p3 h6) fun x7 h8 =>
      b2 (f_X8_colourOf a4 x7 h8) fun x9 h10 =>
      if x9 = (-1) then
        some ((-1), h10)
      else
        if p4 = 0 then
          (gI 8 h10 a4 9).bind fun x14 =>
          some (x14, h10)
        else
          if p4 = 1 then
            (gA 11 h10 a0 2).bind fun a15 =>
            (gI 8 h10 a4 9).bind fun x16 =>
            b2 (f_X10_tellOf a15 x16 1 h10) fun x17 h18 =>
            some (x17, h18)
          else
            if p4 = 2 then
              b2 (f_X8_tinOf a4 x7 h10) fun x19 h20 =>
              some (x19, h20)
            else
              some ((-1), h10)
  else none
set_option maxRecDepth 100000 in
set_option maxHeartbeats 4000000 in
theorem w_X11_led {l : Launch} {G : GX} {a0 : Nat} {p1 : Int32} {p2 : Int32} {p3 : Int32} {p4 : Int32} {h : AH} {rr : Int32} {hr : AH} (hf : f_X11_led a0 p1 p2 p3 p4 h = some (rr, hr)) : Ct l G yX11_led 2 43 [.ref a0, .int p1, .int p2, .int p3, .int p4] h (QI rr hr) := by
  unfold f_X11_led at hf
  obtain ⟨ho, hf⟩ := ifO hf
  refine Ct_of (own := RX11) (cc := cX11_led) (nL := 7) (ret := (some .int)) rfl rfl k_1606 (Nat.le_of_ble_eq_true rfl) (fun X C2 C => ?_)
  show V X G h (QI rr hr) 0 [(0, .ref a0), (1, .int p1), (2, .int p2), (3, .int p3), (4, .int p4)] [] h
  refine C.seg (pe := 1) (lv' := [(0, .ref a0), (1, .int p1), (2, .int p2), (3, .int p3), (4, .int p4)]) (st' := [.ref a0]) [(.aload_n 0, 1, 0)] (by decide +kernel) rfl ?_
  obtain ⟨a1, ga1, hf⟩ := Option.bind_eq_some_iff.mp hf
  refine C.rdA fr_560 ga1 (by decide +kernel) rfl ?_
  refine C.seg (pe := 5) (lv' := [(0, .ref a0), (1, .int p1), (2, .int p2), (3, .int p3), (4, .int p4)]) (st' := [.int p1, .ref a1]) [(.iload_n 1, 1, 0)] (by decide +kernel) rfl ?_
  obtain ⟨q2, h3, gq2, hf⟩ := b2_some hf
  cases q2 with
  | none =>
    replace hf := tr_none hf
    refine C.callVr C2 [.int p1] [] mv_720 rfl (o_X9_at gq2) (w_X9_at gq2) (by omega) (by omega) (Nat.le_of_ble_eq_true rfl) (by decide +kernel) rfl ?_
    refine C.seg (pe := 12) (lv' := [(5, .null), (0, .ref a0), (1, .int p1), (2, .int p2), (3, .int p3), (4, .int p4)]) (st' := [.null]) [(.astore 5, 2, 0), (.aload 5, 2, 0)] (by decide +kernel) rfl ?_
    refine C.nullN (off := 15) (tgt := 27) (by decide +kernel) (by decide) ?_
    refine Vsub [] rfl ?_
    exact l_X11_led_27 C C2 h3 hf
  | some a4 =>
    replace hf := tr_some hf
    refine C.callVr C2 [.int p1] [] mv_720 rfl (o_X9_at gq2) (w_X9_at gq2) (by omega) (by omega) (Nat.le_of_ble_eq_true rfl) (by decide +kernel) rfl ?_
    refine C.seg (pe := 12) (lv' := [(5, .ref a4), (0, .ref a0), (1, .int p1), (2, .int p2), (3, .int p3), (4, .int p4)]) (st' := [.ref a4]) [(.astore 5, 2, 0), (.aload 5, 2, 0)] (by decide +kernel) rfl ?_
    refine C.nullR (off := 15) (pf := 15) (by decide +kernel) rfl ?_
    refine C.seg (pe := 21) (lv' := [(5, .ref a4), (0, .ref a0), (1, .int p1), (2, .int p2), (3, .int p3), (4, .int p4)]) (st' := [.int 1, .int 1, .int p3, .int p2, .ref a4]) [(.aload 5, 2, 0), (.iload_n 2, 1, 0), (.iload_n 3, 1, 0), (.iconst 1, 1, 1), (.iconst 1, 1, 1)] (by decide +kernel) rfl ?_
    obtain ⟨x5, h6, gx5, hf⟩ := b2_some hf
    refine C.callVr C2 [.int p2, .int p3, .int 1, .int 1] [] mv_744 rfl (o_X8_holds gx5) (w_X8_holds gx5) (by omega) (by omega) (Nat.le_of_ble_eq_true rfl) (by decide +kernel) rfl ?_
    refine C.if_ne (off := 5) (tgt := 29) (pf := 27) (by decide +kernel) (by decide) rfl (fun c22 => ?_) (fun c22 => ?_)
    · replace hf := ifn c22 hf
      refine C.seg (pe := 33) (lv' := [(5, .ref a4), (0, .ref a0), (1, .int p1), (2, .int p2), (3, .int p3), (4, .int p4)]) (st' := [.int p3, .int p2, .ref a4]) [(.aload 5, 2, 0), (.iload_n 2, 1, 0), (.iload_n 3, 1, 0)] (by decide +kernel) rfl ?_
      obtain ⟨x7, h8, gx7, hf⟩ := b2_some hf
      refine C.callVr C2 [.int p2, .int p3] [] mv_1477 rfl (o_X8_placeOf gx7) (w_X8_placeOf gx7) (by omega) (by omega) (Nat.le_of_ble_eq_true rfl) (by decide +kernel) rfl ?_
      refine C.seg (pe := 42) (lv' := [(6, .int x7), (5, .ref a4), (0, .ref a0), (1, .int p1), (2, .int p2), (3, .int p3), (4, .int p4)]) (st' := [.int x7, .ref a4]) [(.istore 6, 2, 0), (.aload 5, 2, 0), (.iload 6, 2, 0)] (by decide +kernel) rfl ?_
      obtain ⟨x9, h10, gx9, hf⟩ := b2_some hf
      refine C.callVr C2 [.int x7] [] mv_1478 rfl (o_X8_colourOf gx9) (w_X8_colourOf gx9) (by omega) (by omega) (Nat.le_of_ble_eq_true rfl) (by decide +kernel) rfl ?_
      refine C.seg (pe := 46) (lv' := [(6, .int x7), (5, .ref a4), (0, .ref a0), (1, .int p1), (2, .int p2), (3, .int p3), (4, .int p4)]) (st' := [.int (-1), .int x9]) [(.iconst (-1), 1, (-1))] (by decide +kernel) rfl ?_
      refine C.icmp_ne (off := 5) (tgt := 51) (pf := 49) (by decide +kernel) (by decide) rfl (fun c21 => ?_) (fun c21 => ?_)
      · replace hf := ifn c21 hf
        refine C.seg (pe := 53) (lv' := [(6, .int x7), (5, .ref a4), (0, .ref a0), (1, .int p1), (2, .int p2), (3, .int p3), (4, .int p4)]) (st' := [.int p4]) [(.iload 4, 2, 0)] (by decide +kernel) rfl ?_
        by_cases c11 : p4 = 0
        · replace hf := ifp c11 hf
          refine C.tsIn (len := 27) (dflt := 55) (a := 0) (b := 2) (offs := #[27, 33, 47]) (k := 0) (off := 27) (tgt := 80) c11 (by decide +kernel) (by decide) (by decide) rfl (by decide) ?_
          refine C.seg (pe := 82) (lv' := [(6, .int x7), (5, .ref a4), (0, .ref a0), (1, .int p1), (2, .int p2), (3, .int p3), (4, .int p4)]) (st' := [.ref a4]) [(.aload 5, 2, 0)] (by decide +kernel) rfl ?_
          obtain ⟨x14, gx14, hf⟩ := Option.bind_eq_some_iff.mp hf
          refine C.rdI fr_664 gx14 (by decide +kernel) rfl ?_
          cases hf
          exact C.retI rfl (by decide +kernel) ⟨rfl, rfl⟩
        · replace hf := ifn c11 hf
          by_cases c12 : p4 = 1
          · replace hf := ifp c12 hf
            refine C.tsIn (len := 27) (dflt := 55) (a := 0) (b := 2) (offs := #[27, 33, 47]) (k := 1) (off := 33) (tgt := 86) c12 (by decide +kernel) (by decide) (by decide) rfl (by decide) ?_
            refine C.seg (pe := 87) (lv' := [(6, .int x7), (5, .ref a4), (0, .ref a0), (1, .int p1), (2, .int p2), (3, .int p3), (4, .int p4)]) (st' := [.ref a0]) [(.aload_n 0, 1, 0)] (by decide +kernel) rfl ?_
            obtain ⟨a15, ga15, hf⟩ := Option.bind_eq_some_iff.mp hf
            refine C.rdA fr_562 ga15 (by decide +kernel) rfl ?_
            refine C.seg (pe := 92) (lv' := [(6, .int x7), (5, .ref a4), (0, .ref a0), (1, .int p1), (2, .int p2), (3, .int p3), (4, .int p4)]) (st' := [.ref a4, .ref a15]) [(.aload 5, 2, 0)] (by decide +kernel) rfl ?_
            obtain ⟨x16, gx16, hf⟩ := Option.bind_eq_some_iff.mp hf
            refine C.rdI fr_664 gx16 (by decide +kernel) rfl ?_
            refine C.seg (pe := 96) (lv' := [(6, .int x7), (5, .ref a4), (0, .ref a0), (1, .int p1), (2, .int p2), (3, .int p3), (4, .int p4)]) (st' := [.int 1, .int x16, .ref a15]) [(.iconst 1, 1, 1)] (by decide +kernel) rfl ?_
            obtain ⟨x17, h18, gx17, hf⟩ := b2_some hf
            refine C.callVr C2 [.int x16, .int 1] [] mv_1399 rfl (o_X10_tellOf gx17) (w_X10_tellOf gx17) (by omega) (by omega) (Nat.le_of_ble_eq_true rfl) (by decide +kernel) rfl ?_
            cases hf
            exact C.retI rfl (by decide +kernel) ⟨rfl, rfl⟩
          · replace hf := ifn c12 hf
            by_cases c13 : p4 = 2
            · replace hf := ifp c13 hf
              refine C.tsIn (len := 27) (dflt := 55) (a := 0) (b := 2) (offs := #[27, 33, 47]) (k := 2) (off := 47) (tgt := 100) c13 (by decide +kernel) (by decide) (by decide) rfl (by decide) ?_
              refine C.seg (pe := 104) (lv' := [(6, .int x7), (5, .ref a4), (0, .ref a0), (1, .int p1), (2, .int p2), (3, .int p3), (4, .int p4)]) (st' := [.int x7, .ref a4]) [(.aload 5, 2, 0), (.iload 6, 2, 0)] (by decide +kernel) rfl ?_
              obtain ⟨x19, h20, gx19, hf⟩ := b2_some hf
              refine C.callVr C2 [.int x7] [] mv_1607 rfl (o_X8_tinOf gx19) (w_X8_tinOf gx19) (by omega) (by omega) (Nat.le_of_ble_eq_true rfl) (by decide +kernel) rfl ?_
              cases hf
              exact C.retI rfl (by decide +kernel) ⟨rfl, rfl⟩
            · replace hf := ifn c13 hf
              have qc11 := lv_neT c11 (by decide : (0 : Int32).toInt = 0)
              have qc12 := lv_neT c12 (by decide : (1 : Int32).toInt = 1)
              have qc13 := lv_neT c13 (by decide : (2 : Int32).toInt = 2)
              refine C.tsOut (len := 27) (dflt := 55) (a := 0) (b := 2) (offs := #[27, 33, 47]) (tgt := 108) (by decide +kernel) (by omega) (by decide) ?_
              refine C.seg (pe := 109) (lv' := [(6, .int x7), (5, .ref a4), (0, .ref a0), (1, .int p1), (2, .int p2), (3, .int p3), (4, .int p4)]) (st' := [.int (-1)]) [(.iconst (-1), 1, (-1))] (by decide +kernel) rfl ?_
              cases hf
              exact C.retI rfl (by decide +kernel) ⟨rfl, rfl⟩
      · replace hf := ifp c21 hf
        refine C.seg (pe := 50) (lv' := [(6, .int x7), (5, .ref a4), (0, .ref a0), (1, .int p1), (2, .int p2), (3, .int p3), (4, .int p4)]) (st' := [.int (-1)]) [(.iconst (-1), 1, (-1))] (by decide +kernel) rfl ?_
        cases hf
        exact C.retI rfl (by decide +kernel) ⟨rfl, rfl⟩
    · replace hf := ifp c22 hf
      refine Vsub [] rfl ?_
      exact l_X11_led_27 C C2 h6 hf
theorem o_X11_led {a0 : Nat} {p1 : Int32} {p2 : Int32} {p3 : Int32} {p4 : Int32} {h : AH} {rr : Int32} {hr : AH} (hf : f_X11_led a0 p1 p2 p3 p4 h = some (rr, hr)) : isO 11 h a0 = true := by
  unfold f_X11_led at hf
  exact (ifO hf).1
/-! WallHouse.shows(I)I -/
def f_X11_shows_52 (k17 : Nat → Int32 → Int32 → Int32 → AH → Option (Int32 × AH)) (r0 : Nat) (i1 : Int32) (i2 : Int32) (i3 : Int32) (h : AH) : Option (Int32 × AH) :=
  k17 r0 i1 i2 (i3 + 1) h
set_option maxRecDepth 100000 in
set_option maxHeartbeats 4000000 in
theorem l_X11_shows_52 {X : MX} {l : Launch} {G : GX} {h0 : AH} {rr : Int32} {hr : AH} (C : Cx X G RX11 cX11_shows 5 (some .int) 1 23 h0) (C2 : Cy X l "shows" []) {k17 : Nat → Int32 → Int32 → Int32 → AH → Option (Int32 × AH)} (hk17 : ∀ (r0 : Nat) (i1 : Int32) (i2 : Int32) (i3 : Int32) (h : AH), k17 r0 i1 i2 i3 h = some (rr, hr) → V X G h0 (QI rr hr) 17 [(0, .ref r0), (1, .int i1), (2, .int i2), (3, .int i3)] [] h) (r0 : Nat) (i1 : Int32) (i2 : Int32) (i3 : Int32) (h : AH) (hf : f_X11_shows_52 k17 r0 i1 i2 i3 h = some (rr, hr)) : V X G h0 (QI rr hr) 52 [(0, .ref r0), (1, .int i1), (2, .int i2), (3, .int i3)] [] h := by
  unfold f_X11_shows_52 at hf
  refine C.seg (pe := 55) (lv' := [(3, .int (i3 + 1)), (0, .ref r0), (1, .int i1), (2, .int i2)]) (st' := []) [(.iinc 3 1, 3, 1)] (by decide +kernel) rfl ?_
  refine C.goto (off := (-38)) (tgt := 17) (by decide +kernel) (by decide) ?_
  refine Vsub [1, 2, 3, 0] rfl ?_
  exact hk17 r0 i1 i2 (i3 + 1) h hf
def f_X11_shows_17 : Nat → Nat → Int32 → Int32 → Int32 → AH → Option (Int32 × AH)
  | 0, _, _, _, _, _ => none
  | n + 1, r0, i1, i2, i3, h =>
    (gA 11 h r0 0).bind fun a1 =>
    (gI 9 h a1 1).bind fun x2 =>
    if x2 ≤ i3 then
      some (i2, h)
    else
      (gA 11 h r0 0).bind fun a3 =>
      b2 (f_X9_at a3 i3 h) fun q4 h5 =>
      tr q4 (
        f_X11_shows_52 (f_X11_shows_17 n) r0 i1 i2 i3 h5) fun a6 =>
      b2 (f_X8_cellsOfTin a6 i1 h5) fun x7 h8 =>
      f_X11_shows_52 (f_X11_shows_17 n) r0 i1 (i2 + x7) i3 h8
set_option maxRecDepth 100000 in
set_option maxHeartbeats 4000000 in
theorem l_X11_shows_17 {X : MX} {l : Launch} {G : GX} {h0 : AH} {rr : Int32} {hr : AH} (C : Cx X G RX11 cX11_shows 5 (some .int) 1 23 h0) (C2 : Cy X l "shows" []) : ∀ (n : Nat) (r0 : Nat) (i1 : Int32) (i2 : Int32) (i3 : Int32) (h : AH), f_X11_shows_17 n r0 i1 i2 i3 h = some (rr, hr) → V X G h0 (QI rr hr) 17 [(0, .ref r0), (1, .int i1), (2, .int i2), (3, .int i3)] [] h := by
  intro n
  induction n with
  | zero => intro r0 i1 i2 i3 h hf; rw [f_X11_shows_17] at hf; cases hf
  | succ n ih =>
    intro r0 i1 i2 i3 h hf
    rw [f_X11_shows_17] at hf
    refine C.seg (pe := 19) (lv' := [(0, .ref r0), (1, .int i1), (2, .int i2), (3, .int i3)]) (st' := [.ref r0, .int i3]) [(.iload_n 3, 1, 0), (.aload_n 0, 1, 0)] (by decide +kernel) rfl ?_
    obtain ⟨a1, ga1, hf⟩ := Option.bind_eq_some_iff.mp hf
    refine C.rdA fr_560 ga1 (by decide +kernel) rfl ?_
    obtain ⟨x2, gx2, hf⟩ := Option.bind_eq_some_iff.mp hf
    refine C.rdI fr_167 gx2 (by decide +kernel) rfl ?_
    refine C.icmp_ge (off := 33) (tgt := 58) (pf := 28) (by decide +kernel) (by decide) rfl (fun c9 => ?_) (fun c9 => ?_)
    · replace hf := ifp c9 hf
      refine C.seg (pe := 59) (lv' := [(0, .ref r0), (1, .int i1), (2, .int i2), (3, .int i3)]) (st' := [.int i2]) [(.iload_n 2, 1, 0)] (by decide +kernel) rfl ?_
      cases hf
      exact C.retI rfl (by decide +kernel) ⟨rfl, rfl⟩
    · replace hf := ifn c9 hf
      refine C.seg (pe := 29) (lv' := [(0, .ref r0), (1, .int i1), (2, .int i2), (3, .int i3)]) (st' := [.ref r0]) [(.aload_n 0, 1, 0)] (by decide +kernel) rfl ?_
      obtain ⟨a3, ga3, hf⟩ := Option.bind_eq_some_iff.mp hf
      refine C.rdA fr_560 ga3 (by decide +kernel) rfl ?_
      refine C.seg (pe := 33) (lv' := [(0, .ref r0), (1, .int i1), (2, .int i2), (3, .int i3)]) (st' := [.int i3, .ref a3]) [(.iload_n 3, 1, 0)] (by decide +kernel) rfl ?_
      obtain ⟨q4, h5, gq4, hf⟩ := b2_some hf
      cases q4 with
      | none =>
        replace hf := tr_none hf
        refine C.callVr C2 [.int i3] [] mv_720 rfl (o_X9_at gq4) (w_X9_at gq4) (by omega) (by omega) (Nat.le_of_ble_eq_true rfl) (by decide +kernel) rfl ?_
        refine C.seg (pe := 40) (lv' := [(4, .null), (0, .ref r0), (1, .int i1), (2, .int i2), (3, .int i3)]) (st' := [.null]) [(.astore 4, 2, 0), (.aload 4, 2, 0)] (by decide +kernel) rfl ?_
        refine C.nullN (off := 12) (tgt := 52) (by decide +kernel) (by decide) ?_
        refine Vsub [1, 2, 3, 4] rfl ?_
        exact l_X11_shows_52 C C2 ih r0 i1 i2 i3 h5 hf
      | some a6 =>
        replace hf := tr_some hf
        refine C.callVr C2 [.int i3] [] mv_720 rfl (o_X9_at gq4) (w_X9_at gq4) (by omega) (by omega) (Nat.le_of_ble_eq_true rfl) (by decide +kernel) rfl ?_
        refine C.seg (pe := 40) (lv' := [(4, .ref a6), (0, .ref r0), (1, .int i1), (2, .int i2), (3, .int i3)]) (st' := [.ref a6]) [(.astore 4, 2, 0), (.aload 4, 2, 0)] (by decide +kernel) rfl ?_
        refine C.nullR (off := 12) (pf := 43) (by decide +kernel) rfl ?_
        refine C.seg (pe := 47) (lv' := [(4, .ref a6), (0, .ref r0), (1, .int i1), (2, .int i2), (3, .int i3)]) (st' := [.int i1, .ref a6, .int i2]) [(.iload_n 2, 1, 0), (.aload 4, 2, 0), (.iload_n 1, 1, 0)] (by decide +kernel) rfl ?_
        obtain ⟨x7, h8, gx7, hf⟩ := b2_some hf
        refine C.callVr C2 [.int i1] [.int i2] mv_1615 rfl (o_X8_cellsOfTin gx7) (w_X8_cellsOfTin gx7) (by omega) (by omega) (Nat.le_of_ble_eq_true rfl) (by decide +kernel) rfl ?_
        refine C.seg (pe := 52) (lv' := [(2, .int (i2 + x7)), (4, .ref a6), (0, .ref r0), (1, .int i1), (3, .int i3)]) (st' := []) [(.iadd, 1, 0), (.istore_n 2, 1, 0)] (by decide +kernel) rfl ?_
        refine Vsub [2, 3, 0, 4] rfl ?_
        exact l_X11_shows_52 C C2 ih r0 i1 (i2 + x7) i3 h8 hf
def f_X11_shows (a0 : Nat) (p1 : Int32) (h : AH) : Option (Int32 × AH) :=
  if isO 11 h a0 = true then
    (gA 11 h a0 2).bind fun a1 =>
    b2 (f_X10_isTin a1 p1 h) fun x2 h3 =>
    if x2 = 0 then
      some ((-1), h3)
    else
      f_X11_shows_17 FU a0 p1 0 0 h3
  else none
set_option maxRecDepth 100000 in
set_option maxHeartbeats 4000000 in
theorem w_X11_shows {l : Launch} {G : GX} {a0 : Nat} {p1 : Int32} {h : AH} {rr : Int32} {hr : AH} (hf : f_X11_shows a0 p1 h = some (rr, hr)) : Ct l G yX11_shows 1 23 [.ref a0, .int p1] h (QI rr hr) := by
  unfold f_X11_shows at hf
  obtain ⟨ho, hf⟩ := ifO hf
  refine Ct_of (own := RX11) (cc := cX11_shows) (nL := 5) (ret := (some .int)) rfl rfl k_1614 (Nat.le_of_ble_eq_true rfl) (fun X C2 C => ?_)
  show V X G h (QI rr hr) 0 [(0, .ref a0), (1, .int p1)] [] h
  refine C.seg (pe := 1) (lv' := [(0, .ref a0), (1, .int p1)]) (st' := [.ref a0]) [(.aload_n 0, 1, 0)] (by decide +kernel) rfl ?_
  obtain ⟨a1, ga1, hf⟩ := Option.bind_eq_some_iff.mp hf
  refine C.rdA fr_562 ga1 (by decide +kernel) rfl ?_
  refine C.seg (pe := 5) (lv' := [(0, .ref a0), (1, .int p1)]) (st' := [.int p1, .ref a1]) [(.iload_n 1, 1, 0)] (by decide +kernel) rfl ?_
  obtain ⟨x2, h3, gx2, hf⟩ := b2_some hf
  refine C.callVr C2 [.int p1] [] mv_1449 rfl (o_X10_isTin gx2) (w_X10_isTin gx2) (by omega) (by omega) (Nat.le_of_ble_eq_true rfl) (by decide +kernel) rfl ?_
  refine C.if_ne (off := 5) (tgt := 13) (pf := 11) (by decide +kernel) (by decide) rfl (fun c4 => ?_) (fun c4 => ?_)
  · replace hf := ifn c4 hf
    refine C.seg (pe := 17) (lv' := [(3, .int 0), (2, .int 0), (0, .ref a0), (1, .int p1)]) (st' := []) [(.iconst 0, 1, 0), (.istore_n 2, 1, 0), (.iconst 0, 1, 0), (.istore_n 3, 1, 0)] (by decide +kernel) rfl ?_
    refine Vsub [2, 3, 1, 0] rfl ?_
    exact l_X11_shows_17 C C2 FU a0 p1 0 0 h3 hf
  · replace hf := ifp c4 hf
    refine C.seg (pe := 12) (lv' := [(0, .ref a0), (1, .int p1)]) (st' := [.int (-1)]) [(.iconst (-1), 1, (-1))] (by decide +kernel) rfl ?_
    cases hf
    exact C.retI rfl (by decide +kernel) ⟨rfl, rfl⟩
theorem o_X11_shows {a0 : Nat} {p1 : Int32} {h : AH} {rr : Int32} {hr : AH} (hf : f_X11_shows a0 p1 h = some (rr, hr)) : isO 11 h a0 = true := by
  unfold f_X11_shows at hf
  exact (ifO hf).1
/-! WallHouse.count(I)I -/
def f_X11_count (a0 : Nat) (p1 : Int32) (h : AH) : Option (Int32 × AH) :=
  if isO 11 h a0 = true then
    if p1 = 0 then
      (gA 11 h a0 0).bind fun a13 =>
      (gI 9 h a13 1).bind fun x14 =>
      some (x14, h)
    else
      if p1 = 1 then
        (gA 11 h a0 1).bind fun a15 =>
        (gI 4 h a15 0).bind fun x16 =>
        some (x16, h)
      else
        if p1 = 2 then
          (gI 11 h a0 10).bind fun x17 =>
          some (x17, h)
        else
          if p1 = 3 then
            (gI 11 h a0 12).bind fun x18 =>
            some (x18, h)
          else
            if p1 = 4 then
              (gA 11 h a0 2).bind fun a19 =>
              (gI 10 h a19 1).bind fun x20 =>
              some (x20, h)
            else
              if p1 = 5 then
                (gA 11 h a0 2).bind fun a21 =>
                b2 (f_X10_overCount a21 h) fun x22 h23 =>
                some (x22, h23)
              else
                if p1 = 6 then
                  (gA 11 h a0 2).bind fun a24 =>
                  (gI 10 h a24 15).bind fun x25 =>
                  some (x25, h)
                else
                  if p1 = 7 then
                    (gA 11 h a0 4).bind fun a26 =>
                    (gI 6 h a26 1).bind fun x27 =>
                    some (x27, h)
                  else
                    if p1 = 8 then
                      (gA 11 h a0 13).bind fun a28 =>
                      (gI 5 h a28 1).bind fun x29 =>
                      some (x29, h)
                    else
                      if p1 = 9 then
                        (gA 11 h a0 2).bind fun a30 =>
                        (gI 10 h a30 14).bind fun x31 =>
                        some (x31, h)
                      else
                        if p1 = 10 then
                          (gA 11 h a0 1).bind fun a32 =>
                          (gI 4 h a32 6).bind fun x33 =>
                          some (x33, h)
                        else
                          if p1 = 11 then
                            (gI 11 h a0 6).bind fun x34 =>
                            some (x34, h)
                          else
                            some ((-1), h)
  else none
set_option maxRecDepth 100000 in
set_option maxHeartbeats 4000000 in
theorem w_X11_count {l : Launch} {G : GX} {a0 : Nat} {p1 : Int32} {h : AH} {rr : Int32} {hr : AH} (hf : f_X11_count a0 p1 h = some (rr, hr)) : Ct l G yX11_count 1 22 [.ref a0, .int p1] h (QI rr hr) := by
  unfold f_X11_count at hf
  obtain ⟨ho, hf⟩ := ifO hf
  refine Ct_of (own := RX11) (cc := cX11_count) (nL := 2) (ret := (some .int)) rfl rfl k_1622 (Nat.le_of_ble_eq_true rfl) (fun X C2 C => ?_)
  show V X G h (QI rr hr) 0 [(0, .ref a0), (1, .int p1)] [] h
  refine C.seg (pe := 1) (lv' := [(0, .ref a0), (1, .int p1)]) (st' := [.int p1]) [(.iload_n 1, 1, 0)] (by decide +kernel) rfl ?_
  by_cases c1 : p1 = 0
  · replace hf := ifp c1 hf
    refine C.tsIn (len := 63) (dflt := 150) (a := 0) (b := 11) (offs := #[63, 71, 79, 84, 89, 97, 105, 113, 121, 129, 137, 145]) (k := 0) (off := 63) (tgt := 64) c1 (by decide +kernel) (by decide) (by decide) rfl (by decide) ?_
    refine C.seg (pe := 65) (lv' := [(0, .ref a0), (1, .int p1)]) (st' := [.ref a0]) [(.aload_n 0, 1, 0)] (by decide +kernel) rfl ?_
    obtain ⟨a13, ga13, hf⟩ := Option.bind_eq_some_iff.mp hf
    refine C.rdA fr_560 ga13 (by decide +kernel) rfl ?_
    obtain ⟨x14, gx14, hf⟩ := Option.bind_eq_some_iff.mp hf
    refine C.rdI fr_167 gx14 (by decide +kernel) rfl ?_
    cases hf
    exact C.retI rfl (by decide +kernel) ⟨rfl, rfl⟩
  · replace hf := ifn c1 hf
    by_cases c2 : p1 = 1
    · replace hf := ifp c2 hf
      refine C.tsIn (len := 63) (dflt := 150) (a := 0) (b := 11) (offs := #[63, 71, 79, 84, 89, 97, 105, 113, 121, 129, 137, 145]) (k := 1) (off := 71) (tgt := 72) c2 (by decide +kernel) (by decide) (by decide) rfl (by decide) ?_
      refine C.seg (pe := 73) (lv' := [(0, .ref a0), (1, .int p1)]) (st' := [.ref a0]) [(.aload_n 0, 1, 0)] (by decide +kernel) rfl ?_
      obtain ⟨a15, ga15, hf⟩ := Option.bind_eq_some_iff.mp hf
      refine C.rdA fr_561 ga15 (by decide +kernel) rfl ?_
      obtain ⟨x16, gx16, hf⟩ := Option.bind_eq_some_iff.mp hf
      refine C.rdI fr_189 gx16 (by decide +kernel) rfl ?_
      cases hf
      exact C.retI rfl (by decide +kernel) ⟨rfl, rfl⟩
    · replace hf := ifn c2 hf
      by_cases c3 : p1 = 2
      · replace hf := ifp c3 hf
        refine C.tsIn (len := 63) (dflt := 150) (a := 0) (b := 11) (offs := #[63, 71, 79, 84, 89, 97, 105, 113, 121, 129, 137, 145]) (k := 2) (off := 79) (tgt := 80) c3 (by decide +kernel) (by decide) (by decide) rfl (by decide) ?_
        refine C.seg (pe := 81) (lv' := [(0, .ref a0), (1, .int p1)]) (st' := [.ref a0]) [(.aload_n 0, 1, 0)] (by decide +kernel) rfl ?_
        obtain ⟨x17, gx17, hf⟩ := Option.bind_eq_some_iff.mp hf
        refine C.rdI fr_570 gx17 (by decide +kernel) rfl ?_
        cases hf
        exact C.retI rfl (by decide +kernel) ⟨rfl, rfl⟩
      · replace hf := ifn c3 hf
        by_cases c4 : p1 = 3
        · replace hf := ifp c4 hf
          refine C.tsIn (len := 63) (dflt := 150) (a := 0) (b := 11) (offs := #[63, 71, 79, 84, 89, 97, 105, 113, 121, 129, 137, 145]) (k := 3) (off := 84) (tgt := 85) c4 (by decide +kernel) (by decide) (by decide) rfl (by decide) ?_
          refine C.seg (pe := 86) (lv' := [(0, .ref a0), (1, .int p1)]) (st' := [.ref a0]) [(.aload_n 0, 1, 0)] (by decide +kernel) rfl ?_
          obtain ⟨x18, gx18, hf⟩ := Option.bind_eq_some_iff.mp hf
          refine C.rdI fr_572 gx18 (by decide +kernel) rfl ?_
          cases hf
          exact C.retI rfl (by decide +kernel) ⟨rfl, rfl⟩
        · replace hf := ifn c4 hf
          by_cases c5 : p1 = 4
          · replace hf := ifp c5 hf
            refine C.tsIn (len := 63) (dflt := 150) (a := 0) (b := 11) (offs := #[63, 71, 79, 84, 89, 97, 105, 113, 121, 129, 137, 145]) (k := 4) (off := 89) (tgt := 90) c5 (by decide +kernel) (by decide) (by decide) rfl (by decide) ?_
            refine C.seg (pe := 91) (lv' := [(0, .ref a0), (1, .int p1)]) (st' := [.ref a0]) [(.aload_n 0, 1, 0)] (by decide +kernel) rfl ?_
            obtain ⟨a19, ga19, hf⟩ := Option.bind_eq_some_iff.mp hf
            refine C.rdA fr_562 ga19 (by decide +kernel) rfl ?_
            obtain ⟨x20, gx20, hf⟩ := Option.bind_eq_some_iff.mp hf
            refine C.rdI fr_226 gx20 (by decide +kernel) rfl ?_
            cases hf
            exact C.retI rfl (by decide +kernel) ⟨rfl, rfl⟩
          · replace hf := ifn c5 hf
            by_cases c6 : p1 = 5
            · replace hf := ifp c6 hf
              refine C.tsIn (len := 63) (dflt := 150) (a := 0) (b := 11) (offs := #[63, 71, 79, 84, 89, 97, 105, 113, 121, 129, 137, 145]) (k := 5) (off := 97) (tgt := 98) c6 (by decide +kernel) (by decide) (by decide) rfl (by decide) ?_
              refine C.seg (pe := 99) (lv' := [(0, .ref a0), (1, .int p1)]) (st' := [.ref a0]) [(.aload_n 0, 1, 0)] (by decide +kernel) rfl ?_
              obtain ⟨a21, ga21, hf⟩ := Option.bind_eq_some_iff.mp hf
              refine C.rdA fr_562 ga21 (by decide +kernel) rfl ?_
              obtain ⟨x22, h23, gx22, hf⟩ := b2_some hf
              refine C.callVr C2 [] [] mv_1623 rfl (o_X10_overCount gx22) (w_X10_overCount gx22) (by omega) (by omega) (Nat.le_of_ble_eq_true rfl) (by decide +kernel) rfl ?_
              cases hf
              exact C.retI rfl (by decide +kernel) ⟨rfl, rfl⟩
            · replace hf := ifn c6 hf
              by_cases c7 : p1 = 6
              · replace hf := ifp c7 hf
                refine C.tsIn (len := 63) (dflt := 150) (a := 0) (b := 11) (offs := #[63, 71, 79, 84, 89, 97, 105, 113, 121, 129, 137, 145]) (k := 6) (off := 105) (tgt := 106) c7 (by decide +kernel) (by decide) (by decide) rfl (by decide) ?_
                refine C.seg (pe := 107) (lv' := [(0, .ref a0), (1, .int p1)]) (st' := [.ref a0]) [(.aload_n 0, 1, 0)] (by decide +kernel) rfl ?_
                obtain ⟨a24, ga24, hf⟩ := Option.bind_eq_some_iff.mp hf
                refine C.rdA fr_562 ga24 (by decide +kernel) rfl ?_
                obtain ⟨x25, gx25, hf⟩ := Option.bind_eq_some_iff.mp hf
                refine C.rdI fr_243 gx25 (by decide +kernel) rfl ?_
                cases hf
                exact C.retI rfl (by decide +kernel) ⟨rfl, rfl⟩
              · replace hf := ifn c7 hf
                by_cases c8 : p1 = 7
                · replace hf := ifp c8 hf
                  refine C.tsIn (len := 63) (dflt := 150) (a := 0) (b := 11) (offs := #[63, 71, 79, 84, 89, 97, 105, 113, 121, 129, 137, 145]) (k := 7) (off := 113) (tgt := 114) c8 (by decide +kernel) (by decide) (by decide) rfl (by decide) ?_
                  refine C.seg (pe := 115) (lv' := [(0, .ref a0), (1, .int p1)]) (st' := [.ref a0]) [(.aload_n 0, 1, 0)] (by decide +kernel) rfl ?_
                  obtain ⟨a26, ga26, hf⟩ := Option.bind_eq_some_iff.mp hf
                  refine C.rdA fr_564 ga26 (by decide +kernel) rfl ?_
                  obtain ⟨x27, gx27, hf⟩ := Option.bind_eq_some_iff.mp hf
                  refine C.rdI fr_336 gx27 (by decide +kernel) rfl ?_
                  cases hf
                  exact C.retI rfl (by decide +kernel) ⟨rfl, rfl⟩
                · replace hf := ifn c8 hf
                  by_cases c9 : p1 = 8
                  · replace hf := ifp c9 hf
                    refine C.tsIn (len := 63) (dflt := 150) (a := 0) (b := 11) (offs := #[63, 71, 79, 84, 89, 97, 105, 113, 121, 129, 137, 145]) (k := 8) (off := 121) (tgt := 122) c9 (by decide +kernel) (by decide) (by decide) rfl (by decide) ?_
                    refine C.seg (pe := 123) (lv' := [(0, .ref a0), (1, .int p1)]) (st' := [.ref a0]) [(.aload_n 0, 1, 0)] (by decide +kernel) rfl ?_
                    obtain ⟨a28, ga28, hf⟩ := Option.bind_eq_some_iff.mp hf
                    refine C.rdA fr_573 ga28 (by decide +kernel) rfl ?_
                    obtain ⟨x29, gx29, hf⟩ := Option.bind_eq_some_iff.mp hf
                    refine C.rdI fr_479 gx29 (by decide +kernel) rfl ?_
                    cases hf
                    exact C.retI rfl (by decide +kernel) ⟨rfl, rfl⟩
                  · replace hf := ifn c9 hf
                    by_cases c10 : p1 = 9
                    · replace hf := ifp c10 hf
                      refine C.tsIn (len := 63) (dflt := 150) (a := 0) (b := 11) (offs := #[63, 71, 79, 84, 89, 97, 105, 113, 121, 129, 137, 145]) (k := 9) (off := 129) (tgt := 130) c10 (by decide +kernel) (by decide) (by decide) rfl (by decide) ?_
                      refine C.seg (pe := 131) (lv' := [(0, .ref a0), (1, .int p1)]) (st' := [.ref a0]) [(.aload_n 0, 1, 0)] (by decide +kernel) rfl ?_
                      obtain ⟨a30, ga30, hf⟩ := Option.bind_eq_some_iff.mp hf
                      refine C.rdA fr_562 ga30 (by decide +kernel) rfl ?_
                      obtain ⟨x31, gx31, hf⟩ := Option.bind_eq_some_iff.mp hf
                      refine C.rdI fr_241 gx31 (by decide +kernel) rfl ?_
                      cases hf
                      exact C.retI rfl (by decide +kernel) ⟨rfl, rfl⟩
                    · replace hf := ifn c10 hf
                      by_cases c11 : p1 = 10
                      · replace hf := ifp c11 hf
                        refine C.tsIn (len := 63) (dflt := 150) (a := 0) (b := 11) (offs := #[63, 71, 79, 84, 89, 97, 105, 113, 121, 129, 137, 145]) (k := 10) (off := 137) (tgt := 138) c11 (by decide +kernel) (by decide) (by decide) rfl (by decide) ?_
                        refine C.seg (pe := 139) (lv' := [(0, .ref a0), (1, .int p1)]) (st' := [.ref a0]) [(.aload_n 0, 1, 0)] (by decide +kernel) rfl ?_
                        obtain ⟨a32, ga32, hf⟩ := Option.bind_eq_some_iff.mp hf
                        refine C.rdA fr_561 ga32 (by decide +kernel) rfl ?_
                        obtain ⟨x33, gx33, hf⟩ := Option.bind_eq_some_iff.mp hf
                        refine C.rdI fr_196 gx33 (by decide +kernel) rfl ?_
                        cases hf
                        exact C.retI rfl (by decide +kernel) ⟨rfl, rfl⟩
                      · replace hf := ifn c11 hf
                        by_cases c12 : p1 = 11
                        · replace hf := ifp c12 hf
                          refine C.tsIn (len := 63) (dflt := 150) (a := 0) (b := 11) (offs := #[63, 71, 79, 84, 89, 97, 105, 113, 121, 129, 137, 145]) (k := 11) (off := 145) (tgt := 146) c12 (by decide +kernel) (by decide) (by decide) rfl (by decide) ?_
                          refine C.seg (pe := 147) (lv' := [(0, .ref a0), (1, .int p1)]) (st' := [.ref a0]) [(.aload_n 0, 1, 0)] (by decide +kernel) rfl ?_
                          obtain ⟨x34, gx34, hf⟩ := Option.bind_eq_some_iff.mp hf
                          refine C.rdI fr_566 gx34 (by decide +kernel) rfl ?_
                          cases hf
                          exact C.retI rfl (by decide +kernel) ⟨rfl, rfl⟩
                        · replace hf := ifn c12 hf
                          have qc1 := lv_neT c1 (by decide : (0 : Int32).toInt = 0)
                          have qc2 := lv_neT c2 (by decide : (1 : Int32).toInt = 1)
                          have qc3 := lv_neT c3 (by decide : (2 : Int32).toInt = 2)
                          have qc4 := lv_neT c4 (by decide : (3 : Int32).toInt = 3)
                          have qc5 := lv_neT c5 (by decide : (4 : Int32).toInt = 4)
                          have qc6 := lv_neT c6 (by decide : (5 : Int32).toInt = 5)
                          have qc7 := lv_neT c7 (by decide : (6 : Int32).toInt = 6)
                          have qc8 := lv_neT c8 (by decide : (7 : Int32).toInt = 7)
                          have qc9 := lv_neT c9 (by decide : (8 : Int32).toInt = 8)
                          have qc10 := lv_neT c10 (by decide : (9 : Int32).toInt = 9)
                          have qc11 := lv_neT c11 (by decide : (10 : Int32).toInt = 10)
                          have qc12 := lv_neT c12 (by decide : (11 : Int32).toInt = 11)
                          refine C.tsOut (len := 63) (dflt := 150) (a := 0) (b := 11) (offs := #[63, 71, 79, 84, 89, 97, 105, 113, 121, 129, 137, 145]) (tgt := 151) (by decide +kernel) (by omega) (by decide) ?_
                          refine C.seg (pe := 152) (lv' := [(0, .ref a0), (1, .int p1)]) (st' := [.int (-1)]) [(.iconst (-1), 1, (-1))] (by decide +kernel) rfl ?_
                          cases hf
                          exact C.retI rfl (by decide +kernel) ⟨rfl, rfl⟩
theorem o_X11_count {a0 : Nat} {p1 : Int32} {h : AH} {rr : Int32} {hr : AH} (hf : f_X11_count a0 p1 h = some (rr, hr)) : isO 11 h a0 = true := by
  unfold f_X11_count at hf
  exact (ifO hf).1
/-! WallHouse.trouble()I -/
def f_X11_trouble (a0 : Nat) (h : AH) : Option (Int32 × AH) :=
  if isO 11 h a0 = true then
    (gI 11 h a0 16).bind fun x1 =>
    some (x1, h)
  else none
set_option maxRecDepth 100000 in
set_option maxHeartbeats 4000000 in
theorem w_X11_trouble {l : Launch} {G : GX} {a0 : Nat} {h : AH} {rr : Int32} {hr : AH} (hf : f_X11_trouble a0 h = some (rr, hr)) : Ct l G yX11_trouble 0 0 [.ref a0] h (QI rr hr) := by
  unfold f_X11_trouble at hf
  obtain ⟨ho, hf⟩ := ifO hf
  refine Ct_of (own := RX11) (cc := cX11_trouble) (nL := 1) (ret := (some .int)) rfl rfl k_1630 (Nat.le_of_ble_eq_true rfl) (fun X C2 C => ?_)
  show V X G h (QI rr hr) 0 [(0, .ref a0)] [] h
  refine C.seg (pe := 1) (lv' := [(0, .ref a0)]) (st' := [.ref a0]) [(.aload_n 0, 1, 0)] (by decide +kernel) rfl ?_
  obtain ⟨x1, gx1, hf⟩ := Option.bind_eq_some_iff.mp hf
  refine C.rdI fr_576 gx1 (by decide +kernel) rfl ?_
  cases hf
  exact C.retI rfl (by decide +kernel) ⟨rfl, rfl⟩
theorem o_X11_trouble {a0 : Nat} {h : AH} {rr : Int32} {hr : AH} (hf : f_X11_trouble a0 h = some (rr, hr)) : isO 11 h a0 = true := by
  unfold f_X11_trouble at hf
  exact (ifO hf).1
