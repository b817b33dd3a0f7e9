/-! WallHouse$Giver.<init>(LWallHouse$Walls;LWallHouse$Painters;LWallHouse$Works;)V -/
def f_X3_init (a0 : Nat) (p1 : Nat) (p2 : Nat) (p3 : Nat) (h : AH) : Option (AH) :=
  b2 (nwA 0 6 h) fun a1 h2 =>
  (pQ 3 h2 a0 4 (some a1)).bind fun h3 =>
  b2 (nwA 0 60 h3) fun a4 h5 =>
  (pQ 3 h5 a0 6 (some a4)).bind fun h6 =>
  b2 (nwA 0 0 h6) fun a7 h8 =>
  (pQ 3 h8 a0 7 (some a7)).bind fun h9 =>
  b2 (nwA 0 6 h9) fun a10 h11 =>
  (pQ 3 h11 a0 8 (some a10)).bind fun h12 =>
  b2 (nwA 0 6 h12) fun a13 h14 =>
  (pQ 3 h14 a0 9 (some a13)).bind fun h15 =>
  b2 (nwA 0 16 h15) fun a16 h17 =>
  (pQ 3 h17 a0 11 (some a16)).bind fun h18 =>
  (pQ 3 h18 a0 0 (some p1)).bind fun h19 =>
  (pQ 3 h19 a0 1 (some p2)).bind fun h20 =>
  (pQ 3 h20 a0 2 (some p3)).bind fun h21 =>
  (gA 3 h21 a0 11).bind fun a22 =>
  (f_J7_fill_53178 a22 (-1) h21).bind fun h23 =>
  some h23
set_option maxRecDepth 100000 in
set_option maxHeartbeats 4000000 in
theorem w_X3_init {l : Launch} {G : GX} {a0 : Nat} {p1 : Nat} {p2 : Nat} {p3 : Nat} {h : AH} {hr : AH} (hf : f_X3_init a0 p1 p2 p3 h = some hr) : Ct l G yX3_init 1 23 [.ref a0, .ref p1, .ref p2, .ref p3] h (QV hr) := by
  unfold f_X3_init at hf
  refine Ct_of (own := RX3) (cc := cX3_init) (nL := 4) (ret := none) rfl rfl k_288 (Nat.le_of_ble_eq_true rfl) (fun X C2 C => ?_)
  show V X G h (QV hr) 0 [(0, .ref a0), (1, .ref p1), (2, .ref p2), (3, .ref p3)] [] h
  refine C.seg (pe := 1) (lv' := [(0, .ref a0), (1, .ref p1), (2, .ref p2), (3, .ref p3)]) (st' := [.ref a0]) [(.aload_n 0, 1, 0)] (by decide +kernel) rfl ?_
  refine C.objInit k_289 k_151 k_152 (by omega) (by omega) (Nat.le_of_ble_eq_true rfl) (by decide +kernel) rfl ?_
  refine C.seg (pe := 7) (lv' := [(0, .ref a0), (1, .ref p1), (2, .ref p2), (3, .ref p3)]) (st' := [.int 6, .ref a0]) [(.aload_n 0, 1, 0), (.bipush 6, 2, 6)] (by decide +kernel) rfl ?_
  obtain ⟨a1, h2, ga1, hf⟩ := b2_some hf
  refine C.newa0 k_180 ga1 (by decide +kernel) rfl ?_
  obtain ⟨h3, gh3, hf⟩ := Option.bind_eq_some_iff.mp hf
  refine C.putFA C2.2.1 fl_295 (Or.inr ⟨_, rfl⟩) gh3 (by decide +kernel) rfl ?_
  refine C.seg (pe := 15) (lv' := [(0, .ref a0), (1, .ref p1), (2, .ref p2), (3, .ref p3)]) (st' := [.int 60, .ref a0]) [(.aload_n 0, 1, 0), (.bipush 60, 2, 60)] (by decide +kernel) rfl ?_
  obtain ⟨a4, h5, ga4, hf⟩ := b2_some hf
  refine C.newa0 k_180 ga4 (by decide +kernel) rfl ?_
  obtain ⟨h6, gh6, hf⟩ := Option.bind_eq_some_iff.mp hf
  refine C.putFA C2.2.1 fl_297 (Or.inr ⟨_, rfl⟩) gh6 (by decide +kernel) rfl ?_
  refine C.seg (pe := 22) (lv' := [(0, .ref a0), (1, .ref p1), (2, .ref p2), (3, .ref p3)]) (st' := [.int 0, .ref a0]) [(.aload_n 0, 1, 0), (.iconst 0, 1, 0)] (by decide +kernel) rfl ?_
  obtain ⟨a7, h8, ga7, hf⟩ := b2_some hf
  refine C.newa0 k_180 ga7 (by decide +kernel) rfl ?_
  obtain ⟨h9, gh9, hf⟩ := Option.bind_eq_some_iff.mp hf
  refine C.putA fl_298 (Or.inr ⟨_, rfl⟩) gh9 (by decide +kernel) rfl ?_
  refine C.seg (pe := 30) (lv' := [(0, .ref a0), (1, .ref p1), (2, .ref p2), (3, .ref p3)]) (st' := [.int 6, .ref a0]) [(.aload_n 0, 1, 0), (.bipush 6, 2, 6)] (by decide +kernel) rfl ?_
  obtain ⟨a10, h11, ga10, hf⟩ := b2_some hf
  refine C.newa0 k_180 ga10 (by decide +kernel) rfl ?_
  obtain ⟨h12, gh12, hf⟩ := Option.bind_eq_some_iff.mp hf
  refine C.putFA C2.2.1 fl_299 (Or.inr ⟨_, rfl⟩) gh12 (by decide +kernel) rfl ?_
  refine C.seg (pe := 38) (lv' := [(0, .ref a0), (1, .ref p1), (2, .ref p2), (3, .ref p3)]) (st' := [.int 6, .ref a0]) [(.aload_n 0, 1, 0), (.bipush 6, 2, 6)] (by decide +kernel) rfl ?_
  obtain ⟨a13, h14, ga13, hf⟩ := b2_some hf
  refine C.newa0 k_180 ga13 (by decide +kernel) rfl ?_
  obtain ⟨h15, gh15, hf⟩ := Option.bind_eq_some_iff.mp hf
  refine C.putFA C2.2.1 fl_300 (Or.inr ⟨_, rfl⟩) gh15 (by decide +kernel) rfl ?_
  refine C.seg (pe := 46) (lv' := [(0, .ref a0), (1, .ref p1), (2, .ref p2), (3, .ref p3)]) (st' := [.int 16, .ref a0]) [(.aload_n 0, 1, 0), (.bipush 16, 2, 16)] (by decide +kernel) rfl ?_
  obtain ⟨a16, h17, ga16, hf⟩ := b2_some hf
  refine C.newa0 k_180 ga16 (by decide +kernel) rfl ?_
  obtain ⟨h18, gh18, hf⟩ := Option.bind_eq_some_iff.mp hf
  refine C.putFA C2.2.1 fl_302 (Or.inr ⟨_, rfl⟩) gh18 (by decide +kernel) rfl ?_
  refine C.seg (pe := 53) (lv' := [(0, .ref a0), (1, .ref p1), (2, .ref p2), (3, .ref p3)]) (st' := [.ref p1, .ref a0]) [(.aload_n 0, 1, 0), (.aload_n 1, 1, 0)] (by decide +kernel) rfl ?_
  obtain ⟨h19, gh19, hf⟩ := Option.bind_eq_some_iff.mp hf
  refine C.putFA C2.2.1 fl_291 (Or.inl ⟨_, rfl⟩) gh19 (by decide +kernel) rfl ?_
  refine C.seg (pe := 58) (lv' := [(0, .ref a0), (1, .ref p1), (2, .ref p2), (3, .ref p3)]) (st' := [.ref p2, .ref a0]) [(.aload_n 0, 1, 0), (.aload_n 2, 1, 0)] (by decide +kernel) rfl ?_
  obtain ⟨h20, gh20, hf⟩ := Option.bind_eq_some_iff.mp hf
  refine C.putFA C2.2.1 fl_292 (Or.inl ⟨_, rfl⟩) gh20 (by decide +kernel) rfl ?_
  refine C.seg (pe := 63) (lv' := [(0, .ref a0), (1, .ref p1), (2, .ref p2), (3, .ref p3)]) (st' := [.ref p3, .ref a0]) [(.aload_n 0, 1, 0), (.aload_n 3, 1, 0)] (by decide +kernel) rfl ?_
  obtain ⟨h21, gh21, hf⟩ := Option.bind_eq_some_iff.mp hf
  refine C.putFA C2.2.1 fl_293 (Or.inl ⟨_, rfl⟩) gh21 (by decide +kernel) rfl ?_
  refine C.seg (pe := 67) (lv' := [(0, .ref a0), (1, .ref p1), (2, .ref p2), (3, .ref p3)]) (st' := [.ref a0]) [(.aload_n 0, 1, 0)] (by decide +kernel) rfl ?_
  obtain ⟨a22, ga22, hf⟩ := Option.bind_eq_some_iff.mp hf
  refine C.rdA fr_302 ga22 (by decide +kernel) rfl ?_
  refine C.seg (pe := 71) (lv' := [(0, .ref a0), (1, .ref p1), (2, .ref p2), (3, .ref p3)]) (st' := [.int (-1), .ref a22]) [(.iconst (-1), 1, (-1))] (by decide +kernel) rfl ?_
  obtain ⟨h23, gh23, hf⟩ := Option.bind_eq_some_iff.mp hf
  refine C.callSr C2 [.ref a22, .int (-1)] [] ms_290 rfl (w_J7_fill_53178 gh23) (by omega) (by omega) (Nat.le_of_ble_eq_true rfl) (by decide +kernel) rfl ?_
  cases hf
  exact C.retV rfl (by decide +kernel) ⟨rfl, rfl⟩
/-! WallHouse$Giver.areWalls(I)Z -/
def f_X3_areWalls_21 (si0 : Int32) (h : AH) : Option (Int32 × AH) :=
  (ckZ si0).bind fun x1 =>
  some (x1, h)
set_option maxRecDepth 100000 in
set_option maxHeartbeats 4000000 in
theorem l_X3_areWalls_21 {X : MX} {l : Launch} {G : GX} {h0 : AH} {rr : Int32} {hr : AH} (C : Cx X G RX3 cX3_areWalls 2 (some .boolean) 0 0 h0) (C2 : Cy X l "areWalls" []) (si0 : Int32) (h : AH) (hf : f_X3_areWalls_21 si0 h = some (rr, hr)) : V X G h0 (QI rr hr) 21 [] [.int si0] h := by
  unfold f_X3_areWalls_21 at hf
  obtain ⟨x1, gx1, hf⟩ := Option.bind_eq_some_iff.mp hf
  have ex1 := ckZ_eq gx1
  subst ex1
  cases hf
  exact C.retZ rfl gx1 (by decide +kernel) ⟨rfl, rfl⟩
def f_X3_areWalls_20 (h : AH) : Option (Int32 × AH) :=
  f_X3_areWalls_21 0 h
set_option maxRecDepth 100000 in
set_option maxHeartbeats 4000000 in
theorem l_X3_areWalls_20 {X : MX} {l : Launch} {G : GX} {h0 : AH} {rr : Int32} {hr : AH} (C : Cx X G RX3 cX3_areWalls 2 (some .boolean) 0 0 h0) (C2 : Cy X l "areWalls" []) (h : AH) (hf : f_X3_areWalls_20 h = some (rr, hr)) : V X G h0 (QI rr hr) 20 [] [] h := by
  unfold f_X3_areWalls_20 at hf
  refine C.seg (pe := 21) (lv' := []) (st' := [.int 0]) [(.iconst 0, 1, 0)] (by decide +kernel) rfl ?_
  exact l_X3_areWalls_21 C C2 0 h hf
def f_X3_areWalls (a0 : Nat) (p1 : Int32) (h : AH) : Option (Int32 × AH) :=
  if isO 3 h a0 = true then
    if p1 ≤ 0 then
      f_X3_areWalls_20 h
    else
      (gA 3 h a0 0).bind fun a1 =>
      (gI 9 h a1 1).bind fun x2 =>
      if p1 >>> (x2 &&& 31) = 0 then
        f_X3_areWalls_21 1 h
      else
        f_X3_areWalls_20 h
  else none
set_option maxRecDepth 100000 in
set_option maxHeartbeats 4000000 in
theorem w_X3_areWalls {l : Launch} {G : GX} {a0 : Nat} {p1 : Int32} {h : AH} {rr : Int32} {hr : AH} (hf : f_X3_areWalls a0 p1 h = some (rr, hr)) : Ct l G yX3_areWalls 0 0 [.ref a0, .int p1] h (QI rr hr) := by
  unfold f_X3_areWalls at hf
  obtain ⟨ho, hf⟩ := ifO hf
  refine Ct_of (own := RX3) (cc := cX3_areWalls) (nL := 2) (ret := (some .boolean)) rfl rfl k_1302 (Nat.le_of_ble_eq_true rfl) (fun X C2 C => ?_)
  show V X G h (QI rr hr) 0 [(0, .ref a0), (1, .int p1)] [] h
  refine C.seg (pe := 1) (lv' := [(0, .ref a0), (1, .int p1)]) (st' := [.int p1]) [(.iload_n 1, 1, 0)] (by decide +kernel) rfl ?_
  refine C.if_le (off := 19) (tgt := 20) (pf := 4) (by decide +kernel) (by decide) rfl (fun c4 => ?_) (fun c4 => ?_)
  · replace hf := ifp c4 hf
    refine Vsub [] rfl ?_
    exact l_X3_areWalls_20 C C2 h hf
  · replace hf := ifn c4 hf
    refine C.seg (pe := 6) (lv' := [(0, .ref a0), (1, .int p1)]) (st' := [.ref a0, .int p1]) [(.iload_n 1, 1, 0), (.aload_n 0, 1, 0)] (by decide +kernel) rfl ?_
    obtain ⟨a1, ga1, hf⟩ := Option.bind_eq_some_iff.mp hf
    refine C.rdA fr_291 ga1 (by decide +kernel) rfl ?_
    obtain ⟨x2, gx2, hf⟩ := Option.bind_eq_some_iff.mp hf
    refine C.rdI fr_166 gx2 (by decide +kernel) rfl ?_
    refine C.seg (pe := 13) (lv' := [(0, .ref a0), (1, .int p1)]) (st' := [.int (p1 >>> (x2 &&& 31))]) [(.ishr, 1, 0)] (by decide +kernel) rfl ?_
    refine C.if_ne (off := 7) (tgt := 20) (pf := 16) (by decide +kernel) (by decide) rfl (fun c3 => ?_) (fun c3 => ?_)
    · replace hf := ifn c3 hf
      refine Vsub [] rfl ?_
      exact l_X3_areWalls_20 C C2 h hf
    · replace hf := ifp c3 hf
      refine C.seg (pe := 17) (lv' := [(0, .ref a0), (1, .int p1)]) (st' := [.int 1]) [(.iconst 1, 1, 1)] (by decide +kernel) rfl ?_
      refine C.goto (off := 4) (tgt := 21) (by decide +kernel) (by decide) ?_
      refine Vsub [] rfl ?_
      exact l_X3_areWalls_21 C C2 1 h hf
theorem o_X3_areWalls {a0 : Nat} {p1 : Int32} {h : AH} {rr : Int32} {hr : AH} (hf : f_X3_areWalls a0 p1 h = some (rr, hr)) : isO 3 h a0 = true := by
  unfold f_X3_areWalls at hf
  exact (ifO hf).1
/-! WallHouse$Giver.areFree(I)Z -/
def f_X3_areFree_72 (k2 : Nat → Int32 → Int32 → AH → Option (Int32 × AH)) (r0 : Nat) (i1 : Int32) (i2 : Int32) (h : AH) : Option (Int32 × AH) :=
  k2 r0 i1 (i2 + 1) h
set_option maxRecDepth 100000 in
set_option maxHeartbeats 4000000 in
theorem l_X3_areFree_72 {X : MX} {l : Launch} {G : GX} {h0 : AH} {rr : Int32} {hr : AH} (C : Cx X G RX3 cX3_areFree 5 (some .boolean) 1 21 h0) (C2 : Cy X l "areFree" []) {k2 : Nat → Int32 → Int32 → AH → Option (Int32 × AH)} (hk2 : ∀ (r0 : Nat) (i1 : Int32) (i2 : Int32) (h : AH), k2 r0 i1 i2 h = some (rr, hr) → V X G h0 (QI rr hr) 2 [(0, .ref r0), (1, .int i1), (2, .int i2)] [] h) (r0 : Nat) (i1 : Int32) (i2 : Int32) (h : AH) (hf : f_X3_areFree_72 k2 r0 i1 i2 h = some (rr, hr)) : V X G h0 (QI rr hr) 72 [(0, .ref r0), (1, .int i1), (2, .int i2)] [] h := by
  unfold f_X3_areFree_72 at hf
  refine C.seg (pe := 75) (lv' := [(2, .int (i2 + 1)), (0, .ref r0), (1, .int i1)]) (st' := []) [(.iinc 2 1, 3, 1)] (by decide +kernel) rfl ?_
  refine C.goto (off := (-73)) (tgt := 2) (by decide +kernel) (by decide) ?_
  refine Vsub [1, 2, 0] rfl ?_
  exact hk2 r0 i1 (i2 + 1) h hf
def f_X3_areFree_70 (h : AH) : Option (Int32 × AH) :=
  some (0, h)
set_option maxRecDepth 100000 in
set_option maxHeartbeats 4000000 in
theorem l_X3_areFree_70 {X : MX} {l : Launch} {G : GX} {h0 : AH} {rr : Int32} {hr : AH} (C : Cx X G RX3 cX3_areFree 5 (some .boolean) 1 21 h0) (C2 : Cy X l "areFree" []) (h : AH) (hf : f_X3_areFree_70 h = some (rr, hr)) : V X G h0 (QI rr hr) 70 [] [] h := by
  unfold f_X3_areFree_70 at hf
  refine C.seg (pe := 71) (lv' := []) (st' := [.int 0]) [(.iconst 0, 1, 0)] (by decide +kernel) rfl ?_
  cases hf
  exact C.retZ rfl (by decide) (by decide +kernel) ⟨rfl, rfl⟩
def f_X3_areFree_36 (k2 : Nat → Int32 → Int32 → AH → Option (Int32 × AH)) (r0 : Nat) (i1 : Int32) (i2 : Int32) (o3 : Option Nat) (si0 : Int32) (h : AH) : Option (Int32 × AH) :=
  tr o3 (
    if si0 = 0 then
      f_X3_areFree_72 k2 r0 i1 i2 h
    else
      f_X3_areFree_72 k2 r0 i1 i2 h) fun r3 =>
  if si0 = 0 then
    f_X3_areFree_72 k2 r0 i1 i2 h
  else
    (gA 3 h r0 2).bind fun a2 =>
    b2 (f_X10_year a2 h) fun x3 h4 =>
    b2 (f_X8_hasLeave r3 x3 h4) fun x5 h6 =>
    if x5 = 0 then
      f_X3_areFree_70 h6
    else
      (gI 8 h6 r3 8).bind fun x7 =>
      if x7 = (-2) then
        f_X3_areFree_72 k2 r0 i1 i2 h6
      else
        f_X3_areFree_70 h6
set_option maxRecDepth 100000 in
set_option maxHeartbeats 4000000 in
theorem l_X3_areFree_36 {X : MX} {l : Launch} {G : GX} {h0 : AH} {rr : Int32} {hr : AH} (C : Cx X G RX3 cX3_areFree 5 (some .boolean) 1 21 h0) (C2 : Cy X l "areFree" []) {k2 : Nat → Int32 → Int32 → AH → Option (Int32 × AH)} (hk2 : ∀ (r0 : Nat) (i1 : Int32) (i2 : Int32) (h : AH), k2 r0 i1 i2 h = some (rr, hr) → V X G h0 (QI rr hr) 2 [(0, .ref r0), (1, .int i1), (2, .int i2)] [] h) (r0 : Nat) (i1 : Int32) (i2 : Int32) (o3 : Option Nat) (si0 : Int32) (h : AH) (hf : f_X3_areFree_36 k2 r0 i1 i2 o3 si0 h = some (rr, hr)) : V X G h0 (QI rr hr) 36 [(0, .ref r0), (1, .int i1), (2, .int i2), (3, va_rf o3)] [.int si0] h := by
  unfold f_X3_areFree_36 at hf
  cases o3 with
  | none =>
    replace hf := tr_none hf
    refine C.seg (pe := 40) (lv' := [(4, .int si0), (0, .ref r0), (1, .int i1), (2, .int i2), (3, .null)]) (st' := [.int si0]) [(.istore 4, 2, 0), (.iload 4, 2, 0)] (by decide +kernel) rfl ?_
    refine C.if_eq (off := 32) (tgt := 72) (pf := 43) (by decide +kernel) (by decide) rfl (fun c1 => ?_) (fun c1 => ?_)
    · replace hf := ifp c1 hf
      refine Vsub [1, 2, 3] rfl ?_
      exact l_X3_areFree_72 C C2 hk2 r0 i1 i2 h hf
    · replace hf := ifn c1 hf
      refine C.seg (pe := 44) (lv' := [(4, .int si0), (0, .ref r0), (1, .int i1), (2, .int i2), (3, .null)]) (st' := [.null]) [(.aload_n 3, 1, 0)] (by decide +kernel) rfl ?_
      refine C.nullN (off := 28) (tgt := 72) (by decide +kernel) (by decide) ?_
      refine Vsub [1, 2, 3] rfl ?_
      exact l_X3_areFree_72 C C2 hk2 r0 i1 i2 h hf
  | some r3 =>
    replace hf := tr_some hf
    refine C.seg (pe := 40) (lv' := [(4, .int si0), (0, .ref r0), (1, .int i1), (2, .int i2), (3, .ref r3)]) (st' := [.int si0]) [(.istore 4, 2, 0), (.iload 4, 2, 0)] (by decide +kernel) rfl ?_
    refine C.if_eq (off := 32) (tgt := 72) (pf := 43) (by decide +kernel) (by decide) rfl (fun c10 => ?_) (fun c10 => ?_)
    · replace hf := ifp c10 hf
      refine Vsub [1, 2, 3] rfl ?_
      exact l_X3_areFree_72 C C2 hk2 r0 i1 i2 h hf
    · replace hf := ifn c10 hf
      refine C.seg (pe := 44) (lv' := [(4, .int si0), (0, .ref r0), (1, .int i1), (2, .int i2), (3, .ref r3)]) (st' := [.ref r3]) [(.aload_n 3, 1, 0)] (by decide +kernel) rfl ?_
      refine C.nullR (off := 28) (pf := 47) (by decide +kernel) rfl ?_
      refine C.seg (pe := 49) (lv' := [(4, .int si0), (0, .ref r0), (1, .int i1), (2, .int i2), (3, .ref r3)]) (st' := [.ref r0, .ref r3]) [(.aload_n 3, 1, 0), (.aload_n 0, 1, 0)] (by decide +kernel) rfl ?_
      obtain ⟨a2, ga2, hf⟩ := Option.bind_eq_some_iff.mp hf
      refine C.rdA fr_293 ga2 (by decide +kernel) rfl ?_
      obtain ⟨x3, h4, gx3, hf⟩ := b2_some hf
      refine C.callVr C2 [] [.ref r3] mv_1308 rfl (o_X10_year gx3) (w_X10_year gx3) (by omega) (by omega) (Nat.le_of_ble_eq_true rfl) (by decide +kernel) rfl ?_
      obtain ⟨x5, h6, gx5, hf⟩ := b2_some hf
      refine C.callVr C2 [.int x3] [] mv_1309 rfl (o_X8_hasLeave gx5) (w_X8_hasLeave gx5) (by omega) (by omega) (Nat.le_of_ble_eq_true rfl) (by decide +kernel) rfl ?_
      refine C.if_eq (off := 12) (tgt := 70) (pf := 61) (by decide +kernel) (by decide) rfl (fun c9 => ?_) (fun c9 => ?_)
      · replace hf := ifp c9 hf
        refine Vsub [] rfl ?_
        exact l_X3_areFree_70 C C2 h6 hf
      · replace hf := ifn c9 hf
        refine C.seg (pe := 62) (lv' := [(4, .int si0), (0, .ref r0), (1, .int i1), (2, .int i2), (3, .ref r3)]) (st' := [.ref r3]) [(.aload_n 3, 1, 0)] (by decide +kernel) rfl ?_
        obtain ⟨x7, gx7, hf⟩ := Option.bind_eq_some_iff.mp hf
        refine C.rdI fr_660 gx7 (by decide +kernel) rfl ?_
        refine C.seg (pe := 67) (lv' := [(4, .int si0), (0, .ref r0), (1, .int i1), (2, .int i2), (3, .ref r3)]) (st' := [.int (-2), .int x7]) [(.bipush (-2), 2, (-2))] (by decide +kernel) rfl ?_
        refine C.icmp_eq (off := 5) (tgt := 72) (pf := 70) (by decide +kernel) (by decide) rfl (fun c8 => ?_) (fun c8 => ?_)
        · replace hf := ifp c8 hf
          refine Vsub [1, 2, 3] rfl ?_
          exact l_X3_areFree_72 C C2 hk2 r0 i1 i2 h6 hf
        · replace hf := ifn c8 hf
          refine Vsub [] rfl ?_
          exact l_X3_areFree_70 C C2 h6 hf
def f_X3_areFree_2 : Nat → Nat → Int32 → Int32 → AH → Option (Int32 × AH)
  | 0, _, _, _, _ => none
  | n + 1, r0, i1, i2, h =>
    (gA 3 h r0 0).bind fun a1 =>
    (gI 9 h a1 1).bind fun x2 =>
    if x2 ≤ i2 then
      some (1, h)
    else
      (gA 3 h r0 0).bind fun a3 =>
      b2 (f_X9_at a3 i2 h) fun q4 h5 =>
      tr q4 (
        if (i1 >>> (i2 &&& 31)) &&& 1 = 1 then
          f_X3_areFree_36 (f_X3_areFree_2 n) r0 i1 i2 none 1 h5
        else
          f_X3_areFree_36 (f_X3_areFree_2 n) r0 i1 i2 none 0 h5) fun a6 =>
      if (i1 >>> (i2 &&& 31)) &&& 1 = 1 then
        f_X3_areFree_36 (f_X3_areFree_2 n) r0 i1 i2 (some a6) 1 h5
      else
        f_X3_areFree_36 (f_X3_areFree_2 n) r0 i1 i2 (some a6) 0 h5
set_option maxRecDepth 100000 in
set_option maxHeartbeats 4000000 in
theorem l_X3_areFree_2 {X : MX} {l : Launch} {G : GX} {h0 : AH} {rr : Int32} {hr : AH} (C : Cx X G RX3 cX3_areFree 5 (some .boolean) 1 21 h0) (C2 : Cy X l "areFree" []) : ∀ (n : Nat) (r0 : Nat) (i1 : Int32) (i2 : Int32) (h : AH), f_X3_areFree_2 n r0 i1 i2 h = some (rr, hr) → V X G h0 (QI rr hr) 2 [(0, .ref r0), (1, .int i1), (2, .int i2)] [] h := by
  intro n
  induction n with
  | zero => intro r0 i1 i2 h hf; rw [f_X3_areFree_2] at hf; cases hf
  | succ n ih =>
    intro r0 i1 i2 h hf
    rw [f_X3_areFree_2] at hf
    refine C.seg (pe := 4) (lv' := [(0, .ref r0), (1, .int i1), (2, .int i2)]) (st' := [.ref r0, .int i2]) [(.iload_n 2, 1, 0), (.aload_n 0, 1, 0)] (by decide +kernel) rfl ?_
    obtain ⟨a1, ga1, hf⟩ := Option.bind_eq_some_iff.mp hf
    refine C.rdA fr_291 ga1 (by decide +kernel) rfl ?_
    obtain ⟨x2, gx2, hf⟩ := Option.bind_eq_some_iff.mp hf
    refine C.rdI fr_166 gx2 (by decide +kernel) rfl ?_
    refine C.icmp_ge (off := 68) (tgt := 78) (pf := 13) (by decide +kernel) (by decide) rfl (fun c9 => ?_) (fun c9 => ?_)
    · replace hf := ifp c9 hf
      refine C.seg (pe := 79) (lv' := [(0, .ref r0), (1, .int i1), (2, .int i2)]) (st' := [.int 1]) [(.iconst 1, 1, 1)] (by decide +kernel) rfl ?_
      cases hf
      exact C.retZ rfl (by decide) (by decide +kernel) ⟨rfl, rfl⟩
    · replace hf := ifn c9 hf
      refine C.seg (pe := 14) (lv' := [(0, .ref r0), (1, .int i1), (2, .int i2)]) (st' := [.ref r0]) [(.aload_n 0, 1, 0)] (by decide +kernel) rfl ?_
      obtain ⟨a3, ga3, hf⟩ := Option.bind_eq_some_iff.mp hf
      refine C.rdA fr_291 ga3 (by decide +kernel) rfl ?_
      refine C.seg (pe := 18) (lv' := [(0, .ref r0), (1, .int i1), (2, .int i2)]) (st' := [.int i2, .ref a3]) [(.iload_n 2, 1, 0)] (by decide +kernel) rfl ?_
      obtain ⟨q4, h5, gq4, hf⟩ := b2_some hf
      cases q4 with
      | none =>
        replace hf := tr_none hf
        refine C.callVr C2 [.int i2] [] mv_1307 rfl (o_X9_at gq4) (w_X9_at gq4) (by omega) (by omega) (Nat.le_of_ble_eq_true rfl) (by decide +kernel) rfl ?_
        refine C.seg (pe := 28) (lv' := [(3, .null), (0, .ref r0), (1, .int i1), (2, .int i2)]) (st' := [.int 1, .int ((i1 >>> (i2 &&& 31)) &&& 1)]) [(.astore_n 3, 1, 0), (.iload_n 1, 1, 0), (.iload_n 2, 1, 0), (.ishr, 1, 0), (.iconst 1, 1, 1), (.iand, 1, 0), (.iconst 1, 1, 1)] (by decide +kernel) rfl ?_
        refine C.icmp_ne (off := 7) (tgt := 35) (pf := 31) (by decide +kernel) (by decide) rfl (fun c7 => ?_) (fun c7 => ?_)
        · replace hf := ifn c7 hf
          refine C.seg (pe := 36) (lv' := [(3, .null), (0, .ref r0), (1, .int i1), (2, .int i2)]) (st' := [.int 0]) [(.iconst 0, 1, 0)] (by decide +kernel) rfl ?_
          refine Vsub [1, 2, 3, 0] rfl ?_
          exact l_X3_areFree_36 C C2 ih r0 i1 i2 none 0 h5 hf
        · replace hf := ifp c7 hf
          refine C.seg (pe := 32) (lv' := [(3, .null), (0, .ref r0), (1, .int i1), (2, .int i2)]) (st' := [.int 1]) [(.iconst 1, 1, 1)] (by decide +kernel) rfl ?_
          refine C.goto (off := 4) (tgt := 36) (by decide +kernel) (by decide) ?_
          refine Vsub [1, 2, 3, 0] rfl ?_
          exact l_X3_areFree_36 C C2 ih r0 i1 i2 none 1 h5 hf
      | some a6 =>
        replace hf := tr_some hf
        refine C.callVr C2 [.int i2] [] mv_1307 rfl (o_X9_at gq4) (w_X9_at gq4) (by omega) (by omega) (Nat.le_of_ble_eq_true rfl) (by decide +kernel) rfl ?_
        refine C.seg (pe := 28) (lv' := [(3, .ref a6), (0, .ref r0), (1, .int i1), (2, .int i2)]) (st' := [.int 1, .int ((i1 >>> (i2 &&& 31)) &&& 1)]) [(.astore_n 3, 1, 0), (.iload_n 1, 1, 0), (.iload_n 2, 1, 0), (.ishr, 1, 0), (.iconst 1, 1, 1), (.iand, 1, 0), (.iconst 1, 1, 1)] (by decide +kernel) rfl ?_
        refine C.icmp_ne (off := 7) (tgt := 35) (pf := 31) (by decide +kernel) (by decide) rfl (fun c8 => ?_) (fun c8 => ?_)
        · replace hf := ifn c8 hf
          refine C.seg (pe := 36) (lv' := [(3, .ref a6), (0, .ref r0), (1, .int i1), (2, .int i2)]) (st' := [.int 0]) [(.iconst 0, 1, 0)] (by decide +kernel) rfl ?_
          refine Vsub [1, 2, 3, 0] rfl ?_
          exact l_X3_areFree_36 C C2 ih r0 i1 i2 (some a6) 0 h5 hf
        · replace hf := ifp c8 hf
          refine C.seg (pe := 32) (lv' := [(3, .ref a6), (0, .ref r0), (1, .int i1), (2, .int i2)]) (st' := [.int 1]) [(.iconst 1, 1, 1)] (by decide +kernel) rfl ?_
          refine C.goto (off := 4) (tgt := 36) (by decide +kernel) (by decide) ?_
          refine Vsub [1, 2, 3, 0] rfl ?_
          exact l_X3_areFree_36 C C2 ih r0 i1 i2 (some a6) 1 h5 hf
def f_X3_areFree (a0 : Nat) (p1 : Int32) (h : AH) : Option (Int32 × AH) :=
  if isO 3 h a0 = true then
    f_X3_areFree_2 FU a0 p1 0 h
  else none
set_option maxRecDepth 100000 in
set_option maxHeartbeats 4000000 in
theorem w_X3_areFree {l : Launch} {G : GX} {a0 : Nat} {p1 : Int32} {h : AH} {rr : Int32} {hr : AH} (hf : f_X3_areFree a0 p1 h = some (rr, hr)) : Ct l G yX3_areFree 1 21 [.ref a0, .int p1] h (QI rr hr) := by
  unfold f_X3_areFree at hf
  obtain ⟨ho, hf⟩ := ifO hf
  refine Ct_of (own := RX3) (cc := cX3_areFree) (nL := 5) (ret := (some .boolean)) rfl rfl k_1306 (Nat.le_of_ble_eq_true rfl) (fun X C2 C => ?_)
  show V X G h (QI rr hr) 0 [(0, .ref a0), (1, .int p1)] [] h
  refine C.seg (pe := 2) (lv' := [(2, .int 0), (0, .ref a0), (1, .int p1)]) (st' := []) [(.iconst 0, 1, 0), (.istore_n 2, 1, 0)] (by decide +kernel) rfl ?_
  refine Vsub [1, 2, 0] rfl ?_
  exact l_X3_areFree_2 C C2 FU a0 p1 0 h hf
theorem o_X3_areFree {a0 : Nat} {p1 : Int32} {h : AH} {rr : Int32} {hr : AH} (hf : f_X3_areFree a0 p1 h = some (rr, hr)) : isO 3 h a0 = true := by
  unfold f_X3_areFree at hf
  exact (ifO hf).1
/-! WallHouse$Giver.isLikeOutside(II)Z -/
def f_X3_isLikeOutside_87 (k2 : Nat → Int32 → Int32 → Int32 → AH → Option (Int32 × AH)) (r0 : Nat) (i1 : Int32) (i2 : Int32) (i3 : Int32) (h : AH) : Option (Int32 × AH) :=
  k2 r0 i1 i2 (i3 + 1) h
set_option maxRecDepth 100000 in
set_option maxHeartbeats 4000000 in
theorem l_X3_isLikeOutside_87 {X : MX} {l : Launch} {G : GX} {h0 : AH} {rr : Int32} {hr : AH} (C : Cx X G RX3 cX3_isLikeOutside 5 (some .boolean) 3 65 h0) (C2 : Cy X l "isLikeOutside" []) {k2 : Nat → Int32 → Int32 → Int32 → AH → Option (Int32 × AH)} (hk2 : ∀ (r0 : Nat) (i1 : Int32) (i2 : Int32) (i3 : Int32) (h : AH), k2 r0 i1 i2 i3 h = some (rr, hr) → V X G h0 (QI rr hr) 2 [(0, .ref r0), (1, .int i1), (2, .int i2), (3, .int i3)] [] h) (r0 : Nat) (i1 : Int32) (i2 : Int32) (i3 : Int32) (h : AH) (hf : f_X3_isLikeOutside_87 k2 r0 i1 i2 i3 h = some (rr, hr)) : V X G h0 (QI rr hr) 87 [(0, .ref r0), (1, .int i1), (2, .int i2), (3, .int i3)] [] h := by
  unfold f_X3_isLikeOutside_87 at hf
  refine C.seg (pe := 90) (lv' := [(3, .int (i3 + 1)), (0, .ref r0), (1, .int i1), (2, .int i2)]) (st' := []) [(.iinc 3 1, 3, 1)] (by decide +kernel) rfl ?_
  refine C.goto (off := (-88)) (tgt := 2) (by decide +kernel) (by decide) ?_
  refine Vsub [1, 2, 3, 0] rfl ?_
  exact hk2 r0 i1 i2 (i3 + 1) h hf
def f_X3_isLikeOutside_2 : Nat → Nat → Int32 → Int32 → Int32 → AH → Option (Int32 × AH)
  | 0, _, _, _, _, _ => none
  | n + 1, r0, i1, i2, i3, h =>
    (gA 3 h r0 0).bind fun a1 =>
    (gI 9 h a1 1).bind fun x2 =>
    if x2 ≤ i3 then
      some (0, h)
    else
      (gA 3 h r0 0).bind fun a3 =>
      b2 (f_X9_at a3 i3 h) fun q4 h5 =>
      tr q4 (
        f_X3_isLikeOutside_87 (f_X3_isLikeOutside_2 n) r0 i1 i2 i3 h5) fun a6 =>
      (gI 3 h5 r0 3).bind fun x7 =>
      if (x7 >>> (i3 &&& 31)) &&& 1 = 0 then
        (gA 3 h5 r0 0).bind fun a8 =>
        b2 (f_X9_areBeside a8 i1 i3 h5) fun x9 h10 =>
        if x9 = 0 then
          f_X3_isLikeOutside_87 (f_X3_isLikeOutside_2 n) r0 i1 i2 i3 h10
        else
          b2 (f_X8_latestWork a6 h10) fun x11 h12 =>
          if x11 = (-2) then
            f_X3_isLikeOutside_87 (f_X3_isLikeOutside_2 n) r0 i1 i2 i3 h12
          else
            (gA 3 h12 r0 1).bind fun a13 =>
            (gA 3 h12 r0 2).bind fun a14 =>
            b2 (f_X8_latestWork a6 h12) fun x15 h16 =>
            b2 (f_X10_tellOf a14 x15 1 h16) fun x17 h18 =>
            b2 (f_X4_styleOf a13 x17 h18) fun x19 h20 =>
            if x19 = i2 then
              some (1, h20)
            else
              f_X3_isLikeOutside_87 (f_X3_isLikeOutside_2 n) r0 i1 i2 i3 h20
      else
        f_X3_isLikeOutside_87 (f_X3_isLikeOutside_2 n) r0 i1 i2 i3 h5
set_option maxRecDepth 100000 in
set_option maxHeartbeats 4000000 in
theorem l_X3_isLikeOutside_2 {X : MX} {l : Launch} {G : GX} {h0 : AH} {rr : Int32} {hr : AH} (C : Cx X G RX3 cX3_isLikeOutside 5 (some .boolean) 3 65 h0) (C2 : Cy X l "isLikeOutside" []) : ∀ (n : Nat) (r0 : Nat) (i1 : Int32) (i2 : Int32) (i3 : Int32) (h : AH), f_X3_isLikeOutside_2 n r0 i1 i2 i3 h = some (rr, hr) → V X G h0 (QI rr hr) 2 [(0, .ref r0), (1, .int i1), (2, .int i2), (3, .int i3)] [] h := by
  intro n
  induction n with
  | zero => intro r0 i1 i2 i3 h hf; rw [f_X3_isLikeOutside_2] at hf; cases hf
  | succ n ih =>
    intro r0 i1 i2 i3 h hf
    rw [f_X3_isLikeOutside_2] at hf
    refine C.seg (pe := 4) (lv' := [(0, .ref r0), (1, .int i1), (2, .int i2), (3, .int i3)]) (st' := [.ref r0, .int i3]) [(.iload_n 3, 1, 0), (.aload_n 0, 1, 0)] (by decide +kernel) rfl ?_
    obtain ⟨a1, ga1, hf⟩ := Option.bind_eq_some_iff.mp hf
    refine C.rdA fr_291 ga1 (by decide +kernel) rfl ?_
    obtain ⟨x2, gx2, hf⟩ := Option.bind_eq_some_iff.mp hf
    refine C.rdI fr_166 gx2 (by decide +kernel) rfl ?_
    refine C.icmp_ge (off := 83) (tgt := 93) (pf := 13) (by decide +kernel) (by decide) rfl (fun c25 => ?_) (fun c25 => ?_)
    · replace hf := ifp c25 hf
      refine C.seg (pe := 94) (lv' := [(0, .ref r0), (1, .int i1), (2, .int i2), (3, .int i3)]) (st' := [.int 0]) [(.iconst 0, 1, 0)] (by decide +kernel) rfl ?_
      cases hf
      exact C.retZ rfl (by decide) (by decide +kernel) ⟨rfl, rfl⟩
    · replace hf := ifn c25 hf
      refine C.seg (pe := 14) (lv' := [(0, .ref r0), (1, .int i1), (2, .int i2), (3, .int i3)]) (st' := [.ref r0]) [(.aload_n 0, 1, 0)] (by decide +kernel) rfl ?_
      obtain ⟨a3, ga3, hf⟩ := Option.bind_eq_some_iff.mp hf
      refine C.rdA fr_291 ga3 (by decide +kernel) rfl ?_
      refine C.seg (pe := 18) (lv' := [(0, .ref r0), (1, .int i1), (2, .int i2), (3, .int i3)]) (st' := [.int i3, .ref a3]) [(.iload_n 3, 1, 0)] (by decide +kernel) rfl ?_
      obtain ⟨q4, h5, gq4, hf⟩ := b2_some hf
      cases q4 with
      | none =>
        replace hf := tr_none hf
        refine C.callVr C2 [.int i3] [] mv_1307 rfl (o_X9_at gq4) (w_X9_at gq4) (by omega) (by omega) (Nat.le_of_ble_eq_true rfl) (by decide +kernel) rfl ?_
        refine C.seg (pe := 25) (lv' := [(4, .null), (0, .ref r0), (1, .int i1), (2, .int i2), (3, .int i3)]) (st' := [.null]) [(.astore 4, 2, 0), (.aload 4, 2, 0)] (by decide +kernel) rfl ?_
        refine C.nullN (off := 62) (tgt := 87) (by decide +kernel) (by decide) ?_
        refine Vsub [1, 2, 3, 4] rfl ?_
        exact l_X3_isLikeOutside_87 C C2 ih r0 i1 i2 i3 h5 hf
      | some a6 =>
        replace hf := tr_some hf
        refine C.callVr C2 [.int i3] [] mv_1307 rfl (o_X9_at gq4) (w_X9_at gq4) (by omega) (by omega) (Nat.le_of_ble_eq_true rfl) (by decide +kernel) rfl ?_
        refine C.seg (pe := 25) (lv' := [(4, .ref a6), (0, .ref r0), (1, .int i1), (2, .int i2), (3, .int i3)]) (st' := [.ref a6]) [(.astore 4, 2, 0), (.aload 4, 2, 0)] (by decide +kernel) rfl ?_
        refine C.nullR (off := 62) (pf := 28) (by decide +kernel) rfl ?_
        refine C.seg (pe := 29) (lv' := [(4, .ref a6), (0, .ref r0), (1, .int i1), (2, .int i2), (3, .int i3)]) (st' := [.ref r0]) [(.aload_n 0, 1, 0)] (by decide +kernel) rfl ?_
        obtain ⟨x7, gx7, hf⟩ := Option.bind_eq_some_iff.mp hf
        refine C.rdI fr_294 gx7 (by decide +kernel) rfl ?_
        refine C.seg (pe := 36) (lv' := [(4, .ref a6), (0, .ref r0), (1, .int i1), (2, .int i2), (3, .int i3)]) (st' := [.int ((x7 >>> (i3 &&& 31)) &&& 1)]) [(.iload_n 3, 1, 0), (.ishr, 1, 0), (.iconst 1, 1, 1), (.iand, 1, 0)] (by decide +kernel) rfl ?_
        refine C.if_ne (off := 51) (tgt := 87) (pf := 39) (by decide +kernel) (by decide) rfl (fun c24 => ?_) (fun c24 => ?_)
        · replace hf := ifn c24 hf
          refine Vsub [1, 2, 3, 4] rfl ?_
          exact l_X3_isLikeOutside_87 C C2 ih r0 i1 i2 i3 h5 hf
        · replace hf := ifp c24 hf
          refine C.seg (pe := 40) (lv' := [(4, .ref a6), (0, .ref r0), (1, .int i1), (2, .int i2), (3, .int i3)]) (st' := [.ref r0]) [(.aload_n 0, 1, 0)] (by decide +kernel) rfl ?_
          obtain ⟨a8, ga8, hf⟩ := Option.bind_eq_some_iff.mp hf
          refine C.rdA fr_291 ga8 (by decide +kernel) rfl ?_
          refine C.seg (pe := 45) (lv' := [(4, .ref a6), (0, .ref r0), (1, .int i1), (2, .int i2), (3, .int i3)]) (st' := [.int i3, .int i1, .ref a8]) [(.iload_n 1, 1, 0), (.iload_n 3, 1, 0)] (by decide +kernel) rfl ?_
          obtain ⟨x9, h10, gx9, hf⟩ := b2_some hf
          refine C.callVr C2 [.int i1, .int i3] [] mv_1327 rfl (o_X9_areBeside gx9) (w_X9_areBeside gx9) (by omega) (by omega) (Nat.le_of_ble_eq_true rfl) (by decide +kernel) rfl ?_
          refine C.if_eq (off := 39) (tgt := 87) (pf := 51) (by decide +kernel) (by decide) rfl (fun c23 => ?_) (fun c23 => ?_)
          · replace hf := ifp c23 hf
            refine Vsub [1, 2, 3, 4] rfl ?_
            exact l_X3_isLikeOutside_87 C C2 ih r0 i1 i2 i3 h10 hf
          · replace hf := ifn c23 hf
            refine C.seg (pe := 53) (lv' := [(4, .ref a6), (0, .ref r0), (1, .int i1), (2, .int i2), (3, .int i3)]) (st' := [.ref a6]) [(.aload 4, 2, 0)] (by decide +kernel) rfl ?_
            obtain ⟨x11, h12, gx11, hf⟩ := b2_some hf
            refine C.callVr C2 [] [] mv_1331 rfl (o_X8_latestWork gx11) (w_X8_latestWork gx11) (by omega) (by omega) (Nat.le_of_ble_eq_true rfl) (by decide +kernel) rfl ?_
            refine C.seg (pe := 58) (lv' := [(4, .ref a6), (0, .ref r0), (1, .int i1), (2, .int i2), (3, .int i3)]) (st' := [.int (-2), .int x11]) [(.bipush (-2), 2, (-2))] (by decide +kernel) rfl ?_
            refine C.icmp_eq (off := 29) (tgt := 87) (pf := 61) (by decide +kernel) (by decide) rfl (fun c22 => ?_) (fun c22 => ?_)
            · replace hf := ifp c22 hf
              refine Vsub [1, 2, 3, 4] rfl ?_
              exact l_X3_isLikeOutside_87 C C2 ih r0 i1 i2 i3 h12 hf
            · replace hf := ifn c22 hf
              refine C.seg (pe := 62) (lv' := [(4, .ref a6), (0, .ref r0), (1, .int i1), (2, .int i2), (3, .int i3)]) (st' := [.ref r0]) [(.aload_n 0, 1, 0)] (by decide +kernel) rfl ?_
              obtain ⟨a13, ga13, hf⟩ := Option.bind_eq_some_iff.mp hf
              refine C.rdA fr_292 ga13 (by decide +kernel) rfl ?_
              refine C.seg (pe := 66) (lv' := [(4, .ref a6), (0, .ref r0), (1, .int i1), (2, .int i2), (3, .int i3)]) (st' := [.ref r0, .ref a13]) [(.aload_n 0, 1, 0)] (by decide +kernel) rfl ?_
              obtain ⟨a14, ga14, hf⟩ := Option.bind_eq_some_iff.mp hf
              refine C.rdA fr_293 ga14 (by decide +kernel) rfl ?_
              refine C.seg (pe := 71) (lv' := [(4, .ref a6), (0, .ref r0), (1, .int i1), (2, .int i2), (3, .int i3)]) (st' := [.ref a6, .ref a14, .ref a13]) [(.aload 4, 2, 0)] (by decide +kernel) rfl ?_
              obtain ⟨x15, h16, gx15, hf⟩ := b2_some hf
              refine C.callVr C2 [] [.ref a14, .ref a13] mv_1331 rfl (o_X8_latestWork gx15) (w_X8_latestWork gx15) (by omega) (by omega) (Nat.le_of_ble_eq_true rfl) (by decide +kernel) rfl ?_
              refine C.seg (pe := 75) (lv' := [(4, .ref a6), (0, .ref r0), (1, .int i1), (2, .int i2), (3, .int i3)]) (st' := [.int 1, .int x15, .ref a14, .ref a13]) [(.iconst 1, 1, 1)] (by decide +kernel) rfl ?_
              obtain ⟨x17, h18, gx17, hf⟩ := b2_some hf
              refine C.callVr C2 [.int x15, .int 1] [.ref a13] mv_1335 rfl (o_X10_tellOf gx17) (w_X10_tellOf gx17) (by omega) (by omega) (Nat.le_of_ble_eq_true rfl) (by decide +kernel) rfl ?_
              obtain ⟨x19, h20, gx19, hf⟩ := b2_some hf
              refine C.callVr C2 [.int x17] [] mv_1319 rfl (o_X4_styleOf gx19) (w_X4_styleOf gx19) (by omega) (by omega) (Nat.le_of_ble_eq_true rfl) (by decide +kernel) rfl ?_
              refine C.seg (pe := 82) (lv' := [(4, .ref a6), (0, .ref r0), (1, .int i1), (2, .int i2), (3, .int i3)]) (st' := [.int i2, .int x19]) [(.iload_n 2, 1, 0)] (by decide +kernel) rfl ?_
              refine C.icmp_ne (off := 5) (tgt := 87) (pf := 85) (by decide +kernel) (by decide) rfl (fun c21 => ?_) (fun c21 => ?_)
              · replace hf := ifn c21 hf
                refine Vsub [1, 2, 3, 4] rfl ?_
                exact l_X3_isLikeOutside_87 C C2 ih r0 i1 i2 i3 h20 hf
              · replace hf := ifp c21 hf
                refine C.seg (pe := 86) (lv' := [(4, .ref a6), (0, .ref r0), (1, .int i1), (2, .int i2), (3, .int i3)]) (st' := [.int 1]) [(.iconst 1, 1, 1)] (by decide +kernel) rfl ?_
                cases hf
                exact C.retZ rfl (by decide) (by decide +kernel) ⟨rfl, rfl⟩
def f_X3_isLikeOutside (a0 : Nat) (p1 : Int32) (p2 : Int32) (h : AH) : Option (Int32 × AH) :=
  if isO 3 h a0 = true then
    f_X3_isLikeOutside_2 FU a0 p1 p2 0 h
  else none
set_option maxRecDepth 100000 in
set_option maxHeartbeats 4000000 in
theorem w_X3_isLikeOutside {l : Launch} {G : GX} {a0 : Nat} {p1 : Int32} {p2 : Int32} {h : AH} {rr : Int32} {hr : AH} (hf : f_X3_isLikeOutside a0 p1 p2 h = some (rr, hr)) : Ct l G yX3_isLikeOutside 3 65 [.ref a0, .int p1, .int p2] h (QI rr hr) := by
  unfold f_X3_isLikeOutside at hf
  obtain ⟨ho, hf⟩ := ifO hf
  refine Ct_of (own := RX3) (cc := cX3_isLikeOutside) (nL := 5) (ret := (some .boolean)) rfl rfl k_1326 (Nat.le_of_ble_eq_true rfl) (fun X C2 C => ?_)
  show V X G h (QI rr hr) 0 [(0, .ref a0), (1, .int p1), (2, .int p2)] [] h
  refine C.seg (pe := 2) (lv' := [(3, .int 0), (0, .ref a0), (1, .int p1), (2, .int p2)]) (st' := []) [(.iconst 0, 1, 0), (.istore_n 3, 1, 0)] (by decide +kernel) rfl ?_
  refine Vsub [1, 2, 3, 0] rfl ?_
  exact l_X3_isLikeOutside_2 C C2 FU a0 p1 p2 0 h hf
theorem o_X3_isLikeOutside {a0 : Nat} {p1 : Int32} {p2 : Int32} {h : AH} {rr : Int32} {hr : AH} (hf : f_X3_isLikeOutside a0 p1 p2 h = some (rr, hr)) : isO 3 h a0 = true := by
  unfold f_X3_isLikeOutside at hf
  exact (ifO hf).1
/-! WallHouse$Giver.reckonWorths()V -/
def f_X3_reckonWorths_102 (k2 : Nat → Int32 → AH → Option (AH)) (k12 : Nat → Int32 → Int32 → AH → Option (AH)) (r0 : Nat) (i1 : Int32) (i2 : Int32) (si0 : Int32) (si1 : Int32) (sr2 : Nat) (h : AH) : Option (AH) :=
  (sI 0 h sr2 si1 si0).bind fun h1 =>
  k12 r0 i1 (i2 + 1) h1
set_option maxRecDepth 100000 in
set_option maxHeartbeats 4000000 in
theorem l_X3_reckonWorths_102 {X : MX} {l : Launch} {G : GX} {h0 : AH} {hr : AH} (C : Cx X G RX3 cX3_reckonWorths 5 none 4 89 h0) (C2 : Cy X l "reckonWorths" []) {k2 : Nat → Int32 → AH → Option (AH)} (hk2 : ∀ (r0 : Nat) (i1 : Int32) (h : AH), k2 r0 i1 h = some hr → V X G h0 (QV hr) 2 [(0, .ref r0), (1, .int i1)] [] h) {k12 : Nat → Int32 → Int32 → AH → Option (AH)} (hk12 : ∀ (r0 : Nat) (i1 : Int32) (i2 : Int32) (h : AH), k12 r0 i1 i2 h = some hr → V X G h0 (QV hr) 12 [(0, .ref r0), (1, .int i1), (2, .int i2)] [] h) (r0 : Nat) (i1 : Int32) (i2 : Int32) (si0 : Int32) (si1 : Int32) (sr2 : Nat) (h : AH) (hf : f_X3_reckonWorths_102 k2 k12 r0 i1 i2 si0 si1 sr2 h = some hr) : V X G h0 (QV hr) 102 [(0, .ref r0), (1, .int i1), (2, .int i2)] [.int si0, .int si1, .ref sr2] h := by
  unfold f_X3_reckonWorths_102 at hf
  obtain ⟨h1, gh1, hf⟩ := Option.bind_eq_some_iff.mp hf
  refine C.ast gh1 (by decide +kernel) rfl ?_
  refine C.seg (pe := 106) (lv' := [(2, .int (i2 + 1)), (0, .ref r0), (1, .int i1)]) (st' := []) [(.iinc 2 1, 3, 1)] (by decide +kernel) rfl ?_
  refine C.goto (off := (-94)) (tgt := 12) (by decide +kernel) (by decide) ?_
  refine Vsub [1, 2, 0] rfl ?_
  exact hk12 r0 i1 (i2 + 1) h1 hf
def f_X3_reckonWorths_68 (k2 : Nat → Int32 → AH → Option (AH)) (k12 : Nat → Int32 → Int32 → AH → Option (AH)) (r0 : Nat) (i1 : Int32) (i2 : Int32) (i3 : Int32) (si0 : Int32) (h : AH) : Option (AH) :=
  (gA 3 h r0 6).bind fun a1 =>
  if si0 = 0 then
    f_X3_reckonWorths_102 k2 k12 r0 i1 i2 0 ((i1 * 10) + i2) a1 h
  else
    (gA 3 h r0 1).bind fun a2 =>
    b2 (f_X4_worksOf a2 i2 h) fun x3 h4 =>
    f_X3_reckonWorths_102 k2 k12 r0 i1 i2 ((i3 * 64) - x3) ((i1 * 10) + i2) a1 h4
set_option maxRecDepth 100000 in
set_option maxHeartbeats 4000000 in
theorem l_X3_reckonWorths_68 {X : MX} {l : Launch} {G : GX} {h0 : AH} {hr : AH} (C : Cx X G RX3 cX3_reckonWorths 5 none 4 89 h0) (C2 : Cy X l "reckonWorths" []) {k2 : Nat → Int32 → AH → Option (AH)} (hk2 : ∀ (r0 : Nat) (i1 : Int32) (h : AH), k2 r0 i1 h = some hr → V X G h0 (QV hr) 2 [(0, .ref r0), (1, .int i1)] [] h) {k12 : Nat → Int32 → Int32 → AH → Option (AH)} (hk12 : ∀ (r0 : Nat) (i1 : Int32) (i2 : Int32) (h : AH), k12 r0 i1 i2 h = some hr → V X G h0 (QV hr) 12 [(0, .ref r0), (1, .int i1), (2, .int i2)] [] h) (r0 : Nat) (i1 : Int32) (i2 : Int32) (i3 : Int32) (si0 : Int32) (h : AH) (hf : f_X3_reckonWorths_68 k2 k12 r0 i1 i2 i3 si0 h = some hr) : V X G h0 (QV hr) 68 [(0, .ref r0), (1, .int i1), (2, .int i2), (3, .int i3)] [.int si0] h := by
  unfold f_X3_reckonWorths_68 at hf
  refine C.seg (pe := 71) (lv' := [(4, .int si0), (0, .ref r0), (1, .int i1), (2, .int i2), (3, .int i3)]) (st' := [.ref r0]) [(.istore 4, 2, 0), (.aload_n 0, 1, 0)] (by decide +kernel) rfl ?_
  obtain ⟨a1, ga1, hf⟩ := Option.bind_eq_some_iff.mp hf
  refine C.rdA fr_297 ga1 (by decide +kernel) rfl ?_
  refine C.seg (pe := 82) (lv' := [(4, .int si0), (0, .ref r0), (1, .int i1), (2, .int i2), (3, .int i3)]) (st' := [.int si0, .int ((i1 * 10) + i2), .ref a1]) [(.iload_n 1, 1, 0), (.bipush 10, 2, 10), (.imul, 1, 0), (.iload_n 2, 1, 0), (.iadd, 1, 0), (.iload 4, 2, 0)] (by decide +kernel) rfl ?_
  refine C.if_eq (off := 19) (tgt := 101) (pf := 85) (by decide +kernel) (by decide) rfl (fun c5 => ?_) (fun c5 => ?_)
  · replace hf := ifp c5 hf
    refine C.seg (pe := 102) (lv' := [(4, .int si0), (0, .ref r0), (1, .int i1), (2, .int i2), (3, .int i3)]) (st' := [.int 0, .int ((i1 * 10) + i2), .ref a1]) [(.iconst 0, 1, 0)] (by decide +kernel) rfl ?_
    refine Vsub [1, 2, 3] rfl ?_
    exact l_X3_reckonWorths_102 C C2 hk2 hk12 r0 i1 i2 0 ((i1 * 10) + i2) a1 h hf
  · replace hf := ifn c5 hf
    refine C.seg (pe := 90) (lv' := [(4, .int si0), (0, .ref r0), (1, .int i1), (2, .int i2), (3, .int i3)]) (st' := [.ref r0, .int (i3 * 64), .int ((i1 * 10) + i2), .ref a1]) [(.iload_n 3, 1, 0), (.bipush 64, 2, 64), (.imul, 1, 0), (.aload_n 0, 1, 0)] (by decide +kernel) rfl ?_
    obtain ⟨a2, ga2, hf⟩ := Option.bind_eq_some_iff.mp hf
    refine C.rdA fr_292 ga2 (by decide +kernel) rfl ?_
    refine C.seg (pe := 94) (lv' := [(4, .int si0), (0, .ref r0), (1, .int i1), (2, .int i2), (3, .int i3)]) (st' := [.int i2, .ref a2, .int (i3 * 64), .int ((i1 * 10) + i2), .ref a1]) [(.iload_n 2, 1, 0)] (by decide +kernel) rfl ?_
    obtain ⟨x3, h4, gx3, hf⟩ := b2_some hf
    refine C.callVr C2 [.int i2] [.int (i3 * 64), .int ((i1 * 10) + i2), .ref a1] mv_1347 rfl (o_X4_worksOf gx3) (w_X4_worksOf gx3) (by omega) (by omega) (Nat.le_of_ble_eq_true rfl) (by decide +kernel) rfl ?_
    refine C.seg (pe := 98) (lv' := [(4, .int si0), (0, .ref r0), (1, .int i1), (2, .int i2), (3, .int i3)]) (st' := [.int ((i3 * 64) - x3), .int ((i1 * 10) + i2), .ref a1]) [(.isub, 1, 0)] (by decide +kernel) rfl ?_
    refine C.goto (off := 4) (tgt := 102) (by decide +kernel) (by decide) ?_
    refine Vsub [1, 2, 3] rfl ?_
    exact l_X3_reckonWorths_102 C C2 hk2 hk12 r0 i1 i2 ((i3 * 64) - x3) ((i1 * 10) + i2) a1 h4 hf
def f_X3_reckonWorths_67 (k2 : Nat → Int32 → AH → Option (AH)) (k12 : Nat → Int32 → Int32 → AH → Option (AH)) (r0 : Nat) (i1 : Int32) (i2 : Int32) (i3 : Int32) (h : AH) : Option (AH) :=
  f_X3_reckonWorths_68 k2 k12 r0 i1 i2 i3 0 h
set_option maxRecDepth 100000 in
set_option maxHeartbeats 4000000 in
theorem l_X3_reckonWorths_67 {X : MX} {l : Launch} {G : GX} {h0 : AH} {hr : AH} (C : Cx X G RX3 cX3_reckonWorths 5 none 4 89 h0) (C2 : Cy X l "reckonWorths" []) {k2 : Nat → Int32 → AH → Option (AH)} (hk2 : ∀ (r0 : Nat) (i1 : Int32) (h : AH), k2 r0 i1 h = some hr → V X G h0 (QV hr) 2 [(0, .ref r0), (1, .int i1)] [] h) {k12 : Nat → Int32 → Int32 → AH → Option (AH)} (hk12 : ∀ (r0 : Nat) (i1 : Int32) (i2 : Int32) (h : AH), k12 r0 i1 i2 h = some hr → V X G h0 (QV hr) 12 [(0, .ref r0), (1, .int i1), (2, .int i2)] [] h) (r0 : Nat) (i1 : Int32) (i2 : Int32) (i3 : Int32) (h : AH) (hf : f_X3_reckonWorths_67 k2 k12 r0 i1 i2 i3 h = some hr) : V X G h0 (QV hr) 67 [(0, .ref r0), (1, .int i1), (2, .int i2), (3, .int i3)] [] h := by
  unfold f_X3_reckonWorths_67 at hf
  refine C.seg (pe := 68) (lv' := [(0, .ref r0), (1, .int i1), (2, .int i2), (3, .int i3)]) (st' := [.int 0]) [(.iconst 0, 1, 0)] (by decide +kernel) rfl ?_
  exact l_X3_reckonWorths_68 C C2 hk2 hk12 r0 i1 i2 i3 0 h hf
def f_X3_reckonWorths_12 (k2 : Nat → Int32 → AH → Option (AH)) : Nat → Nat → Int32 → Int32 → AH → Option (AH)
  | 0, _, _, _, _ => none
  | n + 1, r0, i1, i2, h =>
    (gA 3 h r0 1).bind fun a1 =>
    (gI 4 h a1 0).bind fun x2 =>
    if x2 ≤ i2 then
      k2 r0 (i1 + 1) h
    else
      (gA 3 h r0 1).bind fun a3 =>
      (gA 3 h r0 4).bind fun a4 =>
      (aI 0 h a4 i1).bind fun x5 =>
      b2 (f_X4_likedOn a3 i2 x5 h) fun x6 h7 =>
      if x6 ≤ 0 then
        f_X3_reckonWorths_67 k2 (f_X3_reckonWorths_12 k2 n) r0 i1 i2 x6 h7
      else
        (gA 3 h7 r0 4).bind fun a8 =>
        (aI 0 h7 a8 i1).bind fun x9 =>
        (gA 3 h7 r0 1).bind fun a10 =>
        b2 (f_X4_styleOf a10 i2 h7) fun x11 h12 =>
        b2 (f_X3_isLikeOutside r0 x9 x11 h12) fun x13 h14 =>
        if x13 = 0 then
          f_X3_reckonWorths_68 k2 (f_X3_reckonWorths_12 k2 n) r0 i1 i2 x6 1 h14
        else
          f_X3_reckonWorths_67 k2 (f_X3_reckonWorths_12 k2 n) r0 i1 i2 x6 h14
set_option maxRecDepth 100000 in
set_option maxHeartbeats 4000000 in
theorem l_X3_reckonWorths_12 {X : MX} {l : Launch} {G : GX} {h0 : AH} {hr : AH} (C : Cx X G RX3 cX3_reckonWorths 5 none 4 89 h0) (C2 : Cy X l "reckonWorths" []) {k2 : Nat → Int32 → AH → Option (AH)} (hk2 : ∀ (r0 : Nat) (i1 : Int32) (h : AH), k2 r0 i1 h = some hr → V X G h0 (QV hr) 2 [(0, .ref r0), (1, .int i1)] [] h) : ∀ (n : Nat) (r0 : Nat) (i1 : Int32) (i2 : Int32) (h : AH), f_X3_reckonWorths_12 k2 n r0 i1 i2 h = some hr → V X G h0 (QV hr) 12 [(0, .ref r0), (1, .int i1), (2, .int i2)] [] h := by
  intro n
  induction n with
  | zero => intro r0 i1 i2 h hf; rw [f_X3_reckonWorths_12] at hf; cases hf
  | succ n ih =>
    intro r0 i1 i2 h hf
    rw [f_X3_reckonWorths_12] at hf
    refine C.seg (pe := 14) (lv' := [(0, .ref r0), (1, .int i1), (2, .int i2)]) (st' := [.ref r0, .int i2]) [(.iload_n 2, 1, 0), (.aload_n 0, 1, 0)] (by decide +kernel) rfl ?_
    obtain ⟨a1, ga1, hf⟩ := Option.bind_eq_some_iff.mp hf
    refine C.rdA fr_292 ga1 (by decide +kernel) rfl ?_
    obtain ⟨x2, gx2, hf⟩ := Option.bind_eq_some_iff.mp hf
    refine C.rdI fr_188 gx2 (by decide +kernel) rfl ?_
    refine C.icmp_ge (off := 89) (tgt := 109) (pf := 23) (by decide +kernel) (by decide) rfl (fun c17 => ?_) (fun c17 => ?_)
    · replace hf := ifp c17 hf
      refine C.seg (pe := 112) (lv' := [(1, .int (i1 + 1)), (0, .ref r0), (2, .int i2)]) (st' := []) [(.iinc 1 1, 3, 1)] (by decide +kernel) rfl ?_
      refine C.goto (off := (-110)) (tgt := 2) (by decide +kernel) (by decide) ?_
      refine Vsub [1, 0] rfl ?_
      exact hk2 r0 (i1 + 1) h hf
    · replace hf := ifn c17 hf
      refine C.seg (pe := 24) (lv' := [(0, .ref r0), (1, .int i1), (2, .int i2)]) (st' := [.ref r0]) [(.aload_n 0, 1, 0)] (by decide +kernel) rfl ?_
      obtain ⟨a3, ga3, hf⟩ := Option.bind_eq_some_iff.mp hf
      refine C.rdA fr_292 ga3 (by decide +kernel) rfl ?_
      refine C.seg (pe := 29) (lv' := [(0, .ref r0), (1, .int i1), (2, .int i2)]) (st' := [.ref r0, .int i2, .ref a3]) [(.iload_n 2, 1, 0), (.aload_n 0, 1, 0)] (by decide +kernel) rfl ?_
      obtain ⟨a4, ga4, hf⟩ := Option.bind_eq_some_iff.mp hf
      refine C.rdA fr_295 ga4 (by decide +kernel) rfl ?_
      refine C.seg (pe := 33) (lv' := [(0, .ref r0), (1, .int i1), (2, .int i2)]) (st' := [.int i1, .ref a4, .int i2, .ref a3]) [(.iload_n 1, 1, 0)] (by decide +kernel) rfl ?_
      obtain ⟨x5, gx5, hf⟩ := Option.bind_eq_some_iff.mp hf
      refine C.ald 0 rfl gx5 (by decide +kernel) rfl ?_
      obtain ⟨x6, h7, gx6, hf⟩ := b2_some hf
      refine C.callVr C2 [.int i2, .int x5] [] mv_1318 rfl (o_X4_likedOn gx6) (w_X4_likedOn gx6) (by omega) (by omega) (Nat.le_of_ble_eq_true rfl) (by decide +kernel) rfl ?_
      refine C.seg (pe := 39) (lv' := [(3, .int x6), (0, .ref r0), (1, .int i1), (2, .int i2)]) (st' := [.int x6]) [(.istore_n 3, 1, 0), (.iload_n 3, 1, 0)] (by decide +kernel) rfl ?_
      refine C.if_le (off := 28) (tgt := 67) (pf := 42) (by decide +kernel) (by decide) rfl (fun c16 => ?_) (fun c16 => ?_)
      · replace hf := ifp c16 hf
        refine Vsub [1, 2, 3, 0] rfl ?_
        exact l_X3_reckonWorths_67 C C2 hk2 ih r0 i1 i2 x6 h7 hf
      · replace hf := ifn c16 hf
        refine C.seg (pe := 44) (lv' := [(3, .int x6), (0, .ref r0), (1, .int i1), (2, .int i2)]) (st' := [.ref r0, .ref r0]) [(.aload_n 0, 1, 0), (.aload_n 0, 1, 0)] (by decide +kernel) rfl ?_
        obtain ⟨a8, ga8, hf⟩ := Option.bind_eq_some_iff.mp hf
        refine C.rdA fr_295 ga8 (by decide +kernel) rfl ?_
        refine C.seg (pe := 48) (lv' := [(3, .int x6), (0, .ref r0), (1, .int i1), (2, .int i2)]) (st' := [.int i1, .ref a8, .ref r0]) [(.iload_n 1, 1, 0)] (by decide +kernel) rfl ?_
        obtain ⟨x9, gx9, hf⟩ := Option.bind_eq_some_iff.mp hf
        refine C.ald 0 rfl gx9 (by decide +kernel) rfl ?_
        refine C.seg (pe := 50) (lv' := [(3, .int x6), (0, .ref r0), (1, .int i1), (2, .int i2)]) (st' := [.ref r0, .int x9, .ref r0]) [(.aload_n 0, 1, 0)] (by decide +kernel) rfl ?_
        obtain ⟨a10, ga10, hf⟩ := Option.bind_eq_some_iff.mp hf
        refine C.rdA fr_292 ga10 (by decide +kernel) rfl ?_
        refine C.seg (pe := 54) (lv' := [(3, .int x6), (0, .ref r0), (1, .int i1), (2, .int i2)]) (st' := [.int i2, .ref a10, .int x9, .ref r0]) [(.iload_n 2, 1, 0)] (by decide +kernel) rfl ?_
        obtain ⟨x11, h12, gx11, hf⟩ := b2_some hf
        refine C.callVr C2 [.int i2] [.int x9, .ref r0] mv_1319 rfl (o_X4_styleOf gx11) (w_X4_styleOf gx11) (by omega) (by omega) (Nat.le_of_ble_eq_true rfl) (by decide +kernel) rfl ?_
        obtain ⟨x13, h14, gx13, hf⟩ := b2_some hf
        refine C.callVr C2 [.int x9, .int x11] [] mv_1323 rfl (o_X3_isLikeOutside gx13) (w_X3_isLikeOutside gx13) (by omega) (by omega) (Nat.le_of_ble_eq_true rfl) (by decide +kernel) rfl ?_
        refine C.if_ne (off := 7) (tgt := 67) (pf := 63) (by decide +kernel) (by decide) rfl (fun c15 => ?_) (fun c15 => ?_)
        · replace hf := ifn c15 hf
          refine Vsub [1, 2, 3, 0] rfl ?_
          exact l_X3_reckonWorths_67 C C2 hk2 ih r0 i1 i2 x6 h14 hf
        · replace hf := ifp c15 hf
          refine C.seg (pe := 64) (lv' := [(3, .int x6), (0, .ref r0), (1, .int i1), (2, .int i2)]) (st' := [.int 1]) [(.iconst 1, 1, 1)] (by decide +kernel) rfl ?_
          refine C.goto (off := 4) (tgt := 68) (by decide +kernel) (by decide) ?_
          refine Vsub [1, 2, 3, 0] rfl ?_
          exact l_X3_reckonWorths_68 C C2 hk2 ih r0 i1 i2 x6 1 h14 hf
def f_X3_reckonWorths_2 : Nat → Nat → Int32 → AH → Option (AH)
  | 0, _, _, _ => none
  | n + 1, r0, i1, h =>
    (gI 3 h r0 5).bind fun x1 =>
    if x1 ≤ i1 then
      some h
    else
      f_X3_reckonWorths_12 (f_X3_reckonWorths_2 n) FU r0 i1 0 h
set_option maxRecDepth 100000 in
set_option maxHeartbeats 4000000 in
theorem l_X3_reckonWorths_2 {X : MX} {l : Launch} {G : GX} {h0 : AH} {hr : AH} (C : Cx X G RX3 cX3_reckonWorths 5 none 4 89 h0) (C2 : Cy X l "reckonWorths" []) : ∀ (n : Nat) (r0 : Nat) (i1 : Int32) (h : AH), f_X3_reckonWorths_2 n r0 i1 h = some hr → V X G h0 (QV hr) 2 [(0, .ref r0), (1, .int i1)] [] h := by
  intro n
  induction n with
  | zero => intro r0 i1 h hf; rw [f_X3_reckonWorths_2] at hf; cases hf
  | succ n ih =>
    intro r0 i1 h hf
    rw [f_X3_reckonWorths_2] at hf
    refine C.seg (pe := 4) (lv' := [(0, .ref r0), (1, .int i1)]) (st' := [.ref r0, .int i1]) [(.iload_n 1, 1, 0), (.aload_n 0, 1, 0)] (by decide +kernel) rfl ?_
    obtain ⟨x1, gx1, hf⟩ := Option.bind_eq_some_iff.mp hf
    refine C.rdI fr_296 gx1 (by decide +kernel) rfl ?_
    refine C.icmp_ge (off := 108) (tgt := 115) (pf := 10) (by decide +kernel) (by decide) rfl (fun c2 => ?_) (fun c2 => ?_)
    · replace hf := ifp c2 hf
      cases hf
      exact C.retV rfl (by decide +kernel) ⟨rfl, rfl⟩
    · replace hf := ifn c2 hf
      refine C.seg (pe := 12) (lv' := [(2, .int 0), (0, .ref r0), (1, .int i1)]) (st' := []) [(.iconst 0, 1, 0), (.istore_n 2, 1, 0)] (by decide +kernel) rfl ?_
      refine Vsub [1, 2, 0] rfl ?_
      exact l_X3_reckonWorths_12 C C2 ih FU r0 i1 0 h hf
def f_X3_reckonWorths (a0 : Nat) (h : AH) : Option (AH) :=
  if isO 3 h a0 = true then
    f_X3_reckonWorths_2 FU a0 0 h
  else none
set_option maxRecDepth 100000 in
set_option maxHeartbeats 4000000 in
theorem w_X3_reckonWorths {l : Launch} {G : GX} {a0 : Nat} {h : AH} {hr : AH} (hf : f_X3_reckonWorths a0 h = some hr) : Ct l G yX3_reckonWorths 4 89 [.ref a0] h (QV hr) := by
  unfold f_X3_reckonWorths at hf
  obtain ⟨ho, hf⟩ := ifO hf
  refine Ct_of (own := RX3) (cc := cX3_reckonWorths) (nL := 5) (ret := none) rfl rfl k_1317 (Nat.le_of_ble_eq_true rfl) (fun X C2 C => ?_)
  show V X G h (QV hr) 0 [(0, .ref a0)] [] h
  refine C.seg (pe := 2) (lv' := [(1, .int 0), (0, .ref a0)]) (st' := []) [(.iconst 0, 1, 0), (.istore_n 1, 1, 0)] (by decide +kernel) rfl ?_
  refine Vsub [1, 0] rfl ?_
  exact l_X3_reckonWorths_2 C C2 FU a0 0 h hf
theorem o_X3_reckonWorths {a0 : Nat} {h : AH} {hr : AH} (hf : f_X3_reckonWorths a0 h = some hr) : isO 3 h a0 = true := by
  unfold f_X3_reckonWorths at hf
  exact (ifO hf).1
/-! WallHouse$Giver.hopeFrom(II)I -/
def f_X3_hopeFrom_35 (si0 : Int32) (h : AH) : Option (Int32 × AH) :=
  some (si0, h)
set_option maxRecDepth 100000 in
set_option maxHeartbeats 4000000 in
theorem l_X3_hopeFrom_35 {X : MX} {l : Launch} {G : GX} {h0 : AH} {rr : Int32} {hr : AH} (C : Cx X G RX3 cX3_hopeFrom 4 (some .int) 0 0 h0) (C2 : Cy X l "hopeFrom" []) (si0 : Int32) (h : AH) (hf : f_X3_hopeFrom_35 si0 h = some (rr, hr)) : V X G h0 (QI rr hr) 35 [] [.int si0] h := by
  unfold f_X3_hopeFrom_35 at hf
  cases hf
  exact C.retI rfl (by decide +kernel) ⟨rfl, rfl⟩
def f_X3_hopeFrom_34 (h : AH) : Option (Int32 × AH) :=
  f_X3_hopeFrom_35 0 h
set_option maxRecDepth 100000 in
set_option maxHeartbeats 4000000 in
theorem l_X3_hopeFrom_34 {X : MX} {l : Launch} {G : GX} {h0 : AH} {rr : Int32} {hr : AH} (C : Cx X G RX3 cX3_hopeFrom 4 (some .int) 0 0 h0) (C2 : Cy X l "hopeFrom" []) (h : AH) (hf : f_X3_hopeFrom_34 h = some (rr, hr)) : V X G h0 (QI rr hr) 34 [] [] h := by
  unfold f_X3_hopeFrom_34 at hf
  refine C.seg (pe := 35) (lv' := []) (st' := [.int 0]) [(.iconst 0, 1, 0)] (by decide +kernel) rfl ?_
  exact l_X3_hopeFrom_35 C C2 0 h hf
def f_X3_hopeFrom (a0 : Nat) (p1 : Int32) (p2 : Int32) (h : AH) : Option (Int32 × AH) :=
  if isO 3 h a0 = true then
    (gA 3 h a0 1).bind fun a1 =>
    (gI 4 h a1 0).bind fun x2 =>
    lt ((p1 <<< (x2 &&& 31)) + p2 : Int32) fun x3 =>
    if x3 < 0 then
      f_X3_hopeFrom_34 h
    else
      (gA 3 h a0 7).bind fun a4 =>
      (aN h a4).bind fun x5 =>
      if x5 ≤ x3 then
        f_X3_hopeFrom_34 h
      else
        (gA 3 h a0 7).bind fun a6 =>
        (aI 0 h a6 x3).bind fun x7 =>
        f_X3_hopeFrom_35 x7 h
  else none
set_option maxRecDepth 100000 in
set_option maxHeartbeats 4000000 in
theorem w_X3_hopeFrom {l : Launch} {G : GX} {a0 : Nat} {p1 : Int32} {p2 : Int32} {h : AH} {rr : Int32} {hr : AH} (hf : f_X3_hopeFrom a0 p1 p2 h = some (rr, hr)) : Ct l G yX3_hopeFrom 0 0 [.ref a0, .int p1, .int p2] h (QI rr hr) := by
  unfold f_X3_hopeFrom at hf
  obtain ⟨ho, hf⟩ := ifO hf
  refine Ct_of (own := RX3) (cc := cX3_hopeFrom) (nL := 4) (ret := (some .int)) rfl rfl k_1358 (Nat.le_of_ble_eq_true rfl) (fun X C2 C => ?_)
  show V X G h (QI rr hr) 0 [(0, .ref a0), (1, .int p1), (2, .int p2)] [] h
  refine C.seg (pe := 2) (lv' := [(0, .ref a0), (1, .int p1), (2, .int p2)]) (st' := [.ref a0, .int p1]) [(.iload_n 1, 1, 0), (.aload_n 0, 1, 0)] (by decide +kernel) rfl ?_
  obtain ⟨a1, ga1, hf⟩ := Option.bind_eq_some_iff.mp hf
  refine C.rdA fr_292 ga1 (by decide +kernel) rfl ?_
  obtain ⟨x2, gx2, hf⟩ := Option.bind_eq_some_iff.mp hf
  refine C.rdI fr_188 gx2 (by decide +kernel) rfl ?_
  refine C.seg (pe := 11) (lv' := [(0, .ref a0), (1, .int p1), (2, .int p2)]) (st' := [.int ((p1 <<< (x2 &&& 31)) + p2)]) [(.ishl, 1, 0), (.iload_n 2, 1, 0), (.iadd, 1, 0)] (by decide +kernel) rfl ?_
  refine Vtopi (fun x3 ex3 => ?_)
  replace hf := lt_ap ex3 hf
  clear ex3
  refine C.seg (pe := 13) (lv' := [(3, .int x3), (0, .ref a0), (1, .int p1), (2, .int p2)]) (st' := [.int x3]) [(.istore_n 3, 1, 0), (.iload_n 3, 1, 0)] (by decide +kernel) rfl ?_
  refine C.if_lt (off := 21) (tgt := 34) (pf := 16) (by decide +kernel) (by decide) rfl (fun c9 => ?_) (fun c9 => ?_)
  · replace hf := ifp c9 hf
    refine Vsub [] rfl ?_
    exact l_X3_hopeFrom_34 C C2 h hf
  · replace hf := ifn c9 hf
    refine C.seg (pe := 18) (lv' := [(3, .int x3), (0, .ref a0), (1, .int p1), (2, .int p2)]) (st' := [.ref a0, .int x3]) [(.iload_n 3, 1, 0), (.aload_n 0, 1, 0)] (by decide +kernel) rfl ?_
    obtain ⟨a4, ga4, hf⟩ := Option.bind_eq_some_iff.mp hf
    refine C.rdA fr_298 ga4 (by decide +kernel) rfl ?_
    obtain ⟨x5, gx5, hf⟩ := Option.bind_eq_some_iff.mp hf
    refine C.alen gx5 (by decide +kernel) rfl ?_
    refine C.icmp_ge (off := 12) (tgt := 34) (pf := 25) (by decide +kernel) (by decide) rfl (fun c8 => ?_) (fun c8 => ?_)
    · replace hf := ifp c8 hf
      refine Vsub [] rfl ?_
      exact l_X3_hopeFrom_34 C C2 h hf
    · replace hf := ifn c8 hf
      refine C.seg (pe := 26) (lv' := [(3, .int x3), (0, .ref a0), (1, .int p1), (2, .int p2)]) (st' := [.ref a0]) [(.aload_n 0, 1, 0)] (by decide +kernel) rfl ?_
      obtain ⟨a6, ga6, hf⟩ := Option.bind_eq_some_iff.mp hf
      refine C.rdA fr_298 ga6 (by decide +kernel) rfl ?_
      refine C.seg (pe := 30) (lv' := [(3, .int x3), (0, .ref a0), (1, .int p1), (2, .int p2)]) (st' := [.int x3, .ref a6]) [(.iload_n 3, 1, 0)] (by decide +kernel) rfl ?_
      obtain ⟨x7, gx7, hf⟩ := Option.bind_eq_some_iff.mp hf
      refine C.ald 0 rfl gx7 (by decide +kernel) rfl ?_
      refine C.goto (off := 4) (tgt := 35) (by decide +kernel) (by decide) ?_
      refine Vsub [] rfl ?_
      exact l_X3_hopeFrom_35 C C2 x7 h hf
theorem o_X3_hopeFrom {a0 : Nat} {p1 : Int32} {p2 : Int32} {h : AH} {rr : Int32} {hr : AH} (hf : f_X3_hopeFrom a0 p1 p2 h = some (rr, hr)) : isO 3 h a0 = true := by
  unfold f_X3_hopeFrom at hf
  exact (ifO hf).1
/-! WallHouse$Giver.reckonHopes()V -/
def f_X3_reckonHopes_142 (k50 : Nat → Int32 → Int32 → AH → Option (AH)) (k57 : Nat → Int32 → Int32 → Int32 → AH → Option (AH)) (k77 : Nat → Int32 → Int32 → Int32 → Int32 → Int32 → AH → Option (AH)) (r0 : Nat) (i1 : Int32) (i3 : Int32) (i4 : Int32) (i5 : Int32) (i6 : Int32) (h : AH) : Option (AH) :=
  k77 r0 i1 i3 i4 i5 (i6 + 1) h
set_option maxRecDepth 100000 in
set_option maxHeartbeats 4000000 in
theorem l_X3_reckonHopes_142 {X : MX} {l : Launch} {G : GX} {h0 : AH} {hr : AH} (C : Cx X G RX3 cX3_reckonHopes 8 none 1 40 h0) (C2 : Cy X l "reckonHopes" []) {k50 : Nat → Int32 → Int32 → AH → Option (AH)} (hk50 : ∀ (r0 : Nat) (i1 : Int32) (i3 : Int32) (h : AH), k50 r0 i1 i3 h = some hr → V X G h0 (QV hr) 50 [(0, .ref r0), (1, .int i1), (3, .int i3)] [] h) {k57 : Nat → Int32 → Int32 → Int32 → AH → Option (AH)} (hk57 : ∀ (r0 : Nat) (i1 : Int32) (i3 : Int32) (i4 : Int32) (h : AH), k57 r0 i1 i3 i4 h = some hr → V X G h0 (QV hr) 57 [(0, .ref r0), (1, .int i1), (3, .int i3), (4, .int i4)] [] h) {k77 : Nat → Int32 → Int32 → Int32 → Int32 → Int32 → AH → Option (AH)} (hk77 : ∀ (r0 : Nat) (i1 : Int32) (i3 : Int32) (i4 : Int32) (i5 : Int32) (i6 : Int32) (h : AH), k77 r0 i1 i3 i4 i5 i6 h = some hr → V X G h0 (QV hr) 77 [(0, .ref r0), (1, .int i1), (3, .int i3), (4, .int i4), (5, .int i5), (6, .int i6)] [] h) (r0 : Nat) (i1 : Int32) (i3 : Int32) (i4 : Int32) (i5 : Int32) (i6 : Int32) (h : AH) (hf : f_X3_reckonHopes_142 k50 k57 k77 r0 i1 i3 i4 i5 i6 h = some hr) : V X G h0 (QV hr) 142 [(0, .ref r0), (1, .int i1), (3, .int i3), (4, .int i4), (5, .int i5), (6, .int i6)] [] h := by
  unfold f_X3_reckonHopes_142 at hf
  refine C.seg (pe := 145) (lv' := [(6, .int (i6 + 1)), (0, .ref r0), (1, .int i1), (3, .int i3), (4, .int i4), (5, .int i5)]) (st' := []) [(.iinc 6 1, 3, 1)] (by decide +kernel) rfl ?_
  refine C.goto (off := (-68)) (tgt := 77) (by decide +kernel) (by decide) ?_
  refine Vsub [1, 2, 3, 4, 5, 0] rfl ?_
  exact hk77 r0 i1 i3 i4 i5 (i6 + 1) h hf
def f_X3_reckonHopes_77 (k50 : Nat → Int32 → Int32 → AH → Option (AH)) (k57 : Nat → Int32 → Int32 → Int32 → AH → Option (AH)) : Nat → Nat → Int32 → Int32 → Int32 → Int32 → Int32 → AH → Option (AH)
  | 0, _, _, _, _, _, _, _ => none
  | n + 1, r0, i1, i3, i4, i5, i6, h =>
    (gA 3 h r0 1).bind fun a1 =>
    (gI 4 h a1 0).bind fun x2 =>
    if x2 ≤ i6 then
      (gA 3 h r0 7).bind fun a3 =>
      (sI 0 h a3 ((i3 * i1) + i4) i5).bind fun h4 =>
      k57 r0 i1 i3 (i4 + 1) h4
    else
      (gA 3 h r0 6).bind fun a5 =>
      (aI 0 h a5 ((i3 * 10) + i6)).bind fun x6 =>
      if (i4 >>> (i6 &&& 31)) &&& 1 = 0 then
        if x6 ≤ 0 then
          f_X3_reckonHopes_142 k50 k57 (f_X3_reckonHopes_77 k50 k57 n) r0 i1 i3 i4 i5 i6 h
        else
          b2 (f_X3_hopeFrom r0 (i3 + 1) (i4 ||| (1 <<< (i6 &&& 31))) h) fun x7 h8 =>
          lt (mxI i5 (x6 + x7) : Int32) fun x9 =>
          f_X3_reckonHopes_142 k50 k57 (f_X3_reckonHopes_77 k50 k57 n) r0 i1 i3 i4 x9 i6 h8
      else
        f_X3_reckonHopes_142 k50 k57 (f_X3_reckonHopes_77 k50 k57 n) r0 i1 i3 i4 i5 i6 h
set_option maxRecDepth 100000 in
set_option maxHeartbeats 4000000 in
theorem l_X3_reckonHopes_77 {X : MX} {l : Launch} {G : GX} {h0 : AH} {hr : AH} (C : Cx X G RX3 cX3_reckonHopes 8 none 1 40 h0) (C2 : Cy X l "reckonHopes" []) {k50 : Nat → Int32 → Int32 → AH → Option (AH)} (hk50 : ∀ (r0 : Nat) (i1 : Int32) (i3 : Int32) (h : AH), k50 r0 i1 i3 h = some hr → V X G h0 (QV hr) 50 [(0, .ref r0), (1, .int i1), (3, .int i3)] [] h) {k57 : Nat → Int32 → Int32 → Int32 → AH → Option (AH)} (hk57 : ∀ (r0 : Nat) (i1 : Int32) (i3 : Int32) (i4 : Int32) (h : AH), k57 r0 i1 i3 i4 h = some hr → V X G h0 (QV hr) 57 [(0, .ref r0), (1, .int i1), (3, .int i3), (4, .int i4)] [] h) : ∀ (n : Nat) (r0 : Nat) (i1 : Int32) (i3 : Int32) (i4 : Int32) (i5 : Int32) (i6 : Int32) (h : AH), f_X3_reckonHopes_77 k50 k57 n r0 i1 i3 i4 i5 i6 h = some hr → V X G h0 (QV hr) 77 [(0, .ref r0), (1, .int i1), (3, .int i3), (4, .int i4), (5, .int i5), (6, .int i6)] [] h := by
  intro n
  induction n with
  | zero => intro r0 i1 i3 i4 i5 i6 h hf; rw [f_X3_reckonHopes_77] at hf; cases hf
  | succ n ih =>
    intro r0 i1 i3 i4 i5 i6 h hf
    rw [f_X3_reckonHopes_77] at hf
    refine C.seg (pe := 80) (lv' := [(0, .ref r0), (1, .int i1), (3, .int i3), (4, .int i4), (5, .int i5), (6, .int i6)]) (st' := [.ref r0, .int i6]) [(.iload 6, 2, 0), (.aload_n 0, 1, 0)] (by decide +kernel) rfl ?_
    obtain ⟨a1, ga1, hf⟩ := Option.bind_eq_some_iff.mp hf
    refine C.rdA fr_292 ga1 (by decide +kernel) rfl ?_
    obtain ⟨x2, gx2, hf⟩ := Option.bind_eq_some_iff.mp hf
    refine C.rdI fr_188 gx2 (by decide +kernel) rfl ?_
    refine C.icmp_ge (off := 62) (tgt := 148) (pf := 89) (by decide +kernel) (by decide) rfl (fun c12 => ?_) (fun c12 => ?_)
    · replace hf := ifp c12 hf
      refine C.seg (pe := 149) (lv' := [(0, .ref r0), (1, .int i1), (3, .int i3), (4, .int i4), (5, .int i5), (6, .int i6)]) (st' := [.ref r0]) [(.aload_n 0, 1, 0)] (by decide +kernel) rfl ?_
      obtain ⟨a3, ga3, hf⟩ := Option.bind_eq_some_iff.mp hf
      refine C.rdA fr_298 ga3 (by decide +kernel) rfl ?_
      refine C.seg (pe := 160) (lv' := [(0, .ref r0), (1, .int i1), (3, .int i3), (4, .int i4), (5, .int i5), (6, .int i6)]) (st' := [.int i5, .int ((i3 * i1) + i4), .ref a3]) [(.iload_n 3, 1, 0), (.iload_n 1, 1, 0), (.imul, 1, 0), (.iload 4, 2, 0), (.iadd, 1, 0), (.iload 5, 2, 0)] (by decide +kernel) rfl ?_
      obtain ⟨h4, gh4, hf⟩ := Option.bind_eq_some_iff.mp hf
      refine C.ast gh4 (by decide +kernel) rfl ?_
      refine C.seg (pe := 164) (lv' := [(4, .int (i4 + 1)), (0, .ref r0), (1, .int i1), (3, .int i3), (5, .int i5), (6, .int i6)]) (st' := []) [(.iinc 4 1, 3, 1)] (by decide +kernel) rfl ?_
      refine C.goto (off := (-107)) (tgt := 57) (by decide +kernel) (by decide) ?_
      refine Vsub [1, 2, 3, 0] rfl ?_
      exact hk57 r0 i1 i3 (i4 + 1) h4 hf
    · replace hf := ifn c12 hf
      refine C.seg (pe := 90) (lv' := [(0, .ref r0), (1, .int i1), (3, .int i3), (4, .int i4), (5, .int i5), (6, .int i6)]) (st' := [.ref r0]) [(.aload_n 0, 1, 0)] (by decide +kernel) rfl ?_
      obtain ⟨a5, ga5, hf⟩ := Option.bind_eq_some_iff.mp hf
      refine C.rdA fr_297 ga5 (by decide +kernel) rfl ?_
      refine C.seg (pe := 100) (lv' := [(0, .ref r0), (1, .int i1), (3, .int i3), (4, .int i4), (5, .int i5), (6, .int i6)]) (st' := [.int ((i3 * 10) + i6), .ref a5]) [(.iload_n 3, 1, 0), (.bipush 10, 2, 10), (.imul, 1, 0), (.iload 6, 2, 0), (.iadd, 1, 0)] (by decide +kernel) rfl ?_
      obtain ⟨x6, gx6, hf⟩ := Option.bind_eq_some_iff.mp hf
      refine C.ald 0 rfl gx6 (by decide +kernel) rfl ?_
      refine C.seg (pe := 110) (lv' := [(7, .int x6), (0, .ref r0), (1, .int i1), (3, .int i3), (4, .int i4), (5, .int i5), (6, .int i6)]) (st' := [.int ((i4 >>> (i6 &&& 31)) &&& 1)]) [(.istore 7, 2, 0), (.iload 4, 2, 0), (.iload 6, 2, 0), (.ishr, 1, 0), (.iconst 1, 1, 1), (.iand, 1, 0)] (by decide +kernel) rfl ?_
      refine C.if_ne (off := 32) (tgt := 142) (pf := 113) (by decide +kernel) (by decide) rfl (fun c11 => ?_) (fun c11 => ?_)
      · replace hf := ifn c11 hf
        refine Vsub [1, 2, 3, 4, 5, 6] rfl ?_
        exact l_X3_reckonHopes_142 C C2 hk50 hk57 ih r0 i1 i3 i4 i5 i6 h hf
      · replace hf := ifp c11 hf
        refine C.seg (pe := 115) (lv' := [(7, .int x6), (0, .ref r0), (1, .int i1), (3, .int i3), (4, .int i4), (5, .int i5), (6, .int i6)]) (st' := [.int x6]) [(.iload 7, 2, 0)] (by decide +kernel) rfl ?_
        refine C.if_le (off := 27) (tgt := 142) (pf := 118) (by decide +kernel) (by decide) rfl (fun c10 => ?_) (fun c10 => ?_)
        · replace hf := ifp c10 hf
          refine Vsub [1, 2, 3, 4, 5, 6] rfl ?_
          exact l_X3_reckonHopes_142 C C2 hk50 hk57 ih r0 i1 i3 i4 i5 i6 h hf
        · replace hf := ifn c10 hf
          refine C.seg (pe := 133) (lv' := [(7, .int x6), (0, .ref r0), (1, .int i1), (3, .int i3), (4, .int i4), (5, .int i5), (6, .int i6)]) (st' := [.int (i4 ||| (1 <<< (i6 &&& 31))), .int (i3 + 1), .ref r0, .int x6, .int i5]) [(.iload 5, 2, 0), (.iload 7, 2, 0), (.aload_n 0, 1, 0), (.iload_n 3, 1, 0), (.iconst 1, 1, 1), (.iadd, 1, 0), (.iload 4, 2, 0), (.iconst 1, 1, 1), (.iload 6, 2, 0), (.ishl, 1, 0), (.ior, 1, 0)] (by decide +kernel) rfl ?_
          obtain ⟨x7, h8, gx7, hf⟩ := b2_some hf
          refine C.callVr C2 [.int (i3 + 1), .int (i4 ||| (1 <<< (i6 &&& 31)))] [.int x6, .int i5] mv_1355 rfl (o_X3_hopeFrom gx7) (w_X3_hopeFrom gx7) (by omega) (by omega) (Nat.le_of_ble_eq_true rfl) (by decide +kernel) rfl ?_
          refine C.seg (pe := 137) (lv' := [(7, .int x6), (0, .ref r0), (1, .int i1), (3, .int i3), (4, .int i4), (5, .int i5), (6, .int i6)]) (st' := [.int (x6 + x7), .int i5]) [(.iadd, 1, 0)] (by decide +kernel) rfl ?_
          refine C.mmax k_1359 k_636 k_137 k_637 (by omega) (by omega) (Nat.le_of_ble_eq_true rfl) (by decide +kernel) rfl ?_
          refine Vtopi (fun x9 ex9 => ?_)
          replace hf := lt_ap ex9 hf
          clear ex9
          refine C.seg (pe := 142) (lv' := [(5, .int x9), (7, .int x6), (0, .ref r0), (1, .int i1), (3, .int i3), (4, .int i4), (6, .int i6)]) (st' := []) [(.istore 5, 2, 0)] (by decide +kernel) rfl ?_
          refine Vsub [2, 3, 4, 5, 0, 6] rfl ?_
          exact l_X3_reckonHopes_142 C C2 hk50 hk57 ih r0 i1 i3 i4 x9 i6 h8 hf
def f_X3_reckonHopes_57 (k50 : Nat → Int32 → Int32 → AH → Option (AH)) : Nat → Nat → Int32 → Int32 → Int32 → AH → Option (AH)
  | 0, _, _, _, _, _ => none
  | n + 1, r0, i1, i3, i4, h =>
    if i1 ≤ i4 then
      k50 r0 i1 (i3 + (-1)) h
    else
      b2 (f_X3_hopeFrom r0 (i3 + 1) i4 h) fun x1 h2 =>
      f_X3_reckonHopes_77 k50 (f_X3_reckonHopes_57 k50 n) FU r0 i1 i3 i4 x1 0 h2
set_option maxRecDepth 100000 in
set_option maxHeartbeats 4000000 in
theorem l_X3_reckonHopes_57 {X : MX} {l : Launch} {G : GX} {h0 : AH} {hr : AH} (C : Cx X G RX3 cX3_reckonHopes 8 none 1 40 h0) (C2 : Cy X l "reckonHopes" []) {k50 : Nat → Int32 → Int32 → AH → Option (AH)} (hk50 : ∀ (r0 : Nat) (i1 : Int32) (i3 : Int32) (h : AH), k50 r0 i1 i3 h = some hr → V X G h0 (QV hr) 50 [(0, .ref r0), (1, .int i1), (3, .int i3)] [] h) : ∀ (n : Nat) (r0 : Nat) (i1 : Int32) (i3 : Int32) (i4 : Int32) (h : AH), f_X3_reckonHopes_57 k50 n r0 i1 i3 i4 h = some hr → V X G h0 (QV hr) 57 [(0, .ref r0), (1, .int i1), (3, .int i3), (4, .int i4)] [] h := by
  intro n
  induction n with
  | zero => intro r0 i1 i3 i4 h hf; rw [f_X3_reckonHopes_57] at hf; cases hf
  | succ n ih =>
    intro r0 i1 i3 i4 h hf
    rw [f_X3_reckonHopes_57] at hf
    refine C.seg (pe := 60) (lv' := [(0, .ref r0), (1, .int i1), (3, .int i3), (4, .int i4)]) (st' := [.int i1, .int i4]) [(.iload 4, 2, 0), (.iload_n 1, 1, 0)] (by decide +kernel) rfl ?_
    refine C.icmp_ge (off := 107) (tgt := 167) (pf := 63) (by decide +kernel) (by decide) rfl (fun c3 => ?_) (fun c3 => ?_)
    · replace hf := ifp c3 hf
      refine C.seg (pe := 170) (lv' := [(3, .int (i3 + (-1))), (0, .ref r0), (1, .int i1), (4, .int i4)]) (st' := []) [(.iinc 3 (-1), 3, (-1))] (by decide +kernel) rfl ?_
      refine C.goto (off := (-120)) (tgt := 50) (by decide +kernel) (by decide) ?_
      refine Vsub [1, 2, 0] rfl ?_
      exact hk50 r0 i1 (i3 + (-1)) h hf
    · replace hf := ifn c3 hf
      refine C.seg (pe := 69) (lv' := [(0, .ref r0), (1, .int i1), (3, .int i3), (4, .int i4)]) (st' := [.int i4, .int (i3 + 1), .ref r0]) [(.aload_n 0, 1, 0), (.iload_n 3, 1, 0), (.iconst 1, 1, 1), (.iadd, 1, 0), (.iload 4, 2, 0)] (by decide +kernel) rfl ?_
      obtain ⟨x1, h2, gx1, hf⟩ := b2_some hf
      refine C.callVr C2 [.int (i3 + 1), .int i4] [] mv_1355 rfl (o_X3_hopeFrom gx1) (w_X3_hopeFrom gx1) (by omega) (by omega) (Nat.le_of_ble_eq_true rfl) (by decide +kernel) rfl ?_
      refine C.seg (pe := 77) (lv' := [(6, .int 0), (5, .int x1), (0, .ref r0), (1, .int i1), (3, .int i3), (4, .int i4)]) (st' := []) [(.istore 5, 2, 0), (.iconst 0, 1, 0), (.istore 6, 2, 0)] (by decide +kernel) rfl ?_
      refine Vsub [2, 3, 4, 5, 1, 0] rfl ?_
      exact l_X3_reckonHopes_77 C C2 hk50 ih FU r0 i1 i3 i4 x1 0 h2 hf
def f_X3_reckonHopes_50 : Nat → Nat → Int32 → Int32 → AH → Option (AH)
  | 0, _, _, _, _ => none
  | n + 1, r0, i1, i3, h =>
    if i3 < 0 then
      some h
    else
      f_X3_reckonHopes_57 (f_X3_reckonHopes_50 n) FU r0 i1 i3 0 h
set_option maxRecDepth 100000 in
set_option maxHeartbeats 4000000 in
theorem l_X3_reckonHopes_50 {X : MX} {l : Launch} {G : GX} {h0 : AH} {hr : AH} (C : Cx X G RX3 cX3_reckonHopes 8 none 1 40 h0) (C2 : Cy X l "reckonHopes" []) : ∀ (n : Nat) (r0 : Nat) (i1 : Int32) (i3 : Int32) (h : AH), f_X3_reckonHopes_50 n r0 i1 i3 h = some hr → V X G h0 (QV hr) 50 [(0, .ref r0), (1, .int i1), (3, .int i3)] [] h := by
  intro n
  induction n with
  | zero => intro r0 i1 i3 h hf; rw [f_X3_reckonHopes_50] at hf; cases hf
  | succ n ih =>
    intro r0 i1 i3 h hf
    rw [f_X3_reckonHopes_50] at hf
    refine C.seg (pe := 51) (lv' := [(0, .ref r0), (1, .int i1), (3, .int i3)]) (st' := [.int i3]) [(.iload_n 3, 1, 0)] (by decide +kernel) rfl ?_
    refine C.if_lt (off := 122) (tgt := 173) (pf := 54) (by decide +kernel) (by decide) rfl (fun c1 => ?_) (fun c1 => ?_)
    · replace hf := ifp c1 hf
      cases hf
      exact C.retV rfl (by decide +kernel) ⟨rfl, rfl⟩
    · replace hf := ifn c1 hf
      refine C.seg (pe := 57) (lv' := [(4, .int 0), (0, .ref r0), (1, .int i1), (3, .int i3)]) (st' := []) [(.iconst 0, 1, 0), (.istore 4, 2, 0)] (by decide +kernel) rfl ?_
      refine Vsub [1, 2, 3, 0] rfl ?_
      exact l_X3_reckonHopes_57 C C2 ih FU r0 i1 i3 0 h hf
def f_X3_reckonHopes_35 (r0 : Nat) (i1 : Int32) (h : AH) : Option (AH) :=
  (gA 3 h r0 7).bind fun a1 =>
  (f_J7_fill_53178 a1 0 h).bind fun h2 =>
  (gI 3 h2 r0 5).bind fun x3 =>
  f_X3_reckonHopes_50 FU r0 i1 (x3 - 1) h2
set_option maxRecDepth 100000 in
set_option maxHeartbeats 4000000 in
theorem l_X3_reckonHopes_35 {X : MX} {l : Launch} {G : GX} {h0 : AH} {hr : AH} (C : Cx X G RX3 cX3_reckonHopes 8 none 1 40 h0) (C2 : Cy X l "reckonHopes" []) (r0 : Nat) (i1 : Int32) (h : AH) (hf : f_X3_reckonHopes_35 r0 i1 h = some hr) : V X G h0 (QV hr) 35 [(0, .ref r0), (1, .int i1)] [] h := by
  unfold f_X3_reckonHopes_35 at hf
  refine C.seg (pe := 36) (lv' := [(0, .ref r0), (1, .int i1)]) (st' := [.ref r0]) [(.aload_n 0, 1, 0)] (by decide +kernel) rfl ?_
  obtain ⟨a1, ga1, hf⟩ := Option.bind_eq_some_iff.mp hf
  refine C.rdA fr_298 ga1 (by decide +kernel) rfl ?_
  refine C.seg (pe := 40) (lv' := [(0, .ref r0), (1, .int i1)]) (st' := [.int 0, .ref a1]) [(.iconst 0, 1, 0)] (by decide +kernel) rfl ?_
  obtain ⟨h2, gh2, hf⟩ := Option.bind_eq_some_iff.mp hf
  refine C.callSr C2 [.ref a1, .int 0] [] ms_290 rfl (w_J7_fill_53178 gh2) (by omega) (by omega) (Nat.le_of_ble_eq_true rfl) (by decide +kernel) rfl ?_
  refine C.seg (pe := 44) (lv' := [(0, .ref r0), (1, .int i1)]) (st' := [.ref r0]) [(.aload_n 0, 1, 0)] (by decide +kernel) rfl ?_
  obtain ⟨x3, gx3, hf⟩ := Option.bind_eq_some_iff.mp hf
  refine C.rdI fr_296 gx3 (by decide +kernel) rfl ?_
  refine C.seg (pe := 50) (lv' := [(3, .int (x3 - 1)), (0, .ref r0), (1, .int i1)]) (st' := []) [(.iconst 1, 1, 1), (.isub, 1, 0), (.istore_n 3, 1, 0)] (by decide +kernel) rfl ?_
  refine Vsub [1, 2, 0] rfl ?_
  exact l_X3_reckonHopes_50 C C2 FU r0 i1 (x3 - 1) h2 hf
def f_X3_reckonHopes (a0 : Nat) (h : AH) : Option (AH) :=
  if isO 3 h a0 = true then
    (gA 3 h a0 1).bind fun a1 =>
    (gI 4 h a1 0).bind fun x2 =>
    lt (1 <<< (x2 &&& 31) : Int32) fun x3 =>
    (gI 3 h a0 5).bind fun x4 =>
    (gA 3 h a0 7).bind fun a5 =>
    (aN h a5).bind fun x6 =>
    if (x4 + 1) * x3 ≤ x6 then
      f_X3_reckonHopes_35 a0 x3 h
    else
      b2 (nwA 0 ((x4 + 1) * x3) h) fun a7 h8 =>
      (pQ 3 h8 a0 7 (some a7)).bind fun h9 =>
      f_X3_reckonHopes_35 a0 x3 h9
  else none
set_option maxRecDepth 100000 in
set_option maxHeartbeats 4000000 in
theorem w_X3_reckonHopes {l : Launch} {G : GX} {a0 : Nat} {h : AH} {hr : AH} (hf : f_X3_reckonHopes a0 h = some hr) : Ct l G yX3_reckonHopes 1 40 [.ref a0] h (QV hr) := by
  unfold f_X3_reckonHopes at hf
  obtain ⟨ho, hf⟩ := ifO hf
  refine Ct_of (own := RX3) (cc := cX3_reckonHopes) (nL := 8) (ret := none) rfl rfl k_1354 (Nat.le_of_ble_eq_true rfl) (fun X C2 C => ?_)
  show V X G h (QV hr) 0 [(0, .ref a0)] [] h
  refine C.seg (pe := 2) (lv' := [(0, .ref a0)]) (st' := [.ref a0, .int 1]) [(.iconst 1, 1, 1), (.aload_n 0, 1, 0)] (by decide +kernel) rfl ?_
  obtain ⟨a1, ga1, hf⟩ := Option.bind_eq_some_iff.mp hf
  refine C.rdA fr_292 ga1 (by decide +kernel) rfl ?_
  obtain ⟨x2, gx2, hf⟩ := Option.bind_eq_some_iff.mp hf
  refine C.rdI fr_188 gx2 (by decide +kernel) rfl ?_
  refine C.seg (pe := 9) (lv' := [(0, .ref a0)]) (st' := [.int (1 <<< (x2 &&& 31))]) [(.ishl, 1, 0)] (by decide +kernel) rfl ?_
  refine Vtopi (fun x3 ex3 => ?_)
  replace hf := lt_ap ex3 hf
  clear ex3
  refine C.seg (pe := 11) (lv' := [(1, .int x3), (0, .ref a0)]) (st' := [.ref a0]) [(.istore_n 1, 1, 0), (.aload_n 0, 1, 0)] (by decide +kernel) rfl ?_
  obtain ⟨x4, gx4, hf⟩ := Option.bind_eq_some_iff.mp hf
  refine C.rdI fr_296 gx4 (by decide +kernel) rfl ?_
  refine C.seg (pe := 20) (lv' := [(2, .int ((x4 + 1) * x3)), (1, .int x3), (0, .ref a0)]) (st' := [.ref a0]) [(.iconst 1, 1, 1), (.iadd, 1, 0), (.iload_n 1, 1, 0), (.imul, 1, 0), (.istore_n 2, 1, 0), (.aload_n 0, 1, 0)] (by decide +kernel) rfl ?_
  obtain ⟨a5, ga5, hf⟩ := Option.bind_eq_some_iff.mp hf
  refine C.rdA fr_298 ga5 (by decide +kernel) rfl ?_
  obtain ⟨x6, gx6, hf⟩ := Option.bind_eq_some_iff.mp hf
  refine C.alen gx6 (by decide +kernel) rfl ?_
  refine C.seg (pe := 25) (lv' := [(2, .int ((x4 + 1) * x3)), (1, .int x3), (0, .ref a0)]) (st' := [.int ((x4 + 1) * x3), .int x6]) [(.iload_n 2, 1, 0)] (by decide +kernel) rfl ?_
  refine C.icmp_ge (off := 10) (tgt := 35) (pf := 28) (by decide +kernel) (by decide) rfl (fun c10 => ?_) (fun c10 => ?_)
  · replace hf := ifp c10 hf
    refine Vsub [2, 1] rfl ?_
    exact l_X3_reckonHopes_35 C C2 a0 x3 h hf
  · replace hf := ifn c10 hf
    refine C.seg (pe := 30) (lv' := [(2, .int ((x4 + 1) * x3)), (1, .int x3), (0, .ref a0)]) (st' := [.int ((x4 + 1) * x3), .ref a0]) [(.aload_n 0, 1, 0), (.iload_n 2, 1, 0)] (by decide +kernel) rfl ?_
    obtain ⟨a7, h8, ga7, hf⟩ := b2_some hf
    refine C.newa0 k_180 ga7 (by decide +kernel) rfl ?_
    obtain ⟨h9, gh9, hf⟩ := Option.bind_eq_some_iff.mp hf
    refine C.putA fl_298 (Or.inr ⟨_, rfl⟩) gh9 (by decide +kernel) rfl ?_
    refine Vsub [2, 1] rfl ?_
    exact l_X3_reckonHopes_35 C C2 a0 x3 h9 hf
theorem o_X3_reckonHopes {a0 : Nat} {h : AH} {hr : AH} (hf : f_X3_reckonHopes a0 h = some hr) : isO 3 h a0 = true := by
  unfold f_X3_reckonHopes at hf
  exact (ifO hf).1
/-! WallHouse$Giver.isLikeTried(II)Z -/
def f_X3_isLikeTried_59 (k2 : Nat → Int32 → Int32 → Int32 → AH → Option (Int32 × AH)) (r0 : Nat) (i1 : Int32) (i2 : Int32) (i3 : Int32) (h : AH) : Option (Int32 × AH) :=
  k2 r0 i1 i2 (i3 + 1) h
set_option maxRecDepth 100000 in
set_option maxHeartbeats 4000000 in
theorem l_X3_isLikeTried_59 {X : MX} {l : Launch} {G : GX} {h0 : AH} {rr : Int32} {hr : AH} (C : Cx X G RX3 cX3_isLikeTried 4 (some .boolean) 3 65 h0) (C2 : Cy X l "isLikeTried" []) {k2 : Nat → Int32 → Int32 → Int32 → AH → Option (Int32 × AH)} (hk2 : ∀ (r0 : Nat) (i1 : Int32) (i2 : Int32) (i3 : Int32) (h : AH), k2 r0 i1 i2 i3 h = some (rr, hr) → V X G h0 (QI rr hr) 2 [(0, .ref r0), (1, .int i1), (2, .int i2), (3, .int i3)] [] h) (r0 : Nat) (i1 : Int32) (i2 : Int32) (i3 : Int32) (h : AH) (hf : f_X3_isLikeTried_59 k2 r0 i1 i2 i3 h = some (rr, hr)) : V X G h0 (QI rr hr) 59 [(0, .ref r0), (1, .int i1), (2, .int i2), (3, .int i3)] [] h := by
  unfold f_X3_isLikeTried_59 at hf
  refine C.seg (pe := 62) (lv' := [(3, .int (i3 + 1)), (0, .ref r0), (1, .int i1), (2, .int i2)]) (st' := []) [(.iinc 3 1, 3, 1)] (by decide +kernel) rfl ?_
  refine C.goto (off := (-60)) (tgt := 2) (by decide +kernel) (by decide) ?_
  refine Vsub [1, 2, 3, 0] rfl ?_
  exact hk2 r0 i1 i2 (i3 + 1) h hf
def f_X3_isLikeTried_2 : Nat → Nat → Int32 → Int32 → Int32 → AH → Option (Int32 × AH)
  | 0, _, _, _, _, _ => none
  | n + 1, r0, i1, i2, i3, h =>
    if i1 ≤ i3 then
      some (0, h)
    else
      (gA 3 h r0 8).bind fun a1 =>
      (aI 0 h a1 i3).bind fun x2 =>
      if x2 = (-2) then
        f_X3_isLikeTried_59 (f_X3_isLikeTried_2 n) r0 i1 i2 i3 h
      else
        (gA 3 h r0 1).bind fun a3 =>
        (gA 3 h r0 8).bind fun a4 =>
        (aI 0 h a4 i3).bind fun x5 =>
        b2 (f_X4_styleOf a3 x5 h) fun x6 h7 =>
        if x6 = i2 then
          (gA 3 h7 r0 0).bind fun a8 =>
          (gA 3 h7 r0 4).bind fun a9 =>
          (aI 0 h7 a9 i3).bind fun x10 =>
          (gA 3 h7 r0 4).bind fun a11 =>
          (aI 0 h7 a11 i1).bind fun x12 =>
          b2 (f_X9_areBeside a8 x10 x12 h7) fun x13 h14 =>
          if x13 = 0 then
            f_X3_isLikeTried_59 (f_X3_isLikeTried_2 n) r0 i1 i2 i3 h14
          else
            some (1, h14)
        else
          f_X3_isLikeTried_59 (f_X3_isLikeTried_2 n) r0 i1 i2 i3 h7
set_option maxRecDepth 100000 in
set_option maxHeartbeats 4000000 in
theorem l_X3_isLikeTried_2 {X : MX} {l : Launch} {G : GX} {h0 : AH} {rr : Int32} {hr : AH} (C : Cx X G RX3 cX3_isLikeTried 4 (some .boolean) 3 65 h0) (C2 : Cy X l "isLikeTried" []) : ∀ (n : Nat) (r0 : Nat) (i1 : Int32) (i2 : Int32) (i3 : Int32) (h : AH), f_X3_isLikeTried_2 n r0 i1 i2 i3 h = some (rr, hr) → V X G h0 (QI rr hr) 2 [(0, .ref r0), (1, .int i1), (2, .int i2), (3, .int i3)] [] h := by
  intro n
  induction n with
  | zero => intro r0 i1 i2 i3 h hf; rw [f_X3_isLikeTried_2] at hf; cases hf
  | succ n ih =>
    intro r0 i1 i2 i3 h hf
    rw [f_X3_isLikeTried_2] at hf
    refine C.seg (pe := 4) (lv' := [(0, .ref r0), (1, .int i1), (2, .int i2), (3, .int i3)]) (st' := [.int i1, .int i3]) [(.iload_n 3, 1, 0), (.iload_n 1, 1, 0)] (by decide +kernel) rfl ?_
    refine C.icmp_ge (off := 61) (tgt := 65) (pf := 7) (by decide +kernel) (by decide) rfl (fun c18 => ?_) (fun c18 => ?_)
    · replace hf := ifp c18 hf
      refine C.seg (pe := 66) (lv' := [(0, .ref r0), (1, .int i1), (2, .int i2), (3, .int i3)]) (st' := [.int 0]) [(.iconst 0, 1, 0)] (by decide +kernel) rfl ?_
      cases hf
      exact C.retZ rfl (by decide) (by decide +kernel) ⟨rfl, rfl⟩
    · replace hf := ifn c18 hf
      refine C.seg (pe := 8) (lv' := [(0, .ref r0), (1, .int i1), (2, .int i2), (3, .int i3)]) (st' := [.ref r0]) [(.aload_n 0, 1, 0)] (by decide +kernel) rfl ?_
      obtain ⟨a1, ga1, hf⟩ := Option.bind_eq_some_iff.mp hf
      refine C.rdA fr_299 ga1 (by decide +kernel) rfl ?_
      refine C.seg (pe := 12) (lv' := [(0, .ref r0), (1, .int i1), (2, .int i2), (3, .int i3)]) (st' := [.int i3, .ref a1]) [(.iload_n 3, 1, 0)] (by decide +kernel) rfl ?_
      obtain ⟨x2, gx2, hf⟩ := Option.bind_eq_some_iff.mp hf
      refine C.ald 0 rfl gx2 (by decide +kernel) rfl ?_
      refine C.seg (pe := 15) (lv' := [(0, .ref r0), (1, .int i1), (2, .int i2), (3, .int i3)]) (st' := [.int (-2), .int x2]) [(.bipush (-2), 2, (-2))] (by decide +kernel) rfl ?_
      refine C.icmp_eq (off := 44) (tgt := 59) (pf := 18) (by decide +kernel) (by decide) rfl (fun c17 => ?_) (fun c17 => ?_)
      · replace hf := ifp c17 hf
        exact l_X3_isLikeTried_59 C C2 ih r0 i1 i2 i3 h hf
      · replace hf := ifn c17 hf
        refine C.seg (pe := 19) (lv' := [(0, .ref r0), (1, .int i1), (2, .int i2), (3, .int i3)]) (st' := [.ref r0]) [(.aload_n 0, 1, 0)] (by decide +kernel) rfl ?_
        obtain ⟨a3, ga3, hf⟩ := Option.bind_eq_some_iff.mp hf
        refine C.rdA fr_292 ga3 (by decide +kernel) rfl ?_
        refine C.seg (pe := 23) (lv' := [(0, .ref r0), (1, .int i1), (2, .int i2), (3, .int i3)]) (st' := [.ref r0, .ref a3]) [(.aload_n 0, 1, 0)] (by decide +kernel) rfl ?_
        obtain ⟨a4, ga4, hf⟩ := Option.bind_eq_some_iff.mp hf
        refine C.rdA fr_299 ga4 (by decide +kernel) rfl ?_
        refine C.seg (pe := 27) (lv' := [(0, .ref r0), (1, .int i1), (2, .int i2), (3, .int i3)]) (st' := [.int i3, .ref a4, .ref a3]) [(.iload_n 3, 1, 0)] (by decide +kernel) rfl ?_
        obtain ⟨x5, gx5, hf⟩ := Option.bind_eq_some_iff.mp hf
        refine C.ald 0 rfl gx5 (by decide +kernel) rfl ?_
        obtain ⟨x6, h7, gx6, hf⟩ := b2_some hf
        refine C.callVr C2 [.int x5] [] mv_1319 rfl (o_X4_styleOf gx6) (w_X4_styleOf gx6) (by omega) (by omega) (Nat.le_of_ble_eq_true rfl) (by decide +kernel) rfl ?_
        refine C.seg (pe := 32) (lv' := [(0, .ref r0), (1, .int i1), (2, .int i2), (3, .int i3)]) (st' := [.int i2, .int x6]) [(.iload_n 2, 1, 0)] (by decide +kernel) rfl ?_
        refine C.icmp_ne (off := 27) (tgt := 59) (pf := 35) (by decide +kernel) (by decide) rfl (fun c16 => ?_) (fun c16 => ?_)
        · replace hf := ifn c16 hf
          exact l_X3_isLikeTried_59 C C2 ih r0 i1 i2 i3 h7 hf
        · replace hf := ifp c16 hf
          refine C.seg (pe := 36) (lv' := [(0, .ref r0), (1, .int i1), (2, .int i2), (3, .int i3)]) (st' := [.ref r0]) [(.aload_n 0, 1, 0)] (by decide +kernel) rfl ?_
          obtain ⟨a8, ga8, hf⟩ := Option.bind_eq_some_iff.mp hf
          refine C.rdA fr_291 ga8 (by decide +kernel) rfl ?_
          refine C.seg (pe := 40) (lv' := [(0, .ref r0), (1, .int i1), (2, .int i2), (3, .int i3)]) (st' := [.ref r0, .ref a8]) [(.aload_n 0, 1, 0)] (by decide +kernel) rfl ?_
          obtain ⟨a9, ga9, hf⟩ := Option.bind_eq_some_iff.mp hf
          refine C.rdA fr_295 ga9 (by decide +kernel) rfl ?_
          refine C.seg (pe := 44) (lv' := [(0, .ref r0), (1, .int i1), (2, .int i2), (3, .int i3)]) (st' := [.int i3, .ref a9, .ref a8]) [(.iload_n 3, 1, 0)] (by decide +kernel) rfl ?_
          obtain ⟨x10, gx10, hf⟩ := Option.bind_eq_some_iff.mp hf
          refine C.ald 0 rfl gx10 (by decide +kernel) rfl ?_
          refine C.seg (pe := 46) (lv' := [(0, .ref r0), (1, .int i1), (2, .int i2), (3, .int i3)]) (st' := [.ref r0, .int x10, .ref a8]) [(.aload_n 0, 1, 0)] (by decide +kernel) rfl ?_
          obtain ⟨a11, ga11, hf⟩ := Option.bind_eq_some_iff.mp hf
          refine C.rdA fr_295 ga11 (by decide +kernel) rfl ?_
          refine C.seg (pe := 50) (lv' := [(0, .ref r0), (1, .int i1), (2, .int i2), (3, .int i3)]) (st' := [.int i1, .ref a11, .int x10, .ref a8]) [(.iload_n 1, 1, 0)] (by decide +kernel) rfl ?_
          obtain ⟨x12, gx12, hf⟩ := Option.bind_eq_some_iff.mp hf
          refine C.ald 0 rfl gx12 (by decide +kernel) rfl ?_
          obtain ⟨x13, h14, gx13, hf⟩ := b2_some hf
          refine C.callVr C2 [.int x10, .int x12] [] mv_1327 rfl (o_X9_areBeside gx13) (w_X9_areBeside gx13) (by omega) (by omega) (Nat.le_of_ble_eq_true rfl) (by decide +kernel) rfl ?_
          refine C.if_eq (off := 5) (tgt := 59) (pf := 57) (by decide +kernel) (by decide) rfl (fun c15 => ?_) (fun c15 => ?_)
          · replace hf := ifp c15 hf
            exact l_X3_isLikeTried_59 C C2 ih r0 i1 i2 i3 h14 hf
          · replace hf := ifn c15 hf
            refine C.seg (pe := 58) (lv' := [(0, .ref r0), (1, .int i1), (2, .int i2), (3, .int i3)]) (st' := [.int 1]) [(.iconst 1, 1, 1)] (by decide +kernel) rfl ?_
            cases hf
            exact C.retZ rfl (by decide) (by decide +kernel) ⟨rfl, rfl⟩
def f_X3_isLikeTried (a0 : Nat) (p1 : Int32) (p2 : Int32) (h : AH) : Option (Int32 × AH) :=
  if isO 3 h a0 = true then
    f_X3_isLikeTried_2 FU a0 p1 p2 0 h
  else none
set_option maxRecDepth 100000 in
set_option maxHeartbeats 4000000 in
theorem w_X3_isLikeTried {l : Launch} {G : GX} {a0 : Nat} {p1 : Int32} {p2 : Int32} {h : AH} {rr : Int32} {hr : AH} (hf : f_X3_isLikeTried a0 p1 p2 h = some (rr, hr)) : Ct l G yX3_isLikeTried 3 65 [.ref a0, .int p1, .int p2] h (QI rr hr) := by
  unfold f_X3_isLikeTried at hf
  obtain ⟨ho, hf⟩ := ifO hf
  refine Ct_of (own := RX3) (cc := cX3_isLikeTried) (nL := 4) (ret := (some .boolean)) rfl rfl k_1368 (Nat.le_of_ble_eq_true rfl) (fun X C2 C => ?_)
  show V X G h (QI rr hr) 0 [(0, .ref a0), (1, .int p1), (2, .int p2)] [] h
  refine C.seg (pe := 2) (lv' := [(3, .int 0), (0, .ref a0), (1, .int p1), (2, .int p2)]) (st' := []) [(.iconst 0, 1, 0), (.istore_n 3, 1, 0)] (by decide +kernel) rfl ?_
  refine Vsub [1, 2, 3, 0] rfl ?_
  exact l_X3_isLikeTried_2 C C2 FU a0 p1 p2 0 h hf
theorem o_X3_isLikeTried {a0 : Nat} {p1 : Int32} {p2 : Int32} {h : AH} {rr : Int32} {hr : AH} (hf : f_X3_isLikeTried a0 p1 p2 h = some (rr, hr)) : isO 3 h a0 = true := by
  unfold f_X3_isLikeTried at hf
  exact (ifO hf).1
/-! WallHouse$Giver.tryFrom(III)V -/
def f_X3_tryFrom_142 (kX : Nat → Int32 → Int32 → Int32 → AH → Option (AH)) (k60 : Nat → Int32 → Int32 → Int32 → Int32 → AH → Option (AH)) (r0 : Nat) (i1 : Int32) (i2 : Int32) (i3 : Int32) (i4 : Int32) (h : AH) : Option (AH) :=
  k60 r0 i1 i2 i3 (i4 + 1) h
set_option maxRecDepth 100000 in
set_option maxHeartbeats 4000000 in
theorem l_X3_tryFrom_142 {X : MX} {l : Launch} {G : GX} {h0 : AH} {fT lT : Nat} {hr : AH} (C : Cx X G RX3 cX3_tryFrom 6 none (fT + 20) (lT + 400) h0) (C2 : Cy X l "tryFrom" []) {kX : Nat → Int32 → Int32 → Int32 → AH → Option (AH)} (hfT : 200 ≤ fT) (hlT : 4000 ≤ lT) (hkX : ∀ (b0 : Nat) (b1 : Int32) (b2 : Int32) (b3 : Int32) (h : AH) (hr : AH), kX b0 b1 b2 b3 h = some hr → Ct l G yX3_tryFrom fT lT [.ref b0, .int b1, .int b2, .int b3] h (QV hr)) (hoX : ∀ (b0 : Nat) (b1 : Int32) (b2 : Int32) (b3 : Int32) (h : AH) (hr : AH), kX b0 b1 b2 b3 h = some hr → isO 3 h b0 = true) {k60 : Nat → Int32 → Int32 → Int32 → Int32 → AH → Option (AH)} (hk60 : ∀ (r0 : Nat) (i1 : Int32) (i2 : Int32) (i3 : Int32) (i4 : Int32) (h : AH), k60 r0 i1 i2 i3 i4 h = some hr → V X G h0 (QV hr) 60 [(0, .ref r0), (1, .int i1), (2, .int i2), (3, .int i3), (4, .int i4)] [] h) (r0 : Nat) (i1 : Int32) (i2 : Int32) (i3 : Int32) (i4 : Int32) (h : AH) (hf : f_X3_tryFrom_142 kX k60 r0 i1 i2 i3 i4 h = some hr) : V X G h0 (QV hr) 142 [(0, .ref r0), (1, .int i1), (2, .int i2), (3, .int i3), (4, .int i4)] [] h := by
  unfold f_X3_tryFrom_142 at hf
  refine C.seg (pe := 145) (lv' := [(4, .int (i4 + 1)), (0, .ref r0), (1, .int i1), (2, .int i2), (3, .int i3)]) (st' := []) [(.iinc 4 1, 3, 1)] (by decide +kernel) rfl ?_
  refine C.goto (off := (-85)) (tgt := 60) (by decide +kernel) (by decide) ?_
  refine Vsub [1, 2, 3, 4, 0] rfl ?_
  exact hk60 r0 i1 i2 i3 (i4 + 1) h hf
def f_X3_tryFrom_60 (kX : Nat → Int32 → Int32 → Int32 → AH → Option (AH)) : Nat → Nat → Int32 → Int32 → Int32 → Int32 → AH → Option (AH)
  | 0, _, _, _, _, _, _ => none
  | n + 1, r0, i1, i2, i3, i4, h =>
    (gA 3 h r0 1).bind fun a1 =>
    (gI 4 h a1 0).bind fun x2 =>
    if x2 ≤ i4 then
      (gA 3 h r0 8).bind fun a3 =>
      (sI 0 h a3 i1 (-2)).bind fun h4 =>
      (kX r0 (i1 + 1) i2 i3 h4).bind fun h5 =>
      some h5
    else
      (gA 3 h r0 6).bind fun a6 =>
      (aI 0 h a6 ((i1 * 10) + i4)).bind fun x7 =>
      if (i3 >>> (i4 &&& 31)) &&& 1 = 0 then
        if x7 ≤ 0 then
          f_X3_tryFrom_142 kX (f_X3_tryFrom_60 kX n) r0 i1 i2 i3 i4 h
        else
          (gA 3 h r0 1).bind fun a8 =>
          b2 (f_X4_styleOf a8 i4 h) fun x9 h10 =>
          b2 (f_X3_isLikeTried r0 i1 x9 h10) fun x11 h12 =>
          if x11 = 0 then
            (gA 3 h12 r0 8).bind fun a13 =>
            (sI 0 h12 a13 i1 i4).bind fun h14 =>
            (kX r0 (i1 + 1) (i2 + x7) (i3 ||| (1 <<< (i4 &&& 31))) h14).bind fun h15 =>
            f_X3_tryFrom_142 kX (f_X3_tryFrom_60 kX n) r0 i1 i2 i3 i4 h15
          else
            f_X3_tryFrom_142 kX (f_X3_tryFrom_60 kX n) r0 i1 i2 i3 i4 h12
      else
        f_X3_tryFrom_142 kX (f_X3_tryFrom_60 kX n) r0 i1 i2 i3 i4 h
set_option maxRecDepth 100000 in
set_option maxHeartbeats 4000000 in
theorem l_X3_tryFrom_60 {X : MX} {l : Launch} {G : GX} {h0 : AH} {fT lT : Nat} {hr : AH} (C : Cx X G RX3 cX3_tryFrom 6 none (fT + 20) (lT + 400) h0) (C2 : Cy X l "tryFrom" []) {kX : Nat → Int32 → Int32 → Int32 → AH → Option (AH)} (hfT : 200 ≤ fT) (hlT : 4000 ≤ lT) (hkX : ∀ (b0 : Nat) (b1 : Int32) (b2 : Int32) (b3 : Int32) (h : AH) (hr : AH), kX b0 b1 b2 b3 h = some hr → Ct l G yX3_tryFrom fT lT [.ref b0, .int b1, .int b2, .int b3] h (QV hr)) (hoX : ∀ (b0 : Nat) (b1 : Int32) (b2 : Int32) (b3 : Int32) (h : AH) (hr : AH), kX b0 b1 b2 b3 h = some hr → isO 3 h b0 = true) : ∀ (n : Nat) (r0 : Nat) (i1 : Int32) (i2 : Int32) (i3 : Int32) (i4 : Int32) (h : AH), f_X3_tryFrom_60 kX n r0 i1 i2 i3 i4 h = some hr → V X G h0 (QV hr) 60 [(0, .ref r0), (1, .int i1), (2, .int i2), (3, .int i3), (4, .int i4)] [] h := by
  intro n
  induction n with
  | zero => intro r0 i1 i2 i3 i4 h hf; rw [f_X3_tryFrom_60] at hf; cases hf
  | succ n ih =>
    intro r0 i1 i2 i3 i4 h hf
    rw [f_X3_tryFrom_60] at hf
    refine C.seg (pe := 63) (lv' := [(0, .ref r0), (1, .int i1), (2, .int i2), (3, .int i3), (4, .int i4)]) (st' := [.ref r0, .int i4]) [(.iload 4, 2, 0), (.aload_n 0, 1, 0)] (by decide +kernel) rfl ?_
    obtain ⟨a1, ga1, hf⟩ := Option.bind_eq_some_iff.mp hf
    refine C.rdA fr_292 ga1 (by decide +kernel) rfl ?_
    obtain ⟨x2, gx2, hf⟩ := Option.bind_eq_some_iff.mp hf
    refine C.rdI fr_188 gx2 (by decide +kernel) rfl ?_
    refine C.icmp_ge (off := 79) (tgt := 148) (pf := 72) (by decide +kernel) (by decide) rfl (fun c19 => ?_) (fun c19 => ?_)
    · replace hf := ifp c19 hf
      refine C.seg (pe := 149) (lv' := [(0, .ref r0), (1, .int i1), (2, .int i2), (3, .int i3), (4, .int i4)]) (st' := [.ref r0]) [(.aload_n 0, 1, 0)] (by decide +kernel) rfl ?_
      obtain ⟨a3, ga3, hf⟩ := Option.bind_eq_some_iff.mp hf
      refine C.rdA fr_299 ga3 (by decide +kernel) rfl ?_
      refine C.seg (pe := 155) (lv' := [(0, .ref r0), (1, .int i1), (2, .int i2), (3, .int i3), (4, .int i4)]) (st' := [.int (-2), .int i1, .ref a3]) [(.iload_n 1, 1, 0), (.bipush (-2), 2, (-2))] (by decide +kernel) rfl ?_
      obtain ⟨h4, gh4, hf⟩ := Option.bind_eq_some_iff.mp hf
      refine C.ast gh4 (by decide +kernel) rfl ?_
      refine C.seg (pe := 162) (lv' := [(0, .ref r0), (1, .int i1), (2, .int i2), (3, .int i3), (4, .int i4)]) (st' := [.int i3, .int i2, .int (i1 + 1), .ref r0]) [(.aload_n 0, 1, 0), (.iload_n 1, 1, 0), (.iconst 1, 1, 1), (.iadd, 1, 0), (.iload_n 2, 1, 0), (.iload_n 3, 1, 0)] (by decide +kernel) rfl ?_
      obtain ⟨h5, gh5, hf⟩ := Option.bind_eq_some_iff.mp hf
      refine C.callVr C2 [.int (i1 + 1), .int i2, .int i3] [] mv_1360 rfl (hoX _ _ _ _ _ _ gh5) (hkX _ _ _ _ _ _ gh5) (by omega) (by omega) (Nat.le_of_ble_eq_true rfl) (by decide +kernel) rfl ?_
      cases hf
      exact C.retV rfl (by decide +kernel) ⟨rfl, rfl⟩
    · replace hf := ifn c19 hf
      refine C.seg (pe := 73) (lv' := [(0, .ref r0), (1, .int i1), (2, .int i2), (3, .int i3), (4, .int i4)]) (st' := [.ref r0]) [(.aload_n 0, 1, 0)] (by decide +kernel) rfl ?_
      obtain ⟨a6, ga6, hf⟩ := Option.bind_eq_some_iff.mp hf
      refine C.rdA fr_297 ga6 (by decide +kernel) rfl ?_
      refine C.seg (pe := 83) (lv' := [(0, .ref r0), (1, .int i1), (2, .int i2), (3, .int i3), (4, .int i4)]) (st' := [.int ((i1 * 10) + i4), .ref a6]) [(.iload_n 1, 1, 0), (.bipush 10, 2, 10), (.imul, 1, 0), (.iload 4, 2, 0), (.iadd, 1, 0)] (by decide +kernel) rfl ?_
      obtain ⟨x7, gx7, hf⟩ := Option.bind_eq_some_iff.mp hf
      refine C.ald 0 rfl gx7 (by decide +kernel) rfl ?_
      refine C.seg (pe := 92) (lv' := [(5, .int x7), (0, .ref r0), (1, .int i1), (2, .int i2), (3, .int i3), (4, .int i4)]) (st' := [.int ((i3 >>> (i4 &&& 31)) &&& 1)]) [(.istore 5, 2, 0), (.iload_n 3, 1, 0), (.iload 4, 2, 0), (.ishr, 1, 0), (.iconst 1, 1, 1), (.iand, 1, 0)] (by decide +kernel) rfl ?_
      refine C.if_ne (off := 50) (tgt := 142) (pf := 95) (by decide +kernel) (by decide) rfl (fun c18 => ?_) (fun c18 => ?_)
      · replace hf := ifn c18 hf
        refine Vsub [1, 2, 3, 4, 5] rfl ?_
        exact l_X3_tryFrom_142 C C2 hfT hlT hkX hoX ih r0 i1 i2 i3 i4 h hf
      · replace hf := ifp c18 hf
        refine C.seg (pe := 97) (lv' := [(5, .int x7), (0, .ref r0), (1, .int i1), (2, .int i2), (3, .int i3), (4, .int i4)]) (st' := [.int x7]) [(.iload 5, 2, 0)] (by decide +kernel) rfl ?_
        refine C.if_le (off := 45) (tgt := 142) (pf := 100) (by decide +kernel) (by decide) rfl (fun c17 => ?_) (fun c17 => ?_)
        · replace hf := ifp c17 hf
          refine Vsub [1, 2, 3, 4, 5] rfl ?_
          exact l_X3_tryFrom_142 C C2 hfT hlT hkX hoX ih r0 i1 i2 i3 i4 h hf
        · replace hf := ifn c17 hf
          refine C.seg (pe := 103) (lv' := [(5, .int x7), (0, .ref r0), (1, .int i1), (2, .int i2), (3, .int i3), (4, .int i4)]) (st' := [.ref r0, .int i1, .ref r0]) [(.aload_n 0, 1, 0), (.iload_n 1, 1, 0), (.aload_n 0, 1, 0)] (by decide +kernel) rfl ?_
          obtain ⟨a8, ga8, hf⟩ := Option.bind_eq_some_iff.mp hf
          refine C.rdA fr_292 ga8 (by decide +kernel) rfl ?_
          refine C.seg (pe := 108) (lv' := [(5, .int x7), (0, .ref r0), (1, .int i1), (2, .int i2), (3, .int i3), (4, .int i4)]) (st' := [.int i4, .ref a8, .int i1, .ref r0]) [(.iload 4, 2, 0)] (by decide +kernel) rfl ?_
          obtain ⟨x9, h10, gx9, hf⟩ := b2_some hf
          refine C.callVr C2 [.int i4] [.int i1, .ref r0] mv_1319 rfl (o_X4_styleOf gx9) (w_X4_styleOf gx9) (by omega) (by omega) (Nat.le_of_ble_eq_true rfl) (by decide +kernel) rfl ?_
          obtain ⟨x11, h12, gx11, hf⟩ := b2_some hf
          refine C.callVr C2 [.int i1, .int x9] [] mv_1365 rfl (o_X3_isLikeTried gx11) (w_X3_isLikeTried gx11) (by omega) (by omega) (Nat.le_of_ble_eq_true rfl) (by decide +kernel) rfl ?_
          refine C.if_ne (off := 28) (tgt := 142) (pf := 117) (by decide +kernel) (by decide) rfl (fun c16 => ?_) (fun c16 => ?_)
          · replace hf := ifn c16 hf
            refine Vsub [1, 2, 3, 4, 5] rfl ?_
            exact l_X3_tryFrom_142 C C2 hfT hlT hkX hoX ih r0 i1 i2 i3 i4 h12 hf
          · replace hf := ifp c16 hf
            refine C.seg (pe := 118) (lv' := [(5, .int x7), (0, .ref r0), (1, .int i1), (2, .int i2), (3, .int i3), (4, .int i4)]) (st' := [.ref r0]) [(.aload_n 0, 1, 0)] (by decide +kernel) rfl ?_
            obtain ⟨a13, ga13, hf⟩ := Option.bind_eq_some_iff.mp hf
            refine C.rdA fr_299 ga13 (by decide +kernel) rfl ?_
            refine C.seg (pe := 124) (lv' := [(5, .int x7), (0, .ref r0), (1, .int i1), (2, .int i2), (3, .int i3), (4, .int i4)]) (st' := [.int i4, .int i1, .ref a13]) [(.iload_n 1, 1, 0), (.iload 4, 2, 0)] (by decide +kernel) rfl ?_
            obtain ⟨h14, gh14, hf⟩ := Option.bind_eq_some_iff.mp hf
            refine C.ast gh14 (by decide +kernel) rfl ?_
            refine C.seg (pe := 139) (lv' := [(5, .int x7), (0, .ref r0), (1, .int i1), (2, .int i2), (3, .int i3), (4, .int i4)]) (st' := [.int (i3 ||| (1 <<< (i4 &&& 31))), .int (i2 + x7), .int (i1 + 1), .ref r0]) [(.aload_n 0, 1, 0), (.iload_n 1, 1, 0), (.iconst 1, 1, 1), (.iadd, 1, 0), (.iload_n 2, 1, 0), (.iload 5, 2, 0), (.iadd, 1, 0), (.iload_n 3, 1, 0), (.iconst 1, 1, 1), (.iload 4, 2, 0), (.ishl, 1, 0), (.ior, 1, 0)] (by decide +kernel) rfl ?_
            obtain ⟨h15, gh15, hf⟩ := Option.bind_eq_some_iff.mp hf
            refine C.callVr C2 [.int (i1 + 1), .int (i2 + x7), .int (i3 ||| (1 <<< (i4 &&& 31)))] [] mv_1360 rfl (hoX _ _ _ _ _ _ gh15) (hkX _ _ _ _ _ _ gh15) (by omega) (by omega) (Nat.le_of_ble_eq_true rfl) (by decide +kernel) rfl ?_
            refine Vsub [1, 2, 3, 4, 5] rfl ?_
            exact l_X3_tryFrom_142 C C2 hfT hlT hkX hoX ih r0 i1 i2 i3 i4 h15 hf
def f_X3_tryFrom_27 (kX : Nat → Int32 → Int32 → Int32 → AH → Option (AH)) (h : AH) : Option (AH) :=
  some h
set_option maxRecDepth 100000 in
set_option maxHeartbeats 4000000 in
theorem l_X3_tryFrom_27 {X : MX} {l : Launch} {G : GX} {h0 : AH} {fT lT : Nat} {hr : AH} (C : Cx X G RX3 cX3_tryFrom 6 none (fT + 20) (lT + 400) h0) (C2 : Cy X l "tryFrom" []) {kX : Nat → Int32 → Int32 → Int32 → AH → Option (AH)} (hfT : 200 ≤ fT) (hlT : 4000 ≤ lT) (hkX : ∀ (b0 : Nat) (b1 : Int32) (b2 : Int32) (b3 : Int32) (h : AH) (hr : AH), kX b0 b1 b2 b3 h = some hr → Ct l G yX3_tryFrom fT lT [.ref b0, .int b1, .int b2, .int b3] h (QV hr)) (hoX : ∀ (b0 : Nat) (b1 : Int32) (b2 : Int32) (b3 : Int32) (h : AH) (hr : AH), kX b0 b1 b2 b3 h = some hr → isO 3 h b0 = true) (h : AH) (hf : f_X3_tryFrom_27 kX h = some hr) : V X G h0 (QV hr) 27 [] [] h := by
  unfold f_X3_tryFrom_27 at hf
  cases hf
  exact C.retV rfl (by decide +kernel) ⟨rfl, rfl⟩
def f_X3_tryFrom_b (kX : Nat → Int32 → Int32 → Int32 → AH → Option (AH)) (a0 : Nat) (p1 : Int32) (p2 : Int32) (p3 : Int32) (h : AH) : Option (AH) :=
  if isO 3 h a0 = true then
    if p1 < 0 then
      f_X3_tryFrom_27 kX h
    else
      (gI 3 h a0 5).bind fun x1 =>
      if x1 < p1 then
        f_X3_tryFrom_27 kX h
      else
        b2 (f_X3_hopeFrom a0 p1 p3 h) fun x2 h3 =>
        (gI 3 h3 a0 10).bind fun x4 =>
        if x4 < p2 + x2 then
          (gI 3 h3 a0 5).bind fun x5 =>
          if p1 = x5 then
            (pI 3 h3 a0 10 p2).bind fun h6 =>
            (gA 3 h6 a0 8).bind fun a7 =>
            (gA 3 h6 a0 9).bind fun a8 =>
            (cpI 0 h6 a7 0 a8 0 6).bind fun h9 =>
            some h9
          else
            f_X3_tryFrom_60 kX FU a0 p1 p2 p3 0 h3
        else
          f_X3_tryFrom_27 kX h3
  else none
def f_X3_tryFrom : Nat → Nat → Int32 → Int32 → Int32 → AH → Option (AH)
  | 0, _, _, _, _, _ => none
  | d + 1, a0, p1, p2, p3, h => f_X3_tryFrom_b (f_X3_tryFrom d) a0 p1 p2 p3 h
set_option maxRecDepth 100000 in
set_option maxHeartbeats 4000000 in
theorem w_X3_tryFrom_b {l : Launch} {G : GX} {fT lT : Nat} {kX : Nat → Int32 → Int32 → Int32 → AH → Option (AH)} (hfT : 200 ≤ fT) (hlT : 4000 ≤ lT) (hkX : ∀ (b0 : Nat) (b1 : Int32) (b2 : Int32) (b3 : Int32) (h : AH) (hr : AH), kX b0 b1 b2 b3 h = some hr → Ct l G yX3_tryFrom fT lT [.ref b0, .int b1, .int b2, .int b3] h (QV hr)) (hoX : ∀ (b0 : Nat) (b1 : Int32) (b2 : Int32) (b3 : Int32) (h : AH) (hr : AH), kX b0 b1 b2 b3 h = some hr → isO 3 h b0 = true)  {a0 : Nat} {p1 : Int32} {p2 : Int32} {p3 : Int32} {h : AH} {hr : AH} (hf : f_X3_tryFrom_b kX a0 p1 p2 p3 h = some hr) : Ct l G yX3_tryFrom (fT + 20) (lT + 400) [.ref a0, .int p1, .int p2, .int p3] h (QV hr) := by
  unfold f_X3_tryFrom_b at hf
  obtain ⟨ho, hf⟩ := ifO hf
  refine Ct_of (own := RX3) (cc := cX3_tryFrom) (nL := 6) (ret := none) rfl rfl k_1363 (Nat.le_of_ble_eq_true rfl) (fun X C2 C => ?_)
  show V X G h (QV hr) 0 [(0, .ref a0), (1, .int p1), (2, .int p2), (3, .int p3)] [] h
  refine C.seg (pe := 1) (lv' := [(0, .ref a0), (1, .int p1), (2, .int p2), (3, .int p3)]) (st' := [.int p1]) [(.iload_n 1, 1, 0)] (by decide +kernel) rfl ?_
  refine C.if_lt (off := 26) (tgt := 27) (pf := 4) (by decide +kernel) (by decide) rfl (fun c13 => ?_) (fun c13 => ?_)
  · replace hf := ifp c13 hf
    refine Vsub [] rfl ?_
    exact l_X3_tryFrom_27 C C2 hfT hlT hkX hoX h hf
  · replace hf := ifn c13 hf
    refine C.seg (pe := 6) (lv' := [(0, .ref a0), (1, .int p1), (2, .int p2), (3, .int p3)]) (st' := [.ref a0, .int p1]) [(.iload_n 1, 1, 0), (.aload_n 0, 1, 0)] (by decide +kernel) rfl ?_
    obtain ⟨x1, gx1, hf⟩ := Option.bind_eq_some_iff.mp hf
    refine C.rdI fr_296 gx1 (by decide +kernel) rfl ?_
    refine C.icmp_gt (off := 18) (tgt := 27) (pf := 12) (by decide +kernel) (by decide) rfl (fun c12 => ?_) (fun c12 => ?_)
    · replace hf := ifp c12 hf
      refine Vsub [] rfl ?_
      exact l_X3_tryFrom_27 C C2 hfT hlT hkX hoX h hf
    · replace hf := ifn c12 hf
      refine C.seg (pe := 16) (lv' := [(0, .ref a0), (1, .int p1), (2, .int p2), (3, .int p3)]) (st' := [.int p3, .int p1, .ref a0, .int p2]) [(.iload_n 2, 1, 0), (.aload_n 0, 1, 0), (.iload_n 1, 1, 0), (.iload_n 3, 1, 0)] (by decide +kernel) rfl ?_
      obtain ⟨x2, h3, gx2, hf⟩ := b2_some hf
      refine C.callVr C2 [.int p1, .int p3] [.int p2] mv_1355 rfl (o_X3_hopeFrom gx2) (w_X3_hopeFrom gx2) (by omega) (by omega) (Nat.le_of_ble_eq_true rfl) (by decide +kernel) rfl ?_
      refine C.seg (pe := 21) (lv' := [(0, .ref a0), (1, .int p1), (2, .int p2), (3, .int p3)]) (st' := [.ref a0, .int (p2 + x2)]) [(.iadd, 1, 0), (.aload_n 0, 1, 0)] (by decide +kernel) rfl ?_
      obtain ⟨x4, gx4, hf⟩ := Option.bind_eq_some_iff.mp hf
      refine C.rdI fr_301 gx4 (by decide +kernel) rfl ?_
      refine C.icmp_gt (off := 4) (tgt := 28) (pf := 27) (by decide +kernel) (by decide) rfl (fun c11 => ?_) (fun c11 => ?_)
      · replace hf := ifp c11 hf
        refine C.seg (pe := 30) (lv' := [(0, .ref a0), (1, .int p1), (2, .int p2), (3, .int p3)]) (st' := [.ref a0, .int p1]) [(.iload_n 1, 1, 0), (.aload_n 0, 1, 0)] (by decide +kernel) rfl ?_
        obtain ⟨x5, gx5, hf⟩ := Option.bind_eq_some_iff.mp hf
        refine C.rdI fr_296 gx5 (by decide +kernel) rfl ?_
        refine C.icmp_ne (off := 24) (tgt := 57) (pf := 36) (by decide +kernel) (by decide) rfl (fun c10 => ?_) (fun c10 => ?_)
        · replace hf := ifn c10 hf
          refine C.seg (pe := 60) (lv' := [(4, .int 0), (0, .ref a0), (1, .int p1), (2, .int p2), (3, .int p3)]) (st' := []) [(.iconst 0, 1, 0), (.istore 4, 2, 0)] (by decide +kernel) rfl ?_
          refine Vsub [1, 2, 3, 4, 0] rfl ?_
          exact l_X3_tryFrom_60 C C2 hfT hlT hkX hoX FU a0 p1 p2 p3 0 h3 hf
        · replace hf := ifp c10 hf
          refine C.seg (pe := 38) (lv' := [(0, .ref a0), (1, .int p1), (2, .int p2), (3, .int p3)]) (st' := [.int p2, .ref a0]) [(.aload_n 0, 1, 0), (.iload_n 2, 1, 0)] (by decide +kernel) rfl ?_
          obtain ⟨h6, gh6, hf⟩ := Option.bind_eq_some_iff.mp hf
          refine C.putI fl_301 gh6 (by decide +kernel) rfl ?_
          refine C.seg (pe := 42) (lv' := [(0, .ref a0), (1, .int p1), (2, .int p2), (3, .int p3)]) (st' := [.ref a0]) [(.aload_n 0, 1, 0)] (by decide +kernel) rfl ?_
          obtain ⟨a7, ga7, hf⟩ := Option.bind_eq_some_iff.mp hf
          refine C.rdA fr_299 ga7 (by decide +kernel) rfl ?_
          refine C.seg (pe := 47) (lv' := [(0, .ref a0), (1, .int p1), (2, .int p2), (3, .int p3)]) (st' := [.ref a0, .int 0, .ref a7]) [(.iconst 0, 1, 0), (.aload_n 0, 1, 0)] (by decide +kernel) rfl ?_
          obtain ⟨a8, ga8, hf⟩ := Option.bind_eq_some_iff.mp hf
          refine C.rdA fr_300 ga8 (by decide +kernel) rfl ?_
          refine C.seg (pe := 53) (lv' := [(0, .ref a0), (1, .int p1), (2, .int p2), (3, .int p3)]) (st' := [.int 6, .int 0, .ref a8, .int 0, .ref a7]) [(.iconst 0, 1, 0), (.bipush 6, 2, 6)] (by decide +kernel) rfl ?_
          obtain ⟨h9, gh9, hf⟩ := Option.bind_eq_some_iff.mp hf
          refine C.copyI 0 (by decide) k_1364 k_1073 k_1072 k_143 (by omega) (by first | decide | exact Nat.le_trans (by decide : _ ≤ 400) (Nat.le_add_left _ _)) (Nat.le_of_ble_eq_true rfl) gh9 (by decide +kernel) rfl ?_
          cases hf
          exact C.retV rfl (by decide +kernel) ⟨rfl, rfl⟩
      · replace hf := ifn c11 hf
        refine Vsub [] rfl ?_
        exact l_X3_tryFrom_27 C C2 hfT hlT hkX hoX h3 hf
theorem o_X3_tryFrom {d : Nat} {a0 : Nat} {p1 : Int32} {p2 : Int32} {p3 : Int32} {h : AH} {hr : AH} (hf : f_X3_tryFrom d a0 p1 p2 p3 h = some hr) : isO 3 h a0 = true := by
  cases d with
  | zero => rw [f_X3_tryFrom] at hf; cases hf
  | succ d =>
    rw [f_X3_tryFrom, f_X3_tryFrom_b] at hf
    exact (ifO hf).1
theorem w_X3_tryFrom {l : Launch} {G : GX} (d : Nat) : ∀ {a0 : Nat} {p1 : Int32} {p2 : Int32} {p3 : Int32} {h : AH} {hr : AH}, f_X3_tryFrom d a0 p1 p2 p3 h = some hr → Ct l G yX3_tryFrom (200 + 20 * d) (4000 + 400 * d) [.ref a0, .int p1, .int p2, .int p3] h (QV hr) := by
  induction d with
  | zero => intro a0 p1 p2 p3 h hr hf; rw [f_X3_tryFrom] at hf; cases hf
  | succ d ih =>
    intro a0 p1 p2 p3 h hr hf
    rw [f_X3_tryFrom] at hf
    have q := w_X3_tryFrom_b (fT := 200 + 20 * d) (lT := 4000 + 400 * d) (by omega) (by omega) (fun b0 b1 b2 b3 h hr g => ih g) (fun b0 b1 b2 b3 h hr g => o_X3_tryFrom g) hf
    rw [show 200 + 20 * (d + 1) = 200 + 20 * d + 20 by omega, show 4000 + 400 * (d + 1) = 4000 + 400 * d + 400 by omega]
    exact q
/-! WallHouse$Giver.giveAll(I)I -/
def f_X3_giveAll_137 (k97 : Nat → Int32 → AH → Option (Int32 × AH)) (r0 : Nat) (i2 : Int32) (h : AH) : Option (Int32 × AH) :=
  k97 r0 (i2 + 1) h
set_option maxRecDepth 100000 in
set_option maxHeartbeats 4000000 in
theorem l_X3_giveAll_137 {X : MX} {l : Launch} {G : GX} {h0 : AH} {rr : Int32} {hr : AH} (C : Cx X G RX3 cX3_giveAll 4 (some .int) 361 7225 h0) (C2 : Cy X l "giveAll" []) {k97 : Nat → Int32 → AH → Option (Int32 × AH)} (hk97 : ∀ (r0 : Nat) (i2 : Int32) (h : AH), k97 r0 i2 h = some (rr, hr) → V X G h0 (QI rr hr) 97 [(0, .ref r0), (2, .int i2)] [] h) (r0 : Nat) (i2 : Int32) (h : AH) (hf : f_X3_giveAll_137 k97 r0 i2 h = some (rr, hr)) : V X G h0 (QI rr hr) 137 [(0, .ref r0), (2, .int i2)] [] h := by
  unfold f_X3_giveAll_137 at hf
  refine C.seg (pe := 140) (lv' := [(2, .int (i2 + 1)), (0, .ref r0)]) (st' := []) [(.iinc 2 1, 3, 1)] (by decide +kernel) rfl ?_
  refine C.goto (off := (-43)) (tgt := 97) (by decide +kernel) (by decide) ?_
  refine Vsub [1, 0] rfl ?_
  exact hk97 r0 (i2 + 1) h hf
def f_X3_giveAll_97 : Nat → Nat → Int32 → AH → Option (Int32 × AH)
  | 0, _, _, _ => none
  | n + 1, r0, i2, h =>
    (gI 3 h r0 5).bind fun x1 =>
    if x1 ≤ i2 then
      (gI 3 h r0 10).bind fun x2 =>
      some (((x2 + 64) - 1) / 64, h)
    else
      (gA 3 h r0 4).bind fun a3 =>
      (aI 0 h a3 i2).bind fun x4 =>
      if x4 < 0 then
        f_X3_giveAll_137 (f_X3_giveAll_97 n) r0 i2 h
      else
        (gA 3 h r0 11).bind fun a5 =>
        (aN h a5).bind fun x6 =>
        if x6 ≤ x4 then
          f_X3_giveAll_137 (f_X3_giveAll_97 n) r0 i2 h
        else
          (gA 3 h r0 11).bind fun a7 =>
          (gA 3 h r0 9).bind fun a8 =>
          (aI 0 h a8 i2).bind fun x9 =>
          (sI 0 h a7 x4 x9).bind fun h10 =>
          f_X3_giveAll_137 (f_X3_giveAll_97 n) r0 i2 h10
set_option maxRecDepth 100000 in
set_option maxHeartbeats 4000000 in
theorem l_X3_giveAll_97 {X : MX} {l : Launch} {G : GX} {h0 : AH} {rr : Int32} {hr : AH} (C : Cx X G RX3 cX3_giveAll 4 (some .int) 361 7225 h0) (C2 : Cy X l "giveAll" []) : ∀ (n : Nat) (r0 : Nat) (i2 : Int32) (h : AH), f_X3_giveAll_97 n r0 i2 h = some (rr, hr) → V X G h0 (QI rr hr) 97 [(0, .ref r0), (2, .int i2)] [] h := by
  intro n
  induction n with
  | zero => intro r0 i2 h hf; rw [f_X3_giveAll_97] at hf; cases hf
  | succ n ih =>
    intro r0 i2 h hf
    rw [f_X3_giveAll_97] at hf
    refine C.seg (pe := 99) (lv' := [(0, .ref r0), (2, .int i2)]) (st' := [.ref r0, .int i2]) [(.iload_n 2, 1, 0), (.aload_n 0, 1, 0)] (by decide +kernel) rfl ?_
    obtain ⟨x1, gx1, hf⟩ := Option.bind_eq_some_iff.mp hf
    refine C.rdI fr_296 gx1 (by decide +kernel) rfl ?_
    refine C.icmp_ge (off := 41) (tgt := 143) (pf := 105) (by decide +kernel) (by decide) rfl (fun c13 => ?_) (fun c13 => ?_)
    · replace hf := ifp c13 hf
      refine C.seg (pe := 144) (lv' := [(0, .ref r0), (2, .int i2)]) (st' := [.ref r0]) [(.aload_n 0, 1, 0)] (by decide +kernel) rfl ?_
      obtain ⟨x2, gx2, hf⟩ := Option.bind_eq_some_iff.mp hf
      refine C.rdI fr_301 gx2 (by decide +kernel) rfl ?_
      refine C.seg (pe := 154) (lv' := [(0, .ref r0), (2, .int i2)]) (st' := [.int 64, .int ((x2 + 64) - 1)]) [(.bipush 64, 2, 64), (.iadd, 1, 0), (.iconst 1, 1, 1), (.isub, 1, 0), (.bipush 64, 2, 64)] (by decide +kernel) rfl ?_
      refine C.idiv (by decide +kernel) rfl (by decide) ?_
      cases hf
      exact C.retI rfl (by decide +kernel) ⟨rfl, rfl⟩
    · replace hf := ifn c13 hf
      refine C.seg (pe := 106) (lv' := [(0, .ref r0), (2, .int i2)]) (st' := [.ref r0]) [(.aload_n 0, 1, 0)] (by decide +kernel) rfl ?_
      obtain ⟨a3, ga3, hf⟩ := Option.bind_eq_some_iff.mp hf
      refine C.rdA fr_295 ga3 (by decide +kernel) rfl ?_
      refine C.seg (pe := 110) (lv' := [(0, .ref r0), (2, .int i2)]) (st' := [.int i2, .ref a3]) [(.iload_n 2, 1, 0)] (by decide +kernel) rfl ?_
      obtain ⟨x4, gx4, hf⟩ := Option.bind_eq_some_iff.mp hf
      refine C.ald 0 rfl gx4 (by decide +kernel) rfl ?_
      refine C.seg (pe := 113) (lv' := [(3, .int x4), (0, .ref r0), (2, .int i2)]) (st' := [.int x4]) [(.istore_n 3, 1, 0), (.iload_n 3, 1, 0)] (by decide +kernel) rfl ?_
      refine C.if_lt (off := 24) (tgt := 137) (pf := 116) (by decide +kernel) (by decide) rfl (fun c12 => ?_) (fun c12 => ?_)
      · replace hf := ifp c12 hf
        refine Vsub [1, 2] rfl ?_
        exact l_X3_giveAll_137 C C2 ih r0 i2 h hf
      · replace hf := ifn c12 hf
        refine C.seg (pe := 118) (lv' := [(3, .int x4), (0, .ref r0), (2, .int i2)]) (st' := [.ref r0, .int x4]) [(.iload_n 3, 1, 0), (.aload_n 0, 1, 0)] (by decide +kernel) rfl ?_
        obtain ⟨a5, ga5, hf⟩ := Option.bind_eq_some_iff.mp hf
        refine C.rdA fr_302 ga5 (by decide +kernel) rfl ?_
        obtain ⟨x6, gx6, hf⟩ := Option.bind_eq_some_iff.mp hf
        refine C.alen gx6 (by decide +kernel) rfl ?_
        refine C.icmp_ge (off := 15) (tgt := 137) (pf := 125) (by decide +kernel) (by decide) rfl (fun c11 => ?_) (fun c11 => ?_)
        · replace hf := ifp c11 hf
          refine Vsub [1, 2] rfl ?_
          exact l_X3_giveAll_137 C C2 ih r0 i2 h hf
        · replace hf := ifn c11 hf
          refine C.seg (pe := 126) (lv' := [(3, .int x4), (0, .ref r0), (2, .int i2)]) (st' := [.ref r0]) [(.aload_n 0, 1, 0)] (by decide +kernel) rfl ?_
          obtain ⟨a7, ga7, hf⟩ := Option.bind_eq_some_iff.mp hf
          refine C.rdA fr_302 ga7 (by decide +kernel) rfl ?_
          refine C.seg (pe := 131) (lv' := [(3, .int x4), (0, .ref r0), (2, .int i2)]) (st' := [.ref r0, .int x4, .ref a7]) [(.iload_n 3, 1, 0), (.aload_n 0, 1, 0)] (by decide +kernel) rfl ?_
          obtain ⟨a8, ga8, hf⟩ := Option.bind_eq_some_iff.mp hf
          refine C.rdA fr_300 ga8 (by decide +kernel) rfl ?_
          refine C.seg (pe := 135) (lv' := [(3, .int x4), (0, .ref r0), (2, .int i2)]) (st' := [.int i2, .ref a8, .int x4, .ref a7]) [(.iload_n 2, 1, 0)] (by decide +kernel) rfl ?_
          obtain ⟨x9, gx9, hf⟩ := Option.bind_eq_some_iff.mp hf
          refine C.ald 0 rfl gx9 (by decide +kernel) rfl ?_
          obtain ⟨h10, gh10, hf⟩ := Option.bind_eq_some_iff.mp hf
          refine C.ast gh10 (by decide +kernel) rfl ?_
          refine Vsub [1, 2] rfl ?_
          exact l_X3_giveAll_137 C C2 ih r0 i2 h10 hf
def f_X3_giveAll_67 (r0 : Nat) (h : AH) : Option (Int32 × AH) :=
  (f_X3_reckonWorths r0 h).bind fun h1 =>
  (f_X3_reckonHopes r0 h1).bind fun h2 =>
  (pI 3 h2 r0 10 (-1)).bind fun h3 =>
  (f_X3_tryFrom 8 r0 0 0 0 h3).bind fun h4 =>
  (gA 3 h4 r0 11).bind fun a5 =>
  (f_J7_fill_53178 a5 (-1) h4).bind fun h6 =>
  f_X3_giveAll_97 FU r0 0 h6
set_option maxRecDepth 100000 in
set_option maxHeartbeats 4000000 in
theorem l_X3_giveAll_67 {X : MX} {l : Launch} {G : GX} {h0 : AH} {rr : Int32} {hr : AH} (C : Cx X G RX3 cX3_giveAll 4 (some .int) 361 7225 h0) (C2 : Cy X l "giveAll" []) (r0 : Nat) (h : AH) (hf : f_X3_giveAll_67 r0 h = some (rr, hr)) : V X G h0 (QI rr hr) 67 [(0, .ref r0)] [] h := by
  unfold f_X3_giveAll_67 at hf
  refine C.seg (pe := 68) (lv' := [(0, .ref r0)]) (st' := [.ref r0]) [(.aload_n 0, 1, 0)] (by decide +kernel) rfl ?_
  obtain ⟨h1, gh1, hf⟩ := Option.bind_eq_some_iff.mp hf
  refine C.callVr C2 [] [] mv_1314 rfl (o_X3_reckonWorths gh1) (w_X3_reckonWorths gh1) (by omega) (by omega) (Nat.le_of_ble_eq_true rfl) (by decide +kernel) rfl ?_
  refine C.seg (pe := 72) (lv' := [(0, .ref r0)]) (st' := [.ref r0]) [(.aload_n 0, 1, 0)] (by decide +kernel) rfl ?_
  obtain ⟨h2, gh2, hf⟩ := Option.bind_eq_some_iff.mp hf
  refine C.callVr C2 [] [] mv_1351 rfl (o_X3_reckonHopes gh2) (w_X3_reckonHopes gh2) (by omega) (by omega) (Nat.le_of_ble_eq_true rfl) (by decide +kernel) rfl ?_
  refine C.seg (pe := 77) (lv' := [(0, .ref r0)]) (st' := [.int (-1), .ref r0]) [(.aload_n 0, 1, 0), (.iconst (-1), 1, (-1))] (by decide +kernel) rfl ?_
  obtain ⟨h3, gh3, hf⟩ := Option.bind_eq_some_iff.mp hf
  refine C.putI fl_301 gh3 (by decide +kernel) rfl ?_
  refine C.seg (pe := 84) (lv' := [(0, .ref r0)]) (st' := [.int 0, .int 0, .int 0, .ref r0]) [(.aload_n 0, 1, 0), (.iconst 0, 1, 0), (.iconst 0, 1, 0), (.iconst 0, 1, 0)] (by decide +kernel) rfl ?_
  obtain ⟨h4, gh4, hf⟩ := Option.bind_eq_some_iff.mp hf
  refine C.callVr C2 [.int 0, .int 0, .int 0] [] mv_1360 rfl (o_X3_tryFrom gh4) (w_X3_tryFrom 8 gh4) (by omega) (by omega) (Nat.le_of_ble_eq_true rfl) (by decide +kernel) rfl ?_
  refine C.seg (pe := 88) (lv' := [(0, .ref r0)]) (st' := [.ref r0]) [(.aload_n 0, 1, 0)] (by decide +kernel) rfl ?_
  obtain ⟨a5, ga5, hf⟩ := Option.bind_eq_some_iff.mp hf
  refine C.rdA fr_302 ga5 (by decide +kernel) rfl ?_
  refine C.seg (pe := 92) (lv' := [(0, .ref r0)]) (st' := [.int (-1), .ref a5]) [(.iconst (-1), 1, (-1))] (by decide +kernel) rfl ?_
  obtain ⟨h6, gh6, hf⟩ := Option.bind_eq_some_iff.mp hf
  refine C.callSr C2 [.ref a5, .int (-1)] [] ms_290 rfl (w_J7_fill_53178 gh6) (by omega) (by omega) (Nat.le_of_ble_eq_true rfl) (by decide +kernel) rfl ?_
  refine C.seg (pe := 97) (lv' := [(2, .int 0), (0, .ref r0)]) (st' := []) [(.iconst 0, 1, 0), (.istore_n 2, 1, 0)] (by decide +kernel) rfl ?_
  refine Vsub [1, 0] rfl ?_
  exact l_X3_giveAll_97 C C2 FU r0 0 h6 hf
def f_X3_giveAll_61 (k12 : Nat → Int32 → Int32 → AH → Option (Int32 × AH)) (r0 : Nat) (i1 : Int32) (i2 : Int32) (h : AH) : Option (Int32 × AH) :=
  k12 r0 i1 (i2 + 1) h
set_option maxRecDepth 100000 in
set_option maxHeartbeats 4000000 in
theorem l_X3_giveAll_61 {X : MX} {l : Launch} {G : GX} {h0 : AH} {rr : Int32} {hr : AH} (C : Cx X G RX3 cX3_giveAll 4 (some .int) 361 7225 h0) (C2 : Cy X l "giveAll" []) {k12 : Nat → Int32 → Int32 → AH → Option (Int32 × AH)} (hk12 : ∀ (r0 : Nat) (i1 : Int32) (i2 : Int32) (h : AH), k12 r0 i1 i2 h = some (rr, hr) → V X G h0 (QI rr hr) 12 [(0, .ref r0), (1, .int i1), (2, .int i2)] [] h) (r0 : Nat) (i1 : Int32) (i2 : Int32) (h : AH) (hf : f_X3_giveAll_61 k12 r0 i1 i2 h = some (rr, hr)) : V X G h0 (QI rr hr) 61 [(0, .ref r0), (1, .int i1), (2, .int i2)] [] h := by
  unfold f_X3_giveAll_61 at hf
  refine C.seg (pe := 64) (lv' := [(2, .int (i2 + 1)), (0, .ref r0), (1, .int i1)]) (st' := []) [(.iinc 2 1, 3, 1)] (by decide +kernel) rfl ?_
  refine C.goto (off := (-52)) (tgt := 12) (by decide +kernel) (by decide) ?_
  refine Vsub [1, 2, 0] rfl ?_
  exact hk12 r0 i1 (i2 + 1) h hf
def f_X3_giveAll_12 : Nat → Nat → Int32 → Int32 → AH → Option (Int32 × AH)
  | 0, _, _, _, _ => none
  | n + 1, r0, i1, i2, h =>
    (gA 3 h r0 0).bind fun a1 =>
    (gI 9 h a1 1).bind fun x2 =>
    if x2 ≤ i2 then
      f_X3_giveAll_67 r0 h
    else
      (gI 3 h r0 5).bind fun x3 =>
      if 6 ≤ x3 then
        f_X3_giveAll_67 r0 h
      else
        if (i1 >>> (i2 &&& 31)) &&& 1 = 1 then
          (gA 3 h r0 4).bind fun a4 =>
          (gI 3 h r0 5).bind fun x5 =>
          (sI 0 h a4 x5 i2).bind fun h6 =>
          (gI 3 h6 r0 5).bind fun x7 =>
          (pI 3 h6 r0 5 (x7 + 1)).bind fun h8 =>
          f_X3_giveAll_61 (f_X3_giveAll_12 n) r0 i1 i2 h8
        else
          f_X3_giveAll_61 (f_X3_giveAll_12 n) r0 i1 i2 h
set_option maxRecDepth 100000 in
set_option maxHeartbeats 4000000 in
theorem l_X3_giveAll_12 {X : MX} {l : Launch} {G : GX} {h0 : AH} {rr : Int32} {hr : AH} (C : Cx X G RX3 cX3_giveAll 4 (some .int) 361 7225 h0) (C2 : Cy X l "giveAll" []) : ∀ (n : Nat) (r0 : Nat) (i1 : Int32) (i2 : Int32) (h : AH), f_X3_giveAll_12 n r0 i1 i2 h = some (rr, hr) → V X G h0 (QI rr hr) 12 [(0, .ref r0), (1, .int i1), (2, .int i2)] [] h := by
  intro n
  induction n with
  | zero => intro r0 i1 i2 h hf; rw [f_X3_giveAll_12] at hf; cases hf
  | succ n ih =>
    intro r0 i1 i2 h hf
    rw [f_X3_giveAll_12] at hf
    refine C.seg (pe := 14) (lv' := [(0, .ref r0), (1, .int i1), (2, .int i2)]) (st' := [.ref r0, .int i2]) [(.iload_n 2, 1, 0), (.aload_n 0, 1, 0)] (by decide +kernel) rfl ?_
    obtain ⟨a1, ga1, hf⟩ := Option.bind_eq_some_iff.mp hf
    refine C.rdA fr_291 ga1 (by decide +kernel) rfl ?_
    obtain ⟨x2, gx2, hf⟩ := Option.bind_eq_some_iff.mp hf
    refine C.rdI fr_166 gx2 (by decide +kernel) rfl ?_
    refine C.icmp_ge (off := 47) (tgt := 67) (pf := 23) (by decide +kernel) (by decide) rfl (fun c11 => ?_) (fun c11 => ?_)
    · replace hf := ifp c11 hf
      refine Vsub [0] rfl ?_
      exact l_X3_giveAll_67 C C2 r0 h hf
    · replace hf := ifn c11 hf
      refine C.seg (pe := 24) (lv' := [(0, .ref r0), (1, .int i1), (2, .int i2)]) (st' := [.ref r0]) [(.aload_n 0, 1, 0)] (by decide +kernel) rfl ?_
      obtain ⟨x3, gx3, hf⟩ := Option.bind_eq_some_iff.mp hf
      refine C.rdI fr_296 gx3 (by decide +kernel) rfl ?_
      refine C.seg (pe := 29) (lv' := [(0, .ref r0), (1, .int i1), (2, .int i2)]) (st' := [.int 6, .int x3]) [(.bipush 6, 2, 6)] (by decide +kernel) rfl ?_
      refine C.icmp_ge (off := 38) (tgt := 67) (pf := 32) (by decide +kernel) (by decide) rfl (fun c10 => ?_) (fun c10 => ?_)
      · replace hf := ifp c10 hf
        refine Vsub [0] rfl ?_
        exact l_X3_giveAll_67 C C2 r0 h hf
      · replace hf := ifn c10 hf
        refine C.seg (pe := 38) (lv' := [(0, .ref r0), (1, .int i1), (2, .int i2)]) (st' := [.int 1, .int ((i1 >>> (i2 &&& 31)) &&& 1)]) [(.iload_n 1, 1, 0), (.iload_n 2, 1, 0), (.ishr, 1, 0), (.iconst 1, 1, 1), (.iand, 1, 0), (.iconst 1, 1, 1)] (by decide +kernel) rfl ?_
        refine C.icmp_ne (off := 23) (tgt := 61) (pf := 41) (by decide +kernel) (by decide) rfl (fun c9 => ?_) (fun c9 => ?_)
        · replace hf := ifn c9 hf
          exact l_X3_giveAll_61 C C2 ih r0 i1 i2 h hf
        · replace hf := ifp c9 hf
          refine C.seg (pe := 42) (lv' := [(0, .ref r0), (1, .int i1), (2, .int i2)]) (st' := [.ref r0]) [(.aload_n 0, 1, 0)] (by decide +kernel) rfl ?_
          obtain ⟨a4, ga4, hf⟩ := Option.bind_eq_some_iff.mp hf
          refine C.rdA fr_295 ga4 (by decide +kernel) rfl ?_
          refine C.seg (pe := 46) (lv' := [(0, .ref r0), (1, .int i1), (2, .int i2)]) (st' := [.ref r0, .ref a4]) [(.aload_n 0, 1, 0)] (by decide +kernel) rfl ?_
          obtain ⟨x5, gx5, hf⟩ := Option.bind_eq_some_iff.mp hf
          refine C.rdI fr_296 gx5 (by decide +kernel) rfl ?_
          refine C.seg (pe := 50) (lv' := [(0, .ref r0), (1, .int i1), (2, .int i2)]) (st' := [.int i2, .int x5, .ref a4]) [(.iload_n 2, 1, 0)] (by decide +kernel) rfl ?_
          obtain ⟨h6, gh6, hf⟩ := Option.bind_eq_some_iff.mp hf
          refine C.ast gh6 (by decide +kernel) rfl ?_
          refine C.seg (pe := 53) (lv' := [(0, .ref r0), (1, .int i1), (2, .int i2)]) (st' := [.ref r0, .ref r0]) [(.aload_n 0, 1, 0), (.dup, 1, 0)] (by decide +kernel) rfl ?_
          obtain ⟨x7, gx7, hf⟩ := Option.bind_eq_some_iff.mp hf
          refine C.rdI fr_296 gx7 (by decide +kernel) rfl ?_
          refine C.seg (pe := 58) (lv' := [(0, .ref r0), (1, .int i1), (2, .int i2)]) (st' := [.int (x7 + 1), .ref r0]) [(.iconst 1, 1, 1), (.iadd, 1, 0)] (by decide +kernel) rfl ?_
          obtain ⟨h8, gh8, hf⟩ := Option.bind_eq_some_iff.mp hf
          refine C.putI fl_296 gh8 (by decide +kernel) rfl ?_
          exact l_X3_giveAll_61 C C2 ih r0 i1 i2 h8 hf
def f_X3_giveAll (a0 : Nat) (p1 : Int32) (h : AH) : Option (Int32 × AH) :=
  if isO 3 h a0 = true then
    (pI 3 h a0 3 p1).bind fun h1 =>
    (pI 3 h1 a0 5 0).bind fun h2 =>
    f_X3_giveAll_12 FU a0 p1 0 h2
  else none
set_option maxRecDepth 100000 in
set_option maxHeartbeats 4000000 in
theorem w_X3_giveAll {l : Launch} {G : GX} {a0 : Nat} {p1 : Int32} {h : AH} {rr : Int32} {hr : AH} (hf : f_X3_giveAll a0 p1 h = some (rr, hr)) : Ct l G yX3_giveAll 361 7225 [.ref a0, .int p1] h (QI rr hr) := by
  unfold f_X3_giveAll at hf
  obtain ⟨ho, hf⟩ := ifO hf
  refine Ct_of (own := RX3) (cc := cX3_giveAll) (nL := 4) (ret := (some .int)) rfl rfl k_1313 (Nat.le_of_ble_eq_true rfl) (fun X C2 C => ?_)
  show V X G h (QI rr hr) 0 [(0, .ref a0), (1, .int p1)] [] h
  refine C.seg (pe := 2) (lv' := [(0, .ref a0), (1, .int p1)]) (st' := [.int p1, .ref a0]) [(.aload_n 0, 1, 0), (.iload_n 1, 1, 0)] (by decide +kernel) rfl ?_
  obtain ⟨h1, gh1, hf⟩ := Option.bind_eq_some_iff.mp hf
  refine C.putI fl_294 gh1 (by decide +kernel) rfl ?_
  refine C.seg (pe := 7) (lv' := [(0, .ref a0), (1, .int p1)]) (st' := [.int 0, .ref a0]) [(.aload_n 0, 1, 0), (.iconst 0, 1, 0)] (by decide +kernel) rfl ?_
  obtain ⟨h2, gh2, hf⟩ := Option.bind_eq_some_iff.mp hf
  refine C.putI fl_296 gh2 (by decide +kernel) rfl ?_
  refine C.seg (pe := 12) (lv' := [(2, .int 0), (0, .ref a0), (1, .int p1)]) (st' := []) [(.iconst 0, 1, 0), (.istore_n 2, 1, 0)] (by decide +kernel) rfl ?_
  refine Vsub [1, 2, 0] rfl ?_
  exact l_X3_giveAll_12 C C2 FU a0 p1 0 h2 hf
theorem o_X3_giveAll {a0 : Nat} {p1 : Int32} {h : AH} {rr : Int32} {hr : AH} (hf : f_X3_giveAll a0 p1 h = some (rr, hr)) : isO 3 h a0 = true := by
  unfold f_X3_giveAll at hf
  exact (ifO hf).1
/-! WallHouse$Giver.painterFor(I)I -/
def f_X3_painterFor_23 (si0 : Int32) (h : AH) : Option (Int32 × AH) :=
  some (si0, h)
set_option maxRecDepth 100000 in
set_option maxHeartbeats 4000000 in
theorem l_X3_painterFor_23 {X : MX} {l : Launch} {G : GX} {h0 : AH} {rr : Int32} {hr : AH} (C : Cx X G RX3 cX3_painterFor 2 (some .int) 0 0 h0) (C2 : Cy X l "painterFor" []) (si0 : Int32) (h : AH) (hf : f_X3_painterFor_23 si0 h = some (rr, hr)) : V X G h0 (QI rr hr) 23 [] [.int si0] h := by
  unfold f_X3_painterFor_23 at hf
  cases hf
  exact C.retI rfl (by decide +kernel) ⟨rfl, rfl⟩
def f_X3_painterFor_22 (h : AH) : Option (Int32 × AH) :=
  f_X3_painterFor_23 (-1) h
set_option maxRecDepth 100000 in
set_option maxHeartbeats 4000000 in
theorem l_X3_painterFor_22 {X : MX} {l : Launch} {G : GX} {h0 : AH} {rr : Int32} {hr : AH} (C : Cx X G RX3 cX3_painterFor 2 (some .int) 0 0 h0) (C2 : Cy X l "painterFor" []) (h : AH) (hf : f_X3_painterFor_22 h = some (rr, hr)) : V X G h0 (QI rr hr) 22 [] [] h := by
  unfold f_X3_painterFor_22 at hf
  refine C.seg (pe := 23) (lv' := []) (st' := [.int (-1)]) [(.iconst (-1), 1, (-1))] (by decide +kernel) rfl ?_
  exact l_X3_painterFor_23 C C2 (-1) h hf
def f_X3_painterFor (a0 : Nat) (p1 : Int32) (h : AH) : Option (Int32 × AH) :=
  if isO 3 h a0 = true then
    if p1 < 0 then
      f_X3_painterFor_22 h
    else
      (gA 3 h a0 11).bind fun a1 =>
      (aN h a1).bind fun x2 =>
      if x2 ≤ p1 then
        f_X3_painterFor_22 h
      else
        (gA 3 h a0 11).bind fun a3 =>
        (aI 0 h a3 p1).bind fun x4 =>
        f_X3_painterFor_23 x4 h
  else none
set_option maxRecDepth 100000 in
set_option maxHeartbeats 4000000 in
theorem w_X3_painterFor {l : Launch} {G : GX} {a0 : Nat} {p1 : Int32} {h : AH} {rr : Int32} {hr : AH} (hf : f_X3_painterFor a0 p1 h = some (rr, hr)) : Ct l G yX3_painterFor 0 0 [.ref a0, .int p1] h (QI rr hr) := by
  unfold f_X3_painterFor at hf
  obtain ⟨ho, hf⟩ := ifO hf
  refine Ct_of (own := RX3) (cc := cX3_painterFor) (nL := 2) (ret := (some .int)) rfl rfl k_1376 (Nat.le_of_ble_eq_true rfl) (fun X C2 C => ?_)
  show V X G h (QI rr hr) 0 [(0, .ref a0), (1, .int p1)] [] h
  refine C.seg (pe := 1) (lv' := [(0, .ref a0), (1, .int p1)]) (st' := [.int p1]) [(.iload_n 1, 1, 0)] (by decide +kernel) rfl ?_
  refine C.if_lt (off := 21) (tgt := 22) (pf := 4) (by decide +kernel) (by decide) rfl (fun c6 => ?_) (fun c6 => ?_)
  · replace hf := ifp c6 hf
    refine Vsub [] rfl ?_
    exact l_X3_painterFor_22 C C2 h hf
  · replace hf := ifn c6 hf
    refine C.seg (pe := 6) (lv' := [(0, .ref a0), (1, .int p1)]) (st' := [.ref a0, .int p1]) [(.iload_n 1, 1, 0), (.aload_n 0, 1, 0)] (by decide +kernel) rfl ?_
    obtain ⟨a1, ga1, hf⟩ := Option.bind_eq_some_iff.mp hf
    refine C.rdA fr_302 ga1 (by decide +kernel) rfl ?_
    obtain ⟨x2, gx2, hf⟩ := Option.bind_eq_some_iff.mp hf
    refine C.alen gx2 (by decide +kernel) rfl ?_
    refine C.icmp_ge (off := 12) (tgt := 22) (pf := 13) (by decide +kernel) (by decide) rfl (fun c5 => ?_) (fun c5 => ?_)
    · replace hf := ifp c5 hf
      refine Vsub [] rfl ?_
      exact l_X3_painterFor_22 C C2 h hf
    · replace hf := ifn c5 hf
      refine C.seg (pe := 14) (lv' := [(0, .ref a0), (1, .int p1)]) (st' := [.ref a0]) [(.aload_n 0, 1, 0)] (by decide +kernel) rfl ?_
      obtain ⟨a3, ga3, hf⟩ := Option.bind_eq_some_iff.mp hf
      refine C.rdA fr_302 ga3 (by decide +kernel) rfl ?_
      refine C.seg (pe := 18) (lv' := [(0, .ref a0), (1, .int p1)]) (st' := [.int p1, .ref a3]) [(.iload_n 1, 1, 0)] (by decide +kernel) rfl ?_
      obtain ⟨x4, gx4, hf⟩ := Option.bind_eq_some_iff.mp hf
      refine C.ald 0 rfl gx4 (by decide +kernel) rfl ?_
      refine C.goto (off := 4) (tgt := 23) (by decide +kernel) (by decide) ?_
      refine Vsub [] rfl ?_
      exact l_X3_painterFor_23 C C2 x4 h hf
theorem o_X3_painterFor {a0 : Nat} {p1 : Int32} {h : AH} {rr : Int32} {hr : AH} (hf : f_X3_painterFor a0 p1 h = some (rr, hr)) : isO 3 h a0 = true := by
  unfold f_X3_painterFor at hf
  exact (ifO hf).1
