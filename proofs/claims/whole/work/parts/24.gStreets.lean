/-! WallHouse$Streets.<init>(LWallHouse$Walls;)V -/
def f_X6_init (a0 : Nat) (p1 : Nat) (h : AH) : Option (AH) :=
  b2 (nwA 0 100 h) fun a1 h2 =>
  (pQ 6 h2 a0 2 (some a1)).bind fun h3 =>
  b2 (nwA 0 100 h3) fun a4 h5 =>
  (pQ 6 h5 a0 3 (some a4)).bind fun h6 =>
  b2 (nwA 0 100 h6) fun a7 h8 =>
  (pQ 6 h8 a0 4 (some a7)).bind fun h9 =>
  b2 (nwA 0 9 h9) fun a10 h11 =>
  (pQ 6 h11 a0 5 (some a10)).bind fun h12 =>
  b2 (nwA 0 0 h12) fun a13 h14 =>
  (pQ 6 h14 a0 8 (some a13)).bind fun h15 =>
  (pQ 6 h15 a0 0 (some p1)).bind fun h16 =>
  (pI 6 h16 a0 9 (-1)).bind fun h17 =>
  some h17
set_option maxRecDepth 100000 in
set_option maxHeartbeats 4000000 in
theorem w_X6_init {l : Launch} {G : GX} {a0 : Nat} {p1 : Nat} {h : AH} {hr : AH} (hf : f_X6_init a0 p1 h = some hr) : Ct l G yX6_init 1 20 [.ref a0, .ref p1] h (QV hr) := by
  unfold f_X6_init at hf
  refine Ct_of (own := RX6) (cc := cX6_init) (nL := 2) (ret := none) rfl rfl k_332 (Nat.le_of_ble_eq_true rfl) (fun X C2 C => ?_)
  show V X G h (QV hr) 0 [(0, .ref a0), (1, .ref p1)] [] h
  refine C.seg (pe := 1) (lv' := [(0, .ref a0), (1, .ref p1)]) (st' := [.ref a0]) [(.aload_n 0, 1, 0)] (by decide +kernel) rfl ?_
  refine C.objInit k_333 k_151 k_152 (by omega) (by omega) (Nat.le_of_ble_eq_true rfl) (by decide +kernel) rfl ?_
  refine C.seg (pe := 7) (lv' := [(0, .ref a0), (1, .ref p1)]) (st' := [.int 100, .ref a0]) [(.aload_n 0, 1, 0), (.bipush 100, 2, 100)] (by decide +kernel) rfl ?_
  obtain ⟨a1, h2, ga1, hf⟩ := b2_some hf
  refine C.newa0 k_180 ga1 (by decide +kernel) rfl ?_
  obtain ⟨h3, gh3, hf⟩ := Option.bind_eq_some_iff.mp hf
  refine C.putFA C2.2.1 fl_337 (Or.inr ⟨_, rfl⟩) gh3 (by decide +kernel) rfl ?_
  refine C.seg (pe := 15) (lv' := [(0, .ref a0), (1, .ref p1)]) (st' := [.int 100, .ref a0]) [(.aload_n 0, 1, 0), (.bipush 100, 2, 100)] (by decide +kernel) rfl ?_
  obtain ⟨a4, h5, ga4, hf⟩ := b2_some hf
  refine C.newa0 k_180 ga4 (by decide +kernel) rfl ?_
  obtain ⟨h6, gh6, hf⟩ := Option.bind_eq_some_iff.mp hf
  refine C.putFA C2.2.1 fl_338 (Or.inr ⟨_, rfl⟩) gh6 (by decide +kernel) rfl ?_
  refine C.seg (pe := 23) (lv' := [(0, .ref a0), (1, .ref p1)]) (st' := [.int 100, .ref a0]) [(.aload_n 0, 1, 0), (.bipush 100, 2, 100)] (by decide +kernel) rfl ?_
  obtain ⟨a7, h8, ga7, hf⟩ := b2_some hf
  refine C.newa0 k_180 ga7 (by decide +kernel) rfl ?_
  obtain ⟨h9, gh9, hf⟩ := Option.bind_eq_some_iff.mp hf
  refine C.putFA C2.2.1 fl_339 (Or.inr ⟨_, rfl⟩) gh9 (by decide +kernel) rfl ?_
  refine C.seg (pe := 31) (lv' := [(0, .ref a0), (1, .ref p1)]) (st' := [.int 9, .ref a0]) [(.aload_n 0, 1, 0), (.bipush 9, 2, 9)] (by decide +kernel) rfl ?_
  obtain ⟨a10, h11, ga10, hf⟩ := b2_some hf
  refine C.newa0 k_180 ga10 (by decide +kernel) rfl ?_
  obtain ⟨h12, gh12, hf⟩ := Option.bind_eq_some_iff.mp hf
  refine C.putFA C2.2.1 fl_340 (Or.inr ⟨_, rfl⟩) gh12 (by decide +kernel) rfl ?_
  refine C.seg (pe := 38) (lv' := [(0, .ref a0), (1, .ref p1)]) (st' := [.int 0, .ref a0]) [(.aload_n 0, 1, 0), (.iconst 0, 1, 0)] (by decide +kernel) rfl ?_
  obtain ⟨a13, h14, ga13, hf⟩ := b2_some hf
  refine C.newa0 k_180 ga13 (by decide +kernel) rfl ?_
  obtain ⟨h15, gh15, hf⟩ := Option.bind_eq_some_iff.mp hf
  refine C.putA fl_343 (Or.inr ⟨_, rfl⟩) gh15 (by decide +kernel) rfl ?_
  refine C.seg (pe := 45) (lv' := [(0, .ref a0), (1, .ref p1)]) (st' := [.ref p1, .ref a0]) [(.aload_n 0, 1, 0), (.aload_n 1, 1, 0)] (by decide +kernel) rfl ?_
  obtain ⟨h16, gh16, hf⟩ := Option.bind_eq_some_iff.mp hf
  refine C.putFA C2.2.1 fl_334 (Or.inl ⟨_, rfl⟩) gh16 (by decide +kernel) rfl ?_
  refine C.seg (pe := 50) (lv' := [(0, .ref a0), (1, .ref p1)]) (st' := [.int (-1), .ref a0]) [(.aload_n 0, 1, 0), (.iconst (-1), 1, (-1))] (by decide +kernel) rfl ?_
  obtain ⟨h17, gh17, hf⟩ := Option.bind_eq_some_iff.mp hf
  refine C.putI fl_344 gh17 (by decide +kernel) rfl ?_
  cases hf
  exact C.retV rfl (by decide +kernel) ⟨rfl, rfl⟩
/-! WallHouse$Streets.addTag(II)I -/
def f_X6_addTag (a0 : Nat) (p1 : Int32) (p2 : Int32) (h : AH) : Option (Int32 × AH) :=
  if isO 6 h a0 = true then
    (gI 6 h a0 1).bind fun x1 =>
    if x1 < 100 then
      (gA 6 h a0 2).bind fun a2 =>
      (gI 6 h a0 1).bind fun x3 =>
      (sI 0 h a2 x3 p1).bind fun h4 =>
      (gA 6 h4 a0 3).bind fun a5 =>
      (gI 6 h4 a0 1).bind fun x6 =>
      (sI 0 h4 a5 x6 p2).bind fun h7 =>
      (gA 6 h7 a0 4).bind fun a8 =>
      (gI 6 h7 a0 1).bind fun x9 =>
      (sI 0 h7 a8 x9 (-1)).bind fun h10 =>
      (gI 6 h10 a0 1).bind fun x11 =>
      (pI 6 h10 a0 1 (x11 + 1)).bind fun h12 =>
      (gI 6 h12 a0 1).bind fun x13 =>
      some (x13 - 1, h12)
    else
      some ((-1), h)
  else none
set_option maxRecDepth 100000 in
set_option maxHeartbeats 4000000 in
theorem w_X6_addTag {l : Launch} {G : GX} {a0 : Nat} {p1 : Int32} {p2 : Int32} {h : AH} {rr : Int32} {hr : AH} (hf : f_X6_addTag a0 p1 p2 h = some (rr, hr)) : Ct l G yX6_addTag 0 0 [.ref a0, .int p1, .int p2] h (QI rr hr) := by
  unfold f_X6_addTag at hf
  obtain ⟨ho, hf⟩ := ifO hf
  refine Ct_of (own := RX6) (cc := cX6_addTag) (nL := 3) (ret := (some .int)) rfl rfl k_1508 (Nat.le_of_ble_eq_true rfl) (fun X C2 C => ?_)
  show V X G h (QI rr hr) 0 [(0, .ref a0), (1, .int p1), (2, .int p2)] [] h
  refine C.seg (pe := 1) (lv' := [(0, .ref a0), (1, .int p1), (2, .int p2)]) (st' := [.ref a0]) [(.aload_n 0, 1, 0)] (by decide +kernel) rfl ?_
  obtain ⟨x1, gx1, hf⟩ := Option.bind_eq_some_iff.mp hf
  refine C.rdI fr_335 gx1 (by decide +kernel) rfl ?_
  refine C.seg (pe := 6) (lv' := [(0, .ref a0), (1, .int p1), (2, .int p2)]) (st' := [.int 100, .int x1]) [(.bipush 100, 2, 100)] (by decide +kernel) rfl ?_
  refine C.icmp_lt (off := 5) (tgt := 11) (pf := 9) (by decide +kernel) (by decide) rfl (fun c14 => ?_) (fun c14 => ?_)
  · replace hf := ifp c14 hf
    refine C.seg (pe := 12) (lv' := [(0, .ref a0), (1, .int p1), (2, .int p2)]) (st' := [.ref a0]) [(.aload_n 0, 1, 0)] (by decide +kernel) rfl ?_
    obtain ⟨a2, ga2, hf⟩ := Option.bind_eq_some_iff.mp hf
    refine C.rdA fr_337 ga2 (by decide +kernel) rfl ?_
    refine C.seg (pe := 16) (lv' := [(0, .ref a0), (1, .int p1), (2, .int p2)]) (st' := [.ref a0, .ref a2]) [(.aload_n 0, 1, 0)] (by decide +kernel) rfl ?_
    obtain ⟨x3, gx3, hf⟩ := Option.bind_eq_some_iff.mp hf
    refine C.rdI fr_335 gx3 (by decide +kernel) rfl ?_
    refine C.seg (pe := 20) (lv' := [(0, .ref a0), (1, .int p1), (2, .int p2)]) (st' := [.int p1, .int x3, .ref a2]) [(.iload_n 1, 1, 0)] (by decide +kernel) rfl ?_
    obtain ⟨h4, gh4, hf⟩ := Option.bind_eq_some_iff.mp hf
    refine C.ast gh4 (by decide +kernel) rfl ?_
    refine C.seg (pe := 22) (lv' := [(0, .ref a0), (1, .int p1), (2, .int p2)]) (st' := [.ref a0]) [(.aload_n 0, 1, 0)] (by decide +kernel) rfl ?_
    obtain ⟨a5, ga5, hf⟩ := Option.bind_eq_some_iff.mp hf
    refine C.rdA fr_338 ga5 (by decide +kernel) rfl ?_
    refine C.seg (pe := 26) (lv' := [(0, .ref a0), (1, .int p1), (2, .int p2)]) (st' := [.ref a0, .ref a5]) [(.aload_n 0, 1, 0)] (by decide +kernel) rfl ?_
    obtain ⟨x6, gx6, hf⟩ := Option.bind_eq_some_iff.mp hf
    refine C.rdI fr_335 gx6 (by decide +kernel) rfl ?_
    refine C.seg (pe := 30) (lv' := [(0, .ref a0), (1, .int p1), (2, .int p2)]) (st' := [.int p2, .int x6, .ref a5]) [(.iload_n 2, 1, 0)] (by decide +kernel) rfl ?_
    obtain ⟨h7, gh7, hf⟩ := Option.bind_eq_some_iff.mp hf
    refine C.ast gh7 (by decide +kernel) rfl ?_
    refine C.seg (pe := 32) (lv' := [(0, .ref a0), (1, .int p1), (2, .int p2)]) (st' := [.ref a0]) [(.aload_n 0, 1, 0)] (by decide +kernel) rfl ?_
    obtain ⟨a8, ga8, hf⟩ := Option.bind_eq_some_iff.mp hf
    refine C.rdA fr_339 ga8 (by decide +kernel) rfl ?_
    refine C.seg (pe := 36) (lv' := [(0, .ref a0), (1, .int p1), (2, .int p2)]) (st' := [.ref a0, .ref a8]) [(.aload_n 0, 1, 0)] (by decide +kernel) rfl ?_
    obtain ⟨x9, gx9, hf⟩ := Option.bind_eq_some_iff.mp hf
    refine C.rdI fr_335 gx9 (by decide +kernel) rfl ?_
    refine C.seg (pe := 40) (lv' := [(0, .ref a0), (1, .int p1), (2, .int p2)]) (st' := [.int (-1), .int x9, .ref a8]) [(.iconst (-1), 1, (-1))] (by decide +kernel) rfl ?_
    obtain ⟨h10, gh10, hf⟩ := Option.bind_eq_some_iff.mp hf
    refine C.ast gh10 (by decide +kernel) rfl ?_
    refine C.seg (pe := 43) (lv' := [(0, .ref a0), (1, .int p1), (2, .int p2)]) (st' := [.ref a0, .ref a0]) [(.aload_n 0, 1, 0), (.dup, 1, 0)] (by decide +kernel) rfl ?_
    obtain ⟨x11, gx11, hf⟩ := Option.bind_eq_some_iff.mp hf
    refine C.rdI fr_335 gx11 (by decide +kernel) rfl ?_
    refine C.seg (pe := 48) (lv' := [(0, .ref a0), (1, .int p1), (2, .int p2)]) (st' := [.int (x11 + 1), .ref a0]) [(.iconst 1, 1, 1), (.iadd, 1, 0)] (by decide +kernel) rfl ?_
    obtain ⟨h12, gh12, hf⟩ := Option.bind_eq_some_iff.mp hf
    refine C.putI fl_335 gh12 (by decide +kernel) rfl ?_
    refine C.seg (pe := 52) (lv' := [(0, .ref a0), (1, .int p1), (2, .int p2)]) (st' := [.ref a0]) [(.aload_n 0, 1, 0)] (by decide +kernel) rfl ?_
    obtain ⟨x13, gx13, hf⟩ := Option.bind_eq_some_iff.mp hf
    refine C.rdI fr_335 gx13 (by decide +kernel) rfl ?_
    refine C.seg (pe := 57) (lv' := [(0, .ref a0), (1, .int p1), (2, .int p2)]) (st' := [.int (x13 - 1)]) [(.iconst 1, 1, 1), (.isub, 1, 0)] (by decide +kernel) rfl ?_
    cases hf
    exact C.retI rfl (by decide +kernel) ⟨rfl, rfl⟩
  · replace hf := ifn c14 hf
    refine C.seg (pe := 10) (lv' := [(0, .ref a0), (1, .int p1), (2, .int p2)]) (st' := [.int (-1)]) [(.iconst (-1), 1, (-1))] (by decide +kernel) rfl ?_
    cases hf
    exact C.retI rfl (by decide +kernel) ⟨rfl, rfl⟩
theorem o_X6_addTag {a0 : Nat} {p1 : Int32} {p2 : Int32} {h : AH} {rr : Int32} {hr : AH} (hf : f_X6_addTag a0 p1 p2 h = some (rr, hr)) : isO 6 h a0 = true := by
  unfold f_X6_addTag at hf
  exact (ifO hf).1
/-! WallHouse$Streets.isTag(I)Z -/
def f_X6_isTag_23 (si0 : Int32) (h : AH) : Option (Int32 × AH) :=
  (ckZ si0).bind fun x1 =>
  some (x1, h)
set_option maxRecDepth 100000 in
set_option maxHeartbeats 4000000 in
theorem l_X6_isTag_23 {X : MX} {l : Launch} {G : GX} {h0 : AH} {rr : Int32} {hr : AH} (C : Cx X G RX6 cX6_isTag 2 (some .boolean) 0 0 h0) (C2 : Cy X l "isTag" []) (si0 : Int32) (h : AH) (hf : f_X6_isTag_23 si0 h = some (rr, hr)) : V X G h0 (QI rr hr) 23 [] [.int si0] h := by
  unfold f_X6_isTag_23 at hf
  obtain ⟨x1, gx1, hf⟩ := Option.bind_eq_some_iff.mp hf
  have ex1 := ckZ_eq gx1
  subst ex1
  cases hf
  exact C.retZ rfl gx1 (by decide +kernel) ⟨rfl, rfl⟩
def f_X6_isTag_22 (h : AH) : Option (Int32 × AH) :=
  f_X6_isTag_23 0 h
set_option maxRecDepth 100000 in
set_option maxHeartbeats 4000000 in
theorem l_X6_isTag_22 {X : MX} {l : Launch} {G : GX} {h0 : AH} {rr : Int32} {hr : AH} (C : Cx X G RX6 cX6_isTag 2 (some .boolean) 0 0 h0) (C2 : Cy X l "isTag" []) (h : AH) (hf : f_X6_isTag_22 h = some (rr, hr)) : V X G h0 (QI rr hr) 22 [] [] h := by
  unfold f_X6_isTag_22 at hf
  refine C.seg (pe := 23) (lv' := []) (st' := [.int 0]) [(.iconst 0, 1, 0)] (by decide +kernel) rfl ?_
  exact l_X6_isTag_23 C C2 0 h hf
def f_X6_isTag (a0 : Nat) (p1 : Int32) (h : AH) : Option (Int32 × AH) :=
  if isO 6 h a0 = true then
    if p1 < 0 then
      f_X6_isTag_22 h
    else
      (gI 6 h a0 1).bind fun x1 =>
      if x1 ≤ p1 then
        f_X6_isTag_22 h
      else
        if 100 ≤ p1 then
          f_X6_isTag_22 h
        else
          f_X6_isTag_23 1 h
  else none
set_option maxRecDepth 100000 in
set_option maxHeartbeats 4000000 in
theorem w_X6_isTag {l : Launch} {G : GX} {a0 : Nat} {p1 : Int32} {h : AH} {rr : Int32} {hr : AH} (hf : f_X6_isTag a0 p1 h = some (rr, hr)) : Ct l G yX6_isTag 0 0 [.ref a0, .int p1] h (QI rr hr) := by
  unfold f_X6_isTag at hf
  obtain ⟨ho, hf⟩ := ifO hf
  refine Ct_of (own := RX6) (cc := cX6_isTag) (nL := 2) (ret := (some .boolean)) rfl rfl k_1516 (Nat.le_of_ble_eq_true rfl) (fun X C2 C => ?_)
  show V X G h (QI rr hr) 0 [(0, .ref a0), (1, .int p1)] [] h
  refine C.seg (pe := 1) (lv' := [(0, .ref a0), (1, .int p1)]) (st' := [.int p1]) [(.iload_n 1, 1, 0)] (by decide +kernel) rfl ?_
  refine C.if_lt (off := 21) (tgt := 22) (pf := 4) (by decide +kernel) (by decide) rfl (fun c4 => ?_) (fun c4 => ?_)
  · replace hf := ifp c4 hf
    refine Vsub [] rfl ?_
    exact l_X6_isTag_22 C C2 h hf
  · replace hf := ifn c4 hf
    refine C.seg (pe := 6) (lv' := [(0, .ref a0), (1, .int p1)]) (st' := [.ref a0, .int p1]) [(.iload_n 1, 1, 0), (.aload_n 0, 1, 0)] (by decide +kernel) rfl ?_
    obtain ⟨x1, gx1, hf⟩ := Option.bind_eq_some_iff.mp hf
    refine C.rdI fr_335 gx1 (by decide +kernel) rfl ?_
    refine C.icmp_ge (off := 13) (tgt := 22) (pf := 12) (by decide +kernel) (by decide) rfl (fun c3 => ?_) (fun c3 => ?_)
    · replace hf := ifp c3 hf
      refine Vsub [] rfl ?_
      exact l_X6_isTag_22 C C2 h hf
    · replace hf := ifn c3 hf
      refine C.seg (pe := 15) (lv' := [(0, .ref a0), (1, .int p1)]) (st' := [.int 100, .int p1]) [(.iload_n 1, 1, 0), (.bipush 100, 2, 100)] (by decide +kernel) rfl ?_
      refine C.icmp_ge (off := 7) (tgt := 22) (pf := 18) (by decide +kernel) (by decide) rfl (fun c2 => ?_) (fun c2 => ?_)
      · replace hf := ifp c2 hf
        refine Vsub [] rfl ?_
        exact l_X6_isTag_22 C C2 h hf
      · replace hf := ifn c2 hf
        refine C.seg (pe := 19) (lv' := [(0, .ref a0), (1, .int p1)]) (st' := [.int 1]) [(.iconst 1, 1, 1)] (by decide +kernel) rfl ?_
        refine C.goto (off := 4) (tgt := 23) (by decide +kernel) (by decide) ?_
        refine Vsub [] rfl ?_
        exact l_X6_isTag_23 C C2 1 h hf
theorem o_X6_isTag {a0 : Nat} {p1 : Int32} {h : AH} {rr : Int32} {hr : AH} (hf : f_X6_isTag a0 p1 h = some (rr, hr)) : isO 6 h a0 = true := by
  unfold f_X6_isTag at hf
  exact (ifO hf).1
/-! WallHouse$Streets.cleanTag(II)Z -/
def f_X6_cleanTag_18 (h : AH) : Option (Int32 × AH) :=
  some (0, h)
set_option maxRecDepth 100000 in
set_option maxHeartbeats 4000000 in
theorem l_X6_cleanTag_18 {X : MX} {l : Launch} {G : GX} {h0 : AH} {rr : Int32} {hr : AH} (C : Cx X G RX6 cX6_cleanTag 3 (some .boolean) 1 21 h0) (C2 : Cy X l "cleanTag" []) (h : AH) (hf : f_X6_cleanTag_18 h = some (rr, hr)) : V X G h0 (QI rr hr) 18 [] [] h := by
  unfold f_X6_cleanTag_18 at hf
  refine C.seg (pe := 19) (lv' := []) (st' := [.int 0]) [(.iconst 0, 1, 0)] (by decide +kernel) rfl ?_
  cases hf
  exact C.retZ rfl (by decide) (by decide +kernel) ⟨rfl, rfl⟩
def f_X6_cleanTag (a0 : Nat) (p1 : Int32) (p2 : Int32) (h : AH) : Option (Int32 × AH) :=
  if isO 6 h a0 = true then
    b2 (f_X6_isTag a0 p1 h) fun x1 h2 =>
    if x1 = 0 then
      f_X6_cleanTag_18 h2
    else
      (gA 6 h2 a0 4).bind fun a3 =>
      (aI 0 h2 a3 p1).bind fun x4 =>
      if x4 = (-1) then
        (gA 6 h2 a0 4).bind fun a5 =>
        (sI 0 h2 a5 p1 p2).bind fun h6 =>
        some (1, h6)
      else
        f_X6_cleanTag_18 h2
  else none
set_option maxRecDepth 100000 in
set_option maxHeartbeats 4000000 in
theorem w_X6_cleanTag {l : Launch} {G : GX} {a0 : Nat} {p1 : Int32} {p2 : Int32} {h : AH} {rr : Int32} {hr : AH} (hf : f_X6_cleanTag a0 p1 p2 h = some (rr, hr)) : Ct l G yX6_cleanTag 1 21 [.ref a0, .int p1, .int p2] h (QI rr hr) := by
  unfold f_X6_cleanTag at hf
  obtain ⟨ho, hf⟩ := ifO hf
  refine Ct_of (own := RX6) (cc := cX6_cleanTag) (nL := 3) (ret := (some .boolean)) rfl rfl k_1520 (Nat.le_of_ble_eq_true rfl) (fun X C2 C => ?_)
  show V X G h (QI rr hr) 0 [(0, .ref a0), (1, .int p1), (2, .int p2)] [] h
  refine C.seg (pe := 2) (lv' := [(0, .ref a0), (1, .int p1), (2, .int p2)]) (st' := [.int p1, .ref a0]) [(.aload_n 0, 1, 0), (.iload_n 1, 1, 0)] (by decide +kernel) rfl ?_
  obtain ⟨x1, h2, gx1, hf⟩ := b2_some hf
  refine C.callVr C2 [.int p1] [] mv_1521 rfl (o_X6_isTag gx1) (w_X6_isTag gx1) (by omega) (by omega) (Nat.le_of_ble_eq_true rfl) (by decide +kernel) rfl ?_
  refine C.if_eq (off := 13) (tgt := 18) (pf := 8) (by decide +kernel) (by decide) rfl (fun c8 => ?_) (fun c8 => ?_)
  · replace hf := ifp c8 hf
    refine Vsub [] rfl ?_
    exact l_X6_cleanTag_18 C C2 h2 hf
  · replace hf := ifn c8 hf
    refine C.seg (pe := 9) (lv' := [(0, .ref a0), (1, .int p1), (2, .int p2)]) (st' := [.ref a0]) [(.aload_n 0, 1, 0)] (by decide +kernel) rfl ?_
    obtain ⟨a3, ga3, hf⟩ := Option.bind_eq_some_iff.mp hf
    refine C.rdA fr_339 ga3 (by decide +kernel) rfl ?_
    refine C.seg (pe := 13) (lv' := [(0, .ref a0), (1, .int p1), (2, .int p2)]) (st' := [.int p1, .ref a3]) [(.iload_n 1, 1, 0)] (by decide +kernel) rfl ?_
    obtain ⟨x4, gx4, hf⟩ := Option.bind_eq_some_iff.mp hf
    refine C.ald 0 rfl gx4 (by decide +kernel) rfl ?_
    refine C.seg (pe := 15) (lv' := [(0, .ref a0), (1, .int p1), (2, .int p2)]) (st' := [.int (-1), .int x4]) [(.iconst (-1), 1, (-1))] (by decide +kernel) rfl ?_
    refine C.icmp_eq (off := 5) (tgt := 20) (pf := 18) (by decide +kernel) (by decide) rfl (fun c7 => ?_) (fun c7 => ?_)
    · replace hf := ifp c7 hf
      refine C.seg (pe := 21) (lv' := [(0, .ref a0), (1, .int p1), (2, .int p2)]) (st' := [.ref a0]) [(.aload_n 0, 1, 0)] (by decide +kernel) rfl ?_
      obtain ⟨a5, ga5, hf⟩ := Option.bind_eq_some_iff.mp hf
      refine C.rdA fr_339 ga5 (by decide +kernel) rfl ?_
      refine C.seg (pe := 26) (lv' := [(0, .ref a0), (1, .int p1), (2, .int p2)]) (st' := [.int p2, .int p1, .ref a5]) [(.iload_n 1, 1, 0), (.iload_n 2, 1, 0)] (by decide +kernel) rfl ?_
      obtain ⟨h6, gh6, hf⟩ := Option.bind_eq_some_iff.mp hf
      refine C.ast gh6 (by decide +kernel) rfl ?_
      refine C.seg (pe := 28) (lv' := [(0, .ref a0), (1, .int p1), (2, .int p2)]) (st' := [.int 1]) [(.iconst 1, 1, 1)] (by decide +kernel) rfl ?_
      cases hf
      exact C.retZ rfl (by decide) (by decide +kernel) ⟨rfl, rfl⟩
    · replace hf := ifn c7 hf
      refine Vsub [] rfl ?_
      exact l_X6_cleanTag_18 C C2 h2 hf
theorem o_X6_cleanTag {a0 : Nat} {p1 : Int32} {p2 : Int32} {h : AH} {rr : Int32} {hr : AH} (hf : f_X6_cleanTag a0 p1 p2 h = some (rr, hr)) : isO 6 h a0 = true := by
  unfold f_X6_cleanTag at hf
  exact (ifO hf).1
/-! WallHouse$Streets.lateTags(I)I -/
def f_X6_lateTags_48 (k4 : Nat → Int32 → Int32 → Int32 → AH → Option (Int32 × AH)) (r0 : Nat) (i1 : Int32) (i2 : Int32) (i3 : Int32) (h : AH) : Option (Int32 × AH) :=
  k4 r0 i1 i2 (i3 + 1) h
set_option maxRecDepth 100000 in
set_option maxHeartbeats 4000000 in
theorem l_X6_lateTags_48 {X : MX} {l : Launch} {G : GX} {h0 : AH} {rr : Int32} {hr : AH} (C : Cx X G RX6 cX6_lateTags 5 (some .int) 0 0 h0) (C2 : Cy X l "lateTags" []) {k4 : Nat → Int32 → Int32 → Int32 → AH → Option (Int32 × AH)} (hk4 : ∀ (r0 : Nat) (i1 : Int32) (i2 : Int32) (i3 : Int32) (h : AH), k4 r0 i1 i2 i3 h = some (rr, hr) → V X G h0 (QI rr hr) 4 [(0, .ref r0), (1, .int i1), (2, .int i2), (3, .int i3)] [] h) (r0 : Nat) (i1 : Int32) (i2 : Int32) (i3 : Int32) (h : AH) (hf : f_X6_lateTags_48 k4 r0 i1 i2 i3 h = some (rr, hr)) : V X G h0 (QI rr hr) 48 [(0, .ref r0), (1, .int i1), (2, .int i2), (3, .int i3)] [] h := by
  unfold f_X6_lateTags_48 at hf
  refine C.seg (pe := 51) (lv' := [(3, .int (i3 + 1)), (0, .ref r0), (1, .int i1), (2, .int i2)]) (st' := []) [(.iinc 3 1, 3, 1)] (by decide +kernel) rfl ?_
  refine C.goto (off := (-47)) (tgt := 4) (by decide +kernel) (by decide) ?_
  refine Vsub [1, 2, 3, 0] rfl ?_
  exact hk4 r0 i1 i2 (i3 + 1) h hf
def f_X6_lateTags_32 (k4 : Nat → Int32 → Int32 → Int32 → AH → Option (Int32 × AH)) (r0 : Nat) (i1 : Int32) (i2 : Int32) (i3 : Int32) (si0 : Int32) (h : AH) : Option (Int32 × AH) :=
  (gA 6 h r0 3).bind fun a1 =>
  (aI 0 h a1 i3).bind fun x2 =>
  if si0 ≤ x2 then
    f_X6_lateTags_48 k4 r0 i1 i2 i3 h
  else
    f_X6_lateTags_48 k4 r0 i1 (i2 + 1) i3 h
set_option maxRecDepth 100000 in
set_option maxHeartbeats 4000000 in
theorem l_X6_lateTags_32 {X : MX} {l : Launch} {G : GX} {h0 : AH} {rr : Int32} {hr : AH} (C : Cx X G RX6 cX6_lateTags 5 (some .int) 0 0 h0) (C2 : Cy X l "lateTags" []) {k4 : Nat → Int32 → Int32 → Int32 → AH → Option (Int32 × AH)} (hk4 : ∀ (r0 : Nat) (i1 : Int32) (i2 : Int32) (i3 : Int32) (h : AH), k4 r0 i1 i2 i3 h = some (rr, hr) → V X G h0 (QI rr hr) 4 [(0, .ref r0), (1, .int i1), (2, .int i2), (3, .int i3)] [] h) (r0 : Nat) (i1 : Int32) (i2 : Int32) (i3 : Int32) (si0 : Int32) (h : AH) (hf : f_X6_lateTags_32 k4 r0 i1 i2 i3 si0 h = some (rr, hr)) : V X G h0 (QI rr hr) 32 [(0, .ref r0), (1, .int i1), (2, .int i2), (3, .int i3)] [.int si0] h := by
  unfold f_X6_lateTags_32 at hf
  refine C.seg (pe := 37) (lv' := [(4, .int si0), (0, .ref r0), (1, .int i1), (2, .int i2), (3, .int i3)]) (st' := [.ref r0, .int si0]) [(.istore 4, 2, 0), (.iload 4, 2, 0), (.aload_n 0, 1, 0)] (by decide +kernel) rfl ?_
  obtain ⟨a1, ga1, hf⟩ := Option.bind_eq_some_iff.mp hf
  refine C.rdA fr_338 ga1 (by decide +kernel) rfl ?_
  refine C.seg (pe := 41) (lv' := [(4, .int si0), (0, .ref r0), (1, .int i1), (2, .int i2), (3, .int i3)]) (st' := [.int i3, .ref a1, .int si0]) [(.iload_n 3, 1, 0)] (by decide +kernel) rfl ?_
  obtain ⟨x2, gx2, hf⟩ := Option.bind_eq_some_iff.mp hf
  refine C.ald 0 rfl gx2 (by decide +kernel) rfl ?_
  refine C.icmp_le (off := 6) (tgt := 48) (pf := 45) (by decide +kernel) (by decide) rfl (fun c3 => ?_) (fun c3 => ?_)
  · replace hf := ifp c3 hf
    refine Vsub [1, 2, 3, 4] rfl ?_
    exact l_X6_lateTags_48 C C2 hk4 r0 i1 i2 i3 h hf
  · replace hf := ifn c3 hf
    refine C.seg (pe := 48) (lv' := [(2, .int (i2 + 1)), (4, .int si0), (0, .ref r0), (1, .int i1), (3, .int i3)]) (st' := []) [(.iinc 2 1, 3, 1)] (by decide +kernel) rfl ?_
    refine Vsub [2, 3, 0, 4] rfl ?_
    exact l_X6_lateTags_48 C C2 hk4 r0 i1 (i2 + 1) i3 h hf
def f_X6_lateTags_4 : Nat → Nat → Int32 → Int32 → Int32 → AH → Option (Int32 × AH)
  | 0, _, _, _, _, _ => none
  | n + 1, r0, i1, i2, i3, h =>
    (gI 6 h r0 1).bind fun x1 =>
    if x1 ≤ i3 then
      some (i2, h)
    else
      (gA 6 h r0 4).bind fun a2 =>
      (aI 0 h a2 i3).bind fun x3 =>
      if x3 = (-1) then
        f_X6_lateTags_32 (f_X6_lateTags_4 n) r0 i1 i2 i3 i1 h
      else
        (gA 6 h r0 4).bind fun a4 =>
        (aI 0 h a4 i3).bind fun x5 =>
        f_X6_lateTags_32 (f_X6_lateTags_4 n) r0 i1 i2 i3 x5 h
set_option maxRecDepth 100000 in
set_option maxHeartbeats 4000000 in
theorem l_X6_lateTags_4 {X : MX} {l : Launch} {G : GX} {h0 : AH} {rr : Int32} {hr : AH} (C : Cx X G RX6 cX6_lateTags 5 (some .int) 0 0 h0) (C2 : Cy X l "lateTags" []) : ∀ (n : Nat) (r0 : Nat) (i1 : Int32) (i2 : Int32) (i3 : Int32) (h : AH), f_X6_lateTags_4 n r0 i1 i2 i3 h = some (rr, hr) → V X G h0 (QI rr hr) 4 [(0, .ref r0), (1, .int i1), (2, .int i2), (3, .int i3)] [] h := by
  intro n
  induction n with
  | zero => intro r0 i1 i2 i3 h hf; rw [f_X6_lateTags_4] at hf; cases hf
  | succ n ih =>
    intro r0 i1 i2 i3 h hf
    rw [f_X6_lateTags_4] at hf
    refine C.seg (pe := 6) (lv' := [(0, .ref r0), (1, .int i1), (2, .int i2), (3, .int i3)]) (st' := [.ref r0, .int i3]) [(.iload_n 3, 1, 0), (.aload_n 0, 1, 0)] (by decide +kernel) rfl ?_
    obtain ⟨x1, gx1, hf⟩ := Option.bind_eq_some_iff.mp hf
    refine C.rdI fr_335 gx1 (by decide +kernel) rfl ?_
    refine C.icmp_ge (off := 45) (tgt := 54) (pf := 12) (by decide +kernel) (by decide) rfl (fun c7 => ?_) (fun c7 => ?_)
    · replace hf := ifp c7 hf
      refine C.seg (pe := 55) (lv' := [(0, .ref r0), (1, .int i1), (2, .int i2), (3, .int i3)]) (st' := [.int i2]) [(.iload_n 2, 1, 0)] (by decide +kernel) rfl ?_
      cases hf
      exact C.retI rfl (by decide +kernel) ⟨rfl, rfl⟩
    · replace hf := ifn c7 hf
      refine C.seg (pe := 13) (lv' := [(0, .ref r0), (1, .int i1), (2, .int i2), (3, .int i3)]) (st' := [.ref r0]) [(.aload_n 0, 1, 0)] (by decide +kernel) rfl ?_
      obtain ⟨a2, ga2, hf⟩ := Option.bind_eq_some_iff.mp hf
      refine C.rdA fr_339 ga2 (by decide +kernel) rfl ?_
      refine C.seg (pe := 17) (lv' := [(0, .ref r0), (1, .int i1), (2, .int i2), (3, .int i3)]) (st' := [.int i3, .ref a2]) [(.iload_n 3, 1, 0)] (by decide +kernel) rfl ?_
      obtain ⟨x3, gx3, hf⟩ := Option.bind_eq_some_iff.mp hf
      refine C.ald 0 rfl gx3 (by decide +kernel) rfl ?_
      refine C.seg (pe := 19) (lv' := [(0, .ref r0), (1, .int i1), (2, .int i2), (3, .int i3)]) (st' := [.int (-1), .int x3]) [(.iconst (-1), 1, (-1))] (by decide +kernel) rfl ?_
      refine C.icmp_ne (off := 7) (tgt := 26) (pf := 22) (by decide +kernel) (by decide) rfl (fun c6 => ?_) (fun c6 => ?_)
      · replace hf := ifn c6 hf
        refine C.seg (pe := 27) (lv' := [(0, .ref r0), (1, .int i1), (2, .int i2), (3, .int i3)]) (st' := [.ref r0]) [(.aload_n 0, 1, 0)] (by decide +kernel) rfl ?_
        obtain ⟨a4, ga4, hf⟩ := Option.bind_eq_some_iff.mp hf
        refine C.rdA fr_339 ga4 (by decide +kernel) rfl ?_
        refine C.seg (pe := 31) (lv' := [(0, .ref r0), (1, .int i1), (2, .int i2), (3, .int i3)]) (st' := [.int i3, .ref a4]) [(.iload_n 3, 1, 0)] (by decide +kernel) rfl ?_
        obtain ⟨x5, gx5, hf⟩ := Option.bind_eq_some_iff.mp hf
        refine C.ald 0 rfl gx5 (by decide +kernel) rfl ?_
        exact l_X6_lateTags_32 C C2 ih r0 i1 i2 i3 x5 h hf
      · replace hf := ifp c6 hf
        refine C.seg (pe := 23) (lv' := [(0, .ref r0), (1, .int i1), (2, .int i2), (3, .int i3)]) (st' := [.int i1]) [(.iload_n 1, 1, 0)] (by decide +kernel) rfl ?_
        refine C.goto (off := 9) (tgt := 32) (by decide +kernel) (by decide) ?_
        exact l_X6_lateTags_32 C C2 ih r0 i1 i2 i3 i1 h hf
def f_X6_lateTags (a0 : Nat) (p1 : Int32) (h : AH) : Option (Int32 × AH) :=
  if isO 6 h a0 = true then
    f_X6_lateTags_4 FU a0 p1 0 0 h
  else none
set_option maxRecDepth 100000 in
set_option maxHeartbeats 4000000 in
theorem w_X6_lateTags {l : Launch} {G : GX} {a0 : Nat} {p1 : Int32} {h : AH} {rr : Int32} {hr : AH} (hf : f_X6_lateTags a0 p1 h = some (rr, hr)) : Ct l G yX6_lateTags 0 0 [.ref a0, .int p1] h (QI rr hr) := by
  unfold f_X6_lateTags at hf
  obtain ⟨ho, hf⟩ := ifO hf
  refine Ct_of (own := RX6) (cc := cX6_lateTags) (nL := 5) (ret := (some .int)) rfl rfl k_1529 (Nat.le_of_ble_eq_true rfl) (fun X C2 C => ?_)
  show V X G h (QI rr hr) 0 [(0, .ref a0), (1, .int p1)] [] h
  refine C.seg (pe := 4) (lv' := [(3, .int 0), (2, .int 0), (0, .ref a0), (1, .int p1)]) (st' := []) [(.iconst 0, 1, 0), (.istore_n 2, 1, 0), (.iconst 0, 1, 0), (.istore_n 3, 1, 0)] (by decide +kernel) rfl ?_
  refine Vsub [2, 3, 1, 0] rfl ?_
  exact l_X6_lateTags_4 C C2 FU a0 p1 0 0 h hf
theorem o_X6_lateTags {a0 : Nat} {p1 : Int32} {h : AH} {rr : Int32} {hr : AH} (hf : f_X6_lateTags a0 p1 h = some (rr, hr)) : isO 6 h a0 = true := by
  unfold f_X6_lateTags at hf
  exact (ifO hf).1
/-! WallHouse$Streets.mostUrgent(I)I -/
def f_X6_mostUrgent_117 (k7 : Nat → Int32 → Int32 → Int32 → Int32 → AH → Option (Int32 × AH)) (r0 : Nat) (i1 : Int32) (i2 : Int32) (i3 : Int32) (i4 : Int32) (h : AH) : Option (Int32 × AH) :=
  k7 r0 i1 i2 i3 (i4 + 1) h
set_option maxRecDepth 100000 in
set_option maxHeartbeats 4000000 in
theorem l_X6_mostUrgent_117 {X : MX} {l : Launch} {G : GX} {h0 : AH} {rr : Int32} {hr : AH} (C : Cx X G RX6 cX6_mostUrgent 7 (some .int) 3 65 h0) (C2 : Cy X l "mostUrgent" []) {k7 : Nat → Int32 → Int32 → Int32 → Int32 → AH → Option (Int32 × AH)} (hk7 : ∀ (r0 : Nat) (i1 : Int32) (i2 : Int32) (i3 : Int32) (i4 : Int32) (h : AH), k7 r0 i1 i2 i3 i4 h = some (rr, hr) → V X G h0 (QI rr hr) 7 [(0, .ref r0), (1, .int i1), (2, .int i2), (3, .int i3), (4, .int i4)] [] h) (r0 : Nat) (i1 : Int32) (i2 : Int32) (i3 : Int32) (i4 : Int32) (h : AH) (hf : f_X6_mostUrgent_117 k7 r0 i1 i2 i3 i4 h = some (rr, hr)) : V X G h0 (QI rr hr) 117 [(0, .ref r0), (1, .int i1), (2, .int i2), (3, .int i3), (4, .int i4)] [] h := by
  unfold f_X6_mostUrgent_117 at hf
  refine C.seg (pe := 120) (lv' := [(4, .int (i4 + 1)), (0, .ref r0), (1, .int i1), (2, .int i2), (3, .int i3)]) (st' := []) [(.iinc 4 1, 3, 1)] (by decide +kernel) rfl ?_
  refine C.goto (off := (-113)) (tgt := 7) (by decide +kernel) (by decide) ?_
  refine Vsub [1, 2, 3, 4, 0] rfl ?_
  exact hk7 r0 i1 i2 i3 (i4 + 1) h hf
def f_X6_mostUrgent_106 (k7 : Nat → Int32 → Int32 → Int32 → Int32 → AH → Option (Int32 × AH)) (r0 : Nat) (i1 : Int32) (i4 : Int32) (i5 : Int32) (h : AH) : Option (Int32 × AH) :=
  (gA 6 h r0 3).bind fun a1 =>
  (aI 0 h a1 i4).bind fun x2 =>
  f_X6_mostUrgent_117 k7 r0 i1 i5 x2 i4 h
set_option maxRecDepth 100000 in
set_option maxHeartbeats 4000000 in
theorem l_X6_mostUrgent_106 {X : MX} {l : Launch} {G : GX} {h0 : AH} {rr : Int32} {hr : AH} (C : Cx X G RX6 cX6_mostUrgent 7 (some .int) 3 65 h0) (C2 : Cy X l "mostUrgent" []) {k7 : Nat → Int32 → Int32 → Int32 → Int32 → AH → Option (Int32 × AH)} (hk7 : ∀ (r0 : Nat) (i1 : Int32) (i2 : Int32) (i3 : Int32) (i4 : Int32) (h : AH), k7 r0 i1 i2 i3 i4 h = some (rr, hr) → V X G h0 (QI rr hr) 7 [(0, .ref r0), (1, .int i1), (2, .int i2), (3, .int i3), (4, .int i4)] [] h) (r0 : Nat) (i1 : Int32) (i4 : Int32) (i5 : Int32) (h : AH) (hf : f_X6_mostUrgent_106 k7 r0 i1 i4 i5 h = some (rr, hr)) : V X G h0 (QI rr hr) 106 [(0, .ref r0), (1, .int i1), (4, .int i4), (5, .int i5)] [] h := by
  unfold f_X6_mostUrgent_106 at hf
  refine C.seg (pe := 110) (lv' := [(2, .int i5), (0, .ref r0), (1, .int i1), (4, .int i4), (5, .int i5)]) (st' := [.ref r0]) [(.iload 5, 2, 0), (.istore_n 2, 1, 0), (.aload_n 0, 1, 0)] (by decide +kernel) rfl ?_
  obtain ⟨a1, ga1, hf⟩ := Option.bind_eq_some_iff.mp hf
  refine C.rdA fr_338 ga1 (by decide +kernel) rfl ?_
  refine C.seg (pe := 115) (lv' := [(2, .int i5), (0, .ref r0), (1, .int i1), (4, .int i4), (5, .int i5)]) (st' := [.int i4, .ref a1]) [(.iload 4, 2, 0)] (by decide +kernel) rfl ?_
  obtain ⟨x2, gx2, hf⟩ := Option.bind_eq_some_iff.mp hf
  refine C.ald 0 rfl gx2 (by decide +kernel) rfl ?_
  refine C.seg (pe := 117) (lv' := [(3, .int x2), (2, .int i5), (0, .ref r0), (1, .int i1), (4, .int i4), (5, .int i5)]) (st' := []) [(.istore_n 3, 1, 0)] (by decide +kernel) rfl ?_
  refine Vsub [2, 3, 1, 0, 4] rfl ?_
  exact l_X6_mostUrgent_117 C C2 hk7 r0 i1 i5 x2 i4 h hf
def f_X6_mostUrgent_7 : Nat → Nat → Int32 → Int32 → Int32 → Int32 → AH → Option (Int32 × AH)
  | 0, _, _, _, _, _, _ => none
  | n + 1, r0, i1, i2, i3, i4, h =>
    (gI 6 h r0 1).bind fun x1 =>
    if x1 ≤ i4 then
      some (i2, h)
    else
      (gA 6 h r0 4).bind fun a2 =>
      (aI 0 h a2 i4).bind fun x3 =>
      if x3 = (-1) then
        (gA 6 h r0 2).bind fun a4 =>
        (aI 0 h a4 i4).bind fun x5 =>
        (gA 6 h r0 0).bind fun a6 =>
        b2 (f_X9_way a6 i1 x5 h) fun x7 h8 =>
        (gA 6 h8 r0 0).bind fun a9 =>
        b2 (f_X9_way a9 i1 i2 h8) fun x10 h11 =>
        b2 (f_J6_compare_7cf53 x7 x10 h11) fun x12 h13 =>
        if i2 = (-1) then
          f_X6_mostUrgent_106 (f_X6_mostUrgent_7 n) r0 i1 i4 x5 h13
        else
          (gA 6 h13 r0 3).bind fun a14 =>
          (aI 0 h13 a14 i4).bind fun x15 =>
          if x15 < i3 then
            f_X6_mostUrgent_106 (f_X6_mostUrgent_7 n) r0 i1 i4 x5 h13
          else
            (gA 6 h13 r0 3).bind fun a16 =>
            (aI 0 h13 a16 i4).bind fun x17 =>
            if x17 = i3 then
              if x12 < 0 then
                f_X6_mostUrgent_106 (f_X6_mostUrgent_7 n) r0 i1 i4 x5 h13
              else
                if x12 = 0 then
                  if i2 ≤ x5 then
                    f_X6_mostUrgent_117 (f_X6_mostUrgent_7 n) r0 i1 i2 i3 i4 h13
                  else
                    f_X6_mostUrgent_106 (f_X6_mostUrgent_7 n) r0 i1 i4 x5 h13
                else
                  f_X6_mostUrgent_117 (f_X6_mostUrgent_7 n) r0 i1 i2 i3 i4 h13
            else
              f_X6_mostUrgent_117 (f_X6_mostUrgent_7 n) r0 i1 i2 i3 i4 h13
      else
        f_X6_mostUrgent_117 (f_X6_mostUrgent_7 n) r0 i1 i2 i3 i4 h
set_option maxRecDepth 100000 in
set_option maxHeartbeats 4000000 in
theorem l_X6_mostUrgent_7 {X : MX} {l : Launch} {G : GX} {h0 : AH} {rr : Int32} {hr : AH} (C : Cx X G RX6 cX6_mostUrgent 7 (some .int) 3 65 h0) (C2 : Cy X l "mostUrgent" []) : ∀ (n : Nat) (r0 : Nat) (i1 : Int32) (i2 : Int32) (i3 : Int32) (i4 : Int32) (h : AH), f_X6_mostUrgent_7 n r0 i1 i2 i3 i4 h = some (rr, hr) → V X G h0 (QI rr hr) 7 [(0, .ref r0), (1, .int i1), (2, .int i2), (3, .int i3), (4, .int i4)] [] h := by
  intro n
  induction n with
  | zero => intro r0 i1 i2 i3 i4 h hf; rw [f_X6_mostUrgent_7] at hf; cases hf
  | succ n ih =>
    intro r0 i1 i2 i3 i4 h hf
    rw [f_X6_mostUrgent_7] at hf
    refine C.seg (pe := 10) (lv' := [(0, .ref r0), (1, .int i1), (2, .int i2), (3, .int i3), (4, .int i4)]) (st' := [.ref r0, .int i4]) [(.iload 4, 2, 0), (.aload_n 0, 1, 0)] (by decide +kernel) rfl ?_
    obtain ⟨x1, gx1, hf⟩ := Option.bind_eq_some_iff.mp hf
    refine C.rdI fr_335 gx1 (by decide +kernel) rfl ?_
    refine C.icmp_ge (off := 110) (tgt := 123) (pf := 16) (by decide +kernel) (by decide) rfl (fun c25 => ?_) (fun c25 => ?_)
    · replace hf := ifp c25 hf
      refine C.seg (pe := 124) (lv' := [(0, .ref r0), (1, .int i1), (2, .int i2), (3, .int i3), (4, .int i4)]) (st' := [.int i2]) [(.iload_n 2, 1, 0)] (by decide +kernel) rfl ?_
      cases hf
      exact C.retI rfl (by decide +kernel) ⟨rfl, rfl⟩
    · replace hf := ifn c25 hf
      refine C.seg (pe := 17) (lv' := [(0, .ref r0), (1, .int i1), (2, .int i2), (3, .int i3), (4, .int i4)]) (st' := [.ref r0]) [(.aload_n 0, 1, 0)] (by decide +kernel) rfl ?_
      obtain ⟨a2, ga2, hf⟩ := Option.bind_eq_some_iff.mp hf
      refine C.rdA fr_339 ga2 (by decide +kernel) rfl ?_
      refine C.seg (pe := 22) (lv' := [(0, .ref r0), (1, .int i1), (2, .int i2), (3, .int i3), (4, .int i4)]) (st' := [.int i4, .ref a2]) [(.iload 4, 2, 0)] (by decide +kernel) rfl ?_
      obtain ⟨x3, gx3, hf⟩ := Option.bind_eq_some_iff.mp hf
      refine C.ald 0 rfl gx3 (by decide +kernel) rfl ?_
      refine C.seg (pe := 24) (lv' := [(0, .ref r0), (1, .int i1), (2, .int i2), (3, .int i3), (4, .int i4)]) (st' := [.int (-1), .int x3]) [(.iconst (-1), 1, (-1))] (by decide +kernel) rfl ?_
      refine C.icmp_eq (off := 6) (tgt := 30) (pf := 27) (by decide +kernel) (by decide) rfl (fun c24 => ?_) (fun c24 => ?_)
      · replace hf := ifp c24 hf
        refine C.seg (pe := 31) (lv' := [(0, .ref r0), (1, .int i1), (2, .int i2), (3, .int i3), (4, .int i4)]) (st' := [.ref r0]) [(.aload_n 0, 1, 0)] (by decide +kernel) rfl ?_
        obtain ⟨a4, ga4, hf⟩ := Option.bind_eq_some_iff.mp hf
        refine C.rdA fr_337 ga4 (by decide +kernel) rfl ?_
        refine C.seg (pe := 36) (lv' := [(0, .ref r0), (1, .int i1), (2, .int i2), (3, .int i3), (4, .int i4)]) (st' := [.int i4, .ref a4]) [(.iload 4, 2, 0)] (by decide +kernel) rfl ?_
        obtain ⟨x5, gx5, hf⟩ := Option.bind_eq_some_iff.mp hf
        refine C.ald 0 rfl gx5 (by decide +kernel) rfl ?_
        refine C.seg (pe := 40) (lv' := [(5, .int x5), (0, .ref r0), (1, .int i1), (2, .int i2), (3, .int i3), (4, .int i4)]) (st' := [.ref r0]) [(.istore 5, 2, 0), (.aload_n 0, 1, 0)] (by decide +kernel) rfl ?_
        obtain ⟨a6, ga6, hf⟩ := Option.bind_eq_some_iff.mp hf
        refine C.rdA fr_334 ga6 (by decide +kernel) rfl ?_
        refine C.seg (pe := 46) (lv' := [(5, .int x5), (0, .ref r0), (1, .int i1), (2, .int i2), (3, .int i3), (4, .int i4)]) (st' := [.int x5, .int i1, .ref a6]) [(.iload_n 1, 1, 0), (.iload 5, 2, 0)] (by decide +kernel) rfl ?_
        obtain ⟨x7, h8, gx7, hf⟩ := b2_some hf
        refine C.callVr C2 [.int i1, .int x5] [] mv_1542 rfl (o_X9_way gx7) (w_X9_way gx7) (by omega) (by omega) (Nat.le_of_ble_eq_true rfl) (by decide +kernel) rfl ?_
        refine C.seg (pe := 50) (lv' := [(5, .int x5), (0, .ref r0), (1, .int i1), (2, .int i2), (3, .int i3), (4, .int i4)]) (st' := [.ref r0, .int x7]) [(.aload_n 0, 1, 0)] (by decide +kernel) rfl ?_
        obtain ⟨a9, ga9, hf⟩ := Option.bind_eq_some_iff.mp hf
        refine C.rdA fr_334 ga9 (by decide +kernel) rfl ?_
        refine C.seg (pe := 55) (lv' := [(5, .int x5), (0, .ref r0), (1, .int i1), (2, .int i2), (3, .int i3), (4, .int i4)]) (st' := [.int i2, .int i1, .ref a9, .int x7]) [(.iload_n 1, 1, 0), (.iload_n 2, 1, 0)] (by decide +kernel) rfl ?_
        obtain ⟨x10, h11, gx10, hf⟩ := b2_some hf
        refine C.callVr C2 [.int i1, .int i2] [.int x7] mv_1542 rfl (o_X9_way gx10) (w_X9_way gx10) (by omega) (by omega) (Nat.le_of_ble_eq_true rfl) (by decide +kernel) rfl ?_
        obtain ⟨x12, h13, gx12, hf⟩ := b2_some hf
        refine C.callSr C2 [.int x7, .int x10] [] ms_1546 rfl (w_J6_compare_7cf53 gx12) (by omega) (by omega) (Nat.le_of_ble_eq_true rfl) (by decide +kernel) rfl ?_
        refine C.seg (pe := 65) (lv' := [(6, .int x12), (5, .int x5), (0, .ref r0), (1, .int i1), (2, .int i2), (3, .int i3), (4, .int i4)]) (st' := [.int (-1), .int i2]) [(.istore 6, 2, 0), (.iload_n 2, 1, 0), (.iconst (-1), 1, (-1))] (by decide +kernel) rfl ?_
        refine C.icmp_eq (off := 41) (tgt := 106) (pf := 68) (by decide +kernel) (by decide) rfl (fun c23 => ?_) (fun c23 => ?_)
        · replace hf := ifp c23 hf
          refine Vsub [2, 3, 6, 1] rfl ?_
          exact l_X6_mostUrgent_106 C C2 ih r0 i1 i4 x5 h13 hf
        · replace hf := ifn c23 hf
          refine C.seg (pe := 69) (lv' := [(6, .int x12), (5, .int x5), (0, .ref r0), (1, .int i1), (2, .int i2), (3, .int i3), (4, .int i4)]) (st' := [.ref r0]) [(.aload_n 0, 1, 0)] (by decide +kernel) rfl ?_
          obtain ⟨a14, ga14, hf⟩ := Option.bind_eq_some_iff.mp hf
          refine C.rdA fr_338 ga14 (by decide +kernel) rfl ?_
          refine C.seg (pe := 74) (lv' := [(6, .int x12), (5, .int x5), (0, .ref r0), (1, .int i1), (2, .int i2), (3, .int i3), (4, .int i4)]) (st' := [.int i4, .ref a14]) [(.iload 4, 2, 0)] (by decide +kernel) rfl ?_
          obtain ⟨x15, gx15, hf⟩ := Option.bind_eq_some_iff.mp hf
          refine C.ald 0 rfl gx15 (by decide +kernel) rfl ?_
          refine C.seg (pe := 76) (lv' := [(6, .int x12), (5, .int x5), (0, .ref r0), (1, .int i1), (2, .int i2), (3, .int i3), (4, .int i4)]) (st' := [.int i3, .int x15]) [(.iload_n 3, 1, 0)] (by decide +kernel) rfl ?_
          refine C.icmp_lt (off := 30) (tgt := 106) (pf := 79) (by decide +kernel) (by decide) rfl (fun c22 => ?_) (fun c22 => ?_)
          · replace hf := ifp c22 hf
            refine Vsub [2, 3, 6, 1] rfl ?_
            exact l_X6_mostUrgent_106 C C2 ih r0 i1 i4 x5 h13 hf
          · replace hf := ifn c22 hf
            refine C.seg (pe := 80) (lv' := [(6, .int x12), (5, .int x5), (0, .ref r0), (1, .int i1), (2, .int i2), (3, .int i3), (4, .int i4)]) (st' := [.ref r0]) [(.aload_n 0, 1, 0)] (by decide +kernel) rfl ?_
            obtain ⟨a16, ga16, hf⟩ := Option.bind_eq_some_iff.mp hf
            refine C.rdA fr_338 ga16 (by decide +kernel) rfl ?_
            refine C.seg (pe := 85) (lv' := [(6, .int x12), (5, .int x5), (0, .ref r0), (1, .int i1), (2, .int i2), (3, .int i3), (4, .int i4)]) (st' := [.int i4, .ref a16]) [(.iload 4, 2, 0)] (by decide +kernel) rfl ?_
            obtain ⟨x17, gx17, hf⟩ := Option.bind_eq_some_iff.mp hf
            refine C.ald 0 rfl gx17 (by decide +kernel) rfl ?_
            refine C.seg (pe := 87) (lv' := [(6, .int x12), (5, .int x5), (0, .ref r0), (1, .int i1), (2, .int i2), (3, .int i3), (4, .int i4)]) (st' := [.int i3, .int x17]) [(.iload_n 3, 1, 0)] (by decide +kernel) rfl ?_
            refine C.icmp_ne (off := 30) (tgt := 117) (pf := 90) (by decide +kernel) (by decide) rfl (fun c21 => ?_) (fun c21 => ?_)
            · replace hf := ifn c21 hf
              refine Vsub [2, 3, 4, 5, 6] rfl ?_
              exact l_X6_mostUrgent_117 C C2 ih r0 i1 i2 i3 i4 h13 hf
            · replace hf := ifp c21 hf
              refine C.seg (pe := 92) (lv' := [(6, .int x12), (5, .int x5), (0, .ref r0), (1, .int i1), (2, .int i2), (3, .int i3), (4, .int i4)]) (st' := [.int x12]) [(.iload 6, 2, 0)] (by decide +kernel) rfl ?_
              refine C.if_lt (off := 14) (tgt := 106) (pf := 95) (by decide +kernel) (by decide) rfl (fun c20 => ?_) (fun c20 => ?_)
              · replace hf := ifp c20 hf
                refine Vsub [2, 3, 6, 1] rfl ?_
                exact l_X6_mostUrgent_106 C C2 ih r0 i1 i4 x5 h13 hf
              · replace hf := ifn c20 hf
                refine C.seg (pe := 97) (lv' := [(6, .int x12), (5, .int x5), (0, .ref r0), (1, .int i1), (2, .int i2), (3, .int i3), (4, .int i4)]) (st' := [.int x12]) [(.iload 6, 2, 0)] (by decide +kernel) rfl ?_
                refine C.if_ne (off := 20) (tgt := 117) (pf := 100) (by decide +kernel) (by decide) rfl (fun c19 => ?_) (fun c19 => ?_)
                · replace hf := ifn c19 hf
                  refine Vsub [2, 3, 4, 5, 6] rfl ?_
                  exact l_X6_mostUrgent_117 C C2 ih r0 i1 i2 i3 i4 h13 hf
                · replace hf := ifp c19 hf
                  refine C.seg (pe := 103) (lv' := [(6, .int x12), (5, .int x5), (0, .ref r0), (1, .int i1), (2, .int i2), (3, .int i3), (4, .int i4)]) (st' := [.int i2, .int x5]) [(.iload 5, 2, 0), (.iload_n 2, 1, 0)] (by decide +kernel) rfl ?_
                  refine C.icmp_ge (off := 14) (tgt := 117) (pf := 106) (by decide +kernel) (by decide) rfl (fun c18 => ?_) (fun c18 => ?_)
                  · replace hf := ifp c18 hf
                    refine Vsub [2, 3, 4, 5, 6] rfl ?_
                    exact l_X6_mostUrgent_117 C C2 ih r0 i1 i2 i3 i4 h13 hf
                  · replace hf := ifn c18 hf
                    refine Vsub [2, 3, 6, 1] rfl ?_
                    exact l_X6_mostUrgent_106 C C2 ih r0 i1 i4 x5 h13 hf
      · replace hf := ifn c24 hf
        refine C.goto (off := 90) (tgt := 117) (by decide +kernel) (by decide) ?_
        exact l_X6_mostUrgent_117 C C2 ih r0 i1 i2 i3 i4 h hf
def f_X6_mostUrgent (a0 : Nat) (p1 : Int32) (h : AH) : Option (Int32 × AH) :=
  if isO 6 h a0 = true then
    f_X6_mostUrgent_7 FU a0 p1 (-1) 0 0 h
  else none
set_option maxRecDepth 100000 in
set_option maxHeartbeats 4000000 in
theorem w_X6_mostUrgent {l : Launch} {G : GX} {a0 : Nat} {p1 : Int32} {h : AH} {rr : Int32} {hr : AH} (hf : f_X6_mostUrgent a0 p1 h = some (rr, hr)) : Ct l G yX6_mostUrgent 3 65 [.ref a0, .int p1] h (QI rr hr) := by
  unfold f_X6_mostUrgent at hf
  obtain ⟨ho, hf⟩ := ifO hf
  refine Ct_of (own := RX6) (cc := cX6_mostUrgent) (nL := 7) (ret := (some .int)) rfl rfl k_1541 (Nat.le_of_ble_eq_true rfl) (fun X C2 C => ?_)
  show V X G h (QI rr hr) 0 [(0, .ref a0), (1, .int p1)] [] h
  refine C.seg (pe := 7) (lv' := [(4, .int 0), (3, .int 0), (2, .int (-1)), (0, .ref a0), (1, .int p1)]) (st' := []) [(.iconst (-1), 1, (-1)), (.istore_n 2, 1, 0), (.iconst 0, 1, 0), (.istore_n 3, 1, 0), (.iconst 0, 1, 0), (.istore 4, 2, 0)] (by decide +kernel) rfl ?_
  refine Vsub [3, 4, 2, 1, 0] rfl ?_
  exact l_X6_mostUrgent_7 C C2 FU a0 p1 (-1) 0 0 h hf
theorem o_X6_mostUrgent {a0 : Nat} {p1 : Int32} {h : AH} {rr : Int32} {hr : AH} (hf : f_X6_mostUrgent a0 p1 h = some (rr, hr)) : isO 6 h a0 = true := by
  unfold f_X6_mostUrgent at hf
  exact (ifO hf).1
/-! WallHouse$Streets.openTags(I)I -/
def f_X6_openTags_35 (k4 : Nat → Int32 → Int32 → Int32 → AH → Option (Int32 × AH)) (r0 : Nat) (i1 : Int32) (i2 : Int32) (i3 : Int32) (h : AH) : Option (Int32 × AH) :=
  k4 r0 i1 i2 (i3 + 1) h
set_option maxRecDepth 100000 in
set_option maxHeartbeats 4000000 in
theorem l_X6_openTags_35 {X : MX} {l : Launch} {G : GX} {h0 : AH} {rr : Int32} {hr : AH} (C : Cx X G RX6 cX6_openTags 4 (some .int) 0 0 h0) (C2 : Cy X l "openTags" []) {k4 : Nat → Int32 → Int32 → Int32 → AH → Option (Int32 × AH)} (hk4 : ∀ (r0 : Nat) (i1 : Int32) (i2 : Int32) (i3 : Int32) (h : AH), k4 r0 i1 i2 i3 h = some (rr, hr) → V X G h0 (QI rr hr) 4 [(0, .ref r0), (1, .int i1), (2, .int i2), (3, .int i3)] [] h) (r0 : Nat) (i1 : Int32) (i2 : Int32) (i3 : Int32) (h : AH) (hf : f_X6_openTags_35 k4 r0 i1 i2 i3 h = some (rr, hr)) : V X G h0 (QI rr hr) 35 [(0, .ref r0), (1, .int i1), (2, .int i2), (3, .int i3)] [] h := by
  unfold f_X6_openTags_35 at hf
  refine C.seg (pe := 38) (lv' := [(3, .int (i3 + 1)), (0, .ref r0), (1, .int i1), (2, .int i2)]) (st' := []) [(.iinc 3 1, 3, 1)] (by decide +kernel) rfl ?_
  refine C.goto (off := (-34)) (tgt := 4) (by decide +kernel) (by decide) ?_
  refine Vsub [1, 2, 3, 0] rfl ?_
  exact hk4 r0 i1 i2 (i3 + 1) h hf
def f_X6_openTags_4 : Nat → Nat → Int32 → Int32 → Int32 → AH → Option (Int32 × AH)
  | 0, _, _, _, _, _ => none
  | n + 1, r0, i1, i2, i3, h =>
    (gI 6 h r0 1).bind fun x1 =>
    if x1 ≤ i3 then
      some (i2, h)
    else
      (gA 6 h r0 2).bind fun a2 =>
      (aI 0 h a2 i3).bind fun x3 =>
      if x3 = i1 then
        (gA 6 h r0 4).bind fun a4 =>
        (aI 0 h a4 i3).bind fun x5 =>
        if x5 = (-1) then
          f_X6_openTags_35 (f_X6_openTags_4 n) r0 i1 (i2 + 1) i3 h
        else
          f_X6_openTags_35 (f_X6_openTags_4 n) r0 i1 i2 i3 h
      else
        f_X6_openTags_35 (f_X6_openTags_4 n) r0 i1 i2 i3 h
set_option maxRecDepth 100000 in
set_option maxHeartbeats 4000000 in
theorem l_X6_openTags_4 {X : MX} {l : Launch} {G : GX} {h0 : AH} {rr : Int32} {hr : AH} (C : Cx X G RX6 cX6_openTags 4 (some .int) 0 0 h0) (C2 : Cy X l "openTags" []) : ∀ (n : Nat) (r0 : Nat) (i1 : Int32) (i2 : Int32) (i3 : Int32) (h : AH), f_X6_openTags_4 n r0 i1 i2 i3 h = some (rr, hr) → V X G h0 (QI rr hr) 4 [(0, .ref r0), (1, .int i1), (2, .int i2), (3, .int i3)] [] h := by
  intro n
  induction n with
  | zero => intro r0 i1 i2 i3 h hf; rw [f_X6_openTags_4] at hf; cases hf
  | succ n ih =>
    intro r0 i1 i2 i3 h hf
    rw [f_X6_openTags_4] at hf
    refine C.seg (pe := 6) (lv' := [(0, .ref r0), (1, .int i1), (2, .int i2), (3, .int i3)]) (st' := [.ref r0, .int i3]) [(.iload_n 3, 1, 0), (.aload_n 0, 1, 0)] (by decide +kernel) rfl ?_
    obtain ⟨x1, gx1, hf⟩ := Option.bind_eq_some_iff.mp hf
    refine C.rdI fr_335 gx1 (by decide +kernel) rfl ?_
    refine C.icmp_ge (off := 32) (tgt := 41) (pf := 12) (by decide +kernel) (by decide) rfl (fun c8 => ?_) (fun c8 => ?_)
    · replace hf := ifp c8 hf
      refine C.seg (pe := 42) (lv' := [(0, .ref r0), (1, .int i1), (2, .int i2), (3, .int i3)]) (st' := [.int i2]) [(.iload_n 2, 1, 0)] (by decide +kernel) rfl ?_
      cases hf
      exact C.retI rfl (by decide +kernel) ⟨rfl, rfl⟩
    · replace hf := ifn c8 hf
      refine C.seg (pe := 13) (lv' := [(0, .ref r0), (1, .int i1), (2, .int i2), (3, .int i3)]) (st' := [.ref r0]) [(.aload_n 0, 1, 0)] (by decide +kernel) rfl ?_
      obtain ⟨a2, ga2, hf⟩ := Option.bind_eq_some_iff.mp hf
      refine C.rdA fr_337 ga2 (by decide +kernel) rfl ?_
      refine C.seg (pe := 17) (lv' := [(0, .ref r0), (1, .int i1), (2, .int i2), (3, .int i3)]) (st' := [.int i3, .ref a2]) [(.iload_n 3, 1, 0)] (by decide +kernel) rfl ?_
      obtain ⟨x3, gx3, hf⟩ := Option.bind_eq_some_iff.mp hf
      refine C.ald 0 rfl gx3 (by decide +kernel) rfl ?_
      refine C.seg (pe := 19) (lv' := [(0, .ref r0), (1, .int i1), (2, .int i2), (3, .int i3)]) (st' := [.int i1, .int x3]) [(.iload_n 1, 1, 0)] (by decide +kernel) rfl ?_
      refine C.icmp_ne (off := 16) (tgt := 35) (pf := 22) (by decide +kernel) (by decide) rfl (fun c7 => ?_) (fun c7 => ?_)
      · replace hf := ifn c7 hf
        exact l_X6_openTags_35 C C2 ih r0 i1 i2 i3 h hf
      · replace hf := ifp c7 hf
        refine C.seg (pe := 23) (lv' := [(0, .ref r0), (1, .int i1), (2, .int i2), (3, .int i3)]) (st' := [.ref r0]) [(.aload_n 0, 1, 0)] (by decide +kernel) rfl ?_
        obtain ⟨a4, ga4, hf⟩ := Option.bind_eq_some_iff.mp hf
        refine C.rdA fr_339 ga4 (by decide +kernel) rfl ?_
        refine C.seg (pe := 27) (lv' := [(0, .ref r0), (1, .int i1), (2, .int i2), (3, .int i3)]) (st' := [.int i3, .ref a4]) [(.iload_n 3, 1, 0)] (by decide +kernel) rfl ?_
        obtain ⟨x5, gx5, hf⟩ := Option.bind_eq_some_iff.mp hf
        refine C.ald 0 rfl gx5 (by decide +kernel) rfl ?_
        refine C.seg (pe := 29) (lv' := [(0, .ref r0), (1, .int i1), (2, .int i2), (3, .int i3)]) (st' := [.int (-1), .int x5]) [(.iconst (-1), 1, (-1))] (by decide +kernel) rfl ?_
        refine C.icmp_ne (off := 6) (tgt := 35) (pf := 32) (by decide +kernel) (by decide) rfl (fun c6 => ?_) (fun c6 => ?_)
        · replace hf := ifn c6 hf
          exact l_X6_openTags_35 C C2 ih r0 i1 i2 i3 h hf
        · replace hf := ifp c6 hf
          refine C.seg (pe := 35) (lv' := [(2, .int (i2 + 1)), (0, .ref r0), (1, .int i1), (3, .int i3)]) (st' := []) [(.iinc 2 1, 3, 1)] (by decide +kernel) rfl ?_
          refine Vsub [1, 2, 0, 3] rfl ?_
          exact l_X6_openTags_35 C C2 ih r0 i1 (i2 + 1) i3 h hf
def f_X6_openTags (a0 : Nat) (p1 : Int32) (h : AH) : Option (Int32 × AH) :=
  if isO 6 h a0 = true then
    f_X6_openTags_4 FU a0 p1 0 0 h
  else none
set_option maxRecDepth 100000 in
set_option maxHeartbeats 4000000 in
theorem w_X6_openTags {l : Launch} {G : GX} {a0 : Nat} {p1 : Int32} {h : AH} {rr : Int32} {hr : AH} (hf : f_X6_openTags a0 p1 h = some (rr, hr)) : Ct l G yX6_openTags 0 0 [.ref a0, .int p1] h (QI rr hr) := by
  unfold f_X6_openTags at hf
  obtain ⟨ho, hf⟩ := ifO hf
  refine Ct_of (own := RX6) (cc := cX6_openTags) (nL := 4) (ret := (some .int)) rfl rfl k_1552 (Nat.le_of_ble_eq_true rfl) (fun X C2 C => ?_)
  show V X G h (QI rr hr) 0 [(0, .ref a0), (1, .int p1)] [] h
  refine C.seg (pe := 4) (lv' := [(3, .int 0), (2, .int 0), (0, .ref a0), (1, .int p1)]) (st' := []) [(.iconst 0, 1, 0), (.istore_n 2, 1, 0), (.iconst 0, 1, 0), (.istore_n 3, 1, 0)] (by decide +kernel) rfl ?_
  refine Vsub [2, 3, 1, 0] rfl ?_
  exact l_X6_openTags_4 C C2 FU a0 p1 0 0 h hf
theorem o_X6_openTags {a0 : Nat} {p1 : Int32} {h : AH} {rr : Int32} {hr : AH} (hf : f_X6_openTags a0 p1 h = some (rr, hr)) : isO 6 h a0 = true := by
  unfold f_X6_openTags at hf
  exact (ifO hf).1
/-! WallHouse$Streets.goRound(II)I -/
def f_X6_goRound_114 (k11 : Nat → Int32 → Int32 → Int32 → Int32 → Int32 → AH → Option (Int32 × AH)) (k80 : Nat → Int32 → Int32 → Int32 → Int32 → Int32 → Int32 → Int32 → AH → Option (Int32 × AH)) (r0 : Nat) (i2 : Int32) (i3 : Int32) (i4 : Int32) (i5 : Int32) (i6 : Int32) (i7 : Int32) (i9 : Int32) (h : AH) : Option (Int32 × AH) :=
  k80 r0 i2 i3 i4 i5 i6 i7 (i9 + 1) h
set_option maxRecDepth 100000 in
set_option maxHeartbeats 4000000 in
theorem l_X6_goRound_114 {X : MX} {l : Launch} {G : GX} {h0 : AH} {rr : Int32} {hr : AH} (C : Cx X G RX6 cX6_goRound 10 (some .int) 4 91 h0) (C2 : Cy X l "goRound" []) {k11 : Nat → Int32 → Int32 → Int32 → Int32 → Int32 → AH → Option (Int32 × AH)} (hk11 : ∀ (r0 : Nat) (i2 : Int32) (i3 : Int32) (i4 : Int32) (i5 : Int32) (i6 : Int32) (h : AH), k11 r0 i2 i3 i4 i5 i6 h = some (rr, hr) → V X G h0 (QI rr hr) 11 [(0, .ref r0), (2, .int i2), (3, .int i3), (4, .int i4), (5, .int i5), (6, .int i6)] [] h) {k80 : Nat → Int32 → Int32 → Int32 → Int32 → Int32 → Int32 → Int32 → AH → Option (Int32 × AH)} (hk80 : ∀ (r0 : Nat) (i2 : Int32) (i3 : Int32) (i4 : Int32) (i5 : Int32) (i6 : Int32) (i7 : Int32) (i9 : Int32) (h : AH), k80 r0 i2 i3 i4 i5 i6 i7 i9 h = some (rr, hr) → V X G h0 (QI rr hr) 80 [(0, .ref r0), (2, .int i2), (3, .int i3), (4, .int i4), (5, .int i5), (6, .int i6), (7, .int i7), (9, .int i9)] [] h) (r0 : Nat) (i2 : Int32) (i3 : Int32) (i4 : Int32) (i5 : Int32) (i6 : Int32) (i7 : Int32) (i9 : Int32) (h : AH) (hf : f_X6_goRound_114 k11 k80 r0 i2 i3 i4 i5 i6 i7 i9 h = some (rr, hr)) : V X G h0 (QI rr hr) 114 [(0, .ref r0), (2, .int i2), (3, .int i3), (4, .int i4), (5, .int i5), (6, .int i6), (7, .int i7), (9, .int i9)] [] h := by
  unfold f_X6_goRound_114 at hf
  refine C.seg (pe := 117) (lv' := [(9, .int (i9 + 1)), (0, .ref r0), (2, .int i2), (3, .int i3), (4, .int i4), (5, .int i5), (6, .int i6), (7, .int i7)]) (st' := []) [(.iinc 9 1, 3, 1)] (by decide +kernel) rfl ?_
  refine C.goto (off := (-37)) (tgt := 80) (by decide +kernel) (by decide) ?_
  refine Vsub [1, 2, 3, 4, 5, 6, 7, 0] rfl ?_
  exact hk80 r0 i2 i3 i4 i5 i6 i7 (i9 + 1) h hf
def f_X6_goRound_80 (k11 : Nat → Int32 → Int32 → Int32 → Int32 → Int32 → AH → Option (Int32 × AH)) : Nat → Nat → Int32 → Int32 → Int32 → Int32 → Int32 → Int32 → Int32 → AH → Option (Int32 × AH)
  | 0, _, _, _, _, _, _, _, _, _ => none
  | n + 1, r0, i2, i3, i4, i5, i6, i7, i9, h =>
    (gI 6 h r0 1).bind fun x1 =>
    if x1 ≤ i9 then
      k11 r0 i2 i3 i4 i5 (i6 + 1) h
    else
      (gA 6 h r0 2).bind fun a2 =>
      (aI 0 h a2 i9).bind fun x3 =>
      if x3 = i7 then
        b2 (f_X6_cleanTag r0 i9 i2 h) fun x4 h5 =>
        if x4 = 0 then
          f_X6_goRound_114 k11 (f_X6_goRound_80 k11 n) r0 i2 i3 i4 i5 i6 i7 i9 h5
        else
          f_X6_goRound_114 k11 (f_X6_goRound_80 k11 n) r0 i2 (i3 + 1) i4 i5 i6 i7 i9 h5
      else
        f_X6_goRound_114 k11 (f_X6_goRound_80 k11 n) r0 i2 i3 i4 i5 i6 i7 i9 h
set_option maxRecDepth 100000 in
set_option maxHeartbeats 4000000 in
theorem l_X6_goRound_80 {X : MX} {l : Launch} {G : GX} {h0 : AH} {rr : Int32} {hr : AH} (C : Cx X G RX6 cX6_goRound 10 (some .int) 4 91 h0) (C2 : Cy X l "goRound" []) {k11 : Nat → Int32 → Int32 → Int32 → Int32 → Int32 → AH → Option (Int32 × AH)} (hk11 : ∀ (r0 : Nat) (i2 : Int32) (i3 : Int32) (i4 : Int32) (i5 : Int32) (i6 : Int32) (h : AH), k11 r0 i2 i3 i4 i5 i6 h = some (rr, hr) → V X G h0 (QI rr hr) 11 [(0, .ref r0), (2, .int i2), (3, .int i3), (4, .int i4), (5, .int i5), (6, .int i6)] [] h) : ∀ (n : Nat) (r0 : Nat) (i2 : Int32) (i3 : Int32) (i4 : Int32) (i5 : Int32) (i6 : Int32) (i7 : Int32) (i9 : Int32) (h : AH), f_X6_goRound_80 k11 n r0 i2 i3 i4 i5 i6 i7 i9 h = some (rr, hr) → V X G h0 (QI rr hr) 80 [(0, .ref r0), (2, .int i2), (3, .int i3), (4, .int i4), (5, .int i5), (6, .int i6), (7, .int i7), (9, .int i9)] [] h := by
  intro n
  induction n with
  | zero => intro r0 i2 i3 i4 i5 i6 i7 i9 h hf; rw [f_X6_goRound_80] at hf; cases hf
  | succ n ih =>
    intro r0 i2 i3 i4 i5 i6 i7 i9 h hf
    rw [f_X6_goRound_80] at hf
    refine C.seg (pe := 83) (lv' := [(0, .ref r0), (2, .int i2), (3, .int i3), (4, .int i4), (5, .int i5), (6, .int i6), (7, .int i7), (9, .int i9)]) (st' := [.ref r0, .int i9]) [(.iload 9, 2, 0), (.aload_n 0, 1, 0)] (by decide +kernel) rfl ?_
    obtain ⟨x1, gx1, hf⟩ := Option.bind_eq_some_iff.mp hf
    refine C.rdI fr_335 gx1 (by decide +kernel) rfl ?_
    refine C.icmp_ge (off := 34) (tgt := 120) (pf := 89) (by decide +kernel) (by decide) rfl (fun c8 => ?_) (fun c8 => ?_)
    · replace hf := ifp c8 hf
      refine C.seg (pe := 123) (lv' := [(6, .int (i6 + 1)), (0, .ref r0), (2, .int i2), (3, .int i3), (4, .int i4), (5, .int i5), (7, .int i7), (9, .int i9)]) (st' := []) [(.iinc 6 1, 3, 1)] (by decide +kernel) rfl ?_
      refine C.goto (off := (-112)) (tgt := 11) (by decide +kernel) (by decide) ?_
      refine Vsub [1, 2, 3, 4, 5, 0] rfl ?_
      exact hk11 r0 i2 i3 i4 i5 (i6 + 1) h hf
    · replace hf := ifn c8 hf
      refine C.seg (pe := 90) (lv' := [(0, .ref r0), (2, .int i2), (3, .int i3), (4, .int i4), (5, .int i5), (6, .int i6), (7, .int i7), (9, .int i9)]) (st' := [.ref r0]) [(.aload_n 0, 1, 0)] (by decide +kernel) rfl ?_
      obtain ⟨a2, ga2, hf⟩ := Option.bind_eq_some_iff.mp hf
      refine C.rdA fr_337 ga2 (by decide +kernel) rfl ?_
      refine C.seg (pe := 95) (lv' := [(0, .ref r0), (2, .int i2), (3, .int i3), (4, .int i4), (5, .int i5), (6, .int i6), (7, .int i7), (9, .int i9)]) (st' := [.int i9, .ref a2]) [(.iload 9, 2, 0)] (by decide +kernel) rfl ?_
      obtain ⟨x3, gx3, hf⟩ := Option.bind_eq_some_iff.mp hf
      refine C.ald 0 rfl gx3 (by decide +kernel) rfl ?_
      refine C.seg (pe := 98) (lv' := [(0, .ref r0), (2, .int i2), (3, .int i3), (4, .int i4), (5, .int i5), (6, .int i6), (7, .int i7), (9, .int i9)]) (st' := [.int i7, .int x3]) [(.iload 7, 2, 0)] (by decide +kernel) rfl ?_
      refine C.icmp_ne (off := 16) (tgt := 114) (pf := 101) (by decide +kernel) (by decide) rfl (fun c7 => ?_) (fun c7 => ?_)
      · replace hf := ifn c7 hf
        exact l_X6_goRound_114 C C2 hk11 ih r0 i2 i3 i4 i5 i6 i7 i9 h hf
      · replace hf := ifp c7 hf
        refine C.seg (pe := 105) (lv' := [(0, .ref r0), (2, .int i2), (3, .int i3), (4, .int i4), (5, .int i5), (6, .int i6), (7, .int i7), (9, .int i9)]) (st' := [.int i2, .int i9, .ref r0]) [(.aload_n 0, 1, 0), (.iload 9, 2, 0), (.iload_n 2, 1, 0)] (by decide +kernel) rfl ?_
        obtain ⟨x4, h5, gx4, hf⟩ := b2_some hf
        refine C.callVr C2 [.int i9, .int i2] [] mv_1553 rfl (o_X6_cleanTag gx4) (w_X6_cleanTag gx4) (by omega) (by omega) (Nat.le_of_ble_eq_true rfl) (by decide +kernel) rfl ?_
        refine C.if_eq (off := 6) (tgt := 114) (pf := 111) (by decide +kernel) (by decide) rfl (fun c6 => ?_) (fun c6 => ?_)
        · replace hf := ifp c6 hf
          exact l_X6_goRound_114 C C2 hk11 ih r0 i2 i3 i4 i5 i6 i7 i9 h5 hf
        · replace hf := ifn c6 hf
          refine C.seg (pe := 114) (lv' := [(3, .int (i3 + 1)), (0, .ref r0), (2, .int i2), (4, .int i4), (5, .int i5), (6, .int i6), (7, .int i7), (9, .int i9)]) (st' := []) [(.iinc 3 1, 3, 1)] (by decide +kernel) rfl ?_
          refine Vsub [1, 2, 0, 3, 4, 5, 6, 7] rfl ?_
          exact l_X6_goRound_114 C C2 hk11 ih r0 i2 (i3 + 1) i4 i5 i6 i7 i9 h5 hf
def f_X6_goRound_11 : Nat → Nat → Int32 → Int32 → Int32 → Int32 → Int32 → AH → Option (Int32 × AH)
  | 0, _, _, _, _, _, _, _ => none
  | n + 1, r0, i2, i3, i4, i5, i6, h =>
    if 16 ≤ i6 then
      some (i3, h)
    else
      b2 (f_X6_mostUrgent r0 i5 h) fun x1 h2 =>
      if x1 = (-1) then
        some (i3, h2)
      else
        (gA 6 h2 r0 0).bind fun a3 =>
        b2 (f_X9_way a3 i5 x1 h2) fun x4 h5 =>
        b2 (f_X6_openTags r0 x1 h5) fun x6 h7 =>
        if x4 + (10 * x6) ≤ i4 then
          lt (i4 - (x4 + (10 * x6)) : Int32) fun x8 =>
          f_X6_goRound_80 (f_X6_goRound_11 n) FU r0 i2 i3 x8 x1 i6 x1 0 h7
        else
          some (i3, h7)
set_option maxRecDepth 100000 in
set_option maxHeartbeats 4000000 in
theorem l_X6_goRound_11 {X : MX} {l : Launch} {G : GX} {h0 : AH} {rr : Int32} {hr : AH} (C : Cx X G RX6 cX6_goRound 10 (some .int) 4 91 h0) (C2 : Cy X l "goRound" []) : ∀ (n : Nat) (r0 : Nat) (i2 : Int32) (i3 : Int32) (i4 : Int32) (i5 : Int32) (i6 : Int32) (h : AH), f_X6_goRound_11 n r0 i2 i3 i4 i5 i6 h = some (rr, hr) → V X G h0 (QI rr hr) 11 [(0, .ref r0), (2, .int i2), (3, .int i3), (4, .int i4), (5, .int i5), (6, .int i6)] [] h := by
  intro n
  induction n with
  | zero => intro r0 i2 i3 i4 i5 i6 h hf; rw [f_X6_goRound_11] at hf; cases hf
  | succ n ih =>
    intro r0 i2 i3 i4 i5 i6 h hf
    rw [f_X6_goRound_11] at hf
    refine C.seg (pe := 15) (lv' := [(0, .ref r0), (2, .int i2), (3, .int i3), (4, .int i4), (5, .int i5), (6, .int i6)]) (st' := [.int 16, .int i6]) [(.iload 6, 2, 0), (.bipush 16, 2, 16)] (by decide +kernel) rfl ?_
    refine C.icmp_ge (off := 111) (tgt := 126) (pf := 18) (by decide +kernel) (by decide) rfl (fun c11 => ?_) (fun c11 => ?_)
    · replace hf := ifp c11 hf
      refine C.seg (pe := 127) (lv' := [(0, .ref r0), (2, .int i2), (3, .int i3), (4, .int i4), (5, .int i5), (6, .int i6)]) (st' := [.int i3]) [(.iload_n 3, 1, 0)] (by decide +kernel) rfl ?_
      cases hf
      exact C.retI rfl (by decide +kernel) ⟨rfl, rfl⟩
    · replace hf := ifn c11 hf
      refine C.seg (pe := 21) (lv' := [(0, .ref r0), (2, .int i2), (3, .int i3), (4, .int i4), (5, .int i5), (6, .int i6)]) (st' := [.int i5, .ref r0]) [(.aload_n 0, 1, 0), (.iload 5, 2, 0)] (by decide +kernel) rfl ?_
      obtain ⟨x1, h2, gx1, hf⟩ := b2_some hf
      refine C.callVr C2 [.int i5] [] mv_1538 rfl (o_X6_mostUrgent gx1) (w_X6_mostUrgent gx1) (by omega) (by omega) (Nat.le_of_ble_eq_true rfl) (by decide +kernel) rfl ?_
      refine C.seg (pe := 29) (lv' := [(7, .int x1), (0, .ref r0), (2, .int i2), (3, .int i3), (4, .int i4), (5, .int i5), (6, .int i6)]) (st' := [.int (-1), .int x1]) [(.istore 7, 2, 0), (.iload 7, 2, 0), (.iconst (-1), 1, (-1))] (by decide +kernel) rfl ?_
      refine C.icmp_ne (off := 5) (tgt := 34) (pf := 32) (by decide +kernel) (by decide) rfl (fun c10 => ?_) (fun c10 => ?_)
      · replace hf := ifn c10 hf
        refine C.seg (pe := 35) (lv' := [(7, .int x1), (0, .ref r0), (2, .int i2), (3, .int i3), (4, .int i4), (5, .int i5), (6, .int i6)]) (st' := [.ref r0]) [(.aload_n 0, 1, 0)] (by decide +kernel) rfl ?_
        obtain ⟨a3, ga3, hf⟩ := Option.bind_eq_some_iff.mp hf
        refine C.rdA fr_334 ga3 (by decide +kernel) rfl ?_
        refine C.seg (pe := 42) (lv' := [(7, .int x1), (0, .ref r0), (2, .int i2), (3, .int i3), (4, .int i4), (5, .int i5), (6, .int i6)]) (st' := [.int x1, .int i5, .ref a3]) [(.iload 5, 2, 0), (.iload 7, 2, 0)] (by decide +kernel) rfl ?_
        obtain ⟨x4, h5, gx4, hf⟩ := b2_some hf
        refine C.callVr C2 [.int i5, .int x1] [] mv_1542 rfl (o_X9_way gx4) (w_X9_way gx4) (by omega) (by omega) (Nat.le_of_ble_eq_true rfl) (by decide +kernel) rfl ?_
        refine C.seg (pe := 50) (lv' := [(7, .int x1), (0, .ref r0), (2, .int i2), (3, .int i3), (4, .int i4), (5, .int i5), (6, .int i6)]) (st' := [.int x1, .ref r0, .int 10, .int x4]) [(.bipush 10, 2, 10), (.aload_n 0, 1, 0), (.iload 7, 2, 0)] (by decide +kernel) rfl ?_
        obtain ⟨x6, h7, gx6, hf⟩ := b2_some hf
        refine C.callVr C2 [.int x1] [.int 10, .int x4] mv_1549 rfl (o_X6_openTags gx6) (w_X6_openTags gx6) (by omega) (by omega) (Nat.le_of_ble_eq_true rfl) (by decide +kernel) rfl ?_
        refine C.seg (pe := 61) (lv' := [(8, .int (x4 + (10 * x6))), (7, .int x1), (0, .ref r0), (2, .int i2), (3, .int i3), (4, .int i4), (5, .int i5), (6, .int i6)]) (st' := [.int i4, .int (x4 + (10 * x6))]) [(.imul, 1, 0), (.iadd, 1, 0), (.istore 8, 2, 0), (.iload 8, 2, 0), (.iload 4, 2, 0)] (by decide +kernel) rfl ?_
        refine C.icmp_le (off := 5) (tgt := 66) (pf := 64) (by decide +kernel) (by decide) rfl (fun c9 => ?_) (fun c9 => ?_)
        · replace hf := ifp c9 hf
          refine C.seg (pe := 71) (lv' := [(8, .int (x4 + (10 * x6))), (7, .int x1), (0, .ref r0), (2, .int i2), (3, .int i3), (4, .int i4), (5, .int i5), (6, .int i6)]) (st' := [.int (i4 - (x4 + (10 * x6)))]) [(.iload 4, 2, 0), (.iload 8, 2, 0), (.isub, 1, 0)] (by decide +kernel) rfl ?_
          refine Vtopi (fun x8 ex8 => ?_)
          replace hf := lt_ap ex8 hf
          clear ex8
          refine C.seg (pe := 80) (lv' := [(9, .int 0), (5, .int x1), (4, .int x8), (8, .int (x4 + (10 * x6))), (7, .int x1), (0, .ref r0), (2, .int i2), (3, .int i3), (6, .int i6)]) (st' := []) [(.istore 4, 2, 0), (.iload 7, 2, 0), (.istore 5, 2, 0), (.iconst 0, 1, 0), (.istore 9, 2, 0)] (by decide +kernel) rfl ?_
          refine Vsub [5, 6, 7, 2, 1, 8, 4, 0] rfl ?_
          exact l_X6_goRound_80 C C2 ih FU r0 i2 i3 x8 x1 i6 x1 0 h7 hf
        · replace hf := ifn c9 hf
          refine C.seg (pe := 65) (lv' := [(8, .int (x4 + (10 * x6))), (7, .int x1), (0, .ref r0), (2, .int i2), (3, .int i3), (4, .int i4), (5, .int i5), (6, .int i6)]) (st' := [.int i3]) [(.iload_n 3, 1, 0)] (by decide +kernel) rfl ?_
          cases hf
          exact C.retI rfl (by decide +kernel) ⟨rfl, rfl⟩
      · replace hf := ifp c10 hf
        refine C.seg (pe := 33) (lv' := [(7, .int x1), (0, .ref r0), (2, .int i2), (3, .int i3), (4, .int i4), (5, .int i5), (6, .int i6)]) (st' := [.int i3]) [(.iload_n 3, 1, 0)] (by decide +kernel) rfl ?_
        cases hf
        exact C.retI rfl (by decide +kernel) ⟨rfl, rfl⟩
def f_X6_goRound (a0 : Nat) (p1 : Int32) (p2 : Int32) (h : AH) : Option (Int32 × AH) :=
  if isO 6 h a0 = true then
    f_X6_goRound_11 FU a0 p2 0 p1 0 0 h
  else none
set_option maxRecDepth 100000 in
set_option maxHeartbeats 4000000 in
theorem w_X6_goRound {l : Launch} {G : GX} {a0 : Nat} {p1 : Int32} {p2 : Int32} {h : AH} {rr : Int32} {hr : AH} (hf : f_X6_goRound a0 p1 p2 h = some (rr, hr)) : Ct l G yX6_goRound 4 91 [.ref a0, .int p1, .int p2] h (QI rr hr) := by
  unfold f_X6_goRound at hf
  obtain ⟨ho, hf⟩ := ifO hf
  refine Ct_of (own := RX6) (cc := cX6_goRound) (nL := 10) (ret := (some .int)) rfl rfl k_1537 (Nat.le_of_ble_eq_true rfl) (fun X C2 C => ?_)
  show V X G h (QI rr hr) 0 [(0, .ref a0), (1, .int p1), (2, .int p2)] [] h
  refine C.seg (pe := 11) (lv' := [(6, .int 0), (5, .int 0), (4, .int p1), (3, .int 0), (0, .ref a0), (1, .int p1), (2, .int p2)]) (st' := []) [(.iconst 0, 1, 0), (.istore_n 3, 1, 0), (.iload_n 1, 1, 0), (.istore 4, 2, 0), (.iconst 0, 1, 0), (.istore 5, 2, 0), (.iconst 0, 1, 0), (.istore 6, 2, 0)] (by decide +kernel) rfl ?_
  refine Vsub [4, 6, 3, 2, 1, 0] rfl ?_
  exact l_X6_goRound_11 C C2 FU a0 p2 0 p1 0 0 h hf
theorem o_X6_goRound {a0 : Nat} {p1 : Int32} {p2 : Int32} {h : AH} {rr : Int32} {hr : AH} (hf : f_X6_goRound a0 p1 p2 h = some (rr, hr)) : isO 6 h a0 = true := by
  unfold f_X6_goRound at hf
  exact (ifO hf).1
/-! WallHouse$Streets.findStops(I)I -/
def f_X6_findStops_101 (k14 : Nat → Int32 → Int32 → Int32 → AH → Option (Int32 × AH)) (r0 : Nat) (i1 : Int32) (i2 : Int32) (i3 : Int32) (h : AH) : Option (Int32 × AH) :=
  k14 r0 i1 i2 (i3 + 1) h
set_option maxRecDepth 100000 in
set_option maxHeartbeats 4000000 in
theorem l_X6_findStops_101 {X : MX} {l : Launch} {G : GX} {h0 : AH} {rr : Int32} {hr : AH} (C : Cx X G RX6 cX6_findStops 5 (some .int) 1 21 h0) (C2 : Cy X l "findStops" []) {k14 : Nat → Int32 → Int32 → Int32 → AH → Option (Int32 × AH)} (hk14 : ∀ (r0 : Nat) (i1 : Int32) (i2 : Int32) (i3 : Int32) (h : AH), k14 r0 i1 i2 i3 h = some (rr, hr) → V X G h0 (QI rr hr) 14 [(0, .ref r0), (1, .int i1), (2, .int i2), (3, .int i3)] [] h) (r0 : Nat) (i1 : Int32) (i2 : Int32) (i3 : Int32) (h : AH) (hf : f_X6_findStops_101 k14 r0 i1 i2 i3 h = some (rr, hr)) : V X G h0 (QI rr hr) 101 [(0, .ref r0), (1, .int i1), (2, .int i2), (3, .int i3)] [] h := by
  unfold f_X6_findStops_101 at hf
  refine C.seg (pe := 104) (lv' := [(3, .int (i3 + 1)), (0, .ref r0), (1, .int i1), (2, .int i2)]) (st' := []) [(.iinc 3 1, 3, 1)] (by decide +kernel) rfl ?_
  refine C.goto (off := (-90)) (tgt := 14) (by decide +kernel) (by decide) ?_
  refine Vsub [1, 2, 3, 0] rfl ?_
  exact hk14 r0 i1 i2 (i3 + 1) h hf
def f_X6_findStops_14 : Nat → Nat → Int32 → Int32 → Int32 → AH → Option (Int32 × AH)
  | 0, _, _, _, _, _ => none
  | n + 1, r0, i1, i2, i3, h =>
    (gA 6 h r0 0).bind fun a1 =>
    (gI 9 h a1 1).bind fun x2 =>
    if x2 ≤ i3 then
      some (i2, h)
    else
      (gA 6 h r0 0).bind fun a3 =>
      b2 (f_X9_at a3 i3 h) fun q4 h5 =>
      tr q4 (
        f_X6_findStops_101 (f_X6_findStops_14 n) r0 i1 i2 i3 h5) fun a6 =>
      (gI 8 h5 a6 7).bind fun x7 =>
      if x7 &&& i1 = 0 then
        f_X6_findStops_101 (f_X6_findStops_14 n) r0 i1 i2 i3 h5
      else
        (gI 6 h5 r0 7).bind fun x8 =>
        (gI 8 h5 a6 7).bind fun x9 =>
        (pI 6 h5 r0 7 (x8 ||| (x9 &&& i1))).bind fun h10 =>
        (gI 6 h10 r0 6).bind fun x11 =>
        if 9 ≤ x11 then
          f_X6_findStops_101 (f_X6_findStops_14 n) r0 i1 (i2 + 1) i3 h10
        else
          (gA 6 h10 r0 5).bind fun a12 =>
          (gI 6 h10 r0 6).bind fun x13 =>
          (sI 0 h10 a12 x13 i3).bind fun h14 =>
          (gI 6 h14 r0 6).bind fun x15 =>
          (pI 6 h14 r0 6 (x15 + 1)).bind fun h16 =>
          f_X6_findStops_101 (f_X6_findStops_14 n) r0 i1 (i2 + 1) i3 h16
set_option maxRecDepth 100000 in
set_option maxHeartbeats 4000000 in
theorem l_X6_findStops_14 {X : MX} {l : Launch} {G : GX} {h0 : AH} {rr : Int32} {hr : AH} (C : Cx X G RX6 cX6_findStops 5 (some .int) 1 21 h0) (C2 : Cy X l "findStops" []) : ∀ (n : Nat) (r0 : Nat) (i1 : Int32) (i2 : Int32) (i3 : Int32) (h : AH), f_X6_findStops_14 n r0 i1 i2 i3 h = some (rr, hr) → V X G h0 (QI rr hr) 14 [(0, .ref r0), (1, .int i1), (2, .int i2), (3, .int i3)] [] h := by
  intro n
  induction n with
  | zero => intro r0 i1 i2 i3 h hf; rw [f_X6_findStops_14] at hf; cases hf
  | succ n ih =>
    intro r0 i1 i2 i3 h hf
    rw [f_X6_findStops_14] at hf
    refine C.seg (pe := 16) (lv' := [(0, .ref r0), (1, .int i1), (2, .int i2), (3, .int i3)]) (st' := [.ref r0, .int i3]) [(.iload_n 3, 1, 0), (.aload_n 0, 1, 0)] (by decide +kernel) rfl ?_
    obtain ⟨a1, ga1, hf⟩ := Option.bind_eq_some_iff.mp hf
    refine C.rdA fr_334 ga1 (by decide +kernel) rfl ?_
    obtain ⟨x2, gx2, hf⟩ := Option.bind_eq_some_iff.mp hf
    refine C.rdI fr_168 gx2 (by decide +kernel) rfl ?_
    refine C.icmp_ge (off := 85) (tgt := 107) (pf := 25) (by decide +kernel) (by decide) rfl (fun c19 => ?_) (fun c19 => ?_)
    · replace hf := ifp c19 hf
      refine C.seg (pe := 108) (lv' := [(0, .ref r0), (1, .int i1), (2, .int i2), (3, .int i3)]) (st' := [.int i2]) [(.iload_n 2, 1, 0)] (by decide +kernel) rfl ?_
      cases hf
      exact C.retI rfl (by decide +kernel) ⟨rfl, rfl⟩
    · replace hf := ifn c19 hf
      refine C.seg (pe := 26) (lv' := [(0, .ref r0), (1, .int i1), (2, .int i2), (3, .int i3)]) (st' := [.ref r0]) [(.aload_n 0, 1, 0)] (by decide +kernel) rfl ?_
      obtain ⟨a3, ga3, hf⟩ := Option.bind_eq_some_iff.mp hf
      refine C.rdA fr_334 ga3 (by decide +kernel) rfl ?_
      refine C.seg (pe := 30) (lv' := [(0, .ref r0), (1, .int i1), (2, .int i2), (3, .int i3)]) (st' := [.int i3, .ref a3]) [(.iload_n 3, 1, 0)] (by decide +kernel) rfl ?_
      obtain ⟨q4, h5, gq4, hf⟩ := b2_some hf
      cases q4 with
      | none =>
        replace hf := tr_none hf
        refine C.callVr C2 [.int i3] [] mv_1566 rfl (o_X9_at gq4) (w_X9_at gq4) (by omega) (by omega) (Nat.le_of_ble_eq_true rfl) (by decide +kernel) rfl ?_
        refine C.seg (pe := 37) (lv' := [(4, .null), (0, .ref r0), (1, .int i1), (2, .int i2), (3, .int i3)]) (st' := [.null]) [(.astore 4, 2, 0), (.aload 4, 2, 0)] (by decide +kernel) rfl ?_
        refine C.nullN (off := 64) (tgt := 101) (by decide +kernel) (by decide) ?_
        refine Vsub [1, 2, 3, 4] rfl ?_
        exact l_X6_findStops_101 C C2 ih r0 i1 i2 i3 h5 hf
      | some a6 =>
        replace hf := tr_some hf
        refine C.callVr C2 [.int i3] [] mv_1566 rfl (o_X9_at gq4) (w_X9_at gq4) (by omega) (by omega) (Nat.le_of_ble_eq_true rfl) (by decide +kernel) rfl ?_
        refine C.seg (pe := 37) (lv' := [(4, .ref a6), (0, .ref r0), (1, .int i1), (2, .int i2), (3, .int i3)]) (st' := [.ref a6]) [(.astore 4, 2, 0), (.aload 4, 2, 0)] (by decide +kernel) rfl ?_
        refine C.nullR (off := 64) (pf := 40) (by decide +kernel) rfl ?_
        refine C.seg (pe := 42) (lv' := [(4, .ref a6), (0, .ref r0), (1, .int i1), (2, .int i2), (3, .int i3)]) (st' := [.ref a6]) [(.aload 4, 2, 0)] (by decide +kernel) rfl ?_
        obtain ⟨x7, gx7, hf⟩ := Option.bind_eq_some_iff.mp hf
        refine C.rdI fr_658 gx7 (by decide +kernel) rfl ?_
        refine C.seg (pe := 47) (lv' := [(4, .ref a6), (0, .ref r0), (1, .int i1), (2, .int i2), (3, .int i3)]) (st' := [.int (x7 &&& i1)]) [(.iload_n 1, 1, 0), (.iand, 1, 0)] (by decide +kernel) rfl ?_
        refine C.if_ne (off := 6) (tgt := 53) (pf := 50) (by decide +kernel) (by decide) rfl (fun c18 => ?_) (fun c18 => ?_)
        · replace hf := ifn c18 hf
          refine C.seg (pe := 58) (lv' := [(2, .int (i2 + 1)), (4, .ref a6), (0, .ref r0), (1, .int i1), (3, .int i3)]) (st' := [.ref r0, .ref r0]) [(.iinc 2 1, 3, 1), (.aload_n 0, 1, 0), (.dup, 1, 0)] (by decide +kernel) rfl ?_
          obtain ⟨x8, gx8, hf⟩ := Option.bind_eq_some_iff.mp hf
          refine C.rdI fr_342 gx8 (by decide +kernel) rfl ?_
          refine C.seg (pe := 63) (lv' := [(2, .int (i2 + 1)), (4, .ref a6), (0, .ref r0), (1, .int i1), (3, .int i3)]) (st' := [.ref a6, .int x8, .ref r0]) [(.aload 4, 2, 0)] (by decide +kernel) rfl ?_
          obtain ⟨x9, gx9, hf⟩ := Option.bind_eq_some_iff.mp hf
          refine C.rdI fr_658 gx9 (by decide +kernel) rfl ?_
          refine C.seg (pe := 69) (lv' := [(2, .int (i2 + 1)), (4, .ref a6), (0, .ref r0), (1, .int i1), (3, .int i3)]) (st' := [.int (x8 ||| (x9 &&& i1)), .ref r0]) [(.iload_n 1, 1, 0), (.iand, 1, 0), (.ior, 1, 0)] (by decide +kernel) rfl ?_
          obtain ⟨h10, gh10, hf⟩ := Option.bind_eq_some_iff.mp hf
          refine C.putI fl_342 gh10 (by decide +kernel) rfl ?_
          refine C.seg (pe := 73) (lv' := [(2, .int (i2 + 1)), (4, .ref a6), (0, .ref r0), (1, .int i1), (3, .int i3)]) (st' := [.ref r0]) [(.aload_n 0, 1, 0)] (by decide +kernel) rfl ?_
          obtain ⟨x11, gx11, hf⟩ := Option.bind_eq_some_iff.mp hf
          refine C.rdI fr_341 gx11 (by decide +kernel) rfl ?_
          refine C.seg (pe := 78) (lv' := [(2, .int (i2 + 1)), (4, .ref a6), (0, .ref r0), (1, .int i1), (3, .int i3)]) (st' := [.int 9, .int x11]) [(.bipush 9, 2, 9)] (by decide +kernel) rfl ?_
          refine C.icmp_ge (off := 23) (tgt := 101) (pf := 81) (by decide +kernel) (by decide) rfl (fun c17 => ?_) (fun c17 => ?_)
          · replace hf := ifp c17 hf
            refine Vsub [2, 3, 0, 4] rfl ?_
            exact l_X6_findStops_101 C C2 ih r0 i1 (i2 + 1) i3 h10 hf
          · replace hf := ifn c17 hf
            refine C.seg (pe := 82) (lv' := [(2, .int (i2 + 1)), (4, .ref a6), (0, .ref r0), (1, .int i1), (3, .int i3)]) (st' := [.ref r0]) [(.aload_n 0, 1, 0)] (by decide +kernel) rfl ?_
            obtain ⟨a12, ga12, hf⟩ := Option.bind_eq_some_iff.mp hf
            refine C.rdA fr_340 ga12 (by decide +kernel) rfl ?_
            refine C.seg (pe := 86) (lv' := [(2, .int (i2 + 1)), (4, .ref a6), (0, .ref r0), (1, .int i1), (3, .int i3)]) (st' := [.ref r0, .ref a12]) [(.aload_n 0, 1, 0)] (by decide +kernel) rfl ?_
            obtain ⟨x13, gx13, hf⟩ := Option.bind_eq_some_iff.mp hf
            refine C.rdI fr_341 gx13 (by decide +kernel) rfl ?_
            refine C.seg (pe := 90) (lv' := [(2, .int (i2 + 1)), (4, .ref a6), (0, .ref r0), (1, .int i1), (3, .int i3)]) (st' := [.int i3, .int x13, .ref a12]) [(.iload_n 3, 1, 0)] (by decide +kernel) rfl ?_
            obtain ⟨h14, gh14, hf⟩ := Option.bind_eq_some_iff.mp hf
            refine C.ast gh14 (by decide +kernel) rfl ?_
            refine C.seg (pe := 93) (lv' := [(2, .int (i2 + 1)), (4, .ref a6), (0, .ref r0), (1, .int i1), (3, .int i3)]) (st' := [.ref r0, .ref r0]) [(.aload_n 0, 1, 0), (.dup, 1, 0)] (by decide +kernel) rfl ?_
            obtain ⟨x15, gx15, hf⟩ := Option.bind_eq_some_iff.mp hf
            refine C.rdI fr_341 gx15 (by decide +kernel) rfl ?_
            refine C.seg (pe := 98) (lv' := [(2, .int (i2 + 1)), (4, .ref a6), (0, .ref r0), (1, .int i1), (3, .int i3)]) (st' := [.int (x15 + 1), .ref r0]) [(.iconst 1, 1, 1), (.iadd, 1, 0)] (by decide +kernel) rfl ?_
            obtain ⟨h16, gh16, hf⟩ := Option.bind_eq_some_iff.mp hf
            refine C.putI fl_341 gh16 (by decide +kernel) rfl ?_
            refine Vsub [2, 3, 0, 4] rfl ?_
            exact l_X6_findStops_101 C C2 ih r0 i1 (i2 + 1) i3 h16 hf
        · replace hf := ifp c18 hf
          refine C.goto (off := 51) (tgt := 101) (by decide +kernel) (by decide) ?_
          refine Vsub [1, 2, 3, 4] rfl ?_
          exact l_X6_findStops_101 C C2 ih r0 i1 i2 i3 h5 hf
def f_X6_findStops (a0 : Nat) (p1 : Int32) (h : AH) : Option (Int32 × AH) :=
  if isO 6 h a0 = true then
    (pI 6 h a0 6 0).bind fun h1 =>
    (pI 6 h1 a0 7 0).bind fun h2 =>
    f_X6_findStops_14 FU a0 p1 0 0 h2
  else none
set_option maxRecDepth 100000 in
set_option maxHeartbeats 4000000 in
theorem w_X6_findStops {l : Launch} {G : GX} {a0 : Nat} {p1 : Int32} {h : AH} {rr : Int32} {hr : AH} (hf : f_X6_findStops a0 p1 h = some (rr, hr)) : Ct l G yX6_findStops 1 21 [.ref a0, .int p1] h (QI rr hr) := by
  unfold f_X6_findStops at hf
  obtain ⟨ho, hf⟩ := ifO hf
  refine Ct_of (own := RX6) (cc := cX6_findStops) (nL := 5) (ret := (some .int)) rfl rfl k_1565 (Nat.le_of_ble_eq_true rfl) (fun X C2 C => ?_)
  show V X G h (QI rr hr) 0 [(0, .ref a0), (1, .int p1)] [] h
  refine C.seg (pe := 4) (lv' := [(2, .int 0), (0, .ref a0), (1, .int p1)]) (st' := [.int 0, .ref a0]) [(.iconst 0, 1, 0), (.istore_n 2, 1, 0), (.aload_n 0, 1, 0), (.iconst 0, 1, 0)] (by decide +kernel) rfl ?_
  obtain ⟨h1, gh1, hf⟩ := Option.bind_eq_some_iff.mp hf
  refine C.putI fl_341 gh1 (by decide +kernel) rfl ?_
  refine C.seg (pe := 9) (lv' := [(2, .int 0), (0, .ref a0), (1, .int p1)]) (st' := [.int 0, .ref a0]) [(.aload_n 0, 1, 0), (.iconst 0, 1, 0)] (by decide +kernel) rfl ?_
  obtain ⟨h2, gh2, hf⟩ := Option.bind_eq_some_iff.mp hf
  refine C.putI fl_342 gh2 (by decide +kernel) rfl ?_
  refine C.seg (pe := 14) (lv' := [(3, .int 0), (2, .int 0), (0, .ref a0), (1, .int p1)]) (st' := []) [(.iconst 0, 1, 0), (.istore_n 3, 1, 0)] (by decide +kernel) rfl ?_
  refine Vsub [2, 3, 1, 0] rfl ?_
  exact l_X6_findStops_14 C C2 FU a0 p1 0 0 h2 hf
theorem o_X6_findStops {a0 : Nat} {p1 : Int32} {h : AH} {rr : Int32} {hr : AH} (hf : f_X6_findStops a0 p1 h = some (rr, hr)) : isO 6 h a0 = true := by
  unfold f_X6_findStops at hf
  exact (ifO hf).1
/-! WallHouse$Streets.wayTo(II)I -/
def f_X6_wayTo_88 (k12 : Nat → Int32 → Int32 → Int32 → Int32 → AH → Option (Int32 × AH)) (r0 : Nat) (i1 : Int32) (i2 : Int32) (i3 : Int32) (i4 : Int32) (h : AH) : Option (Int32 × AH) :=
  k12 r0 i1 i2 i3 (i4 + 1) h
set_option maxRecDepth 100000 in
set_option maxHeartbeats 4000000 in
theorem l_X6_wayTo_88 {X : MX} {l : Launch} {G : GX} {h0 : AH} {rr : Int32} {hr : AH} (C : Cx X G RX6 cX6_wayTo 6 (some .int) 3 65 h0) (C2 : Cy X l "wayTo" []) {k12 : Nat → Int32 → Int32 → Int32 → Int32 → AH → Option (Int32 × AH)} (hk12 : ∀ (r0 : Nat) (i1 : Int32) (i2 : Int32) (i3 : Int32) (i4 : Int32) (h : AH), k12 r0 i1 i2 i3 i4 h = some (rr, hr) → V X G h0 (QI rr hr) 12 [(0, .ref r0), (1, .int i1), (2, .int i2), (3, .int i3), (4, .int i4)] [] h) (r0 : Nat) (i1 : Int32) (i2 : Int32) (i3 : Int32) (i4 : Int32) (h : AH) (hf : f_X6_wayTo_88 k12 r0 i1 i2 i3 i4 h = some (rr, hr)) : V X G h0 (QI rr hr) 88 [(0, .ref r0), (1, .int i1), (2, .int i2), (3, .int i3), (4, .int i4)] [] h := by
  unfold f_X6_wayTo_88 at hf
  refine C.seg (pe := 91) (lv' := [(4, .int (i4 + 1)), (0, .ref r0), (1, .int i1), (2, .int i2), (3, .int i3)]) (st' := []) [(.iinc 4 1, 3, 1)] (by decide +kernel) rfl ?_
  refine C.goto (off := (-79)) (tgt := 12) (by decide +kernel) (by decide) ?_
  refine Vsub [1, 2, 3, 4, 0] rfl ?_
  exact hk12 r0 i1 i2 i3 (i4 + 1) h hf
def f_X6_wayTo_12 : Nat → Nat → Int32 → Int32 → Int32 → Int32 → AH → Option (Int32 × AH)
  | 0, _, _, _, _, _, _ => none
  | n + 1, r0, i1, i2, i3, i4, h =>
    (gI 6 h r0 6).bind fun x1 =>
    if x1 ≤ i4 then
      some (i3, h)
    else
      if (i1 >>> (i4 &&& 31)) &&& 1 = 1 then
        if (i1 * 9) + i4 < 0 then
          f_X6_wayTo_88 (f_X6_wayTo_12 n) r0 i1 i2 i3 i4 h
        else
          (gA 6 h r0 8).bind fun a2 =>
          (aN h a2).bind fun x3 =>
          if x3 ≤ (i1 * 9) + i4 then
            f_X6_wayTo_88 (f_X6_wayTo_12 n) r0 i1 i2 i3 i4 h
          else
            (gA 6 h r0 8).bind fun a4 =>
            (aI 0 h a4 ((i1 * 9) + i4)).bind fun x5 =>
            (gA 6 h r0 0).bind fun a6 =>
            (gA 6 h r0 5).bind fun a7 =>
            (aI 0 h a7 i4).bind fun x8 =>
            (gA 6 h r0 5).bind fun a9 =>
            (aI 0 h a9 i2).bind fun x10 =>
            b2 (f_X9_way a6 x8 x10 h) fun x11 h12 =>
            lt (mnI i3 (x5 + x11) : Int32) fun x13 =>
            f_X6_wayTo_88 (f_X6_wayTo_12 n) r0 i1 i2 x13 i4 h12
      else
        f_X6_wayTo_88 (f_X6_wayTo_12 n) r0 i1 i2 i3 i4 h
set_option maxRecDepth 100000 in
set_option maxHeartbeats 4000000 in
theorem l_X6_wayTo_12 {X : MX} {l : Launch} {G : GX} {h0 : AH} {rr : Int32} {hr : AH} (C : Cx X G RX6 cX6_wayTo 6 (some .int) 3 65 h0) (C2 : Cy X l "wayTo" []) : ∀ (n : Nat) (r0 : Nat) (i1 : Int32) (i2 : Int32) (i3 : Int32) (i4 : Int32) (h : AH), f_X6_wayTo_12 n r0 i1 i2 i3 i4 h = some (rr, hr) → V X G h0 (QI rr hr) 12 [(0, .ref r0), (1, .int i1), (2, .int i2), (3, .int i3), (4, .int i4)] [] h := by
  intro n
  induction n with
  | zero => intro r0 i1 i2 i3 i4 h hf; rw [f_X6_wayTo_12] at hf; cases hf
  | succ n ih =>
    intro r0 i1 i2 i3 i4 h hf
    rw [f_X6_wayTo_12] at hf
    refine C.seg (pe := 15) (lv' := [(0, .ref r0), (1, .int i1), (2, .int i2), (3, .int i3), (4, .int i4)]) (st' := [.ref r0, .int i4]) [(.iload 4, 2, 0), (.aload_n 0, 1, 0)] (by decide +kernel) rfl ?_
    obtain ⟨x1, gx1, hf⟩ := Option.bind_eq_some_iff.mp hf
    refine C.rdI fr_341 gx1 (by decide +kernel) rfl ?_
    refine C.icmp_ge (off := 76) (tgt := 94) (pf := 21) (by decide +kernel) (by decide) rfl (fun c17 => ?_) (fun c17 => ?_)
    · replace hf := ifp c17 hf
      refine C.seg (pe := 95) (lv' := [(0, .ref r0), (1, .int i1), (2, .int i2), (3, .int i3), (4, .int i4)]) (st' := [.int i3]) [(.iload_n 3, 1, 0)] (by decide +kernel) rfl ?_
      cases hf
      exact C.retI rfl (by decide +kernel) ⟨rfl, rfl⟩
    · replace hf := ifn c17 hf
      refine C.seg (pe := 37) (lv' := [(5, .int ((i1 * 9) + i4)), (0, .ref r0), (1, .int i1), (2, .int i2), (3, .int i3), (4, .int i4)]) (st' := [.int 1, .int ((i1 >>> (i4 &&& 31)) &&& 1)]) [(.iload_n 1, 1, 0), (.bipush 9, 2, 9), (.imul, 1, 0), (.iload 4, 2, 0), (.iadd, 1, 0), (.istore 5, 2, 0), (.iload_n 1, 1, 0), (.iload 4, 2, 0), (.ishr, 1, 0), (.iconst 1, 1, 1), (.iand, 1, 0), (.iconst 1, 1, 1)] (by decide +kernel) rfl ?_
      refine C.icmp_ne (off := 51) (tgt := 88) (pf := 40) (by decide +kernel) (by decide) rfl (fun c16 => ?_) (fun c16 => ?_)
      · replace hf := ifn c16 hf
        refine Vsub [1, 2, 3, 4, 5] rfl ?_
        exact l_X6_wayTo_88 C C2 ih r0 i1 i2 i3 i4 h hf
      · replace hf := ifp c16 hf
        refine C.seg (pe := 42) (lv' := [(5, .int ((i1 * 9) + i4)), (0, .ref r0), (1, .int i1), (2, .int i2), (3, .int i3), (4, .int i4)]) (st' := [.int ((i1 * 9) + i4)]) [(.iload 5, 2, 0)] (by decide +kernel) rfl ?_
        refine C.if_lt (off := 46) (tgt := 88) (pf := 45) (by decide +kernel) (by decide) rfl (fun c15 => ?_) (fun c15 => ?_)
        · replace hf := ifp c15 hf
          refine Vsub [1, 2, 3, 4, 5] rfl ?_
          exact l_X6_wayTo_88 C C2 ih r0 i1 i2 i3 i4 h hf
        · replace hf := ifn c15 hf
          refine C.seg (pe := 48) (lv' := [(5, .int ((i1 * 9) + i4)), (0, .ref r0), (1, .int i1), (2, .int i2), (3, .int i3), (4, .int i4)]) (st' := [.ref r0, .int ((i1 * 9) + i4)]) [(.iload 5, 2, 0), (.aload_n 0, 1, 0)] (by decide +kernel) rfl ?_
          obtain ⟨a2, ga2, hf⟩ := Option.bind_eq_some_iff.mp hf
          refine C.rdA fr_343 ga2 (by decide +kernel) rfl ?_
          obtain ⟨x3, gx3, hf⟩ := Option.bind_eq_some_iff.mp hf
          refine C.alen gx3 (by decide +kernel) rfl ?_
          refine C.icmp_ge (off := 36) (tgt := 88) (pf := 55) (by decide +kernel) (by decide) rfl (fun c14 => ?_) (fun c14 => ?_)
          · replace hf := ifp c14 hf
            refine Vsub [1, 2, 3, 4, 5] rfl ?_
            exact l_X6_wayTo_88 C C2 ih r0 i1 i2 i3 i4 h hf
          · replace hf := ifn c14 hf
            refine C.seg (pe := 57) (lv' := [(5, .int ((i1 * 9) + i4)), (0, .ref r0), (1, .int i1), (2, .int i2), (3, .int i3), (4, .int i4)]) (st' := [.ref r0, .int i3]) [(.iload_n 3, 1, 0), (.aload_n 0, 1, 0)] (by decide +kernel) rfl ?_
            obtain ⟨a4, ga4, hf⟩ := Option.bind_eq_some_iff.mp hf
            refine C.rdA fr_343 ga4 (by decide +kernel) rfl ?_
            refine C.seg (pe := 62) (lv' := [(5, .int ((i1 * 9) + i4)), (0, .ref r0), (1, .int i1), (2, .int i2), (3, .int i3), (4, .int i4)]) (st' := [.int ((i1 * 9) + i4), .ref a4, .int i3]) [(.iload 5, 2, 0)] (by decide +kernel) rfl ?_
            obtain ⟨x5, gx5, hf⟩ := Option.bind_eq_some_iff.mp hf
            refine C.ald 0 rfl gx5 (by decide +kernel) rfl ?_
            refine C.seg (pe := 64) (lv' := [(5, .int ((i1 * 9) + i4)), (0, .ref r0), (1, .int i1), (2, .int i2), (3, .int i3), (4, .int i4)]) (st' := [.ref r0, .int x5, .int i3]) [(.aload_n 0, 1, 0)] (by decide +kernel) rfl ?_
            obtain ⟨a6, ga6, hf⟩ := Option.bind_eq_some_iff.mp hf
            refine C.rdA fr_334 ga6 (by decide +kernel) rfl ?_
            refine C.seg (pe := 68) (lv' := [(5, .int ((i1 * 9) + i4)), (0, .ref r0), (1, .int i1), (2, .int i2), (3, .int i3), (4, .int i4)]) (st' := [.ref r0, .ref a6, .int x5, .int i3]) [(.aload_n 0, 1, 0)] (by decide +kernel) rfl ?_
            obtain ⟨a7, ga7, hf⟩ := Option.bind_eq_some_iff.mp hf
            refine C.rdA fr_340 ga7 (by decide +kernel) rfl ?_
            refine C.seg (pe := 73) (lv' := [(5, .int ((i1 * 9) + i4)), (0, .ref r0), (1, .int i1), (2, .int i2), (3, .int i3), (4, .int i4)]) (st' := [.int i4, .ref a7, .ref a6, .int x5, .int i3]) [(.iload 4, 2, 0)] (by decide +kernel) rfl ?_
            obtain ⟨x8, gx8, hf⟩ := Option.bind_eq_some_iff.mp hf
            refine C.ald 0 rfl gx8 (by decide +kernel) rfl ?_
            refine C.seg (pe := 75) (lv' := [(5, .int ((i1 * 9) + i4)), (0, .ref r0), (1, .int i1), (2, .int i2), (3, .int i3), (4, .int i4)]) (st' := [.ref r0, .int x8, .ref a6, .int x5, .int i3]) [(.aload_n 0, 1, 0)] (by decide +kernel) rfl ?_
            obtain ⟨a9, ga9, hf⟩ := Option.bind_eq_some_iff.mp hf
            refine C.rdA fr_340 ga9 (by decide +kernel) rfl ?_
            refine C.seg (pe := 79) (lv' := [(5, .int ((i1 * 9) + i4)), (0, .ref r0), (1, .int i1), (2, .int i2), (3, .int i3), (4, .int i4)]) (st' := [.int i2, .ref a9, .int x8, .ref a6, .int x5, .int i3]) [(.iload_n 2, 1, 0)] (by decide +kernel) rfl ?_
            obtain ⟨x10, gx10, hf⟩ := Option.bind_eq_some_iff.mp hf
            refine C.ald 0 rfl gx10 (by decide +kernel) rfl ?_
            obtain ⟨x11, h12, gx11, hf⟩ := b2_some hf
            refine C.callVr C2 [.int x8, .int x10] [.int x5, .int i3] mv_1542 rfl (o_X9_way gx11) (w_X9_way gx11) (by omega) (by omega) (Nat.le_of_ble_eq_true rfl) (by decide +kernel) rfl ?_
            refine C.seg (pe := 84) (lv' := [(5, .int ((i1 * 9) + i4)), (0, .ref r0), (1, .int i1), (2, .int i2), (3, .int i3), (4, .int i4)]) (st' := [.int (x5 + x11), .int i3]) [(.iadd, 1, 0)] (by decide +kernel) rfl ?_
            refine C.mmin k_1580 k_639 k_137 k_640 (by omega) (by omega) (Nat.le_of_ble_eq_true rfl) (by decide +kernel) rfl ?_
            refine Vtopi (fun x13 ex13 => ?_)
            replace hf := lt_ap ex13 hf
            clear ex13
            refine C.seg (pe := 88) (lv' := [(3, .int x13), (5, .int ((i1 * 9) + i4)), (0, .ref r0), (1, .int i1), (2, .int i2), (4, .int i4)]) (st' := []) [(.istore_n 3, 1, 0)] (by decide +kernel) rfl ?_
            refine Vsub [2, 3, 4, 0, 5] rfl ?_
            exact l_X6_wayTo_88 C C2 ih r0 i1 i2 x13 i4 h12 hf
def f_X6_wayTo (a0 : Nat) (p1 : Int32) (p2 : Int32) (h : AH) : Option (Int32 × AH) :=
  if isO 6 h a0 = true then
    if p1 = 0 then
      some (0, h)
    else
      f_X6_wayTo_12 FU a0 p1 p2 1000000 0 h
  else none
set_option maxRecDepth 100000 in
set_option maxHeartbeats 4000000 in
theorem w_X6_wayTo {l : Launch} {G : GX} {a0 : Nat} {p1 : Int32} {p2 : Int32} {h : AH} {rr : Int32} {hr : AH} (hf : f_X6_wayTo a0 p1 p2 h = some (rr, hr)) : Ct l G yX6_wayTo 3 65 [.ref a0, .int p1, .int p2] h (QI rr hr) := by
  unfold f_X6_wayTo at hf
  obtain ⟨ho, hf⟩ := ifO hf
  refine Ct_of (own := RX6) (cc := cX6_wayTo) (nL := 6) (ret := (some .int)) rfl rfl k_1579 (Nat.le_of_ble_eq_true rfl) (fun X C2 C => ?_)
  show V X G h (QI rr hr) 0 [(0, .ref a0), (1, .int p1), (2, .int p2)] [] h
  refine C.seg (pe := 1) (lv' := [(0, .ref a0), (1, .int p1), (2, .int p2)]) (st' := [.int p1]) [(.iload_n 1, 1, 0)] (by decide +kernel) rfl ?_
  refine C.if_ne (off := 5) (tgt := 6) (pf := 4) (by decide +kernel) (by decide) rfl (fun c1 => ?_) (fun c1 => ?_)
  · replace hf := ifn c1 hf
    refine C.ldcI k_1575 (by decide +kernel) rfl ?_
    refine C.seg (pe := 12) (lv' := [(4, .int 0), (3, .int 1000000), (0, .ref a0), (1, .int p1), (2, .int p2)]) (st' := []) [(.istore_n 3, 1, 0), (.iconst 0, 1, 0), (.istore 4, 2, 0)] (by decide +kernel) rfl ?_
    refine Vsub [2, 3, 4, 1, 0] rfl ?_
    exact l_X6_wayTo_12 C C2 FU a0 p1 p2 1000000 0 h hf
  · replace hf := ifp c1 hf
    refine C.seg (pe := 5) (lv' := [(0, .ref a0), (1, .int p1), (2, .int p2)]) (st' := [.int 0]) [(.iconst 0, 1, 0)] (by decide +kernel) rfl ?_
    cases hf
    exact C.retI rfl (by decide +kernel) ⟨rfl, rfl⟩
theorem o_X6_wayTo {a0 : Nat} {p1 : Int32} {p2 : Int32} {h : AH} {rr : Int32} {hr : AH} (hf : f_X6_wayTo a0 p1 p2 h = some (rr, hr)) : isO 6 h a0 = true := by
  unfold f_X6_wayTo at hf
  exact (ifO hf).1
/-! WallHouse$Streets.wayOver(I)I -/
def f_X6_wayOver_75 (k5 : Nat → Int32 → Int32 → Int32 → AH → Option (Int32 × AH)) (r0 : Nat) (i1 : Int32) (i2 : Int32) (i3 : Int32) (h : AH) : Option (Int32 × AH) :=
  k5 r0 i1 i2 (i3 + 1) h
set_option maxRecDepth 100000 in
set_option maxHeartbeats 4000000 in
theorem l_X6_wayOver_75 {X : MX} {l : Launch} {G : GX} {h0 : AH} {rr : Int32} {hr : AH} (C : Cx X G RX6 cX6_wayOver 6 (some .int) 4 90 h0) (C2 : Cy X l "wayOver" []) {k5 : Nat → Int32 → Int32 → Int32 → AH → Option (Int32 × AH)} (hk5 : ∀ (r0 : Nat) (i1 : Int32) (i2 : Int32) (i3 : Int32) (h : AH), k5 r0 i1 i2 i3 h = some (rr, hr) → V X G h0 (QI rr hr) 5 [(0, .ref r0), (1, .int i1), (2, .int i2), (3, .int i3)] [] h) (r0 : Nat) (i1 : Int32) (i2 : Int32) (i3 : Int32) (h : AH) (hf : f_X6_wayOver_75 k5 r0 i1 i2 i3 h = some (rr, hr)) : V X G h0 (QI rr hr) 75 [(0, .ref r0), (1, .int i1), (2, .int i2), (3, .int i3)] [] h := by
  unfold f_X6_wayOver_75 at hf
  refine C.seg (pe := 78) (lv' := [(3, .int (i3 + 1)), (0, .ref r0), (1, .int i1), (2, .int i2)]) (st' := []) [(.iinc 3 1, 3, 1)] (by decide +kernel) rfl ?_
  refine C.goto (off := (-73)) (tgt := 5) (by decide +kernel) (by decide) ?_
  refine Vsub [1, 2, 3, 0] rfl ?_
  exact hk5 r0 i1 i2 (i3 + 1) h hf
def f_X6_wayOver_68 (k5 : Nat → Int32 → Int32 → Int32 → AH → Option (Int32 × AH)) (r0 : Nat) (i1 : Int32) (i2 : Int32) (i3 : Int32) (i4 : Int32) (h : AH) : Option (Int32 × AH) :=
  f_X6_wayOver_75 k5 r0 i1 (mnI i2 i4) i3 h
set_option maxRecDepth 100000 in
set_option maxHeartbeats 4000000 in
theorem l_X6_wayOver_68 {X : MX} {l : Launch} {G : GX} {h0 : AH} {rr : Int32} {hr : AH} (C : Cx X G RX6 cX6_wayOver 6 (some .int) 4 90 h0) (C2 : Cy X l "wayOver" []) {k5 : Nat → Int32 → Int32 → Int32 → AH → Option (Int32 × AH)} (hk5 : ∀ (r0 : Nat) (i1 : Int32) (i2 : Int32) (i3 : Int32) (h : AH), k5 r0 i1 i2 i3 h = some (rr, hr) → V X G h0 (QI rr hr) 5 [(0, .ref r0), (1, .int i1), (2, .int i2), (3, .int i3)] [] h) (r0 : Nat) (i1 : Int32) (i2 : Int32) (i3 : Int32) (i4 : Int32) (h : AH) (hf : f_X6_wayOver_68 k5 r0 i1 i2 i3 i4 h = some (rr, hr)) : V X G h0 (QI rr hr) 68 [(0, .ref r0), (1, .int i1), (2, .int i2), (3, .int i3), (4, .int i4)] [] h := by
  unfold f_X6_wayOver_68 at hf
  refine C.seg (pe := 71) (lv' := [(0, .ref r0), (1, .int i1), (2, .int i2), (3, .int i3), (4, .int i4)]) (st' := [.int i4, .int i2]) [(.iload_n 2, 1, 0), (.iload 4, 2, 0)] (by decide +kernel) rfl ?_
  refine C.mmin k_1580 k_639 k_137 k_640 (by omega) (by omega) (Nat.le_of_ble_eq_true rfl) (by decide +kernel) rfl ?_
  refine C.seg (pe := 75) (lv' := [(2, .int (mnI i2 i4)), (0, .ref r0), (1, .int i1), (3, .int i3), (4, .int i4)]) (st' := []) [(.istore_n 2, 1, 0)] (by decide +kernel) rfl ?_
  refine Vsub [1, 2, 0, 3] rfl ?_
  exact l_X6_wayOver_75 C C2 hk5 r0 i1 (mnI i2 i4) i3 h hf
def f_X6_wayOver_5 : Nat → Nat → Int32 → Int32 → Int32 → AH → Option (Int32 × AH)
  | 0, _, _, _, _, _ => none
  | n + 1, r0, i1, i2, i3, h =>
    (gI 6 h r0 6).bind fun x1 =>
    if x1 ≤ i3 then
      some (i2, h)
    else
      if (i1 >>> (i3 &&& 31)) &&& 1 = 0 then
        f_X6_wayOver_75 (f_X6_wayOver_5 n) r0 i1 i2 i3 h
      else
        b2 (f_X6_wayTo r0 (i1 ^^^ (1 <<< (i3 &&& 31))) i3 h) fun x2 h3 =>
        if (i1 * 9) + i3 < 0 then
          f_X6_wayOver_68 (f_X6_wayOver_5 n) r0 i1 i2 i3 x2 h3
        else
          (gA 6 h3 r0 8).bind fun a4 =>
          (aN h3 a4).bind fun x5 =>
          if x5 ≤ (i1 * 9) + i3 then
            f_X6_wayOver_68 (f_X6_wayOver_5 n) r0 i1 i2 i3 x2 h3
          else
            (gA 6 h3 r0 8).bind fun a6 =>
            (sI 0 h3 a6 ((i1 * 9) + i3) x2).bind fun h7 =>
            f_X6_wayOver_68 (f_X6_wayOver_5 n) r0 i1 i2 i3 x2 h7
set_option maxRecDepth 100000 in
set_option maxHeartbeats 4000000 in
theorem l_X6_wayOver_5 {X : MX} {l : Launch} {G : GX} {h0 : AH} {rr : Int32} {hr : AH} (C : Cx X G RX6 cX6_wayOver 6 (some .int) 4 90 h0) (C2 : Cy X l "wayOver" []) : ∀ (n : Nat) (r0 : Nat) (i1 : Int32) (i2 : Int32) (i3 : Int32) (h : AH), f_X6_wayOver_5 n r0 i1 i2 i3 h = some (rr, hr) → V X G h0 (QI rr hr) 5 [(0, .ref r0), (1, .int i1), (2, .int i2), (3, .int i3)] [] h := by
  intro n
  induction n with
  | zero => intro r0 i1 i2 i3 h hf; rw [f_X6_wayOver_5] at hf; cases hf
  | succ n ih =>
    intro r0 i1 i2 i3 h hf
    rw [f_X6_wayOver_5] at hf
    refine C.seg (pe := 7) (lv' := [(0, .ref r0), (1, .int i1), (2, .int i2), (3, .int i3)]) (st' := [.ref r0, .int i3]) [(.iload_n 3, 1, 0), (.aload_n 0, 1, 0)] (by decide +kernel) rfl ?_
    obtain ⟨x1, gx1, hf⟩ := Option.bind_eq_some_iff.mp hf
    refine C.rdI fr_341 gx1 (by decide +kernel) rfl ?_
    refine C.icmp_ge (off := 71) (tgt := 81) (pf := 13) (by decide +kernel) (by decide) rfl (fun c11 => ?_) (fun c11 => ?_)
    · replace hf := ifp c11 hf
      refine C.seg (pe := 82) (lv' := [(0, .ref r0), (1, .int i1), (2, .int i2), (3, .int i3)]) (st' := [.int i2]) [(.iload_n 2, 1, 0)] (by decide +kernel) rfl ?_
      cases hf
      exact C.retI rfl (by decide +kernel) ⟨rfl, rfl⟩
    · replace hf := ifn c11 hf
      refine C.seg (pe := 18) (lv' := [(0, .ref r0), (1, .int i1), (2, .int i2), (3, .int i3)]) (st' := [.int ((i1 >>> (i3 &&& 31)) &&& 1)]) [(.iload_n 1, 1, 0), (.iload_n 3, 1, 0), (.ishr, 1, 0), (.iconst 1, 1, 1), (.iand, 1, 0)] (by decide +kernel) rfl ?_
      refine C.if_ne (off := 6) (tgt := 24) (pf := 21) (by decide +kernel) (by decide) rfl (fun c10 => ?_) (fun c10 => ?_)
      · replace hf := ifn c10 hf
        refine C.seg (pe := 31) (lv' := [(0, .ref r0), (1, .int i1), (2, .int i2), (3, .int i3)]) (st' := [.int i3, .int (i1 ^^^ (1 <<< (i3 &&& 31))), .ref r0]) [(.aload_n 0, 1, 0), (.iload_n 1, 1, 0), (.iconst 1, 1, 1), (.iload_n 3, 1, 0), (.ishl, 1, 0), (.ixor, 1, 0), (.iload_n 3, 1, 0)] (by decide +kernel) rfl ?_
        obtain ⟨x2, h3, gx2, hf⟩ := b2_some hf
        refine C.callVr C2 [.int (i1 ^^^ (1 <<< (i3 &&& 31))), .int i3] [] mv_1576 rfl (o_X6_wayTo gx2) (w_X6_wayTo gx2) (by omega) (by omega) (Nat.le_of_ble_eq_true rfl) (by decide +kernel) rfl ?_
        refine C.seg (pe := 46) (lv' := [(5, .int ((i1 * 9) + i3)), (4, .int x2), (0, .ref r0), (1, .int i1), (2, .int i2), (3, .int i3)]) (st' := [.int ((i1 * 9) + i3)]) [(.istore 4, 2, 0), (.iload_n 1, 1, 0), (.bipush 9, 2, 9), (.imul, 1, 0), (.iload_n 3, 1, 0), (.iadd, 1, 0), (.istore 5, 2, 0), (.iload 5, 2, 0)] (by decide +kernel) rfl ?_
        refine C.if_lt (off := 22) (tgt := 68) (pf := 49) (by decide +kernel) (by decide) rfl (fun c9 => ?_) (fun c9 => ?_)
        · replace hf := ifp c9 hf
          refine Vsub [2, 3, 4, 5, 1] rfl ?_
          exact l_X6_wayOver_68 C C2 ih r0 i1 i2 i3 x2 h3 hf
        · replace hf := ifn c9 hf
          refine C.seg (pe := 52) (lv' := [(5, .int ((i1 * 9) + i3)), (4, .int x2), (0, .ref r0), (1, .int i1), (2, .int i2), (3, .int i3)]) (st' := [.ref r0, .int ((i1 * 9) + i3)]) [(.iload 5, 2, 0), (.aload_n 0, 1, 0)] (by decide +kernel) rfl ?_
          obtain ⟨a4, ga4, hf⟩ := Option.bind_eq_some_iff.mp hf
          refine C.rdA fr_343 ga4 (by decide +kernel) rfl ?_
          obtain ⟨x5, gx5, hf⟩ := Option.bind_eq_some_iff.mp hf
          refine C.alen gx5 (by decide +kernel) rfl ?_
          refine C.icmp_ge (off := 12) (tgt := 68) (pf := 59) (by decide +kernel) (by decide) rfl (fun c8 => ?_) (fun c8 => ?_)
          · replace hf := ifp c8 hf
            refine Vsub [2, 3, 4, 5, 1] rfl ?_
            exact l_X6_wayOver_68 C C2 ih r0 i1 i2 i3 x2 h3 hf
          · replace hf := ifn c8 hf
            refine C.seg (pe := 60) (lv' := [(5, .int ((i1 * 9) + i3)), (4, .int x2), (0, .ref r0), (1, .int i1), (2, .int i2), (3, .int i3)]) (st' := [.ref r0]) [(.aload_n 0, 1, 0)] (by decide +kernel) rfl ?_
            obtain ⟨a6, ga6, hf⟩ := Option.bind_eq_some_iff.mp hf
            refine C.rdA fr_343 ga6 (by decide +kernel) rfl ?_
            refine C.seg (pe := 67) (lv' := [(5, .int ((i1 * 9) + i3)), (4, .int x2), (0, .ref r0), (1, .int i1), (2, .int i2), (3, .int i3)]) (st' := [.int x2, .int ((i1 * 9) + i3), .ref a6]) [(.iload 5, 2, 0), (.iload 4, 2, 0)] (by decide +kernel) rfl ?_
            obtain ⟨h7, gh7, hf⟩ := Option.bind_eq_some_iff.mp hf
            refine C.ast gh7 (by decide +kernel) rfl ?_
            refine Vsub [2, 3, 4, 5, 1] rfl ?_
            exact l_X6_wayOver_68 C C2 ih r0 i1 i2 i3 x2 h7 hf
      · replace hf := ifp c10 hf
        refine C.goto (off := 54) (tgt := 75) (by decide +kernel) (by decide) ?_
        exact l_X6_wayOver_75 C C2 ih r0 i1 i2 i3 h hf
def f_X6_wayOver (a0 : Nat) (p1 : Int32) (h : AH) : Option (Int32 × AH) :=
  if isO 6 h a0 = true then
    f_X6_wayOver_5 FU a0 p1 1000000 0 h
  else none
set_option maxRecDepth 100000 in
set_option maxHeartbeats 4000000 in
theorem w_X6_wayOver {l : Launch} {G : GX} {a0 : Nat} {p1 : Int32} {h : AH} {rr : Int32} {hr : AH} (hf : f_X6_wayOver a0 p1 h = some (rr, hr)) : Ct l G yX6_wayOver 4 90 [.ref a0, .int p1] h (QI rr hr) := by
  unfold f_X6_wayOver at hf
  obtain ⟨ho, hf⟩ := ifO hf
  refine Ct_of (own := RX6) (cc := cX6_wayOver) (nL := 6) (ret := (some .int)) rfl rfl k_1574 (Nat.le_of_ble_eq_true rfl) (fun X C2 C => ?_)
  show V X G h (QI rr hr) 0 [(0, .ref a0), (1, .int p1)] [] h
  refine C.ldcI k_1575 (by decide +kernel) rfl ?_
  refine C.seg (pe := 5) (lv' := [(3, .int 0), (2, .int 1000000), (0, .ref a0), (1, .int p1)]) (st' := []) [(.istore_n 2, 1, 0), (.iconst 0, 1, 0), (.istore_n 3, 1, 0)] (by decide +kernel) rfl ?_
  refine Vsub [2, 3, 1, 0] rfl ?_
  exact l_X6_wayOver_5 C C2 FU a0 p1 1000000 0 h hf
theorem o_X6_wayOver {a0 : Nat} {p1 : Int32} {h : AH} {rr : Int32} {hr : AH} (hf : f_X6_wayOver a0 p1 h = some (rr, hr)) : isO 6 h a0 = true := by
  unfold f_X6_wayOver at hf
  exact (ifO hf).1
/-! WallHouse$Streets.themesOf(I)I -/
def f_X6_themesOf_49 (k4 : Nat → Int32 → Int32 → Int32 → AH → Option (Int32 × AH)) (r0 : Nat) (i1 : Int32) (i2 : Int32) (i3 : Int32) (h : AH) : Option (Int32 × AH) :=
  k4 r0 i1 i2 (i3 + 1) h
set_option maxRecDepth 100000 in
set_option maxHeartbeats 4000000 in
theorem l_X6_themesOf_49 {X : MX} {l : Launch} {G : GX} {h0 : AH} {rr : Int32} {hr : AH} (C : Cx X G RX6 cX6_themesOf 5 (some .int) 1 21 h0) (C2 : Cy X l "themesOf" []) {k4 : Nat → Int32 → Int32 → Int32 → AH → Option (Int32 × AH)} (hk4 : ∀ (r0 : Nat) (i1 : Int32) (i2 : Int32) (i3 : Int32) (h : AH), k4 r0 i1 i2 i3 h = some (rr, hr) → V X G h0 (QI rr hr) 4 [(0, .ref r0), (1, .int i1), (2, .int i2), (3, .int i3)] [] h) (r0 : Nat) (i1 : Int32) (i2 : Int32) (i3 : Int32) (h : AH) (hf : f_X6_themesOf_49 k4 r0 i1 i2 i3 h = some (rr, hr)) : V X G h0 (QI rr hr) 49 [(0, .ref r0), (1, .int i1), (2, .int i2), (3, .int i3)] [] h := by
  unfold f_X6_themesOf_49 at hf
  refine C.seg (pe := 52) (lv' := [(3, .int (i3 + 1)), (0, .ref r0), (1, .int i1), (2, .int i2)]) (st' := []) [(.iinc 3 1, 3, 1)] (by decide +kernel) rfl ?_
  refine C.goto (off := (-48)) (tgt := 4) (by decide +kernel) (by decide) ?_
  refine Vsub [1, 2, 3, 0] rfl ?_
  exact hk4 r0 i1 i2 (i3 + 1) h hf
def f_X6_themesOf_4 : Nat → Nat → Int32 → Int32 → Int32 → AH → Option (Int32 × AH)
  | 0, _, _, _, _, _ => none
  | n + 1, r0, i1, i2, i3, h =>
    (gI 6 h r0 6).bind fun x1 =>
    if x1 ≤ i3 then
      some (i2, h)
    else
      (gA 6 h r0 0).bind fun a2 =>
      (gA 6 h r0 5).bind fun a3 =>
      (aI 0 h a3 i3).bind fun x4 =>
      b2 (f_X9_at a2 x4 h) fun q5 h6 =>
      tr q5 (
        f_X6_themesOf_49 (f_X6_themesOf_4 n) r0 i1 i2 i3 h6) fun a7 =>
      if (i1 >>> (i3 &&& 31)) &&& 1 = 1 then
        (gI 8 h6 a7 7).bind fun x8 =>
        f_X6_themesOf_49 (f_X6_themesOf_4 n) r0 i1 (i2 ||| x8) i3 h6
      else
        f_X6_themesOf_49 (f_X6_themesOf_4 n) r0 i1 i2 i3 h6
set_option maxRecDepth 100000 in
set_option maxHeartbeats 4000000 in
theorem l_X6_themesOf_4 {X : MX} {l : Launch} {G : GX} {h0 : AH} {rr : Int32} {hr : AH} (C : Cx X G RX6 cX6_themesOf 5 (some .int) 1 21 h0) (C2 : Cy X l "themesOf" []) : ∀ (n : Nat) (r0 : Nat) (i1 : Int32) (i2 : Int32) (i3 : Int32) (h : AH), f_X6_themesOf_4 n r0 i1 i2 i3 h = some (rr, hr) → V X G h0 (QI rr hr) 4 [(0, .ref r0), (1, .int i1), (2, .int i2), (3, .int i3)] [] h := by
  intro n
  induction n with
  | zero => intro r0 i1 i2 i3 h hf; rw [f_X6_themesOf_4] at hf; cases hf
  | succ n ih =>
    intro r0 i1 i2 i3 h hf
    rw [f_X6_themesOf_4] at hf
    refine C.seg (pe := 6) (lv' := [(0, .ref r0), (1, .int i1), (2, .int i2), (3, .int i3)]) (st' := [.ref r0, .int i3]) [(.iload_n 3, 1, 0), (.aload_n 0, 1, 0)] (by decide +kernel) rfl ?_
    obtain ⟨x1, gx1, hf⟩ := Option.bind_eq_some_iff.mp hf
    refine C.rdI fr_341 gx1 (by decide +kernel) rfl ?_
    refine C.icmp_ge (off := 46) (tgt := 55) (pf := 12) (by decide +kernel) (by decide) rfl (fun c10 => ?_) (fun c10 => ?_)
    · replace hf := ifp c10 hf
      refine C.seg (pe := 56) (lv' := [(0, .ref r0), (1, .int i1), (2, .int i2), (3, .int i3)]) (st' := [.int i2]) [(.iload_n 2, 1, 0)] (by decide +kernel) rfl ?_
      cases hf
      exact C.retI rfl (by decide +kernel) ⟨rfl, rfl⟩
    · replace hf := ifn c10 hf
      refine C.seg (pe := 13) (lv' := [(0, .ref r0), (1, .int i1), (2, .int i2), (3, .int i3)]) (st' := [.ref r0]) [(.aload_n 0, 1, 0)] (by decide +kernel) rfl ?_
      obtain ⟨a2, ga2, hf⟩ := Option.bind_eq_some_iff.mp hf
      refine C.rdA fr_334 ga2 (by decide +kernel) rfl ?_
      refine C.seg (pe := 17) (lv' := [(0, .ref r0), (1, .int i1), (2, .int i2), (3, .int i3)]) (st' := [.ref r0, .ref a2]) [(.aload_n 0, 1, 0)] (by decide +kernel) rfl ?_
      obtain ⟨a3, ga3, hf⟩ := Option.bind_eq_some_iff.mp hf
      refine C.rdA fr_340 ga3 (by decide +kernel) rfl ?_
      refine C.seg (pe := 21) (lv' := [(0, .ref r0), (1, .int i1), (2, .int i2), (3, .int i3)]) (st' := [.int i3, .ref a3, .ref a2]) [(.iload_n 3, 1, 0)] (by decide +kernel) rfl ?_
      obtain ⟨x4, gx4, hf⟩ := Option.bind_eq_some_iff.mp hf
      refine C.ald 0 rfl gx4 (by decide +kernel) rfl ?_
      obtain ⟨q5, h6, gq5, hf⟩ := b2_some hf
      cases q5 with
      | none =>
        replace hf := tr_none hf
        refine C.callVr C2 [.int x4] [] mv_1566 rfl (o_X9_at gq5) (w_X9_at gq5) (by omega) (by omega) (Nat.le_of_ble_eq_true rfl) (by decide +kernel) rfl ?_
        refine C.seg (pe := 29) (lv' := [(4, .null), (0, .ref r0), (1, .int i1), (2, .int i2), (3, .int i3)]) (st' := [.null]) [(.astore 4, 2, 0), (.aload 4, 2, 0)] (by decide +kernel) rfl ?_
        refine C.nullN (off := 20) (tgt := 49) (by decide +kernel) (by decide) ?_
        refine Vsub [1, 2, 3, 4] rfl ?_
        exact l_X6_themesOf_49 C C2 ih r0 i1 i2 i3 h6 hf
      | some a7 =>
        replace hf := tr_some hf
        refine C.callVr C2 [.int x4] [] mv_1566 rfl (o_X9_at gq5) (w_X9_at gq5) (by omega) (by omega) (Nat.le_of_ble_eq_true rfl) (by decide +kernel) rfl ?_
        refine C.seg (pe := 29) (lv' := [(4, .ref a7), (0, .ref r0), (1, .int i1), (2, .int i2), (3, .int i3)]) (st' := [.ref a7]) [(.astore 4, 2, 0), (.aload 4, 2, 0)] (by decide +kernel) rfl ?_
        refine C.nullR (off := 20) (pf := 32) (by decide +kernel) rfl ?_
        refine C.seg (pe := 38) (lv' := [(4, .ref a7), (0, .ref r0), (1, .int i1), (2, .int i2), (3, .int i3)]) (st' := [.int 1, .int ((i1 >>> (i3 &&& 31)) &&& 1)]) [(.iload_n 1, 1, 0), (.iload_n 3, 1, 0), (.ishr, 1, 0), (.iconst 1, 1, 1), (.iand, 1, 0), (.iconst 1, 1, 1)] (by decide +kernel) rfl ?_
        refine C.icmp_ne (off := 11) (tgt := 49) (pf := 41) (by decide +kernel) (by decide) rfl (fun c9 => ?_) (fun c9 => ?_)
        · replace hf := ifn c9 hf
          refine Vsub [1, 2, 3, 4] rfl ?_
          exact l_X6_themesOf_49 C C2 ih r0 i1 i2 i3 h6 hf
        · replace hf := ifp c9 hf
          refine C.seg (pe := 44) (lv' := [(4, .ref a7), (0, .ref r0), (1, .int i1), (2, .int i2), (3, .int i3)]) (st' := [.ref a7, .int i2]) [(.iload_n 2, 1, 0), (.aload 4, 2, 0)] (by decide +kernel) rfl ?_
          obtain ⟨x8, gx8, hf⟩ := Option.bind_eq_some_iff.mp hf
          refine C.rdI fr_658 gx8 (by decide +kernel) rfl ?_
          refine C.seg (pe := 49) (lv' := [(2, .int (i2 ||| x8)), (4, .ref a7), (0, .ref r0), (1, .int i1), (3, .int i3)]) (st' := []) [(.ior, 1, 0), (.istore_n 2, 1, 0)] (by decide +kernel) rfl ?_
          refine Vsub [2, 3, 0, 4] rfl ?_
          exact l_X6_themesOf_49 C C2 ih r0 i1 (i2 ||| x8) i3 h6 hf
def f_X6_themesOf (a0 : Nat) (p1 : Int32) (h : AH) : Option (Int32 × AH) :=
  if isO 6 h a0 = true then
    f_X6_themesOf_4 FU a0 p1 0 0 h
  else none
set_option maxRecDepth 100000 in
set_option maxHeartbeats 4000000 in
theorem w_X6_themesOf {l : Launch} {G : GX} {a0 : Nat} {p1 : Int32} {h : AH} {rr : Int32} {hr : AH} (hf : f_X6_themesOf a0 p1 h = some (rr, hr)) : Ct l G yX6_themesOf 1 21 [.ref a0, .int p1] h (QI rr hr) := by
  unfold f_X6_themesOf at hf
  obtain ⟨ho, hf⟩ := ifO hf
  refine Ct_of (own := RX6) (cc := cX6_themesOf) (nL := 5) (ret := (some .int)) rfl rfl k_1584 (Nat.le_of_ble_eq_true rfl) (fun X C2 C => ?_)
  show V X G h (QI rr hr) 0 [(0, .ref a0), (1, .int p1)] [] h
  refine C.seg (pe := 4) (lv' := [(3, .int 0), (2, .int 0), (0, .ref a0), (1, .int p1)]) (st' := []) [(.iconst 0, 1, 0), (.istore_n 2, 1, 0), (.iconst 0, 1, 0), (.istore_n 3, 1, 0)] (by decide +kernel) rfl ?_
  refine Vsub [2, 3, 1, 0] rfl ?_
  exact l_X6_themesOf_4 C C2 FU a0 p1 0 0 h hf
theorem o_X6_themesOf {a0 : Nat} {p1 : Int32} {h : AH} {rr : Int32} {hr : AH} (hf : f_X6_themesOf a0 p1 h = some (rr, hr)) : isO 6 h a0 = true := by
  unfold f_X6_themesOf at hf
  exact (ifO hf).1
/-! WallHouse$Streets.isAhead(II)Z -/
def f_X6_isAhead_38 (si0 : Int32) (h : AH) : Option (Int32 × AH) :=
  (ckZ si0).bind fun x1 =>
  some (x1, h)
set_option maxRecDepth 100000 in
set_option maxHeartbeats 4000000 in
theorem l_X6_isAhead_38 {X : MX} {l : Launch} {G : GX} {h0 : AH} {rr : Int32} {hr : AH} (C : Cx X G RX6 cX6_isAhead 4 (some .boolean) 1 21 h0) (C2 : Cy X l "isAhead" []) (si0 : Int32) (h : AH) (hf : f_X6_isAhead_38 si0 h = some (rr, hr)) : V X G h0 (QI rr hr) 38 [] [.int si0] h := by
  unfold f_X6_isAhead_38 at hf
  obtain ⟨x1, gx1, hf⟩ := Option.bind_eq_some_iff.mp hf
  have ex1 := ckZ_eq gx1
  subst ex1
  cases hf
  exact C.retZ rfl gx1 (by decide +kernel) ⟨rfl, rfl⟩
def f_X6_isAhead_37 (h : AH) : Option (Int32 × AH) :=
  f_X6_isAhead_38 0 h
set_option maxRecDepth 100000 in
set_option maxHeartbeats 4000000 in
theorem l_X6_isAhead_37 {X : MX} {l : Launch} {G : GX} {h0 : AH} {rr : Int32} {hr : AH} (C : Cx X G RX6 cX6_isAhead 4 (some .boolean) 1 21 h0) (C2 : Cy X l "isAhead" []) (h : AH) (hf : f_X6_isAhead_37 h = some (rr, hr)) : V X G h0 (QI rr hr) 37 [] [] h := by
  unfold f_X6_isAhead_37 at hf
  refine C.seg (pe := 38) (lv' := []) (st' := [.int 0]) [(.iconst 0, 1, 0)] (by decide +kernel) rfl ?_
  exact l_X6_isAhead_38 C C2 0 h hf
def f_X6_isAhead_33 (h : AH) : Option (Int32 × AH) :=
  f_X6_isAhead_38 1 h
set_option maxRecDepth 100000 in
set_option maxHeartbeats 4000000 in
theorem l_X6_isAhead_33 {X : MX} {l : Launch} {G : GX} {h0 : AH} {rr : Int32} {hr : AH} (C : Cx X G RX6 cX6_isAhead 4 (some .boolean) 1 21 h0) (C2 : Cy X l "isAhead" []) (h : AH) (hf : f_X6_isAhead_33 h = some (rr, hr)) : V X G h0 (QI rr hr) 33 [] [] h := by
  unfold f_X6_isAhead_33 at hf
  refine C.seg (pe := 34) (lv' := []) (st' := [.int 1]) [(.iconst 1, 1, 1)] (by decide +kernel) rfl ?_
  refine C.goto (off := 4) (tgt := 38) (by decide +kernel) (by decide) ?_
  exact l_X6_isAhead_38 C C2 1 h hf
def f_X6_isAhead (p1 : Int32) (p2 : Int32) (h : AH) : Option (Int32 × AH) :=
  b2 (f_J6_bitCount_0f7a4 p1 h) fun x1 h2 =>
  b2 (f_J6_bitCount_0f7a4 p2 h2) fun x3 h4 =>
  b2 (f_J6_compare_7cf53 x1 x3 h4) fun x5 h6 =>
  if x5 < 0 then
    f_X6_isAhead_33 h6
  else
    if x5 = 0 then
      if (p1 &&& (p1 ^^^ p2)) &&& (-(p1 ^^^ p2)) = 0 then
        f_X6_isAhead_37 h6
      else
        f_X6_isAhead_33 h6
    else
      f_X6_isAhead_37 h6
set_option maxRecDepth 100000 in
set_option maxHeartbeats 4000000 in
theorem w_X6_isAhead {l : Launch} {G : GX} {p1 : Int32} {p2 : Int32} {h : AH} {rr : Int32} {hr : AH} (hf : f_X6_isAhead p1 p2 h = some (rr, hr)) : Ct l G yX6_isAhead 1 21 [.int p1, .int p2] h (QI rr hr) := by
  unfold f_X6_isAhead at hf
  refine Ct_of (own := RX6) (cc := cX6_isAhead) (nL := 4) (ret := (some .boolean)) rfl rfl k_1587 (Nat.le_of_ble_eq_true rfl) (fun X C2 C => ?_)
  show V X G h (QI rr hr) 0 [(0, .int p1), (1, .int p2)] [] h
  refine C.seg (pe := 1) (lv' := [(0, .int p1), (1, .int p2)]) (st' := [.int p1]) [(.iload_n 0, 1, 0)] (by decide +kernel) rfl ?_
  obtain ⟨x1, h2, gx1, hf⟩ := b2_some hf
  refine C.callSr C2 [.int p1] [] ms_1588 rfl (w_J6_bitCount_0f7a4 gx1) (by omega) (by omega) (Nat.le_of_ble_eq_true rfl) (by decide +kernel) rfl ?_
  refine C.seg (pe := 5) (lv' := [(0, .int p1), (1, .int p2)]) (st' := [.int p2, .int x1]) [(.iload_n 1, 1, 0)] (by decide +kernel) rfl ?_
  obtain ⟨x3, h4, gx3, hf⟩ := b2_some hf
  refine C.callSr C2 [.int p2] [.int x1] ms_1588 rfl (w_J6_bitCount_0f7a4 gx3) (by omega) (by omega) (Nat.le_of_ble_eq_true rfl) (by decide +kernel) rfl ?_
  obtain ⟨x5, h6, gx5, hf⟩ := b2_some hf
  refine C.callSr C2 [.int x1, .int x3] [] ms_1546 rfl (w_J6_compare_7cf53 gx5) (by omega) (by omega) (Nat.le_of_ble_eq_true rfl) (by decide +kernel) rfl ?_
  refine C.seg (pe := 17) (lv' := [(3, .int (p1 ^^^ p2)), (2, .int x5), (0, .int p1), (1, .int p2)]) (st' := [.int x5]) [(.istore_n 2, 1, 0), (.iload_n 0, 1, 0), (.iload_n 1, 1, 0), (.ixor, 1, 0), (.istore_n 3, 1, 0), (.iload_n 2, 1, 0)] (by decide +kernel) rfl ?_
  refine C.if_lt (off := 16) (tgt := 33) (pf := 20) (by decide +kernel) (by decide) rfl (fun c9 => ?_) (fun c9 => ?_)
  · replace hf := ifp c9 hf
    refine Vsub [] rfl ?_
    exact l_X6_isAhead_33 C C2 h6 hf
  · replace hf := ifn c9 hf
    refine C.seg (pe := 21) (lv' := [(3, .int (p1 ^^^ p2)), (2, .int x5), (0, .int p1), (1, .int p2)]) (st' := [.int x5]) [(.iload_n 2, 1, 0)] (by decide +kernel) rfl ?_
    refine C.if_ne (off := 16) (tgt := 37) (pf := 24) (by decide +kernel) (by decide) rfl (fun c8 => ?_) (fun c8 => ?_)
    · replace hf := ifn c8 hf
      refine Vsub [] rfl ?_
      exact l_X6_isAhead_37 C C2 h6 hf
    · replace hf := ifp c8 hf
      refine C.seg (pe := 30) (lv' := [(3, .int (p1 ^^^ p2)), (2, .int x5), (0, .int p1), (1, .int p2)]) (st' := [.int ((p1 &&& (p1 ^^^ p2)) &&& (-(p1 ^^^ p2)))]) [(.iload_n 0, 1, 0), (.iload_n 3, 1, 0), (.iand, 1, 0), (.iload_n 3, 1, 0), (.ineg, 1, 0), (.iand, 1, 0)] (by decide +kernel) rfl ?_
      refine C.if_eq (off := 7) (tgt := 37) (pf := 33) (by decide +kernel) (by decide) rfl (fun c7 => ?_) (fun c7 => ?_)
      · replace hf := ifp c7 hf
        refine Vsub [] rfl ?_
        exact l_X6_isAhead_37 C C2 h6 hf
      · replace hf := ifn c7 hf
        refine Vsub [] rfl ?_
        exact l_X6_isAhead_33 C C2 h6 hf
/-! WallHouse$Streets.shortestTrail()I -/
def f_X6_shortestTrail_155 (k118 : Nat → Int32 → Int32 → Int32 → AH → Option (Int32 × AH)) (r0 : Nat) (i2 : Int32) (i3 : Int32) (i4 : Int32) (h : AH) : Option (Int32 × AH) :=
  k118 r0 i2 i3 (i4 + 1) h
set_option maxRecDepth 100000 in
set_option maxHeartbeats 4000000 in
theorem l_X6_shortestTrail_155 {X : MX} {l : Launch} {G : GX} {h0 : AH} {rr : Int32} {hr : AH} (C : Cx X G RX6 cX6_shortestTrail 6 (some .int) 5 115 h0) (C2 : Cy X l "shortestTrail" []) {k118 : Nat → Int32 → Int32 → Int32 → AH → Option (Int32 × AH)} (hk118 : ∀ (r0 : Nat) (i2 : Int32) (i3 : Int32) (i4 : Int32) (h : AH), k118 r0 i2 i3 i4 h = some (rr, hr) → V X G h0 (QI rr hr) 118 [(0, .ref r0), (2, .int i2), (3, .int i3), (4, .int i4)] [] h) (r0 : Nat) (i2 : Int32) (i3 : Int32) (i4 : Int32) (h : AH) (hf : f_X6_shortestTrail_155 k118 r0 i2 i3 i4 h = some (rr, hr)) : V X G h0 (QI rr hr) 155 [(0, .ref r0), (2, .int i2), (3, .int i3), (4, .int i4)] [] h := by
  unfold f_X6_shortestTrail_155 at hf
  refine C.seg (pe := 158) (lv' := [(4, .int (i4 + 1)), (0, .ref r0), (2, .int i2), (3, .int i3)]) (st' := []) [(.iinc 4 1, 3, 1)] (by decide +kernel) rfl ?_
  refine C.goto (off := (-40)) (tgt := 118) (by decide +kernel) (by decide) ?_
  refine Vsub [1, 2, 3, 0] rfl ?_
  exact hk118 r0 i2 i3 (i4 + 1) h hf
def f_X6_shortestTrail_118 : Nat → Nat → Int32 → Int32 → Int32 → AH → Option (Int32 × AH)
  | 0, _, _, _, _, _ => none
  | n + 1, r0, i2, i3, i4, h =>
    (gI 6 h r0 6).bind fun x1 =>
    if x1 ≤ i4 then
      some (i3, h)
    else
      if (i2 >>> (i4 &&& 31)) &&& 1 = 1 then
        (gI 6 h r0 9).bind fun x2 =>
        (gA 6 h r0 5).bind fun a3 =>
        (aI 0 h a3 i4).bind fun x4 =>
        (pI 6 h r0 9 (x2 ||| (1 <<< (x4 &&& 31)))).bind fun h5 =>
        f_X6_shortestTrail_155 (f_X6_shortestTrail_118 n) r0 i2 i3 i4 h5
      else
        f_X6_shortestTrail_155 (f_X6_shortestTrail_118 n) r0 i2 i3 i4 h
set_option maxRecDepth 100000 in
set_option maxHeartbeats 4000000 in
theorem l_X6_shortestTrail_118 {X : MX} {l : Launch} {G : GX} {h0 : AH} {rr : Int32} {hr : AH} (C : Cx X G RX6 cX6_shortestTrail 6 (some .int) 5 115 h0) (C2 : Cy X l "shortestTrail" []) : ∀ (n : Nat) (r0 : Nat) (i2 : Int32) (i3 : Int32) (i4 : Int32) (h : AH), f_X6_shortestTrail_118 n r0 i2 i3 i4 h = some (rr, hr) → V X G h0 (QI rr hr) 118 [(0, .ref r0), (2, .int i2), (3, .int i3), (4, .int i4)] [] h := by
  intro n
  induction n with
  | zero => intro r0 i2 i3 i4 h hf; rw [f_X6_shortestTrail_118] at hf; cases hf
  | succ n ih =>
    intro r0 i2 i3 i4 h hf
    rw [f_X6_shortestTrail_118] at hf
    refine C.seg (pe := 121) (lv' := [(0, .ref r0), (2, .int i2), (3, .int i3), (4, .int i4)]) (st' := [.ref r0, .int i4]) [(.iload 4, 2, 0), (.aload_n 0, 1, 0)] (by decide +kernel) rfl ?_
    obtain ⟨x1, gx1, hf⟩ := Option.bind_eq_some_iff.mp hf
    refine C.rdI fr_341 gx1 (by decide +kernel) rfl ?_
    refine C.icmp_ge (off := 37) (tgt := 161) (pf := 127) (by decide +kernel) (by decide) rfl (fun c7 => ?_) (fun c7 => ?_)
    · replace hf := ifp c7 hf
      refine C.seg (pe := 162) (lv' := [(0, .ref r0), (2, .int i2), (3, .int i3), (4, .int i4)]) (st' := [.int i3]) [(.iload_n 3, 1, 0)] (by decide +kernel) rfl ?_
      cases hf
      exact C.retI rfl (by decide +kernel) ⟨rfl, rfl⟩
    · replace hf := ifn c7 hf
      refine C.seg (pe := 134) (lv' := [(0, .ref r0), (2, .int i2), (3, .int i3), (4, .int i4)]) (st' := [.int 1, .int ((i2 >>> (i4 &&& 31)) &&& 1)]) [(.iload_n 2, 1, 0), (.iload 4, 2, 0), (.ishr, 1, 0), (.iconst 1, 1, 1), (.iand, 1, 0), (.iconst 1, 1, 1)] (by decide +kernel) rfl ?_
      refine C.icmp_ne (off := 21) (tgt := 155) (pf := 137) (by decide +kernel) (by decide) rfl (fun c6 => ?_) (fun c6 => ?_)
      · replace hf := ifn c6 hf
        exact l_X6_shortestTrail_155 C C2 ih r0 i2 i3 i4 h hf
      · replace hf := ifp c6 hf
        refine C.seg (pe := 139) (lv' := [(0, .ref r0), (2, .int i2), (3, .int i3), (4, .int i4)]) (st' := [.ref r0, .ref r0]) [(.aload_n 0, 1, 0), (.dup, 1, 0)] (by decide +kernel) rfl ?_
        obtain ⟨x2, gx2, hf⟩ := Option.bind_eq_some_iff.mp hf
        refine C.rdI fr_344 gx2 (by decide +kernel) rfl ?_
        refine C.seg (pe := 144) (lv' := [(0, .ref r0), (2, .int i2), (3, .int i3), (4, .int i4)]) (st' := [.ref r0, .int 1, .int x2, .ref r0]) [(.iconst 1, 1, 1), (.aload_n 0, 1, 0)] (by decide +kernel) rfl ?_
        obtain ⟨a3, ga3, hf⟩ := Option.bind_eq_some_iff.mp hf
        refine C.rdA fr_340 ga3 (by decide +kernel) rfl ?_
        refine C.seg (pe := 149) (lv' := [(0, .ref r0), (2, .int i2), (3, .int i3), (4, .int i4)]) (st' := [.int i4, .ref a3, .int 1, .int x2, .ref r0]) [(.iload 4, 2, 0)] (by decide +kernel) rfl ?_
        obtain ⟨x4, gx4, hf⟩ := Option.bind_eq_some_iff.mp hf
        refine C.ald 0 rfl gx4 (by decide +kernel) rfl ?_
        refine C.seg (pe := 152) (lv' := [(0, .ref r0), (2, .int i2), (3, .int i3), (4, .int i4)]) (st' := [.int (x2 ||| (1 <<< (x4 &&& 31))), .ref r0]) [(.ishl, 1, 0), (.ior, 1, 0)] (by decide +kernel) rfl ?_
        obtain ⟨h5, gh5, hf⟩ := Option.bind_eq_some_iff.mp hf
        refine C.putI fl_344 gh5 (by decide +kernel) rfl ?_
        exact l_X6_shortestTrail_155 C C2 ih r0 i2 i3 i4 h5 hf
def f_X6_shortestTrail_104 (k33 : Nat → Int32 → Int32 → Int32 → AH → Option (Int32 × AH)) (r0 : Nat) (i2 : Int32) (i3 : Int32) (i4 : Int32) (h : AH) : Option (Int32 × AH) :=
  k33 r0 i2 i3 (i4 + 1) h
set_option maxRecDepth 100000 in
set_option maxHeartbeats 4000000 in
theorem l_X6_shortestTrail_104 {X : MX} {l : Launch} {G : GX} {h0 : AH} {rr : Int32} {hr : AH} (C : Cx X G RX6 cX6_shortestTrail 6 (some .int) 5 115 h0) (C2 : Cy X l "shortestTrail" []) {k33 : Nat → Int32 → Int32 → Int32 → AH → Option (Int32 × AH)} (hk33 : ∀ (r0 : Nat) (i2 : Int32) (i3 : Int32) (i4 : Int32) (h : AH), k33 r0 i2 i3 i4 h = some (rr, hr) → V X G h0 (QI rr hr) 33 [(0, .ref r0), (2, .int i2), (3, .int i3), (4, .int i4)] [] h) (r0 : Nat) (i2 : Int32) (i3 : Int32) (i4 : Int32) (h : AH) (hf : f_X6_shortestTrail_104 k33 r0 i2 i3 i4 h = some (rr, hr)) : V X G h0 (QI rr hr) 104 [(0, .ref r0), (2, .int i2), (3, .int i3), (4, .int i4)] [] h := by
  unfold f_X6_shortestTrail_104 at hf
  refine C.seg (pe := 107) (lv' := [(4, .int (i4 + 1)), (0, .ref r0), (2, .int i2), (3, .int i3)]) (st' := []) [(.iinc 4 1, 3, 1)] (by decide +kernel) rfl ?_
  refine C.goto (off := (-74)) (tgt := 33) (by decide +kernel) (by decide) ?_
  refine Vsub [1, 2, 3, 0] rfl ?_
  exact hk33 r0 i2 i3 (i4 + 1) h hf
def f_X6_shortestTrail_98 (k33 : Nat → Int32 → Int32 → Int32 → AH → Option (Int32 × AH)) (r0 : Nat) (i4 : Int32) (i5 : Int32) (h : AH) : Option (Int32 × AH) :=
  f_X6_shortestTrail_104 k33 r0 i4 i5 i4 h
set_option maxRecDepth 100000 in
set_option maxHeartbeats 4000000 in
theorem l_X6_shortestTrail_98 {X : MX} {l : Launch} {G : GX} {h0 : AH} {rr : Int32} {hr : AH} (C : Cx X G RX6 cX6_shortestTrail 6 (some .int) 5 115 h0) (C2 : Cy X l "shortestTrail" []) {k33 : Nat → Int32 → Int32 → Int32 → AH → Option (Int32 × AH)} (hk33 : ∀ (r0 : Nat) (i2 : Int32) (i3 : Int32) (i4 : Int32) (h : AH), k33 r0 i2 i3 i4 h = some (rr, hr) → V X G h0 (QI rr hr) 33 [(0, .ref r0), (2, .int i2), (3, .int i3), (4, .int i4)] [] h) (r0 : Nat) (i4 : Int32) (i5 : Int32) (h : AH) (hf : f_X6_shortestTrail_98 k33 r0 i4 i5 h = some (rr, hr)) : V X G h0 (QI rr hr) 98 [(0, .ref r0), (4, .int i4), (5, .int i5)] [] h := by
  unfold f_X6_shortestTrail_98 at hf
  refine C.seg (pe := 104) (lv' := [(3, .int i5), (2, .int i4), (0, .ref r0), (4, .int i4), (5, .int i5)]) (st' := []) [(.iload 4, 2, 0), (.istore_n 2, 1, 0), (.iload 5, 2, 0), (.istore_n 3, 1, 0)] (by decide +kernel) rfl ?_
  refine Vsub [2, 1, 0, 3] rfl ?_
  exact l_X6_shortestTrail_104 C C2 hk33 r0 i4 i5 i4 h hf
def f_X6_shortestTrail_33 : Nat → Nat → Int32 → Int32 → Int32 → AH → Option (Int32 × AH)
  | 0, _, _, _, _, _ => none
  | n + 1, r0, i2, i3, i4, h =>
    (gI 6 h r0 6).bind fun x1 =>
    if 1 <<< (x1 &&& 31) ≤ i4 then
      (pI 6 h r0 9 0).bind fun h2 =>
      f_X6_shortestTrail_118 FU r0 i2 i3 0 h2
    else
      b2 (f_X6_wayOver r0 i4 h) fun x3 h4 =>
      b2 (f_X6_themesOf r0 i4 h4) fun x5 h6 =>
      (gI 6 h6 r0 7).bind fun x7 =>
      (gI 6 h6 r0 7).bind fun x8 =>
      if x5 &&& x7 = x8 then
        if i2 = 0 then
          f_X6_shortestTrail_98 (f_X6_shortestTrail_33 n) r0 i4 x3 h6
        else
          if x3 < i3 then
            f_X6_shortestTrail_98 (f_X6_shortestTrail_33 n) r0 i4 x3 h6
          else
            if x3 = i3 then
              b2 (f_X6_isAhead i4 i2 h6) fun x9 h10 =>
              if x9 = 0 then
                f_X6_shortestTrail_104 (f_X6_shortestTrail_33 n) r0 i2 i3 i4 h10
              else
                f_X6_shortestTrail_98 (f_X6_shortestTrail_33 n) r0 i4 x3 h10
            else
              f_X6_shortestTrail_104 (f_X6_shortestTrail_33 n) r0 i2 i3 i4 h6
      else
        f_X6_shortestTrail_104 (f_X6_shortestTrail_33 n) r0 i2 i3 i4 h6
set_option maxRecDepth 100000 in
set_option maxHeartbeats 4000000 in
theorem l_X6_shortestTrail_33 {X : MX} {l : Launch} {G : GX} {h0 : AH} {rr : Int32} {hr : AH} (C : Cx X G RX6 cX6_shortestTrail 6 (some .int) 5 115 h0) (C2 : Cy X l "shortestTrail" []) : ∀ (n : Nat) (r0 : Nat) (i2 : Int32) (i3 : Int32) (i4 : Int32) (h : AH), f_X6_shortestTrail_33 n r0 i2 i3 i4 h = some (rr, hr) → V X G h0 (QI rr hr) 33 [(0, .ref r0), (2, .int i2), (3, .int i3), (4, .int i4)] [] h := by
  intro n
  induction n with
  | zero => intro r0 i2 i3 i4 h hf; rw [f_X6_shortestTrail_33] at hf; cases hf
  | succ n ih =>
    intro r0 i2 i3 i4 h hf
    rw [f_X6_shortestTrail_33] at hf
    refine C.seg (pe := 37) (lv' := [(0, .ref r0), (2, .int i2), (3, .int i3), (4, .int i4)]) (st' := [.ref r0, .int 1, .int i4]) [(.iload 4, 2, 0), (.iconst 1, 1, 1), (.aload_n 0, 1, 0)] (by decide +kernel) rfl ?_
    obtain ⟨x1, gx1, hf⟩ := Option.bind_eq_some_iff.mp hf
    refine C.rdI fr_341 gx1 (by decide +kernel) rfl ?_
    refine C.seg (pe := 41) (lv' := [(0, .ref r0), (2, .int i2), (3, .int i3), (4, .int i4)]) (st' := [.int (1 <<< (x1 &&& 31)), .int i4]) [(.ishl, 1, 0)] (by decide +kernel) rfl ?_
    refine C.icmp_ge (off := 69) (tgt := 110) (pf := 44) (by decide +kernel) (by decide) rfl (fun c16 => ?_) (fun c16 => ?_)
    · replace hf := ifp c16 hf
      refine C.seg (pe := 112) (lv' := [(0, .ref r0), (2, .int i2), (3, .int i3), (4, .int i4)]) (st' := [.int 0, .ref r0]) [(.aload_n 0, 1, 0), (.iconst 0, 1, 0)] (by decide +kernel) rfl ?_
      obtain ⟨h2, gh2, hf⟩ := Option.bind_eq_some_iff.mp hf
      refine C.putI fl_344 gh2 (by decide +kernel) rfl ?_
      refine C.seg (pe := 118) (lv' := [(4, .int 0), (0, .ref r0), (2, .int i2), (3, .int i3)]) (st' := []) [(.iconst 0, 1, 0), (.istore 4, 2, 0)] (by decide +kernel) rfl ?_
      refine Vsub [1, 2, 3, 0] rfl ?_
      exact l_X6_shortestTrail_118 C C2 FU r0 i2 i3 0 h2 hf
    · replace hf := ifn c16 hf
      refine C.seg (pe := 47) (lv' := [(0, .ref r0), (2, .int i2), (3, .int i3), (4, .int i4)]) (st' := [.int i4, .ref r0]) [(.aload_n 0, 1, 0), (.iload 4, 2, 0)] (by decide +kernel) rfl ?_
      obtain ⟨x3, h4, gx3, hf⟩ := b2_some hf
      refine C.callVr C2 [.int i4] [] mv_1571 rfl (o_X6_wayOver gx3) (w_X6_wayOver gx3) (by omega) (by omega) (Nat.le_of_ble_eq_true rfl) (by decide +kernel) rfl ?_
      refine C.seg (pe := 55) (lv' := [(5, .int x3), (0, .ref r0), (2, .int i2), (3, .int i3), (4, .int i4)]) (st' := [.int i4, .ref r0]) [(.istore 5, 2, 0), (.aload_n 0, 1, 0), (.iload 4, 2, 0)] (by decide +kernel) rfl ?_
      obtain ⟨x5, h6, gx5, hf⟩ := b2_some hf
      refine C.callVr C2 [.int i4] [] mv_1581 rfl (o_X6_themesOf gx5) (w_X6_themesOf gx5) (by omega) (by omega) (Nat.le_of_ble_eq_true rfl) (by decide +kernel) rfl ?_
      refine C.seg (pe := 59) (lv' := [(5, .int x3), (0, .ref r0), (2, .int i2), (3, .int i3), (4, .int i4)]) (st' := [.ref r0, .int x5]) [(.aload_n 0, 1, 0)] (by decide +kernel) rfl ?_
      obtain ⟨x7, gx7, hf⟩ := Option.bind_eq_some_iff.mp hf
      refine C.rdI fr_342 gx7 (by decide +kernel) rfl ?_
      refine C.seg (pe := 64) (lv' := [(5, .int x3), (0, .ref r0), (2, .int i2), (3, .int i3), (4, .int i4)]) (st' := [.ref r0, .int (x5 &&& x7)]) [(.iand, 1, 0), (.aload_n 0, 1, 0)] (by decide +kernel) rfl ?_
      obtain ⟨x8, gx8, hf⟩ := Option.bind_eq_some_iff.mp hf
      refine C.rdI fr_342 gx8 (by decide +kernel) rfl ?_
      refine C.icmp_eq (off := 6) (tgt := 73) (pf := 70) (by decide +kernel) (by decide) rfl (fun c15 => ?_) (fun c15 => ?_)
      · replace hf := ifp c15 hf
        refine C.seg (pe := 74) (lv' := [(5, .int x3), (0, .ref r0), (2, .int i2), (3, .int i3), (4, .int i4)]) (st' := [.int i2]) [(.iload_n 2, 1, 0)] (by decide +kernel) rfl ?_
        refine C.if_eq (off := 24) (tgt := 98) (pf := 77) (by decide +kernel) (by decide) rfl (fun c14 => ?_) (fun c14 => ?_)
        · replace hf := ifp c14 hf
          refine Vsub [1, 4, 0] rfl ?_
          exact l_X6_shortestTrail_98 C C2 ih r0 i4 x3 h6 hf
        · replace hf := ifn c14 hf
          refine C.seg (pe := 80) (lv' := [(5, .int x3), (0, .ref r0), (2, .int i2), (3, .int i3), (4, .int i4)]) (st' := [.int i3, .int x3]) [(.iload 5, 2, 0), (.iload_n 3, 1, 0)] (by decide +kernel) rfl ?_
          refine C.icmp_lt (off := 18) (tgt := 98) (pf := 83) (by decide +kernel) (by decide) rfl (fun c13 => ?_) (fun c13 => ?_)
          · replace hf := ifp c13 hf
            refine Vsub [1, 4, 0] rfl ?_
            exact l_X6_shortestTrail_98 C C2 ih r0 i4 x3 h6 hf
          · replace hf := ifn c13 hf
            refine C.seg (pe := 86) (lv' := [(5, .int x3), (0, .ref r0), (2, .int i2), (3, .int i3), (4, .int i4)]) (st' := [.int i3, .int x3]) [(.iload 5, 2, 0), (.iload_n 3, 1, 0)] (by decide +kernel) rfl ?_
            refine C.icmp_ne (off := 18) (tgt := 104) (pf := 89) (by decide +kernel) (by decide) rfl (fun c12 => ?_) (fun c12 => ?_)
            · replace hf := ifn c12 hf
              refine Vsub [1, 2, 3, 4] rfl ?_
              exact l_X6_shortestTrail_104 C C2 ih r0 i2 i3 i4 h6 hf
            · replace hf := ifp c12 hf
              refine C.seg (pe := 92) (lv' := [(5, .int x3), (0, .ref r0), (2, .int i2), (3, .int i3), (4, .int i4)]) (st' := [.int i2, .int i4]) [(.iload 4, 2, 0), (.iload_n 2, 1, 0)] (by decide +kernel) rfl ?_
              obtain ⟨x9, h10, gx9, hf⟩ := b2_some hf
              refine C.callSr C2 [.int i4, .int i2] [] ms_1585 rfl (w_X6_isAhead gx9) (by omega) (by omega) (Nat.le_of_ble_eq_true rfl) (by decide +kernel) rfl ?_
              refine C.if_eq (off := 9) (tgt := 104) (pf := 98) (by decide +kernel) (by decide) rfl (fun c11 => ?_) (fun c11 => ?_)
              · replace hf := ifp c11 hf
                refine Vsub [1, 2, 3, 4] rfl ?_
                exact l_X6_shortestTrail_104 C C2 ih r0 i2 i3 i4 h10 hf
              · replace hf := ifn c11 hf
                refine Vsub [1, 4, 0] rfl ?_
                exact l_X6_shortestTrail_98 C C2 ih r0 i4 x3 h10 hf
      · replace hf := ifn c15 hf
        refine C.goto (off := 34) (tgt := 104) (by decide +kernel) (by decide) ?_
        refine Vsub [1, 2, 3, 4] rfl ?_
        exact l_X6_shortestTrail_104 C C2 ih r0 i2 i3 i4 h6 hf
def f_X6_shortestTrail_26 (r0 : Nat) (h : AH) : Option (Int32 × AH) :=
  f_X6_shortestTrail_33 FU r0 0 0 1 h
set_option maxRecDepth 100000 in
set_option maxHeartbeats 4000000 in
theorem l_X6_shortestTrail_26 {X : MX} {l : Launch} {G : GX} {h0 : AH} {rr : Int32} {hr : AH} (C : Cx X G RX6 cX6_shortestTrail 6 (some .int) 5 115 h0) (C2 : Cy X l "shortestTrail" []) (r0 : Nat) (h : AH) (hf : f_X6_shortestTrail_26 r0 h = some (rr, hr)) : V X G h0 (QI rr hr) 26 [(0, .ref r0)] [] h := by
  unfold f_X6_shortestTrail_26 at hf
  refine C.seg (pe := 33) (lv' := [(4, .int 1), (3, .int 0), (2, .int 0), (0, .ref r0)]) (st' := []) [(.iconst 0, 1, 0), (.istore_n 2, 1, 0), (.iconst 0, 1, 0), (.istore_n 3, 1, 0), (.iconst 1, 1, 1), (.istore 4, 2, 0)] (by decide +kernel) rfl ?_
  refine Vsub [3, 2, 1, 0] rfl ?_
  exact l_X6_shortestTrail_33 C C2 FU r0 0 0 1 h hf
def f_X6_shortestTrail (a0 : Nat) (h : AH) : Option (Int32 × AH) :=
  if isO 6 h a0 = true then
    (gI 6 h a0 6).bind fun x1 =>
    lt ((1 <<< (x1 &&& 31)) * 9 : Int32) fun x2 =>
    (gA 6 h a0 8).bind fun a3 =>
    (aN h a3).bind fun x4 =>
    if x2 ≤ x4 then
      f_X6_shortestTrail_26 a0 h
    else
      b2 (nwA 0 x2 h) fun a5 h6 =>
      (pQ 6 h6 a0 8 (some a5)).bind fun h7 =>
      f_X6_shortestTrail_26 a0 h7
  else none
set_option maxRecDepth 100000 in
set_option maxHeartbeats 4000000 in
theorem w_X6_shortestTrail {l : Launch} {G : GX} {a0 : Nat} {h : AH} {rr : Int32} {hr : AH} (hf : f_X6_shortestTrail a0 h = some (rr, hr)) : Ct l G yX6_shortestTrail 5 115 [.ref a0] h (QI rr hr) := by
  unfold f_X6_shortestTrail at hf
  obtain ⟨ho, hf⟩ := ifO hf
  refine Ct_of (own := RX6) (cc := cX6_shortestTrail) (nL := 6) (ret := (some .int)) rfl rfl k_1570 (Nat.le_of_ble_eq_true rfl) (fun X C2 C => ?_)
  show V X G h (QI rr hr) 0 [(0, .ref a0)] [] h
  refine C.seg (pe := 2) (lv' := [(0, .ref a0)]) (st' := [.ref a0, .int 1]) [(.iconst 1, 1, 1), (.aload_n 0, 1, 0)] (by decide +kernel) rfl ?_
  obtain ⟨x1, gx1, hf⟩ := Option.bind_eq_some_iff.mp hf
  refine C.rdI fr_341 gx1 (by decide +kernel) rfl ?_
  refine C.seg (pe := 9) (lv' := [(0, .ref a0)]) (st' := [.int ((1 <<< (x1 &&& 31)) * 9)]) [(.ishl, 1, 0), (.bipush 9, 2, 9), (.imul, 1, 0)] (by decide +kernel) rfl ?_
  refine Vtopi (fun x2 ex2 => ?_)
  replace hf := lt_ap ex2 hf
  clear ex2
  refine C.seg (pe := 11) (lv' := [(1, .int x2), (0, .ref a0)]) (st' := [.ref a0]) [(.istore_n 1, 1, 0), (.aload_n 0, 1, 0)] (by decide +kernel) rfl ?_
  obtain ⟨a3, ga3, hf⟩ := Option.bind_eq_some_iff.mp hf
  refine C.rdA fr_343 ga3 (by decide +kernel) rfl ?_
  obtain ⟨x4, gx4, hf⟩ := Option.bind_eq_some_iff.mp hf
  refine C.alen gx4 (by decide +kernel) rfl ?_
  refine C.seg (pe := 16) (lv' := [(1, .int x2), (0, .ref a0)]) (st' := [.int x2, .int x4]) [(.iload_n 1, 1, 0)] (by decide +kernel) rfl ?_
  refine C.icmp_ge (off := 10) (tgt := 26) (pf := 19) (by decide +kernel) (by decide) rfl (fun c8 => ?_) (fun c8 => ?_)
  · replace hf := ifp c8 hf
    refine Vsub [1] rfl ?_
    exact l_X6_shortestTrail_26 C C2 a0 h hf
  · replace hf := ifn c8 hf
    refine C.seg (pe := 21) (lv' := [(1, .int x2), (0, .ref a0)]) (st' := [.int x2, .ref a0]) [(.aload_n 0, 1, 0), (.iload_n 1, 1, 0)] (by decide +kernel) rfl ?_
    obtain ⟨a5, h6, ga5, hf⟩ := b2_some hf
    refine C.newa0 k_180 ga5 (by decide +kernel) rfl ?_
    obtain ⟨h7, gh7, hf⟩ := Option.bind_eq_some_iff.mp hf
    refine C.putA fl_343 (Or.inr ⟨_, rfl⟩) gh7 (by decide +kernel) rfl ?_
    refine Vsub [1] rfl ?_
    exact l_X6_shortestTrail_26 C C2 a0 h7 hf
theorem o_X6_shortestTrail {a0 : Nat} {h : AH} {rr : Int32} {hr : AH} (hf : f_X6_shortestTrail a0 h = some (rr, hr)) : isO 6 h a0 = true := by
  unfold f_X6_shortestTrail at hf
  exact (ifO hf).1
