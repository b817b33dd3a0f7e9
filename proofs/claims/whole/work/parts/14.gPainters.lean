/-! WallHouse$Painters.<init>()V -/
def f_X4_init (a0 : Nat) (h : AH) : Option (AH) :=
  b2 (nwA 0 10 h) fun a1 h2 =>
  (pQ 4 h2 a0 1 (some a1)).bind fun h3 =>
  b2 (nwA 0 10 h3) fun a4 h5 =>
  (pQ 4 h5 a0 2 (some a4)).bind fun h6 =>
  b2 (nwA 0 10 h6) fun a7 h8 =>
  (pQ 4 h8 a0 3 (some a7)).bind fun h9 =>
  b2 (nwA 0 160 h9) fun a10 h11 =>
  (pQ 4 h11 a0 4 (some a10)).bind fun h12 =>
  b2 (nwA 0 160 h12) fun a13 h14 =>
  (pQ 4 h14 a0 5 (some a13)).bind fun h15 =>
  b2 (nwA 0 300 h15) fun a16 h17 =>
  (pQ 4 h17 a0 7 (some a16)).bind fun h18 =>
  b2 (nwA 0 300 h18) fun a19 h20 =>
  (pQ 4 h20 a0 8 (some a19)).bind fun h21 =>
  some h21
set_option maxRecDepth 100000 in
set_option maxHeartbeats 4000000 in
theorem w_X4_init {l : Launch} {G : GX} {a0 : Nat} {h : AH} {hr : AH} (hf : f_X4_init a0 h = some hr) : Ct l G yX4_init 1 20 [.ref a0] h (QV hr) := by
  unfold f_X4_init at hf
  refine Ct_of (own := RX4) (cc := cX4_init) (nL := 1) (ret := none) rfl rfl k_185 (Nat.le_of_ble_eq_true rfl) (fun X C2 C => ?_)
  show V X G h (QV hr) 0 [(0, .ref a0)] [] h
  refine C.seg (pe := 1) (lv' := [(0, .ref a0)]) (st' := [.ref a0]) [(.aload_n 0, 1, 0)] (by decide +kernel) rfl ?_
  refine C.objInit k_186 k_151 k_152 (by omega) (by omega) (Nat.le_of_ble_eq_true rfl) (by decide +kernel) rfl ?_
  refine C.seg (pe := 7) (lv' := [(0, .ref a0)]) (st' := [.int 10, .ref a0]) [(.aload_n 0, 1, 0), (.bipush 10, 2, 10)] (by decide +kernel) rfl ?_
  obtain ⟨a1, h2, ga1, hf⟩ := b2_some hf
  refine C.newa0 k_180 ga1 (by decide +kernel) rfl ?_
  obtain ⟨h3, gh3, hf⟩ := Option.bind_eq_some_iff.mp hf
  refine C.putFA C2.2.1 fl_190 (Or.inr ⟨_, rfl⟩) gh3 (by decide +kernel) rfl ?_
  refine C.seg (pe := 15) (lv' := [(0, .ref a0)]) (st' := [.int 10, .ref a0]) [(.aload_n 0, 1, 0), (.bipush 10, 2, 10)] (by decide +kernel) rfl ?_
  obtain ⟨a4, h5, ga4, hf⟩ := b2_some hf
  refine C.newa0 k_180 ga4 (by decide +kernel) rfl ?_
  obtain ⟨h6, gh6, hf⟩ := Option.bind_eq_some_iff.mp hf
  refine C.putFA C2.2.1 fl_191 (Or.inr ⟨_, rfl⟩) gh6 (by decide +kernel) rfl ?_
  refine C.seg (pe := 23) (lv' := [(0, .ref a0)]) (st' := [.int 10, .ref a0]) [(.aload_n 0, 1, 0), (.bipush 10, 2, 10)] (by decide +kernel) rfl ?_
  obtain ⟨a7, h8, ga7, hf⟩ := b2_some hf
  refine C.newa0 k_180 ga7 (by decide +kernel) rfl ?_
  obtain ⟨h9, gh9, hf⟩ := Option.bind_eq_some_iff.mp hf
  refine C.putFA C2.2.1 fl_192 (Or.inr ⟨_, rfl⟩) gh9 (by decide +kernel) rfl ?_
  refine C.seg (pe := 32) (lv' := [(0, .ref a0)]) (st' := [.int 160, .ref a0]) [(.aload_n 0, 1, 0), (.sipush 160, 3, 160)] (by decide +kernel) rfl ?_
  obtain ⟨a10, h11, ga10, hf⟩ := b2_some hf
  refine C.newa0 k_180 ga10 (by decide +kernel) rfl ?_
  obtain ⟨h12, gh12, hf⟩ := Option.bind_eq_some_iff.mp hf
  refine C.putFA C2.2.1 fl_193 (Or.inr ⟨_, rfl⟩) gh12 (by decide +kernel) rfl ?_
  refine C.seg (pe := 41) (lv' := [(0, .ref a0)]) (st' := [.int 160, .ref a0]) [(.aload_n 0, 1, 0), (.sipush 160, 3, 160)] (by decide +kernel) rfl ?_
  obtain ⟨a13, h14, ga13, hf⟩ := b2_some hf
  refine C.newa0 k_180 ga13 (by decide +kernel) rfl ?_
  obtain ⟨h15, gh15, hf⟩ := Option.bind_eq_some_iff.mp hf
  refine C.putFA C2.2.1 fl_194 (Or.inr ⟨_, rfl⟩) gh15 (by decide +kernel) rfl ?_
  refine C.seg (pe := 50) (lv' := [(0, .ref a0)]) (st' := [.int 300, .ref a0]) [(.aload_n 0, 1, 0), (.sipush 300, 3, 300)] (by decide +kernel) rfl ?_
  obtain ⟨a16, h17, ga16, hf⟩ := b2_some hf
  refine C.newa0 k_180 ga16 (by decide +kernel) rfl ?_
  obtain ⟨h18, gh18, hf⟩ := Option.bind_eq_some_iff.mp hf
  refine C.putFA C2.2.1 fl_197 (Or.inr ⟨_, rfl⟩) gh18 (by decide +kernel) rfl ?_
  refine C.seg (pe := 59) (lv' := [(0, .ref a0)]) (st' := [.int 300, .ref a0]) [(.aload_n 0, 1, 0), (.sipush 300, 3, 300)] (by decide +kernel) rfl ?_
  obtain ⟨a19, h20, ga19, hf⟩ := b2_some hf
  refine C.newa0 k_180 ga19 (by decide +kernel) rfl ?_
  obtain ⟨h21, gh21, hf⟩ := Option.bind_eq_some_iff.mp hf
  refine C.putFA C2.2.1 fl_198 (Or.inr ⟨_, rfl⟩) gh21 (by decide +kernel) rfl ?_
  cases hf
  exact C.retV rfl (by decide +kernel) ⟨rfl, rfl⟩
/-! WallHouse$Painters.add(II)I -/
def f_X4_add (a0 : Nat) (p1 : Int32) (p2 : Int32) (h : AH) : Option (Int32 × AH) :=
  if isO 4 h a0 = true then
    (gI 4 h a0 0).bind fun x1 =>
    if x1 < 10 then
      (gA 4 h a0 1).bind fun a2 =>
      (gI 4 h a0 0).bind fun x3 =>
      (sI 0 h a2 x3 p1).bind fun h4 =>
      (gA 4 h4 a0 2).bind fun a5 =>
      (gI 4 h4 a0 0).bind fun x6 =>
      (sI 0 h4 a5 x6 p2).bind fun h7 =>
      (gI 4 h7 a0 0).bind fun x8 =>
      (pI 4 h7 a0 0 (x8 + 1)).bind fun h9 =>
      (gI 4 h9 a0 0).bind fun x10 =>
      some (x10 - 1, h9)
    else
      some ((-1), h)
  else none
set_option maxRecDepth 100000 in
set_option maxHeartbeats 4000000 in
theorem w_X4_add {l : Launch} {G : GX} {a0 : Nat} {p1 : Int32} {p2 : Int32} {h : AH} {rr : Int32} {hr : AH} (hf : f_X4_add a0 p1 p2 h = some (rr, hr)) : Ct l G yX4_add 0 0 [.ref a0, .int p1, .int p2] h (QI rr hr) := by
  unfold f_X4_add at hf
  obtain ⟨ho, hf⟩ := ifO hf
  refine Ct_of (own := RX4) (cc := cX4_add) (nL := 3) (ret := (some .int)) rfl rfl k_1254 (Nat.le_of_ble_eq_true rfl) (fun X C2 C => ?_)
  show V X G h (QI rr hr) 0 [(0, .ref a0), (1, .int p1), (2, .int p2)] [] h
  refine C.seg (pe := 1) (lv' := [(0, .ref a0), (1, .int p1), (2, .int p2)]) (st' := [.ref a0]) [(.aload_n 0, 1, 0)] (by decide +kernel) rfl ?_
  obtain ⟨x1, gx1, hf⟩ := Option.bind_eq_some_iff.mp hf
  refine C.rdI fr_187 gx1 (by decide +kernel) rfl ?_
  refine C.seg (pe := 6) (lv' := [(0, .ref a0), (1, .int p1), (2, .int p2)]) (st' := [.int 10, .int x1]) [(.bipush 10, 2, 10)] (by decide +kernel) rfl ?_
  refine C.icmp_lt (off := 5) (tgt := 11) (pf := 9) (by decide +kernel) (by decide) rfl (fun c11 => ?_) (fun c11 => ?_)
  · replace hf := ifp c11 hf
    refine C.seg (pe := 12) (lv' := [(0, .ref a0), (1, .int p1), (2, .int p2)]) (st' := [.ref a0]) [(.aload_n 0, 1, 0)] (by decide +kernel) rfl ?_
    obtain ⟨a2, ga2, hf⟩ := Option.bind_eq_some_iff.mp hf
    refine C.rdA fr_190 ga2 (by decide +kernel) rfl ?_
    refine C.seg (pe := 16) (lv' := [(0, .ref a0), (1, .int p1), (2, .int p2)]) (st' := [.ref a0, .ref a2]) [(.aload_n 0, 1, 0)] (by decide +kernel) rfl ?_
    obtain ⟨x3, gx3, hf⟩ := Option.bind_eq_some_iff.mp hf
    refine C.rdI fr_187 gx3 (by decide +kernel) rfl ?_
    refine C.seg (pe := 20) (lv' := [(0, .ref a0), (1, .int p1), (2, .int p2)]) (st' := [.int p1, .int x3, .ref a2]) [(.iload_n 1, 1, 0)] (by decide +kernel) rfl ?_
    obtain ⟨h4, gh4, hf⟩ := Option.bind_eq_some_iff.mp hf
    refine C.ast gh4 (by decide +kernel) rfl ?_
    refine C.seg (pe := 22) (lv' := [(0, .ref a0), (1, .int p1), (2, .int p2)]) (st' := [.ref a0]) [(.aload_n 0, 1, 0)] (by decide +kernel) rfl ?_
    obtain ⟨a5, ga5, hf⟩ := Option.bind_eq_some_iff.mp hf
    refine C.rdA fr_191 ga5 (by decide +kernel) rfl ?_
    refine C.seg (pe := 26) (lv' := [(0, .ref a0), (1, .int p1), (2, .int p2)]) (st' := [.ref a0, .ref a5]) [(.aload_n 0, 1, 0)] (by decide +kernel) rfl ?_
    obtain ⟨x6, gx6, hf⟩ := Option.bind_eq_some_iff.mp hf
    refine C.rdI fr_187 gx6 (by decide +kernel) rfl ?_
    refine C.seg (pe := 30) (lv' := [(0, .ref a0), (1, .int p1), (2, .int p2)]) (st' := [.int p2, .int x6, .ref a5]) [(.iload_n 2, 1, 0)] (by decide +kernel) rfl ?_
    obtain ⟨h7, gh7, hf⟩ := Option.bind_eq_some_iff.mp hf
    refine C.ast gh7 (by decide +kernel) rfl ?_
    refine C.seg (pe := 33) (lv' := [(0, .ref a0), (1, .int p1), (2, .int p2)]) (st' := [.ref a0, .ref a0]) [(.aload_n 0, 1, 0), (.dup, 1, 0)] (by decide +kernel) rfl ?_
    obtain ⟨x8, gx8, hf⟩ := Option.bind_eq_some_iff.mp hf
    refine C.rdI fr_187 gx8 (by decide +kernel) rfl ?_
    refine C.seg (pe := 38) (lv' := [(0, .ref a0), (1, .int p1), (2, .int p2)]) (st' := [.int (x8 + 1), .ref a0]) [(.iconst 1, 1, 1), (.iadd, 1, 0)] (by decide +kernel) rfl ?_
    obtain ⟨h9, gh9, hf⟩ := Option.bind_eq_some_iff.mp hf
    refine C.putI fl_187 gh9 (by decide +kernel) rfl ?_
    refine C.seg (pe := 42) (lv' := [(0, .ref a0), (1, .int p1), (2, .int p2)]) (st' := [.ref a0]) [(.aload_n 0, 1, 0)] (by decide +kernel) rfl ?_
    obtain ⟨x10, gx10, hf⟩ := Option.bind_eq_some_iff.mp hf
    refine C.rdI fr_187 gx10 (by decide +kernel) rfl ?_
    refine C.seg (pe := 47) (lv' := [(0, .ref a0), (1, .int p1), (2, .int p2)]) (st' := [.int (x10 - 1)]) [(.iconst 1, 1, 1), (.isub, 1, 0)] (by decide +kernel) rfl ?_
    cases hf
    exact C.retI rfl (by decide +kernel) ⟨rfl, rfl⟩
  · replace hf := ifn c11 hf
    refine C.seg (pe := 10) (lv' := [(0, .ref a0), (1, .int p1), (2, .int p2)]) (st' := [.int (-1)]) [(.iconst (-1), 1, (-1))] (by decide +kernel) rfl ?_
    cases hf
    exact C.retI rfl (by decide +kernel) ⟨rfl, rfl⟩
theorem o_X4_add {a0 : Nat} {p1 : Int32} {p2 : Int32} {h : AH} {rr : Int32} {hr : AH} (hf : f_X4_add a0 p1 p2 h = some (rr, hr)) : isO 4 h a0 = true := by
  unfold f_X4_add at hf
  exact (ifO hf).1
/-! WallHouse$Painters.has(I)Z -/
def f_X4_has_23 (si0 : Int32) (h : AH) : Option (Int32 × AH) :=
  (ckZ si0).bind fun x1 =>
  some (x1, h)
set_option maxRecDepth 100000 in
set_option maxHeartbeats 4000000 in
theorem l_X4_has_23 {X : MX} {l : Launch} {G : GX} {h0 : AH} {rr : Int32} {hr : AH} (C : Cx X G RX4 cX4_has 2 (some .boolean) 0 0 h0) (C2 : Cy X l "has" []) (si0 : Int32) (h : AH) (hf : f_X4_has_23 si0 h = some (rr, hr)) : V X G h0 (QI rr hr) 23 [] [.int si0] h := by
  unfold f_X4_has_23 at hf
  obtain ⟨x1, gx1, hf⟩ := Option.bind_eq_some_iff.mp hf
  have ex1 := ckZ_eq gx1
  subst ex1
  cases hf
  exact C.retZ rfl gx1 (by decide +kernel) ⟨rfl, rfl⟩
def f_X4_has_22 (h : AH) : Option (Int32 × AH) :=
  f_X4_has_23 0 h
set_option maxRecDepth 100000 in
set_option maxHeartbeats 4000000 in
theorem l_X4_has_22 {X : MX} {l : Launch} {G : GX} {h0 : AH} {rr : Int32} {hr : AH} (C : Cx X G RX4 cX4_has 2 (some .boolean) 0 0 h0) (C2 : Cy X l "has" []) (h : AH) (hf : f_X4_has_22 h = some (rr, hr)) : V X G h0 (QI rr hr) 22 [] [] h := by
  unfold f_X4_has_22 at hf
  refine C.seg (pe := 23) (lv' := []) (st' := [.int 0]) [(.iconst 0, 1, 0)] (by decide +kernel) rfl ?_
  exact l_X4_has_23 C C2 0 h hf
def f_X4_has (a0 : Nat) (p1 : Int32) (h : AH) : Option (Int32 × AH) :=
  if isO 4 h a0 = true then
    if p1 < 0 then
      f_X4_has_22 h
    else
      (gI 4 h a0 0).bind fun x1 =>
      if x1 ≤ p1 then
        f_X4_has_22 h
      else
        if 10 ≤ p1 then
          f_X4_has_22 h
        else
          f_X4_has_23 1 h
  else none
set_option maxRecDepth 100000 in
set_option maxHeartbeats 4000000 in
theorem w_X4_has {l : Launch} {G : GX} {a0 : Nat} {p1 : Int32} {h : AH} {rr : Int32} {hr : AH} (hf : f_X4_has a0 p1 h = some (rr, hr)) : Ct l G yX4_has 0 0 [.ref a0, .int p1] h (QI rr hr) := by
  unfold f_X4_has at hf
  obtain ⟨ho, hf⟩ := ifO hf
  refine Ct_of (own := RX4) (cc := cX4_has) (nL := 2) (ret := (some .boolean)) rfl rfl k_1262 (Nat.le_of_ble_eq_true rfl) (fun X C2 C => ?_)
  show V X G h (QI rr hr) 0 [(0, .ref a0), (1, .int p1)] [] h
  refine C.seg (pe := 1) (lv' := [(0, .ref a0), (1, .int p1)]) (st' := [.int p1]) [(.iload_n 1, 1, 0)] (by decide +kernel) rfl ?_
  refine C.if_lt (off := 21) (tgt := 22) (pf := 4) (by decide +kernel) (by decide) rfl (fun c4 => ?_) (fun c4 => ?_)
  · replace hf := ifp c4 hf
    refine Vsub [] rfl ?_
    exact l_X4_has_22 C C2 h hf
  · replace hf := ifn c4 hf
    refine C.seg (pe := 6) (lv' := [(0, .ref a0), (1, .int p1)]) (st' := [.ref a0, .int p1]) [(.iload_n 1, 1, 0), (.aload_n 0, 1, 0)] (by decide +kernel) rfl ?_
    obtain ⟨x1, gx1, hf⟩ := Option.bind_eq_some_iff.mp hf
    refine C.rdI fr_187 gx1 (by decide +kernel) rfl ?_
    refine C.icmp_ge (off := 13) (tgt := 22) (pf := 12) (by decide +kernel) (by decide) rfl (fun c3 => ?_) (fun c3 => ?_)
    · replace hf := ifp c3 hf
      refine Vsub [] rfl ?_
      exact l_X4_has_22 C C2 h hf
    · replace hf := ifn c3 hf
      refine C.seg (pe := 15) (lv' := [(0, .ref a0), (1, .int p1)]) (st' := [.int 10, .int p1]) [(.iload_n 1, 1, 0), (.bipush 10, 2, 10)] (by decide +kernel) rfl ?_
      refine C.icmp_ge (off := 7) (tgt := 22) (pf := 18) (by decide +kernel) (by decide) rfl (fun c2 => ?_) (fun c2 => ?_)
      · replace hf := ifp c2 hf
        refine Vsub [] rfl ?_
        exact l_X4_has_22 C C2 h hf
      · replace hf := ifn c2 hf
        refine C.seg (pe := 19) (lv' := [(0, .ref a0), (1, .int p1)]) (st' := [.int 1]) [(.iconst 1, 1, 1)] (by decide +kernel) rfl ?_
        refine C.goto (off := 4) (tgt := 23) (by decide +kernel) (by decide) ?_
        refine Vsub [] rfl ?_
        exact l_X4_has_23 C C2 1 h hf
theorem o_X4_has {a0 : Nat} {p1 : Int32} {h : AH} {rr : Int32} {hr : AH} (hf : f_X4_has a0 p1 h = some (rr, hr)) : isO 4 h a0 = true := by
  unfold f_X4_has at hf
  exact (ifO hf).1
/-! WallHouse$Painters.isPair(II)Z -/
def f_X4_isPair_23 (si0 : Int32) (h : AH) : Option (Int32 × AH) :=
  (ckZ si0).bind fun x1 =>
  some (x1, h)
set_option maxRecDepth 100000 in
set_option maxHeartbeats 4000000 in
theorem l_X4_isPair_23 {X : MX} {l : Launch} {G : GX} {h0 : AH} {rr : Int32} {hr : AH} (C : Cx X G RX4 cX4_isPair 3 (some .boolean) 1 21 h0) (C2 : Cy X l "isPair" []) (si0 : Int32) (h : AH) (hf : f_X4_isPair_23 si0 h = some (rr, hr)) : V X G h0 (QI rr hr) 23 [] [.int si0] h := by
  unfold f_X4_isPair_23 at hf
  obtain ⟨x1, gx1, hf⟩ := Option.bind_eq_some_iff.mp hf
  have ex1 := ckZ_eq gx1
  subst ex1
  cases hf
  exact C.retZ rfl gx1 (by decide +kernel) ⟨rfl, rfl⟩
def f_X4_isPair_22 (h : AH) : Option (Int32 × AH) :=
  f_X4_isPair_23 0 h
set_option maxRecDepth 100000 in
set_option maxHeartbeats 4000000 in
theorem l_X4_isPair_22 {X : MX} {l : Launch} {G : GX} {h0 : AH} {rr : Int32} {hr : AH} (C : Cx X G RX4 cX4_isPair 3 (some .boolean) 1 21 h0) (C2 : Cy X l "isPair" []) (h : AH) (hf : f_X4_isPair_22 h = some (rr, hr)) : V X G h0 (QI rr hr) 22 [] [] h := by
  unfold f_X4_isPair_22 at hf
  refine C.seg (pe := 23) (lv' := []) (st' := [.int 0]) [(.iconst 0, 1, 0)] (by decide +kernel) rfl ?_
  exact l_X4_isPair_23 C C2 0 h hf
def f_X4_isPair (a0 : Nat) (p1 : Int32) (p2 : Int32) (h : AH) : Option (Int32 × AH) :=
  if isO 4 h a0 = true then
    b2 (f_X4_has a0 p1 h) fun x1 h2 =>
    if x1 = 0 then
      f_X4_isPair_22 h2
    else
      if p2 < 0 then
        f_X4_isPair_22 h2
      else
        if 16 ≤ p2 then
          f_X4_isPair_22 h2
        else
          f_X4_isPair_23 1 h2
  else none
set_option maxRecDepth 100000 in
set_option maxHeartbeats 4000000 in
theorem w_X4_isPair {l : Launch} {G : GX} {a0 : Nat} {p1 : Int32} {p2 : Int32} {h : AH} {rr : Int32} {hr : AH} (hf : f_X4_isPair a0 p1 p2 h = some (rr, hr)) : Ct l G yX4_isPair 1 21 [.ref a0, .int p1, .int p2] h (QI rr hr) := by
  unfold f_X4_isPair at hf
  obtain ⟨ho, hf⟩ := ifO hf
  refine Ct_of (own := RX4) (cc := cX4_isPair) (nL := 3) (ret := (some .boolean)) rfl rfl k_1270 (Nat.le_of_ble_eq_true rfl) (fun X C2 C => ?_)
  show V X G h (QI rr hr) 0 [(0, .ref a0), (1, .int p1), (2, .int p2)] [] h
  refine C.seg (pe := 2) (lv' := [(0, .ref a0), (1, .int p1), (2, .int p2)]) (st' := [.int p1, .ref a0]) [(.aload_n 0, 1, 0), (.iload_n 1, 1, 0)] (by decide +kernel) rfl ?_
  obtain ⟨x1, h2, gx1, hf⟩ := b2_some hf
  refine C.callVr C2 [.int p1] [] mv_1271 rfl (o_X4_has gx1) (w_X4_has gx1) (by omega) (by omega) (Nat.le_of_ble_eq_true rfl) (by decide +kernel) rfl ?_
  refine C.if_eq (off := 17) (tgt := 22) (pf := 8) (by decide +kernel) (by decide) rfl (fun c5 => ?_) (fun c5 => ?_)
  · replace hf := ifp c5 hf
    refine Vsub [] rfl ?_
    exact l_X4_isPair_22 C C2 h2 hf
  · replace hf := ifn c5 hf
    refine C.seg (pe := 9) (lv' := [(0, .ref a0), (1, .int p1), (2, .int p2)]) (st' := [.int p2]) [(.iload_n 2, 1, 0)] (by decide +kernel) rfl ?_
    refine C.if_lt (off := 13) (tgt := 22) (pf := 12) (by decide +kernel) (by decide) rfl (fun c4 => ?_) (fun c4 => ?_)
    · replace hf := ifp c4 hf
      refine Vsub [] rfl ?_
      exact l_X4_isPair_22 C C2 h2 hf
    · replace hf := ifn c4 hf
      refine C.seg (pe := 15) (lv' := [(0, .ref a0), (1, .int p1), (2, .int p2)]) (st' := [.int 16, .int p2]) [(.iload_n 2, 1, 0), (.bipush 16, 2, 16)] (by decide +kernel) rfl ?_
      refine C.icmp_ge (off := 7) (tgt := 22) (pf := 18) (by decide +kernel) (by decide) rfl (fun c3 => ?_) (fun c3 => ?_)
      · replace hf := ifp c3 hf
        refine Vsub [] rfl ?_
        exact l_X4_isPair_22 C C2 h2 hf
      · replace hf := ifn c3 hf
        refine C.seg (pe := 19) (lv' := [(0, .ref a0), (1, .int p1), (2, .int p2)]) (st' := [.int 1]) [(.iconst 1, 1, 1)] (by decide +kernel) rfl ?_
        refine C.goto (off := 4) (tgt := 23) (by decide +kernel) (by decide) ?_
        refine Vsub [] rfl ?_
        exact l_X4_isPair_23 C C2 1 h2 hf
theorem o_X4_isPair {a0 : Nat} {p1 : Int32} {p2 : Int32} {h : AH} {rr : Int32} {hr : AH} (hf : f_X4_isPair a0 p1 p2 h = some (rr, hr)) : isO 4 h a0 = true := by
  unfold f_X4_isPair at hf
  exact (ifO hf).1
/-! WallHouse$Painters.pairOf(II)I -/
def f_X4_pairOf (p1 : Int32) (p2 : Int32) (h : AH) : Option (Int32 × AH) :=
  some ((p1 * 16) + p2, h)
set_option maxRecDepth 100000 in
set_option maxHeartbeats 4000000 in
theorem w_X4_pairOf {l : Launch} {G : GX} {p1 : Int32} {p2 : Int32} {h : AH} {rr : Int32} {hr : AH} (hf : f_X4_pairOf p1 p2 h = some (rr, hr)) : Ct l G yX4_pairOf 0 0 [.int p1, .int p2] h (QI rr hr) := by
  unfold f_X4_pairOf at hf
  refine Ct_of (own := RX4) (cc := cX4_pairOf) (nL := 2) (ret := (some .int)) rfl rfl k_1274 (Nat.le_of_ble_eq_true rfl) (fun X C2 C => ?_)
  show V X G h (QI rr hr) 0 [(0, .int p1), (1, .int p2)] [] h
  refine C.seg (pe := 6) (lv' := [(0, .int p1), (1, .int p2)]) (st' := [.int ((p1 * 16) + p2)]) [(.iload_n 0, 1, 0), (.bipush 16, 2, 16), (.imul, 1, 0), (.iload_n 1, 1, 0), (.iadd, 1, 0)] (by decide +kernel) rfl ?_
  cases hf
  exact C.retI rfl (by decide +kernel) ⟨rfl, rfl⟩
/-! WallHouse$Painters.setWish(III)V -/
def f_X4_setWish_20 (h : AH) : Option (AH) :=
  some h
set_option maxRecDepth 100000 in
set_option maxHeartbeats 4000000 in
theorem l_X4_setWish_20 {X : MX} {l : Launch} {G : GX} {h0 : AH} {hr : AH} (C : Cx X G RX4 cX4_setWish 4 none 2 43 h0) (C2 : Cy X l "setWish" []) (h : AH) (hf : f_X4_setWish_20 h = some hr) : V X G h0 (QV hr) 20 [] [] h := by
  unfold f_X4_setWish_20 at hf
  cases hf
  exact C.retV rfl (by decide +kernel) ⟨rfl, rfl⟩
def f_X4_setWish (a0 : Nat) (p1 : Int32) (p2 : Int32) (p3 : Int32) (h : AH) : Option (AH) :=
  if isO 4 h a0 = true then
    b2 (f_X4_isPair a0 p1 p2 h) fun x1 h2 =>
    if x1 = 0 then
      f_X4_setWish_20 h2
    else
      (gA 4 h2 a0 4).bind fun a3 =>
      b2 (f_X4_pairOf p1 p2 h2) fun x4 h5 =>
      (sI 0 h5 a3 x4 p3).bind fun h6 =>
      f_X4_setWish_20 h6
  else none
set_option maxRecDepth 100000 in
set_option maxHeartbeats 4000000 in
theorem w_X4_setWish {l : Launch} {G : GX} {a0 : Nat} {p1 : Int32} {p2 : Int32} {p3 : Int32} {h : AH} {hr : AH} (hf : f_X4_setWish a0 p1 p2 p3 h = some hr) : Ct l G yX4_setWish 2 43 [.ref a0, .int p1, .int p2, .int p3] h (QV hr) := by
  unfold f_X4_setWish at hf
  obtain ⟨ho, hf⟩ := ifO hf
  refine Ct_of (own := RX4) (cc := cX4_setWish) (nL := 4) (ret := none) rfl rfl k_1266 (Nat.le_of_ble_eq_true rfl) (fun X C2 C => ?_)
  show V X G h (QV hr) 0 [(0, .ref a0), (1, .int p1), (2, .int p2), (3, .int p3)] [] h
  refine C.seg (pe := 3) (lv' := [(0, .ref a0), (1, .int p1), (2, .int p2), (3, .int p3)]) (st' := [.int p2, .int p1, .ref a0]) [(.aload_n 0, 1, 0), (.iload_n 1, 1, 0), (.iload_n 2, 1, 0)] (by decide +kernel) rfl ?_
  obtain ⟨x1, h2, gx1, hf⟩ := b2_some hf
  refine C.callVr C2 [.int p1, .int p2] [] mv_1267 rfl (o_X4_isPair gx1) (w_X4_isPair gx1) (by omega) (by omega) (Nat.le_of_ble_eq_true rfl) (by decide +kernel) rfl ?_
  refine C.if_eq (off := 14) (tgt := 20) (pf := 9) (by decide +kernel) (by decide) rfl (fun c7 => ?_) (fun c7 => ?_)
  · replace hf := ifp c7 hf
    refine Vsub [] rfl ?_
    exact l_X4_setWish_20 C C2 h2 hf
  · replace hf := ifn c7 hf
    refine C.seg (pe := 10) (lv' := [(0, .ref a0), (1, .int p1), (2, .int p2), (3, .int p3)]) (st' := [.ref a0]) [(.aload_n 0, 1, 0)] (by decide +kernel) rfl ?_
    obtain ⟨a3, ga3, hf⟩ := Option.bind_eq_some_iff.mp hf
    refine C.rdA fr_193 ga3 (by decide +kernel) rfl ?_
    refine C.seg (pe := 15) (lv' := [(0, .ref a0), (1, .int p1), (2, .int p2), (3, .int p3)]) (st' := [.int p2, .int p1, .ref a3]) [(.iload_n 1, 1, 0), (.iload_n 2, 1, 0)] (by decide +kernel) rfl ?_
    obtain ⟨x4, h5, gx4, hf⟩ := b2_some hf
    refine C.callSr C2 [.int p1, .int p2] [.ref a3] ms_1272 rfl (w_X4_pairOf gx4) (by omega) (by omega) (Nat.le_of_ble_eq_true rfl) (by decide +kernel) rfl ?_
    refine C.seg (pe := 19) (lv' := [(0, .ref a0), (1, .int p1), (2, .int p2), (3, .int p3)]) (st' := [.int p3, .int x4, .ref a3]) [(.iload_n 3, 1, 0)] (by decide +kernel) rfl ?_
    obtain ⟨h6, gh6, hf⟩ := Option.bind_eq_some_iff.mp hf
    refine C.ast gh6 (by decide +kernel) rfl ?_
    refine Vsub [] rfl ?_
    exact l_X4_setWish_20 C C2 h6 hf
theorem o_X4_setWish {a0 : Nat} {p1 : Int32} {p2 : Int32} {p3 : Int32} {h : AH} {hr : AH} (hf : f_X4_setWish a0 p1 p2 p3 h = some hr) : isO 4 h a0 = true := by
  unfold f_X4_setWish at hf
  exact (ifO hf).1
/-! WallHouse$Painters.isKin(II)Z -/
def f_X4_isKin_23 (si0 : Int32) (h : AH) : Option (Int32 × AH) :=
  (ckZ si0).bind fun x1 =>
  some (x1, h)
set_option maxRecDepth 100000 in
set_option maxHeartbeats 4000000 in
theorem l_X4_isKin_23 {X : MX} {l : Launch} {G : GX} {h0 : AH} {rr : Int32} {hr : AH} (C : Cx X G RX4 cX4_isKin 3 (some .boolean) 1 21 h0) (C2 : Cy X l "isKin" []) (si0 : Int32) (h : AH) (hf : f_X4_isKin_23 si0 h = some (rr, hr)) : V X G h0 (QI rr hr) 23 [] [.int si0] h := by
  unfold f_X4_isKin_23 at hf
  obtain ⟨x1, gx1, hf⟩ := Option.bind_eq_some_iff.mp hf
  have ex1 := ckZ_eq gx1
  subst ex1
  cases hf
  exact C.retZ rfl gx1 (by decide +kernel) ⟨rfl, rfl⟩
def f_X4_isKin_22 (h : AH) : Option (Int32 × AH) :=
  f_X4_isKin_23 0 h
set_option maxRecDepth 100000 in
set_option maxHeartbeats 4000000 in
theorem l_X4_isKin_22 {X : MX} {l : Launch} {G : GX} {h0 : AH} {rr : Int32} {hr : AH} (C : Cx X G RX4 cX4_isKin 3 (some .boolean) 1 21 h0) (C2 : Cy X l "isKin" []) (h : AH) (hf : f_X4_isKin_22 h = some (rr, hr)) : V X G h0 (QI rr hr) 22 [] [] h := by
  unfold f_X4_isKin_22 at hf
  refine C.seg (pe := 23) (lv' := []) (st' := [.int 0]) [(.iconst 0, 1, 0)] (by decide +kernel) rfl ?_
  exact l_X4_isKin_23 C C2 0 h hf
def f_X4_isKin (a0 : Nat) (p1 : Int32) (p2 : Int32) (h : AH) : Option (Int32 × AH) :=
  if isO 4 h a0 = true then
    b2 (f_X4_has a0 p1 h) fun x1 h2 =>
    if x1 = 0 then
      f_X4_isKin_22 h2
    else
      (gA 4 h2 a0 2).bind fun a3 =>
      (aI 0 h2 a3 p1).bind fun x4 =>
      if x4 = p2 then
        f_X4_isKin_23 1 h2
      else
        f_X4_isKin_22 h2
  else none
set_option maxRecDepth 100000 in
set_option maxHeartbeats 4000000 in
theorem w_X4_isKin {l : Launch} {G : GX} {a0 : Nat} {p1 : Int32} {p2 : Int32} {h : AH} {rr : Int32} {hr : AH} (hf : f_X4_isKin a0 p1 p2 h = some (rr, hr)) : Ct l G yX4_isKin 1 21 [.ref a0, .int p1, .int p2] h (QI rr hr) := by
  unfold f_X4_isKin at hf
  obtain ⟨ho, hf⟩ := ifO hf
  refine Ct_of (own := RX4) (cc := cX4_isKin) (nL := 3) (ret := (some .boolean)) rfl rfl k_1282 (Nat.le_of_ble_eq_true rfl) (fun X C2 C => ?_)
  show V X G h (QI rr hr) 0 [(0, .ref a0), (1, .int p1), (2, .int p2)] [] h
  refine C.seg (pe := 2) (lv' := [(0, .ref a0), (1, .int p1), (2, .int p2)]) (st' := [.int p1, .ref a0]) [(.aload_n 0, 1, 0), (.iload_n 1, 1, 0)] (by decide +kernel) rfl ?_
  obtain ⟨x1, h2, gx1, hf⟩ := b2_some hf
  refine C.callVr C2 [.int p1] [] mv_1271 rfl (o_X4_has gx1) (w_X4_has gx1) (by omega) (by omega) (Nat.le_of_ble_eq_true rfl) (by decide +kernel) rfl ?_
  refine C.if_eq (off := 17) (tgt := 22) (pf := 8) (by decide +kernel) (by decide) rfl (fun c6 => ?_) (fun c6 => ?_)
  · replace hf := ifp c6 hf
    refine Vsub [] rfl ?_
    exact l_X4_isKin_22 C C2 h2 hf
  · replace hf := ifn c6 hf
    refine C.seg (pe := 9) (lv' := [(0, .ref a0), (1, .int p1), (2, .int p2)]) (st' := [.ref a0]) [(.aload_n 0, 1, 0)] (by decide +kernel) rfl ?_
    obtain ⟨a3, ga3, hf⟩ := Option.bind_eq_some_iff.mp hf
    refine C.rdA fr_191 ga3 (by decide +kernel) rfl ?_
    refine C.seg (pe := 13) (lv' := [(0, .ref a0), (1, .int p1), (2, .int p2)]) (st' := [.int p1, .ref a3]) [(.iload_n 1, 1, 0)] (by decide +kernel) rfl ?_
    obtain ⟨x4, gx4, hf⟩ := Option.bind_eq_some_iff.mp hf
    refine C.ald 0 rfl gx4 (by decide +kernel) rfl ?_
    refine C.seg (pe := 15) (lv' := [(0, .ref a0), (1, .int p1), (2, .int p2)]) (st' := [.int p2, .int x4]) [(.iload_n 2, 1, 0)] (by decide +kernel) rfl ?_
    refine C.icmp_ne (off := 7) (tgt := 22) (pf := 18) (by decide +kernel) (by decide) rfl (fun c5 => ?_) (fun c5 => ?_)
    · replace hf := ifn c5 hf
      refine Vsub [] rfl ?_
      exact l_X4_isKin_22 C C2 h2 hf
    · replace hf := ifp c5 hf
      refine C.seg (pe := 19) (lv' := [(0, .ref a0), (1, .int p1), (2, .int p2)]) (st' := [.int 1]) [(.iconst 1, 1, 1)] (by decide +kernel) rfl ?_
      refine C.goto (off := 4) (tgt := 23) (by decide +kernel) (by decide) ?_
      refine Vsub [] rfl ?_
      exact l_X4_isKin_23 C C2 1 h2 hf
theorem o_X4_isKin {a0 : Nat} {p1 : Int32} {p2 : Int32} {h : AH} {rr : Int32} {hr : AH} (hf : f_X4_isKin a0 p1 p2 h = some (rr, hr)) : isO 4 h a0 = true := by
  unfold f_X4_isKin at hf
  exact (ifO hf).1
/-! WallHouse$Painters.takeVote(IIII)Z -/
def f_X4_takeVote_103 (r0 : Nat) (i4 : Int32) (i5 : Int32) (i7 : Int32) (h : AH) : Option (Int32 × AH) :=
  (gA 4 h r0 5).bind fun a1 =>
  (aI 0 h a1 i5).bind fun x2 =>
  (gA 4 h r0 8).bind fun a3 =>
  (aI 0 h a3 i7).bind fun x4 =>
  (sI 0 h a1 i5 (x2 + (i4 - x4))).bind fun h5 =>
  (gA 4 h5 r0 8).bind fun a6 =>
  (sI 0 h5 a6 i7 i4).bind fun h7 =>
  some (1, h7)
set_option maxRecDepth 100000 in
set_option maxHeartbeats 4000000 in
theorem l_X4_takeVote_103 {X : MX} {l : Launch} {G : GX} {h0 : AH} {rr : Int32} {hr : AH} (C : Cx X G RX4 cX4_takeVote 8 (some .boolean) 2 43 h0) (C2 : Cy X l "takeVote" []) (r0 : Nat) (i4 : Int32) (i5 : Int32) (i7 : Int32) (h : AH) (hf : f_X4_takeVote_103 r0 i4 i5 i7 h = some (rr, hr)) : V X G h0 (QI rr hr) 103 [(0, .ref r0), (4, .int i4), (5, .int i5), (7, .int i7)] [] h := by
  unfold f_X4_takeVote_103 at hf
  refine C.seg (pe := 104) (lv' := [(0, .ref r0), (4, .int i4), (5, .int i5), (7, .int i7)]) (st' := [.ref r0]) [(.aload_n 0, 1, 0)] (by decide +kernel) rfl ?_
  obtain ⟨a1, ga1, hf⟩ := Option.bind_eq_some_iff.mp hf
  refine C.rdA fr_194 ga1 (by decide +kernel) rfl ?_
  refine C.seg (pe := 110) (lv' := [(0, .ref r0), (4, .int i4), (5, .int i5), (7, .int i7)]) (st' := [.int i5, .ref a1, .int i5, .ref a1]) [(.iload 5, 2, 0), (.dup2, 1, 0)] (by decide +kernel) rfl ?_
  obtain ⟨x2, gx2, hf⟩ := Option.bind_eq_some_iff.mp hf
  refine C.ald 0 rfl gx2 (by decide +kernel) rfl ?_
  refine C.seg (pe := 114) (lv' := [(0, .ref r0), (4, .int i4), (5, .int i5), (7, .int i7)]) (st' := [.ref r0, .int i4, .int x2, .int i5, .ref a1]) [(.iload 4, 2, 0), (.aload_n 0, 1, 0)] (by decide +kernel) rfl ?_
  obtain ⟨a3, ga3, hf⟩ := Option.bind_eq_some_iff.mp hf
  refine C.rdA fr_198 ga3 (by decide +kernel) rfl ?_
  refine C.seg (pe := 119) (lv' := [(0, .ref r0), (4, .int i4), (5, .int i5), (7, .int i7)]) (st' := [.int i7, .ref a3, .int i4, .int x2, .int i5, .ref a1]) [(.iload 7, 2, 0)] (by decide +kernel) rfl ?_
  obtain ⟨x4, gx4, hf⟩ := Option.bind_eq_some_iff.mp hf
  refine C.ald 0 rfl gx4 (by decide +kernel) rfl ?_
  refine C.seg (pe := 122) (lv' := [(0, .ref r0), (4, .int i4), (5, .int i5), (7, .int i7)]) (st' := [.int (x2 + (i4 - x4)), .int i5, .ref a1]) [(.isub, 1, 0), (.iadd, 1, 0)] (by decide +kernel) rfl ?_
  obtain ⟨h5, gh5, hf⟩ := Option.bind_eq_some_iff.mp hf
  refine C.ast gh5 (by decide +kernel) rfl ?_
  refine C.seg (pe := 124) (lv' := [(0, .ref r0), (4, .int i4), (5, .int i5), (7, .int i7)]) (st' := [.ref r0]) [(.aload_n 0, 1, 0)] (by decide +kernel) rfl ?_
  obtain ⟨a6, ga6, hf⟩ := Option.bind_eq_some_iff.mp hf
  refine C.rdA fr_198 ga6 (by decide +kernel) rfl ?_
  refine C.seg (pe := 131) (lv' := [(0, .ref r0), (4, .int i4), (5, .int i5), (7, .int i7)]) (st' := [.int i4, .int i7, .ref a6]) [(.iload 7, 2, 0), (.iload 4, 2, 0)] (by decide +kernel) rfl ?_
  obtain ⟨h7, gh7, hf⟩ := Option.bind_eq_some_iff.mp hf
  refine C.ast gh7 (by decide +kernel) rfl ?_
  refine C.seg (pe := 133) (lv' := [(0, .ref r0), (4, .int i4), (5, .int i5), (7, .int i7)]) (st' := [.int 1]) [(.iconst 1, 1, 1)] (by decide +kernel) rfl ?_
  cases hf
  exact C.retZ rfl (by decide) (by decide +kernel) ⟨rfl, rfl⟩
def f_X4_takeVote_57 (r0 : Nat) (i4 : Int32) (i5 : Int32) (i6 : Int32) (i7 : Int32) (h : AH) : Option (Int32 × AH) :=
  if i7 < 300 then
    (gI 4 h r0 6).bind fun x1 =>
    if i7 = x1 then
      (gA 4 h r0 7).bind fun a2 =>
      (sI 0 h a2 i7 i6).bind fun h3 =>
      (gA 4 h3 r0 8).bind fun a4 =>
      (sI 0 h3 a4 i7 0).bind fun h5 =>
      (gI 4 h5 r0 6).bind fun x6 =>
      (pI 4 h5 r0 6 (x6 + 1)).bind fun h7 =>
      f_X4_takeVote_103 r0 i4 i5 i7 h7
    else
      f_X4_takeVote_103 r0 i4 i5 i7 h
  else
    some (0, h)
set_option maxRecDepth 100000 in
set_option maxHeartbeats 4000000 in
theorem l_X4_takeVote_57 {X : MX} {l : Launch} {G : GX} {h0 : AH} {rr : Int32} {hr : AH} (C : Cx X G RX4 cX4_takeVote 8 (some .boolean) 2 43 h0) (C2 : Cy X l "takeVote" []) (r0 : Nat) (i4 : Int32) (i5 : Int32) (i6 : Int32) (i7 : Int32) (h : AH) (hf : f_X4_takeVote_57 r0 i4 i5 i6 i7 h = some (rr, hr)) : V X G h0 (QI rr hr) 57 [(0, .ref r0), (4, .int i4), (5, .int i5), (6, .int i6), (7, .int i7)] [] h := by
  unfold f_X4_takeVote_57 at hf
  refine C.seg (pe := 62) (lv' := [(0, .ref r0), (4, .int i4), (5, .int i5), (6, .int i6), (7, .int i7)]) (st' := [.int 300, .int i7]) [(.iload 7, 2, 0), (.sipush 300, 3, 300)] (by decide +kernel) rfl ?_
  refine C.icmp_lt (off := 5) (tgt := 67) (pf := 65) (by decide +kernel) (by decide) rfl (fun c9 => ?_) (fun c9 => ?_)
  · replace hf := ifp c9 hf
    refine C.seg (pe := 70) (lv' := [(0, .ref r0), (4, .int i4), (5, .int i5), (6, .int i6), (7, .int i7)]) (st' := [.ref r0, .int i7]) [(.iload 7, 2, 0), (.aload_n 0, 1, 0)] (by decide +kernel) rfl ?_
    obtain ⟨x1, gx1, hf⟩ := Option.bind_eq_some_iff.mp hf
    refine C.rdI fr_195 gx1 (by decide +kernel) rfl ?_
    refine C.icmp_ne (off := 30) (tgt := 103) (pf := 76) (by decide +kernel) (by decide) rfl (fun c8 => ?_) (fun c8 => ?_)
    · replace hf := ifn c8 hf
      refine Vsub [0, 1, 2, 4] rfl ?_
      exact l_X4_takeVote_103 C C2 r0 i4 i5 i7 h hf
    · replace hf := ifp c8 hf
      refine C.seg (pe := 77) (lv' := [(0, .ref r0), (4, .int i4), (5, .int i5), (6, .int i6), (7, .int i7)]) (st' := [.ref r0]) [(.aload_n 0, 1, 0)] (by decide +kernel) rfl ?_
      obtain ⟨a2, ga2, hf⟩ := Option.bind_eq_some_iff.mp hf
      refine C.rdA fr_197 ga2 (by decide +kernel) rfl ?_
      refine C.seg (pe := 84) (lv' := [(0, .ref r0), (4, .int i4), (5, .int i5), (6, .int i6), (7, .int i7)]) (st' := [.int i6, .int i7, .ref a2]) [(.iload 7, 2, 0), (.iload 6, 2, 0)] (by decide +kernel) rfl ?_
      obtain ⟨h3, gh3, hf⟩ := Option.bind_eq_some_iff.mp hf
      refine C.ast gh3 (by decide +kernel) rfl ?_
      refine C.seg (pe := 86) (lv' := [(0, .ref r0), (4, .int i4), (5, .int i5), (6, .int i6), (7, .int i7)]) (st' := [.ref r0]) [(.aload_n 0, 1, 0)] (by decide +kernel) rfl ?_
      obtain ⟨a4, ga4, hf⟩ := Option.bind_eq_some_iff.mp hf
      refine C.rdA fr_198 ga4 (by decide +kernel) rfl ?_
      refine C.seg (pe := 92) (lv' := [(0, .ref r0), (4, .int i4), (5, .int i5), (6, .int i6), (7, .int i7)]) (st' := [.int 0, .int i7, .ref a4]) [(.iload 7, 2, 0), (.iconst 0, 1, 0)] (by decide +kernel) rfl ?_
      obtain ⟨h5, gh5, hf⟩ := Option.bind_eq_some_iff.mp hf
      refine C.ast gh5 (by decide +kernel) rfl ?_
      refine C.seg (pe := 95) (lv' := [(0, .ref r0), (4, .int i4), (5, .int i5), (6, .int i6), (7, .int i7)]) (st' := [.ref r0, .ref r0]) [(.aload_n 0, 1, 0), (.dup, 1, 0)] (by decide +kernel) rfl ?_
      obtain ⟨x6, gx6, hf⟩ := Option.bind_eq_some_iff.mp hf
      refine C.rdI fr_195 gx6 (by decide +kernel) rfl ?_
      refine C.seg (pe := 100) (lv' := [(0, .ref r0), (4, .int i4), (5, .int i5), (6, .int i6), (7, .int i7)]) (st' := [.int (x6 + 1), .ref r0]) [(.iconst 1, 1, 1), (.iadd, 1, 0)] (by decide +kernel) rfl ?_
      obtain ⟨h7, gh7, hf⟩ := Option.bind_eq_some_iff.mp hf
      refine C.putI fl_195 gh7 (by decide +kernel) rfl ?_
      refine Vsub [0, 1, 2, 4] rfl ?_
      exact l_X4_takeVote_103 C C2 r0 i4 i5 i7 h7 hf
  · replace hf := ifn c9 hf
    refine C.seg (pe := 66) (lv' := [(0, .ref r0), (4, .int i4), (5, .int i5), (6, .int i6), (7, .int i7)]) (st' := [.int 0]) [(.iconst 0, 1, 0)] (by decide +kernel) rfl ?_
    cases hf
    exact C.retZ rfl (by decide) (by decide +kernel) ⟨rfl, rfl⟩
def f_X4_takeVote_30 : Nat → Nat → Int32 → Int32 → Int32 → Int32 → AH → Option (Int32 × AH)
  | 0, _, _, _, _, _, _ => none
  | n + 1, r0, i4, i5, i6, i7, h =>
    (gI 4 h r0 6).bind fun x1 =>
    if x1 ≤ i7 then
      f_X4_takeVote_57 r0 i4 i5 i6 i7 h
    else
      (gA 4 h r0 7).bind fun a2 =>
      (aI 0 h a2 i7).bind fun x3 =>
      if x3 = i6 then
        f_X4_takeVote_57 r0 i4 i5 i6 i7 h
      else
        (f_X4_takeVote_30 n) r0 i4 i5 i6 (i7 + 1) h
set_option maxRecDepth 100000 in
set_option maxHeartbeats 4000000 in
theorem l_X4_takeVote_30 {X : MX} {l : Launch} {G : GX} {h0 : AH} {rr : Int32} {hr : AH} (C : Cx X G RX4 cX4_takeVote 8 (some .boolean) 2 43 h0) (C2 : Cy X l "takeVote" []) : ∀ (n : Nat) (r0 : Nat) (i4 : Int32) (i5 : Int32) (i6 : Int32) (i7 : Int32) (h : AH), f_X4_takeVote_30 n r0 i4 i5 i6 i7 h = some (rr, hr) → V X G h0 (QI rr hr) 30 [(0, .ref r0), (4, .int i4), (5, .int i5), (6, .int i6), (7, .int i7)] [] h := by
  intro n
  induction n with
  | zero => intro r0 i4 i5 i6 i7 h hf; rw [f_X4_takeVote_30] at hf; cases hf
  | succ n ih =>
    intro r0 i4 i5 i6 i7 h hf
    rw [f_X4_takeVote_30] at hf
    refine C.seg (pe := 33) (lv' := [(0, .ref r0), (4, .int i4), (5, .int i5), (6, .int i6), (7, .int i7)]) (st' := [.ref r0, .int i7]) [(.iload 7, 2, 0), (.aload_n 0, 1, 0)] (by decide +kernel) rfl ?_
    obtain ⟨x1, gx1, hf⟩ := Option.bind_eq_some_iff.mp hf
    refine C.rdI fr_195 gx1 (by decide +kernel) rfl ?_
    refine C.icmp_ge (off := 21) (tgt := 57) (pf := 39) (by decide +kernel) (by decide) rfl (fun c5 => ?_) (fun c5 => ?_)
    · replace hf := ifp c5 hf
      exact l_X4_takeVote_57 C C2 r0 i4 i5 i6 i7 h hf
    · replace hf := ifn c5 hf
      refine C.seg (pe := 40) (lv' := [(0, .ref r0), (4, .int i4), (5, .int i5), (6, .int i6), (7, .int i7)]) (st' := [.ref r0]) [(.aload_n 0, 1, 0)] (by decide +kernel) rfl ?_
      obtain ⟨a2, ga2, hf⟩ := Option.bind_eq_some_iff.mp hf
      refine C.rdA fr_197 ga2 (by decide +kernel) rfl ?_
      refine C.seg (pe := 45) (lv' := [(0, .ref r0), (4, .int i4), (5, .int i5), (6, .int i6), (7, .int i7)]) (st' := [.int i7, .ref a2]) [(.iload 7, 2, 0)] (by decide +kernel) rfl ?_
      obtain ⟨x3, gx3, hf⟩ := Option.bind_eq_some_iff.mp hf
      refine C.ald 0 rfl gx3 (by decide +kernel) rfl ?_
      refine C.seg (pe := 48) (lv' := [(0, .ref r0), (4, .int i4), (5, .int i5), (6, .int i6), (7, .int i7)]) (st' := [.int i6, .int x3]) [(.iload 6, 2, 0)] (by decide +kernel) rfl ?_
      refine C.icmp_eq (off := 9) (tgt := 57) (pf := 51) (by decide +kernel) (by decide) rfl (fun c4 => ?_) (fun c4 => ?_)
      · replace hf := ifp c4 hf
        exact l_X4_takeVote_57 C C2 r0 i4 i5 i6 i7 h hf
      · replace hf := ifn c4 hf
        refine C.seg (pe := 54) (lv' := [(7, .int (i7 + 1)), (0, .ref r0), (4, .int i4), (5, .int i5), (6, .int i6)]) (st' := []) [(.iinc 7 1, 3, 1)] (by decide +kernel) rfl ?_
        refine C.goto (off := (-24)) (tgt := 30) (by decide +kernel) (by decide) ?_
        refine Vsub [1, 2, 3, 4, 0] rfl ?_
        exact ih r0 i4 i5 i6 (i7 + 1) h hf
def f_X4_takeVote (a0 : Nat) (p1 : Int32) (p2 : Int32) (p3 : Int32) (p4 : Int32) (h : AH) : Option (Int32 × AH) :=
  if isO 4 h a0 = true then
    b2 (f_X4_isPair a0 p2 p3 h) fun x1 h2 =>
    if x1 = 0 then
      some (0, h2)
    else
      b2 (f_X4_pairOf p2 p3 h2) fun x3 h4 =>
      lt ((x3 * 100) + p1 : Int32) fun x5 =>
      f_X4_takeVote_30 FU a0 p4 x3 x5 0 h4
  else none
set_option maxRecDepth 100000 in
set_option maxHeartbeats 4000000 in
theorem w_X4_takeVote {l : Launch} {G : GX} {a0 : Nat} {p1 : Int32} {p2 : Int32} {p3 : Int32} {p4 : Int32} {h : AH} {rr : Int32} {hr : AH} (hf : f_X4_takeVote a0 p1 p2 p3 p4 h = some (rr, hr)) : Ct l G yX4_takeVote 2 43 [.ref a0, .int p1, .int p2, .int p3, .int p4] h (QI rr hr) := by
  unfold f_X4_takeVote at hf
  obtain ⟨ho, hf⟩ := ifO hf
  refine Ct_of (own := RX4) (cc := cX4_takeVote) (nL := 8) (ret := (some .boolean)) rfl rfl k_1286 (Nat.le_of_ble_eq_true rfl) (fun X C2 C => ?_)
  show V X G h (QI rr hr) 0 [(0, .ref a0), (1, .int p1), (2, .int p2), (3, .int p3), (4, .int p4)] [] h
  refine C.seg (pe := 3) (lv' := [(0, .ref a0), (1, .int p1), (2, .int p2), (3, .int p3), (4, .int p4)]) (st' := [.int p3, .int p2, .ref a0]) [(.aload_n 0, 1, 0), (.iload_n 2, 1, 0), (.iload_n 3, 1, 0)] (by decide +kernel) rfl ?_
  obtain ⟨x1, h2, gx1, hf⟩ := b2_some hf
  refine C.callVr C2 [.int p2, .int p3] [] mv_1267 rfl (o_X4_isPair gx1) (w_X4_isPair gx1) (by omega) (by omega) (Nat.le_of_ble_eq_true rfl) (by decide +kernel) rfl ?_
  refine C.if_ne (off := 5) (tgt := 11) (pf := 9) (by decide +kernel) (by decide) rfl (fun c6 => ?_) (fun c6 => ?_)
  · replace hf := ifn c6 hf
    refine C.seg (pe := 13) (lv' := [(0, .ref a0), (1, .int p1), (2, .int p2), (3, .int p3), (4, .int p4)]) (st' := [.int p3, .int p2]) [(.iload_n 2, 1, 0), (.iload_n 3, 1, 0)] (by decide +kernel) rfl ?_
    obtain ⟨x3, h4, gx3, hf⟩ := b2_some hf
    refine C.callSr C2 [.int p2, .int p3] [] ms_1272 rfl (w_X4_pairOf gx3) (by omega) (by omega) (Nat.le_of_ble_eq_true rfl) (by decide +kernel) rfl ?_
    refine C.seg (pe := 25) (lv' := [(5, .int x3), (0, .ref a0), (1, .int p1), (2, .int p2), (3, .int p3), (4, .int p4)]) (st' := [.int ((x3 * 100) + p1)]) [(.istore 5, 2, 0), (.iload 5, 2, 0), (.bipush 100, 2, 100), (.imul, 1, 0), (.iload_n 1, 1, 0), (.iadd, 1, 0)] (by decide +kernel) rfl ?_
    refine Vtopi (fun x5 ex5 => ?_)
    replace hf := lt_ap ex5 hf
    clear ex5
    refine C.seg (pe := 30) (lv' := [(7, .int 0), (6, .int x5), (5, .int x3), (0, .ref a0), (1, .int p1), (2, .int p2), (3, .int p3), (4, .int p4)]) (st' := []) [(.istore 6, 2, 0), (.iconst 0, 1, 0), (.istore 7, 2, 0)] (by decide +kernel) rfl ?_
    refine Vsub [3, 7, 2, 1, 0] rfl ?_
    exact l_X4_takeVote_30 C C2 FU a0 p4 x3 x5 0 h4 hf
  · replace hf := ifp c6 hf
    refine C.seg (pe := 10) (lv' := [(0, .ref a0), (1, .int p1), (2, .int p2), (3, .int p3), (4, .int p4)]) (st' := [.int 0]) [(.iconst 0, 1, 0)] (by decide +kernel) rfl ?_
    cases hf
    exact C.retZ rfl (by decide) (by decide +kernel) ⟨rfl, rfl⟩
theorem o_X4_takeVote {a0 : Nat} {p1 : Int32} {p2 : Int32} {p3 : Int32} {p4 : Int32} {h : AH} {rr : Int32} {hr : AH} (hf : f_X4_takeVote a0 p1 p2 p3 p4 h = some (rr, hr)) : isO 4 h a0 = true := by
  unfold f_X4_takeVote at hf
  exact (ifO hf).1
/-! WallHouse$Painters.likedOn(II)I -/
def f_X4_likedOn (a0 : Nat) (p1 : Int32) (p2 : Int32) (h : AH) : Option (Int32 × AH) :=
  if isO 4 h a0 = true then
    b2 (f_X4_isPair a0 p1 p2 h) fun x1 h2 =>
    if x1 = 0 then
      some (0, h2)
    else
      b2 (f_X4_pairOf p1 p2 h2) fun x3 h4 =>
      (gA 4 h4 a0 4).bind fun a5 =>
      (aI 0 h4 a5 x3).bind fun x6 =>
      (gA 4 h4 a0 5).bind fun a7 =>
      (aI 0 h4 a7 x3).bind fun x8 =>
      some ((x6 * 10) + x8, h4)
  else none
set_option maxRecDepth 100000 in
set_option maxHeartbeats 4000000 in
theorem w_X4_likedOn {l : Launch} {G : GX} {a0 : Nat} {p1 : Int32} {p2 : Int32} {h : AH} {rr : Int32} {hr : AH} (hf : f_X4_likedOn a0 p1 p2 h = some (rr, hr)) : Ct l G yX4_likedOn 2 43 [.ref a0, .int p1, .int p2] h (QI rr hr) := by
  unfold f_X4_likedOn at hf
  obtain ⟨ho, hf⟩ := ifO hf
  refine Ct_of (own := RX4) (cc := cX4_likedOn) (nL := 4) (ret := (some .int)) rfl rfl k_1294 (Nat.le_of_ble_eq_true rfl) (fun X C2 C => ?_)
  show V X G h (QI rr hr) 0 [(0, .ref a0), (1, .int p1), (2, .int p2)] [] h
  refine C.seg (pe := 3) (lv' := [(0, .ref a0), (1, .int p1), (2, .int p2)]) (st' := [.int p2, .int p1, .ref a0]) [(.aload_n 0, 1, 0), (.iload_n 1, 1, 0), (.iload_n 2, 1, 0)] (by decide +kernel) rfl ?_
  obtain ⟨x1, h2, gx1, hf⟩ := b2_some hf
  refine C.callVr C2 [.int p1, .int p2] [] mv_1267 rfl (o_X4_isPair gx1) (w_X4_isPair gx1) (by omega) (by omega) (Nat.le_of_ble_eq_true rfl) (by decide +kernel) rfl ?_
  refine C.if_ne (off := 5) (tgt := 11) (pf := 9) (by decide +kernel) (by decide) rfl (fun c9 => ?_) (fun c9 => ?_)
  · replace hf := ifn c9 hf
    refine C.seg (pe := 13) (lv' := [(0, .ref a0), (1, .int p1), (2, .int p2)]) (st' := [.int p2, .int p1]) [(.iload_n 1, 1, 0), (.iload_n 2, 1, 0)] (by decide +kernel) rfl ?_
    obtain ⟨x3, h4, gx3, hf⟩ := b2_some hf
    refine C.callSr C2 [.int p1, .int p2] [] ms_1272 rfl (w_X4_pairOf gx3) (by omega) (by omega) (Nat.le_of_ble_eq_true rfl) (by decide +kernel) rfl ?_
    refine C.seg (pe := 18) (lv' := [(3, .int x3), (0, .ref a0), (1, .int p1), (2, .int p2)]) (st' := [.ref a0]) [(.istore_n 3, 1, 0), (.aload_n 0, 1, 0)] (by decide +kernel) rfl ?_
    obtain ⟨a5, ga5, hf⟩ := Option.bind_eq_some_iff.mp hf
    refine C.rdA fr_193 ga5 (by decide +kernel) rfl ?_
    refine C.seg (pe := 22) (lv' := [(3, .int x3), (0, .ref a0), (1, .int p1), (2, .int p2)]) (st' := [.int x3, .ref a5]) [(.iload_n 3, 1, 0)] (by decide +kernel) rfl ?_
    obtain ⟨x6, gx6, hf⟩ := Option.bind_eq_some_iff.mp hf
    refine C.ald 0 rfl gx6 (by decide +kernel) rfl ?_
    refine C.seg (pe := 27) (lv' := [(3, .int x3), (0, .ref a0), (1, .int p1), (2, .int p2)]) (st' := [.ref a0, .int (x6 * 10)]) [(.bipush 10, 2, 10), (.imul, 1, 0), (.aload_n 0, 1, 0)] (by decide +kernel) rfl ?_
    obtain ⟨a7, ga7, hf⟩ := Option.bind_eq_some_iff.mp hf
    refine C.rdA fr_194 ga7 (by decide +kernel) rfl ?_
    refine C.seg (pe := 31) (lv' := [(3, .int x3), (0, .ref a0), (1, .int p1), (2, .int p2)]) (st' := [.int x3, .ref a7, .int (x6 * 10)]) [(.iload_n 3, 1, 0)] (by decide +kernel) rfl ?_
    obtain ⟨x8, gx8, hf⟩ := Option.bind_eq_some_iff.mp hf
    refine C.ald 0 rfl gx8 (by decide +kernel) rfl ?_
    refine C.seg (pe := 33) (lv' := [(3, .int x3), (0, .ref a0), (1, .int p1), (2, .int p2)]) (st' := [.int ((x6 * 10) + x8)]) [(.iadd, 1, 0)] (by decide +kernel) rfl ?_
    cases hf
    exact C.retI rfl (by decide +kernel) ⟨rfl, rfl⟩
  · replace hf := ifp c9 hf
    refine C.seg (pe := 10) (lv' := [(0, .ref a0), (1, .int p1), (2, .int p2)]) (st' := [.int 0]) [(.iconst 0, 1, 0)] (by decide +kernel) rfl ?_
    cases hf
    exact C.retI rfl (by decide +kernel) ⟨rfl, rfl⟩
theorem o_X4_likedOn {a0 : Nat} {p1 : Int32} {p2 : Int32} {h : AH} {rr : Int32} {hr : AH} (hf : f_X4_likedOn a0 p1 p2 h = some (rr, hr)) : isO 4 h a0 = true := by
  unfold f_X4_likedOn at hf
  exact (ifO hf).1
/-! WallHouse$Painters.styleOf(I)I -/
def f_X4_styleOf_18 (si0 : Int32) (h : AH) : Option (Int32 × AH) :=
  some (si0, h)
set_option maxRecDepth 100000 in
set_option maxHeartbeats 4000000 in
theorem l_X4_styleOf_18 {X : MX} {l : Launch} {G : GX} {h0 : AH} {rr : Int32} {hr : AH} (C : Cx X G RX4 cX4_styleOf 2 (some .int) 1 21 h0) (C2 : Cy X l "styleOf" []) (si0 : Int32) (h : AH) (hf : f_X4_styleOf_18 si0 h = some (rr, hr)) : V X G h0 (QI rr hr) 18 [] [.int si0] h := by
  unfold f_X4_styleOf_18 at hf
  cases hf
  exact C.retI rfl (by decide +kernel) ⟨rfl, rfl⟩
def f_X4_styleOf (a0 : Nat) (p1 : Int32) (h : AH) : Option (Int32 × AH) :=
  if isO 4 h a0 = true then
    b2 (f_X4_has a0 p1 h) fun x1 h2 =>
    if x1 = 0 then
      f_X4_styleOf_18 (-1) h2
    else
      (gA 4 h2 a0 1).bind fun a3 =>
      (aI 0 h2 a3 p1).bind fun x4 =>
      f_X4_styleOf_18 x4 h2
  else none
set_option maxRecDepth 100000 in
set_option maxHeartbeats 4000000 in
theorem w_X4_styleOf {l : Launch} {G : GX} {a0 : Nat} {p1 : Int32} {h : AH} {rr : Int32} {hr : AH} (hf : f_X4_styleOf a0 p1 h = some (rr, hr)) : Ct l G yX4_styleOf 1 21 [.ref a0, .int p1] h (QI rr hr) := by
  unfold f_X4_styleOf at hf
  obtain ⟨ho, hf⟩ := ifO hf
  refine Ct_of (own := RX4) (cc := cX4_styleOf) (nL := 2) (ret := (some .int)) rfl rfl k_1322 (Nat.le_of_ble_eq_true rfl) (fun X C2 C => ?_)
  show V X G h (QI rr hr) 0 [(0, .ref a0), (1, .int p1)] [] h
  refine C.seg (pe := 2) (lv' := [(0, .ref a0), (1, .int p1)]) (st' := [.int p1, .ref a0]) [(.aload_n 0, 1, 0), (.iload_n 1, 1, 0)] (by decide +kernel) rfl ?_
  obtain ⟨x1, h2, gx1, hf⟩ := b2_some hf
  refine C.callVr C2 [.int p1] [] mv_1271 rfl (o_X4_has gx1) (w_X4_has gx1) (by omega) (by omega) (Nat.le_of_ble_eq_true rfl) (by decide +kernel) rfl ?_
  refine C.if_eq (off := 12) (tgt := 17) (pf := 8) (by decide +kernel) (by decide) rfl (fun c5 => ?_) (fun c5 => ?_)
  · replace hf := ifp c5 hf
    refine C.seg (pe := 18) (lv' := [(0, .ref a0), (1, .int p1)]) (st' := [.int (-1)]) [(.iconst (-1), 1, (-1))] (by decide +kernel) rfl ?_
    refine Vsub [] rfl ?_
    exact l_X4_styleOf_18 C C2 (-1) h2 hf
  · replace hf := ifn c5 hf
    refine C.seg (pe := 9) (lv' := [(0, .ref a0), (1, .int p1)]) (st' := [.ref a0]) [(.aload_n 0, 1, 0)] (by decide +kernel) rfl ?_
    obtain ⟨a3, ga3, hf⟩ := Option.bind_eq_some_iff.mp hf
    refine C.rdA fr_190 ga3 (by decide +kernel) rfl ?_
    refine C.seg (pe := 13) (lv' := [(0, .ref a0), (1, .int p1)]) (st' := [.int p1, .ref a3]) [(.iload_n 1, 1, 0)] (by decide +kernel) rfl ?_
    obtain ⟨x4, gx4, hf⟩ := Option.bind_eq_some_iff.mp hf
    refine C.ald 0 rfl gx4 (by decide +kernel) rfl ?_
    refine C.goto (off := 4) (tgt := 18) (by decide +kernel) (by decide) ?_
    refine Vsub [] rfl ?_
    exact l_X4_styleOf_18 C C2 x4 h2 hf
theorem o_X4_styleOf {a0 : Nat} {p1 : Int32} {h : AH} {rr : Int32} {hr : AH} (hf : f_X4_styleOf a0 p1 h = some (rr, hr)) : isO 4 h a0 = true := by
  unfold f_X4_styleOf at hf
  exact (ifO hf).1
/-! WallHouse$Painters.worksOf(I)I -/
def f_X4_worksOf_18 (si0 : Int32) (h : AH) : Option (Int32 × AH) :=
  some (si0, h)
set_option maxRecDepth 100000 in
set_option maxHeartbeats 4000000 in
theorem l_X4_worksOf_18 {X : MX} {l : Launch} {G : GX} {h0 : AH} {rr : Int32} {hr : AH} (C : Cx X G RX4 cX4_worksOf 2 (some .int) 1 21 h0) (C2 : Cy X l "worksOf" []) (si0 : Int32) (h : AH) (hf : f_X4_worksOf_18 si0 h = some (rr, hr)) : V X G h0 (QI rr hr) 18 [] [.int si0] h := by
  unfold f_X4_worksOf_18 at hf
  cases hf
  exact C.retI rfl (by decide +kernel) ⟨rfl, rfl⟩
def f_X4_worksOf (a0 : Nat) (p1 : Int32) (h : AH) : Option (Int32 × AH) :=
  if isO 4 h a0 = true then
    b2 (f_X4_has a0 p1 h) fun x1 h2 =>
    if x1 = 0 then
      f_X4_worksOf_18 0 h2
    else
      (gA 4 h2 a0 3).bind fun a3 =>
      (aI 0 h2 a3 p1).bind fun x4 =>
      f_X4_worksOf_18 x4 h2
  else none
set_option maxRecDepth 100000 in
set_option maxHeartbeats 4000000 in
theorem w_X4_worksOf {l : Launch} {G : GX} {a0 : Nat} {p1 : Int32} {h : AH} {rr : Int32} {hr : AH} (hf : f_X4_worksOf a0 p1 h = some (rr, hr)) : Ct l G yX4_worksOf 1 21 [.ref a0, .int p1] h (QI rr hr) := by
  unfold f_X4_worksOf at hf
  obtain ⟨ho, hf⟩ := ifO hf
  refine Ct_of (own := RX4) (cc := cX4_worksOf) (nL := 2) (ret := (some .int)) rfl rfl k_1350 (Nat.le_of_ble_eq_true rfl) (fun X C2 C => ?_)
  show V X G h (QI rr hr) 0 [(0, .ref a0), (1, .int p1)] [] h
  refine C.seg (pe := 2) (lv' := [(0, .ref a0), (1, .int p1)]) (st' := [.int p1, .ref a0]) [(.aload_n 0, 1, 0), (.iload_n 1, 1, 0)] (by decide +kernel) rfl ?_
  obtain ⟨x1, h2, gx1, hf⟩ := b2_some hf
  refine C.callVr C2 [.int p1] [] mv_1271 rfl (o_X4_has gx1) (w_X4_has gx1) (by omega) (by omega) (Nat.le_of_ble_eq_true rfl) (by decide +kernel) rfl ?_
  refine C.if_eq (off := 12) (tgt := 17) (pf := 8) (by decide +kernel) (by decide) rfl (fun c5 => ?_) (fun c5 => ?_)
  · replace hf := ifp c5 hf
    refine C.seg (pe := 18) (lv' := [(0, .ref a0), (1, .int p1)]) (st' := [.int 0]) [(.iconst 0, 1, 0)] (by decide +kernel) rfl ?_
    refine Vsub [] rfl ?_
    exact l_X4_worksOf_18 C C2 0 h2 hf
  · replace hf := ifn c5 hf
    refine C.seg (pe := 9) (lv' := [(0, .ref a0), (1, .int p1)]) (st' := [.ref a0]) [(.aload_n 0, 1, 0)] (by decide +kernel) rfl ?_
    obtain ⟨a3, ga3, hf⟩ := Option.bind_eq_some_iff.mp hf
    refine C.rdA fr_192 ga3 (by decide +kernel) rfl ?_
    refine C.seg (pe := 13) (lv' := [(0, .ref a0), (1, .int p1)]) (st' := [.int p1, .ref a3]) [(.iload_n 1, 1, 0)] (by decide +kernel) rfl ?_
    obtain ⟨x4, gx4, hf⟩ := Option.bind_eq_some_iff.mp hf
    refine C.ald 0 rfl gx4 (by decide +kernel) rfl ?_
    refine C.goto (off := 4) (tgt := 18) (by decide +kernel) (by decide) ?_
    refine Vsub [] rfl ?_
    exact l_X4_worksOf_18 C C2 x4 h2 hf
theorem o_X4_worksOf {a0 : Nat} {p1 : Int32} {h : AH} {rr : Int32} {hr : AH} (hf : f_X4_worksOf a0 p1 h = some (rr, hr)) : isO 4 h a0 = true := by
  unfold f_X4_worksOf at hf
  exact (ifO hf).1
/-! WallHouse$Painters.countWork(I)V -/
def f_X4_countWork_18 (h : AH) : Option (AH) :=
  some h
set_option maxRecDepth 100000 in
set_option maxHeartbeats 4000000 in
theorem l_X4_countWork_18 {X : MX} {l : Launch} {G : GX} {h0 : AH} {hr : AH} (C : Cx X G RX4 cX4_countWork 2 none 1 21 h0) (C2 : Cy X l "countWork" []) (h : AH) (hf : f_X4_countWork_18 h = some hr) : V X G h0 (QV hr) 18 [] [] h := by
  unfold f_X4_countWork_18 at hf
  cases hf
  exact C.retV rfl (by decide +kernel) ⟨rfl, rfl⟩
def f_X4_countWork (a0 : Nat) (p1 : Int32) (h : AH) : Option (AH) :=
  if isO 4 h a0 = true then
    b2 (f_X4_has a0 p1 h) fun x1 h2 =>
    if x1 = 0 then
      f_X4_countWork_18 h2
    else
      (gA 4 h2 a0 3).bind fun a3 =>
      (aI 0 h2 a3 p1).bind fun x4 =>
      (sI 0 h2 a3 p1 (x4 + 1)).bind fun h5 =>
      f_X4_countWork_18 h5
  else none
set_option maxRecDepth 100000 in
set_option maxHeartbeats 4000000 in
theorem w_X4_countWork {l : Launch} {G : GX} {a0 : Nat} {p1 : Int32} {h : AH} {hr : AH} (hf : f_X4_countWork a0 p1 h = some hr) : Ct l G yX4_countWork 1 21 [.ref a0, .int p1] h (QV hr) := by
  unfold f_X4_countWork at hf
  obtain ⟨ho, hf⟩ := ifO hf
  refine Ct_of (own := RX4) (cc := cX4_countWork) (nL := 2) (ret := none) rfl rfl k_1388 (Nat.le_of_ble_eq_true rfl) (fun X C2 C => ?_)
  show V X G h (QV hr) 0 [(0, .ref a0), (1, .int p1)] [] h
  refine C.seg (pe := 2) (lv' := [(0, .ref a0), (1, .int p1)]) (st' := [.int p1, .ref a0]) [(.aload_n 0, 1, 0), (.iload_n 1, 1, 0)] (by decide +kernel) rfl ?_
  obtain ⟨x1, h2, gx1, hf⟩ := b2_some hf
  refine C.callVr C2 [.int p1] [] mv_1271 rfl (o_X4_has gx1) (w_X4_has gx1) (by omega) (by omega) (Nat.le_of_ble_eq_true rfl) (by decide +kernel) rfl ?_
  refine C.if_eq (off := 13) (tgt := 18) (pf := 8) (by decide +kernel) (by decide) rfl (fun c6 => ?_) (fun c6 => ?_)
  · replace hf := ifp c6 hf
    refine Vsub [] rfl ?_
    exact l_X4_countWork_18 C C2 h2 hf
  · replace hf := ifn c6 hf
    refine C.seg (pe := 9) (lv' := [(0, .ref a0), (1, .int p1)]) (st' := [.ref a0]) [(.aload_n 0, 1, 0)] (by decide +kernel) rfl ?_
    obtain ⟨a3, ga3, hf⟩ := Option.bind_eq_some_iff.mp hf
    refine C.rdA fr_192 ga3 (by decide +kernel) rfl ?_
    refine C.seg (pe := 14) (lv' := [(0, .ref a0), (1, .int p1)]) (st' := [.int p1, .ref a3, .int p1, .ref a3]) [(.iload_n 1, 1, 0), (.dup2, 1, 0)] (by decide +kernel) rfl ?_
    obtain ⟨x4, gx4, hf⟩ := Option.bind_eq_some_iff.mp hf
    refine C.ald 0 rfl gx4 (by decide +kernel) rfl ?_
    refine C.seg (pe := 17) (lv' := [(0, .ref a0), (1, .int p1)]) (st' := [.int (x4 + 1), .int p1, .ref a3]) [(.iconst 1, 1, 1), (.iadd, 1, 0)] (by decide +kernel) rfl ?_
    obtain ⟨h5, gh5, hf⟩ := Option.bind_eq_some_iff.mp hf
    refine C.ast gh5 (by decide +kernel) rfl ?_
    refine Vsub [] rfl ?_
    exact l_X4_countWork_18 C C2 h5 hf
theorem o_X4_countWork {a0 : Nat} {p1 : Int32} {h : AH} {hr : AH} (hf : f_X4_countWork a0 p1 h = some hr) : isO 4 h a0 = true := by
  unfold f_X4_countWork at hf
  exact (ifO hf).1
