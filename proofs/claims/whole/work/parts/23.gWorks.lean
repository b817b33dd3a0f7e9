/-! WallHouse$Works.<init>(LWallHouse$Walls;)V -/
def f_X10_init (a0 : Nat) (p1 : Nat) (h : AH) : Option (AH) :=
  b2 (nwA 0 40 h) fun a1 h2 =>
  (pQ 10 h2 a0 2 (some a1)).bind fun h3 =>
  b2 (nwA 0 40 h3) fun a4 h5 =>
  (pQ 10 h5 a0 3 (some a4)).bind fun h6 =>
  b2 (nwA 0 40 h6) fun a7 h8 =>
  (pQ 10 h8 a0 4 (some a7)).bind fun h9 =>
  b2 (nwA 0 40 h9) fun a10 h11 =>
  (pQ 10 h11 a0 5 (some a10)).bind fun h12 =>
  b2 (nwA 0 40 h12) fun a13 h14 =>
  (pQ 10 h14 a0 6 (some a13)).bind fun h15 =>
  b2 (nwA 0 40 h15) fun a16 h17 =>
  (pQ 10 h17 a0 7 (some a16)).bind fun h18 =>
  b2 (nwA 0 40 h18) fun a19 h20 =>
  (pQ 10 h20 a0 8 (some a19)).bind fun h21 =>
  b2 (nwA 0 40 h21) fun a22 h23 =>
  (pQ 10 h23 a0 9 (some a22)).bind fun h24 =>
  b2 (nwA 0 40 h24) fun a25 h26 =>
  (pQ 10 h26 a0 10 (some a25)).bind fun h27 =>
  b2 (nwA 0 115 h27) fun a28 h29 =>
  (pQ 10 h29 a0 11 (some a28)).bind fun h30 =>
  b2 (nwA 0 60 h30) fun a31 h32 =>
  (pQ 10 h32 a0 16 (some a31)).bind fun h33 =>
  b2 (nwA 0 60 h33) fun a34 h35 =>
  (pQ 10 h35 a0 17 (some a34)).bind fun h36 =>
  (pQ 10 h36 a0 0 (some p1)).bind fun h37 =>
  (pI 10 h37 a0 13 2).bind fun h38 =>
  (pI 10 h38 a0 12 (-1)).bind fun h39 =>
  some h39
set_option maxRecDepth 100000 in
set_option maxHeartbeats 4000000 in
theorem w_X10_init {l : Launch} {G : GX} {a0 : Nat} {p1 : Nat} {h : AH} {hr : AH} (hf : f_X10_init a0 p1 h = some hr) : Ct l G yX10_init 1 20 [.ref a0, .ref p1] h (QV hr) := by
  unfold f_X10_init at hf
  refine Ct_of (own := RX10) (cc := cX10_init) (nL := 2) (ret := none) rfl rfl k_222 (Nat.le_of_ble_eq_true rfl) (fun X C2 C => ?_)
  show V X G h (QV hr) 0 [(0, .ref a0), (1, .ref p1)] [] h
  refine C.seg (pe := 1) (lv' := [(0, .ref a0), (1, .ref p1)]) (st' := [.ref a0]) [(.aload_n 0, 1, 0)] (by decide +kernel) rfl ?_
  refine C.objInit k_223 k_151 k_152 (by omega) (by omega) (Nat.le_of_ble_eq_true rfl) (by decide +kernel) rfl ?_
  refine C.seg (pe := 7) (lv' := [(0, .ref a0), (1, .ref p1)]) (st' := [.int 40, .ref a0]) [(.aload_n 0, 1, 0), (.bipush 40, 2, 40)] (by decide +kernel) rfl ?_
  obtain ⟨a1, h2, ga1, hf⟩ := b2_some hf
  refine C.newa0 k_180 ga1 (by decide +kernel) rfl ?_
  obtain ⟨h3, gh3, hf⟩ := Option.bind_eq_some_iff.mp hf
  refine C.putFA C2.2.1 fl_227 (Or.inr ⟨_, rfl⟩) gh3 (by decide +kernel) rfl ?_
  refine C.seg (pe := 15) (lv' := [(0, .ref a0), (1, .ref p1)]) (st' := [.int 40, .ref a0]) [(.aload_n 0, 1, 0), (.bipush 40, 2, 40)] (by decide +kernel) rfl ?_
  obtain ⟨a4, h5, ga4, hf⟩ := b2_some hf
  refine C.newa0 k_180 ga4 (by decide +kernel) rfl ?_
  obtain ⟨h6, gh6, hf⟩ := Option.bind_eq_some_iff.mp hf
  refine C.putFA C2.2.1 fl_228 (Or.inr ⟨_, rfl⟩) gh6 (by decide +kernel) rfl ?_
  refine C.seg (pe := 23) (lv' := [(0, .ref a0), (1, .ref p1)]) (st' := [.int 40, .ref a0]) [(.aload_n 0, 1, 0), (.bipush 40, 2, 40)] (by decide +kernel) rfl ?_
  obtain ⟨a7, h8, ga7, hf⟩ := b2_some hf
  refine C.newa0 k_180 ga7 (by decide +kernel) rfl ?_
  obtain ⟨h9, gh9, hf⟩ := Option.bind_eq_some_iff.mp hf
  refine C.putFA C2.2.1 fl_229 (Or.inr ⟨_, rfl⟩) gh9 (by decide +kernel) rfl ?_
  refine C.seg (pe := 31) (lv' := [(0, .ref a0), (1, .ref p1)]) (st' := [.int 40, .ref a0]) [(.aload_n 0, 1, 0), (.bipush 40, 2, 40)] (by decide +kernel) rfl ?_
  obtain ⟨a10, h11, ga10, hf⟩ := b2_some hf
  refine C.newa0 k_180 ga10 (by decide +kernel) rfl ?_
  obtain ⟨h12, gh12, hf⟩ := Option.bind_eq_some_iff.mp hf
  refine C.putFA C2.2.1 fl_230 (Or.inr ⟨_, rfl⟩) gh12 (by decide +kernel) rfl ?_
  refine C.seg (pe := 39) (lv' := [(0, .ref a0), (1, .ref p1)]) (st' := [.int 40, .ref a0]) [(.aload_n 0, 1, 0), (.bipush 40, 2, 40)] (by decide +kernel) rfl ?_
  obtain ⟨a13, h14, ga13, hf⟩ := b2_some hf
  refine C.newa0 k_180 ga13 (by decide +kernel) rfl ?_
  obtain ⟨h15, gh15, hf⟩ := Option.bind_eq_some_iff.mp hf
  refine C.putFA C2.2.1 fl_231 (Or.inr ⟨_, rfl⟩) gh15 (by decide +kernel) rfl ?_
  refine C.seg (pe := 47) (lv' := [(0, .ref a0), (1, .ref p1)]) (st' := [.int 40, .ref a0]) [(.aload_n 0, 1, 0), (.bipush 40, 2, 40)] (by decide +kernel) rfl ?_
  obtain ⟨a16, h17, ga16, hf⟩ := b2_some hf
  refine C.newa0 k_180 ga16 (by decide +kernel) rfl ?_
  obtain ⟨h18, gh18, hf⟩ := Option.bind_eq_some_iff.mp hf
  refine C.putFA C2.2.1 fl_232 (Or.inr ⟨_, rfl⟩) gh18 (by decide +kernel) rfl ?_
  refine C.seg (pe := 55) (lv' := [(0, .ref a0), (1, .ref p1)]) (st' := [.int 40, .ref a0]) [(.aload_n 0, 1, 0), (.bipush 40, 2, 40)] (by decide +kernel) rfl ?_
  obtain ⟨a19, h20, ga19, hf⟩ := b2_some hf
  refine C.newa0 k_180 ga19 (by decide +kernel) rfl ?_
  obtain ⟨h21, gh21, hf⟩ := Option.bind_eq_some_iff.mp hf
  refine C.putFA C2.2.1 fl_233 (Or.inr ⟨_, rfl⟩) gh21 (by decide +kernel) rfl ?_
  refine C.seg (pe := 63) (lv' := [(0, .ref a0), (1, .ref p1)]) (st' := [.int 40, .ref a0]) [(.aload_n 0, 1, 0), (.bipush 40, 2, 40)] (by decide +kernel) rfl ?_
  obtain ⟨a22, h23, ga22, hf⟩ := b2_some hf
  refine C.newa0 k_180 ga22 (by decide +kernel) rfl ?_
  obtain ⟨h24, gh24, hf⟩ := Option.bind_eq_some_iff.mp hf
  refine C.putFA C2.2.1 fl_234 (Or.inr ⟨_, rfl⟩) gh24 (by decide +kernel) rfl ?_
  refine C.seg (pe := 71) (lv' := [(0, .ref a0), (1, .ref p1)]) (st' := [.int 40, .ref a0]) [(.aload_n 0, 1, 0), (.bipush 40, 2, 40)] (by decide +kernel) rfl ?_
  obtain ⟨a25, h26, ga25, hf⟩ := b2_some hf
  refine C.newa0 k_180 ga25 (by decide +kernel) rfl ?_
  obtain ⟨h27, gh27, hf⟩ := Option.bind_eq_some_iff.mp hf
  refine C.putFA C2.2.1 fl_235 (Or.inr ⟨_, rfl⟩) gh27 (by decide +kernel) rfl ?_
  refine C.seg (pe := 79) (lv' := [(0, .ref a0), (1, .ref p1)]) (st' := [.int 115, .ref a0]) [(.aload_n 0, 1, 0), (.bipush 115, 2, 115)] (by decide +kernel) rfl ?_
  obtain ⟨a28, h29, ga28, hf⟩ := b2_some hf
  refine C.newa0 k_180 ga28 (by decide +kernel) rfl ?_
  obtain ⟨h30, gh30, hf⟩ := Option.bind_eq_some_iff.mp hf
  refine C.putFA C2.2.1 fl_236 (Or.inr ⟨_, rfl⟩) gh30 (by decide +kernel) rfl ?_
  refine C.seg (pe := 87) (lv' := [(0, .ref a0), (1, .ref p1)]) (st' := [.int 60, .ref a0]) [(.aload_n 0, 1, 0), (.bipush 60, 2, 60)] (by decide +kernel) rfl ?_
  obtain ⟨a31, h32, ga31, hf⟩ := b2_some hf
  refine C.newa0 k_180 ga31 (by decide +kernel) rfl ?_
  obtain ⟨h33, gh33, hf⟩ := Option.bind_eq_some_iff.mp hf
  refine C.putFA C2.2.1 fl_244 (Or.inr ⟨_, rfl⟩) gh33 (by decide +kernel) rfl ?_
  refine C.seg (pe := 95) (lv' := [(0, .ref a0), (1, .ref p1)]) (st' := [.int 60, .ref a0]) [(.aload_n 0, 1, 0), (.bipush 60, 2, 60)] (by decide +kernel) rfl ?_
  obtain ⟨a34, h35, ga34, hf⟩ := b2_some hf
  refine C.newa0 k_180 ga34 (by decide +kernel) rfl ?_
  obtain ⟨h36, gh36, hf⟩ := Option.bind_eq_some_iff.mp hf
  refine C.putFA C2.2.1 fl_245 (Or.inr ⟨_, rfl⟩) gh36 (by decide +kernel) rfl ?_
  refine C.seg (pe := 102) (lv' := [(0, .ref a0), (1, .ref p1)]) (st' := [.ref p1, .ref a0]) [(.aload_n 0, 1, 0), (.aload_n 1, 1, 0)] (by decide +kernel) rfl ?_
  obtain ⟨h37, gh37, hf⟩ := Option.bind_eq_some_iff.mp hf
  refine C.putFA C2.2.1 fl_224 (Or.inl ⟨_, rfl⟩) gh37 (by decide +kernel) rfl ?_
  refine C.seg (pe := 107) (lv' := [(0, .ref a0), (1, .ref p1)]) (st' := [.int 2, .ref a0]) [(.aload_n 0, 1, 0), (.iconst 2, 1, 2)] (by decide +kernel) rfl ?_
  obtain ⟨h38, gh38, hf⟩ := Option.bind_eq_some_iff.mp hf
  refine C.putI fl_238 gh38 (by decide +kernel) rfl ?_
  refine C.seg (pe := 112) (lv' := [(0, .ref a0), (1, .ref p1)]) (st' := [.int (-1), .ref a0]) [(.aload_n 0, 1, 0), (.iconst (-1), 1, (-1))] (by decide +kernel) rfl ?_
  obtain ⟨h39, gh39, hf⟩ := Option.bind_eq_some_iff.mp hf
  refine C.putI fl_237 gh39 (by decide +kernel) rfl ?_
  cases hf
  exact C.retV rfl (by decide +kernel) ⟨rfl, rfl⟩
/-! WallHouse$Works.year()I -/
def f_X10_year (a0 : Nat) (h : AH) : Option (Int32 × AH) :=
  if isO 10 h a0 = true then
    (gI 10 h a0 14).bind fun x1 =>
    some (x1 / 365, h)
  else none
set_option maxRecDepth 100000 in
set_option maxHeartbeats 4000000 in
theorem w_X10_year {l : Launch} {G : GX} {a0 : Nat} {h : AH} {rr : Int32} {hr : AH} (hf : f_X10_year a0 h = some (rr, hr)) : Ct l G yX10_year 0 0 [.ref a0] h (QI rr hr) := by
  unfold f_X10_year at hf
  obtain ⟨ho, hf⟩ := ifO hf
  refine Ct_of (own := RX10) (cc := cX10_year) (nL := 1) (ret := (some .int)) rfl rfl k_727 (Nat.le_of_ble_eq_true rfl) (fun X C2 C => ?_)
  show V X G h (QI rr hr) 0 [(0, .ref a0)] [] h
  refine C.seg (pe := 1) (lv' := [(0, .ref a0)]) (st' := [.ref a0]) [(.aload_n 0, 1, 0)] (by decide +kernel) rfl ?_
  obtain ⟨x1, gx1, hf⟩ := Option.bind_eq_some_iff.mp hf
  refine C.rdI fr_240 gx1 (by decide +kernel) rfl ?_
  refine C.seg (pe := 7) (lv' := [(0, .ref a0)]) (st' := [.int 365, .int x1]) [(.sipush 365, 3, 365)] (by decide +kernel) rfl ?_
  refine C.idiv (by decide +kernel) rfl (by decide) ?_
  cases hf
  exact C.retI rfl (by decide +kernel) ⟨rfl, rfl⟩
theorem o_X10_year {a0 : Nat} {h : AH} {rr : Int32} {hr : AH} (hf : f_X10_year a0 h = some (rr, hr)) : isO 10 h a0 = true := by
  unfold f_X10_year at hf
  exact (ifO hf).1
/-! WallHouse$Works.has(I)Z -/
def f_X10_has_23 (si0 : Int32) (h : AH) : Option (Int32 × AH) :=
  (ckZ si0).bind fun x1 =>
  some (x1, h)
set_option maxRecDepth 100000 in
set_option maxHeartbeats 4000000 in
theorem l_X10_has_23 {X : MX} {l : Launch} {G : GX} {h0 : AH} {rr : Int32} {hr : AH} (C : Cx X G RX10 cX10_has 2 (some .boolean) 0 0 h0) (C2 : Cy X l "has" []) (si0 : Int32) (h : AH) (hf : f_X10_has_23 si0 h = some (rr, hr)) : V X G h0 (QI rr hr) 23 [] [.int si0] h := by
  unfold f_X10_has_23 at hf
  obtain ⟨x1, gx1, hf⟩ := Option.bind_eq_some_iff.mp hf
  have ex1 := ckZ_eq gx1
  subst ex1
  cases hf
  exact C.retZ rfl gx1 (by decide +kernel) ⟨rfl, rfl⟩
def f_X10_has_22 (h : AH) : Option (Int32 × AH) :=
  f_X10_has_23 0 h
set_option maxRecDepth 100000 in
set_option maxHeartbeats 4000000 in
theorem l_X10_has_22 {X : MX} {l : Launch} {G : GX} {h0 : AH} {rr : Int32} {hr : AH} (C : Cx X G RX10 cX10_has 2 (some .boolean) 0 0 h0) (C2 : Cy X l "has" []) (h : AH) (hf : f_X10_has_22 h = some (rr, hr)) : V X G h0 (QI rr hr) 22 [] [] h := by
  unfold f_X10_has_22 at hf
  refine C.seg (pe := 23) (lv' := []) (st' := [.int 0]) [(.iconst 0, 1, 0)] (by decide +kernel) rfl ?_
  exact l_X10_has_23 C C2 0 h hf
def f_X10_has (a0 : Nat) (p1 : Int32) (h : AH) : Option (Int32 × AH) :=
  if isO 10 h a0 = true then
    if p1 < 0 then
      f_X10_has_22 h
    else
      (gI 10 h a0 1).bind fun x1 =>
      if x1 ≤ p1 then
        f_X10_has_22 h
      else
        if 40 ≤ p1 then
          f_X10_has_22 h
        else
          f_X10_has_23 1 h
  else none
set_option maxRecDepth 100000 in
set_option maxHeartbeats 4000000 in
theorem w_X10_has {l : Launch} {G : GX} {a0 : Nat} {p1 : Int32} {h : AH} {rr : Int32} {hr : AH} (hf : f_X10_has a0 p1 h = some (rr, hr)) : Ct l G yX10_has 0 0 [.ref a0, .int p1] h (QI rr hr) := by
  unfold f_X10_has at hf
  obtain ⟨ho, hf⟩ := ifO hf
  refine Ct_of (own := RX10) (cc := cX10_has) (nL := 2) (ret := (some .boolean)) rfl rfl k_1342 (Nat.le_of_ble_eq_true rfl) (fun X C2 C => ?_)
  show V X G h (QI rr hr) 0 [(0, .ref a0), (1, .int p1)] [] h
  refine C.seg (pe := 1) (lv' := [(0, .ref a0), (1, .int p1)]) (st' := [.int p1]) [(.iload_n 1, 1, 0)] (by decide +kernel) rfl ?_
  refine C.if_lt (off := 21) (tgt := 22) (pf := 4) (by decide +kernel) (by decide) rfl (fun c4 => ?_) (fun c4 => ?_)
  · replace hf := ifp c4 hf
    refine Vsub [] rfl ?_
    exact l_X10_has_22 C C2 h hf
  · replace hf := ifn c4 hf
    refine C.seg (pe := 6) (lv' := [(0, .ref a0), (1, .int p1)]) (st' := [.ref a0, .int p1]) [(.iload_n 1, 1, 0), (.aload_n 0, 1, 0)] (by decide +kernel) rfl ?_
    obtain ⟨x1, gx1, hf⟩ := Option.bind_eq_some_iff.mp hf
    refine C.rdI fr_225 gx1 (by decide +kernel) rfl ?_
    refine C.icmp_ge (off := 13) (tgt := 22) (pf := 12) (by decide +kernel) (by decide) rfl (fun c3 => ?_) (fun c3 => ?_)
    · replace hf := ifp c3 hf
      refine Vsub [] rfl ?_
      exact l_X10_has_22 C C2 h hf
    · replace hf := ifn c3 hf
      refine C.seg (pe := 15) (lv' := [(0, .ref a0), (1, .int p1)]) (st' := [.int 40, .int p1]) [(.iload_n 1, 1, 0), (.bipush 40, 2, 40)] (by decide +kernel) rfl ?_
      refine C.icmp_ge (off := 7) (tgt := 22) (pf := 18) (by decide +kernel) (by decide) rfl (fun c2 => ?_) (fun c2 => ?_)
      · replace hf := ifp c2 hf
        refine Vsub [] rfl ?_
        exact l_X10_has_22 C C2 h hf
      · replace hf := ifn c2 hf
        refine C.seg (pe := 19) (lv' := [(0, .ref a0), (1, .int p1)]) (st' := [.int 1]) [(.iconst 1, 1, 1)] (by decide +kernel) rfl ?_
        refine C.goto (off := 4) (tgt := 23) (by decide +kernel) (by decide) ?_
        refine Vsub [] rfl ?_
        exact l_X10_has_23 C C2 1 h hf
theorem o_X10_has {a0 : Nat} {p1 : Int32} {h : AH} {rr : Int32} {hr : AH} (hf : f_X10_has a0 p1 h = some (rr, hr)) : isO 10 h a0 = true := by
  unfold f_X10_has at hf
  exact (ifO hf).1
/-! WallHouse$Works.stageOf(I)I -/
def f_X10_stageOf_43 (si0 : Int32) (h : AH) : Option (Int32 × AH) :=
  some (si0, h)
set_option maxRecDepth 100000 in
set_option maxHeartbeats 4000000 in
theorem l_X10_stageOf_43 {X : MX} {l : Launch} {G : GX} {h0 : AH} {rr : Int32} {hr : AH} (C : Cx X G RX10 cX10_stageOf 2 (some .int) 0 0 h0) (C2 : Cy X l "stageOf" []) (si0 : Int32) (h : AH) (hf : f_X10_stageOf_43 si0 h = some (rr, hr)) : V X G h0 (QI rr hr) 43 [] [.int si0] h := by
  unfold f_X10_stageOf_43 at hf
  cases hf
  exact C.retI rfl (by decide +kernel) ⟨rfl, rfl⟩
def f_X10_stageOf (a0 : Nat) (p1 : Int32) (h : AH) : Option (Int32 × AH) :=
  if isO 10 h a0 = true then
    (gA 10 h a0 6).bind fun a1 =>
    (aI 0 h a1 p1).bind fun x2 =>
    if x2 = 0 then
      some (0, h)
    else
      (gA 10 h a0 6).bind fun a3 =>
      (aI 0 h a3 p1).bind fun x4 =>
      if 3 ≤ x4 then
        (gA 10 h a0 6).bind fun a5 =>
        (aI 0 h a5 p1).bind fun x6 =>
        (gA 10 h a0 5).bind fun a7 =>
        (aI 0 h a7 p1).bind fun x8 =>
        if x8 ≤ x6 then
          f_X10_stageOf_43 3 h
        else
          f_X10_stageOf_43 2 h
      else
        some (1, h)
  else none
set_option maxRecDepth 100000 in
set_option maxHeartbeats 4000000 in
theorem w_X10_stageOf {l : Launch} {G : GX} {a0 : Nat} {p1 : Int32} {h : AH} {rr : Int32} {hr : AH} (hf : f_X10_stageOf a0 p1 h = some (rr, hr)) : Ct l G yX10_stageOf 0 0 [.ref a0, .int p1] h (QI rr hr) := by
  unfold f_X10_stageOf at hf
  obtain ⟨ho, hf⟩ := ifO hf
  refine Ct_of (own := RX10) (cc := cX10_stageOf) (nL := 2) (ret := (some .int)) rfl rfl k_1346 (Nat.le_of_ble_eq_true rfl) (fun X C2 C => ?_)
  show V X G h (QI rr hr) 0 [(0, .ref a0), (1, .int p1)] [] h
  refine C.seg (pe := 1) (lv' := [(0, .ref a0), (1, .int p1)]) (st' := [.ref a0]) [(.aload_n 0, 1, 0)] (by decide +kernel) rfl ?_
  obtain ⟨a1, ga1, hf⟩ := Option.bind_eq_some_iff.mp hf
  refine C.rdA fr_231 ga1 (by decide +kernel) rfl ?_
  refine C.seg (pe := 5) (lv' := [(0, .ref a0), (1, .int p1)]) (st' := [.int p1, .ref a1]) [(.iload_n 1, 1, 0)] (by decide +kernel) rfl ?_
  obtain ⟨x2, gx2, hf⟩ := Option.bind_eq_some_iff.mp hf
  refine C.ald 0 rfl gx2 (by decide +kernel) rfl ?_
  refine C.if_ne (off := 5) (tgt := 11) (pf := 9) (by decide +kernel) (by decide) rfl (fun c11 => ?_) (fun c11 => ?_)
  · replace hf := ifn c11 hf
    refine C.seg (pe := 12) (lv' := [(0, .ref a0), (1, .int p1)]) (st' := [.ref a0]) [(.aload_n 0, 1, 0)] (by decide +kernel) rfl ?_
    obtain ⟨a3, ga3, hf⟩ := Option.bind_eq_some_iff.mp hf
    refine C.rdA fr_231 ga3 (by decide +kernel) rfl ?_
    refine C.seg (pe := 16) (lv' := [(0, .ref a0), (1, .int p1)]) (st' := [.int p1, .ref a3]) [(.iload_n 1, 1, 0)] (by decide +kernel) rfl ?_
    obtain ⟨x4, gx4, hf⟩ := Option.bind_eq_some_iff.mp hf
    refine C.ald 0 rfl gx4 (by decide +kernel) rfl ?_
    refine C.seg (pe := 18) (lv' := [(0, .ref a0), (1, .int p1)]) (st' := [.int 3, .int x4]) [(.iconst 3, 1, 3)] (by decide +kernel) rfl ?_
    refine C.icmp_ge (off := 5) (tgt := 23) (pf := 21) (by decide +kernel) (by decide) rfl (fun c10 => ?_) (fun c10 => ?_)
    · replace hf := ifp c10 hf
      refine C.seg (pe := 24) (lv' := [(0, .ref a0), (1, .int p1)]) (st' := [.ref a0]) [(.aload_n 0, 1, 0)] (by decide +kernel) rfl ?_
      obtain ⟨a5, ga5, hf⟩ := Option.bind_eq_some_iff.mp hf
      refine C.rdA fr_231 ga5 (by decide +kernel) rfl ?_
      refine C.seg (pe := 28) (lv' := [(0, .ref a0), (1, .int p1)]) (st' := [.int p1, .ref a5]) [(.iload_n 1, 1, 0)] (by decide +kernel) rfl ?_
      obtain ⟨x6, gx6, hf⟩ := Option.bind_eq_some_iff.mp hf
      refine C.ald 0 rfl gx6 (by decide +kernel) rfl ?_
      refine C.seg (pe := 30) (lv' := [(0, .ref a0), (1, .int p1)]) (st' := [.ref a0, .int x6]) [(.aload_n 0, 1, 0)] (by decide +kernel) rfl ?_
      obtain ⟨a7, ga7, hf⟩ := Option.bind_eq_some_iff.mp hf
      refine C.rdA fr_230 ga7 (by decide +kernel) rfl ?_
      refine C.seg (pe := 34) (lv' := [(0, .ref a0), (1, .int p1)]) (st' := [.int p1, .ref a7, .int x6]) [(.iload_n 1, 1, 0)] (by decide +kernel) rfl ?_
      obtain ⟨x8, gx8, hf⟩ := Option.bind_eq_some_iff.mp hf
      refine C.ald 0 rfl gx8 (by decide +kernel) rfl ?_
      refine C.icmp_ge (off := 7) (tgt := 42) (pf := 38) (by decide +kernel) (by decide) rfl (fun c9 => ?_) (fun c9 => ?_)
      · replace hf := ifp c9 hf
        refine C.seg (pe := 43) (lv' := [(0, .ref a0), (1, .int p1)]) (st' := [.int 3]) [(.iconst 3, 1, 3)] (by decide +kernel) rfl ?_
        refine Vsub [] rfl ?_
        exact l_X10_stageOf_43 C C2 3 h hf
      · replace hf := ifn c9 hf
        refine C.seg (pe := 39) (lv' := [(0, .ref a0), (1, .int p1)]) (st' := [.int 2]) [(.iconst 2, 1, 2)] (by decide +kernel) rfl ?_
        refine C.goto (off := 4) (tgt := 43) (by decide +kernel) (by decide) ?_
        refine Vsub [] rfl ?_
        exact l_X10_stageOf_43 C C2 2 h hf
    · replace hf := ifn c10 hf
      refine C.seg (pe := 22) (lv' := [(0, .ref a0), (1, .int p1)]) (st' := [.int 1]) [(.iconst 1, 1, 1)] (by decide +kernel) rfl ?_
      cases hf
      exact C.retI rfl (by decide +kernel) ⟨rfl, rfl⟩
  · replace hf := ifp c11 hf
    refine C.seg (pe := 10) (lv' := [(0, .ref a0), (1, .int p1)]) (st' := [.int 0]) [(.iconst 0, 1, 0)] (by decide +kernel) rfl ?_
    cases hf
    exact C.retI rfl (by decide +kernel) ⟨rfl, rfl⟩
theorem o_X10_stageOf {a0 : Nat} {p1 : Int32} {h : AH} {rr : Int32} {hr : AH} (hf : f_X10_stageOf a0 p1 h = some (rr, hr)) : isO 10 h a0 = true := by
  unfold f_X10_stageOf at hf
  exact (ifO hf).1
/-! WallHouse$Works.tellOf(II)I -/
def f_X10_tellOf (a0 : Nat) (p1 : Int32) (p2 : Int32) (h : AH) : Option (Int32 × AH) :=
  if isO 10 h a0 = true then
    b2 (f_X10_has a0 p1 h) fun x1 h2 =>
    if x1 = 0 then
      some ((-1), h2)
    else
      if p2 = 0 then
        (gA 10 h2 a0 2).bind fun a11 =>
        (aI 0 h2 a11 p1).bind fun x12 =>
        some (x12, h2)
      else
        if p2 = 1 then
          (gA 10 h2 a0 3).bind fun a13 =>
          (aI 0 h2 a13 p1).bind fun x14 =>
          some (x14, h2)
        else
          if p2 = 2 then
            (gA 10 h2 a0 4).bind fun a15 =>
            (aI 0 h2 a15 p1).bind fun x16 =>
            some (x16, h2)
          else
            if p2 = 3 then
              b2 (f_X10_stageOf a0 p1 h2) fun x17 h18 =>
              some (x17, h18)
            else
              if p2 = 4 then
                (gA 10 h2 a0 5).bind fun a19 =>
                (aI 0 h2 a19 p1).bind fun x20 =>
                (gA 10 h2 a0 6).bind fun a21 =>
                (aI 0 h2 a21 p1).bind fun x22 =>
                some (x20 - x22, h2)
              else
                if p2 = 5 then
                  (gA 10 h2 a0 8).bind fun a23 =>
                  (aI 0 h2 a23 p1).bind fun x24 =>
                  some (x24, h2)
                else
                  if p2 = 6 then
                    (gA 10 h2 a0 9).bind fun a25 =>
                    (aI 0 h2 a25 p1).bind fun x26 =>
                    some (x26, h2)
                  else
                    if p2 = 7 then
                      (gA 10 h2 a0 10).bind fun a27 =>
                      (aI 0 h2 a27 p1).bind fun x28 =>
                      some (x28, h2)
                    else
                      some ((-1), h2)
  else none
set_option maxRecDepth 100000 in
set_option maxHeartbeats 4000000 in
theorem w_X10_tellOf {l : Launch} {G : GX} {a0 : Nat} {p1 : Int32} {p2 : Int32} {h : AH} {rr : Int32} {hr : AH} (hf : f_X10_tellOf a0 p1 p2 h = some (rr, hr)) : Ct l G yX10_tellOf 1 21 [.ref a0, .int p1, .int p2] h (QI rr hr) := by
  unfold f_X10_tellOf at hf
  obtain ⟨ho, hf⟩ := ifO hf
  refine Ct_of (own := RX10) (cc := cX10_tellOf) (nL := 3) (ret := (some .int)) rfl rfl k_1338 (Nat.le_of_ble_eq_true rfl) (fun X C2 C => ?_)
  show V X G h (QI rr hr) 0 [(0, .ref a0), (1, .int p1), (2, .int p2)] [] h
  refine C.seg (pe := 2) (lv' := [(0, .ref a0), (1, .int p1), (2, .int p2)]) (st' := [.int p1, .ref a0]) [(.aload_n 0, 1, 0), (.iload_n 1, 1, 0)] (by decide +kernel) rfl ?_
  obtain ⟨x1, h2, gx1, hf⟩ := b2_some hf
  refine C.callVr C2 [.int p1] [] mv_1339 rfl (o_X10_has gx1) (w_X10_has gx1) (by omega) (by omega) (Nat.le_of_ble_eq_true rfl) (by decide +kernel) rfl ?_
  refine C.if_ne (off := 5) (tgt := 10) (pf := 8) (by decide +kernel) (by decide) rfl (fun c29 => ?_) (fun c29 => ?_)
  · replace hf := ifn c29 hf
    refine C.seg (pe := 11) (lv' := [(0, .ref a0), (1, .int p1), (2, .int p2)]) (st' := [.int p2]) [(.iload_n 2, 1, 0)] (by decide +kernel) rfl ?_
    by_cases c3 : p2 = 0
    · replace hf := ifp c3 hf
      refine C.tsIn (len := 45) (dflt := 107) (a := 0) (b := 7) (offs := #[45, 52, 59, 66, 72, 86, 93, 100]) (k := 0) (off := 45) (tgt := 56) c3 (by decide +kernel) (by decide) (by decide) rfl (by decide) ?_
      refine C.seg (pe := 57) (lv' := [(0, .ref a0), (1, .int p1), (2, .int p2)]) (st' := [.ref a0]) [(.aload_n 0, 1, 0)] (by decide +kernel) rfl ?_
      obtain ⟨a11, ga11, hf⟩ := Option.bind_eq_some_iff.mp hf
      refine C.rdA fr_227 ga11 (by decide +kernel) rfl ?_
      refine C.seg (pe := 61) (lv' := [(0, .ref a0), (1, .int p1), (2, .int p2)]) (st' := [.int p1, .ref a11]) [(.iload_n 1, 1, 0)] (by decide +kernel) rfl ?_
      obtain ⟨x12, gx12, hf⟩ := Option.bind_eq_some_iff.mp hf
      refine C.ald 0 rfl gx12 (by decide +kernel) rfl ?_
      cases hf
      exact C.retI rfl (by decide +kernel) ⟨rfl, rfl⟩
    · replace hf := ifn c3 hf
      by_cases c4 : p2 = 1
      · replace hf := ifp c4 hf
        refine C.tsIn (len := 45) (dflt := 107) (a := 0) (b := 7) (offs := #[45, 52, 59, 66, 72, 86, 93, 100]) (k := 1) (off := 52) (tgt := 63) c4 (by decide +kernel) (by decide) (by decide) rfl (by decide) ?_
        refine C.seg (pe := 64) (lv' := [(0, .ref a0), (1, .int p1), (2, .int p2)]) (st' := [.ref a0]) [(.aload_n 0, 1, 0)] (by decide +kernel) rfl ?_
        obtain ⟨a13, ga13, hf⟩ := Option.bind_eq_some_iff.mp hf
        refine C.rdA fr_228 ga13 (by decide +kernel) rfl ?_
        refine C.seg (pe := 68) (lv' := [(0, .ref a0), (1, .int p1), (2, .int p2)]) (st' := [.int p1, .ref a13]) [(.iload_n 1, 1, 0)] (by decide +kernel) rfl ?_
        obtain ⟨x14, gx14, hf⟩ := Option.bind_eq_some_iff.mp hf
        refine C.ald 0 rfl gx14 (by decide +kernel) rfl ?_
        cases hf
        exact C.retI rfl (by decide +kernel) ⟨rfl, rfl⟩
      · replace hf := ifn c4 hf
        by_cases c5 : p2 = 2
        · replace hf := ifp c5 hf
          refine C.tsIn (len := 45) (dflt := 107) (a := 0) (b := 7) (offs := #[45, 52, 59, 66, 72, 86, 93, 100]) (k := 2) (off := 59) (tgt := 70) c5 (by decide +kernel) (by decide) (by decide) rfl (by decide) ?_
          refine C.seg (pe := 71) (lv' := [(0, .ref a0), (1, .int p1), (2, .int p2)]) (st' := [.ref a0]) [(.aload_n 0, 1, 0)] (by decide +kernel) rfl ?_
          obtain ⟨a15, ga15, hf⟩ := Option.bind_eq_some_iff.mp hf
          refine C.rdA fr_229 ga15 (by decide +kernel) rfl ?_
          refine C.seg (pe := 75) (lv' := [(0, .ref a0), (1, .int p1), (2, .int p2)]) (st' := [.int p1, .ref a15]) [(.iload_n 1, 1, 0)] (by decide +kernel) rfl ?_
          obtain ⟨x16, gx16, hf⟩ := Option.bind_eq_some_iff.mp hf
          refine C.ald 0 rfl gx16 (by decide +kernel) rfl ?_
          cases hf
          exact C.retI rfl (by decide +kernel) ⟨rfl, rfl⟩
        · replace hf := ifn c5 hf
          by_cases c6 : p2 = 3
          · replace hf := ifp c6 hf
            refine C.tsIn (len := 45) (dflt := 107) (a := 0) (b := 7) (offs := #[45, 52, 59, 66, 72, 86, 93, 100]) (k := 3) (off := 66) (tgt := 77) c6 (by decide +kernel) (by decide) (by decide) rfl (by decide) ?_
            refine C.seg (pe := 79) (lv' := [(0, .ref a0), (1, .int p1), (2, .int p2)]) (st' := [.int p1, .ref a0]) [(.aload_n 0, 1, 0), (.iload_n 1, 1, 0)] (by decide +kernel) rfl ?_
            obtain ⟨x17, h18, gx17, hf⟩ := b2_some hf
            refine C.callVr C2 [.int p1] [] mv_1343 rfl (o_X10_stageOf gx17) (w_X10_stageOf gx17) (by omega) (by omega) (Nat.le_of_ble_eq_true rfl) (by decide +kernel) rfl ?_
            cases hf
            exact C.retI rfl (by decide +kernel) ⟨rfl, rfl⟩
          · replace hf := ifn c6 hf
            by_cases c7 : p2 = 4
            · replace hf := ifp c7 hf
              refine C.tsIn (len := 45) (dflt := 107) (a := 0) (b := 7) (offs := #[45, 52, 59, 66, 72, 86, 93, 100]) (k := 4) (off := 72) (tgt := 83) c7 (by decide +kernel) (by decide) (by decide) rfl (by decide) ?_
              refine C.seg (pe := 84) (lv' := [(0, .ref a0), (1, .int p1), (2, .int p2)]) (st' := [.ref a0]) [(.aload_n 0, 1, 0)] (by decide +kernel) rfl ?_
              obtain ⟨a19, ga19, hf⟩ := Option.bind_eq_some_iff.mp hf
              refine C.rdA fr_230 ga19 (by decide +kernel) rfl ?_
              refine C.seg (pe := 88) (lv' := [(0, .ref a0), (1, .int p1), (2, .int p2)]) (st' := [.int p1, .ref a19]) [(.iload_n 1, 1, 0)] (by decide +kernel) rfl ?_
              obtain ⟨x20, gx20, hf⟩ := Option.bind_eq_some_iff.mp hf
              refine C.ald 0 rfl gx20 (by decide +kernel) rfl ?_
              refine C.seg (pe := 90) (lv' := [(0, .ref a0), (1, .int p1), (2, .int p2)]) (st' := [.ref a0, .int x20]) [(.aload_n 0, 1, 0)] (by decide +kernel) rfl ?_
              obtain ⟨a21, ga21, hf⟩ := Option.bind_eq_some_iff.mp hf
              refine C.rdA fr_231 ga21 (by decide +kernel) rfl ?_
              refine C.seg (pe := 94) (lv' := [(0, .ref a0), (1, .int p1), (2, .int p2)]) (st' := [.int p1, .ref a21, .int x20]) [(.iload_n 1, 1, 0)] (by decide +kernel) rfl ?_
              obtain ⟨x22, gx22, hf⟩ := Option.bind_eq_some_iff.mp hf
              refine C.ald 0 rfl gx22 (by decide +kernel) rfl ?_
              refine C.seg (pe := 96) (lv' := [(0, .ref a0), (1, .int p1), (2, .int p2)]) (st' := [.int (x20 - x22)]) [(.isub, 1, 0)] (by decide +kernel) rfl ?_
              cases hf
              exact C.retI rfl (by decide +kernel) ⟨rfl, rfl⟩
            · replace hf := ifn c7 hf
              by_cases c8 : p2 = 5
              · replace hf := ifp c8 hf
                refine C.tsIn (len := 45) (dflt := 107) (a := 0) (b := 7) (offs := #[45, 52, 59, 66, 72, 86, 93, 100]) (k := 5) (off := 86) (tgt := 97) c8 (by decide +kernel) (by decide) (by decide) rfl (by decide) ?_
                refine C.seg (pe := 98) (lv' := [(0, .ref a0), (1, .int p1), (2, .int p2)]) (st' := [.ref a0]) [(.aload_n 0, 1, 0)] (by decide +kernel) rfl ?_
                obtain ⟨a23, ga23, hf⟩ := Option.bind_eq_some_iff.mp hf
                refine C.rdA fr_233 ga23 (by decide +kernel) rfl ?_
                refine C.seg (pe := 102) (lv' := [(0, .ref a0), (1, .int p1), (2, .int p2)]) (st' := [.int p1, .ref a23]) [(.iload_n 1, 1, 0)] (by decide +kernel) rfl ?_
                obtain ⟨x24, gx24, hf⟩ := Option.bind_eq_some_iff.mp hf
                refine C.ald 0 rfl gx24 (by decide +kernel) rfl ?_
                cases hf
                exact C.retI rfl (by decide +kernel) ⟨rfl, rfl⟩
              · replace hf := ifn c8 hf
                by_cases c9 : p2 = 6
                · replace hf := ifp c9 hf
                  refine C.tsIn (len := 45) (dflt := 107) (a := 0) (b := 7) (offs := #[45, 52, 59, 66, 72, 86, 93, 100]) (k := 6) (off := 93) (tgt := 104) c9 (by decide +kernel) (by decide) (by decide) rfl (by decide) ?_
                  refine C.seg (pe := 105) (lv' := [(0, .ref a0), (1, .int p1), (2, .int p2)]) (st' := [.ref a0]) [(.aload_n 0, 1, 0)] (by decide +kernel) rfl ?_
                  obtain ⟨a25, ga25, hf⟩ := Option.bind_eq_some_iff.mp hf
                  refine C.rdA fr_234 ga25 (by decide +kernel) rfl ?_
                  refine C.seg (pe := 109) (lv' := [(0, .ref a0), (1, .int p1), (2, .int p2)]) (st' := [.int p1, .ref a25]) [(.iload_n 1, 1, 0)] (by decide +kernel) rfl ?_
                  obtain ⟨x26, gx26, hf⟩ := Option.bind_eq_some_iff.mp hf
                  refine C.ald 0 rfl gx26 (by decide +kernel) rfl ?_
                  cases hf
                  exact C.retI rfl (by decide +kernel) ⟨rfl, rfl⟩
                · replace hf := ifn c9 hf
                  by_cases c10 : p2 = 7
                  · replace hf := ifp c10 hf
                    refine C.tsIn (len := 45) (dflt := 107) (a := 0) (b := 7) (offs := #[45, 52, 59, 66, 72, 86, 93, 100]) (k := 7) (off := 100) (tgt := 111) c10 (by decide +kernel) (by decide) (by decide) rfl (by decide) ?_
                    refine C.seg (pe := 112) (lv' := [(0, .ref a0), (1, .int p1), (2, .int p2)]) (st' := [.ref a0]) [(.aload_n 0, 1, 0)] (by decide +kernel) rfl ?_
                    obtain ⟨a27, ga27, hf⟩ := Option.bind_eq_some_iff.mp hf
                    refine C.rdA fr_235 ga27 (by decide +kernel) rfl ?_
                    refine C.seg (pe := 116) (lv' := [(0, .ref a0), (1, .int p1), (2, .int p2)]) (st' := [.int p1, .ref a27]) [(.iload_n 1, 1, 0)] (by decide +kernel) rfl ?_
                    obtain ⟨x28, gx28, hf⟩ := Option.bind_eq_some_iff.mp hf
                    refine C.ald 0 rfl gx28 (by decide +kernel) rfl ?_
                    cases hf
                    exact C.retI rfl (by decide +kernel) ⟨rfl, rfl⟩
                  · replace hf := ifn c10 hf
                    have qc3 := lv_neT c3 (by decide : (0 : Int32).toInt = 0)
                    have qc4 := lv_neT c4 (by decide : (1 : Int32).toInt = 1)
                    have qc5 := lv_neT c5 (by decide : (2 : Int32).toInt = 2)
                    have qc6 := lv_neT c6 (by decide : (3 : Int32).toInt = 3)
                    have qc7 := lv_neT c7 (by decide : (4 : Int32).toInt = 4)
                    have qc8 := lv_neT c8 (by decide : (5 : Int32).toInt = 5)
                    have qc9 := lv_neT c9 (by decide : (6 : Int32).toInt = 6)
                    have qc10 := lv_neT c10 (by decide : (7 : Int32).toInt = 7)
                    refine C.tsOut (len := 45) (dflt := 107) (a := 0) (b := 7) (offs := #[45, 52, 59, 66, 72, 86, 93, 100]) (tgt := 118) (by decide +kernel) (by omega) (by decide) ?_
                    refine C.seg (pe := 119) (lv' := [(0, .ref a0), (1, .int p1), (2, .int p2)]) (st' := [.int (-1)]) [(.iconst (-1), 1, (-1))] (by decide +kernel) rfl ?_
                    cases hf
                    exact C.retI rfl (by decide +kernel) ⟨rfl, rfl⟩
  · replace hf := ifp c29 hf
    refine C.seg (pe := 9) (lv' := [(0, .ref a0), (1, .int p1), (2, .int p2)]) (st' := [.int (-1)]) [(.iconst (-1), 1, (-1))] (by decide +kernel) rfl ?_
    cases hf
    exact C.retI rfl (by decide +kernel) ⟨rfl, rfl⟩
theorem o_X10_tellOf {a0 : Nat} {p1 : Int32} {p2 : Int32} {h : AH} {rr : Int32} {hr : AH} (hf : f_X10_tellOf a0 p1 p2 h = some (rr, hr)) : isO 10 h a0 = true := by
  unfold f_X10_tellOf at hf
  exact (ifO hf).1
/-! WallHouse$Works.begin(IIII)I -/
def f_X10_begin_24 (h : AH) : Option (Int32 × AH) :=
  some ((-1), h)
set_option maxRecDepth 100000 in
set_option maxHeartbeats 4000000 in
theorem l_X10_begin_24 {X : MX} {l : Launch} {G : GX} {h0 : AH} {rr : Int32} {hr : AH} (C : Cx X G RX10 cX10_begin 6 (some .int) 1 40 h0) (C2 : Cy X l "begin" []) (h : AH) (hf : f_X10_begin_24 h = some (rr, hr)) : V X G h0 (QI rr hr) 24 [] [] h := by
  unfold f_X10_begin_24 at hf
  refine C.seg (pe := 25) (lv' := []) (st' := [.int (-1)]) [(.iconst (-1), 1, (-1))] (by decide +kernel) rfl ?_
  cases hf
  exact C.retI rfl (by decide +kernel) ⟨rfl, rfl⟩
def f_X10_begin (a0 : Nat) (p1 : Int32) (p2 : Int32) (p3 : Int32) (p4 : Int32) (h : AH) : Option (Int32 × AH) :=
  if isO 10 h a0 = true then
    (gA 10 h a0 0).bind fun a1 =>
    b2 (f_X9_at a1 p1 h) fun q2 h3 =>
    tr q2 (
      (gI 10 h3 a0 1).bind fun x5 =>
      if 40 ≤ x5 then
        f_X10_begin_24 h3
      else
        f_X10_begin_24 h3) fun a4 =>
    (gI 10 h3 a0 1).bind fun x7 =>
    if 40 ≤ x7 then
      f_X10_begin_24 h3
    else
      (gA 10 h3 a0 2).bind fun a8 =>
      (gI 10 h3 a0 1).bind fun x9 =>
      (sI 0 h3 a8 x9 p1).bind fun h10 =>
      (gA 10 h10 a0 3).bind fun a11 =>
      (gI 10 h10 a0 1).bind fun x12 =>
      (sI 0 h10 a11 x12 p2).bind fun h13 =>
      (gA 10 h13 a0 4).bind fun a14 =>
      (gI 10 h13 a0 1).bind fun x15 =>
      (sI 0 h13 a14 x15 p3).bind fun h16 =>
      (gA 10 h16 a0 9).bind fun a17 =>
      (gI 10 h16 a0 1).bind fun x18 =>
      (sI 0 h16 a17 x18 p4).bind fun h19 =>
      (gA 10 h19 a0 5).bind fun a20 =>
      (gI 10 h19 a0 1).bind fun x21 =>
      (sI 0 h19 a20 x21 (3 + (mxI 1 (((p4 + 24) - 1) / 24)))).bind fun h22 =>
      (gA 10 h22 a0 6).bind fun a23 =>
      (gI 10 h22 a0 1).bind fun x24 =>
      (sI 0 h22 a23 x24 0).bind fun h25 =>
      (gA 10 h25 a0 8).bind fun a26 =>
      (gI 10 h25 a0 1).bind fun x27 =>
      (sI 0 h25 a26 x27 (-2)).bind fun h28 =>
      (gA 10 h28 a0 10).bind fun a29 =>
      (gI 10 h28 a0 1).bind fun x30 =>
      (sI 0 h28 a29 x30 0).bind fun h31 =>
      (gI 10 h31 a0 1).bind fun x32 =>
      (pI 8 h31 a4 8 x32).bind fun h33 =>
      (gI 10 h33 a0 1).bind fun x34 =>
      (pI 10 h33 a0 1 (x34 + 1)).bind fun h35 =>
      (gI 10 h35 a0 1).bind fun x36 =>
      some (x36 - 1, h35)
  else none
set_option maxRecDepth 100000 in
set_option maxHeartbeats 4000000 in
theorem w_X10_begin {l : Launch} {G : GX} {a0 : Nat} {p1 : Int32} {p2 : Int32} {p3 : Int32} {p4 : Int32} {h : AH} {rr : Int32} {hr : AH} (hf : f_X10_begin a0 p1 p2 p3 p4 h = some (rr, hr)) : Ct l G yX10_begin 1 40 [.ref a0, .int p1, .int p2, .int p3, .int p4] h (QI rr hr) := by
  unfold f_X10_begin at hf
  obtain ⟨ho, hf⟩ := ifO hf
  refine Ct_of (own := RX10) (cc := cX10_begin) (nL := 6) (ret := (some .int)) rfl rfl k_1392 (Nat.le_of_ble_eq_true rfl) (fun X C2 C => ?_)
  show V X G h (QI rr hr) 0 [(0, .ref a0), (1, .int p1), (2, .int p2), (3, .int p3), (4, .int p4)] [] h
  refine C.seg (pe := 1) (lv' := [(0, .ref a0), (1, .int p1), (2, .int p2), (3, .int p3), (4, .int p4)]) (st' := [.ref a0]) [(.aload_n 0, 1, 0)] (by decide +kernel) rfl ?_
  obtain ⟨a1, ga1, hf⟩ := Option.bind_eq_some_iff.mp hf
  refine C.rdA fr_224 ga1 (by decide +kernel) rfl ?_
  refine C.seg (pe := 5) (lv' := [(0, .ref a0), (1, .int p1), (2, .int p2), (3, .int p3), (4, .int p4)]) (st' := [.int p1, .ref a1]) [(.iload_n 1, 1, 0)] (by decide +kernel) rfl ?_
  obtain ⟨q2, h3, gq2, hf⟩ := b2_some hf
  cases q2 with
  | none =>
    replace hf := tr_none hf
    refine C.callVr C2 [.int p1] [] mv_1393 rfl (o_X9_at gq2) (w_X9_at gq2) (by omega) (by omega) (Nat.le_of_ble_eq_true rfl) (by decide +kernel) rfl ?_
    refine C.seg (pe := 11) (lv' := [(5, .null), (0, .ref a0), (1, .int p1), (2, .int p2), (3, .int p3), (4, .int p4)]) (st' := [.ref a0]) [(.astore 5, 2, 0), (.aload_n 0, 1, 0)] (by decide +kernel) rfl ?_
    obtain ⟨x5, gx5, hf⟩ := Option.bind_eq_some_iff.mp hf
    refine C.rdI fr_225 gx5 (by decide +kernel) rfl ?_
    refine C.seg (pe := 16) (lv' := [(5, .null), (0, .ref a0), (1, .int p1), (2, .int p2), (3, .int p3), (4, .int p4)]) (st' := [.int 40, .int x5]) [(.bipush 40, 2, 40)] (by decide +kernel) rfl ?_
    refine C.icmp_ge (off := 8) (tgt := 24) (pf := 19) (by decide +kernel) (by decide) rfl (fun c6 => ?_) (fun c6 => ?_)
    · replace hf := ifp c6 hf
      refine Vsub [] rfl ?_
      exact l_X10_begin_24 C C2 h3 hf
    · replace hf := ifn c6 hf
      refine C.seg (pe := 21) (lv' := [(5, .null), (0, .ref a0), (1, .int p1), (2, .int p2), (3, .int p3), (4, .int p4)]) (st' := [.null]) [(.aload 5, 2, 0)] (by decide +kernel) rfl ?_
      refine C.nonnullN (off := 5) (pf := 24) (by decide +kernel) rfl ?_
      refine Vsub [] rfl ?_
      exact l_X10_begin_24 C C2 h3 hf
  | some a4 =>
    replace hf := tr_some hf
    refine C.callVr C2 [.int p1] [] mv_1393 rfl (o_X9_at gq2) (w_X9_at gq2) (by omega) (by omega) (Nat.le_of_ble_eq_true rfl) (by decide +kernel) rfl ?_
    refine C.seg (pe := 11) (lv' := [(5, .ref a4), (0, .ref a0), (1, .int p1), (2, .int p2), (3, .int p3), (4, .int p4)]) (st' := [.ref a0]) [(.astore 5, 2, 0), (.aload_n 0, 1, 0)] (by decide +kernel) rfl ?_
    obtain ⟨x7, gx7, hf⟩ := Option.bind_eq_some_iff.mp hf
    refine C.rdI fr_225 gx7 (by decide +kernel) rfl ?_
    refine C.seg (pe := 16) (lv' := [(5, .ref a4), (0, .ref a0), (1, .int p1), (2, .int p2), (3, .int p3), (4, .int p4)]) (st' := [.int 40, .int x7]) [(.bipush 40, 2, 40)] (by decide +kernel) rfl ?_
    refine C.icmp_ge (off := 8) (tgt := 24) (pf := 19) (by decide +kernel) (by decide) rfl (fun c37 => ?_) (fun c37 => ?_)
    · replace hf := ifp c37 hf
      refine Vsub [] rfl ?_
      exact l_X10_begin_24 C C2 h3 hf
    · replace hf := ifn c37 hf
      refine C.seg (pe := 21) (lv' := [(5, .ref a4), (0, .ref a0), (1, .int p1), (2, .int p2), (3, .int p3), (4, .int p4)]) (st' := [.ref a4]) [(.aload 5, 2, 0)] (by decide +kernel) rfl ?_
      refine C.nonnullR (off := 5) (tgt := 26) (by decide +kernel) (by decide) ?_
      refine C.seg (pe := 27) (lv' := [(5, .ref a4), (0, .ref a0), (1, .int p1), (2, .int p2), (3, .int p3), (4, .int p4)]) (st' := [.ref a0]) [(.aload_n 0, 1, 0)] (by decide +kernel) rfl ?_
      obtain ⟨a8, ga8, hf⟩ := Option.bind_eq_some_iff.mp hf
      refine C.rdA fr_227 ga8 (by decide +kernel) rfl ?_
      refine C.seg (pe := 31) (lv' := [(5, .ref a4), (0, .ref a0), (1, .int p1), (2, .int p2), (3, .int p3), (4, .int p4)]) (st' := [.ref a0, .ref a8]) [(.aload_n 0, 1, 0)] (by decide +kernel) rfl ?_
      obtain ⟨x9, gx9, hf⟩ := Option.bind_eq_some_iff.mp hf
      refine C.rdI fr_225 gx9 (by decide +kernel) rfl ?_
      refine C.seg (pe := 35) (lv' := [(5, .ref a4), (0, .ref a0), (1, .int p1), (2, .int p2), (3, .int p3), (4, .int p4)]) (st' := [.int p1, .int x9, .ref a8]) [(.iload_n 1, 1, 0)] (by decide +kernel) rfl ?_
      obtain ⟨h10, gh10, hf⟩ := Option.bind_eq_some_iff.mp hf
      refine C.ast gh10 (by decide +kernel) rfl ?_
      refine C.seg (pe := 37) (lv' := [(5, .ref a4), (0, .ref a0), (1, .int p1), (2, .int p2), (3, .int p3), (4, .int p4)]) (st' := [.ref a0]) [(.aload_n 0, 1, 0)] (by decide +kernel) rfl ?_
      obtain ⟨a11, ga11, hf⟩ := Option.bind_eq_some_iff.mp hf
      refine C.rdA fr_228 ga11 (by decide +kernel) rfl ?_
      refine C.seg (pe := 41) (lv' := [(5, .ref a4), (0, .ref a0), (1, .int p1), (2, .int p2), (3, .int p3), (4, .int p4)]) (st' := [.ref a0, .ref a11]) [(.aload_n 0, 1, 0)] (by decide +kernel) rfl ?_
      obtain ⟨x12, gx12, hf⟩ := Option.bind_eq_some_iff.mp hf
      refine C.rdI fr_225 gx12 (by decide +kernel) rfl ?_
      refine C.seg (pe := 45) (lv' := [(5, .ref a4), (0, .ref a0), (1, .int p1), (2, .int p2), (3, .int p3), (4, .int p4)]) (st' := [.int p2, .int x12, .ref a11]) [(.iload_n 2, 1, 0)] (by decide +kernel) rfl ?_
      obtain ⟨h13, gh13, hf⟩ := Option.bind_eq_some_iff.mp hf
      refine C.ast gh13 (by decide +kernel) rfl ?_
      refine C.seg (pe := 47) (lv' := [(5, .ref a4), (0, .ref a0), (1, .int p1), (2, .int p2), (3, .int p3), (4, .int p4)]) (st' := [.ref a0]) [(.aload_n 0, 1, 0)] (by decide +kernel) rfl ?_
      obtain ⟨a14, ga14, hf⟩ := Option.bind_eq_some_iff.mp hf
      refine C.rdA fr_229 ga14 (by decide +kernel) rfl ?_
      refine C.seg (pe := 51) (lv' := [(5, .ref a4), (0, .ref a0), (1, .int p1), (2, .int p2), (3, .int p3), (4, .int p4)]) (st' := [.ref a0, .ref a14]) [(.aload_n 0, 1, 0)] (by decide +kernel) rfl ?_
      obtain ⟨x15, gx15, hf⟩ := Option.bind_eq_some_iff.mp hf
      refine C.rdI fr_225 gx15 (by decide +kernel) rfl ?_
      refine C.seg (pe := 55) (lv' := [(5, .ref a4), (0, .ref a0), (1, .int p1), (2, .int p2), (3, .int p3), (4, .int p4)]) (st' := [.int p3, .int x15, .ref a14]) [(.iload_n 3, 1, 0)] (by decide +kernel) rfl ?_
      obtain ⟨h16, gh16, hf⟩ := Option.bind_eq_some_iff.mp hf
      refine C.ast gh16 (by decide +kernel) rfl ?_
      refine C.seg (pe := 57) (lv' := [(5, .ref a4), (0, .ref a0), (1, .int p1), (2, .int p2), (3, .int p3), (4, .int p4)]) (st' := [.ref a0]) [(.aload_n 0, 1, 0)] (by decide +kernel) rfl ?_
      obtain ⟨a17, ga17, hf⟩ := Option.bind_eq_some_iff.mp hf
      refine C.rdA fr_234 ga17 (by decide +kernel) rfl ?_
      refine C.seg (pe := 61) (lv' := [(5, .ref a4), (0, .ref a0), (1, .int p1), (2, .int p2), (3, .int p3), (4, .int p4)]) (st' := [.ref a0, .ref a17]) [(.aload_n 0, 1, 0)] (by decide +kernel) rfl ?_
      obtain ⟨x18, gx18, hf⟩ := Option.bind_eq_some_iff.mp hf
      refine C.rdI fr_225 gx18 (by decide +kernel) rfl ?_
      refine C.seg (pe := 66) (lv' := [(5, .ref a4), (0, .ref a0), (1, .int p1), (2, .int p2), (3, .int p3), (4, .int p4)]) (st' := [.int p4, .int x18, .ref a17]) [(.iload 4, 2, 0)] (by decide +kernel) rfl ?_
      obtain ⟨h19, gh19, hf⟩ := Option.bind_eq_some_iff.mp hf
      refine C.ast gh19 (by decide +kernel) rfl ?_
      refine C.seg (pe := 68) (lv' := [(5, .ref a4), (0, .ref a0), (1, .int p1), (2, .int p2), (3, .int p3), (4, .int p4)]) (st' := [.ref a0]) [(.aload_n 0, 1, 0)] (by decide +kernel) rfl ?_
      obtain ⟨a20, ga20, hf⟩ := Option.bind_eq_some_iff.mp hf
      refine C.rdA fr_230 ga20 (by decide +kernel) rfl ?_
      refine C.seg (pe := 72) (lv' := [(5, .ref a4), (0, .ref a0), (1, .int p1), (2, .int p2), (3, .int p3), (4, .int p4)]) (st' := [.ref a0, .ref a20]) [(.aload_n 0, 1, 0)] (by decide +kernel) rfl ?_
      obtain ⟨x21, gx21, hf⟩ := Option.bind_eq_some_iff.mp hf
      refine C.rdI fr_225 gx21 (by decide +kernel) rfl ?_
      refine C.seg (pe := 86) (lv' := [(5, .ref a4), (0, .ref a0), (1, .int p1), (2, .int p2), (3, .int p3), (4, .int p4)]) (st' := [.int 24, .int ((p4 + 24) - 1), .int 1, .int 3, .int x21, .ref a20]) [(.iconst 3, 1, 3), (.iconst 1, 1, 1), (.iload 4, 2, 0), (.bipush 24, 2, 24), (.iadd, 1, 0), (.iconst 1, 1, 1), (.isub, 1, 0), (.bipush 24, 2, 24)] (by decide +kernel) rfl ?_
      refine C.idiv (by decide +kernel) rfl (by decide) ?_
      refine C.mmax k_1394 k_636 k_137 k_637 (by omega) (by omega) (Nat.le_of_ble_eq_true rfl) (by decide +kernel) rfl ?_
      refine C.seg (pe := 91) (lv' := [(5, .ref a4), (0, .ref a0), (1, .int p1), (2, .int p2), (3, .int p3), (4, .int p4)]) (st' := [.int (3 + (mxI 1 (((p4 + 24) - 1) / 24))), .int x21, .ref a20]) [(.iadd, 1, 0)] (by decide +kernel) rfl ?_
      obtain ⟨h22, gh22, hf⟩ := Option.bind_eq_some_iff.mp hf
      refine C.ast gh22 (by decide +kernel) rfl ?_
      refine C.seg (pe := 93) (lv' := [(5, .ref a4), (0, .ref a0), (1, .int p1), (2, .int p2), (3, .int p3), (4, .int p4)]) (st' := [.ref a0]) [(.aload_n 0, 1, 0)] (by decide +kernel) rfl ?_
      obtain ⟨a23, ga23, hf⟩ := Option.bind_eq_some_iff.mp hf
      refine C.rdA fr_231 ga23 (by decide +kernel) rfl ?_
      refine C.seg (pe := 97) (lv' := [(5, .ref a4), (0, .ref a0), (1, .int p1), (2, .int p2), (3, .int p3), (4, .int p4)]) (st' := [.ref a0, .ref a23]) [(.aload_n 0, 1, 0)] (by decide +kernel) rfl ?_
      obtain ⟨x24, gx24, hf⟩ := Option.bind_eq_some_iff.mp hf
      refine C.rdI fr_225 gx24 (by decide +kernel) rfl ?_
      refine C.seg (pe := 101) (lv' := [(5, .ref a4), (0, .ref a0), (1, .int p1), (2, .int p2), (3, .int p3), (4, .int p4)]) (st' := [.int 0, .int x24, .ref a23]) [(.iconst 0, 1, 0)] (by decide +kernel) rfl ?_
      obtain ⟨h25, gh25, hf⟩ := Option.bind_eq_some_iff.mp hf
      refine C.ast gh25 (by decide +kernel) rfl ?_
      refine C.seg (pe := 103) (lv' := [(5, .ref a4), (0, .ref a0), (1, .int p1), (2, .int p2), (3, .int p3), (4, .int p4)]) (st' := [.ref a0]) [(.aload_n 0, 1, 0)] (by decide +kernel) rfl ?_
      obtain ⟨a26, ga26, hf⟩ := Option.bind_eq_some_iff.mp hf
      refine C.rdA fr_233 ga26 (by decide +kernel) rfl ?_
      refine C.seg (pe := 107) (lv' := [(5, .ref a4), (0, .ref a0), (1, .int p1), (2, .int p2), (3, .int p3), (4, .int p4)]) (st' := [.ref a0, .ref a26]) [(.aload_n 0, 1, 0)] (by decide +kernel) rfl ?_
      obtain ⟨x27, gx27, hf⟩ := Option.bind_eq_some_iff.mp hf
      refine C.rdI fr_225 gx27 (by decide +kernel) rfl ?_
      refine C.seg (pe := 112) (lv' := [(5, .ref a4), (0, .ref a0), (1, .int p1), (2, .int p2), (3, .int p3), (4, .int p4)]) (st' := [.int (-2), .int x27, .ref a26]) [(.bipush (-2), 2, (-2))] (by decide +kernel) rfl ?_
      obtain ⟨h28, gh28, hf⟩ := Option.bind_eq_some_iff.mp hf
      refine C.ast gh28 (by decide +kernel) rfl ?_
      refine C.seg (pe := 114) (lv' := [(5, .ref a4), (0, .ref a0), (1, .int p1), (2, .int p2), (3, .int p3), (4, .int p4)]) (st' := [.ref a0]) [(.aload_n 0, 1, 0)] (by decide +kernel) rfl ?_
      obtain ⟨a29, ga29, hf⟩ := Option.bind_eq_some_iff.mp hf
      refine C.rdA fr_235 ga29 (by decide +kernel) rfl ?_
      refine C.seg (pe := 118) (lv' := [(5, .ref a4), (0, .ref a0), (1, .int p1), (2, .int p2), (3, .int p3), (4, .int p4)]) (st' := [.ref a0, .ref a29]) [(.aload_n 0, 1, 0)] (by decide +kernel) rfl ?_
      obtain ⟨x30, gx30, hf⟩ := Option.bind_eq_some_iff.mp hf
      refine C.rdI fr_225 gx30 (by decide +kernel) rfl ?_
      refine C.seg (pe := 122) (lv' := [(5, .ref a4), (0, .ref a0), (1, .int p1), (2, .int p2), (3, .int p3), (4, .int p4)]) (st' := [.int 0, .int x30, .ref a29]) [(.iconst 0, 1, 0)] (by decide +kernel) rfl ?_
      obtain ⟨h31, gh31, hf⟩ := Option.bind_eq_some_iff.mp hf
      refine C.ast gh31 (by decide +kernel) rfl ?_
      refine C.seg (pe := 126) (lv' := [(5, .ref a4), (0, .ref a0), (1, .int p1), (2, .int p2), (3, .int p3), (4, .int p4)]) (st' := [.ref a0, .ref a4]) [(.aload 5, 2, 0), (.aload_n 0, 1, 0)] (by decide +kernel) rfl ?_
      obtain ⟨x32, gx32, hf⟩ := Option.bind_eq_some_iff.mp hf
      refine C.rdI fr_225 gx32 (by decide +kernel) rfl ?_
      obtain ⟨h33, gh33, hf⟩ := Option.bind_eq_some_iff.mp hf
      refine C.putI fl_662 gh33 (by decide +kernel) rfl ?_
      refine C.seg (pe := 134) (lv' := [(5, .ref a4), (0, .ref a0), (1, .int p1), (2, .int p2), (3, .int p3), (4, .int p4)]) (st' := [.ref a0, .ref a0]) [(.aload_n 0, 1, 0), (.dup, 1, 0)] (by decide +kernel) rfl ?_
      obtain ⟨x34, gx34, hf⟩ := Option.bind_eq_some_iff.mp hf
      refine C.rdI fr_225 gx34 (by decide +kernel) rfl ?_
      refine C.seg (pe := 139) (lv' := [(5, .ref a4), (0, .ref a0), (1, .int p1), (2, .int p2), (3, .int p3), (4, .int p4)]) (st' := [.int (x34 + 1), .ref a0]) [(.iconst 1, 1, 1), (.iadd, 1, 0)] (by decide +kernel) rfl ?_
      obtain ⟨h35, gh35, hf⟩ := Option.bind_eq_some_iff.mp hf
      refine C.putI fl_225 gh35 (by decide +kernel) rfl ?_
      refine C.seg (pe := 143) (lv' := [(5, .ref a4), (0, .ref a0), (1, .int p1), (2, .int p2), (3, .int p3), (4, .int p4)]) (st' := [.ref a0]) [(.aload_n 0, 1, 0)] (by decide +kernel) rfl ?_
      obtain ⟨x36, gx36, hf⟩ := Option.bind_eq_some_iff.mp hf
      refine C.rdI fr_225 gx36 (by decide +kernel) rfl ?_
      refine C.seg (pe := 148) (lv' := [(5, .ref a4), (0, .ref a0), (1, .int p1), (2, .int p2), (3, .int p3), (4, .int p4)]) (st' := [.int (x36 - 1)]) [(.iconst 1, 1, 1), (.isub, 1, 0)] (by decide +kernel) rfl ?_
      cases hf
      exact C.retI rfl (by decide +kernel) ⟨rfl, rfl⟩
theorem o_X10_begin {a0 : Nat} {p1 : Int32} {p2 : Int32} {p3 : Int32} {p4 : Int32} {h : AH} {rr : Int32} {hr : AH} (hf : f_X10_begin a0 p1 p2 p3 p4 h = some (rr, hr)) : isO 10 h a0 = true := by
  unfold f_X10_begin at hf
  exact (ifO hf).1
/-! WallHouse$Works.setDay(IZ)V -/
def f_X10_setDay_69 (h : AH) : Option (AH) :=
  some h
set_option maxRecDepth 100000 in
set_option maxHeartbeats 4000000 in
theorem l_X10_setDay_69 {X : MX} {l : Launch} {G : GX} {h0 : AH} {hr : AH} (C : Cx X G RX10 cX10_setDay 3 none 1 40 h0) (C2 : Cy X l "setDay" []) (h : AH) (hf : f_X10_setDay_69 h = some hr) : V X G h0 (QV hr) 69 [] [] h := by
  unfold f_X10_setDay_69 at hf
  cases hf
  exact C.retV rfl (by decide +kernel) ⟨rfl, rfl⟩
def f_X10_setDay_11 (h : AH) : Option (AH) :=
  some h
set_option maxRecDepth 100000 in
set_option maxHeartbeats 4000000 in
theorem l_X10_setDay_11 {X : MX} {l : Launch} {G : GX} {h0 : AH} {hr : AH} (C : Cx X G RX10 cX10_setDay 3 none 1 40 h0) (C2 : Cy X l "setDay" []) (h : AH) (hf : f_X10_setDay_11 h = some hr) : V X G h0 (QV hr) 11 [] [] h := by
  unfold f_X10_setDay_11 at hf
  cases hf
  exact C.retV rfl (by decide +kernel) ⟨rfl, rfl⟩
def f_X10_setDay (a0 : Nat) (p1 : Int32) (p2 : Int32) (h : AH) : Option (AH) :=
  if isO 10 h a0 = true then
    if p1 < 0 then
      f_X10_setDay_11 h
    else
      if p1 ≤ 3649 then
        if p2 = 0 then
          (gA 10 h a0 11).bind fun a1 =>
          (aI 0 h a1 (p1 / 32)).bind fun x2 =>
          (sI 0 h a1 (p1 / 32) (x2 &&& ((1 <<< ((p1 - p1 / 32 * 32) &&& 31)) ^^^ (-1)))).bind fun h3 =>
          f_X10_setDay_69 h3
        else
          (gA 10 h a0 11).bind fun a4 =>
          (aI 0 h a4 (p1 / 32)).bind fun x5 =>
          (sI 0 h a4 (p1 / 32) (x5 ||| (1 <<< ((p1 - p1 / 32 * 32) &&& 31)))).bind fun h6 =>
          (gI 10 h6 a0 12).bind fun x7 =>
          (pI 10 h6 a0 12 (mxI x7 p1)).bind fun h8 =>
          f_X10_setDay_69 h8
      else
        f_X10_setDay_11 h
  else none
set_option maxRecDepth 100000 in
set_option maxHeartbeats 4000000 in
theorem w_X10_setDay {l : Launch} {G : GX} {a0 : Nat} {p1 : Int32} {p2 : Int32} {h : AH} {hr : AH} (hf : f_X10_setDay a0 p1 p2 h = some hr) : Ct l G yX10_setDay 1 40 [.ref a0, .int p1, .int p2] h (QV hr) := by
  unfold f_X10_setDay at hf
  obtain ⟨ho, hf⟩ := ifO hf
  refine Ct_of (own := RX10) (cc := cX10_setDay) (nL := 3) (ret := none) rfl rfl k_1407 (Nat.le_of_ble_eq_true rfl) (fun X C2 C => ?_)
  show V X G h (QV hr) 0 [(0, .ref a0), (1, .int p1), (2, .int p2)] [] h
  refine C.seg (pe := 1) (lv' := [(0, .ref a0), (1, .int p1), (2, .int p2)]) (st' := [.int p1]) [(.iload_n 1, 1, 0)] (by decide +kernel) rfl ?_
  refine C.if_lt (off := 10) (tgt := 11) (pf := 4) (by decide +kernel) (by decide) rfl (fun c11 => ?_) (fun c11 => ?_)
  · replace hf := ifp c11 hf
    refine Vsub [] rfl ?_
    exact l_X10_setDay_11 C C2 h hf
  · replace hf := ifn c11 hf
    refine C.seg (pe := 8) (lv' := [(0, .ref a0), (1, .int p1), (2, .int p2)]) (st' := [.int 3649, .int p1]) [(.iload_n 1, 1, 0), (.sipush 3649, 3, 3649)] (by decide +kernel) rfl ?_
    refine C.icmp_le (off := 4) (tgt := 12) (pf := 11) (by decide +kernel) (by decide) rfl (fun c10 => ?_) (fun c10 => ?_)
    · replace hf := ifp c10 hf
      refine C.seg (pe := 13) (lv' := [(0, .ref a0), (1, .int p1), (2, .int p2)]) (st' := [.int p2]) [(.iload_n 2, 1, 0)] (by decide +kernel) rfl ?_
      refine C.if_eq (off := 36) (tgt := 49) (pf := 16) (by decide +kernel) (by decide) rfl (fun c9 => ?_) (fun c9 => ?_)
      · replace hf := ifp c9 hf
        refine C.seg (pe := 50) (lv' := [(0, .ref a0), (1, .int p1), (2, .int p2)]) (st' := [.ref a0]) [(.aload_n 0, 1, 0)] (by decide +kernel) rfl ?_
        obtain ⟨a1, ga1, hf⟩ := Option.bind_eq_some_iff.mp hf
        refine C.rdA fr_236 ga1 (by decide +kernel) rfl ?_
        refine C.seg (pe := 56) (lv' := [(0, .ref a0), (1, .int p1), (2, .int p2)]) (st' := [.int 32, .int p1, .ref a1]) [(.iload_n 1, 1, 0), (.bipush 32, 2, 32)] (by decide +kernel) rfl ?_
        refine C.idiv (by decide +kernel) rfl (by decide) ?_
        refine C.seg (pe := 58) (lv' := [(0, .ref a0), (1, .int p1), (2, .int p2)]) (st' := [.int (p1 / 32), .ref a1, .int (p1 / 32), .ref a1]) [(.dup2, 1, 0)] (by decide +kernel) rfl ?_
        obtain ⟨x2, gx2, hf⟩ := Option.bind_eq_some_iff.mp hf
        refine C.ald 0 rfl gx2 (by decide +kernel) rfl ?_
        refine C.seg (pe := 63) (lv' := [(0, .ref a0), (1, .int p1), (2, .int p2)]) (st' := [.int 32, .int p1, .int 1, .int x2, .int (p1 / 32), .ref a1]) [(.iconst 1, 1, 1), (.iload_n 1, 1, 0), (.bipush 32, 2, 32)] (by decide +kernel) rfl ?_
        refine C.irem (by decide +kernel) rfl (by decide) ?_
        refine C.seg (pe := 68) (lv' := [(0, .ref a0), (1, .int p1), (2, .int p2)]) (st' := [.int (x2 &&& ((1 <<< ((p1 - p1 / 32 * 32) &&& 31)) ^^^ (-1))), .int (p1 / 32), .ref a1]) [(.ishl, 1, 0), (.iconst (-1), 1, (-1)), (.ixor, 1, 0), (.iand, 1, 0)] (by decide +kernel) rfl ?_
        obtain ⟨h3, gh3, hf⟩ := Option.bind_eq_some_iff.mp hf
        refine C.ast gh3 (by decide +kernel) rfl ?_
        refine Vsub [] rfl ?_
        exact l_X10_setDay_69 C C2 h3 hf
      · replace hf := ifn c9 hf
        refine C.seg (pe := 17) (lv' := [(0, .ref a0), (1, .int p1), (2, .int p2)]) (st' := [.ref a0]) [(.aload_n 0, 1, 0)] (by decide +kernel) rfl ?_
        obtain ⟨a4, ga4, hf⟩ := Option.bind_eq_some_iff.mp hf
        refine C.rdA fr_236 ga4 (by decide +kernel) rfl ?_
        refine C.seg (pe := 23) (lv' := [(0, .ref a0), (1, .int p1), (2, .int p2)]) (st' := [.int 32, .int p1, .ref a4]) [(.iload_n 1, 1, 0), (.bipush 32, 2, 32)] (by decide +kernel) rfl ?_
        refine C.idiv (by decide +kernel) rfl (by decide) ?_
        refine C.seg (pe := 25) (lv' := [(0, .ref a0), (1, .int p1), (2, .int p2)]) (st' := [.int (p1 / 32), .ref a4, .int (p1 / 32), .ref a4]) [(.dup2, 1, 0)] (by decide +kernel) rfl ?_
        obtain ⟨x5, gx5, hf⟩ := Option.bind_eq_some_iff.mp hf
        refine C.ald 0 rfl gx5 (by decide +kernel) rfl ?_
        refine C.seg (pe := 30) (lv' := [(0, .ref a0), (1, .int p1), (2, .int p2)]) (st' := [.int 32, .int p1, .int 1, .int x5, .int (p1 / 32), .ref a4]) [(.iconst 1, 1, 1), (.iload_n 1, 1, 0), (.bipush 32, 2, 32)] (by decide +kernel) rfl ?_
        refine C.irem (by decide +kernel) rfl (by decide) ?_
        refine C.seg (pe := 33) (lv' := [(0, .ref a0), (1, .int p1), (2, .int p2)]) (st' := [.int (x5 ||| (1 <<< ((p1 - p1 / 32 * 32) &&& 31))), .int (p1 / 32), .ref a4]) [(.ishl, 1, 0), (.ior, 1, 0)] (by decide +kernel) rfl ?_
        obtain ⟨h6, gh6, hf⟩ := Option.bind_eq_some_iff.mp hf
        refine C.ast gh6 (by decide +kernel) rfl ?_
        refine C.seg (pe := 36) (lv' := [(0, .ref a0), (1, .int p1), (2, .int p2)]) (st' := [.ref a0, .ref a0]) [(.aload_n 0, 1, 0), (.aload_n 0, 1, 0)] (by decide +kernel) rfl ?_
        obtain ⟨x7, gx7, hf⟩ := Option.bind_eq_some_iff.mp hf
        refine C.rdI fr_237 gx7 (by decide +kernel) rfl ?_
        refine C.seg (pe := 40) (lv' := [(0, .ref a0), (1, .int p1), (2, .int p2)]) (st' := [.int p1, .int x7, .ref a0]) [(.iload_n 1, 1, 0)] (by decide +kernel) rfl ?_
        refine C.mmax k_1394 k_636 k_137 k_637 (by omega) (by omega) (Nat.le_of_ble_eq_true rfl) (by decide +kernel) rfl ?_
        obtain ⟨h8, gh8, hf⟩ := Option.bind_eq_some_iff.mp hf
        refine C.putI fl_237 gh8 (by decide +kernel) rfl ?_
        refine C.goto (off := 23) (tgt := 69) (by decide +kernel) (by decide) ?_
        refine Vsub [] rfl ?_
        exact l_X10_setDay_69 C C2 h8 hf
    · replace hf := ifn c10 hf
      refine Vsub [] rfl ?_
      exact l_X10_setDay_11 C C2 h hf
theorem o_X10_setDay {a0 : Nat} {p1 : Int32} {p2 : Int32} {h : AH} {hr : AH} (hf : f_X10_setDay a0 p1 p2 h = some hr) : isO 10 h a0 = true := by
  unfold f_X10_setDay at hf
  exact (ifO hf).1
/-! WallHouse$Works.isGoodDay(I)Z -/
def f_X10_isGoodDay_36 (si0 : Int32) (h : AH) : Option (Int32 × AH) :=
  (ckZ si0).bind fun x1 =>
  some (x1, h)
set_option maxRecDepth 100000 in
set_option maxHeartbeats 4000000 in
theorem l_X10_isGoodDay_36 {X : MX} {l : Launch} {G : GX} {h0 : AH} {rr : Int32} {hr : AH} (C : Cx X G RX10 cX10_isGoodDay 2 (some .boolean) 0 0 h0) (C2 : Cy X l "isGoodDay" []) (si0 : Int32) (h : AH) (hf : f_X10_isGoodDay_36 si0 h = some (rr, hr)) : V X G h0 (QI rr hr) 36 [] [.int si0] h := by
  unfold f_X10_isGoodDay_36 at hf
  obtain ⟨x1, gx1, hf⟩ := Option.bind_eq_some_iff.mp hf
  have ex1 := ckZ_eq gx1
  subst ex1
  cases hf
  exact C.retZ rfl gx1 (by decide +kernel) ⟨rfl, rfl⟩
def f_X10_isGoodDay_35 (h : AH) : Option (Int32 × AH) :=
  f_X10_isGoodDay_36 0 h
set_option maxRecDepth 100000 in
set_option maxHeartbeats 4000000 in
theorem l_X10_isGoodDay_35 {X : MX} {l : Launch} {G : GX} {h0 : AH} {rr : Int32} {hr : AH} (C : Cx X G RX10 cX10_isGoodDay 2 (some .boolean) 0 0 h0) (C2 : Cy X l "isGoodDay" []) (h : AH) (hf : f_X10_isGoodDay_35 h = some (rr, hr)) : V X G h0 (QI rr hr) 35 [] [] h := by
  unfold f_X10_isGoodDay_35 at hf
  refine C.seg (pe := 36) (lv' := []) (st' := [.int 0]) [(.iconst 0, 1, 0)] (by decide +kernel) rfl ?_
  exact l_X10_isGoodDay_36 C C2 0 h hf
def f_X10_isGoodDay (a0 : Nat) (p1 : Int32) (h : AH) : Option (Int32 × AH) :=
  if isO 10 h a0 = true then
    if p1 < 0 then
      f_X10_isGoodDay_35 h
    else
      if 3649 < p1 then
        f_X10_isGoodDay_35 h
      else
        (gA 10 h a0 11).bind fun a1 =>
        (aI 0 h a1 (p1 / 32)).bind fun x2 =>
        if (x2 >>> ((p1 - p1 / 32 * 32) &&& 31)) &&& 1 = 1 then
          f_X10_isGoodDay_36 1 h
        else
          f_X10_isGoodDay_35 h
  else none
set_option maxRecDepth 100000 in
set_option maxHeartbeats 4000000 in
theorem w_X10_isGoodDay {l : Launch} {G : GX} {a0 : Nat} {p1 : Int32} {h : AH} {rr : Int32} {hr : AH} (hf : f_X10_isGoodDay a0 p1 h = some (rr, hr)) : Ct l G yX10_isGoodDay 0 0 [.ref a0, .int p1] h (QI rr hr) := by
  unfold f_X10_isGoodDay at hf
  obtain ⟨ho, hf⟩ := ifO hf
  refine Ct_of (own := RX10) (cc := cX10_isGoodDay) (nL := 2) (ret := (some .boolean)) rfl rfl k_1424 (Nat.le_of_ble_eq_true rfl) (fun X C2 C => ?_)
  show V X G h (QI rr hr) 0 [(0, .ref a0), (1, .int p1)] [] h
  refine C.seg (pe := 1) (lv' := [(0, .ref a0), (1, .int p1)]) (st' := [.int p1]) [(.iload_n 1, 1, 0)] (by decide +kernel) rfl ?_
  refine C.if_lt (off := 34) (tgt := 35) (pf := 4) (by decide +kernel) (by decide) rfl (fun c5 => ?_) (fun c5 => ?_)
  · replace hf := ifp c5 hf
    refine Vsub [] rfl ?_
    exact l_X10_isGoodDay_35 C C2 h hf
  · replace hf := ifn c5 hf
    refine C.seg (pe := 8) (lv' := [(0, .ref a0), (1, .int p1)]) (st' := [.int 3649, .int p1]) [(.iload_n 1, 1, 0), (.sipush 3649, 3, 3649)] (by decide +kernel) rfl ?_
    refine C.icmp_gt (off := 27) (tgt := 35) (pf := 11) (by decide +kernel) (by decide) rfl (fun c4 => ?_) (fun c4 => ?_)
    · replace hf := ifp c4 hf
      refine Vsub [] rfl ?_
      exact l_X10_isGoodDay_35 C C2 h hf
    · replace hf := ifn c4 hf
      refine C.seg (pe := 12) (lv' := [(0, .ref a0), (1, .int p1)]) (st' := [.ref a0]) [(.aload_n 0, 1, 0)] (by decide +kernel) rfl ?_
      obtain ⟨a1, ga1, hf⟩ := Option.bind_eq_some_iff.mp hf
      refine C.rdA fr_236 ga1 (by decide +kernel) rfl ?_
      refine C.seg (pe := 18) (lv' := [(0, .ref a0), (1, .int p1)]) (st' := [.int 32, .int p1, .ref a1]) [(.iload_n 1, 1, 0), (.bipush 32, 2, 32)] (by decide +kernel) rfl ?_
      refine C.idiv (by decide +kernel) rfl (by decide) ?_
      obtain ⟨x2, gx2, hf⟩ := Option.bind_eq_some_iff.mp hf
      refine C.ald 0 rfl gx2 (by decide +kernel) rfl ?_
      refine C.seg (pe := 23) (lv' := [(0, .ref a0), (1, .int p1)]) (st' := [.int 32, .int p1, .int x2]) [(.iload_n 1, 1, 0), (.bipush 32, 2, 32)] (by decide +kernel) rfl ?_
      refine C.irem (by decide +kernel) rfl (by decide) ?_
      refine C.seg (pe := 28) (lv' := [(0, .ref a0), (1, .int p1)]) (st' := [.int 1, .int ((x2 >>> ((p1 - p1 / 32 * 32) &&& 31)) &&& 1)]) [(.ishr, 1, 0), (.iconst 1, 1, 1), (.iand, 1, 0), (.iconst 1, 1, 1)] (by decide +kernel) rfl ?_
      refine C.icmp_ne (off := 7) (tgt := 35) (pf := 31) (by decide +kernel) (by decide) rfl (fun c3 => ?_) (fun c3 => ?_)
      · replace hf := ifn c3 hf
        refine Vsub [] rfl ?_
        exact l_X10_isGoodDay_35 C C2 h hf
      · replace hf := ifp c3 hf
        refine C.seg (pe := 32) (lv' := [(0, .ref a0), (1, .int p1)]) (st' := [.int 1]) [(.iconst 1, 1, 1)] (by decide +kernel) rfl ?_
        refine C.goto (off := 4) (tgt := 36) (by decide +kernel) (by decide) ?_
        refine Vsub [] rfl ?_
        exact l_X10_isGoodDay_36 C C2 1 h hf
theorem o_X10_isGoodDay {a0 : Nat} {p1 : Int32} {h : AH} {rr : Int32} {hr : AH} (hf : f_X10_isGoodDay a0 p1 h = some (rr, hr)) : isO 10 h a0 = true := by
  unfold f_X10_isGoodDay at hf
  exact (ifO hf).1
/-! WallHouse$Works.bringOn([I)V -/
def f_X10_bringOn_91 (h : AH) : Option (AH) :=
  some h
set_option maxRecDepth 100000 in
set_option maxHeartbeats 4000000 in
theorem l_X10_bringOn_91 {X : MX} {l : Launch} {G : GX} {h0 : AH} {hr : AH} (C : Cx X G RX10 cX10_bringOn 5 none 0 0 h0) (C2 : Cy X l "bringOn" []) (h : AH) (hf : f_X10_bringOn_91 h = some hr) : V X G h0 (QV hr) 91 [] [] h := by
  unfold f_X10_bringOn_91 at hf
  cases hf
  exact C.retV rfl (by decide +kernel) ⟨rfl, rfl⟩
def f_X10_bringOn_85 (k7 : Nat → Nat → Int32 → Int32 → AH → Option (AH)) (r0 : Nat) (r1 : Nat) (i2 : Int32) (i3 : Int32) (h : AH) : Option (AH) :=
  k7 r0 r1 i2 (i3 + 1) h
set_option maxRecDepth 100000 in
set_option maxHeartbeats 4000000 in
theorem l_X10_bringOn_85 {X : MX} {l : Launch} {G : GX} {h0 : AH} {hr : AH} (C : Cx X G RX10 cX10_bringOn 5 none 0 0 h0) (C2 : Cy X l "bringOn" []) {k7 : Nat → Nat → Int32 → Int32 → AH → Option (AH)} (hk7 : ∀ (r0 : Nat) (r1 : Nat) (i2 : Int32) (i3 : Int32) (h : AH), k7 r0 r1 i2 i3 h = some hr → V X G h0 (QV hr) 7 [(0, .ref r0), (1, .ref r1), (2, .int i2), (3, .int i3)] [] h) (r0 : Nat) (r1 : Nat) (i2 : Int32) (i3 : Int32) (h : AH) (hf : f_X10_bringOn_85 k7 r0 r1 i2 i3 h = some hr) : V X G h0 (QV hr) 85 [(0, .ref r0), (1, .ref r1), (2, .int i2), (3, .int i3)] [] h := by
  unfold f_X10_bringOn_85 at hf
  refine C.seg (pe := 88) (lv' := [(3, .int (i3 + 1)), (0, .ref r0), (1, .ref r1), (2, .int i2)]) (st' := []) [(.iinc 3 1, 3, 1)] (by decide +kernel) rfl ?_
  refine C.goto (off := (-81)) (tgt := 7) (by decide +kernel) (by decide) ?_
  refine Vsub [1, 2, 3, 0] rfl ?_
  exact hk7 r0 r1 i2 (i3 + 1) h hf
def f_X10_bringOn_54 (k7 : Nat → Nat → Int32 → Int32 → AH → Option (AH)) (r0 : Nat) (r1 : Nat) (i2 : Int32) (i3 : Int32) (si0 : Int32) (h : AH) : Option (AH) :=
  if si0 = 0 then
    (aI 0 h r1 i3).bind fun x4 =>
    (sI 0 h r1 i3 (x4 + 1)).bind fun h5 =>
    f_X10_bringOn_85 k7 r0 r1 i2 i3 h5
  else
    if i2 ≤ 0 then
      f_X10_bringOn_85 k7 r0 r1 i2 i3 h
    else
      (aI 0 h r1 i3).bind fun x1 =>
      (sI 0 h r1 i3 (x1 + 1)).bind fun h2 =>
      f_X10_bringOn_85 k7 r0 r1 (i2 + (-1)) i3 h2
set_option maxRecDepth 100000 in
set_option maxHeartbeats 4000000 in
theorem l_X10_bringOn_54 {X : MX} {l : Launch} {G : GX} {h0 : AH} {hr : AH} (C : Cx X G RX10 cX10_bringOn 5 none 0 0 h0) (C2 : Cy X l "bringOn" []) {k7 : Nat → Nat → Int32 → Int32 → AH → Option (AH)} (hk7 : ∀ (r0 : Nat) (r1 : Nat) (i2 : Int32) (i3 : Int32) (h : AH), k7 r0 r1 i2 i3 h = some hr → V X G h0 (QV hr) 7 [(0, .ref r0), (1, .ref r1), (2, .int i2), (3, .int i3)] [] h) (r0 : Nat) (r1 : Nat) (i2 : Int32) (i3 : Int32) (si0 : Int32) (h : AH) (hf : f_X10_bringOn_54 k7 r0 r1 i2 i3 si0 h = some hr) : V X G h0 (QV hr) 54 [(0, .ref r0), (1, .ref r1), (2, .int i2), (3, .int i3)] [.int si0] h := by
  unfold f_X10_bringOn_54 at hf
  refine C.seg (pe := 58) (lv' := [(4, .int si0), (0, .ref r0), (1, .ref r1), (2, .int i2), (3, .int i3)]) (st' := [.int si0]) [(.istore 4, 2, 0), (.iload 4, 2, 0)] (by decide +kernel) rfl ?_
  refine C.if_ne (off := 13) (tgt := 71) (pf := 61) (by decide +kernel) (by decide) rfl (fun c6 => ?_) (fun c6 => ?_)
  · replace hf := ifn c6 hf
    refine C.seg (pe := 72) (lv' := [(4, .int si0), (0, .ref r0), (1, .ref r1), (2, .int i2), (3, .int i3)]) (st' := [.int i2]) [(.iload_n 2, 1, 0)] (by decide +kernel) rfl ?_
    refine C.if_le (off := 13) (tgt := 85) (pf := 75) (by decide +kernel) (by decide) rfl (fun c3 => ?_) (fun c3 => ?_)
    · replace hf := ifp c3 hf
      refine Vsub [1, 2, 3, 4] rfl ?_
      exact l_X10_bringOn_85 C C2 hk7 r0 r1 i2 i3 h hf
    · replace hf := ifn c3 hf
      refine C.seg (pe := 81) (lv' := [(2, .int (i2 + (-1))), (4, .int si0), (0, .ref r0), (1, .ref r1), (3, .int i3)]) (st' := [.int i3, .ref r1, .int i3, .ref r1]) [(.iinc 2 (-1), 3, (-1)), (.aload_n 1, 1, 0), (.iload_n 3, 1, 0), (.dup2, 1, 0)] (by decide +kernel) rfl ?_
      obtain ⟨x1, gx1, hf⟩ := Option.bind_eq_some_iff.mp hf
      refine C.ald 0 rfl gx1 (by decide +kernel) rfl ?_
      refine C.seg (pe := 84) (lv' := [(2, .int (i2 + (-1))), (4, .int si0), (0, .ref r0), (1, .ref r1), (3, .int i3)]) (st' := [.int (x1 + 1), .int i3, .ref r1]) [(.iconst 1, 1, 1), (.iadd, 1, 0)] (by decide +kernel) rfl ?_
      obtain ⟨h2, gh2, hf⟩ := Option.bind_eq_some_iff.mp hf
      refine C.ast gh2 (by decide +kernel) rfl ?_
      refine Vsub [2, 3, 0, 4] rfl ?_
      exact l_X10_bringOn_85 C C2 hk7 r0 r1 (i2 + (-1)) i3 h2 hf
  · replace hf := ifp c6 hf
    refine C.seg (pe := 64) (lv' := [(4, .int si0), (0, .ref r0), (1, .ref r1), (2, .int i2), (3, .int i3)]) (st' := [.int i3, .ref r1, .int i3, .ref r1]) [(.aload_n 1, 1, 0), (.iload_n 3, 1, 0), (.dup2, 1, 0)] (by decide +kernel) rfl ?_
    obtain ⟨x4, gx4, hf⟩ := Option.bind_eq_some_iff.mp hf
    refine C.ald 0 rfl gx4 (by decide +kernel) rfl ?_
    refine C.seg (pe := 67) (lv' := [(4, .int si0), (0, .ref r0), (1, .ref r1), (2, .int i2), (3, .int i3)]) (st' := [.int (x4 + 1), .int i3, .ref r1]) [(.iconst 1, 1, 1), (.iadd, 1, 0)] (by decide +kernel) rfl ?_
    obtain ⟨h5, gh5, hf⟩ := Option.bind_eq_some_iff.mp hf
    refine C.ast gh5 (by decide +kernel) rfl ?_
    refine C.goto (off := 17) (tgt := 85) (by decide +kernel) (by decide) ?_
    refine Vsub [1, 2, 3, 4] rfl ?_
    exact l_X10_bringOn_85 C C2 hk7 r0 r1 i2 i3 h5 hf
def f_X10_bringOn_49 (k7 : Nat → Nat → Int32 → Int32 → AH → Option (AH)) (r0 : Nat) (r1 : Nat) (i2 : Int32) (i3 : Int32) (h : AH) : Option (AH) :=
  f_X10_bringOn_54 k7 r0 r1 i2 i3 1 h
set_option maxRecDepth 100000 in
set_option maxHeartbeats 4000000 in
theorem l_X10_bringOn_49 {X : MX} {l : Launch} {G : GX} {h0 : AH} {hr : AH} (C : Cx X G RX10 cX10_bringOn 5 none 0 0 h0) (C2 : Cy X l "bringOn" []) {k7 : Nat → Nat → Int32 → Int32 → AH → Option (AH)} (hk7 : ∀ (r0 : Nat) (r1 : Nat) (i2 : Int32) (i3 : Int32) (h : AH), k7 r0 r1 i2 i3 h = some hr → V X G h0 (QV hr) 7 [(0, .ref r0), (1, .ref r1), (2, .int i2), (3, .int i3)] [] h) (r0 : Nat) (r1 : Nat) (i2 : Int32) (i3 : Int32) (h : AH) (hf : f_X10_bringOn_49 k7 r0 r1 i2 i3 h = some hr) : V X G h0 (QV hr) 49 [(0, .ref r0), (1, .ref r1), (2, .int i2), (3, .int i3)] [] h := by
  unfold f_X10_bringOn_49 at hf
  refine C.seg (pe := 50) (lv' := [(0, .ref r0), (1, .ref r1), (2, .int i2), (3, .int i3)]) (st' := [.int 1]) [(.iconst 1, 1, 1)] (by decide +kernel) rfl ?_
  refine C.goto (off := 4) (tgt := 54) (by decide +kernel) (by decide) ?_
  exact l_X10_bringOn_54 C C2 hk7 r0 r1 i2 i3 1 h hf
def f_X10_bringOn_7 : Nat → Nat → Nat → Int32 → Int32 → AH → Option (AH)
  | 0, _, _, _, _, _ => none
  | n + 1, r0, r1, i2, i3, h =>
    (gI 10 h r0 1).bind fun x1 =>
    if x1 ≤ i3 then
      f_X10_bringOn_91 h
    else
      (aN h r1).bind fun x2 =>
      if x2 ≤ i3 then
        f_X10_bringOn_91 h
      else
        (aI 0 h r1 i3).bind fun x3 =>
        (gA 10 h r0 5).bind fun a4 =>
        (aI 0 h a4 i3).bind fun x5 =>
        if x3 < x5 then
          (aI 0 h r1 i3).bind fun x6 =>
          if x6 = 0 then
            f_X10_bringOn_49 (f_X10_bringOn_7 n) r0 r1 i2 i3 h
          else
            (aI 0 h r1 i3).bind fun x7 =>
            if x7 < 3 then
              f_X10_bringOn_54 (f_X10_bringOn_7 n) r0 r1 i2 i3 0 h
            else
              f_X10_bringOn_49 (f_X10_bringOn_7 n) r0 r1 i2 i3 h
        else
          f_X10_bringOn_85 (f_X10_bringOn_7 n) r0 r1 i2 i3 h
set_option maxRecDepth 100000 in
set_option maxHeartbeats 4000000 in
theorem l_X10_bringOn_7 {X : MX} {l : Launch} {G : GX} {h0 : AH} {hr : AH} (C : Cx X G RX10 cX10_bringOn 5 none 0 0 h0) (C2 : Cy X l "bringOn" []) : ∀ (n : Nat) (r0 : Nat) (r1 : Nat) (i2 : Int32) (i3 : Int32) (h : AH), f_X10_bringOn_7 n r0 r1 i2 i3 h = some hr → V X G h0 (QV hr) 7 [(0, .ref r0), (1, .ref r1), (2, .int i2), (3, .int i3)] [] h := by
  intro n
  induction n with
  | zero => intro r0 r1 i2 i3 h hf; rw [f_X10_bringOn_7] at hf; cases hf
  | succ n ih =>
    intro r0 r1 i2 i3 h hf
    rw [f_X10_bringOn_7] at hf
    refine C.seg (pe := 9) (lv' := [(0, .ref r0), (1, .ref r1), (2, .int i2), (3, .int i3)]) (st' := [.ref r0, .int i3]) [(.iload_n 3, 1, 0), (.aload_n 0, 1, 0)] (by decide +kernel) rfl ?_
    obtain ⟨x1, gx1, hf⟩ := Option.bind_eq_some_iff.mp hf
    refine C.rdI fr_225 gx1 (by decide +kernel) rfl ?_
    refine C.icmp_ge (off := 79) (tgt := 91) (pf := 15) (by decide +kernel) (by decide) rfl (fun c12 => ?_) (fun c12 => ?_)
    · replace hf := ifp c12 hf
      refine Vsub [] rfl ?_
      exact l_X10_bringOn_91 C C2 h hf
    · replace hf := ifn c12 hf
      refine C.seg (pe := 17) (lv' := [(0, .ref r0), (1, .ref r1), (2, .int i2), (3, .int i3)]) (st' := [.ref r1, .int i3]) [(.iload_n 3, 1, 0), (.aload_n 1, 1, 0)] (by decide +kernel) rfl ?_
      obtain ⟨x2, gx2, hf⟩ := Option.bind_eq_some_iff.mp hf
      refine C.alen gx2 (by decide +kernel) rfl ?_
      refine C.icmp_ge (off := 73) (tgt := 91) (pf := 21) (by decide +kernel) (by decide) rfl (fun c11 => ?_) (fun c11 => ?_)
      · replace hf := ifp c11 hf
        refine Vsub [] rfl ?_
        exact l_X10_bringOn_91 C C2 h hf
      · replace hf := ifn c11 hf
        refine C.seg (pe := 23) (lv' := [(0, .ref r0), (1, .ref r1), (2, .int i2), (3, .int i3)]) (st' := [.int i3, .ref r1]) [(.aload_n 1, 1, 0), (.iload_n 3, 1, 0)] (by decide +kernel) rfl ?_
        obtain ⟨x3, gx3, hf⟩ := Option.bind_eq_some_iff.mp hf
        refine C.ald 0 rfl gx3 (by decide +kernel) rfl ?_
        refine C.seg (pe := 25) (lv' := [(0, .ref r0), (1, .ref r1), (2, .int i2), (3, .int i3)]) (st' := [.ref r0, .int x3]) [(.aload_n 0, 1, 0)] (by decide +kernel) rfl ?_
        obtain ⟨a4, ga4, hf⟩ := Option.bind_eq_some_iff.mp hf
        refine C.rdA fr_230 ga4 (by decide +kernel) rfl ?_
        refine C.seg (pe := 29) (lv' := [(0, .ref r0), (1, .ref r1), (2, .int i2), (3, .int i3)]) (st' := [.int i3, .ref a4, .int x3]) [(.iload_n 3, 1, 0)] (by decide +kernel) rfl ?_
        obtain ⟨x5, gx5, hf⟩ := Option.bind_eq_some_iff.mp hf
        refine C.ald 0 rfl gx5 (by decide +kernel) rfl ?_
        refine C.icmp_lt (off := 6) (tgt := 36) (pf := 33) (by decide +kernel) (by decide) rfl (fun c10 => ?_) (fun c10 => ?_)
        · replace hf := ifp c10 hf
          refine C.seg (pe := 38) (lv' := [(0, .ref r0), (1, .ref r1), (2, .int i2), (3, .int i3)]) (st' := [.int i3, .ref r1]) [(.aload_n 1, 1, 0), (.iload_n 3, 1, 0)] (by decide +kernel) rfl ?_
          obtain ⟨x6, gx6, hf⟩ := Option.bind_eq_some_iff.mp hf
          refine C.ald 0 rfl gx6 (by decide +kernel) rfl ?_
          refine C.if_eq (off := 10) (tgt := 49) (pf := 42) (by decide +kernel) (by decide) rfl (fun c9 => ?_) (fun c9 => ?_)
          · replace hf := ifp c9 hf
            exact l_X10_bringOn_49 C C2 ih r0 r1 i2 i3 h hf
          · replace hf := ifn c9 hf
            refine C.seg (pe := 44) (lv' := [(0, .ref r0), (1, .ref r1), (2, .int i2), (3, .int i3)]) (st' := [.int i3, .ref r1]) [(.aload_n 1, 1, 0), (.iload_n 3, 1, 0)] (by decide +kernel) rfl ?_
            obtain ⟨x7, gx7, hf⟩ := Option.bind_eq_some_iff.mp hf
            refine C.ald 0 rfl gx7 (by decide +kernel) rfl ?_
            refine C.seg (pe := 46) (lv' := [(0, .ref r0), (1, .ref r1), (2, .int i2), (3, .int i3)]) (st' := [.int 3, .int x7]) [(.iconst 3, 1, 3)] (by decide +kernel) rfl ?_
            refine C.icmp_lt (off := 7) (tgt := 53) (pf := 49) (by decide +kernel) (by decide) rfl (fun c8 => ?_) (fun c8 => ?_)
            · replace hf := ifp c8 hf
              refine C.seg (pe := 54) (lv' := [(0, .ref r0), (1, .ref r1), (2, .int i2), (3, .int i3)]) (st' := [.int 0]) [(.iconst 0, 1, 0)] (by decide +kernel) rfl ?_
              exact l_X10_bringOn_54 C C2 ih r0 r1 i2 i3 0 h hf
            · replace hf := ifn c8 hf
              exact l_X10_bringOn_49 C C2 ih r0 r1 i2 i3 h hf
        · replace hf := ifn c10 hf
          refine C.goto (off := 52) (tgt := 85) (by decide +kernel) (by decide) ?_
          exact l_X10_bringOn_85 C C2 ih r0 r1 i2 i3 h hf
def f_X10_bringOn (a0 : Nat) (p1 : Nat) (h : AH) : Option (AH) :=
  if isO 10 h a0 = true then
    (gI 10 h a0 13).bind fun x1 =>
    f_X10_bringOn_7 FU a0 p1 x1 0 h
  else none
set_option maxRecDepth 100000 in
set_option maxHeartbeats 4000000 in
theorem w_X10_bringOn {l : Launch} {G : GX} {a0 : Nat} {p1 : Nat} {h : AH} {hr : AH} (hf : f_X10_bringOn a0 p1 h = some hr) : Ct l G yX10_bringOn 0 0 [.ref a0, .ref p1] h (QV hr) := by
  unfold f_X10_bringOn at hf
  obtain ⟨ho, hf⟩ := ifO hf
  refine Ct_of (own := RX10) (cc := cX10_bringOn) (nL := 5) (ret := none) rfl rfl k_1428 (Nat.le_of_ble_eq_true rfl) (fun X C2 C => ?_)
  show V X G h (QV hr) 0 [(0, .ref a0), (1, .ref p1)] [] h
  refine C.seg (pe := 1) (lv' := [(0, .ref a0), (1, .ref p1)]) (st' := [.ref a0]) [(.aload_n 0, 1, 0)] (by decide +kernel) rfl ?_
  obtain ⟨x1, gx1, hf⟩ := Option.bind_eq_some_iff.mp hf
  refine C.rdI fr_238 gx1 (by decide +kernel) rfl ?_
  refine C.seg (pe := 7) (lv' := [(3, .int 0), (2, .int x1), (0, .ref a0), (1, .ref p1)]) (st' := []) [(.istore_n 2, 1, 0), (.iconst 0, 1, 0), (.istore_n 3, 1, 0)] (by decide +kernel) rfl ?_
  refine Vsub [2, 3, 1, 0] rfl ?_
  exact l_X10_bringOn_7 C C2 FU a0 p1 x1 0 h hf
theorem o_X10_bringOn {a0 : Nat} {p1 : Nat} {h : AH} {hr : AH} (hf : f_X10_bringOn a0 p1 h = some hr) : isO 10 h a0 = true := by
  unfold f_X10_bringOn at hf
  exact (ifO hf).1
/-! WallHouse$Works.foretoldEnd(I)I -/
def f_X10_foretoldEnd_76 (k52 : Nat → Int32 → Int32 → AH → Option (Int32 × AH)) (r0 : Nat) (i1 : Int32) (i2 : Int32) (h : AH) : Option (Int32 × AH) :=
  (gA 10 h r0 7).bind fun a1 =>
  (aI 0 h a1 i1).bind fun x2 =>
  (gA 10 h r0 5).bind fun a3 =>
  (aI 0 h a3 i1).bind fun x4 =>
  if x2 < x4 then
    k52 r0 i1 (i2 + 1) h
  else
    some (i2, h)
set_option maxRecDepth 100000 in
set_option maxHeartbeats 4000000 in
theorem l_X10_foretoldEnd_76 {X : MX} {l : Launch} {G : GX} {h0 : AH} {rr : Int32} {hr : AH} (C : Cx X G RX10 cX10_foretoldEnd 3 (some .int) 1 80 h0) (C2 : Cy X l "foretoldEnd" []) {k52 : Nat → Int32 → Int32 → AH → Option (Int32 × AH)} (hk52 : ∀ (r0 : Nat) (i1 : Int32) (i2 : Int32) (h : AH), k52 r0 i1 i2 h = some (rr, hr) → V X G h0 (QI rr hr) 52 [(0, .ref r0), (1, .int i1), (2, .int i2)] [] h) (r0 : Nat) (i1 : Int32) (i2 : Int32) (h : AH) (hf : f_X10_foretoldEnd_76 k52 r0 i1 i2 h = some (rr, hr)) : V X G h0 (QI rr hr) 76 [(0, .ref r0), (1, .int i1), (2, .int i2)] [] h := by
  unfold f_X10_foretoldEnd_76 at hf
  refine C.seg (pe := 77) (lv' := [(0, .ref r0), (1, .int i1), (2, .int i2)]) (st' := [.ref r0]) [(.aload_n 0, 1, 0)] (by decide +kernel) rfl ?_
  obtain ⟨a1, ga1, hf⟩ := Option.bind_eq_some_iff.mp hf
  refine C.rdA fr_232 ga1 (by decide +kernel) rfl ?_
  refine C.seg (pe := 81) (lv' := [(0, .ref r0), (1, .int i1), (2, .int i2)]) (st' := [.int i1, .ref a1]) [(.iload_n 1, 1, 0)] (by decide +kernel) rfl ?_
  obtain ⟨x2, gx2, hf⟩ := Option.bind_eq_some_iff.mp hf
  refine C.ald 0 rfl gx2 (by decide +kernel) rfl ?_
  refine C.seg (pe := 83) (lv' := [(0, .ref r0), (1, .int i1), (2, .int i2)]) (st' := [.ref r0, .int x2]) [(.aload_n 0, 1, 0)] (by decide +kernel) rfl ?_
  obtain ⟨a3, ga3, hf⟩ := Option.bind_eq_some_iff.mp hf
  refine C.rdA fr_230 ga3 (by decide +kernel) rfl ?_
  refine C.seg (pe := 87) (lv' := [(0, .ref r0), (1, .int i1), (2, .int i2)]) (st' := [.int i1, .ref a3, .int x2]) [(.iload_n 1, 1, 0)] (by decide +kernel) rfl ?_
  obtain ⟨x4, gx4, hf⟩ := Option.bind_eq_some_iff.mp hf
  refine C.ald 0 rfl gx4 (by decide +kernel) rfl ?_
  refine C.icmp_lt (off := 5) (tgt := 93) (pf := 91) (by decide +kernel) (by decide) rfl (fun c5 => ?_) (fun c5 => ?_)
  · replace hf := ifp c5 hf
    refine C.seg (pe := 96) (lv' := [(2, .int (i2 + 1)), (0, .ref r0), (1, .int i1)]) (st' := []) [(.iinc 2 1, 3, 1)] (by decide +kernel) rfl ?_
    refine C.goto (off := (-44)) (tgt := 52) (by decide +kernel) (by decide) ?_
    refine Vsub [1, 2, 0] rfl ?_
    exact hk52 r0 i1 (i2 + 1) h hf
  · replace hf := ifn c5 hf
    refine C.seg (pe := 92) (lv' := [(0, .ref r0), (1, .int i1), (2, .int i2)]) (st' := [.int i2]) [(.iload_n 2, 1, 0)] (by decide +kernel) rfl ?_
    cases hf
    exact C.retI rfl (by decide +kernel) ⟨rfl, rfl⟩
def f_X10_foretoldEnd_52 : Nat → Nat → Int32 → Int32 → AH → Option (Int32 × AH)
  | 0, _, _, _, _ => none
  | n + 1, r0, i1, i2, h =>
    (gI 10 h r0 12).bind fun x1 =>
    if x1 < i2 then
      some ((-2), h)
    else
      b2 (f_X10_isGoodDay r0 i2 h) fun x2 h3 =>
      if x2 = 0 then
        f_X10_foretoldEnd_76 (f_X10_foretoldEnd_52 n) r0 i1 i2 h3
      else
        (gA 10 h3 r0 7).bind fun a4 =>
        (f_X10_bringOn r0 a4 h3).bind fun h5 =>
        f_X10_foretoldEnd_76 (f_X10_foretoldEnd_52 n) r0 i1 i2 h5
set_option maxRecDepth 100000 in
set_option maxHeartbeats 4000000 in
theorem l_X10_foretoldEnd_52 {X : MX} {l : Launch} {G : GX} {h0 : AH} {rr : Int32} {hr : AH} (C : Cx X G RX10 cX10_foretoldEnd 3 (some .int) 1 80 h0) (C2 : Cy X l "foretoldEnd" []) : ∀ (n : Nat) (r0 : Nat) (i1 : Int32) (i2 : Int32) (h : AH), f_X10_foretoldEnd_52 n r0 i1 i2 h = some (rr, hr) → V X G h0 (QI rr hr) 52 [(0, .ref r0), (1, .int i1), (2, .int i2)] [] h := by
  intro n
  induction n with
  | zero => intro r0 i1 i2 h hf; rw [f_X10_foretoldEnd_52] at hf; cases hf
  | succ n ih =>
    intro r0 i1 i2 h hf
    rw [f_X10_foretoldEnd_52] at hf
    refine C.seg (pe := 54) (lv' := [(0, .ref r0), (1, .int i1), (2, .int i2)]) (st' := [.ref r0, .int i2]) [(.iload_n 2, 1, 0), (.aload_n 0, 1, 0)] (by decide +kernel) rfl ?_
    obtain ⟨x1, gx1, hf⟩ := Option.bind_eq_some_iff.mp hf
    refine C.rdI fr_237 gx1 (by decide +kernel) rfl ?_
    refine C.icmp_gt (off := 42) (tgt := 99) (pf := 60) (by decide +kernel) (by decide) rfl (fun c7 => ?_) (fun c7 => ?_)
    · replace hf := ifp c7 hf
      refine C.seg (pe := 101) (lv' := [(0, .ref r0), (1, .int i1), (2, .int i2)]) (st' := [.int (-2)]) [(.bipush (-2), 2, (-2))] (by decide +kernel) rfl ?_
      cases hf
      exact C.retI rfl (by decide +kernel) ⟨rfl, rfl⟩
    · replace hf := ifn c7 hf
      refine C.seg (pe := 62) (lv' := [(0, .ref r0), (1, .int i1), (2, .int i2)]) (st' := [.int i2, .ref r0]) [(.aload_n 0, 1, 0), (.iload_n 2, 1, 0)] (by decide +kernel) rfl ?_
      obtain ⟨x2, h3, gx2, hf⟩ := b2_some hf
      refine C.callVr C2 [.int i2] [] mv_1421 rfl (o_X10_isGoodDay gx2) (w_X10_isGoodDay gx2) (by omega) (by omega) (Nat.le_of_ble_eq_true rfl) (by decide +kernel) rfl ?_
      refine C.if_eq (off := 11) (tgt := 76) (pf := 68) (by decide +kernel) (by decide) rfl (fun c6 => ?_) (fun c6 => ?_)
      · replace hf := ifp c6 hf
        exact l_X10_foretoldEnd_76 C C2 ih r0 i1 i2 h3 hf
      · replace hf := ifn c6 hf
        refine C.seg (pe := 70) (lv' := [(0, .ref r0), (1, .int i1), (2, .int i2)]) (st' := [.ref r0, .ref r0]) [(.aload_n 0, 1, 0), (.aload_n 0, 1, 0)] (by decide +kernel) rfl ?_
        obtain ⟨a4, ga4, hf⟩ := Option.bind_eq_some_iff.mp hf
        refine C.rdA fr_232 ga4 (by decide +kernel) rfl ?_
        obtain ⟨h5, gh5, hf⟩ := Option.bind_eq_some_iff.mp hf
        refine C.callVr C2 [.ref a4] [] mv_1425 rfl (o_X10_bringOn gh5) (w_X10_bringOn gh5) (by omega) (by omega) (Nat.le_of_ble_eq_true rfl) (by decide +kernel) rfl ?_
        exact l_X10_foretoldEnd_76 C C2 ih r0 i1 i2 h5 hf
def f_X10_foretoldEnd (a0 : Nat) (p1 : Int32) (h : AH) : Option (Int32 × AH) :=
  if isO 10 h a0 = true then
    b2 (f_X10_has a0 p1 h) fun x1 h2 =>
    if x1 = 0 then
      some ((-1), h2)
    else
      (gA 10 h2 a0 6).bind fun a3 =>
      (aI 0 h2 a3 p1).bind fun x4 =>
      (gA 10 h2 a0 5).bind fun a5 =>
      (aI 0 h2 a5 p1).bind fun x6 =>
      if x4 < x6 then
        (gA 10 h2 a0 6).bind fun a7 =>
        (gA 10 h2 a0 7).bind fun a8 =>
        (cpI 0 h2 a7 0 a8 0 40).bind fun h9 =>
        (gI 10 h9 a0 14).bind fun x10 =>
        f_X10_foretoldEnd_52 FU a0 p1 x10 h9
      else
        (gA 10 h2 a0 8).bind fun a11 =>
        (aI 0 h2 a11 p1).bind fun x12 =>
        some (x12, h2)
  else none
set_option maxRecDepth 100000 in
set_option maxHeartbeats 4000000 in
theorem w_X10_foretoldEnd {l : Launch} {G : GX} {a0 : Nat} {p1 : Int32} {h : AH} {rr : Int32} {hr : AH} (hf : f_X10_foretoldEnd a0 p1 h = some (rr, hr)) : Ct l G yX10_foretoldEnd 1 80 [.ref a0, .int p1] h (QI rr hr) := by
  unfold f_X10_foretoldEnd at hf
  obtain ⟨ho, hf⟩ := ifO hf
  refine Ct_of (own := RX10) (cc := cX10_foretoldEnd) (nL := 3) (ret := (some .int)) rfl rfl k_1419 (Nat.le_of_ble_eq_true rfl) (fun X C2 C => ?_)
  show V X G h (QI rr hr) 0 [(0, .ref a0), (1, .int p1)] [] h
  refine C.seg (pe := 2) (lv' := [(0, .ref a0), (1, .int p1)]) (st' := [.int p1, .ref a0]) [(.aload_n 0, 1, 0), (.iload_n 1, 1, 0)] (by decide +kernel) rfl ?_
  obtain ⟨x1, h2, gx1, hf⟩ := b2_some hf
  refine C.callVr C2 [.int p1] [] mv_1339 rfl (o_X10_has gx1) (w_X10_has gx1) (by omega) (by omega) (Nat.le_of_ble_eq_true rfl) (by decide +kernel) rfl ?_
  refine C.if_ne (off := 5) (tgt := 10) (pf := 8) (by decide +kernel) (by decide) rfl (fun c14 => ?_) (fun c14 => ?_)
  · replace hf := ifn c14 hf
    refine C.seg (pe := 11) (lv' := [(0, .ref a0), (1, .int p1)]) (st' := [.ref a0]) [(.aload_n 0, 1, 0)] (by decide +kernel) rfl ?_
    obtain ⟨a3, ga3, hf⟩ := Option.bind_eq_some_iff.mp hf
    refine C.rdA fr_231 ga3 (by decide +kernel) rfl ?_
    refine C.seg (pe := 15) (lv' := [(0, .ref a0), (1, .int p1)]) (st' := [.int p1, .ref a3]) [(.iload_n 1, 1, 0)] (by decide +kernel) rfl ?_
    obtain ⟨x4, gx4, hf⟩ := Option.bind_eq_some_iff.mp hf
    refine C.ald 0 rfl gx4 (by decide +kernel) rfl ?_
    refine C.seg (pe := 17) (lv' := [(0, .ref a0), (1, .int p1)]) (st' := [.ref a0, .int x4]) [(.aload_n 0, 1, 0)] (by decide +kernel) rfl ?_
    obtain ⟨a5, ga5, hf⟩ := Option.bind_eq_some_iff.mp hf
    refine C.rdA fr_230 ga5 (by decide +kernel) rfl ?_
    refine C.seg (pe := 21) (lv' := [(0, .ref a0), (1, .int p1)]) (st' := [.int p1, .ref a5, .int x4]) [(.iload_n 1, 1, 0)] (by decide +kernel) rfl ?_
    obtain ⟨x6, gx6, hf⟩ := Option.bind_eq_some_iff.mp hf
    refine C.ald 0 rfl gx6 (by decide +kernel) rfl ?_
    refine C.icmp_lt (off := 10) (tgt := 32) (pf := 25) (by decide +kernel) (by decide) rfl (fun c13 => ?_) (fun c13 => ?_)
    · replace hf := ifp c13 hf
      refine C.seg (pe := 33) (lv' := [(0, .ref a0), (1, .int p1)]) (st' := [.ref a0]) [(.aload_n 0, 1, 0)] (by decide +kernel) rfl ?_
      obtain ⟨a7, ga7, hf⟩ := Option.bind_eq_some_iff.mp hf
      refine C.rdA fr_231 ga7 (by decide +kernel) rfl ?_
      refine C.seg (pe := 38) (lv' := [(0, .ref a0), (1, .int p1)]) (st' := [.ref a0, .int 0, .ref a7]) [(.iconst 0, 1, 0), (.aload_n 0, 1, 0)] (by decide +kernel) rfl ?_
      obtain ⟨a8, ga8, hf⟩ := Option.bind_eq_some_iff.mp hf
      refine C.rdA fr_232 ga8 (by decide +kernel) rfl ?_
      refine C.seg (pe := 44) (lv' := [(0, .ref a0), (1, .int p1)]) (st' := [.int 40, .int 0, .ref a8, .int 0, .ref a7]) [(.iconst 0, 1, 0), (.bipush 40, 2, 40)] (by decide +kernel) rfl ?_
      obtain ⟨h9, gh9, hf⟩ := Option.bind_eq_some_iff.mp hf
      refine C.copyI 0 (by decide) k_1420 k_1073 k_1072 k_143 (by omega) (by first | decide | exact Nat.le_trans (by decide : _ ≤ 400) (Nat.le_add_left _ _)) (Nat.le_of_ble_eq_true rfl) gh9 (by decide +kernel) rfl ?_
      refine C.seg (pe := 48) (lv' := [(0, .ref a0), (1, .int p1)]) (st' := [.ref a0]) [(.aload_n 0, 1, 0)] (by decide +kernel) rfl ?_
      obtain ⟨x10, gx10, hf⟩ := Option.bind_eq_some_iff.mp hf
      refine C.rdI fr_240 gx10 (by decide +kernel) rfl ?_
      refine C.seg (pe := 52) (lv' := [(2, .int x10), (0, .ref a0), (1, .int p1)]) (st' := []) [(.istore_n 2, 1, 0)] (by decide +kernel) rfl ?_
      refine Vsub [1, 2, 0] rfl ?_
      exact l_X10_foretoldEnd_52 C C2 FU a0 p1 x10 h9 hf
    · replace hf := ifn c13 hf
      refine C.seg (pe := 26) (lv' := [(0, .ref a0), (1, .int p1)]) (st' := [.ref a0]) [(.aload_n 0, 1, 0)] (by decide +kernel) rfl ?_
      obtain ⟨a11, ga11, hf⟩ := Option.bind_eq_some_iff.mp hf
      refine C.rdA fr_233 ga11 (by decide +kernel) rfl ?_
      refine C.seg (pe := 30) (lv' := [(0, .ref a0), (1, .int p1)]) (st' := [.int p1, .ref a11]) [(.iload_n 1, 1, 0)] (by decide +kernel) rfl ?_
      obtain ⟨x12, gx12, hf⟩ := Option.bind_eq_some_iff.mp hf
      refine C.ald 0 rfl gx12 (by decide +kernel) rfl ?_
      cases hf
      exact C.retI rfl (by decide +kernel) ⟨rfl, rfl⟩
  · replace hf := ifp c14 hf
    refine C.seg (pe := 9) (lv' := [(0, .ref a0), (1, .int p1)]) (st' := [.int (-1)]) [(.iconst (-1), 1, (-1))] (by decide +kernel) rfl ?_
    cases hf
    exact C.retI rfl (by decide +kernel) ⟨rfl, rfl⟩
theorem o_X10_foretoldEnd {a0 : Nat} {p1 : Int32} {h : AH} {rr : Int32} {hr : AH} (hf : f_X10_foretoldEnd a0 p1 h = some (rr, hr)) : isO 10 h a0 = true := by
  unfold f_X10_foretoldEnd at hf
  exact (ifO hf).1
/-! WallHouse$Works.foretoldOver(I)I -/
def f_X10_foretoldOver_100 (k59 : Nat → Int32 → Int32 → AH → Option (Int32 × AH)) (r0 : Nat) (i2 : Int32) (i3 : Int32) (h : AH) : Option (Int32 × AH) :=
  k59 r0 i2 (i3 + 1) h
set_option maxRecDepth 100000 in
set_option maxHeartbeats 4000000 in
theorem l_X10_foretoldOver_100 {X : MX} {l : Launch} {G : GX} {h0 : AH} {rr : Int32} {hr : AH} (C : Cx X G RX10 cX10_foretoldOver 4 (some .int) 1 80 h0) (C2 : Cy X l "foretoldOver" []) {k59 : Nat → Int32 → Int32 → AH → Option (Int32 × AH)} (hk59 : ∀ (r0 : Nat) (i2 : Int32) (i3 : Int32) (h : AH), k59 r0 i2 i3 h = some (rr, hr) → V X G h0 (QI rr hr) 59 [(0, .ref r0), (2, .int i2), (3, .int i3)] [] h) (r0 : Nat) (i2 : Int32) (i3 : Int32) (h : AH) (hf : f_X10_foretoldOver_100 k59 r0 i2 i3 h = some (rr, hr)) : V X G h0 (QI rr hr) 100 [(0, .ref r0), (2, .int i2), (3, .int i3)] [] h := by
  unfold f_X10_foretoldOver_100 at hf
  refine C.seg (pe := 103) (lv' := [(3, .int (i3 + 1)), (0, .ref r0), (2, .int i2)]) (st' := []) [(.iinc 3 1, 3, 1)] (by decide +kernel) rfl ?_
  refine C.goto (off := (-44)) (tgt := 59) (by decide +kernel) (by decide) ?_
  refine Vsub [1, 2, 0] rfl ?_
  exact hk59 r0 i2 (i3 + 1) h hf
def f_X10_foretoldOver_59 : Nat → Nat → Int32 → Int32 → AH → Option (Int32 × AH)
  | 0, _, _, _, _ => none
  | n + 1, r0, i2, i3, h =>
    (gI 10 h r0 1).bind fun x1 =>
    if x1 ≤ i3 then
      some (i2, h)
    else
      (gA 10 h r0 6).bind fun a2 =>
      (aI 0 h a2 i3).bind fun x3 =>
      (gA 10 h r0 5).bind fun a4 =>
      (aI 0 h a4 i3).bind fun x5 =>
      if x5 ≤ x3 then
        f_X10_foretoldOver_100 (f_X10_foretoldOver_59 n) r0 i2 i3 h
      else
        (gA 10 h r0 7).bind fun a6 =>
        (aI 0 h a6 i3).bind fun x7 =>
        (gA 10 h r0 5).bind fun a8 =>
        (aI 0 h a8 i3).bind fun x9 =>
        if x7 < x9 then
          f_X10_foretoldOver_100 (f_X10_foretoldOver_59 n) r0 i2 i3 h
        else
          f_X10_foretoldOver_100 (f_X10_foretoldOver_59 n) r0 (i2 + 1) i3 h
set_option maxRecDepth 100000 in
set_option maxHeartbeats 4000000 in
theorem l_X10_foretoldOver_59 {X : MX} {l : Launch} {G : GX} {h0 : AH} {rr : Int32} {hr : AH} (C : Cx X G RX10 cX10_foretoldOver 4 (some .int) 1 80 h0) (C2 : Cy X l "foretoldOver" []) : ∀ (n : Nat) (r0 : Nat) (i2 : Int32) (i3 : Int32) (h : AH), f_X10_foretoldOver_59 n r0 i2 i3 h = some (rr, hr) → V X G h0 (QI rr hr) 59 [(0, .ref r0), (2, .int i2), (3, .int i3)] [] h := by
  intro n
  induction n with
  | zero => intro r0 i2 i3 h hf; rw [f_X10_foretoldOver_59] at hf; cases hf
  | succ n ih =>
    intro r0 i2 i3 h hf
    rw [f_X10_foretoldOver_59] at hf
    refine C.seg (pe := 61) (lv' := [(0, .ref r0), (2, .int i2), (3, .int i3)]) (st' := [.ref r0, .int i3]) [(.iload_n 3, 1, 0), (.aload_n 0, 1, 0)] (by decide +kernel) rfl ?_
    obtain ⟨x1, gx1, hf⟩ := Option.bind_eq_some_iff.mp hf
    refine C.rdI fr_225 gx1 (by decide +kernel) rfl ?_
    refine C.icmp_ge (off := 42) (tgt := 106) (pf := 67) (by decide +kernel) (by decide) rfl (fun c12 => ?_) (fun c12 => ?_)
    · replace hf := ifp c12 hf
      refine C.seg (pe := 107) (lv' := [(0, .ref r0), (2, .int i2), (3, .int i3)]) (st' := [.int i2]) [(.iload_n 2, 1, 0)] (by decide +kernel) rfl ?_
      cases hf
      exact C.retI rfl (by decide +kernel) ⟨rfl, rfl⟩
    · replace hf := ifn c12 hf
      refine C.seg (pe := 68) (lv' := [(0, .ref r0), (2, .int i2), (3, .int i3)]) (st' := [.ref r0]) [(.aload_n 0, 1, 0)] (by decide +kernel) rfl ?_
      obtain ⟨a2, ga2, hf⟩ := Option.bind_eq_some_iff.mp hf
      refine C.rdA fr_231 ga2 (by decide +kernel) rfl ?_
      refine C.seg (pe := 72) (lv' := [(0, .ref r0), (2, .int i2), (3, .int i3)]) (st' := [.int i3, .ref a2]) [(.iload_n 3, 1, 0)] (by decide +kernel) rfl ?_
      obtain ⟨x3, gx3, hf⟩ := Option.bind_eq_some_iff.mp hf
      refine C.ald 0 rfl gx3 (by decide +kernel) rfl ?_
      refine C.seg (pe := 74) (lv' := [(0, .ref r0), (2, .int i2), (3, .int i3)]) (st' := [.ref r0, .int x3]) [(.aload_n 0, 1, 0)] (by decide +kernel) rfl ?_
      obtain ⟨a4, ga4, hf⟩ := Option.bind_eq_some_iff.mp hf
      refine C.rdA fr_230 ga4 (by decide +kernel) rfl ?_
      refine C.seg (pe := 78) (lv' := [(0, .ref r0), (2, .int i2), (3, .int i3)]) (st' := [.int i3, .ref a4, .int x3]) [(.iload_n 3, 1, 0)] (by decide +kernel) rfl ?_
      obtain ⟨x5, gx5, hf⟩ := Option.bind_eq_some_iff.mp hf
      refine C.ald 0 rfl gx5 (by decide +kernel) rfl ?_
      refine C.icmp_ge (off := 21) (tgt := 100) (pf := 82) (by decide +kernel) (by decide) rfl (fun c11 => ?_) (fun c11 => ?_)
      · replace hf := ifp c11 hf
        exact l_X10_foretoldOver_100 C C2 ih r0 i2 i3 h hf
      · replace hf := ifn c11 hf
        refine C.seg (pe := 83) (lv' := [(0, .ref r0), (2, .int i2), (3, .int i3)]) (st' := [.ref r0]) [(.aload_n 0, 1, 0)] (by decide +kernel) rfl ?_
        obtain ⟨a6, ga6, hf⟩ := Option.bind_eq_some_iff.mp hf
        refine C.rdA fr_232 ga6 (by decide +kernel) rfl ?_
        refine C.seg (pe := 87) (lv' := [(0, .ref r0), (2, .int i2), (3, .int i3)]) (st' := [.int i3, .ref a6]) [(.iload_n 3, 1, 0)] (by decide +kernel) rfl ?_
        obtain ⟨x7, gx7, hf⟩ := Option.bind_eq_some_iff.mp hf
        refine C.ald 0 rfl gx7 (by decide +kernel) rfl ?_
        refine C.seg (pe := 89) (lv' := [(0, .ref r0), (2, .int i2), (3, .int i3)]) (st' := [.ref r0, .int x7]) [(.aload_n 0, 1, 0)] (by decide +kernel) rfl ?_
        obtain ⟨a8, ga8, hf⟩ := Option.bind_eq_some_iff.mp hf
        refine C.rdA fr_230 ga8 (by decide +kernel) rfl ?_
        refine C.seg (pe := 93) (lv' := [(0, .ref r0), (2, .int i2), (3, .int i3)]) (st' := [.int i3, .ref a8, .int x7]) [(.iload_n 3, 1, 0)] (by decide +kernel) rfl ?_
        obtain ⟨x9, gx9, hf⟩ := Option.bind_eq_some_iff.mp hf
        refine C.ald 0 rfl gx9 (by decide +kernel) rfl ?_
        refine C.icmp_lt (off := 6) (tgt := 100) (pf := 97) (by decide +kernel) (by decide) rfl (fun c10 => ?_) (fun c10 => ?_)
        · replace hf := ifp c10 hf
          exact l_X10_foretoldOver_100 C C2 ih r0 i2 i3 h hf
        · replace hf := ifn c10 hf
          refine C.seg (pe := 100) (lv' := [(2, .int (i2 + 1)), (0, .ref r0), (3, .int i3)]) (st' := []) [(.iinc 2 1, 3, 1)] (by decide +kernel) rfl ?_
          refine Vsub [1, 0, 2] rfl ?_
          exact l_X10_foretoldOver_100 C C2 ih r0 (i2 + 1) i3 h hf
def f_X10_foretoldOver_55 (r0 : Nat) (h : AH) : Option (Int32 × AH) :=
  f_X10_foretoldOver_59 FU r0 0 0 h
set_option maxRecDepth 100000 in
set_option maxHeartbeats 4000000 in
theorem l_X10_foretoldOver_55 {X : MX} {l : Launch} {G : GX} {h0 : AH} {rr : Int32} {hr : AH} (C : Cx X G RX10 cX10_foretoldOver 4 (some .int) 1 80 h0) (C2 : Cy X l "foretoldOver" []) (r0 : Nat) (h : AH) (hf : f_X10_foretoldOver_55 r0 h = some (rr, hr)) : V X G h0 (QI rr hr) 55 [(0, .ref r0)] [] h := by
  unfold f_X10_foretoldOver_55 at hf
  refine C.seg (pe := 59) (lv' := [(3, .int 0), (2, .int 0), (0, .ref r0)]) (st' := []) [(.iconst 0, 1, 0), (.istore_n 2, 1, 0), (.iconst 0, 1, 0), (.istore_n 3, 1, 0)] (by decide +kernel) rfl ?_
  refine Vsub [2, 1, 0] rfl ?_
  exact l_X10_foretoldOver_59 C C2 FU r0 0 0 h hf
def f_X10_foretoldOver_49 (k20 : Nat → Int32 → Int32 → AH → Option (Int32 × AH)) (r0 : Nat) (i1 : Int32) (i2 : Int32) (h : AH) : Option (Int32 × AH) :=
  k20 r0 i1 (i2 + 1) h
set_option maxRecDepth 100000 in
set_option maxHeartbeats 4000000 in
theorem l_X10_foretoldOver_49 {X : MX} {l : Launch} {G : GX} {h0 : AH} {rr : Int32} {hr : AH} (C : Cx X G RX10 cX10_foretoldOver 4 (some .int) 1 80 h0) (C2 : Cy X l "foretoldOver" []) {k20 : Nat → Int32 → Int32 → AH → Option (Int32 × AH)} (hk20 : ∀ (r0 : Nat) (i1 : Int32) (i2 : Int32) (h : AH), k20 r0 i1 i2 h = some (rr, hr) → V X G h0 (QI rr hr) 20 [(0, .ref r0), (1, .int i1), (2, .int i2)] [] h) (r0 : Nat) (i1 : Int32) (i2 : Int32) (h : AH) (hf : f_X10_foretoldOver_49 k20 r0 i1 i2 h = some (rr, hr)) : V X G h0 (QI rr hr) 49 [(0, .ref r0), (1, .int i1), (2, .int i2)] [] h := by
  unfold f_X10_foretoldOver_49 at hf
  refine C.seg (pe := 52) (lv' := [(2, .int (i2 + 1)), (0, .ref r0), (1, .int i1)]) (st' := []) [(.iinc 2 1, 3, 1)] (by decide +kernel) rfl ?_
  refine C.goto (off := (-32)) (tgt := 20) (by decide +kernel) (by decide) ?_
  refine Vsub [1, 2, 0] rfl ?_
  exact hk20 r0 i1 (i2 + 1) h hf
def f_X10_foretoldOver_20 : Nat → Nat → Int32 → Int32 → AH → Option (Int32 × AH)
  | 0, _, _, _, _ => none
  | n + 1, r0, i1, i2, h =>
    if i1 < i2 then
      f_X10_foretoldOver_55 r0 h
    else
      (gI 10 h r0 12).bind fun x1 =>
      if x1 < i2 then
        f_X10_foretoldOver_55 r0 h
      else
        b2 (f_X10_isGoodDay r0 i2 h) fun x2 h3 =>
        if x2 = 0 then
          f_X10_foretoldOver_49 (f_X10_foretoldOver_20 n) r0 i1 i2 h3
        else
          (gA 10 h3 r0 7).bind fun a4 =>
          (f_X10_bringOn r0 a4 h3).bind fun h5 =>
          f_X10_foretoldOver_49 (f_X10_foretoldOver_20 n) r0 i1 i2 h5
set_option maxRecDepth 100000 in
set_option maxHeartbeats 4000000 in
theorem l_X10_foretoldOver_20 {X : MX} {l : Launch} {G : GX} {h0 : AH} {rr : Int32} {hr : AH} (C : Cx X G RX10 cX10_foretoldOver 4 (some .int) 1 80 h0) (C2 : Cy X l "foretoldOver" []) : ∀ (n : Nat) (r0 : Nat) (i1 : Int32) (i2 : Int32) (h : AH), f_X10_foretoldOver_20 n r0 i1 i2 h = some (rr, hr) → V X G h0 (QI rr hr) 20 [(0, .ref r0), (1, .int i1), (2, .int i2)] [] h := by
  intro n
  induction n with
  | zero => intro r0 i1 i2 h hf; rw [f_X10_foretoldOver_20] at hf; cases hf
  | succ n ih =>
    intro r0 i1 i2 h hf
    rw [f_X10_foretoldOver_20] at hf
    refine C.seg (pe := 22) (lv' := [(0, .ref r0), (1, .int i1), (2, .int i2)]) (st' := [.int i1, .int i2]) [(.iload_n 2, 1, 0), (.iload_n 1, 1, 0)] (by decide +kernel) rfl ?_
    refine C.icmp_gt (off := 33) (tgt := 55) (pf := 25) (by decide +kernel) (by decide) rfl (fun c8 => ?_) (fun c8 => ?_)
    · replace hf := ifp c8 hf
      refine Vsub [0] rfl ?_
      exact l_X10_foretoldOver_55 C C2 r0 h hf
    · replace hf := ifn c8 hf
      refine C.seg (pe := 27) (lv' := [(0, .ref r0), (1, .int i1), (2, .int i2)]) (st' := [.ref r0, .int i2]) [(.iload_n 2, 1, 0), (.aload_n 0, 1, 0)] (by decide +kernel) rfl ?_
      obtain ⟨x1, gx1, hf⟩ := Option.bind_eq_some_iff.mp hf
      refine C.rdI fr_237 gx1 (by decide +kernel) rfl ?_
      refine C.icmp_gt (off := 25) (tgt := 55) (pf := 33) (by decide +kernel) (by decide) rfl (fun c7 => ?_) (fun c7 => ?_)
      · replace hf := ifp c7 hf
        refine Vsub [0] rfl ?_
        exact l_X10_foretoldOver_55 C C2 r0 h hf
      · replace hf := ifn c7 hf
        refine C.seg (pe := 35) (lv' := [(0, .ref r0), (1, .int i1), (2, .int i2)]) (st' := [.int i2, .ref r0]) [(.aload_n 0, 1, 0), (.iload_n 2, 1, 0)] (by decide +kernel) rfl ?_
        obtain ⟨x2, h3, gx2, hf⟩ := b2_some hf
        refine C.callVr C2 [.int i2] [] mv_1421 rfl (o_X10_isGoodDay gx2) (w_X10_isGoodDay gx2) (by omega) (by omega) (Nat.le_of_ble_eq_true rfl) (by decide +kernel) rfl ?_
        refine C.if_eq (off := 11) (tgt := 49) (pf := 41) (by decide +kernel) (by decide) rfl (fun c6 => ?_) (fun c6 => ?_)
        · replace hf := ifp c6 hf
          exact l_X10_foretoldOver_49 C C2 ih r0 i1 i2 h3 hf
        · replace hf := ifn c6 hf
          refine C.seg (pe := 43) (lv' := [(0, .ref r0), (1, .int i1), (2, .int i2)]) (st' := [.ref r0, .ref r0]) [(.aload_n 0, 1, 0), (.aload_n 0, 1, 0)] (by decide +kernel) rfl ?_
          obtain ⟨a4, ga4, hf⟩ := Option.bind_eq_some_iff.mp hf
          refine C.rdA fr_232 ga4 (by decide +kernel) rfl ?_
          obtain ⟨h5, gh5, hf⟩ := Option.bind_eq_some_iff.mp hf
          refine C.callVr C2 [.ref a4] [] mv_1425 rfl (o_X10_bringOn gh5) (w_X10_bringOn gh5) (by omega) (by omega) (Nat.le_of_ble_eq_true rfl) (by decide +kernel) rfl ?_
          exact l_X10_foretoldOver_49 C C2 ih r0 i1 i2 h5 hf
def f_X10_foretoldOver (a0 : Nat) (p1 : Int32) (h : AH) : Option (Int32 × AH) :=
  if isO 10 h a0 = true then
    (gA 10 h a0 6).bind fun a1 =>
    (gA 10 h a0 7).bind fun a2 =>
    (cpI 0 h a1 0 a2 0 40).bind fun h3 =>
    (gI 10 h3 a0 14).bind fun x4 =>
    f_X10_foretoldOver_20 FU a0 p1 x4 h3
  else none
set_option maxRecDepth 100000 in
set_option maxHeartbeats 4000000 in
theorem w_X10_foretoldOver {l : Launch} {G : GX} {a0 : Nat} {p1 : Int32} {h : AH} {rr : Int32} {hr : AH} (hf : f_X10_foretoldOver a0 p1 h = some (rr, hr)) : Ct l G yX10_foretoldOver 1 80 [.ref a0, .int p1] h (QI rr hr) := by
  unfold f_X10_foretoldOver at hf
  obtain ⟨ho, hf⟩ := ifO hf
  refine Ct_of (own := RX10) (cc := cX10_foretoldOver) (nL := 4) (ret := (some .int)) rfl rfl k_1436 (Nat.le_of_ble_eq_true rfl) (fun X C2 C => ?_)
  show V X G h (QI rr hr) 0 [(0, .ref a0), (1, .int p1)] [] h
  refine C.seg (pe := 1) (lv' := [(0, .ref a0), (1, .int p1)]) (st' := [.ref a0]) [(.aload_n 0, 1, 0)] (by decide +kernel) rfl ?_
  obtain ⟨a1, ga1, hf⟩ := Option.bind_eq_some_iff.mp hf
  refine C.rdA fr_231 ga1 (by decide +kernel) rfl ?_
  refine C.seg (pe := 6) (lv' := [(0, .ref a0), (1, .int p1)]) (st' := [.ref a0, .int 0, .ref a1]) [(.iconst 0, 1, 0), (.aload_n 0, 1, 0)] (by decide +kernel) rfl ?_
  obtain ⟨a2, ga2, hf⟩ := Option.bind_eq_some_iff.mp hf
  refine C.rdA fr_232 ga2 (by decide +kernel) rfl ?_
  refine C.seg (pe := 12) (lv' := [(0, .ref a0), (1, .int p1)]) (st' := [.int 40, .int 0, .ref a2, .int 0, .ref a1]) [(.iconst 0, 1, 0), (.bipush 40, 2, 40)] (by decide +kernel) rfl ?_
  obtain ⟨h3, gh3, hf⟩ := Option.bind_eq_some_iff.mp hf
  refine C.copyI 0 (by decide) k_1420 k_1073 k_1072 k_143 (by omega) (by first | decide | exact Nat.le_trans (by decide : _ ≤ 400) (Nat.le_add_left _ _)) (Nat.le_of_ble_eq_true rfl) gh3 (by decide +kernel) rfl ?_
  refine C.seg (pe := 16) (lv' := [(0, .ref a0), (1, .int p1)]) (st' := [.ref a0]) [(.aload_n 0, 1, 0)] (by decide +kernel) rfl ?_
  obtain ⟨x4, gx4, hf⟩ := Option.bind_eq_some_iff.mp hf
  refine C.rdI fr_240 gx4 (by decide +kernel) rfl ?_
  refine C.seg (pe := 20) (lv' := [(2, .int x4), (0, .ref a0), (1, .int p1)]) (st' := []) [(.istore_n 2, 1, 0)] (by decide +kernel) rfl ?_
  refine Vsub [1, 2, 0] rfl ?_
  exact l_X10_foretoldOver_20 C C2 FU a0 p1 x4 h3 hf
theorem o_X10_foretoldOver {a0 : Nat} {p1 : Int32} {h : AH} {rr : Int32} {hr : AH} (hf : f_X10_foretoldOver a0 p1 h = some (rr, hr)) : isO 10 h a0 = true := by
  unfold f_X10_foretoldOver at hf
  exact (ifO hf).1
/-! WallHouse$Works.addTin(II)I -/
def f_X10_addTin (a0 : Nat) (p1 : Int32) (p2 : Int32) (h : AH) : Option (Int32 × AH) :=
  if isO 10 h a0 = true then
    (gI 10 h a0 15).bind fun x1 =>
    if x1 < 60 then
      (gA 10 h a0 16).bind fun a2 =>
      (gI 10 h a0 15).bind fun x3 =>
      (sI 0 h a2 x3 p1).bind fun h4 =>
      (gA 10 h4 a0 17).bind fun a5 =>
      (gI 10 h4 a0 15).bind fun x6 =>
      (sI 0 h4 a5 x6 p2).bind fun h7 =>
      (gI 10 h7 a0 15).bind fun x8 =>
      (pI 10 h7 a0 15 (x8 + 1)).bind fun h9 =>
      (gI 10 h9 a0 15).bind fun x10 =>
      some (x10 - 1, h9)
    else
      some ((-1), h)
  else none
set_option maxRecDepth 100000 in
set_option maxHeartbeats 4000000 in
theorem w_X10_addTin {l : Launch} {G : GX} {a0 : Nat} {p1 : Int32} {p2 : Int32} {h : AH} {rr : Int32} {hr : AH} (hf : f_X10_addTin a0 p1 p2 h = some (rr, hr)) : Ct l G yX10_addTin 0 0 [.ref a0, .int p1, .int p2] h (QI rr hr) := by
  unfold f_X10_addTin at hf
  obtain ⟨ho, hf⟩ := ifO hf
  refine Ct_of (own := RX10) (cc := cX10_addTin) (nL := 3) (ret := (some .int)) rfl rfl k_1444 (Nat.le_of_ble_eq_true rfl) (fun X C2 C => ?_)
  show V X G h (QI rr hr) 0 [(0, .ref a0), (1, .int p1), (2, .int p2)] [] h
  refine C.seg (pe := 1) (lv' := [(0, .ref a0), (1, .int p1), (2, .int p2)]) (st' := [.ref a0]) [(.aload_n 0, 1, 0)] (by decide +kernel) rfl ?_
  obtain ⟨x1, gx1, hf⟩ := Option.bind_eq_some_iff.mp hf
  refine C.rdI fr_242 gx1 (by decide +kernel) rfl ?_
  refine C.seg (pe := 6) (lv' := [(0, .ref a0), (1, .int p1), (2, .int p2)]) (st' := [.int 60, .int x1]) [(.bipush 60, 2, 60)] (by decide +kernel) rfl ?_
  refine C.icmp_lt (off := 5) (tgt := 11) (pf := 9) (by decide +kernel) (by decide) rfl (fun c11 => ?_) (fun c11 => ?_)
  · replace hf := ifp c11 hf
    refine C.seg (pe := 12) (lv' := [(0, .ref a0), (1, .int p1), (2, .int p2)]) (st' := [.ref a0]) [(.aload_n 0, 1, 0)] (by decide +kernel) rfl ?_
    obtain ⟨a2, ga2, hf⟩ := Option.bind_eq_some_iff.mp hf
    refine C.rdA fr_244 ga2 (by decide +kernel) rfl ?_
    refine C.seg (pe := 16) (lv' := [(0, .ref a0), (1, .int p1), (2, .int p2)]) (st' := [.ref a0, .ref a2]) [(.aload_n 0, 1, 0)] (by decide +kernel) rfl ?_
    obtain ⟨x3, gx3, hf⟩ := Option.bind_eq_some_iff.mp hf
    refine C.rdI fr_242 gx3 (by decide +kernel) rfl ?_
    refine C.seg (pe := 20) (lv' := [(0, .ref a0), (1, .int p1), (2, .int p2)]) (st' := [.int p1, .int x3, .ref a2]) [(.iload_n 1, 1, 0)] (by decide +kernel) rfl ?_
    obtain ⟨h4, gh4, hf⟩ := Option.bind_eq_some_iff.mp hf
    refine C.ast gh4 (by decide +kernel) rfl ?_
    refine C.seg (pe := 22) (lv' := [(0, .ref a0), (1, .int p1), (2, .int p2)]) (st' := [.ref a0]) [(.aload_n 0, 1, 0)] (by decide +kernel) rfl ?_
    obtain ⟨a5, ga5, hf⟩ := Option.bind_eq_some_iff.mp hf
    refine C.rdA fr_245 ga5 (by decide +kernel) rfl ?_
    refine C.seg (pe := 26) (lv' := [(0, .ref a0), (1, .int p1), (2, .int p2)]) (st' := [.ref a0, .ref a5]) [(.aload_n 0, 1, 0)] (by decide +kernel) rfl ?_
    obtain ⟨x6, gx6, hf⟩ := Option.bind_eq_some_iff.mp hf
    refine C.rdI fr_242 gx6 (by decide +kernel) rfl ?_
    refine C.seg (pe := 30) (lv' := [(0, .ref a0), (1, .int p1), (2, .int p2)]) (st' := [.int p2, .int x6, .ref a5]) [(.iload_n 2, 1, 0)] (by decide +kernel) rfl ?_
    obtain ⟨h7, gh7, hf⟩ := Option.bind_eq_some_iff.mp hf
    refine C.ast gh7 (by decide +kernel) rfl ?_
    refine C.seg (pe := 33) (lv' := [(0, .ref a0), (1, .int p1), (2, .int p2)]) (st' := [.ref a0, .ref a0]) [(.aload_n 0, 1, 0), (.dup, 1, 0)] (by decide +kernel) rfl ?_
    obtain ⟨x8, gx8, hf⟩ := Option.bind_eq_some_iff.mp hf
    refine C.rdI fr_242 gx8 (by decide +kernel) rfl ?_
    refine C.seg (pe := 38) (lv' := [(0, .ref a0), (1, .int p1), (2, .int p2)]) (st' := [.int (x8 + 1), .ref a0]) [(.iconst 1, 1, 1), (.iadd, 1, 0)] (by decide +kernel) rfl ?_
    obtain ⟨h9, gh9, hf⟩ := Option.bind_eq_some_iff.mp hf
    refine C.putI fl_242 gh9 (by decide +kernel) rfl ?_
    refine C.seg (pe := 42) (lv' := [(0, .ref a0), (1, .int p1), (2, .int p2)]) (st' := [.ref a0]) [(.aload_n 0, 1, 0)] (by decide +kernel) rfl ?_
    obtain ⟨x10, gx10, hf⟩ := Option.bind_eq_some_iff.mp hf
    refine C.rdI fr_242 gx10 (by decide +kernel) rfl ?_
    refine C.seg (pe := 47) (lv' := [(0, .ref a0), (1, .int p1), (2, .int p2)]) (st' := [.int (x10 - 1)]) [(.iconst 1, 1, 1), (.isub, 1, 0)] (by decide +kernel) rfl ?_
    cases hf
    exact C.retI rfl (by decide +kernel) ⟨rfl, rfl⟩
  · replace hf := ifn c11 hf
    refine C.seg (pe := 10) (lv' := [(0, .ref a0), (1, .int p1), (2, .int p2)]) (st' := [.int (-1)]) [(.iconst (-1), 1, (-1))] (by decide +kernel) rfl ?_
    cases hf
    exact C.retI rfl (by decide +kernel) ⟨rfl, rfl⟩
theorem o_X10_addTin {a0 : Nat} {p1 : Int32} {p2 : Int32} {h : AH} {rr : Int32} {hr : AH} (hf : f_X10_addTin a0 p1 p2 h = some (rr, hr)) : isO 10 h a0 = true := by
  unfold f_X10_addTin at hf
  exact (ifO hf).1
/-! WallHouse$Works.isTin(I)Z -/
def f_X10_isTin_23 (si0 : Int32) (h : AH) : Option (Int32 × AH) :=
  (ckZ si0).bind fun x1 =>
  some (x1, h)
set_option maxRecDepth 100000 in
set_option maxHeartbeats 4000000 in
theorem l_X10_isTin_23 {X : MX} {l : Launch} {G : GX} {h0 : AH} {rr : Int32} {hr : AH} (C : Cx X G RX10 cX10_isTin 2 (some .boolean) 0 0 h0) (C2 : Cy X l "isTin" []) (si0 : Int32) (h : AH) (hf : f_X10_isTin_23 si0 h = some (rr, hr)) : V X G h0 (QI rr hr) 23 [] [.int si0] h := by
  unfold f_X10_isTin_23 at hf
  obtain ⟨x1, gx1, hf⟩ := Option.bind_eq_some_iff.mp hf
  have ex1 := ckZ_eq gx1
  subst ex1
  cases hf
  exact C.retZ rfl gx1 (by decide +kernel) ⟨rfl, rfl⟩
def f_X10_isTin_22 (h : AH) : Option (Int32 × AH) :=
  f_X10_isTin_23 0 h
set_option maxRecDepth 100000 in
set_option maxHeartbeats 4000000 in
theorem l_X10_isTin_22 {X : MX} {l : Launch} {G : GX} {h0 : AH} {rr : Int32} {hr : AH} (C : Cx X G RX10 cX10_isTin 2 (some .boolean) 0 0 h0) (C2 : Cy X l "isTin" []) (h : AH) (hf : f_X10_isTin_22 h = some (rr, hr)) : V X G h0 (QI rr hr) 22 [] [] h := by
  unfold f_X10_isTin_22 at hf
  refine C.seg (pe := 23) (lv' := []) (st' := [.int 0]) [(.iconst 0, 1, 0)] (by decide +kernel) rfl ?_
  exact l_X10_isTin_23 C C2 0 h hf
def f_X10_isTin (a0 : Nat) (p1 : Int32) (h : AH) : Option (Int32 × AH) :=
  if isO 10 h a0 = true then
    if p1 < 0 then
      f_X10_isTin_22 h
    else
      (gI 10 h a0 15).bind fun x1 =>
      if x1 ≤ p1 then
        f_X10_isTin_22 h
      else
        if 60 ≤ p1 then
          f_X10_isTin_22 h
        else
          f_X10_isTin_23 1 h
  else none
set_option maxRecDepth 100000 in
set_option maxHeartbeats 4000000 in
theorem w_X10_isTin {l : Launch} {G : GX} {a0 : Nat} {p1 : Int32} {h : AH} {rr : Int32} {hr : AH} (hf : f_X10_isTin a0 p1 h = some (rr, hr)) : Ct l G yX10_isTin 0 0 [.ref a0, .int p1] h (QI rr hr) := by
  unfold f_X10_isTin at hf
  obtain ⟨ho, hf⟩ := ifO hf
  refine Ct_of (own := RX10) (cc := cX10_isTin) (nL := 2) (ret := (some .boolean)) rfl rfl k_1452 (Nat.le_of_ble_eq_true rfl) (fun X C2 C => ?_)
  show V X G h (QI rr hr) 0 [(0, .ref a0), (1, .int p1)] [] h
  refine C.seg (pe := 1) (lv' := [(0, .ref a0), (1, .int p1)]) (st' := [.int p1]) [(.iload_n 1, 1, 0)] (by decide +kernel) rfl ?_
  refine C.if_lt (off := 21) (tgt := 22) (pf := 4) (by decide +kernel) (by decide) rfl (fun c4 => ?_) (fun c4 => ?_)
  · replace hf := ifp c4 hf
    refine Vsub [] rfl ?_
    exact l_X10_isTin_22 C C2 h hf
  · replace hf := ifn c4 hf
    refine C.seg (pe := 6) (lv' := [(0, .ref a0), (1, .int p1)]) (st' := [.ref a0, .int p1]) [(.iload_n 1, 1, 0), (.aload_n 0, 1, 0)] (by decide +kernel) rfl ?_
    obtain ⟨x1, gx1, hf⟩ := Option.bind_eq_some_iff.mp hf
    refine C.rdI fr_242 gx1 (by decide +kernel) rfl ?_
    refine C.icmp_ge (off := 13) (tgt := 22) (pf := 12) (by decide +kernel) (by decide) rfl (fun c3 => ?_) (fun c3 => ?_)
    · replace hf := ifp c3 hf
      refine Vsub [] rfl ?_
      exact l_X10_isTin_22 C C2 h hf
    · replace hf := ifn c3 hf
      refine C.seg (pe := 15) (lv' := [(0, .ref a0), (1, .int p1)]) (st' := [.int 60, .int p1]) [(.iload_n 1, 1, 0), (.bipush 60, 2, 60)] (by decide +kernel) rfl ?_
      refine C.icmp_ge (off := 7) (tgt := 22) (pf := 18) (by decide +kernel) (by decide) rfl (fun c2 => ?_) (fun c2 => ?_)
      · replace hf := ifp c2 hf
        refine Vsub [] rfl ?_
        exact l_X10_isTin_22 C C2 h hf
      · replace hf := ifn c2 hf
        refine C.seg (pe := 19) (lv' := [(0, .ref a0), (1, .int p1)]) (st' := [.int 1]) [(.iconst 1, 1, 1)] (by decide +kernel) rfl ?_
        refine C.goto (off := 4) (tgt := 23) (by decide +kernel) (by decide) ?_
        refine Vsub [] rfl ?_
        exact l_X10_isTin_23 C C2 1 h hf
theorem o_X10_isTin {a0 : Nat} {p1 : Int32} {h : AH} {rr : Int32} {hr : AH} (hf : f_X10_isTin a0 p1 h = some (rr, hr)) : isO 10 h a0 = true := by
  unfold f_X10_isTin at hf
  exact (ifO hf).1
/-! WallHouse$Works.useTin(I)I -/
def f_X10_useTin_41 (k2 : Nat → Int32 → Int32 → AH → Option (Int32 × AH)) (r0 : Nat) (i1 : Int32) (i2 : Int32) (h : AH) : Option (Int32 × AH) :=
  k2 r0 i1 (i2 + 1) h
set_option maxRecDepth 100000 in
set_option maxHeartbeats 4000000 in
theorem l_X10_useTin_41 {X : MX} {l : Launch} {G : GX} {h0 : AH} {rr : Int32} {hr : AH} (C : Cx X G RX10 cX10_useTin 3 (some .int) 0 0 h0) (C2 : Cy X l "useTin" []) {k2 : Nat → Int32 → Int32 → AH → Option (Int32 × AH)} (hk2 : ∀ (r0 : Nat) (i1 : Int32) (i2 : Int32) (h : AH), k2 r0 i1 i2 h = some (rr, hr) → V X G h0 (QI rr hr) 2 [(0, .ref r0), (1, .int i1), (2, .int i2)] [] h) (r0 : Nat) (i1 : Int32) (i2 : Int32) (h : AH) (hf : f_X10_useTin_41 k2 r0 i1 i2 h = some (rr, hr)) : V X G h0 (QI rr hr) 41 [(0, .ref r0), (1, .int i1), (2, .int i2)] [] h := by
  unfold f_X10_useTin_41 at hf
  refine C.seg (pe := 44) (lv' := [(2, .int (i2 + 1)), (0, .ref r0), (1, .int i1)]) (st' := []) [(.iinc 2 1, 3, 1)] (by decide +kernel) rfl ?_
  refine C.goto (off := (-42)) (tgt := 2) (by decide +kernel) (by decide) ?_
  refine Vsub [1, 2, 0] rfl ?_
  exact hk2 r0 i1 (i2 + 1) h hf
def f_X10_useTin_2 : Nat → Nat → Int32 → Int32 → AH → Option (Int32 × AH)
  | 0, _, _, _, _ => none
  | n + 1, r0, i1, i2, h =>
    (gI 10 h r0 15).bind fun x1 =>
    if x1 ≤ i2 then
      some ((-2), h)
    else
      (gA 10 h r0 16).bind fun a2 =>
      (aI 0 h a2 i2).bind fun x3 =>
      if x3 = i1 then
        (gA 10 h r0 17).bind fun a4 =>
        (aI 0 h a4 i2).bind fun x5 =>
        if x5 ≤ 0 then
          f_X10_useTin_41 (f_X10_useTin_2 n) r0 i1 i2 h
        else
          (gA 10 h r0 17).bind fun a6 =>
          (aI 0 h a6 i2).bind fun x7 =>
          (sI 0 h a6 i2 (x7 - 1)).bind fun h8 =>
          some (i2, h8)
      else
        f_X10_useTin_41 (f_X10_useTin_2 n) r0 i1 i2 h
set_option maxRecDepth 100000 in
set_option maxHeartbeats 4000000 in
theorem l_X10_useTin_2 {X : MX} {l : Launch} {G : GX} {h0 : AH} {rr : Int32} {hr : AH} (C : Cx X G RX10 cX10_useTin 3 (some .int) 0 0 h0) (C2 : Cy X l "useTin" []) : ∀ (n : Nat) (r0 : Nat) (i1 : Int32) (i2 : Int32) (h : AH), f_X10_useTin_2 n r0 i1 i2 h = some (rr, hr) → V X G h0 (QI rr hr) 2 [(0, .ref r0), (1, .int i1), (2, .int i2)] [] h := by
  intro n
  induction n with
  | zero => intro r0 i1 i2 h hf; rw [f_X10_useTin_2] at hf; cases hf
  | succ n ih =>
    intro r0 i1 i2 h hf
    rw [f_X10_useTin_2] at hf
    refine C.seg (pe := 4) (lv' := [(0, .ref r0), (1, .int i1), (2, .int i2)]) (st' := [.ref r0, .int i2]) [(.iload_n 2, 1, 0), (.aload_n 0, 1, 0)] (by decide +kernel) rfl ?_
    obtain ⟨x1, gx1, hf⟩ := Option.bind_eq_some_iff.mp hf
    refine C.rdI fr_242 gx1 (by decide +kernel) rfl ?_
    refine C.icmp_ge (off := 40) (tgt := 47) (pf := 10) (by decide +kernel) (by decide) rfl (fun c11 => ?_) (fun c11 => ?_)
    · replace hf := ifp c11 hf
      refine C.seg (pe := 49) (lv' := [(0, .ref r0), (1, .int i1), (2, .int i2)]) (st' := [.int (-2)]) [(.bipush (-2), 2, (-2))] (by decide +kernel) rfl ?_
      cases hf
      exact C.retI rfl (by decide +kernel) ⟨rfl, rfl⟩
    · replace hf := ifn c11 hf
      refine C.seg (pe := 11) (lv' := [(0, .ref r0), (1, .int i1), (2, .int i2)]) (st' := [.ref r0]) [(.aload_n 0, 1, 0)] (by decide +kernel) rfl ?_
      obtain ⟨a2, ga2, hf⟩ := Option.bind_eq_some_iff.mp hf
      refine C.rdA fr_244 ga2 (by decide +kernel) rfl ?_
      refine C.seg (pe := 15) (lv' := [(0, .ref r0), (1, .int i1), (2, .int i2)]) (st' := [.int i2, .ref a2]) [(.iload_n 2, 1, 0)] (by decide +kernel) rfl ?_
      obtain ⟨x3, gx3, hf⟩ := Option.bind_eq_some_iff.mp hf
      refine C.ald 0 rfl gx3 (by decide +kernel) rfl ?_
      refine C.seg (pe := 17) (lv' := [(0, .ref r0), (1, .int i1), (2, .int i2)]) (st' := [.int i1, .int x3]) [(.iload_n 1, 1, 0)] (by decide +kernel) rfl ?_
      refine C.icmp_ne (off := 24) (tgt := 41) (pf := 20) (by decide +kernel) (by decide) rfl (fun c10 => ?_) (fun c10 => ?_)
      · replace hf := ifn c10 hf
        exact l_X10_useTin_41 C C2 ih r0 i1 i2 h hf
      · replace hf := ifp c10 hf
        refine C.seg (pe := 21) (lv' := [(0, .ref r0), (1, .int i1), (2, .int i2)]) (st' := [.ref r0]) [(.aload_n 0, 1, 0)] (by decide +kernel) rfl ?_
        obtain ⟨a4, ga4, hf⟩ := Option.bind_eq_some_iff.mp hf
        refine C.rdA fr_245 ga4 (by decide +kernel) rfl ?_
        refine C.seg (pe := 25) (lv' := [(0, .ref r0), (1, .int i1), (2, .int i2)]) (st' := [.int i2, .ref a4]) [(.iload_n 2, 1, 0)] (by decide +kernel) rfl ?_
        obtain ⟨x5, gx5, hf⟩ := Option.bind_eq_some_iff.mp hf
        refine C.ald 0 rfl gx5 (by decide +kernel) rfl ?_
        refine C.if_le (off := 15) (tgt := 41) (pf := 29) (by decide +kernel) (by decide) rfl (fun c9 => ?_) (fun c9 => ?_)
        · replace hf := ifp c9 hf
          exact l_X10_useTin_41 C C2 ih r0 i1 i2 h hf
        · replace hf := ifn c9 hf
          refine C.seg (pe := 30) (lv' := [(0, .ref r0), (1, .int i1), (2, .int i2)]) (st' := [.ref r0]) [(.aload_n 0, 1, 0)] (by decide +kernel) rfl ?_
          obtain ⟨a6, ga6, hf⟩ := Option.bind_eq_some_iff.mp hf
          refine C.rdA fr_245 ga6 (by decide +kernel) rfl ?_
          refine C.seg (pe := 35) (lv' := [(0, .ref r0), (1, .int i1), (2, .int i2)]) (st' := [.int i2, .ref a6, .int i2, .ref a6]) [(.iload_n 2, 1, 0), (.dup2, 1, 0)] (by decide +kernel) rfl ?_
          obtain ⟨x7, gx7, hf⟩ := Option.bind_eq_some_iff.mp hf
          refine C.ald 0 rfl gx7 (by decide +kernel) rfl ?_
          refine C.seg (pe := 38) (lv' := [(0, .ref r0), (1, .int i1), (2, .int i2)]) (st' := [.int (x7 - 1), .int i2, .ref a6]) [(.iconst 1, 1, 1), (.isub, 1, 0)] (by decide +kernel) rfl ?_
          obtain ⟨h8, gh8, hf⟩ := Option.bind_eq_some_iff.mp hf
          refine C.ast gh8 (by decide +kernel) rfl ?_
          refine C.seg (pe := 40) (lv' := [(0, .ref r0), (1, .int i1), (2, .int i2)]) (st' := [.int i2]) [(.iload_n 2, 1, 0)] (by decide +kernel) rfl ?_
          cases hf
          exact C.retI rfl (by decide +kernel) ⟨rfl, rfl⟩
def f_X10_useTin (a0 : Nat) (p1 : Int32) (h : AH) : Option (Int32 × AH) :=
  if isO 10 h a0 = true then
    f_X10_useTin_2 FU a0 p1 0 h
  else none
set_option maxRecDepth 100000 in
set_option maxHeartbeats 4000000 in
theorem w_X10_useTin {l : Launch} {G : GX} {a0 : Nat} {p1 : Int32} {h : AH} {rr : Int32} {hr : AH} (hf : f_X10_useTin a0 p1 h = some (rr, hr)) : Ct l G yX10_useTin 0 0 [.ref a0, .int p1] h (QI rr hr) := by
  unfold f_X10_useTin at hf
  obtain ⟨ho, hf⟩ := ifO hf
  refine Ct_of (own := RX10) (cc := cX10_useTin) (nL := 3) (ret := (some .int)) rfl rfl k_1472 (Nat.le_of_ble_eq_true rfl) (fun X C2 C => ?_)
  show V X G h (QI rr hr) 0 [(0, .ref a0), (1, .int p1)] [] h
  refine C.seg (pe := 2) (lv' := [(2, .int 0), (0, .ref a0), (1, .int p1)]) (st' := []) [(.iconst 0, 1, 0), (.istore_n 2, 1, 0)] (by decide +kernel) rfl ?_
  refine Vsub [1, 2, 0] rfl ?_
  exact l_X10_useTin_2 C C2 FU a0 p1 0 h hf
theorem o_X10_useTin {a0 : Nat} {p1 : Int32} {h : AH} {rr : Int32} {hr : AH} (hf : f_X10_useTin a0 p1 h = some (rr, hr)) : isO 10 h a0 = true := by
  unfold f_X10_useTin at hf
  exact (ifO hf).1
/-! WallHouse$Works.finish(I)V -/
def f_X10_finish_108 (k31 : Nat → Int32 → Nat → Int32 → AH → Option (AH)) (r0 : Nat) (i1 : Int32) (r2 : Nat) (i3 : Int32) (h : AH) : Option (AH) :=
  k31 r0 i1 r2 (i3 + 1) h
set_option maxRecDepth 100000 in
set_option maxHeartbeats 4000000 in
theorem l_X10_finish_108 {X : MX} {l : Launch} {G : GX} {h0 : AH} {hr : AH} (C : Cx X G RX10 cX10_finish 6 none 1 22 h0) (C2 : Cy X l "finish" []) {k31 : Nat → Int32 → Nat → Int32 → AH → Option (AH)} (hk31 : ∀ (r0 : Nat) (i1 : Int32) (r2 : Nat) (i3 : Int32) (h : AH), k31 r0 i1 r2 i3 h = some hr → V X G h0 (QV hr) 31 [(0, .ref r0), (1, .int i1), (2, .ref r2), (3, .int i3)] [] h) (r0 : Nat) (i1 : Int32) (r2 : Nat) (i3 : Int32) (h : AH) (hf : f_X10_finish_108 k31 r0 i1 r2 i3 h = some hr) : V X G h0 (QV hr) 108 [(0, .ref r0), (1, .int i1), (2, .ref r2), (3, .int i3)] [] h := by
  unfold f_X10_finish_108 at hf
  refine C.seg (pe := 111) (lv' := [(3, .int (i3 + 1)), (0, .ref r0), (1, .int i1), (2, .ref r2)]) (st' := []) [(.iinc 3 1, 3, 1)] (by decide +kernel) rfl ?_
  refine C.goto (off := (-80)) (tgt := 31) (by decide +kernel) (by decide) ?_
  refine Vsub [1, 2, 3, 0] rfl ?_
  exact hk31 r0 i1 r2 (i3 + 1) h hf
def f_X10_finish_65 (k31 : Nat → Int32 → Nat → Int32 → AH → Option (AH)) (r0 : Nat) (i1 : Int32) (r2 : Nat) (i3 : Int32) (i4 : Int32) (si0 : Int32) (h : AH) : Option (AH) :=
  (gA 8 h r2 12).bind fun a1 =>
  (sI 1 h a1 i3 i4.toInt8.toInt32).bind fun h2 =>
  (gA 8 h2 r2 13).bind fun a3 =>
  (sI 1 h2 a3 i3 si0.toInt8.toInt32).bind fun h4 =>
  if i4 = (-1) then
    f_X10_finish_108 k31 r0 i1 r2 i3 h4
  else
    if si0 = (-2) then
      (gA 10 h4 r0 10).bind fun a5 =>
      (aI 0 h4 a5 i1).bind fun x6 =>
      (sI 0 h4 a5 i1 (x6 + 1)).bind fun h7 =>
      f_X10_finish_108 k31 r0 i1 r2 i3 h7
    else
      f_X10_finish_108 k31 r0 i1 r2 i3 h4
set_option maxRecDepth 100000 in
set_option maxHeartbeats 4000000 in
theorem l_X10_finish_65 {X : MX} {l : Launch} {G : GX} {h0 : AH} {hr : AH} (C : Cx X G RX10 cX10_finish 6 none 1 22 h0) (C2 : Cy X l "finish" []) {k31 : Nat → Int32 → Nat → Int32 → AH → Option (AH)} (hk31 : ∀ (r0 : Nat) (i1 : Int32) (r2 : Nat) (i3 : Int32) (h : AH), k31 r0 i1 r2 i3 h = some hr → V X G h0 (QV hr) 31 [(0, .ref r0), (1, .int i1), (2, .ref r2), (3, .int i3)] [] h) (r0 : Nat) (i1 : Int32) (r2 : Nat) (i3 : Int32) (i4 : Int32) (si0 : Int32) (h : AH) (hf : f_X10_finish_65 k31 r0 i1 r2 i3 i4 si0 h = some hr) : V X G h0 (QV hr) 65 [(0, .ref r0), (1, .int i1), (2, .ref r2), (3, .int i3), (4, .int i4)] [.int si0] h := by
  unfold f_X10_finish_65 at hf
  refine C.seg (pe := 68) (lv' := [(5, .int si0), (0, .ref r0), (1, .int i1), (2, .ref r2), (3, .int i3), (4, .int i4)]) (st' := [.ref r2]) [(.istore 5, 2, 0), (.aload_n 2, 1, 0)] (by decide +kernel) rfl ?_
  obtain ⟨a1, ga1, hf⟩ := Option.bind_eq_some_iff.mp hf
  refine C.rdA fr_671 ga1 (by decide +kernel) rfl ?_
  refine C.seg (pe := 75) (lv' := [(5, .int si0), (0, .ref r0), (1, .int i1), (2, .ref r2), (3, .int i3), (4, .int i4)]) (st' := [.int i4.toInt8.toInt32, .int i3, .ref a1]) [(.iload_n 3, 1, 0), (.iload 4, 2, 0), (.i2b, 1, 0)] (by decide +kernel) rfl ?_
  obtain ⟨h2, gh2, hf⟩ := Option.bind_eq_some_iff.mp hf
  refine C.bast gh2 (by decide +kernel) rfl ?_
  refine C.seg (pe := 77) (lv' := [(5, .int si0), (0, .ref r0), (1, .int i1), (2, .ref r2), (3, .int i3), (4, .int i4)]) (st' := [.ref r2]) [(.aload_n 2, 1, 0)] (by decide +kernel) rfl ?_
  obtain ⟨a3, ga3, hf⟩ := Option.bind_eq_some_iff.mp hf
  refine C.rdA fr_674 ga3 (by decide +kernel) rfl ?_
  refine C.seg (pe := 84) (lv' := [(5, .int si0), (0, .ref r0), (1, .int i1), (2, .ref r2), (3, .int i3), (4, .int i4)]) (st' := [.int si0.toInt8.toInt32, .int i3, .ref a3]) [(.iload_n 3, 1, 0), (.iload 5, 2, 0), (.i2b, 1, 0)] (by decide +kernel) rfl ?_
  obtain ⟨h4, gh4, hf⟩ := Option.bind_eq_some_iff.mp hf
  refine C.bast gh4 (by decide +kernel) rfl ?_
  refine C.seg (pe := 88) (lv' := [(5, .int si0), (0, .ref r0), (1, .int i1), (2, .ref r2), (3, .int i3), (4, .int i4)]) (st' := [.int (-1), .int i4]) [(.iload 4, 2, 0), (.iconst (-1), 1, (-1))] (by decide +kernel) rfl ?_
  refine C.icmp_eq (off := 20) (tgt := 108) (pf := 91) (by decide +kernel) (by decide) rfl (fun c9 => ?_) (fun c9 => ?_)
  · replace hf := ifp c9 hf
    refine Vsub [1, 2, 3, 4] rfl ?_
    exact l_X10_finish_108 C C2 hk31 r0 i1 r2 i3 h4 hf
  · replace hf := ifn c9 hf
    refine C.seg (pe := 95) (lv' := [(5, .int si0), (0, .ref r0), (1, .int i1), (2, .ref r2), (3, .int i3), (4, .int i4)]) (st' := [.int (-2), .int si0]) [(.iload 5, 2, 0), (.bipush (-2), 2, (-2))] (by decide +kernel) rfl ?_
    refine C.icmp_ne (off := 13) (tgt := 108) (pf := 98) (by decide +kernel) (by decide) rfl (fun c8 => ?_) (fun c8 => ?_)
    · replace hf := ifn c8 hf
      refine Vsub [1, 2, 3, 4] rfl ?_
      exact l_X10_finish_108 C C2 hk31 r0 i1 r2 i3 h4 hf
    · replace hf := ifp c8 hf
      refine C.seg (pe := 99) (lv' := [(5, .int si0), (0, .ref r0), (1, .int i1), (2, .ref r2), (3, .int i3), (4, .int i4)]) (st' := [.ref r0]) [(.aload_n 0, 1, 0)] (by decide +kernel) rfl ?_
      obtain ⟨a5, ga5, hf⟩ := Option.bind_eq_some_iff.mp hf
      refine C.rdA fr_235 ga5 (by decide +kernel) rfl ?_
      refine C.seg (pe := 104) (lv' := [(5, .int si0), (0, .ref r0), (1, .int i1), (2, .ref r2), (3, .int i3), (4, .int i4)]) (st' := [.int i1, .ref a5, .int i1, .ref a5]) [(.iload_n 1, 1, 0), (.dup2, 1, 0)] (by decide +kernel) rfl ?_
      obtain ⟨x6, gx6, hf⟩ := Option.bind_eq_some_iff.mp hf
      refine C.ald 0 rfl gx6 (by decide +kernel) rfl ?_
      refine C.seg (pe := 107) (lv' := [(5, .int si0), (0, .ref r0), (1, .int i1), (2, .ref r2), (3, .int i3), (4, .int i4)]) (st' := [.int (x6 + 1), .int i1, .ref a5]) [(.iconst 1, 1, 1), (.iadd, 1, 0)] (by decide +kernel) rfl ?_
      obtain ⟨h7, gh7, hf⟩ := Option.bind_eq_some_iff.mp hf
      refine C.ast gh7 (by decide +kernel) rfl ?_
      refine Vsub [1, 2, 3, 4] rfl ?_
      exact l_X10_finish_108 C C2 hk31 r0 i1 r2 i3 h7 hf
def f_X10_finish_31 : Nat → Nat → Int32 → Nat → Int32 → AH → Option (AH)
  | 0, _, _, _, _, _ => none
  | n + 1, r0, i1, r2, i3, h =>
    (gA 8 h r2 12).bind fun a1 =>
    (aN h a1).bind fun x2 =>
    if x2 ≤ i3 then
      (pI 8 h r2 8 (-2)).bind fun h3 =>
      (pI 8 h3 r2 9 i1).bind fun h4 =>
      (gI 10 h4 r0 14).bind fun x5 =>
      (pI 8 h4 r2 10 x5).bind fun h6 =>
      some h6
    else
      (gA 8 h r2 14).bind fun a7 =>
      (aI 1 h a7 i3).bind fun x8 =>
      if x8 = (-1) then
        f_X10_finish_65 (f_X10_finish_31 n) r0 i1 r2 i3 x8 (-2) h
      else
        b2 (f_X10_useTin r0 x8 h) fun x9 h10 =>
        f_X10_finish_65 (f_X10_finish_31 n) r0 i1 r2 i3 x8 x9 h10
set_option maxRecDepth 100000 in
set_option maxHeartbeats 4000000 in
theorem l_X10_finish_31 {X : MX} {l : Launch} {G : GX} {h0 : AH} {hr : AH} (C : Cx X G RX10 cX10_finish 6 none 1 22 h0) (C2 : Cy X l "finish" []) : ∀ (n : Nat) (r0 : Nat) (i1 : Int32) (r2 : Nat) (i3 : Int32) (h : AH), f_X10_finish_31 n r0 i1 r2 i3 h = some hr → V X G h0 (QV hr) 31 [(0, .ref r0), (1, .int i1), (2, .ref r2), (3, .int i3)] [] h := by
  intro n
  induction n with
  | zero => intro r0 i1 r2 i3 h hf; rw [f_X10_finish_31] at hf; cases hf
  | succ n ih =>
    intro r0 i1 r2 i3 h hf
    rw [f_X10_finish_31] at hf
    refine C.seg (pe := 33) (lv' := [(0, .ref r0), (1, .int i1), (2, .ref r2), (3, .int i3)]) (st' := [.ref r2, .int i3]) [(.iload_n 3, 1, 0), (.aload_n 2, 1, 0)] (by decide +kernel) rfl ?_
    obtain ⟨a1, ga1, hf⟩ := Option.bind_eq_some_iff.mp hf
    refine C.rdA fr_671 ga1 (by decide +kernel) rfl ?_
    obtain ⟨x2, gx2, hf⟩ := Option.bind_eq_some_iff.mp hf
    refine C.alen gx2 (by decide +kernel) rfl ?_
    refine C.icmp_ge (off := 77) (tgt := 114) (pf := 40) (by decide +kernel) (by decide) rfl (fun c12 => ?_) (fun c12 => ?_)
    · replace hf := ifp c12 hf
      refine C.seg (pe := 117) (lv' := [(0, .ref r0), (1, .int i1), (2, .ref r2), (3, .int i3)]) (st' := [.int (-2), .ref r2]) [(.aload_n 2, 1, 0), (.bipush (-2), 2, (-2))] (by decide +kernel) rfl ?_
      obtain ⟨h3, gh3, hf⟩ := Option.bind_eq_some_iff.mp hf
      refine C.putI fl_662 gh3 (by decide +kernel) rfl ?_
      refine C.seg (pe := 122) (lv' := [(0, .ref r0), (1, .int i1), (2, .ref r2), (3, .int i3)]) (st' := [.int i1, .ref r2]) [(.aload_n 2, 1, 0), (.iload_n 1, 1, 0)] (by decide +kernel) rfl ?_
      obtain ⟨h4, gh4, hf⟩ := Option.bind_eq_some_iff.mp hf
      refine C.putI fl_665 gh4 (by decide +kernel) rfl ?_
      refine C.seg (pe := 127) (lv' := [(0, .ref r0), (1, .int i1), (2, .ref r2), (3, .int i3)]) (st' := [.ref r0, .ref r2]) [(.aload_n 2, 1, 0), (.aload_n 0, 1, 0)] (by decide +kernel) rfl ?_
      obtain ⟨x5, gx5, hf⟩ := Option.bind_eq_some_iff.mp hf
      refine C.rdI fr_240 gx5 (by decide +kernel) rfl ?_
      obtain ⟨h6, gh6, hf⟩ := Option.bind_eq_some_iff.mp hf
      refine C.putI fl_667 gh6 (by decide +kernel) rfl ?_
      cases hf
      exact C.retV rfl (by decide +kernel) ⟨rfl, rfl⟩
    · replace hf := ifn c12 hf
      refine C.seg (pe := 41) (lv' := [(0, .ref r0), (1, .int i1), (2, .ref r2), (3, .int i3)]) (st' := [.ref r2]) [(.aload_n 2, 1, 0)] (by decide +kernel) rfl ?_
      obtain ⟨a7, ga7, hf⟩ := Option.bind_eq_some_iff.mp hf
      refine C.rdA fr_676 ga7 (by decide +kernel) rfl ?_
      refine C.seg (pe := 45) (lv' := [(0, .ref r0), (1, .int i1), (2, .ref r2), (3, .int i3)]) (st' := [.int i3, .ref a7]) [(.iload_n 3, 1, 0)] (by decide +kernel) rfl ?_
      obtain ⟨x8, gx8, hf⟩ := Option.bind_eq_some_iff.mp hf
      refine C.bald 1 rfl gx8 (by decide +kernel) rfl ?_
      refine C.seg (pe := 51) (lv' := [(4, .int x8), (0, .ref r0), (1, .int i1), (2, .ref r2), (3, .int i3)]) (st' := [.int (-1), .int x8]) [(.istore 4, 2, 0), (.iload 4, 2, 0), (.iconst (-1), 1, (-1))] (by decide +kernel) rfl ?_
      refine C.icmp_ne (off := 8) (tgt := 59) (pf := 54) (by decide +kernel) (by decide) rfl (fun c11 => ?_) (fun c11 => ?_)
      · replace hf := ifn c11 hf
        refine C.seg (pe := 62) (lv' := [(4, .int x8), (0, .ref r0), (1, .int i1), (2, .ref r2), (3, .int i3)]) (st' := [.int x8, .ref r0]) [(.aload_n 0, 1, 0), (.iload 4, 2, 0)] (by decide +kernel) rfl ?_
        obtain ⟨x9, h10, gx9, hf⟩ := b2_some hf
        refine C.callVr C2 [.int x8] [] mv_1469 rfl (o_X10_useTin gx9) (w_X10_useTin gx9) (by omega) (by omega) (Nat.le_of_ble_eq_true rfl) (by decide +kernel) rfl ?_
        refine Vsub [1, 2, 3, 4, 0] rfl ?_
        exact l_X10_finish_65 C C2 ih r0 i1 r2 i3 x8 x9 h10 hf
      · replace hf := ifp c11 hf
        refine C.seg (pe := 56) (lv' := [(4, .int x8), (0, .ref r0), (1, .int i1), (2, .ref r2), (3, .int i3)]) (st' := [.int (-2)]) [(.bipush (-2), 2, (-2))] (by decide +kernel) rfl ?_
        refine C.goto (off := 9) (tgt := 65) (by decide +kernel) (by decide) ?_
        refine Vsub [1, 2, 3, 4, 0] rfl ?_
        exact l_X10_finish_65 C C2 ih r0 i1 r2 i3 x8 (-2) h hf
def f_X10_finish (a0 : Nat) (p1 : Int32) (h : AH) : Option (AH) :=
  if isO 10 h a0 = true then
    (gA 10 h a0 8).bind fun a1 =>
    (gI 10 h a0 14).bind fun x2 =>
    (sI 0 h a1 p1 x2).bind fun h3 =>
    (gA 10 h3 a0 0).bind fun a4 =>
    (gA 10 h3 a0 2).bind fun a5 =>
    (aI 0 h3 a5 p1).bind fun x6 =>
    b2 (f_X9_at a4 x6 h3) fun q7 h8 =>
    tr q7 (
      some h8) fun a9 =>
    f_X10_finish_31 FU a0 p1 a9 0 h8
  else none
set_option maxRecDepth 100000 in
set_option maxHeartbeats 4000000 in
theorem w_X10_finish {l : Launch} {G : GX} {a0 : Nat} {p1 : Int32} {h : AH} {hr : AH} (hf : f_X10_finish a0 p1 h = some hr) : Ct l G yX10_finish 1 22 [.ref a0, .int p1] h (QV hr) := by
  unfold f_X10_finish at hf
  obtain ⟨ho, hf⟩ := ifO hf
  refine Ct_of (own := RX10) (cc := cX10_finish) (nL := 6) (ret := none) rfl rfl k_1468 (Nat.le_of_ble_eq_true rfl) (fun X C2 C => ?_)
  show V X G h (QV hr) 0 [(0, .ref a0), (1, .int p1)] [] h
  refine C.seg (pe := 1) (lv' := [(0, .ref a0), (1, .int p1)]) (st' := [.ref a0]) [(.aload_n 0, 1, 0)] (by decide +kernel) rfl ?_
  obtain ⟨a1, ga1, hf⟩ := Option.bind_eq_some_iff.mp hf
  refine C.rdA fr_233 ga1 (by decide +kernel) rfl ?_
  refine C.seg (pe := 6) (lv' := [(0, .ref a0), (1, .int p1)]) (st' := [.ref a0, .int p1, .ref a1]) [(.iload_n 1, 1, 0), (.aload_n 0, 1, 0)] (by decide +kernel) rfl ?_
  obtain ⟨x2, gx2, hf⟩ := Option.bind_eq_some_iff.mp hf
  refine C.rdI fr_240 gx2 (by decide +kernel) rfl ?_
  obtain ⟨h3, gh3, hf⟩ := Option.bind_eq_some_iff.mp hf
  refine C.ast gh3 (by decide +kernel) rfl ?_
  refine C.seg (pe := 11) (lv' := [(0, .ref a0), (1, .int p1)]) (st' := [.ref a0]) [(.aload_n 0, 1, 0)] (by decide +kernel) rfl ?_
  obtain ⟨a4, ga4, hf⟩ := Option.bind_eq_some_iff.mp hf
  refine C.rdA fr_224 ga4 (by decide +kernel) rfl ?_
  refine C.seg (pe := 15) (lv' := [(0, .ref a0), (1, .int p1)]) (st' := [.ref a0, .ref a4]) [(.aload_n 0, 1, 0)] (by decide +kernel) rfl ?_
  obtain ⟨a5, ga5, hf⟩ := Option.bind_eq_some_iff.mp hf
  refine C.rdA fr_227 ga5 (by decide +kernel) rfl ?_
  refine C.seg (pe := 19) (lv' := [(0, .ref a0), (1, .int p1)]) (st' := [.int p1, .ref a5, .ref a4]) [(.iload_n 1, 1, 0)] (by decide +kernel) rfl ?_
  obtain ⟨x6, gx6, hf⟩ := Option.bind_eq_some_iff.mp hf
  refine C.ald 0 rfl gx6 (by decide +kernel) rfl ?_
  obtain ⟨q7, h8, gq7, hf⟩ := b2_some hf
  cases q7 with
  | none =>
    replace hf := tr_none hf
    refine C.callVr C2 [.int x6] [] mv_1393 rfl (o_X9_at gq7) (w_X9_at gq7) (by omega) (by omega) (Nat.le_of_ble_eq_true rfl) (by decide +kernel) rfl ?_
    refine C.seg (pe := 25) (lv' := [(2, .null), (0, .ref a0), (1, .int p1)]) (st' := [.null]) [(.astore_n 2, 1, 0), (.aload_n 2, 1, 0)] (by decide +kernel) rfl ?_
    refine C.nonnullN (off := 4) (pf := 28) (by decide +kernel) rfl ?_
    cases hf
    exact C.retV rfl (by decide +kernel) ⟨rfl, rfl⟩
  | some a9 =>
    replace hf := tr_some hf
    refine C.callVr C2 [.int x6] [] mv_1393 rfl (o_X9_at gq7) (w_X9_at gq7) (by omega) (by omega) (Nat.le_of_ble_eq_true rfl) (by decide +kernel) rfl ?_
    refine C.seg (pe := 25) (lv' := [(2, .ref a9), (0, .ref a0), (1, .int p1)]) (st' := [.ref a9]) [(.astore_n 2, 1, 0), (.aload_n 2, 1, 0)] (by decide +kernel) rfl ?_
    refine C.nonnullR (off := 4) (tgt := 29) (by decide +kernel) (by decide) ?_
    refine C.seg (pe := 31) (lv' := [(3, .int 0), (2, .ref a9), (0, .ref a0), (1, .int p1)]) (st' := []) [(.iconst 0, 1, 0), (.istore_n 3, 1, 0)] (by decide +kernel) rfl ?_
    refine Vsub [2, 3, 1, 0] rfl ?_
    exact l_X10_finish_31 C C2 FU a0 p1 a9 0 h8 hf
theorem o_X10_finish {a0 : Nat} {p1 : Int32} {h : AH} {hr : AH} (hf : f_X10_finish a0 p1 h = some hr) : isO 10 h a0 = true := by
  unfold f_X10_finish at hf
  exact (ifO hf).1
/-! WallHouse$Works.finishDone()I -/
def f_X10_finishDone_46 (k4 : Nat → Int32 → Int32 → AH → Option (Int32 × AH)) (r0 : Nat) (i1 : Int32) (i2 : Int32) (h : AH) : Option (Int32 × AH) :=
  k4 r0 i1 (i2 + 1) h
set_option maxRecDepth 100000 in
set_option maxHeartbeats 4000000 in
theorem l_X10_finishDone_46 {X : MX} {l : Launch} {G : GX} {h0 : AH} {rr : Int32} {hr : AH} (C : Cx X G RX10 cX10_finishDone 3 (some .int) 2 47 h0) (C2 : Cy X l "finishDone" []) {k4 : Nat → Int32 → Int32 → AH → Option (Int32 × AH)} (hk4 : ∀ (r0 : Nat) (i1 : Int32) (i2 : Int32) (h : AH), k4 r0 i1 i2 h = some (rr, hr) → V X G h0 (QI rr hr) 4 [(0, .ref r0), (1, .int i1), (2, .int i2)] [] h) (r0 : Nat) (i1 : Int32) (i2 : Int32) (h : AH) (hf : f_X10_finishDone_46 k4 r0 i1 i2 h = some (rr, hr)) : V X G h0 (QI rr hr) 46 [(0, .ref r0), (1, .int i1), (2, .int i2)] [] h := by
  unfold f_X10_finishDone_46 at hf
  refine C.seg (pe := 49) (lv' := [(2, .int (i2 + 1)), (0, .ref r0), (1, .int i1)]) (st' := []) [(.iinc 2 1, 3, 1)] (by decide +kernel) rfl ?_
  refine C.goto (off := (-45)) (tgt := 4) (by decide +kernel) (by decide) ?_
  refine Vsub [1, 2, 0] rfl ?_
  exact hk4 r0 i1 (i2 + 1) h hf
def f_X10_finishDone_4 : Nat → Nat → Int32 → Int32 → AH → Option (Int32 × AH)
  | 0, _, _, _, _ => none
  | n + 1, r0, i1, i2, h =>
    (gI 10 h r0 1).bind fun x1 =>
    if x1 ≤ i2 then
      some (i1, h)
    else
      (gA 10 h r0 8).bind fun a2 =>
      (aI 0 h a2 i2).bind fun x3 =>
      if x3 = (-2) then
        (gA 10 h r0 6).bind fun a4 =>
        (aI 0 h a4 i2).bind fun x5 =>
        (gA 10 h r0 5).bind fun a6 =>
        (aI 0 h a6 i2).bind fun x7 =>
        if x5 < x7 then
          f_X10_finishDone_46 (f_X10_finishDone_4 n) r0 i1 i2 h
        else
          (f_X10_finish r0 i2 h).bind fun h8 =>
          f_X10_finishDone_46 (f_X10_finishDone_4 n) r0 (i1 + 1) i2 h8
      else
        f_X10_finishDone_46 (f_X10_finishDone_4 n) r0 i1 i2 h
set_option maxRecDepth 100000 in
set_option maxHeartbeats 4000000 in
theorem l_X10_finishDone_4 {X : MX} {l : Launch} {G : GX} {h0 : AH} {rr : Int32} {hr : AH} (C : Cx X G RX10 cX10_finishDone 3 (some .int) 2 47 h0) (C2 : Cy X l "finishDone" []) : ∀ (n : Nat) (r0 : Nat) (i1 : Int32) (i2 : Int32) (h : AH), f_X10_finishDone_4 n r0 i1 i2 h = some (rr, hr) → V X G h0 (QI rr hr) 4 [(0, .ref r0), (1, .int i1), (2, .int i2)] [] h := by
  intro n
  induction n with
  | zero => intro r0 i1 i2 h hf; rw [f_X10_finishDone_4] at hf; cases hf
  | succ n ih =>
    intro r0 i1 i2 h hf
    rw [f_X10_finishDone_4] at hf
    refine C.seg (pe := 6) (lv' := [(0, .ref r0), (1, .int i1), (2, .int i2)]) (st' := [.ref r0, .int i2]) [(.iload_n 2, 1, 0), (.aload_n 0, 1, 0)] (by decide +kernel) rfl ?_
    obtain ⟨x1, gx1, hf⟩ := Option.bind_eq_some_iff.mp hf
    refine C.rdI fr_225 gx1 (by decide +kernel) rfl ?_
    refine C.icmp_ge (off := 43) (tgt := 52) (pf := 12) (by decide +kernel) (by decide) rfl (fun c11 => ?_) (fun c11 => ?_)
    · replace hf := ifp c11 hf
      refine C.seg (pe := 53) (lv' := [(0, .ref r0), (1, .int i1), (2, .int i2)]) (st' := [.int i1]) [(.iload_n 1, 1, 0)] (by decide +kernel) rfl ?_
      cases hf
      exact C.retI rfl (by decide +kernel) ⟨rfl, rfl⟩
    · replace hf := ifn c11 hf
      refine C.seg (pe := 13) (lv' := [(0, .ref r0), (1, .int i1), (2, .int i2)]) (st' := [.ref r0]) [(.aload_n 0, 1, 0)] (by decide +kernel) rfl ?_
      obtain ⟨a2, ga2, hf⟩ := Option.bind_eq_some_iff.mp hf
      refine C.rdA fr_233 ga2 (by decide +kernel) rfl ?_
      refine C.seg (pe := 17) (lv' := [(0, .ref r0), (1, .int i1), (2, .int i2)]) (st' := [.int i2, .ref a2]) [(.iload_n 2, 1, 0)] (by decide +kernel) rfl ?_
      obtain ⟨x3, gx3, hf⟩ := Option.bind_eq_some_iff.mp hf
      refine C.ald 0 rfl gx3 (by decide +kernel) rfl ?_
      refine C.seg (pe := 20) (lv' := [(0, .ref r0), (1, .int i1), (2, .int i2)]) (st' := [.int (-2), .int x3]) [(.bipush (-2), 2, (-2))] (by decide +kernel) rfl ?_
      refine C.icmp_ne (off := 26) (tgt := 46) (pf := 23) (by decide +kernel) (by decide) rfl (fun c10 => ?_) (fun c10 => ?_)
      · replace hf := ifn c10 hf
        exact l_X10_finishDone_46 C C2 ih r0 i1 i2 h hf
      · replace hf := ifp c10 hf
        refine C.seg (pe := 24) (lv' := [(0, .ref r0), (1, .int i1), (2, .int i2)]) (st' := [.ref r0]) [(.aload_n 0, 1, 0)] (by decide +kernel) rfl ?_
        obtain ⟨a4, ga4, hf⟩ := Option.bind_eq_some_iff.mp hf
        refine C.rdA fr_231 ga4 (by decide +kernel) rfl ?_
        refine C.seg (pe := 28) (lv' := [(0, .ref r0), (1, .int i1), (2, .int i2)]) (st' := [.int i2, .ref a4]) [(.iload_n 2, 1, 0)] (by decide +kernel) rfl ?_
        obtain ⟨x5, gx5, hf⟩ := Option.bind_eq_some_iff.mp hf
        refine C.ald 0 rfl gx5 (by decide +kernel) rfl ?_
        refine C.seg (pe := 30) (lv' := [(0, .ref r0), (1, .int i1), (2, .int i2)]) (st' := [.ref r0, .int x5]) [(.aload_n 0, 1, 0)] (by decide +kernel) rfl ?_
        obtain ⟨a6, ga6, hf⟩ := Option.bind_eq_some_iff.mp hf
        refine C.rdA fr_230 ga6 (by decide +kernel) rfl ?_
        refine C.seg (pe := 34) (lv' := [(0, .ref r0), (1, .int i1), (2, .int i2)]) (st' := [.int i2, .ref a6, .int x5]) [(.iload_n 2, 1, 0)] (by decide +kernel) rfl ?_
        obtain ⟨x7, gx7, hf⟩ := Option.bind_eq_some_iff.mp hf
        refine C.ald 0 rfl gx7 (by decide +kernel) rfl ?_
        refine C.icmp_lt (off := 11) (tgt := 46) (pf := 38) (by decide +kernel) (by decide) rfl (fun c9 => ?_) (fun c9 => ?_)
        · replace hf := ifp c9 hf
          exact l_X10_finishDone_46 C C2 ih r0 i1 i2 h hf
        · replace hf := ifn c9 hf
          refine C.seg (pe := 40) (lv' := [(0, .ref r0), (1, .int i1), (2, .int i2)]) (st' := [.int i2, .ref r0]) [(.aload_n 0, 1, 0), (.iload_n 2, 1, 0)] (by decide +kernel) rfl ?_
          obtain ⟨h8, gh8, hf⟩ := Option.bind_eq_some_iff.mp hf
          refine C.callVr C2 [.int i2] [] mv_1465 rfl (o_X10_finish gh8) (w_X10_finish gh8) (by omega) (by omega) (Nat.le_of_ble_eq_true rfl) (by decide +kernel) rfl ?_
          refine C.seg (pe := 46) (lv' := [(1, .int (i1 + 1)), (0, .ref r0), (2, .int i2)]) (st' := []) [(.iinc 1 1, 3, 1)] (by decide +kernel) rfl ?_
          refine Vsub [1, 0, 2] rfl ?_
          exact l_X10_finishDone_46 C C2 ih r0 (i1 + 1) i2 h8 hf
def f_X10_finishDone (a0 : Nat) (h : AH) : Option (Int32 × AH) :=
  if isO 10 h a0 = true then
    f_X10_finishDone_4 FU a0 0 0 h
  else none
set_option maxRecDepth 100000 in
set_option maxHeartbeats 4000000 in
theorem w_X10_finishDone {l : Launch} {G : GX} {a0 : Nat} {h : AH} {rr : Int32} {hr : AH} (hf : f_X10_finishDone a0 h = some (rr, hr)) : Ct l G yX10_finishDone 2 47 [.ref a0] h (QI rr hr) := by
  unfold f_X10_finishDone at hf
  obtain ⟨ho, hf⟩ := ifO hf
  refine Ct_of (own := RX10) (cc := cX10_finishDone) (nL := 3) (ret := (some .int)) rfl rfl k_1464 (Nat.le_of_ble_eq_true rfl) (fun X C2 C => ?_)
  show V X G h (QI rr hr) 0 [(0, .ref a0)] [] h
  refine C.seg (pe := 4) (lv' := [(2, .int 0), (1, .int 0), (0, .ref a0)]) (st' := []) [(.iconst 0, 1, 0), (.istore_n 1, 1, 0), (.iconst 0, 1, 0), (.istore_n 2, 1, 0)] (by decide +kernel) rfl ?_
  refine Vsub [2, 1, 0] rfl ?_
  exact l_X10_finishDone_4 C C2 FU a0 0 0 h hf
theorem o_X10_finishDone {a0 : Nat} {h : AH} {rr : Int32} {hr : AH} (hf : f_X10_finishDone a0 h = some (rr, hr)) : isO 10 h a0 = true := by
  unfold f_X10_finishDone at hf
  exact (ifO hf).1
/-! WallHouse$Works.goBy(I)I -/
def f_X10_goBy_61 (i2 : Int32) (h : AH) : Option (Int32 × AH) :=
  some (i2, h)
set_option maxRecDepth 100000 in
set_option maxHeartbeats 4000000 in
theorem l_X10_goBy_61 {X : MX} {l : Launch} {G : GX} {h0 : AH} {rr : Int32} {hr : AH} (C : Cx X G RX10 cX10_goBy 4 (some .int) 3 69 h0) (C2 : Cy X l "goBy" []) (i2 : Int32) (h : AH) (hf : f_X10_goBy_61 i2 h = some (rr, hr)) : V X G h0 (QI rr hr) 61 [(2, .int i2)] [] h := by
  unfold f_X10_goBy_61 at hf
  refine C.seg (pe := 62) (lv' := [(2, .int i2)]) (st' := [.int i2]) [(.iload_n 2, 1, 0)] (by decide +kernel) rfl ?_
  cases hf
  exact C.retI rfl (by decide +kernel) ⟨rfl, rfl⟩
def f_X10_goBy_45 (k4 : Nat → Int32 → Int32 → Int32 → AH → Option (Int32 × AH)) (r0 : Nat) (i1 : Int32) (i2 : Int32) (i3 : Int32) (h : AH) : Option (Int32 × AH) :=
  (gI 10 h r0 14).bind fun x1 =>
  (pI 10 h r0 14 (x1 + 1)).bind fun h2 =>
  k4 r0 i1 i2 (i3 + 1) h2
set_option maxRecDepth 100000 in
set_option maxHeartbeats 4000000 in
theorem l_X10_goBy_45 {X : MX} {l : Launch} {G : GX} {h0 : AH} {rr : Int32} {hr : AH} (C : Cx X G RX10 cX10_goBy 4 (some .int) 3 69 h0) (C2 : Cy X l "goBy" []) {k4 : Nat → Int32 → Int32 → Int32 → AH → Option (Int32 × AH)} (hk4 : ∀ (r0 : Nat) (i1 : Int32) (i2 : Int32) (i3 : Int32) (h : AH), k4 r0 i1 i2 i3 h = some (rr, hr) → V X G h0 (QI rr hr) 4 [(0, .ref r0), (1, .int i1), (2, .int i2), (3, .int i3)] [] h) (r0 : Nat) (i1 : Int32) (i2 : Int32) (i3 : Int32) (h : AH) (hf : f_X10_goBy_45 k4 r0 i1 i2 i3 h = some (rr, hr)) : V X G h0 (QI rr hr) 45 [(0, .ref r0), (1, .int i1), (2, .int i2), (3, .int i3)] [] h := by
  unfold f_X10_goBy_45 at hf
  refine C.seg (pe := 47) (lv' := [(0, .ref r0), (1, .int i1), (2, .int i2), (3, .int i3)]) (st' := [.ref r0, .ref r0]) [(.aload_n 0, 1, 0), (.dup, 1, 0)] (by decide +kernel) rfl ?_
  obtain ⟨x1, gx1, hf⟩ := Option.bind_eq_some_iff.mp hf
  refine C.rdI fr_240 gx1 (by decide +kernel) rfl ?_
  refine C.seg (pe := 52) (lv' := [(0, .ref r0), (1, .int i1), (2, .int i2), (3, .int i3)]) (st' := [.int (x1 + 1), .ref r0]) [(.iconst 1, 1, 1), (.iadd, 1, 0)] (by decide +kernel) rfl ?_
  obtain ⟨h2, gh2, hf⟩ := Option.bind_eq_some_iff.mp hf
  refine C.putI fl_240 gh2 (by decide +kernel) rfl ?_
  refine C.seg (pe := 58) (lv' := [(3, .int (i3 + 1)), (0, .ref r0), (1, .int i1), (2, .int i2)]) (st' := []) [(.iinc 3 1, 3, 1)] (by decide +kernel) rfl ?_
  refine C.goto (off := (-54)) (tgt := 4) (by decide +kernel) (by decide) ?_
  refine Vsub [1, 2, 3, 0] rfl ?_
  exact hk4 r0 i1 i2 (i3 + 1) h2 hf
def f_X10_goBy_4 : Nat → Nat → Int32 → Int32 → Int32 → AH → Option (Int32 × AH)
  | 0, _, _, _, _, _ => none
  | n + 1, r0, i1, i2, i3, h =>
    if i1 ≤ i3 then
      f_X10_goBy_61 i2 h
    else
      (gI 10 h r0 14).bind fun x1 =>
      if 3649 ≤ x1 then
        f_X10_goBy_61 i2 h
      else
        (gI 10 h r0 14).bind fun x2 =>
        b2 (f_X10_isGoodDay r0 x2 h) fun x3 h4 =>
        if x3 = 0 then
          f_X10_goBy_45 (f_X10_goBy_4 n) r0 i1 i2 i3 h4
        else
          (gA 10 h4 r0 6).bind fun a5 =>
          (f_X10_bringOn r0 a5 h4).bind fun h6 =>
          b2 (f_X10_finishDone r0 h6) fun x7 h8 =>
          f_X10_goBy_45 (f_X10_goBy_4 n) r0 i1 (i2 + x7) i3 h8
set_option maxRecDepth 100000 in
set_option maxHeartbeats 4000000 in
theorem l_X10_goBy_4 {X : MX} {l : Launch} {G : GX} {h0 : AH} {rr : Int32} {hr : AH} (C : Cx X G RX10 cX10_goBy 4 (some .int) 3 69 h0) (C2 : Cy X l "goBy" []) : ∀ (n : Nat) (r0 : Nat) (i1 : Int32) (i2 : Int32) (i3 : Int32) (h : AH), f_X10_goBy_4 n r0 i1 i2 i3 h = some (rr, hr) → V X G h0 (QI rr hr) 4 [(0, .ref r0), (1, .int i1), (2, .int i2), (3, .int i3)] [] h := by
  intro n
  induction n with
  | zero => intro r0 i1 i2 i3 h hf; rw [f_X10_goBy_4] at hf; cases hf
  | succ n ih =>
    intro r0 i1 i2 i3 h hf
    rw [f_X10_goBy_4] at hf
    refine C.seg (pe := 6) (lv' := [(0, .ref r0), (1, .int i1), (2, .int i2), (3, .int i3)]) (st' := [.int i1, .int i3]) [(.iload_n 3, 1, 0), (.iload_n 1, 1, 0)] (by decide +kernel) rfl ?_
    refine C.icmp_ge (off := 55) (tgt := 61) (pf := 9) (by decide +kernel) (by decide) rfl (fun c11 => ?_) (fun c11 => ?_)
    · replace hf := ifp c11 hf
      refine Vsub [2] rfl ?_
      exact l_X10_goBy_61 C C2 i2 h hf
    · replace hf := ifn c11 hf
      refine C.seg (pe := 10) (lv' := [(0, .ref r0), (1, .int i1), (2, .int i2), (3, .int i3)]) (st' := [.ref r0]) [(.aload_n 0, 1, 0)] (by decide +kernel) rfl ?_
      obtain ⟨x1, gx1, hf⟩ := Option.bind_eq_some_iff.mp hf
      refine C.rdI fr_240 gx1 (by decide +kernel) rfl ?_
      refine C.seg (pe := 16) (lv' := [(0, .ref r0), (1, .int i1), (2, .int i2), (3, .int i3)]) (st' := [.int 3649, .int x1]) [(.sipush 3649, 3, 3649)] (by decide +kernel) rfl ?_
      refine C.icmp_ge (off := 45) (tgt := 61) (pf := 19) (by decide +kernel) (by decide) rfl (fun c10 => ?_) (fun c10 => ?_)
      · replace hf := ifp c10 hf
        refine Vsub [2] rfl ?_
        exact l_X10_goBy_61 C C2 i2 h hf
      · replace hf := ifn c10 hf
        refine C.seg (pe := 21) (lv' := [(0, .ref r0), (1, .int i1), (2, .int i2), (3, .int i3)]) (st' := [.ref r0, .ref r0]) [(.aload_n 0, 1, 0), (.aload_n 0, 1, 0)] (by decide +kernel) rfl ?_
        obtain ⟨x2, gx2, hf⟩ := Option.bind_eq_some_iff.mp hf
        refine C.rdI fr_240 gx2 (by decide +kernel) rfl ?_
        obtain ⟨x3, h4, gx3, hf⟩ := b2_some hf
        refine C.callVr C2 [.int x2] [] mv_1421 rfl (o_X10_isGoodDay gx3) (w_X10_isGoodDay gx3) (by omega) (by omega) (Nat.le_of_ble_eq_true rfl) (by decide +kernel) rfl ?_
        refine C.if_eq (off := 18) (tgt := 45) (pf := 30) (by decide +kernel) (by decide) rfl (fun c9 => ?_) (fun c9 => ?_)
        · replace hf := ifp c9 hf
          exact l_X10_goBy_45 C C2 ih r0 i1 i2 i3 h4 hf
        · replace hf := ifn c9 hf
          refine C.seg (pe := 32) (lv' := [(0, .ref r0), (1, .int i1), (2, .int i2), (3, .int i3)]) (st' := [.ref r0, .ref r0]) [(.aload_n 0, 1, 0), (.aload_n 0, 1, 0)] (by decide +kernel) rfl ?_
          obtain ⟨a5, ga5, hf⟩ := Option.bind_eq_some_iff.mp hf
          refine C.rdA fr_231 ga5 (by decide +kernel) rfl ?_
          obtain ⟨h6, gh6, hf⟩ := Option.bind_eq_some_iff.mp hf
          refine C.callVr C2 [.ref a5] [] mv_1425 rfl (o_X10_bringOn gh6) (w_X10_bringOn gh6) (by omega) (by omega) (Nat.le_of_ble_eq_true rfl) (by decide +kernel) rfl ?_
          refine C.seg (pe := 40) (lv' := [(0, .ref r0), (1, .int i1), (2, .int i2), (3, .int i3)]) (st' := [.ref r0, .int i2]) [(.iload_n 2, 1, 0), (.aload_n 0, 1, 0)] (by decide +kernel) rfl ?_
          obtain ⟨x7, h8, gx7, hf⟩ := b2_some hf
          refine C.callVr C2 [] [.int i2] mv_1461 rfl (o_X10_finishDone gx7) (w_X10_finishDone gx7) (by omega) (by omega) (Nat.le_of_ble_eq_true rfl) (by decide +kernel) rfl ?_
          refine C.seg (pe := 45) (lv' := [(2, .int (i2 + x7)), (0, .ref r0), (1, .int i1), (3, .int i3)]) (st' := []) [(.iadd, 1, 0), (.istore_n 2, 1, 0)] (by decide +kernel) rfl ?_
          refine Vsub [1, 2, 0, 3] rfl ?_
          exact l_X10_goBy_45 C C2 ih r0 i1 (i2 + x7) i3 h8 hf
def f_X10_goBy (a0 : Nat) (p1 : Int32) (h : AH) : Option (Int32 × AH) :=
  if isO 10 h a0 = true then
    f_X10_goBy_4 FU a0 p1 0 0 h
  else none
set_option maxRecDepth 100000 in
set_option maxHeartbeats 4000000 in
theorem w_X10_goBy {l : Launch} {G : GX} {a0 : Nat} {p1 : Int32} {h : AH} {rr : Int32} {hr : AH} (hf : f_X10_goBy a0 p1 h = some (rr, hr)) : Ct l G yX10_goBy 3 69 [.ref a0, .int p1] h (QI rr hr) := by
  unfold f_X10_goBy at hf
  obtain ⟨ho, hf⟩ := ifO hf
  refine Ct_of (own := RX10) (cc := cX10_goBy) (nL := 4) (ret := (some .int)) rfl rfl k_1460 (Nat.le_of_ble_eq_true rfl) (fun X C2 C => ?_)
  show V X G h (QI rr hr) 0 [(0, .ref a0), (1, .int p1)] [] h
  refine C.seg (pe := 4) (lv' := [(3, .int 0), (2, .int 0), (0, .ref a0), (1, .int p1)]) (st' := []) [(.iconst 0, 1, 0), (.istore_n 2, 1, 0), (.iconst 0, 1, 0), (.istore_n 3, 1, 0)] (by decide +kernel) rfl ?_
  refine Vsub [2, 3, 1, 0] rfl ?_
  exact l_X10_goBy_4 C C2 FU a0 p1 0 0 h hf
theorem o_X10_goBy {a0 : Nat} {p1 : Int32} {h : AH} {rr : Int32} {hr : AH} (hf : f_X10_goBy a0 p1 h = some (rr, hr)) : isO 10 h a0 = true := by
  unfold f_X10_goBy at hf
  exact (ifO hf).1
/-! WallHouse$Works.overCount()I -/
def f_X10_overCount_30 (k4 : Nat → Int32 → Int32 → AH → Option (Int32 × AH)) (r0 : Nat) (i1 : Int32) (i2 : Int32) (h : AH) : Option (Int32 × AH) :=
  k4 r0 i1 (i2 + 1) h
set_option maxRecDepth 100000 in
set_option maxHeartbeats 4000000 in
theorem l_X10_overCount_30 {X : MX} {l : Launch} {G : GX} {h0 : AH} {rr : Int32} {hr : AH} (C : Cx X G RX10 cX10_overCount 3 (some .int) 0 0 h0) (C2 : Cy X l "overCount" []) {k4 : Nat → Int32 → Int32 → AH → Option (Int32 × AH)} (hk4 : ∀ (r0 : Nat) (i1 : Int32) (i2 : Int32) (h : AH), k4 r0 i1 i2 h = some (rr, hr) → V X G h0 (QI rr hr) 4 [(0, .ref r0), (1, .int i1), (2, .int i2)] [] h) (r0 : Nat) (i1 : Int32) (i2 : Int32) (h : AH) (hf : f_X10_overCount_30 k4 r0 i1 i2 h = some (rr, hr)) : V X G h0 (QI rr hr) 30 [(0, .ref r0), (1, .int i1), (2, .int i2)] [] h := by
  unfold f_X10_overCount_30 at hf
  refine C.seg (pe := 33) (lv' := [(2, .int (i2 + 1)), (0, .ref r0), (1, .int i1)]) (st' := []) [(.iinc 2 1, 3, 1)] (by decide +kernel) rfl ?_
  refine C.goto (off := (-29)) (tgt := 4) (by decide +kernel) (by decide) ?_
  refine Vsub [1, 2, 0] rfl ?_
  exact hk4 r0 i1 (i2 + 1) h hf
def f_X10_overCount_4 : Nat → Nat → Int32 → Int32 → AH → Option (Int32 × AH)
  | 0, _, _, _, _ => none
  | n + 1, r0, i1, i2, h =>
    (gI 10 h r0 1).bind fun x1 =>
    if x1 ≤ i2 then
      some (i1, h)
    else
      (gA 10 h r0 6).bind fun a2 =>
      (aI 0 h a2 i2).bind fun x3 =>
      (gA 10 h r0 5).bind fun a4 =>
      (aI 0 h a4 i2).bind fun x5 =>
      if x3 < x5 then
        f_X10_overCount_30 (f_X10_overCount_4 n) r0 i1 i2 h
      else
        f_X10_overCount_30 (f_X10_overCount_4 n) r0 (i1 + 1) i2 h
set_option maxRecDepth 100000 in
set_option maxHeartbeats 4000000 in
theorem l_X10_overCount_4 {X : MX} {l : Launch} {G : GX} {h0 : AH} {rr : Int32} {hr : AH} (C : Cx X G RX10 cX10_overCount 3 (some .int) 0 0 h0) (C2 : Cy X l "overCount" []) : ∀ (n : Nat) (r0 : Nat) (i1 : Int32) (i2 : Int32) (h : AH), f_X10_overCount_4 n r0 i1 i2 h = some (rr, hr) → V X G h0 (QI rr hr) 4 [(0, .ref r0), (1, .int i1), (2, .int i2)] [] h := by
  intro n
  induction n with
  | zero => intro r0 i1 i2 h hf; rw [f_X10_overCount_4] at hf; cases hf
  | succ n ih =>
    intro r0 i1 i2 h hf
    rw [f_X10_overCount_4] at hf
    refine C.seg (pe := 6) (lv' := [(0, .ref r0), (1, .int i1), (2, .int i2)]) (st' := [.ref r0, .int i2]) [(.iload_n 2, 1, 0), (.aload_n 0, 1, 0)] (by decide +kernel) rfl ?_
    obtain ⟨x1, gx1, hf⟩ := Option.bind_eq_some_iff.mp hf
    refine C.rdI fr_225 gx1 (by decide +kernel) rfl ?_
    refine C.icmp_ge (off := 27) (tgt := 36) (pf := 12) (by decide +kernel) (by decide) rfl (fun c7 => ?_) (fun c7 => ?_)
    · replace hf := ifp c7 hf
      refine C.seg (pe := 37) (lv' := [(0, .ref r0), (1, .int i1), (2, .int i2)]) (st' := [.int i1]) [(.iload_n 1, 1, 0)] (by decide +kernel) rfl ?_
      cases hf
      exact C.retI rfl (by decide +kernel) ⟨rfl, rfl⟩
    · replace hf := ifn c7 hf
      refine C.seg (pe := 13) (lv' := [(0, .ref r0), (1, .int i1), (2, .int i2)]) (st' := [.ref r0]) [(.aload_n 0, 1, 0)] (by decide +kernel) rfl ?_
      obtain ⟨a2, ga2, hf⟩ := Option.bind_eq_some_iff.mp hf
      refine C.rdA fr_231 ga2 (by decide +kernel) rfl ?_
      refine C.seg (pe := 17) (lv' := [(0, .ref r0), (1, .int i1), (2, .int i2)]) (st' := [.int i2, .ref a2]) [(.iload_n 2, 1, 0)] (by decide +kernel) rfl ?_
      obtain ⟨x3, gx3, hf⟩ := Option.bind_eq_some_iff.mp hf
      refine C.ald 0 rfl gx3 (by decide +kernel) rfl ?_
      refine C.seg (pe := 19) (lv' := [(0, .ref r0), (1, .int i1), (2, .int i2)]) (st' := [.ref r0, .int x3]) [(.aload_n 0, 1, 0)] (by decide +kernel) rfl ?_
      obtain ⟨a4, ga4, hf⟩ := Option.bind_eq_some_iff.mp hf
      refine C.rdA fr_230 ga4 (by decide +kernel) rfl ?_
      refine C.seg (pe := 23) (lv' := [(0, .ref r0), (1, .int i1), (2, .int i2)]) (st' := [.int i2, .ref a4, .int x3]) [(.iload_n 2, 1, 0)] (by decide +kernel) rfl ?_
      obtain ⟨x5, gx5, hf⟩ := Option.bind_eq_some_iff.mp hf
      refine C.ald 0 rfl gx5 (by decide +kernel) rfl ?_
      refine C.icmp_lt (off := 6) (tgt := 30) (pf := 27) (by decide +kernel) (by decide) rfl (fun c6 => ?_) (fun c6 => ?_)
      · replace hf := ifp c6 hf
        exact l_X10_overCount_30 C C2 ih r0 i1 i2 h hf
      · replace hf := ifn c6 hf
        refine C.seg (pe := 30) (lv' := [(1, .int (i1 + 1)), (0, .ref r0), (2, .int i2)]) (st' := []) [(.iinc 1 1, 3, 1)] (by decide +kernel) rfl ?_
        refine Vsub [1, 0, 2] rfl ?_
        exact l_X10_overCount_30 C C2 ih r0 (i1 + 1) i2 h hf
def f_X10_overCount (a0 : Nat) (h : AH) : Option (Int32 × AH) :=
  if isO 10 h a0 = true then
    f_X10_overCount_4 FU a0 0 0 h
  else none
set_option maxRecDepth 100000 in
set_option maxHeartbeats 4000000 in
theorem w_X10_overCount {l : Launch} {G : GX} {a0 : Nat} {h : AH} {rr : Int32} {hr : AH} (hf : f_X10_overCount a0 h = some (rr, hr)) : Ct l G yX10_overCount 0 0 [.ref a0] h (QI rr hr) := by
  unfold f_X10_overCount at hf
  obtain ⟨ho, hf⟩ := ifO hf
  refine Ct_of (own := RX10) (cc := cX10_overCount) (nL := 3) (ret := (some .int)) rfl rfl k_1626 (Nat.le_of_ble_eq_true rfl) (fun X C2 C => ?_)
  show V X G h (QI rr hr) 0 [(0, .ref a0)] [] h
  refine C.seg (pe := 4) (lv' := [(2, .int 0), (1, .int 0), (0, .ref a0)]) (st' := []) [(.iconst 0, 1, 0), (.istore_n 1, 1, 0), (.iconst 0, 1, 0), (.istore_n 2, 1, 0)] (by decide +kernel) rfl ?_
  refine Vsub [2, 1, 0] rfl ?_
  exact l_X10_overCount_4 C C2 FU a0 0 0 h hf
theorem o_X10_overCount {a0 : Nat} {h : AH} {rr : Int32} {hr : AH} (hf : f_X10_overCount a0 h = some (rr, hr)) : isO 10 h a0 = true := by
  unfold f_X10_overCount at hf
  exact (ifO hf).1
