/-! WallHouse.<init>()V -/
def f_X11_init (a0 : Nat) (h : AH) : Option (AH) :=
  b2 (nwO 9 4 dX9 h) fun a1 h2 =>
  (f_X9_init a1 h2).bind fun h3 =>
  (pQ 11 h3 a0 0 (some a1)).bind fun h4 =>
  b2 (nwO 4 9 dX4 h4) fun a5 h6 =>
  (f_X4_init a5 h6).bind fun h7 =>
  (pQ 11 h7 a0 1 (some a5)).bind fun h8 =>
  b2 (nwO 10 18 dX10 h8) fun a9 h10 =>
  (gA 11 h10 a0 0).bind fun a11 =>
  (f_X10_init a9 a11 h10).bind fun h12 =>
  (pQ 11 h12 a0 2 (some a9)).bind fun h13 =>
  b2 (nwO 3 12 dX3 h13) fun a14 h15 =>
  (gA 11 h15 a0 0).bind fun a16 =>
  (gA 11 h15 a0 1).bind fun a17 =>
  (gA 11 h15 a0 2).bind fun a18 =>
  (f_X3_init a14 a16 a17 a18 h15).bind fun h19 =>
  (pQ 11 h19 a0 3 (some a14)).bind fun h20 =>
  b2 (nwO 6 10 dX6 h20) fun a21 h22 =>
  (gA 11 h22 a0 0).bind fun a23 =>
  (f_X6_init a21 a23 h22).bind fun h24 =>
  (pQ 11 h24 a0 4 (some a21)).bind fun h25 =>
  b2 (nwA 1 400 h25) fun a26 h27 =>
  (pQ 11 h27 a0 5 (some a26)).bind fun h28 =>
  b2 (nwO 7 8 dX7 h28) fun a29 h30 =>
  (f_X7_init a29 h30).bind fun h31 =>
  (pQ 11 h31 a0 7 (some a29)).bind fun h32 =>
  b2 (nwO 2 8 dX2 h32) fun a33 h34 =>
  (gA 11 h34 a0 7).bind fun a35 =>
  (f_X2_init a33 a35 h34).bind fun h36 =>
  (pQ 11 h36 a0 8 (some a33)).bind fun h37 =>
  b2 (nwA 6 12 h37) fun a38 h39 =>
  (pQ 11 h39 a0 9 (some a38)).bind fun h40 =>
  b2 (nwA 4 12 h40) fun a41 h42 =>
  (pQ 11 h42 a0 11 (some a41)).bind fun h43 =>
  b2 (nwO 5 6 dX5 h43) fun a44 h45 =>
  (gA 11 h45 a0 7).bind fun a46 =>
  (f_X5_init a44 a46 h45).bind fun h47 =>
  (pQ 11 h47 a0 13 (some a44)).bind fun h48 =>
  b2 (nwO 0 16 dX0 h48) fun a49 h50 =>
  (gA 11 h50 a0 11).bind fun a51 =>
  (f_X0_init a49 a51 h50).bind fun h52 =>
  (pQ 11 h52 a0 14 (some a49)).bind fun h53 =>
  b2 (nwO 0 16 dX0 h53) fun a54 h55 =>
  (gA 11 h55 a0 11).bind fun a56 =>
  (f_X0_init a54 a56 h55).bind fun h57 =>
  (pQ 11 h57 a0 15 (some a54)).bind fun h58 =>
  some h58
set_option maxRecDepth 100000 in
set_option maxHeartbeats 4000000 in
theorem w_X11_init {l : Launch} {G : GX} {a0 : Nat} {h : AH} {hr : AH} (hf : f_X11_init a0 h = some hr) : Ct l G yX11_init 3 61 [.ref a0] h (QV hr) := by
  unfold f_X11_init at hf
  refine Ct_of (own := RX11) (cc := cX11_init) (nL := 1) (ret := none) rfl rfl k_149 (Nat.le_of_ble_eq_true rfl) (fun X C2 C => ?_)
  show V X G h (QV hr) 0 [(0, .ref a0)] [] h
  refine C.seg (pe := 1) (lv' := [(0, .ref a0)]) (st' := [.ref a0]) [(.aload_n 0, 1, 0)] (by decide +kernel) rfl ?_
  refine C.objInit k_150 k_151 k_152 (by omega) (by omega) (Nat.le_of_ble_eq_true rfl) (by decide +kernel) rfl ?_
  refine C.seg (pe := 5) (lv' := [(0, .ref a0)]) (st' := [.ref a0]) [(.aload_n 0, 1, 0)] (by decide +kernel) rfl ?_
  obtain ⟨a1, h2, ga1, hf⟩ := b2_some hf
  refine C.newo cl_9 k_153 ga1 (by decide +kernel) rfl ?_
  refine C.seg (pe := 9) (lv' := [(0, .ref a0)]) (st' := [.ref a1, .ref a1, .ref a0]) [(.dup, 1, 0)] (by decide +kernel) rfl ?_
  obtain ⟨h3, gh3, hf⟩ := Option.bind_eq_some_iff.mp hf
  refine C.callIr C2 [] [.ref a1, .ref a0] mi_155 rfl (w_X9_init gh3) (by omega) (by omega) (Nat.le_of_ble_eq_true rfl) (by decide +kernel) rfl ?_
  obtain ⟨h4, gh4, hf⟩ := Option.bind_eq_some_iff.mp hf
  refine C.putFA C2.2.1 fl_560 (Or.inl ⟨_, rfl⟩) gh4 (by decide +kernel) rfl ?_
  refine C.seg (pe := 16) (lv' := [(0, .ref a0)]) (st' := [.ref a0]) [(.aload_n 0, 1, 0)] (by decide +kernel) rfl ?_
  obtain ⟨a5, h6, ga5, hf⟩ := b2_some hf
  refine C.newo cl_4 k_181 ga5 (by decide +kernel) rfl ?_
  refine C.seg (pe := 20) (lv' := [(0, .ref a0)]) (st' := [.ref a5, .ref a5, .ref a0]) [(.dup, 1, 0)] (by decide +kernel) rfl ?_
  obtain ⟨h7, gh7, hf⟩ := Option.bind_eq_some_iff.mp hf
  refine C.callIr C2 [] [.ref a5, .ref a0] mi_183 rfl (w_X4_init gh7) (by omega) (by omega) (Nat.le_of_ble_eq_true rfl) (by decide +kernel) rfl ?_
  obtain ⟨h8, gh8, hf⟩ := Option.bind_eq_some_iff.mp hf
  refine C.putFA C2.2.1 fl_561 (Or.inl ⟨_, rfl⟩) gh8 (by decide +kernel) rfl ?_
  refine C.seg (pe := 27) (lv' := [(0, .ref a0)]) (st' := [.ref a0]) [(.aload_n 0, 1, 0)] (by decide +kernel) rfl ?_
  obtain ⟨a9, h10, ga9, hf⟩ := b2_some hf
  refine C.newo cl_10 k_218 ga9 (by decide +kernel) rfl ?_
  refine C.seg (pe := 32) (lv' := [(0, .ref a0)]) (st' := [.ref a0, .ref a9, .ref a9, .ref a0]) [(.dup, 1, 0), (.aload_n 0, 1, 0)] (by decide +kernel) rfl ?_
  obtain ⟨a11, ga11, hf⟩ := Option.bind_eq_some_iff.mp hf
  refine C.rdA fr_560 ga11 (by decide +kernel) rfl ?_
  obtain ⟨h12, gh12, hf⟩ := Option.bind_eq_some_iff.mp hf
  refine C.callIr C2 [.ref a11] [.ref a9, .ref a0] mi_220 rfl (w_X10_init gh12) (by omega) (by omega) (Nat.le_of_ble_eq_true rfl) (by decide +kernel) rfl ?_
  obtain ⟨h13, gh13, hf⟩ := Option.bind_eq_some_iff.mp hf
  refine C.putFA C2.2.1 fl_562 (Or.inl ⟨_, rfl⟩) gh13 (by decide +kernel) rfl ?_
  refine C.seg (pe := 42) (lv' := [(0, .ref a0)]) (st' := [.ref a0]) [(.aload_n 0, 1, 0)] (by decide +kernel) rfl ?_
  obtain ⟨a14, h15, ga14, hf⟩ := b2_some hf
  refine C.newo cl_3 k_284 ga14 (by decide +kernel) rfl ?_
  refine C.seg (pe := 47) (lv' := [(0, .ref a0)]) (st' := [.ref a0, .ref a14, .ref a14, .ref a0]) [(.dup, 1, 0), (.aload_n 0, 1, 0)] (by decide +kernel) rfl ?_
  obtain ⟨a16, ga16, hf⟩ := Option.bind_eq_some_iff.mp hf
  refine C.rdA fr_560 ga16 (by decide +kernel) rfl ?_
  refine C.seg (pe := 51) (lv' := [(0, .ref a0)]) (st' := [.ref a0, .ref a16, .ref a14, .ref a14, .ref a0]) [(.aload_n 0, 1, 0)] (by decide +kernel) rfl ?_
  obtain ⟨a17, ga17, hf⟩ := Option.bind_eq_some_iff.mp hf
  refine C.rdA fr_561 ga17 (by decide +kernel) rfl ?_
  refine C.seg (pe := 55) (lv' := [(0, .ref a0)]) (st' := [.ref a0, .ref a17, .ref a16, .ref a14, .ref a14, .ref a0]) [(.aload_n 0, 1, 0)] (by decide +kernel) rfl ?_
  obtain ⟨a18, ga18, hf⟩ := Option.bind_eq_some_iff.mp hf
  refine C.rdA fr_562 ga18 (by decide +kernel) rfl ?_
  obtain ⟨h19, gh19, hf⟩ := Option.bind_eq_some_iff.mp hf
  refine C.callIr C2 [.ref a16, .ref a17, .ref a18] [.ref a14, .ref a0] mi_286 rfl (w_X3_init gh19) (by omega) (by omega) (Nat.le_of_ble_eq_true rfl) (by decide +kernel) rfl ?_
  obtain ⟨h20, gh20, hf⟩ := Option.bind_eq_some_iff.mp hf
  refine C.putFA C2.2.1 fl_563 (Or.inl ⟨_, rfl⟩) gh20 (by decide +kernel) rfl ?_
  refine C.seg (pe := 65) (lv' := [(0, .ref a0)]) (st' := [.ref a0]) [(.aload_n 0, 1, 0)] (by decide +kernel) rfl ?_
  obtain ⟨a21, h22, ga21, hf⟩ := b2_some hf
  refine C.newo cl_6 k_328 ga21 (by decide +kernel) rfl ?_
  refine C.seg (pe := 70) (lv' := [(0, .ref a0)]) (st' := [.ref a0, .ref a21, .ref a21, .ref a0]) [(.dup, 1, 0), (.aload_n 0, 1, 0)] (by decide +kernel) rfl ?_
  obtain ⟨a23, ga23, hf⟩ := Option.bind_eq_some_iff.mp hf
  refine C.rdA fr_560 ga23 (by decide +kernel) rfl ?_
  obtain ⟨h24, gh24, hf⟩ := Option.bind_eq_some_iff.mp hf
  refine C.callIr C2 [.ref a23] [.ref a21, .ref a0] mi_330 rfl (w_X6_init gh24) (by omega) (by omega) (Nat.le_of_ble_eq_true rfl) (by decide +kernel) rfl ?_
  obtain ⟨h25, gh25, hf⟩ := Option.bind_eq_some_iff.mp hf
  refine C.putFA C2.2.1 fl_564 (Or.inl ⟨_, rfl⟩) gh25 (by decide +kernel) rfl ?_
  refine C.seg (pe := 83) (lv' := [(0, .ref a0)]) (st' := [.int 400, .ref a0]) [(.aload_n 0, 1, 0), (.sipush 400, 3, 400)] (by decide +kernel) rfl ?_
  obtain ⟨a26, h27, ga26, hf⟩ := b2_some hf
  refine C.newa1 k_400 ga26 (by decide +kernel) rfl ?_
  obtain ⟨h28, gh28, hf⟩ := Option.bind_eq_some_iff.mp hf
  refine C.putFA C2.2.1 fl_565 (Or.inr ⟨_, rfl⟩) gh28 (by decide +kernel) rfl ?_
  refine C.seg (pe := 89) (lv' := [(0, .ref a0)]) (st' := [.ref a0]) [(.aload_n 0, 1, 0)] (by decide +kernel) rfl ?_
  obtain ⟨a29, h30, ga29, hf⟩ := b2_some hf
  refine C.newo cl_7 k_367 ga29 (by decide +kernel) rfl ?_
  refine C.seg (pe := 93) (lv' := [(0, .ref a0)]) (st' := [.ref a29, .ref a29, .ref a0]) [(.dup, 1, 0)] (by decide +kernel) rfl ?_
  obtain ⟨h31, gh31, hf⟩ := Option.bind_eq_some_iff.mp hf
  refine C.callIr C2 [] [.ref a29, .ref a0] mi_369 rfl (w_X7_init gh31) (by omega) (by omega) (Nat.le_of_ble_eq_true rfl) (by decide +kernel) rfl ?_
  obtain ⟨h32, gh32, hf⟩ := Option.bind_eq_some_iff.mp hf
  refine C.putFA C2.2.1 fl_567 (Or.inl ⟨_, rfl⟩) gh32 (by decide +kernel) rfl ?_
  refine C.seg (pe := 100) (lv' := [(0, .ref a0)]) (st' := [.ref a0]) [(.aload_n 0, 1, 0)] (by decide +kernel) rfl ?_
  obtain ⟨a33, h34, ga33, hf⟩ := b2_some hf
  refine C.newo cl_2 k_402 ga33 (by decide +kernel) rfl ?_
  refine C.seg (pe := 105) (lv' := [(0, .ref a0)]) (st' := [.ref a0, .ref a33, .ref a33, .ref a0]) [(.dup, 1, 0), (.aload_n 0, 1, 0)] (by decide +kernel) rfl ?_
  obtain ⟨a35, ga35, hf⟩ := Option.bind_eq_some_iff.mp hf
  refine C.rdA fr_567 ga35 (by decide +kernel) rfl ?_
  obtain ⟨h36, gh36, hf⟩ := Option.bind_eq_some_iff.mp hf
  refine C.callIr C2 [.ref a35] [.ref a33, .ref a0] mi_404 rfl (w_X2_init gh36) (by omega) (by omega) (Nat.le_of_ble_eq_true rfl) (by decide +kernel) rfl ?_
  obtain ⟨h37, gh37, hf⟩ := Option.bind_eq_some_iff.mp hf
  refine C.putFA C2.2.1 fl_568 (Or.inl ⟨_, rfl⟩) gh37 (by decide +kernel) rfl ?_
  refine C.seg (pe := 117) (lv' := [(0, .ref a0)]) (st' := [.int 12, .ref a0]) [(.aload_n 0, 1, 0), (.bipush 12, 2, 12)] (by decide +kernel) rfl ?_
  obtain ⟨a38, h39, ga38, hf⟩ := b2_some hf
  refine C.anew 6 k_469 rfl (by decide) (by decide) (fun _ K => K.2.2.2.1.2.1) ga38 (by decide +kernel) rfl ?_
  obtain ⟨h40, gh40, hf⟩ := Option.bind_eq_some_iff.mp hf
  refine C.putFA C2.2.1 fl_569 (Or.inr ⟨_, rfl⟩) gh40 (by decide +kernel) rfl ?_
  refine C.seg (pe := 126) (lv' := [(0, .ref a0)]) (st' := [.int 12, .ref a0]) [(.aload_n 0, 1, 0), (.bipush 12, 2, 12)] (by decide +kernel) rfl ?_
  obtain ⟨a41, h42, ga41, hf⟩ := b2_some hf
  refine C.newa4 k_401 ga41 (by decide +kernel) rfl ?_
  obtain ⟨h43, gh43, hf⟩ := Option.bind_eq_some_iff.mp hf
  refine C.putFA C2.2.1 fl_571 (Or.inr ⟨_, rfl⟩) gh43 (by decide +kernel) rfl ?_
  refine C.seg (pe := 132) (lv' := [(0, .ref a0)]) (st' := [.ref a0]) [(.aload_n 0, 1, 0)] (by decide +kernel) rfl ?_
  obtain ⟨a44, h45, ga44, hf⟩ := b2_some hf
  refine C.newo cl_5 k_471 ga44 (by decide +kernel) rfl ?_
  refine C.seg (pe := 137) (lv' := [(0, .ref a0)]) (st' := [.ref a0, .ref a44, .ref a44, .ref a0]) [(.dup, 1, 0), (.aload_n 0, 1, 0)] (by decide +kernel) rfl ?_
  obtain ⟨a46, ga46, hf⟩ := Option.bind_eq_some_iff.mp hf
  refine C.rdA fr_567 ga46 (by decide +kernel) rfl ?_
  obtain ⟨h47, gh47, hf⟩ := Option.bind_eq_some_iff.mp hf
  refine C.callIr C2 [.ref a46] [.ref a44, .ref a0] mi_473 rfl (w_X5_init gh47) (by omega) (by omega) (Nat.le_of_ble_eq_true rfl) (by decide +kernel) rfl ?_
  obtain ⟨h48, gh48, hf⟩ := Option.bind_eq_some_iff.mp hf
  refine C.putFA C2.2.1 fl_573 (Or.inl ⟨_, rfl⟩) gh48 (by decide +kernel) rfl ?_
  refine C.seg (pe := 147) (lv' := [(0, .ref a0)]) (st' := [.ref a0]) [(.aload_n 0, 1, 0)] (by decide +kernel) rfl ?_
  obtain ⟨a49, h50, ga49, hf⟩ := b2_some hf
  refine C.newo cl_0 k_497 ga49 (by decide +kernel) rfl ?_
  refine C.seg (pe := 152) (lv' := [(0, .ref a0)]) (st' := [.ref a0, .ref a49, .ref a49, .ref a0]) [(.dup, 1, 0), (.aload_n 0, 1, 0)] (by decide +kernel) rfl ?_
  obtain ⟨a51, ga51, hf⟩ := Option.bind_eq_some_iff.mp hf
  refine C.rdA fr_571 ga51 (by decide +kernel) rfl ?_
  obtain ⟨h52, gh52, hf⟩ := Option.bind_eq_some_iff.mp hf
  refine C.callIr C2 [.ref a51] [.ref a49, .ref a0] mi_499 rfl (w_X0_init gh52) (by omega) (by omega) (Nat.le_of_ble_eq_true rfl) (by decide +kernel) rfl ?_
  obtain ⟨h53, gh53, hf⟩ := Option.bind_eq_some_iff.mp hf
  refine C.putFA C2.2.1 fl_574 (Or.inl ⟨_, rfl⟩) gh53 (by decide +kernel) rfl ?_
  refine C.seg (pe := 162) (lv' := [(0, .ref a0)]) (st' := [.ref a0]) [(.aload_n 0, 1, 0)] (by decide +kernel) rfl ?_
  obtain ⟨a54, h55, ga54, hf⟩ := b2_some hf
  refine C.newo cl_0 k_497 ga54 (by decide +kernel) rfl ?_
  refine C.seg (pe := 167) (lv' := [(0, .ref a0)]) (st' := [.ref a0, .ref a54, .ref a54, .ref a0]) [(.dup, 1, 0), (.aload_n 0, 1, 0)] (by decide +kernel) rfl ?_
  obtain ⟨a56, ga56, hf⟩ := Option.bind_eq_some_iff.mp hf
  refine C.rdA fr_571 ga56 (by decide +kernel) rfl ?_
  obtain ⟨h57, gh57, hf⟩ := Option.bind_eq_some_iff.mp hf
  refine C.callIr C2 [.ref a56] [.ref a54, .ref a0] mi_499 rfl (w_X0_init gh57) (by omega) (by omega) (Nat.le_of_ble_eq_true rfl) (by decide +kernel) rfl ?_
  obtain ⟨h58, gh58, hf⟩ := Option.bind_eq_some_iff.mp hf
  refine C.putFA C2.2.1 fl_575 (Or.inl ⟨_, rfl⟩) gh58 (by decide +kernel) rfl ?_
  cases hf
  exact C.retV rfl (by decide +kernel) ⟨rfl, rfl⟩
/-! WallHouse.within(III)Z -/
def f_X11_within_15 (si0 : Int32) (h : AH) : Option (Int32 × AH) :=
  (ckZ si0).bind fun x1 =>
  some (x1, h)
set_option maxRecDepth 100000 in
set_option maxHeartbeats 4000000 in
theorem l_X11_within_15 {X : MX} {l : Launch} {G : GX} {h0 : AH} {rr : Int32} {hr : AH} (C : Cx X G RX11 cX11_within 3 (some .boolean) 0 0 h0) (C2 : Cy X l "within" []) (si0 : Int32) (h : AH) (hf : f_X11_within_15 si0 h = some (rr, hr)) : V X G h0 (QI rr hr) 15 [] [.int si0] h := by
  unfold f_X11_within_15 at hf
  obtain ⟨x1, gx1, hf⟩ := Option.bind_eq_some_iff.mp hf
  have ex1 := ckZ_eq gx1
  subst ex1
  cases hf
  exact C.retZ rfl gx1 (by decide +kernel) ⟨rfl, rfl⟩
def f_X11_within_14 (h : AH) : Option (Int32 × AH) :=
  f_X11_within_15 0 h
set_option maxRecDepth 100000 in
set_option maxHeartbeats 4000000 in
theorem l_X11_within_14 {X : MX} {l : Launch} {G : GX} {h0 : AH} {rr : Int32} {hr : AH} (C : Cx X G RX11 cX11_within 3 (some .boolean) 0 0 h0) (C2 : Cy X l "within" []) (h : AH) (hf : f_X11_within_14 h = some (rr, hr)) : V X G h0 (QI rr hr) 14 [] [] h := by
  unfold f_X11_within_14 at hf
  refine C.seg (pe := 15) (lv' := []) (st' := [.int 0]) [(.iconst 0, 1, 0)] (by decide +kernel) rfl ?_
  exact l_X11_within_15 C C2 0 h hf
def f_X11_within (p1 : Int32) (p2 : Int32) (p3 : Int32) (h : AH) : Option (Int32 × AH) :=
  if p1 < p2 then
    f_X11_within_14 h
  else
    if p3 < p1 then
      f_X11_within_14 h
    else
      f_X11_within_15 1 h
set_option maxRecDepth 100000 in
set_option maxHeartbeats 4000000 in
theorem w_X11_within {l : Launch} {G : GX} {p1 : Int32} {p2 : Int32} {p3 : Int32} {h : AH} {rr : Int32} {hr : AH} (hf : f_X11_within p1 p2 p3 h = some (rr, hr)) : Ct l G yX11_within 0 0 [.int p1, .int p2, .int p3] h (QI rr hr) := by
  unfold f_X11_within at hf
  refine Ct_of (own := RX11) (cc := cX11_within) (nL := 3) (ret := (some .boolean)) rfl rfl k_624 (Nat.le_of_ble_eq_true rfl) (fun X C2 C => ?_)
  show V X G h (QI rr hr) 0 [(0, .int p1), (1, .int p2), (2, .int p3)] [] h
  refine C.seg (pe := 2) (lv' := [(0, .int p1), (1, .int p2), (2, .int p3)]) (st' := [.int p2, .int p1]) [(.iload_n 0, 1, 0), (.iload_n 1, 1, 0)] (by decide +kernel) rfl ?_
  refine C.icmp_lt (off := 12) (tgt := 14) (pf := 5) (by decide +kernel) (by decide) rfl (fun c2 => ?_) (fun c2 => ?_)
  · replace hf := ifp c2 hf
    refine Vsub [] rfl ?_
    exact l_X11_within_14 C C2 h hf
  · replace hf := ifn c2 hf
    refine C.seg (pe := 7) (lv' := [(0, .int p1), (1, .int p2), (2, .int p3)]) (st' := [.int p3, .int p1]) [(.iload_n 0, 1, 0), (.iload_n 2, 1, 0)] (by decide +kernel) rfl ?_
    refine C.icmp_gt (off := 7) (tgt := 14) (pf := 10) (by decide +kernel) (by decide) rfl (fun c1 => ?_) (fun c1 => ?_)
    · replace hf := ifp c1 hf
      refine Vsub [] rfl ?_
      exact l_X11_within_14 C C2 h hf
    · replace hf := ifn c1 hf
      refine C.seg (pe := 11) (lv' := [(0, .int p1), (1, .int p2), (2, .int p3)]) (st' := [.int 1]) [(.iconst 1, 1, 1)] (by decide +kernel) rfl ?_
      refine C.goto (off := 4) (tgt := 15) (by decide +kernel) (by decide) ?_
      refine Vsub [] rfl ?_
      exact l_X11_within_15 C C2 1 h hf
/-! WallHouse.refuse(I)I -/
def f_X11_refuse (a0 : Nat) (p1 : Int32) (h : AH) : Option (Int32 × AH) :=
  if isO 11 h a0 = true then
    (pI 11 h a0 16 p1).bind fun h1 =>
    some ((-1), h1)
  else none
set_option maxRecDepth 100000 in
set_option maxHeartbeats 4000000 in
theorem w_X11_refuse {l : Launch} {G : GX} {a0 : Nat} {p1 : Int32} {h : AH} {rr : Int32} {hr : AH} (hf : f_X11_refuse a0 p1 h = some (rr, hr)) : Ct l G yX11_refuse 0 0 [.ref a0, .int p1] h (QI rr hr) := by
  unfold f_X11_refuse at hf
  obtain ⟨ho, hf⟩ := ifO hf
  refine Ct_of (own := RX11) (cc := cX11_refuse) (nL := 2) (ret := (some .int)) rfl rfl k_628 (Nat.le_of_ble_eq_true rfl) (fun X C2 C => ?_)
  show V X G h (QI rr hr) 0 [(0, .ref a0), (1, .int p1)] [] h
  refine C.seg (pe := 2) (lv' := [(0, .ref a0), (1, .int p1)]) (st' := [.int p1, .ref a0]) [(.aload_n 0, 1, 0), (.iload_n 1, 1, 0)] (by decide +kernel) rfl ?_
  obtain ⟨h1, gh1, hf⟩ := Option.bind_eq_some_iff.mp hf
  refine C.putI fl_576 gh1 (by decide +kernel) rfl ?_
  refine C.seg (pe := 6) (lv' := [(0, .ref a0), (1, .int p1)]) (st' := [.int (-1)]) [(.iconst (-1), 1, (-1))] (by decide +kernel) rfl ?_
  cases hf
  exact C.retI rfl (by decide +kernel) ⟨rfl, rfl⟩
theorem o_X11_refuse {a0 : Nat} {p1 : Int32} {h : AH} {rr : Int32} {hr : AH} (hf : f_X11_refuse a0 p1 h = some (rr, hr)) : isO 11 h a0 = true := by
  unfold f_X11_refuse at hf
  exact (ifO hf).1
/-! WallHouse.tell(I)I -/
def f_X11_tell (a0 : Nat) (p1 : Int32) (h : AH) : Option (Int32 × AH) :=
  if isO 11 h a0 = true then
    (pI 11 h a0 16 0).bind fun h1 =>
    some (p1, h1)
  else none
set_option maxRecDepth 100000 in
set_option maxHeartbeats 4000000 in
theorem w_X11_tell {l : Launch} {G : GX} {a0 : Nat} {p1 : Int32} {h : AH} {rr : Int32} {hr : AH} (hf : f_X11_tell a0 p1 h = some (rr, hr)) : Ct l G yX11_tell 0 0 [.ref a0, .int p1] h (QI rr hr) := by
  unfold f_X11_tell at hf
  obtain ⟨ho, hf⟩ := ifO hf
  refine Ct_of (own := RX11) (cc := cX11_tell) (nL := 2) (ret := (some .int)) rfl rfl k_715 (Nat.le_of_ble_eq_true rfl) (fun X C2 C => ?_)
  show V X G h (QI rr hr) 0 [(0, .ref a0), (1, .int p1)] [] h
  refine C.seg (pe := 2) (lv' := [(0, .ref a0), (1, .int p1)]) (st' := [.int 0, .ref a0]) [(.aload_n 0, 1, 0), (.iconst 0, 1, 0)] (by decide +kernel) rfl ?_
  obtain ⟨h1, gh1, hf⟩ := Option.bind_eq_some_iff.mp hf
  refine C.putI fl_576 gh1 (by decide +kernel) rfl ?_
  refine C.seg (pe := 6) (lv' := [(0, .ref a0), (1, .int p1)]) (st' := [.int p1]) [(.iload_n 1, 1, 0)] (by decide +kernel) rfl ?_
  cases hf
  exact C.retI rfl (by decide +kernel) ⟨rfl, rfl⟩
theorem o_X11_tell {a0 : Nat} {p1 : Int32} {h : AH} {rr : Int32} {hr : AH} (hf : f_X11_tell a0 p1 h = some (rr, hr)) : isO 11 h a0 = true := by
  unfold f_X11_tell at hf
  exact (ifO hf).1
/-! WallHouse.wall(IIII)I -/
def f_X11_wall_40 (r0 : Nat) (h : AH) : Option (Int32 × AH) :=
  b2 (f_X11_refuse r0 2 h) fun x1 h2 =>
  some (x1, h2)
set_option maxRecDepth 100000 in
set_option maxHeartbeats 4000000 in
theorem l_X11_wall_40 {X : MX} {l : Launch} {G : GX} {h0 : AH} {rr : Int32} {hr : AH} (C : Cx X G RX11 cX11_wall 5 (some .int) 2 65 h0) (C2 : Cy X l "wall" []) (r0 : Nat) (h : AH) (hf : f_X11_wall_40 r0 h = some (rr, hr)) : V X G h0 (QI rr hr) 40 [(0, .ref r0)] [] h := by
  unfold f_X11_wall_40 at hf
  refine C.seg (pe := 42) (lv' := [(0, .ref r0)]) (st' := [.int 2, .ref r0]) [(.aload_n 0, 1, 0), (.iconst 2, 1, 2)] (by decide +kernel) rfl ?_
  obtain ⟨x1, h2, gx1, hf⟩ := b2_some hf
  refine C.callVr C2 [.int 2] [] mv_625 rfl (o_X11_refuse gx1) (w_X11_refuse gx1) (by omega) (by omega) (Nat.le_of_ble_eq_true rfl) (by decide +kernel) rfl ?_
  cases hf
  exact C.retI rfl (by decide +kernel) ⟨rfl, rfl⟩
def f_X11_wall (a0 : Nat) (p1 : Int32) (p2 : Int32) (p3 : Int32) (p4 : Int32) (h : AH) : Option (Int32 × AH) :=
  if isO 11 h a0 = true then
    b2 (f_X11_within p1 1 16 h) fun x1 h2 =>
    if x1 = 0 then
      f_X11_wall_40 a0 h2
    else
      b2 (f_X11_within p2 1 12 h2) fun x3 h4 =>
      if x3 = 0 then
        f_X11_wall_40 a0 h4
      else
        b2 (f_X11_within p3 0 3 h4) fun x5 h6 =>
        if x5 = 0 then
          f_X11_wall_40 a0 h6
        else
          b2 (f_X11_within p4 0 99 h6) fun x7 h8 =>
          if x7 = 0 then
            f_X11_wall_40 a0 h8
          else
            (gA 11 h8 a0 0).bind fun a9 =>
            (gI 9 h8 a9 1).bind fun x10 =>
            if x10 < 16 then
              (gA 11 h8 a0 0).bind fun a11 =>
              b2 (nwO 8 15 dX8 h8) fun a12 h13 =>
              (f_X8_init a12 p1 p2 p3 p4 h13).bind fun h14 =>
              b2 (f_X9_add a11 a12 h14) fun x15 h16 =>
              b2 (f_X11_tell a0 x15 h16) fun x17 h18 =>
              some (x17, h18)
            else
              b2 (f_X11_refuse a0 3 h8) fun x19 h20 =>
              some (x19, h20)
  else none
set_option maxRecDepth 100000 in
set_option maxHeartbeats 4000000 in
theorem w_X11_wall {l : Launch} {G : GX} {a0 : Nat} {p1 : Int32} {p2 : Int32} {p3 : Int32} {p4 : Int32} {h : AH} {rr : Int32} {hr : AH} (hf : f_X11_wall a0 p1 p2 p3 p4 h = some (rr, hr)) : Ct l G yX11_wall 2 65 [.ref a0, .int p1, .int p2, .int p3, .int p4] h (QI rr hr) := by
  unfold f_X11_wall at hf
  obtain ⟨ho, hf⟩ := ifO hf
  refine Ct_of (own := RX11) (cc := cX11_wall) (nL := 5) (ret := (some .int)) rfl rfl k_621 (Nat.le_of_ble_eq_true rfl) (fun X C2 C => ?_)
  show V X G h (QI rr hr) 0 [(0, .ref a0), (1, .int p1), (2, .int p2), (3, .int p3), (4, .int p4)] [] h
  refine C.seg (pe := 4) (lv' := [(0, .ref a0), (1, .int p1), (2, .int p2), (3, .int p3), (4, .int p4)]) (st' := [.int 16, .int 1, .int p1]) [(.iload_n 1, 1, 0), (.iconst 1, 1, 1), (.bipush 16, 2, 16)] (by decide +kernel) rfl ?_
  obtain ⟨x1, h2, gx1, hf⟩ := b2_some hf
  refine C.callSr C2 [.int p1, .int 1, .int 16] [] ms_622 rfl (w_X11_within gx1) (by omega) (by omega) (Nat.le_of_ble_eq_true rfl) (by decide +kernel) rfl ?_
  refine C.if_eq (off := 33) (tgt := 40) (pf := 10) (by decide +kernel) (by decide) rfl (fun c25 => ?_) (fun c25 => ?_)
  · replace hf := ifp c25 hf
    refine Vsub [0] rfl ?_
    exact l_X11_wall_40 C C2 a0 h2 hf
  · replace hf := ifn c25 hf
    refine C.seg (pe := 14) (lv' := [(0, .ref a0), (1, .int p1), (2, .int p2), (3, .int p3), (4, .int p4)]) (st' := [.int 12, .int 1, .int p2]) [(.iload_n 2, 1, 0), (.iconst 1, 1, 1), (.bipush 12, 2, 12)] (by decide +kernel) rfl ?_
    obtain ⟨x3, h4, gx3, hf⟩ := b2_some hf
    refine C.callSr C2 [.int p2, .int 1, .int 12] [] ms_622 rfl (w_X11_within gx3) (by omega) (by omega) (Nat.le_of_ble_eq_true rfl) (by decide +kernel) rfl ?_
    refine C.if_eq (off := 23) (tgt := 40) (pf := 20) (by decide +kernel) (by decide) rfl (fun c24 => ?_) (fun c24 => ?_)
    · replace hf := ifp c24 hf
      refine Vsub [0] rfl ?_
      exact l_X11_wall_40 C C2 a0 h4 hf
    · replace hf := ifn c24 hf
      refine C.seg (pe := 23) (lv' := [(0, .ref a0), (1, .int p1), (2, .int p2), (3, .int p3), (4, .int p4)]) (st' := [.int 3, .int 0, .int p3]) [(.iload_n 3, 1, 0), (.iconst 0, 1, 0), (.iconst 3, 1, 3)] (by decide +kernel) rfl ?_
      obtain ⟨x5, h6, gx5, hf⟩ := b2_some hf
      refine C.callSr C2 [.int p3, .int 0, .int 3] [] ms_622 rfl (w_X11_within gx5) (by omega) (by omega) (Nat.le_of_ble_eq_true rfl) (by decide +kernel) rfl ?_
      refine C.if_eq (off := 14) (tgt := 40) (pf := 29) (by decide +kernel) (by decide) rfl (fun c23 => ?_) (fun c23 => ?_)
      · replace hf := ifp c23 hf
        refine Vsub [0] rfl ?_
        exact l_X11_wall_40 C C2 a0 h6 hf
      · replace hf := ifn c23 hf
        refine C.seg (pe := 34) (lv' := [(0, .ref a0), (1, .int p1), (2, .int p2), (3, .int p3), (4, .int p4)]) (st' := [.int 99, .int 0, .int p4]) [(.iload 4, 2, 0), (.iconst 0, 1, 0), (.bipush 99, 2, 99)] (by decide +kernel) rfl ?_
        obtain ⟨x7, h8, gx7, hf⟩ := b2_some hf
        refine C.callSr C2 [.int p4, .int 0, .int 99] [] ms_622 rfl (w_X11_within gx7) (by omega) (by omega) (Nat.le_of_ble_eq_true rfl) (by decide +kernel) rfl ?_
        refine C.if_ne (off := 9) (tgt := 46) (pf := 40) (by decide +kernel) (by decide) rfl (fun c22 => ?_) (fun c22 => ?_)
        · replace hf := ifn c22 hf
          refine C.seg (pe := 47) (lv' := [(0, .ref a0), (1, .int p1), (2, .int p2), (3, .int p3), (4, .int p4)]) (st' := [.ref a0]) [(.aload_n 0, 1, 0)] (by decide +kernel) rfl ?_
          obtain ⟨a9, ga9, hf⟩ := Option.bind_eq_some_iff.mp hf
          refine C.rdA fr_560 ga9 (by decide +kernel) rfl ?_
          obtain ⟨x10, gx10, hf⟩ := Option.bind_eq_some_iff.mp hf
          refine C.rdI fr_167 gx10 (by decide +kernel) rfl ?_
          refine C.seg (pe := 55) (lv' := [(0, .ref a0), (1, .int p1), (2, .int p2), (3, .int p3), (4, .int p4)]) (st' := [.int 16, .int x10]) [(.bipush 16, 2, 16)] (by decide +kernel) rfl ?_
          refine C.icmp_lt (off := 9) (tgt := 64) (pf := 58) (by decide +kernel) (by decide) rfl (fun c21 => ?_) (fun c21 => ?_)
          · replace hf := ifp c21 hf
            refine C.seg (pe := 66) (lv' := [(0, .ref a0), (1, .int p1), (2, .int p2), (3, .int p3), (4, .int p4)]) (st' := [.ref a0, .ref a0]) [(.aload_n 0, 1, 0), (.aload_n 0, 1, 0)] (by decide +kernel) rfl ?_
            obtain ⟨a11, ga11, hf⟩ := Option.bind_eq_some_iff.mp hf
            refine C.rdA fr_560 ga11 (by decide +kernel) rfl ?_
            obtain ⟨a12, h13, ga12, hf⟩ := b2_some hf
            refine C.newo cl_8 k_629 ga12 (by decide +kernel) rfl ?_
            refine C.seg (pe := 78) (lv' := [(0, .ref a0), (1, .int p1), (2, .int p2), (3, .int p3), (4, .int p4)]) (st' := [.int p4, .int p3, .int p2, .int p1, .ref a12, .ref a12, .ref a11, .ref a0]) [(.dup, 1, 0), (.iload_n 1, 1, 0), (.iload_n 2, 1, 0), (.iload_n 3, 1, 0), (.iload 4, 2, 0)] (by decide +kernel) rfl ?_
            obtain ⟨h14, gh14, hf⟩ := Option.bind_eq_some_iff.mp hf
            refine C.callIr C2 [.int p1, .int p2, .int p3, .int p4] [.ref a12, .ref a11, .ref a0] mi_631 rfl (w_X8_init gh14) (by omega) (by omega) (Nat.le_of_ble_eq_true rfl) (by decide +kernel) rfl ?_
            obtain ⟨x15, h16, gx15, hf⟩ := b2_some hf
            refine C.callVr C2 [.ref a12] [.ref a0] mv_708 rfl (o_X9_add gx15) (w_X9_add gx15) (by omega) (by omega) (Nat.le_of_ble_eq_true rfl) (by decide +kernel) rfl ?_
            obtain ⟨x17, h18, gx17, hf⟩ := b2_some hf
            refine C.callVr C2 [.int x15] [] mv_712 rfl (o_X11_tell gx17) (w_X11_tell gx17) (by omega) (by omega) (Nat.le_of_ble_eq_true rfl) (by decide +kernel) rfl ?_
            cases hf
            exact C.retI rfl (by decide +kernel) ⟨rfl, rfl⟩
          · replace hf := ifn c21 hf
            refine C.seg (pe := 60) (lv' := [(0, .ref a0), (1, .int p1), (2, .int p2), (3, .int p3), (4, .int p4)]) (st' := [.int 3, .ref a0]) [(.aload_n 0, 1, 0), (.iconst 3, 1, 3)] (by decide +kernel) rfl ?_
            obtain ⟨x19, h20, gx19, hf⟩ := b2_some hf
            refine C.callVr C2 [.int 3] [] mv_625 rfl (o_X11_refuse gx19) (w_X11_refuse gx19) (by omega) (by omega) (Nat.le_of_ble_eq_true rfl) (by decide +kernel) rfl ?_
            cases hf
            exact C.retI rfl (by decide +kernel) ⟨rfl, rfl⟩
        · replace hf := ifp c22 hf
          refine Vsub [0] rfl ?_
          exact l_X11_wall_40 C C2 a0 h8 hf
theorem o_X11_wall {a0 : Nat} {p1 : Int32} {p2 : Int32} {p3 : Int32} {p4 : Int32} {h : AH} {rr : Int32} {hr : AH} (hf : f_X11_wall a0 p1 p2 p3 p4 h = some (rr, hr)) : isO 11 h a0 = true := by
  unfold f_X11_wall at hf
  exact (ifO hf).1
/-! WallHouse.about(II)I -/
def f_X11_about_111 (si0 : Int32) (h : AH) : Option (Int32 × AH) :=
  some (si0, h)
set_option maxRecDepth 100000 in
set_option maxHeartbeats 4000000 in
theorem l_X11_about_111 {X : MX} {l : Launch} {G : GX} {h0 : AH} {rr : Int32} {hr : AH} (C : Cx X G RX11 cX11_about 4 (some .int) 1 22 h0) (C2 : Cy X l "about" []) (si0 : Int32) (h : AH) (hf : f_X11_about_111 si0 h = some (rr, hr)) : V X G h0 (QI rr hr) 111 [] [.int si0] h := by
  unfold f_X11_about_111 at hf
  cases hf
  exact C.retI rfl (by decide +kernel) ⟨rfl, rfl⟩
def f_X11_about (a0 : Nat) (p1 : Int32) (p2 : Int32) (h : AH) : Option (Int32 × AH) :=
  if isO 11 h a0 = true then
    (gA 11 h a0 0).bind fun a1 =>
    b2 (f_X9_at a1 p1 h) fun q2 h3 =>
    tr q2 (
      some ((-1), h3)) fun a4 =>
    if p2 = 0 then
      (gI 8 h3 a4 0).bind fun x15 =>
      some (x15, h3)
    else
      if p2 = 1 then
        (gI 8 h3 a4 1).bind fun x16 =>
        some (x16, h3)
      else
        if p2 = 2 then
          (gI 8 h3 a4 2).bind fun x17 =>
          some (x17, h3)
        else
          if p2 = 3 then
            (gI 8 h3 a4 3).bind fun x18 =>
            some (x18, h3)
          else
            if p2 = 4 then
              (gA 11 h3 a0 2).bind fun a19 =>
              b2 (f_X10_year a19 h3) fun x20 h21 =>
              b2 (f_X8_hasLeave a4 x20 h21) fun x22 h23 =>
              if x22 = 0 then
                f_X11_about_111 0 h23
              else
                f_X11_about_111 1 h23
            else
              if p2 = 5 then
                b2 (f_X8_holeCount a4 h3) fun x25 h26 =>
                some (x25, h26)
              else
                if p2 = 6 then
                  (gI 8 h3 a4 8).bind fun x27 =>
                  some (x27, h3)
                else
                  if p2 = 7 then
                    (gI 8 h3 a4 7).bind fun x28 =>
                    some (x28, h3)
                  else
                    if p2 = 8 then
                      b2 (f_X8_painted a4 h3) fun x29 h30 =>
                      some (x29, h30)
                    else
                      if p2 = 9 then
                        (gI 8 h3 a4 9).bind fun x31 =>
                        some (x31, h3)
                      else
                        some ((-1), h3)
  else none
set_option maxRecDepth 100000 in
set_option maxHeartbeats 4000000 in
theorem w_X11_about {l : Launch} {G : GX} {a0 : Nat} {p1 : Int32} {p2 : Int32} {h : AH} {rr : Int32} {hr : AH} (hf : f_X11_about a0 p1 p2 h = some (rr, hr)) : Ct l G yX11_about 1 22 [.ref a0, .int p1, .int p2] h (QI rr hr) := by
  unfold f_X11_about at hf
  obtain ⟨ho, hf⟩ := ifO hf
  refine Ct_of (own := RX11) (cc := cX11_about) (nL := 4) (ret := (some .int)) rfl rfl k_719 (Nat.le_of_ble_eq_true rfl) (fun X C2 C => ?_)
  show V X G h (QI rr hr) 0 [(0, .ref a0), (1, .int p1), (2, .int p2)] [] h
  refine C.seg (pe := 1) (lv' := [(0, .ref a0), (1, .int p1), (2, .int p2)]) (st' := [.ref a0]) [(.aload_n 0, 1, 0)] (by decide +kernel) rfl ?_
  obtain ⟨a1, ga1, hf⟩ := Option.bind_eq_some_iff.mp hf
  refine C.rdA fr_560 ga1 (by decide +kernel) rfl ?_
  refine C.seg (pe := 5) (lv' := [(0, .ref a0), (1, .int p1), (2, .int p2)]) (st' := [.int p1, .ref a1]) [(.iload_n 1, 1, 0)] (by decide +kernel) rfl ?_
  obtain ⟨q2, h3, gq2, hf⟩ := b2_some hf
  cases q2 with
  | none =>
    replace hf := tr_none hf
    refine C.callVr C2 [.int p1] [] mv_720 rfl (o_X9_at gq2) (w_X9_at gq2) (by omega) (by omega) (Nat.le_of_ble_eq_true rfl) (by decide +kernel) rfl ?_
    refine C.seg (pe := 10) (lv' := [(3, .null), (0, .ref a0), (1, .int p1), (2, .int p2)]) (st' := [.null]) [(.astore_n 3, 1, 0), (.aload_n 3, 1, 0)] (by decide +kernel) rfl ?_
    refine C.nonnullN (off := 5) (pf := 13) (by decide +kernel) rfl ?_
    refine C.seg (pe := 14) (lv' := [(3, .null), (0, .ref a0), (1, .int p1), (2, .int p2)]) (st' := [.int (-1)]) [(.iconst (-1), 1, (-1))] (by decide +kernel) rfl ?_
    cases hf
    exact C.retI rfl (by decide +kernel) ⟨rfl, rfl⟩
  | some a4 =>
    replace hf := tr_some hf
    refine C.callVr C2 [.int p1] [] mv_720 rfl (o_X9_at gq2) (w_X9_at gq2) (by omega) (by omega) (Nat.le_of_ble_eq_true rfl) (by decide +kernel) rfl ?_
    refine C.seg (pe := 10) (lv' := [(3, .ref a4), (0, .ref a0), (1, .int p1), (2, .int p2)]) (st' := [.ref a4]) [(.astore_n 3, 1, 0), (.aload_n 3, 1, 0)] (by decide +kernel) rfl ?_
    refine C.nonnullR (off := 5) (tgt := 15) (by decide +kernel) (by decide) ?_
    refine C.seg (pe := 16) (lv' := [(3, .ref a4), (0, .ref a0), (1, .int p1), (2, .int p2)]) (st' := [.int p2]) [(.iload_n 2, 1, 0)] (by decide +kernel) rfl ?_
    by_cases c5 : p2 = 0
    · replace hf := ifp c5 hf
      refine C.tsIn (len := 56) (dflt := 121) (a := 0) (b := 9) (offs := #[56, 61, 66, 71, 76, 96, 101, 106, 111, 116]) (k := 0) (off := 56) (tgt := 72) c5 (by decide +kernel) (by decide) (by decide) rfl (by decide) ?_
      refine C.seg (pe := 73) (lv' := [(3, .ref a4), (0, .ref a0), (1, .int p1), (2, .int p2)]) (st' := [.ref a4]) [(.aload_n 3, 1, 0)] (by decide +kernel) rfl ?_
      obtain ⟨x15, gx15, hf⟩ := Option.bind_eq_some_iff.mp hf
      refine C.rdI fr_646 gx15 (by decide +kernel) rfl ?_
      cases hf
      exact C.retI rfl (by decide +kernel) ⟨rfl, rfl⟩
    · replace hf := ifn c5 hf
      by_cases c6 : p2 = 1
      · replace hf := ifp c6 hf
        refine C.tsIn (len := 56) (dflt := 121) (a := 0) (b := 9) (offs := #[56, 61, 66, 71, 76, 96, 101, 106, 111, 116]) (k := 1) (off := 61) (tgt := 77) c6 (by decide +kernel) (by decide) (by decide) rfl (by decide) ?_
        refine C.seg (pe := 78) (lv' := [(3, .ref a4), (0, .ref a0), (1, .int p1), (2, .int p2)]) (st' := [.ref a4]) [(.aload_n 3, 1, 0)] (by decide +kernel) rfl ?_
        obtain ⟨x16, gx16, hf⟩ := Option.bind_eq_some_iff.mp hf
        refine C.rdI fr_649 gx16 (by decide +kernel) rfl ?_
        cases hf
        exact C.retI rfl (by decide +kernel) ⟨rfl, rfl⟩
      · replace hf := ifn c6 hf
        by_cases c7 : p2 = 2
        · replace hf := ifp c7 hf
          refine C.tsIn (len := 56) (dflt := 121) (a := 0) (b := 9) (offs := #[56, 61, 66, 71, 76, 96, 101, 106, 111, 116]) (k := 2) (off := 66) (tgt := 82) c7 (by decide +kernel) (by decide) (by decide) rfl (by decide) ?_
          refine C.seg (pe := 83) (lv' := [(3, .ref a4), (0, .ref a0), (1, .int p1), (2, .int p2)]) (st' := [.ref a4]) [(.aload_n 3, 1, 0)] (by decide +kernel) rfl ?_
          obtain ⟨x17, gx17, hf⟩ := Option.bind_eq_some_iff.mp hf
          refine C.rdI fr_651 gx17 (by decide +kernel) rfl ?_
          cases hf
          exact C.retI rfl (by decide +kernel) ⟨rfl, rfl⟩
        · replace hf := ifn c7 hf
          by_cases c8 : p2 = 3
          · replace hf := ifp c8 hf
            refine C.tsIn (len := 56) (dflt := 121) (a := 0) (b := 9) (offs := #[56, 61, 66, 71, 76, 96, 101, 106, 111, 116]) (k := 3) (off := 71) (tgt := 87) c8 (by decide +kernel) (by decide) (by decide) rfl (by decide) ?_
            refine C.seg (pe := 88) (lv' := [(3, .ref a4), (0, .ref a0), (1, .int p1), (2, .int p2)]) (st' := [.ref a4]) [(.aload_n 3, 1, 0)] (by decide +kernel) rfl ?_
            obtain ⟨x18, gx18, hf⟩ := Option.bind_eq_some_iff.mp hf
            refine C.rdI fr_653 gx18 (by decide +kernel) rfl ?_
            cases hf
            exact C.retI rfl (by decide +kernel) ⟨rfl, rfl⟩
          · replace hf := ifn c8 hf
            by_cases c9 : p2 = 4
            · replace hf := ifp c9 hf
              refine C.tsIn (len := 56) (dflt := 121) (a := 0) (b := 9) (offs := #[56, 61, 66, 71, 76, 96, 101, 106, 111, 116]) (k := 4) (off := 76) (tgt := 92) c9 (by decide +kernel) (by decide) (by decide) rfl (by decide) ?_
              refine C.seg (pe := 94) (lv' := [(3, .ref a4), (0, .ref a0), (1, .int p1), (2, .int p2)]) (st' := [.ref a0, .ref a4]) [(.aload_n 3, 1, 0), (.aload_n 0, 1, 0)] (by decide +kernel) rfl ?_
              obtain ⟨a19, ga19, hf⟩ := Option.bind_eq_some_iff.mp hf
              refine C.rdA fr_562 ga19 (by decide +kernel) rfl ?_
              obtain ⟨x20, h21, gx20, hf⟩ := b2_some hf
              refine C.callVr C2 [] [.ref a4] mv_724 rfl (o_X10_year gx20) (w_X10_year gx20) (by omega) (by omega) (Nat.le_of_ble_eq_true rfl) (by decide +kernel) rfl ?_
              obtain ⟨x22, h23, gx22, hf⟩ := b2_some hf
              refine C.callVr C2 [.int x20] [] mv_728 rfl (o_X8_hasLeave gx22) (w_X8_hasLeave gx22) (by omega) (by omega) (Nat.le_of_ble_eq_true rfl) (by decide +kernel) rfl ?_
              refine C.if_eq (off := 7) (tgt := 110) (pf := 106) (by decide +kernel) (by decide) rfl (fun c24 => ?_) (fun c24 => ?_)
              · replace hf := ifp c24 hf
                refine C.seg (pe := 111) (lv' := [(3, .ref a4), (0, .ref a0), (1, .int p1), (2, .int p2)]) (st' := [.int 0]) [(.iconst 0, 1, 0)] (by decide +kernel) rfl ?_
                refine Vsub [] rfl ?_
                exact l_X11_about_111 C C2 0 h23 hf
              · replace hf := ifn c24 hf
                refine C.seg (pe := 107) (lv' := [(3, .ref a4), (0, .ref a0), (1, .int p1), (2, .int p2)]) (st' := [.int 1]) [(.iconst 1, 1, 1)] (by decide +kernel) rfl ?_
                refine C.goto (off := 4) (tgt := 111) (by decide +kernel) (by decide) ?_
                refine Vsub [] rfl ?_
                exact l_X11_about_111 C C2 1 h23 hf
            · replace hf := ifn c9 hf
              by_cases c10 : p2 = 5
              · replace hf := ifp c10 hf
                refine C.tsIn (len := 56) (dflt := 121) (a := 0) (b := 9) (offs := #[56, 61, 66, 71, 76, 96, 101, 106, 111, 116]) (k := 5) (off := 96) (tgt := 112) c10 (by decide +kernel) (by decide) (by decide) rfl (by decide) ?_
                refine C.seg (pe := 113) (lv' := [(3, .ref a4), (0, .ref a0), (1, .int p1), (2, .int p2)]) (st' := [.ref a4]) [(.aload_n 3, 1, 0)] (by decide +kernel) rfl ?_
                obtain ⟨x25, h26, gx25, hf⟩ := b2_some hf
                refine C.callVr C2 [] [] mv_732 rfl (o_X8_holeCount gx25) (w_X8_holeCount gx25) (by omega) (by omega) (Nat.le_of_ble_eq_true rfl) (by decide +kernel) rfl ?_
                cases hf
                exact C.retI rfl (by decide +kernel) ⟨rfl, rfl⟩
              · replace hf := ifn c10 hf
                by_cases c11 : p2 = 6
                · replace hf := ifp c11 hf
                  refine C.tsIn (len := 56) (dflt := 121) (a := 0) (b := 9) (offs := #[56, 61, 66, 71, 76, 96, 101, 106, 111, 116]) (k := 6) (off := 101) (tgt := 117) c11 (by decide +kernel) (by decide) (by decide) rfl (by decide) ?_
                  refine C.seg (pe := 118) (lv' := [(3, .ref a4), (0, .ref a0), (1, .int p1), (2, .int p2)]) (st' := [.ref a4]) [(.aload_n 3, 1, 0)] (by decide +kernel) rfl ?_
                  obtain ⟨x27, gx27, hf⟩ := Option.bind_eq_some_iff.mp hf
                  refine C.rdI fr_661 gx27 (by decide +kernel) rfl ?_
                  cases hf
                  exact C.retI rfl (by decide +kernel) ⟨rfl, rfl⟩
                · replace hf := ifn c11 hf
                  by_cases c12 : p2 = 7
                  · replace hf := ifp c12 hf
                    refine C.tsIn (len := 56) (dflt := 121) (a := 0) (b := 9) (offs := #[56, 61, 66, 71, 76, 96, 101, 106, 111, 116]) (k := 7) (off := 106) (tgt := 122) c12 (by decide +kernel) (by decide) (by decide) rfl (by decide) ?_
                    refine C.seg (pe := 123) (lv' := [(3, .ref a4), (0, .ref a0), (1, .int p1), (2, .int p2)]) (st' := [.ref a4]) [(.aload_n 3, 1, 0)] (by decide +kernel) rfl ?_
                    obtain ⟨x28, gx28, hf⟩ := Option.bind_eq_some_iff.mp hf
                    refine C.rdI fr_657 gx28 (by decide +kernel) rfl ?_
                    cases hf
                    exact C.retI rfl (by decide +kernel) ⟨rfl, rfl⟩
                  · replace hf := ifn c12 hf
                    by_cases c13 : p2 = 8
                    · replace hf := ifp c13 hf
                      refine C.tsIn (len := 56) (dflt := 121) (a := 0) (b := 9) (offs := #[56, 61, 66, 71, 76, 96, 101, 106, 111, 116]) (k := 8) (off := 111) (tgt := 127) c13 (by decide +kernel) (by decide) (by decide) rfl (by decide) ?_
                      refine C.seg (pe := 128) (lv' := [(3, .ref a4), (0, .ref a0), (1, .int p1), (2, .int p2)]) (st' := [.ref a4]) [(.aload_n 3, 1, 0)] (by decide +kernel) rfl ?_
                      obtain ⟨x29, h30, gx29, hf⟩ := b2_some hf
                      refine C.callVr C2 [] [] mv_736 rfl (o_X8_painted gx29) (w_X8_painted gx29) (by omega) (by omega) (Nat.le_of_ble_eq_true rfl) (by decide +kernel) rfl ?_
                      cases hf
                      exact C.retI rfl (by decide +kernel) ⟨rfl, rfl⟩
                    · replace hf := ifn c13 hf
                      by_cases c14 : p2 = 9
                      · replace hf := ifp c14 hf
                        refine C.tsIn (len := 56) (dflt := 121) (a := 0) (b := 9) (offs := #[56, 61, 66, 71, 76, 96, 101, 106, 111, 116]) (k := 9) (off := 116) (tgt := 132) c14 (by decide +kernel) (by decide) (by decide) rfl (by decide) ?_
                        refine C.seg (pe := 133) (lv' := [(3, .ref a4), (0, .ref a0), (1, .int p1), (2, .int p2)]) (st' := [.ref a4]) [(.aload_n 3, 1, 0)] (by decide +kernel) rfl ?_
                        obtain ⟨x31, gx31, hf⟩ := Option.bind_eq_some_iff.mp hf
                        refine C.rdI fr_664 gx31 (by decide +kernel) rfl ?_
                        cases hf
                        exact C.retI rfl (by decide +kernel) ⟨rfl, rfl⟩
                      · replace hf := ifn c14 hf
                        have qc5 := lv_neT c5 (by decide : (0 : Int32).toInt = 0)
                        have qc6 := lv_neT c6 (by decide : (1 : Int32).toInt = 1)
                        have qc7 := lv_neT c7 (by decide : (2 : Int32).toInt = 2)
                        have qc8 := lv_neT c8 (by decide : (3 : Int32).toInt = 3)
                        have qc9 := lv_neT c9 (by decide : (4 : Int32).toInt = 4)
                        have qc10 := lv_neT c10 (by decide : (5 : Int32).toInt = 5)
                        have qc11 := lv_neT c11 (by decide : (6 : Int32).toInt = 6)
                        have qc12 := lv_neT c12 (by decide : (7 : Int32).toInt = 7)
                        have qc13 := lv_neT c13 (by decide : (8 : Int32).toInt = 8)
                        have qc14 := lv_neT c14 (by decide : (9 : Int32).toInt = 9)
                        refine C.tsOut (len := 56) (dflt := 121) (a := 0) (b := 9) (offs := #[56, 61, 66, 71, 76, 96, 101, 106, 111, 116]) (tgt := 137) (by decide +kernel) (by omega) (by decide) ?_
                        refine C.seg (pe := 138) (lv' := [(3, .ref a4), (0, .ref a0), (1, .int p1), (2, .int p2)]) (st' := [.int (-1)]) [(.iconst (-1), 1, (-1))] (by decide +kernel) rfl ?_
                        cases hf
                        exact C.retI rfl (by decide +kernel) ⟨rfl, rfl⟩
theorem o_X11_about {a0 : Nat} {p1 : Int32} {p2 : Int32} {h : AH} {rr : Int32} {hr : AH} (hf : f_X11_about a0 p1 p2 h = some (rr, hr)) : isO 11 h a0 = true := by
  unfold f_X11_about at hf
  exact (ifO hf).1
/-! WallHouse.hole(IIIII)I -/
def f_X11_hole (a0 : Nat) (p1 : Int32) (p2 : Int32) (p3 : Int32) (p4 : Int32) (p5 : Int32) (h : AH) : Option (Int32 × AH) :=
  if isO 11 h a0 = true then
    (gA 11 h a0 0).bind fun a1 =>
    b2 (f_X9_at a1 p1 h) fun q2 h3 =>
    tr q2 (
      b2 (f_X11_refuse a0 1 h3) fun x5 h6 =>
      some (x5, h6)) fun a4 =>
    b2 (f_X8_holds a4 p2 p3 p4 p5 h3) fun x7 h8 =>
    if x7 = 0 then
      b2 (f_X11_refuse a0 2 h8) fun x17 h18 =>
      some (x17, h18)
    else
      (gI 8 h8 a4 8).bind fun x9 =>
      if x9 = (-2) then
        b2 (f_X8_cut a4 p2 p3 p4 p5 h8) fun x10 h11 =>
        b2 (f_X11_tell a0 x10 h11) fun x12 h13 =>
        some (x12, h13)
      else
        b2 (f_X11_refuse a0 5 h8) fun x14 h15 =>
        some (x14, h15)
  else none
set_option maxRecDepth 100000 in
set_option maxHeartbeats 4000000 in
theorem w_X11_hole {l : Launch} {G : GX} {a0 : Nat} {p1 : Int32} {p2 : Int32} {p3 : Int32} {p4 : Int32} {p5 : Int32} {h : AH} {rr : Int32} {hr : AH} (hf : f_X11_hole a0 p1 p2 p3 p4 p5 h = some (rr, hr)) : Ct l G yX11_hole 2 52 [.ref a0, .int p1, .int p2, .int p3, .int p4, .int p5] h (QI rr hr) := by
  unfold f_X11_hole at hf
  obtain ⟨ho, hf⟩ := ifO hf
  refine Ct_of (own := RX11) (cc := cX11_hole) (nL := 7) (ret := (some .int)) rfl rfl k_743 (Nat.le_of_ble_eq_true rfl) (fun X C2 C => ?_)
  show V X G h (QI rr hr) 0 [(0, .ref a0), (1, .int p1), (2, .int p2), (3, .int p3), (4, .int p4), (5, .int p5)] [] h
  refine C.seg (pe := 1) (lv' := [(0, .ref a0), (1, .int p1), (2, .int p2), (3, .int p3), (4, .int p4), (5, .int p5)]) (st' := [.ref a0]) [(.aload_n 0, 1, 0)] (by decide +kernel) rfl ?_
  obtain ⟨a1, ga1, hf⟩ := Option.bind_eq_some_iff.mp hf
  refine C.rdA fr_560 ga1 (by decide +kernel) rfl ?_
  refine C.seg (pe := 5) (lv' := [(0, .ref a0), (1, .int p1), (2, .int p2), (3, .int p3), (4, .int p4), (5, .int p5)]) (st' := [.int p1, .ref a1]) [(.iload_n 1, 1, 0)] (by decide +kernel) rfl ?_
  obtain ⟨q2, h3, gq2, hf⟩ := b2_some hf
  cases q2 with
  | none =>
    replace hf := tr_none hf
    refine C.callVr C2 [.int p1] [] mv_720 rfl (o_X9_at gq2) (w_X9_at gq2) (by omega) (by omega) (Nat.le_of_ble_eq_true rfl) (by decide +kernel) rfl ?_
    refine C.seg (pe := 12) (lv' := [(6, .null), (0, .ref a0), (1, .int p1), (2, .int p2), (3, .int p3), (4, .int p4), (5, .int p5)]) (st' := [.null]) [(.astore 6, 2, 0), (.aload 6, 2, 0)] (by decide +kernel) rfl ?_
    refine C.nonnullN (off := 9) (pf := 15) (by decide +kernel) rfl ?_
    refine C.seg (pe := 17) (lv' := [(6, .null), (0, .ref a0), (1, .int p1), (2, .int p2), (3, .int p3), (4, .int p4), (5, .int p5)]) (st' := [.int 1, .ref a0]) [(.aload_n 0, 1, 0), (.iconst 1, 1, 1)] (by decide +kernel) rfl ?_
    obtain ⟨x5, h6, gx5, hf⟩ := b2_some hf
    refine C.callVr C2 [.int 1] [] mv_625 rfl (o_X11_refuse gx5) (w_X11_refuse gx5) (by omega) (by omega) (Nat.le_of_ble_eq_true rfl) (by decide +kernel) rfl ?_
    cases hf
    exact C.retI rfl (by decide +kernel) ⟨rfl, rfl⟩
  | some a4 =>
    replace hf := tr_some hf
    refine C.callVr C2 [.int p1] [] mv_720 rfl (o_X9_at gq2) (w_X9_at gq2) (by omega) (by omega) (Nat.le_of_ble_eq_true rfl) (by decide +kernel) rfl ?_
    refine C.seg (pe := 12) (lv' := [(6, .ref a4), (0, .ref a0), (1, .int p1), (2, .int p2), (3, .int p3), (4, .int p4), (5, .int p5)]) (st' := [.ref a4]) [(.astore 6, 2, 0), (.aload 6, 2, 0)] (by decide +kernel) rfl ?_
    refine C.nonnullR (off := 9) (tgt := 21) (by decide +kernel) (by decide) ?_
    refine C.seg (pe := 29) (lv' := [(6, .ref a4), (0, .ref a0), (1, .int p1), (2, .int p2), (3, .int p3), (4, .int p4), (5, .int p5)]) (st' := [.int p5, .int p4, .int p3, .int p2, .ref a4]) [(.aload 6, 2, 0), (.iload_n 2, 1, 0), (.iload_n 3, 1, 0), (.iload 4, 2, 0), (.iload 5, 2, 0)] (by decide +kernel) rfl ?_
    obtain ⟨x7, h8, gx7, hf⟩ := b2_some hf
    refine C.callVr C2 [.int p2, .int p3, .int p4, .int p5] [] mv_744 rfl (o_X8_holds gx7) (w_X8_holds gx7) (by omega) (by omega) (Nat.le_of_ble_eq_true rfl) (by decide +kernel) rfl ?_
    refine C.if_ne (off := 9) (tgt := 41) (pf := 35) (by decide +kernel) (by decide) rfl (fun c19 => ?_) (fun c19 => ?_)
    · replace hf := ifn c19 hf
      refine C.seg (pe := 43) (lv' := [(6, .ref a4), (0, .ref a0), (1, .int p1), (2, .int p2), (3, .int p3), (4, .int p4), (5, .int p5)]) (st' := [.ref a4]) [(.aload 6, 2, 0)] (by decide +kernel) rfl ?_
      obtain ⟨x9, gx9, hf⟩ := Option.bind_eq_some_iff.mp hf
      refine C.rdI fr_661 gx9 (by decide +kernel) rfl ?_
      refine C.seg (pe := 48) (lv' := [(6, .ref a4), (0, .ref a0), (1, .int p1), (2, .int p2), (3, .int p3), (4, .int p4), (5, .int p5)]) (st' := [.int (-2), .int x9]) [(.bipush (-2), 2, (-2))] (by decide +kernel) rfl ?_
      refine C.icmp_eq (off := 9) (tgt := 57) (pf := 51) (by decide +kernel) (by decide) rfl (fun c16 => ?_) (fun c16 => ?_)
      · replace hf := ifp c16 hf
        refine C.seg (pe := 66) (lv' := [(6, .ref a4), (0, .ref a0), (1, .int p1), (2, .int p2), (3, .int p3), (4, .int p4), (5, .int p5)]) (st' := [.int p5, .int p4, .int p3, .int p2, .ref a4, .ref a0]) [(.aload_n 0, 1, 0), (.aload 6, 2, 0), (.iload_n 2, 1, 0), (.iload_n 3, 1, 0), (.iload 4, 2, 0), (.iload 5, 2, 0)] (by decide +kernel) rfl ?_
        obtain ⟨x10, h11, gx10, hf⟩ := b2_some hf
        refine C.callVr C2 [.int p2, .int p3, .int p4, .int p5] [.ref a0] mv_748 rfl (o_X8_cut gx10) (w_X8_cut gx10) (by omega) (by omega) (Nat.le_of_ble_eq_true rfl) (by decide +kernel) rfl ?_
        obtain ⟨x12, h13, gx12, hf⟩ := b2_some hf
        refine C.callVr C2 [.int x10] [] mv_712 rfl (o_X11_tell gx12) (w_X11_tell gx12) (by omega) (by omega) (Nat.le_of_ble_eq_true rfl) (by decide +kernel) rfl ?_
        cases hf
        exact C.retI rfl (by decide +kernel) ⟨rfl, rfl⟩
      · replace hf := ifn c16 hf
        refine C.seg (pe := 53) (lv' := [(6, .ref a4), (0, .ref a0), (1, .int p1), (2, .int p2), (3, .int p3), (4, .int p4), (5, .int p5)]) (st' := [.int 5, .ref a0]) [(.aload_n 0, 1, 0), (.iconst 5, 1, 5)] (by decide +kernel) rfl ?_
        obtain ⟨x14, h15, gx14, hf⟩ := b2_some hf
        refine C.callVr C2 [.int 5] [] mv_625 rfl (o_X11_refuse gx14) (w_X11_refuse gx14) (by omega) (by omega) (Nat.le_of_ble_eq_true rfl) (by decide +kernel) rfl ?_
        cases hf
        exact C.retI rfl (by decide +kernel) ⟨rfl, rfl⟩
    · replace hf := ifp c19 hf
      refine C.seg (pe := 37) (lv' := [(6, .ref a4), (0, .ref a0), (1, .int p1), (2, .int p2), (3, .int p3), (4, .int p4), (5, .int p5)]) (st' := [.int 2, .ref a0]) [(.aload_n 0, 1, 0), (.iconst 2, 1, 2)] (by decide +kernel) rfl ?_
      obtain ⟨x17, h18, gx17, hf⟩ := b2_some hf
      refine C.callVr C2 [.int 2] [] mv_625 rfl (o_X11_refuse gx17) (w_X11_refuse gx17) (by omega) (by omega) (Nat.le_of_ble_eq_true rfl) (by decide +kernel) rfl ?_
      cases hf
      exact C.retI rfl (by decide +kernel) ⟨rfl, rfl⟩
theorem o_X11_hole {a0 : Nat} {p1 : Int32} {p2 : Int32} {p3 : Int32} {p4 : Int32} {p5 : Int32} {h : AH} {rr : Int32} {hr : AH} (hf : f_X11_hole a0 p1 p2 p3 p4 p5 h = some (rr, hr)) : isO 11 h a0 = true := by
  unfold f_X11_hole at hf
  exact (ifO hf).1
/-! WallHouse.deny(I)Z -/
def f_X11_deny (a0 : Nat) (p1 : Int32) (h : AH) : Option (Int32 × AH) :=
  if isO 11 h a0 = true then
    (pI 11 h a0 16 p1).bind fun h1 =>
    some (0, h1)
  else none
set_option maxRecDepth 100000 in
set_option maxHeartbeats 4000000 in
theorem w_X11_deny {l : Launch} {G : GX} {a0 : Nat} {p1 : Int32} {h : AH} {rr : Int32} {hr : AH} (hf : f_X11_deny a0 p1 h = some (rr, hr)) : Ct l G yX11_deny 0 0 [.ref a0, .int p1] h (QI rr hr) := by
  unfold f_X11_deny at hf
  obtain ⟨ho, hf⟩ := ifO hf
  refine Ct_of (own := RX11) (cc := cX11_deny) (nL := 2) (ret := (some .boolean)) rfl rfl k_764 (Nat.le_of_ble_eq_true rfl) (fun X C2 C => ?_)
  show V X G h (QI rr hr) 0 [(0, .ref a0), (1, .int p1)] [] h
  refine C.seg (pe := 2) (lv' := [(0, .ref a0), (1, .int p1)]) (st' := [.int p1, .ref a0]) [(.aload_n 0, 1, 0), (.iload_n 1, 1, 0)] (by decide +kernel) rfl ?_
  obtain ⟨h1, gh1, hf⟩ := Option.bind_eq_some_iff.mp hf
  refine C.putI fl_576 gh1 (by decide +kernel) rfl ?_
  refine C.seg (pe := 6) (lv' := [(0, .ref a0), (1, .int p1)]) (st' := [.int 0]) [(.iconst 0, 1, 0)] (by decide +kernel) rfl ?_
  cases hf
  exact C.retZ rfl (by decide) (by decide +kernel) ⟨rfl, rfl⟩
theorem o_X11_deny {a0 : Nat} {p1 : Int32} {h : AH} {rr : Int32} {hr : AH} (hf : f_X11_deny a0 p1 h = some (rr, hr)) : isO 11 h a0 = true := by
  unfold f_X11_deny at hf
  exact (ifO hf).1
/-! WallHouse.grant()Z -/
def f_X11_grant (a0 : Nat) (h : AH) : Option (Int32 × AH) :=
  if isO 11 h a0 = true then
    (pI 11 h a0 16 0).bind fun h1 =>
    some (1, h1)
  else none
set_option maxRecDepth 100000 in
set_option maxHeartbeats 4000000 in
theorem w_X11_grant {l : Launch} {G : GX} {a0 : Nat} {h : AH} {rr : Int32} {hr : AH} (hf : f_X11_grant a0 h = some (rr, hr)) : Ct l G yX11_grant 0 0 [.ref a0] h (QI rr hr) := by
  unfold f_X11_grant at hf
  obtain ⟨ho, hf⟩ := ifO hf
  refine Ct_of (own := RX11) (cc := cX11_grant) (nL := 1) (ret := (some .boolean)) rfl rfl k_772 (Nat.le_of_ble_eq_true rfl) (fun X C2 C => ?_)
  show V X G h (QI rr hr) 0 [(0, .ref a0)] [] h
  refine C.seg (pe := 2) (lv' := [(0, .ref a0)]) (st' := [.int 0, .ref a0]) [(.aload_n 0, 1, 0), (.iconst 0, 1, 0)] (by decide +kernel) rfl ?_
  obtain ⟨h1, gh1, hf⟩ := Option.bind_eq_some_iff.mp hf
  refine C.putI fl_576 gh1 (by decide +kernel) rfl ?_
  refine C.seg (pe := 6) (lv' := [(0, .ref a0)]) (st' := [.int 1]) [(.iconst 1, 1, 1)] (by decide +kernel) rfl ?_
  cases hf
  exact C.retZ rfl (by decide) (by decide +kernel) ⟨rfl, rfl⟩
theorem o_X11_grant {a0 : Nat} {h : AH} {rr : Int32} {hr : AH} (hf : f_X11_grant a0 h = some (rr, hr)) : isO 11 h a0 = true := by
  unfold f_X11_grant at hf
  exact (ifO hf).1
/-! WallHouse.leave(IIIZ)Z -/
def f_X11_leave_41 (r0 : Nat) (h : AH) : Option (Int32 × AH) :=
  b2 (f_X11_deny r0 2 h) fun x1 h2 =>
  (ckZ x1).bind fun x3 =>
  some (x3, h2)
set_option maxRecDepth 100000 in
set_option maxHeartbeats 4000000 in
theorem l_X11_leave_41 {X : MX} {l : Launch} {G : GX} {h0 : AH} {rr : Int32} {hr : AH} (C : Cx X G RX11 cX11_leave 6 (some .boolean) 1 23 h0) (C2 : Cy X l "leave" []) (r0 : Nat) (h : AH) (hf : f_X11_leave_41 r0 h = some (rr, hr)) : V X G h0 (QI rr hr) 41 [(0, .ref r0)] [] h := by
  unfold f_X11_leave_41 at hf
  refine C.seg (pe := 43) (lv' := [(0, .ref r0)]) (st' := [.int 2, .ref r0]) [(.aload_n 0, 1, 0), (.iconst 2, 1, 2)] (by decide +kernel) rfl ?_
  obtain ⟨x1, h2, gx1, hf⟩ := b2_some hf
  refine C.callVr C2 [.int 2] [] mv_761 rfl (o_X11_deny gx1) (w_X11_deny gx1) (by omega) (by omega) (Nat.le_of_ble_eq_true rfl) (by decide +kernel) rfl ?_
  obtain ⟨x3, gx3, hf⟩ := Option.bind_eq_some_iff.mp hf
  have ex3 := ckZ_eq gx3
  subst ex3
  cases hf
  exact C.retZ rfl gx3 (by decide +kernel) ⟨rfl, rfl⟩
def f_X11_leave (a0 : Nat) (p1 : Int32) (p2 : Int32) (p3 : Int32) (p4 : Int32) (h : AH) : Option (Int32 × AH) :=
  if isO 11 h a0 = true then
    (gA 11 h a0 0).bind fun a1 =>
    b2 (f_X9_at a1 p1 h) fun q2 h3 =>
    tr q2 (
      b2 (f_X11_deny a0 1 h3) fun x5 h6 =>
      (ckZ x5).bind fun x7 =>
      some (x7, h6)) fun a4 =>
    b2 (f_X11_within p2 0 9 h3) fun x8 h9 =>
    if x8 = 0 then
      f_X11_leave_41 a0 h9
    else
      b2 (f_X11_within p3 p2 9 h9) fun x10 h11 =>
      if x10 = 0 then
        f_X11_leave_41 a0 h11
      else
        (f_X8_setLeave a4 p2 p3 p4 h11).bind fun h12 =>
        b2 (f_X11_grant a0 h12) fun x13 h14 =>
        (ckZ x13).bind fun x15 =>
        some (x15, h14)
  else none
set_option maxRecDepth 100000 in
set_option maxHeartbeats 4000000 in
theorem w_X11_leave {l : Launch} {G : GX} {a0 : Nat} {p1 : Int32} {p2 : Int32} {p3 : Int32} {p4 : Int32} {h : AH} {rr : Int32} {hr : AH} (hf : f_X11_leave a0 p1 p2 p3 p4 h = some (rr, hr)) : Ct l G yX11_leave 1 23 [.ref a0, .int p1, .int p2, .int p3, .int p4] h (QI rr hr) := by
  unfold f_X11_leave at hf
  obtain ⟨ho, hf⟩ := ifO hf
  refine Ct_of (own := RX11) (cc := cX11_leave) (nL := 6) (ret := (some .boolean)) rfl rfl k_760 (Nat.le_of_ble_eq_true rfl) (fun X C2 C => ?_)
  show V X G h (QI rr hr) 0 [(0, .ref a0), (1, .int p1), (2, .int p2), (3, .int p3), (4, .int p4)] [] h
  refine C.seg (pe := 1) (lv' := [(0, .ref a0), (1, .int p1), (2, .int p2), (3, .int p3), (4, .int p4)]) (st' := [.ref a0]) [(.aload_n 0, 1, 0)] (by decide +kernel) rfl ?_
  obtain ⟨a1, ga1, hf⟩ := Option.bind_eq_some_iff.mp hf
  refine C.rdA fr_560 ga1 (by decide +kernel) rfl ?_
  refine C.seg (pe := 5) (lv' := [(0, .ref a0), (1, .int p1), (2, .int p2), (3, .int p3), (4, .int p4)]) (st' := [.int p1, .ref a1]) [(.iload_n 1, 1, 0)] (by decide +kernel) rfl ?_
  obtain ⟨q2, h3, gq2, hf⟩ := b2_some hf
  cases q2 with
  | none =>
    replace hf := tr_none hf
    refine C.callVr C2 [.int p1] [] mv_720 rfl (o_X9_at gq2) (w_X9_at gq2) (by omega) (by omega) (Nat.le_of_ble_eq_true rfl) (by decide +kernel) rfl ?_
    refine C.seg (pe := 12) (lv' := [(5, .null), (0, .ref a0), (1, .int p1), (2, .int p2), (3, .int p3), (4, .int p4)]) (st' := [.null]) [(.astore 5, 2, 0), (.aload 5, 2, 0)] (by decide +kernel) rfl ?_
    refine C.nonnullN (off := 9) (pf := 15) (by decide +kernel) rfl ?_
    refine C.seg (pe := 17) (lv' := [(5, .null), (0, .ref a0), (1, .int p1), (2, .int p2), (3, .int p3), (4, .int p4)]) (st' := [.int 1, .ref a0]) [(.aload_n 0, 1, 0), (.iconst 1, 1, 1)] (by decide +kernel) rfl ?_
    obtain ⟨x5, h6, gx5, hf⟩ := b2_some hf
    refine C.callVr C2 [.int 1] [] mv_761 rfl (o_X11_deny gx5) (w_X11_deny gx5) (by omega) (by omega) (Nat.le_of_ble_eq_true rfl) (by decide +kernel) rfl ?_
    obtain ⟨x7, gx7, hf⟩ := Option.bind_eq_some_iff.mp hf
    have ex7 := ckZ_eq gx7
    subst ex7
    cases hf
    exact C.retZ rfl gx7 (by decide +kernel) ⟨rfl, rfl⟩
  | some a4 =>
    replace hf := tr_some hf
    refine C.callVr C2 [.int p1] [] mv_720 rfl (o_X9_at gq2) (w_X9_at gq2) (by omega) (by omega) (Nat.le_of_ble_eq_true rfl) (by decide +kernel) rfl ?_
    refine C.seg (pe := 12) (lv' := [(5, .ref a4), (0, .ref a0), (1, .int p1), (2, .int p2), (3, .int p3), (4, .int p4)]) (st' := [.ref a4]) [(.astore 5, 2, 0), (.aload 5, 2, 0)] (by decide +kernel) rfl ?_
    refine C.nonnullR (off := 9) (tgt := 21) (by decide +kernel) (by decide) ?_
    refine C.seg (pe := 25) (lv' := [(5, .ref a4), (0, .ref a0), (1, .int p1), (2, .int p2), (3, .int p3), (4, .int p4)]) (st' := [.int 9, .int 0, .int p2]) [(.iload_n 2, 1, 0), (.iconst 0, 1, 0), (.bipush 9, 2, 9)] (by decide +kernel) rfl ?_
    obtain ⟨x8, h9, gx8, hf⟩ := b2_some hf
    refine C.callSr C2 [.int p2, .int 0, .int 9] [] ms_622 rfl (w_X11_within gx8) (by omega) (by omega) (Nat.le_of_ble_eq_true rfl) (by decide +kernel) rfl ?_
    refine C.if_eq (off := 13) (tgt := 41) (pf := 31) (by decide +kernel) (by decide) rfl (fun c17 => ?_) (fun c17 => ?_)
    · replace hf := ifp c17 hf
      refine Vsub [1] rfl ?_
      exact l_X11_leave_41 C C2 a0 h9 hf
    · replace hf := ifn c17 hf
      refine C.seg (pe := 35) (lv' := [(5, .ref a4), (0, .ref a0), (1, .int p1), (2, .int p2), (3, .int p3), (4, .int p4)]) (st' := [.int 9, .int p2, .int p3]) [(.iload_n 3, 1, 0), (.iload_n 2, 1, 0), (.bipush 9, 2, 9)] (by decide +kernel) rfl ?_
      obtain ⟨x10, h11, gx10, hf⟩ := b2_some hf
      refine C.callSr C2 [.int p3, .int p2, .int 9] [] ms_622 rfl (w_X11_within gx10) (by omega) (by omega) (Nat.le_of_ble_eq_true rfl) (by decide +kernel) rfl ?_
      refine C.if_ne (off := 9) (tgt := 47) (pf := 41) (by decide +kernel) (by decide) rfl (fun c16 => ?_) (fun c16 => ?_)
      · replace hf := ifn c16 hf
        refine C.seg (pe := 53) (lv' := [(5, .ref a4), (0, .ref a0), (1, .int p1), (2, .int p2), (3, .int p3), (4, .int p4)]) (st' := [.int p4, .int p3, .int p2, .ref a4]) [(.aload 5, 2, 0), (.iload_n 2, 1, 0), (.iload_n 3, 1, 0), (.iload 4, 2, 0)] (by decide +kernel) rfl ?_
        obtain ⟨h12, gh12, hf⟩ := Option.bind_eq_some_iff.mp hf
        refine C.callVr C2 [.int p2, .int p3, .int p4] [] mv_765 rfl (o_X8_setLeave gh12) (w_X8_setLeave gh12) (by omega) (by omega) (Nat.le_of_ble_eq_true rfl) (by decide +kernel) rfl ?_
        refine C.seg (pe := 57) (lv' := [(5, .ref a4), (0, .ref a0), (1, .int p1), (2, .int p2), (3, .int p3), (4, .int p4)]) (st' := [.ref a0]) [(.aload_n 0, 1, 0)] (by decide +kernel) rfl ?_
        obtain ⟨x13, h14, gx13, hf⟩ := b2_some hf
        refine C.callVr C2 [] [] mv_769 rfl (o_X11_grant gx13) (w_X11_grant gx13) (by omega) (by omega) (Nat.le_of_ble_eq_true rfl) (by decide +kernel) rfl ?_
        obtain ⟨x15, gx15, hf⟩ := Option.bind_eq_some_iff.mp hf
        have ex15 := ckZ_eq gx15
        subst ex15
        cases hf
        exact C.retZ rfl gx15 (by decide +kernel) ⟨rfl, rfl⟩
      · replace hf := ifp c16 hf
        refine Vsub [1] rfl ?_
        exact l_X11_leave_41 C C2 a0 h11 hf
theorem o_X11_leave {a0 : Nat} {p1 : Int32} {p2 : Int32} {p3 : Int32} {p4 : Int32} {h : AH} {rr : Int32} {hr : AH} (hf : f_X11_leave a0 p1 p2 p3 p4 h = some (rr, hr)) : isO 11 h a0 = true := by
  unfold f_X11_leave at hf
  exact (ifO hf).1
/-! WallHouse.sold(II)Z -/
def f_X11_sold (a0 : Nat) (p1 : Int32) (p2 : Int32) (h : AH) : Option (Int32 × AH) :=
  if isO 11 h a0 = true then
    (gA 11 h a0 0).bind fun a1 =>
    b2 (f_X9_at a1 p1 h) fun q2 h3 =>
    tr q2 (
      b2 (f_X11_deny a0 1 h3) fun x5 h6 =>
      (ckZ x5).bind fun x7 =>
      some (x7, h6)) fun a4 =>
    b2 (f_X11_within p2 0 99 h3) fun x8 h9 =>
    if x8 = 0 then
      b2 (f_X11_deny a0 2 h9) fun x14 h15 =>
      (ckZ x14).bind fun x16 =>
      some (x16, h15)
    else
      (f_X8_sellTo a4 p2 h9).bind fun h10 =>
      b2 (f_X11_grant a0 h10) fun x11 h12 =>
      (ckZ x11).bind fun x13 =>
      some (x13, h12)
  else none
set_option maxRecDepth 100000 in
set_option maxHeartbeats 4000000 in
theorem w_X11_sold {l : Launch} {G : GX} {a0 : Nat} {p1 : Int32} {p2 : Int32} {h : AH} {rr : Int32} {hr : AH} (hf : f_X11_sold a0 p1 p2 h = some (rr, hr)) : Ct l G yX11_sold 1 22 [.ref a0, .int p1, .int p2] h (QI rr hr) := by
  unfold f_X11_sold at hf
  obtain ⟨ho, hf⟩ := ifO hf
  refine Ct_of (own := RX11) (cc := cX11_sold) (nL := 4) (ret := (some .boolean)) rfl rfl k_776 (Nat.le_of_ble_eq_true rfl) (fun X C2 C => ?_)
  show V X G h (QI rr hr) 0 [(0, .ref a0), (1, .int p1), (2, .int p2)] [] h
  refine C.seg (pe := 1) (lv' := [(0, .ref a0), (1, .int p1), (2, .int p2)]) (st' := [.ref a0]) [(.aload_n 0, 1, 0)] (by decide +kernel) rfl ?_
  obtain ⟨a1, ga1, hf⟩ := Option.bind_eq_some_iff.mp hf
  refine C.rdA fr_560 ga1 (by decide +kernel) rfl ?_
  refine C.seg (pe := 5) (lv' := [(0, .ref a0), (1, .int p1), (2, .int p2)]) (st' := [.int p1, .ref a1]) [(.iload_n 1, 1, 0)] (by decide +kernel) rfl ?_
  obtain ⟨q2, h3, gq2, hf⟩ := b2_some hf
  cases q2 with
  | none =>
    replace hf := tr_none hf
    refine C.callVr C2 [.int p1] [] mv_720 rfl (o_X9_at gq2) (w_X9_at gq2) (by omega) (by omega) (Nat.le_of_ble_eq_true rfl) (by decide +kernel) rfl ?_
    refine C.seg (pe := 10) (lv' := [(3, .null), (0, .ref a0), (1, .int p1), (2, .int p2)]) (st' := [.null]) [(.astore_n 3, 1, 0), (.aload_n 3, 1, 0)] (by decide +kernel) rfl ?_
    refine C.nonnullN (off := 9) (pf := 13) (by decide +kernel) rfl ?_
    refine C.seg (pe := 15) (lv' := [(3, .null), (0, .ref a0), (1, .int p1), (2, .int p2)]) (st' := [.int 1, .ref a0]) [(.aload_n 0, 1, 0), (.iconst 1, 1, 1)] (by decide +kernel) rfl ?_
    obtain ⟨x5, h6, gx5, hf⟩ := b2_some hf
    refine C.callVr C2 [.int 1] [] mv_761 rfl (o_X11_deny gx5) (w_X11_deny gx5) (by omega) (by omega) (Nat.le_of_ble_eq_true rfl) (by decide +kernel) rfl ?_
    obtain ⟨x7, gx7, hf⟩ := Option.bind_eq_some_iff.mp hf
    have ex7 := ckZ_eq gx7
    subst ex7
    cases hf
    exact C.retZ rfl gx7 (by decide +kernel) ⟨rfl, rfl⟩
  | some a4 =>
    replace hf := tr_some hf
    refine C.callVr C2 [.int p1] [] mv_720 rfl (o_X9_at gq2) (w_X9_at gq2) (by omega) (by omega) (Nat.le_of_ble_eq_true rfl) (by decide +kernel) rfl ?_
    refine C.seg (pe := 10) (lv' := [(3, .ref a4), (0, .ref a0), (1, .int p1), (2, .int p2)]) (st' := [.ref a4]) [(.astore_n 3, 1, 0), (.aload_n 3, 1, 0)] (by decide +kernel) rfl ?_
    refine C.nonnullR (off := 9) (tgt := 19) (by decide +kernel) (by decide) ?_
    refine C.seg (pe := 23) (lv' := [(3, .ref a4), (0, .ref a0), (1, .int p1), (2, .int p2)]) (st' := [.int 99, .int 0, .int p2]) [(.iload_n 2, 1, 0), (.iconst 0, 1, 0), (.bipush 99, 2, 99)] (by decide +kernel) rfl ?_
    obtain ⟨x8, h9, gx8, hf⟩ := b2_some hf
    refine C.callSr C2 [.int p2, .int 0, .int 99] [] ms_622 rfl (w_X11_within gx8) (by omega) (by omega) (Nat.le_of_ble_eq_true rfl) (by decide +kernel) rfl ?_
    refine C.if_ne (off := 9) (tgt := 35) (pf := 29) (by decide +kernel) (by decide) rfl (fun c17 => ?_) (fun c17 => ?_)
    · replace hf := ifn c17 hf
      refine C.seg (pe := 37) (lv' := [(3, .ref a4), (0, .ref a0), (1, .int p1), (2, .int p2)]) (st' := [.int p2, .ref a4]) [(.aload_n 3, 1, 0), (.iload_n 2, 1, 0)] (by decide +kernel) rfl ?_
      obtain ⟨h10, gh10, hf⟩ := Option.bind_eq_some_iff.mp hf
      refine C.callVr C2 [.int p2] [] mv_777 rfl (o_X8_sellTo gh10) (w_X8_sellTo gh10) (by omega) (by omega) (Nat.le_of_ble_eq_true rfl) (by decide +kernel) rfl ?_
      refine C.seg (pe := 41) (lv' := [(3, .ref a4), (0, .ref a0), (1, .int p1), (2, .int p2)]) (st' := [.ref a0]) [(.aload_n 0, 1, 0)] (by decide +kernel) rfl ?_
      obtain ⟨x11, h12, gx11, hf⟩ := b2_some hf
      refine C.callVr C2 [] [] mv_769 rfl (o_X11_grant gx11) (w_X11_grant gx11) (by omega) (by omega) (Nat.le_of_ble_eq_true rfl) (by decide +kernel) rfl ?_
      obtain ⟨x13, gx13, hf⟩ := Option.bind_eq_some_iff.mp hf
      have ex13 := ckZ_eq gx13
      subst ex13
      cases hf
      exact C.retZ rfl gx13 (by decide +kernel) ⟨rfl, rfl⟩
    · replace hf := ifp c17 hf
      refine C.seg (pe := 31) (lv' := [(3, .ref a4), (0, .ref a0), (1, .int p1), (2, .int p2)]) (st' := [.int 2, .ref a0]) [(.aload_n 0, 1, 0), (.iconst 2, 1, 2)] (by decide +kernel) rfl ?_
      obtain ⟨x14, h15, gx14, hf⟩ := b2_some hf
      refine C.callVr C2 [.int 2] [] mv_761 rfl (o_X11_deny gx14) (w_X11_deny gx14) (by omega) (by omega) (Nat.le_of_ble_eq_true rfl) (by decide +kernel) rfl ?_
      obtain ⟨x16, gx16, hf⟩ := Option.bind_eq_some_iff.mp hf
      have ex16 := ckZ_eq gx16
      subst ex16
      cases hf
      exact C.retZ rfl gx16 (by decide +kernel) ⟨rfl, rfl⟩
theorem o_X11_sold {a0 : Nat} {p1 : Int32} {p2 : Int32} {h : AH} {rr : Int32} {hr : AH} (hf : f_X11_sold a0 p1 p2 h = some (rr, hr)) : isO 11 h a0 = true := by
  unfold f_X11_sold at hf
  exact (ifO hf).1
/-! WallHouse.beside(IIZ)Z -/
def f_X11_beside (a0 : Nat) (p1 : Int32) (p2 : Int32) (p3 : Int32) (h : AH) : Option (Int32 × AH) :=
  if isO 11 h a0 = true then
    (gA 11 h a0 0).bind fun a1 =>
    b2 (f_X9_arePair a1 p1 p2 h) fun x2 h3 =>
    if x2 = 0 then
      b2 (f_X11_deny a0 1 h3) fun x9 h10 =>
      (ckZ x9).bind fun x11 =>
      some (x11, h10)
    else
      (gA 11 h3 a0 0).bind fun a4 =>
      (f_X9_setBeside a4 p1 p2 p3 h3).bind fun h5 =>
      b2 (f_X11_grant a0 h5) fun x6 h7 =>
      (ckZ x6).bind fun x8 =>
      some (x8, h7)
  else none
set_option maxRecDepth 100000 in
set_option maxHeartbeats 4000000 in
theorem w_X11_beside {l : Launch} {G : GX} {a0 : Nat} {p1 : Int32} {p2 : Int32} {p3 : Int32} {h : AH} {rr : Int32} {hr : AH} (hf : f_X11_beside a0 p1 p2 p3 h = some (rr, hr)) : Ct l G yX11_beside 3 66 [.ref a0, .int p1, .int p2, .int p3] h (QI rr hr) := by
  unfold f_X11_beside at hf
  obtain ⟨ho, hf⟩ := ifO hf
  refine Ct_of (own := RX11) (cc := cX11_beside) (nL := 4) (ret := (some .boolean)) rfl rfl k_784 (Nat.le_of_ble_eq_true rfl) (fun X C2 C => ?_)
  show V X G h (QI rr hr) 0 [(0, .ref a0), (1, .int p1), (2, .int p2), (3, .int p3)] [] h
  refine C.seg (pe := 1) (lv' := [(0, .ref a0), (1, .int p1), (2, .int p2), (3, .int p3)]) (st' := [.ref a0]) [(.aload_n 0, 1, 0)] (by decide +kernel) rfl ?_
  obtain ⟨a1, ga1, hf⟩ := Option.bind_eq_some_iff.mp hf
  refine C.rdA fr_560 ga1 (by decide +kernel) rfl ?_
  refine C.seg (pe := 6) (lv' := [(0, .ref a0), (1, .int p1), (2, .int p2), (3, .int p3)]) (st' := [.int p2, .int p1, .ref a1]) [(.iload_n 1, 1, 0), (.iload_n 2, 1, 0)] (by decide +kernel) rfl ?_
  obtain ⟨x2, h3, gx2, hf⟩ := b2_some hf
  refine C.callVr C2 [.int p1, .int p2] [] mv_785 rfl (o_X9_arePair gx2) (w_X9_arePair gx2) (by omega) (by omega) (Nat.le_of_ble_eq_true rfl) (by decide +kernel) rfl ?_
  refine C.if_ne (off := 9) (tgt := 18) (pf := 12) (by decide +kernel) (by decide) rfl (fun c12 => ?_) (fun c12 => ?_)
  · replace hf := ifn c12 hf
    refine C.seg (pe := 19) (lv' := [(0, .ref a0), (1, .int p1), (2, .int p2), (3, .int p3)]) (st' := [.ref a0]) [(.aload_n 0, 1, 0)] (by decide +kernel) rfl ?_
    obtain ⟨a4, ga4, hf⟩ := Option.bind_eq_some_iff.mp hf
    refine C.rdA fr_560 ga4 (by decide +kernel) rfl ?_
    refine C.seg (pe := 25) (lv' := [(0, .ref a0), (1, .int p1), (2, .int p2), (3, .int p3)]) (st' := [.int p3, .int p2, .int p1, .ref a4]) [(.iload_n 1, 1, 0), (.iload_n 2, 1, 0), (.iload_n 3, 1, 0)] (by decide +kernel) rfl ?_
    obtain ⟨h5, gh5, hf⟩ := Option.bind_eq_some_iff.mp hf
    refine C.callVr C2 [.int p1, .int p2, .int p3] [] mv_790 rfl (o_X9_setBeside gh5) (w_X9_setBeside gh5) (by omega) (by omega) (Nat.le_of_ble_eq_true rfl) (by decide +kernel) rfl ?_
    refine C.seg (pe := 29) (lv' := [(0, .ref a0), (1, .int p1), (2, .int p2), (3, .int p3)]) (st' := [.ref a0]) [(.aload_n 0, 1, 0)] (by decide +kernel) rfl ?_
    obtain ⟨x6, h7, gx6, hf⟩ := b2_some hf
    refine C.callVr C2 [] [] mv_769 rfl (o_X11_grant gx6) (w_X11_grant gx6) (by omega) (by omega) (Nat.le_of_ble_eq_true rfl) (by decide +kernel) rfl ?_
    obtain ⟨x8, gx8, hf⟩ := Option.bind_eq_some_iff.mp hf
    have ex8 := ckZ_eq gx8
    subst ex8
    cases hf
    exact C.retZ rfl gx8 (by decide +kernel) ⟨rfl, rfl⟩
  · replace hf := ifp c12 hf
    refine C.seg (pe := 14) (lv' := [(0, .ref a0), (1, .int p1), (2, .int p2), (3, .int p3)]) (st' := [.int 1, .ref a0]) [(.aload_n 0, 1, 0), (.iconst 1, 1, 1)] (by decide +kernel) rfl ?_
    obtain ⟨x9, h10, gx9, hf⟩ := b2_some hf
    refine C.callVr C2 [.int 1] [] mv_761 rfl (o_X11_deny gx9) (w_X11_deny gx9) (by omega) (by omega) (Nat.le_of_ble_eq_true rfl) (by decide +kernel) rfl ?_
    obtain ⟨x11, gx11, hf⟩ := Option.bind_eq_some_iff.mp hf
    have ex11 := ckZ_eq gx11
    subst ex11
    cases hf
    exact C.retZ rfl gx11 (by decide +kernel) ⟨rfl, rfl⟩
theorem o_X11_beside {a0 : Nat} {p1 : Int32} {p2 : Int32} {p3 : Int32} {h : AH} {rr : Int32} {hr : AH} (hf : f_X11_beside a0 p1 p2 p3 h = some (rr, hr)) : isO 11 h a0 = true := by
  unfold f_X11_beside at hf
  exact (ifO hf).1
/-! WallHouse.minutes(III)Z -/
def f_X11_minutes (a0 : Nat) (p1 : Int32) (p2 : Int32) (p3 : Int32) (h : AH) : Option (Int32 × AH) :=
  if isO 11 h a0 = true then
    (gA 11 h a0 0).bind fun a1 =>
    b2 (f_X9_arePair a1 p1 p2 h) fun x2 h3 =>
    if x2 = 0 then
      b2 (f_X11_deny a0 1 h3) fun x15 h16 =>
      (ckZ x15).bind fun x17 =>
      some (x17, h16)
    else
      b2 (f_X11_within p3 1 120 h3) fun x4 h5 =>
      if x4 = 0 then
        b2 (f_X11_deny a0 2 h5) fun x11 h12 =>
        (ckZ x11).bind fun x13 =>
        some (x13, h12)
      else
        (gA 11 h5 a0 0).bind fun a6 =>
        (f_X9_setWay a6 p1 p2 p3 h5).bind fun h7 =>
        b2 (f_X11_grant a0 h7) fun x8 h9 =>
        (ckZ x8).bind fun x10 =>
        some (x10, h9)
  else none
set_option maxRecDepth 100000 in
set_option maxHeartbeats 4000000 in
theorem w_X11_minutes {l : Launch} {G : GX} {a0 : Nat} {p1 : Int32} {p2 : Int32} {p3 : Int32} {h : AH} {rr : Int32} {hr : AH} (hf : f_X11_minutes a0 p1 p2 p3 h = some (rr, hr)) : Ct l G yX11_minutes 3 66 [.ref a0, .int p1, .int p2, .int p3] h (QI rr hr) := by
  unfold f_X11_minutes at hf
  obtain ⟨ho, hf⟩ := ifO hf
  refine Ct_of (own := RX11) (cc := cX11_minutes) (nL := 4) (ret := (some .boolean)) rfl rfl k_798 (Nat.le_of_ble_eq_true rfl) (fun X C2 C => ?_)
  show V X G h (QI rr hr) 0 [(0, .ref a0), (1, .int p1), (2, .int p2), (3, .int p3)] [] h
  refine C.seg (pe := 1) (lv' := [(0, .ref a0), (1, .int p1), (2, .int p2), (3, .int p3)]) (st' := [.ref a0]) [(.aload_n 0, 1, 0)] (by decide +kernel) rfl ?_
  obtain ⟨a1, ga1, hf⟩ := Option.bind_eq_some_iff.mp hf
  refine C.rdA fr_560 ga1 (by decide +kernel) rfl ?_
  refine C.seg (pe := 6) (lv' := [(0, .ref a0), (1, .int p1), (2, .int p2), (3, .int p3)]) (st' := [.int p2, .int p1, .ref a1]) [(.iload_n 1, 1, 0), (.iload_n 2, 1, 0)] (by decide +kernel) rfl ?_
  obtain ⟨x2, h3, gx2, hf⟩ := b2_some hf
  refine C.callVr C2 [.int p1, .int p2] [] mv_785 rfl (o_X9_arePair gx2) (w_X9_arePair gx2) (by omega) (by omega) (Nat.le_of_ble_eq_true rfl) (by decide +kernel) rfl ?_
  refine C.if_ne (off := 9) (tgt := 18) (pf := 12) (by decide +kernel) (by decide) rfl (fun c18 => ?_) (fun c18 => ?_)
  · replace hf := ifn c18 hf
    refine C.seg (pe := 22) (lv' := [(0, .ref a0), (1, .int p1), (2, .int p2), (3, .int p3)]) (st' := [.int 120, .int 1, .int p3]) [(.iload_n 3, 1, 0), (.iconst 1, 1, 1), (.bipush 120, 2, 120)] (by decide +kernel) rfl ?_
    obtain ⟨x4, h5, gx4, hf⟩ := b2_some hf
    refine C.callSr C2 [.int p3, .int 1, .int 120] [] ms_622 rfl (w_X11_within gx4) (by omega) (by omega) (Nat.le_of_ble_eq_true rfl) (by decide +kernel) rfl ?_
    refine C.if_ne (off := 9) (tgt := 34) (pf := 28) (by decide +kernel) (by decide) rfl (fun c14 => ?_) (fun c14 => ?_)
    · replace hf := ifn c14 hf
      refine C.seg (pe := 35) (lv' := [(0, .ref a0), (1, .int p1), (2, .int p2), (3, .int p3)]) (st' := [.ref a0]) [(.aload_n 0, 1, 0)] (by decide +kernel) rfl ?_
      obtain ⟨a6, ga6, hf⟩ := Option.bind_eq_some_iff.mp hf
      refine C.rdA fr_560 ga6 (by decide +kernel) rfl ?_
      refine C.seg (pe := 41) (lv' := [(0, .ref a0), (1, .int p1), (2, .int p2), (3, .int p3)]) (st' := [.int p3, .int p2, .int p1, .ref a6]) [(.iload_n 1, 1, 0), (.iload_n 2, 1, 0), (.iload_n 3, 1, 0)] (by decide +kernel) rfl ?_
      obtain ⟨h7, gh7, hf⟩ := Option.bind_eq_some_iff.mp hf
      refine C.callVr C2 [.int p1, .int p2, .int p3] [] mv_799 rfl (o_X9_setWay gh7) (w_X9_setWay gh7) (by omega) (by omega) (Nat.le_of_ble_eq_true rfl) (by decide +kernel) rfl ?_
      refine C.seg (pe := 45) (lv' := [(0, .ref a0), (1, .int p1), (2, .int p2), (3, .int p3)]) (st' := [.ref a0]) [(.aload_n 0, 1, 0)] (by decide +kernel) rfl ?_
      obtain ⟨x8, h9, gx8, hf⟩ := b2_some hf
      refine C.callVr C2 [] [] mv_769 rfl (o_X11_grant gx8) (w_X11_grant gx8) (by omega) (by omega) (Nat.le_of_ble_eq_true rfl) (by decide +kernel) rfl ?_
      obtain ⟨x10, gx10, hf⟩ := Option.bind_eq_some_iff.mp hf
      have ex10 := ckZ_eq gx10
      subst ex10
      cases hf
      exact C.retZ rfl gx10 (by decide +kernel) ⟨rfl, rfl⟩
    · replace hf := ifp c14 hf
      refine C.seg (pe := 30) (lv' := [(0, .ref a0), (1, .int p1), (2, .int p2), (3, .int p3)]) (st' := [.int 2, .ref a0]) [(.aload_n 0, 1, 0), (.iconst 2, 1, 2)] (by decide +kernel) rfl ?_
      obtain ⟨x11, h12, gx11, hf⟩ := b2_some hf
      refine C.callVr C2 [.int 2] [] mv_761 rfl (o_X11_deny gx11) (w_X11_deny gx11) (by omega) (by omega) (Nat.le_of_ble_eq_true rfl) (by decide +kernel) rfl ?_
      obtain ⟨x13, gx13, hf⟩ := Option.bind_eq_some_iff.mp hf
      have ex13 := ckZ_eq gx13
      subst ex13
      cases hf
      exact C.retZ rfl gx13 (by decide +kernel) ⟨rfl, rfl⟩
  · replace hf := ifp c18 hf
    refine C.seg (pe := 14) (lv' := [(0, .ref a0), (1, .int p1), (2, .int p2), (3, .int p3)]) (st' := [.int 1, .ref a0]) [(.aload_n 0, 1, 0), (.iconst 1, 1, 1)] (by decide +kernel) rfl ?_
    obtain ⟨x15, h16, gx15, hf⟩ := b2_some hf
    refine C.callVr C2 [.int 1] [] mv_761 rfl (o_X11_deny gx15) (w_X11_deny gx15) (by omega) (by omega) (Nat.le_of_ble_eq_true rfl) (by decide +kernel) rfl ?_
    obtain ⟨x17, gx17, hf⟩ := Option.bind_eq_some_iff.mp hf
    have ex17 := ckZ_eq gx17
    subst ex17
    cases hf
    exact C.retZ rfl gx17 (by decide +kernel) ⟨rfl, rfl⟩
theorem o_X11_minutes {a0 : Nat} {p1 : Int32} {p2 : Int32} {p3 : Int32} {h : AH} {rr : Int32} {hr : AH} (hf : f_X11_minutes a0 p1 p2 p3 h = some (rr, hr)) : isO 11 h a0 = true := by
  unfold f_X11_minutes at hf
  exact (ifO hf).1
/-! WallHouse.putBytes(I)V -/
def f_X11_putBytes_48 (h : AH) : Option (AH) :=
  some h
set_option maxRecDepth 100000 in
set_option maxHeartbeats 4000000 in
theorem l_X11_putBytes_48 {X : MX} {l : Launch} {G : GX} {h0 : AH} {hr : AH} (C : Cx X G RX11 cX11_putBytes 3 none 0 0 h0) (C2 : Cy X l "putBytes" []) (h : AH) (hf : f_X11_putBytes_48 h = some hr) : V X G h0 (QV hr) 48 [] [] h := by
  unfold f_X11_putBytes_48 at hf
  cases hf
  exact C.retV rfl (by decide +kernel) ⟨rfl, rfl⟩
def f_X11_putBytes_3 : Nat → Nat → Int32 → Int32 → AH → Option (AH)
  | 0, _, _, _, _ => none
  | n + 1, r0, i1, i2, h =>
    if i2 < 0 then
      f_X11_putBytes_48 h
    else
      (gI 11 h r0 6).bind fun x1 =>
      (gA 11 h r0 5).bind fun a2 =>
      (aN h a2).bind fun x3 =>
      if x3 ≤ x1 then
        f_X11_putBytes_48 h
      else
        (gA 11 h r0 5).bind fun a4 =>
        (gI 11 h r0 6).bind fun x5 =>
        (sI 1 h a4 x5 ((i1 >>> (i2 &&& 31)).toInt8.toInt32)).bind fun h6 =>
        (gI 11 h6 r0 6).bind fun x7 =>
        (pI 11 h6 r0 6 (x7 + 1)).bind fun h8 =>
        (f_X11_putBytes_3 n) r0 i1 (i2 + (-8)) h8
set_option maxRecDepth 100000 in
set_option maxHeartbeats 4000000 in
theorem l_X11_putBytes_3 {X : MX} {l : Launch} {G : GX} {h0 : AH} {hr : AH} (C : Cx X G RX11 cX11_putBytes 3 none 0 0 h0) (C2 : Cy X l "putBytes" []) : ∀ (n : Nat) (r0 : Nat) (i1 : Int32) (i2 : Int32) (h : AH), f_X11_putBytes_3 n r0 i1 i2 h = some hr → V X G h0 (QV hr) 3 [(0, .ref r0), (1, .int i1), (2, .int i2)] [] h := by
  intro n
  induction n with
  | zero => intro r0 i1 i2 h hf; rw [f_X11_putBytes_3] at hf; cases hf
  | succ n ih =>
    intro r0 i1 i2 h hf
    rw [f_X11_putBytes_3] at hf
    refine C.seg (pe := 4) (lv' := [(0, .ref r0), (1, .int i1), (2, .int i2)]) (st' := [.int i2]) [(.iload_n 2, 1, 0)] (by decide +kernel) rfl ?_
    refine C.if_lt (off := 44) (tgt := 48) (pf := 7) (by decide +kernel) (by decide) rfl (fun c10 => ?_) (fun c10 => ?_)
    · replace hf := ifp c10 hf
      refine Vsub [] rfl ?_
      exact l_X11_putBytes_48 C C2 h hf
    · replace hf := ifn c10 hf
      refine C.seg (pe := 8) (lv' := [(0, .ref r0), (1, .int i1), (2, .int i2)]) (st' := [.ref r0]) [(.aload_n 0, 1, 0)] (by decide +kernel) rfl ?_
      obtain ⟨x1, gx1, hf⟩ := Option.bind_eq_some_iff.mp hf
      refine C.rdI fr_566 gx1 (by decide +kernel) rfl ?_
      refine C.seg (pe := 12) (lv' := [(0, .ref r0), (1, .int i1), (2, .int i2)]) (st' := [.ref r0, .int x1]) [(.aload_n 0, 1, 0)] (by decide +kernel) rfl ?_
      obtain ⟨a2, ga2, hf⟩ := Option.bind_eq_some_iff.mp hf
      refine C.rdA fr_565 ga2 (by decide +kernel) rfl ?_
      obtain ⟨x3, gx3, hf⟩ := Option.bind_eq_some_iff.mp hf
      refine C.alen gx3 (by decide +kernel) rfl ?_
      refine C.icmp_ge (off := 32) (tgt := 48) (pf := 19) (by decide +kernel) (by decide) rfl (fun c9 => ?_) (fun c9 => ?_)
      · replace hf := ifp c9 hf
        refine Vsub [] rfl ?_
        exact l_X11_putBytes_48 C C2 h hf
      · replace hf := ifn c9 hf
        refine C.seg (pe := 20) (lv' := [(0, .ref r0), (1, .int i1), (2, .int i2)]) (st' := [.ref r0]) [(.aload_n 0, 1, 0)] (by decide +kernel) rfl ?_
        obtain ⟨a4, ga4, hf⟩ := Option.bind_eq_some_iff.mp hf
        refine C.rdA fr_565 ga4 (by decide +kernel) rfl ?_
        refine C.seg (pe := 24) (lv' := [(0, .ref r0), (1, .int i1), (2, .int i2)]) (st' := [.ref r0, .ref a4]) [(.aload_n 0, 1, 0)] (by decide +kernel) rfl ?_
        obtain ⟨x5, gx5, hf⟩ := Option.bind_eq_some_iff.mp hf
        refine C.rdI fr_566 gx5 (by decide +kernel) rfl ?_
        refine C.seg (pe := 31) (lv' := [(0, .ref r0), (1, .int i1), (2, .int i2)]) (st' := [.int ((i1 >>> (i2 &&& 31)).toInt8.toInt32), .int x5, .ref a4]) [(.iload_n 1, 1, 0), (.iload_n 2, 1, 0), (.ishr, 1, 0), (.i2b, 1, 0)] (by decide +kernel) rfl ?_
        obtain ⟨h6, gh6, hf⟩ := Option.bind_eq_some_iff.mp hf
        refine C.bast gh6 (by decide +kernel) rfl ?_
        refine C.seg (pe := 34) (lv' := [(0, .ref r0), (1, .int i1), (2, .int i2)]) (st' := [.ref r0, .ref r0]) [(.aload_n 0, 1, 0), (.dup, 1, 0)] (by decide +kernel) rfl ?_
        obtain ⟨x7, gx7, hf⟩ := Option.bind_eq_some_iff.mp hf
        refine C.rdI fr_566 gx7 (by decide +kernel) rfl ?_
        refine C.seg (pe := 39) (lv' := [(0, .ref r0), (1, .int i1), (2, .int i2)]) (st' := [.int (x7 + 1), .ref r0]) [(.iconst 1, 1, 1), (.iadd, 1, 0)] (by decide +kernel) rfl ?_
        obtain ⟨h8, gh8, hf⟩ := Option.bind_eq_some_iff.mp hf
        refine C.putI fl_566 gh8 (by decide +kernel) rfl ?_
        refine C.seg (pe := 45) (lv' := [(2, .int (i2 + (-8))), (0, .ref r0), (1, .int i1)]) (st' := []) [(.iinc 2 (-8), 3, (-8))] (by decide +kernel) rfl ?_
        refine C.goto (off := (-42)) (tgt := 3) (by decide +kernel) (by decide) ?_
        refine Vsub [1, 2, 0] rfl ?_
        exact ih r0 i1 (i2 + (-8)) h8 hf
def f_X11_putBytes (a0 : Nat) (p1 : Int32) (h : AH) : Option (AH) :=
  if isO 11 h a0 = true then
    f_X11_putBytes_3 FU a0 p1 24 h
  else none
set_option maxRecDepth 100000 in
set_option maxHeartbeats 4000000 in
theorem w_X11_putBytes {l : Launch} {G : GX} {a0 : Nat} {p1 : Int32} {h : AH} {hr : AH} (hf : f_X11_putBytes a0 p1 h = some hr) : Ct l G yX11_putBytes 0 0 [.ref a0, .int p1] h (QV hr) := by
  unfold f_X11_putBytes at hf
  obtain ⟨ho, hf⟩ := ifO hf
  refine Ct_of (own := RX11) (cc := cX11_putBytes) (nL := 3) (ret := none) rfl rfl k_810 (Nat.le_of_ble_eq_true rfl) (fun X C2 C => ?_)
  show V X G h (QV hr) 0 [(0, .ref a0), (1, .int p1)] [] h
  refine C.seg (pe := 3) (lv' := [(2, .int 24), (0, .ref a0), (1, .int p1)]) (st' := []) [(.bipush 24, 2, 24), (.istore_n 2, 1, 0)] (by decide +kernel) rfl ?_
  refine Vsub [1, 2, 0] rfl ?_
  exact l_X11_putBytes_3 C C2 FU a0 p1 24 h hf
theorem o_X11_putBytes {a0 : Nat} {p1 : Int32} {h : AH} {hr : AH} (hf : f_X11_putBytes a0 p1 h = some hr) : isO 11 h a0 = true := by
  unfold f_X11_putBytes at hf
  exact (ifO hf).1
/-! WallHouse.feed(IIIII)I -/
def f_X11_feed (a0 : Nat) (p1 : Int32) (p2 : Int32) (p3 : Int32) (p4 : Int32) (p5 : Int32) (h : AH) : Option (Int32 × AH) :=
  if isO 11 h a0 = true then
    (gI 11 h a0 6).bind fun x1 =>
    if x1 + 20 ≤ 400 then
      (f_X11_putBytes a0 p1 h).bind fun h2 =>
      (f_X11_putBytes a0 p2 h2).bind fun h3 =>
      (f_X11_putBytes a0 p3 h3).bind fun h4 =>
      (f_X11_putBytes a0 p4 h4).bind fun h5 =>
      (f_X11_putBytes a0 p5 h5).bind fun h6 =>
      (gI 11 h6 a0 6).bind fun x7 =>
      some (x7, h6)
    else
      some ((-1), h)
  else none
set_option maxRecDepth 100000 in
set_option maxHeartbeats 4000000 in
theorem w_X11_feed {l : Launch} {G : GX} {a0 : Nat} {p1 : Int32} {p2 : Int32} {p3 : Int32} {p4 : Int32} {p5 : Int32} {h : AH} {rr : Int32} {hr : AH} (hf : f_X11_feed a0 p1 p2 p3 p4 p5 h = some (rr, hr)) : Ct l G yX11_feed 1 22 [.ref a0, .int p1, .int p2, .int p3, .int p4, .int p5] h (QI rr hr) := by
  unfold f_X11_feed at hf
  obtain ⟨ho, hf⟩ := ifO hf
  refine Ct_of (own := RX11) (cc := cX11_feed) (nL := 6) (ret := (some .int)) rfl rfl k_806 (Nat.le_of_ble_eq_true rfl) (fun X C2 C => ?_)
  show V X G h (QI rr hr) 0 [(0, .ref a0), (1, .int p1), (2, .int p2), (3, .int p3), (4, .int p4), (5, .int p5)] [] h
  refine C.seg (pe := 1) (lv' := [(0, .ref a0), (1, .int p1), (2, .int p2), (3, .int p3), (4, .int p4), (5, .int p5)]) (st' := [.ref a0]) [(.aload_n 0, 1, 0)] (by decide +kernel) rfl ?_
  obtain ⟨x1, gx1, hf⟩ := Option.bind_eq_some_iff.mp hf
  refine C.rdI fr_566 gx1 (by decide +kernel) rfl ?_
  refine C.seg (pe := 10) (lv' := [(0, .ref a0), (1, .int p1), (2, .int p2), (3, .int p3), (4, .int p4), (5, .int p5)]) (st' := [.int 400, .int (x1 + 20)]) [(.bipush 20, 2, 20), (.iadd, 1, 0), (.sipush 400, 3, 400)] (by decide +kernel) rfl ?_
  refine C.icmp_le (off := 5) (tgt := 15) (pf := 13) (by decide +kernel) (by decide) rfl (fun c8 => ?_) (fun c8 => ?_)
  · replace hf := ifp c8 hf
    refine C.seg (pe := 17) (lv' := [(0, .ref a0), (1, .int p1), (2, .int p2), (3, .int p3), (4, .int p4), (5, .int p5)]) (st' := [.int p1, .ref a0]) [(.aload_n 0, 1, 0), (.iload_n 1, 1, 0)] (by decide +kernel) rfl ?_
    obtain ⟨h2, gh2, hf⟩ := Option.bind_eq_some_iff.mp hf
    refine C.callVr C2 [.int p1] [] mv_807 rfl (o_X11_putBytes gh2) (w_X11_putBytes gh2) (by omega) (by omega) (Nat.le_of_ble_eq_true rfl) (by decide +kernel) rfl ?_
    refine C.seg (pe := 22) (lv' := [(0, .ref a0), (1, .int p1), (2, .int p2), (3, .int p3), (4, .int p4), (5, .int p5)]) (st' := [.int p2, .ref a0]) [(.aload_n 0, 1, 0), (.iload_n 2, 1, 0)] (by decide +kernel) rfl ?_
    obtain ⟨h3, gh3, hf⟩ := Option.bind_eq_some_iff.mp hf
    refine C.callVr C2 [.int p2] [] mv_807 rfl (o_X11_putBytes gh3) (w_X11_putBytes gh3) (by omega) (by omega) (Nat.le_of_ble_eq_true rfl) (by decide +kernel) rfl ?_
    refine C.seg (pe := 27) (lv' := [(0, .ref a0), (1, .int p1), (2, .int p2), (3, .int p3), (4, .int p4), (5, .int p5)]) (st' := [.int p3, .ref a0]) [(.aload_n 0, 1, 0), (.iload_n 3, 1, 0)] (by decide +kernel) rfl ?_
    obtain ⟨h4, gh4, hf⟩ := Option.bind_eq_some_iff.mp hf
    refine C.callVr C2 [.int p3] [] mv_807 rfl (o_X11_putBytes gh4) (w_X11_putBytes gh4) (by omega) (by omega) (Nat.le_of_ble_eq_true rfl) (by decide +kernel) rfl ?_
    refine C.seg (pe := 33) (lv' := [(0, .ref a0), (1, .int p1), (2, .int p2), (3, .int p3), (4, .int p4), (5, .int p5)]) (st' := [.int p4, .ref a0]) [(.aload_n 0, 1, 0), (.iload 4, 2, 0)] (by decide +kernel) rfl ?_
    obtain ⟨h5, gh5, hf⟩ := Option.bind_eq_some_iff.mp hf
    refine C.callVr C2 [.int p4] [] mv_807 rfl (o_X11_putBytes gh5) (w_X11_putBytes gh5) (by omega) (by omega) (Nat.le_of_ble_eq_true rfl) (by decide +kernel) rfl ?_
    refine C.seg (pe := 39) (lv' := [(0, .ref a0), (1, .int p1), (2, .int p2), (3, .int p3), (4, .int p4), (5, .int p5)]) (st' := [.int p5, .ref a0]) [(.aload_n 0, 1, 0), (.iload 5, 2, 0)] (by decide +kernel) rfl ?_
    obtain ⟨h6, gh6, hf⟩ := Option.bind_eq_some_iff.mp hf
    refine C.callVr C2 [.int p5] [] mv_807 rfl (o_X11_putBytes gh6) (w_X11_putBytes gh6) (by omega) (by omega) (Nat.le_of_ble_eq_true rfl) (by decide +kernel) rfl ?_
    refine C.seg (pe := 43) (lv' := [(0, .ref a0), (1, .int p1), (2, .int p2), (3, .int p3), (4, .int p4), (5, .int p5)]) (st' := [.ref a0]) [(.aload_n 0, 1, 0)] (by decide +kernel) rfl ?_
    obtain ⟨x7, gx7, hf⟩ := Option.bind_eq_some_iff.mp hf
    refine C.rdI fr_566 gx7 (by decide +kernel) rfl ?_
    cases hf
    exact C.retI rfl (by decide +kernel) ⟨rfl, rfl⟩
  · replace hf := ifn c8 hf
    refine C.seg (pe := 14) (lv' := [(0, .ref a0), (1, .int p1), (2, .int p2), (3, .int p3), (4, .int p4), (5, .int p5)]) (st' := [.int (-1)]) [(.iconst (-1), 1, (-1))] (by decide +kernel) rfl ?_
    cases hf
    exact C.retI rfl (by decide +kernel) ⟨rfl, rfl⟩
theorem o_X11_feed {a0 : Nat} {p1 : Int32} {p2 : Int32} {p3 : Int32} {p4 : Int32} {p5 : Int32} {h : AH} {rr : Int32} {hr : AH} (hf : f_X11_feed a0 p1 p2 p3 p4 p5 h = some (rr, hr)) : isO 11 h a0 = true := by
  unfold f_X11_feed at hf
  exact (ifO hf).1
/-! WallHouse.noteFault(II)V -/
def f_X11_noteFault (a0 : Nat) (p1 : Int32) (p2 : Int32) (h : AH) : Option (AH) :=
  if isO 11 h a0 = true then
    (pI 11 h a0 17 p1).bind fun h1 =>
    (pI 11 h1 a0 18 p2).bind fun h2 =>
    some h2
  else none
set_option maxRecDepth 100000 in
set_option maxHeartbeats 4000000 in
theorem w_X11_noteFault {l : Launch} {G : GX} {a0 : Nat} {p1 : Int32} {p2 : Int32} {h : AH} {hr : AH} (hf : f_X11_noteFault a0 p1 p2 h = some hr) : Ct l G yX11_noteFault 0 0 [.ref a0, .int p1, .int p2] h (QV hr) := by
  unfold f_X11_noteFault at hf
  obtain ⟨ho, hf⟩ := ifO hf
  refine Ct_of (own := RX11) (cc := cX11_noteFault) (nL := 3) (ret := none) rfl rfl k_1055 (Nat.le_of_ble_eq_true rfl) (fun X C2 C => ?_)
  show V X G h (QV hr) 0 [(0, .ref a0), (1, .int p1), (2, .int p2)] [] h
  refine C.seg (pe := 2) (lv' := [(0, .ref a0), (1, .int p1), (2, .int p2)]) (st' := [.int p1, .ref a0]) [(.aload_n 0, 1, 0), (.iload_n 1, 1, 0)] (by decide +kernel) rfl ?_
  obtain ⟨h1, gh1, hf⟩ := Option.bind_eq_some_iff.mp hf
  refine C.putI fl_577 gh1 (by decide +kernel) rfl ?_
  refine C.seg (pe := 7) (lv' := [(0, .ref a0), (1, .int p1), (2, .int p2)]) (st' := [.int p2, .ref a0]) [(.aload_n 0, 1, 0), (.iload_n 2, 1, 0)] (by decide +kernel) rfl ?_
  obtain ⟨h2, gh2, hf⟩ := Option.bind_eq_some_iff.mp hf
  refine C.putI fl_578 gh2 (by decide +kernel) rfl ?_
  cases hf
  exact C.retV rfl (by decide +kernel) ⟨rfl, rfl⟩
theorem o_X11_noteFault {a0 : Nat} {p1 : Int32} {p2 : Int32} {h : AH} {hr : AH} (hf : f_X11_noteFault a0 p1 p2 h = some hr) : isO 11 h a0 = true := by
  unfold f_X11_noteFault at hf
  exact (ifO hf).1
/-! WallHouse.drawing(I)I -/
def f_X11_drawing (z : ZX) (a0 : Nat) (p1 : Int32) (h : AH) : Option (Int32 × AH) :=
  if isO 11 h a0 = true then
    (gI 11 h a0 6).bind fun x1 =>
    b2 (f_X11_within p1 0 x1 h) fun x2 h3 =>
    if x2 = 0 then
      b2 (f_X11_refuse a0 2 h3) fun x36 h37 =>
      some (x36, h37)
    else
      (pI 11 h3 a0 6 0).bind fun h4 =>
      (gA 11 h4 a0 7).bind fun a5 =>
      (gA 11 h4 a0 5).bind fun a6 =>
      (f_X7_cut z a5 a6 p1 h4).bind fun h7 =>
      (gA 11 h7 a0 8).bind fun a8 =>
      (f_X2_read a8 h7).bind fun h9 =>
      (gA 11 h9 a0 7).bind fun a10 =>
      (gI 7 h9 a10 5).bind fun x11 =>
      (gA 11 h9 a0 7).bind fun a12 =>
      (gI 7 h9 a12 6).bind fun x13 =>
      (f_X11_noteFault a0 x11 x13 h9).bind fun h14 =>
      (gI 11 h14 a0 17).bind fun x15 =>
      if x15 = 0 then
        (gI 11 h14 a0 10).bind fun x16 =>
        if x16 < 12 then
          (gA 11 h14 a0 9).bind fun a17 =>
          (gI 11 h14 a0 10).bind fun x18 =>
          b2 (nwO 1 6 dX1 h14) fun a19 h20 =>
          (gA 11 h20 a0 8).bind fun a21 =>
          (gA 2 h20 a21 1).bind fun a22 =>
          (f_X1_init_ a19 a22 h20).bind fun h23 =>
          (sQ 6 1 h23 a17 x18 a19).bind fun h24 =>
          (gI 11 h24 a0 10).bind fun x25 =>
          (pI 11 h24 a0 10 (x25 + 1)).bind fun h26 =>
          (gI 11 h26 a0 10).bind fun x27 =>
          b2 (f_X11_tell a0 (x27 - 1) h26) fun x28 h29 =>
          some (x28, h29)
        else
          b2 (f_X11_refuse a0 3 h14) fun x30 h31 =>
          some (x30, h31)
      else
        b2 (f_X11_refuse a0 4 h14) fun x33 h34 =>
        some (x33, h34)
  else none
set_option maxRecDepth 100000 in
set_option maxHeartbeats 4000000 in
theorem w_X11_drawing {l : Launch} {G : GX} {a0 : Nat} {p1 : Int32} {h : AH} {rr : Int32} {hr : AH} (hf : f_X11_drawing G.2.2 a0 p1 h = some (rr, hr)) : Ct l G yX11_drawing 8 185 [.ref a0, .int p1] h (QI rr hr) := by
  unfold f_X11_drawing at hf
  obtain ⟨ho, hf⟩ := ifO hf
  refine Ct_of (own := RX11) (cc := cX11_drawing) (nL := 2) (ret := (some .int)) rfl rfl k_814 (Nat.le_of_ble_eq_true rfl) (fun X C2 C => ?_)
  show V X G h (QI rr hr) 0 [(0, .ref a0), (1, .int p1)] [] h
  refine C.seg (pe := 3) (lv' := [(0, .ref a0), (1, .int p1)]) (st' := [.ref a0, .int 0, .int p1]) [(.iload_n 1, 1, 0), (.iconst 0, 1, 0), (.aload_n 0, 1, 0)] (by decide +kernel) rfl ?_
  obtain ⟨x1, gx1, hf⟩ := Option.bind_eq_some_iff.mp hf
  refine C.rdI fr_566 gx1 (by decide +kernel) rfl ?_
  obtain ⟨x2, h3, gx2, hf⟩ := b2_some hf
  refine C.callSr C2 [.int p1, .int 0, .int x1] [] ms_622 rfl (w_X11_within gx2) (by omega) (by omega) (Nat.le_of_ble_eq_true rfl) (by decide +kernel) rfl ?_
  refine C.if_ne (off := 9) (tgt := 18) (pf := 12) (by decide +kernel) (by decide) rfl (fun c38 => ?_) (fun c38 => ?_)
  · replace hf := ifn c38 hf
    refine C.seg (pe := 20) (lv' := [(0, .ref a0), (1, .int p1)]) (st' := [.int 0, .ref a0]) [(.aload_n 0, 1, 0), (.iconst 0, 1, 0)] (by decide +kernel) rfl ?_
    obtain ⟨h4, gh4, hf⟩ := Option.bind_eq_some_iff.mp hf
    refine C.putI fl_566 gh4 (by decide +kernel) rfl ?_
    refine C.seg (pe := 24) (lv' := [(0, .ref a0), (1, .int p1)]) (st' := [.ref a0]) [(.aload_n 0, 1, 0)] (by decide +kernel) rfl ?_
    obtain ⟨a5, ga5, hf⟩ := Option.bind_eq_some_iff.mp hf
    refine C.rdA fr_567 ga5 (by decide +kernel) rfl ?_
    refine C.seg (pe := 28) (lv' := [(0, .ref a0), (1, .int p1)]) (st' := [.ref a0, .ref a5]) [(.aload_n 0, 1, 0)] (by decide +kernel) rfl ?_
    obtain ⟨a6, ga6, hf⟩ := Option.bind_eq_some_iff.mp hf
    refine C.rdA fr_565 ga6 (by decide +kernel) rfl ?_
    refine C.seg (pe := 32) (lv' := [(0, .ref a0), (1, .int p1)]) (st' := [.int p1, .ref a6, .ref a5]) [(.iload_n 1, 1, 0)] (by decide +kernel) rfl ?_
    obtain ⟨h7, gh7, hf⟩ := Option.bind_eq_some_iff.mp hf
    refine C.callVr C2 [.ref a6, .int p1] [] mv_815 rfl (o_X7_cut gh7) (w_X7_cut gh7) (by omega) (by omega) (Nat.le_of_ble_eq_true rfl) (by decide +kernel) rfl ?_
    refine C.seg (pe := 36) (lv' := [(0, .ref a0), (1, .int p1)]) (st' := [.ref a0]) [(.aload_n 0, 1, 0)] (by decide +kernel) rfl ?_
    obtain ⟨a8, ga8, hf⟩ := Option.bind_eq_some_iff.mp hf
    refine C.rdA fr_568 ga8 (by decide +kernel) rfl ?_
    obtain ⟨h9, gh9, hf⟩ := Option.bind_eq_some_iff.mp hf
    refine C.callVr C2 [] [] mv_950 rfl (o_X2_read gh9) (w_X2_read gh9) (by omega) (by omega) (Nat.le_of_ble_eq_true rfl) (by decide +kernel) rfl ?_
    refine C.seg (pe := 44) (lv' := [(0, .ref a0), (1, .int p1)]) (st' := [.ref a0, .ref a0]) [(.aload_n 0, 1, 0), (.aload_n 0, 1, 0)] (by decide +kernel) rfl ?_
    obtain ⟨a10, ga10, hf⟩ := Option.bind_eq_some_iff.mp hf
    refine C.rdA fr_567 ga10 (by decide +kernel) rfl ?_
    obtain ⟨x11, gx11, hf⟩ := Option.bind_eq_some_iff.mp hf
    refine C.rdI fr_380 gx11 (by decide +kernel) rfl ?_
    refine C.seg (pe := 51) (lv' := [(0, .ref a0), (1, .int p1)]) (st' := [.ref a0, .int x11, .ref a0]) [(.aload_n 0, 1, 0)] (by decide +kernel) rfl ?_
    obtain ⟨a12, ga12, hf⟩ := Option.bind_eq_some_iff.mp hf
    refine C.rdA fr_567 ga12 (by decide +kernel) rfl ?_
    obtain ⟨x13, gx13, hf⟩ := Option.bind_eq_some_iff.mp hf
    refine C.rdI fr_382 gx13 (by decide +kernel) rfl ?_
    obtain ⟨h14, gh14, hf⟩ := Option.bind_eq_some_iff.mp hf
    refine C.callVr C2 [.int x11, .int x13] [] mv_1052 rfl (o_X11_noteFault gh14) (w_X11_noteFault gh14) (by omega) (by omega) (Nat.le_of_ble_eq_true rfl) (by decide +kernel) rfl ?_
    refine C.seg (pe := 61) (lv' := [(0, .ref a0), (1, .int p1)]) (st' := [.ref a0]) [(.aload_n 0, 1, 0)] (by decide +kernel) rfl ?_
    obtain ⟨x15, gx15, hf⟩ := Option.bind_eq_some_iff.mp hf
    refine C.rdI fr_577 gx15 (by decide +kernel) rfl ?_
    refine C.if_eq (off := 9) (tgt := 73) (pf := 67) (by decide +kernel) (by decide) rfl (fun c35 => ?_) (fun c35 => ?_)
    · replace hf := ifp c35 hf
      refine C.seg (pe := 74) (lv' := [(0, .ref a0), (1, .int p1)]) (st' := [.ref a0]) [(.aload_n 0, 1, 0)] (by decide +kernel) rfl ?_
      obtain ⟨x16, gx16, hf⟩ := Option.bind_eq_some_iff.mp hf
      refine C.rdI fr_570 gx16 (by decide +kernel) rfl ?_
      refine C.seg (pe := 79) (lv' := [(0, .ref a0), (1, .int p1)]) (st' := [.int 12, .int x16]) [(.bipush 12, 2, 12)] (by decide +kernel) rfl ?_
      refine C.icmp_lt (off := 9) (tgt := 88) (pf := 82) (by decide +kernel) (by decide) rfl (fun c32 => ?_) (fun c32 => ?_)
      · replace hf := ifp c32 hf
        refine C.seg (pe := 89) (lv' := [(0, .ref a0), (1, .int p1)]) (st' := [.ref a0]) [(.aload_n 0, 1, 0)] (by decide +kernel) rfl ?_
        obtain ⟨a17, ga17, hf⟩ := Option.bind_eq_some_iff.mp hf
        refine C.rdA fr_569 ga17 (by decide +kernel) rfl ?_
        refine C.seg (pe := 93) (lv' := [(0, .ref a0), (1, .int p1)]) (st' := [.ref a0, .ref a17]) [(.aload_n 0, 1, 0)] (by decide +kernel) rfl ?_
        obtain ⟨x18, gx18, hf⟩ := Option.bind_eq_some_iff.mp hf
        refine C.rdI fr_570 gx18 (by decide +kernel) rfl ?_
        obtain ⟨a19, h20, ga19, hf⟩ := b2_some hf
        refine C.newo cl_1 k_469 ga19 (by decide +kernel) rfl ?_
        refine C.seg (pe := 101) (lv' := [(0, .ref a0), (1, .int p1)]) (st' := [.ref a0, .ref a19, .ref a19, .int x18, .ref a17]) [(.dup, 1, 0), (.aload_n 0, 1, 0)] (by decide +kernel) rfl ?_
        obtain ⟨a21, ga21, hf⟩ := Option.bind_eq_some_iff.mp hf
        refine C.rdA fr_568 ga21 (by decide +kernel) rfl ?_
        obtain ⟨a22, ga22, hf⟩ := Option.bind_eq_some_iff.mp hf
        refine C.rdA fr_445 ga22 (by decide +kernel) rfl ?_
        obtain ⟨h23, gh23, hf⟩ := Option.bind_eq_some_iff.mp hf
        refine C.callIr C2 [.ref a22] [.ref a19, .int x18, .ref a17] mi_1056 rfl (w_X1_init_ gh23) (by omega) (by omega) (Nat.le_of_ble_eq_true rfl) (by decide +kernel) rfl ?_
        obtain ⟨h24, gh24, hf⟩ := Option.bind_eq_some_iff.mp hf
        refine C.aast 6 (ci := 1) rfl (by decide) rfl gh24 (by decide +kernel) rfl ?_
        refine C.seg (pe := 113) (lv' := [(0, .ref a0), (1, .int p1)]) (st' := [.ref a0, .ref a0]) [(.aload_n 0, 1, 0), (.dup, 1, 0)] (by decide +kernel) rfl ?_
        obtain ⟨x25, gx25, hf⟩ := Option.bind_eq_some_iff.mp hf
        refine C.rdI fr_570 gx25 (by decide +kernel) rfl ?_
        refine C.seg (pe := 118) (lv' := [(0, .ref a0), (1, .int p1)]) (st' := [.int (x25 + 1), .ref a0]) [(.iconst 1, 1, 1), (.iadd, 1, 0)] (by decide +kernel) rfl ?_
        obtain ⟨h26, gh26, hf⟩ := Option.bind_eq_some_iff.mp hf
        refine C.putI fl_570 gh26 (by decide +kernel) rfl ?_
        refine C.seg (pe := 123) (lv' := [(0, .ref a0), (1, .int p1)]) (st' := [.ref a0, .ref a0]) [(.aload_n 0, 1, 0), (.aload_n 0, 1, 0)] (by decide +kernel) rfl ?_
        obtain ⟨x27, gx27, hf⟩ := Option.bind_eq_some_iff.mp hf
        refine C.rdI fr_570 gx27 (by decide +kernel) rfl ?_
        refine C.seg (pe := 128) (lv' := [(0, .ref a0), (1, .int p1)]) (st' := [.int (x27 - 1), .ref a0]) [(.iconst 1, 1, 1), (.isub, 1, 0)] (by decide +kernel) rfl ?_
        obtain ⟨x28, h29, gx28, hf⟩ := b2_some hf
        refine C.callVr C2 [.int (x27 - 1)] [] mv_712 rfl (o_X11_tell gx28) (w_X11_tell gx28) (by omega) (by omega) (Nat.le_of_ble_eq_true rfl) (by decide +kernel) rfl ?_
        cases hf
        exact C.retI rfl (by decide +kernel) ⟨rfl, rfl⟩
      · replace hf := ifn c32 hf
        refine C.seg (pe := 84) (lv' := [(0, .ref a0), (1, .int p1)]) (st' := [.int 3, .ref a0]) [(.aload_n 0, 1, 0), (.iconst 3, 1, 3)] (by decide +kernel) rfl ?_
        obtain ⟨x30, h31, gx30, hf⟩ := b2_some hf
        refine C.callVr C2 [.int 3] [] mv_625 rfl (o_X11_refuse gx30) (w_X11_refuse gx30) (by omega) (by omega) (Nat.le_of_ble_eq_true rfl) (by decide +kernel) rfl ?_
        cases hf
        exact C.retI rfl (by decide +kernel) ⟨rfl, rfl⟩
    · replace hf := ifn c35 hf
      refine C.seg (pe := 69) (lv' := [(0, .ref a0), (1, .int p1)]) (st' := [.int 4, .ref a0]) [(.aload_n 0, 1, 0), (.iconst 4, 1, 4)] (by decide +kernel) rfl ?_
      obtain ⟨x33, h34, gx33, hf⟩ := b2_some hf
      refine C.callVr C2 [.int 4] [] mv_625 rfl (o_X11_refuse gx33) (w_X11_refuse gx33) (by omega) (by omega) (Nat.le_of_ble_eq_true rfl) (by decide +kernel) rfl ?_
      cases hf
      exact C.retI rfl (by decide +kernel) ⟨rfl, rfl⟩
  · replace hf := ifp c38 hf
    refine C.seg (pe := 14) (lv' := [(0, .ref a0), (1, .int p1)]) (st' := [.int 2, .ref a0]) [(.aload_n 0, 1, 0), (.iconst 2, 1, 2)] (by decide +kernel) rfl ?_
    obtain ⟨x36, h37, gx36, hf⟩ := b2_some hf
    refine C.callVr C2 [.int 2] [] mv_625 rfl (o_X11_refuse gx36) (w_X11_refuse gx36) (by omega) (by omega) (Nat.le_of_ble_eq_true rfl) (by decide +kernel) rfl ?_
    cases hf
    exact C.retI rfl (by decide +kernel) ⟨rfl, rfl⟩
theorem o_X11_drawing {z : ZX} {a0 : Nat} {p1 : Int32} {h : AH} {rr : Int32} {hr : AH} (hf : f_X11_drawing z a0 p1 h = some (rr, hr)) : isO 11 h a0 = true := by
  unfold f_X11_drawing at hf
  exact (ifO hf).1
/-! WallHouse.lettersAhead(I)I -/
def f_X11_lettersAhead_31 (i2 : Int32) (h : AH) : Option (Int32 × AH) :=
  some (i2, h)
set_option maxRecDepth 100000 in
set_option maxHeartbeats 4000000 in
theorem l_X11_lettersAhead_31 {X : MX} {l : Launch} {G : GX} {h0 : AH} {rr : Int32} {hr : AH} (C : Cx X G RX11 cX11_lettersAhead 3 (some .int) 1 20 h0) (C2 : Cy X l "lettersAhead" []) (i2 : Int32) (h : AH) (hf : f_X11_lettersAhead_31 i2 h = some (rr, hr)) : V X G h0 (QI rr hr) 31 [(2, .int i2)] [] h := by
  unfold f_X11_lettersAhead_31 at hf
  refine C.seg (pe := 32) (lv' := [(2, .int i2)]) (st' := [.int i2]) [(.iload_n 2, 1, 0)] (by decide +kernel) rfl ?_
  cases hf
  exact C.retI rfl (by decide +kernel) ⟨rfl, rfl⟩
def f_X11_lettersAhead_2 : Nat → Nat → Int32 → Int32 → AH → Option (Int32 × AH)
  | 0, _, _, _, _ => none
  | n + 1, r0, i1, i2, h =>
    if i1 ≤ i2 then
      f_X11_lettersAhead_31 i2 h
    else
      if 8 ≤ i2 then
        f_X11_lettersAhead_31 i2 h
      else
        (gA 11 h r0 5).bind fun a1 =>
        (aI 1 h a1 i2).bind fun x2 =>
        b2 (f_X7_isLetter x2 h) fun x3 h4 =>
        if x3 = 0 then
          f_X11_lettersAhead_31 i2 h4
        else
          (f_X11_lettersAhead_2 n) r0 i1 (i2 + 1) h4
set_option maxRecDepth 100000 in
set_option maxHeartbeats 4000000 in
theorem l_X11_lettersAhead_2 {X : MX} {l : Launch} {G : GX} {h0 : AH} {rr : Int32} {hr : AH} (C : Cx X G RX11 cX11_lettersAhead 3 (some .int) 1 20 h0) (C2 : Cy X l "lettersAhead" []) : ∀ (n : Nat) (r0 : Nat) (i1 : Int32) (i2 : Int32) (h : AH), f_X11_lettersAhead_2 n r0 i1 i2 h = some (rr, hr) → V X G h0 (QI rr hr) 2 [(0, .ref r0), (1, .int i1), (2, .int i2)] [] h := by
  intro n
  induction n with
  | zero => intro r0 i1 i2 h hf; rw [f_X11_lettersAhead_2] at hf; cases hf
  | succ n ih =>
    intro r0 i1 i2 h hf
    rw [f_X11_lettersAhead_2] at hf
    refine C.seg (pe := 4) (lv' := [(0, .ref r0), (1, .int i1), (2, .int i2)]) (st' := [.int i1, .int i2]) [(.iload_n 2, 1, 0), (.iload_n 1, 1, 0)] (by decide +kernel) rfl ?_
    refine C.icmp_ge (off := 27) (tgt := 31) (pf := 7) (by decide +kernel) (by decide) rfl (fun c7 => ?_) (fun c7 => ?_)
    · replace hf := ifp c7 hf
      refine Vsub [2] rfl ?_
      exact l_X11_lettersAhead_31 C C2 i2 h hf
    · replace hf := ifn c7 hf
      refine C.seg (pe := 10) (lv' := [(0, .ref r0), (1, .int i1), (2, .int i2)]) (st' := [.int 8, .int i2]) [(.iload_n 2, 1, 0), (.bipush 8, 2, 8)] (by decide +kernel) rfl ?_
      refine C.icmp_ge (off := 21) (tgt := 31) (pf := 13) (by decide +kernel) (by decide) rfl (fun c6 => ?_) (fun c6 => ?_)
      · replace hf := ifp c6 hf
        refine Vsub [2] rfl ?_
        exact l_X11_lettersAhead_31 C C2 i2 h hf
      · replace hf := ifn c6 hf
        refine C.seg (pe := 14) (lv' := [(0, .ref r0), (1, .int i1), (2, .int i2)]) (st' := [.ref r0]) [(.aload_n 0, 1, 0)] (by decide +kernel) rfl ?_
        obtain ⟨a1, ga1, hf⟩ := Option.bind_eq_some_iff.mp hf
        refine C.rdA fr_565 ga1 (by decide +kernel) rfl ?_
        refine C.seg (pe := 18) (lv' := [(0, .ref r0), (1, .int i1), (2, .int i2)]) (st' := [.int i2, .ref a1]) [(.iload_n 2, 1, 0)] (by decide +kernel) rfl ?_
        obtain ⟨x2, gx2, hf⟩ := Option.bind_eq_some_iff.mp hf
        refine C.bald 1 rfl gx2 (by decide +kernel) rfl ?_
        obtain ⟨x3, h4, gx3, hf⟩ := b2_some hf
        refine C.callSr C2 [.int x2] [] ms_1098 rfl (w_X7_isLetter gx3) (by omega) (by omega) (Nat.le_of_ble_eq_true rfl) (by decide +kernel) rfl ?_
        refine C.if_eq (off := 9) (tgt := 31) (pf := 25) (by decide +kernel) (by decide) rfl (fun c5 => ?_) (fun c5 => ?_)
        · replace hf := ifp c5 hf
          refine Vsub [2] rfl ?_
          exact l_X11_lettersAhead_31 C C2 i2 h4 hf
        · replace hf := ifn c5 hf
          refine C.seg (pe := 28) (lv' := [(2, .int (i2 + 1)), (0, .ref r0), (1, .int i1)]) (st' := []) [(.iinc 2 1, 3, 1)] (by decide +kernel) rfl ?_
          refine C.goto (off := (-26)) (tgt := 2) (by decide +kernel) (by decide) ?_
          refine Vsub [1, 2, 0] rfl ?_
          exact ih r0 i1 (i2 + 1) h4 hf
def f_X11_lettersAhead (a0 : Nat) (p1 : Int32) (h : AH) : Option (Int32 × AH) :=
  if isO 11 h a0 = true then
    f_X11_lettersAhead_2 FU a0 p1 0 h
  else none
set_option maxRecDepth 100000 in
set_option maxHeartbeats 4000000 in
theorem w_X11_lettersAhead {l : Launch} {G : GX} {a0 : Nat} {p1 : Int32} {h : AH} {rr : Int32} {hr : AH} (hf : f_X11_lettersAhead a0 p1 h = some (rr, hr)) : Ct l G yX11_lettersAhead 1 20 [.ref a0, .int p1] h (QI rr hr) := by
  unfold f_X11_lettersAhead at hf
  obtain ⟨ho, hf⟩ := ifO hf
  refine Ct_of (own := RX11) (cc := cX11_lettersAhead) (nL := 3) (ret := (some .int)) rfl rfl k_1097 (Nat.le_of_ble_eq_true rfl) (fun X C2 C => ?_)
  show V X G h (QI rr hr) 0 [(0, .ref a0), (1, .int p1)] [] h
  refine C.seg (pe := 2) (lv' := [(2, .int 0), (0, .ref a0), (1, .int p1)]) (st' := []) [(.iconst 0, 1, 0), (.istore_n 2, 1, 0)] (by decide +kernel) rfl ?_
  refine Vsub [1, 2, 0] rfl ?_
  exact l_X11_lettersAhead_2 C C2 FU a0 p1 0 h hf
theorem o_X11_lettersAhead {a0 : Nat} {p1 : Int32} {h : AH} {rr : Int32} {hr : AH} (hf : f_X11_lettersAhead a0 p1 h = some (rr, hr)) : isO 11 h a0 = true := by
  unfold f_X11_lettersAhead at hf
  exact (ifO hf).1
/-! WallHouse.packedWord(I)J -/
def f_X11_packedWord_39 (j2 : Int64) (h : AH) : Option (Int64 × AH) :=
  some (j2, h)
set_option maxRecDepth 100000 in
set_option maxHeartbeats 4000000 in
theorem l_X11_packedWord_39 {X : MX} {l : Launch} {G : GX} {h0 : AH} {rr : Int64} {hr : AH} (C : Cx X G RX11 cX11_packedWord 5 (some .long) 1 22 h0) (C2 : Cy X l "packedWord" []) (j2 : Int64) (h : AH) (hf : f_X11_packedWord_39 j2 h = some (rr, hr)) : V X G h0 (QJ rr hr) 39 [(2, .long j2)] [] h := by
  unfold f_X11_packedWord_39 at hf
  refine C.seg (pe := 40) (lv' := [(2, .long j2)]) (st' := [.long j2]) [(.lload_n 2, 1, 0)] (by decide +kernel) rfl ?_
  cases hf
  exact C.retL rfl (by decide +kernel) ⟨rfl, rfl⟩
def f_X11_packedWord_5 : Nat → Nat → Int32 → Int64 → Int32 → AH → Option (Int64 × AH)
  | 0, _, _, _, _, _ => none
  | n + 1, r0, i1, j2, i4, h =>
    if i1 ≤ i4 then
      f_X11_packedWord_39 j2 h
    else
      (gA 11 h r0 5).bind fun a1 =>
      (aN h a1).bind fun x2 =>
      if x2 ≤ i4 then
        f_X11_packedWord_39 j2 h
      else
        (gA 11 h r0 5).bind fun a3 =>
        (aI 1 h a3 i4).bind fun x4 =>
        b2 (f_X7_withLetter j2 x4 h) fun y5 h6 =>
        (f_X11_packedWord_5 n) r0 i1 y5 (i4 + 1) h6
set_option maxRecDepth 100000 in
set_option maxHeartbeats 4000000 in
theorem l_X11_packedWord_5 {X : MX} {l : Launch} {G : GX} {h0 : AH} {rr : Int64} {hr : AH} (C : Cx X G RX11 cX11_packedWord 5 (some .long) 1 22 h0) (C2 : Cy X l "packedWord" []) : ∀ (n : Nat) (r0 : Nat) (i1 : Int32) (j2 : Int64) (i4 : Int32) (h : AH), f_X11_packedWord_5 n r0 i1 j2 i4 h = some (rr, hr) → V X G h0 (QJ rr hr) 5 [(0, .ref r0), (1, .int i1), (2, .long j2), (4, .int i4)] [] h := by
  intro n
  induction n with
  | zero => intro r0 i1 j2 i4 h hf; rw [f_X11_packedWord_5] at hf; cases hf
  | succ n ih =>
    intro r0 i1 j2 i4 h hf
    rw [f_X11_packedWord_5] at hf
    refine C.seg (pe := 8) (lv' := [(0, .ref r0), (1, .int i1), (2, .long j2), (4, .int i4)]) (st' := [.int i1, .int i4]) [(.iload 4, 2, 0), (.iload_n 1, 1, 0)] (by decide +kernel) rfl ?_
    refine C.icmp_ge (off := 31) (tgt := 39) (pf := 11) (by decide +kernel) (by decide) rfl (fun c8 => ?_) (fun c8 => ?_)
    · replace hf := ifp c8 hf
      refine Vsub [2] rfl ?_
      exact l_X11_packedWord_39 C C2 j2 h hf
    · replace hf := ifn c8 hf
      refine C.seg (pe := 14) (lv' := [(0, .ref r0), (1, .int i1), (2, .long j2), (4, .int i4)]) (st' := [.ref r0, .int i4]) [(.iload 4, 2, 0), (.aload_n 0, 1, 0)] (by decide +kernel) rfl ?_
      obtain ⟨a1, ga1, hf⟩ := Option.bind_eq_some_iff.mp hf
      refine C.rdA fr_565 ga1 (by decide +kernel) rfl ?_
      obtain ⟨x2, gx2, hf⟩ := Option.bind_eq_some_iff.mp hf
      refine C.alen gx2 (by decide +kernel) rfl ?_
      refine C.icmp_ge (off := 21) (tgt := 39) (pf := 21) (by decide +kernel) (by decide) rfl (fun c7 => ?_) (fun c7 => ?_)
      · replace hf := ifp c7 hf
        refine Vsub [2] rfl ?_
        exact l_X11_packedWord_39 C C2 j2 h hf
      · replace hf := ifn c7 hf
        refine C.seg (pe := 23) (lv' := [(0, .ref r0), (1, .int i1), (2, .long j2), (4, .int i4)]) (st' := [.ref r0, .long j2]) [(.lload_n 2, 1, 0), (.aload_n 0, 1, 0)] (by decide +kernel) rfl ?_
        obtain ⟨a3, ga3, hf⟩ := Option.bind_eq_some_iff.mp hf
        refine C.rdA fr_565 ga3 (by decide +kernel) rfl ?_
        refine C.seg (pe := 28) (lv' := [(0, .ref r0), (1, .int i1), (2, .long j2), (4, .int i4)]) (st' := [.int i4, .ref a3, .long j2]) [(.iload 4, 2, 0)] (by decide +kernel) rfl ?_
        obtain ⟨x4, gx4, hf⟩ := Option.bind_eq_some_iff.mp hf
        refine C.bald 1 rfl gx4 (by decide +kernel) rfl ?_
        obtain ⟨y5, h6, gy5, hf⟩ := b2_some hf
        refine C.callSr C2 [.long j2, .int x4] [] ms_1103 rfl (w_X7_withLetter gy5) (by omega) (by omega) (Nat.le_of_ble_eq_true rfl) (by decide +kernel) rfl ?_
        refine C.seg (pe := 36) (lv' := [(4, .int (i4 + 1)), (2, .long y5), (0, .ref r0), (1, .int i1)]) (st' := []) [(.lstore_n 2, 1, 0), (.iinc 4 1, 3, 1)] (by decide +kernel) rfl ?_
        refine C.goto (off := (-31)) (tgt := 5) (by decide +kernel) (by decide) ?_
        refine Vsub [2, 3, 1, 0] rfl ?_
        exact ih r0 i1 y5 (i4 + 1) h6 hf
def f_X11_packedWord (a0 : Nat) (p1 : Int32) (h : AH) : Option (Int64 × AH) :=
  if isO 11 h a0 = true then
    lt ((Int64.ofNat 0) : Int64) fun y1 =>
    f_X11_packedWord_5 FU a0 p1 y1 0 h
  else none
set_option maxRecDepth 100000 in
set_option maxHeartbeats 4000000 in
theorem w_X11_packedWord {l : Launch} {G : GX} {a0 : Nat} {p1 : Int32} {h : AH} {rr : Int64} {hr : AH} (hf : f_X11_packedWord a0 p1 h = some (rr, hr)) : Ct l G yX11_packedWord 1 22 [.ref a0, .int p1] h (QJ rr hr) := by
  unfold f_X11_packedWord at hf
  obtain ⟨ho, hf⟩ := ifO hf
  refine Ct_of (own := RX11) (cc := cX11_packedWord) (nL := 5) (ret := (some .long)) rfl rfl k_1102 (Nat.le_of_ble_eq_true rfl) (fun X C2 C => ?_)
  show V X G h (QJ rr hr) 0 [(0, .ref a0), (1, .int p1)] [] h
  refine C.seg (pe := 1) (lv' := [(0, .ref a0), (1, .int p1)]) (st' := [.long ((Int64.ofNat 0))]) [(.lconst 0, 1, 0)] (by decide +kernel) rfl ?_
  refine Vtopl (fun y1 ey1 => ?_)
  replace hf := lt_ap ey1 hf
  clear ey1
  refine C.seg (pe := 5) (lv' := [(4, .int 0), (2, .long y1), (0, .ref a0), (1, .int p1)]) (st' := []) [(.lstore_n 2, 1, 0), (.iconst 0, 1, 0), (.istore 4, 2, 0)] (by decide +kernel) rfl ?_
  refine Vsub [2, 3, 1, 0] rfl ?_
  exact l_X11_packedWord_5 C C2 FU a0 p1 y1 0 h hf
theorem o_X11_packedWord {a0 : Nat} {p1 : Int32} {h : AH} {rr : Int64} {hr : AH} (hf : f_X11_packedWord a0 p1 h = some (rr, hr)) : isO 11 h a0 = true := by
  unfold f_X11_packedWord at hf
  exact (ifO hf).1
/-! WallHouse.bar(I)I -/
def f_X11_bar_38 (r0 : Nat) (i2 : Int32) (h : AH) : Option (Int32 × AH) :=
  (f_X11_noteFault r0 1 i2 h).bind fun h1 =>
  b2 (f_X11_refuse r0 4 h1) fun x2 h3 =>
  some (x2, h3)
set_option maxRecDepth 100000 in
set_option maxHeartbeats 4000000 in
theorem l_X11_bar_38 {X : MX} {l : Launch} {G : GX} {h0 : AH} {rr : Int32} {hr : AH} (C : Cx X G RX11 cX11_bar 3 (some .int) 2 46 h0) (C2 : Cy X l "bar" []) (r0 : Nat) (i2 : Int32) (h : AH) (hf : f_X11_bar_38 r0 i2 h = some (rr, hr)) : V X G h0 (QI rr hr) 38 [(0, .ref r0), (2, .int i2)] [] h := by
  unfold f_X11_bar_38 at hf
  refine C.seg (pe := 41) (lv' := [(0, .ref r0), (2, .int i2)]) (st' := [.int i2, .int 1, .ref r0]) [(.aload_n 0, 1, 0), (.iconst 1, 1, 1), (.iload_n 2, 1, 0)] (by decide +kernel) rfl ?_
  obtain ⟨h1, gh1, hf⟩ := Option.bind_eq_some_iff.mp hf
  refine C.callVr C2 [.int 1, .int i2] [] mv_1052 rfl (o_X11_noteFault gh1) (w_X11_noteFault gh1) (by omega) (by omega) (Nat.le_of_ble_eq_true rfl) (by decide +kernel) rfl ?_
  refine C.seg (pe := 46) (lv' := [(0, .ref r0), (2, .int i2)]) (st' := [.int 4, .ref r0]) [(.aload_n 0, 1, 0), (.iconst 4, 1, 4)] (by decide +kernel) rfl ?_
  obtain ⟨x2, h3, gx2, hf⟩ := b2_some hf
  refine C.callVr C2 [.int 4] [] mv_625 rfl (o_X11_refuse gx2) (w_X11_refuse gx2) (by omega) (by omega) (Nat.le_of_ble_eq_true rfl) (by decide +kernel) rfl ?_
  cases hf
  exact C.retI rfl (by decide +kernel) ⟨rfl, rfl⟩
def f_X11_bar (a0 : Nat) (p1 : Int32) (h : AH) : Option (Int32 × AH) :=
  if isO 11 h a0 = true then
    (gI 11 h a0 6).bind fun x1 =>
    b2 (f_X11_within p1 0 x1 h) fun x2 h3 =>
    if x2 = 0 then
      b2 (f_X11_refuse a0 2 h3) fun x24 h25 =>
      some (x24, h25)
    else
      (pI 11 h3 a0 6 0).bind fun h4 =>
      b2 (f_X11_lettersAhead a0 p1 h4) fun x5 h6 =>
      if p1 = 0 then
        f_X11_bar_38 a0 x5 h6
      else
        if p1 ≤ x5 then
          (f_X11_noteFault a0 0 (-1) h6).bind fun h7 =>
          (gI 11 h7 a0 12).bind fun x8 =>
          if x8 < 12 then
            (gA 11 h7 a0 11).bind fun a9 =>
            (gI 11 h7 a0 12).bind fun x10 =>
            b2 (f_X11_packedWord a0 p1 h7) fun y11 h12 =>
            (sL h12 a9 x10 y11).bind fun h13 =>
            (gI 11 h13 a0 12).bind fun x14 =>
            (pI 11 h13 a0 12 (x14 + 1)).bind fun h15 =>
            (gI 11 h15 a0 12).bind fun x16 =>
            b2 (f_X11_tell a0 x16 h15) fun x17 h18 =>
            some (x17, h18)
          else
            b2 (f_X11_refuse a0 3 h7) fun x19 h20 =>
            some (x19, h20)
        else
          f_X11_bar_38 a0 x5 h6
  else none
set_option maxRecDepth 100000 in
set_option maxHeartbeats 4000000 in
theorem w_X11_bar {l : Launch} {G : GX} {a0 : Nat} {p1 : Int32} {h : AH} {rr : Int32} {hr : AH} (hf : f_X11_bar a0 p1 h = some (rr, hr)) : Ct l G yX11_bar 2 46 [.ref a0, .int p1] h (QI rr hr) := by
  unfold f_X11_bar at hf
  obtain ⟨ho, hf⟩ := ifO hf
  refine Ct_of (own := RX11) (cc := cX11_bar) (nL := 3) (ret := (some .int)) rfl rfl k_1093 (Nat.le_of_ble_eq_true rfl) (fun X C2 C => ?_)
  show V X G h (QI rr hr) 0 [(0, .ref a0), (1, .int p1)] [] h
  refine C.seg (pe := 3) (lv' := [(0, .ref a0), (1, .int p1)]) (st' := [.ref a0, .int 0, .int p1]) [(.iload_n 1, 1, 0), (.iconst 0, 1, 0), (.aload_n 0, 1, 0)] (by decide +kernel) rfl ?_
  obtain ⟨x1, gx1, hf⟩ := Option.bind_eq_some_iff.mp hf
  refine C.rdI fr_566 gx1 (by decide +kernel) rfl ?_
  obtain ⟨x2, h3, gx2, hf⟩ := b2_some hf
  refine C.callSr C2 [.int p1, .int 0, .int x1] [] ms_622 rfl (w_X11_within gx2) (by omega) (by omega) (Nat.le_of_ble_eq_true rfl) (by decide +kernel) rfl ?_
  refine C.if_ne (off := 9) (tgt := 18) (pf := 12) (by decide +kernel) (by decide) rfl (fun c26 => ?_) (fun c26 => ?_)
  · replace hf := ifn c26 hf
    refine C.seg (pe := 20) (lv' := [(0, .ref a0), (1, .int p1)]) (st' := [.int 0, .ref a0]) [(.aload_n 0, 1, 0), (.iconst 0, 1, 0)] (by decide +kernel) rfl ?_
    obtain ⟨h4, gh4, hf⟩ := Option.bind_eq_some_iff.mp hf
    refine C.putI fl_566 gh4 (by decide +kernel) rfl ?_
    refine C.seg (pe := 25) (lv' := [(0, .ref a0), (1, .int p1)]) (st' := [.int p1, .ref a0]) [(.aload_n 0, 1, 0), (.iload_n 1, 1, 0)] (by decide +kernel) rfl ?_
    obtain ⟨x5, h6, gx5, hf⟩ := b2_some hf
    refine C.callVr C2 [.int p1] [] mv_1094 rfl (o_X11_lettersAhead gx5) (w_X11_lettersAhead gx5) (by omega) (by omega) (Nat.le_of_ble_eq_true rfl) (by decide +kernel) rfl ?_
    refine C.seg (pe := 30) (lv' := [(2, .int x5), (0, .ref a0), (1, .int p1)]) (st' := [.int p1]) [(.istore_n 2, 1, 0), (.iload_n 1, 1, 0)] (by decide +kernel) rfl ?_
    refine C.if_eq (off := 8) (tgt := 38) (pf := 33) (by decide +kernel) (by decide) rfl (fun c23 => ?_) (fun c23 => ?_)
    · replace hf := ifp c23 hf
      refine Vsub [1, 0] rfl ?_
      exact l_X11_bar_38 C C2 a0 x5 h6 hf
    · replace hf := ifn c23 hf
      refine C.seg (pe := 35) (lv' := [(2, .int x5), (0, .ref a0), (1, .int p1)]) (st' := [.int p1, .int x5]) [(.iload_n 2, 1, 0), (.iload_n 1, 1, 0)] (by decide +kernel) rfl ?_
      refine C.icmp_ge (off := 15) (tgt := 50) (pf := 38) (by decide +kernel) (by decide) rfl (fun c22 => ?_) (fun c22 => ?_)
      · replace hf := ifp c22 hf
        refine C.seg (pe := 53) (lv' := [(2, .int x5), (0, .ref a0), (1, .int p1)]) (st' := [.int (-1), .int 0, .ref a0]) [(.aload_n 0, 1, 0), (.iconst 0, 1, 0), (.iconst (-1), 1, (-1))] (by decide +kernel) rfl ?_
        obtain ⟨h7, gh7, hf⟩ := Option.bind_eq_some_iff.mp hf
        refine C.callVr C2 [.int 0, .int (-1)] [] mv_1052 rfl (o_X11_noteFault gh7) (w_X11_noteFault gh7) (by omega) (by omega) (Nat.le_of_ble_eq_true rfl) (by decide +kernel) rfl ?_
        refine C.seg (pe := 57) (lv' := [(2, .int x5), (0, .ref a0), (1, .int p1)]) (st' := [.ref a0]) [(.aload_n 0, 1, 0)] (by decide +kernel) rfl ?_
        obtain ⟨x8, gx8, hf⟩ := Option.bind_eq_some_iff.mp hf
        refine C.rdI fr_572 gx8 (by decide +kernel) rfl ?_
        refine C.seg (pe := 62) (lv' := [(2, .int x5), (0, .ref a0), (1, .int p1)]) (st' := [.int 12, .int x8]) [(.bipush 12, 2, 12)] (by decide +kernel) rfl ?_
        refine C.icmp_lt (off := 9) (tgt := 71) (pf := 65) (by decide +kernel) (by decide) rfl (fun c21 => ?_) (fun c21 => ?_)
        · replace hf := ifp c21 hf
          refine C.seg (pe := 72) (lv' := [(2, .int x5), (0, .ref a0), (1, .int p1)]) (st' := [.ref a0]) [(.aload_n 0, 1, 0)] (by decide +kernel) rfl ?_
          obtain ⟨a9, ga9, hf⟩ := Option.bind_eq_some_iff.mp hf
          refine C.rdA fr_571 ga9 (by decide +kernel) rfl ?_
          refine C.seg (pe := 76) (lv' := [(2, .int x5), (0, .ref a0), (1, .int p1)]) (st' := [.ref a0, .ref a9]) [(.aload_n 0, 1, 0)] (by decide +kernel) rfl ?_
          obtain ⟨x10, gx10, hf⟩ := Option.bind_eq_some_iff.mp hf
          refine C.rdI fr_572 gx10 (by decide +kernel) rfl ?_
          refine C.seg (pe := 81) (lv' := [(2, .int x5), (0, .ref a0), (1, .int p1)]) (st' := [.int p1, .ref a0, .int x10, .ref a9]) [(.aload_n 0, 1, 0), (.iload_n 1, 1, 0)] (by decide +kernel) rfl ?_
          obtain ⟨y11, h12, gy11, hf⟩ := b2_some hf
          refine C.callVr C2 [.int p1] [.int x10, .ref a9] mv_1099 rfl (o_X11_packedWord gy11) (w_X11_packedWord gy11) (by omega) (by omega) (Nat.le_of_ble_eq_true rfl) (by decide +kernel) rfl ?_
          obtain ⟨h13, gh13, hf⟩ := Option.bind_eq_some_iff.mp hf
          refine C.last gh13 (by decide +kernel) rfl ?_
          refine C.seg (pe := 87) (lv' := [(2, .int x5), (0, .ref a0), (1, .int p1)]) (st' := [.ref a0, .ref a0]) [(.aload_n 0, 1, 0), (.dup, 1, 0)] (by decide +kernel) rfl ?_
          obtain ⟨x14, gx14, hf⟩ := Option.bind_eq_some_iff.mp hf
          refine C.rdI fr_572 gx14 (by decide +kernel) rfl ?_
          refine C.seg (pe := 92) (lv' := [(2, .int x5), (0, .ref a0), (1, .int p1)]) (st' := [.int (x14 + 1), .ref a0]) [(.iconst 1, 1, 1), (.iadd, 1, 0)] (by decide +kernel) rfl ?_
          obtain ⟨h15, gh15, hf⟩ := Option.bind_eq_some_iff.mp hf
          refine C.putI fl_572 gh15 (by decide +kernel) rfl ?_
          refine C.seg (pe := 97) (lv' := [(2, .int x5), (0, .ref a0), (1, .int p1)]) (st' := [.ref a0, .ref a0]) [(.aload_n 0, 1, 0), (.aload_n 0, 1, 0)] (by decide +kernel) rfl ?_
          obtain ⟨x16, gx16, hf⟩ := Option.bind_eq_some_iff.mp hf
          refine C.rdI fr_572 gx16 (by decide +kernel) rfl ?_
          obtain ⟨x17, h18, gx17, hf⟩ := b2_some hf
          refine C.callVr C2 [.int x16] [] mv_712 rfl (o_X11_tell gx17) (w_X11_tell gx17) (by omega) (by omega) (Nat.le_of_ble_eq_true rfl) (by decide +kernel) rfl ?_
          cases hf
          exact C.retI rfl (by decide +kernel) ⟨rfl, rfl⟩
        · replace hf := ifn c21 hf
          refine C.seg (pe := 67) (lv' := [(2, .int x5), (0, .ref a0), (1, .int p1)]) (st' := [.int 3, .ref a0]) [(.aload_n 0, 1, 0), (.iconst 3, 1, 3)] (by decide +kernel) rfl ?_
          obtain ⟨x19, h20, gx19, hf⟩ := b2_some hf
          refine C.callVr C2 [.int 3] [] mv_625 rfl (o_X11_refuse gx19) (w_X11_refuse gx19) (by omega) (by omega) (Nat.le_of_ble_eq_true rfl) (by decide +kernel) rfl ?_
          cases hf
          exact C.retI rfl (by decide +kernel) ⟨rfl, rfl⟩
      · replace hf := ifn c22 hf
        refine Vsub [1, 0] rfl ?_
        exact l_X11_bar_38 C C2 a0 x5 h6 hf
  · replace hf := ifp c26 hf
    refine C.seg (pe := 14) (lv' := [(0, .ref a0), (1, .int p1)]) (st' := [.int 2, .ref a0]) [(.aload_n 0, 1, 0), (.iconst 2, 1, 2)] (by decide +kernel) rfl ?_
    obtain ⟨x24, h25, gx24, hf⟩ := b2_some hf
    refine C.callVr C2 [.int 2] [] mv_625 rfl (o_X11_refuse gx24) (w_X11_refuse gx24) (by omega) (by omega) (Nat.le_of_ble_eq_true rfl) (by decide +kernel) rfl ?_
    cases hf
    exact C.retI rfl (by decide +kernel) ⟨rfl, rfl⟩
theorem o_X11_bar {a0 : Nat} {p1 : Int32} {h : AH} {rr : Int32} {hr : AH} (hf : f_X11_bar a0 p1 h = some (rr, hr)) : isO 11 h a0 = true := by
  unfold f_X11_bar at hf
  exact (ifO hf).1
/-! WallHouse.right(I)I -/
def f_X11_right (z : ZX) (a0 : Nat) (p1 : Int32) (h : AH) : Option (Int32 × AH) :=
  if isO 11 h a0 = true then
    (gI 11 h a0 6).bind fun x1 =>
    b2 (f_X11_within p1 0 x1 h) fun x2 h3 =>
    if x2 = 0 then
      b2 (f_X11_refuse a0 2 h3) fun x29 h30 =>
      some (x29, h30)
    else
      (pI 11 h3 a0 6 0).bind fun h4 =>
      (gA 11 h4 a0 7).bind fun a5 =>
      (gA 11 h4 a0 5).bind fun a6 =>
      (f_X7_cut z a5 a6 p1 h4).bind fun h7 =>
      (gA 11 h7 a0 13).bind fun a8 =>
      (f_X5_read a8 h7).bind fun h9 =>
      (gA 11 h9 a0 7).bind fun a10 =>
      (gI 7 h9 a10 5).bind fun x11 =>
      (gA 11 h9 a0 7).bind fun a12 =>
      (gI 7 h9 a12 6).bind fun x13 =>
      (f_X11_noteFault a0 x11 x13 h9).bind fun h14 =>
      (gI 11 h14 a0 17).bind fun x15 =>
      if x15 = 0 then
        (gA 11 h14 a0 13).bind fun a16 =>
        b2 (f_X5_keep a16 h14) fun x17 h18 =>
        if x17 = 0 then
          b2 (f_X11_refuse a0 3 h18) fun x23 h24 =>
          some (x23, h24)
        else
          (gA 11 h18 a0 13).bind fun a19 =>
          (gI 5 h18 a19 1).bind fun x20 =>
          b2 (f_X11_tell a0 (x20 - 1) h18) fun x21 h22 =>
          some (x21, h22)
      else
        b2 (f_X11_refuse a0 4 h14) fun x26 h27 =>
        some (x26, h27)
  else none
set_option maxRecDepth 100000 in
set_option maxHeartbeats 4000000 in
theorem w_X11_right {l : Launch} {G : GX} {a0 : Nat} {p1 : Int32} {h : AH} {rr : Int32} {hr : AH} (hf : f_X11_right G.2.2 a0 p1 h = some (rr, hr)) : Ct l G yX11_right 8 185 [.ref a0, .int p1] h (QI rr hr) := by
  unfold f_X11_right at hf
  obtain ⟨ho, hf⟩ := ifO hf
  refine Ct_of (own := RX11) (cc := cX11_right) (nL := 2) (ret := (some .int)) rfl rfl k_1107 (Nat.le_of_ble_eq_true rfl) (fun X C2 C => ?_)
  show V X G h (QI rr hr) 0 [(0, .ref a0), (1, .int p1)] [] h
  refine C.seg (pe := 3) (lv' := [(0, .ref a0), (1, .int p1)]) (st' := [.ref a0, .int 0, .int p1]) [(.iload_n 1, 1, 0), (.iconst 0, 1, 0), (.aload_n 0, 1, 0)] (by decide +kernel) rfl ?_
  obtain ⟨x1, gx1, hf⟩ := Option.bind_eq_some_iff.mp hf
  refine C.rdI fr_566 gx1 (by decide +kernel) rfl ?_
  obtain ⟨x2, h3, gx2, hf⟩ := b2_some hf
  refine C.callSr C2 [.int p1, .int 0, .int x1] [] ms_622 rfl (w_X11_within gx2) (by omega) (by omega) (Nat.le_of_ble_eq_true rfl) (by decide +kernel) rfl ?_
  refine C.if_ne (off := 9) (tgt := 18) (pf := 12) (by decide +kernel) (by decide) rfl (fun c31 => ?_) (fun c31 => ?_)
  · replace hf := ifn c31 hf
    refine C.seg (pe := 20) (lv' := [(0, .ref a0), (1, .int p1)]) (st' := [.int 0, .ref a0]) [(.aload_n 0, 1, 0), (.iconst 0, 1, 0)] (by decide +kernel) rfl ?_
    obtain ⟨h4, gh4, hf⟩ := Option.bind_eq_some_iff.mp hf
    refine C.putI fl_566 gh4 (by decide +kernel) rfl ?_
    refine C.seg (pe := 24) (lv' := [(0, .ref a0), (1, .int p1)]) (st' := [.ref a0]) [(.aload_n 0, 1, 0)] (by decide +kernel) rfl ?_
    obtain ⟨a5, ga5, hf⟩ := Option.bind_eq_some_iff.mp hf
    refine C.rdA fr_567 ga5 (by decide +kernel) rfl ?_
    refine C.seg (pe := 28) (lv' := [(0, .ref a0), (1, .int p1)]) (st' := [.ref a0, .ref a5]) [(.aload_n 0, 1, 0)] (by decide +kernel) rfl ?_
    obtain ⟨a6, ga6, hf⟩ := Option.bind_eq_some_iff.mp hf
    refine C.rdA fr_565 ga6 (by decide +kernel) rfl ?_
    refine C.seg (pe := 32) (lv' := [(0, .ref a0), (1, .int p1)]) (st' := [.int p1, .ref a6, .ref a5]) [(.iload_n 1, 1, 0)] (by decide +kernel) rfl ?_
    obtain ⟨h7, gh7, hf⟩ := Option.bind_eq_some_iff.mp hf
    refine C.callVr C2 [.ref a6, .int p1] [] mv_815 rfl (o_X7_cut gh7) (w_X7_cut gh7) (by omega) (by omega) (Nat.le_of_ble_eq_true rfl) (by decide +kernel) rfl ?_
    refine C.seg (pe := 36) (lv' := [(0, .ref a0), (1, .int p1)]) (st' := [.ref a0]) [(.aload_n 0, 1, 0)] (by decide +kernel) rfl ?_
    obtain ⟨a8, ga8, hf⟩ := Option.bind_eq_some_iff.mp hf
    refine C.rdA fr_573 ga8 (by decide +kernel) rfl ?_
    obtain ⟨h9, gh9, hf⟩ := Option.bind_eq_some_iff.mp hf
    refine C.callVr C2 [] [] mv_1108 rfl (o_X5_read gh9) (w_X5_read gh9) (by omega) (by omega) (Nat.le_of_ble_eq_true rfl) (by decide +kernel) rfl ?_
    refine C.seg (pe := 44) (lv' := [(0, .ref a0), (1, .int p1)]) (st' := [.ref a0, .ref a0]) [(.aload_n 0, 1, 0), (.aload_n 0, 1, 0)] (by decide +kernel) rfl ?_
    obtain ⟨a10, ga10, hf⟩ := Option.bind_eq_some_iff.mp hf
    refine C.rdA fr_567 ga10 (by decide +kernel) rfl ?_
    obtain ⟨x11, gx11, hf⟩ := Option.bind_eq_some_iff.mp hf
    refine C.rdI fr_380 gx11 (by decide +kernel) rfl ?_
    refine C.seg (pe := 51) (lv' := [(0, .ref a0), (1, .int p1)]) (st' := [.ref a0, .int x11, .ref a0]) [(.aload_n 0, 1, 0)] (by decide +kernel) rfl ?_
    obtain ⟨a12, ga12, hf⟩ := Option.bind_eq_some_iff.mp hf
    refine C.rdA fr_567 ga12 (by decide +kernel) rfl ?_
    obtain ⟨x13, gx13, hf⟩ := Option.bind_eq_some_iff.mp hf
    refine C.rdI fr_382 gx13 (by decide +kernel) rfl ?_
    obtain ⟨h14, gh14, hf⟩ := Option.bind_eq_some_iff.mp hf
    refine C.callVr C2 [.int x11, .int x13] [] mv_1052 rfl (o_X11_noteFault gh14) (w_X11_noteFault gh14) (by omega) (by omega) (Nat.le_of_ble_eq_true rfl) (by decide +kernel) rfl ?_
    refine C.seg (pe := 61) (lv' := [(0, .ref a0), (1, .int p1)]) (st' := [.ref a0]) [(.aload_n 0, 1, 0)] (by decide +kernel) rfl ?_
    obtain ⟨x15, gx15, hf⟩ := Option.bind_eq_some_iff.mp hf
    refine C.rdI fr_577 gx15 (by decide +kernel) rfl ?_
    refine C.if_eq (off := 9) (tgt := 73) (pf := 67) (by decide +kernel) (by decide) rfl (fun c28 => ?_) (fun c28 => ?_)
    · replace hf := ifp c28 hf
      refine C.seg (pe := 74) (lv' := [(0, .ref a0), (1, .int p1)]) (st' := [.ref a0]) [(.aload_n 0, 1, 0)] (by decide +kernel) rfl ?_
      obtain ⟨a16, ga16, hf⟩ := Option.bind_eq_some_iff.mp hf
      refine C.rdA fr_573 ga16 (by decide +kernel) rfl ?_
      obtain ⟨x17, h18, gx17, hf⟩ := b2_some hf
      refine C.callVr C2 [] [] mv_1126 rfl (o_X5_keep gx17) (w_X5_keep gx17) (by omega) (by omega) (Nat.le_of_ble_eq_true rfl) (by decide +kernel) rfl ?_
      refine C.if_ne (off := 9) (tgt := 89) (pf := 83) (by decide +kernel) (by decide) rfl (fun c25 => ?_) (fun c25 => ?_)
      · replace hf := ifn c25 hf
        refine C.seg (pe := 91) (lv' := [(0, .ref a0), (1, .int p1)]) (st' := [.ref a0, .ref a0]) [(.aload_n 0, 1, 0), (.aload_n 0, 1, 0)] (by decide +kernel) rfl ?_
        obtain ⟨a19, ga19, hf⟩ := Option.bind_eq_some_iff.mp hf
        refine C.rdA fr_573 ga19 (by decide +kernel) rfl ?_
        obtain ⟨x20, gx20, hf⟩ := Option.bind_eq_some_iff.mp hf
        refine C.rdI fr_479 gx20 (by decide +kernel) rfl ?_
        refine C.seg (pe := 99) (lv' := [(0, .ref a0), (1, .int p1)]) (st' := [.int (x20 - 1), .ref a0]) [(.iconst 1, 1, 1), (.isub, 1, 0)] (by decide +kernel) rfl ?_
        obtain ⟨x21, h22, gx21, hf⟩ := b2_some hf
        refine C.callVr C2 [.int (x20 - 1)] [] mv_712 rfl (o_X11_tell gx21) (w_X11_tell gx21) (by omega) (by omega) (Nat.le_of_ble_eq_true rfl) (by decide +kernel) rfl ?_
        cases hf
        exact C.retI rfl (by decide +kernel) ⟨rfl, rfl⟩
      · replace hf := ifp c25 hf
        refine C.seg (pe := 85) (lv' := [(0, .ref a0), (1, .int p1)]) (st' := [.int 3, .ref a0]) [(.aload_n 0, 1, 0), (.iconst 3, 1, 3)] (by decide +kernel) rfl ?_
        obtain ⟨x23, h24, gx23, hf⟩ := b2_some hf
        refine C.callVr C2 [.int 3] [] mv_625 rfl (o_X11_refuse gx23) (w_X11_refuse gx23) (by omega) (by omega) (Nat.le_of_ble_eq_true rfl) (by decide +kernel) rfl ?_
        cases hf
        exact C.retI rfl (by decide +kernel) ⟨rfl, rfl⟩
    · replace hf := ifn c28 hf
      refine C.seg (pe := 69) (lv' := [(0, .ref a0), (1, .int p1)]) (st' := [.int 4, .ref a0]) [(.aload_n 0, 1, 0), (.iconst 4, 1, 4)] (by decide +kernel) rfl ?_
      obtain ⟨x26, h27, gx26, hf⟩ := b2_some hf
      refine C.callVr C2 [.int 4] [] mv_625 rfl (o_X11_refuse gx26) (w_X11_refuse gx26) (by omega) (by omega) (Nat.le_of_ble_eq_true rfl) (by decide +kernel) rfl ?_
      cases hf
      exact C.retI rfl (by decide +kernel) ⟨rfl, rfl⟩
  · replace hf := ifp c31 hf
    refine C.seg (pe := 14) (lv' := [(0, .ref a0), (1, .int p1)]) (st' := [.int 2, .ref a0]) [(.aload_n 0, 1, 0), (.iconst 2, 1, 2)] (by decide +kernel) rfl ?_
    obtain ⟨x29, h30, gx29, hf⟩ := b2_some hf
    refine C.callVr C2 [.int 2] [] mv_625 rfl (o_X11_refuse gx29) (w_X11_refuse gx29) (by omega) (by omega) (Nat.le_of_ble_eq_true rfl) (by decide +kernel) rfl ?_
    cases hf
    exact C.retI rfl (by decide +kernel) ⟨rfl, rfl⟩
theorem o_X11_right {z : ZX} {a0 : Nat} {p1 : Int32} {h : AH} {rr : Int32} {hr : AH} (hf : f_X11_right z a0 p1 h = some (rr, hr)) : isO 11 h a0 = true := by
  unfold f_X11_right at hf
  exact (ifO hf).1
/-! WallHouse.fault()I -/
def f_X11_fault (a0 : Nat) (h : AH) : Option (Int32 × AH) :=
  if isO 11 h a0 = true then
    (gI 11 h a0 17).bind fun x1 =>
    some (x1, h)
  else none
set_option maxRecDepth 100000 in
set_option maxHeartbeats 4000000 in
theorem w_X11_fault {l : Launch} {G : GX} {a0 : Nat} {h : AH} {rr : Int32} {hr : AH} (hf : f_X11_fault a0 h = some (rr, hr)) : Ct l G yX11_fault 0 0 [.ref a0] h (QI rr hr) := by
  unfold f_X11_fault at hf
  obtain ⟨ho, hf⟩ := ifO hf
  refine Ct_of (own := RX11) (cc := cX11_fault) (nL := 1) (ret := (some .int)) rfl rfl k_1133 (Nat.le_of_ble_eq_true rfl) (fun X C2 C => ?_)
  show V X G h (QI rr hr) 0 [(0, .ref a0)] [] h
  refine C.seg (pe := 1) (lv' := [(0, .ref a0)]) (st' := [.ref a0]) [(.aload_n 0, 1, 0)] (by decide +kernel) rfl ?_
  obtain ⟨x1, gx1, hf⟩ := Option.bind_eq_some_iff.mp hf
  refine C.rdI fr_577 gx1 (by decide +kernel) rfl ?_
  cases hf
  exact C.retI rfl (by decide +kernel) ⟨rfl, rfl⟩
theorem o_X11_fault {a0 : Nat} {h : AH} {rr : Int32} {hr : AH} (hf : f_X11_fault a0 h = some (rr, hr)) : isO 11 h a0 = true := by
  unfold f_X11_fault at hf
  exact (ifO hf).1
/-! WallHouse.where()I -/
def f_X11_where_16 (si0 : Int32) (h : AH) : Option (Int32 × AH) :=
  some (si0, h)
set_option maxRecDepth 100000 in
set_option maxHeartbeats 4000000 in
theorem l_X11_where_16 {X : MX} {l : Launch} {G : GX} {h0 : AH} {rr : Int32} {hr : AH} (C : Cx X G RX11 cX11_where 1 (some .int) 0 0 h0) (C2 : Cy X l "where" []) (si0 : Int32) (h : AH) (hf : f_X11_where_16 si0 h = some (rr, hr)) : V X G h0 (QI rr hr) 16 [] [.int si0] h := by
  unfold f_X11_where_16 at hf
  cases hf
  exact C.retI rfl (by decide +kernel) ⟨rfl, rfl⟩
def f_X11_where (a0 : Nat) (h : AH) : Option (Int32 × AH) :=
  if isO 11 h a0 = true then
    (gI 11 h a0 16).bind fun x1 =>
    if x1 = 4 then
      (gI 11 h a0 18).bind fun x2 =>
      f_X11_where_16 x2 h
    else
      f_X11_where_16 (-1) h
  else none
set_option maxRecDepth 100000 in
set_option maxHeartbeats 4000000 in
theorem w_X11_where {l : Launch} {G : GX} {a0 : Nat} {h : AH} {rr : Int32} {hr : AH} (hf : f_X11_where a0 h = some (rr, hr)) : Ct l G yX11_where 0 0 [.ref a0] h (QI rr hr) := by
  unfold f_X11_where at hf
  obtain ⟨ho, hf⟩ := ifO hf
  refine Ct_of (own := RX11) (cc := cX11_where) (nL := 1) (ret := (some .int)) rfl rfl k_1137 (Nat.le_of_ble_eq_true rfl) (fun X C2 C => ?_)
  show V X G h (QI rr hr) 0 [(0, .ref a0)] [] h
  refine C.seg (pe := 1) (lv' := [(0, .ref a0)]) (st' := [.ref a0]) [(.aload_n 0, 1, 0)] (by decide +kernel) rfl ?_
  obtain ⟨x1, gx1, hf⟩ := Option.bind_eq_some_iff.mp hf
  refine C.rdI fr_576 gx1 (by decide +kernel) rfl ?_
  refine C.seg (pe := 5) (lv' := [(0, .ref a0)]) (st' := [.int 4, .int x1]) [(.iconst 4, 1, 4)] (by decide +kernel) rfl ?_
  refine C.icmp_ne (off := 10) (tgt := 15) (pf := 8) (by decide +kernel) (by decide) rfl (fun c3 => ?_) (fun c3 => ?_)
  · replace hf := ifn c3 hf
    refine C.seg (pe := 16) (lv' := [(0, .ref a0)]) (st' := [.int (-1)]) [(.iconst (-1), 1, (-1))] (by decide +kernel) rfl ?_
    refine Vsub [] rfl ?_
    exact l_X11_where_16 C C2 (-1) h hf
  · replace hf := ifp c3 hf
    refine C.seg (pe := 9) (lv' := [(0, .ref a0)]) (st' := [.ref a0]) [(.aload_n 0, 1, 0)] (by decide +kernel) rfl ?_
    obtain ⟨x2, gx2, hf⟩ := Option.bind_eq_some_iff.mp hf
    refine C.rdI fr_578 gx2 (by decide +kernel) rfl ?_
    refine C.goto (off := 4) (tgt := 16) (by decide +kernel) (by decide) ?_
    refine Vsub [] rfl ?_
    exact l_X11_where_16 C C2 x2 h hf
theorem o_X11_where {a0 : Nat} {h : AH} {rr : Int32} {hr : AH} (hf : f_X11_where a0 h = some (rr, hr)) : isO 11 h a0 = true := by
  unfold f_X11_where at hf
  exact (ifO hf).1
/-! WallHouse.drawingAt(I)LWallHouse$Drawing; -/
def f_X11_drawingAt_31 (so0 : Option Nat) (h : AH) : Option (Option Nat × AH) :=
  tr so0 (
    some (none, h)) fun sr0 =>
  some (some sr0, h)
set_option maxRecDepth 100000 in
set_option maxHeartbeats 4000000 in
theorem l_X11_drawingAt_31 {X : MX} {l : Launch} {G : GX} {h0 : AH} {rr : Option Nat} {hr : AH} (C : Cx X G RX11 cX11_drawingAt 2 (some (.object "WallHouse$Drawing")) 0 0 h0) (C2 : Cy X l "drawingAt" []) (so0 : Option Nat) (h : AH) (hf : f_X11_drawingAt_31 so0 h = some (rr, hr)) : V X G h0 (QA rr hr) 31 [] [va_rf so0] h := by
  unfold f_X11_drawingAt_31 at hf
  cases so0 with
  | none =>
    replace hf := tr_none hf
    cases hf
    exact C.retN rfl (Or.inl ⟨_, rfl⟩) (by decide +kernel) ⟨rfl, rfl⟩
  | some sr0 =>
    replace hf := tr_some hf
    cases hf
    exact C.retA rfl (Or.inl ⟨_, rfl⟩) (by decide +kernel) ⟨rfl, rfl⟩
def f_X11_drawingAt_30 (h : AH) : Option (Option Nat × AH) :=
  f_X11_drawingAt_31 none h
set_option maxRecDepth 100000 in
set_option maxHeartbeats 4000000 in
theorem l_X11_drawingAt_30 {X : MX} {l : Launch} {G : GX} {h0 : AH} {rr : Option Nat} {hr : AH} (C : Cx X G RX11 cX11_drawingAt 2 (some (.object "WallHouse$Drawing")) 0 0 h0) (C2 : Cy X l "drawingAt" []) (h : AH) (hf : f_X11_drawingAt_30 h = some (rr, hr)) : V X G h0 (QA rr hr) 30 [] [] h := by
  unfold f_X11_drawingAt_30 at hf
  refine C.seg (pe := 31) (lv' := []) (st' := [.null]) [(.aconst_null, 1, 0)] (by decide +kernel) rfl ?_
  exact l_X11_drawingAt_31 C C2 none h hf
def f_X11_drawingAt (a0 : Nat) (p1 : Int32) (h : AH) : Option (Option Nat × AH) :=
  if isO 11 h a0 = true then
    if p1 < 0 then
      f_X11_drawingAt_30 h
    else
      (gI 11 h a0 10).bind fun x1 =>
      if x1 ≤ p1 then
        f_X11_drawingAt_30 h
      else
        (gA 11 h a0 9).bind fun a2 =>
        (aN h a2).bind fun x3 =>
        if x3 ≤ p1 then
          f_X11_drawingAt_30 h
        else
          (gA 11 h a0 9).bind fun a4 =>
          (aQ 6 h a4 p1).bind fun q5 =>
          tr q5 (
            f_X11_drawingAt_31 none h) fun a6 =>
          f_X11_drawingAt_31 (some a6) h
  else none
set_option maxRecDepth 100000 in
set_option maxHeartbeats 4000000 in
theorem w_X11_drawingAt {l : Launch} {G : GX} {a0 : Nat} {p1 : Int32} {h : AH} {rr : Option Nat} {hr : AH} (hf : f_X11_drawingAt a0 p1 h = some (rr, hr)) : Ct l G yX11_drawingAt 0 0 [.ref a0, .int p1] h (QA rr hr) := by
  unfold f_X11_drawingAt at hf
  obtain ⟨ho, hf⟩ := ifO hf
  refine Ct_of (own := RX11) (cc := cX11_drawingAt) (nL := 2) (ret := (some (.object "WallHouse$Drawing"))) rfl rfl k_1145 (Nat.le_of_ble_eq_true rfl) (fun X C2 C => ?_)
  show V X G h (QA rr hr) 0 [(0, .ref a0), (1, .int p1)] [] h
  refine C.seg (pe := 1) (lv' := [(0, .ref a0), (1, .int p1)]) (st' := [.int p1]) [(.iload_n 1, 1, 0)] (by decide +kernel) rfl ?_
  refine C.if_lt (off := 29) (tgt := 30) (pf := 4) (by decide +kernel) (by decide) rfl (fun c9 => ?_) (fun c9 => ?_)
  · replace hf := ifp c9 hf
    refine Vsub [] rfl ?_
    exact l_X11_drawingAt_30 C C2 h hf
  · replace hf := ifn c9 hf
    refine C.seg (pe := 6) (lv' := [(0, .ref a0), (1, .int p1)]) (st' := [.ref a0, .int p1]) [(.iload_n 1, 1, 0), (.aload_n 0, 1, 0)] (by decide +kernel) rfl ?_
    obtain ⟨x1, gx1, hf⟩ := Option.bind_eq_some_iff.mp hf
    refine C.rdI fr_570 gx1 (by decide +kernel) rfl ?_
    refine C.icmp_ge (off := 21) (tgt := 30) (pf := 12) (by decide +kernel) (by decide) rfl (fun c8 => ?_) (fun c8 => ?_)
    · replace hf := ifp c8 hf
      refine Vsub [] rfl ?_
      exact l_X11_drawingAt_30 C C2 h hf
    · replace hf := ifn c8 hf
      refine C.seg (pe := 14) (lv' := [(0, .ref a0), (1, .int p1)]) (st' := [.ref a0, .int p1]) [(.iload_n 1, 1, 0), (.aload_n 0, 1, 0)] (by decide +kernel) rfl ?_
      obtain ⟨a2, ga2, hf⟩ := Option.bind_eq_some_iff.mp hf
      refine C.rdA fr_569 ga2 (by decide +kernel) rfl ?_
      obtain ⟨x3, gx3, hf⟩ := Option.bind_eq_some_iff.mp hf
      refine C.alen gx3 (by decide +kernel) rfl ?_
      refine C.icmp_ge (off := 12) (tgt := 30) (pf := 21) (by decide +kernel) (by decide) rfl (fun c7 => ?_) (fun c7 => ?_)
      · replace hf := ifp c7 hf
        refine Vsub [] rfl ?_
        exact l_X11_drawingAt_30 C C2 h hf
      · replace hf := ifn c7 hf
        refine C.seg (pe := 22) (lv' := [(0, .ref a0), (1, .int p1)]) (st' := [.ref a0]) [(.aload_n 0, 1, 0)] (by decide +kernel) rfl ?_
        obtain ⟨a4, ga4, hf⟩ := Option.bind_eq_some_iff.mp hf
        refine C.rdA fr_569 ga4 (by decide +kernel) rfl ?_
        refine C.seg (pe := 26) (lv' := [(0, .ref a0), (1, .int p1)]) (st' := [.int p1, .ref a4]) [(.iload_n 1, 1, 0)] (by decide +kernel) rfl ?_
        obtain ⟨q5, gq5, hf⟩ := Option.bind_eq_some_iff.mp hf
        cases q5 with
        | none =>
          refine C.aald 6 rfl gq5 (by decide +kernel) rfl ?_
          replace hf := tr_none hf
          refine C.goto (off := 4) (tgt := 31) (by decide +kernel) (by decide) ?_
          refine Vsub [] rfl ?_
          exact l_X11_drawingAt_31 C C2 none h hf
        | some a6 =>
          refine C.aald 6 rfl gq5 (by decide +kernel) rfl ?_
          replace hf := tr_some hf
          refine C.goto (off := 4) (tgt := 31) (by decide +kernel) (by decide) ?_
          refine Vsub [] rfl ?_
          exact l_X11_drawingAt_31 C C2 (some a6) h hf
theorem o_X11_drawingAt {a0 : Nat} {p1 : Int32} {h : AH} {rr : Option Nat} {hr : AH} (hf : f_X11_drawingAt a0 p1 h = some (rr, hr)) : isO 11 h a0 = true := by
  unfold f_X11_drawingAt at hf
  exact (ifO hf).1
/-! WallHouse.sketch(II)I -/
def f_X11_sketch_25 (r0 : Nat) (h : AH) : Option (Int32 × AH) :=
  b2 (f_X11_refuse r0 1 h) fun x1 h2 =>
  some (x1, h2)
set_option maxRecDepth 100000 in
set_option maxHeartbeats 4000000 in
theorem l_X11_sketch_25 {X : MX} {l : Launch} {G : GX} {h0 : AH} {rr : Int32} {hr : AH} (C : Cx X G RX11 cX11_sketch 5 (some .int) 4 115 h0) (C2 : Cy X l "sketch" []) (r0 : Nat) (h : AH) (hf : f_X11_sketch_25 r0 h = some (rr, hr)) : V X G h0 (QI rr hr) 25 [(0, .ref r0)] [] h := by
  unfold f_X11_sketch_25 at hf
  refine C.seg (pe := 27) (lv' := [(0, .ref r0)]) (st' := [.int 1, .ref r0]) [(.aload_n 0, 1, 0), (.iconst 1, 1, 1)] (by decide +kernel) rfl ?_
  obtain ⟨x1, h2, gx1, hf⟩ := b2_some hf
  refine C.callVr C2 [.int 1] [] mv_625 rfl (o_X11_refuse gx1) (w_X11_refuse gx1) (by omega) (by omega) (Nat.le_of_ble_eq_true rfl) (by decide +kernel) rfl ?_
  cases hf
  exact C.retI rfl (by decide +kernel) ⟨rfl, rfl⟩
def f_X11_sketch (a0 : Nat) (p1 : Int32) (p2 : Int32) (h : AH) : Option (Int32 × AH) :=
  if isO 11 h a0 = true then
    (gA 11 h a0 0).bind fun a1 =>
    b2 (f_X9_at a1 p2 h) fun q2 h3 =>
    tr q2 (
      b2 (f_X11_drawingAt a0 p1 h3) fun q5 h6 =>
      tr q5 (
        f_X11_sketch_25 a0 h6) fun a7 =>
      f_X11_sketch_25 a0 h6) fun a4 =>
    b2 (f_X11_drawingAt a0 p1 h3) fun q8 h9 =>
    tr q8 (
      f_X11_sketch_25 a0 h9) fun a10 =>
    (gA 11 h9 a0 14).bind fun a11 =>
    (gI 11 h9 a0 12).bind fun x12 =>
    (f_X0_paint a11 a10 a4 x12 h9).bind fun h13 =>
    (gA 11 h13 a0 14).bind fun a14 =>
    b2 (f_X0_painted a14 h13) fun x15 h16 =>
    b2 (f_X11_tell a0 x15 h16) fun x17 h18 =>
    some (x17, h18)
  else none
set_option maxRecDepth 100000 in
set_option maxHeartbeats 4000000 in
theorem w_X11_sketch {l : Launch} {G : GX} {a0 : Nat} {p1 : Int32} {p2 : Int32} {h : AH} {rr : Int32} {hr : AH} (hf : f_X11_sketch a0 p1 p2 h = some (rr, hr)) : Ct l G yX11_sketch 4 115 [.ref a0, .int p1, .int p2] h (QI rr hr) := by
  unfold f_X11_sketch at hf
  obtain ⟨ho, hf⟩ := ifO hf
  refine Ct_of (own := RX11) (cc := cX11_sketch) (nL := 5) (ret := (some .int)) rfl rfl k_1141 (Nat.le_of_ble_eq_true rfl) (fun X C2 C => ?_)
  show V X G h (QI rr hr) 0 [(0, .ref a0), (1, .int p1), (2, .int p2)] [] h
  refine C.seg (pe := 1) (lv' := [(0, .ref a0), (1, .int p1), (2, .int p2)]) (st' := [.ref a0]) [(.aload_n 0, 1, 0)] (by decide +kernel) rfl ?_
  obtain ⟨a1, ga1, hf⟩ := Option.bind_eq_some_iff.mp hf
  refine C.rdA fr_560 ga1 (by decide +kernel) rfl ?_
  refine C.seg (pe := 5) (lv' := [(0, .ref a0), (1, .int p1), (2, .int p2)]) (st' := [.int p2, .ref a1]) [(.iload_n 2, 1, 0)] (by decide +kernel) rfl ?_
  obtain ⟨q2, h3, gq2, hf⟩ := b2_some hf
  cases q2 with
  | none =>
    replace hf := tr_none hf
    refine C.callVr C2 [.int p2] [] mv_720 rfl (o_X9_at gq2) (w_X9_at gq2) (by omega) (by omega) (Nat.le_of_ble_eq_true rfl) (by decide +kernel) rfl ?_
    refine C.seg (pe := 11) (lv' := [(3, .null), (0, .ref a0), (1, .int p1), (2, .int p2)]) (st' := [.int p1, .ref a0]) [(.astore_n 3, 1, 0), (.aload_n 0, 1, 0), (.iload_n 1, 1, 0)] (by decide +kernel) rfl ?_
    obtain ⟨q5, h6, gq5, hf⟩ := b2_some hf
    cases q5 with
    | none =>
      replace hf := tr_none hf
      refine C.callVr C2 [.int p1] [] mv_1142 rfl (o_X11_drawingAt gq5) (w_X11_drawingAt gq5) (by omega) (by omega) (Nat.le_of_ble_eq_true rfl) (by decide +kernel) rfl ?_
      refine C.seg (pe := 17) (lv' := [(4, .null), (3, .null), (0, .ref a0), (1, .int p1), (2, .int p2)]) (st' := [.null]) [(.astore 4, 2, 0), (.aload_n 3, 1, 0)] (by decide +kernel) rfl ?_
      refine C.nullN (off := 8) (tgt := 25) (by decide +kernel) (by decide) ?_
      refine Vsub [2] rfl ?_
      exact l_X11_sketch_25 C C2 a0 h6 hf
    | some a7 =>
      replace hf := tr_some hf
      refine C.callVr C2 [.int p1] [] mv_1142 rfl (o_X11_drawingAt gq5) (w_X11_drawingAt gq5) (by omega) (by omega) (Nat.le_of_ble_eq_true rfl) (by decide +kernel) rfl ?_
      refine C.seg (pe := 17) (lv' := [(4, .ref a7), (3, .null), (0, .ref a0), (1, .int p1), (2, .int p2)]) (st' := [.null]) [(.astore 4, 2, 0), (.aload_n 3, 1, 0)] (by decide +kernel) rfl ?_
      refine C.nullN (off := 8) (tgt := 25) (by decide +kernel) (by decide) ?_
      refine Vsub [2] rfl ?_
      exact l_X11_sketch_25 C C2 a0 h6 hf
  | some a4 =>
    replace hf := tr_some hf
    refine C.callVr C2 [.int p2] [] mv_720 rfl (o_X9_at gq2) (w_X9_at gq2) (by omega) (by omega) (Nat.le_of_ble_eq_true rfl) (by decide +kernel) rfl ?_
    refine C.seg (pe := 11) (lv' := [(3, .ref a4), (0, .ref a0), (1, .int p1), (2, .int p2)]) (st' := [.int p1, .ref a0]) [(.astore_n 3, 1, 0), (.aload_n 0, 1, 0), (.iload_n 1, 1, 0)] (by decide +kernel) rfl ?_
    obtain ⟨q8, h9, gq8, hf⟩ := b2_some hf
    cases q8 with
    | none =>
      replace hf := tr_none hf
      refine C.callVr C2 [.int p1] [] mv_1142 rfl (o_X11_drawingAt gq8) (w_X11_drawingAt gq8) (by omega) (by omega) (Nat.le_of_ble_eq_true rfl) (by decide +kernel) rfl ?_
      refine C.seg (pe := 17) (lv' := [(4, .null), (3, .ref a4), (0, .ref a0), (1, .int p1), (2, .int p2)]) (st' := [.ref a4]) [(.astore 4, 2, 0), (.aload_n 3, 1, 0)] (by decide +kernel) rfl ?_
      refine C.nullR (off := 8) (pf := 20) (by decide +kernel) rfl ?_
      refine C.seg (pe := 22) (lv' := [(4, .null), (3, .ref a4), (0, .ref a0), (1, .int p1), (2, .int p2)]) (st' := [.null]) [(.aload 4, 2, 0)] (by decide +kernel) rfl ?_
      refine C.nonnullN (off := 9) (pf := 25) (by decide +kernel) rfl ?_
      refine Vsub [2] rfl ?_
      exact l_X11_sketch_25 C C2 a0 h9 hf
    | some a10 =>
      replace hf := tr_some hf
      refine C.callVr C2 [.int p1] [] mv_1142 rfl (o_X11_drawingAt gq8) (w_X11_drawingAt gq8) (by omega) (by omega) (Nat.le_of_ble_eq_true rfl) (by decide +kernel) rfl ?_
      refine C.seg (pe := 17) (lv' := [(4, .ref a10), (3, .ref a4), (0, .ref a0), (1, .int p1), (2, .int p2)]) (st' := [.ref a4]) [(.astore 4, 2, 0), (.aload_n 3, 1, 0)] (by decide +kernel) rfl ?_
      refine C.nullR (off := 8) (pf := 20) (by decide +kernel) rfl ?_
      refine C.seg (pe := 22) (lv' := [(4, .ref a10), (3, .ref a4), (0, .ref a0), (1, .int p1), (2, .int p2)]) (st' := [.ref a10]) [(.aload 4, 2, 0)] (by decide +kernel) rfl ?_
      refine C.nonnullR (off := 9) (tgt := 31) (by decide +kernel) (by decide) ?_
      refine C.seg (pe := 32) (lv' := [(4, .ref a10), (3, .ref a4), (0, .ref a0), (1, .int p1), (2, .int p2)]) (st' := [.ref a0]) [(.aload_n 0, 1, 0)] (by decide +kernel) rfl ?_
      obtain ⟨a11, ga11, hf⟩ := Option.bind_eq_some_iff.mp hf
      refine C.rdA fr_574 ga11 (by decide +kernel) rfl ?_
      refine C.seg (pe := 39) (lv' := [(4, .ref a10), (3, .ref a4), (0, .ref a0), (1, .int p1), (2, .int p2)]) (st' := [.ref a0, .ref a4, .ref a10, .ref a11]) [(.aload 4, 2, 0), (.aload_n 3, 1, 0), (.aload_n 0, 1, 0)] (by decide +kernel) rfl ?_
      obtain ⟨x12, gx12, hf⟩ := Option.bind_eq_some_iff.mp hf
      refine C.rdI fr_572 gx12 (by decide +kernel) rfl ?_
      obtain ⟨h13, gh13, hf⟩ := Option.bind_eq_some_iff.mp hf
      refine C.callVr C2 [.ref a10, .ref a4, .int x12] [] mv_1146 rfl (o_X0_paint gh13) (w_X0_paint gh13) (by omega) (by omega) (Nat.le_of_ble_eq_true rfl) (by decide +kernel) rfl ?_
      refine C.seg (pe := 47) (lv' := [(4, .ref a10), (3, .ref a4), (0, .ref a0), (1, .int p1), (2, .int p2)]) (st' := [.ref a0, .ref a0]) [(.aload_n 0, 1, 0), (.aload_n 0, 1, 0)] (by decide +kernel) rfl ?_
      obtain ⟨a14, ga14, hf⟩ := Option.bind_eq_some_iff.mp hf
      refine C.rdA fr_574 ga14 (by decide +kernel) rfl ?_
      obtain ⟨x15, h16, gx15, hf⟩ := b2_some hf
      refine C.callVr C2 [] [.ref a0] mv_1215 rfl (o_X0_painted gx15) (w_X0_painted gx15) (by omega) (by omega) (Nat.le_of_ble_eq_true rfl) (by decide +kernel) rfl ?_
      obtain ⟨x17, h18, gx17, hf⟩ := b2_some hf
      refine C.callVr C2 [.int x15] [] mv_712 rfl (o_X11_tell gx17) (w_X11_tell gx17) (by omega) (by omega) (Nat.le_of_ble_eq_true rfl) (by decide +kernel) rfl ?_
      cases hf
      exact C.retI rfl (by decide +kernel) ⟨rfl, rfl⟩
theorem o_X11_sketch {a0 : Nat} {p1 : Int32} {p2 : Int32} {h : AH} {rr : Int32} {hr : AH} (hf : f_X11_sketch a0 p1 p2 h = some (rr, hr)) : isO 11 h a0 = true := by
  unfold f_X11_sketch at hf
  exact (ifO hf).1
/-! WallHouse.sketched(II)I -/
def f_X11_sketched_35 (si0 : Int32) (h : AH) : Option (Int32 × AH) :=
  some (si0, h)
set_option maxRecDepth 100000 in
set_option maxHeartbeats 4000000 in
theorem l_X11_sketched_35 {X : MX} {l : Launch} {G : GX} {h0 : AH} {rr : Int32} {hr : AH} (C : Cx X G RX11 cX11_sketched 4 (some .int) 2 45 h0) (C2 : Cy X l "sketched" []) (si0 : Int32) (h : AH) (hf : f_X11_sketched_35 si0 h = some (rr, hr)) : V X G h0 (QI rr hr) 35 [] [.int si0] h := by
  unfold f_X11_sketched_35 at hf
  cases hf
  exact C.retI rfl (by decide +kernel) ⟨rfl, rfl⟩
def f_X11_sketched (a0 : Nat) (p1 : Int32) (p2 : Int32) (h : AH) : Option (Int32 × AH) :=
  if isO 11 h a0 = true then
    (gA 11 h a0 14).bind fun a1 =>
    b2 (f_X0_holds a1 p1 p2 h) fun x2 h3 =>
    if x2 = 0 then
      some ((-1), h3)
    else
      (gA 11 h3 a0 14).bind fun a4 =>
      b2 (f_X0_colourAt a4 p1 p2 h3) fun x5 h6 =>
      if x5 = (-1) then
        f_X11_sketched_35 (-2) h6
      else
        f_X11_sketched_35 x5 h6
  else none
set_option maxRecDepth 100000 in
set_option maxHeartbeats 4000000 in
theorem w_X11_sketched {l : Launch} {G : GX} {a0 : Nat} {p1 : Int32} {p2 : Int32} {h : AH} {rr : Int32} {hr : AH} (hf : f_X11_sketched a0 p1 p2 h = some (rr, hr)) : Ct l G yX11_sketched 2 45 [.ref a0, .int p1, .int p2] h (QI rr hr) := by
  unfold f_X11_sketched at hf
  obtain ⟨ho, hf⟩ := ifO hf
  refine Ct_of (own := RX11) (cc := cX11_sketched) (nL := 4) (ret := (some .int)) rfl rfl k_1226 (Nat.le_of_ble_eq_true rfl) (fun X C2 C => ?_)
  show V X G h (QI rr hr) 0 [(0, .ref a0), (1, .int p1), (2, .int p2)] [] h
  refine C.seg (pe := 1) (lv' := [(0, .ref a0), (1, .int p1), (2, .int p2)]) (st' := [.ref a0]) [(.aload_n 0, 1, 0)] (by decide +kernel) rfl ?_
  obtain ⟨a1, ga1, hf⟩ := Option.bind_eq_some_iff.mp hf
  refine C.rdA fr_574 ga1 (by decide +kernel) rfl ?_
  refine C.seg (pe := 6) (lv' := [(0, .ref a0), (1, .int p1), (2, .int p2)]) (st' := [.int p2, .int p1, .ref a1]) [(.iload_n 1, 1, 0), (.iload_n 2, 1, 0)] (by decide +kernel) rfl ?_
  obtain ⟨x2, h3, gx2, hf⟩ := b2_some hf
  refine C.callVr C2 [.int p1, .int p2] [] mv_1227 rfl (o_X0_holds gx2) (w_X0_holds gx2) (by omega) (by omega) (Nat.le_of_ble_eq_true rfl) (by decide +kernel) rfl ?_
  refine C.if_ne (off := 5) (tgt := 14) (pf := 12) (by decide +kernel) (by decide) rfl (fun c8 => ?_) (fun c8 => ?_)
  · replace hf := ifn c8 hf
    refine C.seg (pe := 15) (lv' := [(0, .ref a0), (1, .int p1), (2, .int p2)]) (st' := [.ref a0]) [(.aload_n 0, 1, 0)] (by decide +kernel) rfl ?_
    obtain ⟨a4, ga4, hf⟩ := Option.bind_eq_some_iff.mp hf
    refine C.rdA fr_574 ga4 (by decide +kernel) rfl ?_
    refine C.seg (pe := 20) (lv' := [(0, .ref a0), (1, .int p1), (2, .int p2)]) (st' := [.int p2, .int p1, .ref a4]) [(.iload_n 1, 1, 0), (.iload_n 2, 1, 0)] (by decide +kernel) rfl ?_
    obtain ⟨x5, h6, gx5, hf⟩ := b2_some hf
    refine C.callVr C2 [.int p1, .int p2] [] mv_1228 rfl (o_X0_colourAt gx5) (w_X0_colourAt gx5) (by omega) (by omega) (Nat.le_of_ble_eq_true rfl) (by decide +kernel) rfl ?_
    refine C.seg (pe := 26) (lv' := [(3, .int x5), (0, .ref a0), (1, .int p1), (2, .int p2)]) (st' := [.int (-1), .int x5]) [(.istore_n 3, 1, 0), (.iload_n 3, 1, 0), (.iconst (-1), 1, (-1))] (by decide +kernel) rfl ?_
    refine C.icmp_ne (off := 8) (tgt := 34) (pf := 29) (by decide +kernel) (by decide) rfl (fun c7 => ?_) (fun c7 => ?_)
    · replace hf := ifn c7 hf
      refine C.seg (pe := 35) (lv' := [(3, .int x5), (0, .ref a0), (1, .int p1), (2, .int p2)]) (st' := [.int x5]) [(.iload_n 3, 1, 0)] (by decide +kernel) rfl ?_
      refine Vsub [] rfl ?_
      exact l_X11_sketched_35 C C2 x5 h6 hf
    · replace hf := ifp c7 hf
      refine C.seg (pe := 31) (lv' := [(3, .int x5), (0, .ref a0), (1, .int p1), (2, .int p2)]) (st' := [.int (-2)]) [(.bipush (-2), 2, (-2))] (by decide +kernel) rfl ?_
      refine C.goto (off := 4) (tgt := 35) (by decide +kernel) (by decide) ?_
      refine Vsub [] rfl ?_
      exact l_X11_sketched_35 C C2 (-2) h6 hf
  · replace hf := ifp c8 hf
    refine C.seg (pe := 13) (lv' := [(0, .ref a0), (1, .int p1), (2, .int p2)]) (st' := [.int (-1)]) [(.iconst (-1), 1, (-1))] (by decide +kernel) rfl ?_
    cases hf
    exact C.retI rfl (by decide +kernel) ⟨rfl, rfl⟩
theorem o_X11_sketched {a0 : Nat} {p1 : Int32} {p2 : Int32} {h : AH} {rr : Int32} {hr : AH} (hf : f_X11_sketched a0 p1 p2 h = some (rr, hr)) : isO 11 h a0 = true := by
  unfold f_X11_sketched at hf
  exact (ifO hf).1
/-! WallHouse.sketchOf(I)I -/
def f_X11_sketchOf_83 (si0 : Int32) (h : AH) : Option (Int32 × AH) :=
  some (si0, h)
set_option maxRecDepth 100000 in
set_option maxHeartbeats 4000000 in
theorem l_X11_sketchOf_83 {X : MX} {l : Launch} {G : GX} {h0 : AH} {rr : Int32} {hr : AH} (C : Cx X G RX11 cX11_sketchOf 2 (some .int) 1 23 h0) (C2 : Cy X l "sketchOf" []) (si0 : Int32) (h : AH) (hf : f_X11_sketchOf_83 si0 h = some (rr, hr)) : V X G h0 (QI rr hr) 83 [] [.int si0] h := by
  unfold f_X11_sketchOf_83 at hf
  cases hf
  exact C.retI rfl (by decide +kernel) ⟨rfl, rfl⟩
def f_X11_sketchOf (a0 : Nat) (p1 : Int32) (h : AH) : Option (Int32 × AH) :=
  if isO 11 h a0 = true then
    (gA 11 h a0 14).bind fun a1 =>
    (gI 0 h a1 3).bind fun x2 =>
    if x2 = 0 then
      some ((-1), h)
    else
      b2 (f_X11_within p1 0 7 h) fun x3 h4 =>
      if x3 = 0 then
        if p1 = 8 then
          (gA 11 h4 a0 14).bind fun a8 =>
          (gI 0 h4 a8 4).bind fun x9 =>
          some (x9, h4)
        else
          if p1 = 9 then
            (gA 11 h4 a0 14).bind fun a10 =>
            (gI 0 h4 a10 5).bind fun x11 =>
            if x11 = 0 then
              f_X11_sketchOf_83 0 h4
            else
              f_X11_sketchOf_83 1 h4
          else
            if p1 = 10 then
              (gA 11 h4 a0 14).bind fun a13 =>
              (gI 0 h4 a13 6).bind fun x14 =>
              b2 (f_J6_bitCount_0f7a4 x14 h4) fun x15 h16 =>
              some (x15, h16)
            else
              some ((-1), h4)
      else
        (gA 11 h4 a0 14).bind fun a17 =>
        b2 (f_X0_area a17 p1 h4) fun x18 h19 =>
        some (x18, h19)
  else none
set_option maxRecDepth 100000 in
set_option maxHeartbeats 4000000 in
theorem w_X11_sketchOf {l : Launch} {G : GX} {a0 : Nat} {p1 : Int32} {h : AH} {rr : Int32} {hr : AH} (hf : f_X11_sketchOf a0 p1 h = some (rr, hr)) : Ct l G yX11_sketchOf 1 23 [.ref a0, .int p1] h (QI rr hr) := by
  unfold f_X11_sketchOf at hf
  obtain ⟨ho, hf⟩ := ifO hf
  refine Ct_of (own := RX11) (cc := cX11_sketchOf) (nL := 2) (ret := (some .int)) rfl rfl k_1235 (Nat.le_of_ble_eq_true rfl) (fun X C2 C => ?_)
  show V X G h (QI rr hr) 0 [(0, .ref a0), (1, .int p1)] [] h
  refine C.seg (pe := 1) (lv' := [(0, .ref a0), (1, .int p1)]) (st' := [.ref a0]) [(.aload_n 0, 1, 0)] (by decide +kernel) rfl ?_
  obtain ⟨a1, ga1, hf⟩ := Option.bind_eq_some_iff.mp hf
  refine C.rdA fr_574 ga1 (by decide +kernel) rfl ?_
  obtain ⟨x2, gx2, hf⟩ := Option.bind_eq_some_iff.mp hf
  refine C.rdI fr_510 gx2 (by decide +kernel) rfl ?_
  refine C.if_ne (off := 5) (tgt := 12) (pf := 10) (by decide +kernel) (by decide) rfl (fun c21 => ?_) (fun c21 => ?_)
  · replace hf := ifn c21 hf
    refine C.seg (pe := 16) (lv' := [(0, .ref a0), (1, .int p1)]) (st' := [.int 7, .int 0, .int p1]) [(.iload_n 1, 1, 0), (.iconst 0, 1, 0), (.bipush 7, 2, 7)] (by decide +kernel) rfl ?_
    obtain ⟨x3, h4, gx3, hf⟩ := b2_some hf
    refine C.callSr C2 [.int p1, .int 0, .int 7] [] ms_622 rfl (w_X11_within gx3) (by omega) (by omega) (Nat.le_of_ble_eq_true rfl) (by decide +kernel) rfl ?_
    refine C.if_eq (off := 12) (tgt := 31) (pf := 22) (by decide +kernel) (by decide) rfl (fun c20 => ?_) (fun c20 => ?_)
    · replace hf := ifp c20 hf
      refine C.seg (pe := 32) (lv' := [(0, .ref a0), (1, .int p1)]) (st' := [.int p1]) [(.iload_n 1, 1, 0)] (by decide +kernel) rfl ?_
      by_cases c5 : p1 = 8
      · replace hf := ifp c5 hf
        refine C.tsIn (len := 28) (dflt := 63) (a := 8) (b := 10) (offs := #[28, 36, 52]) (k := 8) (off := 28) (tgt := 60) c5 (by decide +kernel) (by decide) (by decide) rfl (by decide) ?_
        refine C.seg (pe := 61) (lv' := [(0, .ref a0), (1, .int p1)]) (st' := [.ref a0]) [(.aload_n 0, 1, 0)] (by decide +kernel) rfl ?_
        obtain ⟨a8, ga8, hf⟩ := Option.bind_eq_some_iff.mp hf
        refine C.rdA fr_574 ga8 (by decide +kernel) rfl ?_
        obtain ⟨x9, gx9, hf⟩ := Option.bind_eq_some_iff.mp hf
        refine C.rdI fr_512 gx9 (by decide +kernel) rfl ?_
        cases hf
        exact C.retI rfl (by decide +kernel) ⟨rfl, rfl⟩
      · replace hf := ifn c5 hf
        by_cases c6 : p1 = 9
        · replace hf := ifp c6 hf
          refine C.tsIn (len := 28) (dflt := 63) (a := 8) (b := 10) (offs := #[28, 36, 52]) (k := 9) (off := 36) (tgt := 68) c6 (by decide +kernel) (by decide) (by decide) rfl (by decide) ?_
          refine C.seg (pe := 69) (lv' := [(0, .ref a0), (1, .int p1)]) (st' := [.ref a0]) [(.aload_n 0, 1, 0)] (by decide +kernel) rfl ?_
          obtain ⟨a10, ga10, hf⟩ := Option.bind_eq_some_iff.mp hf
          refine C.rdA fr_574 ga10 (by decide +kernel) rfl ?_
          obtain ⟨x11, gx11, hf⟩ := Option.bind_eq_some_iff.mp hf
          refine C.rdI fr_514 gx11 (by decide +kernel) rfl ?_
          refine C.if_eq (off := 7) (tgt := 82) (pf := 78) (by decide +kernel) (by decide) rfl (fun c12 => ?_) (fun c12 => ?_)
          · replace hf := ifp c12 hf
            refine C.seg (pe := 83) (lv' := [(0, .ref a0), (1, .int p1)]) (st' := [.int 0]) [(.iconst 0, 1, 0)] (by decide +kernel) rfl ?_
            refine Vsub [] rfl ?_
            exact l_X11_sketchOf_83 C C2 0 h4 hf
          · replace hf := ifn c12 hf
            refine C.seg (pe := 79) (lv' := [(0, .ref a0), (1, .int p1)]) (st' := [.int 1]) [(.iconst 1, 1, 1)] (by decide +kernel) rfl ?_
            refine C.goto (off := 4) (tgt := 83) (by decide +kernel) (by decide) ?_
            refine Vsub [] rfl ?_
            exact l_X11_sketchOf_83 C C2 1 h4 hf
        · replace hf := ifn c6 hf
          by_cases c7 : p1 = 10
          · replace hf := ifp c7 hf
            refine C.tsIn (len := 28) (dflt := 63) (a := 8) (b := 10) (offs := #[28, 36, 52]) (k := 10) (off := 52) (tgt := 84) c7 (by decide +kernel) (by decide) (by decide) rfl (by decide) ?_
            refine C.seg (pe := 85) (lv' := [(0, .ref a0), (1, .int p1)]) (st' := [.ref a0]) [(.aload_n 0, 1, 0)] (by decide +kernel) rfl ?_
            obtain ⟨a13, ga13, hf⟩ := Option.bind_eq_some_iff.mp hf
            refine C.rdA fr_574 ga13 (by decide +kernel) rfl ?_
            obtain ⟨x14, gx14, hf⟩ := Option.bind_eq_some_iff.mp hf
            refine C.rdI fr_516 gx14 (by decide +kernel) rfl ?_
            obtain ⟨x15, h16, gx15, hf⟩ := b2_some hf
            refine C.callSr C2 [.int x14] [] ms_1237 rfl (w_J6_bitCount_0f7a4 gx15) (by omega) (by omega) (Nat.le_of_ble_eq_true rfl) (by decide +kernel) rfl ?_
            cases hf
            exact C.retI rfl (by decide +kernel) ⟨rfl, rfl⟩
          · replace hf := ifn c7 hf
            have qc5 := lv_neT c5 (by decide : (8 : Int32).toInt = 8)
            have qc6 := lv_neT c6 (by decide : (9 : Int32).toInt = 9)
            have qc7 := lv_neT c7 (by decide : (10 : Int32).toInt = 10)
            refine C.tsOut (len := 28) (dflt := 63) (a := 8) (b := 10) (offs := #[28, 36, 52]) (tgt := 95) (by decide +kernel) (by omega) (by decide) ?_
            refine C.seg (pe := 96) (lv' := [(0, .ref a0), (1, .int p1)]) (st' := [.int (-1)]) [(.iconst (-1), 1, (-1))] (by decide +kernel) rfl ?_
            cases hf
            exact C.retI rfl (by decide +kernel) ⟨rfl, rfl⟩
    · replace hf := ifn c20 hf
      refine C.seg (pe := 23) (lv' := [(0, .ref a0), (1, .int p1)]) (st' := [.ref a0]) [(.aload_n 0, 1, 0)] (by decide +kernel) rfl ?_
      obtain ⟨a17, ga17, hf⟩ := Option.bind_eq_some_iff.mp hf
      refine C.rdA fr_574 ga17 (by decide +kernel) rfl ?_
      refine C.seg (pe := 27) (lv' := [(0, .ref a0), (1, .int p1)]) (st' := [.int p1, .ref a17]) [(.iload_n 1, 1, 0)] (by decide +kernel) rfl ?_
      obtain ⟨x18, h19, gx18, hf⟩ := b2_some hf
      refine C.callVr C2 [.int p1] [] mv_1236 rfl (o_X0_area gx18) (w_X0_area gx18) (by omega) (by omega) (Nat.le_of_ble_eq_true rfl) (by decide +kernel) rfl ?_
      cases hf
      exact C.retI rfl (by decide +kernel) ⟨rfl, rfl⟩
  · replace hf := ifp c21 hf
    refine C.seg (pe := 11) (lv' := [(0, .ref a0), (1, .int p1)]) (st' := [.int (-1)]) [(.iconst (-1), 1, (-1))] (by decide +kernel) rfl ?_
    cases hf
    exact C.retI rfl (by decide +kernel) ⟨rfl, rfl⟩
theorem o_X11_sketchOf {a0 : Nat} {p1 : Int32} {h : AH} {rr : Int32} {hr : AH} (hf : f_X11_sketchOf a0 p1 h = some (rr, hr)) : isO 11 h a0 = true := by
  unfold f_X11_sketchOf at hf
  exact (ifO hf).1
/-! WallHouse.unlike(I)I -/
def f_X11_unlike_105 (i3 : Int32) (h : AH) : Option (Int32 × AH) :=
  some (i3, h)
set_option maxRecDepth 100000 in
set_option maxHeartbeats 4000000 in
theorem l_X11_unlike_105 {X : MX} {l : Launch} {G : GX} {h0 : AH} {rr : Int32} {hr : AH} (C : Cx X G RX11 cX11_unlike 5 (some .int) 1 21 h0) (C2 : Cy X l "unlike" []) (i3 : Int32) (h : AH) (hf : f_X11_unlike_105 i3 h = some (rr, hr)) : V X G h0 (QI rr hr) 105 [(3, .int i3)] [] h := by
  unfold f_X11_unlike_105 at hf
  refine C.seg (pe := 106) (lv' := [(3, .int i3)]) (st' := [.int i3]) [(.iload_n 3, 1, 0)] (by decide +kernel) rfl ?_
  cases hf
  exact C.retI rfl (by decide +kernel) ⟨rfl, rfl⟩
def f_X11_unlike_99 (k58 : Nat → Nat → Int32 → Int32 → AH → Option (Int32 × AH)) (r0 : Nat) (r2 : Nat) (i3 : Int32) (i4 : Int32) (h : AH) : Option (Int32 × AH) :=
  k58 r0 r2 i3 (i4 + 1) h
set_option maxRecDepth 100000 in
set_option maxHeartbeats 4000000 in
theorem l_X11_unlike_99 {X : MX} {l : Launch} {G : GX} {h0 : AH} {rr : Int32} {hr : AH} (C : Cx X G RX11 cX11_unlike 5 (some .int) 1 21 h0) (C2 : Cy X l "unlike" []) {k58 : Nat → Nat → Int32 → Int32 → AH → Option (Int32 × AH)} (hk58 : ∀ (r0 : Nat) (r2 : Nat) (i3 : Int32) (i4 : Int32) (h : AH), k58 r0 r2 i3 i4 h = some (rr, hr) → V X G h0 (QI rr hr) 58 [(0, .ref r0), (2, .ref r2), (3, .int i3), (4, .int i4)] [] h) (r0 : Nat) (r2 : Nat) (i3 : Int32) (i4 : Int32) (h : AH) (hf : f_X11_unlike_99 k58 r0 r2 i3 i4 h = some (rr, hr)) : V X G h0 (QI rr hr) 99 [(0, .ref r0), (2, .ref r2), (3, .int i3), (4, .int i4)] [] h := by
  unfold f_X11_unlike_99 at hf
  refine C.seg (pe := 102) (lv' := [(4, .int (i4 + 1)), (0, .ref r0), (2, .ref r2), (3, .int i3)]) (st' := []) [(.iinc 4 1, 3, 1)] (by decide +kernel) rfl ?_
  refine C.goto (off := (-44)) (tgt := 58) (by decide +kernel) (by decide) ?_
  refine Vsub [1, 2, 3, 0] rfl ?_
  exact hk58 r0 r2 i3 (i4 + 1) h hf
def f_X11_unlike_58 : Nat → Nat → Nat → Int32 → Int32 → AH → Option (Int32 × AH)
  | 0, _, _, _, _, _ => none
  | n + 1, r0, r2, i3, i4, h =>
    (gA 8 h r2 12).bind fun a1 =>
    (aN h a1).bind fun x2 =>
    if x2 ≤ i4 then
      f_X11_unlike_105 i3 h
    else
      if 192 ≤ i4 then
        f_X11_unlike_105 i3 h
      else
        (gA 8 h r2 12).bind fun a3 =>
        (aI 1 h a3 i4).bind fun x4 =>
        (gA 11 h r0 14).bind fun a5 =>
        (gA 0 h a5 0).bind fun a6 =>
        (aI 1 h a6 i4).bind fun x7 =>
        if x4 = x7 then
          f_X11_unlike_99 (f_X11_unlike_58 n) r0 r2 i3 i4 h
        else
          f_X11_unlike_99 (f_X11_unlike_58 n) r0 r2 (i3 + 1) i4 h
set_option maxRecDepth 100000 in
set_option maxHeartbeats 4000000 in
theorem l_X11_unlike_58 {X : MX} {l : Launch} {G : GX} {h0 : AH} {rr : Int32} {hr : AH} (C : Cx X G RX11 cX11_unlike 5 (some .int) 1 21 h0) (C2 : Cy X l "unlike" []) : ∀ (n : Nat) (r0 : Nat) (r2 : Nat) (i3 : Int32) (i4 : Int32) (h : AH), f_X11_unlike_58 n r0 r2 i3 i4 h = some (rr, hr) → V X G h0 (QI rr hr) 58 [(0, .ref r0), (2, .ref r2), (3, .int i3), (4, .int i4)] [] h := by
  intro n
  induction n with
  | zero => intro r0 r2 i3 i4 h hf; rw [f_X11_unlike_58] at hf; cases hf
  | succ n ih =>
    intro r0 r2 i3 i4 h hf
    rw [f_X11_unlike_58] at hf
    refine C.seg (pe := 61) (lv' := [(0, .ref r0), (2, .ref r2), (3, .int i3), (4, .int i4)]) (st' := [.ref r2, .int i4]) [(.iload 4, 2, 0), (.aload_n 2, 1, 0)] (by decide +kernel) rfl ?_
    obtain ⟨a1, ga1, hf⟩ := Option.bind_eq_some_iff.mp hf
    refine C.rdA fr_672 ga1 (by decide +kernel) rfl ?_
    obtain ⟨x2, gx2, hf⟩ := Option.bind_eq_some_iff.mp hf
    refine C.alen gx2 (by decide +kernel) rfl ?_
    refine C.icmp_ge (off := 40) (tgt := 105) (pf := 68) (by decide +kernel) (by decide) rfl (fun c10 => ?_) (fun c10 => ?_)
    · replace hf := ifp c10 hf
      refine Vsub [2] rfl ?_
      exact l_X11_unlike_105 C C2 i3 h hf
    · replace hf := ifn c10 hf
      refine C.seg (pe := 73) (lv' := [(0, .ref r0), (2, .ref r2), (3, .int i3), (4, .int i4)]) (st' := [.int 192, .int i4]) [(.iload 4, 2, 0), (.sipush 192, 3, 192)] (by decide +kernel) rfl ?_
      refine C.icmp_ge (off := 32) (tgt := 105) (pf := 76) (by decide +kernel) (by decide) rfl (fun c9 => ?_) (fun c9 => ?_)
      · replace hf := ifp c9 hf
        refine Vsub [2] rfl ?_
        exact l_X11_unlike_105 C C2 i3 h hf
      · replace hf := ifn c9 hf
        refine C.seg (pe := 77) (lv' := [(0, .ref r0), (2, .ref r2), (3, .int i3), (4, .int i4)]) (st' := [.ref r2]) [(.aload_n 2, 1, 0)] (by decide +kernel) rfl ?_
        obtain ⟨a3, ga3, hf⟩ := Option.bind_eq_some_iff.mp hf
        refine C.rdA fr_672 ga3 (by decide +kernel) rfl ?_
        refine C.seg (pe := 82) (lv' := [(0, .ref r0), (2, .ref r2), (3, .int i3), (4, .int i4)]) (st' := [.int i4, .ref a3]) [(.iload 4, 2, 0)] (by decide +kernel) rfl ?_
        obtain ⟨x4, gx4, hf⟩ := Option.bind_eq_some_iff.mp hf
        refine C.bald 1 rfl gx4 (by decide +kernel) rfl ?_
        refine C.seg (pe := 84) (lv' := [(0, .ref r0), (2, .ref r2), (3, .int i3), (4, .int i4)]) (st' := [.ref r0, .int x4]) [(.aload_n 0, 1, 0)] (by decide +kernel) rfl ?_
        obtain ⟨a5, ga5, hf⟩ := Option.bind_eq_some_iff.mp hf
        refine C.rdA fr_574 ga5 (by decide +kernel) rfl ?_
        obtain ⟨a6, ga6, hf⟩ := Option.bind_eq_some_iff.mp hf
        refine C.rdA fr_504 ga6 (by decide +kernel) rfl ?_
        refine C.seg (pe := 92) (lv' := [(0, .ref r0), (2, .ref r2), (3, .int i3), (4, .int i4)]) (st' := [.int i4, .ref a6, .int x4]) [(.iload 4, 2, 0)] (by decide +kernel) rfl ?_
        obtain ⟨x7, gx7, hf⟩ := Option.bind_eq_some_iff.mp hf
        refine C.bald 1 rfl gx7 (by decide +kernel) rfl ?_
        refine C.icmp_eq (off := 6) (tgt := 99) (pf := 96) (by decide +kernel) (by decide) rfl (fun c8 => ?_) (fun c8 => ?_)
        · replace hf := ifp c8 hf
          exact l_X11_unlike_99 C C2 ih r0 r2 i3 i4 h hf
        · replace hf := ifn c8 hf
          refine C.seg (pe := 99) (lv' := [(3, .int (i3 + 1)), (0, .ref r0), (2, .ref r2), (4, .int i4)]) (st' := []) [(.iinc 3 1, 3, 1)] (by decide +kernel) rfl ?_
          refine Vsub [1, 2, 0, 3] rfl ?_
          exact l_X11_unlike_99 C C2 ih r0 r2 (i3 + 1) i4 h hf
def f_X11_unlike_51 (h : AH) : Option (Int32 × AH) :=
  some ((-1), h)
set_option maxRecDepth 100000 in
set_option maxHeartbeats 4000000 in
theorem l_X11_unlike_51 {X : MX} {l : Launch} {G : GX} {h0 : AH} {rr : Int32} {hr : AH} (C : Cx X G RX11 cX11_unlike 5 (some .int) 1 21 h0) (C2 : Cy X l "unlike" []) (h : AH) (hf : f_X11_unlike_51 h = some (rr, hr)) : V X G h0 (QI rr hr) 51 [] [] h := by
  unfold f_X11_unlike_51 at hf
  refine C.seg (pe := 52) (lv' := []) (st' := [.int (-1)]) [(.iconst (-1), 1, (-1))] (by decide +kernel) rfl ?_
  cases hf
  exact C.retI rfl (by decide +kernel) ⟨rfl, rfl⟩
def f_X11_unlike (a0 : Nat) (p1 : Int32) (h : AH) : Option (Int32 × AH) :=
  if isO 11 h a0 = true then
    (gA 11 h a0 0).bind fun a1 =>
    b2 (f_X9_at a1 p1 h) fun q2 h3 =>
    tr q2 (
      f_X11_unlike_51 h3) fun a4 =>
    (gA 11 h3 a0 14).bind fun a5 =>
    (gI 0 h3 a5 3).bind fun x6 =>
    if x6 = 0 then
      f_X11_unlike_51 h3
    else
      (gI 8 h3 a4 0).bind fun x7 =>
      (gA 11 h3 a0 14).bind fun a8 =>
      (gI 0 h3 a8 1).bind fun x9 =>
      if x7 = x9 then
        (gI 8 h3 a4 1).bind fun x10 =>
        (gA 11 h3 a0 14).bind fun a11 =>
        (gI 0 h3 a11 2).bind fun x12 =>
        if x10 = x12 then
          f_X11_unlike_58 FU a0 a4 0 0 h3
        else
          f_X11_unlike_51 h3
      else
        f_X11_unlike_51 h3
  else none
set_option maxRecDepth 100000 in
set_option maxHeartbeats 4000000 in
theorem w_X11_unlike {l : Launch} {G : GX} {a0 : Nat} {p1 : Int32} {h : AH} {rr : Int32} {hr : AH} (hf : f_X11_unlike a0 p1 h = some (rr, hr)) : Ct l G yX11_unlike 1 21 [.ref a0, .int p1] h (QI rr hr) := by
  unfold f_X11_unlike at hf
  obtain ⟨ho, hf⟩ := ifO hf
  refine Ct_of (own := RX11) (cc := cX11_unlike) (nL := 5) (ret := (some .int)) rfl rfl k_1246 (Nat.le_of_ble_eq_true rfl) (fun X C2 C => ?_)
  show V X G h (QI rr hr) 0 [(0, .ref a0), (1, .int p1)] [] h
  refine C.seg (pe := 1) (lv' := [(0, .ref a0), (1, .int p1)]) (st' := [.ref a0]) [(.aload_n 0, 1, 0)] (by decide +kernel) rfl ?_
  obtain ⟨a1, ga1, hf⟩ := Option.bind_eq_some_iff.mp hf
  refine C.rdA fr_560 ga1 (by decide +kernel) rfl ?_
  refine C.seg (pe := 5) (lv' := [(0, .ref a0), (1, .int p1)]) (st' := [.int p1, .ref a1]) [(.iload_n 1, 1, 0)] (by decide +kernel) rfl ?_
  obtain ⟨q2, h3, gq2, hf⟩ := b2_some hf
  cases q2 with
  | none =>
    replace hf := tr_none hf
    refine C.callVr C2 [.int p1] [] mv_720 rfl (o_X9_at gq2) (w_X9_at gq2) (by omega) (by omega) (Nat.le_of_ble_eq_true rfl) (by decide +kernel) rfl ?_
    refine C.seg (pe := 10) (lv' := [(2, .null), (0, .ref a0), (1, .int p1)]) (st' := [.null]) [(.astore_n 2, 1, 0), (.aload_n 2, 1, 0)] (by decide +kernel) rfl ?_
    refine C.nullN (off := 41) (tgt := 51) (by decide +kernel) (by decide) ?_
    refine Vsub [] rfl ?_
    exact l_X11_unlike_51 C C2 h3 hf
  | some a4 =>
    replace hf := tr_some hf
    refine C.callVr C2 [.int p1] [] mv_720 rfl (o_X9_at gq2) (w_X9_at gq2) (by omega) (by omega) (Nat.le_of_ble_eq_true rfl) (by decide +kernel) rfl ?_
    refine C.seg (pe := 10) (lv' := [(2, .ref a4), (0, .ref a0), (1, .int p1)]) (st' := [.ref a4]) [(.astore_n 2, 1, 0), (.aload_n 2, 1, 0)] (by decide +kernel) rfl ?_
    refine C.nullR (off := 41) (pf := 13) (by decide +kernel) rfl ?_
    refine C.seg (pe := 14) (lv' := [(2, .ref a4), (0, .ref a0), (1, .int p1)]) (st' := [.ref a0]) [(.aload_n 0, 1, 0)] (by decide +kernel) rfl ?_
    obtain ⟨a5, ga5, hf⟩ := Option.bind_eq_some_iff.mp hf
    refine C.rdA fr_574 ga5 (by decide +kernel) rfl ?_
    obtain ⟨x6, gx6, hf⟩ := Option.bind_eq_some_iff.mp hf
    refine C.rdI fr_510 gx6 (by decide +kernel) rfl ?_
    refine C.if_eq (off := 31) (tgt := 51) (pf := 23) (by decide +kernel) (by decide) rfl (fun c15 => ?_) (fun c15 => ?_)
    · replace hf := ifp c15 hf
      refine Vsub [] rfl ?_
      exact l_X11_unlike_51 C C2 h3 hf
    · replace hf := ifn c15 hf
      refine C.seg (pe := 24) (lv' := [(2, .ref a4), (0, .ref a0), (1, .int p1)]) (st' := [.ref a4]) [(.aload_n 2, 1, 0)] (by decide +kernel) rfl ?_
      obtain ⟨x7, gx7, hf⟩ := Option.bind_eq_some_iff.mp hf
      refine C.rdI fr_646 gx7 (by decide +kernel) rfl ?_
      refine C.seg (pe := 28) (lv' := [(2, .ref a4), (0, .ref a0), (1, .int p1)]) (st' := [.ref a0, .int x7]) [(.aload_n 0, 1, 0)] (by decide +kernel) rfl ?_
      obtain ⟨a8, ga8, hf⟩ := Option.bind_eq_some_iff.mp hf
      refine C.rdA fr_574 ga8 (by decide +kernel) rfl ?_
      obtain ⟨x9, gx9, hf⟩ := Option.bind_eq_some_iff.mp hf
      refine C.rdI fr_506 gx9 (by decide +kernel) rfl ?_
      refine C.icmp_ne (off := 17) (tgt := 51) (pf := 37) (by decide +kernel) (by decide) rfl (fun c14 => ?_) (fun c14 => ?_)
      · replace hf := ifn c14 hf
        refine Vsub [] rfl ?_
        exact l_X11_unlike_51 C C2 h3 hf
      · replace hf := ifp c14 hf
        refine C.seg (pe := 38) (lv' := [(2, .ref a4), (0, .ref a0), (1, .int p1)]) (st' := [.ref a4]) [(.aload_n 2, 1, 0)] (by decide +kernel) rfl ?_
        obtain ⟨x10, gx10, hf⟩ := Option.bind_eq_some_iff.mp hf
        refine C.rdI fr_649 gx10 (by decide +kernel) rfl ?_
        refine C.seg (pe := 42) (lv' := [(2, .ref a4), (0, .ref a0), (1, .int p1)]) (st' := [.ref a0, .int x10]) [(.aload_n 0, 1, 0)] (by decide +kernel) rfl ?_
        obtain ⟨a11, ga11, hf⟩ := Option.bind_eq_some_iff.mp hf
        refine C.rdA fr_574 ga11 (by decide +kernel) rfl ?_
        obtain ⟨x12, gx12, hf⟩ := Option.bind_eq_some_iff.mp hf
        refine C.rdI fr_508 gx12 (by decide +kernel) rfl ?_
        refine C.icmp_eq (off := 5) (tgt := 53) (pf := 51) (by decide +kernel) (by decide) rfl (fun c13 => ?_) (fun c13 => ?_)
        · replace hf := ifp c13 hf
          refine C.seg (pe := 58) (lv' := [(4, .int 0), (3, .int 0), (2, .ref a4), (0, .ref a0), (1, .int p1)]) (st' := []) [(.iconst 0, 1, 0), (.istore_n 3, 1, 0), (.iconst 0, 1, 0), (.istore 4, 2, 0)] (by decide +kernel) rfl ?_
          refine Vsub [3, 2, 1, 0] rfl ?_
          exact l_X11_unlike_58 C C2 FU a0 a4 0 0 h3 hf
        · replace hf := ifn c13 hf
          refine Vsub [] rfl ?_
          exact l_X11_unlike_51 C C2 h3 hf
theorem o_X11_unlike {a0 : Nat} {p1 : Int32} {h : AH} {rr : Int32} {hr : AH} (hf : f_X11_unlike a0 p1 h = some (rr, hr)) : isO 11 h a0 = true := by
  unfold f_X11_unlike at hf
  exact (ifO hf).1
/-! WallHouse.painter(II)I -/
def f_X11_painter_19 (r0 : Nat) (h : AH) : Option (Int32 × AH) :=
  b2 (f_X11_refuse r0 2 h) fun x1 h2 =>
  some (x1, h2)
set_option maxRecDepth 100000 in
set_option maxHeartbeats 4000000 in
theorem l_X11_painter_19 {X : MX} {l : Launch} {G : GX} {h0 : AH} {rr : Int32} {hr : AH} (C : Cx X G RX11 cX11_painter 3 (some .int) 1 22 h0) (C2 : Cy X l "painter" []) (r0 : Nat) (h : AH) (hf : f_X11_painter_19 r0 h = some (rr, hr)) : V X G h0 (QI rr hr) 19 [(0, .ref r0)] [] h := by
  unfold f_X11_painter_19 at hf
  refine C.seg (pe := 21) (lv' := [(0, .ref r0)]) (st' := [.int 2, .ref r0]) [(.aload_n 0, 1, 0), (.iconst 2, 1, 2)] (by decide +kernel) rfl ?_
  obtain ⟨x1, h2, gx1, hf⟩ := b2_some hf
  refine C.callVr C2 [.int 2] [] mv_625 rfl (o_X11_refuse gx1) (w_X11_refuse gx1) (by omega) (by omega) (Nat.le_of_ble_eq_true rfl) (by decide +kernel) rfl ?_
  cases hf
  exact C.retI rfl (by decide +kernel) ⟨rfl, rfl⟩
def f_X11_painter (a0 : Nat) (p1 : Int32) (p2 : Int32) (h : AH) : Option (Int32 × AH) :=
  if isO 11 h a0 = true then
    b2 (f_X11_within p1 0 5 h) fun x1 h2 =>
    if x1 = 0 then
      f_X11_painter_19 a0 h2
    else
      b2 (f_X11_within p2 0 99 h2) fun x3 h4 =>
      if x3 = 0 then
        f_X11_painter_19 a0 h4
      else
        (gA 11 h4 a0 1).bind fun a5 =>
        (gI 4 h4 a5 0).bind fun x6 =>
        if x6 < 10 then
          (gA 11 h4 a0 1).bind fun a7 =>
          b2 (f_X4_add a7 p1 p2 h4) fun x8 h9 =>
          b2 (f_X11_tell a0 x8 h9) fun x10 h11 =>
          some (x10, h11)
        else
          b2 (f_X11_refuse a0 3 h4) fun x12 h13 =>
          some (x12, h13)
  else none
set_option maxRecDepth 100000 in
set_option maxHeartbeats 4000000 in
theorem w_X11_painter {l : Launch} {G : GX} {a0 : Nat} {p1 : Int32} {p2 : Int32} {h : AH} {rr : Int32} {hr : AH} (hf : f_X11_painter a0 p1 p2 h = some (rr, hr)) : Ct l G yX11_painter 1 22 [.ref a0, .int p1, .int p2] h (QI rr hr) := by
  unfold f_X11_painter at hf
  obtain ⟨ho, hf⟩ := ifO hf
  refine Ct_of (own := RX11) (cc := cX11_painter) (nL := 3) (ret := (some .int)) rfl rfl k_1250 (Nat.le_of_ble_eq_true rfl) (fun X C2 C => ?_)
  show V X G h (QI rr hr) 0 [(0, .ref a0), (1, .int p1), (2, .int p2)] [] h
  refine C.seg (pe := 3) (lv' := [(0, .ref a0), (1, .int p1), (2, .int p2)]) (st' := [.int 5, .int 0, .int p1]) [(.iload_n 1, 1, 0), (.iconst 0, 1, 0), (.iconst 5, 1, 5)] (by decide +kernel) rfl ?_
  obtain ⟨x1, h2, gx1, hf⟩ := b2_some hf
  refine C.callSr C2 [.int p1, .int 0, .int 5] [] ms_622 rfl (w_X11_within gx1) (by omega) (by omega) (Nat.le_of_ble_eq_true rfl) (by decide +kernel) rfl ?_
  refine C.if_eq (off := 13) (tgt := 19) (pf := 9) (by decide +kernel) (by decide) rfl (fun c16 => ?_) (fun c16 => ?_)
  · replace hf := ifp c16 hf
    refine Vsub [0] rfl ?_
    exact l_X11_painter_19 C C2 a0 h2 hf
  · replace hf := ifn c16 hf
    refine C.seg (pe := 13) (lv' := [(0, .ref a0), (1, .int p1), (2, .int p2)]) (st' := [.int 99, .int 0, .int p2]) [(.iload_n 2, 1, 0), (.iconst 0, 1, 0), (.bipush 99, 2, 99)] (by decide +kernel) rfl ?_
    obtain ⟨x3, h4, gx3, hf⟩ := b2_some hf
    refine C.callSr C2 [.int p2, .int 0, .int 99] [] ms_622 rfl (w_X11_within gx3) (by omega) (by omega) (Nat.le_of_ble_eq_true rfl) (by decide +kernel) rfl ?_
    refine C.if_ne (off := 9) (tgt := 25) (pf := 19) (by decide +kernel) (by decide) rfl (fun c15 => ?_) (fun c15 => ?_)
    · replace hf := ifn c15 hf
      refine C.seg (pe := 26) (lv' := [(0, .ref a0), (1, .int p1), (2, .int p2)]) (st' := [.ref a0]) [(.aload_n 0, 1, 0)] (by decide +kernel) rfl ?_
      obtain ⟨a5, ga5, hf⟩ := Option.bind_eq_some_iff.mp hf
      refine C.rdA fr_561 ga5 (by decide +kernel) rfl ?_
      obtain ⟨x6, gx6, hf⟩ := Option.bind_eq_some_iff.mp hf
      refine C.rdI fr_189 gx6 (by decide +kernel) rfl ?_
      refine C.seg (pe := 34) (lv' := [(0, .ref a0), (1, .int p1), (2, .int p2)]) (st' := [.int 10, .int x6]) [(.bipush 10, 2, 10)] (by decide +kernel) rfl ?_
      refine C.icmp_lt (off := 9) (tgt := 43) (pf := 37) (by decide +kernel) (by decide) rfl (fun c14 => ?_) (fun c14 => ?_)
      · replace hf := ifp c14 hf
        refine C.seg (pe := 45) (lv' := [(0, .ref a0), (1, .int p1), (2, .int p2)]) (st' := [.ref a0, .ref a0]) [(.aload_n 0, 1, 0), (.aload_n 0, 1, 0)] (by decide +kernel) rfl ?_
        obtain ⟨a7, ga7, hf⟩ := Option.bind_eq_some_iff.mp hf
        refine C.rdA fr_561 ga7 (by decide +kernel) rfl ?_
        refine C.seg (pe := 50) (lv' := [(0, .ref a0), (1, .int p1), (2, .int p2)]) (st' := [.int p2, .int p1, .ref a7, .ref a0]) [(.iload_n 1, 1, 0), (.iload_n 2, 1, 0)] (by decide +kernel) rfl ?_
        obtain ⟨x8, h9, gx8, hf⟩ := b2_some hf
        refine C.callVr C2 [.int p1, .int p2] [.ref a0] mv_1251 rfl (o_X4_add gx8) (w_X4_add gx8) (by omega) (by omega) (Nat.le_of_ble_eq_true rfl) (by decide +kernel) rfl ?_
        obtain ⟨x10, h11, gx10, hf⟩ := b2_some hf
        refine C.callVr C2 [.int x8] [] mv_712 rfl (o_X11_tell gx10) (w_X11_tell gx10) (by omega) (by omega) (Nat.le_of_ble_eq_true rfl) (by decide +kernel) rfl ?_
        cases hf
        exact C.retI rfl (by decide +kernel) ⟨rfl, rfl⟩
      · replace hf := ifn c14 hf
        refine C.seg (pe := 39) (lv' := [(0, .ref a0), (1, .int p1), (2, .int p2)]) (st' := [.int 3, .ref a0]) [(.aload_n 0, 1, 0), (.iconst 3, 1, 3)] (by decide +kernel) rfl ?_
        obtain ⟨x12, h13, gx12, hf⟩ := b2_some hf
        refine C.callVr C2 [.int 3] [] mv_625 rfl (o_X11_refuse gx12) (w_X11_refuse gx12) (by omega) (by omega) (Nat.le_of_ble_eq_true rfl) (by decide +kernel) rfl ?_
        cases hf
        exact C.retI rfl (by decide +kernel) ⟨rfl, rfl⟩
    · replace hf := ifp c15 hf
      refine Vsub [0] rfl ?_
      exact l_X11_painter_19 C C2 a0 h4 hf
theorem o_X11_painter {a0 : Nat} {p1 : Int32} {p2 : Int32} {h : AH} {rr : Int32} {hr : AH} (hf : f_X11_painter a0 p1 p2 h = some (rr, hr)) : isO 11 h a0 = true := by
  unfold f_X11_painter at hf
  exact (ifO hf).1
/-! WallHouse.wish(III)Z -/
def f_X11_wish_22 (r0 : Nat) (h : AH) : Option (Int32 × AH) :=
  b2 (f_X11_deny r0 1 h) fun x1 h2 =>
  (ckZ x1).bind fun x3 =>
  some (x3, h2)
set_option maxRecDepth 100000 in
set_option maxHeartbeats 4000000 in
theorem l_X11_wish_22 {X : MX} {l : Launch} {G : GX} {h0 : AH} {rr : Int32} {hr : AH} (C : Cx X G RX11 cX11_wish 4 (some .boolean) 3 66 h0) (C2 : Cy X l "wish" []) (r0 : Nat) (h : AH) (hf : f_X11_wish_22 r0 h = some (rr, hr)) : V X G h0 (QI rr hr) 22 [(0, .ref r0)] [] h := by
  unfold f_X11_wish_22 at hf
  refine C.seg (pe := 24) (lv' := [(0, .ref r0)]) (st' := [.int 1, .ref r0]) [(.aload_n 0, 1, 0), (.iconst 1, 1, 1)] (by decide +kernel) rfl ?_
  obtain ⟨x1, h2, gx1, hf⟩ := b2_some hf
  refine C.callVr C2 [.int 1] [] mv_761 rfl (o_X11_deny gx1) (w_X11_deny gx1) (by omega) (by omega) (Nat.le_of_ble_eq_true rfl) (by decide +kernel) rfl ?_
  obtain ⟨x3, gx3, hf⟩ := Option.bind_eq_some_iff.mp hf
  have ex3 := ckZ_eq gx3
  subst ex3
  cases hf
  exact C.retZ rfl gx3 (by decide +kernel) ⟨rfl, rfl⟩
def f_X11_wish (a0 : Nat) (p1 : Int32) (p2 : Int32) (p3 : Int32) (h : AH) : Option (Int32 × AH) :=
  if isO 11 h a0 = true then
    (gA 11 h a0 1).bind fun a1 =>
    b2 (f_X4_has a1 p1 h) fun x2 h3 =>
    if x2 = 0 then
      f_X11_wish_22 a0 h3
    else
      (gA 11 h3 a0 0).bind fun a4 =>
      b2 (f_X9_at a4 p2 h3) fun q5 h6 =>
      tr q5 (
        f_X11_wish_22 a0 h6) fun a7 =>
      b2 (f_X11_within p3 0 9 h6) fun x8 h9 =>
      if x8 = 0 then
        b2 (f_X11_deny a0 2 h9) fun x15 h16 =>
        (ckZ x15).bind fun x17 =>
        some (x17, h16)
      else
        (gA 11 h9 a0 1).bind fun a10 =>
        (f_X4_setWish a10 p1 p2 p3 h9).bind fun h11 =>
        b2 (f_X11_grant a0 h11) fun x12 h13 =>
        (ckZ x12).bind fun x14 =>
        some (x14, h13)
  else none
set_option maxRecDepth 100000 in
set_option maxHeartbeats 4000000 in
theorem w_X11_wish {l : Launch} {G : GX} {a0 : Nat} {p1 : Int32} {p2 : Int32} {p3 : Int32} {h : AH} {rr : Int32} {hr : AH} (hf : f_X11_wish a0 p1 p2 p3 h = some (rr, hr)) : Ct l G yX11_wish 3 66 [.ref a0, .int p1, .int p2, .int p3] h (QI rr hr) := by
  unfold f_X11_wish at hf
  obtain ⟨ho, hf⟩ := ifO hf
  refine Ct_of (own := RX11) (cc := cX11_wish) (nL := 4) (ret := (some .boolean)) rfl rfl k_1258 (Nat.le_of_ble_eq_true rfl) (fun X C2 C => ?_)
  show V X G h (QI rr hr) 0 [(0, .ref a0), (1, .int p1), (2, .int p2), (3, .int p3)] [] h
  refine C.seg (pe := 1) (lv' := [(0, .ref a0), (1, .int p1), (2, .int p2), (3, .int p3)]) (st' := [.ref a0]) [(.aload_n 0, 1, 0)] (by decide +kernel) rfl ?_
  obtain ⟨a1, ga1, hf⟩ := Option.bind_eq_some_iff.mp hf
  refine C.rdA fr_561 ga1 (by decide +kernel) rfl ?_
  refine C.seg (pe := 5) (lv' := [(0, .ref a0), (1, .int p1), (2, .int p2), (3, .int p3)]) (st' := [.int p1, .ref a1]) [(.iload_n 1, 1, 0)] (by decide +kernel) rfl ?_
  obtain ⟨x2, h3, gx2, hf⟩ := b2_some hf
  refine C.callVr C2 [.int p1] [] mv_1259 rfl (o_X4_has gx2) (w_X4_has gx2) (by omega) (by omega) (Nat.le_of_ble_eq_true rfl) (by decide +kernel) rfl ?_
  refine C.if_eq (off := 14) (tgt := 22) (pf := 11) (by decide +kernel) (by decide) rfl (fun c19 => ?_) (fun c19 => ?_)
  · replace hf := ifp c19 hf
    refine Vsub [0] rfl ?_
    exact l_X11_wish_22 C C2 a0 h3 hf
  · replace hf := ifn c19 hf
    refine C.seg (pe := 12) (lv' := [(0, .ref a0), (1, .int p1), (2, .int p2), (3, .int p3)]) (st' := [.ref a0]) [(.aload_n 0, 1, 0)] (by decide +kernel) rfl ?_
    obtain ⟨a4, ga4, hf⟩ := Option.bind_eq_some_iff.mp hf
    refine C.rdA fr_560 ga4 (by decide +kernel) rfl ?_
    refine C.seg (pe := 16) (lv' := [(0, .ref a0), (1, .int p1), (2, .int p2), (3, .int p3)]) (st' := [.int p2, .ref a4]) [(.iload_n 2, 1, 0)] (by decide +kernel) rfl ?_
    obtain ⟨q5, h6, gq5, hf⟩ := b2_some hf
    cases q5 with
    | none =>
      replace hf := tr_none hf
      refine C.callVr C2 [.int p2] [] mv_720 rfl (o_X9_at gq5) (w_X9_at gq5) (by omega) (by omega) (Nat.le_of_ble_eq_true rfl) (by decide +kernel) rfl ?_
      refine C.nonnullN (off := 9) (pf := 22) (by decide +kernel) rfl ?_
      refine Vsub [0] rfl ?_
      exact l_X11_wish_22 C C2 a0 h6 hf
    | some a7 =>
      replace hf := tr_some hf
      refine C.callVr C2 [.int p2] [] mv_720 rfl (o_X9_at gq5) (w_X9_at gq5) (by omega) (by omega) (Nat.le_of_ble_eq_true rfl) (by decide +kernel) rfl ?_
      refine C.nonnullR (off := 9) (tgt := 28) (by decide +kernel) (by decide) ?_
      refine C.seg (pe := 32) (lv' := [(0, .ref a0), (1, .int p1), (2, .int p2), (3, .int p3)]) (st' := [.int 9, .int 0, .int p3]) [(.iload_n 3, 1, 0), (.iconst 0, 1, 0), (.bipush 9, 2, 9)] (by decide +kernel) rfl ?_
      obtain ⟨x8, h9, gx8, hf⟩ := b2_some hf
      refine C.callSr C2 [.int p3, .int 0, .int 9] [] ms_622 rfl (w_X11_within gx8) (by omega) (by omega) (Nat.le_of_ble_eq_true rfl) (by decide +kernel) rfl ?_
      refine C.if_ne (off := 9) (tgt := 44) (pf := 38) (by decide +kernel) (by decide) rfl (fun c18 => ?_) (fun c18 => ?_)
      · replace hf := ifn c18 hf
        refine C.seg (pe := 45) (lv' := [(0, .ref a0), (1, .int p1), (2, .int p2), (3, .int p3)]) (st' := [.ref a0]) [(.aload_n 0, 1, 0)] (by decide +kernel) rfl ?_
        obtain ⟨a10, ga10, hf⟩ := Option.bind_eq_some_iff.mp hf
        refine C.rdA fr_561 ga10 (by decide +kernel) rfl ?_
        refine C.seg (pe := 51) (lv' := [(0, .ref a0), (1, .int p1), (2, .int p2), (3, .int p3)]) (st' := [.int p3, .int p2, .int p1, .ref a10]) [(.iload_n 1, 1, 0), (.iload_n 2, 1, 0), (.iload_n 3, 1, 0)] (by decide +kernel) rfl ?_
        obtain ⟨h11, gh11, hf⟩ := Option.bind_eq_some_iff.mp hf
        refine C.callVr C2 [.int p1, .int p2, .int p3] [] mv_1263 rfl (o_X4_setWish gh11) (w_X4_setWish gh11) (by omega) (by omega) (Nat.le_of_ble_eq_true rfl) (by decide +kernel) rfl ?_
        refine C.seg (pe := 55) (lv' := [(0, .ref a0), (1, .int p1), (2, .int p2), (3, .int p3)]) (st' := [.ref a0]) [(.aload_n 0, 1, 0)] (by decide +kernel) rfl ?_
        obtain ⟨x12, h13, gx12, hf⟩ := b2_some hf
        refine C.callVr C2 [] [] mv_769 rfl (o_X11_grant gx12) (w_X11_grant gx12) (by omega) (by omega) (Nat.le_of_ble_eq_true rfl) (by decide +kernel) rfl ?_
        obtain ⟨x14, gx14, hf⟩ := Option.bind_eq_some_iff.mp hf
        have ex14 := ckZ_eq gx14
        subst ex14
        cases hf
        exact C.retZ rfl gx14 (by decide +kernel) ⟨rfl, rfl⟩
      · replace hf := ifp c18 hf
        refine C.seg (pe := 40) (lv' := [(0, .ref a0), (1, .int p1), (2, .int p2), (3, .int p3)]) (st' := [.int 2, .ref a0]) [(.aload_n 0, 1, 0), (.iconst 2, 1, 2)] (by decide +kernel) rfl ?_
        obtain ⟨x15, h16, gx15, hf⟩ := b2_some hf
        refine C.callVr C2 [.int 2] [] mv_761 rfl (o_X11_deny gx15) (w_X11_deny gx15) (by omega) (by omega) (Nat.le_of_ble_eq_true rfl) (by decide +kernel) rfl ?_
        obtain ⟨x17, gx17, hf⟩ := Option.bind_eq_some_iff.mp hf
        have ex17 := ckZ_eq gx17
        subst ex17
        cases hf
        exact C.retZ rfl gx17 (by decide +kernel) ⟨rfl, rfl⟩
theorem o_X11_wish {a0 : Nat} {p1 : Int32} {p2 : Int32} {p3 : Int32} {h : AH} {rr : Int32} {hr : AH} (hf : f_X11_wish a0 p1 p2 p3 h = some (rr, hr)) : isO 11 h a0 = true := by
  unfold f_X11_wish at hf
  exact (ifO hf).1
/-! WallHouse.vote(IIII)Z -/
def f_X11_vote_48 (r0 : Nat) (h : AH) : Option (Int32 × AH) :=
  b2 (f_X11_deny r0 2 h) fun x1 h2 =>
  (ckZ x1).bind fun x3 =>
  some (x3, h2)
set_option maxRecDepth 100000 in
set_option maxHeartbeats 4000000 in
theorem l_X11_vote_48 {X : MX} {l : Launch} {G : GX} {h0 : AH} {rr : Int32} {hr : AH} (C : Cx X G RX11 cX11_vote 5 (some .boolean) 3 70 h0) (C2 : Cy X l "vote" []) (r0 : Nat) (h : AH) (hf : f_X11_vote_48 r0 h = some (rr, hr)) : V X G h0 (QI rr hr) 48 [(0, .ref r0)] [] h := by
  unfold f_X11_vote_48 at hf
  refine C.seg (pe := 50) (lv' := [(0, .ref r0)]) (st' := [.int 2, .ref r0]) [(.aload_n 0, 1, 0), (.iconst 2, 1, 2)] (by decide +kernel) rfl ?_
  obtain ⟨x1, h2, gx1, hf⟩ := b2_some hf
  refine C.callVr C2 [.int 2] [] mv_761 rfl (o_X11_deny gx1) (w_X11_deny gx1) (by omega) (by omega) (Nat.le_of_ble_eq_true rfl) (by decide +kernel) rfl ?_
  obtain ⟨x3, gx3, hf⟩ := Option.bind_eq_some_iff.mp hf
  have ex3 := ckZ_eq gx3
  subst ex3
  cases hf
  exact C.retZ rfl gx3 (by decide +kernel) ⟨rfl, rfl⟩
def f_X11_vote_22 (r0 : Nat) (h : AH) : Option (Int32 × AH) :=
  b2 (f_X11_deny r0 1 h) fun x1 h2 =>
  (ckZ x1).bind fun x3 =>
  some (x3, h2)
set_option maxRecDepth 100000 in
set_option maxHeartbeats 4000000 in
theorem l_X11_vote_22 {X : MX} {l : Launch} {G : GX} {h0 : AH} {rr : Int32} {hr : AH} (C : Cx X G RX11 cX11_vote 5 (some .boolean) 3 70 h0) (C2 : Cy X l "vote" []) (r0 : Nat) (h : AH) (hf : f_X11_vote_22 r0 h = some (rr, hr)) : V X G h0 (QI rr hr) 22 [(0, .ref r0)] [] h := by
  unfold f_X11_vote_22 at hf
  refine C.seg (pe := 24) (lv' := [(0, .ref r0)]) (st' := [.int 1, .ref r0]) [(.aload_n 0, 1, 0), (.iconst 1, 1, 1)] (by decide +kernel) rfl ?_
  obtain ⟨x1, h2, gx1, hf⟩ := b2_some hf
  refine C.callVr C2 [.int 1] [] mv_761 rfl (o_X11_deny gx1) (w_X11_deny gx1) (by omega) (by omega) (Nat.le_of_ble_eq_true rfl) (by decide +kernel) rfl ?_
  obtain ⟨x3, gx3, hf⟩ := Option.bind_eq_some_iff.mp hf
  have ex3 := ckZ_eq gx3
  subst ex3
  cases hf
  exact C.retZ rfl gx3 (by decide +kernel) ⟨rfl, rfl⟩
def f_X11_vote (a0 : Nat) (p1 : Int32) (p2 : Int32) (p3 : Int32) (p4 : Int32) (h : AH) : Option (Int32 × AH) :=
  if isO 11 h a0 = true then
    (gA 11 h a0 1).bind fun a1 =>
    b2 (f_X4_has a1 p2 h) fun x2 h3 =>
    if x2 = 0 then
      f_X11_vote_22 a0 h3
    else
      (gA 11 h3 a0 0).bind fun a4 =>
      b2 (f_X9_at a4 p3 h3) fun q5 h6 =>
      tr q5 (
        f_X11_vote_22 a0 h6) fun a7 =>
      b2 (f_X11_within p1 0 99 h6) fun x8 h9 =>
      if x8 = 0 then
        f_X11_vote_48 a0 h9
      else
        b2 (f_X11_within p4 0 5 h9) fun x10 h11 =>
        if x10 = 0 then
          f_X11_vote_48 a0 h11
        else
          (gA 11 h11 a0 1).bind fun a12 =>
          b2 (f_X4_isKin a12 p2 p1 h11) fun x13 h14 =>
          if x13 = 0 then
            (gA 11 h14 a0 1).bind fun a15 =>
            b2 (f_X4_takeVote a15 p1 p2 p3 p4 h14) fun x16 h17 =>
            if x16 = 0 then
              b2 (f_X11_deny a0 3 h17) fun x21 h22 =>
              (ckZ x21).bind fun x23 =>
              some (x23, h22)
            else
              b2 (f_X11_grant a0 h17) fun x18 h19 =>
              (ckZ x18).bind fun x20 =>
              some (x20, h19)
          else
            b2 (f_X11_deny a0 5 h14) fun x25 h26 =>
            (ckZ x25).bind fun x27 =>
            some (x27, h26)
  else none
set_option maxRecDepth 100000 in
set_option maxHeartbeats 4000000 in
theorem w_X11_vote {l : Launch} {G : GX} {a0 : Nat} {p1 : Int32} {p2 : Int32} {p3 : Int32} {p4 : Int32} {h : AH} {rr : Int32} {hr : AH} (hf : f_X11_vote a0 p1 p2 p3 p4 h = some (rr, hr)) : Ct l G yX11_vote 3 70 [.ref a0, .int p1, .int p2, .int p3, .int p4] h (QI rr hr) := by
  unfold f_X11_vote at hf
  obtain ⟨ho, hf⟩ := ifO hf
  refine Ct_of (own := RX11) (cc := cX11_vote) (nL := 5) (ret := (some .boolean)) rfl rfl k_1278 (Nat.le_of_ble_eq_true rfl) (fun X C2 C => ?_)
  show V X G h (QI rr hr) 0 [(0, .ref a0), (1, .int p1), (2, .int p2), (3, .int p3), (4, .int p4)] [] h
  refine C.seg (pe := 1) (lv' := [(0, .ref a0), (1, .int p1), (2, .int p2), (3, .int p3), (4, .int p4)]) (st' := [.ref a0]) [(.aload_n 0, 1, 0)] (by decide +kernel) rfl ?_
  obtain ⟨a1, ga1, hf⟩ := Option.bind_eq_some_iff.mp hf
  refine C.rdA fr_561 ga1 (by decide +kernel) rfl ?_
  refine C.seg (pe := 5) (lv' := [(0, .ref a0), (1, .int p1), (2, .int p2), (3, .int p3), (4, .int p4)]) (st' := [.int p2, .ref a1]) [(.iload_n 2, 1, 0)] (by decide +kernel) rfl ?_
  obtain ⟨x2, h3, gx2, hf⟩ := b2_some hf
  refine C.callVr C2 [.int p2] [] mv_1259 rfl (o_X4_has gx2) (w_X4_has gx2) (by omega) (by omega) (Nat.le_of_ble_eq_true rfl) (by decide +kernel) rfl ?_
  refine C.if_eq (off := 14) (tgt := 22) (pf := 11) (by decide +kernel) (by decide) rfl (fun c31 => ?_) (fun c31 => ?_)
  · replace hf := ifp c31 hf
    refine Vsub [0] rfl ?_
    exact l_X11_vote_22 C C2 a0 h3 hf
  · replace hf := ifn c31 hf
    refine C.seg (pe := 12) (lv' := [(0, .ref a0), (1, .int p1), (2, .int p2), (3, .int p3), (4, .int p4)]) (st' := [.ref a0]) [(.aload_n 0, 1, 0)] (by decide +kernel) rfl ?_
    obtain ⟨a4, ga4, hf⟩ := Option.bind_eq_some_iff.mp hf
    refine C.rdA fr_560 ga4 (by decide +kernel) rfl ?_
    refine C.seg (pe := 16) (lv' := [(0, .ref a0), (1, .int p1), (2, .int p2), (3, .int p3), (4, .int p4)]) (st' := [.int p3, .ref a4]) [(.iload_n 3, 1, 0)] (by decide +kernel) rfl ?_
    obtain ⟨q5, h6, gq5, hf⟩ := b2_some hf
    cases q5 with
    | none =>
      replace hf := tr_none hf
      refine C.callVr C2 [.int p3] [] mv_720 rfl (o_X9_at gq5) (w_X9_at gq5) (by omega) (by omega) (Nat.le_of_ble_eq_true rfl) (by decide +kernel) rfl ?_
      refine C.nonnullN (off := 9) (pf := 22) (by decide +kernel) rfl ?_
      refine Vsub [0] rfl ?_
      exact l_X11_vote_22 C C2 a0 h6 hf
    | some a7 =>
      replace hf := tr_some hf
      refine C.callVr C2 [.int p3] [] mv_720 rfl (o_X9_at gq5) (w_X9_at gq5) (by omega) (by omega) (Nat.le_of_ble_eq_true rfl) (by decide +kernel) rfl ?_
      refine C.nonnullR (off := 9) (tgt := 28) (by decide +kernel) (by decide) ?_
      refine C.seg (pe := 32) (lv' := [(0, .ref a0), (1, .int p1), (2, .int p2), (3, .int p3), (4, .int p4)]) (st' := [.int 99, .int 0, .int p1]) [(.iload_n 1, 1, 0), (.iconst 0, 1, 0), (.bipush 99, 2, 99)] (by decide +kernel) rfl ?_
      obtain ⟨x8, h9, gx8, hf⟩ := b2_some hf
      refine C.callSr C2 [.int p1, .int 0, .int 99] [] ms_622 rfl (w_X11_within gx8) (by omega) (by omega) (Nat.le_of_ble_eq_true rfl) (by decide +kernel) rfl ?_
      refine C.if_eq (off := 13) (tgt := 48) (pf := 38) (by decide +kernel) (by decide) rfl (fun c30 => ?_) (fun c30 => ?_)
      · replace hf := ifp c30 hf
        refine Vsub [0] rfl ?_
        exact l_X11_vote_48 C C2 a0 h9 hf
      · replace hf := ifn c30 hf
        refine C.seg (pe := 42) (lv' := [(0, .ref a0), (1, .int p1), (2, .int p2), (3, .int p3), (4, .int p4)]) (st' := [.int 5, .int 0, .int p4]) [(.iload 4, 2, 0), (.iconst 0, 1, 0), (.iconst 5, 1, 5)] (by decide +kernel) rfl ?_
        obtain ⟨x10, h11, gx10, hf⟩ := b2_some hf
        refine C.callSr C2 [.int p4, .int 0, .int 5] [] ms_622 rfl (w_X11_within gx10) (by omega) (by omega) (Nat.le_of_ble_eq_true rfl) (by decide +kernel) rfl ?_
        refine C.if_ne (off := 9) (tgt := 54) (pf := 48) (by decide +kernel) (by decide) rfl (fun c29 => ?_) (fun c29 => ?_)
        · replace hf := ifn c29 hf
          refine C.seg (pe := 55) (lv' := [(0, .ref a0), (1, .int p1), (2, .int p2), (3, .int p3), (4, .int p4)]) (st' := [.ref a0]) [(.aload_n 0, 1, 0)] (by decide +kernel) rfl ?_
          obtain ⟨a12, ga12, hf⟩ := Option.bind_eq_some_iff.mp hf
          refine C.rdA fr_561 ga12 (by decide +kernel) rfl ?_
          refine C.seg (pe := 60) (lv' := [(0, .ref a0), (1, .int p1), (2, .int p2), (3, .int p3), (4, .int p4)]) (st' := [.int p1, .int p2, .ref a12]) [(.iload_n 2, 1, 0), (.iload_n 1, 1, 0)] (by decide +kernel) rfl ?_
          obtain ⟨x13, h14, gx13, hf⟩ := b2_some hf
          refine C.callVr C2 [.int p2, .int p1] [] mv_1279 rfl (o_X4_isKin gx13) (w_X4_isKin gx13) (by omega) (by omega) (Nat.le_of_ble_eq_true rfl) (by decide +kernel) rfl ?_
          refine C.if_eq (off := 9) (tgt := 72) (pf := 66) (by decide +kernel) (by decide) rfl (fun c28 => ?_) (fun c28 => ?_)
          · replace hf := ifp c28 hf
            refine C.seg (pe := 73) (lv' := [(0, .ref a0), (1, .int p1), (2, .int p2), (3, .int p3), (4, .int p4)]) (st' := [.ref a0]) [(.aload_n 0, 1, 0)] (by decide +kernel) rfl ?_
            obtain ⟨a15, ga15, hf⟩ := Option.bind_eq_some_iff.mp hf
            refine C.rdA fr_561 ga15 (by decide +kernel) rfl ?_
            refine C.seg (pe := 81) (lv' := [(0, .ref a0), (1, .int p1), (2, .int p2), (3, .int p3), (4, .int p4)]) (st' := [.int p4, .int p3, .int p2, .int p1, .ref a15]) [(.iload_n 1, 1, 0), (.iload_n 2, 1, 0), (.iload_n 3, 1, 0), (.iload 4, 2, 0)] (by decide +kernel) rfl ?_
            obtain ⟨x16, h17, gx16, hf⟩ := b2_some hf
            refine C.callVr C2 [.int p1, .int p2, .int p3, .int p4] [] mv_1283 rfl (o_X4_takeVote gx16) (w_X4_takeVote gx16) (by omega) (by omega) (Nat.le_of_ble_eq_true rfl) (by decide +kernel) rfl ?_
            refine C.if_ne (off := 9) (tgt := 93) (pf := 87) (by decide +kernel) (by decide) rfl (fun c24 => ?_) (fun c24 => ?_)
            · replace hf := ifn c24 hf
              refine C.seg (pe := 94) (lv' := [(0, .ref a0), (1, .int p1), (2, .int p2), (3, .int p3), (4, .int p4)]) (st' := [.ref a0]) [(.aload_n 0, 1, 0)] (by decide +kernel) rfl ?_
              obtain ⟨x18, h19, gx18, hf⟩ := b2_some hf
              refine C.callVr C2 [] [] mv_769 rfl (o_X11_grant gx18) (w_X11_grant gx18) (by omega) (by omega) (Nat.le_of_ble_eq_true rfl) (by decide +kernel) rfl ?_
              obtain ⟨x20, gx20, hf⟩ := Option.bind_eq_some_iff.mp hf
              have ex20 := ckZ_eq gx20
              subst ex20
              cases hf
              exact C.retZ rfl gx20 (by decide +kernel) ⟨rfl, rfl⟩
            · replace hf := ifp c24 hf
              refine C.seg (pe := 89) (lv' := [(0, .ref a0), (1, .int p1), (2, .int p2), (3, .int p3), (4, .int p4)]) (st' := [.int 3, .ref a0]) [(.aload_n 0, 1, 0), (.iconst 3, 1, 3)] (by decide +kernel) rfl ?_
              obtain ⟨x21, h22, gx21, hf⟩ := b2_some hf
              refine C.callVr C2 [.int 3] [] mv_761 rfl (o_X11_deny gx21) (w_X11_deny gx21) (by omega) (by omega) (Nat.le_of_ble_eq_true rfl) (by decide +kernel) rfl ?_
              obtain ⟨x23, gx23, hf⟩ := Option.bind_eq_some_iff.mp hf
              have ex23 := ckZ_eq gx23
              subst ex23
              cases hf
              exact C.retZ rfl gx23 (by decide +kernel) ⟨rfl, rfl⟩
          · replace hf := ifn c28 hf
            refine C.seg (pe := 68) (lv' := [(0, .ref a0), (1, .int p1), (2, .int p2), (3, .int p3), (4, .int p4)]) (st' := [.int 5, .ref a0]) [(.aload_n 0, 1, 0), (.iconst 5, 1, 5)] (by decide +kernel) rfl ?_
            obtain ⟨x25, h26, gx25, hf⟩ := b2_some hf
            refine C.callVr C2 [.int 5] [] mv_761 rfl (o_X11_deny gx25) (w_X11_deny gx25) (by omega) (by omega) (Nat.le_of_ble_eq_true rfl) (by decide +kernel) rfl ?_
            obtain ⟨x27, gx27, hf⟩ := Option.bind_eq_some_iff.mp hf
            have ex27 := ckZ_eq gx27
            subst ex27
            cases hf
            exact C.retZ rfl gx27 (by decide +kernel) ⟨rfl, rfl⟩
        · replace hf := ifp c29 hf
          refine Vsub [0] rfl ?_
          exact l_X11_vote_48 C C2 a0 h11 hf
theorem o_X11_vote {a0 : Nat} {p1 : Int32} {p2 : Int32} {p3 : Int32} {p4 : Int32} {h : AH} {rr : Int32} {hr : AH} (hf : f_X11_vote a0 p1 p2 p3 p4 h = some (rr, hr)) : isO 11 h a0 = true := by
  unfold f_X11_vote at hf
  exact (ifO hf).1
