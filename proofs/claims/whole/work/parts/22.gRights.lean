/-! WallHouse$Rights.<init>(LWallHouse$Tokens;)V -/
def f_X5_init (a0 : Nat) (p1 : Nat) (h : AH) : Option (AH) :=
  b2 (nwA 0 9 h) fun a1 h2 =>
  (pQ 5 h2 a0 2 (some a1)).bind fun h3 =>
  b2 (nwA 0 72 h3) fun a4 h5 =>
  (pQ 5 h5 a0 3 (some a4)).bind fun h6 =>
  b2 (nwA 0 72 h6) fun a7 h8 =>
  (pQ 5 h8 a0 4 (some a7)).bind fun h9 =>
  (pQ 5 h9 a0 0 (some p1)).bind fun h10 =>
  some h10
set_option maxRecDepth 100000 in
set_option maxHeartbeats 4000000 in
theorem w_X5_init {l : Launch} {G : GX} {a0 : Nat} {p1 : Nat} {h : AH} {hr : AH} (hf : f_X5_init a0 p1 h = some hr) : Ct l G yX5_init 1 20 [.ref a0, .ref p1] h (QV hr) := by
  unfold f_X5_init at hf
  refine Ct_of (own := RX5) (cc := cX5_init) (nL := 2) (ret := none) rfl rfl k_475 (Nat.le_of_ble_eq_true rfl) (fun X C2 C => ?_)
  show V X G h (QV hr) 0 [(0, .ref a0), (1, .ref p1)] [] h
  refine C.seg (pe := 1) (lv' := [(0, .ref a0), (1, .ref p1)]) (st' := [.ref a0]) [(.aload_n 0, 1, 0)] (by decide +kernel) rfl ?_
  refine C.objInit k_476 k_151 k_152 (by omega) (by omega) (Nat.le_of_ble_eq_true rfl) (by decide +kernel) rfl ?_
  refine C.seg (pe := 7) (lv' := [(0, .ref a0), (1, .ref p1)]) (st' := [.int 9, .ref a0]) [(.aload_n 0, 1, 0), (.bipush 9, 2, 9)] (by decide +kernel) rfl ?_
  obtain ⟨a1, h2, ga1, hf⟩ := b2_some hf
  refine C.newa0 k_180 ga1 (by decide +kernel) rfl ?_
  obtain ⟨h3, gh3, hf⟩ := Option.bind_eq_some_iff.mp hf
  refine C.putFA C2.2.1 fl_480 (Or.inr ⟨_, rfl⟩) gh3 (by decide +kernel) rfl ?_
  refine C.seg (pe := 15) (lv' := [(0, .ref a0), (1, .ref p1)]) (st' := [.int 72, .ref a0]) [(.aload_n 0, 1, 0), (.bipush 72, 2, 72)] (by decide +kernel) rfl ?_
  obtain ⟨a4, h5, ga4, hf⟩ := b2_some hf
  refine C.newa0 k_180 ga4 (by decide +kernel) rfl ?_
  obtain ⟨h6, gh6, hf⟩ := Option.bind_eq_some_iff.mp hf
  refine C.putFA C2.2.1 fl_481 (Or.inr ⟨_, rfl⟩) gh6 (by decide +kernel) rfl ?_
  refine C.seg (pe := 23) (lv' := [(0, .ref a0), (1, .ref p1)]) (st' := [.int 72, .ref a0]) [(.aload_n 0, 1, 0), (.bipush 72, 2, 72)] (by decide +kernel) rfl ?_
  obtain ⟨a7, h8, ga7, hf⟩ := b2_some hf
  refine C.newa0 k_180 ga7 (by decide +kernel) rfl ?_
  obtain ⟨h9, gh9, hf⟩ := Option.bind_eq_some_iff.mp hf
  refine C.putFA C2.2.1 fl_482 (Or.inr ⟨_, rfl⟩) gh9 (by decide +kernel) rfl ?_
  refine C.seg (pe := 30) (lv' := [(0, .ref a0), (1, .ref p1)]) (st' := [.ref p1, .ref a0]) [(.aload_n 0, 1, 0), (.aload_n 1, 1, 0)] (by decide +kernel) rfl ?_
  obtain ⟨h10, gh10, hf⟩ := Option.bind_eq_some_iff.mp hf
  refine C.putFA C2.2.1 fl_477 (Or.inl ⟨_, rfl⟩) gh10 (by decide +kernel) rfl ?_
  cases hf
  exact C.retV rfl (by decide +kernel) ⟨rfl, rfl⟩
/-! WallHouse$Rights.addLine(II)V -/
def f_X5_addLine_58 (h : AH) : Option (AH) :=
  some h
set_option maxRecDepth 100000 in
set_option maxHeartbeats 4000000 in
theorem l_X5_addLine_58 {X : MX} {l : Launch} {G : GX} {h0 : AH} {hr : AH} (C : Cx X G RX5 cX5_addLine 4 none 0 0 h0) (C2 : Cy X l "addLine" []) (h : AH) (hf : f_X5_addLine_58 h = some hr) : V X G h0 (QV hr) 58 [] [] h := by
  unfold f_X5_addLine_58 at hf
  cases hf
  exact C.retV rfl (by decide +kernel) ⟨rfl, rfl⟩
def f_X5_addLine (a0 : Nat) (p1 : Int32) (p2 : Int32) (h : AH) : Option (AH) :=
  if isO 5 h a0 = true then
    (gI 5 h a0 1).bind fun x1 =>
    (gA 5 h a0 2).bind fun a2 =>
    (gI 5 h a0 1).bind fun x3 =>
    (aI 0 h a2 x3).bind fun x4 =>
    if (x1 * 8) + x4 < 0 then
      f_X5_addLine_58 h
    else
      (gA 5 h a0 3).bind fun a5 =>
      (aN h a5).bind fun x6 =>
      if x6 ≤ (x1 * 8) + x4 then
        f_X5_addLine_58 h
      else
        (gA 5 h a0 3).bind fun a7 =>
        (sI 0 h a7 ((x1 * 8) + x4) p1).bind fun h8 =>
        (gA 5 h8 a0 4).bind fun a9 =>
        (sI 0 h8 a9 ((x1 * 8) + x4) p2).bind fun h10 =>
        (gA 5 h10 a0 2).bind fun a11 =>
        (gI 5 h10 a0 1).bind fun x12 =>
        (aI 0 h10 a11 x12).bind fun x13 =>
        (sI 0 h10 a11 x12 (x13 + 1)).bind fun h14 =>
        f_X5_addLine_58 h14
  else none
set_option maxRecDepth 100000 in
set_option maxHeartbeats 4000000 in
theorem w_X5_addLine {l : Launch} {G : GX} {a0 : Nat} {p1 : Int32} {p2 : Int32} {h : AH} {hr : AH} (hf : f_X5_addLine a0 p1 p2 h = some hr) : Ct l G yX5_addLine 0 0 [.ref a0, .int p1, .int p2] h (QV hr) := by
  unfold f_X5_addLine at hf
  obtain ⟨ho, hf⟩ := ifO hf
  refine Ct_of (own := RX5) (cc := cX5_addLine) (nL := 4) (ret := none) rfl rfl k_1123 (Nat.le_of_ble_eq_true rfl) (fun X C2 C => ?_)
  show V X G h (QV hr) 0 [(0, .ref a0), (1, .int p1), (2, .int p2)] [] h
  refine C.seg (pe := 1) (lv' := [(0, .ref a0), (1, .int p1), (2, .int p2)]) (st' := [.ref a0]) [(.aload_n 0, 1, 0)] (by decide +kernel) rfl ?_
  obtain ⟨x1, gx1, hf⟩ := Option.bind_eq_some_iff.mp hf
  refine C.rdI fr_478 gx1 (by decide +kernel) rfl ?_
  refine C.seg (pe := 8) (lv' := [(0, .ref a0), (1, .int p1), (2, .int p2)]) (st' := [.ref a0, .int (x1 * 8)]) [(.bipush 8, 2, 8), (.imul, 1, 0), (.aload_n 0, 1, 0)] (by decide +kernel) rfl ?_
  obtain ⟨a2, ga2, hf⟩ := Option.bind_eq_some_iff.mp hf
  refine C.rdA fr_480 ga2 (by decide +kernel) rfl ?_
  refine C.seg (pe := 12) (lv' := [(0, .ref a0), (1, .int p1), (2, .int p2)]) (st' := [.ref a0, .ref a2, .int (x1 * 8)]) [(.aload_n 0, 1, 0)] (by decide +kernel) rfl ?_
  obtain ⟨x3, gx3, hf⟩ := Option.bind_eq_some_iff.mp hf
  refine C.rdI fr_478 gx3 (by decide +kernel) rfl ?_
  obtain ⟨x4, gx4, hf⟩ := Option.bind_eq_some_iff.mp hf
  refine C.ald 0 rfl gx4 (by decide +kernel) rfl ?_
  refine C.seg (pe := 19) (lv' := [(3, .int ((x1 * 8) + x4)), (0, .ref a0), (1, .int p1), (2, .int p2)]) (st' := [.int ((x1 * 8) + x4)]) [(.iadd, 1, 0), (.istore_n 3, 1, 0), (.iload_n 3, 1, 0)] (by decide +kernel) rfl ?_
  refine C.if_lt (off := 39) (tgt := 58) (pf := 22) (by decide +kernel) (by decide) rfl (fun c16 => ?_) (fun c16 => ?_)
  · replace hf := ifp c16 hf
    refine Vsub [] rfl ?_
    exact l_X5_addLine_58 C C2 h hf
  · replace hf := ifn c16 hf
    refine C.seg (pe := 24) (lv' := [(3, .int ((x1 * 8) + x4)), (0, .ref a0), (1, .int p1), (2, .int p2)]) (st' := [.ref a0, .int ((x1 * 8) + x4)]) [(.iload_n 3, 1, 0), (.aload_n 0, 1, 0)] (by decide +kernel) rfl ?_
    obtain ⟨a5, ga5, hf⟩ := Option.bind_eq_some_iff.mp hf
    refine C.rdA fr_481 ga5 (by decide +kernel) rfl ?_
    obtain ⟨x6, gx6, hf⟩ := Option.bind_eq_some_iff.mp hf
    refine C.alen gx6 (by decide +kernel) rfl ?_
    refine C.icmp_ge (off := 30) (tgt := 58) (pf := 31) (by decide +kernel) (by decide) rfl (fun c15 => ?_) (fun c15 => ?_)
    · replace hf := ifp c15 hf
      refine Vsub [] rfl ?_
      exact l_X5_addLine_58 C C2 h hf
    · replace hf := ifn c15 hf
      refine C.seg (pe := 32) (lv' := [(3, .int ((x1 * 8) + x4)), (0, .ref a0), (1, .int p1), (2, .int p2)]) (st' := [.ref a0]) [(.aload_n 0, 1, 0)] (by decide +kernel) rfl ?_
      obtain ⟨a7, ga7, hf⟩ := Option.bind_eq_some_iff.mp hf
      refine C.rdA fr_481 ga7 (by decide +kernel) rfl ?_
      refine C.seg (pe := 37) (lv' := [(3, .int ((x1 * 8) + x4)), (0, .ref a0), (1, .int p1), (2, .int p2)]) (st' := [.int p1, .int ((x1 * 8) + x4), .ref a7]) [(.iload_n 3, 1, 0), (.iload_n 1, 1, 0)] (by decide +kernel) rfl ?_
      obtain ⟨h8, gh8, hf⟩ := Option.bind_eq_some_iff.mp hf
      refine C.ast gh8 (by decide +kernel) rfl ?_
      refine C.seg (pe := 39) (lv' := [(3, .int ((x1 * 8) + x4)), (0, .ref a0), (1, .int p1), (2, .int p2)]) (st' := [.ref a0]) [(.aload_n 0, 1, 0)] (by decide +kernel) rfl ?_
      obtain ⟨a9, ga9, hf⟩ := Option.bind_eq_some_iff.mp hf
      refine C.rdA fr_482 ga9 (by decide +kernel) rfl ?_
      refine C.seg (pe := 44) (lv' := [(3, .int ((x1 * 8) + x4)), (0, .ref a0), (1, .int p1), (2, .int p2)]) (st' := [.int p2, .int ((x1 * 8) + x4), .ref a9]) [(.iload_n 3, 1, 0), (.iload_n 2, 1, 0)] (by decide +kernel) rfl ?_
      obtain ⟨h10, gh10, hf⟩ := Option.bind_eq_some_iff.mp hf
      refine C.ast gh10 (by decide +kernel) rfl ?_
      refine C.seg (pe := 46) (lv' := [(3, .int ((x1 * 8) + x4)), (0, .ref a0), (1, .int p1), (2, .int p2)]) (st' := [.ref a0]) [(.aload_n 0, 1, 0)] (by decide +kernel) rfl ?_
      obtain ⟨a11, ga11, hf⟩ := Option.bind_eq_some_iff.mp hf
      refine C.rdA fr_480 ga11 (by decide +kernel) rfl ?_
      refine C.seg (pe := 50) (lv' := [(3, .int ((x1 * 8) + x4)), (0, .ref a0), (1, .int p1), (2, .int p2)]) (st' := [.ref a0, .ref a11]) [(.aload_n 0, 1, 0)] (by decide +kernel) rfl ?_
      obtain ⟨x12, gx12, hf⟩ := Option.bind_eq_some_iff.mp hf
      refine C.rdI fr_478 gx12 (by decide +kernel) rfl ?_
      refine C.seg (pe := 54) (lv' := [(3, .int ((x1 * 8) + x4)), (0, .ref a0), (1, .int p1), (2, .int p2)]) (st' := [.int x12, .ref a11, .int x12, .ref a11]) [(.dup2, 1, 0)] (by decide +kernel) rfl ?_
      obtain ⟨x13, gx13, hf⟩ := Option.bind_eq_some_iff.mp hf
      refine C.ald 0 rfl gx13 (by decide +kernel) rfl ?_
      refine C.seg (pe := 57) (lv' := [(3, .int ((x1 * 8) + x4)), (0, .ref a0), (1, .int p1), (2, .int p2)]) (st' := [.int (x13 + 1), .int x12, .ref a11]) [(.iconst 1, 1, 1), (.iadd, 1, 0)] (by decide +kernel) rfl ?_
      obtain ⟨h14, gh14, hf⟩ := Option.bind_eq_some_iff.mp hf
      refine C.ast gh14 (by decide +kernel) rfl ?_
      refine Vsub [] rfl ?_
      exact l_X5_addLine_58 C C2 h14 hf
theorem o_X5_addLine {a0 : Nat} {p1 : Int32} {p2 : Int32} {h : AH} {hr : AH} (hf : f_X5_addLine a0 p1 p2 h = some hr) : isO 5 h a0 = true := by
  unfold f_X5_addLine at hf
  exact (ifO hf).1
/-! WallHouse$Rights.readLine()Z -/
def f_X5_readLine_46 (r0 : Nat) (h : AH) : Option (Int32 × AH) :=
  (gA 5 h r0 0).bind fun a1 =>
  b2 (f_X7_fail a1 2 h) fun x2 h3 =>
  (ckZ x2).bind fun x4 =>
  some (x4, h3)
set_option maxRecDepth 100000 in
set_option maxHeartbeats 4000000 in
theorem l_X5_readLine_46 {X : MX} {l : Launch} {G : GX} {h0 : AH} {rr : Int32} {hr : AH} (C : Cx X G RX5 cX5_readLine 4 (some .boolean) 2 40 h0) (C2 : Cy X l "readLine" []) (r0 : Nat) (h : AH) (hf : f_X5_readLine_46 r0 h = some (rr, hr)) : V X G h0 (QI rr hr) 46 [(0, .ref r0)] [] h := by
  unfold f_X5_readLine_46 at hf
  refine C.seg (pe := 47) (lv' := [(0, .ref r0)]) (st' := [.ref r0]) [(.aload_n 0, 1, 0)] (by decide +kernel) rfl ?_
  obtain ⟨a1, ga1, hf⟩ := Option.bind_eq_some_iff.mp hf
  refine C.rdA fr_477 ga1 (by decide +kernel) rfl ?_
  refine C.seg (pe := 51) (lv' := [(0, .ref r0)]) (st' := [.int 2, .ref a1]) [(.iconst 2, 1, 2)] (by decide +kernel) rfl ?_
  obtain ⟨x2, h3, gx2, hf⟩ := b2_some hf
  refine C.callVr C2 [.int 2] [] mv_1118 rfl (o_X7_fail gx2) (w_X7_fail gx2) (by omega) (by omega) (Nat.le_of_ble_eq_true rfl) (by decide +kernel) rfl ?_
  obtain ⟨x4, gx4, hf⟩ := Option.bind_eq_some_iff.mp hf
  have ex4 := ckZ_eq gx4
  subst ex4
  cases hf
  exact C.retZ rfl gx4 (by decide +kernel) ⟨rfl, rfl⟩
def f_X5_readLine_25 (r0 : Nat) (h : AH) : Option (Int32 × AH) :=
  (gA 5 h r0 0).bind fun a1 =>
  b2 (f_X7_fail a1 1 h) fun x2 h3 =>
  (ckZ x2).bind fun x4 =>
  some (x4, h3)
set_option maxRecDepth 100000 in
set_option maxHeartbeats 4000000 in
theorem l_X5_readLine_25 {X : MX} {l : Launch} {G : GX} {h0 : AH} {rr : Int32} {hr : AH} (C : Cx X G RX5 cX5_readLine 4 (some .boolean) 2 40 h0) (C2 : Cy X l "readLine" []) (r0 : Nat) (h : AH) (hf : f_X5_readLine_25 r0 h = some (rr, hr)) : V X G h0 (QI rr hr) 25 [(0, .ref r0)] [] h := by
  unfold f_X5_readLine_25 at hf
  refine C.seg (pe := 26) (lv' := [(0, .ref r0)]) (st' := [.ref r0]) [(.aload_n 0, 1, 0)] (by decide +kernel) rfl ?_
  obtain ⟨a1, ga1, hf⟩ := Option.bind_eq_some_iff.mp hf
  refine C.rdA fr_477 ga1 (by decide +kernel) rfl ?_
  refine C.seg (pe := 30) (lv' := [(0, .ref r0)]) (st' := [.int 1, .ref a1]) [(.iconst 1, 1, 1)] (by decide +kernel) rfl ?_
  obtain ⟨x2, h3, gx2, hf⟩ := b2_some hf
  refine C.callVr C2 [.int 1] [] mv_1118 rfl (o_X7_fail gx2) (w_X7_fail gx2) (by omega) (by omega) (Nat.le_of_ble_eq_true rfl) (by decide +kernel) rfl ?_
  obtain ⟨x4, gx4, hf⟩ := Option.bind_eq_some_iff.mp hf
  have ex4 := ckZ_eq gx4
  subst ex4
  cases hf
  exact C.retZ rfl gx4 (by decide +kernel) ⟨rfl, rfl⟩
def f_X5_readLine (a0 : Nat) (h : AH) : Option (Int32 × AH) :=
  if isO 5 h a0 = true then
    (gA 5 h a0 0).bind fun a1 =>
    b2 (f_X7_name a1 h) fun x2 h3 =>
    (gA 5 h3 a0 0).bind fun a4 =>
    b2 (f_X7_kind a4 h3) fun x5 h6 =>
    if x5 = 2 then
      if x2 = 18 then
        f_X5_readLine_25 a0 h6
      else
        if x2 < 14 then
          f_X5_readLine_46 a0 h6
        else
          if x2 ≤ 17 then
            (gA 5 h6 a0 2).bind fun a7 =>
            (gI 5 h6 a0 1).bind fun x8 =>
            (aI 0 h6 a7 x8).bind fun x9 =>
            if x9 < 8 then
              (gA 5 h6 a0 0).bind fun a10 =>
              (f_X7_advance a10 h6).bind fun h11 =>
              (gA 5 h11 a0 0).bind fun a12 =>
              b2 (f_X7_name a12 h11) fun x13 h14 =>
              if x13 = 18 then
                (f_X5_addLine a0 (x2 - 14) (-1) h14).bind fun h47 =>
                (gA 5 h47 a0 0).bind fun a48 =>
                (f_X7_advance a48 h47).bind fun h49 =>
                some (1, h49)
              else
                (gA 5 h14 a0 0).bind fun a15 =>
                b2 (f_X7_kind a15 h14) fun x16 h17 =>
                if x16 = 3 then
                  (gA 5 h17 a0 0).bind fun a18 =>
                  b2 (f_X7_value a18 h17) fun y19 h20 =>
                  (gI 5 h20 a0 5).bind fun x21 =>
                  (pI 5 h20 a0 5 (x21 + y19.toInt32)).bind fun h22 =>
                  (gI 5 h22 a0 5).bind fun x23 =>
                  if x23 ≤ 100 then
                    (gA 5 h22 a0 0).bind fun a24 =>
                    (f_X7_advance a24 h22).bind fun h25 =>
                    (gA 5 h25 a0 0).bind fun a26 =>
                    b2 (f_X7_sign a26 h25) fun x27 h28 =>
                    if x27 = 37 then
                      (gA 5 h28 a0 0).bind fun a29 =>
                      (f_X7_advance a29 h28).bind fun h30 =>
                      (f_X5_addLine a0 (x2 - 14) y19.toInt32 h30).bind fun h31 =>
                      some (1, h31)
                    else
                      (gA 5 h28 a0 0).bind fun a32 =>
                      b2 (f_X7_fail a32 1 h28) fun x33 h34 =>
                      (ckZ x33).bind fun x35 =>
                      some (x35, h34)
                  else
                    (gA 5 h22 a0 0).bind fun a37 =>
                    b2 (f_X7_fail a37 3 h22) fun x38 h39 =>
                    (ckZ x38).bind fun x40 =>
                    some (x40, h39)
                else
                  (gA 5 h17 a0 0).bind fun a42 =>
                  b2 (f_X7_fail a42 1 h17) fun x43 h44 =>
                  (ckZ x43).bind fun x45 =>
                  some (x45, h44)
            else
              (gA 5 h6 a0 0).bind fun a51 =>
              b2 (f_X7_fail a51 4 h6) fun x52 h53 =>
              (ckZ x52).bind fun x54 =>
              some (x54, h53)
          else
            f_X5_readLine_46 a0 h6
    else
      f_X5_readLine_25 a0 h6
  else none
set_option maxRecDepth 100000 in
set_option maxHeartbeats 4000000 in
theorem w_X5_readLine {l : Launch} {G : GX} {a0 : Nat} {h : AH} {rr : Int32} {hr : AH} (hf : f_X5_readLine a0 h = some (rr, hr)) : Ct l G yX5_readLine 2 40 [.ref a0] h (QI rr hr) := by
  unfold f_X5_readLine at hf
  obtain ⟨ho, hf⟩ := ifO hf
  refine Ct_of (own := RX5) (cc := cX5_readLine) (nL := 4) (ret := (some .boolean)) rfl rfl k_1115 (Nat.le_of_ble_eq_true rfl) (fun X C2 C => ?_)
  show V X G h (QI rr hr) 0 [(0, .ref a0)] [] h
  refine C.seg (pe := 1) (lv' := [(0, .ref a0)]) (st' := [.ref a0]) [(.aload_n 0, 1, 0)] (by decide +kernel) rfl ?_
  obtain ⟨a1, ga1, hf⟩ := Option.bind_eq_some_iff.mp hf
  refine C.rdA fr_477 ga1 (by decide +kernel) rfl ?_
  obtain ⟨x2, h3, gx2, hf⟩ := b2_some hf
  refine C.callVr C2 [] [] mv_1116 rfl (o_X7_name gx2) (w_X7_name gx2) (by omega) (by omega) (Nat.le_of_ble_eq_true rfl) (by decide +kernel) rfl ?_
  refine C.seg (pe := 9) (lv' := [(1, .int x2), (0, .ref a0)]) (st' := [.ref a0]) [(.istore_n 1, 1, 0), (.aload_n 0, 1, 0)] (by decide +kernel) rfl ?_
  obtain ⟨a4, ga4, hf⟩ := Option.bind_eq_some_iff.mp hf
  refine C.rdA fr_477 ga4 (by decide +kernel) rfl ?_
  obtain ⟨x5, h6, gx5, hf⟩ := b2_some hf
  refine C.callVr C2 [] [] mv_1117 rfl (o_X7_kind gx5) (w_X7_kind gx5) (by omega) (by omega) (Nat.le_of_ble_eq_true rfl) (by decide +kernel) rfl ?_
  refine C.seg (pe := 16) (lv' := [(1, .int x2), (0, .ref a0)]) (st' := [.int 2, .int x5]) [(.iconst 2, 1, 2)] (by decide +kernel) rfl ?_
  refine C.icmp_ne (off := 9) (tgt := 25) (pf := 19) (by decide +kernel) (by decide) rfl (fun c59 => ?_) (fun c59 => ?_)
  · replace hf := ifn c59 hf
    refine Vsub [1] rfl ?_
    exact l_X5_readLine_25 C C2 a0 h6 hf
  · replace hf := ifp c59 hf
    refine C.seg (pe := 22) (lv' := [(1, .int x2), (0, .ref a0)]) (st' := [.int 18, .int x2]) [(.iload_n 1, 1, 0), (.bipush 18, 2, 18)] (by decide +kernel) rfl ?_
    refine C.icmp_ne (off := 12) (tgt := 34) (pf := 25) (by decide +kernel) (by decide) rfl (fun c58 => ?_) (fun c58 => ?_)
    · replace hf := ifn c58 hf
      refine C.seg (pe := 37) (lv' := [(1, .int x2), (0, .ref a0)]) (st' := [.int 14, .int x2]) [(.iload_n 1, 1, 0), (.bipush 14, 2, 14)] (by decide +kernel) rfl ?_
      refine C.icmp_lt (off := 9) (tgt := 46) (pf := 40) (by decide +kernel) (by decide) rfl (fun c57 => ?_) (fun c57 => ?_)
      · replace hf := ifp c57 hf
        refine Vsub [1] rfl ?_
        exact l_X5_readLine_46 C C2 a0 h6 hf
      · replace hf := ifn c57 hf
        refine C.seg (pe := 43) (lv' := [(1, .int x2), (0, .ref a0)]) (st' := [.int 17, .int x2]) [(.iload_n 1, 1, 0), (.bipush 17, 2, 17)] (by decide +kernel) rfl ?_
        refine C.icmp_le (off := 12) (tgt := 55) (pf := 46) (by decide +kernel) (by decide) rfl (fun c56 => ?_) (fun c56 => ?_)
        · replace hf := ifp c56 hf
          refine C.seg (pe := 56) (lv' := [(1, .int x2), (0, .ref a0)]) (st' := [.ref a0]) [(.aload_n 0, 1, 0)] (by decide +kernel) rfl ?_
          obtain ⟨a7, ga7, hf⟩ := Option.bind_eq_some_iff.mp hf
          refine C.rdA fr_480 ga7 (by decide +kernel) rfl ?_
          refine C.seg (pe := 60) (lv' := [(1, .int x2), (0, .ref a0)]) (st' := [.ref a0, .ref a7]) [(.aload_n 0, 1, 0)] (by decide +kernel) rfl ?_
          obtain ⟨x8, gx8, hf⟩ := Option.bind_eq_some_iff.mp hf
          refine C.rdI fr_478 gx8 (by decide +kernel) rfl ?_
          obtain ⟨x9, gx9, hf⟩ := Option.bind_eq_some_iff.mp hf
          refine C.ald 0 rfl gx9 (by decide +kernel) rfl ?_
          refine C.seg (pe := 66) (lv' := [(1, .int x2), (0, .ref a0)]) (st' := [.int 8, .int x9]) [(.bipush 8, 2, 8)] (by decide +kernel) rfl ?_
          refine C.icmp_lt (off := 12) (tgt := 78) (pf := 69) (by decide +kernel) (by decide) rfl (fun c55 => ?_) (fun c55 => ?_)
          · replace hf := ifp c55 hf
            refine C.seg (pe := 79) (lv' := [(1, .int x2), (0, .ref a0)]) (st' := [.ref a0]) [(.aload_n 0, 1, 0)] (by decide +kernel) rfl ?_
            obtain ⟨a10, ga10, hf⟩ := Option.bind_eq_some_iff.mp hf
            refine C.rdA fr_477 ga10 (by decide +kernel) rfl ?_
            obtain ⟨h11, gh11, hf⟩ := Option.bind_eq_some_iff.mp hf
            refine C.callVr C2 [] [] mv_1119 rfl (o_X7_advance gh11) (w_X7_advance gh11) (by omega) (by omega) (Nat.le_of_ble_eq_true rfl) (by decide +kernel) rfl ?_
            refine C.seg (pe := 91) (lv' := [(2, .int (x2 - 14)), (1, .int x2), (0, .ref a0)]) (st' := [.ref a0]) [(.iload_n 1, 1, 0), (.bipush 14, 2, 14), (.isub, 1, 0), (.istore_n 2, 1, 0), (.aload_n 0, 1, 0)] (by decide +kernel) rfl ?_
            obtain ⟨a12, ga12, hf⟩ := Option.bind_eq_some_iff.mp hf
            refine C.rdA fr_477 ga12 (by decide +kernel) rfl ?_
            obtain ⟨x13, h14, gx13, hf⟩ := b2_some hf
            refine C.callVr C2 [] [] mv_1116 rfl (o_X7_name gx13) (w_X7_name gx13) (by omega) (by omega) (Nat.le_of_ble_eq_true rfl) (by decide +kernel) rfl ?_
            refine C.seg (pe := 99) (lv' := [(2, .int (x2 - 14)), (1, .int x2), (0, .ref a0)]) (st' := [.int 18, .int x13]) [(.bipush 18, 2, 18)] (by decide +kernel) rfl ?_
            refine C.icmp_ne (off := 18) (tgt := 117) (pf := 102) (by decide +kernel) (by decide) rfl (fun c50 => ?_) (fun c50 => ?_)
            · replace hf := ifn c50 hf
              refine C.seg (pe := 118) (lv' := [(2, .int (x2 - 14)), (1, .int x2), (0, .ref a0)]) (st' := [.ref a0]) [(.aload_n 0, 1, 0)] (by decide +kernel) rfl ?_
              obtain ⟨a15, ga15, hf⟩ := Option.bind_eq_some_iff.mp hf
              refine C.rdA fr_477 ga15 (by decide +kernel) rfl ?_
              obtain ⟨x16, h17, gx16, hf⟩ := b2_some hf
              refine C.callVr C2 [] [] mv_1117 rfl (o_X7_kind gx16) (w_X7_kind gx16) (by omega) (by omega) (Nat.le_of_ble_eq_true rfl) (by decide +kernel) rfl ?_
              refine C.seg (pe := 125) (lv' := [(2, .int (x2 - 14)), (1, .int x2), (0, .ref a0)]) (st' := [.int 3, .int x16]) [(.iconst 3, 1, 3)] (by decide +kernel) rfl ?_
              refine C.icmp_eq (off := 12) (tgt := 137) (pf := 128) (by decide +kernel) (by decide) rfl (fun c46 => ?_) (fun c46 => ?_)
              · replace hf := ifp c46 hf
                refine C.seg (pe := 138) (lv' := [(2, .int (x2 - 14)), (1, .int x2), (0, .ref a0)]) (st' := [.ref a0]) [(.aload_n 0, 1, 0)] (by decide +kernel) rfl ?_
                obtain ⟨a18, ga18, hf⟩ := Option.bind_eq_some_iff.mp hf
                refine C.rdA fr_477 ga18 (by decide +kernel) rfl ?_
                obtain ⟨y19, h20, gy19, hf⟩ := b2_some hf
                refine C.callVr C2 [] [] mv_1124 rfl (o_X7_value gy19) (w_X7_value gy19) (by omega) (by omega) (Nat.le_of_ble_eq_true rfl) (by decide +kernel) rfl ?_
                refine C.seg (pe := 148) (lv' := [(3, .int y19.toInt32), (2, .int (x2 - 14)), (1, .int x2), (0, .ref a0)]) (st' := [.ref a0, .ref a0]) [(.l2i, 1, 0), (.istore_n 3, 1, 0), (.aload_n 0, 1, 0), (.dup, 1, 0)] (by decide +kernel) rfl ?_
                obtain ⟨x21, gx21, hf⟩ := Option.bind_eq_some_iff.mp hf
                refine C.rdI fr_483 gx21 (by decide +kernel) rfl ?_
                refine C.seg (pe := 153) (lv' := [(3, .int y19.toInt32), (2, .int (x2 - 14)), (1, .int x2), (0, .ref a0)]) (st' := [.int (x21 + y19.toInt32), .ref a0]) [(.iload_n 3, 1, 0), (.iadd, 1, 0)] (by decide +kernel) rfl ?_
                obtain ⟨h22, gh22, hf⟩ := Option.bind_eq_some_iff.mp hf
                refine C.putI fl_483 gh22 (by decide +kernel) rfl ?_
                refine C.seg (pe := 157) (lv' := [(3, .int y19.toInt32), (2, .int (x2 - 14)), (1, .int x2), (0, .ref a0)]) (st' := [.ref a0]) [(.aload_n 0, 1, 0)] (by decide +kernel) rfl ?_
                obtain ⟨x23, gx23, hf⟩ := Option.bind_eq_some_iff.mp hf
                refine C.rdI fr_483 gx23 (by decide +kernel) rfl ?_
                refine C.seg (pe := 162) (lv' := [(3, .int y19.toInt32), (2, .int (x2 - 14)), (1, .int x2), (0, .ref a0)]) (st' := [.int 100, .int x23]) [(.bipush 100, 2, 100)] (by decide +kernel) rfl ?_
                refine C.icmp_le (off := 12) (tgt := 174) (pf := 165) (by decide +kernel) (by decide) rfl (fun c41 => ?_) (fun c41 => ?_)
                · replace hf := ifp c41 hf
                  refine C.seg (pe := 175) (lv' := [(3, .int y19.toInt32), (2, .int (x2 - 14)), (1, .int x2), (0, .ref a0)]) (st' := [.ref a0]) [(.aload_n 0, 1, 0)] (by decide +kernel) rfl ?_
                  obtain ⟨a24, ga24, hf⟩ := Option.bind_eq_some_iff.mp hf
                  refine C.rdA fr_477 ga24 (by decide +kernel) rfl ?_
                  obtain ⟨h25, gh25, hf⟩ := Option.bind_eq_some_iff.mp hf
                  refine C.callVr C2 [] [] mv_1119 rfl (o_X7_advance gh25) (w_X7_advance gh25) (by omega) (by omega) (Nat.le_of_ble_eq_true rfl) (by decide +kernel) rfl ?_
                  refine C.seg (pe := 182) (lv' := [(3, .int y19.toInt32), (2, .int (x2 - 14)), (1, .int x2), (0, .ref a0)]) (st' := [.ref a0]) [(.aload_n 0, 1, 0)] (by decide +kernel) rfl ?_
                  obtain ⟨a26, ga26, hf⟩ := Option.bind_eq_some_iff.mp hf
                  refine C.rdA fr_477 ga26 (by decide +kernel) rfl ?_
                  obtain ⟨x27, h28, gx27, hf⟩ := b2_some hf
                  refine C.callVr C2 [] [] mv_1125 rfl (o_X7_sign gx27) (w_X7_sign gx27) (by omega) (by omega) (Nat.le_of_ble_eq_true rfl) (by decide +kernel) rfl ?_
                  refine C.seg (pe := 190) (lv' := [(3, .int y19.toInt32), (2, .int (x2 - 14)), (1, .int x2), (0, .ref a0)]) (st' := [.int 37, .int x27]) [(.bipush 37, 2, 37)] (by decide +kernel) rfl ?_
                  refine C.icmp_eq (off := 12) (tgt := 202) (pf := 193) (by decide +kernel) (by decide) rfl (fun c36 => ?_) (fun c36 => ?_)
                  · replace hf := ifp c36 hf
                    refine C.seg (pe := 203) (lv' := [(3, .int y19.toInt32), (2, .int (x2 - 14)), (1, .int x2), (0, .ref a0)]) (st' := [.ref a0]) [(.aload_n 0, 1, 0)] (by decide +kernel) rfl ?_
                    obtain ⟨a29, ga29, hf⟩ := Option.bind_eq_some_iff.mp hf
                    refine C.rdA fr_477 ga29 (by decide +kernel) rfl ?_
                    obtain ⟨h30, gh30, hf⟩ := Option.bind_eq_some_iff.mp hf
                    refine C.callVr C2 [] [] mv_1119 rfl (o_X7_advance gh30) (w_X7_advance gh30) (by omega) (by omega) (Nat.le_of_ble_eq_true rfl) (by decide +kernel) rfl ?_
                    refine C.seg (pe := 212) (lv' := [(3, .int y19.toInt32), (2, .int (x2 - 14)), (1, .int x2), (0, .ref a0)]) (st' := [.int y19.toInt32, .int (x2 - 14), .ref a0]) [(.aload_n 0, 1, 0), (.iload_n 2, 1, 0), (.iload_n 3, 1, 0)] (by decide +kernel) rfl ?_
                    obtain ⟨h31, gh31, hf⟩ := Option.bind_eq_some_iff.mp hf
                    refine C.callVr C2 [.int (x2 - 14), .int y19.toInt32] [] mv_1120 rfl (o_X5_addLine gh31) (w_X5_addLine gh31) (by omega) (by omega) (Nat.le_of_ble_eq_true rfl) (by decide +kernel) rfl ?_
                    refine C.seg (pe := 216) (lv' := [(3, .int y19.toInt32), (2, .int (x2 - 14)), (1, .int x2), (0, .ref a0)]) (st' := [.int 1]) [(.iconst 1, 1, 1)] (by decide +kernel) rfl ?_
                    cases hf
                    exact C.retZ rfl (by decide) (by decide +kernel) ⟨rfl, rfl⟩
                  · replace hf := ifn c36 hf
                    refine C.seg (pe := 194) (lv' := [(3, .int y19.toInt32), (2, .int (x2 - 14)), (1, .int x2), (0, .ref a0)]) (st' := [.ref a0]) [(.aload_n 0, 1, 0)] (by decide +kernel) rfl ?_
                    obtain ⟨a32, ga32, hf⟩ := Option.bind_eq_some_iff.mp hf
                    refine C.rdA fr_477 ga32 (by decide +kernel) rfl ?_
                    refine C.seg (pe := 198) (lv' := [(3, .int y19.toInt32), (2, .int (x2 - 14)), (1, .int x2), (0, .ref a0)]) (st' := [.int 1, .ref a32]) [(.iconst 1, 1, 1)] (by decide +kernel) rfl ?_
                    obtain ⟨x33, h34, gx33, hf⟩ := b2_some hf
                    refine C.callVr C2 [.int 1] [] mv_1118 rfl (o_X7_fail gx33) (w_X7_fail gx33) (by omega) (by omega) (Nat.le_of_ble_eq_true rfl) (by decide +kernel) rfl ?_
                    obtain ⟨x35, gx35, hf⟩ := Option.bind_eq_some_iff.mp hf
                    have ex35 := ckZ_eq gx35
                    subst ex35
                    cases hf
                    exact C.retZ rfl gx35 (by decide +kernel) ⟨rfl, rfl⟩
                · replace hf := ifn c41 hf
                  refine C.seg (pe := 166) (lv' := [(3, .int y19.toInt32), (2, .int (x2 - 14)), (1, .int x2), (0, .ref a0)]) (st' := [.ref a0]) [(.aload_n 0, 1, 0)] (by decide +kernel) rfl ?_
                  obtain ⟨a37, ga37, hf⟩ := Option.bind_eq_some_iff.mp hf
                  refine C.rdA fr_477 ga37 (by decide +kernel) rfl ?_
                  refine C.seg (pe := 170) (lv' := [(3, .int y19.toInt32), (2, .int (x2 - 14)), (1, .int x2), (0, .ref a0)]) (st' := [.int 3, .ref a37]) [(.iconst 3, 1, 3)] (by decide +kernel) rfl ?_
                  obtain ⟨x38, h39, gx38, hf⟩ := b2_some hf
                  refine C.callVr C2 [.int 3] [] mv_1118 rfl (o_X7_fail gx38) (w_X7_fail gx38) (by omega) (by omega) (Nat.le_of_ble_eq_true rfl) (by decide +kernel) rfl ?_
                  obtain ⟨x40, gx40, hf⟩ := Option.bind_eq_some_iff.mp hf
                  have ex40 := ckZ_eq gx40
                  subst ex40
                  cases hf
                  exact C.retZ rfl gx40 (by decide +kernel) ⟨rfl, rfl⟩
              · replace hf := ifn c46 hf
                refine C.seg (pe := 129) (lv' := [(2, .int (x2 - 14)), (1, .int x2), (0, .ref a0)]) (st' := [.ref a0]) [(.aload_n 0, 1, 0)] (by decide +kernel) rfl ?_
                obtain ⟨a42, ga42, hf⟩ := Option.bind_eq_some_iff.mp hf
                refine C.rdA fr_477 ga42 (by decide +kernel) rfl ?_
                refine C.seg (pe := 133) (lv' := [(2, .int (x2 - 14)), (1, .int x2), (0, .ref a0)]) (st' := [.int 1, .ref a42]) [(.iconst 1, 1, 1)] (by decide +kernel) rfl ?_
                obtain ⟨x43, h44, gx43, hf⟩ := b2_some hf
                refine C.callVr C2 [.int 1] [] mv_1118 rfl (o_X7_fail gx43) (w_X7_fail gx43) (by omega) (by omega) (Nat.le_of_ble_eq_true rfl) (by decide +kernel) rfl ?_
                obtain ⟨x45, gx45, hf⟩ := Option.bind_eq_some_iff.mp hf
                have ex45 := ckZ_eq gx45
                subst ex45
                cases hf
                exact C.retZ rfl gx45 (by decide +kernel) ⟨rfl, rfl⟩
            · replace hf := ifp c50 hf
              refine C.seg (pe := 105) (lv' := [(2, .int (x2 - 14)), (1, .int x2), (0, .ref a0)]) (st' := [.int (-1), .int (x2 - 14), .ref a0]) [(.aload_n 0, 1, 0), (.iload_n 2, 1, 0), (.iconst (-1), 1, (-1))] (by decide +kernel) rfl ?_
              obtain ⟨h47, gh47, hf⟩ := Option.bind_eq_some_iff.mp hf
              refine C.callVr C2 [.int (x2 - 14), .int (-1)] [] mv_1120 rfl (o_X5_addLine gh47) (w_X5_addLine gh47) (by omega) (by omega) (Nat.le_of_ble_eq_true rfl) (by decide +kernel) rfl ?_
              refine C.seg (pe := 109) (lv' := [(2, .int (x2 - 14)), (1, .int x2), (0, .ref a0)]) (st' := [.ref a0]) [(.aload_n 0, 1, 0)] (by decide +kernel) rfl ?_
              obtain ⟨a48, ga48, hf⟩ := Option.bind_eq_some_iff.mp hf
              refine C.rdA fr_477 ga48 (by decide +kernel) rfl ?_
              obtain ⟨h49, gh49, hf⟩ := Option.bind_eq_some_iff.mp hf
              refine C.callVr C2 [] [] mv_1119 rfl (o_X7_advance gh49) (w_X7_advance gh49) (by omega) (by omega) (Nat.le_of_ble_eq_true rfl) (by decide +kernel) rfl ?_
              refine C.seg (pe := 116) (lv' := [(2, .int (x2 - 14)), (1, .int x2), (0, .ref a0)]) (st' := [.int 1]) [(.iconst 1, 1, 1)] (by decide +kernel) rfl ?_
              cases hf
              exact C.retZ rfl (by decide) (by decide +kernel) ⟨rfl, rfl⟩
          · replace hf := ifn c55 hf
            refine C.seg (pe := 70) (lv' := [(1, .int x2), (0, .ref a0)]) (st' := [.ref a0]) [(.aload_n 0, 1, 0)] (by decide +kernel) rfl ?_
            obtain ⟨a51, ga51, hf⟩ := Option.bind_eq_some_iff.mp hf
            refine C.rdA fr_477 ga51 (by decide +kernel) rfl ?_
            refine C.seg (pe := 74) (lv' := [(1, .int x2), (0, .ref a0)]) (st' := [.int 4, .ref a51]) [(.iconst 4, 1, 4)] (by decide +kernel) rfl ?_
            obtain ⟨x52, h53, gx52, hf⟩ := b2_some hf
            refine C.callVr C2 [.int 4] [] mv_1118 rfl (o_X7_fail gx52) (w_X7_fail gx52) (by omega) (by omega) (Nat.le_of_ble_eq_true rfl) (by decide +kernel) rfl ?_
            obtain ⟨x54, gx54, hf⟩ := Option.bind_eq_some_iff.mp hf
            have ex54 := ckZ_eq gx54
            subst ex54
            cases hf
            exact C.retZ rfl gx54 (by decide +kernel) ⟨rfl, rfl⟩
        · replace hf := ifn c56 hf
          refine Vsub [1] rfl ?_
          exact l_X5_readLine_46 C C2 a0 h6 hf
    · replace hf := ifp c58 hf
      refine Vsub [1] rfl ?_
      exact l_X5_readLine_25 C C2 a0 h6 hf
theorem o_X5_readLine {a0 : Nat} {h : AH} {rr : Int32} {hr : AH} (hf : f_X5_readLine a0 h = some (rr, hr)) : isO 5 h a0 = true := by
  unfold f_X5_readLine at hf
  exact (ifO hf).1
/-! WallHouse$Rights.read()V -/
def f_X5_read_72 (h : AH) : Option (AH) :=
  some h
set_option maxRecDepth 100000 in
set_option maxHeartbeats 4000000 in
theorem l_X5_read_72 {X : MX} {l : Launch} {G : GX} {h0 : AH} {hr : AH} (C : Cx X G RX5 cX5_read 2 none 3 63 h0) (C2 : Cy X l "read" []) (h : AH) (hf : f_X5_read_72 h = some hr) : V X G h0 (QV hr) 72 [] [] h := by
  unfold f_X5_read_72 at hf
  cases hf
  exact C.retV rfl (by decide +kernel) ⟨rfl, rfl⟩
def f_X5_read_27 : Nat → Nat → Int32 → AH → Option (AH)
  | 0, _, _, _ => none
  | n + 1, r0, i1, h =>
    if 8 < i1 then
      some h
    else
      b2 (f_X5_readLine r0 h) fun x1 h2 =>
      if x1 = 0 then
        some h2
      else
        (gA 5 h2 r0 0).bind fun a3 =>
        b2 (f_X7_sign a3 h2) fun x4 h5 =>
        if x4 = 44 then
          (gA 5 h5 r0 0).bind fun a6 =>
          (f_X7_advance a6 h5).bind fun h7 =>
          (f_X5_read_27 n) r0 (i1 + 1) h7
        else
          (gA 5 h5 r0 0).bind fun a8 =>
          b2 (f_X7_kind a8 h5) fun x9 h10 =>
          if x9 = 0 then
            f_X5_read_72 h10
          else
            (gA 5 h10 r0 0).bind fun a11 =>
            b2 (f_X7_fail a11 1 h10) fun x12 h13 =>
            f_X5_read_72 h13
set_option maxRecDepth 100000 in
set_option maxHeartbeats 4000000 in
theorem l_X5_read_27 {X : MX} {l : Launch} {G : GX} {h0 : AH} {hr : AH} (C : Cx X G RX5 cX5_read 2 none 3 63 h0) (C2 : Cy X l "read" []) : ∀ (n : Nat) (r0 : Nat) (i1 : Int32) (h : AH), f_X5_read_27 n r0 i1 h = some hr → V X G h0 (QV hr) 27 [(0, .ref r0), (1, .int i1)] [] h := by
  intro n
  induction n with
  | zero => intro r0 i1 h hf; rw [f_X5_read_27] at hf; cases hf
  | succ n ih =>
    intro r0 i1 h hf
    rw [f_X5_read_27] at hf
    refine C.seg (pe := 30) (lv' := [(0, .ref r0), (1, .int i1)]) (st' := [.int 8, .int i1]) [(.iload_n 1, 1, 0), (.bipush 8, 2, 8)] (by decide +kernel) rfl ?_
    refine C.icmp_gt (off := 56) (tgt := 86) (pf := 33) (by decide +kernel) (by decide) rfl (fun c17 => ?_) (fun c17 => ?_)
    · replace hf := ifp c17 hf
      cases hf
      exact C.retV rfl (by decide +kernel) ⟨rfl, rfl⟩
    · replace hf := ifn c17 hf
      refine C.seg (pe := 34) (lv' := [(0, .ref r0), (1, .int i1)]) (st' := [.ref r0]) [(.aload_n 0, 1, 0)] (by decide +kernel) rfl ?_
      obtain ⟨x1, h2, gx1, hf⟩ := b2_some hf
      refine C.callVr C2 [] [] mv_1112 rfl (o_X5_readLine gx1) (w_X5_readLine gx1) (by omega) (by omega) (Nat.le_of_ble_eq_true rfl) (by decide +kernel) rfl ?_
      refine C.if_ne (off := 4) (tgt := 41) (pf := 40) (by decide +kernel) (by decide) rfl (fun c16 => ?_) (fun c16 => ?_)
      · replace hf := ifn c16 hf
        refine C.seg (pe := 42) (lv' := [(0, .ref r0), (1, .int i1)]) (st' := [.ref r0]) [(.aload_n 0, 1, 0)] (by decide +kernel) rfl ?_
        obtain ⟨a3, ga3, hf⟩ := Option.bind_eq_some_iff.mp hf
        refine C.rdA fr_477 ga3 (by decide +kernel) rfl ?_
        obtain ⟨x4, h5, gx4, hf⟩ := b2_some hf
        refine C.callVr C2 [] [] mv_1125 rfl (o_X7_sign gx4) (w_X7_sign gx4) (by omega) (by omega) (Nat.le_of_ble_eq_true rfl) (by decide +kernel) rfl ?_
        refine C.seg (pe := 50) (lv' := [(0, .ref r0), (1, .int i1)]) (st' := [.int 44, .int x4]) [(.bipush 44, 2, 44)] (by decide +kernel) rfl ?_
        refine C.icmp_eq (off := 23) (tgt := 73) (pf := 53) (by decide +kernel) (by decide) rfl (fun c15 => ?_) (fun c15 => ?_)
        · replace hf := ifp c15 hf
          refine C.seg (pe := 74) (lv' := [(0, .ref r0), (1, .int i1)]) (st' := [.ref r0]) [(.aload_n 0, 1, 0)] (by decide +kernel) rfl ?_
          obtain ⟨a6, ga6, hf⟩ := Option.bind_eq_some_iff.mp hf
          refine C.rdA fr_477 ga6 (by decide +kernel) rfl ?_
          obtain ⟨h7, gh7, hf⟩ := Option.bind_eq_some_iff.mp hf
          refine C.callVr C2 [] [] mv_1119 rfl (o_X7_advance gh7) (w_X7_advance gh7) (by omega) (by omega) (Nat.le_of_ble_eq_true rfl) (by decide +kernel) rfl ?_
          refine C.seg (pe := 83) (lv' := [(1, .int (i1 + 1)), (0, .ref r0)]) (st' := []) [(.iinc 1 1, 3, 1)] (by decide +kernel) rfl ?_
          refine C.goto (off := (-56)) (tgt := 27) (by decide +kernel) (by decide) ?_
          refine Vsub [1, 0] rfl ?_
          exact ih r0 (i1 + 1) h7 hf
        · replace hf := ifn c15 hf
          refine C.seg (pe := 54) (lv' := [(0, .ref r0), (1, .int i1)]) (st' := [.ref r0]) [(.aload_n 0, 1, 0)] (by decide +kernel) rfl ?_
          obtain ⟨a8, ga8, hf⟩ := Option.bind_eq_some_iff.mp hf
          refine C.rdA fr_477 ga8 (by decide +kernel) rfl ?_
          obtain ⟨x9, h10, gx9, hf⟩ := b2_some hf
          refine C.callVr C2 [] [] mv_1117 rfl (o_X7_kind gx9) (w_X7_kind gx9) (by omega) (by omega) (Nat.le_of_ble_eq_true rfl) (by decide +kernel) rfl ?_
          refine C.if_eq (off := 12) (tgt := 72) (pf := 63) (by decide +kernel) (by decide) rfl (fun c14 => ?_) (fun c14 => ?_)
          · replace hf := ifp c14 hf
            refine Vsub [] rfl ?_
            exact l_X5_read_72 C C2 h10 hf
          · replace hf := ifn c14 hf
            refine C.seg (pe := 64) (lv' := [(0, .ref r0), (1, .int i1)]) (st' := [.ref r0]) [(.aload_n 0, 1, 0)] (by decide +kernel) rfl ?_
            obtain ⟨a11, ga11, hf⟩ := Option.bind_eq_some_iff.mp hf
            refine C.rdA fr_477 ga11 (by decide +kernel) rfl ?_
            refine C.seg (pe := 68) (lv' := [(0, .ref r0), (1, .int i1)]) (st' := [.int 1, .ref a11]) [(.iconst 1, 1, 1)] (by decide +kernel) rfl ?_
            obtain ⟨x12, h13, gx12, hf⟩ := b2_some hf
            refine C.callVr C2 [.int 1] [] mv_1118 rfl (o_X7_fail gx12) (w_X7_fail gx12) (by omega) (by omega) (Nat.le_of_ble_eq_true rfl) (by decide +kernel) rfl ?_
            refine C.seg (pe := 72) (lv' := [(0, .ref r0), (1, .int i1)]) (st' := []) [(.pop, 1, 0)] (by decide +kernel) rfl ?_
            refine Vsub [] rfl ?_
            exact l_X5_read_72 C C2 h13 hf
      · replace hf := ifp c16 hf
        cases hf
        exact C.retV rfl (by decide +kernel) ⟨rfl, rfl⟩
def f_X5_read (a0 : Nat) (h : AH) : Option (AH) :=
  if isO 5 h a0 = true then
    (gI 5 h a0 1).bind fun x1 =>
    if x1 ≤ 8 then
      (gA 5 h a0 2).bind fun a2 =>
      (gI 5 h a0 1).bind fun x3 =>
      (sI 0 h a2 x3 0).bind fun h4 =>
      (pI 5 h4 a0 5 0).bind fun h5 =>
      f_X5_read_27 FU a0 0 h5
    else
      some h
  else none
set_option maxRecDepth 100000 in
set_option maxHeartbeats 4000000 in
theorem w_X5_read {l : Launch} {G : GX} {a0 : Nat} {h : AH} {hr : AH} (hf : f_X5_read a0 h = some hr) : Ct l G yX5_read 3 63 [.ref a0] h (QV hr) := by
  unfold f_X5_read at hf
  obtain ⟨ho, hf⟩ := ifO hf
  refine Ct_of (own := RX5) (cc := cX5_read) (nL := 2) (ret := none) rfl rfl k_1111 (Nat.le_of_ble_eq_true rfl) (fun X C2 C => ?_)
  show V X G h (QV hr) 0 [(0, .ref a0)] [] h
  refine C.seg (pe := 1) (lv' := [(0, .ref a0)]) (st' := [.ref a0]) [(.aload_n 0, 1, 0)] (by decide +kernel) rfl ?_
  obtain ⟨x1, gx1, hf⟩ := Option.bind_eq_some_iff.mp hf
  refine C.rdI fr_478 gx1 (by decide +kernel) rfl ?_
  refine C.seg (pe := 6) (lv' := [(0, .ref a0)]) (st' := [.int 8, .int x1]) [(.bipush 8, 2, 8)] (by decide +kernel) rfl ?_
  refine C.icmp_le (off := 4) (tgt := 10) (pf := 9) (by decide +kernel) (by decide) rfl (fun c6 => ?_) (fun c6 => ?_)
  · replace hf := ifp c6 hf
    refine C.seg (pe := 11) (lv' := [(0, .ref a0)]) (st' := [.ref a0]) [(.aload_n 0, 1, 0)] (by decide +kernel) rfl ?_
    obtain ⟨a2, ga2, hf⟩ := Option.bind_eq_some_iff.mp hf
    refine C.rdA fr_480 ga2 (by decide +kernel) rfl ?_
    refine C.seg (pe := 15) (lv' := [(0, .ref a0)]) (st' := [.ref a0, .ref a2]) [(.aload_n 0, 1, 0)] (by decide +kernel) rfl ?_
    obtain ⟨x3, gx3, hf⟩ := Option.bind_eq_some_iff.mp hf
    refine C.rdI fr_478 gx3 (by decide +kernel) rfl ?_
    refine C.seg (pe := 19) (lv' := [(0, .ref a0)]) (st' := [.int 0, .int x3, .ref a2]) [(.iconst 0, 1, 0)] (by decide +kernel) rfl ?_
    obtain ⟨h4, gh4, hf⟩ := Option.bind_eq_some_iff.mp hf
    refine C.ast gh4 (by decide +kernel) rfl ?_
    refine C.seg (pe := 22) (lv' := [(0, .ref a0)]) (st' := [.int 0, .ref a0]) [(.aload_n 0, 1, 0), (.iconst 0, 1, 0)] (by decide +kernel) rfl ?_
    obtain ⟨h5, gh5, hf⟩ := Option.bind_eq_some_iff.mp hf
    refine C.putI fl_483 gh5 (by decide +kernel) rfl ?_
    refine C.seg (pe := 27) (lv' := [(1, .int 0), (0, .ref a0)]) (st' := []) [(.iconst 0, 1, 0), (.istore_n 1, 1, 0)] (by decide +kernel) rfl ?_
    refine Vsub [1, 0] rfl ?_
    exact l_X5_read_27 C C2 FU a0 0 h5 hf
  · replace hf := ifn c6 hf
    cases hf
    exact C.retV rfl (by decide +kernel) ⟨rfl, rfl⟩
theorem o_X5_read {a0 : Nat} {h : AH} {hr : AH} (hf : f_X5_read a0 h = some hr) : isO 5 h a0 = true := by
  unfold f_X5_read at hf
  exact (ifO hf).1
/-! WallHouse$Rights.keep()Z -/
def f_X5_keep (a0 : Nat) (h : AH) : Option (Int32 × AH) :=
  if isO 5 h a0 = true then
    (gI 5 h a0 1).bind fun x1 =>
    if x1 < 8 then
      (gI 5 h a0 1).bind fun x2 =>
      (pI 5 h a0 1 (x2 + 1)).bind fun h3 =>
      some (1, h3)
    else
      some (0, h)
  else none
set_option maxRecDepth 100000 in
set_option maxHeartbeats 4000000 in
theorem w_X5_keep {l : Launch} {G : GX} {a0 : Nat} {h : AH} {rr : Int32} {hr : AH} (hf : f_X5_keep a0 h = some (rr, hr)) : Ct l G yX5_keep 0 0 [.ref a0] h (QI rr hr) := by
  unfold f_X5_keep at hf
  obtain ⟨ho, hf⟩ := ifO hf
  refine Ct_of (own := RX5) (cc := cX5_keep) (nL := 1) (ret := (some .boolean)) rfl rfl k_1129 (Nat.le_of_ble_eq_true rfl) (fun X C2 C => ?_)
  show V X G h (QI rr hr) 0 [(0, .ref a0)] [] h
  refine C.seg (pe := 1) (lv' := [(0, .ref a0)]) (st' := [.ref a0]) [(.aload_n 0, 1, 0)] (by decide +kernel) rfl ?_
  obtain ⟨x1, gx1, hf⟩ := Option.bind_eq_some_iff.mp hf
  refine C.rdI fr_478 gx1 (by decide +kernel) rfl ?_
  refine C.seg (pe := 6) (lv' := [(0, .ref a0)]) (st' := [.int 8, .int x1]) [(.bipush 8, 2, 8)] (by decide +kernel) rfl ?_
  refine C.icmp_lt (off := 5) (tgt := 11) (pf := 9) (by decide +kernel) (by decide) rfl (fun c4 => ?_) (fun c4 => ?_)
  · replace hf := ifp c4 hf
    refine C.seg (pe := 13) (lv' := [(0, .ref a0)]) (st' := [.ref a0, .ref a0]) [(.aload_n 0, 1, 0), (.dup, 1, 0)] (by decide +kernel) rfl ?_
    obtain ⟨x2, gx2, hf⟩ := Option.bind_eq_some_iff.mp hf
    refine C.rdI fr_478 gx2 (by decide +kernel) rfl ?_
    refine C.seg (pe := 18) (lv' := [(0, .ref a0)]) (st' := [.int (x2 + 1), .ref a0]) [(.iconst 1, 1, 1), (.iadd, 1, 0)] (by decide +kernel) rfl ?_
    obtain ⟨h3, gh3, hf⟩ := Option.bind_eq_some_iff.mp hf
    refine C.putI fl_478 gh3 (by decide +kernel) rfl ?_
    refine C.seg (pe := 22) (lv' := [(0, .ref a0)]) (st' := [.int 1]) [(.iconst 1, 1, 1)] (by decide +kernel) rfl ?_
    cases hf
    exact C.retZ rfl (by decide) (by decide +kernel) ⟨rfl, rfl⟩
  · replace hf := ifn c4 hf
    refine C.seg (pe := 10) (lv' := [(0, .ref a0)]) (st' := [.int 0]) [(.iconst 0, 1, 0)] (by decide +kernel) rfl ?_
    cases hf
    exact C.retZ rfl (by decide) (by decide +kernel) ⟨rfl, rfl⟩
theorem o_X5_keep {a0 : Nat} {h : AH} {rr : Int32} {hr : AH} (hf : f_X5_keep a0 h = some (rr, hr)) : isO 5 h a0 = true := by
  unfold f_X5_keep at hf
  exact (ifO hf).1
/-! WallHouse$Rights.shareOf(III)I -/
def f_X5_shareOf_231 (k182 : Nat → Int32 → Int32 → Int32 → Int32 → Int32 → Int32 → Int32 → AH → Option (Int32 × AH)) (r0 : Nat) (i3 : Int32) (i5 : Int32) (i6 : Int32) (i7 : Int32) (i8 : Int32) (i9 : Int32) (i10 : Int32) (h : AH) : Option (Int32 × AH) :=
  k182 r0 i3 i5 i6 i7 i8 i9 (i10 + 1) h
set_option maxRecDepth 100000 in
set_option maxHeartbeats 4000000 in
theorem l_X5_shareOf_231 {X : MX} {l : Launch} {G : GX} {h0 : AH} {rr : Int32} {hr : AH} (C : Cx X G RX5 cX5_shareOf 11 (some .int) 1 40 h0) (C2 : Cy X l "shareOf" []) {k182 : Nat → Int32 → Int32 → Int32 → Int32 → Int32 → Int32 → Int32 → AH → Option (Int32 × AH)} (hk182 : ∀ (r0 : Nat) (i3 : Int32) (i5 : Int32) (i6 : Int32) (i7 : Int32) (i8 : Int32) (i9 : Int32) (i10 : Int32) (h : AH), k182 r0 i3 i5 i6 i7 i8 i9 i10 h = some (rr, hr) → V X G h0 (QI rr hr) 182 [(0, .ref r0), (3, .int i3), (5, .int i5), (6, .int i6), (7, .int i7), (8, .int i8), (9, .int i9), (10, .int i10)] [] h) (r0 : Nat) (i3 : Int32) (i5 : Int32) (i6 : Int32) (i7 : Int32) (i8 : Int32) (i9 : Int32) (i10 : Int32) (h : AH) (hf : f_X5_shareOf_231 k182 r0 i3 i5 i6 i7 i8 i9 i10 h = some (rr, hr)) : V X G h0 (QI rr hr) 231 [(0, .ref r0), (3, .int i3), (5, .int i5), (6, .int i6), (7, .int i7), (8, .int i8), (9, .int i9), (10, .int i10)] [] h := by
  unfold f_X5_shareOf_231 at hf
  refine C.seg (pe := 234) (lv' := [(10, .int (i10 + 1)), (0, .ref r0), (3, .int i3), (5, .int i5), (6, .int i6), (7, .int i7), (8, .int i8), (9, .int i9)]) (st' := []) [(.iinc 10 1, 3, 1)] (by decide +kernel) rfl ?_
  refine C.goto (off := (-52)) (tgt := 182) (by decide +kernel) (by decide) ?_
  refine Vsub [1, 2, 3, 4, 5, 6, 7, 0] rfl ?_
  exact hk182 r0 i3 i5 i6 i7 i8 i9 (i10 + 1) h hf
def f_X5_shareOf_225 (k182 : Nat → Int32 → Int32 → Int32 → Int32 → Int32 → Int32 → Int32 → AH → Option (Int32 × AH)) (r0 : Nat) (i3 : Int32) (i5 : Int32) (i6 : Int32) (i7 : Int32) (i10 : Int32) (si0 : Int32) (si1 : Int32) (h : AH) : Option (Int32 × AH) :=
  f_X5_shareOf_231 k182 r0 i3 i5 i6 i7 (si1 + si0) 0 i10 h
set_option maxRecDepth 100000 in
set_option maxHeartbeats 4000000 in
theorem l_X5_shareOf_225 {X : MX} {l : Launch} {G : GX} {h0 : AH} {rr : Int32} {hr : AH} (C : Cx X G RX5 cX5_shareOf 11 (some .int) 1 40 h0) (C2 : Cy X l "shareOf" []) {k182 : Nat → Int32 → Int32 → Int32 → Int32 → Int32 → Int32 → Int32 → AH → Option (Int32 × AH)} (hk182 : ∀ (r0 : Nat) (i3 : Int32) (i5 : Int32) (i6 : Int32) (i7 : Int32) (i8 : Int32) (i9 : Int32) (i10 : Int32) (h : AH), k182 r0 i3 i5 i6 i7 i8 i9 i10 h = some (rr, hr) → V X G h0 (QI rr hr) 182 [(0, .ref r0), (3, .int i3), (5, .int i5), (6, .int i6), (7, .int i7), (8, .int i8), (9, .int i9), (10, .int i10)] [] h) (r0 : Nat) (i3 : Int32) (i5 : Int32) (i6 : Int32) (i7 : Int32) (i10 : Int32) (si0 : Int32) (si1 : Int32) (h : AH) (hf : f_X5_shareOf_225 k182 r0 i3 i5 i6 i7 i10 si0 si1 h = some (rr, hr)) : V X G h0 (QI rr hr) 225 [(0, .ref r0), (3, .int i3), (5, .int i5), (6, .int i6), (7, .int i7), (10, .int i10)] [.int si0, .int si1] h := by
  unfold f_X5_shareOf_225 at hf
  refine C.seg (pe := 231) (lv' := [(9, .int 0), (8, .int (si1 + si0)), (0, .ref r0), (3, .int i3), (5, .int i5), (6, .int i6), (7, .int i7), (10, .int i10)]) (st' := []) [(.iadd, 1, 0), (.istore 8, 2, 0), (.iconst 0, 1, 0), (.istore 9, 2, 0)] (by decide +kernel) rfl ?_
  refine Vsub [2, 3, 4, 5, 6, 1, 0, 7] rfl ?_
  exact l_X5_shareOf_231 C C2 hk182 r0 i3 i5 i6 i7 (si1 + si0) 0 i10 h hf
def f_X5_shareOf_182 : Nat → Nat → Int32 → Int32 → Int32 → Int32 → Int32 → Int32 → Int32 → AH → Option (Int32 × AH)
  | 0, _, _, _, _, _, _, _, _, _ => none
  | n + 1, r0, i3, i5, i6, i7, i8, i9, i10, h =>
    if i5 ≤ i10 then
      some (i8, h)
    else
      (gA 5 h r0 4).bind fun a1 =>
      (aI 0 h a1 i10).bind fun x2 =>
      if x2 = (-1) then
        (gA 5 h r0 3).bind fun a3 =>
        (aI 0 h a3 i10).bind fun x4 =>
        if x4 = i3 then
          (ckD i7).bind fun x5 =>
          f_X5_shareOf_225 (f_X5_shareOf_182 n) r0 i3 i5 i6 i7 i10 ((i6 / i7) + i9) i8 h
        else
          f_X5_shareOf_225 (f_X5_shareOf_182 n) r0 i3 i5 i6 i7 i10 0 i8 h
      else
        f_X5_shareOf_231 (f_X5_shareOf_182 n) r0 i3 i5 i6 i7 i8 i9 i10 h
set_option maxRecDepth 100000 in
set_option maxHeartbeats 4000000 in
theorem l_X5_shareOf_182 {X : MX} {l : Launch} {G : GX} {h0 : AH} {rr : Int32} {hr : AH} (C : Cx X G RX5 cX5_shareOf 11 (some .int) 1 40 h0) (C2 : Cy X l "shareOf" []) : ∀ (n : Nat) (r0 : Nat) (i3 : Int32) (i5 : Int32) (i6 : Int32) (i7 : Int32) (i8 : Int32) (i9 : Int32) (i10 : Int32) (h : AH), f_X5_shareOf_182 n r0 i3 i5 i6 i7 i8 i9 i10 h = some (rr, hr) → V X G h0 (QI rr hr) 182 [(0, .ref r0), (3, .int i3), (5, .int i5), (6, .int i6), (7, .int i7), (8, .int i8), (9, .int i9), (10, .int i10)] [] h := by
  intro n
  induction n with
  | zero => intro r0 i3 i5 i6 i7 i8 i9 i10 h hf; rw [f_X5_shareOf_182] at hf; cases hf
  | succ n ih =>
    intro r0 i3 i5 i6 i7 i8 i9 i10 h hf
    rw [f_X5_shareOf_182] at hf
    refine C.seg (pe := 186) (lv' := [(0, .ref r0), (3, .int i3), (5, .int i5), (6, .int i6), (7, .int i7), (8, .int i8), (9, .int i9), (10, .int i10)]) (st' := [.int i5, .int i10]) [(.iload 10, 2, 0), (.iload 5, 2, 0)] (by decide +kernel) rfl ?_
    refine C.icmp_ge (off := 51) (tgt := 237) (pf := 189) (by decide +kernel) (by decide) rfl (fun c8 => ?_) (fun c8 => ?_)
    · replace hf := ifp c8 hf
      refine C.seg (pe := 239) (lv' := [(0, .ref r0), (3, .int i3), (5, .int i5), (6, .int i6), (7, .int i7), (8, .int i8), (9, .int i9), (10, .int i10)]) (st' := [.int i8]) [(.iload 8, 2, 0)] (by decide +kernel) rfl ?_
      cases hf
      exact C.retI rfl (by decide +kernel) ⟨rfl, rfl⟩
    · replace hf := ifn c8 hf
      refine C.seg (pe := 190) (lv' := [(0, .ref r0), (3, .int i3), (5, .int i5), (6, .int i6), (7, .int i7), (8, .int i8), (9, .int i9), (10, .int i10)]) (st' := [.ref r0]) [(.aload_n 0, 1, 0)] (by decide +kernel) rfl ?_
      obtain ⟨a1, ga1, hf⟩ := Option.bind_eq_some_iff.mp hf
      refine C.rdA fr_482 ga1 (by decide +kernel) rfl ?_
      refine C.seg (pe := 195) (lv' := [(0, .ref r0), (3, .int i3), (5, .int i5), (6, .int i6), (7, .int i7), (8, .int i8), (9, .int i9), (10, .int i10)]) (st' := [.int i10, .ref a1]) [(.iload 10, 2, 0)] (by decide +kernel) rfl ?_
      obtain ⟨x2, gx2, hf⟩ := Option.bind_eq_some_iff.mp hf
      refine C.ald 0 rfl gx2 (by decide +kernel) rfl ?_
      refine C.seg (pe := 197) (lv' := [(0, .ref r0), (3, .int i3), (5, .int i5), (6, .int i6), (7, .int i7), (8, .int i8), (9, .int i9), (10, .int i10)]) (st' := [.int (-1), .int x2]) [(.iconst (-1), 1, (-1))] (by decide +kernel) rfl ?_
      refine C.icmp_ne (off := 34) (tgt := 231) (pf := 200) (by decide +kernel) (by decide) rfl (fun c7 => ?_) (fun c7 => ?_)
      · replace hf := ifn c7 hf
        exact l_X5_shareOf_231 C C2 ih r0 i3 i5 i6 i7 i8 i9 i10 h hf
      · replace hf := ifp c7 hf
        refine C.seg (pe := 203) (lv' := [(0, .ref r0), (3, .int i3), (5, .int i5), (6, .int i6), (7, .int i7), (8, .int i8), (9, .int i9), (10, .int i10)]) (st' := [.ref r0, .int i8]) [(.iload 8, 2, 0), (.aload_n 0, 1, 0)] (by decide +kernel) rfl ?_
        obtain ⟨a3, ga3, hf⟩ := Option.bind_eq_some_iff.mp hf
        refine C.rdA fr_481 ga3 (by decide +kernel) rfl ?_
        refine C.seg (pe := 208) (lv' := [(0, .ref r0), (3, .int i3), (5, .int i5), (6, .int i6), (7, .int i7), (8, .int i8), (9, .int i9), (10, .int i10)]) (st' := [.int i10, .ref a3, .int i8]) [(.iload 10, 2, 0)] (by decide +kernel) rfl ?_
        obtain ⟨x4, gx4, hf⟩ := Option.bind_eq_some_iff.mp hf
        refine C.ald 0 rfl gx4 (by decide +kernel) rfl ?_
        refine C.seg (pe := 210) (lv' := [(0, .ref r0), (3, .int i3), (5, .int i5), (6, .int i6), (7, .int i7), (8, .int i8), (9, .int i9), (10, .int i10)]) (st' := [.int i3, .int x4, .int i8]) [(.iload_n 3, 1, 0)] (by decide +kernel) rfl ?_
        refine C.icmp_ne (off := 14) (tgt := 224) (pf := 213) (by decide +kernel) (by decide) rfl (fun c6 => ?_) (fun c6 => ?_)
        · replace hf := ifn c6 hf
          refine C.seg (pe := 225) (lv' := [(0, .ref r0), (3, .int i3), (5, .int i5), (6, .int i6), (7, .int i7), (8, .int i8), (9, .int i9), (10, .int i10)]) (st' := [.int 0, .int i8]) [(.iconst 0, 1, 0)] (by decide +kernel) rfl ?_
          refine Vsub [0, 1, 2, 3, 4, 7] rfl ?_
          exact l_X5_shareOf_225 C C2 ih r0 i3 i5 i6 i7 i10 0 i8 h hf
        · replace hf := ifp c6 hf
          refine C.seg (pe := 217) (lv' := [(0, .ref r0), (3, .int i3), (5, .int i5), (6, .int i6), (7, .int i7), (8, .int i8), (9, .int i9), (10, .int i10)]) (st' := [.int i7, .int i6, .int i8]) [(.iload 6, 2, 0), (.iload 7, 2, 0)] (by decide +kernel) rfl ?_
          obtain ⟨x5, gx5, hf⟩ := Option.bind_eq_some_iff.mp hf
          refine C.idiv (by decide +kernel) rfl (ckD_self gx5) ?_
          refine C.seg (pe := 221) (lv' := [(0, .ref r0), (3, .int i3), (5, .int i5), (6, .int i6), (7, .int i7), (8, .int i8), (9, .int i9), (10, .int i10)]) (st' := [.int ((i6 / i7) + i9), .int i8]) [(.iload 9, 2, 0), (.iadd, 1, 0)] (by decide +kernel) rfl ?_
          refine C.goto (off := 4) (tgt := 225) (by decide +kernel) (by decide) ?_
          refine Vsub [0, 1, 2, 3, 4, 7] rfl ?_
          exact l_X5_shareOf_225 C C2 ih r0 i3 i5 i6 i7 i10 ((i6 / i7) + i9) i8 h hf
def f_X5_shareOf_170 (si0 : Int32) (h : AH) : Option (Int32 × AH) :=
  some (si0, h)
set_option maxRecDepth 100000 in
set_option maxHeartbeats 4000000 in
theorem l_X5_shareOf_170 {X : MX} {l : Launch} {G : GX} {h0 : AH} {rr : Int32} {hr : AH} (C : Cx X G RX5 cX5_shareOf 11 (some .int) 1 40 h0) (C2 : Cy X l "shareOf" []) (si0 : Int32) (h : AH) (hf : f_X5_shareOf_170 si0 h = some (rr, hr)) : V X G h0 (QI rr hr) 170 [] [.int si0] h := by
  unfold f_X5_shareOf_170 at hf
  cases hf
  exact C.retI rfl (by decide +kernel) ⟨rfl, rfl⟩
def f_X5_shareOf_141 (k58 : Nat → Int32 → Int32 → Int32 → Int32 → Int32 → Int32 → Int32 → Int32 → AH → Option (Int32 × AH)) (r0 : Nat) (i2 : Int32) (i3 : Int32) (i4 : Int32) (i5 : Int32) (i6 : Int32) (i8 : Int32) (i9 : Int32) (si0 : Int32) (si1 : Int32) (h : AH) : Option (Int32 × AH) :=
  k58 r0 i2 i3 i4 i5 i6 (si1 + si0) i8 (i9 + 1) h
set_option maxRecDepth 100000 in
set_option maxHeartbeats 4000000 in
theorem l_X5_shareOf_141 {X : MX} {l : Launch} {G : GX} {h0 : AH} {rr : Int32} {hr : AH} (C : Cx X G RX5 cX5_shareOf 11 (some .int) 1 40 h0) (C2 : Cy X l "shareOf" []) {k58 : Nat → Int32 → Int32 → Int32 → Int32 → Int32 → Int32 → Int32 → Int32 → AH → Option (Int32 × AH)} (hk58 : ∀ (r0 : Nat) (i2 : Int32) (i3 : Int32) (i4 : Int32) (i5 : Int32) (i6 : Int32) (i7 : Int32) (i8 : Int32) (i9 : Int32) (h : AH), k58 r0 i2 i3 i4 i5 i6 i7 i8 i9 h = some (rr, hr) → V X G h0 (QI rr hr) 58 [(0, .ref r0), (2, .int i2), (3, .int i3), (4, .int i4), (5, .int i5), (6, .int i6), (7, .int i7), (8, .int i8), (9, .int i9)] [] h) (r0 : Nat) (i2 : Int32) (i3 : Int32) (i4 : Int32) (i5 : Int32) (i6 : Int32) (i8 : Int32) (i9 : Int32) (si0 : Int32) (si1 : Int32) (h : AH) (hf : f_X5_shareOf_141 k58 r0 i2 i3 i4 i5 i6 i8 i9 si0 si1 h = some (rr, hr)) : V X G h0 (QI rr hr) 141 [(0, .ref r0), (2, .int i2), (3, .int i3), (4, .int i4), (5, .int i5), (6, .int i6), (8, .int i8), (9, .int i9)] [.int si0, .int si1] h := by
  unfold f_X5_shareOf_141 at hf
  refine C.seg (pe := 147) (lv' := [(9, .int (i9 + 1)), (7, .int (si1 + si0)), (0, .ref r0), (2, .int i2), (3, .int i3), (4, .int i4), (5, .int i5), (6, .int i6), (8, .int i8)]) (st' := []) [(.iadd, 1, 0), (.istore 7, 2, 0), (.iinc 9 1, 3, 1)] (by decide +kernel) rfl ?_
  refine C.goto (off := (-89)) (tgt := 58) (by decide +kernel) (by decide) ?_
  refine Vsub [2, 3, 4, 5, 6, 7, 1, 8, 0] rfl ?_
  exact hk58 r0 i2 i3 i4 i5 i6 (si1 + si0) i8 (i9 + 1) h hf
def f_X5_shareOf_120 (k58 : Nat → Int32 → Int32 → Int32 → Int32 → Int32 → Int32 → Int32 → Int32 → AH → Option (Int32 × AH)) (r0 : Nat) (i2 : Int32) (i3 : Int32) (i4 : Int32) (i5 : Int32) (i6 : Int32) (i7 : Int32) (i9 : Int32) (si0 : Int32) (si1 : Int32) (h : AH) : Option (Int32 × AH) :=
  (gA 5 h r0 4).bind fun a1 =>
  (aI 0 h a1 i9).bind fun x2 =>
  if x2 = (-1) then
    f_X5_shareOf_141 k58 r0 i2 i3 i4 i5 i6 (si1 + si0) i9 1 i7 h
  else
    f_X5_shareOf_141 k58 r0 i2 i3 i4 i5 i6 (si1 + si0) i9 0 i7 h
set_option maxRecDepth 100000 in
set_option maxHeartbeats 4000000 in
theorem l_X5_shareOf_120 {X : MX} {l : Launch} {G : GX} {h0 : AH} {rr : Int32} {hr : AH} (C : Cx X G RX5 cX5_shareOf 11 (some .int) 1 40 h0) (C2 : Cy X l "shareOf" []) {k58 : Nat → Int32 → Int32 → Int32 → Int32 → Int32 → Int32 → Int32 → Int32 → AH → Option (Int32 × AH)} (hk58 : ∀ (r0 : Nat) (i2 : Int32) (i3 : Int32) (i4 : Int32) (i5 : Int32) (i6 : Int32) (i7 : Int32) (i8 : Int32) (i9 : Int32) (h : AH), k58 r0 i2 i3 i4 i5 i6 i7 i8 i9 h = some (rr, hr) → V X G h0 (QI rr hr) 58 [(0, .ref r0), (2, .int i2), (3, .int i3), (4, .int i4), (5, .int i5), (6, .int i6), (7, .int i7), (8, .int i8), (9, .int i9)] [] h) (r0 : Nat) (i2 : Int32) (i3 : Int32) (i4 : Int32) (i5 : Int32) (i6 : Int32) (i7 : Int32) (i9 : Int32) (si0 : Int32) (si1 : Int32) (h : AH) (hf : f_X5_shareOf_120 k58 r0 i2 i3 i4 i5 i6 i7 i9 si0 si1 h = some (rr, hr)) : V X G h0 (QI rr hr) 120 [(0, .ref r0), (2, .int i2), (3, .int i3), (4, .int i4), (5, .int i5), (6, .int i6), (7, .int i7), (9, .int i9)] [.int si0, .int si1] h := by
  unfold f_X5_shareOf_120 at hf
  refine C.seg (pe := 126) (lv' := [(8, .int (si1 + si0)), (0, .ref r0), (2, .int i2), (3, .int i3), (4, .int i4), (5, .int i5), (6, .int i6), (7, .int i7), (9, .int i9)]) (st' := [.ref r0, .int i7]) [(.iadd, 1, 0), (.istore 8, 2, 0), (.iload 7, 2, 0), (.aload_n 0, 1, 0)] (by decide +kernel) rfl ?_
  obtain ⟨a1, ga1, hf⟩ := Option.bind_eq_some_iff.mp hf
  refine C.rdA fr_482 ga1 (by decide +kernel) rfl ?_
  refine C.seg (pe := 131) (lv' := [(8, .int (si1 + si0)), (0, .ref r0), (2, .int i2), (3, .int i3), (4, .int i4), (5, .int i5), (6, .int i6), (7, .int i7), (9, .int i9)]) (st' := [.int i9, .ref a1, .int i7]) [(.iload 9, 2, 0)] (by decide +kernel) rfl ?_
  obtain ⟨x2, gx2, hf⟩ := Option.bind_eq_some_iff.mp hf
  refine C.ald 0 rfl gx2 (by decide +kernel) rfl ?_
  refine C.seg (pe := 133) (lv' := [(8, .int (si1 + si0)), (0, .ref r0), (2, .int i2), (3, .int i3), (4, .int i4), (5, .int i5), (6, .int i6), (7, .int i7), (9, .int i9)]) (st' := [.int (-1), .int x2, .int i7]) [(.iconst (-1), 1, (-1))] (by decide +kernel) rfl ?_
  refine C.icmp_ne (off := 7) (tgt := 140) (pf := 136) (by decide +kernel) (by decide) rfl (fun c3 => ?_) (fun c3 => ?_)
  · replace hf := ifn c3 hf
    refine C.seg (pe := 141) (lv' := [(8, .int (si1 + si0)), (0, .ref r0), (2, .int i2), (3, .int i3), (4, .int i4), (5, .int i5), (6, .int i6), (7, .int i7), (9, .int i9)]) (st' := [.int 0, .int i7]) [(.iconst 0, 1, 0)] (by decide +kernel) rfl ?_
    refine Vsub [1, 2, 3, 4, 5, 6, 0, 8] rfl ?_
    exact l_X5_shareOf_141 C C2 hk58 r0 i2 i3 i4 i5 i6 (si1 + si0) i9 0 i7 h hf
  · replace hf := ifp c3 hf
    refine C.seg (pe := 137) (lv' := [(8, .int (si1 + si0)), (0, .ref r0), (2, .int i2), (3, .int i3), (4, .int i4), (5, .int i5), (6, .int i6), (7, .int i7), (9, .int i9)]) (st' := [.int 1, .int i7]) [(.iconst 1, 1, 1)] (by decide +kernel) rfl ?_
    refine C.goto (off := 4) (tgt := 141) (by decide +kernel) (by decide) ?_
    refine Vsub [1, 2, 3, 4, 5, 6, 0, 8] rfl ?_
    exact l_X5_shareOf_141 C C2 hk58 r0 i2 i3 i4 i5 i6 (si1 + si0) i9 1 i7 h hf
def f_X5_shareOf_92 (k58 : Nat → Int32 → Int32 → Int32 → Int32 → Int32 → Int32 → Int32 → Int32 → AH → Option (Int32 × AH)) (r0 : Nat) (i2 : Int32) (i3 : Int32) (i4 : Int32) (i5 : Int32) (i6 : Int32) (i7 : Int32) (i8 : Int32) (i9 : Int32) (si0 : Int32) (h : AH) : Option (Int32 × AH) :=
  (gA 5 h r0 3).bind fun a1 =>
  (aI 0 h a1 i9).bind fun x2 =>
  if x2 = i3 then
    f_X5_shareOf_120 k58 r0 i2 i3 i4 i5 (i6 - si0) i7 i9 si0 i8 h
  else
    f_X5_shareOf_120 k58 r0 i2 i3 i4 i5 (i6 - si0) i7 i9 0 i8 h
set_option maxRecDepth 100000 in
set_option maxHeartbeats 4000000 in
theorem l_X5_shareOf_92 {X : MX} {l : Launch} {G : GX} {h0 : AH} {rr : Int32} {hr : AH} (C : Cx X G RX5 cX5_shareOf 11 (some .int) 1 40 h0) (C2 : Cy X l "shareOf" []) {k58 : Nat → Int32 → Int32 → Int32 → Int32 → Int32 → Int32 → Int32 → Int32 → AH → Option (Int32 × AH)} (hk58 : ∀ (r0 : Nat) (i2 : Int32) (i3 : Int32) (i4 : Int32) (i5 : Int32) (i6 : Int32) (i7 : Int32) (i8 : Int32) (i9 : Int32) (h : AH), k58 r0 i2 i3 i4 i5 i6 i7 i8 i9 h = some (rr, hr) → V X G h0 (QI rr hr) 58 [(0, .ref r0), (2, .int i2), (3, .int i3), (4, .int i4), (5, .int i5), (6, .int i6), (7, .int i7), (8, .int i8), (9, .int i9)] [] h) (r0 : Nat) (i2 : Int32) (i3 : Int32) (i4 : Int32) (i5 : Int32) (i6 : Int32) (i7 : Int32) (i8 : Int32) (i9 : Int32) (si0 : Int32) (h : AH) (hf : f_X5_shareOf_92 k58 r0 i2 i3 i4 i5 i6 i7 i8 i9 si0 h = some (rr, hr)) : V X G h0 (QI rr hr) 92 [(0, .ref r0), (2, .int i2), (3, .int i3), (4, .int i4), (5, .int i5), (6, .int i6), (7, .int i7), (8, .int i8), (9, .int i9)] [.int si0] h := by
  unfold f_X5_shareOf_92 at hf
  refine C.seg (pe := 104) (lv' := [(6, .int (i6 - si0)), (10, .int si0), (0, .ref r0), (2, .int i2), (3, .int i3), (4, .int i4), (5, .int i5), (7, .int i7), (8, .int i8), (9, .int i9)]) (st' := [.ref r0, .int i8]) [(.istore 10, 2, 0), (.iload 6, 2, 0), (.iload 10, 2, 0), (.isub, 1, 0), (.istore 6, 2, 0), (.iload 8, 2, 0), (.aload_n 0, 1, 0)] (by decide +kernel) rfl ?_
  obtain ⟨a1, ga1, hf⟩ := Option.bind_eq_some_iff.mp hf
  refine C.rdA fr_481 ga1 (by decide +kernel) rfl ?_
  refine C.seg (pe := 109) (lv' := [(6, .int (i6 - si0)), (10, .int si0), (0, .ref r0), (2, .int i2), (3, .int i3), (4, .int i4), (5, .int i5), (7, .int i7), (8, .int i8), (9, .int i9)]) (st' := [.int i9, .ref a1, .int i8]) [(.iload 9, 2, 0)] (by decide +kernel) rfl ?_
  obtain ⟨x2, gx2, hf⟩ := Option.bind_eq_some_iff.mp hf
  refine C.ald 0 rfl gx2 (by decide +kernel) rfl ?_
  refine C.seg (pe := 111) (lv' := [(6, .int (i6 - si0)), (10, .int si0), (0, .ref r0), (2, .int i2), (3, .int i3), (4, .int i4), (5, .int i5), (7, .int i7), (8, .int i8), (9, .int i9)]) (st' := [.int i3, .int x2, .int i8]) [(.iload_n 3, 1, 0)] (by decide +kernel) rfl ?_
  refine C.icmp_ne (off := 8) (tgt := 119) (pf := 114) (by decide +kernel) (by decide) rfl (fun c3 => ?_) (fun c3 => ?_)
  · replace hf := ifn c3 hf
    refine C.seg (pe := 120) (lv' := [(6, .int (i6 - si0)), (10, .int si0), (0, .ref r0), (2, .int i2), (3, .int i3), (4, .int i4), (5, .int i5), (7, .int i7), (8, .int i8), (9, .int i9)]) (st' := [.int 0, .int i8]) [(.iconst 0, 1, 0)] (by decide +kernel) rfl ?_
    refine Vsub [2, 3, 4, 5, 6, 0, 7, 9] rfl ?_
    exact l_X5_shareOf_120 C C2 hk58 r0 i2 i3 i4 i5 (i6 - si0) i7 i9 0 i8 h hf
  · replace hf := ifp c3 hf
    refine C.seg (pe := 116) (lv' := [(6, .int (i6 - si0)), (10, .int si0), (0, .ref r0), (2, .int i2), (3, .int i3), (4, .int i4), (5, .int i5), (7, .int i7), (8, .int i8), (9, .int i9)]) (st' := [.int si0, .int i8]) [(.iload 10, 2, 0)] (by decide +kernel) rfl ?_
    refine C.goto (off := 4) (tgt := 120) (by decide +kernel) (by decide) ?_
    refine Vsub [2, 3, 4, 5, 6, 0, 7, 9] rfl ?_
    exact l_X5_shareOf_120 C C2 hk58 r0 i2 i3 i4 i5 (i6 - si0) i7 i9 si0 i8 h hf
def f_X5_shareOf_58 : Nat → Nat → Int32 → Int32 → Int32 → Int32 → Int32 → Int32 → Int32 → Int32 → AH → Option (Int32 × AH)
  | 0, _, _, _, _, _, _, _, _, _, _ => none
  | n + 1, r0, i2, i3, i4, i5, i6, i7, i8, i9, h =>
    if i5 ≤ i9 then
      if i7 = 0 then
        if i3 = 2 then
          f_X5_shareOf_170 (i8 + i6) h
        else
          f_X5_shareOf_170 i8 h
      else
        (ckD i7).bind fun x2 =>
        lt (i6 - i6 / i7 * i7 : Int32) fun x1 =>
        f_X5_shareOf_182 FU r0 i3 i5 i6 i7 i8 x1 i4 h
    else
      (gA 5 h r0 4).bind fun a5 =>
      (aI 0 h a5 i9).bind fun x6 =>
      if x6 = (-1) then
        f_X5_shareOf_92 (f_X5_shareOf_58 n) r0 i2 i3 i4 i5 i6 i7 i8 i9 0 h
      else
        (gA 5 h r0 4).bind fun a7 =>
        (aI 0 h a7 i9).bind fun x8 =>
        f_X5_shareOf_92 (f_X5_shareOf_58 n) r0 i2 i3 i4 i5 i6 i7 i8 i9 ((i2 * x8) / 100) h
set_option maxRecDepth 100000 in
set_option maxHeartbeats 4000000 in
theorem l_X5_shareOf_58 {X : MX} {l : Launch} {G : GX} {h0 : AH} {rr : Int32} {hr : AH} (C : Cx X G RX5 cX5_shareOf 11 (some .int) 1 40 h0) (C2 : Cy X l "shareOf" []) : ∀ (n : Nat) (r0 : Nat) (i2 : Int32) (i3 : Int32) (i4 : Int32) (i5 : Int32) (i6 : Int32) (i7 : Int32) (i8 : Int32) (i9 : Int32) (h : AH), f_X5_shareOf_58 n r0 i2 i3 i4 i5 i6 i7 i8 i9 h = some (rr, hr) → V X G h0 (QI rr hr) 58 [(0, .ref r0), (2, .int i2), (3, .int i3), (4, .int i4), (5, .int i5), (6, .int i6), (7, .int i7), (8, .int i8), (9, .int i9)] [] h := by
  intro n
  induction n with
  | zero => intro r0 i2 i3 i4 i5 i6 i7 i8 i9 h hf; rw [f_X5_shareOf_58] at hf; cases hf
  | succ n ih =>
    intro r0 i2 i3 i4 i5 i6 i7 i8 i9 h hf
    rw [f_X5_shareOf_58] at hf
    refine C.seg (pe := 62) (lv' := [(0, .ref r0), (2, .int i2), (3, .int i3), (4, .int i4), (5, .int i5), (6, .int i6), (7, .int i7), (8, .int i8), (9, .int i9)]) (st' := [.int i5, .int i9]) [(.iload 9, 2, 0), (.iload 5, 2, 0)] (by decide +kernel) rfl ?_
    refine C.icmp_ge (off := 88) (tgt := 150) (pf := 65) (by decide +kernel) (by decide) rfl (fun c10 => ?_) (fun c10 => ?_)
    · replace hf := ifp c10 hf
      refine C.seg (pe := 152) (lv' := [(0, .ref r0), (2, .int i2), (3, .int i3), (4, .int i4), (5, .int i5), (6, .int i6), (7, .int i7), (8, .int i8), (9, .int i9)]) (st' := [.int i7]) [(.iload 7, 2, 0)] (by decide +kernel) rfl ?_
      refine C.if_ne (off := 19) (tgt := 171) (pf := 155) (by decide +kernel) (by decide) rfl (fun c4 => ?_) (fun c4 => ?_)
      · replace hf := ifn c4 hf
        refine C.seg (pe := 175) (lv' := [(0, .ref r0), (2, .int i2), (3, .int i3), (4, .int i4), (5, .int i5), (6, .int i6), (7, .int i7), (8, .int i8), (9, .int i9)]) (st' := [.int i7, .int i6]) [(.iload 6, 2, 0), (.iload 7, 2, 0)] (by decide +kernel) rfl ?_
        obtain ⟨x2, gx2, hf⟩ := Option.bind_eq_some_iff.mp hf
        refine C.irem (by decide +kernel) rfl (ckD_self gx2) ?_
        refine Vtopi (fun x1 ex1 => ?_)
        replace hf := lt_ap ex1 hf
        clear ex1
        refine C.seg (pe := 182) (lv' := [(10, .int i4), (9, .int x1), (0, .ref r0), (2, .int i2), (3, .int i3), (4, .int i4), (5, .int i5), (6, .int i6), (7, .int i7), (8, .int i8)]) (st' := []) [(.istore 9, 2, 0), (.iload 4, 2, 0), (.istore 10, 2, 0)] (by decide +kernel) rfl ?_
        refine Vsub [2, 4, 6, 7, 8, 9, 1, 0] rfl ?_
        exact l_X5_shareOf_182 C C2 FU r0 i3 i5 i6 i7 i8 x1 i4 h hf
      · replace hf := ifp c4 hf
        refine C.seg (pe := 157) (lv' := [(0, .ref r0), (2, .int i2), (3, .int i3), (4, .int i4), (5, .int i5), (6, .int i6), (7, .int i7), (8, .int i8), (9, .int i9)]) (st' := [.int 2, .int i3]) [(.iload_n 3, 1, 0), (.iconst 2, 1, 2)] (by decide +kernel) rfl ?_
        refine C.icmp_ne (off := 11) (tgt := 168) (pf := 160) (by decide +kernel) (by decide) rfl (fun c3 => ?_) (fun c3 => ?_)
        · replace hf := ifn c3 hf
          refine C.seg (pe := 170) (lv' := [(0, .ref r0), (2, .int i2), (3, .int i3), (4, .int i4), (5, .int i5), (6, .int i6), (7, .int i7), (8, .int i8), (9, .int i9)]) (st' := [.int i8]) [(.iload 8, 2, 0)] (by decide +kernel) rfl ?_
          refine Vsub [] rfl ?_
          exact l_X5_shareOf_170 C C2 i8 h hf
        · replace hf := ifp c3 hf
          refine C.seg (pe := 165) (lv' := [(0, .ref r0), (2, .int i2), (3, .int i3), (4, .int i4), (5, .int i5), (6, .int i6), (7, .int i7), (8, .int i8), (9, .int i9)]) (st' := [.int (i8 + i6)]) [(.iload 8, 2, 0), (.iload 6, 2, 0), (.iadd, 1, 0)] (by decide +kernel) rfl ?_
          refine C.goto (off := 5) (tgt := 170) (by decide +kernel) (by decide) ?_
          refine Vsub [] rfl ?_
          exact l_X5_shareOf_170 C C2 (i8 + i6) h hf
    · replace hf := ifn c10 hf
      refine C.seg (pe := 66) (lv' := [(0, .ref r0), (2, .int i2), (3, .int i3), (4, .int i4), (5, .int i5), (6, .int i6), (7, .int i7), (8, .int i8), (9, .int i9)]) (st' := [.ref r0]) [(.aload_n 0, 1, 0)] (by decide +kernel) rfl ?_
      obtain ⟨a5, ga5, hf⟩ := Option.bind_eq_some_iff.mp hf
      refine C.rdA fr_482 ga5 (by decide +kernel) rfl ?_
      refine C.seg (pe := 71) (lv' := [(0, .ref r0), (2, .int i2), (3, .int i3), (4, .int i4), (5, .int i5), (6, .int i6), (7, .int i7), (8, .int i8), (9, .int i9)]) (st' := [.int i9, .ref a5]) [(.iload 9, 2, 0)] (by decide +kernel) rfl ?_
      obtain ⟨x6, gx6, hf⟩ := Option.bind_eq_some_iff.mp hf
      refine C.ald 0 rfl gx6 (by decide +kernel) rfl ?_
      refine C.seg (pe := 73) (lv' := [(0, .ref r0), (2, .int i2), (3, .int i3), (4, .int i4), (5, .int i5), (6, .int i6), (7, .int i7), (8, .int i8), (9, .int i9)]) (st' := [.int (-1), .int x6]) [(.iconst (-1), 1, (-1))] (by decide +kernel) rfl ?_
      refine C.icmp_ne (off := 7) (tgt := 80) (pf := 76) (by decide +kernel) (by decide) rfl (fun c9 => ?_) (fun c9 => ?_)
      · replace hf := ifn c9 hf
        refine C.seg (pe := 82) (lv' := [(0, .ref r0), (2, .int i2), (3, .int i3), (4, .int i4), (5, .int i5), (6, .int i6), (7, .int i7), (8, .int i8), (9, .int i9)]) (st' := [.ref r0, .int i2]) [(.iload_n 2, 1, 0), (.aload_n 0, 1, 0)] (by decide +kernel) rfl ?_
        obtain ⟨a7, ga7, hf⟩ := Option.bind_eq_some_iff.mp hf
        refine C.rdA fr_482 ga7 (by decide +kernel) rfl ?_
        refine C.seg (pe := 87) (lv' := [(0, .ref r0), (2, .int i2), (3, .int i3), (4, .int i4), (5, .int i5), (6, .int i6), (7, .int i7), (8, .int i8), (9, .int i9)]) (st' := [.int i9, .ref a7, .int i2]) [(.iload 9, 2, 0)] (by decide +kernel) rfl ?_
        obtain ⟨x8, gx8, hf⟩ := Option.bind_eq_some_iff.mp hf
        refine C.ald 0 rfl gx8 (by decide +kernel) rfl ?_
        refine C.seg (pe := 91) (lv' := [(0, .ref r0), (2, .int i2), (3, .int i3), (4, .int i4), (5, .int i5), (6, .int i6), (7, .int i7), (8, .int i8), (9, .int i9)]) (st' := [.int 100, .int (i2 * x8)]) [(.imul, 1, 0), (.bipush 100, 2, 100)] (by decide +kernel) rfl ?_
        refine C.idiv (by decide +kernel) rfl (by decide) ?_
        exact l_X5_shareOf_92 C C2 ih r0 i2 i3 i4 i5 i6 i7 i8 i9 ((i2 * x8) / 100) h hf
      · replace hf := ifp c9 hf
        refine C.seg (pe := 77) (lv' := [(0, .ref r0), (2, .int i2), (3, .int i3), (4, .int i4), (5, .int i5), (6, .int i6), (7, .int i7), (8, .int i8), (9, .int i9)]) (st' := [.int 0]) [(.iconst 0, 1, 0)] (by decide +kernel) rfl ?_
        refine C.goto (off := 15) (tgt := 92) (by decide +kernel) (by decide) ?_
        exact l_X5_shareOf_92 C C2 ih r0 i2 i3 i4 i5 i6 i7 i8 i9 0 h hf
def f_X5_shareOf_18 (h : AH) : Option (Int32 × AH) :=
  some (0, h)
set_option maxRecDepth 100000 in
set_option maxHeartbeats 4000000 in
theorem l_X5_shareOf_18 {X : MX} {l : Launch} {G : GX} {h0 : AH} {rr : Int32} {hr : AH} (C : Cx X G RX5 cX5_shareOf 11 (some .int) 1 40 h0) (C2 : Cy X l "shareOf" []) (h : AH) (hf : f_X5_shareOf_18 h = some (rr, hr)) : V X G h0 (QI rr hr) 18 [] [] h := by
  unfold f_X5_shareOf_18 at hf
  refine C.seg (pe := 19) (lv' := []) (st' := [.int 0]) [(.iconst 0, 1, 0)] (by decide +kernel) rfl ?_
  cases hf
  exact C.retI rfl (by decide +kernel) ⟨rfl, rfl⟩
def f_X5_shareOf (a0 : Nat) (p1 : Int32) (p2 : Int32) (p3 : Int32) (h : AH) : Option (Int32 × AH) :=
  if isO 5 h a0 = true then
    if p1 < 0 then
      f_X5_shareOf_18 h
    else
      (gI 5 h a0 1).bind fun x1 =>
      if x1 ≤ p1 then
        f_X5_shareOf_18 h
      else
        if p1 ≤ 8 then
          (gA 5 h a0 2).bind fun a2 =>
          (aI 0 h a2 p1).bind fun x3 =>
          (gA 5 h a0 3).bind fun a4 =>
          (aN h a4).bind fun x5 =>
          lt (mnI ((p1 * 8) + x3) x5 : Int32) fun x6 =>
          f_X5_shareOf_58 FU a0 p2 p3 (p1 * 8) x6 p2 0 0 (p1 * 8) h
        else
          f_X5_shareOf_18 h
  else none
set_option maxRecDepth 100000 in
set_option maxHeartbeats 4000000 in
theorem w_X5_shareOf {l : Launch} {G : GX} {a0 : Nat} {p1 : Int32} {p2 : Int32} {p3 : Int32} {h : AH} {rr : Int32} {hr : AH} (hf : f_X5_shareOf a0 p1 p2 p3 h = some (rr, hr)) : Ct l G yX5_shareOf 1 40 [.ref a0, .int p1, .int p2, .int p3] h (QI rr hr) := by
  unfold f_X5_shareOf at hf
  obtain ⟨ho, hf⟩ := ifO hf
  refine Ct_of (own := RX5) (cc := cX5_shareOf) (nL := 11) (ret := (some .int)) rfl rfl k_1601 (Nat.le_of_ble_eq_true rfl) (fun X C2 C => ?_)
  show V X G h (QI rr hr) 0 [(0, .ref a0), (1, .int p1), (2, .int p2), (3, .int p3)] [] h
  refine C.seg (pe := 1) (lv' := [(0, .ref a0), (1, .int p1), (2, .int p2), (3, .int p3)]) (st' := [.int p1]) [(.iload_n 1, 1, 0)] (by decide +kernel) rfl ?_
  refine C.if_lt (off := 17) (tgt := 18) (pf := 4) (by decide +kernel) (by decide) rfl (fun c9 => ?_) (fun c9 => ?_)
  · replace hf := ifp c9 hf
    refine Vsub [] rfl ?_
    exact l_X5_shareOf_18 C C2 h hf
  · replace hf := ifn c9 hf
    refine C.seg (pe := 6) (lv' := [(0, .ref a0), (1, .int p1), (2, .int p2), (3, .int p3)]) (st' := [.ref a0, .int p1]) [(.iload_n 1, 1, 0), (.aload_n 0, 1, 0)] (by decide +kernel) rfl ?_
    obtain ⟨x1, gx1, hf⟩ := Option.bind_eq_some_iff.mp hf
    refine C.rdI fr_478 gx1 (by decide +kernel) rfl ?_
    refine C.icmp_ge (off := 9) (tgt := 18) (pf := 12) (by decide +kernel) (by decide) rfl (fun c8 => ?_) (fun c8 => ?_)
    · replace hf := ifp c8 hf
      refine Vsub [] rfl ?_
      exact l_X5_shareOf_18 C C2 h hf
    · replace hf := ifn c8 hf
      refine C.seg (pe := 15) (lv' := [(0, .ref a0), (1, .int p1), (2, .int p2), (3, .int p3)]) (st' := [.int 8, .int p1]) [(.iload_n 1, 1, 0), (.bipush 8, 2, 8)] (by decide +kernel) rfl ?_
      refine C.icmp_le (off := 5) (tgt := 20) (pf := 18) (by decide +kernel) (by decide) rfl (fun c7 => ?_) (fun c7 => ?_)
      · replace hf := ifp c7 hf
        refine C.seg (pe := 29) (lv' := [(4, .int (p1 * 8)), (0, .ref a0), (1, .int p1), (2, .int p2), (3, .int p3)]) (st' := [.ref a0, .int (p1 * 8)]) [(.iload_n 1, 1, 0), (.bipush 8, 2, 8), (.imul, 1, 0), (.istore 4, 2, 0), (.iload 4, 2, 0), (.aload_n 0, 1, 0)] (by decide +kernel) rfl ?_
        obtain ⟨a2, ga2, hf⟩ := Option.bind_eq_some_iff.mp hf
        refine C.rdA fr_480 ga2 (by decide +kernel) rfl ?_
        refine C.seg (pe := 33) (lv' := [(4, .int (p1 * 8)), (0, .ref a0), (1, .int p1), (2, .int p2), (3, .int p3)]) (st' := [.int p1, .ref a2, .int (p1 * 8)]) [(.iload_n 1, 1, 0)] (by decide +kernel) rfl ?_
        obtain ⟨x3, gx3, hf⟩ := Option.bind_eq_some_iff.mp hf
        refine C.ald 0 rfl gx3 (by decide +kernel) rfl ?_
        refine C.seg (pe := 36) (lv' := [(4, .int (p1 * 8)), (0, .ref a0), (1, .int p1), (2, .int p2), (3, .int p3)]) (st' := [.ref a0, .int ((p1 * 8) + x3)]) [(.iadd, 1, 0), (.aload_n 0, 1, 0)] (by decide +kernel) rfl ?_
        obtain ⟨a4, ga4, hf⟩ := Option.bind_eq_some_iff.mp hf
        refine C.rdA fr_481 ga4 (by decide +kernel) rfl ?_
        obtain ⟨x5, gx5, hf⟩ := Option.bind_eq_some_iff.mp hf
        refine C.alen gx5 (by decide +kernel) rfl ?_
        refine C.mmin k_1602 k_639 k_137 k_640 (by omega) (by omega) (Nat.le_of_ble_eq_true rfl) (by decide +kernel) rfl ?_
        refine Vtopi (fun x6 ex6 => ?_)
        replace hf := lt_ap ex6 hf
        clear ex6
        refine C.seg (pe := 58) (lv' := [(9, .int (p1 * 8)), (8, .int 0), (7, .int 0), (6, .int p2), (5, .int x6), (4, .int (p1 * 8)), (0, .ref a0), (1, .int p1), (2, .int p2), (3, .int p3)]) (st' := []) [(.istore 5, 2, 0), (.iload_n 2, 1, 0), (.istore 6, 2, 0), (.iconst 0, 1, 0), (.istore 7, 2, 0), (.iconst 0, 1, 0), (.istore 8, 2, 0), (.iload 4, 2, 0), (.istore 9, 2, 0)] (by decide +kernel) rfl ?_
        refine Vsub [6, 8, 9, 5, 4, 3, 2, 1, 0] rfl ?_
        exact l_X5_shareOf_58 C C2 FU a0 p2 p3 (p1 * 8) x6 p2 0 0 (p1 * 8) h hf
      · replace hf := ifn c7 hf
        refine Vsub [] rfl ?_
        exact l_X5_shareOf_18 C C2 h hf
theorem o_X5_shareOf {a0 : Nat} {p1 : Int32} {p2 : Int32} {p3 : Int32} {h : AH} {rr : Int32} {hr : AH} (hf : f_X5_shareOf a0 p1 p2 p3 h = some (rr, hr)) : isO 5 h a0 = true := by
  unfold f_X5_shareOf at hf
  exact (ifO hf).1
