/-! WallHouseModel.next()V -/
def f_X15_next_286 (h : AH) : Option (AH) :=
  some h
set_option maxRecDepth 100000 in
set_option maxHeartbeats 4000000 in
theorem l_X15_next_286 {X : MX} {l : Launch} {G : GX} {h0 : AH} {hr : AH} (C : Cx X G RX15 cX15_next 3 none 1 22 h0) (C2 : Cy X l "next" []) (h : AH) (hf : f_X15_next_286 h = some hr) : V X G h0 (QV hr) 286 [] [] h := by
  unfold f_X15_next_286 at hf
  cases hf
  exact C.retV rfl (by decide +kernel) ⟨rfl, rfl⟩
def f_X15_next_229 (k187 : Nat → Int32 → AH → Option (AH)) (r0 : Nat) (i2 : Int32) (h : AH) : Option (AH) :=
  (gI 15 h r0 27).bind fun x1 =>
  (pI 15 h r0 27 (x1 + 1)).bind fun h2 =>
  k187 r0 (i2 + 1) h2
set_option maxRecDepth 100000 in
set_option maxHeartbeats 4000000 in
theorem l_X15_next_229 {X : MX} {l : Launch} {G : GX} {h0 : AH} {hr : AH} (C : Cx X G RX15 cX15_next 3 none 1 22 h0) (C2 : Cy X l "next" []) {k187 : Nat → Int32 → AH → Option (AH)} (hk187 : ∀ (r0 : Nat) (i2 : Int32) (h : AH), k187 r0 i2 h = some hr → V X G h0 (QV hr) 187 [(0, .ref r0), (2, .int i2)] [] h) (r0 : Nat) (i2 : Int32) (h : AH) (hf : f_X15_next_229 k187 r0 i2 h = some hr) : V X G h0 (QV hr) 229 [(0, .ref r0), (2, .int i2)] [] h := by
  unfold f_X15_next_229 at hf
  refine C.seg (pe := 234) (lv' := [(2, .int (i2 + 1)), (0, .ref r0)]) (st' := [.ref r0, .ref r0]) [(.iinc 2 1, 3, 1), (.aload_n 0, 1, 0), (.dup, 1, 0)] (by decide +kernel) rfl ?_
  obtain ⟨x1, gx1, hf⟩ := Option.bind_eq_some_iff.mp hf
  refine C.rdI fr_1813 gx1 (by decide +kernel) rfl ?_
  refine C.seg (pe := 239) (lv' := [(2, .int (i2 + 1)), (0, .ref r0)]) (st' := [.int (x1 + 1), .ref r0]) [(.iconst 1, 1, 1), (.iadd, 1, 0)] (by decide +kernel) rfl ?_
  obtain ⟨h2, gh2, hf⟩ := Option.bind_eq_some_iff.mp hf
  refine C.putI fl_1813 gh2 (by decide +kernel) rfl ?_
  refine C.goto (off := (-55)) (tgt := 187) (by decide +kernel) (by decide) ?_
  refine Vsub [1, 0] rfl ?_
  exact hk187 r0 (i2 + 1) h2 hf
def f_X15_next_187 : Nat → Nat → Int32 → AH → Option (AH)
  | 0, _, _, _ => none
  | n + 1, r0, i2, h =>
    (gI 15 h r0 27).bind fun x1 =>
    b2 (f_X15_byteAt r0 x1 h) fun x2 h3 =>
    b2 (f_X15_isDigit x2 h3) fun x4 h5 =>
    if x4 = 0 then
      if 4 ≤ i2 then
        f_X15_next_286 h5
      else
        (pI 15 h5 r0 28 3).bind fun h6 =>
        f_X15_next_286 h6
    else
      if 3 ≤ i2 then
        f_X15_next_229 (f_X15_next_187 n) r0 i2 h5
      else
        (gI 15 h5 r0 31).bind fun x8 =>
        (gI 15 h5 r0 27).bind fun x9 =>
        b2 (f_X15_byteAt r0 x9 h5) fun x10 h11 =>
        (pI 15 h11 r0 31 (((10 * x8) + x10) - 48)).bind fun h12 =>
        f_X15_next_229 (f_X15_next_187 n) r0 i2 h12
set_option maxRecDepth 100000 in
set_option maxHeartbeats 4000000 in
theorem l_X15_next_187 {X : MX} {l : Launch} {G : GX} {h0 : AH} {hr : AH} (C : Cx X G RX15 cX15_next 3 none 1 22 h0) (C2 : Cy X l "next" []) : ∀ (n : Nat) (r0 : Nat) (i2 : Int32) (h : AH), f_X15_next_187 n r0 i2 h = some hr → V X G h0 (QV hr) 187 [(0, .ref r0), (2, .int i2)] [] h := by
  intro n
  induction n with
  | zero => intro r0 i2 h hf; rw [f_X15_next_187] at hf; cases hf
  | succ n ih =>
    intro r0 i2 h hf
    rw [f_X15_next_187] at hf
    refine C.seg (pe := 189) (lv' := [(0, .ref r0), (2, .int i2)]) (st' := [.ref r0, .ref r0]) [(.aload_n 0, 1, 0), (.aload_n 0, 1, 0)] (by decide +kernel) rfl ?_
    obtain ⟨x1, gx1, hf⟩ := Option.bind_eq_some_iff.mp hf
    refine C.rdI fr_1813 gx1 (by decide +kernel) rfl ?_
    obtain ⟨x2, h3, gx2, hf⟩ := b2_some hf
    refine C.callVr C2 [.int x1] [] mv_2197 rfl (o_X15_byteAt gx2) (w_X15_byteAt gx2) (by omega) (by omega) (Nat.le_of_ble_eq_true rfl) (by decide +kernel) rfl ?_
    obtain ⟨x4, h5, gx4, hf⟩ := b2_some hf
    refine C.callSr C2 [.int x2] [] ms_2205 rfl (w_X15_isDigit gx4) (by omega) (by omega) (Nat.le_of_ble_eq_true rfl) (by decide +kernel) rfl ?_
    refine C.if_eq (off := 47) (tgt := 245) (pf := 201) (by decide +kernel) (by decide) rfl (fun c14 => ?_) (fun c14 => ?_)
    · replace hf := ifp c14 hf
      refine C.seg (pe := 247) (lv' := [(0, .ref r0), (2, .int i2)]) (st' := [.int 4, .int i2]) [(.iload_n 2, 1, 0), (.iconst 4, 1, 4)] (by decide +kernel) rfl ?_
      refine C.icmp_ge (off := 39) (tgt := 286) (pf := 250) (by decide +kernel) (by decide) rfl (fun c7 => ?_) (fun c7 => ?_)
      · replace hf := ifp c7 hf
        refine Vsub [] rfl ?_
        exact l_X15_next_286 C C2 h5 hf
      · replace hf := ifn c7 hf
        refine C.seg (pe := 252) (lv' := [(0, .ref r0), (2, .int i2)]) (st' := [.int 3, .ref r0]) [(.aload_n 0, 1, 0), (.iconst 3, 1, 3)] (by decide +kernel) rfl ?_
        obtain ⟨h6, gh6, hf⟩ := Option.bind_eq_some_iff.mp hf
        refine C.putI fl_1814 gh6 (by decide +kernel) rfl ?_
        refine C.goto (off := 31) (tgt := 286) (by decide +kernel) (by decide) ?_
        refine Vsub [] rfl ?_
        exact l_X15_next_286 C C2 h6 hf
    · replace hf := ifn c14 hf
      refine C.seg (pe := 203) (lv' := [(0, .ref r0), (2, .int i2)]) (st' := [.int 3, .int i2]) [(.iload_n 2, 1, 0), (.iconst 3, 1, 3)] (by decide +kernel) rfl ?_
      refine C.icmp_ge (off := 26) (tgt := 229) (pf := 206) (by decide +kernel) (by decide) rfl (fun c13 => ?_) (fun c13 => ?_)
      · replace hf := ifp c13 hf
        exact l_X15_next_229 C C2 ih r0 i2 h5 hf
      · replace hf := ifn c13 hf
        refine C.seg (pe := 210) (lv' := [(0, .ref r0), (2, .int i2)]) (st' := [.ref r0, .int 10, .ref r0]) [(.aload_n 0, 1, 0), (.bipush 10, 2, 10), (.aload_n 0, 1, 0)] (by decide +kernel) rfl ?_
        obtain ⟨x8, gx8, hf⟩ := Option.bind_eq_some_iff.mp hf
        refine C.rdI fr_1817 gx8 (by decide +kernel) rfl ?_
        refine C.seg (pe := 216) (lv' := [(0, .ref r0), (2, .int i2)]) (st' := [.ref r0, .ref r0, .int (10 * x8), .ref r0]) [(.imul, 1, 0), (.aload_n 0, 1, 0), (.aload_n 0, 1, 0)] (by decide +kernel) rfl ?_
        obtain ⟨x9, gx9, hf⟩ := Option.bind_eq_some_iff.mp hf
        refine C.rdI fr_1813 gx9 (by decide +kernel) rfl ?_
        obtain ⟨x10, h11, gx10, hf⟩ := b2_some hf
        refine C.callVr C2 [.int x9] [.int (10 * x8), .ref r0] mv_2197 rfl (o_X15_byteAt gx10) (w_X15_byteAt gx10) (by omega) (by omega) (Nat.le_of_ble_eq_true rfl) (by decide +kernel) rfl ?_
        refine C.seg (pe := 226) (lv' := [(0, .ref r0), (2, .int i2)]) (st' := [.int (((10 * x8) + x10) - 48), .ref r0]) [(.iadd, 1, 0), (.bipush 48, 2, 48), (.isub, 1, 0)] (by decide +kernel) rfl ?_
        obtain ⟨h12, gh12, hf⟩ := Option.bind_eq_some_iff.mp hf
        refine C.putI fl_1817 gh12 (by decide +kernel) rfl ?_
        exact l_X15_next_229 C C2 ih r0 i2 h12 hf
def f_X15_next_140 (k93 : Nat → Int32 → AH → Option (AH)) (r0 : Nat) (i2 : Int32) (h : AH) : Option (AH) :=
  (gI 15 h r0 27).bind fun x1 =>
  (pI 15 h r0 27 (x1 + 1)).bind fun h2 =>
  k93 r0 (i2 + 1) h2
set_option maxRecDepth 100000 in
set_option maxHeartbeats 4000000 in
theorem l_X15_next_140 {X : MX} {l : Launch} {G : GX} {h0 : AH} {hr : AH} (C : Cx X G RX15 cX15_next 3 none 1 22 h0) (C2 : Cy X l "next" []) {k93 : Nat → Int32 → AH → Option (AH)} (hk93 : ∀ (r0 : Nat) (i2 : Int32) (h : AH), k93 r0 i2 h = some hr → V X G h0 (QV hr) 93 [(0, .ref r0), (2, .int i2)] [] h) (r0 : Nat) (i2 : Int32) (h : AH) (hf : f_X15_next_140 k93 r0 i2 h = some hr) : V X G h0 (QV hr) 140 [(0, .ref r0), (2, .int i2)] [] h := by
  unfold f_X15_next_140 at hf
  refine C.seg (pe := 145) (lv' := [(2, .int (i2 + 1)), (0, .ref r0)]) (st' := [.ref r0, .ref r0]) [(.iinc 2 1, 3, 1), (.aload_n 0, 1, 0), (.dup, 1, 0)] (by decide +kernel) rfl ?_
  obtain ⟨x1, gx1, hf⟩ := Option.bind_eq_some_iff.mp hf
  refine C.rdI fr_1813 gx1 (by decide +kernel) rfl ?_
  refine C.seg (pe := 150) (lv' := [(2, .int (i2 + 1)), (0, .ref r0)]) (st' := [.int (x1 + 1), .ref r0]) [(.iconst 1, 1, 1), (.iadd, 1, 0)] (by decide +kernel) rfl ?_
  obtain ⟨h2, gh2, hf⟩ := Option.bind_eq_some_iff.mp hf
  refine C.putI fl_1813 gh2 (by decide +kernel) rfl ?_
  refine C.goto (off := (-60)) (tgt := 93) (by decide +kernel) (by decide) ?_
  refine Vsub [1, 0] rfl ?_
  exact hk93 r0 (i2 + 1) h2 hf
def f_X15_next_93 : Nat → Nat → Int32 → AH → Option (AH)
  | 0, _, _, _ => none
  | n + 1, r0, i2, h =>
    (gI 15 h r0 27).bind fun x1 =>
    b2 (f_X15_byteAt r0 x1 h) fun x2 h3 =>
    b2 (f_X15_isLetter x2 h3) fun x4 h5 =>
    if x4 = 0 then
      (pI 15 h5 r0 32 i2).bind fun h6 =>
      if 8 < i2 then
        f_X15_next_286 h6
      else
        (pI 15 h6 r0 28 2).bind fun h7 =>
        f_X15_next_286 h7
    else
      if 8 ≤ i2 then
        f_X15_next_140 (f_X15_next_93 n) r0 i2 h5
      else
        (gL 15 h5 r0 37).bind fun y9 =>
        (gI 15 h5 r0 27).bind fun x10 =>
        b2 (f_X15_byteAt r0 x10 h5) fun x11 h12 =>
        (pL 15 h12 r0 37 ((((32 : Int64)) * y9) + (((x11 - 97) + 1).toInt64))).bind fun h13 =>
        f_X15_next_140 (f_X15_next_93 n) r0 i2 h13
set_option maxRecDepth 100000 in
set_option maxHeartbeats 4000000 in
theorem l_X15_next_93 {X : MX} {l : Launch} {G : GX} {h0 : AH} {hr : AH} (C : Cx X G RX15 cX15_next 3 none 1 22 h0) (C2 : Cy X l "next" []) : ∀ (n : Nat) (r0 : Nat) (i2 : Int32) (h : AH), f_X15_next_93 n r0 i2 h = some hr → V X G h0 (QV hr) 93 [(0, .ref r0), (2, .int i2)] [] h := by
  intro n
  induction n with
  | zero => intro r0 i2 h hf; rw [f_X15_next_93] at hf; cases hf
  | succ n ih =>
    intro r0 i2 h hf
    rw [f_X15_next_93] at hf
    refine C.seg (pe := 95) (lv' := [(0, .ref r0), (2, .int i2)]) (st' := [.ref r0, .ref r0]) [(.aload_n 0, 1, 0), (.aload_n 0, 1, 0)] (by decide +kernel) rfl ?_
    obtain ⟨x1, gx1, hf⟩ := Option.bind_eq_some_iff.mp hf
    refine C.rdI fr_1813 gx1 (by decide +kernel) rfl ?_
    obtain ⟨x2, h3, gx2, hf⟩ := b2_some hf
    refine C.callVr C2 [.int x1] [] mv_2197 rfl (o_X15_byteAt gx2) (w_X15_byteAt gx2) (by omega) (by omega) (Nat.le_of_ble_eq_true rfl) (by decide +kernel) rfl ?_
    obtain ⟨x4, h5, gx4, hf⟩ := b2_some hf
    refine C.callSr C2 [.int x2] [] ms_2201 rfl (w_X15_isLetter gx4) (by omega) (by omega) (Nat.le_of_ble_eq_true rfl) (by decide +kernel) rfl ?_
    refine C.if_eq (off := 52) (tgt := 156) (pf := 107) (by decide +kernel) (by decide) rfl (fun c15 => ?_) (fun c15 => ?_)
    · replace hf := ifp c15 hf
      refine C.seg (pe := 158) (lv' := [(0, .ref r0), (2, .int i2)]) (st' := [.int i2, .ref r0]) [(.aload_n 0, 1, 0), (.iload_n 2, 1, 0)] (by decide +kernel) rfl ?_
      obtain ⟨h6, gh6, hf⟩ := Option.bind_eq_some_iff.mp hf
      refine C.putI fl_1818 gh6 (by decide +kernel) rfl ?_
      refine C.seg (pe := 164) (lv' := [(0, .ref r0), (2, .int i2)]) (st' := [.int 8, .int i2]) [(.iload_n 2, 1, 0), (.bipush 8, 2, 8)] (by decide +kernel) rfl ?_
      refine C.icmp_gt (off := 122) (tgt := 286) (pf := 167) (by decide +kernel) (by decide) rfl (fun c8 => ?_) (fun c8 => ?_)
      · replace hf := ifp c8 hf
        refine Vsub [] rfl ?_
        exact l_X15_next_286 C C2 h6 hf
      · replace hf := ifn c8 hf
        refine C.seg (pe := 169) (lv' := [(0, .ref r0), (2, .int i2)]) (st' := [.int 2, .ref r0]) [(.aload_n 0, 1, 0), (.iconst 2, 1, 2)] (by decide +kernel) rfl ?_
        obtain ⟨h7, gh7, hf⟩ := Option.bind_eq_some_iff.mp hf
        refine C.putI fl_1814 gh7 (by decide +kernel) rfl ?_
        refine C.goto (off := 114) (tgt := 286) (by decide +kernel) (by decide) ?_
        refine Vsub [] rfl ?_
        exact l_X15_next_286 C C2 h7 hf
    · replace hf := ifn c15 hf
      refine C.seg (pe := 110) (lv' := [(0, .ref r0), (2, .int i2)]) (st' := [.int 8, .int i2]) [(.iload_n 2, 1, 0), (.bipush 8, 2, 8)] (by decide +kernel) rfl ?_
      refine C.icmp_ge (off := 30) (tgt := 140) (pf := 113) (by decide +kernel) (by decide) rfl (fun c14 => ?_) (fun c14 => ?_)
      · replace hf := ifp c14 hf
        exact l_X15_next_140 C C2 ih r0 i2 h5 hf
      · replace hf := ifn c14 hf
        refine C.seg (pe := 114) (lv' := [(0, .ref r0), (2, .int i2)]) (st' := [.ref r0]) [(.aload_n 0, 1, 0)] (by decide +kernel) rfl ?_
        refine C.ldcL k_2204 (by decide +kernel) rfl ?_
        refine C.seg (pe := 118) (lv' := [(0, .ref r0), (2, .int i2)]) (st' := [.ref r0, .long ((32 : Int64)), .ref r0]) [(.aload_n 0, 1, 0)] (by decide +kernel) rfl ?_
        obtain ⟨y9, gy9, hf⟩ := Option.bind_eq_some_iff.mp hf
        refine C.rdL fr_1823 gy9 (by decide +kernel) rfl ?_
        refine C.seg (pe := 124) (lv' := [(0, .ref r0), (2, .int i2)]) (st' := [.ref r0, .ref r0, .long (((32 : Int64)) * y9), .ref r0]) [(.lmul, 1, 0), (.aload_n 0, 1, 0), (.aload_n 0, 1, 0)] (by decide +kernel) rfl ?_
        obtain ⟨x10, gx10, hf⟩ := Option.bind_eq_some_iff.mp hf
        refine C.rdI fr_1813 gx10 (by decide +kernel) rfl ?_
        obtain ⟨x11, h12, gx11, hf⟩ := b2_some hf
        refine C.callVr C2 [.int x10] [.long (((32 : Int64)) * y9), .ref r0] mv_2197 rfl (o_X15_byteAt gx11) (w_X15_byteAt gx11) (by omega) (by omega) (Nat.le_of_ble_eq_true rfl) (by decide +kernel) rfl ?_
        refine C.seg (pe := 137) (lv' := [(0, .ref r0), (2, .int i2)]) (st' := [.long ((((32 : Int64)) * y9) + (((x11 - 97) + 1).toInt64)), .ref r0]) [(.bipush 97, 2, 97), (.isub, 1, 0), (.iconst 1, 1, 1), (.iadd, 1, 0), (.i2l, 1, 0), (.ladd, 1, 0)] (by decide +kernel) rfl ?_
        obtain ⟨h13, gh13, hf⟩ := Option.bind_eq_some_iff.mp hf
        refine C.putL fl_1823 gh13 (by decide +kernel) rfl ?_
        exact l_X15_next_140 C C2 ih r0 i2 h13 hf
def f_X15_next_26 (k0 : Nat → AH → Option (AH)) (r0 : Nat) (h : AH) : Option (AH) :=
  (gI 15 h r0 27).bind fun x1 =>
  (pI 15 h r0 27 (x1 + 1)).bind fun h2 =>
  k0 r0 h2
set_option maxRecDepth 100000 in
set_option maxHeartbeats 4000000 in
theorem l_X15_next_26 {X : MX} {l : Launch} {G : GX} {h0 : AH} {hr : AH} (C : Cx X G RX15 cX15_next 3 none 1 22 h0) (C2 : Cy X l "next" []) {k0 : Nat → AH → Option (AH)} (hk0 : ∀ (r0 : Nat) (h : AH), k0 r0 h = some hr → V X G h0 (QV hr) 0 [(0, .ref r0)] [] h) (r0 : Nat) (h : AH) (hf : f_X15_next_26 k0 r0 h = some hr) : V X G h0 (QV hr) 26 [(0, .ref r0)] [] h := by
  unfold f_X15_next_26 at hf
  refine C.seg (pe := 28) (lv' := [(0, .ref r0)]) (st' := [.ref r0, .ref r0]) [(.aload_n 0, 1, 0), (.dup, 1, 0)] (by decide +kernel) rfl ?_
  obtain ⟨x1, gx1, hf⟩ := Option.bind_eq_some_iff.mp hf
  refine C.rdI fr_1813 gx1 (by decide +kernel) rfl ?_
  refine C.seg (pe := 33) (lv' := [(0, .ref r0)]) (st' := [.int (x1 + 1), .ref r0]) [(.iconst 1, 1, 1), (.iadd, 1, 0)] (by decide +kernel) rfl ?_
  obtain ⟨h2, gh2, hf⟩ := Option.bind_eq_some_iff.mp hf
  refine C.putI fl_1813 gh2 (by decide +kernel) rfl ?_
  refine C.goto (off := (-36)) (tgt := 0) (by decide +kernel) (by decide) ?_
  exact hk0 r0 h2 hf
def f_X15_next_0 : Nat → Nat → AH → Option (AH)
  | 0, _, _ => none
  | n + 1, r0, h =>
    (gI 15 h r0 27).bind fun x1 =>
    b2 (f_X15_byteAt r0 x1 h) fun x2 h3 =>
    if x2 = 32 then
      f_X15_next_26 (f_X15_next_0 n) r0 h3
    else
      (gI 15 h3 r0 27).bind fun x4 =>
      b2 (f_X15_byteAt r0 x4 h3) fun x5 h6 =>
      if x5 = 10 then
        f_X15_next_26 (f_X15_next_0 n) r0 h6
      else
        (gI 15 h6 r0 27).bind fun x7 =>
        (pI 15 h6 r0 29 x7).bind fun h8 =>
        (pI 15 h8 r0 28 0).bind fun h9 =>
        (pI 15 h9 r0 30 0).bind fun h10 =>
        (gI 15 h10 r0 27).bind fun x11 =>
        b2 (f_X15_byteAt r0 x11 h10) fun x12 h13 =>
        if x12 = (-1) then
          (pI 15 h13 r0 28 1).bind fun h29 =>
          f_X15_next_286 h29
        else
          b2 (f_X15_isLetter x12 h13) fun x14 h15 =>
          if x14 = 0 then
            b2 (f_X15_isDigit x12 h15) fun x16 h17 =>
            if x16 = 0 then
              b2 (f_X15_isMark r0 x12 h17) fun x18 h19 =>
              if x18 = 0 then
                f_X15_next_286 h19
              else
                (pI 15 h19 r0 28 4).bind fun h20 =>
                (pI 15 h20 r0 30 x12).bind fun h21 =>
                (gI 15 h21 r0 27).bind fun x22 =>
                (pI 15 h21 r0 27 (x22 + 1)).bind fun h23 =>
                f_X15_next_286 h23
            else
              (pI 15 h17 r0 31 0).bind fun h25 =>
              f_X15_next_187 FU r0 0 h25
          else
            (pL 15 h15 r0 37 ((Int64.ofNat 0))).bind fun h27 =>
            f_X15_next_93 FU r0 0 h27
set_option maxRecDepth 100000 in
set_option maxHeartbeats 4000000 in
theorem l_X15_next_0 {X : MX} {l : Launch} {G : GX} {h0 : AH} {hr : AH} (C : Cx X G RX15 cX15_next 3 none 1 22 h0) (C2 : Cy X l "next" []) : ∀ (n : Nat) (r0 : Nat) (h : AH), f_X15_next_0 n r0 h = some hr → V X G h0 (QV hr) 0 [(0, .ref r0)] [] h := by
  intro n
  induction n with
  | zero => intro r0 h hf; rw [f_X15_next_0] at hf; cases hf
  | succ n ih =>
    intro r0 h hf
    rw [f_X15_next_0] at hf
    refine C.seg (pe := 2) (lv' := [(0, .ref r0)]) (st' := [.ref r0, .ref r0]) [(.aload_n 0, 1, 0), (.aload_n 0, 1, 0)] (by decide +kernel) rfl ?_
    obtain ⟨x1, gx1, hf⟩ := Option.bind_eq_some_iff.mp hf
    refine C.rdI fr_1813 gx1 (by decide +kernel) rfl ?_
    obtain ⟨x2, h3, gx2, hf⟩ := b2_some hf
    refine C.callVr C2 [.int x1] [] mv_2197 rfl (o_X15_byteAt gx2) (w_X15_byteAt gx2) (by omega) (by omega) (Nat.le_of_ble_eq_true rfl) (by decide +kernel) rfl ?_
    refine C.seg (pe := 10) (lv' := [(0, .ref r0)]) (st' := [.int 32, .int x2]) [(.bipush 32, 2, 32)] (by decide +kernel) rfl ?_
    refine C.icmp_eq (off := 16) (tgt := 26) (pf := 13) (by decide +kernel) (by decide) rfl (fun c32 => ?_) (fun c32 => ?_)
    · replace hf := ifp c32 hf
      exact l_X15_next_26 C C2 ih r0 h3 hf
    · replace hf := ifn c32 hf
      refine C.seg (pe := 15) (lv' := [(0, .ref r0)]) (st' := [.ref r0, .ref r0]) [(.aload_n 0, 1, 0), (.aload_n 0, 1, 0)] (by decide +kernel) rfl ?_
      obtain ⟨x4, gx4, hf⟩ := Option.bind_eq_some_iff.mp hf
      refine C.rdI fr_1813 gx4 (by decide +kernel) rfl ?_
      obtain ⟨x5, h6, gx5, hf⟩ := b2_some hf
      refine C.callVr C2 [.int x4] [] mv_2197 rfl (o_X15_byteAt gx5) (w_X15_byteAt gx5) (by omega) (by omega) (Nat.le_of_ble_eq_true rfl) (by decide +kernel) rfl ?_
      refine C.seg (pe := 23) (lv' := [(0, .ref r0)]) (st' := [.int 10, .int x5]) [(.bipush 10, 2, 10)] (by decide +kernel) rfl ?_
      refine C.icmp_ne (off := 16) (tgt := 39) (pf := 26) (by decide +kernel) (by decide) rfl (fun c31 => ?_) (fun c31 => ?_)
      · replace hf := ifn c31 hf
        refine C.seg (pe := 41) (lv' := [(0, .ref r0)]) (st' := [.ref r0, .ref r0]) [(.aload_n 0, 1, 0), (.aload_n 0, 1, 0)] (by decide +kernel) rfl ?_
        obtain ⟨x7, gx7, hf⟩ := Option.bind_eq_some_iff.mp hf
        refine C.rdI fr_1813 gx7 (by decide +kernel) rfl ?_
        obtain ⟨h8, gh8, hf⟩ := Option.bind_eq_some_iff.mp hf
        refine C.putI fl_1815 gh8 (by decide +kernel) rfl ?_
        refine C.seg (pe := 49) (lv' := [(0, .ref r0)]) (st' := [.int 0, .ref r0]) [(.aload_n 0, 1, 0), (.iconst 0, 1, 0)] (by decide +kernel) rfl ?_
        obtain ⟨h9, gh9, hf⟩ := Option.bind_eq_some_iff.mp hf
        refine C.putI fl_1814 gh9 (by decide +kernel) rfl ?_
        refine C.seg (pe := 54) (lv' := [(0, .ref r0)]) (st' := [.int 0, .ref r0]) [(.aload_n 0, 1, 0), (.iconst 0, 1, 0)] (by decide +kernel) rfl ?_
        obtain ⟨h10, gh10, hf⟩ := Option.bind_eq_some_iff.mp hf
        refine C.putI fl_1816 gh10 (by decide +kernel) rfl ?_
        refine C.seg (pe := 59) (lv' := [(0, .ref r0)]) (st' := [.ref r0, .ref r0]) [(.aload_n 0, 1, 0), (.aload_n 0, 1, 0)] (by decide +kernel) rfl ?_
        obtain ⟨x11, gx11, hf⟩ := Option.bind_eq_some_iff.mp hf
        refine C.rdI fr_1813 gx11 (by decide +kernel) rfl ?_
        obtain ⟨x12, h13, gx12, hf⟩ := b2_some hf
        refine C.callVr C2 [.int x11] [] mv_2197 rfl (o_X15_byteAt gx12) (w_X15_byteAt gx12) (by omega) (by omega) (Nat.le_of_ble_eq_true rfl) (by decide +kernel) rfl ?_
        refine C.seg (pe := 70) (lv' := [(2, .int 0), (1, .int x12), (0, .ref r0)]) (st' := [.int (-1), .int x12]) [(.istore_n 1, 1, 0), (.iconst 0, 1, 0), (.istore_n 2, 1, 0), (.iload_n 1, 1, 0), (.iconst (-1), 1, (-1))] (by decide +kernel) rfl ?_
        refine C.icmp_ne (off := 11) (tgt := 81) (pf := 73) (by decide +kernel) (by decide) rfl (fun c30 => ?_) (fun c30 => ?_)
        · replace hf := ifn c30 hf
          refine C.seg (pe := 82) (lv' := [(2, .int 0), (1, .int x12), (0, .ref r0)]) (st' := [.int x12]) [(.iload_n 1, 1, 0)] (by decide +kernel) rfl ?_
          obtain ⟨x14, h15, gx14, hf⟩ := b2_some hf
          refine C.callSr C2 [.int x12] [] ms_2201 rfl (w_X15_isLetter gx14) (by omega) (by omega) (Nat.le_of_ble_eq_true rfl) (by decide +kernel) rfl ?_
          refine C.if_eq (off := 90) (tgt := 175) (pf := 88) (by decide +kernel) (by decide) rfl (fun c28 => ?_) (fun c28 => ?_)
          · replace hf := ifp c28 hf
            refine C.seg (pe := 176) (lv' := [(2, .int 0), (1, .int x12), (0, .ref r0)]) (st' := [.int x12]) [(.iload_n 1, 1, 0)] (by decide +kernel) rfl ?_
            obtain ⟨x16, h17, gx16, hf⟩ := b2_some hf
            refine C.callSr C2 [.int x12] [] ms_2205 rfl (w_X15_isDigit gx16) (by omega) (by omega) (Nat.le_of_ble_eq_true rfl) (by decide +kernel) rfl ?_
            refine C.if_eq (off := 79) (tgt := 258) (pf := 182) (by decide +kernel) (by decide) rfl (fun c26 => ?_) (fun c26 => ?_)
            · replace hf := ifp c26 hf
              refine C.seg (pe := 260) (lv' := [(2, .int 0), (1, .int x12), (0, .ref r0)]) (st' := [.int x12, .ref r0]) [(.aload_n 0, 1, 0), (.iload_n 1, 1, 0)] (by decide +kernel) rfl ?_
              obtain ⟨x18, h19, gx18, hf⟩ := b2_some hf
              refine C.callVr C2 [.int x12] [] mv_2208 rfl (o_X15_isMark gx18) (w_X15_isMark gx18) (by omega) (by omega) (Nat.le_of_ble_eq_true rfl) (by decide +kernel) rfl ?_
              refine C.if_eq (off := 23) (tgt := 286) (pf := 266) (by decide +kernel) (by decide) rfl (fun c24 => ?_) (fun c24 => ?_)
              · replace hf := ifp c24 hf
                refine Vsub [] rfl ?_
                exact l_X15_next_286 C C2 h19 hf
              · replace hf := ifn c24 hf
                refine C.seg (pe := 268) (lv' := [(2, .int 0), (1, .int x12), (0, .ref r0)]) (st' := [.int 4, .ref r0]) [(.aload_n 0, 1, 0), (.iconst 4, 1, 4)] (by decide +kernel) rfl ?_
                obtain ⟨h20, gh20, hf⟩ := Option.bind_eq_some_iff.mp hf
                refine C.putI fl_1814 gh20 (by decide +kernel) rfl ?_
                refine C.seg (pe := 273) (lv' := [(2, .int 0), (1, .int x12), (0, .ref r0)]) (st' := [.int x12, .ref r0]) [(.aload_n 0, 1, 0), (.iload_n 1, 1, 0)] (by decide +kernel) rfl ?_
                obtain ⟨h21, gh21, hf⟩ := Option.bind_eq_some_iff.mp hf
                refine C.putI fl_1816 gh21 (by decide +kernel) rfl ?_
                refine C.seg (pe := 278) (lv' := [(2, .int 0), (1, .int x12), (0, .ref r0)]) (st' := [.ref r0, .ref r0]) [(.aload_n 0, 1, 0), (.dup, 1, 0)] (by decide +kernel) rfl ?_
                obtain ⟨x22, gx22, hf⟩ := Option.bind_eq_some_iff.mp hf
                refine C.rdI fr_1813 gx22 (by decide +kernel) rfl ?_
                refine C.seg (pe := 283) (lv' := [(2, .int 0), (1, .int x12), (0, .ref r0)]) (st' := [.int (x22 + 1), .ref r0]) [(.iconst 1, 1, 1), (.iadd, 1, 0)] (by decide +kernel) rfl ?_
                obtain ⟨h23, gh23, hf⟩ := Option.bind_eq_some_iff.mp hf
                refine C.putI fl_1813 gh23 (by decide +kernel) rfl ?_
                refine Vsub [] rfl ?_
                exact l_X15_next_286 C C2 h23 hf
            · replace hf := ifn c26 hf
              refine C.seg (pe := 184) (lv' := [(2, .int 0), (1, .int x12), (0, .ref r0)]) (st' := [.int 0, .ref r0]) [(.aload_n 0, 1, 0), (.iconst 0, 1, 0)] (by decide +kernel) rfl ?_
              obtain ⟨h25, gh25, hf⟩ := Option.bind_eq_some_iff.mp hf
              refine C.putI fl_1817 gh25 (by decide +kernel) rfl ?_
              refine Vsub [2, 0] rfl ?_
              exact l_X15_next_187 C C2 FU r0 0 h25 hf
          · replace hf := ifn c28 hf
            refine C.seg (pe := 90) (lv' := [(2, .int 0), (1, .int x12), (0, .ref r0)]) (st' := [.long ((Int64.ofNat 0)), .ref r0]) [(.aload_n 0, 1, 0), (.lconst 0, 1, 0)] (by decide +kernel) rfl ?_
            obtain ⟨h27, gh27, hf⟩ := Option.bind_eq_some_iff.mp hf
            refine C.putL fl_1823 gh27 (by decide +kernel) rfl ?_
            refine Vsub [2, 0] rfl ?_
            exact l_X15_next_93 C C2 FU r0 0 h27 hf
        · replace hf := ifp c30 hf
          refine C.seg (pe := 75) (lv' := [(2, .int 0), (1, .int x12), (0, .ref r0)]) (st' := [.int 1, .ref r0]) [(.aload_n 0, 1, 0), (.iconst 1, 1, 1)] (by decide +kernel) rfl ?_
          obtain ⟨h29, gh29, hf⟩ := Option.bind_eq_some_iff.mp hf
          refine C.putI fl_1814 gh29 (by decide +kernel) rfl ?_
          refine C.goto (off := 208) (tgt := 286) (by decide +kernel) (by decide) ?_
          refine Vsub [] rfl ?_
          exact l_X15_next_286 C C2 h29 hf
      · replace hf := ifp c31 hf
        exact l_X15_next_26 C C2 ih r0 h6 hf
def f_X15_next (a0 : Nat) (h : AH) : Option (AH) :=
  if isO 15 h a0 = true then
    f_X15_next_0 FU a0 h
  else none
set_option maxRecDepth 100000 in
set_option maxHeartbeats 4000000 in
theorem w_X15_next {l : Launch} {G : GX} {a0 : Nat} {h : AH} {hr : AH} (hf : f_X15_next a0 h = some hr) : Ct l G yX15_next 1 22 [.ref a0] h (QV hr) := by
  unfold f_X15_next at hf
  obtain ⟨ho, hf⟩ := ifO hf
  refine Ct_of (own := RX15) (cc := cX15_next) (nL := 3) (ret := none) rfl rfl k_2196 (Nat.le_of_ble_eq_true rfl) (fun X C2 C => ?_)
  show V X G h (QV hr) 0 [(0, .ref a0)] [] h
  exact l_X15_next_0 C C2 FU a0 h hf
theorem o_X15_next {a0 : Nat} {h : AH} {hr : AH} (hf : f_X15_next a0 h = some hr) : isO 15 h a0 = true := by
  unfold f_X15_next at hf
  exact (ifO hf).1
/-! WallHouseModel.stop(I)LWallHouseModel$Stop; -/
def f_X15_stop (a0 : Nat) (p1 : Int32) (h : AH) : Option (Option Nat × AH) :=
  if isO 15 h a0 = true then
    (gA 15 h a0 23).bind fun a1 =>
    (pI 14 h a1 6 p1).bind fun h2 =>
    (gA 15 h2 a0 23).bind fun a3 =>
    (gI 15 h2 a0 29).bind fun x4 =>
    (pI 14 h2 a3 7 x4).bind fun h5 =>
    (gA 15 h5 a0 23).bind fun a6 =>
    some (some a6, h5)
  else none
set_option maxRecDepth 100000 in
set_option maxHeartbeats 4000000 in
theorem w_X15_stop {l : Launch} {G : GX} {a0 : Nat} {p1 : Int32} {h : AH} {rr : Option Nat} {hr : AH} (hf : f_X15_stop a0 p1 h = some (rr, hr)) : Ct l G yX15_stop 0 0 [.ref a0, .int p1] h (QA rr hr) := by
  unfold f_X15_stop at hf
  obtain ⟨ho, hf⟩ := ifO hf
  refine Ct_of (own := RX15) (cc := cX15_stop) (nL := 2) (ret := (some (.object "WallHouseModel$Stop"))) rfl rfl k_2223 (Nat.le_of_ble_eq_true rfl) (fun X C2 C => ?_)
  show V X G h (QA rr hr) 0 [(0, .ref a0), (1, .int p1)] [] h
  refine C.seg (pe := 1) (lv' := [(0, .ref a0), (1, .int p1)]) (st' := [.ref a0]) [(.aload_n 0, 1, 0)] (by decide +kernel) rfl ?_
  obtain ⟨a1, ga1, hf⟩ := Option.bind_eq_some_iff.mp hf
  refine C.rdA fr_1809 ga1 (by decide +kernel) rfl ?_
  refine C.seg (pe := 5) (lv' := [(0, .ref a0), (1, .int p1)]) (st' := [.int p1, .ref a1]) [(.iload_n 1, 1, 0)] (by decide +kernel) rfl ?_
  obtain ⟨h2, gh2, hf⟩ := Option.bind_eq_some_iff.mp hf
  refine C.putI fl_1688 gh2 (by decide +kernel) rfl ?_
  refine C.seg (pe := 9) (lv' := [(0, .ref a0), (1, .int p1)]) (st' := [.ref a0]) [(.aload_n 0, 1, 0)] (by decide +kernel) rfl ?_
  obtain ⟨a3, ga3, hf⟩ := Option.bind_eq_some_iff.mp hf
  refine C.rdA fr_1809 ga3 (by decide +kernel) rfl ?_
  refine C.seg (pe := 13) (lv' := [(0, .ref a0), (1, .int p1)]) (st' := [.ref a0, .ref a3]) [(.aload_n 0, 1, 0)] (by decide +kernel) rfl ?_
  obtain ⟨x4, gx4, hf⟩ := Option.bind_eq_some_iff.mp hf
  refine C.rdI fr_1815 gx4 (by decide +kernel) rfl ?_
  obtain ⟨h5, gh5, hf⟩ := Option.bind_eq_some_iff.mp hf
  refine C.putI fl_1689 gh5 (by decide +kernel) rfl ?_
  refine C.seg (pe := 20) (lv' := [(0, .ref a0), (1, .int p1)]) (st' := [.ref a0]) [(.aload_n 0, 1, 0)] (by decide +kernel) rfl ?_
  obtain ⟨a6, ga6, hf⟩ := Option.bind_eq_some_iff.mp hf
  refine C.rdA fr_1809 ga6 (by decide +kernel) rfl ?_
  cases hf
  exact C.retA rfl (Or.inl ⟨_, rfl⟩) (by decide +kernel) ⟨rfl, rfl⟩
theorem o_X15_stop {a0 : Nat} {p1 : Int32} {h : AH} {rr : Option Nat} {hr : AH} (hf : f_X15_stop a0 p1 h = some (rr, hr)) : isO 15 h a0 = true := by
  unfold f_X15_stop at hf
  exact (ifO hf).1
/-! WallHouseModel.wordOf(Ljava/lang/String;)J -/
def f_X15_wordOf_4 (z : ZX) : Nat → Nat → Int64 → Int32 → AH → Option (Int64 × AH)
  | 0, _, _, _, _ => none
  | n + 1, r0, j1, i3, h =>
    b2 (f_J0_length_8abf5 r0 h) fun x1 h2 =>
    if x1 ≤ i3 then
      some (j1, h2)
    else
      b2 (f_J0_charAt_5068e z r0 i3 h2) fun x3 h4 =>
      lt ((((32 : Int64)) * j1) + (((x3 - 97) + 1).toInt64) : Int64) fun y5 =>
      (f_X15_wordOf_4 z n) r0 y5 (i3 + 1) h4
set_option maxRecDepth 100000 in
set_option maxHeartbeats 4000000 in
theorem l_X15_wordOf_4 {X : MX} {l : Launch} {G : GX} {h0 : AH} {rr : Int64} {hr : AH} (C : Cx X G RX15 cX15_wordOf 4 (some .long) 4 85 h0) (C2 : Cy X l "wordOf" []) : ∀ (n : Nat) (r0 : Nat) (j1 : Int64) (i3 : Int32) (h : AH), f_X15_wordOf_4 G.2.2 n r0 j1 i3 h = some (rr, hr) → V X G h0 (QJ rr hr) 4 [(0, .ref r0), (1, .long j1), (3, .int i3)] [] h := by
  intro n
  induction n with
  | zero => intro r0 j1 i3 h hf; rw [f_X15_wordOf_4] at hf; cases hf
  | succ n ih =>
    intro r0 j1 i3 h hf
    rw [f_X15_wordOf_4] at hf
    refine C.seg (pe := 6) (lv' := [(0, .ref r0), (1, .long j1), (3, .int i3)]) (st' := [.ref r0, .int i3]) [(.iload_n 3, 1, 0), (.aload_n 0, 1, 0)] (by decide +kernel) rfl ?_
    obtain ⟨x1, h2, gx1, hf⟩ := b2_some hf
    refine C.callTr C2 [] [.int i3] mt_2232 rfl (o_J0_length_8abf5 gx1) (w_J0_length_8abf5 gx1) (by omega) (by omega) (Nat.le_of_ble_eq_true rfl) (by decide +kernel) rfl ?_
    refine C.icmp_ge (off := 27) (tgt := 36) (pf := 12) (by decide +kernel) (by decide) rfl (fun c6 => ?_) (fun c6 => ?_)
    · replace hf := ifp c6 hf
      refine C.seg (pe := 37) (lv' := [(0, .ref r0), (1, .long j1), (3, .int i3)]) (st' := [.long j1]) [(.lload_n 1, 1, 0)] (by decide +kernel) rfl ?_
      cases hf
      exact C.retL rfl (by decide +kernel) ⟨rfl, rfl⟩
    · replace hf := ifn c6 hf
      refine C.ldcL k_2204 (by decide +kernel) rfl ?_
      refine C.seg (pe := 19) (lv' := [(0, .ref r0), (1, .long j1), (3, .int i3)]) (st' := [.int i3, .ref r0, .long (((32 : Int64)) * j1)]) [(.lload_n 1, 1, 0), (.lmul, 1, 0), (.aload_n 0, 1, 0), (.iload_n 3, 1, 0)] (by decide +kernel) rfl ?_
      obtain ⟨x3, h4, gx3, hf⟩ := b2_some hf
      refine C.callTr C2 [.int i3] [.long (((32 : Int64)) * j1)] mt_2233 rfl (o_J0_charAt_5068e gx3) (w_J0_charAt_5068e gx3) (by omega) (by omega) (Nat.le_of_ble_eq_true rfl) (by decide +kernel) rfl ?_
      refine C.seg (pe := 29) (lv' := [(0, .ref r0), (1, .long j1), (3, .int i3)]) (st' := [.long ((((32 : Int64)) * j1) + (((x3 - 97) + 1).toInt64))]) [(.bipush 97, 2, 97), (.isub, 1, 0), (.iconst 1, 1, 1), (.iadd, 1, 0), (.i2l, 1, 0), (.ladd, 1, 0)] (by decide +kernel) rfl ?_
      refine Vtopl (fun y5 ey5 => ?_)
      replace hf := lt_ap ey5 hf
      clear ey5
      refine C.seg (pe := 33) (lv' := [(3, .int (i3 + 1)), (1, .long y5), (0, .ref r0)]) (st' := []) [(.lstore_n 1, 1, 0), (.iinc 3 1, 3, 1)] (by decide +kernel) rfl ?_
      refine C.goto (off := (-29)) (tgt := 4) (by decide +kernel) (by decide) ?_
      refine Vsub [2, 1, 0] rfl ?_
      exact ih r0 y5 (i3 + 1) h4 hf
def f_X15_wordOf (z : ZX) (p1 : Nat) (h : AH) : Option (Int64 × AH) :=
  lt ((Int64.ofNat 0) : Int64) fun y1 =>
  f_X15_wordOf_4 z FU p1 y1 0 h
set_option maxRecDepth 100000 in
set_option maxHeartbeats 4000000 in
theorem w_X15_wordOf {l : Launch} {G : GX} {p1 : Nat} {h : AH} {rr : Int64} {hr : AH} (hf : f_X15_wordOf G.2.2 p1 h = some (rr, hr)) : Ct l G yX15_wordOf 4 85 [.ref p1] h (QJ rr hr) := by
  unfold f_X15_wordOf at hf
  refine Ct_of (own := RX15) (cc := cX15_wordOf) (nL := 4) (ret := (some .long)) rfl rfl k_2231 (Nat.le_of_ble_eq_true rfl) (fun X C2 C => ?_)
  show V X G h (QJ rr hr) 0 [(0, .ref p1)] [] h
  refine C.seg (pe := 1) (lv' := [(0, .ref p1)]) (st' := [.long ((Int64.ofNat 0))]) [(.lconst 0, 1, 0)] (by decide +kernel) rfl ?_
  refine Vtopl (fun y1 ey1 => ?_)
  replace hf := lt_ap ey1 hf
  clear ey1
  refine C.seg (pe := 4) (lv' := [(3, .int 0), (1, .long y1), (0, .ref p1)]) (st' := []) [(.lstore_n 1, 1, 0), (.iconst 0, 1, 0), (.istore_n 3, 1, 0)] (by decide +kernel) rfl ?_
  refine Vsub [2, 1, 0] rfl ?_
  exact l_X15_wordOf_4 C C2 FU p1 y1 0 h hf
/-! WallHouseModel.isWord(Ljava/lang/String;)Z -/
def f_X15_isWord_25 (z : ZX) (si0 : Int32) (h : AH) : Option (Int32 × AH) :=
  (ckZ si0).bind fun x1 =>
  some (x1, h)
set_option maxRecDepth 100000 in
set_option maxHeartbeats 4000000 in
theorem l_X15_isWord_25 {X : MX} {l : Launch} {G : GX} {h0 : AH} {rr : Int32} {hr : AH} (C : Cx X G RX15 cX15_isWord 2 (some .boolean) 5 108 h0) (C2 : Cy X l "isWord" []) (si0 : Int32) (h : AH) (hf : f_X15_isWord_25 G.2.2 si0 h = some (rr, hr)) : V X G h0 (QI rr hr) 25 [] [.int si0] h := by
  unfold f_X15_isWord_25 at hf
  obtain ⟨x1, gx1, hf⟩ := Option.bind_eq_some_iff.mp hf
  have ex1 := ckZ_eq gx1
  subst ex1
  cases hf
  exact C.retZ rfl gx1 (by decide +kernel) ⟨rfl, rfl⟩
def f_X15_isWord_24 (z : ZX) (h : AH) : Option (Int32 × AH) :=
  f_X15_isWord_25 z 0 h
set_option maxRecDepth 100000 in
set_option maxHeartbeats 4000000 in
theorem l_X15_isWord_24 {X : MX} {l : Launch} {G : GX} {h0 : AH} {rr : Int32} {hr : AH} (C : Cx X G RX15 cX15_isWord 2 (some .boolean) 5 108 h0) (C2 : Cy X l "isWord" []) (h : AH) (hf : f_X15_isWord_24 G.2.2 h = some (rr, hr)) : V X G h0 (QI rr hr) 24 [] [] h := by
  unfold f_X15_isWord_24 at hf
  refine C.seg (pe := 25) (lv' := []) (st' := [.int 0]) [(.iconst 0, 1, 0)] (by decide +kernel) rfl ?_
  exact l_X15_isWord_25 C C2 0 h hf
def f_X15_isWord (z : ZX) (a0 : Nat) (p1 : Nat) (h : AH) : Option (Int32 × AH) :=
  if isO 15 h a0 = true then
    (gI 15 h a0 28).bind fun x1 =>
    if x1 = 2 then
      (gL 15 h a0 37).bind fun y2 =>
      b2 (f_X15_wordOf z p1 h) fun y3 h4 =>
      if lg_cmp y2 y3 = 0 then
        f_X15_isWord_25 z 1 h4
      else
        f_X15_isWord_24 z h4
    else
      f_X15_isWord_24 z h
  else none
set_option maxRecDepth 100000 in
set_option maxHeartbeats 4000000 in
theorem w_X15_isWord {l : Launch} {G : GX} {a0 : Nat} {p1 : Nat} {h : AH} {rr : Int32} {hr : AH} (hf : f_X15_isWord G.2.2 a0 p1 h = some (rr, hr)) : Ct l G yX15_isWord 5 108 [.ref a0, .ref p1] h (QI rr hr) := by
  unfold f_X15_isWord at hf
  obtain ⟨ho, hf⟩ := ifO hf
  refine Ct_of (own := RX15) (cc := cX15_isWord) (nL := 2) (ret := (some .boolean)) rfl rfl k_2228 (Nat.le_of_ble_eq_true rfl) (fun X C2 C => ?_)
  show V X G h (QI rr hr) 0 [(0, .ref a0), (1, .ref p1)] [] h
  refine C.seg (pe := 1) (lv' := [(0, .ref a0), (1, .ref p1)]) (st' := [.ref a0]) [(.aload_n 0, 1, 0)] (by decide +kernel) rfl ?_
  obtain ⟨x1, gx1, hf⟩ := Option.bind_eq_some_iff.mp hf
  refine C.rdI fr_1814 gx1 (by decide +kernel) rfl ?_
  refine C.seg (pe := 5) (lv' := [(0, .ref a0), (1, .ref p1)]) (st' := [.int 2, .int x1]) [(.iconst 2, 1, 2)] (by decide +kernel) rfl ?_
  refine C.icmp_ne (off := 19) (tgt := 24) (pf := 8) (by decide +kernel) (by decide) rfl (fun c6 => ?_) (fun c6 => ?_)
  · replace hf := ifn c6 hf
    refine Vsub [] rfl ?_
    exact l_X15_isWord_24 C C2 h hf
  · replace hf := ifp c6 hf
    refine C.seg (pe := 9) (lv' := [(0, .ref a0), (1, .ref p1)]) (st' := [.ref a0]) [(.aload_n 0, 1, 0)] (by decide +kernel) rfl ?_
    obtain ⟨y2, gy2, hf⟩ := Option.bind_eq_some_iff.mp hf
    refine C.rdL fr_1823 gy2 (by decide +kernel) rfl ?_
    refine C.seg (pe := 13) (lv' := [(0, .ref a0), (1, .ref p1)]) (st' := [.ref p1, .long y2]) [(.aload_n 1, 1, 0)] (by decide +kernel) rfl ?_
    obtain ⟨y3, h4, gy3, hf⟩ := b2_some hf
    refine C.callSr C2 [.ref p1] [.long y2] ms_2229 rfl (w_X15_wordOf gy3) (by omega) (by omega) (Nat.le_of_ble_eq_true rfl) (by decide +kernel) rfl ?_
    refine C.seg (pe := 17) (lv' := [(0, .ref a0), (1, .ref p1)]) (st' := [.int (lg_cmp y2 y3)]) [(.lcmp, 1, 0)] (by decide +kernel) rfl ?_
    refine C.if_ne (off := 7) (tgt := 24) (pf := 20) (by decide +kernel) (by decide) rfl (fun c5 => ?_) (fun c5 => ?_)
    · replace hf := ifn c5 hf
      refine Vsub [] rfl ?_
      exact l_X15_isWord_24 C C2 h4 hf
    · replace hf := ifp c5 hf
      refine C.seg (pe := 21) (lv' := [(0, .ref a0), (1, .ref p1)]) (st' := [.int 1]) [(.iconst 1, 1, 1)] (by decide +kernel) rfl ?_
      refine C.goto (off := 4) (tgt := 25) (by decide +kernel) (by decide) ?_
      refine Vsub [] rfl ?_
      exact l_X15_isWord_25 C C2 1 h4 hf
theorem o_X15_isWord {z : ZX} {a0 : Nat} {p1 : Nat} {h : AH} {rr : Int32} {hr : AH} (hf : f_X15_isWord z a0 p1 h = some (rr, hr)) : isO 15 h a0 = true := by
  unfold f_X15_isWord at hf
  exact (ifO hf).1
/-! WallHouseModel.readTint(I)V -/
def f_X15_readTint (a0 : Nat) (p1 : Int32) (h : AH) : Option (Option Nat × AH) :=
  if isO 15 h a0 = true then
    (gI 15 h a0 28).bind fun x1 =>
    if x1 = 3 then
      (gI 15 h a0 31).bind fun x2 =>
      if x2 < 8 then
        (gA 15 h a0 40).bind fun a3 =>
        (gA 12 h a3 3).bind fun a4 =>
        (gI 15 h a0 31).bind fun x5 =>
        (sI 0 h a4 p1 x5).bind fun h6 =>
        (f_X15_next a0 h6).bind fun h7 =>
        some (none, h7)
      else
        b2 (f_X15_stop a0 3 h) fun q8 h9 =>
        tr q8 (
          none) fun a10 =>
        some (some a10, h9)
    else
      b2 (f_X15_stop a0 1 h) fun q12 h13 =>
      tr q12 (
        none) fun a14 =>
      some (some a14, h13)
  else none
set_option maxRecDepth 100000 in
set_option maxHeartbeats 4000000 in
theorem w_X15_readTint {l : Launch} {G : GX} {a0 : Nat} {p1 : Int32} {h : AH} {e1 : Option Nat} {hr : AH} (hf : f_X15_readTint a0 p1 h = some (e1, hr)) : Ct l G yX15_readTint 2 44 [.ref a0, .int p1] h (QT e1 hr) := by
  unfold f_X15_readTint at hf
  obtain ⟨ho, hf⟩ := ifO hf
  refine Ct_of (own := RX15) (cc := cX15_readTint) (nL := 2) (ret := none) rfl rfl k_2241 (Nat.le_of_ble_eq_true rfl) (fun X C2 C => ?_)
  show V X G h (QT e1 hr) 0 [(0, .ref a0), (1, .int p1)] [] h
  refine C.seg (pe := 1) (lv' := [(0, .ref a0), (1, .int p1)]) (st' := [.ref a0]) [(.aload_n 0, 1, 0)] (by decide +kernel) rfl ?_
  obtain ⟨x1, gx1, hf⟩ := Option.bind_eq_some_iff.mp hf
  refine C.rdI fr_1814 gx1 (by decide +kernel) rfl ?_
  refine C.seg (pe := 5) (lv' := [(0, .ref a0), (1, .int p1)]) (st' := [.int 3, .int x1]) [(.iconst 3, 1, 3)] (by decide +kernel) rfl ?_
  refine C.icmp_eq (off := 9) (tgt := 14) (pf := 8) (by decide +kernel) (by decide) rfl (fun c15 => ?_) (fun c15 => ?_)
  · replace hf := ifp c15 hf
    refine C.seg (pe := 15) (lv' := [(0, .ref a0), (1, .int p1)]) (st' := [.ref a0]) [(.aload_n 0, 1, 0)] (by decide +kernel) rfl ?_
    obtain ⟨x2, gx2, hf⟩ := Option.bind_eq_some_iff.mp hf
    refine C.rdI fr_1817 gx2 (by decide +kernel) rfl ?_
    refine C.seg (pe := 20) (lv' := [(0, .ref a0), (1, .int p1)]) (st' := [.int 8, .int x2]) [(.bipush 8, 2, 8)] (by decide +kernel) rfl ?_
    refine C.icmp_lt (off := 9) (tgt := 29) (pf := 23) (by decide +kernel) (by decide) rfl (fun c11 => ?_) (fun c11 => ?_)
    · replace hf := ifp c11 hf
      refine C.seg (pe := 30) (lv' := [(0, .ref a0), (1, .int p1)]) (st' := [.ref a0]) [(.aload_n 0, 1, 0)] (by decide +kernel) rfl ?_
      obtain ⟨a3, ga3, hf⟩ := Option.bind_eq_some_iff.mp hf
      refine C.rdA fr_1826 ga3 (by decide +kernel) rfl ?_
      obtain ⟨a4, ga4, hf⟩ := Option.bind_eq_some_iff.mp hf
      refine C.rdA fr_1720 ga4 (by decide +kernel) rfl ?_
      refine C.seg (pe := 38) (lv' := [(0, .ref a0), (1, .int p1)]) (st' := [.ref a0, .int p1, .ref a4]) [(.iload_n 1, 1, 0), (.aload_n 0, 1, 0)] (by decide +kernel) rfl ?_
      obtain ⟨x5, gx5, hf⟩ := Option.bind_eq_some_iff.mp hf
      refine C.rdI fr_1817 gx5 (by decide +kernel) rfl ?_
      obtain ⟨h6, gh6, hf⟩ := Option.bind_eq_some_iff.mp hf
      refine C.ast gh6 (by decide +kernel) rfl ?_
      refine C.seg (pe := 43) (lv' := [(0, .ref a0), (1, .int p1)]) (st' := [.ref a0]) [(.aload_n 0, 1, 0)] (by decide +kernel) rfl ?_
      obtain ⟨h7, gh7, hf⟩ := Option.bind_eq_some_iff.mp hf
      refine C.callVr C2 [] [] mv_2193 rfl (o_X15_next gh7) (w_X15_next gh7) (by omega) (by omega) (Nat.le_of_ble_eq_true rfl) (by decide +kernel) rfl ?_
      cases hf
      exact C.retV rfl (by decide +kernel) ⟨rfl, rfl⟩
    · replace hf := ifn c11 hf
      refine C.seg (pe := 25) (lv' := [(0, .ref a0), (1, .int p1)]) (st' := [.int 3, .ref a0]) [(.aload_n 0, 1, 0), (.iconst 3, 1, 3)] (by decide +kernel) rfl ?_
      obtain ⟨q8, h9, gq8, hf⟩ := b2_some hf
      cases q8 with
      | none =>
        replace hf := tr_none hf
        refine C.callVr C2 [.int 3] [] mv_2220 rfl (o_X15_stop gq8) (w_X15_stop gq8) (by omega) (by omega) (Nat.le_of_ble_eq_true rfl) (by decide +kernel) rfl ?_
        cases hf
      | some a10 =>
        replace hf := tr_some hf
        refine C.callVr C2 [.int 3] [] mv_2220 rfl (o_X15_stop gq8) (w_X15_stop gq8) (by omega) (by omega) (Nat.le_of_ble_eq_true rfl) (by decide +kernel) rfl ?_
        cases hf
        exact C.athrow C2 (by decide +kernel) ⟨rfl, rfl⟩
  · replace hf := ifn c15 hf
    refine C.seg (pe := 10) (lv' := [(0, .ref a0), (1, .int p1)]) (st' := [.int 1, .ref a0]) [(.aload_n 0, 1, 0), (.iconst 1, 1, 1)] (by decide +kernel) rfl ?_
    obtain ⟨q12, h13, gq12, hf⟩ := b2_some hf
    cases q12 with
    | none =>
      replace hf := tr_none hf
      refine C.callVr C2 [.int 1] [] mv_2220 rfl (o_X15_stop gq12) (w_X15_stop gq12) (by omega) (by omega) (Nat.le_of_ble_eq_true rfl) (by decide +kernel) rfl ?_
      cases hf
    | some a14 =>
      replace hf := tr_some hf
      refine C.callVr C2 [.int 1] [] mv_2220 rfl (o_X15_stop gq12) (w_X15_stop gq12) (by omega) (by omega) (Nat.le_of_ble_eq_true rfl) (by decide +kernel) rfl ?_
      cases hf
      exact C.athrow C2 (by decide +kernel) ⟨rfl, rfl⟩
theorem o_X15_readTint {a0 : Nat} {p1 : Int32} {h : AH} {e1 : Option Nat} {hr : AH} (hf : f_X15_readTint a0 p1 h = some (e1, hr)) : isO 15 h a0 = true := by
  unfold f_X15_readTint at hf
  exact (ifO hf).1
/-! WallHouseModel.is(I)Z -/
def f_X15_is_21 (si0 : Int32) (h : AH) : Option (Int32 × AH) :=
  (ckZ si0).bind fun x1 =>
  some (x1, h)
set_option maxRecDepth 100000 in
set_option maxHeartbeats 4000000 in
theorem l_X15_is_21 {X : MX} {l : Launch} {G : GX} {h0 : AH} {rr : Int32} {hr : AH} (C : Cx X G RX15 cX15_is 2 (some .boolean) 0 0 h0) (C2 : Cy X l "is" []) (si0 : Int32) (h : AH) (hf : f_X15_is_21 si0 h = some (rr, hr)) : V X G h0 (QI rr hr) 21 [] [.int si0] h := by
  unfold f_X15_is_21 at hf
  obtain ⟨x1, gx1, hf⟩ := Option.bind_eq_some_iff.mp hf
  have ex1 := ckZ_eq gx1
  subst ex1
  cases hf
  exact C.retZ rfl gx1 (by decide +kernel) ⟨rfl, rfl⟩
def f_X15_is_20 (h : AH) : Option (Int32 × AH) :=
  f_X15_is_21 0 h
set_option maxRecDepth 100000 in
set_option maxHeartbeats 4000000 in
theorem l_X15_is_20 {X : MX} {l : Launch} {G : GX} {h0 : AH} {rr : Int32} {hr : AH} (C : Cx X G RX15 cX15_is 2 (some .boolean) 0 0 h0) (C2 : Cy X l "is" []) (h : AH) (hf : f_X15_is_20 h = some (rr, hr)) : V X G h0 (QI rr hr) 20 [] [] h := by
  unfold f_X15_is_20 at hf
  refine C.seg (pe := 21) (lv' := []) (st' := [.int 0]) [(.iconst 0, 1, 0)] (by decide +kernel) rfl ?_
  exact l_X15_is_21 C C2 0 h hf
def f_X15_is (a0 : Nat) (p1 : Int32) (h : AH) : Option (Int32 × AH) :=
  if isO 15 h a0 = true then
    (gI 15 h a0 28).bind fun x1 =>
    if x1 = 4 then
      (gI 15 h a0 30).bind fun x2 =>
      if x2 = p1 then
        f_X15_is_21 1 h
      else
        f_X15_is_20 h
    else
      f_X15_is_20 h
  else none
set_option maxRecDepth 100000 in
set_option maxHeartbeats 4000000 in
theorem w_X15_is {l : Launch} {G : GX} {a0 : Nat} {p1 : Int32} {h : AH} {rr : Int32} {hr : AH} (hf : f_X15_is a0 p1 h = some (rr, hr)) : Ct l G yX15_is 0 0 [.ref a0, .int p1] h (QI rr hr) := by
  unfold f_X15_is at hf
  obtain ⟨ho, hf⟩ := ifO hf
  refine Ct_of (own := RX15) (cc := cX15_is) (nL := 2) (ret := (some .boolean)) rfl rfl k_2261 (Nat.le_of_ble_eq_true rfl) (fun X C2 C => ?_)
  show V X G h (QI rr hr) 0 [(0, .ref a0), (1, .int p1)] [] h
  refine C.seg (pe := 1) (lv' := [(0, .ref a0), (1, .int p1)]) (st' := [.ref a0]) [(.aload_n 0, 1, 0)] (by decide +kernel) rfl ?_
  obtain ⟨x1, gx1, hf⟩ := Option.bind_eq_some_iff.mp hf
  refine C.rdI fr_1814 gx1 (by decide +kernel) rfl ?_
  refine C.seg (pe := 5) (lv' := [(0, .ref a0), (1, .int p1)]) (st' := [.int 4, .int x1]) [(.iconst 4, 1, 4)] (by decide +kernel) rfl ?_
  refine C.icmp_ne (off := 15) (tgt := 20) (pf := 8) (by decide +kernel) (by decide) rfl (fun c4 => ?_) (fun c4 => ?_)
  · replace hf := ifn c4 hf
    refine Vsub [] rfl ?_
    exact l_X15_is_20 C C2 h hf
  · replace hf := ifp c4 hf
    refine C.seg (pe := 9) (lv' := [(0, .ref a0), (1, .int p1)]) (st' := [.ref a0]) [(.aload_n 0, 1, 0)] (by decide +kernel) rfl ?_
    obtain ⟨x2, gx2, hf⟩ := Option.bind_eq_some_iff.mp hf
    refine C.rdI fr_1816 gx2 (by decide +kernel) rfl ?_
    refine C.seg (pe := 13) (lv' := [(0, .ref a0), (1, .int p1)]) (st' := [.int p1, .int x2]) [(.iload_n 1, 1, 0)] (by decide +kernel) rfl ?_
    refine C.icmp_ne (off := 7) (tgt := 20) (pf := 16) (by decide +kernel) (by decide) rfl (fun c3 => ?_) (fun c3 => ?_)
    · replace hf := ifn c3 hf
      refine Vsub [] rfl ?_
      exact l_X15_is_20 C C2 h hf
    · replace hf := ifp c3 hf
      refine C.seg (pe := 17) (lv' := [(0, .ref a0), (1, .int p1)]) (st' := [.int 1]) [(.iconst 1, 1, 1)] (by decide +kernel) rfl ?_
      refine C.goto (off := 4) (tgt := 21) (by decide +kernel) (by decide) ?_
      refine Vsub [] rfl ?_
      exact l_X15_is_21 C C2 1 h hf
theorem o_X15_is {a0 : Nat} {p1 : Int32} {h : AH} {rr : Int32} {hr : AH} (hf : f_X15_is a0 p1 h = some (rr, hr)) : isO 15 h a0 = true := by
  unfold f_X15_is at hf
  exact (ifO hf).1
/-! WallHouseModel.need(I)V -/
def f_X15_need (a0 : Nat) (p1 : Int32) (h : AH) : Option (Option Nat × AH) :=
  if isO 15 h a0 = true then
    b2 (f_X15_is a0 p1 h) fun x1 h2 =>
    if x1 = 0 then
      b2 (f_X15_stop a0 1 h2) fun q4 h5 =>
      tr q4 (
        none) fun a6 =>
      some (some a6, h5)
    else
      (f_X15_next a0 h2).bind fun h3 =>
      some (none, h3)
  else none
set_option maxRecDepth 100000 in
set_option maxHeartbeats 4000000 in
theorem w_X15_need {l : Launch} {G : GX} {a0 : Nat} {p1 : Int32} {h : AH} {e1 : Option Nat} {hr : AH} (hf : f_X15_need a0 p1 h = some (e1, hr)) : Ct l G yX15_need 2 44 [.ref a0, .int p1] h (QT e1 hr) := by
  unfold f_X15_need at hf
  obtain ⟨ho, hf⟩ := ifO hf
  refine Ct_of (own := RX15) (cc := cX15_need) (nL := 2) (ret := none) rfl rfl k_2265 (Nat.le_of_ble_eq_true rfl) (fun X C2 C => ?_)
  show V X G h (QT e1 hr) 0 [(0, .ref a0), (1, .int p1)] [] h
  refine C.seg (pe := 2) (lv' := [(0, .ref a0), (1, .int p1)]) (st' := [.int p1, .ref a0]) [(.aload_n 0, 1, 0), (.iload_n 1, 1, 0)] (by decide +kernel) rfl ?_
  obtain ⟨x1, h2, gx1, hf⟩ := b2_some hf
  refine C.callVr C2 [.int p1] [] mv_2258 rfl (o_X15_is gx1) (w_X15_is gx1) (by omega) (by omega) (Nat.le_of_ble_eq_true rfl) (by decide +kernel) rfl ?_
  refine C.if_ne (off := 9) (tgt := 14) (pf := 8) (by decide +kernel) (by decide) rfl (fun c7 => ?_) (fun c7 => ?_)
  · replace hf := ifn c7 hf
    refine C.seg (pe := 15) (lv' := [(0, .ref a0), (1, .int p1)]) (st' := [.ref a0]) [(.aload_n 0, 1, 0)] (by decide +kernel) rfl ?_
    obtain ⟨h3, gh3, hf⟩ := Option.bind_eq_some_iff.mp hf
    refine C.callVr C2 [] [] mv_2193 rfl (o_X15_next gh3) (w_X15_next gh3) (by omega) (by omega) (Nat.le_of_ble_eq_true rfl) (by decide +kernel) rfl ?_
    cases hf
    exact C.retV rfl (by decide +kernel) ⟨rfl, rfl⟩
  · replace hf := ifp c7 hf
    refine C.seg (pe := 10) (lv' := [(0, .ref a0), (1, .int p1)]) (st' := [.int 1, .ref a0]) [(.aload_n 0, 1, 0), (.iconst 1, 1, 1)] (by decide +kernel) rfl ?_
    obtain ⟨q4, h5, gq4, hf⟩ := b2_some hf
    cases q4 with
    | none =>
      replace hf := tr_none hf
      refine C.callVr C2 [.int 1] [] mv_2220 rfl (o_X15_stop gq4) (w_X15_stop gq4) (by omega) (by omega) (Nat.le_of_ble_eq_true rfl) (by decide +kernel) rfl ?_
      cases hf
    | some a6 =>
      replace hf := tr_some hf
      refine C.callVr C2 [.int 1] [] mv_2220 rfl (o_X15_stop gq4) (w_X15_stop gq4) (by omega) (by omega) (Nat.le_of_ble_eq_true rfl) (by decide +kernel) rfl ?_
      cases hf
      exact C.athrow C2 (by decide +kernel) ⟨rfl, rfl⟩
theorem o_X15_need {a0 : Nat} {p1 : Int32} {h : AH} {e1 : Option Nat} {hr : AH} (hf : f_X15_need a0 p1 h = some (e1, hr)) : isO 15 h a0 = true := by
  unfold f_X15_need at hf
  exact (ifO hf).1
/-! WallHouseModel.isKept()Z -/
def f_X15_isKept_75 (z : ZX) (si0 : Int32) (h : AH) : Option (Int32 × AH) :=
  (ckZ si0).bind fun x1 =>
  some (x1, h)
set_option maxRecDepth 100000 in
set_option maxHeartbeats 4000000 in
theorem l_X15_isKept_75 {X : MX} {l : Launch} {G : GX} {h0 : AH} {rr : Int32} {hr : AH} (C : Cx X G RX15 cX15_isKept 1 (some .boolean) 6 129 h0) (C2 : Cy X l "isKept" []) (si0 : Int32) (h : AH) (hf : f_X15_isKept_75 G.2.2 si0 h = some (rr, hr)) : V X G h0 (QI rr hr) 75 [] [.int si0] h := by
  unfold f_X15_isKept_75 at hf
  obtain ⟨x1, gx1, hf⟩ := Option.bind_eq_some_iff.mp hf
  have ex1 := ckZ_eq gx1
  subst ex1
  cases hf
  exact C.retZ rfl gx1 (by decide +kernel) ⟨rfl, rfl⟩
def f_X15_isKept_70 (z : ZX) (h : AH) : Option (Int32 × AH) :=
  f_X15_isKept_75 z 1 h
set_option maxRecDepth 100000 in
set_option maxHeartbeats 4000000 in
theorem l_X15_isKept_70 {X : MX} {l : Launch} {G : GX} {h0 : AH} {rr : Int32} {hr : AH} (C : Cx X G RX15 cX15_isKept 1 (some .boolean) 6 129 h0) (C2 : Cy X l "isKept" []) (h : AH) (hf : f_X15_isKept_70 G.2.2 h = some (rr, hr)) : V X G h0 (QI rr hr) 70 [] [] h := by
  unfold f_X15_isKept_70 at hf
  refine C.seg (pe := 71) (lv' := []) (st' := [.int 1]) [(.iconst 1, 1, 1)] (by decide +kernel) rfl ?_
  refine C.goto (off := 4) (tgt := 75) (by decide +kernel) (by decide) ?_
  exact l_X15_isKept_75 C C2 1 h hf
def f_X15_isKept (z : ZX) (a0 : Nat) (h : AH) : Option (Int32 × AH) :=
  if isO 15 h a0 = true then
    b2 (f_X15_isWord z a0 ((z.1 16)) h) fun x1 h2 =>
    if x1 = 0 then
      b2 (f_X15_isWord z a0 ((z.1 17)) h2) fun x3 h4 =>
      if x3 = 0 then
        b2 (f_X15_isWord z a0 ((z.1 18)) h4) fun x5 h6 =>
        if x5 = 0 then
          b2 (f_X15_isWord z a0 ((z.1 19)) h6) fun x7 h8 =>
          if x7 = 0 then
            b2 (f_X15_isWord z a0 ((z.1 21)) h8) fun x9 h10 =>
            if x9 = 0 then
              b2 (f_X15_isWord z a0 ((z.1 22)) h10) fun x11 h12 =>
              if x11 = 0 then
                b2 (f_X15_isWord z a0 ((z.1 20)) h12) fun x13 h14 =>
                if x13 = 0 then
                  f_X15_isKept_75 z 0 h14
                else
                  f_X15_isKept_70 z h14
              else
                f_X15_isKept_70 z h12
            else
              f_X15_isKept_70 z h10
          else
            f_X15_isKept_70 z h8
        else
          f_X15_isKept_70 z h6
      else
        f_X15_isKept_70 z h4
    else
      f_X15_isKept_70 z h2
  else none
set_option maxRecDepth 100000 in
set_option maxHeartbeats 4000000 in
theorem w_X15_isKept {l : Launch} {G : GX} {a0 : Nat} {h : AH} {rr : Int32} {hr : AH} (hf : f_X15_isKept G.2.2 a0 h = some (rr, hr)) : Ct l G yX15_isKept 6 129 [.ref a0] h (QI rr hr) := by
  unfold f_X15_isKept at hf
  obtain ⟨ho, hf⟩ := ifO hf
  refine Ct_of (own := RX15) (cc := cX15_isKept) (nL := 1) (ret := (some .boolean)) rfl rfl k_2269 (Nat.le_of_ble_eq_true rfl) (fun X C2 C => ?_)
  show V X G h (QI rr hr) 0 [(0, .ref a0)] [] h
  refine C.seg (pe := 1) (lv' := [(0, .ref a0)]) (st' := [.ref a0]) [(.aload_n 0, 1, 0)] (by decide +kernel) rfl ?_
  refine C.ldcwS (i := 16) (idx := 367) (tx := "rect") rfl (by decide +kernel) rfl ?_
  obtain ⟨x1, h2, gx1, hf⟩ := b2_some hf
  refine C.callVr C2 [.ref ((G.2.2.1 16))] [] mv_2225 rfl (o_X15_isWord gx1) (w_X15_isWord gx1) (by omega) (by omega) (Nat.le_of_ble_eq_true rfl) (by decide +kernel) rfl ?_
  refine C.if_ne (off := 63) (tgt := 70) (pf := 10) (by decide +kernel) (by decide) rfl (fun c21 => ?_) (fun c21 => ?_)
  · replace hf := ifn c21 hf
    refine Vsub [] rfl ?_
    exact l_X15_isKept_70 C C2 h2 hf
  · replace hf := ifp c21 hf
    refine C.seg (pe := 11) (lv' := [(0, .ref a0)]) (st' := [.ref a0]) [(.aload_n 0, 1, 0)] (by decide +kernel) rfl ?_
    refine C.ldcwS (i := 17) (idx := 369) (tx := "disc") rfl (by decide +kernel) rfl ?_
    obtain ⟨x3, h4, gx3, hf⟩ := b2_some hf
    refine C.callVr C2 [.ref ((G.2.2.1 17))] [] mv_2225 rfl (o_X15_isWord gx3) (w_X15_isWord gx3) (by omega) (by omega) (Nat.le_of_ble_eq_true rfl) (by decide +kernel) rfl ?_
    refine C.if_ne (off := 53) (tgt := 70) (pf := 20) (by decide +kernel) (by decide) rfl (fun c20 => ?_) (fun c20 => ?_)
    · replace hf := ifn c20 hf
      refine Vsub [] rfl ?_
      exact l_X15_isKept_70 C C2 h4 hf
    · replace hf := ifp c20 hf
      refine C.seg (pe := 21) (lv' := [(0, .ref a0)]) (st' := [.ref a0]) [(.aload_n 0, 1, 0)] (by decide +kernel) rfl ?_
      refine C.ldcwS (i := 18) (idx := 371) (tx := "say") rfl (by decide +kernel) rfl ?_
      obtain ⟨x5, h6, gx5, hf⟩ := b2_some hf
      refine C.callVr C2 [.ref ((G.2.2.1 18))] [] mv_2225 rfl (o_X15_isWord gx5) (w_X15_isWord gx5) (by omega) (by omega) (Nat.le_of_ble_eq_true rfl) (by decide +kernel) rfl ?_
      refine C.if_ne (off := 43) (tgt := 70) (pf := 30) (by decide +kernel) (by decide) rfl (fun c19 => ?_) (fun c19 => ?_)
      · replace hf := ifn c19 hf
        refine Vsub [] rfl ?_
        exact l_X15_isKept_70 C C2 h6 hf
      · replace hf := ifp c19 hf
        refine C.seg (pe := 31) (lv' := [(0, .ref a0)]) (st' := [.ref a0]) [(.aload_n 0, 1, 0)] (by decide +kernel) rfl ?_
        refine C.ldcwS (i := 19) (idx := 373) (tx := "each") rfl (by decide +kernel) rfl ?_
        obtain ⟨x7, h8, gx7, hf⟩ := b2_some hf
        refine C.callVr C2 [.ref ((G.2.2.1 19))] [] mv_2225 rfl (o_X15_isWord gx7) (w_X15_isWord gx7) (by omega) (by omega) (Nat.le_of_ble_eq_true rfl) (by decide +kernel) rfl ?_
        refine C.if_ne (off := 33) (tgt := 70) (pf := 40) (by decide +kernel) (by decide) rfl (fun c18 => ?_) (fun c18 => ?_)
        · replace hf := ifn c18 hf
          refine Vsub [] rfl ?_
          exact l_X15_isKept_70 C C2 h8 hf
        · replace hf := ifp c18 hf
          refine C.seg (pe := 41) (lv' := [(0, .ref a0)]) (st' := [.ref a0]) [(.aload_n 0, 1, 0)] (by decide +kernel) rfl ?_
          refine C.ldcwS (i := 21) (idx := 375) (tx := "from") rfl (by decide +kernel) rfl ?_
          obtain ⟨x9, h10, gx9, hf⟩ := b2_some hf
          refine C.callVr C2 [.ref ((G.2.2.1 21))] [] mv_2225 rfl (o_X15_isWord gx9) (w_X15_isWord gx9) (by omega) (by omega) (Nat.le_of_ble_eq_true rfl) (by decide +kernel) rfl ?_
          refine C.if_ne (off := 23) (tgt := 70) (pf := 50) (by decide +kernel) (by decide) rfl (fun c17 => ?_) (fun c17 => ?_)
          · replace hf := ifn c17 hf
            refine Vsub [] rfl ?_
            exact l_X15_isKept_70 C C2 h10 hf
          · replace hf := ifp c17 hf
            refine C.seg (pe := 51) (lv' := [(0, .ref a0)]) (st' := [.ref a0]) [(.aload_n 0, 1, 0)] (by decide +kernel) rfl ?_
            refine C.ldcwS (i := 22) (idx := 377) (tx := "to") rfl (by decide +kernel) rfl ?_
            obtain ⟨x11, h12, gx11, hf⟩ := b2_some hf
            refine C.callVr C2 [.ref ((G.2.2.1 22))] [] mv_2225 rfl (o_X15_isWord gx11) (w_X15_isWord gx11) (by omega) (by omega) (Nat.le_of_ble_eq_true rfl) (by decide +kernel) rfl ?_
            refine C.if_ne (off := 13) (tgt := 70) (pf := 60) (by decide +kernel) (by decide) rfl (fun c16 => ?_) (fun c16 => ?_)
            · replace hf := ifn c16 hf
              refine Vsub [] rfl ?_
              exact l_X15_isKept_70 C C2 h12 hf
            · replace hf := ifp c16 hf
              refine C.seg (pe := 61) (lv' := [(0, .ref a0)]) (st' := [.ref a0]) [(.aload_n 0, 1, 0)] (by decide +kernel) rfl ?_
              refine C.ldcwS (i := 20) (idx := 379) (tx := "if") rfl (by decide +kernel) rfl ?_
              obtain ⟨x13, h14, gx13, hf⟩ := b2_some hf
              refine C.callVr C2 [.ref ((G.2.2.1 20))] [] mv_2225 rfl (o_X15_isWord gx13) (w_X15_isWord gx13) (by omega) (by omega) (Nat.le_of_ble_eq_true rfl) (by decide +kernel) rfl ?_
              refine C.if_eq (off := 7) (tgt := 74) (pf := 70) (by decide +kernel) (by decide) rfl (fun c15 => ?_) (fun c15 => ?_)
              · replace hf := ifp c15 hf
                refine C.seg (pe := 75) (lv' := [(0, .ref a0)]) (st' := [.int 0]) [(.iconst 0, 1, 0)] (by decide +kernel) rfl ?_
                refine Vsub [] rfl ?_
                exact l_X15_isKept_75 C C2 0 h14 hf
              · replace hf := ifn c15 hf
                refine Vsub [] rfl ?_
                exact l_X15_isKept_70 C C2 h14 hf
theorem o_X15_isKept {z : ZX} {a0 : Nat} {h : AH} {rr : Int32} {hr : AH} (hf : f_X15_isKept z a0 h = some (rr, hr)) : isO 15 h a0 = true := by
  unfold f_X15_isKept at hf
  exact (ifO hf).1
/-! WallHouseModel.varHere()I -/
def f_X15_varHere_96 (si0 : Int32) (h : AH) : Option (Int32 × AH) :=
  some (si0, h)
set_option maxRecDepth 100000 in
set_option maxHeartbeats 4000000 in
theorem l_X15_varHere_96 {X : MX} {l : Launch} {G : GX} {h0 : AH} {rr : Int32} {hr : AH} (C : Cx X G RX15 cX15_varHere 1 (some .int) 0 0 h0) (C2 : Cy X l "varHere" []) (si0 : Int32) (h : AH) (hf : f_X15_varHere_96 si0 h = some (rr, hr)) : V X G h0 (QI rr hr) 96 [] [.int si0] h := by
  unfold f_X15_varHere_96 at hf
  cases hf
  exact C.retI rfl (by decide +kernel) ⟨rfl, rfl⟩
def f_X15_varHere_16 (h : AH) : Option (Int32 × AH) :=
  f_X15_varHere_96 (-1) h
set_option maxRecDepth 100000 in
set_option maxHeartbeats 4000000 in
theorem l_X15_varHere_16 {X : MX} {l : Launch} {G : GX} {h0 : AH} {rr : Int32} {hr : AH} (C : Cx X G RX15 cX15_varHere 1 (some .int) 0 0 h0) (C2 : Cy X l "varHere" []) (h : AH) (hf : f_X15_varHere_16 h = some (rr, hr)) : V X G h0 (QI rr hr) 16 [] [] h := by
  unfold f_X15_varHere_16 at hf
  refine C.seg (pe := 17) (lv' := []) (st' := [.int (-1)]) [(.iconst (-1), 1, (-1))] (by decide +kernel) rfl ?_
  refine C.goto (off := 79) (tgt := 96) (by decide +kernel) (by decide) ?_
  exact l_X15_varHere_96 C C2 (-1) h hf
def f_X15_varHere (a0 : Nat) (h : AH) : Option (Int32 × AH) :=
  if isO 15 h a0 = true then
    (gI 15 h a0 28).bind fun x1 =>
    if x1 = 2 then
      (gI 15 h a0 32).bind fun x2 =>
      if x2 = 1 then
        (gL 15 h a0 37).bind fun y3 =>
        if lg_cmp y3 ((9 : Int64)) = 0 then
          f_X15_varHere_96 0 h
        else
          (gL 15 h a0 37).bind fun y4 =>
          if lg_cmp y4 ((10 : Int64)) = 0 then
            f_X15_varHere_96 1 h
          else
            (gL 15 h a0 37).bind fun y5 =>
            if lg_cmp y5 ((11 : Int64)) = 0 then
              f_X15_varHere_96 2 h
            else
              (gL 15 h a0 37).bind fun y6 =>
              if lg_cmp y6 ((13 : Int64)) = 0 then
                f_X15_varHere_96 3 h
              else
                (gL 15 h a0 37).bind fun y7 =>
                if lg_cmp y7 ((14 : Int64)) = 0 then
                  f_X15_varHere_96 4 h
                else
                  f_X15_varHere_96 (-1) h
      else
        f_X15_varHere_16 h
    else
      f_X15_varHere_16 h
  else none
set_option maxRecDepth 100000 in
set_option maxHeartbeats 4000000 in
theorem w_X15_varHere {l : Launch} {G : GX} {a0 : Nat} {h : AH} {rr : Int32} {hr : AH} (hf : f_X15_varHere a0 h = some (rr, hr)) : Ct l G yX15_varHere 0 0 [.ref a0] h (QI rr hr) := by
  unfold f_X15_varHere at hf
  obtain ⟨ho, hf⟩ := ifO hf
  refine Ct_of (own := RX15) (cc := cX15_varHere) (nL := 1) (ret := (some .int)) rfl rfl k_2275 (Nat.le_of_ble_eq_true rfl) (fun X C2 C => ?_)
  show V X G h (QI rr hr) 0 [(0, .ref a0)] [] h
  refine C.seg (pe := 1) (lv' := [(0, .ref a0)]) (st' := [.ref a0]) [(.aload_n 0, 1, 0)] (by decide +kernel) rfl ?_
  obtain ⟨x1, gx1, hf⟩ := Option.bind_eq_some_iff.mp hf
  refine C.rdI fr_1814 gx1 (by decide +kernel) rfl ?_
  refine C.seg (pe := 5) (lv' := [(0, .ref a0)]) (st' := [.int 2, .int x1]) [(.iconst 2, 1, 2)] (by decide +kernel) rfl ?_
  refine C.icmp_ne (off := 11) (tgt := 16) (pf := 8) (by decide +kernel) (by decide) rfl (fun c14 => ?_) (fun c14 => ?_)
  · replace hf := ifn c14 hf
    refine Vsub [] rfl ?_
    exact l_X15_varHere_16 C C2 h hf
  · replace hf := ifp c14 hf
    refine C.seg (pe := 9) (lv' := [(0, .ref a0)]) (st' := [.ref a0]) [(.aload_n 0, 1, 0)] (by decide +kernel) rfl ?_
    obtain ⟨x2, gx2, hf⟩ := Option.bind_eq_some_iff.mp hf
    refine C.rdI fr_1818 gx2 (by decide +kernel) rfl ?_
    refine C.seg (pe := 13) (lv' := [(0, .ref a0)]) (st' := [.int 1, .int x2]) [(.iconst 1, 1, 1)] (by decide +kernel) rfl ?_
    refine C.icmp_eq (off := 7) (tgt := 20) (pf := 16) (by decide +kernel) (by decide) rfl (fun c13 => ?_) (fun c13 => ?_)
    · replace hf := ifp c13 hf
      refine C.seg (pe := 21) (lv' := [(0, .ref a0)]) (st' := [.ref a0]) [(.aload_n 0, 1, 0)] (by decide +kernel) rfl ?_
      obtain ⟨y3, gy3, hf⟩ := Option.bind_eq_some_iff.mp hf
      refine C.rdL fr_1823 gy3 (by decide +kernel) rfl ?_
      refine C.ldcL k_2276 (by decide +kernel) rfl ?_
      refine C.seg (pe := 28) (lv' := [(0, .ref a0)]) (st' := [.int (lg_cmp y3 ((9 : Int64)))]) [(.lcmp, 1, 0)] (by decide +kernel) rfl ?_
      refine C.if_ne (off := 7) (tgt := 35) (pf := 31) (by decide +kernel) (by decide) rfl (fun c12 => ?_) (fun c12 => ?_)
      · replace hf := ifn c12 hf
        refine C.seg (pe := 36) (lv' := [(0, .ref a0)]) (st' := [.ref a0]) [(.aload_n 0, 1, 0)] (by decide +kernel) rfl ?_
        obtain ⟨y4, gy4, hf⟩ := Option.bind_eq_some_iff.mp hf
        refine C.rdL fr_1823 gy4 (by decide +kernel) rfl ?_
        refine C.ldcL k_2277 (by decide +kernel) rfl ?_
        refine C.seg (pe := 43) (lv' := [(0, .ref a0)]) (st' := [.int (lg_cmp y4 ((10 : Int64)))]) [(.lcmp, 1, 0)] (by decide +kernel) rfl ?_
        refine C.if_ne (off := 7) (tgt := 50) (pf := 46) (by decide +kernel) (by decide) rfl (fun c11 => ?_) (fun c11 => ?_)
        · replace hf := ifn c11 hf
          refine C.seg (pe := 51) (lv' := [(0, .ref a0)]) (st' := [.ref a0]) [(.aload_n 0, 1, 0)] (by decide +kernel) rfl ?_
          obtain ⟨y5, gy5, hf⟩ := Option.bind_eq_some_iff.mp hf
          refine C.rdL fr_1823 gy5 (by decide +kernel) rfl ?_
          refine C.ldcL k_2278 (by decide +kernel) rfl ?_
          refine C.seg (pe := 58) (lv' := [(0, .ref a0)]) (st' := [.int (lg_cmp y5 ((11 : Int64)))]) [(.lcmp, 1, 0)] (by decide +kernel) rfl ?_
          refine C.if_ne (off := 7) (tgt := 65) (pf := 61) (by decide +kernel) (by decide) rfl (fun c10 => ?_) (fun c10 => ?_)
          · replace hf := ifn c10 hf
            refine C.seg (pe := 66) (lv' := [(0, .ref a0)]) (st' := [.ref a0]) [(.aload_n 0, 1, 0)] (by decide +kernel) rfl ?_
            obtain ⟨y6, gy6, hf⟩ := Option.bind_eq_some_iff.mp hf
            refine C.rdL fr_1823 gy6 (by decide +kernel) rfl ?_
            refine C.ldcL k_2279 (by decide +kernel) rfl ?_
            refine C.seg (pe := 73) (lv' := [(0, .ref a0)]) (st' := [.int (lg_cmp y6 ((13 : Int64)))]) [(.lcmp, 1, 0)] (by decide +kernel) rfl ?_
            refine C.if_ne (off := 7) (tgt := 80) (pf := 76) (by decide +kernel) (by decide) rfl (fun c9 => ?_) (fun c9 => ?_)
            · replace hf := ifn c9 hf
              refine C.seg (pe := 81) (lv' := [(0, .ref a0)]) (st' := [.ref a0]) [(.aload_n 0, 1, 0)] (by decide +kernel) rfl ?_
              obtain ⟨y7, gy7, hf⟩ := Option.bind_eq_some_iff.mp hf
              refine C.rdL fr_1823 gy7 (by decide +kernel) rfl ?_
              refine C.ldcL k_2280 (by decide +kernel) rfl ?_
              refine C.seg (pe := 88) (lv' := [(0, .ref a0)]) (st' := [.int (lg_cmp y7 ((14 : Int64)))]) [(.lcmp, 1, 0)] (by decide +kernel) rfl ?_
              refine C.if_ne (off := 7) (tgt := 95) (pf := 91) (by decide +kernel) (by decide) rfl (fun c8 => ?_) (fun c8 => ?_)
              · replace hf := ifn c8 hf
                refine C.seg (pe := 96) (lv' := [(0, .ref a0)]) (st' := [.int (-1)]) [(.iconst (-1), 1, (-1))] (by decide +kernel) rfl ?_
                refine Vsub [] rfl ?_
                exact l_X15_varHere_96 C C2 (-1) h hf
              · replace hf := ifp c8 hf
                refine C.seg (pe := 92) (lv' := [(0, .ref a0)]) (st' := [.int 4]) [(.iconst 4, 1, 4)] (by decide +kernel) rfl ?_
                refine C.goto (off := 4) (tgt := 96) (by decide +kernel) (by decide) ?_
                refine Vsub [] rfl ?_
                exact l_X15_varHere_96 C C2 4 h hf
            · replace hf := ifp c9 hf
              refine C.seg (pe := 77) (lv' := [(0, .ref a0)]) (st' := [.int 3]) [(.iconst 3, 1, 3)] (by decide +kernel) rfl ?_
              refine C.goto (off := 19) (tgt := 96) (by decide +kernel) (by decide) ?_
              refine Vsub [] rfl ?_
              exact l_X15_varHere_96 C C2 3 h hf
          · replace hf := ifp c10 hf
            refine C.seg (pe := 62) (lv' := [(0, .ref a0)]) (st' := [.int 2]) [(.iconst 2, 1, 2)] (by decide +kernel) rfl ?_
            refine C.goto (off := 34) (tgt := 96) (by decide +kernel) (by decide) ?_
            refine Vsub [] rfl ?_
            exact l_X15_varHere_96 C C2 2 h hf
        · replace hf := ifp c11 hf
          refine C.seg (pe := 47) (lv' := [(0, .ref a0)]) (st' := [.int 1]) [(.iconst 1, 1, 1)] (by decide +kernel) rfl ?_
          refine C.goto (off := 49) (tgt := 96) (by decide +kernel) (by decide) ?_
          refine Vsub [] rfl ?_
          exact l_X15_varHere_96 C C2 1 h hf
      · replace hf := ifp c12 hf
        refine C.seg (pe := 32) (lv' := [(0, .ref a0)]) (st' := [.int 0]) [(.iconst 0, 1, 0)] (by decide +kernel) rfl ?_
        refine C.goto (off := 64) (tgt := 96) (by decide +kernel) (by decide) ?_
        refine Vsub [] rfl ?_
        exact l_X15_varHere_96 C C2 0 h hf
    · replace hf := ifn c13 hf
      refine Vsub [] rfl ?_
      exact l_X15_varHere_16 C C2 h hf
theorem o_X15_varHere {a0 : Nat} {h : AH} {rr : Int32} {hr : AH} (hf : f_X15_varHere a0 h = some (rr, hr)) : isO 15 h a0 = true := by
  unfold f_X15_varHere at hf
  exact (ifO hf).1
/-! WallHouseModel.readPart()V -/
def f_X15_readPart_212 (z : ZX) (kX : Nat → AH → Option (Option Nat × AH)) (r0 : Nat) (h : AH) : Option (Option Nat × AH) :=
  (f_X15_next r0 h).bind fun h1 =>
  some (none, h1)
set_option maxRecDepth 100000 in
set_option maxHeartbeats 4000000 in
theorem l_X15_readPart_212 {X : MX} {l : Launch} {G : GX} {h0 : AH} {fT lT : Nat} {e1 : Option Nat} {hr : AH} (C : Cx X G RX15 cX15_readPart 2 none (fT + 5) (lT + 100) h0) (C2 : Cy X l "readPart" []) {kX : Nat → AH → Option (Option Nat × AH)} (hfT : 200 ≤ fT) (hlT : 4000 ≤ lT) (hkX : ∀ (b0 : Nat) (h : AH) (e1 : Option Nat) (hr : AH), kX b0 h = some (e1, hr) → Ct l G yX15_readTerms fT lT [.ref b0] h (QT e1 hr)) (hoX : ∀ (b0 : Nat) (h : AH) (e1 : Option Nat) (hr : AH), kX b0 h = some (e1, hr) → isO 15 h b0 = true) (r0 : Nat) (h : AH) (hf : f_X15_readPart_212 G.2.2 kX r0 h = some (e1, hr)) : V X G h0 (QT e1 hr) 212 [(0, .ref r0)] [] h := by
  unfold f_X15_readPart_212 at hf
  refine C.seg (pe := 213) (lv' := [(0, .ref r0)]) (st' := [.ref r0]) [(.aload_n 0, 1, 0)] (by decide +kernel) rfl ?_
  obtain ⟨h1, gh1, hf⟩ := Option.bind_eq_some_iff.mp hf
  refine C.callVr C2 [] [] mv_2193 rfl (o_X15_next gh1) (w_X15_next gh1) (by omega) (by omega) (Nat.le_of_ble_eq_true rfl) (by decide +kernel) rfl ?_
  cases hf
  exact C.retV rfl (by decide +kernel) ⟨rfl, rfl⟩
def f_X15_readPart_208 (z : ZX) (kX : Nat → AH → Option (Option Nat × AH)) (r0 : Nat) (i1 : Int32) (si0 : Int32) (sr1 : Nat) (h : AH) : Option (Option Nat × AH) :=
  (f_X12_put sr1 si0 i1 h).bind fun h1 =>
  f_X15_readPart_212 z kX r0 h1
set_option maxRecDepth 100000 in
set_option maxHeartbeats 4000000 in
theorem l_X15_readPart_208 {X : MX} {l : Launch} {G : GX} {h0 : AH} {fT lT : Nat} {e1 : Option Nat} {hr : AH} (C : Cx X G RX15 cX15_readPart 2 none (fT + 5) (lT + 100) h0) (C2 : Cy X l "readPart" []) {kX : Nat → AH → Option (Option Nat × AH)} (hfT : 200 ≤ fT) (hlT : 4000 ≤ lT) (hkX : ∀ (b0 : Nat) (h : AH) (e1 : Option Nat) (hr : AH), kX b0 h = some (e1, hr) → Ct l G yX15_readTerms fT lT [.ref b0] h (QT e1 hr)) (hoX : ∀ (b0 : Nat) (h : AH) (e1 : Option Nat) (hr : AH), kX b0 h = some (e1, hr) → isO 15 h b0 = true) (r0 : Nat) (i1 : Int32) (si0 : Int32) (sr1 : Nat) (h : AH) (hf : f_X15_readPart_208 G.2.2 kX r0 i1 si0 sr1 h = some (e1, hr)) : V X G h0 (QT e1 hr) 208 [(0, .ref r0), (1, .int i1)] [.int si0, .ref sr1] h := by
  unfold f_X15_readPart_208 at hf
  refine C.seg (pe := 209) (lv' := [(0, .ref r0), (1, .int i1)]) (st' := [.int i1, .int si0, .ref sr1]) [(.iload_n 1, 1, 0)] (by decide +kernel) rfl ?_
  obtain ⟨h1, gh1, hf⟩ := Option.bind_eq_some_iff.mp hf
  refine C.callVr C2 [.int si0, .int i1] [] mv_2283 rfl (o_X12_put gh1) (w_X12_put gh1) (by omega) (by omega) (Nat.le_of_ble_eq_true rfl) (by decide +kernel) rfl ?_
  refine Vsub [0] rfl ?_
  exact l_X15_readPart_212 C C2 hfT hlT hkX hoX r0 h1 hf
def f_X15_readPart_132 (z : ZX) (kX : Nat → AH → Option (Option Nat × AH)) (r0 : Nat) (i1 : Int32) (h : AH) : Option (Option Nat × AH) :=
  (gI 15 h r0 35).bind fun x1 =>
  if x1 = 120 then
    b2 (f_X15_stop r0 4 h) fun q14 h15 =>
    tr q14 (
      none) fun a16 =>
    some (some a16, h15)
  else
    (gI 15 h r0 35).bind fun x2 =>
    (pI 15 h r0 35 (x2 + 1)).bind fun h3 =>
    (gI 15 h3 r0 28).bind fun x4 =>
    if x4 = 3 then
      (gA 15 h3 r0 40).bind fun a10 =>
      (gI 15 h3 r0 31).bind fun x11 =>
      (f_X12_put a10 0 x11 h3).bind fun h12 =>
      f_X15_readPart_212 z kX r0 h12
    else
      (gA 15 h3 r0 40).bind fun a5 =>
      if i1 = (-1) then
        b2 (f_X15_isWord z r0 ((z.1 23)) h3) fun x6 h7 =>
        if x6 = 0 then
          f_X15_readPart_208 z kX r0 i1 3 a5 h7
        else
          f_X15_readPart_208 z kX r0 i1 2 a5 h7
      else
        f_X15_readPart_208 z kX r0 i1 1 a5 h3
set_option maxRecDepth 100000 in
set_option maxHeartbeats 4000000 in
theorem l_X15_readPart_132 {X : MX} {l : Launch} {G : GX} {h0 : AH} {fT lT : Nat} {e1 : Option Nat} {hr : AH} (C : Cx X G RX15 cX15_readPart 2 none (fT + 5) (lT + 100) h0) (C2 : Cy X l "readPart" []) {kX : Nat → AH → Option (Option Nat × AH)} (hfT : 200 ≤ fT) (hlT : 4000 ≤ lT) (hkX : ∀ (b0 : Nat) (h : AH) (e1 : Option Nat) (hr : AH), kX b0 h = some (e1, hr) → Ct l G yX15_readTerms fT lT [.ref b0] h (QT e1 hr)) (hoX : ∀ (b0 : Nat) (h : AH) (e1 : Option Nat) (hr : AH), kX b0 h = some (e1, hr) → isO 15 h b0 = true) (r0 : Nat) (i1 : Int32) (h : AH) (hf : f_X15_readPart_132 G.2.2 kX r0 i1 h = some (e1, hr)) : V X G h0 (QT e1 hr) 132 [(0, .ref r0), (1, .int i1)] [] h := by
  unfold f_X15_readPart_132 at hf
  refine C.seg (pe := 133) (lv' := [(0, .ref r0), (1, .int i1)]) (st' := [.ref r0]) [(.aload_n 0, 1, 0)] (by decide +kernel) rfl ?_
  obtain ⟨x1, gx1, hf⟩ := Option.bind_eq_some_iff.mp hf
  refine C.rdI fr_1821 gx1 (by decide +kernel) rfl ?_
  refine C.seg (pe := 138) (lv' := [(0, .ref r0), (1, .int i1)]) (st' := [.int 120, .int x1]) [(.bipush 120, 2, 120)] (by decide +kernel) rfl ?_
  refine C.icmp_ne (off := 9) (tgt := 147) (pf := 141) (by decide +kernel) (by decide) rfl (fun c17 => ?_) (fun c17 => ?_)
  · replace hf := ifn c17 hf
    refine C.seg (pe := 149) (lv' := [(0, .ref r0), (1, .int i1)]) (st' := [.ref r0, .ref r0]) [(.aload_n 0, 1, 0), (.dup, 1, 0)] (by decide +kernel) rfl ?_
    obtain ⟨x2, gx2, hf⟩ := Option.bind_eq_some_iff.mp hf
    refine C.rdI fr_1821 gx2 (by decide +kernel) rfl ?_
    refine C.seg (pe := 154) (lv' := [(0, .ref r0), (1, .int i1)]) (st' := [.int (x2 + 1), .ref r0]) [(.iconst 1, 1, 1), (.iadd, 1, 0)] (by decide +kernel) rfl ?_
    obtain ⟨h3, gh3, hf⟩ := Option.bind_eq_some_iff.mp hf
    refine C.putI fl_1821 gh3 (by decide +kernel) rfl ?_
    refine C.seg (pe := 158) (lv' := [(0, .ref r0), (1, .int i1)]) (st' := [.ref r0]) [(.aload_n 0, 1, 0)] (by decide +kernel) rfl ?_
    obtain ⟨x4, gx4, hf⟩ := Option.bind_eq_some_iff.mp hf
    refine C.rdI fr_1814 gx4 (by decide +kernel) rfl ?_
    refine C.seg (pe := 162) (lv' := [(0, .ref r0), (1, .int i1)]) (st' := [.int 3, .int x4]) [(.iconst 3, 1, 3)] (by decide +kernel) rfl ?_
    refine C.icmp_ne (off := 18) (tgt := 180) (pf := 165) (by decide +kernel) (by decide) rfl (fun c13 => ?_) (fun c13 => ?_)
    · replace hf := ifn c13 hf
      refine C.seg (pe := 181) (lv' := [(0, .ref r0), (1, .int i1)]) (st' := [.ref r0]) [(.aload_n 0, 1, 0)] (by decide +kernel) rfl ?_
      obtain ⟨a5, ga5, hf⟩ := Option.bind_eq_some_iff.mp hf
      refine C.rdA fr_1826 ga5 (by decide +kernel) rfl ?_
      refine C.seg (pe := 186) (lv' := [(0, .ref r0), (1, .int i1)]) (st' := [.int (-1), .int i1, .ref a5]) [(.iload_n 1, 1, 0), (.iconst (-1), 1, (-1))] (by decide +kernel) rfl ?_
      refine C.icmp_eq (off := 7) (tgt := 193) (pf := 189) (by decide +kernel) (by decide) rfl (fun c9 => ?_) (fun c9 => ?_)
      · replace hf := ifp c9 hf
        refine C.seg (pe := 194) (lv' := [(0, .ref r0), (1, .int i1)]) (st' := [.ref r0, .ref a5]) [(.aload_n 0, 1, 0)] (by decide +kernel) rfl ?_
        refine C.ldcwS (i := 23) (idx := 463) (tx := "wide") rfl (by decide +kernel) rfl ?_
        obtain ⟨x6, h7, gx6, hf⟩ := b2_some hf
        refine C.callVr C2 [.ref ((G.2.2.1 23))] [.ref a5] mv_2225 rfl (o_X15_isWord gx6) (w_X15_isWord gx6) (by omega) (by omega) (Nat.le_of_ble_eq_true rfl) (by decide +kernel) rfl ?_
        refine C.if_eq (off := 7) (tgt := 207) (pf := 203) (by decide +kernel) (by decide) rfl (fun c8 => ?_) (fun c8 => ?_)
        · replace hf := ifp c8 hf
          refine C.seg (pe := 208) (lv' := [(0, .ref r0), (1, .int i1)]) (st' := [.int 3, .ref a5]) [(.iconst 3, 1, 3)] (by decide +kernel) rfl ?_
          exact l_X15_readPart_208 C C2 hfT hlT hkX hoX r0 i1 3 a5 h7 hf
        · replace hf := ifn c8 hf
          refine C.seg (pe := 204) (lv' := [(0, .ref r0), (1, .int i1)]) (st' := [.int 2, .ref a5]) [(.iconst 2, 1, 2)] (by decide +kernel) rfl ?_
          refine C.goto (off := 4) (tgt := 208) (by decide +kernel) (by decide) ?_
          exact l_X15_readPart_208 C C2 hfT hlT hkX hoX r0 i1 2 a5 h7 hf
      · replace hf := ifn c9 hf
        refine C.seg (pe := 190) (lv' := [(0, .ref r0), (1, .int i1)]) (st' := [.int 1, .ref a5]) [(.iconst 1, 1, 1)] (by decide +kernel) rfl ?_
        refine C.goto (off := 18) (tgt := 208) (by decide +kernel) (by decide) ?_
        exact l_X15_readPart_208 C C2 hfT hlT hkX hoX r0 i1 1 a5 h3 hf
    · replace hf := ifp c13 hf
      refine C.seg (pe := 166) (lv' := [(0, .ref r0), (1, .int i1)]) (st' := [.ref r0]) [(.aload_n 0, 1, 0)] (by decide +kernel) rfl ?_
      obtain ⟨a10, ga10, hf⟩ := Option.bind_eq_some_iff.mp hf
      refine C.rdA fr_1826 ga10 (by decide +kernel) rfl ?_
      refine C.seg (pe := 171) (lv' := [(0, .ref r0), (1, .int i1)]) (st' := [.ref r0, .int 0, .ref a10]) [(.iconst 0, 1, 0), (.aload_n 0, 1, 0)] (by decide +kernel) rfl ?_
      obtain ⟨x11, gx11, hf⟩ := Option.bind_eq_some_iff.mp hf
      refine C.rdI fr_1817 gx11 (by decide +kernel) rfl ?_
      obtain ⟨h12, gh12, hf⟩ := Option.bind_eq_some_iff.mp hf
      refine C.callVr C2 [.int 0, .int x11] [] mv_2283 rfl (o_X12_put gh12) (w_X12_put gh12) (by omega) (by omega) (Nat.le_of_ble_eq_true rfl) (by decide +kernel) rfl ?_
      refine C.goto (off := 35) (tgt := 212) (by decide +kernel) (by decide) ?_
      refine Vsub [0] rfl ?_
      exact l_X15_readPart_212 C C2 hfT hlT hkX hoX r0 h12 hf
  · replace hf := ifp c17 hf
    refine C.seg (pe := 143) (lv' := [(0, .ref r0), (1, .int i1)]) (st' := [.int 4, .ref r0]) [(.aload_n 0, 1, 0), (.iconst 4, 1, 4)] (by decide +kernel) rfl ?_
    obtain ⟨q14, h15, gq14, hf⟩ := b2_some hf
    cases q14 with
    | none =>
      replace hf := tr_none hf
      refine C.callVr C2 [.int 4] [] mv_2220 rfl (o_X15_stop gq14) (w_X15_stop gq14) (by omega) (by omega) (Nat.le_of_ble_eq_true rfl) (by decide +kernel) rfl ?_
      cases hf
    | some a16 =>
      replace hf := tr_some hf
      refine C.callVr C2 [.int 4] [] mv_2220 rfl (o_X15_stop gq14) (w_X15_stop gq14) (by omega) (by omega) (Nat.le_of_ble_eq_true rfl) (by decide +kernel) rfl ?_
      cases hf
      exact C.athrow C2 (by decide +kernel) ⟨rfl, rfl⟩
def f_X15_readPart_82 (z : ZX) (kX : Nat → AH → Option (Option Nat × AH)) (r0 : Nat) (h : AH) : Option (Option Nat × AH) :=
  b2 (f_X15_stop r0 1 h) fun q1 h2 =>
  tr q1 (
    none) fun a3 =>
  some (some a3, h2)
set_option maxRecDepth 100000 in
set_option maxHeartbeats 4000000 in
theorem l_X15_readPart_82 {X : MX} {l : Launch} {G : GX} {h0 : AH} {fT lT : Nat} {e1 : Option Nat} {hr : AH} (C : Cx X G RX15 cX15_readPart 2 none (fT + 5) (lT + 100) h0) (C2 : Cy X l "readPart" []) {kX : Nat → AH → Option (Option Nat × AH)} (hfT : 200 ≤ fT) (hlT : 4000 ≤ lT) (hkX : ∀ (b0 : Nat) (h : AH) (e1 : Option Nat) (hr : AH), kX b0 h = some (e1, hr) → Ct l G yX15_readTerms fT lT [.ref b0] h (QT e1 hr)) (hoX : ∀ (b0 : Nat) (h : AH) (e1 : Option Nat) (hr : AH), kX b0 h = some (e1, hr) → isO 15 h b0 = true) (r0 : Nat) (h : AH) (hf : f_X15_readPart_82 G.2.2 kX r0 h = some (e1, hr)) : V X G h0 (QT e1 hr) 82 [(0, .ref r0)] [] h := by
  unfold f_X15_readPart_82 at hf
  refine C.seg (pe := 84) (lv' := [(0, .ref r0)]) (st' := [.int 1, .ref r0]) [(.aload_n 0, 1, 0), (.iconst 1, 1, 1)] (by decide +kernel) rfl ?_
  obtain ⟨q1, h2, gq1, hf⟩ := b2_some hf
  cases q1 with
  | none =>
    replace hf := tr_none hf
    refine C.callVr C2 [.int 1] [] mv_2220 rfl (o_X15_stop gq1) (w_X15_stop gq1) (by omega) (by omega) (Nat.le_of_ble_eq_true rfl) (by decide +kernel) rfl ?_
    cases hf
  | some a3 =>
    replace hf := tr_some hf
    refine C.callVr C2 [.int 1] [] mv_2220 rfl (o_X15_stop gq1) (w_X15_stop gq1) (by omega) (by omega) (Nat.le_of_ble_eq_true rfl) (by decide +kernel) rfl ?_
    cases hf
    exact C.athrow C2 (by decide +kernel) ⟨rfl, rfl⟩
def f_X15_readPart_75 (z : ZX) (kX : Nat → AH → Option (Option Nat × AH)) (r0 : Nat) (h : AH) : Option (Option Nat × AH) :=
  b2 (f_X15_isKept z r0 h) fun x1 h2 =>
  if x1 = 0 then
    b2 (f_X15_varHere r0 h2) fun x3 h4 =>
    (gI 15 h4 r0 28).bind fun x5 =>
    if x5 = 2 then
      if x3 = (-1) then
        b2 (f_X15_isWord z r0 ((z.1 23)) h4) fun x6 h7 =>
        if x6 = 0 then
          b2 (f_X15_isWord z r0 ((z.1 24)) h7) fun x8 h9 =>
          if x8 = 0 then
            b2 (f_X15_stop r0 2 h9) fun q10 h11 =>
            tr q10 (
              none) fun a12 =>
            some (some a12, h11)
          else
            f_X15_readPart_132 z kX r0 x3 h9
        else
          f_X15_readPart_132 z kX r0 x3 h7
      else
        f_X15_readPart_132 z kX r0 x3 h4
    else
      f_X15_readPart_132 z kX r0 x3 h4
  else
    f_X15_readPart_82 z kX r0 h2
set_option maxRecDepth 100000 in
set_option maxHeartbeats 4000000 in
theorem l_X15_readPart_75 {X : MX} {l : Launch} {G : GX} {h0 : AH} {fT lT : Nat} {e1 : Option Nat} {hr : AH} (C : Cx X G RX15 cX15_readPart 2 none (fT + 5) (lT + 100) h0) (C2 : Cy X l "readPart" []) {kX : Nat → AH → Option (Option Nat × AH)} (hfT : 200 ≤ fT) (hlT : 4000 ≤ lT) (hkX : ∀ (b0 : Nat) (h : AH) (e1 : Option Nat) (hr : AH), kX b0 h = some (e1, hr) → Ct l G yX15_readTerms fT lT [.ref b0] h (QT e1 hr)) (hoX : ∀ (b0 : Nat) (h : AH) (e1 : Option Nat) (hr : AH), kX b0 h = some (e1, hr) → isO 15 h b0 = true) (r0 : Nat) (h : AH) (hf : f_X15_readPart_75 G.2.2 kX r0 h = some (e1, hr)) : V X G h0 (QT e1 hr) 75 [(0, .ref r0)] [] h := by
  unfold f_X15_readPart_75 at hf
  refine C.seg (pe := 76) (lv' := [(0, .ref r0)]) (st' := [.ref r0]) [(.aload_n 0, 1, 0)] (by decide +kernel) rfl ?_
  obtain ⟨x1, h2, gx1, hf⟩ := b2_some hf
  refine C.callVr C2 [] [] mv_2266 rfl (o_X15_isKept gx1) (w_X15_isKept gx1) (by omega) (by omega) (Nat.le_of_ble_eq_true rfl) (by decide +kernel) rfl ?_
  refine C.if_eq (off := 9) (tgt := 88) (pf := 82) (by decide +kernel) (by decide) rfl (fun c17 => ?_) (fun c17 => ?_)
  · replace hf := ifp c17 hf
    refine C.seg (pe := 89) (lv' := [(0, .ref r0)]) (st' := [.ref r0]) [(.aload_n 0, 1, 0)] (by decide +kernel) rfl ?_
    obtain ⟨x3, h4, gx3, hf⟩ := b2_some hf
    refine C.callVr C2 [] [] mv_2272 rfl (o_X15_varHere gx3) (w_X15_varHere gx3) (by omega) (by omega) (Nat.le_of_ble_eq_true rfl) (by decide +kernel) rfl ?_
    refine C.seg (pe := 94) (lv' := [(1, .int x3), (0, .ref r0)]) (st' := [.ref r0]) [(.istore_n 1, 1, 0), (.aload_n 0, 1, 0)] (by decide +kernel) rfl ?_
    obtain ⟨x5, gx5, hf⟩ := Option.bind_eq_some_iff.mp hf
    refine C.rdI fr_1814 gx5 (by decide +kernel) rfl ?_
    refine C.seg (pe := 98) (lv' := [(1, .int x3), (0, .ref r0)]) (st' := [.int 2, .int x5]) [(.iconst 2, 1, 2)] (by decide +kernel) rfl ?_
    refine C.icmp_ne (off := 34) (tgt := 132) (pf := 101) (by decide +kernel) (by decide) rfl (fun c16 => ?_) (fun c16 => ?_)
    · replace hf := ifn c16 hf
      refine Vsub [1, 0] rfl ?_
      exact l_X15_readPart_132 C C2 hfT hlT hkX hoX r0 x3 h4 hf
    · replace hf := ifp c16 hf
      refine C.seg (pe := 103) (lv' := [(1, .int x3), (0, .ref r0)]) (st' := [.int (-1), .int x3]) [(.iload_n 1, 1, 0), (.iconst (-1), 1, (-1))] (by decide +kernel) rfl ?_
      refine C.icmp_ne (off := 29) (tgt := 132) (pf := 106) (by decide +kernel) (by decide) rfl (fun c15 => ?_) (fun c15 => ?_)
      · replace hf := ifn c15 hf
        refine Vsub [1, 0] rfl ?_
        exact l_X15_readPart_132 C C2 hfT hlT hkX hoX r0 x3 h4 hf
      · replace hf := ifp c15 hf
        refine C.seg (pe := 107) (lv' := [(1, .int x3), (0, .ref r0)]) (st' := [.ref r0]) [(.aload_n 0, 1, 0)] (by decide +kernel) rfl ?_
        refine C.ldcwS (i := 23) (idx := 463) (tx := "wide") rfl (by decide +kernel) rfl ?_
        obtain ⟨x6, h7, gx6, hf⟩ := b2_some hf
        refine C.callVr C2 [.ref ((G.2.2.1 23))] [] mv_2225 rfl (o_X15_isWord gx6) (w_X15_isWord gx6) (by omega) (by omega) (Nat.le_of_ble_eq_true rfl) (by decide +kernel) rfl ?_
        refine C.if_ne (off := 19) (tgt := 132) (pf := 116) (by decide +kernel) (by decide) rfl (fun c14 => ?_) (fun c14 => ?_)
        · replace hf := ifn c14 hf
          refine Vsub [1, 0] rfl ?_
          exact l_X15_readPart_132 C C2 hfT hlT hkX hoX r0 x3 h7 hf
        · replace hf := ifp c14 hf
          refine C.seg (pe := 117) (lv' := [(1, .int x3), (0, .ref r0)]) (st' := [.ref r0]) [(.aload_n 0, 1, 0)] (by decide +kernel) rfl ?_
          refine C.ldcwS (i := 24) (idx := 464) (tx := "high") rfl (by decide +kernel) rfl ?_
          obtain ⟨x8, h9, gx8, hf⟩ := b2_some hf
          refine C.callVr C2 [.ref ((G.2.2.1 24))] [] mv_2225 rfl (o_X15_isWord gx8) (w_X15_isWord gx8) (by omega) (by omega) (Nat.le_of_ble_eq_true rfl) (by decide +kernel) rfl ?_
          refine C.if_ne (off := 9) (tgt := 132) (pf := 126) (by decide +kernel) (by decide) rfl (fun c13 => ?_) (fun c13 => ?_)
          · replace hf := ifn c13 hf
            refine Vsub [1, 0] rfl ?_
            exact l_X15_readPart_132 C C2 hfT hlT hkX hoX r0 x3 h9 hf
          · replace hf := ifp c13 hf
            refine C.seg (pe := 128) (lv' := [(1, .int x3), (0, .ref r0)]) (st' := [.int 2, .ref r0]) [(.aload_n 0, 1, 0), (.iconst 2, 1, 2)] (by decide +kernel) rfl ?_
            obtain ⟨q10, h11, gq10, hf⟩ := b2_some hf
            cases q10 with
            | none =>
              replace hf := tr_none hf
              refine C.callVr C2 [.int 2] [] mv_2220 rfl (o_X15_stop gq10) (w_X15_stop gq10) (by omega) (by omega) (Nat.le_of_ble_eq_true rfl) (by decide +kernel) rfl ?_
              cases hf
            | some a12 =>
              replace hf := tr_some hf
              refine C.callVr C2 [.int 2] [] mv_2220 rfl (o_X15_stop gq10) (w_X15_stop gq10) (by omega) (by omega) (Nat.le_of_ble_eq_true rfl) (by decide +kernel) rfl ?_
              cases hf
              exact C.athrow C2 (by decide +kernel) ⟨rfl, rfl⟩
  · replace hf := ifn c17 hf
    exact l_X15_readPart_82 C C2 hfT hlT hkX hoX r0 h2 hf
def f_X15_readPart (z : ZX) (kX : Nat → AH → Option (Option Nat × AH)) (a0 : Nat) (h : AH) : Option (Option Nat × AH) :=
  if isO 15 h a0 = true then
    b2 (f_X15_is a0 40 h) fun x1 h2 =>
    if x1 = 0 then
      (gI 15 h2 a0 28).bind fun x3 =>
      if x3 = 3 then
        f_X15_readPart_75 z kX a0 h2
      else
        (gI 15 h2 a0 28).bind fun x4 =>
        if x4 = 2 then
          f_X15_readPart_75 z kX a0 h2
        else
          f_X15_readPart_82 z kX a0 h2
    else
      (gI 15 h2 a0 34).bind fun x7 =>
      if x7 = 6 then
        b2 (f_X15_stop a0 4 h2) fun q19 h20 =>
        tr q19 (
          none) fun a21 =>
        some (some a21, h20)
      else
        (gI 15 h2 a0 34).bind fun x8 =>
        (pI 15 h2 a0 34 (x8 + 1)).bind fun h9 =>
        (f_X15_next a0 h9).bind fun h10 =>
        b2 (kX a0 h10) fun q11 h12 =>
        tr q11 (
          b2 (f_X15_need a0 41 h12) fun q14 h15 =>
          tr q14 (
            (gI 15 h15 a0 34).bind fun x17 =>
            (pI 15 h15 a0 34 (x17 - 1)).bind fun h18 =>
            some (none, h18)) fun a16 =>
          some (some a16, h15)) fun a13 =>
        some (some a13, h12)
  else none
set_option maxRecDepth 100000 in
set_option maxHeartbeats 4000000 in
theorem w_X15_readPart {l : Launch} {G : GX} {fT lT : Nat} {kX : Nat → AH → Option (Option Nat × AH)} (hfT : 200 ≤ fT) (hlT : 4000 ≤ lT) (hkX : ∀ (b0 : Nat) (h : AH) (e1 : Option Nat) (hr : AH), kX b0 h = some (e1, hr) → Ct l G yX15_readTerms fT lT [.ref b0] h (QT e1 hr)) (hoX : ∀ (b0 : Nat) (h : AH) (e1 : Option Nat) (hr : AH), kX b0 h = some (e1, hr) → isO 15 h b0 = true)  {a0 : Nat} {h : AH} {e1 : Option Nat} {hr : AH} (hf : f_X15_readPart G.2.2 kX a0 h = some (e1, hr)) : Ct l G yX15_readPart (fT + 5) (lT + 100) [.ref a0] h (QT e1 hr) := by
  unfold f_X15_readPart at hf
  obtain ⟨ho, hf⟩ := ifO hf
  refine Ct_of (own := RX15) (cc := cX15_readPart) (nL := 2) (ret := none) rfl rfl k_2257 (Nat.le_of_ble_eq_true rfl) (fun X C2 C => ?_)
  show V X G h (QT e1 hr) 0 [(0, .ref a0)] [] h
  refine C.seg (pe := 3) (lv' := [(0, .ref a0)]) (st' := [.int 40, .ref a0]) [(.aload_n 0, 1, 0), (.bipush 40, 2, 40)] (by decide +kernel) rfl ?_
  obtain ⟨x1, h2, gx1, hf⟩ := b2_some hf
  refine C.callVr C2 [.int 40] [] mv_2258 rfl (o_X15_is gx1) (w_X15_is gx1) (by omega) (by omega) (Nat.le_of_ble_eq_true rfl) (by decide +kernel) rfl ?_
  refine C.if_eq (off := 53) (tgt := 59) (pf := 9) (by decide +kernel) (by decide) rfl (fun c23 => ?_) (fun c23 => ?_)
  · replace hf := ifp c23 hf
    refine C.seg (pe := 60) (lv' := [(0, .ref a0)]) (st' := [.ref a0]) [(.aload_n 0, 1, 0)] (by decide +kernel) rfl ?_
    obtain ⟨x3, gx3, hf⟩ := Option.bind_eq_some_iff.mp hf
    refine C.rdI fr_1814 gx3 (by decide +kernel) rfl ?_
    refine C.seg (pe := 64) (lv' := [(0, .ref a0)]) (st' := [.int 3, .int x3]) [(.iconst 3, 1, 3)] (by decide +kernel) rfl ?_
    refine C.icmp_eq (off := 11) (tgt := 75) (pf := 67) (by decide +kernel) (by decide) rfl (fun c6 => ?_) (fun c6 => ?_)
    · replace hf := ifp c6 hf
      exact l_X15_readPart_75 C C2 hfT hlT hkX hoX a0 h2 hf
    · replace hf := ifn c6 hf
      refine C.seg (pe := 68) (lv' := [(0, .ref a0)]) (st' := [.ref a0]) [(.aload_n 0, 1, 0)] (by decide +kernel) rfl ?_
      obtain ⟨x4, gx4, hf⟩ := Option.bind_eq_some_iff.mp hf
      refine C.rdI fr_1814 gx4 (by decide +kernel) rfl ?_
      refine C.seg (pe := 72) (lv' := [(0, .ref a0)]) (st' := [.int 2, .int x4]) [(.iconst 2, 1, 2)] (by decide +kernel) rfl ?_
      refine C.icmp_ne (off := 10) (tgt := 82) (pf := 75) (by decide +kernel) (by decide) rfl (fun c5 => ?_) (fun c5 => ?_)
      · replace hf := ifn c5 hf
        exact l_X15_readPart_82 C C2 hfT hlT hkX hoX a0 h2 hf
      · replace hf := ifp c5 hf
        exact l_X15_readPart_75 C C2 hfT hlT hkX hoX a0 h2 hf
  · replace hf := ifn c23 hf
    refine C.seg (pe := 10) (lv' := [(0, .ref a0)]) (st' := [.ref a0]) [(.aload_n 0, 1, 0)] (by decide +kernel) rfl ?_
    obtain ⟨x7, gx7, hf⟩ := Option.bind_eq_some_iff.mp hf
    refine C.rdI fr_1820 gx7 (by decide +kernel) rfl ?_
    refine C.seg (pe := 15) (lv' := [(0, .ref a0)]) (st' := [.int 6, .int x7]) [(.bipush 6, 2, 6)] (by decide +kernel) rfl ?_
    refine C.icmp_ne (off := 9) (tgt := 24) (pf := 18) (by decide +kernel) (by decide) rfl (fun c22 => ?_) (fun c22 => ?_)
    · replace hf := ifn c22 hf
      refine C.seg (pe := 26) (lv' := [(0, .ref a0)]) (st' := [.ref a0, .ref a0]) [(.aload_n 0, 1, 0), (.dup, 1, 0)] (by decide +kernel) rfl ?_
      obtain ⟨x8, gx8, hf⟩ := Option.bind_eq_some_iff.mp hf
      refine C.rdI fr_1820 gx8 (by decide +kernel) rfl ?_
      refine C.seg (pe := 31) (lv' := [(0, .ref a0)]) (st' := [.int (x8 + 1), .ref a0]) [(.iconst 1, 1, 1), (.iadd, 1, 0)] (by decide +kernel) rfl ?_
      obtain ⟨h9, gh9, hf⟩ := Option.bind_eq_some_iff.mp hf
      refine C.putI fl_1820 gh9 (by decide +kernel) rfl ?_
      refine C.seg (pe := 35) (lv' := [(0, .ref a0)]) (st' := [.ref a0]) [(.aload_n 0, 1, 0)] (by decide +kernel) rfl ?_
      obtain ⟨h10, gh10, hf⟩ := Option.bind_eq_some_iff.mp hf
      refine C.callVr C2 [] [] mv_2193 rfl (o_X15_next gh10) (w_X15_next gh10) (by omega) (by omega) (Nat.le_of_ble_eq_true rfl) (by decide +kernel) rfl ?_
      refine C.seg (pe := 39) (lv' := [(0, .ref a0)]) (st' := [.ref a0]) [(.aload_n 0, 1, 0)] (by decide +kernel) rfl ?_
      obtain ⟨q11, h12, gq11, hf⟩ := b2_some hf
      cases q11 with
      | none =>
        replace hf := tr_none hf
        refine C.callVr C2 [] [] mv_2246 rfl (hoX _ _ _ _ gq11) (hkX _ _ _ _ gq11) (by omega) (by omega) (Nat.le_of_ble_eq_true rfl) (by decide +kernel) rfl ?_
        refine C.seg (pe := 45) (lv' := [(0, .ref a0)]) (st' := [.int 41, .ref a0]) [(.aload_n 0, 1, 0), (.bipush 41, 2, 41)] (by decide +kernel) rfl ?_
        obtain ⟨q14, h15, gq14, hf⟩ := b2_some hf
        cases q14 with
        | none =>
          replace hf := tr_none hf
          refine C.callVr C2 [.int 41] [] mv_2262 rfl (o_X15_need gq14) (w_X15_need gq14) (by omega) (by omega) (Nat.le_of_ble_eq_true rfl) (by decide +kernel) rfl ?_
          refine C.seg (pe := 50) (lv' := [(0, .ref a0)]) (st' := [.ref a0, .ref a0]) [(.aload_n 0, 1, 0), (.dup, 1, 0)] (by decide +kernel) rfl ?_
          obtain ⟨x17, gx17, hf⟩ := Option.bind_eq_some_iff.mp hf
          refine C.rdI fr_1820 gx17 (by decide +kernel) rfl ?_
          refine C.seg (pe := 55) (lv' := [(0, .ref a0)]) (st' := [.int (x17 - 1), .ref a0]) [(.iconst 1, 1, 1), (.isub, 1, 0)] (by decide +kernel) rfl ?_
          obtain ⟨h18, gh18, hf⟩ := Option.bind_eq_some_iff.mp hf
          refine C.putI fl_1820 gh18 (by decide +kernel) rfl ?_
          cases hf
          exact C.retV rfl (by decide +kernel) ⟨rfl, rfl⟩
        | some a16 =>
          replace hf := tr_some hf
          cases hf
          exact C.callVt C2 [.int 41] [] mv_2262 rfl (o_X15_need gq14) (w_X15_need gq14) (by omega) (by omega) (Nat.le_of_ble_eq_true rfl) (by decide +kernel) ⟨rfl, rfl⟩
      | some a13 =>
        replace hf := tr_some hf
        cases hf
        exact C.callVt C2 [] [] mv_2246 rfl (hoX _ _ _ _ gq11) (hkX _ _ _ _ gq11) (by omega) (by omega) (Nat.le_of_ble_eq_true rfl) (by decide +kernel) ⟨rfl, rfl⟩
    · replace hf := ifp c22 hf
      refine C.seg (pe := 20) (lv' := [(0, .ref a0)]) (st' := [.int 4, .ref a0]) [(.aload_n 0, 1, 0), (.iconst 4, 1, 4)] (by decide +kernel) rfl ?_
      obtain ⟨q19, h20, gq19, hf⟩ := b2_some hf
      cases q19 with
      | none =>
        replace hf := tr_none hf
        refine C.callVr C2 [.int 4] [] mv_2220 rfl (o_X15_stop gq19) (w_X15_stop gq19) (by omega) (by omega) (Nat.le_of_ble_eq_true rfl) (by decide +kernel) rfl ?_
        cases hf
      | some a21 =>
        replace hf := tr_some hf
        refine C.callVr C2 [.int 4] [] mv_2220 rfl (o_X15_stop gq19) (w_X15_stop gq19) (by omega) (by omega) (Nat.le_of_ble_eq_true rfl) (by decide +kernel) rfl ?_
        cases hf
        exact C.athrow C2 (by decide +kernel) ⟨rfl, rfl⟩
theorem o_X15_readPart {z : ZX} {kX : Nat → AH → Option (Option Nat × AH)} {a0 : Nat} {h : AH} {e1 : Option Nat} {hr : AH} (hf : f_X15_readPart z kX a0 h = some (e1, hr)) : isO 15 h a0 = true := by
  unfold f_X15_readPart at hf
  exact (ifO hf).1
/-! WallHouseModel.readTerm()V -/
def f_X15_readTerm_38 (z : ZX) (kX : Nat → AH → Option (Option Nat × AH)) (k4 : Nat → AH → Option (Option Nat × AH)) (r0 : Nat) (si0 : Int32) (h : AH) : Option (Option Nat × AH) :=
  (f_X15_next r0 h).bind fun h1 =>
  b2 (f_X15_readPart z kX r0 h1) fun q2 h3 =>
  tr q2 (
    (gA 15 h3 r0 40).bind fun a5 =>
    (f_X12_put a5 si0 0 h3).bind fun h6 =>
    k4 r0 h6) fun a4 =>
  some (some a4, h3)
set_option maxRecDepth 100000 in
set_option maxHeartbeats 4000000 in
theorem l_X15_readTerm_38 {X : MX} {l : Launch} {G : GX} {h0 : AH} {fT lT : Nat} {e1 : Option Nat} {hr : AH} (C : Cx X G RX15 cX15_readTerm 2 none (fT + 10) (lT + 200) h0) (C2 : Cy X l "readTerm" []) {kX : Nat → AH → Option (Option Nat × AH)} (hfT : 200 ≤ fT) (hlT : 4000 ≤ lT) (hkX : ∀ (b0 : Nat) (h : AH) (e1 : Option Nat) (hr : AH), kX b0 h = some (e1, hr) → Ct l G yX15_readTerms fT lT [.ref b0] h (QT e1 hr)) (hoX : ∀ (b0 : Nat) (h : AH) (e1 : Option Nat) (hr : AH), kX b0 h = some (e1, hr) → isO 15 h b0 = true) {k4 : Nat → AH → Option (Option Nat × AH)} (hk4 : ∀ (r0 : Nat) (h : AH), k4 r0 h = some (e1, hr) → V X G h0 (QT e1 hr) 4 [(0, .ref r0)] [] h) (r0 : Nat) (si0 : Int32) (h : AH) (hf : f_X15_readTerm_38 G.2.2 kX k4 r0 si0 h = some (e1, hr)) : V X G h0 (QT e1 hr) 38 [(0, .ref r0)] [.int si0] h := by
  unfold f_X15_readTerm_38 at hf
  refine C.seg (pe := 40) (lv' := [(1, .int si0), (0, .ref r0)]) (st' := [.ref r0]) [(.istore_n 1, 1, 0), (.aload_n 0, 1, 0)] (by decide +kernel) rfl ?_
  obtain ⟨h1, gh1, hf⟩ := Option.bind_eq_some_iff.mp hf
  refine C.callVr C2 [] [] mv_2193 rfl (o_X15_next gh1) (w_X15_next gh1) (by omega) (by omega) (Nat.le_of_ble_eq_true rfl) (by decide +kernel) rfl ?_
  refine C.seg (pe := 44) (lv' := [(1, .int si0), (0, .ref r0)]) (st' := [.ref r0]) [(.aload_n 0, 1, 0)] (by decide +kernel) rfl ?_
  obtain ⟨q2, h3, gq2, hf⟩ := b2_some hf
  cases q2 with
  | none =>
    replace hf := tr_none hf
    refine C.callVr C2 [] [] mv_2254 rfl (o_X15_readPart gq2) (w_X15_readPart hfT hlT hkX hoX gq2) (by omega) (by omega) (Nat.le_of_ble_eq_true rfl) (by decide +kernel) rfl ?_
    refine C.seg (pe := 48) (lv' := [(1, .int si0), (0, .ref r0)]) (st' := [.ref r0]) [(.aload_n 0, 1, 0)] (by decide +kernel) rfl ?_
    obtain ⟨a5, ga5, hf⟩ := Option.bind_eq_some_iff.mp hf
    refine C.rdA fr_1826 ga5 (by decide +kernel) rfl ?_
    refine C.seg (pe := 53) (lv' := [(1, .int si0), (0, .ref r0)]) (st' := [.int 0, .int si0, .ref a5]) [(.iload_n 1, 1, 0), (.iconst 0, 1, 0)] (by decide +kernel) rfl ?_
    obtain ⟨h6, gh6, hf⟩ := Option.bind_eq_some_iff.mp hf
    refine C.callVr C2 [.int si0, .int 0] [] mv_2283 rfl (o_X12_put gh6) (w_X12_put gh6) (by omega) (by omega) (Nat.le_of_ble_eq_true rfl) (by decide +kernel) rfl ?_
    refine C.goto (off := (-52)) (tgt := 4) (by decide +kernel) (by decide) ?_
    refine Vsub [1] rfl ?_
    exact hk4 r0 h6 hf
  | some a4 =>
    replace hf := tr_some hf
    cases hf
    exact C.callVt C2 [] [] mv_2254 rfl (o_X15_readPart gq2) (w_X15_readPart hfT hlT hkX hoX gq2) (by omega) (by omega) (Nat.le_of_ble_eq_true rfl) (by decide +kernel) ⟨rfl, rfl⟩
def f_X15_readTerm_22 (z : ZX) (kX : Nat → AH → Option (Option Nat × AH)) (k4 : Nat → AH → Option (Option Nat × AH)) (r0 : Nat) (h : AH) : Option (Option Nat × AH) :=
  b2 (f_X15_is r0 42 h) fun x1 h2 =>
  if x1 = 0 then
    f_X15_readTerm_38 z kX k4 r0 7 h2
  else
    f_X15_readTerm_38 z kX k4 r0 6 h2
set_option maxRecDepth 100000 in
set_option maxHeartbeats 4000000 in
theorem l_X15_readTerm_22 {X : MX} {l : Launch} {G : GX} {h0 : AH} {fT lT : Nat} {e1 : Option Nat} {hr : AH} (C : Cx X G RX15 cX15_readTerm 2 none (fT + 10) (lT + 200) h0) (C2 : Cy X l "readTerm" []) {kX : Nat → AH → Option (Option Nat × AH)} (hfT : 200 ≤ fT) (hlT : 4000 ≤ lT) (hkX : ∀ (b0 : Nat) (h : AH) (e1 : Option Nat) (hr : AH), kX b0 h = some (e1, hr) → Ct l G yX15_readTerms fT lT [.ref b0] h (QT e1 hr)) (hoX : ∀ (b0 : Nat) (h : AH) (e1 : Option Nat) (hr : AH), kX b0 h = some (e1, hr) → isO 15 h b0 = true) {k4 : Nat → AH → Option (Option Nat × AH)} (hk4 : ∀ (r0 : Nat) (h : AH), k4 r0 h = some (e1, hr) → V X G h0 (QT e1 hr) 4 [(0, .ref r0)] [] h) (r0 : Nat) (h : AH) (hf : f_X15_readTerm_22 G.2.2 kX k4 r0 h = some (e1, hr)) : V X G h0 (QT e1 hr) 22 [(0, .ref r0)] [] h := by
  unfold f_X15_readTerm_22 at hf
  refine C.seg (pe := 25) (lv' := [(0, .ref r0)]) (st' := [.int 42, .ref r0]) [(.aload_n 0, 1, 0), (.bipush 42, 2, 42)] (by decide +kernel) rfl ?_
  obtain ⟨x1, h2, gx1, hf⟩ := b2_some hf
  refine C.callVr C2 [.int 42] [] mv_2258 rfl (o_X15_is gx1) (w_X15_is gx1) (by omega) (by omega) (Nat.le_of_ble_eq_true rfl) (by decide +kernel) rfl ?_
  refine C.if_eq (off := 8) (tgt := 36) (pf := 31) (by decide +kernel) (by decide) rfl (fun c3 => ?_) (fun c3 => ?_)
  · replace hf := ifp c3 hf
    refine C.seg (pe := 38) (lv' := [(0, .ref r0)]) (st' := [.int 7]) [(.bipush 7, 2, 7)] (by decide +kernel) rfl ?_
    exact l_X15_readTerm_38 C C2 hfT hlT hkX hoX hk4 r0 7 h2 hf
  · replace hf := ifn c3 hf
    refine C.seg (pe := 33) (lv' := [(0, .ref r0)]) (st' := [.int 6]) [(.bipush 6, 2, 6)] (by decide +kernel) rfl ?_
    refine C.goto (off := 5) (tgt := 38) (by decide +kernel) (by decide) ?_
    exact l_X15_readTerm_38 C C2 hfT hlT hkX hoX hk4 r0 6 h2 hf
def f_X15_readTerm_4 (z : ZX) (kX : Nat → AH → Option (Option Nat × AH)) : Nat → Nat → AH → Option (Option Nat × AH)
  | 0, _, _ => none
  | n + 1, r0, h =>
    b2 (f_X15_is r0 42 h) fun x1 h2 =>
    if x1 = 0 then
      b2 (f_X15_is r0 47 h2) fun x3 h4 =>
      if x3 = 0 then
        some (none, h4)
      else
        f_X15_readTerm_22 z kX (f_X15_readTerm_4 z kX n) r0 h4
    else
      f_X15_readTerm_22 z kX (f_X15_readTerm_4 z kX n) r0 h2
set_option maxRecDepth 100000 in
set_option maxHeartbeats 4000000 in
theorem l_X15_readTerm_4 {X : MX} {l : Launch} {G : GX} {h0 : AH} {fT lT : Nat} {e1 : Option Nat} {hr : AH} (C : Cx X G RX15 cX15_readTerm 2 none (fT + 10) (lT + 200) h0) (C2 : Cy X l "readTerm" []) {kX : Nat → AH → Option (Option Nat × AH)} (hfT : 200 ≤ fT) (hlT : 4000 ≤ lT) (hkX : ∀ (b0 : Nat) (h : AH) (e1 : Option Nat) (hr : AH), kX b0 h = some (e1, hr) → Ct l G yX15_readTerms fT lT [.ref b0] h (QT e1 hr)) (hoX : ∀ (b0 : Nat) (h : AH) (e1 : Option Nat) (hr : AH), kX b0 h = some (e1, hr) → isO 15 h b0 = true) : ∀ (n : Nat) (r0 : Nat) (h : AH), f_X15_readTerm_4 G.2.2 kX n r0 h = some (e1, hr) → V X G h0 (QT e1 hr) 4 [(0, .ref r0)] [] h := by
  intro n
  induction n with
  | zero => intro r0 h hf; rw [f_X15_readTerm_4] at hf; cases hf
  | succ n ih =>
    intro r0 h hf
    rw [f_X15_readTerm_4] at hf
    refine C.seg (pe := 7) (lv' := [(0, .ref r0)]) (st' := [.int 42, .ref r0]) [(.aload_n 0, 1, 0), (.bipush 42, 2, 42)] (by decide +kernel) rfl ?_
    obtain ⟨x1, h2, gx1, hf⟩ := b2_some hf
    refine C.callVr C2 [.int 42] [] mv_2258 rfl (o_X15_is gx1) (w_X15_is gx1) (by omega) (by omega) (Nat.le_of_ble_eq_true rfl) (by decide +kernel) rfl ?_
    refine C.if_ne (off := 12) (tgt := 22) (pf := 13) (by decide +kernel) (by decide) rfl (fun c6 => ?_) (fun c6 => ?_)
    · replace hf := ifn c6 hf
      exact l_X15_readTerm_22 C C2 hfT hlT hkX hoX ih r0 h2 hf
    · replace hf := ifp c6 hf
      refine C.seg (pe := 16) (lv' := [(0, .ref r0)]) (st' := [.int 47, .ref r0]) [(.aload_n 0, 1, 0), (.bipush 47, 2, 47)] (by decide +kernel) rfl ?_
      obtain ⟨x3, h4, gx3, hf⟩ := b2_some hf
      refine C.callVr C2 [.int 47] [] mv_2258 rfl (o_X15_is gx3) (w_X15_is gx3) (by omega) (by omega) (Nat.le_of_ble_eq_true rfl) (by decide +kernel) rfl ?_
      refine C.if_eq (off := 40) (tgt := 59) (pf := 22) (by decide +kernel) (by decide) rfl (fun c5 => ?_) (fun c5 => ?_)
      · replace hf := ifp c5 hf
        cases hf
        exact C.retV rfl (by decide +kernel) ⟨rfl, rfl⟩
      · replace hf := ifn c5 hf
        exact l_X15_readTerm_22 C C2 hfT hlT hkX hoX ih r0 h4 hf
def f_X15_readTerm (z : ZX) (kX : Nat → AH → Option (Option Nat × AH)) (a0 : Nat) (h : AH) : Option (Option Nat × AH) :=
  if isO 15 h a0 = true then
    b2 (f_X15_readPart z kX a0 h) fun q1 h2 =>
    tr q1 (
      f_X15_readTerm_4 z kX FU a0 h2) fun a3 =>
    some (some a3, h2)
  else none
set_option maxRecDepth 100000 in
set_option maxHeartbeats 4000000 in
theorem w_X15_readTerm {l : Launch} {G : GX} {fT lT : Nat} {kX : Nat → AH → Option (Option Nat × AH)} (hfT : 200 ≤ fT) (hlT : 4000 ≤ lT) (hkX : ∀ (b0 : Nat) (h : AH) (e1 : Option Nat) (hr : AH), kX b0 h = some (e1, hr) → Ct l G yX15_readTerms fT lT [.ref b0] h (QT e1 hr)) (hoX : ∀ (b0 : Nat) (h : AH) (e1 : Option Nat) (hr : AH), kX b0 h = some (e1, hr) → isO 15 h b0 = true)  {a0 : Nat} {h : AH} {e1 : Option Nat} {hr : AH} (hf : f_X15_readTerm G.2.2 kX a0 h = some (e1, hr)) : Ct l G yX15_readTerm (fT + 10) (lT + 200) [.ref a0] h (QT e1 hr) := by
  unfold f_X15_readTerm at hf
  obtain ⟨ho, hf⟩ := ifO hf
  refine Ct_of (own := RX15) (cc := cX15_readTerm) (nL := 2) (ret := none) rfl rfl k_2253 (Nat.le_of_ble_eq_true rfl) (fun X C2 C => ?_)
  show V X G h (QT e1 hr) 0 [(0, .ref a0)] [] h
  refine C.seg (pe := 1) (lv' := [(0, .ref a0)]) (st' := [.ref a0]) [(.aload_n 0, 1, 0)] (by decide +kernel) rfl ?_
  obtain ⟨q1, h2, gq1, hf⟩ := b2_some hf
  cases q1 with
  | none =>
    replace hf := tr_none hf
    refine C.callVr C2 [] [] mv_2254 rfl (o_X15_readPart gq1) (w_X15_readPart hfT hlT hkX hoX gq1) (by omega) (by omega) (Nat.le_of_ble_eq_true rfl) (by decide +kernel) rfl ?_
    exact l_X15_readTerm_4 C C2 hfT hlT hkX hoX FU a0 h2 hf
  | some a3 =>
    replace hf := tr_some hf
    cases hf
    exact C.callVt C2 [] [] mv_2254 rfl (o_X15_readPart gq1) (w_X15_readPart hfT hlT hkX hoX gq1) (by omega) (by omega) (Nat.le_of_ble_eq_true rfl) (by decide +kernel) ⟨rfl, rfl⟩
theorem o_X15_readTerm {z : ZX} {kX : Nat → AH → Option (Option Nat × AH)} {a0 : Nat} {h : AH} {e1 : Option Nat} {hr : AH} (hf : f_X15_readTerm z kX a0 h = some (e1, hr)) : isO 15 h a0 = true := by
  unfold f_X15_readTerm at hf
  exact (ifO hf).1
/-! WallHouseModel.readTerms()V -/
def f_X15_readTerms_36 (z : ZX) (kX : Nat → AH → Option (Option Nat × AH)) (k4 : Nat → AH → Option (Option Nat × AH)) (r0 : Nat) (si0 : Int32) (h : AH) : Option (Option Nat × AH) :=
  (f_X15_next r0 h).bind fun h1 =>
  b2 (f_X15_readTerm z kX r0 h1) fun q2 h3 =>
  tr q2 (
    (gA 15 h3 r0 40).bind fun a5 =>
    (f_X12_put a5 si0 0 h3).bind fun h6 =>
    k4 r0 h6) fun a4 =>
  some (some a4, h3)
set_option maxRecDepth 100000 in
set_option maxHeartbeats 4000000 in
theorem l_X15_readTerms_36 {X : MX} {l : Launch} {G : GX} {h0 : AH} {fT lT : Nat} {e1 : Option Nat} {hr : AH} (C : Cx X G RX15 cX15_readTerms 2 none (fT + 20) (lT + 400) h0) (C2 : Cy X l "readTerms" []) {kX : Nat → AH → Option (Option Nat × AH)} (hfT : 200 ≤ fT) (hlT : 4000 ≤ lT) (hkX : ∀ (b0 : Nat) (h : AH) (e1 : Option Nat) (hr : AH), kX b0 h = some (e1, hr) → Ct l G yX15_readTerms fT lT [.ref b0] h (QT e1 hr)) (hoX : ∀ (b0 : Nat) (h : AH) (e1 : Option Nat) (hr : AH), kX b0 h = some (e1, hr) → isO 15 h b0 = true) {k4 : Nat → AH → Option (Option Nat × AH)} (hk4 : ∀ (r0 : Nat) (h : AH), k4 r0 h = some (e1, hr) → V X G h0 (QT e1 hr) 4 [(0, .ref r0)] [] h) (r0 : Nat) (si0 : Int32) (h : AH) (hf : f_X15_readTerms_36 G.2.2 kX k4 r0 si0 h = some (e1, hr)) : V X G h0 (QT e1 hr) 36 [(0, .ref r0)] [.int si0] h := by
  unfold f_X15_readTerms_36 at hf
  refine C.seg (pe := 38) (lv' := [(1, .int si0), (0, .ref r0)]) (st' := [.ref r0]) [(.istore_n 1, 1, 0), (.aload_n 0, 1, 0)] (by decide +kernel) rfl ?_
  obtain ⟨h1, gh1, hf⟩ := Option.bind_eq_some_iff.mp hf
  refine C.callVr C2 [] [] mv_2193 rfl (o_X15_next gh1) (w_X15_next gh1) (by omega) (by omega) (Nat.le_of_ble_eq_true rfl) (by decide +kernel) rfl ?_
  refine C.seg (pe := 42) (lv' := [(1, .int si0), (0, .ref r0)]) (st' := [.ref r0]) [(.aload_n 0, 1, 0)] (by decide +kernel) rfl ?_
  obtain ⟨q2, h3, gq2, hf⟩ := b2_some hf
  cases q2 with
  | none =>
    replace hf := tr_none hf
    refine C.callVr C2 [] [] mv_2250 rfl (o_X15_readTerm gq2) (w_X15_readTerm hfT hlT hkX hoX gq2) (by omega) (by omega) (Nat.le_of_ble_eq_true rfl) (by decide +kernel) rfl ?_
    refine C.seg (pe := 46) (lv' := [(1, .int si0), (0, .ref r0)]) (st' := [.ref r0]) [(.aload_n 0, 1, 0)] (by decide +kernel) rfl ?_
    obtain ⟨a5, ga5, hf⟩ := Option.bind_eq_some_iff.mp hf
    refine C.rdA fr_1826 ga5 (by decide +kernel) rfl ?_
    refine C.seg (pe := 51) (lv' := [(1, .int si0), (0, .ref r0)]) (st' := [.int 0, .int si0, .ref a5]) [(.iload_n 1, 1, 0), (.iconst 0, 1, 0)] (by decide +kernel) rfl ?_
    obtain ⟨h6, gh6, hf⟩ := Option.bind_eq_some_iff.mp hf
    refine C.callVr C2 [.int si0, .int 0] [] mv_2283 rfl (o_X12_put gh6) (w_X12_put gh6) (by omega) (by omega) (Nat.le_of_ble_eq_true rfl) (by decide +kernel) rfl ?_
    refine C.goto (off := (-50)) (tgt := 4) (by decide +kernel) (by decide) ?_
    refine Vsub [1] rfl ?_
    exact hk4 r0 h6 hf
  | some a4 =>
    replace hf := tr_some hf
    cases hf
    exact C.callVt C2 [] [] mv_2250 rfl (o_X15_readTerm gq2) (w_X15_readTerm hfT hlT hkX hoX gq2) (by omega) (by omega) (Nat.le_of_ble_eq_true rfl) (by decide +kernel) ⟨rfl, rfl⟩
def f_X15_readTerms_22 (z : ZX) (kX : Nat → AH → Option (Option Nat × AH)) (k4 : Nat → AH → Option (Option Nat × AH)) (r0 : Nat) (h : AH) : Option (Option Nat × AH) :=
  b2 (f_X15_is r0 43 h) fun x1 h2 =>
  if x1 = 0 then
    f_X15_readTerms_36 z kX k4 r0 5 h2
  else
    f_X15_readTerms_36 z kX k4 r0 4 h2
set_option maxRecDepth 100000 in
set_option maxHeartbeats 4000000 in
theorem l_X15_readTerms_22 {X : MX} {l : Launch} {G : GX} {h0 : AH} {fT lT : Nat} {e1 : Option Nat} {hr : AH} (C : Cx X G RX15 cX15_readTerms 2 none (fT + 20) (lT + 400) h0) (C2 : Cy X l "readTerms" []) {kX : Nat → AH → Option (Option Nat × AH)} (hfT : 200 ≤ fT) (hlT : 4000 ≤ lT) (hkX : ∀ (b0 : Nat) (h : AH) (e1 : Option Nat) (hr : AH), kX b0 h = some (e1, hr) → Ct l G yX15_readTerms fT lT [.ref b0] h (QT e1 hr)) (hoX : ∀ (b0 : Nat) (h : AH) (e1 : Option Nat) (hr : AH), kX b0 h = some (e1, hr) → isO 15 h b0 = true) {k4 : Nat → AH → Option (Option Nat × AH)} (hk4 : ∀ (r0 : Nat) (h : AH), k4 r0 h = some (e1, hr) → V X G h0 (QT e1 hr) 4 [(0, .ref r0)] [] h) (r0 : Nat) (h : AH) (hf : f_X15_readTerms_22 G.2.2 kX k4 r0 h = some (e1, hr)) : V X G h0 (QT e1 hr) 22 [(0, .ref r0)] [] h := by
  unfold f_X15_readTerms_22 at hf
  refine C.seg (pe := 25) (lv' := [(0, .ref r0)]) (st' := [.int 43, .ref r0]) [(.aload_n 0, 1, 0), (.bipush 43, 2, 43)] (by decide +kernel) rfl ?_
  obtain ⟨x1, h2, gx1, hf⟩ := b2_some hf
  refine C.callVr C2 [.int 43] [] mv_2258 rfl (o_X15_is gx1) (w_X15_is gx1) (by omega) (by omega) (Nat.le_of_ble_eq_true rfl) (by decide +kernel) rfl ?_
  refine C.if_eq (off := 7) (tgt := 35) (pf := 31) (by decide +kernel) (by decide) rfl (fun c3 => ?_) (fun c3 => ?_)
  · replace hf := ifp c3 hf
    refine C.seg (pe := 36) (lv' := [(0, .ref r0)]) (st' := [.int 5]) [(.iconst 5, 1, 5)] (by decide +kernel) rfl ?_
    exact l_X15_readTerms_36 C C2 hfT hlT hkX hoX hk4 r0 5 h2 hf
  · replace hf := ifn c3 hf
    refine C.seg (pe := 32) (lv' := [(0, .ref r0)]) (st' := [.int 4]) [(.iconst 4, 1, 4)] (by decide +kernel) rfl ?_
    refine C.goto (off := 4) (tgt := 36) (by decide +kernel) (by decide) ?_
    exact l_X15_readTerms_36 C C2 hfT hlT hkX hoX hk4 r0 4 h2 hf
def f_X15_readTerms_4 (z : ZX) (kX : Nat → AH → Option (Option Nat × AH)) : Nat → Nat → AH → Option (Option Nat × AH)
  | 0, _, _ => none
  | n + 1, r0, h =>
    b2 (f_X15_is r0 43 h) fun x1 h2 =>
    if x1 = 0 then
      b2 (f_X15_is r0 45 h2) fun x3 h4 =>
      if x3 = 0 then
        some (none, h4)
      else
        f_X15_readTerms_22 z kX (f_X15_readTerms_4 z kX n) r0 h4
    else
      f_X15_readTerms_22 z kX (f_X15_readTerms_4 z kX n) r0 h2
set_option maxRecDepth 100000 in
set_option maxHeartbeats 4000000 in
theorem l_X15_readTerms_4 {X : MX} {l : Launch} {G : GX} {h0 : AH} {fT lT : Nat} {e1 : Option Nat} {hr : AH} (C : Cx X G RX15 cX15_readTerms 2 none (fT + 20) (lT + 400) h0) (C2 : Cy X l "readTerms" []) {kX : Nat → AH → Option (Option Nat × AH)} (hfT : 200 ≤ fT) (hlT : 4000 ≤ lT) (hkX : ∀ (b0 : Nat) (h : AH) (e1 : Option Nat) (hr : AH), kX b0 h = some (e1, hr) → Ct l G yX15_readTerms fT lT [.ref b0] h (QT e1 hr)) (hoX : ∀ (b0 : Nat) (h : AH) (e1 : Option Nat) (hr : AH), kX b0 h = some (e1, hr) → isO 15 h b0 = true) : ∀ (n : Nat) (r0 : Nat) (h : AH), f_X15_readTerms_4 G.2.2 kX n r0 h = some (e1, hr) → V X G h0 (QT e1 hr) 4 [(0, .ref r0)] [] h := by
  intro n
  induction n with
  | zero => intro r0 h hf; rw [f_X15_readTerms_4] at hf; cases hf
  | succ n ih =>
    intro r0 h hf
    rw [f_X15_readTerms_4] at hf
    refine C.seg (pe := 7) (lv' := [(0, .ref r0)]) (st' := [.int 43, .ref r0]) [(.aload_n 0, 1, 0), (.bipush 43, 2, 43)] (by decide +kernel) rfl ?_
    obtain ⟨x1, h2, gx1, hf⟩ := b2_some hf
    refine C.callVr C2 [.int 43] [] mv_2258 rfl (o_X15_is gx1) (w_X15_is gx1) (by omega) (by omega) (Nat.le_of_ble_eq_true rfl) (by decide +kernel) rfl ?_
    refine C.if_ne (off := 12) (tgt := 22) (pf := 13) (by decide +kernel) (by decide) rfl (fun c6 => ?_) (fun c6 => ?_)
    · replace hf := ifn c6 hf
      exact l_X15_readTerms_22 C C2 hfT hlT hkX hoX ih r0 h2 hf
    · replace hf := ifp c6 hf
      refine C.seg (pe := 16) (lv' := [(0, .ref r0)]) (st' := [.int 45, .ref r0]) [(.aload_n 0, 1, 0), (.bipush 45, 2, 45)] (by decide +kernel) rfl ?_
      obtain ⟨x3, h4, gx3, hf⟩ := b2_some hf
      refine C.callVr C2 [.int 45] [] mv_2258 rfl (o_X15_is gx3) (w_X15_is gx3) (by omega) (by omega) (Nat.le_of_ble_eq_true rfl) (by decide +kernel) rfl ?_
      refine C.if_eq (off := 38) (tgt := 57) (pf := 22) (by decide +kernel) (by decide) rfl (fun c5 => ?_) (fun c5 => ?_)
      · replace hf := ifp c5 hf
        cases hf
        exact C.retV rfl (by decide +kernel) ⟨rfl, rfl⟩
      · replace hf := ifn c5 hf
        exact l_X15_readTerms_22 C C2 hfT hlT hkX hoX ih r0 h4 hf
def f_X15_readTerms_b (z : ZX) (kX : Nat → AH → Option (Option Nat × AH)) (a0 : Nat) (h : AH) : Option (Option Nat × AH) :=
  if isO 15 h a0 = true then
    b2 (f_X15_readTerm z kX a0 h) fun q1 h2 =>
    tr q1 (
      f_X15_readTerms_4 z kX FU a0 h2) fun a3 =>
    some (some a3, h2)
  else none
def f_X15_readTerms (z : ZX) : Nat → Nat → AH → Option (Option Nat × AH)
  | 0, _, _ => none
  | d + 1, a0, h => f_X15_readTerms_b z (f_X15_readTerms z d) a0 h
set_option maxRecDepth 100000 in
set_option maxHeartbeats 4000000 in
theorem w_X15_readTerms_b {l : Launch} {G : GX} {fT lT : Nat} {kX : Nat → AH → Option (Option Nat × AH)} (hfT : 200 ≤ fT) (hlT : 4000 ≤ lT) (hkX : ∀ (b0 : Nat) (h : AH) (e1 : Option Nat) (hr : AH), kX b0 h = some (e1, hr) → Ct l G yX15_readTerms fT lT [.ref b0] h (QT e1 hr)) (hoX : ∀ (b0 : Nat) (h : AH) (e1 : Option Nat) (hr : AH), kX b0 h = some (e1, hr) → isO 15 h b0 = true)  {a0 : Nat} {h : AH} {e1 : Option Nat} {hr : AH} (hf : f_X15_readTerms_b G.2.2 kX a0 h = some (e1, hr)) : Ct l G yX15_readTerms (fT + 20) (lT + 400) [.ref a0] h (QT e1 hr) := by
  unfold f_X15_readTerms_b at hf
  obtain ⟨ho, hf⟩ := ifO hf
  refine Ct_of (own := RX15) (cc := cX15_readTerms) (nL := 2) (ret := none) rfl rfl k_2249 (Nat.le_of_ble_eq_true rfl) (fun X C2 C => ?_)
  show V X G h (QT e1 hr) 0 [(0, .ref a0)] [] h
  refine C.seg (pe := 1) (lv' := [(0, .ref a0)]) (st' := [.ref a0]) [(.aload_n 0, 1, 0)] (by decide +kernel) rfl ?_
  obtain ⟨q1, h2, gq1, hf⟩ := b2_some hf
  cases q1 with
  | none =>
    replace hf := tr_none hf
    refine C.callVr C2 [] [] mv_2250 rfl (o_X15_readTerm gq1) (w_X15_readTerm hfT hlT hkX hoX gq1) (by omega) (by omega) (Nat.le_of_ble_eq_true rfl) (by decide +kernel) rfl ?_
    exact l_X15_readTerms_4 C C2 hfT hlT hkX hoX FU a0 h2 hf
  | some a3 =>
    replace hf := tr_some hf
    cases hf
    exact C.callVt C2 [] [] mv_2250 rfl (o_X15_readTerm gq1) (w_X15_readTerm hfT hlT hkX hoX gq1) (by omega) (by omega) (Nat.le_of_ble_eq_true rfl) (by decide +kernel) ⟨rfl, rfl⟩
theorem o_X15_readTerms {z : ZX} {d : Nat} {a0 : Nat} {h : AH} {e1 : Option Nat} {hr : AH} (hf : f_X15_readTerms z d a0 h = some (e1, hr)) : isO 15 h a0 = true := by
  cases d with
  | zero => rw [f_X15_readTerms] at hf; cases hf
  | succ d =>
    rw [f_X15_readTerms, f_X15_readTerms_b] at hf
    exact (ifO hf).1
theorem w_X15_readTerms {l : Launch} {G : GX} (d : Nat) : ∀ {a0 : Nat} {h : AH} {e1 : Option Nat} {hr : AH}, f_X15_readTerms G.2.2 d a0 h = some (e1, hr) → Ct l G yX15_readTerms (200 + 20 * d) (4000 + 400 * d) [.ref a0] h (QT e1 hr) := by
  induction d with
  | zero => intro a0 h e1 hr hf; rw [f_X15_readTerms] at hf; cases hf
  | succ d ih =>
    intro a0 h e1 hr hf
    rw [f_X15_readTerms] at hf
    have q := w_X15_readTerms_b (fT := 200 + 20 * d) (lT := 4000 + 400 * d) (by omega) (by omega) (fun b0 h e1 hr g => ih g) (fun b0 h e1 hr g => o_X15_readTerms g) hf
    rw [show 200 + 20 * (d + 1) = 200 + 20 * d + 20 by omega, show 4000 + 400 * (d + 1) = 4000 + 400 * d + 400 by omega]
    exact q
/-! WallHouseModel.readSum(II)V -/
def f_X15_readSum (z : ZX) (a0 : Nat) (p1 : Int32) (p2 : Int32) (h : AH) : Option (Option Nat × AH) :=
  if isO 15 h a0 = true then
    (gA 15 h a0 40).bind fun a1 =>
    (gA 12 h a1 8).bind fun a2 =>
    (gA 15 h a0 40).bind fun a3 =>
    (gI 12 h a3 1).bind fun x4 =>
    (sI 0 h a2 ((4 * p1) + p2) x4).bind fun h5 =>
    b2 (f_X15_readTerms z 8 a0 h5) fun q6 h7 =>
    tr q6 (
      (gA 15 h7 a0 40).bind fun a9 =>
      (gA 12 h7 a9 9).bind fun a10 =>
      (gA 15 h7 a0 40).bind fun a11 =>
      (gI 12 h7 a11 1).bind fun x12 =>
      (sI 0 h7 a10 ((4 * p1) + p2) x12).bind fun h13 =>
      some (none, h13)) fun a8 =>
    some (some a8, h7)
  else none
set_option maxRecDepth 100000 in
set_option maxHeartbeats 4000000 in
theorem w_X15_readSum {l : Launch} {G : GX} {a0 : Nat} {p1 : Int32} {p2 : Int32} {h : AH} {e1 : Option Nat} {hr : AH} (hf : f_X15_readSum G.2.2 a0 p1 p2 h = some (e1, hr)) : Ct l G yX15_readSum 361 7221 [.ref a0, .int p1, .int p2] h (QT e1 hr) := by
  unfold f_X15_readSum at hf
  obtain ⟨ho, hf⟩ := ifO hf
  refine Ct_of (own := RX15) (cc := cX15_readSum) (nL := 3) (ret := none) rfl rfl k_2245 (Nat.le_of_ble_eq_true rfl) (fun X C2 C => ?_)
  show V X G h (QT e1 hr) 0 [(0, .ref a0), (1, .int p1), (2, .int p2)] [] h
  refine C.seg (pe := 1) (lv' := [(0, .ref a0), (1, .int p1), (2, .int p2)]) (st' := [.ref a0]) [(.aload_n 0, 1, 0)] (by decide +kernel) rfl ?_
  obtain ⟨a1, ga1, hf⟩ := Option.bind_eq_some_iff.mp hf
  refine C.rdA fr_1826 ga1 (by decide +kernel) rfl ?_
  obtain ⟨a2, ga2, hf⟩ := Option.bind_eq_some_iff.mp hf
  refine C.rdA fr_1730 ga2 (by decide +kernel) rfl ?_
  refine C.seg (pe := 13) (lv' := [(0, .ref a0), (1, .int p1), (2, .int p2)]) (st' := [.ref a0, .int ((4 * p1) + p2), .ref a2]) [(.iconst 4, 1, 4), (.iload_n 1, 1, 0), (.imul, 1, 0), (.iload_n 2, 1, 0), (.iadd, 1, 0), (.aload_n 0, 1, 0)] (by decide +kernel) rfl ?_
  obtain ⟨a3, ga3, hf⟩ := Option.bind_eq_some_iff.mp hf
  refine C.rdA fr_1826 ga3 (by decide +kernel) rfl ?_
  obtain ⟨x4, gx4, hf⟩ := Option.bind_eq_some_iff.mp hf
  refine C.rdI fr_1716 gx4 (by decide +kernel) rfl ?_
  obtain ⟨h5, gh5, hf⟩ := Option.bind_eq_some_iff.mp hf
  refine C.ast gh5 (by decide +kernel) rfl ?_
  refine C.seg (pe := 21) (lv' := [(0, .ref a0), (1, .int p1), (2, .int p2)]) (st' := [.ref a0]) [(.aload_n 0, 1, 0)] (by decide +kernel) rfl ?_
  obtain ⟨q6, h7, gq6, hf⟩ := b2_some hf
  cases q6 with
  | none =>
    replace hf := tr_none hf
    refine C.callVr C2 [] [] mv_2246 rfl (o_X15_readTerms gq6) (w_X15_readTerms 8 gq6) (by omega) (by omega) (Nat.le_of_ble_eq_true rfl) (by decide +kernel) rfl ?_
    refine C.seg (pe := 25) (lv' := [(0, .ref a0), (1, .int p1), (2, .int p2)]) (st' := [.ref a0]) [(.aload_n 0, 1, 0)] (by decide +kernel) rfl ?_
    obtain ⟨a9, ga9, hf⟩ := Option.bind_eq_some_iff.mp hf
    refine C.rdA fr_1826 ga9 (by decide +kernel) rfl ?_
    obtain ⟨a10, ga10, hf⟩ := Option.bind_eq_some_iff.mp hf
    refine C.rdA fr_1732 ga10 (by decide +kernel) rfl ?_
    refine C.seg (pe := 37) (lv' := [(0, .ref a0), (1, .int p1), (2, .int p2)]) (st' := [.ref a0, .int ((4 * p1) + p2), .ref a10]) [(.iconst 4, 1, 4), (.iload_n 1, 1, 0), (.imul, 1, 0), (.iload_n 2, 1, 0), (.iadd, 1, 0), (.aload_n 0, 1, 0)] (by decide +kernel) rfl ?_
    obtain ⟨a11, ga11, hf⟩ := Option.bind_eq_some_iff.mp hf
    refine C.rdA fr_1826 ga11 (by decide +kernel) rfl ?_
    obtain ⟨x12, gx12, hf⟩ := Option.bind_eq_some_iff.mp hf
    refine C.rdI fr_1716 gx12 (by decide +kernel) rfl ?_
    obtain ⟨h13, gh13, hf⟩ := Option.bind_eq_some_iff.mp hf
    refine C.ast gh13 (by decide +kernel) rfl ?_
    cases hf
    exact C.retV rfl (by decide +kernel) ⟨rfl, rfl⟩
  | some a8 =>
    replace hf := tr_some hf
    cases hf
    exact C.callVt C2 [] [] mv_2246 rfl (o_X15_readTerms gq6) (w_X15_readTerms 8 gq6) (by omega) (by omega) (Nat.le_of_ble_eq_true rfl) (by decide +kernel) ⟨rfl, rfl⟩
theorem o_X15_readSum {z : ZX} {a0 : Nat} {p1 : Int32} {p2 : Int32} {h : AH} {e1 : Option Nat} {hr : AH} (hf : f_X15_readSum z a0 p1 p2 h = some (e1, hr)) : isO 15 h a0 = true := by
  unfold f_X15_readSum at hf
  exact (ifO hf).1
/-! WallHouseModel.needWord(Ljava/lang/String;)V -/
def f_X15_needWord (z : ZX) (a0 : Nat) (p1 : Nat) (h : AH) : Option (Option Nat × AH) :=
  if isO 15 h a0 = true then
    b2 (f_X15_isWord z a0 p1 h) fun x1 h2 =>
    if x1 = 0 then
      b2 (f_X15_stop a0 1 h2) fun q4 h5 =>
      tr q4 (
        none) fun a6 =>
      some (some a6, h5)
    else
      (f_X15_next a0 h2).bind fun h3 =>
      some (none, h3)
  else none
set_option maxRecDepth 100000 in
set_option maxHeartbeats 4000000 in
theorem w_X15_needWord {l : Launch} {G : GX} {a0 : Nat} {p1 : Nat} {h : AH} {e1 : Option Nat} {hr : AH} (hf : f_X15_needWord G.2.2 a0 p1 h = some (e1, hr)) : Ct l G yX15_needWord 6 129 [.ref a0, .ref p1] h (QT e1 hr) := by
  unfold f_X15_needWord at hf
  obtain ⟨ho, hf⟩ := ifO hf
  refine Ct_of (own := RX15) (cc := cX15_needWord) (nL := 2) (ret := none) rfl rfl k_2294 (Nat.le_of_ble_eq_true rfl) (fun X C2 C => ?_)
  show V X G h (QT e1 hr) 0 [(0, .ref a0), (1, .ref p1)] [] h
  refine C.seg (pe := 2) (lv' := [(0, .ref a0), (1, .ref p1)]) (st' := [.ref p1, .ref a0]) [(.aload_n 0, 1, 0), (.aload_n 1, 1, 0)] (by decide +kernel) rfl ?_
  obtain ⟨x1, h2, gx1, hf⟩ := b2_some hf
  refine C.callVr C2 [.ref p1] [] mv_2225 rfl (o_X15_isWord gx1) (w_X15_isWord gx1) (by omega) (by omega) (Nat.le_of_ble_eq_true rfl) (by decide +kernel) rfl ?_
  refine C.if_ne (off := 9) (tgt := 14) (pf := 8) (by decide +kernel) (by decide) rfl (fun c7 => ?_) (fun c7 => ?_)
  · replace hf := ifn c7 hf
    refine C.seg (pe := 15) (lv' := [(0, .ref a0), (1, .ref p1)]) (st' := [.ref a0]) [(.aload_n 0, 1, 0)] (by decide +kernel) rfl ?_
    obtain ⟨h3, gh3, hf⟩ := Option.bind_eq_some_iff.mp hf
    refine C.callVr C2 [] [] mv_2193 rfl (o_X15_next gh3) (w_X15_next gh3) (by omega) (by omega) (Nat.le_of_ble_eq_true rfl) (by decide +kernel) rfl ?_
    cases hf
    exact C.retV rfl (by decide +kernel) ⟨rfl, rfl⟩
  · replace hf := ifp c7 hf
    refine C.seg (pe := 10) (lv' := [(0, .ref a0), (1, .ref p1)]) (st' := [.int 1, .ref a0]) [(.aload_n 0, 1, 0), (.iconst 1, 1, 1)] (by decide +kernel) rfl ?_
    obtain ⟨q4, h5, gq4, hf⟩ := b2_some hf
    cases q4 with
    | none =>
      replace hf := tr_none hf
      refine C.callVr C2 [.int 1] [] mv_2220 rfl (o_X15_stop gq4) (w_X15_stop gq4) (by omega) (by omega) (Nat.le_of_ble_eq_true rfl) (by decide +kernel) rfl ?_
      cases hf
    | some a6 =>
      replace hf := tr_some hf
      refine C.callVr C2 [.int 1] [] mv_2220 rfl (o_X15_stop gq4) (w_X15_stop gq4) (by omega) (by omega) (Nat.le_of_ble_eq_true rfl) (by decide +kernel) rfl ?_
      cases hf
      exact C.athrow C2 (by decide +kernel) ⟨rfl, rfl⟩
theorem o_X15_needWord {z : ZX} {a0 : Nat} {p1 : Nat} {h : AH} {e1 : Option Nat} {hr : AH} (hf : f_X15_needWord z a0 p1 h = some (e1, hr)) : isO 15 h a0 = true := by
  unfold f_X15_needWord at hf
  exact (ifO hf).1
/-! WallHouseModel.readEach(I)V -/
def f_X15_readEach (z : ZX) (a0 : Nat) (p1 : Int32) (h : AH) : Option (Option Nat × AH) :=
  if isO 15 h a0 = true then
    b2 (f_X15_varHere a0 h) fun x1 h2 =>
    if x1 = (-1) then
      b2 (f_X15_stop a0 1 h2) fun q21 h22 =>
      tr q21 (
        none) fun a23 =>
      some (some a23, h22)
    else
      (gA 15 h2 a0 40).bind fun a3 =>
      (gA 12 h2 a3 4).bind fun a4 =>
      b2 (f_X15_varHere a0 h2) fun x5 h6 =>
      (sI 0 h6 a4 p1 x5).bind fun h7 =>
      (f_X15_next a0 h7).bind fun h8 =>
      b2 (f_X15_needWord z a0 ((z.1 21)) h8) fun q9 h10 =>
      tr q9 (
        b2 (f_X15_readSum z a0 p1 0 h10) fun q12 h13 =>
        tr q12 (
          b2 (f_X15_needWord z a0 ((z.1 22)) h13) fun q15 h16 =>
          tr q15 (
            b2 (f_X15_readSum z a0 p1 1 h16) fun q18 h19 =>
            tr q18 (
              some (none, h19)) fun a20 =>
            some (some a20, h19)) fun a17 =>
          some (some a17, h16)) fun a14 =>
        some (some a14, h13)) fun a11 =>
      some (some a11, h10)
  else none
set_option maxRecDepth 100000 in
set_option maxHeartbeats 4000000 in
theorem w_X15_readEach {l : Launch} {G : GX} {a0 : Nat} {p1 : Int32} {h : AH} {e1 : Option Nat} {hr : AH} (hf : f_X15_readEach G.2.2 a0 p1 h = some (e1, hr)) : Ct l G yX15_readEach 362 7243 [.ref a0, .int p1] h (QT e1 hr) := by
  unfold f_X15_readEach at hf
  obtain ⟨ho, hf⟩ := ifO hf
  refine Ct_of (own := RX15) (cc := cX15_readEach) (nL := 2) (ret := none) rfl rfl k_2290 (Nat.le_of_ble_eq_true rfl) (fun X C2 C => ?_)
  show V X G h (QT e1 hr) 0 [(0, .ref a0), (1, .int p1)] [] h
  refine C.seg (pe := 1) (lv' := [(0, .ref a0), (1, .int p1)]) (st' := [.ref a0]) [(.aload_n 0, 1, 0)] (by decide +kernel) rfl ?_
  obtain ⟨x1, h2, gx1, hf⟩ := b2_some hf
  refine C.callVr C2 [] [] mv_2272 rfl (o_X15_varHere gx1) (w_X15_varHere gx1) (by omega) (by omega) (Nat.le_of_ble_eq_true rfl) (by decide +kernel) rfl ?_
  refine C.seg (pe := 5) (lv' := [(0, .ref a0), (1, .int p1)]) (st' := [.int (-1), .int x1]) [(.iconst (-1), 1, (-1))] (by decide +kernel) rfl ?_
  refine C.icmp_ne (off := 9) (tgt := 14) (pf := 8) (by decide +kernel) (by decide) rfl (fun c24 => ?_) (fun c24 => ?_)
  · replace hf := ifn c24 hf
    refine C.seg (pe := 15) (lv' := [(0, .ref a0), (1, .int p1)]) (st' := [.ref a0]) [(.aload_n 0, 1, 0)] (by decide +kernel) rfl ?_
    obtain ⟨a3, ga3, hf⟩ := Option.bind_eq_some_iff.mp hf
    refine C.rdA fr_1826 ga3 (by decide +kernel) rfl ?_
    obtain ⟨a4, ga4, hf⟩ := Option.bind_eq_some_iff.mp hf
    refine C.rdA fr_1722 ga4 (by decide +kernel) rfl ?_
    refine C.seg (pe := 23) (lv' := [(0, .ref a0), (1, .int p1)]) (st' := [.ref a0, .int p1, .ref a4]) [(.iload_n 1, 1, 0), (.aload_n 0, 1, 0)] (by decide +kernel) rfl ?_
    obtain ⟨x5, h6, gx5, hf⟩ := b2_some hf
    refine C.callVr C2 [] [.int p1, .ref a4] mv_2272 rfl (o_X15_varHere gx5) (w_X15_varHere gx5) (by omega) (by omega) (Nat.le_of_ble_eq_true rfl) (by decide +kernel) rfl ?_
    obtain ⟨h7, gh7, hf⟩ := Option.bind_eq_some_iff.mp hf
    refine C.ast gh7 (by decide +kernel) rfl ?_
    refine C.seg (pe := 28) (lv' := [(0, .ref a0), (1, .int p1)]) (st' := [.ref a0]) [(.aload_n 0, 1, 0)] (by decide +kernel) rfl ?_
    obtain ⟨h8, gh8, hf⟩ := Option.bind_eq_some_iff.mp hf
    refine C.callVr C2 [] [] mv_2193 rfl (o_X15_next gh8) (w_X15_next gh8) (by omega) (by omega) (Nat.le_of_ble_eq_true rfl) (by decide +kernel) rfl ?_
    refine C.seg (pe := 32) (lv' := [(0, .ref a0), (1, .int p1)]) (st' := [.ref a0]) [(.aload_n 0, 1, 0)] (by decide +kernel) rfl ?_
    refine C.ldcwS (i := 21) (idx := 375) (tx := "from") rfl (by decide +kernel) rfl ?_
    obtain ⟨q9, h10, gq9, hf⟩ := b2_some hf
    cases q9 with
    | none =>
      replace hf := tr_none hf
      refine C.callVr C2 [.ref ((G.2.2.1 21))] [] mv_2291 rfl (o_X15_needWord gq9) (w_X15_needWord gq9) (by omega) (by omega) (Nat.le_of_ble_eq_true rfl) (by decide +kernel) rfl ?_
      refine C.seg (pe := 41) (lv' := [(0, .ref a0), (1, .int p1)]) (st' := [.int 0, .int p1, .ref a0]) [(.aload_n 0, 1, 0), (.iload_n 1, 1, 0), (.iconst 0, 1, 0)] (by decide +kernel) rfl ?_
      obtain ⟨q12, h13, gq12, hf⟩ := b2_some hf
      cases q12 with
      | none =>
        replace hf := tr_none hf
        refine C.callVr C2 [.int p1, .int 0] [] mv_2242 rfl (o_X15_readSum gq12) (w_X15_readSum gq12) (by omega) (by omega) (Nat.le_of_ble_eq_true rfl) (by decide +kernel) rfl ?_
        refine C.seg (pe := 45) (lv' := [(0, .ref a0), (1, .int p1)]) (st' := [.ref a0]) [(.aload_n 0, 1, 0)] (by decide +kernel) rfl ?_
        refine C.ldcwS (i := 22) (idx := 377) (tx := "to") rfl (by decide +kernel) rfl ?_
        obtain ⟨q15, h16, gq15, hf⟩ := b2_some hf
        cases q15 with
        | none =>
          replace hf := tr_none hf
          refine C.callVr C2 [.ref ((G.2.2.1 22))] [] mv_2291 rfl (o_X15_needWord gq15) (w_X15_needWord gq15) (by omega) (by omega) (Nat.le_of_ble_eq_true rfl) (by decide +kernel) rfl ?_
          refine C.seg (pe := 54) (lv' := [(0, .ref a0), (1, .int p1)]) (st' := [.int 1, .int p1, .ref a0]) [(.aload_n 0, 1, 0), (.iload_n 1, 1, 0), (.iconst 1, 1, 1)] (by decide +kernel) rfl ?_
          obtain ⟨q18, h19, gq18, hf⟩ := b2_some hf
          cases q18 with
          | none =>
            replace hf := tr_none hf
            refine C.callVr C2 [.int p1, .int 1] [] mv_2242 rfl (o_X15_readSum gq18) (w_X15_readSum gq18) (by omega) (by omega) (Nat.le_of_ble_eq_true rfl) (by decide +kernel) rfl ?_
            cases hf
            exact C.retV rfl (by decide +kernel) ⟨rfl, rfl⟩
          | some a20 =>
            replace hf := tr_some hf
            cases hf
            exact C.callVt C2 [.int p1, .int 1] [] mv_2242 rfl (o_X15_readSum gq18) (w_X15_readSum gq18) (by omega) (by omega) (Nat.le_of_ble_eq_true rfl) (by decide +kernel) ⟨rfl, rfl⟩
        | some a17 =>
          replace hf := tr_some hf
          cases hf
          exact C.callVt C2 [.ref ((G.2.2.1 22))] [] mv_2291 rfl (o_X15_needWord gq15) (w_X15_needWord gq15) (by omega) (by omega) (Nat.le_of_ble_eq_true rfl) (by decide +kernel) ⟨rfl, rfl⟩
      | some a14 =>
        replace hf := tr_some hf
        cases hf
        exact C.callVt C2 [.int p1, .int 0] [] mv_2242 rfl (o_X15_readSum gq12) (w_X15_readSum gq12) (by omega) (by omega) (Nat.le_of_ble_eq_true rfl) (by decide +kernel) ⟨rfl, rfl⟩
    | some a11 =>
      replace hf := tr_some hf
      cases hf
      exact C.callVt C2 [.ref ((G.2.2.1 21))] [] mv_2291 rfl (o_X15_needWord gq9) (w_X15_needWord gq9) (by omega) (by omega) (Nat.le_of_ble_eq_true rfl) (by decide +kernel) ⟨rfl, rfl⟩
  · replace hf := ifp c24 hf
    refine C.seg (pe := 10) (lv' := [(0, .ref a0), (1, .int p1)]) (st' := [.int 1, .ref a0]) [(.aload_n 0, 1, 0), (.iconst 1, 1, 1)] (by decide +kernel) rfl ?_
    obtain ⟨q21, h22, gq21, hf⟩ := b2_some hf
    cases q21 with
    | none =>
      replace hf := tr_none hf
      refine C.callVr C2 [.int 1] [] mv_2220 rfl (o_X15_stop gq21) (w_X15_stop gq21) (by omega) (by omega) (Nat.le_of_ble_eq_true rfl) (by decide +kernel) rfl ?_
      cases hf
    | some a23 =>
      replace hf := tr_some hf
      refine C.callVr C2 [.int 1] [] mv_2220 rfl (o_X15_stop gq21) (w_X15_stop gq21) (by omega) (by omega) (Nat.le_of_ble_eq_true rfl) (by decide +kernel) rfl ?_
      cases hf
      exact C.athrow C2 (by decide +kernel) ⟨rfl, rfl⟩
theorem o_X15_readEach {z : ZX} {a0 : Nat} {p1 : Int32} {h : AH} {e1 : Option Nat} {hr : AH} (hf : f_X15_readEach z a0 p1 h = some (e1, hr)) : isO 15 h a0 = true := by
  unfold f_X15_readEach at hf
  exact (ifO hf).1
/-! WallHouseModel.readTest(I)V -/
def f_X15_readTest_54 (z : ZX) (r0 : Nat) (i1 : Int32) (si0 : Int32) (si1 : Int32) (sr2 : Nat) (h : AH) : Option (Option Nat × AH) :=
  (sI 0 h sr2 si1 si0).bind fun h1 =>
  (gA 15 h1 r0 40).bind fun a2 =>
  (gA 12 h1 a2 5).bind fun a3 =>
  (aI 0 h1 a3 i1).bind fun x4 =>
  if x4 = (-1) then
    b2 (f_X15_stop r0 1 h1) fun q9 h10 =>
    tr q9 (
      none) fun a11 =>
    some (some a11, h10)
  else
    (f_X15_next r0 h1).bind fun h5 =>
    b2 (f_X15_readSum z r0 i1 1 h5) fun q6 h7 =>
    tr q6 (
      some (none, h7)) fun a8 =>
    some (some a8, h7)
set_option maxRecDepth 100000 in
set_option maxHeartbeats 4000000 in
theorem l_X15_readTest_54 {X : MX} {l : Launch} {G : GX} {h0 : AH} {e1 : Option Nat} {hr : AH} (C : Cx X G RX15 cX15_readTest 2 none 362 7243 h0) (C2 : Cy X l "readTest" []) (r0 : Nat) (i1 : Int32) (si0 : Int32) (si1 : Int32) (sr2 : Nat) (h : AH) (hf : f_X15_readTest_54 G.2.2 r0 i1 si0 si1 sr2 h = some (e1, hr)) : V X G h0 (QT e1 hr) 54 [(0, .ref r0), (1, .int i1)] [.int si0, .int si1, .ref sr2] h := by
  unfold f_X15_readTest_54 at hf
  obtain ⟨h1, gh1, hf⟩ := Option.bind_eq_some_iff.mp hf
  refine C.ast gh1 (by decide +kernel) rfl ?_
  refine C.seg (pe := 56) (lv' := [(0, .ref r0), (1, .int i1)]) (st' := [.ref r0]) [(.aload_n 0, 1, 0)] (by decide +kernel) rfl ?_
  obtain ⟨a2, ga2, hf⟩ := Option.bind_eq_some_iff.mp hf
  refine C.rdA fr_1826 ga2 (by decide +kernel) rfl ?_
  obtain ⟨a3, ga3, hf⟩ := Option.bind_eq_some_iff.mp hf
  refine C.rdA fr_1724 ga3 (by decide +kernel) rfl ?_
  refine C.seg (pe := 63) (lv' := [(0, .ref r0), (1, .int i1)]) (st' := [.int i1, .ref a3]) [(.iload_n 1, 1, 0)] (by decide +kernel) rfl ?_
  obtain ⟨x4, gx4, hf⟩ := Option.bind_eq_some_iff.mp hf
  refine C.ald 0 rfl gx4 (by decide +kernel) rfl ?_
  refine C.seg (pe := 65) (lv' := [(0, .ref r0), (1, .int i1)]) (st' := [.int (-1), .int x4]) [(.iconst (-1), 1, (-1))] (by decide +kernel) rfl ?_
  refine C.icmp_ne (off := 9) (tgt := 74) (pf := 68) (by decide +kernel) (by decide) rfl (fun c12 => ?_) (fun c12 => ?_)
  · replace hf := ifn c12 hf
    refine C.seg (pe := 75) (lv' := [(0, .ref r0), (1, .int i1)]) (st' := [.ref r0]) [(.aload_n 0, 1, 0)] (by decide +kernel) rfl ?_
    obtain ⟨h5, gh5, hf⟩ := Option.bind_eq_some_iff.mp hf
    refine C.callVr C2 [] [] mv_2193 rfl (o_X15_next gh5) (w_X15_next gh5) (by omega) (by omega) (Nat.le_of_ble_eq_true rfl) (by decide +kernel) rfl ?_
    refine C.seg (pe := 81) (lv' := [(0, .ref r0), (1, .int i1)]) (st' := [.int 1, .int i1, .ref r0]) [(.aload_n 0, 1, 0), (.iload_n 1, 1, 0), (.iconst 1, 1, 1)] (by decide +kernel) rfl ?_
    obtain ⟨q6, h7, gq6, hf⟩ := b2_some hf
    cases q6 with
    | none =>
      replace hf := tr_none hf
      refine C.callVr C2 [.int i1, .int 1] [] mv_2242 rfl (o_X15_readSum gq6) (w_X15_readSum gq6) (by omega) (by omega) (Nat.le_of_ble_eq_true rfl) (by decide +kernel) rfl ?_
      cases hf
      exact C.retV rfl (by decide +kernel) ⟨rfl, rfl⟩
    | some a8 =>
      replace hf := tr_some hf
      cases hf
      exact C.callVt C2 [.int i1, .int 1] [] mv_2242 rfl (o_X15_readSum gq6) (w_X15_readSum gq6) (by omega) (by omega) (Nat.le_of_ble_eq_true rfl) (by decide +kernel) ⟨rfl, rfl⟩
  · replace hf := ifp c12 hf
    refine C.seg (pe := 70) (lv' := [(0, .ref r0), (1, .int i1)]) (st' := [.int 1, .ref r0]) [(.aload_n 0, 1, 0), (.iconst 1, 1, 1)] (by decide +kernel) rfl ?_
    obtain ⟨q9, h10, gq9, hf⟩ := b2_some hf
    cases q9 with
    | none =>
      replace hf := tr_none hf
      refine C.callVr C2 [.int 1] [] mv_2220 rfl (o_X15_stop gq9) (w_X15_stop gq9) (by omega) (by omega) (Nat.le_of_ble_eq_true rfl) (by decide +kernel) rfl ?_
      cases hf
    | some a11 =>
      replace hf := tr_some hf
      refine C.callVr C2 [.int 1] [] mv_2220 rfl (o_X15_stop gq9) (w_X15_stop gq9) (by omega) (by omega) (Nat.le_of_ble_eq_true rfl) (by decide +kernel) rfl ?_
      cases hf
      exact C.athrow C2 (by decide +kernel) ⟨rfl, rfl⟩
def f_X15_readTest (z : ZX) (a0 : Nat) (p1 : Int32) (h : AH) : Option (Option Nat × AH) :=
  if isO 15 h a0 = true then
    b2 (f_X15_readSum z a0 p1 0 h) fun q1 h2 =>
    tr q1 (
      (gA 15 h2 a0 40).bind fun a4 =>
      (gA 12 h2 a4 5).bind fun a5 =>
      b2 (f_X15_is a0 60 h2) fun x6 h7 =>
      if x6 = 0 then
        b2 (f_X15_is a0 61 h7) fun x8 h9 =>
        if x8 = 0 then
          b2 (f_X15_is a0 62 h9) fun x10 h11 =>
          if x10 = 0 then
            f_X15_readTest_54 z a0 p1 (-1) p1 a5 h11
          else
            f_X15_readTest_54 z a0 p1 2 p1 a5 h11
        else
          f_X15_readTest_54 z a0 p1 1 p1 a5 h9
      else
        f_X15_readTest_54 z a0 p1 0 p1 a5 h7) fun a3 =>
    some (some a3, h2)
  else none
set_option maxRecDepth 100000 in
set_option maxHeartbeats 4000000 in
theorem w_X15_readTest {l : Launch} {G : GX} {a0 : Nat} {p1 : Int32} {h : AH} {e1 : Option Nat} {hr : AH} (hf : f_X15_readTest G.2.2 a0 p1 h = some (e1, hr)) : Ct l G yX15_readTest 362 7243 [.ref a0, .int p1] h (QT e1 hr) := by
  unfold f_X15_readTest at hf
  obtain ⟨ho, hf⟩ := ifO hf
  refine Ct_of (own := RX15) (cc := cX15_readTest) (nL := 2) (ret := none) rfl rfl k_2298 (Nat.le_of_ble_eq_true rfl) (fun X C2 C => ?_)
  show V X G h (QT e1 hr) 0 [(0, .ref a0), (1, .int p1)] [] h
  refine C.seg (pe := 3) (lv' := [(0, .ref a0), (1, .int p1)]) (st' := [.int 0, .int p1, .ref a0]) [(.aload_n 0, 1, 0), (.iload_n 1, 1, 0), (.iconst 0, 1, 0)] (by decide +kernel) rfl ?_
  obtain ⟨q1, h2, gq1, hf⟩ := b2_some hf
  cases q1 with
  | none =>
    replace hf := tr_none hf
    refine C.callVr C2 [.int p1, .int 0] [] mv_2242 rfl (o_X15_readSum gq1) (w_X15_readSum gq1) (by omega) (by omega) (Nat.le_of_ble_eq_true rfl) (by decide +kernel) rfl ?_
    refine C.seg (pe := 7) (lv' := [(0, .ref a0), (1, .int p1)]) (st' := [.ref a0]) [(.aload_n 0, 1, 0)] (by decide +kernel) rfl ?_
    obtain ⟨a4, ga4, hf⟩ := Option.bind_eq_some_iff.mp hf
    refine C.rdA fr_1826 ga4 (by decide +kernel) rfl ?_
    obtain ⟨a5, ga5, hf⟩ := Option.bind_eq_some_iff.mp hf
    refine C.rdA fr_1724 ga5 (by decide +kernel) rfl ?_
    refine C.seg (pe := 17) (lv' := [(0, .ref a0), (1, .int p1)]) (st' := [.int 60, .ref a0, .int p1, .ref a5]) [(.iload_n 1, 1, 0), (.aload_n 0, 1, 0), (.bipush 60, 2, 60)] (by decide +kernel) rfl ?_
    obtain ⟨x6, h7, gx6, hf⟩ := b2_some hf
    refine C.callVr C2 [.int 60] [.int p1, .ref a5] mv_2258 rfl (o_X15_is gx6) (w_X15_is gx6) (by omega) (by omega) (Nat.le_of_ble_eq_true rfl) (by decide +kernel) rfl ?_
    refine C.if_eq (off := 7) (tgt := 27) (pf := 23) (by decide +kernel) (by decide) rfl (fun c14 => ?_) (fun c14 => ?_)
    · replace hf := ifp c14 hf
      refine C.seg (pe := 30) (lv' := [(0, .ref a0), (1, .int p1)]) (st' := [.int 61, .ref a0, .int p1, .ref a5]) [(.aload_n 0, 1, 0), (.bipush 61, 2, 61)] (by decide +kernel) rfl ?_
      obtain ⟨x8, h9, gx8, hf⟩ := b2_some hf
      refine C.callVr C2 [.int 61] [.int p1, .ref a5] mv_2258 rfl (o_X15_is gx8) (w_X15_is gx8) (by omega) (by omega) (Nat.le_of_ble_eq_true rfl) (by decide +kernel) rfl ?_
      refine C.if_eq (off := 7) (tgt := 40) (pf := 36) (by decide +kernel) (by decide) rfl (fun c13 => ?_) (fun c13 => ?_)
      · replace hf := ifp c13 hf
        refine C.seg (pe := 43) (lv' := [(0, .ref a0), (1, .int p1)]) (st' := [.int 62, .ref a0, .int p1, .ref a5]) [(.aload_n 0, 1, 0), (.bipush 62, 2, 62)] (by decide +kernel) rfl ?_
        obtain ⟨x10, h11, gx10, hf⟩ := b2_some hf
        refine C.callVr C2 [.int 62] [.int p1, .ref a5] mv_2258 rfl (o_X15_is gx10) (w_X15_is gx10) (by omega) (by omega) (Nat.le_of_ble_eq_true rfl) (by decide +kernel) rfl ?_
        refine C.if_eq (off := 7) (tgt := 53) (pf := 49) (by decide +kernel) (by decide) rfl (fun c12 => ?_) (fun c12 => ?_)
        · replace hf := ifp c12 hf
          refine C.seg (pe := 54) (lv' := [(0, .ref a0), (1, .int p1)]) (st' := [.int (-1), .int p1, .ref a5]) [(.iconst (-1), 1, (-1))] (by decide +kernel) rfl ?_
          exact l_X15_readTest_54 C C2 a0 p1 (-1) p1 a5 h11 hf
        · replace hf := ifn c12 hf
          refine C.seg (pe := 50) (lv' := [(0, .ref a0), (1, .int p1)]) (st' := [.int 2, .int p1, .ref a5]) [(.iconst 2, 1, 2)] (by decide +kernel) rfl ?_
          refine C.goto (off := 4) (tgt := 54) (by decide +kernel) (by decide) ?_
          exact l_X15_readTest_54 C C2 a0 p1 2 p1 a5 h11 hf
      · replace hf := ifn c13 hf
        refine C.seg (pe := 37) (lv' := [(0, .ref a0), (1, .int p1)]) (st' := [.int 1, .int p1, .ref a5]) [(.iconst 1, 1, 1)] (by decide +kernel) rfl ?_
        refine C.goto (off := 17) (tgt := 54) (by decide +kernel) (by decide) ?_
        exact l_X15_readTest_54 C C2 a0 p1 1 p1 a5 h9 hf
    · replace hf := ifn c14 hf
      refine C.seg (pe := 24) (lv' := [(0, .ref a0), (1, .int p1)]) (st' := [.int 0, .int p1, .ref a5]) [(.iconst 0, 1, 0)] (by decide +kernel) rfl ?_
      refine C.goto (off := 30) (tgt := 54) (by decide +kernel) (by decide) ?_
      exact l_X15_readTest_54 C C2 a0 p1 0 p1 a5 h7 hf
  | some a3 =>
    replace hf := tr_some hf
    cases hf
    exact C.callVt C2 [.int p1, .int 0] [] mv_2242 rfl (o_X15_readSum gq1) (w_X15_readSum gq1) (by omega) (by omega) (Nat.le_of_ble_eq_true rfl) (by decide +kernel) ⟨rfl, rfl⟩
theorem o_X15_readTest {z : ZX} {a0 : Nat} {p1 : Int32} {h : AH} {e1 : Option Nat} {hr : AH} (hf : f_X15_readTest z a0 p1 h = some (e1, hr)) : isO 15 h a0 = true := by
  unfold f_X15_readTest at hf
  exact (ifO hf).1
/-! WallHouseModel.readBody()V -/
def f_X15_readBody (z : ZX) (kX : Nat → AH → Option (Option Nat × AH)) (a0 : Nat) (h : AH) : Option (Option Nat × AH) :=
  if isO 15 h a0 = true then
    b2 (f_X15_is a0 91 h) fun x1 h2 =>
    if x1 = 0 then
      b2 (f_X15_stop a0 1 h2) fun q19 h20 =>
      tr q19 (
        none) fun a21 =>
      some (some a21, h20)
    else
      (gI 15 h2 a0 33).bind fun x3 =>
      if x3 = 6 then
        b2 (f_X15_stop a0 4 h2) fun q15 h16 =>
        tr q15 (
          none) fun a17 =>
        some (some a17, h16)
      else
        (gI 15 h2 a0 33).bind fun x4 =>
        (pI 15 h2 a0 33 (x4 + 1)).bind fun h5 =>
        (f_X15_next a0 h5).bind fun h6 =>
        b2 (kX a0 h6) fun q7 h8 =>
        tr q7 (
          b2 (f_X15_need a0 93 h8) fun q10 h11 =>
          tr q10 (
            (gI 15 h11 a0 33).bind fun x13 =>
            (pI 15 h11 a0 33 (x13 - 1)).bind fun h14 =>
            some (none, h14)) fun a12 =>
          some (some a12, h11)) fun a9 =>
        some (some a9, h8)
  else none
set_option maxRecDepth 100000 in
set_option maxHeartbeats 4000000 in
theorem w_X15_readBody {l : Launch} {G : GX} {fT lT : Nat} {kX : Nat → AH → Option (Option Nat × AH)} (hfT : 500 ≤ fT) (hlT : 9000 ≤ lT) (hkX : ∀ (b0 : Nat) (h : AH) (e1 : Option Nat) (hr : AH), kX b0 h = some (e1, hr) → Ct l G yX15_readText fT lT [.ref b0] h (QT e1 hr)) (hoX : ∀ (b0 : Nat) (h : AH) (e1 : Option Nat) (hr : AH), kX b0 h = some (e1, hr) → isO 15 h b0 = true)  {a0 : Nat} {h : AH} {e1 : Option Nat} {hr : AH} (hf : f_X15_readBody G.2.2 kX a0 h = some (e1, hr)) : Ct l G yX15_readBody (fT + 5) (lT + 100) [.ref a0] h (QT e1 hr) := by
  unfold f_X15_readBody at hf
  obtain ⟨ho, hf⟩ := ifO hf
  refine Ct_of (own := RX15) (cc := cX15_readBody) (nL := 1) (ret := none) rfl rfl k_2302 (Nat.le_of_ble_eq_true rfl) (fun X C2 C => ?_)
  show V X G h (QT e1 hr) 0 [(0, .ref a0)] [] h
  refine C.seg (pe := 3) (lv' := [(0, .ref a0)]) (st' := [.int 91, .ref a0]) [(.aload_n 0, 1, 0), (.bipush 91, 2, 91)] (by decide +kernel) rfl ?_
  obtain ⟨x1, h2, gx1, hf⟩ := b2_some hf
  refine C.callVr C2 [.int 91] [] mv_2258 rfl (o_X15_is gx1) (w_X15_is gx1) (by omega) (by omega) (Nat.le_of_ble_eq_true rfl) (by decide +kernel) rfl ?_
  refine C.if_ne (off := 9) (tgt := 15) (pf := 9) (by decide +kernel) (by decide) rfl (fun c22 => ?_) (fun c22 => ?_)
  · replace hf := ifn c22 hf
    refine C.seg (pe := 16) (lv' := [(0, .ref a0)]) (st' := [.ref a0]) [(.aload_n 0, 1, 0)] (by decide +kernel) rfl ?_
    obtain ⟨x3, gx3, hf⟩ := Option.bind_eq_some_iff.mp hf
    refine C.rdI fr_1819 gx3 (by decide +kernel) rfl ?_
    refine C.seg (pe := 21) (lv' := [(0, .ref a0)]) (st' := [.int 6, .int x3]) [(.bipush 6, 2, 6)] (by decide +kernel) rfl ?_
    refine C.icmp_ne (off := 9) (tgt := 30) (pf := 24) (by decide +kernel) (by decide) rfl (fun c18 => ?_) (fun c18 => ?_)
    · replace hf := ifn c18 hf
      refine C.seg (pe := 32) (lv' := [(0, .ref a0)]) (st' := [.ref a0, .ref a0]) [(.aload_n 0, 1, 0), (.dup, 1, 0)] (by decide +kernel) rfl ?_
      obtain ⟨x4, gx4, hf⟩ := Option.bind_eq_some_iff.mp hf
      refine C.rdI fr_1819 gx4 (by decide +kernel) rfl ?_
      refine C.seg (pe := 37) (lv' := [(0, .ref a0)]) (st' := [.int (x4 + 1), .ref a0]) [(.iconst 1, 1, 1), (.iadd, 1, 0)] (by decide +kernel) rfl ?_
      obtain ⟨h5, gh5, hf⟩ := Option.bind_eq_some_iff.mp hf
      refine C.putI fl_1819 gh5 (by decide +kernel) rfl ?_
      refine C.seg (pe := 41) (lv' := [(0, .ref a0)]) (st' := [.ref a0]) [(.aload_n 0, 1, 0)] (by decide +kernel) rfl ?_
      obtain ⟨h6, gh6, hf⟩ := Option.bind_eq_some_iff.mp hf
      refine C.callVr C2 [] [] mv_2193 rfl (o_X15_next gh6) (w_X15_next gh6) (by omega) (by omega) (Nat.le_of_ble_eq_true rfl) (by decide +kernel) rfl ?_
      refine C.seg (pe := 45) (lv' := [(0, .ref a0)]) (st' := [.ref a0]) [(.aload_n 0, 1, 0)] (by decide +kernel) rfl ?_
      obtain ⟨q7, h8, gq7, hf⟩ := b2_some hf
      cases q7 with
      | none =>
        replace hf := tr_none hf
        refine C.callVr C2 [] [] mv_2212 rfl (hoX _ _ _ _ gq7) (hkX _ _ _ _ gq7) (by omega) (by omega) (Nat.le_of_ble_eq_true rfl) (by decide +kernel) rfl ?_
        refine C.seg (pe := 51) (lv' := [(0, .ref a0)]) (st' := [.int 93, .ref a0]) [(.aload_n 0, 1, 0), (.bipush 93, 2, 93)] (by decide +kernel) rfl ?_
        obtain ⟨q10, h11, gq10, hf⟩ := b2_some hf
        cases q10 with
        | none =>
          replace hf := tr_none hf
          refine C.callVr C2 [.int 93] [] mv_2262 rfl (o_X15_need gq10) (w_X15_need gq10) (by omega) (by omega) (Nat.le_of_ble_eq_true rfl) (by decide +kernel) rfl ?_
          refine C.seg (pe := 56) (lv' := [(0, .ref a0)]) (st' := [.ref a0, .ref a0]) [(.aload_n 0, 1, 0), (.dup, 1, 0)] (by decide +kernel) rfl ?_
          obtain ⟨x13, gx13, hf⟩ := Option.bind_eq_some_iff.mp hf
          refine C.rdI fr_1819 gx13 (by decide +kernel) rfl ?_
          refine C.seg (pe := 61) (lv' := [(0, .ref a0)]) (st' := [.int (x13 - 1), .ref a0]) [(.iconst 1, 1, 1), (.isub, 1, 0)] (by decide +kernel) rfl ?_
          obtain ⟨h14, gh14, hf⟩ := Option.bind_eq_some_iff.mp hf
          refine C.putI fl_1819 gh14 (by decide +kernel) rfl ?_
          cases hf
          exact C.retV rfl (by decide +kernel) ⟨rfl, rfl⟩
        | some a12 =>
          replace hf := tr_some hf
          cases hf
          exact C.callVt C2 [.int 93] [] mv_2262 rfl (o_X15_need gq10) (w_X15_need gq10) (by omega) (by omega) (Nat.le_of_ble_eq_true rfl) (by decide +kernel) ⟨rfl, rfl⟩
      | some a9 =>
        replace hf := tr_some hf
        cases hf
        exact C.callVt C2 [] [] mv_2212 rfl (hoX _ _ _ _ gq7) (hkX _ _ _ _ gq7) (by omega) (by omega) (Nat.le_of_ble_eq_true rfl) (by decide +kernel) ⟨rfl, rfl⟩
    · replace hf := ifp c18 hf
      refine C.seg (pe := 26) (lv' := [(0, .ref a0)]) (st' := [.int 4, .ref a0]) [(.aload_n 0, 1, 0), (.iconst 4, 1, 4)] (by decide +kernel) rfl ?_
      obtain ⟨q15, h16, gq15, hf⟩ := b2_some hf
      cases q15 with
      | none =>
        replace hf := tr_none hf
        refine C.callVr C2 [.int 4] [] mv_2220 rfl (o_X15_stop gq15) (w_X15_stop gq15) (by omega) (by omega) (Nat.le_of_ble_eq_true rfl) (by decide +kernel) rfl ?_
        cases hf
      | some a17 =>
        replace hf := tr_some hf
        refine C.callVr C2 [.int 4] [] mv_2220 rfl (o_X15_stop gq15) (w_X15_stop gq15) (by omega) (by omega) (Nat.le_of_ble_eq_true rfl) (by decide +kernel) rfl ?_
        cases hf
        exact C.athrow C2 (by decide +kernel) ⟨rfl, rfl⟩
  · replace hf := ifp c22 hf
    refine C.seg (pe := 11) (lv' := [(0, .ref a0)]) (st' := [.int 1, .ref a0]) [(.aload_n 0, 1, 0), (.iconst 1, 1, 1)] (by decide +kernel) rfl ?_
    obtain ⟨q19, h20, gq19, hf⟩ := b2_some hf
    cases q19 with
    | none =>
      replace hf := tr_none hf
      refine C.callVr C2 [.int 1] [] mv_2220 rfl (o_X15_stop gq19) (w_X15_stop gq19) (by omega) (by omega) (Nat.le_of_ble_eq_true rfl) (by decide +kernel) rfl ?_
      cases hf
    | some a21 =>
      replace hf := tr_some hf
      refine C.callVr C2 [.int 1] [] mv_2220 rfl (o_X15_stop gq19) (w_X15_stop gq19) (by omega) (by omega) (Nat.le_of_ble_eq_true rfl) (by decide +kernel) rfl ?_
      cases hf
      exact C.athrow C2 (by decide +kernel) ⟨rfl, rfl⟩
theorem o_X15_readBody {z : ZX} {kX : Nat → AH → Option (Option Nat × AH)} {a0 : Nat} {h : AH} {e1 : Option Nat} {hr : AH} (hf : f_X15_readBody z kX a0 h = some (e1, hr)) : isO 15 h a0 = true := by
  unfold f_X15_readBody at hf
  exact (ifO hf).1
/-! WallHouseModel.readStep()V -/
def f_X15_readStep_288 (z : ZX) (kX : Nat → AH → Option (Option Nat × AH)) (r0 : Nat) (i2 : Int32) (h : AH) : Option (Option Nat × AH) :=
  (gA 15 h r0 40).bind fun a1 =>
  (gA 12 h a1 6).bind fun a2 =>
  (gA 15 h r0 40).bind fun a3 =>
  (gI 12 h a3 0).bind fun x4 =>
  (sI 0 h a2 i2 x4).bind fun h5 =>
  some (none, h5)
set_option maxRecDepth 100000 in
set_option maxHeartbeats 4000000 in
theorem l_X15_readStep_288 {X : MX} {l : Launch} {G : GX} {h0 : AH} {fT lT : Nat} {e1 : Option Nat} {hr : AH} (C : Cx X G RX15 cX15_readStep 5 none (fT + 10) (lT + 200) h0) (C2 : Cy X l "readStep" []) {kX : Nat → AH → Option (Option Nat × AH)} (hfT : 500 ≤ fT) (hlT : 9000 ≤ lT) (hkX : ∀ (b0 : Nat) (h : AH) (e1 : Option Nat) (hr : AH), kX b0 h = some (e1, hr) → Ct l G yX15_readText fT lT [.ref b0] h (QT e1 hr)) (hoX : ∀ (b0 : Nat) (h : AH) (e1 : Option Nat) (hr : AH), kX b0 h = some (e1, hr) → isO 15 h b0 = true) (r0 : Nat) (i2 : Int32) (h : AH) (hf : f_X15_readStep_288 G.2.2 kX r0 i2 h = some (e1, hr)) : V X G h0 (QT e1 hr) 288 [(0, .ref r0), (2, .int i2)] [] h := by
  unfold f_X15_readStep_288 at hf
  refine C.seg (pe := 289) (lv' := [(0, .ref r0), (2, .int i2)]) (st' := [.ref r0]) [(.aload_n 0, 1, 0)] (by decide +kernel) rfl ?_
  obtain ⟨a1, ga1, hf⟩ := Option.bind_eq_some_iff.mp hf
  refine C.rdA fr_1826 ga1 (by decide +kernel) rfl ?_
  obtain ⟨a2, ga2, hf⟩ := Option.bind_eq_some_iff.mp hf
  refine C.rdA fr_1726 ga2 (by decide +kernel) rfl ?_
  refine C.seg (pe := 297) (lv' := [(0, .ref r0), (2, .int i2)]) (st' := [.ref r0, .int i2, .ref a2]) [(.iload_n 2, 1, 0), (.aload_n 0, 1, 0)] (by decide +kernel) rfl ?_
  obtain ⟨a3, ga3, hf⟩ := Option.bind_eq_some_iff.mp hf
  refine C.rdA fr_1826 ga3 (by decide +kernel) rfl ?_
  obtain ⟨x4, gx4, hf⟩ := Option.bind_eq_some_iff.mp hf
  refine C.rdI fr_1714 gx4 (by decide +kernel) rfl ?_
  obtain ⟨h5, gh5, hf⟩ := Option.bind_eq_some_iff.mp hf
  refine C.ast gh5 (by decide +kernel) rfl ?_
  cases hf
  exact C.retV rfl (by decide +kernel) ⟨rfl, rfl⟩
def f_X15_readStep_279 (z : ZX) (kX : Nat → AH → Option (Option Nat × AH)) (r0 : Nat) (i1 : Int32) (i2 : Int32) (h : AH) : Option (Option Nat × AH) :=
  if i1 < 3 then
    f_X15_readStep_288 z kX r0 i2 h
  else
    b2 (f_X15_readBody z kX r0 h) fun q1 h2 =>
    tr q1 (
      f_X15_readStep_288 z kX r0 i2 h2) fun a3 =>
    some (some a3, h2)
set_option maxRecDepth 100000 in
set_option maxHeartbeats 4000000 in
theorem l_X15_readStep_279 {X : MX} {l : Launch} {G : GX} {h0 : AH} {fT lT : Nat} {e1 : Option Nat} {hr : AH} (C : Cx X G RX15 cX15_readStep 5 none (fT + 10) (lT + 200) h0) (C2 : Cy X l "readStep" []) {kX : Nat → AH → Option (Option Nat × AH)} (hfT : 500 ≤ fT) (hlT : 9000 ≤ lT) (hkX : ∀ (b0 : Nat) (h : AH) (e1 : Option Nat) (hr : AH), kX b0 h = some (e1, hr) → Ct l G yX15_readText fT lT [.ref b0] h (QT e1 hr)) (hoX : ∀ (b0 : Nat) (h : AH) (e1 : Option Nat) (hr : AH), kX b0 h = some (e1, hr) → isO 15 h b0 = true) (r0 : Nat) (i1 : Int32) (i2 : Int32) (h : AH) (hf : f_X15_readStep_279 G.2.2 kX r0 i1 i2 h = some (e1, hr)) : V X G h0 (QT e1 hr) 279 [(0, .ref r0), (1, .int i1), (2, .int i2)] [] h := by
  unfold f_X15_readStep_279 at hf
  refine C.seg (pe := 281) (lv' := [(0, .ref r0), (1, .int i1), (2, .int i2)]) (st' := [.int 3, .int i1]) [(.iload_n 1, 1, 0), (.iconst 3, 1, 3)] (by decide +kernel) rfl ?_
  refine C.icmp_lt (off := 7) (tgt := 288) (pf := 284) (by decide +kernel) (by decide) rfl (fun c4 => ?_) (fun c4 => ?_)
  · replace hf := ifp c4 hf
    refine Vsub [0, 2] rfl ?_
    exact l_X15_readStep_288 C C2 hfT hlT hkX hoX r0 i2 h hf
  · replace hf := ifn c4 hf
    refine C.seg (pe := 285) (lv' := [(0, .ref r0), (1, .int i1), (2, .int i2)]) (st' := [.ref r0]) [(.aload_n 0, 1, 0)] (by decide +kernel) rfl ?_
    obtain ⟨q1, h2, gq1, hf⟩ := b2_some hf
    cases q1 with
    | none =>
      replace hf := tr_none hf
      refine C.callVr C2 [] [] mv_2299 rfl (o_X15_readBody gq1) (w_X15_readBody hfT hlT hkX hoX gq1) (by omega) (by omega) (Nat.le_of_ble_eq_true rfl) (by decide +kernel) rfl ?_
      refine Vsub [0, 2] rfl ?_
      exact l_X15_readStep_288 C C2 hfT hlT hkX hoX r0 i2 h2 hf
    | some a3 =>
      replace hf := tr_some hf
      cases hf
      exact C.callVt C2 [] [] mv_2299 rfl (o_X15_readBody gq1) (w_X15_readBody hfT hlT hkX hoX gq1) (by omega) (by omega) (Nat.le_of_ble_eq_true rfl) (by decide +kernel) ⟨rfl, rfl⟩
def f_X15_readStep_269 (z : ZX) (kX : Nat → AH → Option (Option Nat × AH)) (r0 : Nat) (i1 : Int32) (i2 : Int32) (h : AH) : Option (Option Nat × AH) :=
  if i1 = 4 then
    b2 (f_X15_readTest z r0 i2 h) fun q1 h2 =>
    tr q1 (
      f_X15_readStep_279 z kX r0 i1 i2 h2) fun a3 =>
    some (some a3, h2)
  else
    f_X15_readStep_279 z kX r0 i1 i2 h
set_option maxRecDepth 100000 in
set_option maxHeartbeats 4000000 in
theorem l_X15_readStep_269 {X : MX} {l : Launch} {G : GX} {h0 : AH} {fT lT : Nat} {e1 : Option Nat} {hr : AH} (C : Cx X G RX15 cX15_readStep 5 none (fT + 10) (lT + 200) h0) (C2 : Cy X l "readStep" []) {kX : Nat → AH → Option (Option Nat × AH)} (hfT : 500 ≤ fT) (hlT : 9000 ≤ lT) (hkX : ∀ (b0 : Nat) (h : AH) (e1 : Option Nat) (hr : AH), kX b0 h = some (e1, hr) → Ct l G yX15_readText fT lT [.ref b0] h (QT e1 hr)) (hoX : ∀ (b0 : Nat) (h : AH) (e1 : Option Nat) (hr : AH), kX b0 h = some (e1, hr) → isO 15 h b0 = true) (r0 : Nat) (i1 : Int32) (i2 : Int32) (h : AH) (hf : f_X15_readStep_269 G.2.2 kX r0 i1 i2 h = some (e1, hr)) : V X G h0 (QT e1 hr) 269 [(0, .ref r0), (1, .int i1), (2, .int i2)] [] h := by
  unfold f_X15_readStep_269 at hf
  refine C.seg (pe := 271) (lv' := [(0, .ref r0), (1, .int i1), (2, .int i2)]) (st' := [.int 4, .int i1]) [(.iload_n 1, 1, 0), (.iconst 4, 1, 4)] (by decide +kernel) rfl ?_
  refine C.icmp_ne (off := 8) (tgt := 279) (pf := 274) (by decide +kernel) (by decide) rfl (fun c4 => ?_) (fun c4 => ?_)
  · replace hf := ifn c4 hf
    exact l_X15_readStep_279 C C2 hfT hlT hkX hoX r0 i1 i2 h hf
  · replace hf := ifp c4 hf
    refine C.seg (pe := 276) (lv' := [(0, .ref r0), (1, .int i1), (2, .int i2)]) (st' := [.int i2, .ref r0]) [(.aload_n 0, 1, 0), (.iload_n 2, 1, 0)] (by decide +kernel) rfl ?_
    obtain ⟨q1, h2, gq1, hf⟩ := b2_some hf
    cases q1 with
    | none =>
      replace hf := tr_none hf
      refine C.callVr C2 [.int i2] [] mv_2295 rfl (o_X15_readTest gq1) (w_X15_readTest gq1) (by omega) (by omega) (Nat.le_of_ble_eq_true rfl) (by decide +kernel) rfl ?_
      exact l_X15_readStep_279 C C2 hfT hlT hkX hoX r0 i1 i2 h2 hf
    | some a3 =>
      replace hf := tr_some hf
      cases hf
      exact C.callVt C2 [.int i2] [] mv_2295 rfl (o_X15_readTest gq1) (w_X15_readTest gq1) (by omega) (by omega) (Nat.le_of_ble_eq_true rfl) (by decide +kernel) ⟨rfl, rfl⟩
def f_X15_readStep_240 (z : ZX) (kX : Nat → AH → Option (Option Nat × AH)) : Nat → Nat → Int32 → Int32 → Int32 → Int32 → AH → Option (Option Nat × AH)
  | 0, _, _, _, _, _, _ => none
  | n + 1, r0, i1, i2, i3, i4, h =>
    if i3 ≤ i4 then
      if i1 = 3 then
        b2 (f_X15_readEach z r0 i2 h) fun q1 h2 =>
        tr q1 (
          f_X15_readStep_269 z kX r0 i1 i2 h2) fun a3 =>
        some (some a3, h2)
      else
        f_X15_readStep_269 z kX r0 i1 i2 h
    else
      b2 (f_X15_readSum z r0 i2 i4 h) fun q5 h6 =>
      tr q5 (
        (f_X15_readStep_240 z kX n) r0 i1 i2 i3 (i4 + 1) h6) fun a7 =>
      some (some a7, h6)
set_option maxRecDepth 100000 in
set_option maxHeartbeats 4000000 in
theorem l_X15_readStep_240 {X : MX} {l : Launch} {G : GX} {h0 : AH} {fT lT : Nat} {e1 : Option Nat} {hr : AH} (C : Cx X G RX15 cX15_readStep 5 none (fT + 10) (lT + 200) h0) (C2 : Cy X l "readStep" []) {kX : Nat → AH → Option (Option Nat × AH)} (hfT : 500 ≤ fT) (hlT : 9000 ≤ lT) (hkX : ∀ (b0 : Nat) (h : AH) (e1 : Option Nat) (hr : AH), kX b0 h = some (e1, hr) → Ct l G yX15_readText fT lT [.ref b0] h (QT e1 hr)) (hoX : ∀ (b0 : Nat) (h : AH) (e1 : Option Nat) (hr : AH), kX b0 h = some (e1, hr) → isO 15 h b0 = true) : ∀ (n : Nat) (r0 : Nat) (i1 : Int32) (i2 : Int32) (i3 : Int32) (i4 : Int32) (h : AH), f_X15_readStep_240 G.2.2 kX n r0 i1 i2 i3 i4 h = some (e1, hr) → V X G h0 (QT e1 hr) 240 [(0, .ref r0), (1, .int i1), (2, .int i2), (3, .int i3), (4, .int i4)] [] h := by
  intro n
  induction n with
  | zero => intro r0 i1 i2 i3 i4 h hf; rw [f_X15_readStep_240] at hf; cases hf
  | succ n ih =>
    intro r0 i1 i2 i3 i4 h hf
    rw [f_X15_readStep_240] at hf
    refine C.seg (pe := 243) (lv' := [(0, .ref r0), (1, .int i1), (2, .int i2), (3, .int i3), (4, .int i4)]) (st' := [.int i3, .int i4]) [(.iload 4, 2, 0), (.iload_n 3, 1, 0)] (by decide +kernel) rfl ?_
    refine C.icmp_ge (off := 16) (tgt := 259) (pf := 246) (by decide +kernel) (by decide) rfl (fun c8 => ?_) (fun c8 => ?_)
    · replace hf := ifp c8 hf
      refine C.seg (pe := 261) (lv' := [(0, .ref r0), (1, .int i1), (2, .int i2), (3, .int i3), (4, .int i4)]) (st' := [.int 3, .int i1]) [(.iload_n 1, 1, 0), (.iconst 3, 1, 3)] (by decide +kernel) rfl ?_
      refine C.icmp_ne (off := 8) (tgt := 269) (pf := 264) (by decide +kernel) (by decide) rfl (fun c4 => ?_) (fun c4 => ?_)
      · replace hf := ifn c4 hf
        refine Vsub [0, 1, 2] rfl ?_
        exact l_X15_readStep_269 C C2 hfT hlT hkX hoX r0 i1 i2 h hf
      · replace hf := ifp c4 hf
        refine C.seg (pe := 266) (lv' := [(0, .ref r0), (1, .int i1), (2, .int i2), (3, .int i3), (4, .int i4)]) (st' := [.int i2, .ref r0]) [(.aload_n 0, 1, 0), (.iload_n 2, 1, 0)] (by decide +kernel) rfl ?_
        obtain ⟨q1, h2, gq1, hf⟩ := b2_some hf
        cases q1 with
        | none =>
          replace hf := tr_none hf
          refine C.callVr C2 [.int i2] [] mv_2287 rfl (o_X15_readEach gq1) (w_X15_readEach gq1) (by omega) (by omega) (Nat.le_of_ble_eq_true rfl) (by decide +kernel) rfl ?_
          refine Vsub [0, 1, 2] rfl ?_
          exact l_X15_readStep_269 C C2 hfT hlT hkX hoX r0 i1 i2 h2 hf
        | some a3 =>
          replace hf := tr_some hf
          cases hf
          exact C.callVt C2 [.int i2] [] mv_2287 rfl (o_X15_readEach gq1) (w_X15_readEach gq1) (by omega) (by omega) (Nat.le_of_ble_eq_true rfl) (by decide +kernel) ⟨rfl, rfl⟩
    · replace hf := ifn c8 hf
      refine C.seg (pe := 250) (lv' := [(0, .ref r0), (1, .int i1), (2, .int i2), (3, .int i3), (4, .int i4)]) (st' := [.int i4, .int i2, .ref r0]) [(.aload_n 0, 1, 0), (.iload_n 2, 1, 0), (.iload 4, 2, 0)] (by decide +kernel) rfl ?_
      obtain ⟨q5, h6, gq5, hf⟩ := b2_some hf
      cases q5 with
      | none =>
        replace hf := tr_none hf
        refine C.callVr C2 [.int i2, .int i4] [] mv_2242 rfl (o_X15_readSum gq5) (w_X15_readSum gq5) (by omega) (by omega) (Nat.le_of_ble_eq_true rfl) (by decide +kernel) rfl ?_
        refine C.seg (pe := 256) (lv' := [(4, .int (i4 + 1)), (0, .ref r0), (1, .int i1), (2, .int i2), (3, .int i3)]) (st' := []) [(.iinc 4 1, 3, 1)] (by decide +kernel) rfl ?_
        refine C.goto (off := (-16)) (tgt := 240) (by decide +kernel) (by decide) ?_
        refine Vsub [1, 2, 3, 4, 0] rfl ?_
        exact ih r0 i1 i2 i3 (i4 + 1) h6 hf
      | some a7 =>
        replace hf := tr_some hf
        cases hf
        exact C.callVt C2 [.int i2, .int i4] [] mv_2242 rfl (o_X15_readSum gq5) (w_X15_readSum gq5) (by omega) (by omega) (Nat.le_of_ble_eq_true rfl) (by decide +kernel) ⟨rfl, rfl⟩
def f_X15_readStep_236 (z : ZX) (kX : Nat → AH → Option (Option Nat × AH)) (r0 : Nat) (i1 : Int32) (i2 : Int32) (si0 : Int32) (h : AH) : Option (Option Nat × AH) :=
  f_X15_readStep_240 z kX FU r0 i1 i2 si0 0 h
set_option maxRecDepth 100000 in
set_option maxHeartbeats 4000000 in
theorem l_X15_readStep_236 {X : MX} {l : Launch} {G : GX} {h0 : AH} {fT lT : Nat} {e1 : Option Nat} {hr : AH} (C : Cx X G RX15 cX15_readStep 5 none (fT + 10) (lT + 200) h0) (C2 : Cy X l "readStep" []) {kX : Nat → AH → Option (Option Nat × AH)} (hfT : 500 ≤ fT) (hlT : 9000 ≤ lT) (hkX : ∀ (b0 : Nat) (h : AH) (e1 : Option Nat) (hr : AH), kX b0 h = some (e1, hr) → Ct l G yX15_readText fT lT [.ref b0] h (QT e1 hr)) (hoX : ∀ (b0 : Nat) (h : AH) (e1 : Option Nat) (hr : AH), kX b0 h = some (e1, hr) → isO 15 h b0 = true) (r0 : Nat) (i1 : Int32) (i2 : Int32) (si0 : Int32) (h : AH) (hf : f_X15_readStep_236 G.2.2 kX r0 i1 i2 si0 h = some (e1, hr)) : V X G h0 (QT e1 hr) 236 [(0, .ref r0), (1, .int i1), (2, .int i2)] [.int si0] h := by
  unfold f_X15_readStep_236 at hf
  refine C.seg (pe := 240) (lv' := [(4, .int 0), (3, .int si0), (0, .ref r0), (1, .int i1), (2, .int i2)]) (st' := []) [(.istore_n 3, 1, 0), (.iconst 0, 1, 0), (.istore 4, 2, 0)] (by decide +kernel) rfl ?_
  refine Vsub [2, 3, 4, 1, 0] rfl ?_
  exact l_X15_readStep_240 C C2 hfT hlT hkX hoX FU r0 i1 i2 si0 0 h hf
def f_X15_readStep_209 (z : ZX) (kX : Nat → AH → Option (Option Nat × AH)) (r0 : Nat) (i1 : Int32) (i2 : Int32) (h : AH) : Option (Option Nat × AH) :=
  if i1 = 0 then
    f_X15_readStep_236 z kX r0 i1 i2 4 h
  else
    if i1 = 1 then
      f_X15_readStep_236 z kX r0 i1 i2 3 h
    else
      if i1 = 2 then
        f_X15_readStep_236 z kX r0 i1 i2 2 h
      else
        f_X15_readStep_236 z kX r0 i1 i2 0 h
set_option maxRecDepth 100000 in
set_option maxHeartbeats 4000000 in
theorem l_X15_readStep_209 {X : MX} {l : Launch} {G : GX} {h0 : AH} {fT lT : Nat} {e1 : Option Nat} {hr : AH} (C : Cx X G RX15 cX15_readStep 5 none (fT + 10) (lT + 200) h0) (C2 : Cy X l "readStep" []) {kX : Nat → AH → Option (Option Nat × AH)} (hfT : 500 ≤ fT) (hlT : 9000 ≤ lT) (hkX : ∀ (b0 : Nat) (h : AH) (e1 : Option Nat) (hr : AH), kX b0 h = some (e1, hr) → Ct l G yX15_readText fT lT [.ref b0] h (QT e1 hr)) (hoX : ∀ (b0 : Nat) (h : AH) (e1 : Option Nat) (hr : AH), kX b0 h = some (e1, hr) → isO 15 h b0 = true) (r0 : Nat) (i1 : Int32) (i2 : Int32) (h : AH) (hf : f_X15_readStep_209 G.2.2 kX r0 i1 i2 h = some (e1, hr)) : V X G h0 (QT e1 hr) 209 [(0, .ref r0), (1, .int i1), (2, .int i2)] [] h := by
  unfold f_X15_readStep_209 at hf
  refine C.seg (pe := 210) (lv' := [(0, .ref r0), (1, .int i1), (2, .int i2)]) (st' := [.int i1]) [(.iload_n 1, 1, 0)] (by decide +kernel) rfl ?_
  refine C.if_ne (off := 7) (tgt := 217) (pf := 213) (by decide +kernel) (by decide) rfl (fun c3 => ?_) (fun c3 => ?_)
  · replace hf := ifn c3 hf
    refine C.seg (pe := 219) (lv' := [(0, .ref r0), (1, .int i1), (2, .int i2)]) (st' := [.int 1, .int i1]) [(.iload_n 1, 1, 0), (.iconst 1, 1, 1)] (by decide +kernel) rfl ?_
    refine C.icmp_ne (off := 7) (tgt := 226) (pf := 222) (by decide +kernel) (by decide) rfl (fun c2 => ?_) (fun c2 => ?_)
    · replace hf := ifn c2 hf
      refine C.seg (pe := 228) (lv' := [(0, .ref r0), (1, .int i1), (2, .int i2)]) (st' := [.int 2, .int i1]) [(.iload_n 1, 1, 0), (.iconst 2, 1, 2)] (by decide +kernel) rfl ?_
      refine C.icmp_ne (off := 7) (tgt := 235) (pf := 231) (by decide +kernel) (by decide) rfl (fun c1 => ?_) (fun c1 => ?_)
      · replace hf := ifn c1 hf
        refine C.seg (pe := 236) (lv' := [(0, .ref r0), (1, .int i1), (2, .int i2)]) (st' := [.int 0]) [(.iconst 0, 1, 0)] (by decide +kernel) rfl ?_
        exact l_X15_readStep_236 C C2 hfT hlT hkX hoX r0 i1 i2 0 h hf
      · replace hf := ifp c1 hf
        refine C.seg (pe := 232) (lv' := [(0, .ref r0), (1, .int i1), (2, .int i2)]) (st' := [.int 2]) [(.iconst 2, 1, 2)] (by decide +kernel) rfl ?_
        refine C.goto (off := 4) (tgt := 236) (by decide +kernel) (by decide) ?_
        exact l_X15_readStep_236 C C2 hfT hlT hkX hoX r0 i1 i2 2 h hf
    · replace hf := ifp c2 hf
      refine C.seg (pe := 223) (lv' := [(0, .ref r0), (1, .int i1), (2, .int i2)]) (st' := [.int 3]) [(.iconst 3, 1, 3)] (by decide +kernel) rfl ?_
      refine C.goto (off := 13) (tgt := 236) (by decide +kernel) (by decide) ?_
      exact l_X15_readStep_236 C C2 hfT hlT hkX hoX r0 i1 i2 3 h hf
  · replace hf := ifp c3 hf
    refine C.seg (pe := 214) (lv' := [(0, .ref r0), (1, .int i1), (2, .int i2)]) (st' := [.int 4]) [(.iconst 4, 1, 4)] (by decide +kernel) rfl ?_
    refine C.goto (off := 22) (tgt := 236) (by decide +kernel) (by decide) ?_
    exact l_X15_readStep_236 C C2 hfT hlT hkX hoX r0 i1 i2 4 h hf
def f_X15_readStep_160 (z : ZX) (kX : Nat → AH → Option (Option Nat × AH)) (r0 : Nat) (i1 : Int32) (i2 : Int32) (h : AH) : Option (Option Nat × AH) :=
  if i1 = 2 then
    (gI 15 h r0 28).bind fun x1 =>
    if x1 = 2 then
      (gA 15 h r0 40).bind fun a2 =>
      (gA 12 h a2 12).bind fun a3 =>
      (gL 15 h r0 37).bind fun y4 =>
      (sL h a3 i2 y4).bind fun h5 =>
      (gA 15 h5 r0 40).bind fun a6 =>
      (gA 12 h5 a6 7).bind fun a7 =>
      (gI 15 h5 r0 32).bind fun x8 =>
      (sI 0 h5 a7 i2 x8).bind fun h9 =>
      (f_X15_next r0 h9).bind fun h10 =>
      f_X15_readStep_209 z kX r0 i1 i2 h10
    else
      b2 (f_X15_stop r0 1 h) fun q11 h12 =>
      tr q11 (
        none) fun a13 =>
      some (some a13, h12)
  else
    f_X15_readStep_209 z kX r0 i1 i2 h
set_option maxRecDepth 100000 in
set_option maxHeartbeats 4000000 in
theorem l_X15_readStep_160 {X : MX} {l : Launch} {G : GX} {h0 : AH} {fT lT : Nat} {e1 : Option Nat} {hr : AH} (C : Cx X G RX15 cX15_readStep 5 none (fT + 10) (lT + 200) h0) (C2 : Cy X l "readStep" []) {kX : Nat → AH → Option (Option Nat × AH)} (hfT : 500 ≤ fT) (hlT : 9000 ≤ lT) (hkX : ∀ (b0 : Nat) (h : AH) (e1 : Option Nat) (hr : AH), kX b0 h = some (e1, hr) → Ct l G yX15_readText fT lT [.ref b0] h (QT e1 hr)) (hoX : ∀ (b0 : Nat) (h : AH) (e1 : Option Nat) (hr : AH), kX b0 h = some (e1, hr) → isO 15 h b0 = true) (r0 : Nat) (i1 : Int32) (i2 : Int32) (h : AH) (hf : f_X15_readStep_160 G.2.2 kX r0 i1 i2 h = some (e1, hr)) : V X G h0 (QT e1 hr) 160 [(0, .ref r0), (1, .int i1), (2, .int i2)] [] h := by
  unfold f_X15_readStep_160 at hf
  refine C.seg (pe := 162) (lv' := [(0, .ref r0), (1, .int i1), (2, .int i2)]) (st' := [.int 2, .int i1]) [(.iload_n 1, 1, 0), (.iconst 2, 1, 2)] (by decide +kernel) rfl ?_
  refine C.icmp_ne (off := 47) (tgt := 209) (pf := 165) (by decide +kernel) (by decide) rfl (fun c15 => ?_) (fun c15 => ?_)
  · replace hf := ifn c15 hf
    exact l_X15_readStep_209 C C2 hfT hlT hkX hoX r0 i1 i2 h hf
  · replace hf := ifp c15 hf
    refine C.seg (pe := 166) (lv' := [(0, .ref r0), (1, .int i1), (2, .int i2)]) (st' := [.ref r0]) [(.aload_n 0, 1, 0)] (by decide +kernel) rfl ?_
    obtain ⟨x1, gx1, hf⟩ := Option.bind_eq_some_iff.mp hf
    refine C.rdI fr_1814 gx1 (by decide +kernel) rfl ?_
    refine C.seg (pe := 170) (lv' := [(0, .ref r0), (1, .int i1), (2, .int i2)]) (st' := [.int 2, .int x1]) [(.iconst 2, 1, 2)] (by decide +kernel) rfl ?_
    refine C.icmp_eq (off := 9) (tgt := 179) (pf := 173) (by decide +kernel) (by decide) rfl (fun c14 => ?_) (fun c14 => ?_)
    · replace hf := ifp c14 hf
      refine C.seg (pe := 180) (lv' := [(0, .ref r0), (1, .int i1), (2, .int i2)]) (st' := [.ref r0]) [(.aload_n 0, 1, 0)] (by decide +kernel) rfl ?_
      obtain ⟨a2, ga2, hf⟩ := Option.bind_eq_some_iff.mp hf
      refine C.rdA fr_1826 ga2 (by decide +kernel) rfl ?_
      obtain ⟨a3, ga3, hf⟩ := Option.bind_eq_some_iff.mp hf
      refine C.rdA fr_1738 ga3 (by decide +kernel) rfl ?_
      refine C.seg (pe := 188) (lv' := [(0, .ref r0), (1, .int i1), (2, .int i2)]) (st' := [.ref r0, .int i2, .ref a3]) [(.iload_n 2, 1, 0), (.aload_n 0, 1, 0)] (by decide +kernel) rfl ?_
      obtain ⟨y4, gy4, hf⟩ := Option.bind_eq_some_iff.mp hf
      refine C.rdL fr_1823 gy4 (by decide +kernel) rfl ?_
      obtain ⟨h5, gh5, hf⟩ := Option.bind_eq_some_iff.mp hf
      refine C.last gh5 (by decide +kernel) rfl ?_
      refine C.seg (pe := 193) (lv' := [(0, .ref r0), (1, .int i1), (2, .int i2)]) (st' := [.ref r0]) [(.aload_n 0, 1, 0)] (by decide +kernel) rfl ?_
      obtain ⟨a6, ga6, hf⟩ := Option.bind_eq_some_iff.mp hf
      refine C.rdA fr_1826 ga6 (by decide +kernel) rfl ?_
      obtain ⟨a7, ga7, hf⟩ := Option.bind_eq_some_iff.mp hf
      refine C.rdA fr_1728 ga7 (by decide +kernel) rfl ?_
      refine C.seg (pe := 201) (lv' := [(0, .ref r0), (1, .int i1), (2, .int i2)]) (st' := [.ref r0, .int i2, .ref a7]) [(.iload_n 2, 1, 0), (.aload_n 0, 1, 0)] (by decide +kernel) rfl ?_
      obtain ⟨x8, gx8, hf⟩ := Option.bind_eq_some_iff.mp hf
      refine C.rdI fr_1818 gx8 (by decide +kernel) rfl ?_
      obtain ⟨h9, gh9, hf⟩ := Option.bind_eq_some_iff.mp hf
      refine C.ast gh9 (by decide +kernel) rfl ?_
      refine C.seg (pe := 206) (lv' := [(0, .ref r0), (1, .int i1), (2, .int i2)]) (st' := [.ref r0]) [(.aload_n 0, 1, 0)] (by decide +kernel) rfl ?_
      obtain ⟨h10, gh10, hf⟩ := Option.bind_eq_some_iff.mp hf
      refine C.callVr C2 [] [] mv_2193 rfl (o_X15_next gh10) (w_X15_next gh10) (by omega) (by omega) (Nat.le_of_ble_eq_true rfl) (by decide +kernel) rfl ?_
      exact l_X15_readStep_209 C C2 hfT hlT hkX hoX r0 i1 i2 h10 hf
    · replace hf := ifn c14 hf
      refine C.seg (pe := 175) (lv' := [(0, .ref r0), (1, .int i1), (2, .int i2)]) (st' := [.int 1, .ref r0]) [(.aload_n 0, 1, 0), (.iconst 1, 1, 1)] (by decide +kernel) rfl ?_
      obtain ⟨q11, h12, gq11, hf⟩ := b2_some hf
      cases q11 with
      | none =>
        replace hf := tr_none hf
        refine C.callVr C2 [.int 1] [] mv_2220 rfl (o_X15_stop gq11) (w_X15_stop gq11) (by omega) (by omega) (Nat.le_of_ble_eq_true rfl) (by decide +kernel) rfl ?_
        cases hf
      | some a13 =>
        replace hf := tr_some hf
        refine C.callVr C2 [.int 1] [] mv_2220 rfl (o_X15_stop gq11) (w_X15_stop gq11) (by omega) (by omega) (Nat.le_of_ble_eq_true rfl) (by decide +kernel) rfl ?_
        cases hf
        exact C.athrow C2 (by decide +kernel) ⟨rfl, rfl⟩
def f_X15_readStep_85 (z : ZX) (kX : Nat → AH → Option (Option Nat × AH)) (r0 : Nat) (si0 : Int32) (h : AH) : Option (Option Nat × AH) :=
  if si0 = (-1) then
    b2 (f_X15_stop r0 2 h) fun q20 h21 =>
    tr q20 (
      none) fun a22 =>
    some (some a22, h21)
  else
    (gA 15 h r0 40).bind fun a1 =>
    (gI 12 h a1 0).bind fun x2 =>
    if x2 = 40 then
      b2 (f_X15_stop r0 4 h) fun q16 h17 =>
      tr q16 (
        none) fun a18 =>
      some (some a18, h17)
    else
      (gA 15 h r0 40).bind fun a3 =>
      (gI 12 h a3 0).bind fun x4 =>
      (gA 15 h r0 40).bind fun a5 =>
      (gI 12 h a5 0).bind fun x6 =>
      (pI 12 h a5 0 (x6 + 1)).bind fun h7 =>
      (gA 15 h7 r0 40).bind fun a8 =>
      (gA 12 h7 a8 2).bind fun a9 =>
      (sI 0 h7 a9 x4 si0).bind fun h10 =>
      (f_X15_next r0 h10).bind fun h11 =>
      if 2 < si0 then
        f_X15_readStep_160 z kX r0 si0 x4 h11
      else
        b2 (f_X15_readTint r0 x4 h11) fun q12 h13 =>
        tr q12 (
          f_X15_readStep_160 z kX r0 si0 x4 h13) fun a14 =>
        some (some a14, h13)
set_option maxRecDepth 100000 in
set_option maxHeartbeats 4000000 in
theorem l_X15_readStep_85 {X : MX} {l : Launch} {G : GX} {h0 : AH} {fT lT : Nat} {e1 : Option Nat} {hr : AH} (C : Cx X G RX15 cX15_readStep 5 none (fT + 10) (lT + 200) h0) (C2 : Cy X l "readStep" []) {kX : Nat → AH → Option (Option Nat × AH)} (hfT : 500 ≤ fT) (hlT : 9000 ≤ lT) (hkX : ∀ (b0 : Nat) (h : AH) (e1 : Option Nat) (hr : AH), kX b0 h = some (e1, hr) → Ct l G yX15_readText fT lT [.ref b0] h (QT e1 hr)) (hoX : ∀ (b0 : Nat) (h : AH) (e1 : Option Nat) (hr : AH), kX b0 h = some (e1, hr) → isO 15 h b0 = true) (r0 : Nat) (si0 : Int32) (h : AH) (hf : f_X15_readStep_85 G.2.2 kX r0 si0 h = some (e1, hr)) : V X G h0 (QT e1 hr) 85 [(0, .ref r0)] [.int si0] h := by
  unfold f_X15_readStep_85 at hf
  refine C.seg (pe := 88) (lv' := [(1, .int si0), (0, .ref r0)]) (st' := [.int (-1), .int si0]) [(.istore_n 1, 1, 0), (.iload_n 1, 1, 0), (.iconst (-1), 1, (-1))] (by decide +kernel) rfl ?_
  refine C.icmp_ne (off := 9) (tgt := 97) (pf := 91) (by decide +kernel) (by decide) rfl (fun c23 => ?_) (fun c23 => ?_)
  · replace hf := ifn c23 hf
    refine C.seg (pe := 98) (lv' := [(1, .int si0), (0, .ref r0)]) (st' := [.ref r0]) [(.aload_n 0, 1, 0)] (by decide +kernel) rfl ?_
    obtain ⟨a1, ga1, hf⟩ := Option.bind_eq_some_iff.mp hf
    refine C.rdA fr_1826 ga1 (by decide +kernel) rfl ?_
    obtain ⟨x2, gx2, hf⟩ := Option.bind_eq_some_iff.mp hf
    refine C.rdI fr_1714 gx2 (by decide +kernel) rfl ?_
    refine C.seg (pe := 106) (lv' := [(1, .int si0), (0, .ref r0)]) (st' := [.int 40, .int x2]) [(.bipush 40, 2, 40)] (by decide +kernel) rfl ?_
    refine C.icmp_ne (off := 9) (tgt := 115) (pf := 109) (by decide +kernel) (by decide) rfl (fun c19 => ?_) (fun c19 => ?_)
    · replace hf := ifn c19 hf
      refine C.seg (pe := 116) (lv' := [(1, .int si0), (0, .ref r0)]) (st' := [.ref r0]) [(.aload_n 0, 1, 0)] (by decide +kernel) rfl ?_
      obtain ⟨a3, ga3, hf⟩ := Option.bind_eq_some_iff.mp hf
      refine C.rdA fr_1826 ga3 (by decide +kernel) rfl ?_
      obtain ⟨x4, gx4, hf⟩ := Option.bind_eq_some_iff.mp hf
      refine C.rdI fr_1714 gx4 (by decide +kernel) rfl ?_
      refine C.seg (pe := 124) (lv' := [(2, .int x4), (1, .int si0), (0, .ref r0)]) (st' := [.ref r0]) [(.istore_n 2, 1, 0), (.aload_n 0, 1, 0)] (by decide +kernel) rfl ?_
      obtain ⟨a5, ga5, hf⟩ := Option.bind_eq_some_iff.mp hf
      refine C.rdA fr_1826 ga5 (by decide +kernel) rfl ?_
      refine C.seg (pe := 128) (lv' := [(2, .int x4), (1, .int si0), (0, .ref r0)]) (st' := [.ref a5, .ref a5]) [(.dup, 1, 0)] (by decide +kernel) rfl ?_
      obtain ⟨x6, gx6, hf⟩ := Option.bind_eq_some_iff.mp hf
      refine C.rdI fr_1714 gx6 (by decide +kernel) rfl ?_
      refine C.seg (pe := 133) (lv' := [(2, .int x4), (1, .int si0), (0, .ref r0)]) (st' := [.int (x6 + 1), .ref a5]) [(.iconst 1, 1, 1), (.iadd, 1, 0)] (by decide +kernel) rfl ?_
      obtain ⟨h7, gh7, hf⟩ := Option.bind_eq_some_iff.mp hf
      refine C.putI fl_1714 gh7 (by decide +kernel) rfl ?_
      refine C.seg (pe := 137) (lv' := [(2, .int x4), (1, .int si0), (0, .ref r0)]) (st' := [.ref r0]) [(.aload_n 0, 1, 0)] (by decide +kernel) rfl ?_
      obtain ⟨a8, ga8, hf⟩ := Option.bind_eq_some_iff.mp hf
      refine C.rdA fr_1826 ga8 (by decide +kernel) rfl ?_
      obtain ⟨a9, ga9, hf⟩ := Option.bind_eq_some_iff.mp hf
      refine C.rdA fr_1718 ga9 (by decide +kernel) rfl ?_
      refine C.seg (pe := 145) (lv' := [(2, .int x4), (1, .int si0), (0, .ref r0)]) (st' := [.int si0, .int x4, .ref a9]) [(.iload_n 2, 1, 0), (.iload_n 1, 1, 0)] (by decide +kernel) rfl ?_
      obtain ⟨h10, gh10, hf⟩ := Option.bind_eq_some_iff.mp hf
      refine C.ast gh10 (by decide +kernel) rfl ?_
      refine C.seg (pe := 147) (lv' := [(2, .int x4), (1, .int si0), (0, .ref r0)]) (st' := [.ref r0]) [(.aload_n 0, 1, 0)] (by decide +kernel) rfl ?_
      obtain ⟨h11, gh11, hf⟩ := Option.bind_eq_some_iff.mp hf
      refine C.callVr C2 [] [] mv_2193 rfl (o_X15_next gh11) (w_X15_next gh11) (by omega) (by omega) (Nat.le_of_ble_eq_true rfl) (by decide +kernel) rfl ?_
      refine C.seg (pe := 152) (lv' := [(2, .int x4), (1, .int si0), (0, .ref r0)]) (st' := [.int 2, .int si0]) [(.iload_n 1, 1, 0), (.iconst 2, 1, 2)] (by decide +kernel) rfl ?_
      refine C.icmp_gt (off := 8) (tgt := 160) (pf := 155) (by decide +kernel) (by decide) rfl (fun c15 => ?_) (fun c15 => ?_)
      · replace hf := ifp c15 hf
        refine Vsub [2, 1, 0] rfl ?_
        exact l_X15_readStep_160 C C2 hfT hlT hkX hoX r0 si0 x4 h11 hf
      · replace hf := ifn c15 hf
        refine C.seg (pe := 157) (lv' := [(2, .int x4), (1, .int si0), (0, .ref r0)]) (st' := [.int x4, .ref r0]) [(.aload_n 0, 1, 0), (.iload_n 2, 1, 0)] (by decide +kernel) rfl ?_
        obtain ⟨q12, h13, gq12, hf⟩ := b2_some hf
        cases q12 with
        | none =>
          replace hf := tr_none hf
          refine C.callVr C2 [.int x4] [] mv_2238 rfl (o_X15_readTint gq12) (w_X15_readTint gq12) (by omega) (by omega) (Nat.le_of_ble_eq_true rfl) (by decide +kernel) rfl ?_
          refine Vsub [2, 1, 0] rfl ?_
          exact l_X15_readStep_160 C C2 hfT hlT hkX hoX r0 si0 x4 h13 hf
        | some a14 =>
          replace hf := tr_some hf
          cases hf
          exact C.callVt C2 [.int x4] [] mv_2238 rfl (o_X15_readTint gq12) (w_X15_readTint gq12) (by omega) (by omega) (Nat.le_of_ble_eq_true rfl) (by decide +kernel) ⟨rfl, rfl⟩
    · replace hf := ifp c19 hf
      refine C.seg (pe := 111) (lv' := [(1, .int si0), (0, .ref r0)]) (st' := [.int 4, .ref r0]) [(.aload_n 0, 1, 0), (.iconst 4, 1, 4)] (by decide +kernel) rfl ?_
      obtain ⟨q16, h17, gq16, hf⟩ := b2_some hf
      cases q16 with
      | none =>
        replace hf := tr_none hf
        refine C.callVr C2 [.int 4] [] mv_2220 rfl (o_X15_stop gq16) (w_X15_stop gq16) (by omega) (by omega) (Nat.le_of_ble_eq_true rfl) (by decide +kernel) rfl ?_
        cases hf
      | some a18 =>
        replace hf := tr_some hf
        refine C.callVr C2 [.int 4] [] mv_2220 rfl (o_X15_stop gq16) (w_X15_stop gq16) (by omega) (by omega) (Nat.le_of_ble_eq_true rfl) (by decide +kernel) rfl ?_
        cases hf
        exact C.athrow C2 (by decide +kernel) ⟨rfl, rfl⟩
  · replace hf := ifp c23 hf
    refine C.seg (pe := 93) (lv' := [(1, .int si0), (0, .ref r0)]) (st' := [.int 2, .ref r0]) [(.aload_n 0, 1, 0), (.iconst 2, 1, 2)] (by decide +kernel) rfl ?_
    obtain ⟨q20, h21, gq20, hf⟩ := b2_some hf
    cases q20 with
    | none =>
      replace hf := tr_none hf
      refine C.callVr C2 [.int 2] [] mv_2220 rfl (o_X15_stop gq20) (w_X15_stop gq20) (by omega) (by omega) (Nat.le_of_ble_eq_true rfl) (by decide +kernel) rfl ?_
      cases hf
    | some a22 =>
      replace hf := tr_some hf
      refine C.callVr C2 [.int 2] [] mv_2220 rfl (o_X15_stop gq20) (w_X15_stop gq20) (by omega) (by omega) (Nat.le_of_ble_eq_true rfl) (by decide +kernel) rfl ?_
      cases hf
      exact C.athrow C2 (by decide +kernel) ⟨rfl, rfl⟩
def f_X15_readStep (z : ZX) (kX : Nat → AH → Option (Option Nat × AH)) (a0 : Nat) (h : AH) : Option (Option Nat × AH) :=
  if isO 15 h a0 = true then
    (gI 15 h a0 28).bind fun x1 =>
    if x1 = 2 then
      b2 (f_X15_isWord z a0 ((z.1 16)) h) fun x2 h3 =>
      if x2 = 0 then
        b2 (f_X15_isWord z a0 ((z.1 17)) h3) fun x4 h5 =>
        if x4 = 0 then
          b2 (f_X15_isWord z a0 ((z.1 18)) h5) fun x6 h7 =>
          if x6 = 0 then
            b2 (f_X15_isWord z a0 ((z.1 19)) h7) fun x8 h9 =>
            if x8 = 0 then
              b2 (f_X15_isWord z a0 ((z.1 20)) h9) fun x10 h11 =>
              if x10 = 0 then
                f_X15_readStep_85 z kX a0 (-1) h11
              else
                f_X15_readStep_85 z kX a0 4 h11
            else
              f_X15_readStep_85 z kX a0 3 h9
          else
            f_X15_readStep_85 z kX a0 2 h7
        else
          f_X15_readStep_85 z kX a0 1 h5
      else
        f_X15_readStep_85 z kX a0 0 h3
    else
      b2 (f_X15_stop a0 1 h) fun q17 h18 =>
      tr q17 (
        none) fun a19 =>
      some (some a19, h18)
  else none
set_option maxRecDepth 100000 in
set_option maxHeartbeats 4000000 in
theorem w_X15_readStep {l : Launch} {G : GX} {fT lT : Nat} {kX : Nat → AH → Option (Option Nat × AH)} (hfT : 500 ≤ fT) (hlT : 9000 ≤ lT) (hkX : ∀ (b0 : Nat) (h : AH) (e1 : Option Nat) (hr : AH), kX b0 h = some (e1, hr) → Ct l G yX15_readText fT lT [.ref b0] h (QT e1 hr)) (hoX : ∀ (b0 : Nat) (h : AH) (e1 : Option Nat) (hr : AH), kX b0 h = some (e1, hr) → isO 15 h b0 = true)  {a0 : Nat} {h : AH} {e1 : Option Nat} {hr : AH} (hf : f_X15_readStep G.2.2 kX a0 h = some (e1, hr)) : Ct l G yX15_readStep (fT + 10) (lT + 200) [.ref a0] h (QT e1 hr) := by
  unfold f_X15_readStep at hf
  obtain ⟨ho, hf⟩ := ifO hf
  refine Ct_of (own := RX15) (cc := cX15_readStep) (nL := 5) (ret := none) rfl rfl k_2219 (Nat.le_of_ble_eq_true rfl) (fun X C2 C => ?_)
  show V X G h (QT e1 hr) 0 [(0, .ref a0)] [] h
  refine C.seg (pe := 1) (lv' := [(0, .ref a0)]) (st' := [.ref a0]) [(.aload_n 0, 1, 0)] (by decide +kernel) rfl ?_
  obtain ⟨x1, gx1, hf⟩ := Option.bind_eq_some_iff.mp hf
  refine C.rdI fr_1814 gx1 (by decide +kernel) rfl ?_
  refine C.seg (pe := 5) (lv' := [(0, .ref a0)]) (st' := [.int 2, .int x1]) [(.iconst 2, 1, 2)] (by decide +kernel) rfl ?_
  refine C.icmp_eq (off := 9) (tgt := 14) (pf := 8) (by decide +kernel) (by decide) rfl (fun c20 => ?_) (fun c20 => ?_)
  · replace hf := ifp c20 hf
    refine C.seg (pe := 15) (lv' := [(0, .ref a0)]) (st' := [.ref a0]) [(.aload_n 0, 1, 0)] (by decide +kernel) rfl ?_
    refine C.ldcwS (i := 16) (idx := 367) (tx := "rect") rfl (by decide +kernel) rfl ?_
    obtain ⟨x2, h3, gx2, hf⟩ := b2_some hf
    refine C.callVr C2 [.ref ((G.2.2.1 16))] [] mv_2225 rfl (o_X15_isWord gx2) (w_X15_isWord gx2) (by omega) (by omega) (Nat.le_of_ble_eq_true rfl) (by decide +kernel) rfl ?_
    refine C.if_eq (off := 7) (tgt := 28) (pf := 24) (by decide +kernel) (by decide) rfl (fun c16 => ?_) (fun c16 => ?_)
    · replace hf := ifp c16 hf
      refine C.seg (pe := 29) (lv' := [(0, .ref a0)]) (st' := [.ref a0]) [(.aload_n 0, 1, 0)] (by decide +kernel) rfl ?_
      refine C.ldcwS (i := 17) (idx := 369) (tx := "disc") rfl (by decide +kernel) rfl ?_
      obtain ⟨x4, h5, gx4, hf⟩ := b2_some hf
      refine C.callVr C2 [.ref ((G.2.2.1 17))] [] mv_2225 rfl (o_X15_isWord gx4) (w_X15_isWord gx4) (by omega) (by omega) (Nat.le_of_ble_eq_true rfl) (by decide +kernel) rfl ?_
      refine C.if_eq (off := 7) (tgt := 42) (pf := 38) (by decide +kernel) (by decide) rfl (fun c15 => ?_) (fun c15 => ?_)
      · replace hf := ifp c15 hf
        refine C.seg (pe := 43) (lv' := [(0, .ref a0)]) (st' := [.ref a0]) [(.aload_n 0, 1, 0)] (by decide +kernel) rfl ?_
        refine C.ldcwS (i := 18) (idx := 371) (tx := "say") rfl (by decide +kernel) rfl ?_
        obtain ⟨x6, h7, gx6, hf⟩ := b2_some hf
        refine C.callVr C2 [.ref ((G.2.2.1 18))] [] mv_2225 rfl (o_X15_isWord gx6) (w_X15_isWord gx6) (by omega) (by omega) (Nat.le_of_ble_eq_true rfl) (by decide +kernel) rfl ?_
        refine C.if_eq (off := 7) (tgt := 56) (pf := 52) (by decide +kernel) (by decide) rfl (fun c14 => ?_) (fun c14 => ?_)
        · replace hf := ifp c14 hf
          refine C.seg (pe := 57) (lv' := [(0, .ref a0)]) (st' := [.ref a0]) [(.aload_n 0, 1, 0)] (by decide +kernel) rfl ?_
          refine C.ldcwS (i := 19) (idx := 373) (tx := "each") rfl (by decide +kernel) rfl ?_
          obtain ⟨x8, h9, gx8, hf⟩ := b2_some hf
          refine C.callVr C2 [.ref ((G.2.2.1 19))] [] mv_2225 rfl (o_X15_isWord gx8) (w_X15_isWord gx8) (by omega) (by omega) (Nat.le_of_ble_eq_true rfl) (by decide +kernel) rfl ?_
          refine C.if_eq (off := 7) (tgt := 70) (pf := 66) (by decide +kernel) (by decide) rfl (fun c13 => ?_) (fun c13 => ?_)
          · replace hf := ifp c13 hf
            refine C.seg (pe := 71) (lv' := [(0, .ref a0)]) (st' := [.ref a0]) [(.aload_n 0, 1, 0)] (by decide +kernel) rfl ?_
            refine C.ldcwS (i := 20) (idx := 379) (tx := "if") rfl (by decide +kernel) rfl ?_
            obtain ⟨x10, h11, gx10, hf⟩ := b2_some hf
            refine C.callVr C2 [.ref ((G.2.2.1 20))] [] mv_2225 rfl (o_X15_isWord gx10) (w_X15_isWord gx10) (by omega) (by omega) (Nat.le_of_ble_eq_true rfl) (by decide +kernel) rfl ?_
            refine C.if_eq (off := 7) (tgt := 84) (pf := 80) (by decide +kernel) (by decide) rfl (fun c12 => ?_) (fun c12 => ?_)
            · replace hf := ifp c12 hf
              refine C.seg (pe := 85) (lv' := [(0, .ref a0)]) (st' := [.int (-1)]) [(.iconst (-1), 1, (-1))] (by decide +kernel) rfl ?_
              exact l_X15_readStep_85 C C2 hfT hlT hkX hoX a0 (-1) h11 hf
            · replace hf := ifn c12 hf
              refine C.seg (pe := 81) (lv' := [(0, .ref a0)]) (st' := [.int 4]) [(.iconst 4, 1, 4)] (by decide +kernel) rfl ?_
              refine C.goto (off := 4) (tgt := 85) (by decide +kernel) (by decide) ?_
              exact l_X15_readStep_85 C C2 hfT hlT hkX hoX a0 4 h11 hf
          · replace hf := ifn c13 hf
            refine C.seg (pe := 67) (lv' := [(0, .ref a0)]) (st' := [.int 3]) [(.iconst 3, 1, 3)] (by decide +kernel) rfl ?_
            refine C.goto (off := 18) (tgt := 85) (by decide +kernel) (by decide) ?_
            exact l_X15_readStep_85 C C2 hfT hlT hkX hoX a0 3 h9 hf
        · replace hf := ifn c14 hf
          refine C.seg (pe := 53) (lv' := [(0, .ref a0)]) (st' := [.int 2]) [(.iconst 2, 1, 2)] (by decide +kernel) rfl ?_
          refine C.goto (off := 32) (tgt := 85) (by decide +kernel) (by decide) ?_
          exact l_X15_readStep_85 C C2 hfT hlT hkX hoX a0 2 h7 hf
      · replace hf := ifn c15 hf
        refine C.seg (pe := 39) (lv' := [(0, .ref a0)]) (st' := [.int 1]) [(.iconst 1, 1, 1)] (by decide +kernel) rfl ?_
        refine C.goto (off := 46) (tgt := 85) (by decide +kernel) (by decide) ?_
        exact l_X15_readStep_85 C C2 hfT hlT hkX hoX a0 1 h5 hf
    · replace hf := ifn c16 hf
      refine C.seg (pe := 25) (lv' := [(0, .ref a0)]) (st' := [.int 0]) [(.iconst 0, 1, 0)] (by decide +kernel) rfl ?_
      refine C.goto (off := 60) (tgt := 85) (by decide +kernel) (by decide) ?_
      exact l_X15_readStep_85 C C2 hfT hlT hkX hoX a0 0 h3 hf
  · replace hf := ifn c20 hf
    refine C.seg (pe := 10) (lv' := [(0, .ref a0)]) (st' := [.int 1, .ref a0]) [(.aload_n 0, 1, 0), (.iconst 1, 1, 1)] (by decide +kernel) rfl ?_
    obtain ⟨q17, h18, gq17, hf⟩ := b2_some hf
    cases q17 with
    | none =>
      replace hf := tr_none hf
      refine C.callVr C2 [.int 1] [] mv_2220 rfl (o_X15_stop gq17) (w_X15_stop gq17) (by omega) (by omega) (Nat.le_of_ble_eq_true rfl) (by decide +kernel) rfl ?_
      cases hf
    | some a19 =>
      replace hf := tr_some hf
      refine C.callVr C2 [.int 1] [] mv_2220 rfl (o_X15_stop gq17) (w_X15_stop gq17) (by omega) (by omega) (Nat.le_of_ble_eq_true rfl) (by decide +kernel) rfl ?_
      cases hf
      exact C.athrow C2 (by decide +kernel) ⟨rfl, rfl⟩
theorem o_X15_readStep {z : ZX} {kX : Nat → AH → Option (Option Nat × AH)} {a0 : Nat} {h : AH} {e1 : Option Nat} {hr : AH} (hf : f_X15_readStep z kX a0 h = some (e1, hr)) : isO 15 h a0 = true := by
  unfold f_X15_readStep at hf
  exact (ifO hf).1
/-! WallHouseModel.readText()V -/
def f_X15_readText_2 (z : ZX) (kX : Nat → AH → Option (Option Nat × AH)) : Nat → Nat → Int32 → AH → Option (Option Nat × AH)
  | 0, _, _, _ => none
  | n + 1, r0, i1, h =>
    if i1 = 0 then
      some (none, h)
    else
      b2 (f_X15_readStep z kX r0 h) fun q1 h2 =>
      tr q1 (
        b2 (f_X15_is r0 59 h2) fun x4 h5 =>
        if x4 = 0 then
          (f_X15_readText_2 z kX n) r0 x4 h5
        else
          (f_X15_next r0 h5).bind fun h6 =>
          (f_X15_readText_2 z kX n) r0 x4 h6) fun a3 =>
      some (some a3, h2)
set_option maxRecDepth 100000 in
set_option maxHeartbeats 4000000 in
theorem l_X15_readText_2 {X : MX} {l : Launch} {G : GX} {h0 : AH} {fT lT : Nat} {e1 : Option Nat} {hr : AH} (C : Cx X G RX15 cX15_readText 2 none (fT + 20) (lT + 400) h0) (C2 : Cy X l "readText" []) {kX : Nat → AH → Option (Option Nat × AH)} (hfT : 500 ≤ fT) (hlT : 9000 ≤ lT) (hkX : ∀ (b0 : Nat) (h : AH) (e1 : Option Nat) (hr : AH), kX b0 h = some (e1, hr) → Ct l G yX15_readText fT lT [.ref b0] h (QT e1 hr)) (hoX : ∀ (b0 : Nat) (h : AH) (e1 : Option Nat) (hr : AH), kX b0 h = some (e1, hr) → isO 15 h b0 = true) : ∀ (n : Nat) (r0 : Nat) (i1 : Int32) (h : AH), f_X15_readText_2 G.2.2 kX n r0 i1 h = some (e1, hr) → V X G h0 (QT e1 hr) 2 [(0, .ref r0), (1, .int i1)] [] h := by
  intro n
  induction n with
  | zero => intro r0 i1 h hf; rw [f_X15_readText_2] at hf; cases hf
  | succ n ih =>
    intro r0 i1 h hf
    rw [f_X15_readText_2] at hf
    refine C.seg (pe := 3) (lv' := [(0, .ref r0), (1, .int i1)]) (st' := [.int i1]) [(.iload_n 1, 1, 0)] (by decide +kernel) rfl ?_
    refine C.if_eq (off := 25) (tgt := 28) (pf := 6) (by decide +kernel) (by decide) rfl (fun c8 => ?_) (fun c8 => ?_)
    · replace hf := ifp c8 hf
      cases hf
      exact C.retV rfl (by decide +kernel) ⟨rfl, rfl⟩
    · replace hf := ifn c8 hf
      refine C.seg (pe := 7) (lv' := [(0, .ref r0), (1, .int i1)]) (st' := [.ref r0]) [(.aload_n 0, 1, 0)] (by decide +kernel) rfl ?_
      obtain ⟨q1, h2, gq1, hf⟩ := b2_some hf
      cases q1 with
      | none =>
        replace hf := tr_none hf
        refine C.callVr C2 [] [] mv_2216 rfl (o_X15_readStep gq1) (w_X15_readStep hfT hlT hkX hoX gq1) (by omega) (by omega) (Nat.le_of_ble_eq_true rfl) (by decide +kernel) rfl ?_
        refine C.seg (pe := 13) (lv' := [(0, .ref r0), (1, .int i1)]) (st' := [.int 59, .ref r0]) [(.aload_n 0, 1, 0), (.bipush 59, 2, 59)] (by decide +kernel) rfl ?_
        obtain ⟨x4, h5, gx4, hf⟩ := b2_some hf
        refine C.callVr C2 [.int 59] [] mv_2258 rfl (o_X15_is gx4) (w_X15_is gx4) (by omega) (by omega) (Nat.le_of_ble_eq_true rfl) (by decide +kernel) rfl ?_
        refine C.seg (pe := 18) (lv' := [(1, .int x4), (0, .ref r0)]) (st' := [.int x4]) [(.istore_n 1, 1, 0), (.iload_n 1, 1, 0)] (by decide +kernel) rfl ?_
        refine C.if_eq (off := (-16)) (tgt := 2) (pf := 21) (by decide +kernel) (by decide) rfl (fun c7 => ?_) (fun c7 => ?_)
        · replace hf := ifp c7 hf
          refine Vsub [1, 0] rfl ?_
          exact ih r0 x4 h5 hf
        · replace hf := ifn c7 hf
          refine C.seg (pe := 22) (lv' := [(1, .int x4), (0, .ref r0)]) (st' := [.ref r0]) [(.aload_n 0, 1, 0)] (by decide +kernel) rfl ?_
          obtain ⟨h6, gh6, hf⟩ := Option.bind_eq_some_iff.mp hf
          refine C.callVr C2 [] [] mv_2193 rfl (o_X15_next gh6) (w_X15_next gh6) (by omega) (by omega) (Nat.le_of_ble_eq_true rfl) (by decide +kernel) rfl ?_
          refine C.goto (off := (-23)) (tgt := 2) (by decide +kernel) (by decide) ?_
          refine Vsub [1, 0] rfl ?_
          exact ih r0 x4 h6 hf
      | some a3 =>
        replace hf := tr_some hf
        cases hf
        exact C.callVt C2 [] [] mv_2216 rfl (o_X15_readStep gq1) (w_X15_readStep hfT hlT hkX hoX gq1) (by omega) (by omega) (Nat.le_of_ble_eq_true rfl) (by decide +kernel) ⟨rfl, rfl⟩
def f_X15_readText_b (z : ZX) (kX : Nat → AH → Option (Option Nat × AH)) (a0 : Nat) (h : AH) : Option (Option Nat × AH) :=
  if isO 15 h a0 = true then
    f_X15_readText_2 z kX FU a0 1 h
  else none
def f_X15_readText (z : ZX) : Nat → Nat → AH → Option (Option Nat × AH)
  | 0, _, _ => none
  | d + 1, a0, h => f_X15_readText_b z (f_X15_readText z d) a0 h
set_option maxRecDepth 100000 in
set_option maxHeartbeats 4000000 in
theorem w_X15_readText_b {l : Launch} {G : GX} {fT lT : Nat} {kX : Nat → AH → Option (Option Nat × AH)} (hfT : 500 ≤ fT) (hlT : 9000 ≤ lT) (hkX : ∀ (b0 : Nat) (h : AH) (e1 : Option Nat) (hr : AH), kX b0 h = some (e1, hr) → Ct l G yX15_readText fT lT [.ref b0] h (QT e1 hr)) (hoX : ∀ (b0 : Nat) (h : AH) (e1 : Option Nat) (hr : AH), kX b0 h = some (e1, hr) → isO 15 h b0 = true)  {a0 : Nat} {h : AH} {e1 : Option Nat} {hr : AH} (hf : f_X15_readText_b G.2.2 kX a0 h = some (e1, hr)) : Ct l G yX15_readText (fT + 20) (lT + 400) [.ref a0] h (QT e1 hr) := by
  unfold f_X15_readText_b at hf
  obtain ⟨ho, hf⟩ := ifO hf
  refine Ct_of (own := RX15) (cc := cX15_readText) (nL := 2) (ret := none) rfl rfl k_2215 (Nat.le_of_ble_eq_true rfl) (fun X C2 C => ?_)
  show V X G h (QT e1 hr) 0 [(0, .ref a0)] [] h
  refine C.seg (pe := 2) (lv' := [(1, .int 1), (0, .ref a0)]) (st' := []) [(.iconst 1, 1, 1), (.istore_n 1, 1, 0)] (by decide +kernel) rfl ?_
  refine Vsub [1, 0] rfl ?_
  exact l_X15_readText_2 C C2 hfT hlT hkX hoX FU a0 1 h hf
theorem o_X15_readText {z : ZX} {d : Nat} {a0 : Nat} {h : AH} {e1 : Option Nat} {hr : AH} (hf : f_X15_readText z d a0 h = some (e1, hr)) : isO 15 h a0 = true := by
  cases d with
  | zero => rw [f_X15_readText] at hf; cases hf
  | succ d =>
    rw [f_X15_readText, f_X15_readText_b] at hf
    exact (ifO hf).1
theorem w_X15_readText {l : Launch} {G : GX} (d : Nat) : ∀ {a0 : Nat} {h : AH} {e1 : Option Nat} {hr : AH}, f_X15_readText G.2.2 d a0 h = some (e1, hr) → Ct l G yX15_readText (500 + 20 * d) (9000 + 400 * d) [.ref a0] h (QT e1 hr) := by
  induction d with
  | zero => intro a0 h e1 hr hf; rw [f_X15_readText] at hf; cases hf
  | succ d ih =>
    intro a0 h e1 hr hf
    rw [f_X15_readText] at hf
    have q := w_X15_readText_b (fT := 500 + 20 * d) (lT := 9000 + 400 * d) (by omega) (by omega) (fun b0 h e1 hr g => ih g) (fun b0 h e1 hr g => o_X15_readText g) hf
    rw [show 500 + 20 * (d + 1) = 500 + 20 * d + 20 by omega, show 9000 + 400 * (d + 1) = 9000 + 400 * d + 400 by omega]
    exact q
