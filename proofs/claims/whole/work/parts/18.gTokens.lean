/-! WallHouse$Tokens.<init>()V -/
def f_X7_init (a0 : Nat) (h : AH) : Option (AH) :=
  b2 (nwA 0 401 h) fun a1 h2 =>
  (pQ 7 h2 a0 0 (some a1)).bind fun h3 =>
  b2 (nwA 1 401 h3) fun a4 h5 =>
  (pQ 7 h5 a0 7 (some a4)).bind fun h6 =>
  b2 (nwA 0 401 h6) fun a7 h8 =>
  (pQ 7 h8 a0 1 (some a7)).bind fun h9 =>
  b2 (nwA 4 401 h9) fun a10 h11 =>
  (pQ 7 h11 a0 2 (some a10)).bind fun h12 =>
  some h12
set_option maxRecDepth 100000 in
set_option maxHeartbeats 4000000 in
theorem w_X7_init {l : Launch} {G : GX} {a0 : Nat} {h : AH} {hr : AH} (hf : f_X7_init a0 h = some hr) : Ct l G yX7_init 1 20 [.ref a0] h (QV hr) := by
  unfold f_X7_init at hf
  refine Ct_of (own := RX7) (cc := cX7_init) (nL := 1) (ret := none) rfl rfl k_371 (Nat.le_of_ble_eq_true rfl) (fun X C2 C => ?_)
  show V X G h (QV hr) 0 [(0, .ref a0)] [] h
  refine C.seg (pe := 1) (lv' := [(0, .ref a0)]) (st' := [.ref a0]) [(.aload_n 0, 1, 0)] (by decide +kernel) rfl ?_
  refine C.objInit k_372 k_151 k_152 (by omega) (by omega) (Nat.le_of_ble_eq_true rfl) (by decide +kernel) rfl ?_
  refine C.seg (pe := 8) (lv' := [(0, .ref a0)]) (st' := [.int 401, .ref a0]) [(.aload_n 0, 1, 0), (.sipush 401, 3, 401)] (by decide +kernel) rfl ?_
  obtain ⟨a1, h2, ga1, hf⟩ := b2_some hf
  refine C.newa0 k_180 ga1 (by decide +kernel) rfl ?_
  obtain ⟨h3, gh3, hf⟩ := Option.bind_eq_some_iff.mp hf
  refine C.putFA C2.2.1 fl_373 (Or.inr ⟨_, rfl⟩) gh3 (by decide +kernel) rfl ?_
  refine C.seg (pe := 17) (lv' := [(0, .ref a0)]) (st' := [.int 401, .ref a0]) [(.aload_n 0, 1, 0), (.sipush 401, 3, 401)] (by decide +kernel) rfl ?_
  obtain ⟨a4, h5, ga4, hf⟩ := b2_some hf
  refine C.newa1 k_400 ga4 (by decide +kernel) rfl ?_
  obtain ⟨h6, gh6, hf⟩ := Option.bind_eq_some_iff.mp hf
  refine C.putFA C2.2.1 fl_374 (Or.inr ⟨_, rfl⟩) gh6 (by decide +kernel) rfl ?_
  refine C.seg (pe := 26) (lv' := [(0, .ref a0)]) (st' := [.int 401, .ref a0]) [(.aload_n 0, 1, 0), (.sipush 401, 3, 401)] (by decide +kernel) rfl ?_
  obtain ⟨a7, h8, ga7, hf⟩ := b2_some hf
  refine C.newa0 k_180 ga7 (by decide +kernel) rfl ?_
  obtain ⟨h9, gh9, hf⟩ := Option.bind_eq_some_iff.mp hf
  refine C.putFA C2.2.1 fl_375 (Or.inr ⟨_, rfl⟩) gh9 (by decide +kernel) rfl ?_
  refine C.seg (pe := 35) (lv' := [(0, .ref a0)]) (st' := [.int 401, .ref a0]) [(.aload_n 0, 1, 0), (.sipush 401, 3, 401)] (by decide +kernel) rfl ?_
  obtain ⟨a10, h11, ga10, hf⟩ := b2_some hf
  refine C.newa4 k_401 ga10 (by decide +kernel) rfl ?_
  obtain ⟨h12, gh12, hf⟩ := Option.bind_eq_some_iff.mp hf
  refine C.putFA C2.2.1 fl_376 (Or.inr ⟨_, rfl⟩) gh12 (by decide +kernel) rfl ?_
  cases hf
  exact C.retV rfl (by decide +kernel) ⟨rfl, rfl⟩
/-! WallHouse$Tokens.isLetter(I)Z -/
def f_X7_isLetter_17 (si0 : Int32) (h : AH) : Option (Int32 × AH) :=
  (ckZ si0).bind fun x1 =>
  some (x1, h)
set_option maxRecDepth 100000 in
set_option maxHeartbeats 4000000 in
theorem l_X7_isLetter_17 {X : MX} {l : Launch} {G : GX} {h0 : AH} {rr : Int32} {hr : AH} (C : Cx X G RX7 cX7_isLetter 1 (some .boolean) 0 0 h0) (C2 : Cy X l "isLetter" []) (si0 : Int32) (h : AH) (hf : f_X7_isLetter_17 si0 h = some (rr, hr)) : V X G h0 (QI rr hr) 17 [] [.int si0] h := by
  unfold f_X7_isLetter_17 at hf
  obtain ⟨x1, gx1, hf⟩ := Option.bind_eq_some_iff.mp hf
  have ex1 := ckZ_eq gx1
  subst ex1
  cases hf
  exact C.retZ rfl gx1 (by decide +kernel) ⟨rfl, rfl⟩
def f_X7_isLetter_16 (h : AH) : Option (Int32 × AH) :=
  f_X7_isLetter_17 0 h
set_option maxRecDepth 100000 in
set_option maxHeartbeats 4000000 in
theorem l_X7_isLetter_16 {X : MX} {l : Launch} {G : GX} {h0 : AH} {rr : Int32} {hr : AH} (C : Cx X G RX7 cX7_isLetter 1 (some .boolean) 0 0 h0) (C2 : Cy X l "isLetter" []) (h : AH) (hf : f_X7_isLetter_16 h = some (rr, hr)) : V X G h0 (QI rr hr) 16 [] [] h := by
  unfold f_X7_isLetter_16 at hf
  refine C.seg (pe := 17) (lv' := []) (st' := [.int 0]) [(.iconst 0, 1, 0)] (by decide +kernel) rfl ?_
  exact l_X7_isLetter_17 C C2 0 h hf
def f_X7_isLetter (p1 : Int32) (h : AH) : Option (Int32 × AH) :=
  if p1 < 97 then
    f_X7_isLetter_16 h
  else
    if 122 < p1 then
      f_X7_isLetter_16 h
    else
      f_X7_isLetter_17 1 h
set_option maxRecDepth 100000 in
set_option maxHeartbeats 4000000 in
theorem w_X7_isLetter {l : Launch} {G : GX} {p1 : Int32} {h : AH} {rr : Int32} {hr : AH} (hf : f_X7_isLetter p1 h = some (rr, hr)) : Ct l G yX7_isLetter 0 0 [.int p1] h (QI rr hr) := by
  unfold f_X7_isLetter at hf
  refine Ct_of (own := RX7) (cc := cX7_isLetter) (nL := 1) (ret := (some .boolean)) rfl rfl k_826 (Nat.le_of_ble_eq_true rfl) (fun X C2 C => ?_)
  show V X G h (QI rr hr) 0 [(0, .int p1)] [] h
  refine C.seg (pe := 3) (lv' := [(0, .int p1)]) (st' := [.int 97, .int p1]) [(.iload_n 0, 1, 0), (.bipush 97, 2, 97)] (by decide +kernel) rfl ?_
  refine C.icmp_lt (off := 13) (tgt := 16) (pf := 6) (by decide +kernel) (by decide) rfl (fun c2 => ?_) (fun c2 => ?_)
  · replace hf := ifp c2 hf
    refine Vsub [] rfl ?_
    exact l_X7_isLetter_16 C C2 h hf
  · replace hf := ifn c2 hf
    refine C.seg (pe := 9) (lv' := [(0, .int p1)]) (st' := [.int 122, .int p1]) [(.iload_n 0, 1, 0), (.bipush 122, 2, 122)] (by decide +kernel) rfl ?_
    refine C.icmp_gt (off := 7) (tgt := 16) (pf := 12) (by decide +kernel) (by decide) rfl (fun c1 => ?_) (fun c1 => ?_)
    · replace hf := ifp c1 hf
      refine Vsub [] rfl ?_
      exact l_X7_isLetter_16 C C2 h hf
    · replace hf := ifn c1 hf
      refine C.seg (pe := 13) (lv' := [(0, .int p1)]) (st' := [.int 1]) [(.iconst 1, 1, 1)] (by decide +kernel) rfl ?_
      refine C.goto (off := 4) (tgt := 17) (by decide +kernel) (by decide) ?_
      refine Vsub [] rfl ?_
      exact l_X7_isLetter_17 C C2 1 h hf
/-! WallHouse$Tokens.withLetter(JI)J -/
def f_X7_withLetter (p1 : Int64) (p2 : Int32) (h : AH) : Option (Int64 × AH) :=
  some ((p1 * ((32 : Int64))) + (((p2 - 97) + 1).toInt64), h)
set_option maxRecDepth 100000 in
set_option maxHeartbeats 4000000 in
theorem w_X7_withLetter {l : Launch} {G : GX} {p1 : Int64} {p2 : Int32} {h : AH} {rr : Int64} {hr : AH} (hf : f_X7_withLetter p1 p2 h = some (rr, hr)) : Ct l G yX7_withLetter 0 0 [.long p1, .int p2] h (QJ rr hr) := by
  unfold f_X7_withLetter at hf
  refine Ct_of (own := RX7) (cc := cX7_withLetter) (nL := 3) (ret := (some .long)) rfl rfl k_833 (Nat.le_of_ble_eq_true rfl) (fun X C2 C => ?_)
  show V X G h (QJ rr hr) 0 [(0, .long p1), (2, .int p2)] [] h
  refine C.seg (pe := 1) (lv' := [(0, .long p1), (2, .int p2)]) (st' := [.long p1]) [(.lload_n 0, 1, 0)] (by decide +kernel) rfl ?_
  refine C.ldcL k_834 (by decide +kernel) rfl ?_
  refine C.seg (pe := 13) (lv' := [(0, .long p1), (2, .int p2)]) (st' := [.long ((p1 * ((32 : Int64))) + (((p2 - 97) + 1).toInt64))]) [(.lmul, 1, 0), (.iload_n 2, 1, 0), (.bipush 97, 2, 97), (.isub, 1, 0), (.iconst 1, 1, 1), (.iadd, 1, 0), (.i2l, 1, 0), (.ladd, 1, 0)] (by decide +kernel) rfl ?_
  cases hf
  exact C.retL rfl (by decide +kernel) ⟨rfl, rfl⟩
/-! WallHouse$Tokens.nameOf(J)I -/
def f_X7_nameOf_57 (z : ZX) (k7 : Int64 → Int32 → Int64 → Int32 → AH → Option (Int32 × AH)) (j0 : Int64) (i2 : Int32) (j3 : Int64) (i5 : Int32) (h : AH) : Option (Int32 × AH) :=
  k7 j0 i2 j3 (i5 + 1) h
set_option maxRecDepth 100000 in
set_option maxHeartbeats 4000000 in
theorem l_X7_nameOf_57 {X : MX} {l : Launch} {G : GX} {h0 : AH} {rr : Int32} {hr : AH} (C : Cx X G RX7 cX7_nameOf 6 (some .int) 4 85 h0) (C2 : Cy X l "nameOf" []) {k7 : Int64 → Int32 → Int64 → Int32 → AH → Option (Int32 × AH)} (hk7 : ∀ (j0 : Int64) (i2 : Int32) (j3 : Int64) (i5 : Int32) (h : AH), k7 j0 i2 j3 i5 h = some (rr, hr) → V X G h0 (QI rr hr) 7 [(0, .long j0), (2, .int i2), (3, .long j3), (5, .int i5)] [] h) (j0 : Int64) (i2 : Int32) (j3 : Int64) (i5 : Int32) (h : AH) (hf : f_X7_nameOf_57 G.2.2 k7 j0 i2 j3 i5 h = some (rr, hr)) : V X G h0 (QI rr hr) 57 [(0, .long j0), (2, .int i2), (3, .long j3), (5, .int i5)] [] h := by
  unfold f_X7_nameOf_57 at hf
  refine C.seg (pe := 60) (lv' := [(5, .int (i5 + 1)), (0, .long j0), (2, .int i2), (3, .long j3)]) (st' := []) [(.iinc 5 1, 3, 1)] (by decide +kernel) rfl ?_
  refine C.goto (off := (-53)) (tgt := 7) (by decide +kernel) (by decide) ?_
  refine Vsub [1, 2, 3, 0] rfl ?_
  exact hk7 j0 i2 j3 (i5 + 1) h hf
def f_X7_nameOf_7 (z : ZX) : Nat → Int64 → Int32 → Int64 → Int32 → AH → Option (Int32 × AH)
  | 0, _, _, _, _, _ => none
  | n + 1, j0, i2, j3, i5, h =>
    b2 (f_J0_length_8abf5 ((z.1 6)) h) fun x1 h2 =>
    if x1 ≤ i5 then
      some ((-1), h2)
    else
      b2 (f_J0_charAt_5068e z ((z.1 6)) i5 h2) fun x3 h4 =>
      if x3 = 32 then
        if lg_cmp j3 j0 = 0 then
          some (i2, h4)
        else
          lt ((Int64.ofNat 0) : Int64) fun y5 =>
          f_X7_nameOf_57 z (f_X7_nameOf_7 z n) j0 (i2 + 1) y5 i5 h4
      else
        b2 (f_J0_charAt_5068e z ((z.1 6)) i5 h4) fun x7 h8 =>
        b2 (f_X7_withLetter j3 x7 h8) fun y9 h10 =>
        f_X7_nameOf_57 z (f_X7_nameOf_7 z n) j0 i2 y9 i5 h10
set_option maxRecDepth 100000 in
set_option maxHeartbeats 4000000 in
theorem l_X7_nameOf_7 {X : MX} {l : Launch} {G : GX} {h0 : AH} {rr : Int32} {hr : AH} (C : Cx X G RX7 cX7_nameOf 6 (some .int) 4 85 h0) (C2 : Cy X l "nameOf" []) : ∀ (n : Nat) (j0 : Int64) (i2 : Int32) (j3 : Int64) (i5 : Int32) (h : AH), f_X7_nameOf_7 G.2.2 n j0 i2 j3 i5 h = some (rr, hr) → V X G h0 (QI rr hr) 7 [(0, .long j0), (2, .int i2), (3, .long j3), (5, .int i5)] [] h := by
  intro n
  induction n with
  | zero => intro j0 i2 j3 i5 h hf; rw [f_X7_nameOf_7] at hf; cases hf
  | succ n ih =>
    intro j0 i2 j3 i5 h hf
    rw [f_X7_nameOf_7] at hf
    refine C.seg (pe := 9) (lv' := [(0, .long j0), (2, .int i2), (3, .long j3), (5, .int i5)]) (st' := [.int i5]) [(.iload 5, 2, 0)] (by decide +kernel) rfl ?_
    refine C.ldcS (i := 6) (idx := 80) (tx := "rect disc say each if from to i j k m n wide high painter owner town school rest ") rfl (by decide +kernel) rfl ?_
    obtain ⟨x1, h2, gx1, hf⟩ := b2_some hf
    refine C.callTr C2 [] [.int i5] mt_839 rfl (o_J0_length_8abf5 gx1) (w_J0_length_8abf5 gx1) (by omega) (by omega) (Nat.le_of_ble_eq_true rfl) (by decide +kernel) rfl ?_
    refine C.icmp_ge (off := 49) (tgt := 63) (pf := 17) (by decide +kernel) (by decide) rfl (fun c12 => ?_) (fun c12 => ?_)
    · replace hf := ifp c12 hf
      refine C.seg (pe := 64) (lv' := [(0, .long j0), (2, .int i2), (3, .long j3), (5, .int i5)]) (st' := [.int (-1)]) [(.iconst (-1), 1, (-1))] (by decide +kernel) rfl ?_
      cases hf
      exact C.retI rfl (by decide +kernel) ⟨rfl, rfl⟩
    · replace hf := ifn c12 hf
      refine C.ldcS (i := 6) (idx := 80) (tx := "rect disc say each if from to i j k m n wide high painter owner town school rest ") rfl (by decide +kernel) rfl ?_
      refine C.seg (pe := 21) (lv' := [(0, .long j0), (2, .int i2), (3, .long j3), (5, .int i5)]) (st' := [.int i5, .ref ((G.2.2.1 6))]) [(.iload 5, 2, 0)] (by decide +kernel) rfl ?_
      obtain ⟨x3, h4, gx3, hf⟩ := b2_some hf
      refine C.callTr C2 [.int i5] [] mt_849 rfl (o_J0_charAt_5068e gx3) (w_J0_charAt_5068e gx3) (by omega) (by omega) (Nat.le_of_ble_eq_true rfl) (by decide +kernel) rfl ?_
      refine C.seg (pe := 26) (lv' := [(0, .long j0), (2, .int i2), (3, .long j3), (5, .int i5)]) (st' := [.int 32, .int x3]) [(.bipush 32, 2, 32)] (by decide +kernel) rfl ?_
      refine C.icmp_eq (off := 18) (tgt := 44) (pf := 29) (by decide +kernel) (by decide) rfl (fun c11 => ?_) (fun c11 => ?_)
      · replace hf := ifp c11 hf
        refine C.seg (pe := 47) (lv' := [(0, .long j0), (2, .int i2), (3, .long j3), (5, .int i5)]) (st' := [.int (lg_cmp j3 j0)]) [(.lload_n 3, 1, 0), (.lload_n 0, 1, 0), (.lcmp, 1, 0)] (by decide +kernel) rfl ?_
        refine C.if_ne (off := 5) (tgt := 52) (pf := 50) (by decide +kernel) (by decide) rfl (fun c6 => ?_) (fun c6 => ?_)
        · replace hf := ifn c6 hf
          refine C.seg (pe := 53) (lv' := [(0, .long j0), (2, .int i2), (3, .long j3), (5, .int i5)]) (st' := [.long ((Int64.ofNat 0))]) [(.lconst 0, 1, 0)] (by decide +kernel) rfl ?_
          refine Vtopl (fun y5 ey5 => ?_)
          replace hf := lt_ap ey5 hf
          clear ey5
          refine C.seg (pe := 57) (lv' := [(2, .int (i2 + 1)), (3, .long y5), (0, .long j0), (5, .int i5)]) (st' := []) [(.lstore_n 3, 1, 0), (.iinc 2 1, 3, 1)] (by decide +kernel) rfl ?_
          refine Vsub [2, 0, 1, 3] rfl ?_
          exact l_X7_nameOf_57 C C2 ih j0 (i2 + 1) y5 i5 h4 hf
        · replace hf := ifp c6 hf
          refine C.seg (pe := 51) (lv' := [(0, .long j0), (2, .int i2), (3, .long j3), (5, .int i5)]) (st' := [.int i2]) [(.iload_n 2, 1, 0)] (by decide +kernel) rfl ?_
          cases hf
          exact C.retI rfl (by decide +kernel) ⟨rfl, rfl⟩
      · replace hf := ifn c11 hf
        refine C.seg (pe := 30) (lv' := [(0, .long j0), (2, .int i2), (3, .long j3), (5, .int i5)]) (st' := [.long j3]) [(.lload_n 3, 1, 0)] (by decide +kernel) rfl ?_
        refine C.ldcS (i := 6) (idx := 80) (tx := "rect disc say each if from to i j k m n wide high painter owner town school rest ") rfl (by decide +kernel) rfl ?_
        refine C.seg (pe := 34) (lv' := [(0, .long j0), (2, .int i2), (3, .long j3), (5, .int i5)]) (st' := [.int i5, .ref ((G.2.2.1 6)), .long j3]) [(.iload 5, 2, 0)] (by decide +kernel) rfl ?_
        obtain ⟨x7, h8, gx7, hf⟩ := b2_some hf
        refine C.callTr C2 [.int i5] [.long j3] mt_849 rfl (o_J0_charAt_5068e gx7) (w_J0_charAt_5068e gx7) (by omega) (by omega) (Nat.le_of_ble_eq_true rfl) (by decide +kernel) rfl ?_
        obtain ⟨y9, h10, gy9, hf⟩ := b2_some hf
        refine C.callSr C2 [.long j3, .int x7] [] ms_831 rfl (w_X7_withLetter gy9) (by omega) (by omega) (Nat.le_of_ble_eq_true rfl) (by decide +kernel) rfl ?_
        refine C.seg (pe := 41) (lv' := [(3, .long y9), (0, .long j0), (2, .int i2), (5, .int i5)]) (st' := []) [(.lstore_n 3, 1, 0)] (by decide +kernel) rfl ?_
        refine C.goto (off := 16) (tgt := 57) (by decide +kernel) (by decide) ?_
        refine Vsub [1, 2, 0, 3] rfl ?_
        exact l_X7_nameOf_57 C C2 ih j0 i2 y9 i5 h10 hf
def f_X7_nameOf (z : ZX) (p1 : Int64) (h : AH) : Option (Int32 × AH) :=
  lt ((Int64.ofNat 0) : Int64) fun y1 =>
  f_X7_nameOf_7 z FU p1 0 y1 0 h
set_option maxRecDepth 100000 in
set_option maxHeartbeats 4000000 in
theorem w_X7_nameOf {l : Launch} {G : GX} {p1 : Int64} {h : AH} {rr : Int32} {hr : AH} (hf : f_X7_nameOf G.2.2 p1 h = some (rr, hr)) : Ct l G yX7_nameOf 4 85 [.long p1] h (QI rr hr) := by
  unfold f_X7_nameOf at hf
  refine Ct_of (own := RX7) (cc := cX7_nameOf) (nL := 6) (ret := (some .int)) rfl rfl k_837 (Nat.le_of_ble_eq_true rfl) (fun X C2 C => ?_)
  show V X G h (QI rr hr) 0 [(0, .long p1)] [] h
  refine C.seg (pe := 3) (lv' := [(2, .int 0), (0, .long p1)]) (st' := [.long ((Int64.ofNat 0))]) [(.iconst 0, 1, 0), (.istore_n 2, 1, 0), (.lconst 0, 1, 0)] (by decide +kernel) rfl ?_
  refine Vtopl (fun y1 ey1 => ?_)
  replace hf := lt_ap ey1 hf
  clear ey1
  refine C.seg (pe := 7) (lv' := [(5, .int 0), (3, .long y1), (2, .int 0), (0, .long p1)]) (st' := []) [(.lstore_n 3, 1, 0), (.iconst 0, 1, 0), (.istore 5, 2, 0)] (by decide +kernel) rfl ?_
  refine Vsub [3, 2, 1, 0] rfl ?_
  exact l_X7_nameOf_7 C C2 FU p1 0 y1 0 h hf
/-! WallHouse$Tokens.takeWord([BII)I -/
def f_X7_takeWord_61 (z : ZX) (r0 : Nat) (i4 : Int32) (j5 : Int64) (si0 : Int32) (si1 : Int32) (sr2 : Nat) (h : AH) : Option (Int32 × AH) :=
  (sI 0 h sr2 si1 si0).bind fun h1 =>
  (gA 7 h1 r0 2).bind fun a2 =>
  (gI 7 h1 r0 3).bind fun x3 =>
  (sL h1 a2 x3 j5).bind fun h4 =>
  (gA 7 h4 r0 7).bind fun a5 =>
  (gI 7 h4 r0 3).bind fun x6 =>
  b2 (f_X7_nameOf z j5 h4) fun x7 h8 =>
  (sI 1 h8 a5 x6 x7.toInt8.toInt32).bind fun h9 =>
  some (i4, h9)
set_option maxRecDepth 100000 in
set_option maxHeartbeats 4000000 in
theorem l_X7_takeWord_61 {X : MX} {l : Launch} {G : GX} {h0 : AH} {rr : Int32} {hr : AH} (C : Cx X G RX7 cX7_takeWord 7 (some .int) 5 110 h0) (C2 : Cy X l "takeWord" []) (r0 : Nat) (i4 : Int32) (j5 : Int64) (si0 : Int32) (si1 : Int32) (sr2 : Nat) (h : AH) (hf : f_X7_takeWord_61 G.2.2 r0 i4 j5 si0 si1 sr2 h = some (rr, hr)) : V X G h0 (QI rr hr) 61 [(0, .ref r0), (4, .int i4), (5, .long j5)] [.int si0, .int si1, .ref sr2] h := by
  unfold f_X7_takeWord_61 at hf
  obtain ⟨h1, gh1, hf⟩ := Option.bind_eq_some_iff.mp hf
  refine C.ast gh1 (by decide +kernel) rfl ?_
  refine C.seg (pe := 63) (lv' := [(0, .ref r0), (4, .int i4), (5, .long j5)]) (st' := [.ref r0]) [(.aload_n 0, 1, 0)] (by decide +kernel) rfl ?_
  obtain ⟨a2, ga2, hf⟩ := Option.bind_eq_some_iff.mp hf
  refine C.rdA fr_376 ga2 (by decide +kernel) rfl ?_
  refine C.seg (pe := 67) (lv' := [(0, .ref r0), (4, .int i4), (5, .long j5)]) (st' := [.ref r0, .ref a2]) [(.aload_n 0, 1, 0)] (by decide +kernel) rfl ?_
  obtain ⟨x3, gx3, hf⟩ := Option.bind_eq_some_iff.mp hf
  refine C.rdI fr_377 gx3 (by decide +kernel) rfl ?_
  refine C.seg (pe := 72) (lv' := [(0, .ref r0), (4, .int i4), (5, .long j5)]) (st' := [.long j5, .int x3, .ref a2]) [(.lload 5, 2, 0)] (by decide +kernel) rfl ?_
  obtain ⟨h4, gh4, hf⟩ := Option.bind_eq_some_iff.mp hf
  refine C.last gh4 (by decide +kernel) rfl ?_
  refine C.seg (pe := 74) (lv' := [(0, .ref r0), (4, .int i4), (5, .long j5)]) (st' := [.ref r0]) [(.aload_n 0, 1, 0)] (by decide +kernel) rfl ?_
  obtain ⟨a5, ga5, hf⟩ := Option.bind_eq_some_iff.mp hf
  refine C.rdA fr_374 ga5 (by decide +kernel) rfl ?_
  refine C.seg (pe := 78) (lv' := [(0, .ref r0), (4, .int i4), (5, .long j5)]) (st' := [.ref r0, .ref a5]) [(.aload_n 0, 1, 0)] (by decide +kernel) rfl ?_
  obtain ⟨x6, gx6, hf⟩ := Option.bind_eq_some_iff.mp hf
  refine C.rdI fr_377 gx6 (by decide +kernel) rfl ?_
  refine C.seg (pe := 83) (lv' := [(0, .ref r0), (4, .int i4), (5, .long j5)]) (st' := [.long j5, .int x6, .ref a5]) [(.lload 5, 2, 0)] (by decide +kernel) rfl ?_
  obtain ⟨x7, h8, gx7, hf⟩ := b2_some hf
  refine C.callSr C2 [.long j5] [.int x6, .ref a5] ms_835 rfl (w_X7_nameOf gx7) (by omega) (by omega) (Nat.le_of_ble_eq_true rfl) (by decide +kernel) rfl ?_
  refine C.seg (pe := 87) (lv' := [(0, .ref r0), (4, .int i4), (5, .long j5)]) (st' := [.int x7.toInt8.toInt32, .int x6, .ref a5]) [(.i2b, 1, 0)] (by decide +kernel) rfl ?_
  obtain ⟨h9, gh9, hf⟩ := Option.bind_eq_some_iff.mp hf
  refine C.bast gh9 (by decide +kernel) rfl ?_
  refine C.seg (pe := 90) (lv' := [(0, .ref r0), (4, .int i4), (5, .long j5)]) (st' := [.int i4]) [(.iload 4, 2, 0)] (by decide +kernel) rfl ?_
  cases hf
  exact C.retI rfl (by decide +kernel) ⟨rfl, rfl⟩
def f_X7_takeWord_39 (z : ZX) (r0 : Nat) (i2 : Int32) (i4 : Int32) (j5 : Int64) (h : AH) : Option (Int32 × AH) :=
  (gA 7 h r0 0).bind fun a1 =>
  (gI 7 h r0 3).bind fun x2 =>
  if 8 < i4 - i2 then
    f_X7_takeWord_61 z r0 i4 j5 1 x2 a1 h
  else
    f_X7_takeWord_61 z r0 i4 j5 2 x2 a1 h
set_option maxRecDepth 100000 in
set_option maxHeartbeats 4000000 in
theorem l_X7_takeWord_39 {X : MX} {l : Launch} {G : GX} {h0 : AH} {rr : Int32} {hr : AH} (C : Cx X G RX7 cX7_takeWord 7 (some .int) 5 110 h0) (C2 : Cy X l "takeWord" []) (r0 : Nat) (i2 : Int32) (i4 : Int32) (j5 : Int64) (h : AH) (hf : f_X7_takeWord_39 G.2.2 r0 i2 i4 j5 h = some (rr, hr)) : V X G h0 (QI rr hr) 39 [(0, .ref r0), (2, .int i2), (4, .int i4), (5, .long j5)] [] h := by
  unfold f_X7_takeWord_39 at hf
  refine C.seg (pe := 40) (lv' := [(0, .ref r0), (2, .int i2), (4, .int i4), (5, .long j5)]) (st' := [.ref r0]) [(.aload_n 0, 1, 0)] (by decide +kernel) rfl ?_
  obtain ⟨a1, ga1, hf⟩ := Option.bind_eq_some_iff.mp hf
  refine C.rdA fr_373 ga1 (by decide +kernel) rfl ?_
  refine C.seg (pe := 44) (lv' := [(0, .ref r0), (2, .int i2), (4, .int i4), (5, .long j5)]) (st' := [.ref r0, .ref a1]) [(.aload_n 0, 1, 0)] (by decide +kernel) rfl ?_
  obtain ⟨x2, gx2, hf⟩ := Option.bind_eq_some_iff.mp hf
  refine C.rdI fr_377 gx2 (by decide +kernel) rfl ?_
  refine C.seg (pe := 53) (lv' := [(0, .ref r0), (2, .int i2), (4, .int i4), (5, .long j5)]) (st' := [.int 8, .int (i4 - i2), .int x2, .ref a1]) [(.iload 4, 2, 0), (.iload_n 2, 1, 0), (.isub, 1, 0), (.bipush 8, 2, 8)] (by decide +kernel) rfl ?_
  refine C.icmp_gt (off := 7) (tgt := 60) (pf := 56) (by decide +kernel) (by decide) rfl (fun c3 => ?_) (fun c3 => ?_)
  · replace hf := ifp c3 hf
    refine C.seg (pe := 61) (lv' := [(0, .ref r0), (2, .int i2), (4, .int i4), (5, .long j5)]) (st' := [.int 1, .int x2, .ref a1]) [(.iconst 1, 1, 1)] (by decide +kernel) rfl ?_
    refine Vsub [0, 2, 3] rfl ?_
    exact l_X7_takeWord_61 C C2 r0 i4 j5 1 x2 a1 h hf
  · replace hf := ifn c3 hf
    refine C.seg (pe := 57) (lv' := [(0, .ref r0), (2, .int i2), (4, .int i4), (5, .long j5)]) (st' := [.int 2, .int x2, .ref a1]) [(.iconst 2, 1, 2)] (by decide +kernel) rfl ?_
    refine C.goto (off := 4) (tgt := 61) (by decide +kernel) (by decide) ?_
    refine Vsub [0, 2, 3] rfl ?_
    exact l_X7_takeWord_61 C C2 r0 i4 j5 2 x2 a1 h hf
def f_X7_takeWord_6 (z : ZX) : Nat → Nat → Nat → Int32 → Int32 → Int32 → Int64 → AH → Option (Int32 × AH)
  | 0, _, _, _, _, _, _, _ => none
  | n + 1, r0, r1, i2, i3, i4, j5, h =>
    if i3 ≤ i4 then
      f_X7_takeWord_39 z r0 i2 i4 j5 h
    else
      (aI 1 h r1 i4).bind fun x1 =>
      b2 (f_X7_isLetter x1 h) fun x2 h3 =>
      if x2 = 0 then
        f_X7_takeWord_39 z r0 i2 i4 j5 h3
      else
        (aI 1 h3 r1 i4).bind fun x4 =>
        b2 (f_X7_withLetter j5 x4 h3) fun y5 h6 =>
        (f_X7_takeWord_6 z n) r0 r1 i2 i3 (i4 + 1) y5 h6
set_option maxRecDepth 100000 in
set_option maxHeartbeats 4000000 in
theorem l_X7_takeWord_6 {X : MX} {l : Launch} {G : GX} {h0 : AH} {rr : Int32} {hr : AH} (C : Cx X G RX7 cX7_takeWord 7 (some .int) 5 110 h0) (C2 : Cy X l "takeWord" []) : ∀ (n : Nat) (r0 : Nat) (r1 : Nat) (i2 : Int32) (i3 : Int32) (i4 : Int32) (j5 : Int64) (h : AH), f_X7_takeWord_6 G.2.2 n r0 r1 i2 i3 i4 j5 h = some (rr, hr) → V X G h0 (QI rr hr) 6 [(0, .ref r0), (1, .ref r1), (2, .int i2), (3, .int i3), (4, .int i4), (5, .long j5)] [] h := by
  intro n
  induction n with
  | zero => intro r0 r1 i2 i3 i4 j5 h hf; rw [f_X7_takeWord_6] at hf; cases hf
  | succ n ih =>
    intro r0 r1 i2 i3 i4 j5 h hf
    rw [f_X7_takeWord_6] at hf
    refine C.seg (pe := 9) (lv' := [(0, .ref r0), (1, .ref r1), (2, .int i2), (3, .int i3), (4, .int i4), (5, .long j5)]) (st' := [.int i3, .int i4]) [(.iload 4, 2, 0), (.iload_n 3, 1, 0)] (by decide +kernel) rfl ?_
    refine C.icmp_ge (off := 30) (tgt := 39) (pf := 12) (by decide +kernel) (by decide) rfl (fun c8 => ?_) (fun c8 => ?_)
    · replace hf := ifp c8 hf
      refine Vsub [0, 2, 4, 5] rfl ?_
      exact l_X7_takeWord_39 C C2 r0 i2 i4 j5 h hf
    · replace hf := ifn c8 hf
      refine C.seg (pe := 15) (lv' := [(0, .ref r0), (1, .ref r1), (2, .int i2), (3, .int i3), (4, .int i4), (5, .long j5)]) (st' := [.int i4, .ref r1]) [(.aload_n 1, 1, 0), (.iload 4, 2, 0)] (by decide +kernel) rfl ?_
      obtain ⟨x1, gx1, hf⟩ := Option.bind_eq_some_iff.mp hf
      refine C.bald 1 rfl gx1 (by decide +kernel) rfl ?_
      obtain ⟨x2, h3, gx2, hf⟩ := b2_some hf
      refine C.callSr C2 [.int x1] [] ms_824 rfl (w_X7_isLetter gx2) (by omega) (by omega) (Nat.le_of_ble_eq_true rfl) (by decide +kernel) rfl ?_
      refine C.if_eq (off := 20) (tgt := 39) (pf := 22) (by decide +kernel) (by decide) rfl (fun c7 => ?_) (fun c7 => ?_)
      · replace hf := ifp c7 hf
        refine Vsub [0, 2, 4, 5] rfl ?_
        exact l_X7_takeWord_39 C C2 r0 i2 i4 j5 h3 hf
      · replace hf := ifn c7 hf
        refine C.seg (pe := 27) (lv' := [(0, .ref r0), (1, .ref r1), (2, .int i2), (3, .int i3), (4, .int i4), (5, .long j5)]) (st' := [.int i4, .ref r1, .long j5]) [(.lload 5, 2, 0), (.aload_n 1, 1, 0), (.iload 4, 2, 0)] (by decide +kernel) rfl ?_
        obtain ⟨x4, gx4, hf⟩ := Option.bind_eq_some_iff.mp hf
        refine C.bald 1 rfl gx4 (by decide +kernel) rfl ?_
        obtain ⟨y5, h6, gy5, hf⟩ := b2_some hf
        refine C.callSr C2 [.long j5, .int x4] [] ms_831 rfl (w_X7_withLetter gy5) (by omega) (by omega) (Nat.le_of_ble_eq_true rfl) (by decide +kernel) rfl ?_
        refine C.seg (pe := 36) (lv' := [(4, .int (i4 + 1)), (5, .long y5), (0, .ref r0), (1, .ref r1), (2, .int i2), (3, .int i3)]) (st' := []) [(.lstore 5, 2, 0), (.iinc 4 1, 3, 1)] (by decide +kernel) rfl ?_
        refine C.goto (off := (-30)) (tgt := 6) (by decide +kernel) (by decide) ?_
        refine Vsub [2, 3, 4, 5, 0, 1] rfl ?_
        exact ih r0 r1 i2 i3 (i4 + 1) y5 h6 hf
def f_X7_takeWord (z : ZX) (a0 : Nat) (p1 : Nat) (p2 : Int32) (p3 : Int32) (h : AH) : Option (Int32 × AH) :=
  if isO 7 h a0 = true then
    lt ((Int64.ofNat 0) : Int64) fun y1 =>
    f_X7_takeWord_6 z FU a0 p1 p2 p3 p2 y1 h
  else none
set_option maxRecDepth 100000 in
set_option maxHeartbeats 4000000 in
theorem w_X7_takeWord {l : Launch} {G : GX} {a0 : Nat} {p1 : Nat} {p2 : Int32} {p3 : Int32} {h : AH} {rr : Int32} {hr : AH} (hf : f_X7_takeWord G.2.2 a0 p1 p2 p3 h = some (rr, hr)) : Ct l G yX7_takeWord 5 110 [.ref a0, .ref p1, .int p2, .int p3] h (QI rr hr) := by
  unfold f_X7_takeWord at hf
  obtain ⟨ho, hf⟩ := ifO hf
  refine Ct_of (own := RX7) (cc := cX7_takeWord) (nL := 7) (ret := (some .int)) rfl rfl k_830 (Nat.le_of_ble_eq_true rfl) (fun X C2 C => ?_)
  show V X G h (QI rr hr) 0 [(0, .ref a0), (1, .ref p1), (2, .int p2), (3, .int p3)] [] h
  refine C.seg (pe := 4) (lv' := [(4, .int p2), (0, .ref a0), (1, .ref p1), (2, .int p2), (3, .int p3)]) (st' := [.long ((Int64.ofNat 0))]) [(.iload_n 2, 1, 0), (.istore 4, 2, 0), (.lconst 0, 1, 0)] (by decide +kernel) rfl ?_
  refine Vtopl (fun y1 ey1 => ?_)
  replace hf := lt_ap ey1 hf
  clear ey1
  refine C.seg (pe := 6) (lv' := [(5, .long y1), (4, .int p2), (0, .ref a0), (1, .ref p1), (2, .int p2), (3, .int p3)]) (st' := []) [(.lstore 5, 2, 0)] (by decide +kernel) rfl ?_
  refine Vsub [2, 3, 4, 5, 1, 0] rfl ?_
  exact l_X7_takeWord_6 C C2 FU a0 p1 p2 p3 p2 y1 h hf
theorem o_X7_takeWord {z : ZX} {a0 : Nat} {p1 : Nat} {p2 : Int32} {p3 : Int32} {h : AH} {rr : Int32} {hr : AH} (hf : f_X7_takeWord z a0 p1 p2 p3 h = some (rr, hr)) : isO 7 h a0 = true := by
  unfold f_X7_takeWord at hf
  exact (ifO hf).1
/-! WallHouse$Tokens.isDigit(I)Z -/
def f_X7_isDigit_17 (si0 : Int32) (h : AH) : Option (Int32 × AH) :=
  (ckZ si0).bind fun x1 =>
  some (x1, h)
set_option maxRecDepth 100000 in
set_option maxHeartbeats 4000000 in
theorem l_X7_isDigit_17 {X : MX} {l : Launch} {G : GX} {h0 : AH} {rr : Int32} {hr : AH} (C : Cx X G RX7 cX7_isDigit 1 (some .boolean) 0 0 h0) (C2 : Cy X l "isDigit" []) (si0 : Int32) (h : AH) (hf : f_X7_isDigit_17 si0 h = some (rr, hr)) : V X G h0 (QI rr hr) 17 [] [.int si0] h := by
  unfold f_X7_isDigit_17 at hf
  obtain ⟨x1, gx1, hf⟩ := Option.bind_eq_some_iff.mp hf
  have ex1 := ckZ_eq gx1
  subst ex1
  cases hf
  exact C.retZ rfl gx1 (by decide +kernel) ⟨rfl, rfl⟩
def f_X7_isDigit_16 (h : AH) : Option (Int32 × AH) :=
  f_X7_isDigit_17 0 h
set_option maxRecDepth 100000 in
set_option maxHeartbeats 4000000 in
theorem l_X7_isDigit_16 {X : MX} {l : Launch} {G : GX} {h0 : AH} {rr : Int32} {hr : AH} (C : Cx X G RX7 cX7_isDigit 1 (some .boolean) 0 0 h0) (C2 : Cy X l "isDigit" []) (h : AH) (hf : f_X7_isDigit_16 h = some (rr, hr)) : V X G h0 (QI rr hr) 16 [] [] h := by
  unfold f_X7_isDigit_16 at hf
  refine C.seg (pe := 17) (lv' := []) (st' := [.int 0]) [(.iconst 0, 1, 0)] (by decide +kernel) rfl ?_
  exact l_X7_isDigit_17 C C2 0 h hf
def f_X7_isDigit (p1 : Int32) (h : AH) : Option (Int32 × AH) :=
  if p1 < 48 then
    f_X7_isDigit_16 h
  else
    if 57 < p1 then
      f_X7_isDigit_16 h
    else
      f_X7_isDigit_17 1 h
set_option maxRecDepth 100000 in
set_option maxHeartbeats 4000000 in
theorem w_X7_isDigit {l : Launch} {G : GX} {p1 : Int32} {h : AH} {rr : Int32} {hr : AH} (hf : f_X7_isDigit p1 h = some (rr, hr)) : Ct l G yX7_isDigit 0 0 [.int p1] h (QI rr hr) := by
  unfold f_X7_isDigit at hf
  refine Ct_of (own := RX7) (cc := cX7_isDigit) (nL := 1) (ret := (some .boolean)) rfl rfl k_889 (Nat.le_of_ble_eq_true rfl) (fun X C2 C => ?_)
  show V X G h (QI rr hr) 0 [(0, .int p1)] [] h
  refine C.seg (pe := 3) (lv' := [(0, .int p1)]) (st' := [.int 48, .int p1]) [(.iload_n 0, 1, 0), (.bipush 48, 2, 48)] (by decide +kernel) rfl ?_
  refine C.icmp_lt (off := 13) (tgt := 16) (pf := 6) (by decide +kernel) (by decide) rfl (fun c2 => ?_) (fun c2 => ?_)
  · replace hf := ifp c2 hf
    refine Vsub [] rfl ?_
    exact l_X7_isDigit_16 C C2 h hf
  · replace hf := ifn c2 hf
    refine C.seg (pe := 9) (lv' := [(0, .int p1)]) (st' := [.int 57, .int p1]) [(.iload_n 0, 1, 0), (.bipush 57, 2, 57)] (by decide +kernel) rfl ?_
    refine C.icmp_gt (off := 7) (tgt := 16) (pf := 12) (by decide +kernel) (by decide) rfl (fun c1 => ?_) (fun c1 => ?_)
    · replace hf := ifp c1 hf
      refine Vsub [] rfl ?_
      exact l_X7_isDigit_16 C C2 h hf
    · replace hf := ifn c1 hf
      refine C.seg (pe := 13) (lv' := [(0, .int p1)]) (st' := [.int 1]) [(.iconst 1, 1, 1)] (by decide +kernel) rfl ?_
      refine C.goto (off := 4) (tgt := 17) (by decide +kernel) (by decide) ?_
      refine Vsub [] rfl ?_
      exact l_X7_isDigit_17 C C2 1 h hf
/-! WallHouse$Tokens.takeWhole([BII)I -/
def f_X7_takeWhole_64 (r0 : Nat) (i4 : Int32) (i5 : Int32) (si0 : Int32) (si1 : Int32) (sr2 : Nat) (h : AH) : Option (Int32 × AH) :=
  (sI 0 h sr2 si1 si0).bind fun h1 =>
  (gA 7 h1 r0 2).bind fun a2 =>
  (gI 7 h1 r0 3).bind fun x3 =>
  (sL h1 a2 x3 i5.toInt64).bind fun h4 =>
  some (i4, h4)
set_option maxRecDepth 100000 in
set_option maxHeartbeats 4000000 in
theorem l_X7_takeWhole_64 {X : MX} {l : Launch} {G : GX} {h0 : AH} {rr : Int32} {hr : AH} (C : Cx X G RX7 cX7_takeWhole 6 (some .int) 1 20 h0) (C2 : Cy X l "takeWhole" []) (r0 : Nat) (i4 : Int32) (i5 : Int32) (si0 : Int32) (si1 : Int32) (sr2 : Nat) (h : AH) (hf : f_X7_takeWhole_64 r0 i4 i5 si0 si1 sr2 h = some (rr, hr)) : V X G h0 (QI rr hr) 64 [(0, .ref r0), (4, .int i4), (5, .int i5)] [.int si0, .int si1, .ref sr2] h := by
  unfold f_X7_takeWhole_64 at hf
  obtain ⟨h1, gh1, hf⟩ := Option.bind_eq_some_iff.mp hf
  refine C.ast gh1 (by decide +kernel) rfl ?_
  refine C.seg (pe := 66) (lv' := [(0, .ref r0), (4, .int i4), (5, .int i5)]) (st' := [.ref r0]) [(.aload_n 0, 1, 0)] (by decide +kernel) rfl ?_
  obtain ⟨a2, ga2, hf⟩ := Option.bind_eq_some_iff.mp hf
  refine C.rdA fr_376 ga2 (by decide +kernel) rfl ?_
  refine C.seg (pe := 70) (lv' := [(0, .ref r0), (4, .int i4), (5, .int i5)]) (st' := [.ref r0, .ref a2]) [(.aload_n 0, 1, 0)] (by decide +kernel) rfl ?_
  obtain ⟨x3, gx3, hf⟩ := Option.bind_eq_some_iff.mp hf
  refine C.rdI fr_377 gx3 (by decide +kernel) rfl ?_
  refine C.seg (pe := 76) (lv' := [(0, .ref r0), (4, .int i4), (5, .int i5)]) (st' := [.long i5.toInt64, .int x3, .ref a2]) [(.iload 5, 2, 0), (.i2l, 1, 0)] (by decide +kernel) rfl ?_
  obtain ⟨h4, gh4, hf⟩ := Option.bind_eq_some_iff.mp hf
  refine C.last gh4 (by decide +kernel) rfl ?_
  refine C.seg (pe := 79) (lv' := [(0, .ref r0), (4, .int i4), (5, .int i5)]) (st' := [.int i4]) [(.iload 4, 2, 0)] (by decide +kernel) rfl ?_
  cases hf
  exact C.retI rfl (by decide +kernel) ⟨rfl, rfl⟩
def f_X7_takeWhole_43 (r0 : Nat) (i2 : Int32) (i4 : Int32) (i5 : Int32) (h : AH) : Option (Int32 × AH) :=
  (gA 7 h r0 0).bind fun a1 =>
  (gI 7 h r0 3).bind fun x2 =>
  if 3 < i4 - i2 then
    f_X7_takeWhole_64 r0 i4 i5 1 x2 a1 h
  else
    f_X7_takeWhole_64 r0 i4 i5 3 x2 a1 h
set_option maxRecDepth 100000 in
set_option maxHeartbeats 4000000 in
theorem l_X7_takeWhole_43 {X : MX} {l : Launch} {G : GX} {h0 : AH} {rr : Int32} {hr : AH} (C : Cx X G RX7 cX7_takeWhole 6 (some .int) 1 20 h0) (C2 : Cy X l "takeWhole" []) (r0 : Nat) (i2 : Int32) (i4 : Int32) (i5 : Int32) (h : AH) (hf : f_X7_takeWhole_43 r0 i2 i4 i5 h = some (rr, hr)) : V X G h0 (QI rr hr) 43 [(0, .ref r0), (2, .int i2), (4, .int i4), (5, .int i5)] [] h := by
  unfold f_X7_takeWhole_43 at hf
  refine C.seg (pe := 44) (lv' := [(0, .ref r0), (2, .int i2), (4, .int i4), (5, .int i5)]) (st' := [.ref r0]) [(.aload_n 0, 1, 0)] (by decide +kernel) rfl ?_
  obtain ⟨a1, ga1, hf⟩ := Option.bind_eq_some_iff.mp hf
  refine C.rdA fr_373 ga1 (by decide +kernel) rfl ?_
  refine C.seg (pe := 48) (lv' := [(0, .ref r0), (2, .int i2), (4, .int i4), (5, .int i5)]) (st' := [.ref r0, .ref a1]) [(.aload_n 0, 1, 0)] (by decide +kernel) rfl ?_
  obtain ⟨x2, gx2, hf⟩ := Option.bind_eq_some_iff.mp hf
  refine C.rdI fr_377 gx2 (by decide +kernel) rfl ?_
  refine C.seg (pe := 56) (lv' := [(0, .ref r0), (2, .int i2), (4, .int i4), (5, .int i5)]) (st' := [.int 3, .int (i4 - i2), .int x2, .ref a1]) [(.iload 4, 2, 0), (.iload_n 2, 1, 0), (.isub, 1, 0), (.iconst 3, 1, 3)] (by decide +kernel) rfl ?_
  refine C.icmp_gt (off := 7) (tgt := 63) (pf := 59) (by decide +kernel) (by decide) rfl (fun c3 => ?_) (fun c3 => ?_)
  · replace hf := ifp c3 hf
    refine C.seg (pe := 64) (lv' := [(0, .ref r0), (2, .int i2), (4, .int i4), (5, .int i5)]) (st' := [.int 1, .int x2, .ref a1]) [(.iconst 1, 1, 1)] (by decide +kernel) rfl ?_
    refine Vsub [0, 2, 3] rfl ?_
    exact l_X7_takeWhole_64 C C2 r0 i4 i5 1 x2 a1 h hf
  · replace hf := ifn c3 hf
    refine C.seg (pe := 60) (lv' := [(0, .ref r0), (2, .int i2), (4, .int i4), (5, .int i5)]) (st' := [.int 3, .int x2, .ref a1]) [(.iconst 3, 1, 3)] (by decide +kernel) rfl ?_
    refine C.goto (off := 4) (tgt := 64) (by decide +kernel) (by decide) ?_
    refine Vsub [0, 2, 3] rfl ?_
    exact l_X7_takeWhole_64 C C2 r0 i4 i5 3 x2 a1 h hf
def f_X7_takeWhole_6 : Nat → Nat → Nat → Int32 → Int32 → Int32 → Int32 → AH → Option (Int32 × AH)
  | 0, _, _, _, _, _, _, _ => none
  | n + 1, r0, r1, i2, i3, i4, i5, h =>
    if i3 ≤ i4 then
      f_X7_takeWhole_43 r0 i2 i4 i5 h
    else
      (aI 1 h r1 i4).bind fun x1 =>
      b2 (f_X7_isDigit x1 h) fun x2 h3 =>
      if x2 = 0 then
        f_X7_takeWhole_43 r0 i2 i4 i5 h3
      else
        (aI 1 h3 r1 i4).bind fun x4 =>
        lt ((i5 * 10) + (x4 - 48) : Int32) fun x5 =>
        (f_X7_takeWhole_6 n) r0 r1 i2 i3 (i4 + 1) x5 h3
set_option maxRecDepth 100000 in
set_option maxHeartbeats 4000000 in
theorem l_X7_takeWhole_6 {X : MX} {l : Launch} {G : GX} {h0 : AH} {rr : Int32} {hr : AH} (C : Cx X G RX7 cX7_takeWhole 6 (some .int) 1 20 h0) (C2 : Cy X l "takeWhole" []) : ∀ (n : Nat) (r0 : Nat) (r1 : Nat) (i2 : Int32) (i3 : Int32) (i4 : Int32) (i5 : Int32) (h : AH), f_X7_takeWhole_6 n r0 r1 i2 i3 i4 i5 h = some (rr, hr) → V X G h0 (QI rr hr) 6 [(0, .ref r0), (1, .ref r1), (2, .int i2), (3, .int i3), (4, .int i4), (5, .int i5)] [] h := by
  intro n
  induction n with
  | zero => intro r0 r1 i2 i3 i4 i5 h hf; rw [f_X7_takeWhole_6] at hf; cases hf
  | succ n ih =>
    intro r0 r1 i2 i3 i4 i5 h hf
    rw [f_X7_takeWhole_6] at hf
    refine C.seg (pe := 9) (lv' := [(0, .ref r0), (1, .ref r1), (2, .int i2), (3, .int i3), (4, .int i4), (5, .int i5)]) (st' := [.int i3, .int i4]) [(.iload 4, 2, 0), (.iload_n 3, 1, 0)] (by decide +kernel) rfl ?_
    refine C.icmp_ge (off := 34) (tgt := 43) (pf := 12) (by decide +kernel) (by decide) rfl (fun c7 => ?_) (fun c7 => ?_)
    · replace hf := ifp c7 hf
      refine Vsub [0, 2, 4, 5] rfl ?_
      exact l_X7_takeWhole_43 C C2 r0 i2 i4 i5 h hf
    · replace hf := ifn c7 hf
      refine C.seg (pe := 15) (lv' := [(0, .ref r0), (1, .ref r1), (2, .int i2), (3, .int i3), (4, .int i4), (5, .int i5)]) (st' := [.int i4, .ref r1]) [(.aload_n 1, 1, 0), (.iload 4, 2, 0)] (by decide +kernel) rfl ?_
      obtain ⟨x1, gx1, hf⟩ := Option.bind_eq_some_iff.mp hf
      refine C.bald 1 rfl gx1 (by decide +kernel) rfl ?_
      obtain ⟨x2, h3, gx2, hf⟩ := b2_some hf
      refine C.callSr C2 [.int x1] [] ms_887 rfl (w_X7_isDigit gx2) (by omega) (by omega) (Nat.le_of_ble_eq_true rfl) (by decide +kernel) rfl ?_
      refine C.if_eq (off := 24) (tgt := 43) (pf := 22) (by decide +kernel) (by decide) rfl (fun c6 => ?_) (fun c6 => ?_)
      · replace hf := ifp c6 hf
        refine Vsub [0, 2, 4, 5] rfl ?_
        exact l_X7_takeWhole_43 C C2 r0 i2 i4 i5 h3 hf
      · replace hf := ifn c6 hf
        refine C.seg (pe := 30) (lv' := [(0, .ref r0), (1, .ref r1), (2, .int i2), (3, .int i3), (4, .int i4), (5, .int i5)]) (st' := [.int i4, .ref r1, .int (i5 * 10)]) [(.iload 5, 2, 0), (.bipush 10, 2, 10), (.imul, 1, 0), (.aload_n 1, 1, 0), (.iload 4, 2, 0)] (by decide +kernel) rfl ?_
        obtain ⟨x4, gx4, hf⟩ := Option.bind_eq_some_iff.mp hf
        refine C.bald 1 rfl gx4 (by decide +kernel) rfl ?_
        refine C.seg (pe := 35) (lv' := [(0, .ref r0), (1, .ref r1), (2, .int i2), (3, .int i3), (4, .int i4), (5, .int i5)]) (st' := [.int ((i5 * 10) + (x4 - 48))]) [(.bipush 48, 2, 48), (.isub, 1, 0), (.iadd, 1, 0)] (by decide +kernel) rfl ?_
        refine Vtopi (fun x5 ex5 => ?_)
        replace hf := lt_ap ex5 hf
        clear ex5
        refine C.seg (pe := 40) (lv' := [(4, .int (i4 + 1)), (5, .int x5), (0, .ref r0), (1, .ref r1), (2, .int i2), (3, .int i3)]) (st' := []) [(.istore 5, 2, 0), (.iinc 4 1, 3, 1)] (by decide +kernel) rfl ?_
        refine C.goto (off := (-34)) (tgt := 6) (by decide +kernel) (by decide) ?_
        refine Vsub [2, 3, 4, 5, 0, 1] rfl ?_
        exact ih r0 r1 i2 i3 (i4 + 1) x5 h3 hf
def f_X7_takeWhole (a0 : Nat) (p1 : Nat) (p2 : Int32) (p3 : Int32) (h : AH) : Option (Int32 × AH) :=
  if isO 7 h a0 = true then
    f_X7_takeWhole_6 FU a0 p1 p2 p3 p2 0 h
  else none
set_option maxRecDepth 100000 in
set_option maxHeartbeats 4000000 in
theorem w_X7_takeWhole {l : Launch} {G : GX} {a0 : Nat} {p1 : Nat} {p2 : Int32} {p3 : Int32} {h : AH} {rr : Int32} {hr : AH} (hf : f_X7_takeWhole a0 p1 p2 p3 h = some (rr, hr)) : Ct l G yX7_takeWhole 1 20 [.ref a0, .ref p1, .int p2, .int p3] h (QI rr hr) := by
  unfold f_X7_takeWhole at hf
  obtain ⟨ho, hf⟩ := ifO hf
  refine Ct_of (own := RX7) (cc := cX7_takeWhole) (nL := 6) (ret := (some .int)) rfl rfl k_893 (Nat.le_of_ble_eq_true rfl) (fun X C2 C => ?_)
  show V X G h (QI rr hr) 0 [(0, .ref a0), (1, .ref p1), (2, .int p2), (3, .int p3)] [] h
  refine C.seg (pe := 6) (lv' := [(5, .int 0), (4, .int p2), (0, .ref a0), (1, .ref p1), (2, .int p2), (3, .int p3)]) (st' := []) [(.iload_n 2, 1, 0), (.istore 4, 2, 0), (.iconst 0, 1, 0), (.istore 5, 2, 0)] (by decide +kernel) rfl ?_
  refine Vsub [2, 3, 4, 5, 1, 0] rfl ?_
  exact l_X7_takeWhole_6 C C2 FU a0 p1 p2 p3 p2 0 h hf
theorem o_X7_takeWhole {a0 : Nat} {p1 : Nat} {p2 : Int32} {p3 : Int32} {h : AH} {rr : Int32} {hr : AH} (hf : f_X7_takeWhole a0 p1 p2 p3 h = some (rr, hr)) : isO 7 h a0 = true := by
  unfold f_X7_takeWhole at hf
  exact (ifO hf).1
/-! WallHouse$Tokens.take([BII)I -/
def f_X7_take_77 (z : ZX) (r0 : Nat) (r1 : Nat) (i2 : Int32) (si0 : Int32) (si1 : Int32) (sr2 : Nat) (h : AH) : Option (Int32 × AH) :=
  (sI 0 h sr2 si1 si0).bind fun h1 =>
  (gA 7 h1 r0 2).bind fun a2 =>
  (gI 7 h1 r0 3).bind fun x3 =>
  (aI 1 h1 r1 i2).bind fun x4 =>
  (sL h1 a2 x3 x4.toInt64).bind fun h5 =>
  some (i2 + 1, h5)
set_option maxRecDepth 100000 in
set_option maxHeartbeats 4000000 in
theorem l_X7_take_77 {X : MX} {l : Launch} {G : GX} {h0 : AH} {rr : Int32} {hr : AH} (C : Cx X G RX7 cX7_take 5 (some .int) 6 136 h0) (C2 : Cy X l "take" []) (r0 : Nat) (r1 : Nat) (i2 : Int32) (si0 : Int32) (si1 : Int32) (sr2 : Nat) (h : AH) (hf : f_X7_take_77 G.2.2 r0 r1 i2 si0 si1 sr2 h = some (rr, hr)) : V X G h0 (QI rr hr) 77 [(0, .ref r0), (1, .ref r1), (2, .int i2)] [.int si0, .int si1, .ref sr2] h := by
  unfold f_X7_take_77 at hf
  obtain ⟨h1, gh1, hf⟩ := Option.bind_eq_some_iff.mp hf
  refine C.ast gh1 (by decide +kernel) rfl ?_
  refine C.seg (pe := 79) (lv' := [(0, .ref r0), (1, .ref r1), (2, .int i2)]) (st' := [.ref r0]) [(.aload_n 0, 1, 0)] (by decide +kernel) rfl ?_
  obtain ⟨a2, ga2, hf⟩ := Option.bind_eq_some_iff.mp hf
  refine C.rdA fr_376 ga2 (by decide +kernel) rfl ?_
  refine C.seg (pe := 83) (lv' := [(0, .ref r0), (1, .ref r1), (2, .int i2)]) (st' := [.ref r0, .ref a2]) [(.aload_n 0, 1, 0)] (by decide +kernel) rfl ?_
  obtain ⟨x3, gx3, hf⟩ := Option.bind_eq_some_iff.mp hf
  refine C.rdI fr_377 gx3 (by decide +kernel) rfl ?_
  refine C.seg (pe := 88) (lv' := [(0, .ref r0), (1, .ref r1), (2, .int i2)]) (st' := [.int i2, .ref r1, .int x3, .ref a2]) [(.aload_n 1, 1, 0), (.iload_n 2, 1, 0)] (by decide +kernel) rfl ?_
  obtain ⟨x4, gx4, hf⟩ := Option.bind_eq_some_iff.mp hf
  refine C.bald 1 rfl gx4 (by decide +kernel) rfl ?_
  refine C.seg (pe := 90) (lv' := [(0, .ref r0), (1, .ref r1), (2, .int i2)]) (st' := [.long x4.toInt64, .int x3, .ref a2]) [(.i2l, 1, 0)] (by decide +kernel) rfl ?_
  obtain ⟨h5, gh5, hf⟩ := Option.bind_eq_some_iff.mp hf
  refine C.last gh5 (by decide +kernel) rfl ?_
  refine C.seg (pe := 94) (lv' := [(0, .ref r0), (1, .ref r1), (2, .int i2)]) (st' := [.int (i2 + 1)]) [(.iload_n 2, 1, 0), (.iconst 1, 1, 1), (.iadd, 1, 0)] (by decide +kernel) rfl ?_
  cases hf
  exact C.retI rfl (by decide +kernel) ⟨rfl, rfl⟩
def f_X7_take_57 (z : ZX) (r0 : Nat) (r1 : Nat) (i2 : Int32) (si0 : Int32) (h : AH) : Option (Int32 × AH) :=
  (gA 7 h r0 0).bind fun a1 =>
  (gI 7 h r0 3).bind fun x2 =>
  if si0 = 0 then
    f_X7_take_77 z r0 r1 i2 1 x2 a1 h
  else
    f_X7_take_77 z r0 r1 i2 4 x2 a1 h
set_option maxRecDepth 100000 in
set_option maxHeartbeats 4000000 in
theorem l_X7_take_57 {X : MX} {l : Launch} {G : GX} {h0 : AH} {rr : Int32} {hr : AH} (C : Cx X G RX7 cX7_take 5 (some .int) 6 136 h0) (C2 : Cy X l "take" []) (r0 : Nat) (r1 : Nat) (i2 : Int32) (si0 : Int32) (h : AH) (hf : f_X7_take_57 G.2.2 r0 r1 i2 si0 h = some (rr, hr)) : V X G h0 (QI rr hr) 57 [(0, .ref r0), (1, .ref r1), (2, .int i2)] [.int si0] h := by
  unfold f_X7_take_57 at hf
  refine C.seg (pe := 60) (lv' := [(4, .int si0), (0, .ref r0), (1, .ref r1), (2, .int i2)]) (st' := [.ref r0]) [(.istore 4, 2, 0), (.aload_n 0, 1, 0)] (by decide +kernel) rfl ?_
  obtain ⟨a1, ga1, hf⟩ := Option.bind_eq_some_iff.mp hf
  refine C.rdA fr_373 ga1 (by decide +kernel) rfl ?_
  refine C.seg (pe := 64) (lv' := [(4, .int si0), (0, .ref r0), (1, .ref r1), (2, .int i2)]) (st' := [.ref r0, .ref a1]) [(.aload_n 0, 1, 0)] (by decide +kernel) rfl ?_
  obtain ⟨x2, gx2, hf⟩ := Option.bind_eq_some_iff.mp hf
  refine C.rdI fr_377 gx2 (by decide +kernel) rfl ?_
  refine C.seg (pe := 69) (lv' := [(4, .int si0), (0, .ref r0), (1, .ref r1), (2, .int i2)]) (st' := [.int si0, .int x2, .ref a1]) [(.iload 4, 2, 0)] (by decide +kernel) rfl ?_
  refine C.if_eq (off := 7) (tgt := 76) (pf := 72) (by decide +kernel) (by decide) rfl (fun c3 => ?_) (fun c3 => ?_)
  · replace hf := ifp c3 hf
    refine C.seg (pe := 77) (lv' := [(4, .int si0), (0, .ref r0), (1, .ref r1), (2, .int i2)]) (st' := [.int 1, .int x2, .ref a1]) [(.iconst 1, 1, 1)] (by decide +kernel) rfl ?_
    refine Vsub [1, 2, 3] rfl ?_
    exact l_X7_take_77 C C2 r0 r1 i2 1 x2 a1 h hf
  · replace hf := ifn c3 hf
    refine C.seg (pe := 73) (lv' := [(4, .int si0), (0, .ref r0), (1, .ref r1), (2, .int i2)]) (st' := [.int 4, .int x2, .ref a1]) [(.iconst 4, 1, 4)] (by decide +kernel) rfl ?_
    refine C.goto (off := 4) (tgt := 77) (by decide +kernel) (by decide) ?_
    refine Vsub [1, 2, 3] rfl ?_
    exact l_X7_take_77 C C2 r0 r1 i2 4 x2 a1 h hf
def f_X7_take_56 (z : ZX) (r0 : Nat) (r1 : Nat) (i2 : Int32) (h : AH) : Option (Int32 × AH) :=
  f_X7_take_57 z r0 r1 i2 0 h
set_option maxRecDepth 100000 in
set_option maxHeartbeats 4000000 in
theorem l_X7_take_56 {X : MX} {l : Launch} {G : GX} {h0 : AH} {rr : Int32} {hr : AH} (C : Cx X G RX7 cX7_take 5 (some .int) 6 136 h0) (C2 : Cy X l "take" []) (r0 : Nat) (r1 : Nat) (i2 : Int32) (h : AH) (hf : f_X7_take_56 G.2.2 r0 r1 i2 h = some (rr, hr)) : V X G h0 (QI rr hr) 56 [(0, .ref r0), (1, .ref r1), (2, .int i2)] [] h := by
  unfold f_X7_take_56 at hf
  refine C.seg (pe := 57) (lv' := [(0, .ref r0), (1, .ref r1), (2, .int i2)]) (st' := [.int 0]) [(.iconst 0, 1, 0)] (by decide +kernel) rfl ?_
  exact l_X7_take_57 C C2 r0 r1 i2 0 h hf
def f_X7_take (z : ZX) (a0 : Nat) (p1 : Nat) (p2 : Int32) (p3 : Int32) (h : AH) : Option (Int32 × AH) :=
  if isO 7 h a0 = true then
    (aI 1 h p1 p2).bind fun x1 =>
    b2 (f_X7_isLetter x1 h) fun x2 h3 =>
    if x2 = 0 then
      (aI 1 h3 p1 p2).bind fun x4 =>
      b2 (f_X7_isDigit x4 h3) fun x5 h6 =>
      if x5 = 0 then
        (aI 1 h6 p1 p2).bind fun x7 =>
        if x7 ≤ 0 then
          f_X7_take_56 z a0 p1 p2 h6
        else
          (aI 1 h6 p1 p2).bind fun x8 =>
          b2 (f_J0_indexOf_0f7a4 z ((z.1 0)) ((x8.toUInt32 % 65536).toInt32) h6) fun x9 h10 =>
          if x9 < 0 then
            f_X7_take_56 z a0 p1 p2 h10
          else
            f_X7_take_57 z a0 p1 p2 1 h10
      else
        b2 (f_X7_takeWhole a0 p1 p2 p3 h6) fun x13 h14 =>
        some (x13, h14)
    else
      b2 (f_X7_takeWord z a0 p1 p2 p3 h3) fun x16 h17 =>
      some (x16, h17)
  else none
set_option maxRecDepth 100000 in
set_option maxHeartbeats 4000000 in
theorem w_X7_take {l : Launch} {G : GX} {a0 : Nat} {p1 : Nat} {p2 : Int32} {p3 : Int32} {h : AH} {rr : Int32} {hr : AH} (hf : f_X7_take G.2.2 a0 p1 p2 p3 h = some (rr, hr)) : Ct l G yX7_take 6 136 [.ref a0, .ref p1, .int p2, .int p3] h (QI rr hr) := by
  unfold f_X7_take at hf
  obtain ⟨ho, hf⟩ := ifO hf
  refine Ct_of (own := RX7) (cc := cX7_take) (nL := 5) (ret := (some .int)) rfl rfl k_823 (Nat.le_of_ble_eq_true rfl) (fun X C2 C => ?_)
  show V X G h (QI rr hr) 0 [(0, .ref a0), (1, .ref p1), (2, .int p2), (3, .int p3)] [] h
  refine C.seg (pe := 2) (lv' := [(0, .ref a0), (1, .ref p1), (2, .int p2), (3, .int p3)]) (st' := [.int p2, .ref p1]) [(.aload_n 1, 1, 0), (.iload_n 2, 1, 0)] (by decide +kernel) rfl ?_
  obtain ⟨x1, gx1, hf⟩ := Option.bind_eq_some_iff.mp hf
  refine C.bald 1 rfl gx1 (by decide +kernel) rfl ?_
  obtain ⟨x2, h3, gx2, hf⟩ := b2_some hf
  refine C.callSr C2 [.int x1] [] ms_824 rfl (w_X7_isLetter gx2) (by omega) (by omega) (Nat.le_of_ble_eq_true rfl) (by decide +kernel) rfl ?_
  refine C.if_eq (off := 11) (tgt := 17) (pf := 9) (by decide +kernel) (by decide) rfl (fun c18 => ?_) (fun c18 => ?_)
  · replace hf := ifp c18 hf
    refine C.seg (pe := 19) (lv' := [(0, .ref a0), (1, .ref p1), (2, .int p2), (3, .int p3)]) (st' := [.int p2, .ref p1]) [(.aload_n 1, 1, 0), (.iload_n 2, 1, 0)] (by decide +kernel) rfl ?_
    obtain ⟨x4, gx4, hf⟩ := Option.bind_eq_some_iff.mp hf
    refine C.bald 1 rfl gx4 (by decide +kernel) rfl ?_
    obtain ⟨x5, h6, gx5, hf⟩ := b2_some hf
    refine C.callSr C2 [.int x4] [] ms_887 rfl (w_X7_isDigit gx5) (by omega) (by omega) (Nat.le_of_ble_eq_true rfl) (by decide +kernel) rfl ?_
    refine C.if_eq (off := 11) (tgt := 34) (pf := 26) (by decide +kernel) (by decide) rfl (fun c15 => ?_) (fun c15 => ?_)
    · replace hf := ifp c15 hf
      refine C.seg (pe := 36) (lv' := [(0, .ref a0), (1, .ref p1), (2, .int p2), (3, .int p3)]) (st' := [.int p2, .ref p1]) [(.aload_n 1, 1, 0), (.iload_n 2, 1, 0)] (by decide +kernel) rfl ?_
      obtain ⟨x7, gx7, hf⟩ := Option.bind_eq_some_iff.mp hf
      refine C.bald 1 rfl gx7 (by decide +kernel) rfl ?_
      refine C.if_le (off := 19) (tgt := 56) (pf := 40) (by decide +kernel) (by decide) rfl (fun c12 => ?_) (fun c12 => ?_)
      · replace hf := ifp c12 hf
        refine Vsub [0, 1, 2] rfl ?_
        exact l_X7_take_56 C C2 a0 p1 p2 h6 hf
      · replace hf := ifn c12 hf
        refine C.ldcS (i := 0) (idx := 64) (tx := "[]();<>=+-*/,%") rfl (by decide +kernel) rfl ?_
        refine C.seg (pe := 44) (lv' := [(0, .ref a0), (1, .ref p1), (2, .int p2), (3, .int p3)]) (st' := [.int p2, .ref p1, .ref ((G.2.2.1 0))]) [(.aload_n 1, 1, 0), (.iload_n 2, 1, 0)] (by decide +kernel) rfl ?_
        obtain ⟨x8, gx8, hf⟩ := Option.bind_eq_some_iff.mp hf
        refine C.bald 1 rfl gx8 (by decide +kernel) rfl ?_
        refine C.seg (pe := 46) (lv' := [(0, .ref a0), (1, .ref p1), (2, .int p2), (3, .int p3)]) (st' := [.int ((x8.toUInt32 % 65536).toInt32), .ref ((G.2.2.1 0))]) [(.i2c, 1, 0)] (by decide +kernel) rfl ?_
        obtain ⟨x9, h10, gx9, hf⟩ := b2_some hf
        refine C.callTr C2 [.int ((x8.toUInt32 % 65536).toInt32)] [] mt_895 rfl (o_J0_indexOf_0f7a4 gx9) (w_J0_indexOf_0f7a4 gx9) (by omega) (by omega) (Nat.le_of_ble_eq_true rfl) (by decide +kernel) rfl ?_
        refine C.if_lt (off := 7) (tgt := 56) (pf := 52) (by decide +kernel) (by decide) rfl (fun c11 => ?_) (fun c11 => ?_)
        · replace hf := ifp c11 hf
          refine Vsub [0, 1, 2] rfl ?_
          exact l_X7_take_56 C C2 a0 p1 p2 h10 hf
        · replace hf := ifn c11 hf
          refine C.seg (pe := 53) (lv' := [(0, .ref a0), (1, .ref p1), (2, .int p2), (3, .int p3)]) (st' := [.int 1]) [(.iconst 1, 1, 1)] (by decide +kernel) rfl ?_
          refine C.goto (off := 4) (tgt := 57) (by decide +kernel) (by decide) ?_
          refine Vsub [0, 1, 2] rfl ?_
          exact l_X7_take_57 C C2 a0 p1 p2 1 h10 hf
    · replace hf := ifn c15 hf
      refine C.seg (pe := 30) (lv' := [(0, .ref a0), (1, .ref p1), (2, .int p2), (3, .int p3)]) (st' := [.int p3, .int p2, .ref p1, .ref a0]) [(.aload_n 0, 1, 0), (.aload_n 1, 1, 0), (.iload_n 2, 1, 0), (.iload_n 3, 1, 0)] (by decide +kernel) rfl ?_
      obtain ⟨x13, h14, gx13, hf⟩ := b2_some hf
      refine C.callVr C2 [.ref p1, .int p2, .int p3] [] mv_890 rfl (o_X7_takeWhole gx13) (w_X7_takeWhole gx13) (by omega) (by omega) (Nat.le_of_ble_eq_true rfl) (by decide +kernel) rfl ?_
      cases hf
      exact C.retI rfl (by decide +kernel) ⟨rfl, rfl⟩
  · replace hf := ifn c18 hf
    refine C.seg (pe := 13) (lv' := [(0, .ref a0), (1, .ref p1), (2, .int p2), (3, .int p3)]) (st' := [.int p3, .int p2, .ref p1, .ref a0]) [(.aload_n 0, 1, 0), (.aload_n 1, 1, 0), (.iload_n 2, 1, 0), (.iload_n 3, 1, 0)] (by decide +kernel) rfl ?_
    obtain ⟨x16, h17, gx16, hf⟩ := b2_some hf
    refine C.callVr C2 [.ref p1, .int p2, .int p3] [] mv_827 rfl (o_X7_takeWord gx16) (w_X7_takeWord gx16) (by omega) (by omega) (Nat.le_of_ble_eq_true rfl) (by decide +kernel) rfl ?_
    cases hf
    exact C.retI rfl (by decide +kernel) ⟨rfl, rfl⟩
theorem o_X7_take {z : ZX} {a0 : Nat} {p1 : Nat} {p2 : Int32} {p3 : Int32} {h : AH} {rr : Int32} {hr : AH} (hf : f_X7_take z a0 p1 p2 p3 h = some (rr, hr)) : isO 7 h a0 = true := by
  unfold f_X7_take at hf
  exact (ifO hf).1
/-! WallHouse$Tokens.cut([BI)V -/
def f_X7_cut_77 (z : ZX) (k39 : Nat → Nat → Int32 → Int32 → Int32 → AH → Option (AH)) (r0 : Nat) (r1 : Nat) (i3 : Int32) (i4 : Int32) (i5 : Int32) (h : AH) : Option (AH) :=
  (pI 7 h r0 3 i5).bind fun h1 =>
  (gA 7 h1 r0 1).bind fun a2 =>
  (sI 0 h1 a2 i5 i4).bind fun h3 =>
  if i4 < i3 then
    b2 (f_X7_take z r0 r1 i4 i3 h3) fun x4 h5 =>
    (gA 7 h5 r0 0).bind fun a6 =>
    (aI 0 h5 a6 i5).bind fun x7 =>
    if x7 = 1 then
      some h5
    else
      k39 r0 r1 i3 x4 (i5 + 1) h5
  else
    (gA 7 h3 r0 0).bind fun a9 =>
    (sI 0 h3 a9 i5 0).bind fun h10 =>
    some h10
set_option maxRecDepth 100000 in
set_option maxHeartbeats 4000000 in
theorem l_X7_cut_77 {X : MX} {l : Launch} {G : GX} {h0 : AH} {hr : AH} (C : Cx X G RX7 cX7_cut 6 none 7 160 h0) (C2 : Cy X l "cut" []) {k39 : Nat → Nat → Int32 → Int32 → Int32 → AH → Option (AH)} (hk39 : ∀ (r0 : Nat) (r1 : Nat) (i3 : Int32) (i4 : Int32) (i5 : Int32) (h : AH), k39 r0 r1 i3 i4 i5 h = some hr → V X G h0 (QV hr) 39 [(0, .ref r0), (1, .ref r1), (3, .int i3), (4, .int i4), (5, .int i5)] [] h) (r0 : Nat) (r1 : Nat) (i3 : Int32) (i4 : Int32) (i5 : Int32) (h : AH) (hf : f_X7_cut_77 G.2.2 k39 r0 r1 i3 i4 i5 h = some hr) : V X G h0 (QV hr) 77 [(0, .ref r0), (1, .ref r1), (3, .int i3), (4, .int i4), (5, .int i5)] [] h := by
  unfold f_X7_cut_77 at hf
  refine C.seg (pe := 80) (lv' := [(0, .ref r0), (1, .ref r1), (3, .int i3), (4, .int i4), (5, .int i5)]) (st' := [.int i5, .ref r0]) [(.aload_n 0, 1, 0), (.iload 5, 2, 0)] (by decide +kernel) rfl ?_
  obtain ⟨h1, gh1, hf⟩ := Option.bind_eq_some_iff.mp hf
  refine C.putI fl_377 gh1 (by decide +kernel) rfl ?_
  refine C.seg (pe := 84) (lv' := [(0, .ref r0), (1, .ref r1), (3, .int i3), (4, .int i4), (5, .int i5)]) (st' := [.ref r0]) [(.aload_n 0, 1, 0)] (by decide +kernel) rfl ?_
  obtain ⟨a2, ga2, hf⟩ := Option.bind_eq_some_iff.mp hf
  refine C.rdA fr_375 ga2 (by decide +kernel) rfl ?_
  refine C.seg (pe := 91) (lv' := [(0, .ref r0), (1, .ref r1), (3, .int i3), (4, .int i4), (5, .int i5)]) (st' := [.int i4, .int i5, .ref a2]) [(.iload 5, 2, 0), (.iload 4, 2, 0)] (by decide +kernel) rfl ?_
  obtain ⟨h3, gh3, hf⟩ := Option.bind_eq_some_iff.mp hf
  refine C.ast gh3 (by decide +kernel) rfl ?_
  refine C.seg (pe := 95) (lv' := [(0, .ref r0), (1, .ref r1), (3, .int i3), (4, .int i4), (5, .int i5)]) (st' := [.int i3, .int i4]) [(.iload 4, 2, 0), (.iload_n 3, 1, 0)] (by decide +kernel) rfl ?_
  refine C.icmp_lt (off := 12) (tgt := 107) (pf := 98) (by decide +kernel) (by decide) rfl (fun c11 => ?_) (fun c11 => ?_)
  · replace hf := ifp c11 hf
    refine C.seg (pe := 112) (lv' := [(0, .ref r0), (1, .ref r1), (3, .int i3), (4, .int i4), (5, .int i5)]) (st' := [.int i3, .int i4, .ref r1, .ref r0]) [(.aload_n 0, 1, 0), (.aload_n 1, 1, 0), (.iload 4, 2, 0), (.iload_n 3, 1, 0)] (by decide +kernel) rfl ?_
    obtain ⟨x4, h5, gx4, hf⟩ := b2_some hf
    refine C.callVr C2 [.ref r1, .int i4, .int i3] [] mv_820 rfl (o_X7_take gx4) (w_X7_take gx4) (by omega) (by omega) (Nat.le_of_ble_eq_true rfl) (by decide +kernel) rfl ?_
    refine C.seg (pe := 118) (lv' := [(4, .int x4), (0, .ref r0), (1, .ref r1), (3, .int i3), (5, .int i5)]) (st' := [.ref r0]) [(.istore 4, 2, 0), (.aload_n 0, 1, 0)] (by decide +kernel) rfl ?_
    obtain ⟨a6, ga6, hf⟩ := Option.bind_eq_some_iff.mp hf
    refine C.rdA fr_373 ga6 (by decide +kernel) rfl ?_
    refine C.seg (pe := 123) (lv' := [(4, .int x4), (0, .ref r0), (1, .ref r1), (3, .int i3), (5, .int i5)]) (st' := [.int i5, .ref a6]) [(.iload 5, 2, 0)] (by decide +kernel) rfl ?_
    obtain ⟨x7, gx7, hf⟩ := Option.bind_eq_some_iff.mp hf
    refine C.ald 0 rfl gx7 (by decide +kernel) rfl ?_
    refine C.seg (pe := 125) (lv' := [(4, .int x4), (0, .ref r0), (1, .ref r1), (3, .int i3), (5, .int i5)]) (st' := [.int 1, .int x7]) [(.iconst 1, 1, 1)] (by decide +kernel) rfl ?_
    refine C.icmp_ne (off := 4) (tgt := 129) (pf := 128) (by decide +kernel) (by decide) rfl (fun c8 => ?_) (fun c8 => ?_)
    · replace hf := ifn c8 hf
      refine C.seg (pe := 132) (lv' := [(5, .int (i5 + 1)), (4, .int x4), (0, .ref r0), (1, .ref r1), (3, .int i3)]) (st' := []) [(.iinc 5 1, 3, 1)] (by decide +kernel) rfl ?_
      refine C.goto (off := (-93)) (tgt := 39) (by decide +kernel) (by decide) ?_
      refine Vsub [2, 3, 4, 1, 0] rfl ?_
      exact hk39 r0 r1 i3 x4 (i5 + 1) h5 hf
    · replace hf := ifp c8 hf
      cases hf
      exact C.retV rfl (by decide +kernel) ⟨rfl, rfl⟩
  · replace hf := ifn c11 hf
    refine C.seg (pe := 99) (lv' := [(0, .ref r0), (1, .ref r1), (3, .int i3), (4, .int i4), (5, .int i5)]) (st' := [.ref r0]) [(.aload_n 0, 1, 0)] (by decide +kernel) rfl ?_
    obtain ⟨a9, ga9, hf⟩ := Option.bind_eq_some_iff.mp hf
    refine C.rdA fr_373 ga9 (by decide +kernel) rfl ?_
    refine C.seg (pe := 105) (lv' := [(0, .ref r0), (1, .ref r1), (3, .int i3), (4, .int i4), (5, .int i5)]) (st' := [.int 0, .int i5, .ref a9]) [(.iload 5, 2, 0), (.iconst 0, 1, 0)] (by decide +kernel) rfl ?_
    obtain ⟨h10, gh10, hf⟩ := Option.bind_eq_some_iff.mp hf
    refine C.ast gh10 (by decide +kernel) rfl ?_
    cases hf
    exact C.retV rfl (by decide +kernel) ⟨rfl, rfl⟩
def f_X7_cut_71 (z : ZX) (k39 : Nat → Nat → Int32 → Int32 → Int32 → AH → Option (AH)) (k47 : Nat → Nat → Int32 → Int32 → Int32 → AH → Option (AH)) (r0 : Nat) (r1 : Nat) (i3 : Int32) (i4 : Int32) (i5 : Int32) (h : AH) : Option (AH) :=
  k47 r0 r1 i3 (i4 + 1) i5 h
set_option maxRecDepth 100000 in
set_option maxHeartbeats 4000000 in
theorem l_X7_cut_71 {X : MX} {l : Launch} {G : GX} {h0 : AH} {hr : AH} (C : Cx X G RX7 cX7_cut 6 none 7 160 h0) (C2 : Cy X l "cut" []) {k39 : Nat → Nat → Int32 → Int32 → Int32 → AH → Option (AH)} (hk39 : ∀ (r0 : Nat) (r1 : Nat) (i3 : Int32) (i4 : Int32) (i5 : Int32) (h : AH), k39 r0 r1 i3 i4 i5 h = some hr → V X G h0 (QV hr) 39 [(0, .ref r0), (1, .ref r1), (3, .int i3), (4, .int i4), (5, .int i5)] [] h) {k47 : Nat → Nat → Int32 → Int32 → Int32 → AH → Option (AH)} (hk47 : ∀ (r0 : Nat) (r1 : Nat) (i3 : Int32) (i4 : Int32) (i5 : Int32) (h : AH), k47 r0 r1 i3 i4 i5 h = some hr → V X G h0 (QV hr) 47 [(0, .ref r0), (1, .ref r1), (3, .int i3), (4, .int i4), (5, .int i5)] [] h) (r0 : Nat) (r1 : Nat) (i3 : Int32) (i4 : Int32) (i5 : Int32) (h : AH) (hf : f_X7_cut_71 G.2.2 k39 k47 r0 r1 i3 i4 i5 h = some hr) : V X G h0 (QV hr) 71 [(0, .ref r0), (1, .ref r1), (3, .int i3), (4, .int i4), (5, .int i5)] [] h := by
  unfold f_X7_cut_71 at hf
  refine C.seg (pe := 74) (lv' := [(4, .int (i4 + 1)), (0, .ref r0), (1, .ref r1), (3, .int i3), (5, .int i5)]) (st' := []) [(.iinc 4 1, 3, 1)] (by decide +kernel) rfl ?_
  refine C.goto (off := (-27)) (tgt := 47) (by decide +kernel) (by decide) ?_
  refine Vsub [1, 2, 3, 0, 4] rfl ?_
  exact hk47 r0 r1 i3 (i4 + 1) i5 h hf
def f_X7_cut_47 (z : ZX) (k39 : Nat → Nat → Int32 → Int32 → Int32 → AH → Option (AH)) : Nat → Nat → Nat → Int32 → Int32 → Int32 → AH → Option (AH)
  | 0, _, _, _, _, _, _ => none
  | n + 1, r0, r1, i3, i4, i5, h =>
    if i3 ≤ i4 then
      f_X7_cut_77 z k39 r0 r1 i3 i4 i5 h
    else
      (aI 1 h r1 i4).bind fun x1 =>
      if x1 = 32 then
        f_X7_cut_71 z k39 (f_X7_cut_47 z k39 n) r0 r1 i3 i4 i5 h
      else
        (aI 1 h r1 i4).bind fun x2 =>
        if x2 = 10 then
          f_X7_cut_71 z k39 (f_X7_cut_47 z k39 n) r0 r1 i3 i4 i5 h
        else
          f_X7_cut_77 z k39 r0 r1 i3 i4 i5 h
set_option maxRecDepth 100000 in
set_option maxHeartbeats 4000000 in
theorem l_X7_cut_47 {X : MX} {l : Launch} {G : GX} {h0 : AH} {hr : AH} (C : Cx X G RX7 cX7_cut 6 none 7 160 h0) (C2 : Cy X l "cut" []) {k39 : Nat → Nat → Int32 → Int32 → Int32 → AH → Option (AH)} (hk39 : ∀ (r0 : Nat) (r1 : Nat) (i3 : Int32) (i4 : Int32) (i5 : Int32) (h : AH), k39 r0 r1 i3 i4 i5 h = some hr → V X G h0 (QV hr) 39 [(0, .ref r0), (1, .ref r1), (3, .int i3), (4, .int i4), (5, .int i5)] [] h) : ∀ (n : Nat) (r0 : Nat) (r1 : Nat) (i3 : Int32) (i4 : Int32) (i5 : Int32) (h : AH), f_X7_cut_47 G.2.2 k39 n r0 r1 i3 i4 i5 h = some hr → V X G h0 (QV hr) 47 [(0, .ref r0), (1, .ref r1), (3, .int i3), (4, .int i4), (5, .int i5)] [] h := by
  intro n
  induction n with
  | zero => intro r0 r1 i3 i4 i5 h hf; rw [f_X7_cut_47] at hf; cases hf
  | succ n ih =>
    intro r0 r1 i3 i4 i5 h hf
    rw [f_X7_cut_47] at hf
    refine C.seg (pe := 50) (lv' := [(0, .ref r0), (1, .ref r1), (3, .int i3), (4, .int i4), (5, .int i5)]) (st' := [.int i3, .int i4]) [(.iload 4, 2, 0), (.iload_n 3, 1, 0)] (by decide +kernel) rfl ?_
    refine C.icmp_ge (off := 27) (tgt := 77) (pf := 53) (by decide +kernel) (by decide) rfl (fun c5 => ?_) (fun c5 => ?_)
    · replace hf := ifp c5 hf
      exact l_X7_cut_77 C C2 hk39 r0 r1 i3 i4 i5 h hf
    · replace hf := ifn c5 hf
      refine C.seg (pe := 56) (lv' := [(0, .ref r0), (1, .ref r1), (3, .int i3), (4, .int i4), (5, .int i5)]) (st' := [.int i4, .ref r1]) [(.aload_n 1, 1, 0), (.iload 4, 2, 0)] (by decide +kernel) rfl ?_
      obtain ⟨x1, gx1, hf⟩ := Option.bind_eq_some_iff.mp hf
      refine C.bald 1 rfl gx1 (by decide +kernel) rfl ?_
      refine C.seg (pe := 59) (lv' := [(0, .ref r0), (1, .ref r1), (3, .int i3), (4, .int i4), (5, .int i5)]) (st' := [.int 32, .int x1]) [(.bipush 32, 2, 32)] (by decide +kernel) rfl ?_
      refine C.icmp_eq (off := 12) (tgt := 71) (pf := 62) (by decide +kernel) (by decide) rfl (fun c4 => ?_) (fun c4 => ?_)
      · replace hf := ifp c4 hf
        exact l_X7_cut_71 C C2 hk39 ih r0 r1 i3 i4 i5 h hf
      · replace hf := ifn c4 hf
        refine C.seg (pe := 65) (lv' := [(0, .ref r0), (1, .ref r1), (3, .int i3), (4, .int i4), (5, .int i5)]) (st' := [.int i4, .ref r1]) [(.aload_n 1, 1, 0), (.iload 4, 2, 0)] (by decide +kernel) rfl ?_
        obtain ⟨x2, gx2, hf⟩ := Option.bind_eq_some_iff.mp hf
        refine C.bald 1 rfl gx2 (by decide +kernel) rfl ?_
        refine C.seg (pe := 68) (lv' := [(0, .ref r0), (1, .ref r1), (3, .int i3), (4, .int i4), (5, .int i5)]) (st' := [.int 10, .int x2]) [(.bipush 10, 2, 10)] (by decide +kernel) rfl ?_
        refine C.icmp_ne (off := 9) (tgt := 77) (pf := 71) (by decide +kernel) (by decide) rfl (fun c3 => ?_) (fun c3 => ?_)
        · replace hf := ifn c3 hf
          exact l_X7_cut_77 C C2 hk39 r0 r1 i3 i4 i5 h hf
        · replace hf := ifp c3 hf
          exact l_X7_cut_71 C C2 hk39 ih r0 r1 i3 i4 i5 h hf
def f_X7_cut_39 (z : ZX) : Nat → Nat → Nat → Int32 → Int32 → Int32 → AH → Option (AH)
  | 0, _, _, _, _, _, _ => none
  | n + 1, r0, r1, i3, i4, i5, h =>
    if 400 < i5 then
      some h
    else
      f_X7_cut_47 z (f_X7_cut_39 z n) FU r0 r1 i3 i4 i5 h
set_option maxRecDepth 100000 in
set_option maxHeartbeats 4000000 in
theorem l_X7_cut_39 {X : MX} {l : Launch} {G : GX} {h0 : AH} {hr : AH} (C : Cx X G RX7 cX7_cut 6 none 7 160 h0) (C2 : Cy X l "cut" []) : ∀ (n : Nat) (r0 : Nat) (r1 : Nat) (i3 : Int32) (i4 : Int32) (i5 : Int32) (h : AH), f_X7_cut_39 G.2.2 n r0 r1 i3 i4 i5 h = some hr → V X G h0 (QV hr) 39 [(0, .ref r0), (1, .ref r1), (3, .int i3), (4, .int i4), (5, .int i5)] [] h := by
  intro n
  induction n with
  | zero => intro r0 r1 i3 i4 i5 h hf; rw [f_X7_cut_39] at hf; cases hf
  | succ n ih =>
    intro r0 r1 i3 i4 i5 h hf
    rw [f_X7_cut_39] at hf
    refine C.seg (pe := 44) (lv' := [(0, .ref r0), (1, .ref r1), (3, .int i3), (4, .int i4), (5, .int i5)]) (st' := [.int 400, .int i5]) [(.iload 5, 2, 0), (.sipush 400, 3, 400)] (by decide +kernel) rfl ?_
    refine C.icmp_gt (off := 91) (tgt := 135) (pf := 47) (by decide +kernel) (by decide) rfl (fun c1 => ?_) (fun c1 => ?_)
    · replace hf := ifp c1 hf
      cases hf
      exact C.retV rfl (by decide +kernel) ⟨rfl, rfl⟩
    · replace hf := ifn c1 hf
      exact l_X7_cut_47 C C2 ih FU r0 r1 i3 i4 i5 h hf
def f_X7_cut (z : ZX) (a0 : Nat) (p1 : Nat) (p2 : Int32) (h : AH) : Option (AH) :=
  if isO 7 h a0 = true then
    (aN h p1).bind fun x1 =>
    lt (mnI p2 (mnI x1 400) : Int32) fun x2 =>
    (pI 7 h a0 3 (-1)).bind fun h3 =>
    (pI 7 h3 a0 4 0).bind fun h4 =>
    (pI 7 h4 a0 5 0).bind fun h5 =>
    (pI 7 h5 a0 6 (-1)).bind fun h6 =>
    f_X7_cut_39 z FU a0 p1 x2 0 0 h6
  else none
set_option maxRecDepth 100000 in
set_option maxHeartbeats 4000000 in
theorem w_X7_cut {l : Launch} {G : GX} {a0 : Nat} {p1 : Nat} {p2 : Int32} {h : AH} {hr : AH} (hf : f_X7_cut G.2.2 a0 p1 p2 h = some hr) : Ct l G yX7_cut 7 160 [.ref a0, .ref p1, .int p2] h (QV hr) := by
  unfold f_X7_cut at hf
  obtain ⟨ho, hf⟩ := ifO hf
  refine Ct_of (own := RX7) (cc := cX7_cut) (nL := 6) (ret := none) rfl rfl k_818 (Nat.le_of_ble_eq_true rfl) (fun X C2 C => ?_)
  show V X G h (QV hr) 0 [(0, .ref a0), (1, .ref p1), (2, .int p2)] [] h
  refine C.seg (pe := 2) (lv' := [(0, .ref a0), (1, .ref p1), (2, .int p2)]) (st' := [.ref p1, .int p2]) [(.iload_n 2, 1, 0), (.aload_n 1, 1, 0)] (by decide +kernel) rfl ?_
  obtain ⟨x1, gx1, hf⟩ := Option.bind_eq_some_iff.mp hf
  refine C.alen gx1 (by decide +kernel) rfl ?_
  refine C.seg (pe := 6) (lv' := [(0, .ref a0), (1, .ref p1), (2, .int p2)]) (st' := [.int 400, .int x1, .int p2]) [(.sipush 400, 3, 400)] (by decide +kernel) rfl ?_
  refine C.mmin k_819 k_639 k_137 k_640 (by omega) (by omega) (Nat.le_of_ble_eq_true rfl) (by decide +kernel) rfl ?_
  refine C.mmin k_819 k_639 k_137 k_640 (by omega) (by omega) (Nat.le_of_ble_eq_true rfl) (by decide +kernel) rfl ?_
  refine Vtopi (fun x2 ex2 => ?_)
  replace hf := lt_ap ex2 hf
  clear ex2
  refine C.seg (pe := 18) (lv' := [(4, .int 0), (3, .int x2), (0, .ref a0), (1, .ref p1), (2, .int p2)]) (st' := [.int (-1), .ref a0]) [(.istore_n 3, 1, 0), (.iconst 0, 1, 0), (.istore 4, 2, 0), (.aload_n 0, 1, 0), (.iconst (-1), 1, (-1))] (by decide +kernel) rfl ?_
  obtain ⟨h3, gh3, hf⟩ := Option.bind_eq_some_iff.mp hf
  refine C.putI fl_377 gh3 (by decide +kernel) rfl ?_
  refine C.seg (pe := 23) (lv' := [(4, .int 0), (3, .int x2), (0, .ref a0), (1, .ref p1), (2, .int p2)]) (st' := [.int 0, .ref a0]) [(.aload_n 0, 1, 0), (.iconst 0, 1, 0)] (by decide +kernel) rfl ?_
  obtain ⟨h4, gh4, hf⟩ := Option.bind_eq_some_iff.mp hf
  refine C.putI fl_378 gh4 (by decide +kernel) rfl ?_
  refine C.seg (pe := 28) (lv' := [(4, .int 0), (3, .int x2), (0, .ref a0), (1, .ref p1), (2, .int p2)]) (st' := [.int 0, .ref a0]) [(.aload_n 0, 1, 0), (.iconst 0, 1, 0)] (by decide +kernel) rfl ?_
  obtain ⟨h5, gh5, hf⟩ := Option.bind_eq_some_iff.mp hf
  refine C.putI fl_379 gh5 (by decide +kernel) rfl ?_
  refine C.seg (pe := 33) (lv' := [(4, .int 0), (3, .int x2), (0, .ref a0), (1, .ref p1), (2, .int p2)]) (st' := [.int (-1), .ref a0]) [(.aload_n 0, 1, 0), (.iconst (-1), 1, (-1))] (by decide +kernel) rfl ?_
  obtain ⟨h6, gh6, hf⟩ := Option.bind_eq_some_iff.mp hf
  refine C.putI fl_381 gh6 (by decide +kernel) rfl ?_
  refine C.seg (pe := 39) (lv' := [(5, .int 0), (4, .int 0), (3, .int x2), (0, .ref a0), (1, .ref p1), (2, .int p2)]) (st' := []) [(.iconst 0, 1, 0), (.istore 5, 2, 0)] (by decide +kernel) rfl ?_
  refine Vsub [3, 4, 2, 1, 0] rfl ?_
  exact l_X7_cut_39 C C2 FU a0 p1 x2 0 0 h6 hf
theorem o_X7_cut {z : ZX} {a0 : Nat} {p1 : Nat} {p2 : Int32} {h : AH} {hr : AH} (hf : f_X7_cut z a0 p1 p2 h = some hr) : isO 7 h a0 = true := by
  unfold f_X7_cut at hf
  exact (ifO hf).1
/-! WallHouse$Tokens.kind()I -/
def f_X7_kind_32 (si0 : Int32) (h : AH) : Option (Int32 × AH) :=
  some (si0, h)
set_option maxRecDepth 100000 in
set_option maxHeartbeats 4000000 in
theorem l_X7_kind_32 {X : MX} {l : Launch} {G : GX} {h0 : AH} {rr : Int32} {hr : AH} (C : Cx X G RX7 cX7_kind 1 (some .int) 0 0 h0) (C2 : Cy X l "kind" []) (si0 : Int32) (h : AH) (hf : f_X7_kind_32 si0 h = some (rr, hr)) : V X G h0 (QI rr hr) 32 [] [.int si0] h := by
  unfold f_X7_kind_32 at hf
  cases hf
  exact C.retI rfl (by decide +kernel) ⟨rfl, rfl⟩
def f_X7_kind_31 (h : AH) : Option (Int32 × AH) :=
  f_X7_kind_32 0 h
set_option maxRecDepth 100000 in
set_option maxHeartbeats 4000000 in
theorem l_X7_kind_31 {X : MX} {l : Launch} {G : GX} {h0 : AH} {rr : Int32} {hr : AH} (C : Cx X G RX7 cX7_kind 1 (some .int) 0 0 h0) (C2 : Cy X l "kind" []) (h : AH) (hf : f_X7_kind_31 h = some (rr, hr)) : V X G h0 (QI rr hr) 31 [] [] h := by
  unfold f_X7_kind_31 at hf
  refine C.seg (pe := 32) (lv' := []) (st' := [.int 0]) [(.iconst 0, 1, 0)] (by decide +kernel) rfl ?_
  exact l_X7_kind_32 C C2 0 h hf
def f_X7_kind (a0 : Nat) (h : AH) : Option (Int32 × AH) :=
  if isO 7 h a0 = true then
    (gI 7 h a0 4).bind fun x1 =>
    if x1 < 0 then
      f_X7_kind_31 h
    else
      (gI 7 h a0 4).bind fun x2 =>
      (gA 7 h a0 0).bind fun a3 =>
      (aN h a3).bind fun x4 =>
      if x4 ≤ x2 then
        f_X7_kind_31 h
      else
        (gA 7 h a0 0).bind fun a5 =>
        (gI 7 h a0 4).bind fun x6 =>
        (aI 0 h a5 x6).bind fun x7 =>
        f_X7_kind_32 x7 h
  else none
set_option maxRecDepth 100000 in
set_option maxHeartbeats 4000000 in
theorem w_X7_kind {l : Launch} {G : GX} {a0 : Nat} {h : AH} {rr : Int32} {hr : AH} (hf : f_X7_kind a0 h = some (rr, hr)) : Ct l G yX7_kind 0 0 [.ref a0] h (QI rr hr) := by
  unfold f_X7_kind at hf
  obtain ⟨ho, hf⟩ := ifO hf
  refine Ct_of (own := RX7) (cc := cX7_kind) (nL := 1) (ret := (some .int)) rfl rfl k_965 (Nat.le_of_ble_eq_true rfl) (fun X C2 C => ?_)
  show V X G h (QI rr hr) 0 [(0, .ref a0)] [] h
  refine C.seg (pe := 1) (lv' := [(0, .ref a0)]) (st' := [.ref a0]) [(.aload_n 0, 1, 0)] (by decide +kernel) rfl ?_
  obtain ⟨x1, gx1, hf⟩ := Option.bind_eq_some_iff.mp hf
  refine C.rdI fr_378 gx1 (by decide +kernel) rfl ?_
  refine C.if_lt (off := 27) (tgt := 31) (pf := 7) (by decide +kernel) (by decide) rfl (fun c9 => ?_) (fun c9 => ?_)
  · replace hf := ifp c9 hf
    refine Vsub [] rfl ?_
    exact l_X7_kind_31 C C2 h hf
  · replace hf := ifn c9 hf
    refine C.seg (pe := 8) (lv' := [(0, .ref a0)]) (st' := [.ref a0]) [(.aload_n 0, 1, 0)] (by decide +kernel) rfl ?_
    obtain ⟨x2, gx2, hf⟩ := Option.bind_eq_some_iff.mp hf
    refine C.rdI fr_378 gx2 (by decide +kernel) rfl ?_
    refine C.seg (pe := 12) (lv' := [(0, .ref a0)]) (st' := [.ref a0, .int x2]) [(.aload_n 0, 1, 0)] (by decide +kernel) rfl ?_
    obtain ⟨a3, ga3, hf⟩ := Option.bind_eq_some_iff.mp hf
    refine C.rdA fr_373 ga3 (by decide +kernel) rfl ?_
    obtain ⟨x4, gx4, hf⟩ := Option.bind_eq_some_iff.mp hf
    refine C.alen gx4 (by decide +kernel) rfl ?_
    refine C.icmp_ge (off := 15) (tgt := 31) (pf := 19) (by decide +kernel) (by decide) rfl (fun c8 => ?_) (fun c8 => ?_)
    · replace hf := ifp c8 hf
      refine Vsub [] rfl ?_
      exact l_X7_kind_31 C C2 h hf
    · replace hf := ifn c8 hf
      refine C.seg (pe := 20) (lv' := [(0, .ref a0)]) (st' := [.ref a0]) [(.aload_n 0, 1, 0)] (by decide +kernel) rfl ?_
      obtain ⟨a5, ga5, hf⟩ := Option.bind_eq_some_iff.mp hf
      refine C.rdA fr_373 ga5 (by decide +kernel) rfl ?_
      refine C.seg (pe := 24) (lv' := [(0, .ref a0)]) (st' := [.ref a0, .ref a5]) [(.aload_n 0, 1, 0)] (by decide +kernel) rfl ?_
      obtain ⟨x6, gx6, hf⟩ := Option.bind_eq_some_iff.mp hf
      refine C.rdI fr_378 gx6 (by decide +kernel) rfl ?_
      obtain ⟨x7, gx7, hf⟩ := Option.bind_eq_some_iff.mp hf
      refine C.ald 0 rfl gx7 (by decide +kernel) rfl ?_
      refine C.goto (off := 4) (tgt := 32) (by decide +kernel) (by decide) ?_
      refine Vsub [] rfl ?_
      exact l_X7_kind_32 C C2 x7 h hf
theorem o_X7_kind {a0 : Nat} {h : AH} {rr : Int32} {hr : AH} (hf : f_X7_kind a0 h = some (rr, hr)) : isO 7 h a0 = true := by
  unfold f_X7_kind at hf
  exact (ifO hf).1
/-! WallHouse$Tokens.fail(I)Z -/
def f_X7_fail_38 (si0 : Int32) (sr1 : Nat) (h : AH) : Option (Int32 × AH) :=
  (pI 7 h sr1 6 si0).bind fun h1 =>
  some (0, h1)
set_option maxRecDepth 100000 in
set_option maxHeartbeats 4000000 in
theorem l_X7_fail_38 {X : MX} {l : Launch} {G : GX} {h0 : AH} {rr : Int32} {hr : AH} (C : Cx X G RX7 cX7_fail 2 (some .boolean) 0 0 h0) (C2 : Cy X l "fail" []) (si0 : Int32) (sr1 : Nat) (h : AH) (hf : f_X7_fail_38 si0 sr1 h = some (rr, hr)) : V X G h0 (QI rr hr) 38 [] [.int si0, .ref sr1] h := by
  unfold f_X7_fail_38 at hf
  obtain ⟨h1, gh1, hf⟩ := Option.bind_eq_some_iff.mp hf
  refine C.putI fl_381 gh1 (by decide +kernel) rfl ?_
  refine C.seg (pe := 42) (lv' := []) (st' := [.int 0]) [(.iconst 0, 1, 0)] (by decide +kernel) rfl ?_
  cases hf
  exact C.retZ rfl (by decide) (by decide +kernel) ⟨rfl, rfl⟩
def f_X7_fail_37 (sr0 : Nat) (h : AH) : Option (Int32 × AH) :=
  f_X7_fail_38 0 sr0 h
set_option maxRecDepth 100000 in
set_option maxHeartbeats 4000000 in
theorem l_X7_fail_37 {X : MX} {l : Launch} {G : GX} {h0 : AH} {rr : Int32} {hr : AH} (C : Cx X G RX7 cX7_fail 2 (some .boolean) 0 0 h0) (C2 : Cy X l "fail" []) (sr0 : Nat) (h : AH) (hf : f_X7_fail_37 sr0 h = some (rr, hr)) : V X G h0 (QI rr hr) 37 [] [.ref sr0] h := by
  unfold f_X7_fail_37 at hf
  refine C.seg (pe := 38) (lv' := []) (st' := [.int 0, .ref sr0]) [(.iconst 0, 1, 0)] (by decide +kernel) rfl ?_
  exact l_X7_fail_38 C C2 0 sr0 h hf
def f_X7_fail (a0 : Nat) (p1 : Int32) (h : AH) : Option (Int32 × AH) :=
  if isO 7 h a0 = true then
    (pI 7 h a0 5 p1).bind fun h1 =>
    (gI 7 h1 a0 4).bind fun x2 =>
    if x2 < 0 then
      f_X7_fail_37 a0 h1
    else
      (gI 7 h1 a0 4).bind fun x3 =>
      (gA 7 h1 a0 1).bind fun a4 =>
      (aN h1 a4).bind fun x5 =>
      if x5 ≤ x3 then
        f_X7_fail_37 a0 h1
      else
        (gA 7 h1 a0 1).bind fun a6 =>
        (gI 7 h1 a0 4).bind fun x7 =>
        (aI 0 h1 a6 x7).bind fun x8 =>
        f_X7_fail_38 x8 a0 h1
  else none
set_option maxRecDepth 100000 in
set_option maxHeartbeats 4000000 in
theorem w_X7_fail {l : Launch} {G : GX} {a0 : Nat} {p1 : Int32} {h : AH} {rr : Int32} {hr : AH} (hf : f_X7_fail a0 p1 h = some (rr, hr)) : Ct l G yX7_fail 0 0 [.ref a0, .int p1] h (QI rr hr) := by
  unfold f_X7_fail at hf
  obtain ⟨ho, hf⟩ := ifO hf
  refine Ct_of (own := RX7) (cc := cX7_fail) (nL := 2) (ret := (some .boolean)) rfl rfl k_969 (Nat.le_of_ble_eq_true rfl) (fun X C2 C => ?_)
  show V X G h (QI rr hr) 0 [(0, .ref a0), (1, .int p1)] [] h
  refine C.seg (pe := 2) (lv' := [(0, .ref a0), (1, .int p1)]) (st' := [.int p1, .ref a0]) [(.aload_n 0, 1, 0), (.iload_n 1, 1, 0)] (by decide +kernel) rfl ?_
  obtain ⟨h1, gh1, hf⟩ := Option.bind_eq_some_iff.mp hf
  refine C.putI fl_379 gh1 (by decide +kernel) rfl ?_
  refine C.seg (pe := 7) (lv' := [(0, .ref a0), (1, .int p1)]) (st' := [.ref a0, .ref a0]) [(.aload_n 0, 1, 0), (.aload_n 0, 1, 0)] (by decide +kernel) rfl ?_
  obtain ⟨x2, gx2, hf⟩ := Option.bind_eq_some_iff.mp hf
  refine C.rdI fr_378 gx2 (by decide +kernel) rfl ?_
  refine C.if_lt (off := 27) (tgt := 37) (pf := 13) (by decide +kernel) (by decide) rfl (fun c10 => ?_) (fun c10 => ?_)
  · replace hf := ifp c10 hf
    refine Vsub [] rfl ?_
    exact l_X7_fail_37 C C2 a0 h1 hf
  · replace hf := ifn c10 hf
    refine C.seg (pe := 14) (lv' := [(0, .ref a0), (1, .int p1)]) (st' := [.ref a0, .ref a0]) [(.aload_n 0, 1, 0)] (by decide +kernel) rfl ?_
    obtain ⟨x3, gx3, hf⟩ := Option.bind_eq_some_iff.mp hf
    refine C.rdI fr_378 gx3 (by decide +kernel) rfl ?_
    refine C.seg (pe := 18) (lv' := [(0, .ref a0), (1, .int p1)]) (st' := [.ref a0, .int x3, .ref a0]) [(.aload_n 0, 1, 0)] (by decide +kernel) rfl ?_
    obtain ⟨a4, ga4, hf⟩ := Option.bind_eq_some_iff.mp hf
    refine C.rdA fr_375 ga4 (by decide +kernel) rfl ?_
    obtain ⟨x5, gx5, hf⟩ := Option.bind_eq_some_iff.mp hf
    refine C.alen gx5 (by decide +kernel) rfl ?_
    refine C.icmp_ge (off := 15) (tgt := 37) (pf := 25) (by decide +kernel) (by decide) rfl (fun c9 => ?_) (fun c9 => ?_)
    · replace hf := ifp c9 hf
      refine Vsub [] rfl ?_
      exact l_X7_fail_37 C C2 a0 h1 hf
    · replace hf := ifn c9 hf
      refine C.seg (pe := 26) (lv' := [(0, .ref a0), (1, .int p1)]) (st' := [.ref a0, .ref a0]) [(.aload_n 0, 1, 0)] (by decide +kernel) rfl ?_
      obtain ⟨a6, ga6, hf⟩ := Option.bind_eq_some_iff.mp hf
      refine C.rdA fr_375 ga6 (by decide +kernel) rfl ?_
      refine C.seg (pe := 30) (lv' := [(0, .ref a0), (1, .int p1)]) (st' := [.ref a0, .ref a6, .ref a0]) [(.aload_n 0, 1, 0)] (by decide +kernel) rfl ?_
      obtain ⟨x7, gx7, hf⟩ := Option.bind_eq_some_iff.mp hf
      refine C.rdI fr_378 gx7 (by decide +kernel) rfl ?_
      obtain ⟨x8, gx8, hf⟩ := Option.bind_eq_some_iff.mp hf
      refine C.ald 0 rfl gx8 (by decide +kernel) rfl ?_
      refine C.goto (off := 4) (tgt := 38) (by decide +kernel) (by decide) ?_
      refine Vsub [] rfl ?_
      exact l_X7_fail_38 C C2 x8 a0 h1 hf
theorem o_X7_fail {a0 : Nat} {p1 : Int32} {h : AH} {rr : Int32} {hr : AH} (hf : f_X7_fail a0 p1 h = some (rr, hr)) : isO 7 h a0 = true := by
  unfold f_X7_fail at hf
  exact (ifO hf).1
/-! WallHouse$Tokens.name()I -/
def f_X7_name_45 (si0 : Int32) (h : AH) : Option (Int32 × AH) :=
  some (si0, h)
set_option maxRecDepth 100000 in
set_option maxHeartbeats 4000000 in
theorem l_X7_name_45 {X : MX} {l : Launch} {G : GX} {h0 : AH} {rr : Int32} {hr : AH} (C : Cx X G RX7 cX7_name 1 (some .int) 0 0 h0) (C2 : Cy X l "name" []) (si0 : Int32) (h : AH) (hf : f_X7_name_45 si0 h = some (rr, hr)) : V X G h0 (QI rr hr) 45 [] [.int si0] h := by
  unfold f_X7_name_45 at hf
  cases hf
  exact C.retI rfl (by decide +kernel) ⟨rfl, rfl⟩
def f_X7_name_44 (h : AH) : Option (Int32 × AH) :=
  f_X7_name_45 (-1) h
set_option maxRecDepth 100000 in
set_option maxHeartbeats 4000000 in
theorem l_X7_name_44 {X : MX} {l : Launch} {G : GX} {h0 : AH} {rr : Int32} {hr : AH} (C : Cx X G RX7 cX7_name 1 (some .int) 0 0 h0) (C2 : Cy X l "name" []) (h : AH) (hf : f_X7_name_44 h = some (rr, hr)) : V X G h0 (QI rr hr) 44 [] [] h := by
  unfold f_X7_name_44 at hf
  refine C.seg (pe := 45) (lv' := []) (st' := [.int (-1)]) [(.iconst (-1), 1, (-1))] (by decide +kernel) rfl ?_
  exact l_X7_name_45 C C2 (-1) h hf
def f_X7_name (a0 : Nat) (h : AH) : Option (Int32 × AH) :=
  if isO 7 h a0 = true then
    (gI 7 h a0 4).bind fun x1 =>
    if x1 < 0 then
      f_X7_name_44 h
    else
      (gI 7 h a0 4).bind fun x2 =>
      (gA 7 h a0 7).bind fun a3 =>
      (aN h a3).bind fun x4 =>
      if x4 ≤ x2 then
        f_X7_name_44 h
      else
        (gA 7 h a0 0).bind fun a5 =>
        (gI 7 h a0 4).bind fun x6 =>
        (aI 0 h a5 x6).bind fun x7 =>
        if x7 = 2 then
          (gA 7 h a0 7).bind fun a8 =>
          (gI 7 h a0 4).bind fun x9 =>
          (aI 1 h a8 x9).bind fun x10 =>
          f_X7_name_45 x10 h
        else
          f_X7_name_44 h
  else none
set_option maxRecDepth 100000 in
set_option maxHeartbeats 4000000 in
theorem w_X7_name {l : Launch} {G : GX} {a0 : Nat} {h : AH} {rr : Int32} {hr : AH} (hf : f_X7_name a0 h = some (rr, hr)) : Ct l G yX7_name 0 0 [.ref a0] h (QI rr hr) := by
  unfold f_X7_name at hf
  obtain ⟨ho, hf⟩ := ifO hf
  refine Ct_of (own := RX7) (cc := cX7_name) (nL := 1) (ret := (some .int)) rfl rfl k_973 (Nat.le_of_ble_eq_true rfl) (fun X C2 C => ?_)
  show V X G h (QI rr hr) 0 [(0, .ref a0)] [] h
  refine C.seg (pe := 1) (lv' := [(0, .ref a0)]) (st' := [.ref a0]) [(.aload_n 0, 1, 0)] (by decide +kernel) rfl ?_
  obtain ⟨x1, gx1, hf⟩ := Option.bind_eq_some_iff.mp hf
  refine C.rdI fr_378 gx1 (by decide +kernel) rfl ?_
  refine C.if_lt (off := 40) (tgt := 44) (pf := 7) (by decide +kernel) (by decide) rfl (fun c13 => ?_) (fun c13 => ?_)
  · replace hf := ifp c13 hf
    refine Vsub [] rfl ?_
    exact l_X7_name_44 C C2 h hf
  · replace hf := ifn c13 hf
    refine C.seg (pe := 8) (lv' := [(0, .ref a0)]) (st' := [.ref a0]) [(.aload_n 0, 1, 0)] (by decide +kernel) rfl ?_
    obtain ⟨x2, gx2, hf⟩ := Option.bind_eq_some_iff.mp hf
    refine C.rdI fr_378 gx2 (by decide +kernel) rfl ?_
    refine C.seg (pe := 12) (lv' := [(0, .ref a0)]) (st' := [.ref a0, .int x2]) [(.aload_n 0, 1, 0)] (by decide +kernel) rfl ?_
    obtain ⟨a3, ga3, hf⟩ := Option.bind_eq_some_iff.mp hf
    refine C.rdA fr_374 ga3 (by decide +kernel) rfl ?_
    obtain ⟨x4, gx4, hf⟩ := Option.bind_eq_some_iff.mp hf
    refine C.alen gx4 (by decide +kernel) rfl ?_
    refine C.icmp_ge (off := 28) (tgt := 44) (pf := 19) (by decide +kernel) (by decide) rfl (fun c12 => ?_) (fun c12 => ?_)
    · replace hf := ifp c12 hf
      refine Vsub [] rfl ?_
      exact l_X7_name_44 C C2 h hf
    · replace hf := ifn c12 hf
      refine C.seg (pe := 20) (lv' := [(0, .ref a0)]) (st' := [.ref a0]) [(.aload_n 0, 1, 0)] (by decide +kernel) rfl ?_
      obtain ⟨a5, ga5, hf⟩ := Option.bind_eq_some_iff.mp hf
      refine C.rdA fr_373 ga5 (by decide +kernel) rfl ?_
      refine C.seg (pe := 24) (lv' := [(0, .ref a0)]) (st' := [.ref a0, .ref a5]) [(.aload_n 0, 1, 0)] (by decide +kernel) rfl ?_
      obtain ⟨x6, gx6, hf⟩ := Option.bind_eq_some_iff.mp hf
      refine C.rdI fr_378 gx6 (by decide +kernel) rfl ?_
      obtain ⟨x7, gx7, hf⟩ := Option.bind_eq_some_iff.mp hf
      refine C.ald 0 rfl gx7 (by decide +kernel) rfl ?_
      refine C.seg (pe := 29) (lv' := [(0, .ref a0)]) (st' := [.int 2, .int x7]) [(.iconst 2, 1, 2)] (by decide +kernel) rfl ?_
      refine C.icmp_ne (off := 15) (tgt := 44) (pf := 32) (by decide +kernel) (by decide) rfl (fun c11 => ?_) (fun c11 => ?_)
      · replace hf := ifn c11 hf
        refine Vsub [] rfl ?_
        exact l_X7_name_44 C C2 h hf
      · replace hf := ifp c11 hf
        refine C.seg (pe := 33) (lv' := [(0, .ref a0)]) (st' := [.ref a0]) [(.aload_n 0, 1, 0)] (by decide +kernel) rfl ?_
        obtain ⟨a8, ga8, hf⟩ := Option.bind_eq_some_iff.mp hf
        refine C.rdA fr_374 ga8 (by decide +kernel) rfl ?_
        refine C.seg (pe := 37) (lv' := [(0, .ref a0)]) (st' := [.ref a0, .ref a8]) [(.aload_n 0, 1, 0)] (by decide +kernel) rfl ?_
        obtain ⟨x9, gx9, hf⟩ := Option.bind_eq_some_iff.mp hf
        refine C.rdI fr_378 gx9 (by decide +kernel) rfl ?_
        obtain ⟨x10, gx10, hf⟩ := Option.bind_eq_some_iff.mp hf
        refine C.bald 1 rfl gx10 (by decide +kernel) rfl ?_
        refine C.goto (off := 4) (tgt := 45) (by decide +kernel) (by decide) ?_
        refine Vsub [] rfl ?_
        exact l_X7_name_45 C C2 x10 h hf
theorem o_X7_name {a0 : Nat} {h : AH} {rr : Int32} {hr : AH} (hf : f_X7_name a0 h = some (rr, hr)) : isO 7 h a0 = true := by
  unfold f_X7_name at hf
  exact (ifO hf).1
/-! WallHouse$Tokens.advance()V -/
def f_X7_advance_21 (h : AH) : Option (AH) :=
  some h
set_option maxRecDepth 100000 in
set_option maxHeartbeats 4000000 in
theorem l_X7_advance_21 {X : MX} {l : Launch} {G : GX} {h0 : AH} {hr : AH} (C : Cx X G RX7 cX7_advance 1 none 0 0 h0) (C2 : Cy X l "advance" []) (h : AH) (hf : f_X7_advance_21 h = some hr) : V X G h0 (QV hr) 21 [] [] h := by
  unfold f_X7_advance_21 at hf
  cases hf
  exact C.retV rfl (by decide +kernel) ⟨rfl, rfl⟩
def f_X7_advance (a0 : Nat) (h : AH) : Option (AH) :=
  if isO 7 h a0 = true then
    (gI 7 h a0 4).bind fun x1 =>
    (gI 7 h a0 3).bind fun x2 =>
    if x2 ≤ x1 then
      f_X7_advance_21 h
    else
      (gI 7 h a0 4).bind fun x3 =>
      (pI 7 h a0 4 (x3 + 1)).bind fun h4 =>
      f_X7_advance_21 h4
  else none
set_option maxRecDepth 100000 in
set_option maxHeartbeats 4000000 in
theorem w_X7_advance {l : Launch} {G : GX} {a0 : Nat} {h : AH} {hr : AH} (hf : f_X7_advance a0 h = some hr) : Ct l G yX7_advance 0 0 [.ref a0] h (QV hr) := by
  unfold f_X7_advance at hf
  obtain ⟨ho, hf⟩ := ifO hf
  refine Ct_of (own := RX7) (cc := cX7_advance) (nL := 1) (ret := none) rfl rfl k_981 (Nat.le_of_ble_eq_true rfl) (fun X C2 C => ?_)
  show V X G h (QV hr) 0 [(0, .ref a0)] [] h
  refine C.seg (pe := 1) (lv' := [(0, .ref a0)]) (st' := [.ref a0]) [(.aload_n 0, 1, 0)] (by decide +kernel) rfl ?_
  obtain ⟨x1, gx1, hf⟩ := Option.bind_eq_some_iff.mp hf
  refine C.rdI fr_378 gx1 (by decide +kernel) rfl ?_
  refine C.seg (pe := 5) (lv' := [(0, .ref a0)]) (st' := [.ref a0, .int x1]) [(.aload_n 0, 1, 0)] (by decide +kernel) rfl ?_
  obtain ⟨x2, gx2, hf⟩ := Option.bind_eq_some_iff.mp hf
  refine C.rdI fr_377 gx2 (by decide +kernel) rfl ?_
  refine C.icmp_ge (off := 13) (tgt := 21) (pf := 11) (by decide +kernel) (by decide) rfl (fun c5 => ?_) (fun c5 => ?_)
  · replace hf := ifp c5 hf
    refine Vsub [] rfl ?_
    exact l_X7_advance_21 C C2 h hf
  · replace hf := ifn c5 hf
    refine C.seg (pe := 13) (lv' := [(0, .ref a0)]) (st' := [.ref a0, .ref a0]) [(.aload_n 0, 1, 0), (.dup, 1, 0)] (by decide +kernel) rfl ?_
    obtain ⟨x3, gx3, hf⟩ := Option.bind_eq_some_iff.mp hf
    refine C.rdI fr_378 gx3 (by decide +kernel) rfl ?_
    refine C.seg (pe := 18) (lv' := [(0, .ref a0)]) (st' := [.int (x3 + 1), .ref a0]) [(.iconst 1, 1, 1), (.iadd, 1, 0)] (by decide +kernel) rfl ?_
    obtain ⟨h4, gh4, hf⟩ := Option.bind_eq_some_iff.mp hf
    refine C.putI fl_378 gh4 (by decide +kernel) rfl ?_
    refine Vsub [] rfl ?_
    exact l_X7_advance_21 C C2 h4 hf
theorem o_X7_advance {a0 : Nat} {h : AH} {hr : AH} (hf : f_X7_advance a0 h = some hr) : isO 7 h a0 = true := by
  unfold f_X7_advance at hf
  exact (ifO hf).1
/-! WallHouse$Tokens.value()J -/
def f_X7_value_32 (sj0 : Int64) (h : AH) : Option (Int64 × AH) :=
  some (sj0, h)
set_option maxRecDepth 100000 in
set_option maxHeartbeats 4000000 in
theorem l_X7_value_32 {X : MX} {l : Launch} {G : GX} {h0 : AH} {rr : Int64} {hr : AH} (C : Cx X G RX7 cX7_value 1 (some .long) 0 0 h0) (C2 : Cy X l "value" []) (sj0 : Int64) (h : AH) (hf : f_X7_value_32 sj0 h = some (rr, hr)) : V X G h0 (QJ rr hr) 32 [] [.long sj0] h := by
  unfold f_X7_value_32 at hf
  cases hf
  exact C.retL rfl (by decide +kernel) ⟨rfl, rfl⟩
def f_X7_value_31 (h : AH) : Option (Int64 × AH) :=
  f_X7_value_32 ((Int64.ofNat 0)) h
set_option maxRecDepth 100000 in
set_option maxHeartbeats 4000000 in
theorem l_X7_value_31 {X : MX} {l : Launch} {G : GX} {h0 : AH} {rr : Int64} {hr : AH} (C : Cx X G RX7 cX7_value 1 (some .long) 0 0 h0) (C2 : Cy X l "value" []) (h : AH) (hf : f_X7_value_31 h = some (rr, hr)) : V X G h0 (QJ rr hr) 31 [] [] h := by
  unfold f_X7_value_31 at hf
  refine C.seg (pe := 32) (lv' := []) (st' := [.long ((Int64.ofNat 0))]) [(.lconst 0, 1, 0)] (by decide +kernel) rfl ?_
  exact l_X7_value_32 C C2 ((Int64.ofNat 0)) h hf
def f_X7_value (a0 : Nat) (h : AH) : Option (Int64 × AH) :=
  if isO 7 h a0 = true then
    (gI 7 h a0 4).bind fun x1 =>
    if x1 < 0 then
      f_X7_value_31 h
    else
      (gI 7 h a0 4).bind fun x2 =>
      (gA 7 h a0 2).bind fun a3 =>
      (aN h a3).bind fun x4 =>
      if x4 ≤ x2 then
        f_X7_value_31 h
      else
        (gA 7 h a0 2).bind fun a5 =>
        (gI 7 h a0 4).bind fun x6 =>
        (aL h a5 x6).bind fun y7 =>
        f_X7_value_32 y7 h
  else none
set_option maxRecDepth 100000 in
set_option maxHeartbeats 4000000 in
theorem w_X7_value {l : Launch} {G : GX} {a0 : Nat} {h : AH} {rr : Int64} {hr : AH} (hf : f_X7_value a0 h = some (rr, hr)) : Ct l G yX7_value 0 0 [.ref a0] h (QJ rr hr) := by
  unfold f_X7_value at hf
  obtain ⟨ho, hf⟩ := ifO hf
  refine Ct_of (own := RX7) (cc := cX7_value) (nL := 1) (ret := (some .long)) rfl rfl k_993 (Nat.le_of_ble_eq_true rfl) (fun X C2 C => ?_)
  show V X G h (QJ rr hr) 0 [(0, .ref a0)] [] h
  refine C.seg (pe := 1) (lv' := [(0, .ref a0)]) (st' := [.ref a0]) [(.aload_n 0, 1, 0)] (by decide +kernel) rfl ?_
  obtain ⟨x1, gx1, hf⟩ := Option.bind_eq_some_iff.mp hf
  refine C.rdI fr_378 gx1 (by decide +kernel) rfl ?_
  refine C.if_lt (off := 27) (tgt := 31) (pf := 7) (by decide +kernel) (by decide) rfl (fun c9 => ?_) (fun c9 => ?_)
  · replace hf := ifp c9 hf
    refine Vsub [] rfl ?_
    exact l_X7_value_31 C C2 h hf
  · replace hf := ifn c9 hf
    refine C.seg (pe := 8) (lv' := [(0, .ref a0)]) (st' := [.ref a0]) [(.aload_n 0, 1, 0)] (by decide +kernel) rfl ?_
    obtain ⟨x2, gx2, hf⟩ := Option.bind_eq_some_iff.mp hf
    refine C.rdI fr_378 gx2 (by decide +kernel) rfl ?_
    refine C.seg (pe := 12) (lv' := [(0, .ref a0)]) (st' := [.ref a0, .int x2]) [(.aload_n 0, 1, 0)] (by decide +kernel) rfl ?_
    obtain ⟨a3, ga3, hf⟩ := Option.bind_eq_some_iff.mp hf
    refine C.rdA fr_376 ga3 (by decide +kernel) rfl ?_
    obtain ⟨x4, gx4, hf⟩ := Option.bind_eq_some_iff.mp hf
    refine C.alen gx4 (by decide +kernel) rfl ?_
    refine C.icmp_ge (off := 15) (tgt := 31) (pf := 19) (by decide +kernel) (by decide) rfl (fun c8 => ?_) (fun c8 => ?_)
    · replace hf := ifp c8 hf
      refine Vsub [] rfl ?_
      exact l_X7_value_31 C C2 h hf
    · replace hf := ifn c8 hf
      refine C.seg (pe := 20) (lv' := [(0, .ref a0)]) (st' := [.ref a0]) [(.aload_n 0, 1, 0)] (by decide +kernel) rfl ?_
      obtain ⟨a5, ga5, hf⟩ := Option.bind_eq_some_iff.mp hf
      refine C.rdA fr_376 ga5 (by decide +kernel) rfl ?_
      refine C.seg (pe := 24) (lv' := [(0, .ref a0)]) (st' := [.ref a0, .ref a5]) [(.aload_n 0, 1, 0)] (by decide +kernel) rfl ?_
      obtain ⟨x6, gx6, hf⟩ := Option.bind_eq_some_iff.mp hf
      refine C.rdI fr_378 gx6 (by decide +kernel) rfl ?_
      obtain ⟨y7, gy7, hf⟩ := Option.bind_eq_some_iff.mp hf
      refine C.lald gy7 (by decide +kernel) rfl ?_
      refine C.goto (off := 4) (tgt := 32) (by decide +kernel) (by decide) ?_
      refine Vsub [] rfl ?_
      exact l_X7_value_32 C C2 y7 h hf
theorem o_X7_value {a0 : Nat} {h : AH} {rr : Int64} {hr : AH} (hf : f_X7_value a0 h = some (rr, hr)) : isO 7 h a0 = true := by
  unfold f_X7_value at hf
  exact (ifO hf).1
/-! WallHouse$Tokens.sign()I -/
def f_X7_sign_17 (si0 : Int32) (h : AH) : Option (Int32 × AH) :=
  some (si0, h)
set_option maxRecDepth 100000 in
set_option maxHeartbeats 4000000 in
theorem l_X7_sign_17 {X : MX} {l : Launch} {G : GX} {h0 : AH} {rr : Int32} {hr : AH} (C : Cx X G RX7 cX7_sign 1 (some .int) 1 20 h0) (C2 : Cy X l "sign" []) (si0 : Int32) (h : AH) (hf : f_X7_sign_17 si0 h = some (rr, hr)) : V X G h0 (QI rr hr) 17 [] [.int si0] h := by
  unfold f_X7_sign_17 at hf
  cases hf
  exact C.retI rfl (by decide +kernel) ⟨rfl, rfl⟩
def f_X7_sign (a0 : Nat) (h : AH) : Option (Int32 × AH) :=
  if isO 7 h a0 = true then
    b2 (f_X7_kind a0 h) fun x1 h2 =>
    if x1 = 4 then
      b2 (f_X7_value a0 h2) fun y3 h4 =>
      f_X7_sign_17 y3.toInt32 h4
    else
      f_X7_sign_17 0 h2
  else none
set_option maxRecDepth 100000 in
set_option maxHeartbeats 4000000 in
theorem w_X7_sign {l : Launch} {G : GX} {a0 : Nat} {h : AH} {rr : Int32} {hr : AH} (hf : f_X7_sign a0 h = some (rr, hr)) : Ct l G yX7_sign 1 20 [.ref a0] h (QI rr hr) := by
  unfold f_X7_sign at hf
  obtain ⟨ho, hf⟩ := ifO hf
  refine Ct_of (own := RX7) (cc := cX7_sign) (nL := 1) (ret := (some .int)) rfl rfl k_1001 (Nat.le_of_ble_eq_true rfl) (fun X C2 C => ?_)
  show V X G h (QI rr hr) 0 [(0, .ref a0)] [] h
  refine C.seg (pe := 1) (lv' := [(0, .ref a0)]) (st' := [.ref a0]) [(.aload_n 0, 1, 0)] (by decide +kernel) rfl ?_
  obtain ⟨x1, h2, gx1, hf⟩ := b2_some hf
  refine C.callVr C2 [] [] mv_1002 rfl (o_X7_kind gx1) (w_X7_kind gx1) (by omega) (by omega) (Nat.le_of_ble_eq_true rfl) (by decide +kernel) rfl ?_
  refine C.seg (pe := 5) (lv' := [(0, .ref a0)]) (st' := [.int 4, .int x1]) [(.iconst 4, 1, 4)] (by decide +kernel) rfl ?_
  refine C.icmp_ne (off := 11) (tgt := 16) (pf := 8) (by decide +kernel) (by decide) rfl (fun c5 => ?_) (fun c5 => ?_)
  · replace hf := ifn c5 hf
    refine C.seg (pe := 17) (lv' := [(0, .ref a0)]) (st' := [.int 0]) [(.iconst 0, 1, 0)] (by decide +kernel) rfl ?_
    refine Vsub [] rfl ?_
    exact l_X7_sign_17 C C2 0 h2 hf
  · replace hf := ifp c5 hf
    refine C.seg (pe := 9) (lv' := [(0, .ref a0)]) (st' := [.ref a0]) [(.aload_n 0, 1, 0)] (by decide +kernel) rfl ?_
    obtain ⟨y3, h4, gy3, hf⟩ := b2_some hf
    refine C.callVr C2 [] [] mv_1003 rfl (o_X7_value gy3) (w_X7_value gy3) (by omega) (by omega) (Nat.le_of_ble_eq_true rfl) (by decide +kernel) rfl ?_
    refine C.seg (pe := 13) (lv' := [(0, .ref a0)]) (st' := [.int y3.toInt32]) [(.l2i, 1, 0)] (by decide +kernel) rfl ?_
    refine C.goto (off := 4) (tgt := 17) (by decide +kernel) (by decide) ?_
    refine Vsub [] rfl ?_
    exact l_X7_sign_17 C C2 y3.toInt32 h4 hf
theorem o_X7_sign {a0 : Nat} {h : AH} {rr : Int32} {hr : AH} (hf : f_X7_sign a0 h = some (rr, hr)) : isO 7 h a0 = true := by
  unfold f_X7_sign at hf
  exact (ifO hf).1
