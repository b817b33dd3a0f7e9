/-! WallHouseModel.weather(III)Z -/
def f_X15_weather_41 (r0 : Nat) (h : AH) : Option (Int32 × AH) :=
  b2 (f_X15_denied r0 2 h) fun x1 h2 =>
  (ckZ x1).bind fun x3 =>
  some (x3, h2)
set_option maxRecDepth 100000 in
set_option maxHeartbeats 4000000 in
theorem l_X15_weather_41 {X : MX} {l : Launch} {G : GX} {h0 : AH} {rr : Int32} {hr : AH} (C : Cx X G RX15 cX15_weather 4 (some .boolean) 1 22 h0) (C2 : Cy X l "weather" []) (r0 : Nat) (h : AH) (hf : f_X15_weather_41 r0 h = some (rr, hr)) : V X G h0 (QI rr hr) 41 [(0, .ref r0)] [] h := by
  unfold f_X15_weather_41 at hf
  refine C.seg (pe := 43) (lv' := [(0, .ref r0)]) (st' := [.int 2, .ref r0]) [(.aload_n 0, 1, 0), (.iconst 2, 1, 2)] (by decide +kernel) rfl ?_
  obtain ⟨x1, h2, gx1, hf⟩ := b2_some hf
  refine C.callVr C2 [.int 2] [] mv_2152 rfl (o_X15_denied gx1) (w_X15_denied gx1) (by omega) (by omega) (Nat.le_of_ble_eq_true rfl) (by decide +kernel) rfl ?_
  obtain ⟨x3, gx3, hf⟩ := Option.bind_eq_some_iff.mp hf
  have ex3 := ckZ_eq gx3
  subst ex3
  cases hf
  exact C.retZ rfl gx3 (by decide +kernel) ⟨rfl, rfl⟩
def f_X15_weather (a0 : Nat) (p1 : Int32) (p2 : Int32) (p3 : Int32) (h : AH) : Option (Int32 × AH) :=
  if isO 15 h a0 = true then
    (pI 15 h a0 0 0).bind fun h1 =>
    (gI 15 h1 a0 5).bind fun x2 =>
    b2 (f_X15_in p1 x2 3649 h1) fun x3 h4 =>
    if x3 = 0 then
      f_X15_weather_41 a0 h4
    else
      b2 (f_X15_in p2 (-40) 50 h4) fun x5 h6 =>
      if x5 = 0 then
        f_X15_weather_41 a0 h6
      else
        b2 (f_X15_in p3 0 200 h6) fun x7 h8 =>
        if x7 = 0 then
          f_X15_weather_41 a0 h8
        else
          (gA 15 h8 a0 89).bind fun a9 =>
          (sI 0 h8 a9 p1 p2).bind fun h10 =>
          (gA 15 h10 a0 90).bind fun a11 =>
          (sI 0 h10 a11 p1 p3).bind fun h12 =>
          b2 (f_X15_granted a0 h12) fun x13 h14 =>
          (ckZ x13).bind fun x15 =>
          some (x15, h14)
  else none
set_option maxRecDepth 100000 in
set_option maxHeartbeats 4000000 in
theorem w_X15_weather {l : Launch} {G : GX} {a0 : Nat} {p1 : Int32} {p2 : Int32} {p3 : Int32} {h : AH} {rr : Int32} {hr : AH} (hf : f_X15_weather a0 p1 p2 p3 h = some (rr, hr)) : Ct l G yX15_weather 1 22 [.ref a0, .int p1, .int p2, .int p3] h (QI rr hr) := by
  unfold f_X15_weather at hf
  obtain ⟨ho, hf⟩ := ifO hf
  refine Ct_of (own := RX15) (cc := cX15_weather) (nL := 4) (ret := (some .boolean)) rfl rfl k_2429 (Nat.le_of_ble_eq_true rfl) (fun X C2 C => ?_)
  show V X G h (QI rr hr) 0 [(0, .ref a0), (1, .int p1), (2, .int p2), (3, .int p3)] [] h
  refine C.seg (pe := 2) (lv' := [(0, .ref a0), (1, .int p1), (2, .int p2), (3, .int p3)]) (st' := [.int 0, .ref a0]) [(.aload_n 0, 1, 0), (.iconst 0, 1, 0)] (by decide +kernel) rfl ?_
  obtain ⟨h1, gh1, hf⟩ := Option.bind_eq_some_iff.mp hf
  refine C.putI fl_1786 gh1 (by decide +kernel) rfl ?_
  refine C.seg (pe := 7) (lv' := [(0, .ref a0), (1, .int p1), (2, .int p2), (3, .int p3)]) (st' := [.ref a0, .int p1]) [(.iload_n 1, 1, 0), (.aload_n 0, 1, 0)] (by decide +kernel) rfl ?_
  obtain ⟨x2, gx2, hf⟩ := Option.bind_eq_some_iff.mp hf
  refine C.rdI fr_1791 gx2 (by decide +kernel) rfl ?_
  refine C.seg (pe := 13) (lv' := [(0, .ref a0), (1, .int p1), (2, .int p2), (3, .int p3)]) (st' := [.int 3649, .int x2, .int p1]) [(.sipush 3649, 3, 3649)] (by decide +kernel) rfl ?_
  obtain ⟨x3, h4, gx3, hf⟩ := b2_some hf
  refine C.callSr C2 [.int p1, .int x2, .int 3649] [] ms_2109 rfl (w_X15_in gx3) (by omega) (by omega) (Nat.le_of_ble_eq_true rfl) (by decide +kernel) rfl ?_
  refine C.if_eq (off := 25) (tgt := 41) (pf := 19) (by decide +kernel) (by decide) rfl (fun c18 => ?_) (fun c18 => ?_)
  · replace hf := ifp c18 hf
    refine Vsub [0] rfl ?_
    exact l_X15_weather_41 C C2 a0 h4 hf
  · replace hf := ifn c18 hf
    refine C.seg (pe := 24) (lv' := [(0, .ref a0), (1, .int p1), (2, .int p2), (3, .int p3)]) (st' := [.int 50, .int (-40), .int p2]) [(.iload_n 2, 1, 0), (.bipush (-40), 2, (-40)), (.bipush 50, 2, 50)] (by decide +kernel) rfl ?_
    obtain ⟨x5, h6, gx5, hf⟩ := b2_some hf
    refine C.callSr C2 [.int p2, .int (-40), .int 50] [] ms_2109 rfl (w_X15_in gx5) (by omega) (by omega) (Nat.le_of_ble_eq_true rfl) (by decide +kernel) rfl ?_
    refine C.if_eq (off := 14) (tgt := 41) (pf := 30) (by decide +kernel) (by decide) rfl (fun c17 => ?_) (fun c17 => ?_)
    · replace hf := ifp c17 hf
      refine Vsub [0] rfl ?_
      exact l_X15_weather_41 C C2 a0 h6 hf
    · replace hf := ifn c17 hf
      refine C.seg (pe := 35) (lv' := [(0, .ref a0), (1, .int p1), (2, .int p2), (3, .int p3)]) (st' := [.int 200, .int 0, .int p3]) [(.iload_n 3, 1, 0), (.iconst 0, 1, 0), (.sipush 200, 3, 200)] (by decide +kernel) rfl ?_
      obtain ⟨x7, h8, gx7, hf⟩ := b2_some hf
      refine C.callSr C2 [.int p3, .int 0, .int 200] [] ms_2109 rfl (w_X15_in gx7) (by omega) (by omega) (Nat.le_of_ble_eq_true rfl) (by decide +kernel) rfl ?_
      refine C.if_ne (off := 9) (tgt := 47) (pf := 41) (by decide +kernel) (by decide) rfl (fun c16 => ?_) (fun c16 => ?_)
      · replace hf := ifn c16 hf
        refine C.seg (pe := 48) (lv' := [(0, .ref a0), (1, .int p1), (2, .int p2), (3, .int p3)]) (st' := [.ref a0]) [(.aload_n 0, 1, 0)] (by decide +kernel) rfl ?_
        obtain ⟨a9, ga9, hf⟩ := Option.bind_eq_some_iff.mp hf
        refine C.rdA fr_1875 ga9 (by decide +kernel) rfl ?_
        refine C.seg (pe := 53) (lv' := [(0, .ref a0), (1, .int p1), (2, .int p2), (3, .int p3)]) (st' := [.int p2, .int p1, .ref a9]) [(.iload_n 1, 1, 0), (.iload_n 2, 1, 0)] (by decide +kernel) rfl ?_
        obtain ⟨h10, gh10, hf⟩ := Option.bind_eq_some_iff.mp hf
        refine C.ast gh10 (by decide +kernel) rfl ?_
        refine C.seg (pe := 55) (lv' := [(0, .ref a0), (1, .int p1), (2, .int p2), (3, .int p3)]) (st' := [.ref a0]) [(.aload_n 0, 1, 0)] (by decide +kernel) rfl ?_
        obtain ⟨a11, ga11, hf⟩ := Option.bind_eq_some_iff.mp hf
        refine C.rdA fr_1876 ga11 (by decide +kernel) rfl ?_
        refine C.seg (pe := 60) (lv' := [(0, .ref a0), (1, .int p1), (2, .int p2), (3, .int p3)]) (st' := [.int p3, .int p1, .ref a11]) [(.iload_n 1, 1, 0), (.iload_n 3, 1, 0)] (by decide +kernel) rfl ?_
        obtain ⟨h12, gh12, hf⟩ := Option.bind_eq_some_iff.mp hf
        refine C.ast gh12 (by decide +kernel) rfl ?_
        refine C.seg (pe := 62) (lv' := [(0, .ref a0), (1, .int p1), (2, .int p2), (3, .int p3)]) (st' := [.ref a0]) [(.aload_n 0, 1, 0)] (by decide +kernel) rfl ?_
        obtain ⟨x13, h14, gx13, hf⟩ := b2_some hf
        refine C.callVr C2 [] [] mv_2156 rfl (o_X15_granted gx13) (w_X15_granted gx13) (by omega) (by omega) (Nat.le_of_ble_eq_true rfl) (by decide +kernel) rfl ?_
        obtain ⟨x15, gx15, hf⟩ := Option.bind_eq_some_iff.mp hf
        have ex15 := ckZ_eq gx15
        subst ex15
        cases hf
        exact C.retZ rfl gx15 (by decide +kernel) ⟨rfl, rfl⟩
      · replace hf := ifp c16 hf
        refine Vsub [0] rfl ?_
        exact l_X15_weather_41 C C2 a0 h8 hf
theorem o_X15_weather {a0 : Nat} {p1 : Int32} {p2 : Int32} {p3 : Int32} {h : AH} {rr : Int32} {hr : AH} (hf : f_X15_weather a0 p1 p2 p3 h = some (rr, hr)) : isO 15 h a0 = true := by
  unfold f_X15_weather at hf
  exact (ifO hf).1
/-! WallHouseModel.lifts(I)Z -/
def f_X15_lifts (a0 : Nat) (p1 : Int32) (h : AH) : Option (Int32 × AH) :=
  if isO 15 h a0 = true then
    (pI 15 h a0 0 0).bind fun h1 =>
    b2 (f_X15_in p1 1 5 h1) fun x2 h3 =>
    if x2 = 0 then
      b2 (f_X15_denied a0 2 h3) fun x8 h9 =>
      (ckZ x8).bind fun x10 =>
      some (x10, h9)
    else
      (pI 15 h3 a0 78 p1).bind fun h4 =>
      b2 (f_X15_granted a0 h4) fun x5 h6 =>
      (ckZ x5).bind fun x7 =>
      some (x7, h6)
  else none
set_option maxRecDepth 100000 in
set_option maxHeartbeats 4000000 in
theorem w_X15_lifts {l : Launch} {G : GX} {a0 : Nat} {p1 : Int32} {h : AH} {rr : Int32} {hr : AH} (hf : f_X15_lifts a0 p1 h = some (rr, hr)) : Ct l G yX15_lifts 1 22 [.ref a0, .int p1] h (QI rr hr) := by
  unfold f_X15_lifts at hf
  obtain ⟨ho, hf⟩ := ifO hf
  refine Ct_of (own := RX15) (cc := cX15_lifts) (nL := 2) (ret := (some .boolean)) rfl rfl k_2433 (Nat.le_of_ble_eq_true rfl) (fun X C2 C => ?_)
  show V X G h (QI rr hr) 0 [(0, .ref a0), (1, .int p1)] [] h
  refine C.seg (pe := 2) (lv' := [(0, .ref a0), (1, .int p1)]) (st' := [.int 0, .ref a0]) [(.aload_n 0, 1, 0), (.iconst 0, 1, 0)] (by decide +kernel) rfl ?_
  obtain ⟨h1, gh1, hf⟩ := Option.bind_eq_some_iff.mp hf
  refine C.putI fl_1786 gh1 (by decide +kernel) rfl ?_
  refine C.seg (pe := 8) (lv' := [(0, .ref a0), (1, .int p1)]) (st' := [.int 5, .int 1, .int p1]) [(.iload_n 1, 1, 0), (.iconst 1, 1, 1), (.iconst 5, 1, 5)] (by decide +kernel) rfl ?_
  obtain ⟨x2, h3, gx2, hf⟩ := b2_some hf
  refine C.callSr C2 [.int p1, .int 1, .int 5] [] ms_2109 rfl (w_X15_in gx2) (by omega) (by omega) (Nat.le_of_ble_eq_true rfl) (by decide +kernel) rfl ?_
  refine C.if_ne (off := 9) (tgt := 20) (pf := 14) (by decide +kernel) (by decide) rfl (fun c11 => ?_) (fun c11 => ?_)
  · replace hf := ifn c11 hf
    refine C.seg (pe := 22) (lv' := [(0, .ref a0), (1, .int p1)]) (st' := [.int p1, .ref a0]) [(.aload_n 0, 1, 0), (.iload_n 1, 1, 0)] (by decide +kernel) rfl ?_
    obtain ⟨h4, gh4, hf⟩ := Option.bind_eq_some_iff.mp hf
    refine C.putI fl_1864 gh4 (by decide +kernel) rfl ?_
    refine C.seg (pe := 26) (lv' := [(0, .ref a0), (1, .int p1)]) (st' := [.ref a0]) [(.aload_n 0, 1, 0)] (by decide +kernel) rfl ?_
    obtain ⟨x5, h6, gx5, hf⟩ := b2_some hf
    refine C.callVr C2 [] [] mv_2156 rfl (o_X15_granted gx5) (w_X15_granted gx5) (by omega) (by omega) (Nat.le_of_ble_eq_true rfl) (by decide +kernel) rfl ?_
    obtain ⟨x7, gx7, hf⟩ := Option.bind_eq_some_iff.mp hf
    have ex7 := ckZ_eq gx7
    subst ex7
    cases hf
    exact C.retZ rfl gx7 (by decide +kernel) ⟨rfl, rfl⟩
  · replace hf := ifp c11 hf
    refine C.seg (pe := 16) (lv' := [(0, .ref a0), (1, .int p1)]) (st' := [.int 2, .ref a0]) [(.aload_n 0, 1, 0), (.iconst 2, 1, 2)] (by decide +kernel) rfl ?_
    obtain ⟨x8, h9, gx8, hf⟩ := b2_some hf
    refine C.callVr C2 [.int 2] [] mv_2152 rfl (o_X15_denied gx8) (w_X15_denied gx8) (by omega) (by omega) (Nat.le_of_ble_eq_true rfl) (by decide +kernel) rfl ?_
    obtain ⟨x10, gx10, hf⟩ := Option.bind_eq_some_iff.mp hf
    have ex10 := ckZ_eq gx10
    subst ex10
    cases hf
    exact C.retZ rfl gx10 (by decide +kernel) ⟨rfl, rfl⟩
theorem o_X15_lifts {a0 : Nat} {p1 : Int32} {h : AH} {rr : Int32} {hr : AH} (hf : f_X15_lifts a0 p1 h = some (rr, hr)) : isO 15 h a0 = true := by
  unfold f_X15_lifts at hf
  exact (ifO hf).1
/-! WallHouseModel.copies()V -/
def f_X15_copies_2 : Nat → Nat → Int32 → AH → Option (AH)
  | 0, _, _, _ => none
  | n + 1, r0, i1, h =>
    (gI 15 h r0 76).bind fun x1 =>
    if x1 ≤ i1 then
      some h
    else
      (gA 15 h r0 93).bind fun a2 =>
      (gA 15 h r0 82).bind fun a3 =>
      (aI 0 h a3 i1).bind fun x4 =>
      (sI 0 h a2 i1 x4).bind fun h5 =>
      (gA 15 h5 r0 94).bind fun a6 =>
      (gA 15 h5 r0 83).bind fun a7 =>
      (aI 0 h5 a7 i1).bind fun x8 =>
      (sI 0 h5 a6 i1 x8).bind fun h9 =>
      (f_X15_copies_2 n) r0 (i1 + 1) h9
set_option maxRecDepth 100000 in
set_option maxHeartbeats 4000000 in
theorem l_X15_copies_2 {X : MX} {l : Launch} {G : GX} {h0 : AH} {hr : AH} (C : Cx X G RX15 cX15_copies 2 none 0 0 h0) (C2 : Cy X l "copies" []) : ∀ (n : Nat) (r0 : Nat) (i1 : Int32) (h : AH), f_X15_copies_2 n r0 i1 h = some hr → V X G h0 (QV hr) 2 [(0, .ref r0), (1, .int i1)] [] h := by
  intro n
  induction n with
  | zero => intro r0 i1 h hf; rw [f_X15_copies_2] at hf; cases hf
  | succ n ih =>
    intro r0 i1 h hf
    rw [f_X15_copies_2] at hf
    refine C.seg (pe := 4) (lv' := [(0, .ref r0), (1, .int i1)]) (st' := [.ref r0, .int i1]) [(.iload_n 1, 1, 0), (.aload_n 0, 1, 0)] (by decide +kernel) rfl ?_
    obtain ⟨x1, gx1, hf⟩ := Option.bind_eq_some_iff.mp hf
    refine C.rdI fr_1862 gx1 (by decide +kernel) rfl ?_
    refine C.icmp_ge (off := 33) (tgt := 40) (pf := 10) (by decide +kernel) (by decide) rfl (fun c10 => ?_) (fun c10 => ?_)
    · replace hf := ifp c10 hf
      cases hf
      exact C.retV rfl (by decide +kernel) ⟨rfl, rfl⟩
    · replace hf := ifn c10 hf
      refine C.seg (pe := 11) (lv' := [(0, .ref r0), (1, .int i1)]) (st' := [.ref r0]) [(.aload_n 0, 1, 0)] (by decide +kernel) rfl ?_
      obtain ⟨a2, ga2, hf⟩ := Option.bind_eq_some_iff.mp hf
      refine C.rdA fr_1879 ga2 (by decide +kernel) rfl ?_
      refine C.seg (pe := 16) (lv' := [(0, .ref r0), (1, .int i1)]) (st' := [.ref r0, .int i1, .ref a2]) [(.iload_n 1, 1, 0), (.aload_n 0, 1, 0)] (by decide +kernel) rfl ?_
      obtain ⟨a3, ga3, hf⟩ := Option.bind_eq_some_iff.mp hf
      refine C.rdA fr_1868 ga3 (by decide +kernel) rfl ?_
      refine C.seg (pe := 20) (lv' := [(0, .ref r0), (1, .int i1)]) (st' := [.int i1, .ref a3, .int i1, .ref a2]) [(.iload_n 1, 1, 0)] (by decide +kernel) rfl ?_
      obtain ⟨x4, gx4, hf⟩ := Option.bind_eq_some_iff.mp hf
      refine C.ald 0 rfl gx4 (by decide +kernel) rfl ?_
      obtain ⟨h5, gh5, hf⟩ := Option.bind_eq_some_iff.mp hf
      refine C.ast gh5 (by decide +kernel) rfl ?_
      refine C.seg (pe := 23) (lv' := [(0, .ref r0), (1, .int i1)]) (st' := [.ref r0]) [(.aload_n 0, 1, 0)] (by decide +kernel) rfl ?_
      obtain ⟨a6, ga6, hf⟩ := Option.bind_eq_some_iff.mp hf
      refine C.rdA fr_1880 ga6 (by decide +kernel) rfl ?_
      refine C.seg (pe := 28) (lv' := [(0, .ref r0), (1, .int i1)]) (st' := [.ref r0, .int i1, .ref a6]) [(.iload_n 1, 1, 0), (.aload_n 0, 1, 0)] (by decide +kernel) rfl ?_
      obtain ⟨a7, ga7, hf⟩ := Option.bind_eq_some_iff.mp hf
      refine C.rdA fr_1869 ga7 (by decide +kernel) rfl ?_
      refine C.seg (pe := 32) (lv' := [(0, .ref r0), (1, .int i1)]) (st' := [.int i1, .ref a7, .int i1, .ref a6]) [(.iload_n 1, 1, 0)] (by decide +kernel) rfl ?_
      obtain ⟨x8, gx8, hf⟩ := Option.bind_eq_some_iff.mp hf
      refine C.ald 0 rfl gx8 (by decide +kernel) rfl ?_
      obtain ⟨h9, gh9, hf⟩ := Option.bind_eq_some_iff.mp hf
      refine C.ast gh9 (by decide +kernel) rfl ?_
      refine C.seg (pe := 37) (lv' := [(1, .int (i1 + 1)), (0, .ref r0)]) (st' := []) [(.iinc 1 1, 3, 1)] (by decide +kernel) rfl ?_
      refine C.goto (off := (-35)) (tgt := 2) (by decide +kernel) (by decide) ?_
      refine Vsub [1, 0] rfl ?_
      exact ih r0 (i1 + 1) h9 hf
def f_X15_copies (a0 : Nat) (h : AH) : Option (AH) :=
  if isO 15 h a0 = true then
    f_X15_copies_2 FU a0 0 h
  else none
set_option maxRecDepth 100000 in
set_option maxHeartbeats 4000000 in
theorem w_X15_copies {l : Launch} {G : GX} {a0 : Nat} {h : AH} {hr : AH} (hf : f_X15_copies a0 h = some hr) : Ct l G yX15_copies 0 0 [.ref a0] h (QV hr) := by
  unfold f_X15_copies at hf
  obtain ⟨ho, hf⟩ := ifO hf
  refine Ct_of (own := RX15) (cc := cX15_copies) (nL := 2) (ret := none) rfl rfl k_2441 (Nat.le_of_ble_eq_true rfl) (fun X C2 C => ?_)
  show V X G h (QV hr) 0 [(0, .ref a0)] [] h
  refine C.seg (pe := 2) (lv' := [(1, .int 0), (0, .ref a0)]) (st' := []) [(.iconst 0, 1, 0), (.istore_n 1, 1, 0)] (by decide +kernel) rfl ?_
  refine Vsub [1, 0] rfl ?_
  exact l_X15_copies_2 C C2 FU a0 0 h hf
theorem o_X15_copies {a0 : Nat} {h : AH} {hr : AH} (hf : f_X15_copies a0 h = some hr) : isO 15 h a0 = true := by
  unfold f_X15_copies at hf
  exact (ifO hf).1
/-! WallHouseModel.isGood(I)Z -/
def f_X15_isGood_36 (si0 : Int32) (h : AH) : Option (Int32 × AH) :=
  (ckZ si0).bind fun x1 =>
  some (x1, h)
set_option maxRecDepth 100000 in
set_option maxHeartbeats 4000000 in
theorem l_X15_isGood_36 {X : MX} {l : Launch} {G : GX} {h0 : AH} {rr : Int32} {hr : AH} (C : Cx X G RX15 cX15_isGood 2 (some .boolean) 0 0 h0) (C2 : Cy X l "isGood" []) (si0 : Int32) (h : AH) (hf : f_X15_isGood_36 si0 h = some (rr, hr)) : V X G h0 (QI rr hr) 36 [] [.int si0] h := by
  unfold f_X15_isGood_36 at hf
  obtain ⟨x1, gx1, hf⟩ := Option.bind_eq_some_iff.mp hf
  have ex1 := ckZ_eq gx1
  subst ex1
  cases hf
  exact C.retZ rfl gx1 (by decide +kernel) ⟨rfl, rfl⟩
def f_X15_isGood_35 (h : AH) : Option (Int32 × AH) :=
  f_X15_isGood_36 0 h
set_option maxRecDepth 100000 in
set_option maxHeartbeats 4000000 in
theorem l_X15_isGood_35 {X : MX} {l : Launch} {G : GX} {h0 : AH} {rr : Int32} {hr : AH} (C : Cx X G RX15 cX15_isGood 2 (some .boolean) 0 0 h0) (C2 : Cy X l "isGood" []) (h : AH) (hf : f_X15_isGood_35 h = some (rr, hr)) : V X G h0 (QI rr hr) 35 [] [] h := by
  unfold f_X15_isGood_35 at hf
  refine C.seg (pe := 36) (lv' := []) (st' := [.int 0]) [(.iconst 0, 1, 0)] (by decide +kernel) rfl ?_
  exact l_X15_isGood_36 C C2 0 h hf
def f_X15_isGood (a0 : Nat) (p1 : Int32) (h : AH) : Option (Int32 × AH) :=
  if isO 15 h a0 = true then
    (gA 15 h a0 89).bind fun a1 =>
    (aI 0 h a1 p1).bind fun x2 =>
    if x2 = 1000000 then
      f_X15_isGood_35 h
    else
      (gA 15 h a0 89).bind fun a3 =>
      (aI 0 h a3 p1).bind fun x4 =>
      if x4 < 10 then
        f_X15_isGood_35 h
      else
        (gA 15 h a0 90).bind fun a5 =>
        (aI 0 h a5 p1).bind fun x6 =>
        if x6 = 0 then
          f_X15_isGood_36 1 h
        else
          f_X15_isGood_35 h
  else none
set_option maxRecDepth 100000 in
set_option maxHeartbeats 4000000 in
theorem w_X15_isGood {l : Launch} {G : GX} {a0 : Nat} {p1 : Int32} {h : AH} {rr : Int32} {hr : AH} (hf : f_X15_isGood a0 p1 h = some (rr, hr)) : Ct l G yX15_isGood 0 0 [.ref a0, .int p1] h (QI rr hr) := by
  unfold f_X15_isGood at hf
  obtain ⟨ho, hf⟩ := ifO hf
  refine Ct_of (own := RX15) (cc := cX15_isGood) (nL := 2) (ret := (some .boolean)) rfl rfl k_2445 (Nat.le_of_ble_eq_true rfl) (fun X C2 C => ?_)
  show V X G h (QI rr hr) 0 [(0, .ref a0), (1, .int p1)] [] h
  refine C.seg (pe := 1) (lv' := [(0, .ref a0), (1, .int p1)]) (st' := [.ref a0]) [(.aload_n 0, 1, 0)] (by decide +kernel) rfl ?_
  obtain ⟨a1, ga1, hf⟩ := Option.bind_eq_some_iff.mp hf
  refine C.rdA fr_1875 ga1 (by decide +kernel) rfl ?_
  refine C.seg (pe := 5) (lv' := [(0, .ref a0), (1, .int p1)]) (st' := [.int p1, .ref a1]) [(.iload_n 1, 1, 0)] (by decide +kernel) rfl ?_
  obtain ⟨x2, gx2, hf⟩ := Option.bind_eq_some_iff.mp hf
  refine C.ald 0 rfl gx2 (by decide +kernel) rfl ?_
  refine C.ldcI k_1785 (by decide +kernel) rfl ?_
  refine C.icmp_eq (off := 27) (tgt := 35) (pf := 11) (by decide +kernel) (by decide) rfl (fun c9 => ?_) (fun c9 => ?_)
  · replace hf := ifp c9 hf
    refine Vsub [] rfl ?_
    exact l_X15_isGood_35 C C2 h hf
  · replace hf := ifn c9 hf
    refine C.seg (pe := 12) (lv' := [(0, .ref a0), (1, .int p1)]) (st' := [.ref a0]) [(.aload_n 0, 1, 0)] (by decide +kernel) rfl ?_
    obtain ⟨a3, ga3, hf⟩ := Option.bind_eq_some_iff.mp hf
    refine C.rdA fr_1875 ga3 (by decide +kernel) rfl ?_
    refine C.seg (pe := 16) (lv' := [(0, .ref a0), (1, .int p1)]) (st' := [.int p1, .ref a3]) [(.iload_n 1, 1, 0)] (by decide +kernel) rfl ?_
    obtain ⟨x4, gx4, hf⟩ := Option.bind_eq_some_iff.mp hf
    refine C.ald 0 rfl gx4 (by decide +kernel) rfl ?_
    refine C.seg (pe := 19) (lv' := [(0, .ref a0), (1, .int p1)]) (st' := [.int 10, .int x4]) [(.bipush 10, 2, 10)] (by decide +kernel) rfl ?_
    refine C.icmp_lt (off := 16) (tgt := 35) (pf := 22) (by decide +kernel) (by decide) rfl (fun c8 => ?_) (fun c8 => ?_)
    · replace hf := ifp c8 hf
      refine Vsub [] rfl ?_
      exact l_X15_isGood_35 C C2 h hf
    · replace hf := ifn c8 hf
      refine C.seg (pe := 23) (lv' := [(0, .ref a0), (1, .int p1)]) (st' := [.ref a0]) [(.aload_n 0, 1, 0)] (by decide +kernel) rfl ?_
      obtain ⟨a5, ga5, hf⟩ := Option.bind_eq_some_iff.mp hf
      refine C.rdA fr_1876 ga5 (by decide +kernel) rfl ?_
      refine C.seg (pe := 27) (lv' := [(0, .ref a0), (1, .int p1)]) (st' := [.int p1, .ref a5]) [(.iload_n 1, 1, 0)] (by decide +kernel) rfl ?_
      obtain ⟨x6, gx6, hf⟩ := Option.bind_eq_some_iff.mp hf
      refine C.ald 0 rfl gx6 (by decide +kernel) rfl ?_
      refine C.if_ne (off := 7) (tgt := 35) (pf := 31) (by decide +kernel) (by decide) rfl (fun c7 => ?_) (fun c7 => ?_)
      · replace hf := ifn c7 hf
        refine Vsub [] rfl ?_
        exact l_X15_isGood_35 C C2 h hf
      · replace hf := ifp c7 hf
        refine C.seg (pe := 32) (lv' := [(0, .ref a0), (1, .int p1)]) (st' := [.int 1]) [(.iconst 1, 1, 1)] (by decide +kernel) rfl ?_
        refine C.goto (off := 4) (tgt := 36) (by decide +kernel) (by decide) ?_
        refine Vsub [] rfl ?_
        exact l_X15_isGood_36 C C2 1 h hf
theorem o_X15_isGood {a0 : Nat} {p1 : Int32} {h : AH} {rr : Int32} {hr : AH} (hf : f_X15_isGood a0 p1 h = some (rr, hr)) : isO 15 h a0 = true := by
  unfold f_X15_isGood at hf
  exact (ifO hf).1
/-! WallHouseModel.goes([I[I)I -/
def f_X15_goes_138 (k11 : Nat → Nat → Nat → Int32 → Int32 → Int32 → AH → Option (Int32 × AH)) (r0 : Nat) (r1 : Nat) (r2 : Nat) (i3 : Int32) (i4 : Int32) (i5 : Int32) (h : AH) : Option (Int32 × AH) :=
  k11 r0 r1 r2 i3 i4 (i5 + 1) h
set_option maxRecDepth 100000 in
set_option maxHeartbeats 4000000 in
theorem l_X15_goes_138 {X : MX} {l : Launch} {G : GX} {h0 : AH} {rr : Int32} {hr : AH} (C : Cx X G RX15 cX15_goes 6 (some .int) 0 0 h0) (C2 : Cy X l "goes" []) {k11 : Nat → Nat → Nat → Int32 → Int32 → Int32 → AH → Option (Int32 × AH)} (hk11 : ∀ (r0 : Nat) (r1 : Nat) (r2 : Nat) (i3 : Int32) (i4 : Int32) (i5 : Int32) (h : AH), k11 r0 r1 r2 i3 i4 i5 h = some (rr, hr) → V X G h0 (QI rr hr) 11 [(0, .ref r0), (1, .ref r1), (2, .ref r2), (3, .int i3), (4, .int i4), (5, .int i5)] [] h) (r0 : Nat) (r1 : Nat) (r2 : Nat) (i3 : Int32) (i4 : Int32) (i5 : Int32) (h : AH) (hf : f_X15_goes_138 k11 r0 r1 r2 i3 i4 i5 h = some (rr, hr)) : V X G h0 (QI rr hr) 138 [(0, .ref r0), (1, .ref r1), (2, .ref r2), (3, .int i3), (4, .int i4), (5, .int i5)] [] h := by
  unfold f_X15_goes_138 at hf
  refine C.seg (pe := 141) (lv' := [(5, .int (i5 + 1)), (0, .ref r0), (1, .ref r1), (2, .ref r2), (3, .int i3), (4, .int i4)]) (st' := []) [(.iinc 5 1, 3, 1)] (by decide +kernel) rfl ?_
  refine C.goto (off := (-130)) (tgt := 11) (by decide +kernel) (by decide) ?_
  refine Vsub [1, 2, 3, 4, 5, 0] rfl ?_
  exact hk11 r0 r1 r2 i3 i4 (i5 + 1) h hf
def f_X15_goes_135 (k11 : Nat → Nat → Nat → Int32 → Int32 → Int32 → AH → Option (Int32 × AH)) (r0 : Nat) (r1 : Nat) (r2 : Nat) (i3 : Int32) (i5 : Int32) (si0 : Int32) (si1 : Int32) (h : AH) : Option (Int32 × AH) :=
  f_X15_goes_138 k11 r0 r1 r2 i3 (si1 + si0) i5 h
set_option maxRecDepth 100000 in
set_option maxHeartbeats 4000000 in
theorem l_X15_goes_135 {X : MX} {l : Launch} {G : GX} {h0 : AH} {rr : Int32} {hr : AH} (C : Cx X G RX15 cX15_goes 6 (some .int) 0 0 h0) (C2 : Cy X l "goes" []) {k11 : Nat → Nat → Nat → Int32 → Int32 → Int32 → AH → Option (Int32 × AH)} (hk11 : ∀ (r0 : Nat) (r1 : Nat) (r2 : Nat) (i3 : Int32) (i4 : Int32) (i5 : Int32) (h : AH), k11 r0 r1 r2 i3 i4 i5 h = some (rr, hr) → V X G h0 (QI rr hr) 11 [(0, .ref r0), (1, .ref r1), (2, .ref r2), (3, .int i3), (4, .int i4), (5, .int i5)] [] h) (r0 : Nat) (r1 : Nat) (r2 : Nat) (i3 : Int32) (i5 : Int32) (si0 : Int32) (si1 : Int32) (h : AH) (hf : f_X15_goes_135 k11 r0 r1 r2 i3 i5 si0 si1 h = some (rr, hr)) : V X G h0 (QI rr hr) 135 [(0, .ref r0), (1, .ref r1), (2, .ref r2), (3, .int i3), (5, .int i5)] [.int si0, .int si1] h := by
  unfold f_X15_goes_135 at hf
  refine C.seg (pe := 138) (lv' := [(4, .int (si1 + si0)), (0, .ref r0), (1, .ref r1), (2, .ref r2), (3, .int i3), (5, .int i5)]) (st' := []) [(.iadd, 1, 0), (.istore 4, 2, 0)] (by decide +kernel) rfl ?_
  refine Vsub [1, 2, 3, 4, 0, 5] rfl ?_
  exact l_X15_goes_138 C C2 hk11 r0 r1 r2 i3 (si1 + si0) i5 h hf
def f_X15_goes_119 (k11 : Nat → Nat → Nat → Int32 → Int32 → Int32 → AH → Option (Int32 × AH)) (r0 : Nat) (r1 : Nat) (r2 : Nat) (i3 : Int32) (i4 : Int32) (i5 : Int32) (si0 : Int32) (si1 : Int32) (sr2 : Nat) (h : AH) : Option (Int32 × AH) :=
  (sI 0 h sr2 si1 si0).bind fun h1 =>
  (aI 0 h1 r1 i5).bind fun x2 =>
  if x2 = 3 then
    f_X15_goes_135 k11 r0 r1 r2 i3 i5 1 i4 h1
  else
    f_X15_goes_135 k11 r0 r1 r2 i3 i5 0 i4 h1
set_option maxRecDepth 100000 in
set_option maxHeartbeats 4000000 in
theorem l_X15_goes_119 {X : MX} {l : Launch} {G : GX} {h0 : AH} {rr : Int32} {hr : AH} (C : Cx X G RX15 cX15_goes 6 (some .int) 0 0 h0) (C2 : Cy X l "goes" []) {k11 : Nat → Nat → Nat → Int32 → Int32 → Int32 → AH → Option (Int32 × AH)} (hk11 : ∀ (r0 : Nat) (r1 : Nat) (r2 : Nat) (i3 : Int32) (i4 : Int32) (i5 : Int32) (h : AH), k11 r0 r1 r2 i3 i4 i5 h = some (rr, hr) → V X G h0 (QI rr hr) 11 [(0, .ref r0), (1, .ref r1), (2, .ref r2), (3, .int i3), (4, .int i4), (5, .int i5)] [] h) (r0 : Nat) (r1 : Nat) (r2 : Nat) (i3 : Int32) (i4 : Int32) (i5 : Int32) (si0 : Int32) (si1 : Int32) (sr2 : Nat) (h : AH) (hf : f_X15_goes_119 k11 r0 r1 r2 i3 i4 i5 si0 si1 sr2 h = some (rr, hr)) : V X G h0 (QI rr hr) 119 [(0, .ref r0), (1, .ref r1), (2, .ref r2), (3, .int i3), (4, .int i4), (5, .int i5)] [.int si0, .int si1, .ref sr2] h := by
  unfold f_X15_goes_119 at hf
  obtain ⟨h1, gh1, hf⟩ := Option.bind_eq_some_iff.mp hf
  refine C.ast gh1 (by decide +kernel) rfl ?_
  refine C.seg (pe := 125) (lv' := [(0, .ref r0), (1, .ref r1), (2, .ref r2), (3, .int i3), (4, .int i4), (5, .int i5)]) (st' := [.int i5, .ref r1, .int i4]) [(.iload 4, 2, 0), (.aload_n 1, 1, 0), (.iload 5, 2, 0)] (by decide +kernel) rfl ?_
  obtain ⟨x2, gx2, hf⟩ := Option.bind_eq_some_iff.mp hf
  refine C.ald 0 rfl gx2 (by decide +kernel) rfl ?_
  refine C.seg (pe := 127) (lv' := [(0, .ref r0), (1, .ref r1), (2, .ref r2), (3, .int i3), (4, .int i4), (5, .int i5)]) (st' := [.int 3, .int x2, .int i4]) [(.iconst 3, 1, 3)] (by decide +kernel) rfl ?_
  refine C.icmp_ne (off := 7) (tgt := 134) (pf := 130) (by decide +kernel) (by decide) rfl (fun c3 => ?_) (fun c3 => ?_)
  · replace hf := ifn c3 hf
    refine C.seg (pe := 135) (lv' := [(0, .ref r0), (1, .ref r1), (2, .ref r2), (3, .int i3), (4, .int i4), (5, .int i5)]) (st' := [.int 0, .int i4]) [(.iconst 0, 1, 0)] (by decide +kernel) rfl ?_
    refine Vsub [0, 1, 2, 3, 5] rfl ?_
    exact l_X15_goes_135 C C2 hk11 r0 r1 r2 i3 i5 0 i4 h1 hf
  · replace hf := ifp c3 hf
    refine C.seg (pe := 131) (lv' := [(0, .ref r0), (1, .ref r1), (2, .ref r2), (3, .int i3), (4, .int i4), (5, .int i5)]) (st' := [.int 1, .int i4]) [(.iconst 1, 1, 1)] (by decide +kernel) rfl ?_
    refine C.goto (off := 4) (tgt := 135) (by decide +kernel) (by decide) ?_
    refine Vsub [0, 1, 2, 3, 5] rfl ?_
    exact l_X15_goes_135 C C2 hk11 r0 r1 r2 i3 i5 1 i4 h1 hf
def f_X15_goes_57 (k11 : Nat → Nat → Nat → Int32 → Int32 → Int32 → AH → Option (Int32 × AH)) (r0 : Nat) (r1 : Nat) (r2 : Nat) (i4 : Int32) (i5 : Int32) (si0 : Int32) (si1 : Int32) (h : AH) : Option (Int32 × AH) :=
  (aI 0 h r2 i5).bind fun x1 =>
  (sI 0 h r2 i5 (x1 - 1)).bind fun h2 =>
  (aI 0 h2 r2 i5).bind fun x3 =>
  if x3 ≤ 0 then
    (aI 0 h2 r1 i5).bind fun x4 =>
    (sI 0 h2 r1 i5 (x4 + 1)).bind fun h5 =>
    (aI 0 h5 r1 i5).bind fun x6 =>
    if x6 = 1 then
      f_X15_goes_119 k11 r0 r1 r2 (si1 - si0) i4 i5 2 i5 r2 h5
    else
      (aI 0 h5 r1 i5).bind fun x7 =>
      if x7 = 2 then
        (gA 15 h5 r0 84).bind fun a8 =>
        (aI 0 h5 a8 i5).bind fun x9 =>
        f_X15_goes_119 k11 r0 r1 r2 (si1 - si0) i4 i5 x9 i5 r2 h5
      else
        f_X15_goes_119 k11 r0 r1 r2 (si1 - si0) i4 i5 0 i5 r2 h5
  else
    f_X15_goes_138 k11 r0 r1 r2 (si1 - si0) i4 i5 h2
set_option maxRecDepth 100000 in
set_option maxHeartbeats 4000000 in
theorem l_X15_goes_57 {X : MX} {l : Launch} {G : GX} {h0 : AH} {rr : Int32} {hr : AH} (C : Cx X G RX15 cX15_goes 6 (some .int) 0 0 h0) (C2 : Cy X l "goes" []) {k11 : Nat → Nat → Nat → Int32 → Int32 → Int32 → AH → Option (Int32 × AH)} (hk11 : ∀ (r0 : Nat) (r1 : Nat) (r2 : Nat) (i3 : Int32) (i4 : Int32) (i5 : Int32) (h : AH), k11 r0 r1 r2 i3 i4 i5 h = some (rr, hr) → V X G h0 (QI rr hr) 11 [(0, .ref r0), (1, .ref r1), (2, .ref r2), (3, .int i3), (4, .int i4), (5, .int i5)] [] h) (r0 : Nat) (r1 : Nat) (r2 : Nat) (i4 : Int32) (i5 : Int32) (si0 : Int32) (si1 : Int32) (h : AH) (hf : f_X15_goes_57 k11 r0 r1 r2 i4 i5 si0 si1 h = some (rr, hr)) : V X G h0 (QI rr hr) 57 [(0, .ref r0), (1, .ref r1), (2, .ref r2), (4, .int i4), (5, .int i5)] [.int si0, .int si1] h := by
  unfold f_X15_goes_57 at hf
  refine C.seg (pe := 63) (lv' := [(3, .int (si1 - si0)), (0, .ref r0), (1, .ref r1), (2, .ref r2), (4, .int i4), (5, .int i5)]) (st' := [.int i5, .ref r2, .int i5, .ref r2]) [(.isub, 1, 0), (.istore_n 3, 1, 0), (.aload_n 2, 1, 0), (.iload 5, 2, 0), (.dup2, 1, 0)] (by decide +kernel) rfl ?_
  obtain ⟨x1, gx1, hf⟩ := Option.bind_eq_some_iff.mp hf
  refine C.ald 0 rfl gx1 (by decide +kernel) rfl ?_
  refine C.seg (pe := 66) (lv' := [(3, .int (si1 - si0)), (0, .ref r0), (1, .ref r1), (2, .ref r2), (4, .int i4), (5, .int i5)]) (st' := [.int (x1 - 1), .int i5, .ref r2]) [(.iconst 1, 1, 1), (.isub, 1, 0)] (by decide +kernel) rfl ?_
  obtain ⟨h2, gh2, hf⟩ := Option.bind_eq_some_iff.mp hf
  refine C.ast gh2 (by decide +kernel) rfl ?_
  refine C.seg (pe := 70) (lv' := [(3, .int (si1 - si0)), (0, .ref r0), (1, .ref r1), (2, .ref r2), (4, .int i4), (5, .int i5)]) (st' := [.int i5, .ref r2]) [(.aload_n 2, 1, 0), (.iload 5, 2, 0)] (by decide +kernel) rfl ?_
  obtain ⟨x3, gx3, hf⟩ := Option.bind_eq_some_iff.mp hf
  refine C.ald 0 rfl gx3 (by decide +kernel) rfl ?_
  refine C.if_le (off := 6) (tgt := 77) (pf := 74) (by decide +kernel) (by decide) rfl (fun c12 => ?_) (fun c12 => ?_)
  · replace hf := ifp c12 hf
    refine C.seg (pe := 81) (lv' := [(3, .int (si1 - si0)), (0, .ref r0), (1, .ref r1), (2, .ref r2), (4, .int i4), (5, .int i5)]) (st' := [.int i5, .ref r1, .int i5, .ref r1]) [(.aload_n 1, 1, 0), (.iload 5, 2, 0), (.dup2, 1, 0)] (by decide +kernel) rfl ?_
    obtain ⟨x4, gx4, hf⟩ := Option.bind_eq_some_iff.mp hf
    refine C.ald 0 rfl gx4 (by decide +kernel) rfl ?_
    refine C.seg (pe := 84) (lv' := [(3, .int (si1 - si0)), (0, .ref r0), (1, .ref r1), (2, .ref r2), (4, .int i4), (5, .int i5)]) (st' := [.int (x4 + 1), .int i5, .ref r1]) [(.iconst 1, 1, 1), (.iadd, 1, 0)] (by decide +kernel) rfl ?_
    obtain ⟨h5, gh5, hf⟩ := Option.bind_eq_some_iff.mp hf
    refine C.ast gh5 (by decide +kernel) rfl ?_
    refine C.seg (pe := 91) (lv' := [(3, .int (si1 - si0)), (0, .ref r0), (1, .ref r1), (2, .ref r2), (4, .int i4), (5, .int i5)]) (st' := [.int i5, .ref r1, .int i5, .ref r2]) [(.aload_n 2, 1, 0), (.iload 5, 2, 0), (.aload_n 1, 1, 0), (.iload 5, 2, 0)] (by decide +kernel) rfl ?_
    obtain ⟨x6, gx6, hf⟩ := Option.bind_eq_some_iff.mp hf
    refine C.ald 0 rfl gx6 (by decide +kernel) rfl ?_
    refine C.seg (pe := 93) (lv' := [(3, .int (si1 - si0)), (0, .ref r0), (1, .ref r1), (2, .ref r2), (4, .int i4), (5, .int i5)]) (st' := [.int 1, .int x6, .int i5, .ref r2]) [(.iconst 1, 1, 1)] (by decide +kernel) rfl ?_
    refine C.icmp_ne (off := 7) (tgt := 100) (pf := 96) (by decide +kernel) (by decide) rfl (fun c11 => ?_) (fun c11 => ?_)
    · replace hf := ifn c11 hf
      refine C.seg (pe := 103) (lv' := [(3, .int (si1 - si0)), (0, .ref r0), (1, .ref r1), (2, .ref r2), (4, .int i4), (5, .int i5)]) (st' := [.int i5, .ref r1, .int i5, .ref r2]) [(.aload_n 1, 1, 0), (.iload 5, 2, 0)] (by decide +kernel) rfl ?_
      obtain ⟨x7, gx7, hf⟩ := Option.bind_eq_some_iff.mp hf
      refine C.ald 0 rfl gx7 (by decide +kernel) rfl ?_
      refine C.seg (pe := 105) (lv' := [(3, .int (si1 - si0)), (0, .ref r0), (1, .ref r1), (2, .ref r2), (4, .int i4), (5, .int i5)]) (st' := [.int 2, .int x7, .int i5, .ref r2]) [(.iconst 2, 1, 2)] (by decide +kernel) rfl ?_
      refine C.icmp_ne (off := 13) (tgt := 118) (pf := 108) (by decide +kernel) (by decide) rfl (fun c10 => ?_) (fun c10 => ?_)
      · replace hf := ifn c10 hf
        refine C.seg (pe := 119) (lv' := [(3, .int (si1 - si0)), (0, .ref r0), (1, .ref r1), (2, .ref r2), (4, .int i4), (5, .int i5)]) (st' := [.int 0, .int i5, .ref r2]) [(.iconst 0, 1, 0)] (by decide +kernel) rfl ?_
        refine Vsub [1, 2, 3, 0, 4, 5] rfl ?_
        exact l_X15_goes_119 C C2 hk11 r0 r1 r2 (si1 - si0) i4 i5 0 i5 r2 h5 hf
      · replace hf := ifp c10 hf
        refine C.seg (pe := 109) (lv' := [(3, .int (si1 - si0)), (0, .ref r0), (1, .ref r1), (2, .ref r2), (4, .int i4), (5, .int i5)]) (st' := [.ref r0, .int i5, .ref r2]) [(.aload_n 0, 1, 0)] (by decide +kernel) rfl ?_
        obtain ⟨a8, ga8, hf⟩ := Option.bind_eq_some_iff.mp hf
        refine C.rdA fr_1870 ga8 (by decide +kernel) rfl ?_
        refine C.seg (pe := 114) (lv' := [(3, .int (si1 - si0)), (0, .ref r0), (1, .ref r1), (2, .ref r2), (4, .int i4), (5, .int i5)]) (st' := [.int i5, .ref a8, .int i5, .ref r2]) [(.iload 5, 2, 0)] (by decide +kernel) rfl ?_
        obtain ⟨x9, gx9, hf⟩ := Option.bind_eq_some_iff.mp hf
        refine C.ald 0 rfl gx9 (by decide +kernel) rfl ?_
        refine C.goto (off := 4) (tgt := 119) (by decide +kernel) (by decide) ?_
        refine Vsub [1, 2, 3, 0, 4, 5] rfl ?_
        exact l_X15_goes_119 C C2 hk11 r0 r1 r2 (si1 - si0) i4 i5 x9 i5 r2 h5 hf
    · replace hf := ifp c11 hf
      refine C.seg (pe := 97) (lv' := [(3, .int (si1 - si0)), (0, .ref r0), (1, .ref r1), (2, .ref r2), (4, .int i4), (5, .int i5)]) (st' := [.int 2, .int i5, .ref r2]) [(.iconst 2, 1, 2)] (by decide +kernel) rfl ?_
      refine C.goto (off := 22) (tgt := 119) (by decide +kernel) (by decide) ?_
      refine Vsub [1, 2, 3, 0, 4, 5] rfl ?_
      exact l_X15_goes_119 C C2 hk11 r0 r1 r2 (si1 - si0) i4 i5 2 i5 r2 h5 hf
  · replace hf := ifn c12 hf
    refine C.goto (off := 64) (tgt := 138) (by decide +kernel) (by decide) ?_
    refine Vsub [1, 2, 3, 0, 4, 5] rfl ?_
    exact l_X15_goes_138 C C2 hk11 r0 r1 r2 (si1 - si0) i4 i5 h2 hf
def f_X15_goes_43 (k11 : Nat → Nat → Nat → Int32 → Int32 → Int32 → AH → Option (Int32 × AH)) (r0 : Nat) (r1 : Nat) (r2 : Nat) (i3 : Int32) (i4 : Int32) (i5 : Int32) (h : AH) : Option (Int32 × AH) :=
  (aI 0 h r1 i5).bind fun x1 =>
  if x1 = 1 then
    f_X15_goes_57 k11 r0 r1 r2 i4 i5 0 i3 h
  else
    f_X15_goes_57 k11 r0 r1 r2 i4 i5 1 i3 h
set_option maxRecDepth 100000 in
set_option maxHeartbeats 4000000 in
theorem l_X15_goes_43 {X : MX} {l : Launch} {G : GX} {h0 : AH} {rr : Int32} {hr : AH} (C : Cx X G RX15 cX15_goes 6 (some .int) 0 0 h0) (C2 : Cy X l "goes" []) {k11 : Nat → Nat → Nat → Int32 → Int32 → Int32 → AH → Option (Int32 × AH)} (hk11 : ∀ (r0 : Nat) (r1 : Nat) (r2 : Nat) (i3 : Int32) (i4 : Int32) (i5 : Int32) (h : AH), k11 r0 r1 r2 i3 i4 i5 h = some (rr, hr) → V X G h0 (QI rr hr) 11 [(0, .ref r0), (1, .ref r1), (2, .ref r2), (3, .int i3), (4, .int i4), (5, .int i5)] [] h) (r0 : Nat) (r1 : Nat) (r2 : Nat) (i3 : Int32) (i4 : Int32) (i5 : Int32) (h : AH) (hf : f_X15_goes_43 k11 r0 r1 r2 i3 i4 i5 h = some (rr, hr)) : V X G h0 (QI rr hr) 43 [(0, .ref r0), (1, .ref r1), (2, .ref r2), (3, .int i3), (4, .int i4), (5, .int i5)] [] h := by
  unfold f_X15_goes_43 at hf
  refine C.seg (pe := 47) (lv' := [(0, .ref r0), (1, .ref r1), (2, .ref r2), (3, .int i3), (4, .int i4), (5, .int i5)]) (st' := [.int i5, .ref r1, .int i3]) [(.iload_n 3, 1, 0), (.aload_n 1, 1, 0), (.iload 5, 2, 0)] (by decide +kernel) rfl ?_
  obtain ⟨x1, gx1, hf⟩ := Option.bind_eq_some_iff.mp hf
  refine C.ald 0 rfl gx1 (by decide +kernel) rfl ?_
  refine C.seg (pe := 49) (lv' := [(0, .ref r0), (1, .ref r1), (2, .ref r2), (3, .int i3), (4, .int i4), (5, .int i5)]) (st' := [.int 1, .int x1, .int i3]) [(.iconst 1, 1, 1)] (by decide +kernel) rfl ?_
  refine C.icmp_ne (off := 7) (tgt := 56) (pf := 52) (by decide +kernel) (by decide) rfl (fun c2 => ?_) (fun c2 => ?_)
  · replace hf := ifn c2 hf
    refine C.seg (pe := 57) (lv' := [(0, .ref r0), (1, .ref r1), (2, .ref r2), (3, .int i3), (4, .int i4), (5, .int i5)]) (st' := [.int 1, .int i3]) [(.iconst 1, 1, 1)] (by decide +kernel) rfl ?_
    refine Vsub [0, 1, 2, 4, 5] rfl ?_
    exact l_X15_goes_57 C C2 hk11 r0 r1 r2 i4 i5 1 i3 h hf
  · replace hf := ifp c2 hf
    refine C.seg (pe := 53) (lv' := [(0, .ref r0), (1, .ref r1), (2, .ref r2), (3, .int i3), (4, .int i4), (5, .int i5)]) (st' := [.int 0, .int i3]) [(.iconst 0, 1, 0)] (by decide +kernel) rfl ?_
    refine C.goto (off := 4) (tgt := 57) (by decide +kernel) (by decide) ?_
    refine Vsub [0, 1, 2, 4, 5] rfl ?_
    exact l_X15_goes_57 C C2 hk11 r0 r1 r2 i4 i5 0 i3 h hf
def f_X15_goes_11 : Nat → Nat → Nat → Nat → Int32 → Int32 → Int32 → AH → Option (Int32 × AH)
  | 0, _, _, _, _, _, _, _ => none
  | n + 1, r0, r1, r2, i3, i4, i5, h =>
    (gI 15 h r0 76).bind fun x1 =>
    if x1 ≤ i5 then
      some (i4, h)
    else
      (aI 0 h r1 i5).bind fun x2 =>
      if x2 = 3 then
        f_X15_goes_138 (f_X15_goes_11 n) r0 r1 r2 i3 i4 i5 h
      else
        (aI 0 h r1 i5).bind fun x3 =>
        if x3 = 1 then
          f_X15_goes_43 (f_X15_goes_11 n) r0 r1 r2 i3 i4 i5 h
        else
          if i3 = 0 then
            f_X15_goes_138 (f_X15_goes_11 n) r0 r1 r2 i3 i4 i5 h
          else
            f_X15_goes_43 (f_X15_goes_11 n) r0 r1 r2 i3 i4 i5 h
set_option maxRecDepth 100000 in
set_option maxHeartbeats 4000000 in
theorem l_X15_goes_11 {X : MX} {l : Launch} {G : GX} {h0 : AH} {rr : Int32} {hr : AH} (C : Cx X G RX15 cX15_goes 6 (some .int) 0 0 h0) (C2 : Cy X l "goes" []) : ∀ (n : Nat) (r0 : Nat) (r1 : Nat) (r2 : Nat) (i3 : Int32) (i4 : Int32) (i5 : Int32) (h : AH), f_X15_goes_11 n r0 r1 r2 i3 i4 i5 h = some (rr, hr) → V X G h0 (QI rr hr) 11 [(0, .ref r0), (1, .ref r1), (2, .ref r2), (3, .int i3), (4, .int i4), (5, .int i5)] [] h := by
  intro n
  induction n with
  | zero => intro r0 r1 r2 i3 i4 i5 h hf; rw [f_X15_goes_11] at hf; cases hf
  | succ n ih =>
    intro r0 r1 r2 i3 i4 i5 h hf
    rw [f_X15_goes_11] at hf
    refine C.seg (pe := 14) (lv' := [(0, .ref r0), (1, .ref r1), (2, .ref r2), (3, .int i3), (4, .int i4), (5, .int i5)]) (st' := [.ref r0, .int i5]) [(.iload 5, 2, 0), (.aload_n 0, 1, 0)] (by decide +kernel) rfl ?_
    obtain ⟨x1, gx1, hf⟩ := Option.bind_eq_some_iff.mp hf
    refine C.rdI fr_1862 gx1 (by decide +kernel) rfl ?_
    refine C.icmp_ge (off := 127) (tgt := 144) (pf := 20) (by decide +kernel) (by decide) rfl (fun c7 => ?_) (fun c7 => ?_)
    · replace hf := ifp c7 hf
      refine C.seg (pe := 146) (lv' := [(0, .ref r0), (1, .ref r1), (2, .ref r2), (3, .int i3), (4, .int i4), (5, .int i5)]) (st' := [.int i4]) [(.iload 4, 2, 0)] (by decide +kernel) rfl ?_
      cases hf
      exact C.retI rfl (by decide +kernel) ⟨rfl, rfl⟩
    · replace hf := ifn c7 hf
      refine C.seg (pe := 23) (lv' := [(0, .ref r0), (1, .ref r1), (2, .ref r2), (3, .int i3), (4, .int i4), (5, .int i5)]) (st' := [.int i5, .ref r1]) [(.aload_n 1, 1, 0), (.iload 5, 2, 0)] (by decide +kernel) rfl ?_
      obtain ⟨x2, gx2, hf⟩ := Option.bind_eq_some_iff.mp hf
      refine C.ald 0 rfl gx2 (by decide +kernel) rfl ?_
      refine C.seg (pe := 25) (lv' := [(0, .ref r0), (1, .ref r1), (2, .ref r2), (3, .int i3), (4, .int i4), (5, .int i5)]) (st' := [.int 3, .int x2]) [(.iconst 3, 1, 3)] (by decide +kernel) rfl ?_
      refine C.icmp_eq (off := 113) (tgt := 138) (pf := 28) (by decide +kernel) (by decide) rfl (fun c6 => ?_) (fun c6 => ?_)
      · replace hf := ifp c6 hf
        exact l_X15_goes_138 C C2 ih r0 r1 r2 i3 i4 i5 h hf
      · replace hf := ifn c6 hf
        refine C.seg (pe := 31) (lv' := [(0, .ref r0), (1, .ref r1), (2, .ref r2), (3, .int i3), (4, .int i4), (5, .int i5)]) (st' := [.int i5, .ref r1]) [(.aload_n 1, 1, 0), (.iload 5, 2, 0)] (by decide +kernel) rfl ?_
        obtain ⟨x3, gx3, hf⟩ := Option.bind_eq_some_iff.mp hf
        refine C.ald 0 rfl gx3 (by decide +kernel) rfl ?_
        refine C.seg (pe := 33) (lv' := [(0, .ref r0), (1, .ref r1), (2, .ref r2), (3, .int i3), (4, .int i4), (5, .int i5)]) (st' := [.int 1, .int x3]) [(.iconst 1, 1, 1)] (by decide +kernel) rfl ?_
        refine C.icmp_eq (off := 10) (tgt := 43) (pf := 36) (by decide +kernel) (by decide) rfl (fun c5 => ?_) (fun c5 => ?_)
        · replace hf := ifp c5 hf
          exact l_X15_goes_43 C C2 ih r0 r1 r2 i3 i4 i5 h hf
        · replace hf := ifn c5 hf
          refine C.seg (pe := 37) (lv' := [(0, .ref r0), (1, .ref r1), (2, .ref r2), (3, .int i3), (4, .int i4), (5, .int i5)]) (st' := [.int i3]) [(.iload_n 3, 1, 0)] (by decide +kernel) rfl ?_
          refine C.if_ne (off := 6) (tgt := 43) (pf := 40) (by decide +kernel) (by decide) rfl (fun c4 => ?_) (fun c4 => ?_)
          · replace hf := ifn c4 hf
            exact l_X15_goes_43 C C2 ih r0 r1 r2 i3 i4 i5 h hf
          · replace hf := ifp c4 hf
            refine C.goto (off := 98) (tgt := 138) (by decide +kernel) (by decide) ?_
            exact l_X15_goes_138 C C2 ih r0 r1 r2 i3 i4 i5 h hf
def f_X15_goes (a0 : Nat) (p1 : Nat) (p2 : Nat) (h : AH) : Option (Int32 × AH) :=
  if isO 15 h a0 = true then
    (gI 15 h a0 78).bind fun x1 =>
    f_X15_goes_11 FU a0 p1 p2 x1 0 0 h
  else none
set_option maxRecDepth 100000 in
set_option maxHeartbeats 4000000 in
theorem w_X15_goes {l : Launch} {G : GX} {a0 : Nat} {p1 : Nat} {p2 : Nat} {h : AH} {rr : Int32} {hr : AH} (hf : f_X15_goes a0 p1 p2 h = some (rr, hr)) : Ct l G yX15_goes 0 0 [.ref a0, .ref p1, .ref p2] h (QI rr hr) := by
  unfold f_X15_goes at hf
  obtain ⟨ho, hf⟩ := ifO hf
  refine Ct_of (own := RX15) (cc := cX15_goes) (nL := 6) (ret := (some .int)) rfl rfl k_2449 (Nat.le_of_ble_eq_true rfl) (fun X C2 C => ?_)
  show V X G h (QI rr hr) 0 [(0, .ref a0), (1, .ref p1), (2, .ref p2)] [] h
  refine C.seg (pe := 1) (lv' := [(0, .ref a0), (1, .ref p1), (2, .ref p2)]) (st' := [.ref a0]) [(.aload_n 0, 1, 0)] (by decide +kernel) rfl ?_
  obtain ⟨x1, gx1, hf⟩ := Option.bind_eq_some_iff.mp hf
  refine C.rdI fr_1864 gx1 (by decide +kernel) rfl ?_
  refine C.seg (pe := 11) (lv' := [(5, .int 0), (4, .int 0), (3, .int x1), (0, .ref a0), (1, .ref p1), (2, .ref p2)]) (st' := []) [(.istore_n 3, 1, 0), (.iconst 0, 1, 0), (.istore 4, 2, 0), (.iconst 0, 1, 0), (.istore 5, 2, 0)] (by decide +kernel) rfl ?_
  refine Vsub [3, 4, 5, 2, 1, 0] rfl ?_
  exact l_X15_goes_11 C C2 FU a0 p1 p2 x1 0 0 h hf
theorem o_X15_goes {a0 : Nat} {p1 : Nat} {p2 : Nat} {h : AH} {rr : Int32} {hr : AH} (hf : f_X15_goes a0 p1 p2 h = some (rr, hr)) : isO 15 h a0 = true := by
  unfold f_X15_goes at hf
  exact (ifO hf).1
/-! WallHouseModel.end(I)I -/
def f_X15_end_84 (k41 : Nat → Int32 → Int32 → AH → Option (Int32 × AH)) (r0 : Nat) (i1 : Int32) (i2 : Int32) (h : AH) : Option (Int32 × AH) :=
  k41 r0 i1 (i2 + 1) h
set_option maxRecDepth 100000 in
set_option maxHeartbeats 4000000 in
theorem l_X15_end_84 {X : MX} {l : Launch} {G : GX} {h0 : AH} {rr : Int32} {hr : AH} (C : Cx X G RX15 cX15_end 4 (some .int) 1 25 h0) (C2 : Cy X l "end" []) {k41 : Nat → Int32 → Int32 → AH → Option (Int32 × AH)} (hk41 : ∀ (r0 : Nat) (i1 : Int32) (i2 : Int32) (h : AH), k41 r0 i1 i2 h = some (rr, hr) → V X G h0 (QI rr hr) 41 [(0, .ref r0), (1, .int i1), (2, .int i2)] [] h) (r0 : Nat) (i1 : Int32) (i2 : Int32) (h : AH) (hf : f_X15_end_84 k41 r0 i1 i2 h = some (rr, hr)) : V X G h0 (QI rr hr) 84 [(0, .ref r0), (1, .int i1), (2, .int i2)] [] h := by
  unfold f_X15_end_84 at hf
  refine C.seg (pe := 87) (lv' := [(2, .int (i2 + 1)), (0, .ref r0), (1, .int i1)]) (st' := []) [(.iinc 2 1, 3, 1)] (by decide +kernel) rfl ?_
  refine C.goto (off := (-46)) (tgt := 41) (by decide +kernel) (by decide) ?_
  refine Vsub [1, 2, 0] rfl ?_
  exact hk41 r0 i1 (i2 + 1) h hf
def f_X15_end_41 : Nat → Nat → Int32 → Int32 → AH → Option (Int32 × AH)
  | 0, _, _, _, _ => none
  | n + 1, r0, i1, i2, h =>
    if 3650 ≤ i2 then
      some ((-2), h)
    else
      b2 (f_X15_isGood r0 i2 h) fun x1 h2 =>
      if x1 = 0 then
        f_X15_end_84 (f_X15_end_41 n) r0 i1 i2 h2
      else
        (gA 15 h2 r0 93).bind fun a3 =>
        (gA 15 h2 r0 94).bind fun a4 =>
        b2 (f_X15_goes r0 a3 a4 h2) fun x5 h6 =>
        (gA 15 h6 r0 93).bind fun a7 =>
        (aI 0 h6 a7 i1).bind fun x8 =>
        if x8 = 3 then
          some (i2, h6)
        else
          f_X15_end_84 (f_X15_end_41 n) r0 i1 i2 h6
set_option maxRecDepth 100000 in
set_option maxHeartbeats 4000000 in
theorem l_X15_end_41 {X : MX} {l : Launch} {G : GX} {h0 : AH} {rr : Int32} {hr : AH} (C : Cx X G RX15 cX15_end 4 (some .int) 1 25 h0) (C2 : Cy X l "end" []) : ∀ (n : Nat) (r0 : Nat) (i1 : Int32) (i2 : Int32) (h : AH), f_X15_end_41 n r0 i1 i2 h = some (rr, hr) → V X G h0 (QI rr hr) 41 [(0, .ref r0), (1, .int i1), (2, .int i2)] [] h := by
  intro n
  induction n with
  | zero => intro r0 i1 i2 h hf; rw [f_X15_end_41] at hf; cases hf
  | succ n ih =>
    intro r0 i1 i2 h hf
    rw [f_X15_end_41] at hf
    refine C.seg (pe := 45) (lv' := [(0, .ref r0), (1, .int i1), (2, .int i2)]) (st' := [.int 3650, .int i2]) [(.iload_n 2, 1, 0), (.sipush 3650, 3, 3650)] (by decide +kernel) rfl ?_
    refine C.icmp_ge (off := 45) (tgt := 90) (pf := 48) (by decide +kernel) (by decide) rfl (fun c11 => ?_) (fun c11 => ?_)
    · replace hf := ifp c11 hf
      refine C.seg (pe := 92) (lv' := [(0, .ref r0), (1, .int i1), (2, .int i2)]) (st' := [.int (-2)]) [(.bipush (-2), 2, (-2))] (by decide +kernel) rfl ?_
      cases hf
      exact C.retI rfl (by decide +kernel) ⟨rfl, rfl⟩
    · replace hf := ifn c11 hf
      refine C.seg (pe := 50) (lv' := [(0, .ref r0), (1, .int i1), (2, .int i2)]) (st' := [.int i2, .ref r0]) [(.aload_n 0, 1, 0), (.iload_n 2, 1, 0)] (by decide +kernel) rfl ?_
      obtain ⟨x1, h2, gx1, hf⟩ := b2_some hf
      refine C.callVr C2 [.int i2] [] mv_2442 rfl (o_X15_isGood gx1) (w_X15_isGood gx1) (by omega) (by omega) (Nat.le_of_ble_eq_true rfl) (by decide +kernel) rfl ?_
      refine C.if_ne (off := 6) (tgt := 59) (pf := 56) (by decide +kernel) (by decide) rfl (fun c10 => ?_) (fun c10 => ?_)
      · replace hf := ifn c10 hf
        refine C.seg (pe := 61) (lv' := [(0, .ref r0), (1, .int i1), (2, .int i2)]) (st' := [.ref r0, .ref r0]) [(.aload_n 0, 1, 0), (.aload_n 0, 1, 0)] (by decide +kernel) rfl ?_
        obtain ⟨a3, ga3, hf⟩ := Option.bind_eq_some_iff.mp hf
        refine C.rdA fr_1879 ga3 (by decide +kernel) rfl ?_
        refine C.seg (pe := 65) (lv' := [(0, .ref r0), (1, .int i1), (2, .int i2)]) (st' := [.ref r0, .ref a3, .ref r0]) [(.aload_n 0, 1, 0)] (by decide +kernel) rfl ?_
        obtain ⟨a4, ga4, hf⟩ := Option.bind_eq_some_iff.mp hf
        refine C.rdA fr_1880 ga4 (by decide +kernel) rfl ?_
        obtain ⟨x5, h6, gx5, hf⟩ := b2_some hf
        refine C.callVr C2 [.ref a3, .ref a4] [] mv_2446 rfl (o_X15_goes gx5) (w_X15_goes gx5) (by omega) (by omega) (Nat.le_of_ble_eq_true rfl) (by decide +kernel) rfl ?_
        refine C.seg (pe := 73) (lv' := [(3, .int x5), (0, .ref r0), (1, .int i1), (2, .int i2)]) (st' := [.ref r0]) [(.istore_n 3, 1, 0), (.aload_n 0, 1, 0)] (by decide +kernel) rfl ?_
        obtain ⟨a7, ga7, hf⟩ := Option.bind_eq_some_iff.mp hf
        refine C.rdA fr_1879 ga7 (by decide +kernel) rfl ?_
        refine C.seg (pe := 77) (lv' := [(3, .int x5), (0, .ref r0), (1, .int i1), (2, .int i2)]) (st' := [.int i1, .ref a7]) [(.iload_n 1, 1, 0)] (by decide +kernel) rfl ?_
        obtain ⟨x8, gx8, hf⟩ := Option.bind_eq_some_iff.mp hf
        refine C.ald 0 rfl gx8 (by decide +kernel) rfl ?_
        refine C.seg (pe := 79) (lv' := [(3, .int x5), (0, .ref r0), (1, .int i1), (2, .int i2)]) (st' := [.int 3, .int x8]) [(.iconst 3, 1, 3)] (by decide +kernel) rfl ?_
        refine C.icmp_ne (off := 5) (tgt := 84) (pf := 82) (by decide +kernel) (by decide) rfl (fun c9 => ?_) (fun c9 => ?_)
        · replace hf := ifn c9 hf
          refine Vsub [1, 2, 3] rfl ?_
          exact l_X15_end_84 C C2 ih r0 i1 i2 h6 hf
        · replace hf := ifp c9 hf
          refine C.seg (pe := 83) (lv' := [(3, .int x5), (0, .ref r0), (1, .int i1), (2, .int i2)]) (st' := [.int i2]) [(.iload_n 2, 1, 0)] (by decide +kernel) rfl ?_
          cases hf
          exact C.retI rfl (by decide +kernel) ⟨rfl, rfl⟩
      · replace hf := ifp c10 hf
        refine C.goto (off := 28) (tgt := 84) (by decide +kernel) (by decide) ?_
        exact l_X15_end_84 C C2 ih r0 i1 i2 h2 hf
def f_X15_end (a0 : Nat) (p1 : Int32) (h : AH) : Option (Int32 × AH) :=
  if isO 15 h a0 = true then
    (pI 15 h a0 0 0).bind fun h1 =>
    b2 (f_X15_isWork a0 p1 h1) fun x2 h3 =>
    if x2 = 0 then
      some ((-1), h3)
    else
      (gA 15 h3 a0 82).bind fun a4 =>
      (aI 0 h3 a4 p1).bind fun x5 =>
      if x5 = 3 then
        (gA 15 h3 a0 85).bind fun a8 =>
        (aI 0 h3 a8 p1).bind fun x9 =>
        some (x9, h3)
      else
        (f_X15_copies a0 h3).bind fun h6 =>
        (gI 15 h6 a0 5).bind fun x7 =>
        f_X15_end_41 FU a0 p1 x7 h6
  else none
set_option maxRecDepth 100000 in
set_option maxHeartbeats 4000000 in
theorem w_X15_end {l : Launch} {G : GX} {a0 : Nat} {p1 : Int32} {h : AH} {rr : Int32} {hr : AH} (hf : f_X15_end a0 p1 h = some (rr, hr)) : Ct l G yX15_end 1 25 [.ref a0, .int p1] h (QI rr hr) := by
  unfold f_X15_end at hf
  obtain ⟨ho, hf⟩ := ifO hf
  refine Ct_of (own := RX15) (cc := cX15_end) (nL := 4) (ret := (some .int)) rfl rfl k_2437 (Nat.le_of_ble_eq_true rfl) (fun X C2 C => ?_)
  show V X G h (QI rr hr) 0 [(0, .ref a0), (1, .int p1)] [] h
  refine C.seg (pe := 2) (lv' := [(0, .ref a0), (1, .int p1)]) (st' := [.int 0, .ref a0]) [(.aload_n 0, 1, 0), (.iconst 0, 1, 0)] (by decide +kernel) rfl ?_
  obtain ⟨h1, gh1, hf⟩ := Option.bind_eq_some_iff.mp hf
  refine C.putI fl_1786 gh1 (by decide +kernel) rfl ?_
  refine C.seg (pe := 7) (lv' := [(0, .ref a0), (1, .int p1)]) (st' := [.int p1, .ref a0]) [(.aload_n 0, 1, 0), (.iload_n 1, 1, 0)] (by decide +kernel) rfl ?_
  obtain ⟨x2, h3, gx2, hf⟩ := b2_some hf
  refine C.callVr C2 [.int p1] [] mv_2422 rfl (o_X15_isWork gx2) (w_X15_isWork gx2) (by omega) (by omega) (Nat.le_of_ble_eq_true rfl) (by decide +kernel) rfl ?_
  refine C.if_ne (off := 5) (tgt := 15) (pf := 13) (by decide +kernel) (by decide) rfl (fun c11 => ?_) (fun c11 => ?_)
  · replace hf := ifn c11 hf
    refine C.seg (pe := 16) (lv' := [(0, .ref a0), (1, .int p1)]) (st' := [.ref a0]) [(.aload_n 0, 1, 0)] (by decide +kernel) rfl ?_
    obtain ⟨a4, ga4, hf⟩ := Option.bind_eq_some_iff.mp hf
    refine C.rdA fr_1868 ga4 (by decide +kernel) rfl ?_
    refine C.seg (pe := 20) (lv' := [(0, .ref a0), (1, .int p1)]) (st' := [.int p1, .ref a4]) [(.iload_n 1, 1, 0)] (by decide +kernel) rfl ?_
    obtain ⟨x5, gx5, hf⟩ := Option.bind_eq_some_iff.mp hf
    refine C.ald 0 rfl gx5 (by decide +kernel) rfl ?_
    refine C.seg (pe := 22) (lv' := [(0, .ref a0), (1, .int p1)]) (st' := [.int 3, .int x5]) [(.iconst 3, 1, 3)] (by decide +kernel) rfl ?_
    refine C.icmp_ne (off := 10) (tgt := 32) (pf := 25) (by decide +kernel) (by decide) rfl (fun c10 => ?_) (fun c10 => ?_)
    · replace hf := ifn c10 hf
      refine C.seg (pe := 33) (lv' := [(0, .ref a0), (1, .int p1)]) (st' := [.ref a0]) [(.aload_n 0, 1, 0)] (by decide +kernel) rfl ?_
      obtain ⟨h6, gh6, hf⟩ := Option.bind_eq_some_iff.mp hf
      refine C.callVr C2 [] [] mv_2438 rfl (o_X15_copies gh6) (w_X15_copies gh6) (by omega) (by omega) (Nat.le_of_ble_eq_true rfl) (by decide +kernel) rfl ?_
      refine C.seg (pe := 37) (lv' := [(0, .ref a0), (1, .int p1)]) (st' := [.ref a0]) [(.aload_n 0, 1, 0)] (by decide +kernel) rfl ?_
      obtain ⟨x7, gx7, hf⟩ := Option.bind_eq_some_iff.mp hf
      refine C.rdI fr_1791 gx7 (by decide +kernel) rfl ?_
      refine C.seg (pe := 41) (lv' := [(2, .int x7), (0, .ref a0), (1, .int p1)]) (st' := []) [(.istore_n 2, 1, 0)] (by decide +kernel) rfl ?_
      refine Vsub [1, 2, 0] rfl ?_
      exact l_X15_end_41 C C2 FU a0 p1 x7 h6 hf
    · replace hf := ifp c10 hf
      refine C.seg (pe := 26) (lv' := [(0, .ref a0), (1, .int p1)]) (st' := [.ref a0]) [(.aload_n 0, 1, 0)] (by decide +kernel) rfl ?_
      obtain ⟨a8, ga8, hf⟩ := Option.bind_eq_some_iff.mp hf
      refine C.rdA fr_1871 ga8 (by decide +kernel) rfl ?_
      refine C.seg (pe := 30) (lv' := [(0, .ref a0), (1, .int p1)]) (st' := [.int p1, .ref a8]) [(.iload_n 1, 1, 0)] (by decide +kernel) rfl ?_
      obtain ⟨x9, gx9, hf⟩ := Option.bind_eq_some_iff.mp hf
      refine C.ald 0 rfl gx9 (by decide +kernel) rfl ?_
      cases hf
      exact C.retI rfl (by decide +kernel) ⟨rfl, rfl⟩
  · replace hf := ifp c11 hf
    refine C.seg (pe := 14) (lv' := [(0, .ref a0), (1, .int p1)]) (st' := [.int (-1)]) [(.iconst (-1), 1, (-1))] (by decide +kernel) rfl ?_
    cases hf
    exact C.retI rfl (by decide +kernel) ⟨rfl, rfl⟩
theorem o_X15_end {a0 : Nat} {p1 : Int32} {h : AH} {rr : Int32} {hr : AH} (hf : f_X15_end a0 p1 h = some (rr, hr)) : isO 15 h a0 = true := by
  unfold f_X15_end at hf
  exact (ifO hf).1
/-! WallHouseModel.ready(I)I -/
def f_X15_ready_62 (k32 : Nat → Int32 → Int32 → Int32 → AH → Option (Int32 × AH)) (r0 : Nat) (i1 : Int32) (i3 : Int32) (si0 : Int32) (si1 : Int32) (h : AH) : Option (Int32 × AH) :=
  k32 r0 i1 (si1 + si0) (i3 + 1) h
set_option maxRecDepth 100000 in
set_option maxHeartbeats 4000000 in
theorem l_X15_ready_62 {X : MX} {l : Launch} {G : GX} {h0 : AH} {rr : Int32} {hr : AH} (C : Cx X G RX15 cX15_ready 4 (some .int) 1 25 h0) (C2 : Cy X l "ready" []) {k32 : Nat → Int32 → Int32 → Int32 → AH → Option (Int32 × AH)} (hk32 : ∀ (r0 : Nat) (i1 : Int32) (i2 : Int32) (i3 : Int32) (h : AH), k32 r0 i1 i2 i3 h = some (rr, hr) → V X G h0 (QI rr hr) 32 [(0, .ref r0), (1, .int i1), (2, .int i2), (3, .int i3)] [] h) (r0 : Nat) (i1 : Int32) (i3 : Int32) (si0 : Int32) (si1 : Int32) (h : AH) (hf : f_X15_ready_62 k32 r0 i1 i3 si0 si1 h = some (rr, hr)) : V X G h0 (QI rr hr) 62 [(0, .ref r0), (1, .int i1), (3, .int i3)] [.int si0, .int si1] h := by
  unfold f_X15_ready_62 at hf
  refine C.seg (pe := 67) (lv' := [(3, .int (i3 + 1)), (2, .int (si1 + si0)), (0, .ref r0), (1, .int i1)]) (st' := []) [(.iadd, 1, 0), (.istore_n 2, 1, 0), (.iinc 3 1, 3, 1)] (by decide +kernel) rfl ?_
  refine C.goto (off := (-35)) (tgt := 32) (by decide +kernel) (by decide) ?_
  refine Vsub [2, 3, 1, 0] rfl ?_
  exact hk32 r0 i1 (si1 + si0) (i3 + 1) h hf
def f_X15_ready_32 : Nat → Nat → Int32 → Int32 → Int32 → AH → Option (Int32 × AH)
  | 0, _, _, _, _, _ => none
  | n + 1, r0, i1, i2, i3, h =>
    if i1 < i3 then
      some (i2, h)
    else
      b2 (f_X15_isGood r0 i3 h) fun x1 h2 =>
      if x1 = 0 then
        f_X15_ready_62 (f_X15_ready_32 n) r0 i1 i3 0 i2 h2
      else
        (gA 15 h2 r0 93).bind fun a3 =>
        (gA 15 h2 r0 94).bind fun a4 =>
        b2 (f_X15_goes r0 a3 a4 h2) fun x5 h6 =>
        f_X15_ready_62 (f_X15_ready_32 n) r0 i1 i3 x5 i2 h6
set_option maxRecDepth 100000 in
set_option maxHeartbeats 4000000 in
theorem l_X15_ready_32 {X : MX} {l : Launch} {G : GX} {h0 : AH} {rr : Int32} {hr : AH} (C : Cx X G RX15 cX15_ready 4 (some .int) 1 25 h0) (C2 : Cy X l "ready" []) : ∀ (n : Nat) (r0 : Nat) (i1 : Int32) (i2 : Int32) (i3 : Int32) (h : AH), f_X15_ready_32 n r0 i1 i2 i3 h = some (rr, hr) → V X G h0 (QI rr hr) 32 [(0, .ref r0), (1, .int i1), (2, .int i2), (3, .int i3)] [] h := by
  intro n
  induction n with
  | zero => intro r0 i1 i2 i3 h hf; rw [f_X15_ready_32] at hf; cases hf
  | succ n ih =>
    intro r0 i1 i2 i3 h hf
    rw [f_X15_ready_32] at hf
    refine C.seg (pe := 34) (lv' := [(0, .ref r0), (1, .int i1), (2, .int i2), (3, .int i3)]) (st' := [.int i1, .int i3]) [(.iload_n 3, 1, 0), (.iload_n 1, 1, 0)] (by decide +kernel) rfl ?_
    refine C.icmp_gt (off := 36) (tgt := 70) (pf := 37) (by decide +kernel) (by decide) rfl (fun c8 => ?_) (fun c8 => ?_)
    · replace hf := ifp c8 hf
      refine C.seg (pe := 71) (lv' := [(0, .ref r0), (1, .int i1), (2, .int i2), (3, .int i3)]) (st' := [.int i2]) [(.iload_n 2, 1, 0)] (by decide +kernel) rfl ?_
      cases hf
      exact C.retI rfl (by decide +kernel) ⟨rfl, rfl⟩
    · replace hf := ifn c8 hf
      refine C.seg (pe := 40) (lv' := [(0, .ref r0), (1, .int i1), (2, .int i2), (3, .int i3)]) (st' := [.int i3, .ref r0, .int i2]) [(.iload_n 2, 1, 0), (.aload_n 0, 1, 0), (.iload_n 3, 1, 0)] (by decide +kernel) rfl ?_
      obtain ⟨x1, h2, gx1, hf⟩ := b2_some hf
      refine C.callVr C2 [.int i3] [.int i2] mv_2442 rfl (o_X15_isGood gx1) (w_X15_isGood gx1) (by omega) (by omega) (Nat.le_of_ble_eq_true rfl) (by decide +kernel) rfl ?_
      refine C.if_eq (off := 18) (tgt := 61) (pf := 46) (by decide +kernel) (by decide) rfl (fun c7 => ?_) (fun c7 => ?_)
      · replace hf := ifp c7 hf
        refine C.seg (pe := 62) (lv' := [(0, .ref r0), (1, .int i1), (2, .int i2), (3, .int i3)]) (st' := [.int 0, .int i2]) [(.iconst 0, 1, 0)] (by decide +kernel) rfl ?_
        refine Vsub [0, 1, 3] rfl ?_
        exact l_X15_ready_62 C C2 ih r0 i1 i3 0 i2 h2 hf
      · replace hf := ifn c7 hf
        refine C.seg (pe := 48) (lv' := [(0, .ref r0), (1, .int i1), (2, .int i2), (3, .int i3)]) (st' := [.ref r0, .ref r0, .int i2]) [(.aload_n 0, 1, 0), (.aload_n 0, 1, 0)] (by decide +kernel) rfl ?_
        obtain ⟨a3, ga3, hf⟩ := Option.bind_eq_some_iff.mp hf
        refine C.rdA fr_1879 ga3 (by decide +kernel) rfl ?_
        refine C.seg (pe := 52) (lv' := [(0, .ref r0), (1, .int i1), (2, .int i2), (3, .int i3)]) (st' := [.ref r0, .ref a3, .ref r0, .int i2]) [(.aload_n 0, 1, 0)] (by decide +kernel) rfl ?_
        obtain ⟨a4, ga4, hf⟩ := Option.bind_eq_some_iff.mp hf
        refine C.rdA fr_1880 ga4 (by decide +kernel) rfl ?_
        obtain ⟨x5, h6, gx5, hf⟩ := b2_some hf
        refine C.callVr C2 [.ref a3, .ref a4] [.int i2] mv_2446 rfl (o_X15_goes gx5) (w_X15_goes gx5) (by omega) (by omega) (Nat.le_of_ble_eq_true rfl) (by decide +kernel) rfl ?_
        refine C.goto (off := 4) (tgt := 62) (by decide +kernel) (by decide) ?_
        refine Vsub [0, 1, 3] rfl ?_
        exact l_X15_ready_62 C C2 ih r0 i1 i3 x5 i2 h6 hf
def f_X15_ready (a0 : Nat) (p1 : Int32) (h : AH) : Option (Int32 × AH) :=
  if isO 15 h a0 = true then
    (pI 15 h a0 0 0).bind fun h1 =>
    (gI 15 h1 a0 5).bind fun x2 =>
    b2 (f_X15_in p1 x2 3649 h1) fun x3 h4 =>
    if x3 = 0 then
      some ((-1), h4)
    else
      (f_X15_copies a0 h4).bind fun h5 =>
      (gI 15 h5 a0 5).bind fun x6 =>
      f_X15_ready_32 FU a0 p1 0 x6 h5
  else none
set_option maxRecDepth 100000 in
set_option maxHeartbeats 4000000 in
theorem w_X15_ready {l : Launch} {G : GX} {a0 : Nat} {p1 : Int32} {h : AH} {rr : Int32} {hr : AH} (hf : f_X15_ready a0 p1 h = some (rr, hr)) : Ct l G yX15_ready 1 25 [.ref a0, .int p1] h (QI rr hr) := by
  unfold f_X15_ready at hf
  obtain ⟨ho, hf⟩ := ifO hf
  refine Ct_of (own := RX15) (cc := cX15_ready) (nL := 4) (ret := (some .int)) rfl rfl k_2453 (Nat.le_of_ble_eq_true rfl) (fun X C2 C => ?_)
  show V X G h (QI rr hr) 0 [(0, .ref a0), (1, .int p1)] [] h
  refine C.seg (pe := 2) (lv' := [(0, .ref a0), (1, .int p1)]) (st' := [.int 0, .ref a0]) [(.aload_n 0, 1, 0), (.iconst 0, 1, 0)] (by decide +kernel) rfl ?_
  obtain ⟨h1, gh1, hf⟩ := Option.bind_eq_some_iff.mp hf
  refine C.putI fl_1786 gh1 (by decide +kernel) rfl ?_
  refine C.seg (pe := 7) (lv' := [(0, .ref a0), (1, .int p1)]) (st' := [.ref a0, .int p1]) [(.iload_n 1, 1, 0), (.aload_n 0, 1, 0)] (by decide +kernel) rfl ?_
  obtain ⟨x2, gx2, hf⟩ := Option.bind_eq_some_iff.mp hf
  refine C.rdI fr_1791 gx2 (by decide +kernel) rfl ?_
  refine C.seg (pe := 13) (lv' := [(0, .ref a0), (1, .int p1)]) (st' := [.int 3649, .int x2, .int p1]) [(.sipush 3649, 3, 3649)] (by decide +kernel) rfl ?_
  obtain ⟨x3, h4, gx3, hf⟩ := b2_some hf
  refine C.callSr C2 [.int p1, .int x2, .int 3649] [] ms_2109 rfl (w_X15_in gx3) (by omega) (by omega) (Nat.le_of_ble_eq_true rfl) (by decide +kernel) rfl ?_
  refine C.if_ne (off := 5) (tgt := 21) (pf := 19) (by decide +kernel) (by decide) rfl (fun c7 => ?_) (fun c7 => ?_)
  · replace hf := ifn c7 hf
    refine C.seg (pe := 22) (lv' := [(0, .ref a0), (1, .int p1)]) (st' := [.ref a0]) [(.aload_n 0, 1, 0)] (by decide +kernel) rfl ?_
    obtain ⟨h5, gh5, hf⟩ := Option.bind_eq_some_iff.mp hf
    refine C.callVr C2 [] [] mv_2438 rfl (o_X15_copies gh5) (w_X15_copies gh5) (by omega) (by omega) (Nat.le_of_ble_eq_true rfl) (by decide +kernel) rfl ?_
    refine C.seg (pe := 28) (lv' := [(2, .int 0), (0, .ref a0), (1, .int p1)]) (st' := [.ref a0]) [(.iconst 0, 1, 0), (.istore_n 2, 1, 0), (.aload_n 0, 1, 0)] (by decide +kernel) rfl ?_
    obtain ⟨x6, gx6, hf⟩ := Option.bind_eq_some_iff.mp hf
    refine C.rdI fr_1791 gx6 (by decide +kernel) rfl ?_
    refine C.seg (pe := 32) (lv' := [(3, .int x6), (2, .int 0), (0, .ref a0), (1, .int p1)]) (st' := []) [(.istore_n 3, 1, 0)] (by decide +kernel) rfl ?_
    refine Vsub [2, 3, 1, 0] rfl ?_
    exact l_X15_ready_32 C C2 FU a0 p1 0 x6 h5 hf
  · replace hf := ifp c7 hf
    refine C.seg (pe := 20) (lv' := [(0, .ref a0), (1, .int p1)]) (st' := [.int (-1)]) [(.iconst (-1), 1, (-1))] (by decide +kernel) rfl ?_
    cases hf
    exact C.retI rfl (by decide +kernel) ⟨rfl, rfl⟩
theorem o_X15_ready {a0 : Nat} {p1 : Int32} {h : AH} {rr : Int32} {hr : AH} (hf : f_X15_ready a0 p1 h = some (rr, hr)) : isO 15 h a0 = true := by
  unfold f_X15_ready at hf
  exact (ifO hf).1
/-! WallHouseModel.tin(II)I -/
def f_X15_tin_26 (r0 : Nat) (h : AH) : Option (Int32 × AH) :=
  b2 (f_X15_refused r0 2 h) fun x1 h2 =>
  some (x1, h2)
set_option maxRecDepth 100000 in
set_option maxHeartbeats 4000000 in
theorem l_X15_tin_26 {X : MX} {l : Launch} {G : GX} {h0 : AH} {rr : Int32} {hr : AH} (C : Cx X G RX15 cX15_tin 3 (some .int) 1 22 h0) (C2 : Cy X l "tin" []) (r0 : Nat) (h : AH) (hf : f_X15_tin_26 r0 h = some (rr, hr)) : V X G h0 (QI rr hr) 26 [(0, .ref r0)] [] h := by
  unfold f_X15_tin_26 at hf
  refine C.seg (pe := 28) (lv' := [(0, .ref r0)]) (st' := [.int 2, .ref r0]) [(.aload_n 0, 1, 0), (.iconst 2, 1, 2)] (by decide +kernel) rfl ?_
  obtain ⟨x1, h2, gx1, hf⟩ := b2_some hf
  refine C.callVr C2 [.int 2] [] mv_2112 rfl (o_X15_refused gx1) (w_X15_refused gx1) (by omega) (by omega) (Nat.le_of_ble_eq_true rfl) (by decide +kernel) rfl ?_
  cases hf
  exact C.retI rfl (by decide +kernel) ⟨rfl, rfl⟩
def f_X15_tin (a0 : Nat) (p1 : Int32) (p2 : Int32) (h : AH) : Option (Int32 × AH) :=
  if isO 15 h a0 = true then
    (pI 15 h a0 0 0).bind fun h1 =>
    b2 (f_X15_in p1 0 7 h1) fun x2 h3 =>
    if x2 = 0 then
      f_X15_tin_26 a0 h3
    else
      b2 (f_X15_in p2 1 999 h3) fun x4 h5 =>
      if x4 = 0 then
        f_X15_tin_26 a0 h5
      else
        (gI 15 h5 a0 77).bind fun x6 =>
        if x6 = 60 then
          b2 (f_X15_refused a0 3 h5) fun x18 h19 =>
          some (x18, h19)
        else
          (gA 15 h5 a0 91).bind fun a7 =>
          (gI 15 h5 a0 77).bind fun x8 =>
          (sI 0 h5 a7 x8 p1).bind fun h9 =>
          (gA 15 h9 a0 92).bind fun a10 =>
          (gI 15 h9 a0 77).bind fun x11 =>
          (sI 0 h9 a10 x11 p2).bind fun h12 =>
          (gI 15 h12 a0 77).bind fun x13 =>
          (pI 15 h12 a0 77 (x13 + 1)).bind fun h14 =>
          (gI 15 h14 a0 77).bind fun x15 =>
          b2 (f_X15_done a0 (x15 - 1) h14) fun x16 h17 =>
          some (x16, h17)
  else none
set_option maxRecDepth 100000 in
set_option maxHeartbeats 4000000 in
theorem w_X15_tin {l : Launch} {G : GX} {a0 : Nat} {p1 : Int32} {p2 : Int32} {h : AH} {rr : Int32} {hr : AH} (hf : f_X15_tin a0 p1 p2 h = some (rr, hr)) : Ct l G yX15_tin 1 22 [.ref a0, .int p1, .int p2] h (QI rr hr) := by
  unfold f_X15_tin at hf
  obtain ⟨ho, hf⟩ := ifO hf
  refine Ct_of (own := RX15) (cc := cX15_tin) (nL := 3) (ret := (some .int)) rfl rfl k_2457 (Nat.le_of_ble_eq_true rfl) (fun X C2 C => ?_)
  show V X G h (QI rr hr) 0 [(0, .ref a0), (1, .int p1), (2, .int p2)] [] h
  refine C.seg (pe := 2) (lv' := [(0, .ref a0), (1, .int p1), (2, .int p2)]) (st' := [.int 0, .ref a0]) [(.aload_n 0, 1, 0), (.iconst 0, 1, 0)] (by decide +kernel) rfl ?_
  obtain ⟨h1, gh1, hf⟩ := Option.bind_eq_some_iff.mp hf
  refine C.putI fl_1786 gh1 (by decide +kernel) rfl ?_
  refine C.seg (pe := 9) (lv' := [(0, .ref a0), (1, .int p1), (2, .int p2)]) (st' := [.int 7, .int 0, .int p1]) [(.iload_n 1, 1, 0), (.iconst 0, 1, 0), (.bipush 7, 2, 7)] (by decide +kernel) rfl ?_
  obtain ⟨x2, h3, gx2, hf⟩ := b2_some hf
  refine C.callSr C2 [.int p1, .int 0, .int 7] [] ms_2109 rfl (w_X15_in gx2) (by omega) (by omega) (Nat.le_of_ble_eq_true rfl) (by decide +kernel) rfl ?_
  refine C.if_eq (off := 14) (tgt := 26) (pf := 15) (by decide +kernel) (by decide) rfl (fun c22 => ?_) (fun c22 => ?_)
  · replace hf := ifp c22 hf
    refine Vsub [0] rfl ?_
    exact l_X15_tin_26 C C2 a0 h3 hf
  · replace hf := ifn c22 hf
    refine C.seg (pe := 20) (lv' := [(0, .ref a0), (1, .int p1), (2, .int p2)]) (st' := [.int 999, .int 1, .int p2]) [(.iload_n 2, 1, 0), (.iconst 1, 1, 1), (.sipush 999, 3, 999)] (by decide +kernel) rfl ?_
    obtain ⟨x4, h5, gx4, hf⟩ := b2_some hf
    refine C.callSr C2 [.int p2, .int 1, .int 999] [] ms_2109 rfl (w_X15_in gx4) (by omega) (by omega) (Nat.le_of_ble_eq_true rfl) (by decide +kernel) rfl ?_
    refine C.if_ne (off := 9) (tgt := 32) (pf := 26) (by decide +kernel) (by decide) rfl (fun c21 => ?_) (fun c21 => ?_)
    · replace hf := ifn c21 hf
      refine C.seg (pe := 33) (lv' := [(0, .ref a0), (1, .int p1), (2, .int p2)]) (st' := [.ref a0]) [(.aload_n 0, 1, 0)] (by decide +kernel) rfl ?_
      obtain ⟨x6, gx6, hf⟩ := Option.bind_eq_some_iff.mp hf
      refine C.rdI fr_1863 gx6 (by decide +kernel) rfl ?_
      refine C.seg (pe := 38) (lv' := [(0, .ref a0), (1, .int p1), (2, .int p2)]) (st' := [.int 60, .int x6]) [(.bipush 60, 2, 60)] (by decide +kernel) rfl ?_
      refine C.icmp_ne (off := 9) (tgt := 47) (pf := 41) (by decide +kernel) (by decide) rfl (fun c20 => ?_) (fun c20 => ?_)
      · replace hf := ifn c20 hf
        refine C.seg (pe := 48) (lv' := [(0, .ref a0), (1, .int p1), (2, .int p2)]) (st' := [.ref a0]) [(.aload_n 0, 1, 0)] (by decide +kernel) rfl ?_
        obtain ⟨a7, ga7, hf⟩ := Option.bind_eq_some_iff.mp hf
        refine C.rdA fr_1877 ga7 (by decide +kernel) rfl ?_
        refine C.seg (pe := 52) (lv' := [(0, .ref a0), (1, .int p1), (2, .int p2)]) (st' := [.ref a0, .ref a7]) [(.aload_n 0, 1, 0)] (by decide +kernel) rfl ?_
        obtain ⟨x8, gx8, hf⟩ := Option.bind_eq_some_iff.mp hf
        refine C.rdI fr_1863 gx8 (by decide +kernel) rfl ?_
        refine C.seg (pe := 56) (lv' := [(0, .ref a0), (1, .int p1), (2, .int p2)]) (st' := [.int p1, .int x8, .ref a7]) [(.iload_n 1, 1, 0)] (by decide +kernel) rfl ?_
        obtain ⟨h9, gh9, hf⟩ := Option.bind_eq_some_iff.mp hf
        refine C.ast gh9 (by decide +kernel) rfl ?_
        refine C.seg (pe := 58) (lv' := [(0, .ref a0), (1, .int p1), (2, .int p2)]) (st' := [.ref a0]) [(.aload_n 0, 1, 0)] (by decide +kernel) rfl ?_
        obtain ⟨a10, ga10, hf⟩ := Option.bind_eq_some_iff.mp hf
        refine C.rdA fr_1878 ga10 (by decide +kernel) rfl ?_
        refine C.seg (pe := 62) (lv' := [(0, .ref a0), (1, .int p1), (2, .int p2)]) (st' := [.ref a0, .ref a10]) [(.aload_n 0, 1, 0)] (by decide +kernel) rfl ?_
        obtain ⟨x11, gx11, hf⟩ := Option.bind_eq_some_iff.mp hf
        refine C.rdI fr_1863 gx11 (by decide +kernel) rfl ?_
        refine C.seg (pe := 66) (lv' := [(0, .ref a0), (1, .int p1), (2, .int p2)]) (st' := [.int p2, .int x11, .ref a10]) [(.iload_n 2, 1, 0)] (by decide +kernel) rfl ?_
        obtain ⟨h12, gh12, hf⟩ := Option.bind_eq_some_iff.mp hf
        refine C.ast gh12 (by decide +kernel) rfl ?_
        refine C.seg (pe := 69) (lv' := [(0, .ref a0), (1, .int p1), (2, .int p2)]) (st' := [.ref a0, .ref a0]) [(.aload_n 0, 1, 0), (.dup, 1, 0)] (by decide +kernel) rfl ?_
        obtain ⟨x13, gx13, hf⟩ := Option.bind_eq_some_iff.mp hf
        refine C.rdI fr_1863 gx13 (by decide +kernel) rfl ?_
        refine C.seg (pe := 74) (lv' := [(0, .ref a0), (1, .int p1), (2, .int p2)]) (st' := [.int (x13 + 1), .ref a0]) [(.iconst 1, 1, 1), (.iadd, 1, 0)] (by decide +kernel) rfl ?_
        obtain ⟨h14, gh14, hf⟩ := Option.bind_eq_some_iff.mp hf
        refine C.putI fl_1863 gh14 (by decide +kernel) rfl ?_
        refine C.seg (pe := 79) (lv' := [(0, .ref a0), (1, .int p1), (2, .int p2)]) (st' := [.ref a0, .ref a0]) [(.aload_n 0, 1, 0), (.aload_n 0, 1, 0)] (by decide +kernel) rfl ?_
        obtain ⟨x15, gx15, hf⟩ := Option.bind_eq_some_iff.mp hf
        refine C.rdI fr_1863 gx15 (by decide +kernel) rfl ?_
        refine C.seg (pe := 84) (lv' := [(0, .ref a0), (1, .int p1), (2, .int p2)]) (st' := [.int (x15 - 1), .ref a0]) [(.iconst 1, 1, 1), (.isub, 1, 0)] (by decide +kernel) rfl ?_
        obtain ⟨x16, h17, gx16, hf⟩ := b2_some hf
        refine C.callVr C2 [.int (x15 - 1)] [] mv_2116 rfl (o_X15_done gx16) (w_X15_done gx16) (by omega) (by omega) (Nat.le_of_ble_eq_true rfl) (by decide +kernel) rfl ?_
        cases hf
        exact C.retI rfl (by decide +kernel) ⟨rfl, rfl⟩
      · replace hf := ifp c20 hf
        refine C.seg (pe := 43) (lv' := [(0, .ref a0), (1, .int p1), (2, .int p2)]) (st' := [.int 3, .ref a0]) [(.aload_n 0, 1, 0), (.iconst 3, 1, 3)] (by decide +kernel) rfl ?_
        obtain ⟨x18, h19, gx18, hf⟩ := b2_some hf
        refine C.callVr C2 [.int 3] [] mv_2112 rfl (o_X15_refused gx18) (w_X15_refused gx18) (by omega) (by omega) (Nat.le_of_ble_eq_true rfl) (by decide +kernel) rfl ?_
        cases hf
        exact C.retI rfl (by decide +kernel) ⟨rfl, rfl⟩
    · replace hf := ifp c21 hf
      refine Vsub [0] rfl ?_
      exact l_X15_tin_26 C C2 a0 h5 hf
theorem o_X15_tin {a0 : Nat} {p1 : Int32} {p2 : Int32} {h : AH} {rr : Int32} {hr : AH} (hf : f_X15_tin a0 p1 p2 h = some (rr, hr)) : isO 15 h a0 = true := by
  unfold f_X15_tin at hf
  exact (ifO hf).1
/-! WallHouseModel.left(I)I -/
def f_X15_left_27 (si0 : Int32) (h : AH) : Option (Int32 × AH) :=
  some (si0, h)
set_option maxRecDepth 100000 in
set_option maxHeartbeats 4000000 in
theorem l_X15_left_27 {X : MX} {l : Launch} {G : GX} {h0 : AH} {rr : Int32} {hr : AH} (C : Cx X G RX15 cX15_left 2 (some .int) 0 0 h0) (C2 : Cy X l "left" []) (si0 : Int32) (h : AH) (hf : f_X15_left_27 si0 h = some (rr, hr)) : V X G h0 (QI rr hr) 27 [] [.int si0] h := by
  unfold f_X15_left_27 at hf
  cases hf
  exact C.retI rfl (by decide +kernel) ⟨rfl, rfl⟩
def f_X15_left_26 (h : AH) : Option (Int32 × AH) :=
  f_X15_left_27 (-1) h
set_option maxRecDepth 100000 in
set_option maxHeartbeats 4000000 in
theorem l_X15_left_26 {X : MX} {l : Launch} {G : GX} {h0 : AH} {rr : Int32} {hr : AH} (C : Cx X G RX15 cX15_left 2 (some .int) 0 0 h0) (C2 : Cy X l "left" []) (h : AH) (hf : f_X15_left_26 h = some (rr, hr)) : V X G h0 (QI rr hr) 26 [] [] h := by
  unfold f_X15_left_26 at hf
  refine C.seg (pe := 27) (lv' := []) (st' := [.int (-1)]) [(.iconst (-1), 1, (-1))] (by decide +kernel) rfl ?_
  exact l_X15_left_27 C C2 (-1) h hf
def f_X15_left (a0 : Nat) (p1 : Int32) (h : AH) : Option (Int32 × AH) :=
  if isO 15 h a0 = true then
    (pI 15 h a0 0 0).bind fun h1 =>
    if p1 < 0 then
      f_X15_left_26 h1
    else
      (gI 15 h1 a0 77).bind fun x2 =>
      if x2 ≤ p1 then
        f_X15_left_26 h1
      else
        (gA 15 h1 a0 92).bind fun a3 =>
        (aI 0 h1 a3 p1).bind fun x4 =>
        f_X15_left_27 x4 h1
  else none
set_option maxRecDepth 100000 in
set_option maxHeartbeats 4000000 in
theorem w_X15_left {l : Launch} {G : GX} {a0 : Nat} {p1 : Int32} {h : AH} {rr : Int32} {hr : AH} (hf : f_X15_left a0 p1 h = some (rr, hr)) : Ct l G yX15_left 0 0 [.ref a0, .int p1] h (QI rr hr) := by
  unfold f_X15_left at hf
  obtain ⟨ho, hf⟩ := ifO hf
  refine Ct_of (own := RX15) (cc := cX15_left) (nL := 2) (ret := (some .int)) rfl rfl k_2461 (Nat.le_of_ble_eq_true rfl) (fun X C2 C => ?_)
  show V X G h (QI rr hr) 0 [(0, .ref a0), (1, .int p1)] [] h
  refine C.seg (pe := 2) (lv' := [(0, .ref a0), (1, .int p1)]) (st' := [.int 0, .ref a0]) [(.aload_n 0, 1, 0), (.iconst 0, 1, 0)] (by decide +kernel) rfl ?_
  obtain ⟨h1, gh1, hf⟩ := Option.bind_eq_some_iff.mp hf
  refine C.putI fl_1786 gh1 (by decide +kernel) rfl ?_
  refine C.seg (pe := 6) (lv' := [(0, .ref a0), (1, .int p1)]) (st' := [.int p1]) [(.iload_n 1, 1, 0)] (by decide +kernel) rfl ?_
  refine C.if_lt (off := 20) (tgt := 26) (pf := 9) (by decide +kernel) (by decide) rfl (fun c6 => ?_) (fun c6 => ?_)
  · replace hf := ifp c6 hf
    refine Vsub [] rfl ?_
    exact l_X15_left_26 C C2 h1 hf
  · replace hf := ifn c6 hf
    refine C.seg (pe := 11) (lv' := [(0, .ref a0), (1, .int p1)]) (st' := [.ref a0, .int p1]) [(.iload_n 1, 1, 0), (.aload_n 0, 1, 0)] (by decide +kernel) rfl ?_
    obtain ⟨x2, gx2, hf⟩ := Option.bind_eq_some_iff.mp hf
    refine C.rdI fr_1863 gx2 (by decide +kernel) rfl ?_
    refine C.icmp_ge (off := 12) (tgt := 26) (pf := 17) (by decide +kernel) (by decide) rfl (fun c5 => ?_) (fun c5 => ?_)
    · replace hf := ifp c5 hf
      refine Vsub [] rfl ?_
      exact l_X15_left_26 C C2 h1 hf
    · replace hf := ifn c5 hf
      refine C.seg (pe := 18) (lv' := [(0, .ref a0), (1, .int p1)]) (st' := [.ref a0]) [(.aload_n 0, 1, 0)] (by decide +kernel) rfl ?_
      obtain ⟨a3, ga3, hf⟩ := Option.bind_eq_some_iff.mp hf
      refine C.rdA fr_1878 ga3 (by decide +kernel) rfl ?_
      refine C.seg (pe := 22) (lv' := [(0, .ref a0), (1, .int p1)]) (st' := [.int p1, .ref a3]) [(.iload_n 1, 1, 0)] (by decide +kernel) rfl ?_
      obtain ⟨x4, gx4, hf⟩ := Option.bind_eq_some_iff.mp hf
      refine C.ald 0 rfl gx4 (by decide +kernel) rfl ?_
      refine C.goto (off := 4) (tgt := 27) (by decide +kernel) (by decide) ?_
      refine Vsub [] rfl ?_
      exact l_X15_left_27 C C2 x4 h1 hf
theorem o_X15_left {a0 : Nat} {p1 : Int32} {h : AH} {rr : Int32} {hr : AH} (hf : f_X15_left a0 p1 h = some (rr, hr)) : isO 15 h a0 = true := by
  unfold f_X15_left at hf
  exact (ifO hf).1
/-! WallHouseModel.isOver(I)V -/
def f_X15_isOver_196 (k34 : Nat → Int32 → Int32 → Int32 → AH → Option (AH)) (r0 : Nat) (i1 : Int32) (i2 : Int32) (i3 : Int32) (h : AH) : Option (AH) :=
  k34 r0 i1 i2 (i3 + 1) h
set_option maxRecDepth 100000 in
set_option maxHeartbeats 4000000 in
theorem l_X15_isOver_196 {X : MX} {l : Launch} {G : GX} {h0 : AH} {hr : AH} (C : Cx X G RX15 cX15_isOver 7 none 0 0 h0) (C2 : Cy X l "isOver" []) {k34 : Nat → Int32 → Int32 → Int32 → AH → Option (AH)} (hk34 : ∀ (r0 : Nat) (i1 : Int32) (i2 : Int32) (i3 : Int32) (h : AH), k34 r0 i1 i2 i3 h = some hr → V X G h0 (QV hr) 34 [(0, .ref r0), (1, .int i1), (2, .int i2), (3, .int i3)] [] h) (r0 : Nat) (i1 : Int32) (i2 : Int32) (i3 : Int32) (h : AH) (hf : f_X15_isOver_196 k34 r0 i1 i2 i3 h = some hr) : V X G h0 (QV hr) 196 [(0, .ref r0), (1, .int i1), (2, .int i2), (3, .int i3)] [] h := by
  unfold f_X15_isOver_196 at hf
  refine C.seg (pe := 199) (lv' := [(3, .int (i3 + 1)), (0, .ref r0), (1, .int i1), (2, .int i2)]) (st' := []) [(.iinc 3 1, 3, 1)] (by decide +kernel) rfl ?_
  refine C.goto (off := (-165)) (tgt := 34) (by decide +kernel) (by decide) ?_
  refine Vsub [1, 2, 3, 0] rfl ?_
  exact hk34 r0 i1 i2 (i3 + 1) h hf
def f_X15_isOver_162 (k34 : Nat → Int32 → Int32 → Int32 → AH → Option (AH)) (r0 : Nat) (i1 : Int32) (i2 : Int32) (i3 : Int32) (i6 : Int32) (si0 : Int32) (si1 : Int32) (sr2 : Nat) (h : AH) : Option (AH) :=
  (sI 0 h sr2 si1 si0).bind fun h1 =>
  (gI 15 h1 r0 77).bind fun x2 =>
  if x2 ≤ i6 then
    (gA 15 h1 r0 87).bind fun a3 =>
    (aI 0 h1 a3 i1).bind fun x4 =>
    (sI 0 h1 a3 i1 (x4 + 1)).bind fun h5 =>
    f_X15_isOver_196 k34 r0 i1 i2 i3 h5
  else
    (gA 15 h1 r0 92).bind fun a6 =>
    (aI 0 h1 a6 i6).bind fun x7 =>
    (sI 0 h1 a6 i6 (x7 - 1)).bind fun h8 =>
    f_X15_isOver_196 k34 r0 i1 i2 i3 h8
set_option maxRecDepth 100000 in
set_option maxHeartbeats 4000000 in
theorem l_X15_isOver_162 {X : MX} {l : Launch} {G : GX} {h0 : AH} {hr : AH} (C : Cx X G RX15 cX15_isOver 7 none 0 0 h0) (C2 : Cy X l "isOver" []) {k34 : Nat → Int32 → Int32 → Int32 → AH → Option (AH)} (hk34 : ∀ (r0 : Nat) (i1 : Int32) (i2 : Int32) (i3 : Int32) (h : AH), k34 r0 i1 i2 i3 h = some hr → V X G h0 (QV hr) 34 [(0, .ref r0), (1, .int i1), (2, .int i2), (3, .int i3)] [] h) (r0 : Nat) (i1 : Int32) (i2 : Int32) (i3 : Int32) (i6 : Int32) (si0 : Int32) (si1 : Int32) (sr2 : Nat) (h : AH) (hf : f_X15_isOver_162 k34 r0 i1 i2 i3 i6 si0 si1 sr2 h = some hr) : V X G h0 (QV hr) 162 [(0, .ref r0), (1, .int i1), (2, .int i2), (3, .int i3), (6, .int i6)] [.int si0, .int si1, .ref sr2] h := by
  unfold f_X15_isOver_162 at hf
  obtain ⟨h1, gh1, hf⟩ := Option.bind_eq_some_iff.mp hf
  refine C.ast gh1 (by decide +kernel) rfl ?_
  refine C.seg (pe := 166) (lv' := [(0, .ref r0), (1, .int i1), (2, .int i2), (3, .int i3), (6, .int i6)]) (st' := [.ref r0, .int i6]) [(.iload 6, 2, 0), (.aload_n 0, 1, 0)] (by decide +kernel) rfl ?_
  obtain ⟨x2, gx2, hf⟩ := Option.bind_eq_some_iff.mp hf
  refine C.rdI fr_1863 gx2 (by decide +kernel) rfl ?_
  refine C.icmp_ge (off := 17) (tgt := 186) (pf := 172) (by decide +kernel) (by decide) rfl (fun c9 => ?_) (fun c9 => ?_)
  · replace hf := ifp c9 hf
    refine C.seg (pe := 187) (lv' := [(0, .ref r0), (1, .int i1), (2, .int i2), (3, .int i3), (6, .int i6)]) (st' := [.ref r0]) [(.aload_n 0, 1, 0)] (by decide +kernel) rfl ?_
    obtain ⟨a3, ga3, hf⟩ := Option.bind_eq_some_iff.mp hf
    refine C.rdA fr_1873 ga3 (by decide +kernel) rfl ?_
    refine C.seg (pe := 192) (lv' := [(0, .ref r0), (1, .int i1), (2, .int i2), (3, .int i3), (6, .int i6)]) (st' := [.int i1, .ref a3, .int i1, .ref a3]) [(.iload_n 1, 1, 0), (.dup2, 1, 0)] (by decide +kernel) rfl ?_
    obtain ⟨x4, gx4, hf⟩ := Option.bind_eq_some_iff.mp hf
    refine C.ald 0 rfl gx4 (by decide +kernel) rfl ?_
    refine C.seg (pe := 195) (lv' := [(0, .ref r0), (1, .int i1), (2, .int i2), (3, .int i3), (6, .int i6)]) (st' := [.int (x4 + 1), .int i1, .ref a3]) [(.iconst 1, 1, 1), (.iadd, 1, 0)] (by decide +kernel) rfl ?_
    obtain ⟨h5, gh5, hf⟩ := Option.bind_eq_some_iff.mp hf
    refine C.ast gh5 (by decide +kernel) rfl ?_
    refine Vsub [0, 1, 2, 3] rfl ?_
    exact l_X15_isOver_196 C C2 hk34 r0 i1 i2 i3 h5 hf
  · replace hf := ifn c9 hf
    refine C.seg (pe := 173) (lv' := [(0, .ref r0), (1, .int i1), (2, .int i2), (3, .int i3), (6, .int i6)]) (st' := [.ref r0]) [(.aload_n 0, 1, 0)] (by decide +kernel) rfl ?_
    obtain ⟨a6, ga6, hf⟩ := Option.bind_eq_some_iff.mp hf
    refine C.rdA fr_1878 ga6 (by decide +kernel) rfl ?_
    refine C.seg (pe := 179) (lv' := [(0, .ref r0), (1, .int i1), (2, .int i2), (3, .int i3), (6, .int i6)]) (st' := [.int i6, .ref a6, .int i6, .ref a6]) [(.iload 6, 2, 0), (.dup2, 1, 0)] (by decide +kernel) rfl ?_
    obtain ⟨x7, gx7, hf⟩ := Option.bind_eq_some_iff.mp hf
    refine C.ald 0 rfl gx7 (by decide +kernel) rfl ?_
    refine C.seg (pe := 182) (lv' := [(0, .ref r0), (1, .int i1), (2, .int i2), (3, .int i3), (6, .int i6)]) (st' := [.int (x7 - 1), .int i6, .ref a6]) [(.iconst 1, 1, 1), (.isub, 1, 0)] (by decide +kernel) rfl ?_
    obtain ⟨h8, gh8, hf⟩ := Option.bind_eq_some_iff.mp hf
    refine C.ast gh8 (by decide +kernel) rfl ?_
    refine C.goto (off := 13) (tgt := 196) (by decide +kernel) (by decide) ?_
    refine Vsub [0, 1, 2, 3] rfl ?_
    exact l_X15_isOver_196 C C2 hk34 r0 i1 i2 i3 h8 hf
def f_X15_isOver_140 (k34 : Nat → Int32 → Int32 → Int32 → AH → Option (AH)) (r0 : Nat) (i1 : Int32) (i2 : Int32) (i3 : Int32) (i5 : Int32) (i6 : Int32) (h : AH) : Option (AH) :=
  (gA 15 h r0 21).bind fun a1 =>
  (gI 15 h r0 77).bind fun x2 =>
  if x2 ≤ i6 then
    f_X15_isOver_162 k34 r0 i1 i2 i3 i6 (-2) i5 a1 h
  else
    f_X15_isOver_162 k34 r0 i1 i2 i3 i6 i6 i5 a1 h
set_option maxRecDepth 100000 in
set_option maxHeartbeats 4000000 in
theorem l_X15_isOver_140 {X : MX} {l : Launch} {G : GX} {h0 : AH} {hr : AH} (C : Cx X G RX15 cX15_isOver 7 none 0 0 h0) (C2 : Cy X l "isOver" []) {k34 : Nat → Int32 → Int32 → Int32 → AH → Option (AH)} (hk34 : ∀ (r0 : Nat) (i1 : Int32) (i2 : Int32) (i3 : Int32) (h : AH), k34 r0 i1 i2 i3 h = some hr → V X G h0 (QV hr) 34 [(0, .ref r0), (1, .int i1), (2, .int i2), (3, .int i3)] [] h) (r0 : Nat) (i1 : Int32) (i2 : Int32) (i3 : Int32) (i5 : Int32) (i6 : Int32) (h : AH) (hf : f_X15_isOver_140 k34 r0 i1 i2 i3 i5 i6 h = some hr) : V X G h0 (QV hr) 140 [(0, .ref r0), (1, .int i1), (2, .int i2), (3, .int i3), (5, .int i5), (6, .int i6)] [] h := by
  unfold f_X15_isOver_140 at hf
  refine C.seg (pe := 141) (lv' := [(0, .ref r0), (1, .int i1), (2, .int i2), (3, .int i3), (5, .int i5), (6, .int i6)]) (st' := [.ref r0]) [(.aload_n 0, 1, 0)] (by decide +kernel) rfl ?_
  obtain ⟨a1, ga1, hf⟩ := Option.bind_eq_some_iff.mp hf
  refine C.rdA fr_1807 ga1 (by decide +kernel) rfl ?_
  refine C.seg (pe := 149) (lv' := [(0, .ref r0), (1, .int i1), (2, .int i2), (3, .int i3), (5, .int i5), (6, .int i6)]) (st' := [.ref r0, .int i6, .int i5, .ref a1]) [(.iload 5, 2, 0), (.iload 6, 2, 0), (.aload_n 0, 1, 0)] (by decide +kernel) rfl ?_
  obtain ⟨x2, gx2, hf⟩ := Option.bind_eq_some_iff.mp hf
  refine C.rdI fr_1863 gx2 (by decide +kernel) rfl ?_
  refine C.icmp_ge (off := 8) (tgt := 160) (pf := 155) (by decide +kernel) (by decide) rfl (fun c3 => ?_) (fun c3 => ?_)
  · replace hf := ifp c3 hf
    refine C.seg (pe := 162) (lv' := [(0, .ref r0), (1, .int i1), (2, .int i2), (3, .int i3), (5, .int i5), (6, .int i6)]) (st' := [.int (-2), .int i5, .ref a1]) [(.bipush (-2), 2, (-2))] (by decide +kernel) rfl ?_
    refine Vsub [0, 1, 2, 3, 5] rfl ?_
    exact l_X15_isOver_162 C C2 hk34 r0 i1 i2 i3 i6 (-2) i5 a1 h hf
  · replace hf := ifn c3 hf
    refine C.seg (pe := 157) (lv' := [(0, .ref r0), (1, .int i1), (2, .int i2), (3, .int i3), (5, .int i5), (6, .int i6)]) (st' := [.int i6, .int i5, .ref a1]) [(.iload 6, 2, 0)] (by decide +kernel) rfl ?_
    refine C.goto (off := 5) (tgt := 162) (by decide +kernel) (by decide) ?_
    refine Vsub [0, 1, 2, 3, 5] rfl ?_
    exact l_X15_isOver_162 C C2 hk34 r0 i1 i2 i3 i6 i6 i5 a1 h hf
def f_X15_isOver_134 (k34 : Nat → Int32 → Int32 → Int32 → AH → Option (AH)) (k103 : Nat → Int32 → Int32 → Int32 → Int32 → Int32 → Int32 → AH → Option (AH)) (r0 : Nat) (i1 : Int32) (i2 : Int32) (i3 : Int32) (i4 : Int32) (i5 : Int32) (i6 : Int32) (h : AH) : Option (AH) :=
  k103 r0 i1 i2 i3 i4 i5 (i6 + 1) h
set_option maxRecDepth 100000 in
set_option maxHeartbeats 4000000 in
theorem l_X15_isOver_134 {X : MX} {l : Launch} {G : GX} {h0 : AH} {hr : AH} (C : Cx X G RX15 cX15_isOver 7 none 0 0 h0) (C2 : Cy X l "isOver" []) {k34 : Nat → Int32 → Int32 → Int32 → AH → Option (AH)} (hk34 : ∀ (r0 : Nat) (i1 : Int32) (i2 : Int32) (i3 : Int32) (h : AH), k34 r0 i1 i2 i3 h = some hr → V X G h0 (QV hr) 34 [(0, .ref r0), (1, .int i1), (2, .int i2), (3, .int i3)] [] h) {k103 : Nat → Int32 → Int32 → Int32 → Int32 → Int32 → Int32 → AH → Option (AH)} (hk103 : ∀ (r0 : Nat) (i1 : Int32) (i2 : Int32) (i3 : Int32) (i4 : Int32) (i5 : Int32) (i6 : Int32) (h : AH), k103 r0 i1 i2 i3 i4 i5 i6 h = some hr → V X G h0 (QV hr) 103 [(0, .ref r0), (1, .int i1), (2, .int i2), (3, .int i3), (4, .int i4), (5, .int i5), (6, .int i6)] [] h) (r0 : Nat) (i1 : Int32) (i2 : Int32) (i3 : Int32) (i4 : Int32) (i5 : Int32) (i6 : Int32) (h : AH) (hf : f_X15_isOver_134 k34 k103 r0 i1 i2 i3 i4 i5 i6 h = some hr) : V X G h0 (QV hr) 134 [(0, .ref r0), (1, .int i1), (2, .int i2), (3, .int i3), (4, .int i4), (5, .int i5), (6, .int i6)] [] h := by
  unfold f_X15_isOver_134 at hf
  refine C.seg (pe := 137) (lv' := [(6, .int (i6 + 1)), (0, .ref r0), (1, .int i1), (2, .int i2), (3, .int i3), (4, .int i4), (5, .int i5)]) (st' := []) [(.iinc 6 1, 3, 1)] (by decide +kernel) rfl ?_
  refine C.goto (off := (-34)) (tgt := 103) (by decide +kernel) (by decide) ?_
  refine Vsub [1, 2, 3, 4, 5, 6, 0] rfl ?_
  exact hk103 r0 i1 i2 i3 i4 i5 (i6 + 1) h hf
def f_X15_isOver_103 (k34 : Nat → Int32 → Int32 → Int32 → AH → Option (AH)) : Nat → Nat → Int32 → Int32 → Int32 → Int32 → Int32 → Int32 → AH → Option (AH)
  | 0, _, _, _, _, _, _, _, _ => none
  | n + 1, r0, i1, i2, i3, i4, i5, i6, h =>
    (gI 15 h r0 77).bind fun x1 =>
    if x1 ≤ i6 then
      f_X15_isOver_140 k34 r0 i1 i2 i3 i5 i6 h
    else
      (gA 15 h r0 91).bind fun a2 =>
      (aI 0 h a2 i6).bind fun x3 =>
      if x3 = i4 then
        (gA 15 h r0 92).bind fun a4 =>
        (aI 0 h a4 i6).bind fun x5 =>
        if x5 = 0 then
          f_X15_isOver_134 k34 (f_X15_isOver_103 k34 n) r0 i1 i2 i3 i4 i5 i6 h
        else
          f_X15_isOver_140 k34 r0 i1 i2 i3 i5 i6 h
      else
        f_X15_isOver_134 k34 (f_X15_isOver_103 k34 n) r0 i1 i2 i3 i4 i5 i6 h
set_option maxRecDepth 100000 in
set_option maxHeartbeats 4000000 in
theorem l_X15_isOver_103 {X : MX} {l : Launch} {G : GX} {h0 : AH} {hr : AH} (C : Cx X G RX15 cX15_isOver 7 none 0 0 h0) (C2 : Cy X l "isOver" []) {k34 : Nat → Int32 → Int32 → Int32 → AH → Option (AH)} (hk34 : ∀ (r0 : Nat) (i1 : Int32) (i2 : Int32) (i3 : Int32) (h : AH), k34 r0 i1 i2 i3 h = some hr → V X G h0 (QV hr) 34 [(0, .ref r0), (1, .int i1), (2, .int i2), (3, .int i3)] [] h) : ∀ (n : Nat) (r0 : Nat) (i1 : Int32) (i2 : Int32) (i3 : Int32) (i4 : Int32) (i5 : Int32) (i6 : Int32) (h : AH), f_X15_isOver_103 k34 n r0 i1 i2 i3 i4 i5 i6 h = some hr → V X G h0 (QV hr) 103 [(0, .ref r0), (1, .int i1), (2, .int i2), (3, .int i3), (4, .int i4), (5, .int i5), (6, .int i6)] [] h := by
  intro n
  induction n with
  | zero => intro r0 i1 i2 i3 i4 i5 i6 h hf; rw [f_X15_isOver_103] at hf; cases hf
  | succ n ih =>
    intro r0 i1 i2 i3 i4 i5 i6 h hf
    rw [f_X15_isOver_103] at hf
    refine C.seg (pe := 106) (lv' := [(0, .ref r0), (1, .int i1), (2, .int i2), (3, .int i3), (4, .int i4), (5, .int i5), (6, .int i6)]) (st' := [.ref r0, .int i6]) [(.iload 6, 2, 0), (.aload_n 0, 1, 0)] (by decide +kernel) rfl ?_
    obtain ⟨x1, gx1, hf⟩ := Option.bind_eq_some_iff.mp hf
    refine C.rdI fr_1863 gx1 (by decide +kernel) rfl ?_
    refine C.icmp_ge (off := 31) (tgt := 140) (pf := 112) (by decide +kernel) (by decide) rfl (fun c8 => ?_) (fun c8 => ?_)
    · replace hf := ifp c8 hf
      refine Vsub [0, 1, 2, 3, 5, 6] rfl ?_
      exact l_X15_isOver_140 C C2 hk34 r0 i1 i2 i3 i5 i6 h hf
    · replace hf := ifn c8 hf
      refine C.seg (pe := 113) (lv' := [(0, .ref r0), (1, .int i1), (2, .int i2), (3, .int i3), (4, .int i4), (5, .int i5), (6, .int i6)]) (st' := [.ref r0]) [(.aload_n 0, 1, 0)] (by decide +kernel) rfl ?_
      obtain ⟨a2, ga2, hf⟩ := Option.bind_eq_some_iff.mp hf
      refine C.rdA fr_1877 ga2 (by decide +kernel) rfl ?_
      refine C.seg (pe := 118) (lv' := [(0, .ref r0), (1, .int i1), (2, .int i2), (3, .int i3), (4, .int i4), (5, .int i5), (6, .int i6)]) (st' := [.int i6, .ref a2]) [(.iload 6, 2, 0)] (by decide +kernel) rfl ?_
      obtain ⟨x3, gx3, hf⟩ := Option.bind_eq_some_iff.mp hf
      refine C.ald 0 rfl gx3 (by decide +kernel) rfl ?_
      refine C.seg (pe := 121) (lv' := [(0, .ref r0), (1, .int i1), (2, .int i2), (3, .int i3), (4, .int i4), (5, .int i5), (6, .int i6)]) (st' := [.int i4, .int x3]) [(.iload 4, 2, 0)] (by decide +kernel) rfl ?_
      refine C.icmp_ne (off := 13) (tgt := 134) (pf := 124) (by decide +kernel) (by decide) rfl (fun c7 => ?_) (fun c7 => ?_)
      · replace hf := ifn c7 hf
        exact l_X15_isOver_134 C C2 hk34 ih r0 i1 i2 i3 i4 i5 i6 h hf
      · replace hf := ifp c7 hf
        refine C.seg (pe := 125) (lv' := [(0, .ref r0), (1, .int i1), (2, .int i2), (3, .int i3), (4, .int i4), (5, .int i5), (6, .int i6)]) (st' := [.ref r0]) [(.aload_n 0, 1, 0)] (by decide +kernel) rfl ?_
        obtain ⟨a4, ga4, hf⟩ := Option.bind_eq_some_iff.mp hf
        refine C.rdA fr_1878 ga4 (by decide +kernel) rfl ?_
        refine C.seg (pe := 130) (lv' := [(0, .ref r0), (1, .int i1), (2, .int i2), (3, .int i3), (4, .int i4), (5, .int i5), (6, .int i6)]) (st' := [.int i6, .ref a4]) [(.iload 6, 2, 0)] (by decide +kernel) rfl ?_
        obtain ⟨x5, gx5, hf⟩ := Option.bind_eq_some_iff.mp hf
        refine C.ald 0 rfl gx5 (by decide +kernel) rfl ?_
        refine C.if_ne (off := 9) (tgt := 140) (pf := 134) (by decide +kernel) (by decide) rfl (fun c6 => ?_) (fun c6 => ?_)
        · replace hf := ifn c6 hf
          refine Vsub [0, 1, 2, 3, 5, 6] rfl ?_
          exact l_X15_isOver_140 C C2 hk34 r0 i1 i2 i3 i5 i6 h hf
        · replace hf := ifp c6 hf
          exact l_X15_isOver_134 C C2 hk34 ih r0 i1 i2 i3 i4 i5 i6 h hf
def f_X15_isOver_34 : Nat → Nat → Int32 → Int32 → Int32 → AH → Option (AH)
  | 0, _, _, _, _, _ => none
  | n + 1, r0, i1, i2, i3, h =>
    (gA 15 h r0 6).bind fun a1 =>
    (aI 0 h a1 i2).bind fun x2 =>
    (gA 15 h r0 7).bind fun a3 =>
    (aI 0 h a3 i2).bind fun x4 =>
    if x2 * x4 ≤ i3 then
      some h
    else
      (gA 15 h r0 88).bind fun a5 =>
      (aI 0 h a5 ((192 * i1) + i3)).bind fun x6 =>
      lt ((192 * i2) + i3 : Int32) fun x7 =>
      (gA 15 h r0 19).bind fun a8 =>
      (sI 0 h a8 x7 x6).bind fun h9 =>
      if x6 = (-1) then
        f_X15_isOver_196 (f_X15_isOver_34 n) r0 i1 i2 i3 h9
      else
        (gA 15 h9 r0 20).bind fun a10 =>
        (sI 0 h9 a10 x7 i1).bind fun h11 =>
        f_X15_isOver_103 (f_X15_isOver_34 n) FU r0 i1 i2 i3 x6 x7 0 h11
set_option maxRecDepth 100000 in
set_option maxHeartbeats 4000000 in
theorem l_X15_isOver_34 {X : MX} {l : Launch} {G : GX} {h0 : AH} {hr : AH} (C : Cx X G RX15 cX15_isOver 7 none 0 0 h0) (C2 : Cy X l "isOver" []) : ∀ (n : Nat) (r0 : Nat) (i1 : Int32) (i2 : Int32) (i3 : Int32) (h : AH), f_X15_isOver_34 n r0 i1 i2 i3 h = some hr → V X G h0 (QV hr) 34 [(0, .ref r0), (1, .int i1), (2, .int i2), (3, .int i3)] [] h := by
  intro n
  induction n with
  | zero => intro r0 i1 i2 i3 h hf; rw [f_X15_isOver_34] at hf; cases hf
  | succ n ih =>
    intro r0 i1 i2 i3 h hf
    rw [f_X15_isOver_34] at hf
    refine C.seg (pe := 36) (lv' := [(0, .ref r0), (1, .int i1), (2, .int i2), (3, .int i3)]) (st' := [.ref r0, .int i3]) [(.iload_n 3, 1, 0), (.aload_n 0, 1, 0)] (by decide +kernel) rfl ?_
    obtain ⟨a1, ga1, hf⟩ := Option.bind_eq_some_iff.mp hf
    refine C.rdA fr_1792 ga1 (by decide +kernel) rfl ?_
    refine C.seg (pe := 40) (lv' := [(0, .ref r0), (1, .int i1), (2, .int i2), (3, .int i3)]) (st' := [.int i2, .ref a1, .int i3]) [(.iload_n 2, 1, 0)] (by decide +kernel) rfl ?_
    obtain ⟨x2, gx2, hf⟩ := Option.bind_eq_some_iff.mp hf
    refine C.ald 0 rfl gx2 (by decide +kernel) rfl ?_
    refine C.seg (pe := 42) (lv' := [(0, .ref r0), (1, .int i1), (2, .int i2), (3, .int i3)]) (st' := [.ref r0, .int x2, .int i3]) [(.aload_n 0, 1, 0)] (by decide +kernel) rfl ?_
    obtain ⟨a3, ga3, hf⟩ := Option.bind_eq_some_iff.mp hf
    refine C.rdA fr_1793 ga3 (by decide +kernel) rfl ?_
    refine C.seg (pe := 46) (lv' := [(0, .ref r0), (1, .int i1), (2, .int i2), (3, .int i3)]) (st' := [.int i2, .ref a3, .int x2, .int i3]) [(.iload_n 2, 1, 0)] (by decide +kernel) rfl ?_
    obtain ⟨x4, gx4, hf⟩ := Option.bind_eq_some_iff.mp hf
    refine C.ald 0 rfl gx4 (by decide +kernel) rfl ?_
    refine C.seg (pe := 48) (lv' := [(0, .ref r0), (1, .int i1), (2, .int i2), (3, .int i3)]) (st' := [.int (x2 * x4), .int i3]) [(.imul, 1, 0)] (by decide +kernel) rfl ?_
    refine C.icmp_ge (off := 154) (tgt := 202) (pf := 51) (by decide +kernel) (by decide) rfl (fun c13 => ?_) (fun c13 => ?_)
    · replace hf := ifp c13 hf
      cases hf
      exact C.retV rfl (by decide +kernel) ⟨rfl, rfl⟩
    · replace hf := ifn c13 hf
      refine C.seg (pe := 52) (lv' := [(0, .ref r0), (1, .int i1), (2, .int i2), (3, .int i3)]) (st' := [.ref r0]) [(.aload_n 0, 1, 0)] (by decide +kernel) rfl ?_
      obtain ⟨a5, ga5, hf⟩ := Option.bind_eq_some_iff.mp hf
      refine C.rdA fr_1874 ga5 (by decide +kernel) rfl ?_
      refine C.seg (pe := 62) (lv' := [(0, .ref r0), (1, .int i1), (2, .int i2), (3, .int i3)]) (st' := [.int ((192 * i1) + i3), .ref a5]) [(.sipush 192, 3, 192), (.iload_n 1, 1, 0), (.imul, 1, 0), (.iload_n 3, 1, 0), (.iadd, 1, 0)] (by decide +kernel) rfl ?_
      obtain ⟨x6, gx6, hf⟩ := Option.bind_eq_some_iff.mp hf
      refine C.ald 0 rfl gx6 (by decide +kernel) rfl ?_
      refine C.seg (pe := 72) (lv' := [(4, .int x6), (0, .ref r0), (1, .int i1), (2, .int i2), (3, .int i3)]) (st' := [.int ((192 * i2) + i3)]) [(.istore 4, 2, 0), (.sipush 192, 3, 192), (.iload_n 2, 1, 0), (.imul, 1, 0), (.iload_n 3, 1, 0), (.iadd, 1, 0)] (by decide +kernel) rfl ?_
      refine Vtopi (fun x7 ex7 => ?_)
      replace hf := lt_ap ex7 hf
      clear ex7
      refine C.seg (pe := 75) (lv' := [(5, .int x7), (4, .int x6), (0, .ref r0), (1, .int i1), (2, .int i2), (3, .int i3)]) (st' := [.ref r0]) [(.istore 5, 2, 0), (.aload_n 0, 1, 0)] (by decide +kernel) rfl ?_
      obtain ⟨a8, ga8, hf⟩ := Option.bind_eq_some_iff.mp hf
      refine C.rdA fr_1805 ga8 (by decide +kernel) rfl ?_
      refine C.seg (pe := 82) (lv' := [(5, .int x7), (4, .int x6), (0, .ref r0), (1, .int i1), (2, .int i2), (3, .int i3)]) (st' := [.int x6, .int x7, .ref a8]) [(.iload 5, 2, 0), (.iload 4, 2, 0)] (by decide +kernel) rfl ?_
      obtain ⟨h9, gh9, hf⟩ := Option.bind_eq_some_iff.mp hf
      refine C.ast gh9 (by decide +kernel) rfl ?_
      refine C.seg (pe := 86) (lv' := [(5, .int x7), (4, .int x6), (0, .ref r0), (1, .int i1), (2, .int i2), (3, .int i3)]) (st' := [.int (-1), .int x6]) [(.iload 4, 2, 0), (.iconst (-1), 1, (-1))] (by decide +kernel) rfl ?_
      refine C.icmp_ne (off := 6) (tgt := 92) (pf := 89) (by decide +kernel) (by decide) rfl (fun c12 => ?_) (fun c12 => ?_)
      · replace hf := ifn c12 hf
        refine C.seg (pe := 93) (lv' := [(5, .int x7), (4, .int x6), (0, .ref r0), (1, .int i1), (2, .int i2), (3, .int i3)]) (st' := [.ref r0]) [(.aload_n 0, 1, 0)] (by decide +kernel) rfl ?_
        obtain ⟨a10, ga10, hf⟩ := Option.bind_eq_some_iff.mp hf
        refine C.rdA fr_1806 ga10 (by decide +kernel) rfl ?_
        refine C.seg (pe := 99) (lv' := [(5, .int x7), (4, .int x6), (0, .ref r0), (1, .int i1), (2, .int i2), (3, .int i3)]) (st' := [.int i1, .int x7, .ref a10]) [(.iload 5, 2, 0), (.iload_n 1, 1, 0)] (by decide +kernel) rfl ?_
        obtain ⟨h11, gh11, hf⟩ := Option.bind_eq_some_iff.mp hf
        refine C.ast gh11 (by decide +kernel) rfl ?_
        refine C.seg (pe := 103) (lv' := [(6, .int 0), (5, .int x7), (4, .int x6), (0, .ref r0), (1, .int i1), (2, .int i2), (3, .int i3)]) (st' := []) [(.iconst 0, 1, 0), (.istore 6, 2, 0)] (by decide +kernel) rfl ?_
        refine Vsub [3, 4, 5, 6, 2, 1, 0] rfl ?_
        exact l_X15_isOver_103 C C2 ih FU r0 i1 i2 i3 x6 x7 0 h11 hf
      · replace hf := ifp c12 hf
        refine C.goto (off := 107) (tgt := 196) (by decide +kernel) (by decide) ?_
        refine Vsub [2, 3, 4, 5] rfl ?_
        exact l_X15_isOver_196 C C2 ih r0 i1 i2 i3 h9 hf
def f_X15_isOver (a0 : Nat) (p1 : Int32) (h : AH) : Option (AH) :=
  if isO 15 h a0 = true then
    (gA 15 h a0 79).bind fun a1 =>
    (aI 0 h a1 p1).bind fun x2 =>
    (gA 15 h a0 85).bind fun a3 =>
    (gI 15 h a0 5).bind fun x4 =>
    (sI 0 h a3 p1 x4).bind fun h5 =>
    (gA 15 h5 a0 13).bind fun a6 =>
    (sI 0 h5 a6 x2 (-2)).bind fun h7 =>
    (gA 15 h7 a0 14).bind fun a8 =>
    (sI 0 h7 a8 x2 p1).bind fun h9 =>
    f_X15_isOver_34 FU a0 p1 x2 0 h9
  else none
set_option maxRecDepth 100000 in
set_option maxHeartbeats 4000000 in
theorem w_X15_isOver {l : Launch} {G : GX} {a0 : Nat} {p1 : Int32} {h : AH} {hr : AH} (hf : f_X15_isOver a0 p1 h = some hr) : Ct l G yX15_isOver 0 0 [.ref a0, .int p1] h (QV hr) := by
  unfold f_X15_isOver at hf
  obtain ⟨ho, hf⟩ := ifO hf
  refine Ct_of (own := RX15) (cc := cX15_isOver) (nL := 7) (ret := none) rfl rfl k_2469 (Nat.le_of_ble_eq_true rfl) (fun X C2 C => ?_)
  show V X G h (QV hr) 0 [(0, .ref a0), (1, .int p1)] [] h
  refine C.seg (pe := 1) (lv' := [(0, .ref a0), (1, .int p1)]) (st' := [.ref a0]) [(.aload_n 0, 1, 0)] (by decide +kernel) rfl ?_
  obtain ⟨a1, ga1, hf⟩ := Option.bind_eq_some_iff.mp hf
  refine C.rdA fr_1865 ga1 (by decide +kernel) rfl ?_
  refine C.seg (pe := 5) (lv' := [(0, .ref a0), (1, .int p1)]) (st' := [.int p1, .ref a1]) [(.iload_n 1, 1, 0)] (by decide +kernel) rfl ?_
  obtain ⟨x2, gx2, hf⟩ := Option.bind_eq_some_iff.mp hf
  refine C.ald 0 rfl gx2 (by decide +kernel) rfl ?_
  refine C.seg (pe := 8) (lv' := [(2, .int x2), (0, .ref a0), (1, .int p1)]) (st' := [.ref a0]) [(.istore_n 2, 1, 0), (.aload_n 0, 1, 0)] (by decide +kernel) rfl ?_
  obtain ⟨a3, ga3, hf⟩ := Option.bind_eq_some_iff.mp hf
  refine C.rdA fr_1871 ga3 (by decide +kernel) rfl ?_
  refine C.seg (pe := 13) (lv' := [(2, .int x2), (0, .ref a0), (1, .int p1)]) (st' := [.ref a0, .int p1, .ref a3]) [(.iload_n 1, 1, 0), (.aload_n 0, 1, 0)] (by decide +kernel) rfl ?_
  obtain ⟨x4, gx4, hf⟩ := Option.bind_eq_some_iff.mp hf
  refine C.rdI fr_1791 gx4 (by decide +kernel) rfl ?_
  obtain ⟨h5, gh5, hf⟩ := Option.bind_eq_some_iff.mp hf
  refine C.ast gh5 (by decide +kernel) rfl ?_
  refine C.seg (pe := 18) (lv' := [(2, .int x2), (0, .ref a0), (1, .int p1)]) (st' := [.ref a0]) [(.aload_n 0, 1, 0)] (by decide +kernel) rfl ?_
  obtain ⟨a6, ga6, hf⟩ := Option.bind_eq_some_iff.mp hf
  refine C.rdA fr_1799 ga6 (by decide +kernel) rfl ?_
  refine C.seg (pe := 24) (lv' := [(2, .int x2), (0, .ref a0), (1, .int p1)]) (st' := [.int (-2), .int x2, .ref a6]) [(.iload_n 2, 1, 0), (.bipush (-2), 2, (-2))] (by decide +kernel) rfl ?_
  obtain ⟨h7, gh7, hf⟩ := Option.bind_eq_some_iff.mp hf
  refine C.ast gh7 (by decide +kernel) rfl ?_
  refine C.seg (pe := 26) (lv' := [(2, .int x2), (0, .ref a0), (1, .int p1)]) (st' := [.ref a0]) [(.aload_n 0, 1, 0)] (by decide +kernel) rfl ?_
  obtain ⟨a8, ga8, hf⟩ := Option.bind_eq_some_iff.mp hf
  refine C.rdA fr_1800 ga8 (by decide +kernel) rfl ?_
  refine C.seg (pe := 31) (lv' := [(2, .int x2), (0, .ref a0), (1, .int p1)]) (st' := [.int p1, .int x2, .ref a8]) [(.iload_n 2, 1, 0), (.iload_n 1, 1, 0)] (by decide +kernel) rfl ?_
  obtain ⟨h9, gh9, hf⟩ := Option.bind_eq_some_iff.mp hf
  refine C.ast gh9 (by decide +kernel) rfl ?_
  refine C.seg (pe := 34) (lv' := [(3, .int 0), (2, .int x2), (0, .ref a0), (1, .int p1)]) (st' := []) [(.iconst 0, 1, 0), (.istore_n 3, 1, 0)] (by decide +kernel) rfl ?_
  refine Vsub [2, 3, 1, 0] rfl ?_
  exact l_X15_isOver_34 C C2 FU a0 p1 x2 0 h9 hf
theorem o_X15_isOver {a0 : Nat} {p1 : Int32} {h : AH} {hr : AH} (hf : f_X15_isOver a0 p1 h = some hr) : isO 15 h a0 = true := by
  unfold f_X15_isOver at hf
  exact (ifO hf).1
/-! WallHouseModel.pass(I)I -/
def f_X15_pass_115 (k37 : Nat → Int32 → Int32 → Int32 → AH → Option (Int32 × AH)) (r0 : Nat) (i1 : Int32) (i2 : Int32) (i3 : Int32) (h : AH) : Option (Int32 × AH) :=
  (gI 15 h r0 5).bind fun x1 =>
  (pI 15 h r0 5 (x1 + 1)).bind fun h2 =>
  k37 r0 i1 i2 (i3 + 1) h2
set_option maxRecDepth 100000 in
set_option maxHeartbeats 4000000 in
theorem l_X15_pass_115 {X : MX} {l : Launch} {G : GX} {h0 : AH} {rr : Int32} {hr : AH} (C : Cx X G RX15 cX15_pass 5 (some .int) 1 26 h0) (C2 : Cy X l "pass" []) {k37 : Nat → Int32 → Int32 → Int32 → AH → Option (Int32 × AH)} (hk37 : ∀ (r0 : Nat) (i1 : Int32) (i2 : Int32) (i3 : Int32) (h : AH), k37 r0 i1 i2 i3 h = some (rr, hr) → V X G h0 (QI rr hr) 37 [(0, .ref r0), (1, .int i1), (2, .int i2), (3, .int i3)] [] h) (r0 : Nat) (i1 : Int32) (i2 : Int32) (i3 : Int32) (h : AH) (hf : f_X15_pass_115 k37 r0 i1 i2 i3 h = some (rr, hr)) : V X G h0 (QI rr hr) 115 [(0, .ref r0), (1, .int i1), (2, .int i2), (3, .int i3)] [] h := by
  unfold f_X15_pass_115 at hf
  refine C.seg (pe := 117) (lv' := [(0, .ref r0), (1, .int i1), (2, .int i2), (3, .int i3)]) (st' := [.ref r0, .ref r0]) [(.aload_n 0, 1, 0), (.dup, 1, 0)] (by decide +kernel) rfl ?_
  obtain ⟨x1, gx1, hf⟩ := Option.bind_eq_some_iff.mp hf
  refine C.rdI fr_1791 gx1 (by decide +kernel) rfl ?_
  refine C.seg (pe := 122) (lv' := [(0, .ref r0), (1, .int i1), (2, .int i2), (3, .int i3)]) (st' := [.int (x1 + 1), .ref r0]) [(.iconst 1, 1, 1), (.iadd, 1, 0)] (by decide +kernel) rfl ?_
  obtain ⟨h2, gh2, hf⟩ := Option.bind_eq_some_iff.mp hf
  refine C.putI fl_1791 gh2 (by decide +kernel) rfl ?_
  refine C.seg (pe := 128) (lv' := [(3, .int (i3 + 1)), (0, .ref r0), (1, .int i1), (2, .int i2)]) (st' := []) [(.iinc 3 1, 3, 1)] (by decide +kernel) rfl ?_
  refine C.goto (off := (-91)) (tgt := 37) (by decide +kernel) (by decide) ?_
  refine Vsub [1, 2, 3, 0] rfl ?_
  exact hk37 r0 i1 i2 (i3 + 1) h2 hf
def f_X15_pass_109 (k37 : Nat → Int32 → Int32 → Int32 → AH → Option (Int32 × AH)) (k71 : Nat → Int32 → Int32 → Int32 → Int32 → AH → Option (Int32 × AH)) (r0 : Nat) (i1 : Int32) (i2 : Int32) (i3 : Int32) (i4 : Int32) (h : AH) : Option (Int32 × AH) :=
  k71 r0 i1 i2 i3 (i4 + 1) h
set_option maxRecDepth 100000 in
set_option maxHeartbeats 4000000 in
theorem l_X15_pass_109 {X : MX} {l : Launch} {G : GX} {h0 : AH} {rr : Int32} {hr : AH} (C : Cx X G RX15 cX15_pass 5 (some .int) 1 26 h0) (C2 : Cy X l "pass" []) {k37 : Nat → Int32 → Int32 → Int32 → AH → Option (Int32 × AH)} (hk37 : ∀ (r0 : Nat) (i1 : Int32) (i2 : Int32) (i3 : Int32) (h : AH), k37 r0 i1 i2 i3 h = some (rr, hr) → V X G h0 (QI rr hr) 37 [(0, .ref r0), (1, .int i1), (2, .int i2), (3, .int i3)] [] h) {k71 : Nat → Int32 → Int32 → Int32 → Int32 → AH → Option (Int32 × AH)} (hk71 : ∀ (r0 : Nat) (i1 : Int32) (i2 : Int32) (i3 : Int32) (i4 : Int32) (h : AH), k71 r0 i1 i2 i3 i4 h = some (rr, hr) → V X G h0 (QI rr hr) 71 [(0, .ref r0), (1, .int i1), (2, .int i2), (3, .int i3), (4, .int i4)] [] h) (r0 : Nat) (i1 : Int32) (i2 : Int32) (i3 : Int32) (i4 : Int32) (h : AH) (hf : f_X15_pass_109 k37 k71 r0 i1 i2 i3 i4 h = some (rr, hr)) : V X G h0 (QI rr hr) 109 [(0, .ref r0), (1, .int i1), (2, .int i2), (3, .int i3), (4, .int i4)] [] h := by
  unfold f_X15_pass_109 at hf
  refine C.seg (pe := 112) (lv' := [(4, .int (i4 + 1)), (0, .ref r0), (1, .int i1), (2, .int i2), (3, .int i3)]) (st' := []) [(.iinc 4 1, 3, 1)] (by decide +kernel) rfl ?_
  refine C.goto (off := (-41)) (tgt := 71) (by decide +kernel) (by decide) ?_
  refine Vsub [1, 2, 3, 4, 0] rfl ?_
  exact hk71 r0 i1 i2 i3 (i4 + 1) h hf
def f_X15_pass_71 (k37 : Nat → Int32 → Int32 → Int32 → AH → Option (Int32 × AH)) : Nat → Nat → Int32 → Int32 → Int32 → Int32 → AH → Option (Int32 × AH)
  | 0, _, _, _, _, _, _ => none
  | n + 1, r0, i1, i2, i3, i4, h =>
    (gI 15 h r0 76).bind fun x1 =>
    if x1 ≤ i4 then
      f_X15_pass_115 k37 r0 i1 i2 i3 h
    else
      (gA 15 h r0 82).bind fun a2 =>
      (aI 0 h a2 i4).bind fun x3 =>
      if x3 = 3 then
        (gA 15 h r0 85).bind fun a4 =>
        (aI 0 h a4 i4).bind fun x5 =>
        if x5 = (-2) then
          (f_X15_isOver r0 i4 h).bind fun h6 =>
          f_X15_pass_109 k37 (f_X15_pass_71 k37 n) r0 i1 i2 i3 i4 h6
        else
          f_X15_pass_109 k37 (f_X15_pass_71 k37 n) r0 i1 i2 i3 i4 h
      else
        f_X15_pass_109 k37 (f_X15_pass_71 k37 n) r0 i1 i2 i3 i4 h
set_option maxRecDepth 100000 in
set_option maxHeartbeats 4000000 in
theorem l_X15_pass_71 {X : MX} {l : Launch} {G : GX} {h0 : AH} {rr : Int32} {hr : AH} (C : Cx X G RX15 cX15_pass 5 (some .int) 1 26 h0) (C2 : Cy X l "pass" []) {k37 : Nat → Int32 → Int32 → Int32 → AH → Option (Int32 × AH)} (hk37 : ∀ (r0 : Nat) (i1 : Int32) (i2 : Int32) (i3 : Int32) (h : AH), k37 r0 i1 i2 i3 h = some (rr, hr) → V X G h0 (QI rr hr) 37 [(0, .ref r0), (1, .int i1), (2, .int i2), (3, .int i3)] [] h) : ∀ (n : Nat) (r0 : Nat) (i1 : Int32) (i2 : Int32) (i3 : Int32) (i4 : Int32) (h : AH), f_X15_pass_71 k37 n r0 i1 i2 i3 i4 h = some (rr, hr) → V X G h0 (QI rr hr) 71 [(0, .ref r0), (1, .int i1), (2, .int i2), (3, .int i3), (4, .int i4)] [] h := by
  intro n
  induction n with
  | zero => intro r0 i1 i2 i3 i4 h hf; rw [f_X15_pass_71] at hf; cases hf
  | succ n ih =>
    intro r0 i1 i2 i3 i4 h hf
    rw [f_X15_pass_71] at hf
    refine C.seg (pe := 74) (lv' := [(0, .ref r0), (1, .int i1), (2, .int i2), (3, .int i3), (4, .int i4)]) (st' := [.ref r0, .int i4]) [(.iload 4, 2, 0), (.aload_n 0, 1, 0)] (by decide +kernel) rfl ?_
    obtain ⟨x1, gx1, hf⟩ := Option.bind_eq_some_iff.mp hf
    refine C.rdI fr_1862 gx1 (by decide +kernel) rfl ?_
    refine C.icmp_ge (off := 38) (tgt := 115) (pf := 80) (by decide +kernel) (by decide) rfl (fun c9 => ?_) (fun c9 => ?_)
    · replace hf := ifp c9 hf
      refine Vsub [0, 1, 2, 3] rfl ?_
      exact l_X15_pass_115 C C2 hk37 r0 i1 i2 i3 h hf
    · replace hf := ifn c9 hf
      refine C.seg (pe := 81) (lv' := [(0, .ref r0), (1, .int i1), (2, .int i2), (3, .int i3), (4, .int i4)]) (st' := [.ref r0]) [(.aload_n 0, 1, 0)] (by decide +kernel) rfl ?_
      obtain ⟨a2, ga2, hf⟩ := Option.bind_eq_some_iff.mp hf
      refine C.rdA fr_1868 ga2 (by decide +kernel) rfl ?_
      refine C.seg (pe := 86) (lv' := [(0, .ref r0), (1, .int i1), (2, .int i2), (3, .int i3), (4, .int i4)]) (st' := [.int i4, .ref a2]) [(.iload 4, 2, 0)] (by decide +kernel) rfl ?_
      obtain ⟨x3, gx3, hf⟩ := Option.bind_eq_some_iff.mp hf
      refine C.ald 0 rfl gx3 (by decide +kernel) rfl ?_
      refine C.seg (pe := 88) (lv' := [(0, .ref r0), (1, .int i1), (2, .int i2), (3, .int i3), (4, .int i4)]) (st' := [.int 3, .int x3]) [(.iconst 3, 1, 3)] (by decide +kernel) rfl ?_
      refine C.icmp_ne (off := 21) (tgt := 109) (pf := 91) (by decide +kernel) (by decide) rfl (fun c8 => ?_) (fun c8 => ?_)
      · replace hf := ifn c8 hf
        exact l_X15_pass_109 C C2 hk37 ih r0 i1 i2 i3 i4 h hf
      · replace hf := ifp c8 hf
        refine C.seg (pe := 92) (lv' := [(0, .ref r0), (1, .int i1), (2, .int i2), (3, .int i3), (4, .int i4)]) (st' := [.ref r0]) [(.aload_n 0, 1, 0)] (by decide +kernel) rfl ?_
        obtain ⟨a4, ga4, hf⟩ := Option.bind_eq_some_iff.mp hf
        refine C.rdA fr_1871 ga4 (by decide +kernel) rfl ?_
        refine C.seg (pe := 97) (lv' := [(0, .ref r0), (1, .int i1), (2, .int i2), (3, .int i3), (4, .int i4)]) (st' := [.int i4, .ref a4]) [(.iload 4, 2, 0)] (by decide +kernel) rfl ?_
        obtain ⟨x5, gx5, hf⟩ := Option.bind_eq_some_iff.mp hf
        refine C.ald 0 rfl gx5 (by decide +kernel) rfl ?_
        refine C.seg (pe := 100) (lv' := [(0, .ref r0), (1, .int i1), (2, .int i2), (3, .int i3), (4, .int i4)]) (st' := [.int (-2), .int x5]) [(.bipush (-2), 2, (-2))] (by decide +kernel) rfl ?_
        refine C.icmp_ne (off := 9) (tgt := 109) (pf := 103) (by decide +kernel) (by decide) rfl (fun c7 => ?_) (fun c7 => ?_)
        · replace hf := ifn c7 hf
          exact l_X15_pass_109 C C2 hk37 ih r0 i1 i2 i3 i4 h hf
        · replace hf := ifp c7 hf
          refine C.seg (pe := 106) (lv' := [(0, .ref r0), (1, .int i1), (2, .int i2), (3, .int i3), (4, .int i4)]) (st' := [.int i4, .ref r0]) [(.aload_n 0, 1, 0), (.iload 4, 2, 0)] (by decide +kernel) rfl ?_
          obtain ⟨h6, gh6, hf⟩ := Option.bind_eq_some_iff.mp hf
          refine C.callVr C2 [.int i4] [] mv_2466 rfl (o_X15_isOver gh6) (w_X15_isOver gh6) (by omega) (by omega) (Nat.le_of_ble_eq_true rfl) (by decide +kernel) rfl ?_
          exact l_X15_pass_109 C C2 hk37 ih r0 i1 i2 i3 i4 h6 hf
def f_X15_pass_37 : Nat → Nat → Int32 → Int32 → Int32 → AH → Option (Int32 × AH)
  | 0, _, _, _, _, _ => none
  | n + 1, r0, i1, i2, i3, h =>
    if i1 ≤ i3 then
      b2 (f_X15_done r0 i2 h) fun x1 h2 =>
      some (x1, h2)
    else
      (gI 15 h r0 5).bind fun x3 =>
      b2 (f_X15_isGood r0 x3 h) fun x4 h5 =>
      if x4 = 0 then
        f_X15_pass_115 (f_X15_pass_37 n) r0 i1 i2 i3 h5
      else
        (gA 15 h5 r0 82).bind fun a6 =>
        (gA 15 h5 r0 83).bind fun a7 =>
        b2 (f_X15_goes r0 a6 a7 h5) fun x8 h9 =>
        f_X15_pass_71 (f_X15_pass_37 n) FU r0 i1 (i2 + x8) i3 0 h9
set_option maxRecDepth 100000 in
set_option maxHeartbeats 4000000 in
theorem l_X15_pass_37 {X : MX} {l : Launch} {G : GX} {h0 : AH} {rr : Int32} {hr : AH} (C : Cx X G RX15 cX15_pass 5 (some .int) 1 26 h0) (C2 : Cy X l "pass" []) : ∀ (n : Nat) (r0 : Nat) (i1 : Int32) (i2 : Int32) (i3 : Int32) (h : AH), f_X15_pass_37 n r0 i1 i2 i3 h = some (rr, hr) → V X G h0 (QI rr hr) 37 [(0, .ref r0), (1, .int i1), (2, .int i2), (3, .int i3)] [] h := by
  intro n
  induction n with
  | zero => intro r0 i1 i2 i3 h hf; rw [f_X15_pass_37] at hf; cases hf
  | succ n ih =>
    intro r0 i1 i2 i3 h hf
    rw [f_X15_pass_37] at hf
    refine C.seg (pe := 39) (lv' := [(0, .ref r0), (1, .int i1), (2, .int i2), (3, .int i3)]) (st' := [.int i1, .int i3]) [(.iload_n 3, 1, 0), (.iload_n 1, 1, 0)] (by decide +kernel) rfl ?_
    refine C.icmp_ge (off := 92) (tgt := 131) (pf := 42) (by decide +kernel) (by decide) rfl (fun c11 => ?_) (fun c11 => ?_)
    · replace hf := ifp c11 hf
      refine C.seg (pe := 133) (lv' := [(0, .ref r0), (1, .int i1), (2, .int i2), (3, .int i3)]) (st' := [.int i2, .ref r0]) [(.aload_n 0, 1, 0), (.iload_n 2, 1, 0)] (by decide +kernel) rfl ?_
      obtain ⟨x1, h2, gx1, hf⟩ := b2_some hf
      refine C.callVr C2 [.int i2] [] mv_2116 rfl (o_X15_done gx1) (w_X15_done gx1) (by omega) (by omega) (Nat.le_of_ble_eq_true rfl) (by decide +kernel) rfl ?_
      cases hf
      exact C.retI rfl (by decide +kernel) ⟨rfl, rfl⟩
    · replace hf := ifn c11 hf
      refine C.seg (pe := 44) (lv' := [(0, .ref r0), (1, .int i1), (2, .int i2), (3, .int i3)]) (st' := [.ref r0, .ref r0]) [(.aload_n 0, 1, 0), (.aload_n 0, 1, 0)] (by decide +kernel) rfl ?_
      obtain ⟨x3, gx3, hf⟩ := Option.bind_eq_some_iff.mp hf
      refine C.rdI fr_1791 gx3 (by decide +kernel) rfl ?_
      obtain ⟨x4, h5, gx4, hf⟩ := b2_some hf
      refine C.callVr C2 [.int x3] [] mv_2442 rfl (o_X15_isGood gx4) (w_X15_isGood gx4) (by omega) (by omega) (Nat.le_of_ble_eq_true rfl) (by decide +kernel) rfl ?_
      refine C.if_eq (off := 65) (tgt := 115) (pf := 53) (by decide +kernel) (by decide) rfl (fun c10 => ?_) (fun c10 => ?_)
      · replace hf := ifp c10 hf
        exact l_X15_pass_115 C C2 ih r0 i1 i2 i3 h5 hf
      · replace hf := ifn c10 hf
        refine C.seg (pe := 56) (lv' := [(0, .ref r0), (1, .int i1), (2, .int i2), (3, .int i3)]) (st' := [.ref r0, .ref r0, .int i2]) [(.iload_n 2, 1, 0), (.aload_n 0, 1, 0), (.aload_n 0, 1, 0)] (by decide +kernel) rfl ?_
        obtain ⟨a6, ga6, hf⟩ := Option.bind_eq_some_iff.mp hf
        refine C.rdA fr_1868 ga6 (by decide +kernel) rfl ?_
        refine C.seg (pe := 60) (lv' := [(0, .ref r0), (1, .int i1), (2, .int i2), (3, .int i3)]) (st' := [.ref r0, .ref a6, .ref r0, .int i2]) [(.aload_n 0, 1, 0)] (by decide +kernel) rfl ?_
        obtain ⟨a7, ga7, hf⟩ := Option.bind_eq_some_iff.mp hf
        refine C.rdA fr_1869 ga7 (by decide +kernel) rfl ?_
        obtain ⟨x8, h9, gx8, hf⟩ := b2_some hf
        refine C.callVr C2 [.ref a6, .ref a7] [.int i2] mv_2446 rfl (o_X15_goes gx8) (w_X15_goes gx8) (by omega) (by omega) (Nat.le_of_ble_eq_true rfl) (by decide +kernel) rfl ?_
        refine C.seg (pe := 71) (lv' := [(4, .int 0), (2, .int (i2 + x8)), (0, .ref r0), (1, .int i1), (3, .int i3)]) (st' := []) [(.iadd, 1, 0), (.istore_n 2, 1, 0), (.iconst 0, 1, 0), (.istore 4, 2, 0)] (by decide +kernel) rfl ?_
        refine Vsub [2, 3, 1, 4, 0] rfl ?_
        exact l_X15_pass_71 C C2 ih FU r0 i1 (i2 + x8) i3 0 h9 hf
def f_X15_pass_27 (r0 : Nat) (h : AH) : Option (Int32 × AH) :=
  b2 (f_X15_refused r0 2 h) fun x1 h2 =>
  some (x1, h2)
set_option maxRecDepth 100000 in
set_option maxHeartbeats 4000000 in
theorem l_X15_pass_27 {X : MX} {l : Launch} {G : GX} {h0 : AH} {rr : Int32} {hr : AH} (C : Cx X G RX15 cX15_pass 5 (some .int) 1 26 h0) (C2 : Cy X l "pass" []) (r0 : Nat) (h : AH) (hf : f_X15_pass_27 r0 h = some (rr, hr)) : V X G h0 (QI rr hr) 27 [(0, .ref r0)] [] h := by
  unfold f_X15_pass_27 at hf
  refine C.seg (pe := 29) (lv' := [(0, .ref r0)]) (st' := [.int 2, .ref r0]) [(.aload_n 0, 1, 0), (.iconst 2, 1, 2)] (by decide +kernel) rfl ?_
  obtain ⟨x1, h2, gx1, hf⟩ := b2_some hf
  refine C.callVr C2 [.int 2] [] mv_2112 rfl (o_X15_refused gx1) (w_X15_refused gx1) (by omega) (by omega) (Nat.le_of_ble_eq_true rfl) (by decide +kernel) rfl ?_
  cases hf
  exact C.retI rfl (by decide +kernel) ⟨rfl, rfl⟩
def f_X15_pass (a0 : Nat) (p1 : Int32) (h : AH) : Option (Int32 × AH) :=
  if isO 15 h a0 = true then
    (pI 15 h a0 0 0).bind fun h1 =>
    b2 (f_X15_in p1 1 100 h1) fun x2 h3 =>
    if x2 = 0 then
      f_X15_pass_27 a0 h3
    else
      (gI 15 h3 a0 5).bind fun x4 =>
      if x4 + p1 < 3650 then
        f_X15_pass_37 FU a0 p1 0 0 h3
      else
        f_X15_pass_27 a0 h3
  else none
set_option maxRecDepth 100000 in
set_option maxHeartbeats 4000000 in
theorem w_X15_pass {l : Launch} {G : GX} {a0 : Nat} {p1 : Int32} {h : AH} {rr : Int32} {hr : AH} (hf : f_X15_pass a0 p1 h = some (rr, hr)) : Ct l G yX15_pass 1 26 [.ref a0, .int p1] h (QI rr hr) := by
  unfold f_X15_pass at hf
  obtain ⟨ho, hf⟩ := ifO hf
  refine Ct_of (own := RX15) (cc := cX15_pass) (nL := 5) (ret := (some .int)) rfl rfl k_2465 (Nat.le_of_ble_eq_true rfl) (fun X C2 C => ?_)
  show V X G h (QI rr hr) 0 [(0, .ref a0), (1, .int p1)] [] h
  refine C.seg (pe := 2) (lv' := [(0, .ref a0), (1, .int p1)]) (st' := [.int 0, .ref a0]) [(.aload_n 0, 1, 0), (.iconst 0, 1, 0)] (by decide +kernel) rfl ?_
  obtain ⟨h1, gh1, hf⟩ := Option.bind_eq_some_iff.mp hf
  refine C.putI fl_1786 gh1 (by decide +kernel) rfl ?_
  refine C.seg (pe := 9) (lv' := [(0, .ref a0), (1, .int p1)]) (st' := [.int 100, .int 1, .int p1]) [(.iload_n 1, 1, 0), (.iconst 1, 1, 1), (.bipush 100, 2, 100)] (by decide +kernel) rfl ?_
  obtain ⟨x2, h3, gx2, hf⟩ := b2_some hf
  refine C.callSr C2 [.int p1, .int 1, .int 100] [] ms_2109 rfl (w_X15_in gx2) (by omega) (by omega) (Nat.le_of_ble_eq_true rfl) (by decide +kernel) rfl ?_
  refine C.if_eq (off := 15) (tgt := 27) (pf := 15) (by decide +kernel) (by decide) rfl (fun c6 => ?_) (fun c6 => ?_)
  · replace hf := ifp c6 hf
    refine Vsub [0] rfl ?_
    exact l_X15_pass_27 C C2 a0 h3 hf
  · replace hf := ifn c6 hf
    refine C.seg (pe := 16) (lv' := [(0, .ref a0), (1, .int p1)]) (st' := [.ref a0]) [(.aload_n 0, 1, 0)] (by decide +kernel) rfl ?_
    obtain ⟨x4, gx4, hf⟩ := Option.bind_eq_some_iff.mp hf
    refine C.rdI fr_1791 gx4 (by decide +kernel) rfl ?_
    refine C.seg (pe := 24) (lv' := [(0, .ref a0), (1, .int p1)]) (st' := [.int 3650, .int (x4 + p1)]) [(.iload_n 1, 1, 0), (.iadd, 1, 0), (.sipush 3650, 3, 3650)] (by decide +kernel) rfl ?_
    refine C.icmp_lt (off := 9) (tgt := 33) (pf := 27) (by decide +kernel) (by decide) rfl (fun c5 => ?_) (fun c5 => ?_)
    · replace hf := ifp c5 hf
      refine C.seg (pe := 37) (lv' := [(3, .int 0), (2, .int 0), (0, .ref a0), (1, .int p1)]) (st' := []) [(.iconst 0, 1, 0), (.istore_n 2, 1, 0), (.iconst 0, 1, 0), (.istore_n 3, 1, 0)] (by decide +kernel) rfl ?_
      refine Vsub [2, 3, 1, 0] rfl ?_
      exact l_X15_pass_37 C C2 FU a0 p1 0 0 h3 hf
    · replace hf := ifn c5 hf
      refine Vsub [0] rfl ?_
      exact l_X15_pass_27 C C2 a0 h3 hf
theorem o_X15_pass {a0 : Nat} {p1 : Int32} {h : AH} {rr : Int32} {hr : AH} (hf : f_X15_pass a0 p1 h = some (rr, hr)) : isO 15 h a0 = true := by
  unfold f_X15_pass at hf
  exact (ifO hf).1
/-! WallHouseModel.isOn(III)Z -/
def f_X15_isOn_45 (si0 : Int32) (h : AH) : Option (Int32 × AH) :=
  (ckZ si0).bind fun x1 =>
  some (x1, h)
set_option maxRecDepth 100000 in
set_option maxHeartbeats 4000000 in
theorem l_X15_isOn_45 {X : MX} {l : Launch} {G : GX} {h0 : AH} {rr : Int32} {hr : AH} (C : Cx X G RX15 cX15_isOn 4 (some .boolean) 1 22 h0) (C2 : Cy X l "isOn" []) (si0 : Int32) (h : AH) (hf : f_X15_isOn_45 si0 h = some (rr, hr)) : V X G h0 (QI rr hr) 45 [] [.int si0] h := by
  unfold f_X15_isOn_45 at hf
  obtain ⟨x1, gx1, hf⟩ := Option.bind_eq_some_iff.mp hf
  have ex1 := ckZ_eq gx1
  subst ex1
  cases hf
  exact C.retZ rfl gx1 (by decide +kernel) ⟨rfl, rfl⟩
def f_X15_isOn_44 (h : AH) : Option (Int32 × AH) :=
  f_X15_isOn_45 0 h
set_option maxRecDepth 100000 in
set_option maxHeartbeats 4000000 in
theorem l_X15_isOn_44 {X : MX} {l : Launch} {G : GX} {h0 : AH} {rr : Int32} {hr : AH} (C : Cx X G RX15 cX15_isOn 4 (some .boolean) 1 22 h0) (C2 : Cy X l "isOn" []) (h : AH) (hf : f_X15_isOn_44 h = some (rr, hr)) : V X G h0 (QI rr hr) 44 [] [] h := by
  unfold f_X15_isOn_44 at hf
  refine C.seg (pe := 45) (lv' := []) (st' := [.int 0]) [(.iconst 0, 1, 0)] (by decide +kernel) rfl ?_
  exact l_X15_isOn_45 C C2 0 h hf
def f_X15_isOn (a0 : Nat) (p1 : Int32) (p2 : Int32) (p3 : Int32) (h : AH) : Option (Int32 × AH) :=
  if isO 15 h a0 = true then
    b2 (f_X15_isWall a0 p1 h) fun x1 h2 =>
    if x1 = 0 then
      f_X15_isOn_44 h2
    else
      (gA 15 h2 a0 6).bind fun a3 =>
      (aI 0 h2 a3 p1).bind fun x4 =>
      b2 (f_X15_in p2 0 (x4 - 1) h2) fun x5 h6 =>
      if x5 = 0 then
        f_X15_isOn_44 h6
      else
        (gA 15 h6 a0 7).bind fun a7 =>
        (aI 0 h6 a7 p1).bind fun x8 =>
        b2 (f_X15_in p3 0 (x8 - 1) h6) fun x9 h10 =>
        if x9 = 0 then
          f_X15_isOn_44 h10
        else
          f_X15_isOn_45 1 h10
  else none
set_option maxRecDepth 100000 in
set_option maxHeartbeats 4000000 in
theorem w_X15_isOn {l : Launch} {G : GX} {a0 : Nat} {p1 : Int32} {p2 : Int32} {p3 : Int32} {h : AH} {rr : Int32} {hr : AH} (hf : f_X15_isOn a0 p1 p2 p3 h = some (rr, hr)) : Ct l G yX15_isOn 1 22 [.ref a0, .int p1, .int p2, .int p3] h (QI rr hr) := by
  unfold f_X15_isOn at hf
  obtain ⟨ho, hf⟩ := ifO hf
  refine Ct_of (own := RX15) (cc := cX15_isOn) (nL := 4) (ret := (some .boolean)) rfl rfl k_2477 (Nat.le_of_ble_eq_true rfl) (fun X C2 C => ?_)
  show V X G h (QI rr hr) 0 [(0, .ref a0), (1, .int p1), (2, .int p2), (3, .int p3)] [] h
  refine C.seg (pe := 2) (lv' := [(0, .ref a0), (1, .int p1), (2, .int p2), (3, .int p3)]) (st' := [.int p1, .ref a0]) [(.aload_n 0, 1, 0), (.iload_n 1, 1, 0)] (by decide +kernel) rfl ?_
  obtain ⟨x1, h2, gx1, hf⟩ := b2_some hf
  refine C.callVr C2 [.int p1] [] mv_2124 rfl (o_X15_isWall gx1) (w_X15_isWall gx1) (by omega) (by omega) (Nat.le_of_ble_eq_true rfl) (by decide +kernel) rfl ?_
  refine C.if_eq (off := 39) (tgt := 44) (pf := 8) (by decide +kernel) (by decide) rfl (fun c13 => ?_) (fun c13 => ?_)
  · replace hf := ifp c13 hf
    refine Vsub [] rfl ?_
    exact l_X15_isOn_44 C C2 h2 hf
  · replace hf := ifn c13 hf
    refine C.seg (pe := 11) (lv' := [(0, .ref a0), (1, .int p1), (2, .int p2), (3, .int p3)]) (st' := [.ref a0, .int 0, .int p2]) [(.iload_n 2, 1, 0), (.iconst 0, 1, 0), (.aload_n 0, 1, 0)] (by decide +kernel) rfl ?_
    obtain ⟨a3, ga3, hf⟩ := Option.bind_eq_some_iff.mp hf
    refine C.rdA fr_1792 ga3 (by decide +kernel) rfl ?_
    refine C.seg (pe := 15) (lv' := [(0, .ref a0), (1, .int p1), (2, .int p2), (3, .int p3)]) (st' := [.int p1, .ref a3, .int 0, .int p2]) [(.iload_n 1, 1, 0)] (by decide +kernel) rfl ?_
    obtain ⟨x4, gx4, hf⟩ := Option.bind_eq_some_iff.mp hf
    refine C.ald 0 rfl gx4 (by decide +kernel) rfl ?_
    refine C.seg (pe := 18) (lv' := [(0, .ref a0), (1, .int p1), (2, .int p2), (3, .int p3)]) (st' := [.int (x4 - 1), .int 0, .int p2]) [(.iconst 1, 1, 1), (.isub, 1, 0)] (by decide +kernel) rfl ?_
    obtain ⟨x5, h6, gx5, hf⟩ := b2_some hf
    refine C.callSr C2 [.int p2, .int 0, .int (x4 - 1)] [] ms_2109 rfl (w_X15_in gx5) (by omega) (by omega) (Nat.le_of_ble_eq_true rfl) (by decide +kernel) rfl ?_
    refine C.if_eq (off := 23) (tgt := 44) (pf := 24) (by decide +kernel) (by decide) rfl (fun c12 => ?_) (fun c12 => ?_)
    · replace hf := ifp c12 hf
      refine Vsub [] rfl ?_
      exact l_X15_isOn_44 C C2 h6 hf
    · replace hf := ifn c12 hf
      refine C.seg (pe := 27) (lv' := [(0, .ref a0), (1, .int p1), (2, .int p2), (3, .int p3)]) (st' := [.ref a0, .int 0, .int p3]) [(.iload_n 3, 1, 0), (.iconst 0, 1, 0), (.aload_n 0, 1, 0)] (by decide +kernel) rfl ?_
      obtain ⟨a7, ga7, hf⟩ := Option.bind_eq_some_iff.mp hf
      refine C.rdA fr_1793 ga7 (by decide +kernel) rfl ?_
      refine C.seg (pe := 31) (lv' := [(0, .ref a0), (1, .int p1), (2, .int p2), (3, .int p3)]) (st' := [.int p1, .ref a7, .int 0, .int p3]) [(.iload_n 1, 1, 0)] (by decide +kernel) rfl ?_
      obtain ⟨x8, gx8, hf⟩ := Option.bind_eq_some_iff.mp hf
      refine C.ald 0 rfl gx8 (by decide +kernel) rfl ?_
      refine C.seg (pe := 34) (lv' := [(0, .ref a0), (1, .int p1), (2, .int p2), (3, .int p3)]) (st' := [.int (x8 - 1), .int 0, .int p3]) [(.iconst 1, 1, 1), (.isub, 1, 0)] (by decide +kernel) rfl ?_
      obtain ⟨x9, h10, gx9, hf⟩ := b2_some hf
      refine C.callSr C2 [.int p3, .int 0, .int (x8 - 1)] [] ms_2109 rfl (w_X15_in gx9) (by omega) (by omega) (Nat.le_of_ble_eq_true rfl) (by decide +kernel) rfl ?_
      refine C.if_eq (off := 7) (tgt := 44) (pf := 40) (by decide +kernel) (by decide) rfl (fun c11 => ?_) (fun c11 => ?_)
      · replace hf := ifp c11 hf
        refine Vsub [] rfl ?_
        exact l_X15_isOn_44 C C2 h10 hf
      · replace hf := ifn c11 hf
        refine C.seg (pe := 41) (lv' := [(0, .ref a0), (1, .int p1), (2, .int p2), (3, .int p3)]) (st' := [.int 1]) [(.iconst 1, 1, 1)] (by decide +kernel) rfl ?_
        refine C.goto (off := 4) (tgt := 45) (by decide +kernel) (by decide) ?_
        refine Vsub [] rfl ?_
        exact l_X15_isOn_45 C C2 1 h10 hf
theorem o_X15_isOn {a0 : Nat} {p1 : Int32} {p2 : Int32} {p3 : Int32} {h : AH} {rr : Int32} {hr : AH} (hf : f_X15_isOn a0 p1 p2 p3 h = some (rr, hr)) : isO 15 h a0 = true := by
  unfold f_X15_isOn at hf
  exact (ifO hf).1
/-! WallHouseModel.cell(III)I -/
def f_X15_cell_44 (si0 : Int32) (h : AH) : Option (Int32 × AH) :=
  some (si0, h)
set_option maxRecDepth 100000 in
set_option maxHeartbeats 4000000 in
theorem l_X15_cell_44 {X : MX} {l : Launch} {G : GX} {h0 : AH} {rr : Int32} {hr : AH} (C : Cx X G RX15 cX15_cell 5 (some .int) 2 45 h0) (C2 : Cy X l "cell" []) (si0 : Int32) (h : AH) (hf : f_X15_cell_44 si0 h = some (rr, hr)) : V X G h0 (QI rr hr) 44 [] [.int si0] h := by
  unfold f_X15_cell_44 at hf
  cases hf
  exact C.retI rfl (by decide +kernel) ⟨rfl, rfl⟩
def f_X15_cell (a0 : Nat) (p1 : Int32) (p2 : Int32) (p3 : Int32) (h : AH) : Option (Int32 × AH) :=
  if isO 15 h a0 = true then
    (pI 15 h a0 0 0).bind fun h1 =>
    b2 (f_X15_isOn a0 p1 p2 p3 h1) fun x2 h3 =>
    if x2 = 0 then
      some ((-1), h3)
    else
      (gA 15 h3 a0 19).bind fun a4 =>
      b2 (f_X15_cellOf a0 p1 p2 p3 h3) fun x5 h6 =>
      (aI 0 h6 a4 x5).bind fun x7 =>
      if x7 = (-1) then
        f_X15_cell_44 (-2) h6
      else
        f_X15_cell_44 x7 h6
  else none
set_option maxRecDepth 100000 in
set_option maxHeartbeats 4000000 in
theorem w_X15_cell {l : Launch} {G : GX} {a0 : Nat} {p1 : Int32} {p2 : Int32} {p3 : Int32} {h : AH} {rr : Int32} {hr : AH} (hf : f_X15_cell a0 p1 p2 p3 h = some (rr, hr)) : Ct l G yX15_cell 2 45 [.ref a0, .int p1, .int p2, .int p3] h (QI rr hr) := by
  unfold f_X15_cell at hf
  obtain ⟨ho, hf⟩ := ifO hf
  refine Ct_of (own := RX15) (cc := cX15_cell) (nL := 5) (ret := (some .int)) rfl rfl k_2473 (Nat.le_of_ble_eq_true rfl) (fun X C2 C => ?_)
  show V X G h (QI rr hr) 0 [(0, .ref a0), (1, .int p1), (2, .int p2), (3, .int p3)] [] h
  refine C.seg (pe := 2) (lv' := [(0, .ref a0), (1, .int p1), (2, .int p2), (3, .int p3)]) (st' := [.int 0, .ref a0]) [(.aload_n 0, 1, 0), (.iconst 0, 1, 0)] (by decide +kernel) rfl ?_
  obtain ⟨h1, gh1, hf⟩ := Option.bind_eq_some_iff.mp hf
  refine C.putI fl_1786 gh1 (by decide +kernel) rfl ?_
  refine C.seg (pe := 9) (lv' := [(0, .ref a0), (1, .int p1), (2, .int p2), (3, .int p3)]) (st' := [.int p3, .int p2, .int p1, .ref a0]) [(.aload_n 0, 1, 0), (.iload_n 1, 1, 0), (.iload_n 2, 1, 0), (.iload_n 3, 1, 0)] (by decide +kernel) rfl ?_
  obtain ⟨x2, h3, gx2, hf⟩ := b2_some hf
  refine C.callVr C2 [.int p1, .int p2, .int p3] [] mv_2474 rfl (o_X15_isOn gx2) (w_X15_isOn gx2) (by omega) (by omega) (Nat.le_of_ble_eq_true rfl) (by decide +kernel) rfl ?_
  refine C.if_ne (off := 5) (tgt := 17) (pf := 15) (by decide +kernel) (by decide) rfl (fun c9 => ?_) (fun c9 => ?_)
  · replace hf := ifn c9 hf
    refine C.seg (pe := 18) (lv' := [(0, .ref a0), (1, .int p1), (2, .int p2), (3, .int p3)]) (st' := [.ref a0]) [(.aload_n 0, 1, 0)] (by decide +kernel) rfl ?_
    obtain ⟨a4, ga4, hf⟩ := Option.bind_eq_some_iff.mp hf
    refine C.rdA fr_1805 ga4 (by decide +kernel) rfl ?_
    refine C.seg (pe := 25) (lv' := [(0, .ref a0), (1, .int p1), (2, .int p2), (3, .int p3)]) (st' := [.int p3, .int p2, .int p1, .ref a0, .ref a4]) [(.aload_n 0, 1, 0), (.iload_n 1, 1, 0), (.iload_n 2, 1, 0), (.iload_n 3, 1, 0)] (by decide +kernel) rfl ?_
    obtain ⟨x5, h6, gx5, hf⟩ := b2_some hf
    refine C.callVr C2 [.int p1, .int p2, .int p3] [.ref a4] mv_2144 rfl (o_X15_cellOf gx5) (w_X15_cellOf gx5) (by omega) (by omega) (Nat.le_of_ble_eq_true rfl) (by decide +kernel) rfl ?_
    obtain ⟨x7, gx7, hf⟩ := Option.bind_eq_some_iff.mp hf
    refine C.ald 0 rfl gx7 (by decide +kernel) rfl ?_
    refine C.seg (pe := 34) (lv' := [(4, .int x7), (0, .ref a0), (1, .int p1), (2, .int p2), (3, .int p3)]) (st' := [.int (-1), .int x7]) [(.istore 4, 2, 0), (.iload 4, 2, 0), (.iconst (-1), 1, (-1))] (by decide +kernel) rfl ?_
    refine C.icmp_ne (off := 8) (tgt := 42) (pf := 37) (by decide +kernel) (by decide) rfl (fun c8 => ?_) (fun c8 => ?_)
    · replace hf := ifn c8 hf
      refine C.seg (pe := 44) (lv' := [(4, .int x7), (0, .ref a0), (1, .int p1), (2, .int p2), (3, .int p3)]) (st' := [.int x7]) [(.iload 4, 2, 0)] (by decide +kernel) rfl ?_
      refine Vsub [] rfl ?_
      exact l_X15_cell_44 C C2 x7 h6 hf
    · replace hf := ifp c8 hf
      refine C.seg (pe := 39) (lv' := [(4, .int x7), (0, .ref a0), (1, .int p1), (2, .int p2), (3, .int p3)]) (st' := [.int (-2)]) [(.bipush (-2), 2, (-2))] (by decide +kernel) rfl ?_
      refine C.goto (off := 5) (tgt := 44) (by decide +kernel) (by decide) ?_
      refine Vsub [] rfl ?_
      exact l_X15_cell_44 C C2 (-2) h6 hf
  · replace hf := ifp c9 hf
    refine C.seg (pe := 16) (lv' := [(0, .ref a0), (1, .int p1), (2, .int p2), (3, .int p3)]) (st' := [.int (-1)]) [(.iconst (-1), 1, (-1))] (by decide +kernel) rfl ?_
    cases hf
    exact C.retI rfl (by decide +kernel) ⟨rfl, rfl⟩
theorem o_X15_cell {a0 : Nat} {p1 : Int32} {p2 : Int32} {p3 : Int32} {h : AH} {rr : Int32} {hr : AH} (hf : f_X15_cell a0 p1 p2 p3 h = some (rr, hr)) : isO 15 h a0 = true := by
  unfold f_X15_cell at hf
  exact (ifO hf).1
/-! WallHouseModel.looksOf(II)I -/
def f_X15_looksOf_32 (r0 : Nat) (i1 : Int32) (si0 : Int32) (si1 : Int32) (h : AH) : Option (Int32 × AH) :=
  (gI 15 h r0 5).bind fun x1 =>
  (gA 15 h r0 85).bind fun a2 =>
  (gA 15 h r0 14).bind fun a3 =>
  (aI 0 h a3 i1).bind fun x4 =>
  (aI 0 h a2 x4).bind fun x5 =>
  some (mxI 0 (100 - (((x1 - x5) / 30) * (si1 + si0))), h)
set_option maxRecDepth 100000 in
set_option maxHeartbeats 4000000 in
theorem l_X15_looksOf_32 {X : MX} {l : Launch} {G : GX} {h0 : AH} {rr : Int32} {hr : AH} (C : Cx X G RX15 cX15_looksOf 4 (some .int) 1 40 h0) (C2 : Cy X l "looksOf" []) (r0 : Nat) (i1 : Int32) (si0 : Int32) (si1 : Int32) (h : AH) (hf : f_X15_looksOf_32 r0 i1 si0 si1 h = some (rr, hr)) : V X G h0 (QI rr hr) 32 [(0, .ref r0), (1, .int i1)] [.int si0, .int si1] h := by
  unfold f_X15_looksOf_32 at hf
  refine C.seg (pe := 38) (lv' := [(3, .int (si1 + si0)), (0, .ref r0), (1, .int i1)]) (st' := [.ref r0, .int 100, .int 0]) [(.iadd, 1, 0), (.istore_n 3, 1, 0), (.iconst 0, 1, 0), (.bipush 100, 2, 100), (.aload_n 0, 1, 0)] (by decide +kernel) rfl ?_
  obtain ⟨x1, gx1, hf⟩ := Option.bind_eq_some_iff.mp hf
  refine C.rdI fr_1791 gx1 (by decide +kernel) rfl ?_
  refine C.seg (pe := 42) (lv' := [(3, .int (si1 + si0)), (0, .ref r0), (1, .int i1)]) (st' := [.ref r0, .int x1, .int 100, .int 0]) [(.aload_n 0, 1, 0)] (by decide +kernel) rfl ?_
  obtain ⟨a2, ga2, hf⟩ := Option.bind_eq_some_iff.mp hf
  refine C.rdA fr_1871 ga2 (by decide +kernel) rfl ?_
  refine C.seg (pe := 46) (lv' := [(3, .int (si1 + si0)), (0, .ref r0), (1, .int i1)]) (st' := [.ref r0, .ref a2, .int x1, .int 100, .int 0]) [(.aload_n 0, 1, 0)] (by decide +kernel) rfl ?_
  obtain ⟨a3, ga3, hf⟩ := Option.bind_eq_some_iff.mp hf
  refine C.rdA fr_1800 ga3 (by decide +kernel) rfl ?_
  refine C.seg (pe := 50) (lv' := [(3, .int (si1 + si0)), (0, .ref r0), (1, .int i1)]) (st' := [.int i1, .ref a3, .ref a2, .int x1, .int 100, .int 0]) [(.iload_n 1, 1, 0)] (by decide +kernel) rfl ?_
  obtain ⟨x4, gx4, hf⟩ := Option.bind_eq_some_iff.mp hf
  refine C.ald 0 rfl gx4 (by decide +kernel) rfl ?_
  obtain ⟨x5, gx5, hf⟩ := Option.bind_eq_some_iff.mp hf
  refine C.ald 0 rfl gx5 (by decide +kernel) rfl ?_
  refine C.seg (pe := 55) (lv' := [(3, .int (si1 + si0)), (0, .ref r0), (1, .int i1)]) (st' := [.int 30, .int (x1 - x5), .int 100, .int 0]) [(.isub, 1, 0), (.bipush 30, 2, 30)] (by decide +kernel) rfl ?_
  refine C.idiv (by decide +kernel) rfl (by decide) ?_
  refine C.seg (pe := 59) (lv' := [(3, .int (si1 + si0)), (0, .ref r0), (1, .int i1)]) (st' := [.int (100 - (((x1 - x5) / 30) * (si1 + si0))), .int 0]) [(.iload_n 3, 1, 0), (.imul, 1, 0), (.isub, 1, 0)] (by decide +kernel) rfl ?_
  refine C.mmax k_2334 k_636 k_137 k_637 (by omega) (by omega) (Nat.le_of_ble_eq_true rfl) (by decide +kernel) rfl ?_
  cases hf
  exact C.retI rfl (by decide +kernel) ⟨rfl, rfl⟩
def f_X15_looksOf_22 (r0 : Nat) (i1 : Int32) (i2 : Int32) (si0 : Int32) (h : AH) : Option (Int32 × AH) :=
  if i2 ≤ 4 then
    f_X15_looksOf_32 r0 i1 0 si0 h
  else
    f_X15_looksOf_32 r0 i1 1 si0 h
set_option maxRecDepth 100000 in
set_option maxHeartbeats 4000000 in
theorem l_X15_looksOf_22 {X : MX} {l : Launch} {G : GX} {h0 : AH} {rr : Int32} {hr : AH} (C : Cx X G RX15 cX15_looksOf 4 (some .int) 1 40 h0) (C2 : Cy X l "looksOf" []) (r0 : Nat) (i1 : Int32) (i2 : Int32) (si0 : Int32) (h : AH) (hf : f_X15_looksOf_22 r0 i1 i2 si0 h = some (rr, hr)) : V X G h0 (QI rr hr) 22 [(0, .ref r0), (1, .int i1), (2, .int i2)] [.int si0] h := by
  unfold f_X15_looksOf_22 at hf
  refine C.seg (pe := 24) (lv' := [(0, .ref r0), (1, .int i1), (2, .int i2)]) (st' := [.int 4, .int i2, .int si0]) [(.iload_n 2, 1, 0), (.iconst 4, 1, 4)] (by decide +kernel) rfl ?_
  refine C.icmp_le (off := 7) (tgt := 31) (pf := 27) (by decide +kernel) (by decide) rfl (fun c1 => ?_) (fun c1 => ?_)
  · replace hf := ifp c1 hf
    refine C.seg (pe := 32) (lv' := [(0, .ref r0), (1, .int i1), (2, .int i2)]) (st' := [.int 0, .int si0]) [(.iconst 0, 1, 0)] (by decide +kernel) rfl ?_
    refine Vsub [0, 1] rfl ?_
    exact l_X15_looksOf_32 C C2 r0 i1 0 si0 h hf
  · replace hf := ifn c1 hf
    refine C.seg (pe := 28) (lv' := [(0, .ref r0), (1, .int i1), (2, .int i2)]) (st' := [.int 1, .int si0]) [(.iconst 1, 1, 1)] (by decide +kernel) rfl ?_
    refine C.goto (off := 4) (tgt := 32) (by decide +kernel) (by decide) ?_
    refine Vsub [0, 1] rfl ?_
    exact l_X15_looksOf_32 C C2 r0 i1 1 si0 h hf
def f_X15_looksOf (a0 : Nat) (p1 : Int32) (p2 : Int32) (h : AH) : Option (Int32 × AH) :=
  if isO 15 h a0 = true then
    (gA 15 h a0 8).bind fun a1 =>
    (aI 0 h a1 p1).bind fun x2 =>
    if x2 = 3 then
      f_X15_looksOf_22 a0 p1 p2 2 h
    else
      (gA 15 h a0 8).bind fun a3 =>
      (aI 0 h a3 p1).bind fun x4 =>
      f_X15_looksOf_22 a0 p1 p2 (x4 + 1) h
  else none
set_option maxRecDepth 100000 in
set_option maxHeartbeats 4000000 in
theorem w_X15_looksOf {l : Launch} {G : GX} {a0 : Nat} {p1 : Int32} {p2 : Int32} {h : AH} {rr : Int32} {hr : AH} (hf : f_X15_looksOf a0 p1 p2 h = some (rr, hr)) : Ct l G yX15_looksOf 1 40 [.ref a0, .int p1, .int p2] h (QI rr hr) := by
  unfold f_X15_looksOf at hf
  obtain ⟨ho, hf⟩ := ifO hf
  refine Ct_of (own := RX15) (cc := cX15_looksOf) (nL := 4) (ret := (some .int)) rfl rfl k_2485 (Nat.le_of_ble_eq_true rfl) (fun X C2 C => ?_)
  show V X G h (QI rr hr) 0 [(0, .ref a0), (1, .int p1), (2, .int p2)] [] h
  refine C.seg (pe := 1) (lv' := [(0, .ref a0), (1, .int p1), (2, .int p2)]) (st' := [.ref a0]) [(.aload_n 0, 1, 0)] (by decide +kernel) rfl ?_
  obtain ⟨a1, ga1, hf⟩ := Option.bind_eq_some_iff.mp hf
  refine C.rdA fr_1794 ga1 (by decide +kernel) rfl ?_
  refine C.seg (pe := 5) (lv' := [(0, .ref a0), (1, .int p1), (2, .int p2)]) (st' := [.int p1, .ref a1]) [(.iload_n 1, 1, 0)] (by decide +kernel) rfl ?_
  obtain ⟨x2, gx2, hf⟩ := Option.bind_eq_some_iff.mp hf
  refine C.ald 0 rfl gx2 (by decide +kernel) rfl ?_
  refine C.seg (pe := 7) (lv' := [(0, .ref a0), (1, .int p1), (2, .int p2)]) (st' := [.int 3, .int x2]) [(.iconst 3, 1, 3)] (by decide +kernel) rfl ?_
  refine C.icmp_ne (off := 7) (tgt := 14) (pf := 10) (by decide +kernel) (by decide) rfl (fun c5 => ?_) (fun c5 => ?_)
  · replace hf := ifn c5 hf
    refine C.seg (pe := 15) (lv' := [(0, .ref a0), (1, .int p1), (2, .int p2)]) (st' := [.ref a0]) [(.aload_n 0, 1, 0)] (by decide +kernel) rfl ?_
    obtain ⟨a3, ga3, hf⟩ := Option.bind_eq_some_iff.mp hf
    refine C.rdA fr_1794 ga3 (by decide +kernel) rfl ?_
    refine C.seg (pe := 19) (lv' := [(0, .ref a0), (1, .int p1), (2, .int p2)]) (st' := [.int p1, .ref a3]) [(.iload_n 1, 1, 0)] (by decide +kernel) rfl ?_
    obtain ⟨x4, gx4, hf⟩ := Option.bind_eq_some_iff.mp hf
    refine C.ald 0 rfl gx4 (by decide +kernel) rfl ?_
    refine C.seg (pe := 22) (lv' := [(0, .ref a0), (1, .int p1), (2, .int p2)]) (st' := [.int (x4 + 1)]) [(.iconst 1, 1, 1), (.iadd, 1, 0)] (by decide +kernel) rfl ?_
    exact l_X15_looksOf_22 C C2 a0 p1 p2 (x4 + 1) h hf
  · replace hf := ifp c5 hf
    refine C.seg (pe := 11) (lv' := [(0, .ref a0), (1, .int p1), (2, .int p2)]) (st' := [.int 2]) [(.iconst 2, 1, 2)] (by decide +kernel) rfl ?_
    refine C.goto (off := 11) (tgt := 22) (by decide +kernel) (by decide) ?_
    exact l_X15_looksOf_22 C C2 a0 p1 p2 2 h hf
theorem o_X15_looksOf {a0 : Nat} {p1 : Int32} {p2 : Int32} {h : AH} {rr : Int32} {hr : AH} (hf : f_X15_looksOf a0 p1 p2 h = some (rr, hr)) : isO 15 h a0 = true := by
  unfold f_X15_looksOf at hf
  exact (ifO hf).1
/-! WallHouseModel.looks(II)I -/
def f_X15_looks_47 (si0 : Int32) (h : AH) : Option (Int32 × AH) :=
  some (si0, h)
set_option maxRecDepth 100000 in
set_option maxHeartbeats 4000000 in
theorem l_X15_looks_47 {X : MX} {l : Launch} {G : GX} {h0 : AH} {rr : Int32} {hr : AH} (C : Cx X G RX15 cX15_looks 3 (some .int) 2 63 h0) (C2 : Cy X l "looks" []) (si0 : Int32) (h : AH) (hf : f_X15_looks_47 si0 h = some (rr, hr)) : V X G h0 (QI rr hr) 47 [] [.int si0] h := by
  unfold f_X15_looks_47 at hf
  cases hf
  exact C.retI rfl (by decide +kernel) ⟨rfl, rfl⟩
def f_X15_looks_23 (h : AH) : Option (Int32 × AH) :=
  some ((-1), h)
set_option maxRecDepth 100000 in
set_option maxHeartbeats 4000000 in
theorem l_X15_looks_23 {X : MX} {l : Launch} {G : GX} {h0 : AH} {rr : Int32} {hr : AH} (C : Cx X G RX15 cX15_looks 3 (some .int) 2 63 h0) (C2 : Cy X l "looks" []) (h : AH) (hf : f_X15_looks_23 h = some (rr, hr)) : V X G h0 (QI rr hr) 23 [] [] h := by
  unfold f_X15_looks_23 at hf
  refine C.seg (pe := 24) (lv' := []) (st' := [.int (-1)]) [(.iconst (-1), 1, (-1))] (by decide +kernel) rfl ?_
  cases hf
  exact C.retI rfl (by decide +kernel) ⟨rfl, rfl⟩
def f_X15_looks (a0 : Nat) (p1 : Int32) (p2 : Int32) (h : AH) : Option (Int32 × AH) :=
  if isO 15 h a0 = true then
    (pI 15 h a0 0 0).bind fun h1 =>
    b2 (f_X15_isWall a0 p1 h1) fun x2 h3 =>
    if x2 = 0 then
      f_X15_looks_23 h3
    else
      b2 (f_X15_in p2 0 7 h3) fun x4 h5 =>
      if x4 = 0 then
        f_X15_looks_23 h5
      else
        (gA 15 h5 a0 14).bind fun a6 =>
        (aI 0 h5 a6 p1).bind fun x7 =>
        if x7 = (-2) then
          f_X15_looks_47 (-2) h5
        else
          b2 (f_X15_looksOf a0 p1 p2 h5) fun x8 h9 =>
          f_X15_looks_47 x8 h9
  else none
set_option maxRecDepth 100000 in
set_option maxHeartbeats 4000000 in
theorem w_X15_looks {l : Launch} {G : GX} {a0 : Nat} {p1 : Int32} {p2 : Int32} {h : AH} {rr : Int32} {hr : AH} (hf : f_X15_looks a0 p1 p2 h = some (rr, hr)) : Ct l G yX15_looks 2 63 [.ref a0, .int p1, .int p2] h (QI rr hr) := by
  unfold f_X15_looks at hf
  obtain ⟨ho, hf⟩ := ifO hf
  refine Ct_of (own := RX15) (cc := cX15_looks) (nL := 3) (ret := (some .int)) rfl rfl k_2481 (Nat.le_of_ble_eq_true rfl) (fun X C2 C => ?_)
  show V X G h (QI rr hr) 0 [(0, .ref a0), (1, .int p1), (2, .int p2)] [] h
  refine C.seg (pe := 2) (lv' := [(0, .ref a0), (1, .int p1), (2, .int p2)]) (st' := [.int 0, .ref a0]) [(.aload_n 0, 1, 0), (.iconst 0, 1, 0)] (by decide +kernel) rfl ?_
  obtain ⟨h1, gh1, hf⟩ := Option.bind_eq_some_iff.mp hf
  refine C.putI fl_1786 gh1 (by decide +kernel) rfl ?_
  refine C.seg (pe := 7) (lv' := [(0, .ref a0), (1, .int p1), (2, .int p2)]) (st' := [.int p1, .ref a0]) [(.aload_n 0, 1, 0), (.iload_n 1, 1, 0)] (by decide +kernel) rfl ?_
  obtain ⟨x2, h3, gx2, hf⟩ := b2_some hf
  refine C.callVr C2 [.int p1] [] mv_2124 rfl (o_X15_isWall gx2) (w_X15_isWall gx2) (by omega) (by omega) (Nat.le_of_ble_eq_true rfl) (by decide +kernel) rfl ?_
  refine C.if_eq (off := 13) (tgt := 23) (pf := 13) (by decide +kernel) (by decide) rfl (fun c12 => ?_) (fun c12 => ?_)
  · replace hf := ifp c12 hf
    refine Vsub [] rfl ?_
    exact l_X15_looks_23 C C2 h3 hf
  · replace hf := ifn c12 hf
    refine C.seg (pe := 17) (lv' := [(0, .ref a0), (1, .int p1), (2, .int p2)]) (st' := [.int 7, .int 0, .int p2]) [(.iload_n 2, 1, 0), (.iconst 0, 1, 0), (.bipush 7, 2, 7)] (by decide +kernel) rfl ?_
    obtain ⟨x4, h5, gx4, hf⟩ := b2_some hf
    refine C.callSr C2 [.int p2, .int 0, .int 7] [] ms_2109 rfl (w_X15_in gx4) (by omega) (by omega) (Nat.le_of_ble_eq_true rfl) (by decide +kernel) rfl ?_
    refine C.if_ne (off := 5) (tgt := 25) (pf := 23) (by decide +kernel) (by decide) rfl (fun c11 => ?_) (fun c11 => ?_)
    · replace hf := ifn c11 hf
      refine C.seg (pe := 26) (lv' := [(0, .ref a0), (1, .int p1), (2, .int p2)]) (st' := [.ref a0]) [(.aload_n 0, 1, 0)] (by decide +kernel) rfl ?_
      obtain ⟨a6, ga6, hf⟩ := Option.bind_eq_some_iff.mp hf
      refine C.rdA fr_1800 ga6 (by decide +kernel) rfl ?_
      refine C.seg (pe := 30) (lv' := [(0, .ref a0), (1, .int p1), (2, .int p2)]) (st' := [.int p1, .ref a6]) [(.iload_n 1, 1, 0)] (by decide +kernel) rfl ?_
      obtain ⟨x7, gx7, hf⟩ := Option.bind_eq_some_iff.mp hf
      refine C.ald 0 rfl gx7 (by decide +kernel) rfl ?_
      refine C.seg (pe := 33) (lv' := [(0, .ref a0), (1, .int p1), (2, .int p2)]) (st' := [.int (-2), .int x7]) [(.bipush (-2), 2, (-2))] (by decide +kernel) rfl ?_
      refine C.icmp_ne (off := 8) (tgt := 41) (pf := 36) (by decide +kernel) (by decide) rfl (fun c10 => ?_) (fun c10 => ?_)
      · replace hf := ifn c10 hf
        refine C.seg (pe := 44) (lv' := [(0, .ref a0), (1, .int p1), (2, .int p2)]) (st' := [.int p2, .int p1, .ref a0]) [(.aload_n 0, 1, 0), (.iload_n 1, 1, 0), (.iload_n 2, 1, 0)] (by decide +kernel) rfl ?_
        obtain ⟨x8, h9, gx8, hf⟩ := b2_some hf
        refine C.callVr C2 [.int p1, .int p2] [] mv_2482 rfl (o_X15_looksOf gx8) (w_X15_looksOf gx8) (by omega) (by omega) (Nat.le_of_ble_eq_true rfl) (by decide +kernel) rfl ?_
        refine Vsub [] rfl ?_
        exact l_X15_looks_47 C C2 x8 h9 hf
      · replace hf := ifp c10 hf
        refine C.seg (pe := 38) (lv' := [(0, .ref a0), (1, .int p1), (2, .int p2)]) (st' := [.int (-2)]) [(.bipush (-2), 2, (-2))] (by decide +kernel) rfl ?_
        refine C.goto (off := 9) (tgt := 47) (by decide +kernel) (by decide) ?_
        refine Vsub [] rfl ?_
        exact l_X15_looks_47 C C2 (-2) h5 hf
    · replace hf := ifp c11 hf
      refine Vsub [] rfl ?_
      exact l_X15_looks_23 C C2 h5 hf
theorem o_X15_looks {a0 : Nat} {p1 : Int32} {p2 : Int32} {h : AH} {rr : Int32} {hr : AH} (hf : f_X15_looks a0 p1 p2 h = some (rr, hr)) : isO 15 h a0 = true := by
  unfold f_X15_looks at hf
  exact (ifO hf).1
/-! WallHouseModel.pale(I)I -/
def f_X15_pale_134 (k25 : Nat → Int32 → Int32 → Int32 → AH → Option (Int32 × AH)) (r0 : Nat) (i1 : Int32) (i3 : Int32) (si0 : Int32) (si1 : Int32) (h : AH) : Option (Int32 × AH) :=
  k25 r0 i1 (si1 + si0) (i3 + 1) h
set_option maxRecDepth 100000 in
set_option maxHeartbeats 4000000 in
theorem l_X15_pale_134 {X : MX} {l : Launch} {G : GX} {h0 : AH} {rr : Int32} {hr : AH} (C : Cx X G RX15 cX15_pale 7 (some .int) 2 63 h0) (C2 : Cy X l "pale" []) {k25 : Nat → Int32 → Int32 → Int32 → AH → Option (Int32 × AH)} (hk25 : ∀ (r0 : Nat) (i1 : Int32) (i2 : Int32) (i3 : Int32) (h : AH), k25 r0 i1 i2 i3 h = some (rr, hr) → V X G h0 (QI rr hr) 25 [(0, .ref r0), (1, .int i1), (2, .int i2), (3, .int i3)] [] h) (r0 : Nat) (i1 : Int32) (i3 : Int32) (si0 : Int32) (si1 : Int32) (h : AH) (hf : f_X15_pale_134 k25 r0 i1 i3 si0 si1 h = some (rr, hr)) : V X G h0 (QI rr hr) 134 [(0, .ref r0), (1, .int i1), (3, .int i3)] [.int si0, .int si1] h := by
  unfold f_X15_pale_134 at hf
  refine C.seg (pe := 139) (lv' := [(3, .int (i3 + 1)), (2, .int (si1 + si0)), (0, .ref r0), (1, .int i1)]) (st' := []) [(.iadd, 1, 0), (.istore_n 2, 1, 0), (.iinc 3 1, 3, 1)] (by decide +kernel) rfl ?_
  refine C.goto (off := (-114)) (tgt := 25) (by decide +kernel) (by decide) ?_
  refine Vsub [2, 3, 1, 0] rfl ?_
  exact hk25 r0 i1 (si1 + si0) (i3 + 1) h hf
def f_X15_pale_133 (k25 : Nat → Int32 → Int32 → Int32 → AH → Option (Int32 × AH)) (r0 : Nat) (i1 : Int32) (i3 : Int32) (si0 : Int32) (h : AH) : Option (Int32 × AH) :=
  f_X15_pale_134 k25 r0 i1 i3 0 si0 h
set_option maxRecDepth 100000 in
set_option maxHeartbeats 4000000 in
theorem l_X15_pale_133 {X : MX} {l : Launch} {G : GX} {h0 : AH} {rr : Int32} {hr : AH} (C : Cx X G RX15 cX15_pale 7 (some .int) 2 63 h0) (C2 : Cy X l "pale" []) {k25 : Nat → Int32 → Int32 → Int32 → AH → Option (Int32 × AH)} (hk25 : ∀ (r0 : Nat) (i1 : Int32) (i2 : Int32) (i3 : Int32) (h : AH), k25 r0 i1 i2 i3 h = some (rr, hr) → V X G h0 (QI rr hr) 25 [(0, .ref r0), (1, .int i1), (2, .int i2), (3, .int i3)] [] h) (r0 : Nat) (i1 : Int32) (i3 : Int32) (si0 : Int32) (h : AH) (hf : f_X15_pale_133 k25 r0 i1 i3 si0 h = some (rr, hr)) : V X G h0 (QI rr hr) 133 [(0, .ref r0), (1, .int i1), (3, .int i3)] [.int si0] h := by
  unfold f_X15_pale_133 at hf
  refine C.seg (pe := 134) (lv' := [(0, .ref r0), (1, .int i1), (3, .int i3)]) (st' := [.int 0, .int si0]) [(.iconst 0, 1, 0)] (by decide +kernel) rfl ?_
  exact l_X15_pale_134 C C2 hk25 r0 i1 i3 0 si0 h hf
def f_X15_pale_105 (k25 : Nat → Int32 → Int32 → Int32 → AH → Option (Int32 × AH)) (k46 : Nat → Int32 → Int32 → Int32 → Int32 → Int32 → Int32 → AH → Option (Int32 × AH)) (r0 : Nat) (i1 : Int32) (i2 : Int32) (i3 : Int32) (i5 : Int32) (i6 : Int32) (si0 : Int32) (si1 : Int32) (h : AH) : Option (Int32 × AH) :=
  k46 r0 i1 i2 i3 (si1 + si0) i5 (i6 + 1) h
set_option maxRecDepth 100000 in
set_option maxHeartbeats 4000000 in
theorem l_X15_pale_105 {X : MX} {l : Launch} {G : GX} {h0 : AH} {rr : Int32} {hr : AH} (C : Cx X G RX15 cX15_pale 7 (some .int) 2 63 h0) (C2 : Cy X l "pale" []) {k25 : Nat → Int32 → Int32 → Int32 → AH → Option (Int32 × AH)} (hk25 : ∀ (r0 : Nat) (i1 : Int32) (i2 : Int32) (i3 : Int32) (h : AH), k25 r0 i1 i2 i3 h = some (rr, hr) → V X G h0 (QI rr hr) 25 [(0, .ref r0), (1, .int i1), (2, .int i2), (3, .int i3)] [] h) {k46 : Nat → Int32 → Int32 → Int32 → Int32 → Int32 → Int32 → AH → Option (Int32 × AH)} (hk46 : ∀ (r0 : Nat) (i1 : Int32) (i2 : Int32) (i3 : Int32) (i4 : Int32) (i5 : Int32) (i6 : Int32) (h : AH), k46 r0 i1 i2 i3 i4 i5 i6 h = some (rr, hr) → V X G h0 (QI rr hr) 46 [(0, .ref r0), (1, .int i1), (2, .int i2), (3, .int i3), (4, .int i4), (5, .int i5), (6, .int i6)] [] h) (r0 : Nat) (i1 : Int32) (i2 : Int32) (i3 : Int32) (i5 : Int32) (i6 : Int32) (si0 : Int32) (si1 : Int32) (h : AH) (hf : f_X15_pale_105 k25 k46 r0 i1 i2 i3 i5 i6 si0 si1 h = some (rr, hr)) : V X G h0 (QI rr hr) 105 [(0, .ref r0), (1, .int i1), (2, .int i2), (3, .int i3), (5, .int i5), (6, .int i6)] [.int si0, .int si1] h := by
  unfold f_X15_pale_105 at hf
  refine C.seg (pe := 111) (lv' := [(6, .int (i6 + 1)), (4, .int (si1 + si0)), (0, .ref r0), (1, .int i1), (2, .int i2), (3, .int i3), (5, .int i5)]) (st' := []) [(.iadd, 1, 0), (.istore 4, 2, 0), (.iinc 6 1, 3, 1)] (by decide +kernel) rfl ?_
  refine C.goto (off := (-65)) (tgt := 46) (by decide +kernel) (by decide) ?_
  refine Vsub [2, 3, 4, 5, 1, 6, 0] rfl ?_
  exact hk46 r0 i1 i2 i3 (si1 + si0) i5 (i6 + 1) h hf
def f_X15_pale_46 (k25 : Nat → Int32 → Int32 → Int32 → AH → Option (Int32 × AH)) : Nat → Nat → Int32 → Int32 → Int32 → Int32 → Int32 → Int32 → AH → Option (Int32 × AH)
  | 0, _, _, _, _, _, _, _, _ => none
  | n + 1, r0, i1, i2, i3, i4, i5, i6, h =>
    (gA 15 h r0 6).bind fun a1 =>
    (aI 0 h a1 i3).bind fun x2 =>
    (gA 15 h r0 7).bind fun a3 =>
    (aI 0 h a3 i3).bind fun x4 =>
    if x2 * x4 ≤ i6 then
      if i5 ≤ 0 then
        f_X15_pale_133 k25 r0 i1 i3 i2 h
      else
        (ckD i5).bind fun x6 =>
        if i1 ≤ i4 / i5 then
          f_X15_pale_133 k25 r0 i1 i3 i2 h
        else
          f_X15_pale_134 k25 r0 i1 i3 1 i2 h
    else
      (gA 15 h r0 19).bind fun a8 =>
      (aI 0 h a8 ((192 * i3) + i6)).bind fun x9 =>
      if x9 = (-1) then
        f_X15_pale_105 k25 (f_X15_pale_46 k25 n) r0 i1 i2 i3 i5 i6 0 i4 h
      else
        (gA 15 h r0 19).bind fun a10 =>
        (aI 0 h a10 ((192 * i3) + i6)).bind fun x11 =>
        b2 (f_X15_looksOf r0 i3 x11 h) fun x12 h13 =>
        f_X15_pale_105 k25 (f_X15_pale_46 k25 n) r0 i1 i2 i3 i5 i6 x12 i4 h13
set_option maxRecDepth 100000 in
set_option maxHeartbeats 4000000 in
theorem l_X15_pale_46 {X : MX} {l : Launch} {G : GX} {h0 : AH} {rr : Int32} {hr : AH} (C : Cx X G RX15 cX15_pale 7 (some .int) 2 63 h0) (C2 : Cy X l "pale" []) {k25 : Nat → Int32 → Int32 → Int32 → AH → Option (Int32 × AH)} (hk25 : ∀ (r0 : Nat) (i1 : Int32) (i2 : Int32) (i3 : Int32) (h : AH), k25 r0 i1 i2 i3 h = some (rr, hr) → V X G h0 (QI rr hr) 25 [(0, .ref r0), (1, .int i1), (2, .int i2), (3, .int i3)] [] h) : ∀ (n : Nat) (r0 : Nat) (i1 : Int32) (i2 : Int32) (i3 : Int32) (i4 : Int32) (i5 : Int32) (i6 : Int32) (h : AH), f_X15_pale_46 k25 n r0 i1 i2 i3 i4 i5 i6 h = some (rr, hr) → V X G h0 (QI rr hr) 46 [(0, .ref r0), (1, .int i1), (2, .int i2), (3, .int i3), (4, .int i4), (5, .int i5), (6, .int i6)] [] h := by
  intro n
  induction n with
  | zero => intro r0 i1 i2 i3 i4 i5 i6 h hf; rw [f_X15_pale_46] at hf; cases hf
  | succ n ih =>
    intro r0 i1 i2 i3 i4 i5 i6 h hf
    rw [f_X15_pale_46] at hf
    refine C.seg (pe := 49) (lv' := [(0, .ref r0), (1, .int i1), (2, .int i2), (3, .int i3), (4, .int i4), (5, .int i5), (6, .int i6)]) (st' := [.ref r0, .int i6]) [(.iload 6, 2, 0), (.aload_n 0, 1, 0)] (by decide +kernel) rfl ?_
    obtain ⟨a1, ga1, hf⟩ := Option.bind_eq_some_iff.mp hf
    refine C.rdA fr_1792 ga1 (by decide +kernel) rfl ?_
    refine C.seg (pe := 53) (lv' := [(0, .ref r0), (1, .int i1), (2, .int i2), (3, .int i3), (4, .int i4), (5, .int i5), (6, .int i6)]) (st' := [.int i3, .ref a1, .int i6]) [(.iload_n 3, 1, 0)] (by decide +kernel) rfl ?_
    obtain ⟨x2, gx2, hf⟩ := Option.bind_eq_some_iff.mp hf
    refine C.ald 0 rfl gx2 (by decide +kernel) rfl ?_
    refine C.seg (pe := 55) (lv' := [(0, .ref r0), (1, .int i1), (2, .int i2), (3, .int i3), (4, .int i4), (5, .int i5), (6, .int i6)]) (st' := [.ref r0, .int x2, .int i6]) [(.aload_n 0, 1, 0)] (by decide +kernel) rfl ?_
    obtain ⟨a3, ga3, hf⟩ := Option.bind_eq_some_iff.mp hf
    refine C.rdA fr_1793 ga3 (by decide +kernel) rfl ?_
    refine C.seg (pe := 59) (lv' := [(0, .ref r0), (1, .int i1), (2, .int i2), (3, .int i3), (4, .int i4), (5, .int i5), (6, .int i6)]) (st' := [.int i3, .ref a3, .int x2, .int i6]) [(.iload_n 3, 1, 0)] (by decide +kernel) rfl ?_
    obtain ⟨x4, gx4, hf⟩ := Option.bind_eq_some_iff.mp hf
    refine C.ald 0 rfl gx4 (by decide +kernel) rfl ?_
    refine C.seg (pe := 61) (lv' := [(0, .ref r0), (1, .int i1), (2, .int i2), (3, .int i3), (4, .int i4), (5, .int i5), (6, .int i6)]) (st' := [.int (x2 * x4), .int i6]) [(.imul, 1, 0)] (by decide +kernel) rfl ?_
    refine C.icmp_ge (off := 53) (tgt := 114) (pf := 64) (by decide +kernel) (by decide) rfl (fun c15 => ?_) (fun c15 => ?_)
    · replace hf := ifp c15 hf
      refine C.seg (pe := 117) (lv' := [(0, .ref r0), (1, .int i1), (2, .int i2), (3, .int i3), (4, .int i4), (5, .int i5), (6, .int i6)]) (st' := [.int i5, .int i2]) [(.iload_n 2, 1, 0), (.iload 5, 2, 0)] (by decide +kernel) rfl ?_
      refine C.if_le (off := 16) (tgt := 133) (pf := 120) (by decide +kernel) (by decide) rfl (fun c7 => ?_) (fun c7 => ?_)
      · replace hf := ifp c7 hf
        refine Vsub [0, 1, 3] rfl ?_
        exact l_X15_pale_133 C C2 hk25 r0 i1 i3 i2 h hf
      · replace hf := ifn c7 hf
        refine C.seg (pe := 124) (lv' := [(0, .ref r0), (1, .int i1), (2, .int i2), (3, .int i3), (4, .int i4), (5, .int i5), (6, .int i6)]) (st' := [.int i5, .int i4, .int i2]) [(.iload 4, 2, 0), (.iload 5, 2, 0)] (by decide +kernel) rfl ?_
        obtain ⟨x6, gx6, hf⟩ := Option.bind_eq_some_iff.mp hf
        refine C.idiv (by decide +kernel) rfl (ckD_self gx6) ?_
        refine C.seg (pe := 126) (lv' := [(0, .ref r0), (1, .int i1), (2, .int i2), (3, .int i3), (4, .int i4), (5, .int i5), (6, .int i6)]) (st' := [.int i1, .int (i4 / i5), .int i2]) [(.iload_n 1, 1, 0)] (by decide +kernel) rfl ?_
        refine C.icmp_ge (off := 7) (tgt := 133) (pf := 129) (by decide +kernel) (by decide) rfl (fun c5 => ?_) (fun c5 => ?_)
        · replace hf := ifp c5 hf
          refine Vsub [0, 1, 3] rfl ?_
          exact l_X15_pale_133 C C2 hk25 r0 i1 i3 i2 h hf
        · replace hf := ifn c5 hf
          refine C.seg (pe := 130) (lv' := [(0, .ref r0), (1, .int i1), (2, .int i2), (3, .int i3), (4, .int i4), (5, .int i5), (6, .int i6)]) (st' := [.int 1, .int i2]) [(.iconst 1, 1, 1)] (by decide +kernel) rfl ?_
          refine C.goto (off := 4) (tgt := 134) (by decide +kernel) (by decide) ?_
          refine Vsub [0, 1, 3] rfl ?_
          exact l_X15_pale_134 C C2 hk25 r0 i1 i3 1 i2 h hf
    · replace hf := ifn c15 hf
      refine C.seg (pe := 67) (lv' := [(0, .ref r0), (1, .int i1), (2, .int i2), (3, .int i3), (4, .int i4), (5, .int i5), (6, .int i6)]) (st' := [.ref r0, .int i4]) [(.iload 4, 2, 0), (.aload_n 0, 1, 0)] (by decide +kernel) rfl ?_
      obtain ⟨a8, ga8, hf⟩ := Option.bind_eq_some_iff.mp hf
      refine C.rdA fr_1805 ga8 (by decide +kernel) rfl ?_
      refine C.seg (pe := 78) (lv' := [(0, .ref r0), (1, .int i1), (2, .int i2), (3, .int i3), (4, .int i4), (5, .int i5), (6, .int i6)]) (st' := [.int ((192 * i3) + i6), .ref a8, .int i4]) [(.sipush 192, 3, 192), (.iload_n 3, 1, 0), (.imul, 1, 0), (.iload 6, 2, 0), (.iadd, 1, 0)] (by decide +kernel) rfl ?_
      obtain ⟨x9, gx9, hf⟩ := Option.bind_eq_some_iff.mp hf
      refine C.ald 0 rfl gx9 (by decide +kernel) rfl ?_
      refine C.seg (pe := 80) (lv' := [(0, .ref r0), (1, .int i1), (2, .int i2), (3, .int i3), (4, .int i4), (5, .int i5), (6, .int i6)]) (st' := [.int (-1), .int x9, .int i4]) [(.iconst (-1), 1, (-1))] (by decide +kernel) rfl ?_
      refine C.icmp_ne (off := 7) (tgt := 87) (pf := 83) (by decide +kernel) (by decide) rfl (fun c14 => ?_) (fun c14 => ?_)
      · replace hf := ifn c14 hf
        refine C.seg (pe := 90) (lv' := [(0, .ref r0), (1, .int i1), (2, .int i2), (3, .int i3), (4, .int i4), (5, .int i5), (6, .int i6)]) (st' := [.ref r0, .int i3, .ref r0, .int i4]) [(.aload_n 0, 1, 0), (.iload_n 3, 1, 0), (.aload_n 0, 1, 0)] (by decide +kernel) rfl ?_
        obtain ⟨a10, ga10, hf⟩ := Option.bind_eq_some_iff.mp hf
        refine C.rdA fr_1805 ga10 (by decide +kernel) rfl ?_
        refine C.seg (pe := 101) (lv' := [(0, .ref r0), (1, .int i1), (2, .int i2), (3, .int i3), (4, .int i4), (5, .int i5), (6, .int i6)]) (st' := [.int ((192 * i3) + i6), .ref a10, .int i3, .ref r0, .int i4]) [(.sipush 192, 3, 192), (.iload_n 3, 1, 0), (.imul, 1, 0), (.iload 6, 2, 0), (.iadd, 1, 0)] (by decide +kernel) rfl ?_
        obtain ⟨x11, gx11, hf⟩ := Option.bind_eq_some_iff.mp hf
        refine C.ald 0 rfl gx11 (by decide +kernel) rfl ?_
        obtain ⟨x12, h13, gx12, hf⟩ := b2_some hf
        refine C.callVr C2 [.int i3, .int x11] [.int i4] mv_2482 rfl (o_X15_looksOf gx12) (w_X15_looksOf gx12) (by omega) (by omega) (Nat.le_of_ble_eq_true rfl) (by decide +kernel) rfl ?_
        refine Vsub [0, 1, 2, 3, 5, 6] rfl ?_
        exact l_X15_pale_105 C C2 hk25 ih r0 i1 i2 i3 i5 i6 x12 i4 h13 hf
      · replace hf := ifp c14 hf
        refine C.seg (pe := 84) (lv' := [(0, .ref r0), (1, .int i1), (2, .int i2), (3, .int i3), (4, .int i4), (5, .int i5), (6, .int i6)]) (st' := [.int 0, .int i4]) [(.iconst 0, 1, 0)] (by decide +kernel) rfl ?_
        refine C.goto (off := 21) (tgt := 105) (by decide +kernel) (by decide) ?_
        refine Vsub [0, 1, 2, 3, 5, 6] rfl ?_
        exact l_X15_pale_105 C C2 hk25 ih r0 i1 i2 i3 i5 i6 0 i4 h hf
def f_X15_pale_25 : Nat → Nat → Int32 → Int32 → Int32 → AH → Option (Int32 × AH)
  | 0, _, _, _, _, _ => none
  | n + 1, r0, i1, i2, i3, h =>
    (gI 15 h r0 4).bind fun x1 =>
    if x1 ≤ i3 then
      b2 (f_X15_done r0 i2 h) fun x2 h3 =>
      some (x2, h3)
    else
      b2 (f_X15_painted r0 i3 h) fun x4 h5 =>
      f_X15_pale_46 (f_X15_pale_25 n) FU r0 i1 i2 i3 0 x4 0 h5
set_option maxRecDepth 100000 in
set_option maxHeartbeats 4000000 in
theorem l_X15_pale_25 {X : MX} {l : Launch} {G : GX} {h0 : AH} {rr : Int32} {hr : AH} (C : Cx X G RX15 cX15_pale 7 (some .int) 2 63 h0) (C2 : Cy X l "pale" []) : ∀ (n : Nat) (r0 : Nat) (i1 : Int32) (i2 : Int32) (i3 : Int32) (h : AH), f_X15_pale_25 n r0 i1 i2 i3 h = some (rr, hr) → V X G h0 (QI rr hr) 25 [(0, .ref r0), (1, .int i1), (2, .int i2), (3, .int i3)] [] h := by
  intro n
  induction n with
  | zero => intro r0 i1 i2 i3 h hf; rw [f_X15_pale_25] at hf; cases hf
  | succ n ih =>
    intro r0 i1 i2 i3 h hf
    rw [f_X15_pale_25] at hf
    refine C.seg (pe := 27) (lv' := [(0, .ref r0), (1, .int i1), (2, .int i2), (3, .int i3)]) (st' := [.ref r0, .int i3]) [(.iload_n 3, 1, 0), (.aload_n 0, 1, 0)] (by decide +kernel) rfl ?_
    obtain ⟨x1, gx1, hf⟩ := Option.bind_eq_some_iff.mp hf
    refine C.rdI fr_1790 gx1 (by decide +kernel) rfl ?_
    refine C.icmp_ge (off := 112) (tgt := 142) (pf := 33) (by decide +kernel) (by decide) rfl (fun c6 => ?_) (fun c6 => ?_)
    · replace hf := ifp c6 hf
      refine C.seg (pe := 144) (lv' := [(0, .ref r0), (1, .int i1), (2, .int i2), (3, .int i3)]) (st' := [.int i2, .ref r0]) [(.aload_n 0, 1, 0), (.iload_n 2, 1, 0)] (by decide +kernel) rfl ?_
      obtain ⟨x2, h3, gx2, hf⟩ := b2_some hf
      refine C.callVr C2 [.int i2] [] mv_2116 rfl (o_X15_done gx2) (w_X15_done gx2) (by omega) (by omega) (Nat.le_of_ble_eq_true rfl) (by decide +kernel) rfl ?_
      cases hf
      exact C.retI rfl (by decide +kernel) ⟨rfl, rfl⟩
    · replace hf := ifn c6 hf
      refine C.seg (pe := 38) (lv' := [(4, .int 0), (0, .ref r0), (1, .int i1), (2, .int i2), (3, .int i3)]) (st' := [.int i3, .ref r0]) [(.iconst 0, 1, 0), (.istore 4, 2, 0), (.aload_n 0, 1, 0), (.iload_n 3, 1, 0)] (by decide +kernel) rfl ?_
      obtain ⟨x4, h5, gx4, hf⟩ := b2_some hf
      refine C.callVr C2 [.int i3] [] mv_2136 rfl (o_X15_painted gx4) (w_X15_painted gx4) (by omega) (by omega) (Nat.le_of_ble_eq_true rfl) (by decide +kernel) rfl ?_
      refine C.seg (pe := 46) (lv' := [(6, .int 0), (5, .int x4), (4, .int 0), (0, .ref r0), (1, .int i1), (2, .int i2), (3, .int i3)]) (st' := []) [(.istore 5, 2, 0), (.iconst 0, 1, 0), (.istore 6, 2, 0)] (by decide +kernel) rfl ?_
      refine Vsub [3, 4, 5, 6, 2, 1, 0] rfl ?_
      exact l_X15_pale_46 C C2 ih FU r0 i1 i2 i3 0 x4 0 h5 hf
def f_X15_pale (a0 : Nat) (p1 : Int32) (h : AH) : Option (Int32 × AH) :=
  if isO 15 h a0 = true then
    (pI 15 h a0 0 0).bind fun h1 =>
    b2 (f_X15_in p1 0 100 h1) fun x2 h3 =>
    if x2 = 0 then
      b2 (f_X15_refused a0 2 h3) fun x4 h5 =>
      some (x4, h5)
    else
      f_X15_pale_25 FU a0 p1 0 0 h3
  else none
set_option maxRecDepth 100000 in
set_option maxHeartbeats 4000000 in
theorem w_X15_pale {l : Launch} {G : GX} {a0 : Nat} {p1 : Int32} {h : AH} {rr : Int32} {hr : AH} (hf : f_X15_pale a0 p1 h = some (rr, hr)) : Ct l G yX15_pale 2 63 [.ref a0, .int p1] h (QI rr hr) := by
  unfold f_X15_pale at hf
  obtain ⟨ho, hf⟩ := ifO hf
  refine Ct_of (own := RX15) (cc := cX15_pale) (nL := 7) (ret := (some .int)) rfl rfl k_2489 (Nat.le_of_ble_eq_true rfl) (fun X C2 C => ?_)
  show V X G h (QI rr hr) 0 [(0, .ref a0), (1, .int p1)] [] h
  refine C.seg (pe := 2) (lv' := [(0, .ref a0), (1, .int p1)]) (st' := [.int 0, .ref a0]) [(.aload_n 0, 1, 0), (.iconst 0, 1, 0)] (by decide +kernel) rfl ?_
  obtain ⟨h1, gh1, hf⟩ := Option.bind_eq_some_iff.mp hf
  refine C.putI fl_1786 gh1 (by decide +kernel) rfl ?_
  refine C.seg (pe := 9) (lv' := [(0, .ref a0), (1, .int p1)]) (st' := [.int 100, .int 0, .int p1]) [(.iload_n 1, 1, 0), (.iconst 0, 1, 0), (.bipush 100, 2, 100)] (by decide +kernel) rfl ?_
  obtain ⟨x2, h3, gx2, hf⟩ := b2_some hf
  refine C.callSr C2 [.int p1, .int 0, .int 100] [] ms_2109 rfl (w_X15_in gx2) (by omega) (by omega) (Nat.le_of_ble_eq_true rfl) (by decide +kernel) rfl ?_
  refine C.if_ne (off := 9) (tgt := 21) (pf := 15) (by decide +kernel) (by decide) rfl (fun c6 => ?_) (fun c6 => ?_)
  · replace hf := ifn c6 hf
    refine C.seg (pe := 25) (lv' := [(3, .int 0), (2, .int 0), (0, .ref a0), (1, .int p1)]) (st' := []) [(.iconst 0, 1, 0), (.istore_n 2, 1, 0), (.iconst 0, 1, 0), (.istore_n 3, 1, 0)] (by decide +kernel) rfl ?_
    refine Vsub [2, 3, 1, 0] rfl ?_
    exact l_X15_pale_25 C C2 FU a0 p1 0 0 h3 hf
  · replace hf := ifp c6 hf
    refine C.seg (pe := 17) (lv' := [(0, .ref a0), (1, .int p1)]) (st' := [.int 2, .ref a0]) [(.aload_n 0, 1, 0), (.iconst 2, 1, 2)] (by decide +kernel) rfl ?_
    obtain ⟨x4, h5, gx4, hf⟩ := b2_some hf
    refine C.callVr C2 [.int 2] [] mv_2112 rfl (o_X15_refused gx4) (w_X15_refused gx4) (by omega) (by omega) (Nat.le_of_ble_eq_true rfl) (by decide +kernel) rfl ?_
    cases hf
    exact C.retI rfl (by decide +kernel) ⟨rfl, rfl⟩
theorem o_X15_pale {a0 : Nat} {p1 : Int32} {h : AH} {rr : Int32} {hr : AH} (hf : f_X15_pale a0 p1 h = some (rr, hr)) : isO 15 h a0 = true := by
  unfold f_X15_pale at hf
  exact (ifO hf).1
/-! WallHouseModel.tag(II)I -/
def f_X15_tag (a0 : Nat) (p1 : Int32) (p2 : Int32) (h : AH) : Option (Int32 × AH) :=
  if isO 15 h a0 = true then
    (pI 15 h a0 0 0).bind fun h1 =>
    b2 (f_X15_isWall a0 p1 h1) fun x2 h3 =>
    if x2 = 0 then
      b2 (f_X15_refused a0 1 h3) fun x28 h29 =>
      some (x28, h29)
    else
      b2 (f_X15_in p2 1 30 h3) fun x4 h5 =>
      if x4 = 0 then
        b2 (f_X15_refused a0 2 h5) fun x25 h26 =>
        some (x25, h26)
      else
        (gI 15 h5 a0 95).bind fun x6 =>
        if x6 = 100 then
          b2 (f_X15_refused a0 3 h5) fun x22 h23 =>
          some (x22, h23)
        else
          (gA 15 h5 a0 96).bind fun a7 =>
          (gI 15 h5 a0 95).bind fun x8 =>
          (sI 0 h5 a7 x8 p1).bind fun h9 =>
          (gA 15 h9 a0 97).bind fun a10 =>
          (gI 15 h9 a0 95).bind fun x11 =>
          (gI 15 h9 a0 5).bind fun x12 =>
          (sI 0 h9 a10 x11 (x12 + p2)).bind fun h13 =>
          (gA 15 h13 a0 98).bind fun a14 =>
          (gI 15 h13 a0 95).bind fun x15 =>
          (sI 0 h13 a14 x15 (-1)).bind fun h16 =>
          (gI 15 h16 a0 95).bind fun x17 =>
          (pI 15 h16 a0 95 (x17 + 1)).bind fun h18 =>
          (gI 15 h18 a0 95).bind fun x19 =>
          b2 (f_X15_done a0 (x19 - 1) h18) fun x20 h21 =>
          some (x20, h21)
  else none
set_option maxRecDepth 100000 in
set_option maxHeartbeats 4000000 in
theorem w_X15_tag {l : Launch} {G : GX} {a0 : Nat} {p1 : Int32} {p2 : Int32} {h : AH} {rr : Int32} {hr : AH} (hf : f_X15_tag a0 p1 p2 h = some (rr, hr)) : Ct l G yX15_tag 1 22 [.ref a0, .int p1, .int p2] h (QI rr hr) := by
  unfold f_X15_tag at hf
  obtain ⟨ho, hf⟩ := ifO hf
  refine Ct_of (own := RX15) (cc := cX15_tag) (nL := 3) (ret := (some .int)) rfl rfl k_2493 (Nat.le_of_ble_eq_true rfl) (fun X C2 C => ?_)
  show V X G h (QI rr hr) 0 [(0, .ref a0), (1, .int p1), (2, .int p2)] [] h
  refine C.seg (pe := 2) (lv' := [(0, .ref a0), (1, .int p1), (2, .int p2)]) (st' := [.int 0, .ref a0]) [(.aload_n 0, 1, 0), (.iconst 0, 1, 0)] (by decide +kernel) rfl ?_
  obtain ⟨h1, gh1, hf⟩ := Option.bind_eq_some_iff.mp hf
  refine C.putI fl_1786 gh1 (by decide +kernel) rfl ?_
  refine C.seg (pe := 7) (lv' := [(0, .ref a0), (1, .int p1), (2, .int p2)]) (st' := [.int p1, .ref a0]) [(.aload_n 0, 1, 0), (.iload_n 1, 1, 0)] (by decide +kernel) rfl ?_
  obtain ⟨x2, h3, gx2, hf⟩ := b2_some hf
  refine C.callVr C2 [.int p1] [] mv_2124 rfl (o_X15_isWall gx2) (w_X15_isWall gx2) (by omega) (by omega) (Nat.le_of_ble_eq_true rfl) (by decide +kernel) rfl ?_
  refine C.if_ne (off := 9) (tgt := 19) (pf := 13) (by decide +kernel) (by decide) rfl (fun c30 => ?_) (fun c30 => ?_)
  · replace hf := ifn c30 hf
    refine C.seg (pe := 23) (lv' := [(0, .ref a0), (1, .int p1), (2, .int p2)]) (st' := [.int 30, .int 1, .int p2]) [(.iload_n 2, 1, 0), (.iconst 1, 1, 1), (.bipush 30, 2, 30)] (by decide +kernel) rfl ?_
    obtain ⟨x4, h5, gx4, hf⟩ := b2_some hf
    refine C.callSr C2 [.int p2, .int 1, .int 30] [] ms_2109 rfl (w_X15_in gx4) (by omega) (by omega) (Nat.le_of_ble_eq_true rfl) (by decide +kernel) rfl ?_
    refine C.if_ne (off := 9) (tgt := 35) (pf := 29) (by decide +kernel) (by decide) rfl (fun c27 => ?_) (fun c27 => ?_)
    · replace hf := ifn c27 hf
      refine C.seg (pe := 36) (lv' := [(0, .ref a0), (1, .int p1), (2, .int p2)]) (st' := [.ref a0]) [(.aload_n 0, 1, 0)] (by decide +kernel) rfl ?_
      obtain ⟨x6, gx6, hf⟩ := Option.bind_eq_some_iff.mp hf
      refine C.rdI fr_1881 gx6 (by decide +kernel) rfl ?_
      refine C.seg (pe := 41) (lv' := [(0, .ref a0), (1, .int p1), (2, .int p2)]) (st' := [.int 100, .int x6]) [(.bipush 100, 2, 100)] (by decide +kernel) rfl ?_
      refine C.icmp_ne (off := 9) (tgt := 50) (pf := 44) (by decide +kernel) (by decide) rfl (fun c24 => ?_) (fun c24 => ?_)
      · replace hf := ifn c24 hf
        refine C.seg (pe := 51) (lv' := [(0, .ref a0), (1, .int p1), (2, .int p2)]) (st' := [.ref a0]) [(.aload_n 0, 1, 0)] (by decide +kernel) rfl ?_
        obtain ⟨a7, ga7, hf⟩ := Option.bind_eq_some_iff.mp hf
        refine C.rdA fr_1882 ga7 (by decide +kernel) rfl ?_
        refine C.seg (pe := 55) (lv' := [(0, .ref a0), (1, .int p1), (2, .int p2)]) (st' := [.ref a0, .ref a7]) [(.aload_n 0, 1, 0)] (by decide +kernel) rfl ?_
        obtain ⟨x8, gx8, hf⟩ := Option.bind_eq_some_iff.mp hf
        refine C.rdI fr_1881 gx8 (by decide +kernel) rfl ?_
        refine C.seg (pe := 59) (lv' := [(0, .ref a0), (1, .int p1), (2, .int p2)]) (st' := [.int p1, .int x8, .ref a7]) [(.iload_n 1, 1, 0)] (by decide +kernel) rfl ?_
        obtain ⟨h9, gh9, hf⟩ := Option.bind_eq_some_iff.mp hf
        refine C.ast gh9 (by decide +kernel) rfl ?_
        refine C.seg (pe := 61) (lv' := [(0, .ref a0), (1, .int p1), (2, .int p2)]) (st' := [.ref a0]) [(.aload_n 0, 1, 0)] (by decide +kernel) rfl ?_
        obtain ⟨a10, ga10, hf⟩ := Option.bind_eq_some_iff.mp hf
        refine C.rdA fr_1883 ga10 (by decide +kernel) rfl ?_
        refine C.seg (pe := 65) (lv' := [(0, .ref a0), (1, .int p1), (2, .int p2)]) (st' := [.ref a0, .ref a10]) [(.aload_n 0, 1, 0)] (by decide +kernel) rfl ?_
        obtain ⟨x11, gx11, hf⟩ := Option.bind_eq_some_iff.mp hf
        refine C.rdI fr_1881 gx11 (by decide +kernel) rfl ?_
        refine C.seg (pe := 69) (lv' := [(0, .ref a0), (1, .int p1), (2, .int p2)]) (st' := [.ref a0, .int x11, .ref a10]) [(.aload_n 0, 1, 0)] (by decide +kernel) rfl ?_
        obtain ⟨x12, gx12, hf⟩ := Option.bind_eq_some_iff.mp hf
        refine C.rdI fr_1791 gx12 (by decide +kernel) rfl ?_
        refine C.seg (pe := 74) (lv' := [(0, .ref a0), (1, .int p1), (2, .int p2)]) (st' := [.int (x12 + p2), .int x11, .ref a10]) [(.iload_n 2, 1, 0), (.iadd, 1, 0)] (by decide +kernel) rfl ?_
        obtain ⟨h13, gh13, hf⟩ := Option.bind_eq_some_iff.mp hf
        refine C.ast gh13 (by decide +kernel) rfl ?_
        refine C.seg (pe := 76) (lv' := [(0, .ref a0), (1, .int p1), (2, .int p2)]) (st' := [.ref a0]) [(.aload_n 0, 1, 0)] (by decide +kernel) rfl ?_
        obtain ⟨a14, ga14, hf⟩ := Option.bind_eq_some_iff.mp hf
        refine C.rdA fr_1884 ga14 (by decide +kernel) rfl ?_
        refine C.seg (pe := 80) (lv' := [(0, .ref a0), (1, .int p1), (2, .int p2)]) (st' := [.ref a0, .ref a14]) [(.aload_n 0, 1, 0)] (by decide +kernel) rfl ?_
        obtain ⟨x15, gx15, hf⟩ := Option.bind_eq_some_iff.mp hf
        refine C.rdI fr_1881 gx15 (by decide +kernel) rfl ?_
        refine C.seg (pe := 84) (lv' := [(0, .ref a0), (1, .int p1), (2, .int p2)]) (st' := [.int (-1), .int x15, .ref a14]) [(.iconst (-1), 1, (-1))] (by decide +kernel) rfl ?_
        obtain ⟨h16, gh16, hf⟩ := Option.bind_eq_some_iff.mp hf
        refine C.ast gh16 (by decide +kernel) rfl ?_
        refine C.seg (pe := 87) (lv' := [(0, .ref a0), (1, .int p1), (2, .int p2)]) (st' := [.ref a0, .ref a0]) [(.aload_n 0, 1, 0), (.dup, 1, 0)] (by decide +kernel) rfl ?_
        obtain ⟨x17, gx17, hf⟩ := Option.bind_eq_some_iff.mp hf
        refine C.rdI fr_1881 gx17 (by decide +kernel) rfl ?_
        refine C.seg (pe := 92) (lv' := [(0, .ref a0), (1, .int p1), (2, .int p2)]) (st' := [.int (x17 + 1), .ref a0]) [(.iconst 1, 1, 1), (.iadd, 1, 0)] (by decide +kernel) rfl ?_
        obtain ⟨h18, gh18, hf⟩ := Option.bind_eq_some_iff.mp hf
        refine C.putI fl_1881 gh18 (by decide +kernel) rfl ?_
        refine C.seg (pe := 97) (lv' := [(0, .ref a0), (1, .int p1), (2, .int p2)]) (st' := [.ref a0, .ref a0]) [(.aload_n 0, 1, 0), (.aload_n 0, 1, 0)] (by decide +kernel) rfl ?_
        obtain ⟨x19, gx19, hf⟩ := Option.bind_eq_some_iff.mp hf
        refine C.rdI fr_1881 gx19 (by decide +kernel) rfl ?_
        refine C.seg (pe := 102) (lv' := [(0, .ref a0), (1, .int p1), (2, .int p2)]) (st' := [.int (x19 - 1), .ref a0]) [(.iconst 1, 1, 1), (.isub, 1, 0)] (by decide +kernel) rfl ?_
        obtain ⟨x20, h21, gx20, hf⟩ := b2_some hf
        refine C.callVr C2 [.int (x19 - 1)] [] mv_2116 rfl (o_X15_done gx20) (w_X15_done gx20) (by omega) (by omega) (Nat.le_of_ble_eq_true rfl) (by decide +kernel) rfl ?_
        cases hf
        exact C.retI rfl (by decide +kernel) ⟨rfl, rfl⟩
      · replace hf := ifp c24 hf
        refine C.seg (pe := 46) (lv' := [(0, .ref a0), (1, .int p1), (2, .int p2)]) (st' := [.int 3, .ref a0]) [(.aload_n 0, 1, 0), (.iconst 3, 1, 3)] (by decide +kernel) rfl ?_
        obtain ⟨x22, h23, gx22, hf⟩ := b2_some hf
        refine C.callVr C2 [.int 3] [] mv_2112 rfl (o_X15_refused gx22) (w_X15_refused gx22) (by omega) (by omega) (Nat.le_of_ble_eq_true rfl) (by decide +kernel) rfl ?_
        cases hf
        exact C.retI rfl (by decide +kernel) ⟨rfl, rfl⟩
    · replace hf := ifp c27 hf
      refine C.seg (pe := 31) (lv' := [(0, .ref a0), (1, .int p1), (2, .int p2)]) (st' := [.int 2, .ref a0]) [(.aload_n 0, 1, 0), (.iconst 2, 1, 2)] (by decide +kernel) rfl ?_
      obtain ⟨x25, h26, gx25, hf⟩ := b2_some hf
      refine C.callVr C2 [.int 2] [] mv_2112 rfl (o_X15_refused gx25) (w_X15_refused gx25) (by omega) (by omega) (Nat.le_of_ble_eq_true rfl) (by decide +kernel) rfl ?_
      cases hf
      exact C.retI rfl (by decide +kernel) ⟨rfl, rfl⟩
  · replace hf := ifp c30 hf
    refine C.seg (pe := 15) (lv' := [(0, .ref a0), (1, .int p1), (2, .int p2)]) (st' := [.int 1, .ref a0]) [(.aload_n 0, 1, 0), (.iconst 1, 1, 1)] (by decide +kernel) rfl ?_
    obtain ⟨x28, h29, gx28, hf⟩ := b2_some hf
    refine C.callVr C2 [.int 1] [] mv_2112 rfl (o_X15_refused gx28) (w_X15_refused gx28) (by omega) (by omega) (Nat.le_of_ble_eq_true rfl) (by decide +kernel) rfl ?_
    cases hf
    exact C.retI rfl (by decide +kernel) ⟨rfl, rfl⟩
theorem o_X15_tag {a0 : Nat} {p1 : Int32} {p2 : Int32} {h : AH} {rr : Int32} {hr : AH} (hf : f_X15_tag a0 p1 p2 h = some (rr, hr)) : isO 15 h a0 = true := by
  unfold f_X15_tag at hf
  exact (ifO hf).1
/-! WallHouseModel.clean(I)Z -/
def f_X15_clean_17 (r0 : Nat) (h : AH) : Option (Int32 × AH) :=
  b2 (f_X15_denied r0 1 h) fun x1 h2 =>
  (ckZ x1).bind fun x3 =>
  some (x3, h2)
set_option maxRecDepth 100000 in
set_option maxHeartbeats 4000000 in
theorem l_X15_clean_17 {X : MX} {l : Launch} {G : GX} {h0 : AH} {rr : Int32} {hr : AH} (C : Cx X G RX15 cX15_clean 2 (some .boolean) 1 21 h0) (C2 : Cy X l "clean" []) (r0 : Nat) (h : AH) (hf : f_X15_clean_17 r0 h = some (rr, hr)) : V X G h0 (QI rr hr) 17 [(0, .ref r0)] [] h := by
  unfold f_X15_clean_17 at hf
  refine C.seg (pe := 19) (lv' := [(0, .ref r0)]) (st' := [.int 1, .ref r0]) [(.aload_n 0, 1, 0), (.iconst 1, 1, 1)] (by decide +kernel) rfl ?_
  obtain ⟨x1, h2, gx1, hf⟩ := b2_some hf
  refine C.callVr C2 [.int 1] [] mv_2152 rfl (o_X15_denied gx1) (w_X15_denied gx1) (by omega) (by omega) (Nat.le_of_ble_eq_true rfl) (by decide +kernel) rfl ?_
  obtain ⟨x3, gx3, hf⟩ := Option.bind_eq_some_iff.mp hf
  have ex3 := ckZ_eq gx3
  subst ex3
  cases hf
  exact C.retZ rfl gx3 (by decide +kernel) ⟨rfl, rfl⟩
def f_X15_clean (a0 : Nat) (p1 : Int32) (h : AH) : Option (Int32 × AH) :=
  if isO 15 h a0 = true then
    (pI 15 h a0 0 0).bind fun h1 =>
    if p1 < 0 then
      f_X15_clean_17 a0 h1
    else
      (gI 15 h1 a0 95).bind fun x2 =>
      if p1 < x2 then
        (gA 15 h1 a0 98).bind fun a3 =>
        (aI 0 h1 a3 p1).bind fun x4 =>
        if x4 = (-1) then
          (gA 15 h1 a0 98).bind fun a5 =>
          (gI 15 h1 a0 5).bind fun x6 =>
          (sI 0 h1 a5 p1 x6).bind fun h7 =>
          b2 (f_X15_granted a0 h7) fun x8 h9 =>
          (ckZ x8).bind fun x10 =>
          some (x10, h9)
        else
          b2 (f_X15_denied a0 5 h1) fun x11 h12 =>
          (ckZ x11).bind fun x13 =>
          some (x13, h12)
      else
        f_X15_clean_17 a0 h1
  else none
set_option maxRecDepth 100000 in
set_option maxHeartbeats 4000000 in
theorem w_X15_clean {l : Launch} {G : GX} {a0 : Nat} {p1 : Int32} {h : AH} {rr : Int32} {hr : AH} (hf : f_X15_clean a0 p1 h = some (rr, hr)) : Ct l G yX15_clean 1 21 [.ref a0, .int p1] h (QI rr hr) := by
  unfold f_X15_clean at hf
  obtain ⟨ho, hf⟩ := ifO hf
  refine Ct_of (own := RX15) (cc := cX15_clean) (nL := 2) (ret := (some .boolean)) rfl rfl k_2497 (Nat.le_of_ble_eq_true rfl) (fun X C2 C => ?_)
  show V X G h (QI rr hr) 0 [(0, .ref a0), (1, .int p1)] [] h
  refine C.seg (pe := 2) (lv' := [(0, .ref a0), (1, .int p1)]) (st' := [.int 0, .ref a0]) [(.aload_n 0, 1, 0), (.iconst 0, 1, 0)] (by decide +kernel) rfl ?_
  obtain ⟨h1, gh1, hf⟩ := Option.bind_eq_some_iff.mp hf
  refine C.putI fl_1786 gh1 (by decide +kernel) rfl ?_
  refine C.seg (pe := 6) (lv' := [(0, .ref a0), (1, .int p1)]) (st' := [.int p1]) [(.iload_n 1, 1, 0)] (by decide +kernel) rfl ?_
  refine C.if_lt (off := 11) (tgt := 17) (pf := 9) (by decide +kernel) (by decide) rfl (fun c16 => ?_) (fun c16 => ?_)
  · replace hf := ifp c16 hf
    refine Vsub [0] rfl ?_
    exact l_X15_clean_17 C C2 a0 h1 hf
  · replace hf := ifn c16 hf
    refine C.seg (pe := 11) (lv' := [(0, .ref a0), (1, .int p1)]) (st' := [.ref a0, .int p1]) [(.iload_n 1, 1, 0), (.aload_n 0, 1, 0)] (by decide +kernel) rfl ?_
    obtain ⟨x2, gx2, hf⟩ := Option.bind_eq_some_iff.mp hf
    refine C.rdI fr_1881 gx2 (by decide +kernel) rfl ?_
    refine C.icmp_lt (off := 9) (tgt := 23) (pf := 17) (by decide +kernel) (by decide) rfl (fun c15 => ?_) (fun c15 => ?_)
    · replace hf := ifp c15 hf
      refine C.seg (pe := 24) (lv' := [(0, .ref a0), (1, .int p1)]) (st' := [.ref a0]) [(.aload_n 0, 1, 0)] (by decide +kernel) rfl ?_
      obtain ⟨a3, ga3, hf⟩ := Option.bind_eq_some_iff.mp hf
      refine C.rdA fr_1884 ga3 (by decide +kernel) rfl ?_
      refine C.seg (pe := 28) (lv' := [(0, .ref a0), (1, .int p1)]) (st' := [.int p1, .ref a3]) [(.iload_n 1, 1, 0)] (by decide +kernel) rfl ?_
      obtain ⟨x4, gx4, hf⟩ := Option.bind_eq_some_iff.mp hf
      refine C.ald 0 rfl gx4 (by decide +kernel) rfl ?_
      refine C.seg (pe := 30) (lv' := [(0, .ref a0), (1, .int p1)]) (st' := [.int (-1), .int x4]) [(.iconst (-1), 1, (-1))] (by decide +kernel) rfl ?_
      refine C.icmp_eq (off := 9) (tgt := 39) (pf := 33) (by decide +kernel) (by decide) rfl (fun c14 => ?_) (fun c14 => ?_)
      · replace hf := ifp c14 hf
        refine C.seg (pe := 40) (lv' := [(0, .ref a0), (1, .int p1)]) (st' := [.ref a0]) [(.aload_n 0, 1, 0)] (by decide +kernel) rfl ?_
        obtain ⟨a5, ga5, hf⟩ := Option.bind_eq_some_iff.mp hf
        refine C.rdA fr_1884 ga5 (by decide +kernel) rfl ?_
        refine C.seg (pe := 45) (lv' := [(0, .ref a0), (1, .int p1)]) (st' := [.ref a0, .int p1, .ref a5]) [(.iload_n 1, 1, 0), (.aload_n 0, 1, 0)] (by decide +kernel) rfl ?_
        obtain ⟨x6, gx6, hf⟩ := Option.bind_eq_some_iff.mp hf
        refine C.rdI fr_1791 gx6 (by decide +kernel) rfl ?_
        obtain ⟨h7, gh7, hf⟩ := Option.bind_eq_some_iff.mp hf
        refine C.ast gh7 (by decide +kernel) rfl ?_
        refine C.seg (pe := 50) (lv' := [(0, .ref a0), (1, .int p1)]) (st' := [.ref a0]) [(.aload_n 0, 1, 0)] (by decide +kernel) rfl ?_
        obtain ⟨x8, h9, gx8, hf⟩ := b2_some hf
        refine C.callVr C2 [] [] mv_2156 rfl (o_X15_granted gx8) (w_X15_granted gx8) (by omega) (by omega) (Nat.le_of_ble_eq_true rfl) (by decide +kernel) rfl ?_
        obtain ⟨x10, gx10, hf⟩ := Option.bind_eq_some_iff.mp hf
        have ex10 := ckZ_eq gx10
        subst ex10
        cases hf
        exact C.retZ rfl gx10 (by decide +kernel) ⟨rfl, rfl⟩
      · replace hf := ifn c14 hf
        refine C.seg (pe := 35) (lv' := [(0, .ref a0), (1, .int p1)]) (st' := [.int 5, .ref a0]) [(.aload_n 0, 1, 0), (.iconst 5, 1, 5)] (by decide +kernel) rfl ?_
        obtain ⟨x11, h12, gx11, hf⟩ := b2_some hf
        refine C.callVr C2 [.int 5] [] mv_2152 rfl (o_X15_denied gx11) (w_X15_denied gx11) (by omega) (by omega) (Nat.le_of_ble_eq_true rfl) (by decide +kernel) rfl ?_
        obtain ⟨x13, gx13, hf⟩ := Option.bind_eq_some_iff.mp hf
        have ex13 := ckZ_eq gx13
        subst ex13
        cases hf
        exact C.retZ rfl gx13 (by decide +kernel) ⟨rfl, rfl⟩
    · replace hf := ifn c15 hf
      refine Vsub [0] rfl ?_
      exact l_X15_clean_17 C C2 a0 h1 hf
theorem o_X15_clean {a0 : Nat} {p1 : Int32} {h : AH} {rr : Int32} {hr : AH} (hf : f_X15_clean a0 p1 h = some (rr, hr)) : isO 15 h a0 = true := by
  unfold f_X15_clean at hf
  exact (ifO hf).1
/-! WallHouseModel.late()I -/
def f_X15_late_55 (k9 : Nat → Int32 → Int32 → AH → Option (Int32 × AH)) (r0 : Nat) (i2 : Int32) (si0 : Int32) (si1 : Int32) (h : AH) : Option (Int32 × AH) :=
  k9 r0 (si1 + si0) (i2 + 1) h
set_option maxRecDepth 100000 in
set_option maxHeartbeats 4000000 in
theorem l_X15_late_55 {X : MX} {l : Launch} {G : GX} {h0 : AH} {rr : Int32} {hr : AH} (C : Cx X G RX15 cX15_late 3 (some .int) 0 0 h0) (C2 : Cy X l "late" []) {k9 : Nat → Int32 → Int32 → AH → Option (Int32 × AH)} (hk9 : ∀ (r0 : Nat) (i1 : Int32) (i2 : Int32) (h : AH), k9 r0 i1 i2 h = some (rr, hr) → V X G h0 (QI rr hr) 9 [(0, .ref r0), (1, .int i1), (2, .int i2)] [] h) (r0 : Nat) (i2 : Int32) (si0 : Int32) (si1 : Int32) (h : AH) (hf : f_X15_late_55 k9 r0 i2 si0 si1 h = some (rr, hr)) : V X G h0 (QI rr hr) 55 [(0, .ref r0), (2, .int i2)] [.int si0, .int si1] h := by
  unfold f_X15_late_55 at hf
  refine C.seg (pe := 60) (lv' := [(2, .int (i2 + 1)), (1, .int (si1 + si0)), (0, .ref r0)]) (st' := []) [(.iadd, 1, 0), (.istore_n 1, 1, 0), (.iinc 2 1, 3, 1)] (by decide +kernel) rfl ?_
  refine C.goto (off := (-51)) (tgt := 9) (by decide +kernel) (by decide) ?_
  refine Vsub [2, 1, 0] rfl ?_
  exact hk9 r0 (si1 + si0) (i2 + 1) h hf
def f_X15_late_41 (k9 : Nat → Int32 → Int32 → AH → Option (Int32 × AH)) (r0 : Nat) (i2 : Int32) (si0 : Int32) (si1 : Int32) (h : AH) : Option (Int32 × AH) :=
  (gA 15 h r0 97).bind fun a1 =>
  (aI 0 h a1 i2).bind fun x2 =>
  if si0 ≤ x2 then
    f_X15_late_55 k9 r0 i2 0 si1 h
  else
    f_X15_late_55 k9 r0 i2 1 si1 h
set_option maxRecDepth 100000 in
set_option maxHeartbeats 4000000 in
theorem l_X15_late_41 {X : MX} {l : Launch} {G : GX} {h0 : AH} {rr : Int32} {hr : AH} (C : Cx X G RX15 cX15_late 3 (some .int) 0 0 h0) (C2 : Cy X l "late" []) {k9 : Nat → Int32 → Int32 → AH → Option (Int32 × AH)} (hk9 : ∀ (r0 : Nat) (i1 : Int32) (i2 : Int32) (h : AH), k9 r0 i1 i2 h = some (rr, hr) → V X G h0 (QI rr hr) 9 [(0, .ref r0), (1, .int i1), (2, .int i2)] [] h) (r0 : Nat) (i2 : Int32) (si0 : Int32) (si1 : Int32) (h : AH) (hf : f_X15_late_41 k9 r0 i2 si0 si1 h = some (rr, hr)) : V X G h0 (QI rr hr) 41 [(0, .ref r0), (2, .int i2)] [.int si0, .int si1] h := by
  unfold f_X15_late_41 at hf
  refine C.seg (pe := 42) (lv' := [(0, .ref r0), (2, .int i2)]) (st' := [.ref r0, .int si0, .int si1]) [(.aload_n 0, 1, 0)] (by decide +kernel) rfl ?_
  obtain ⟨a1, ga1, hf⟩ := Option.bind_eq_some_iff.mp hf
  refine C.rdA fr_1883 ga1 (by decide +kernel) rfl ?_
  refine C.seg (pe := 46) (lv' := [(0, .ref r0), (2, .int i2)]) (st' := [.int i2, .ref a1, .int si0, .int si1]) [(.iload_n 2, 1, 0)] (by decide +kernel) rfl ?_
  obtain ⟨x2, gx2, hf⟩ := Option.bind_eq_some_iff.mp hf
  refine C.ald 0 rfl gx2 (by decide +kernel) rfl ?_
  refine C.icmp_le (off := 7) (tgt := 54) (pf := 50) (by decide +kernel) (by decide) rfl (fun c3 => ?_) (fun c3 => ?_)
  · replace hf := ifp c3 hf
    refine C.seg (pe := 55) (lv' := [(0, .ref r0), (2, .int i2)]) (st' := [.int 0, .int si1]) [(.iconst 0, 1, 0)] (by decide +kernel) rfl ?_
    exact l_X15_late_55 C C2 hk9 r0 i2 0 si1 h hf
  · replace hf := ifn c3 hf
    refine C.seg (pe := 51) (lv' := [(0, .ref r0), (2, .int i2)]) (st' := [.int 1, .int si1]) [(.iconst 1, 1, 1)] (by decide +kernel) rfl ?_
    refine C.goto (off := 4) (tgt := 55) (by decide +kernel) (by decide) ?_
    exact l_X15_late_55 C C2 hk9 r0 i2 1 si1 h hf
def f_X15_late_9 : Nat → Nat → Int32 → Int32 → AH → Option (Int32 × AH)
  | 0, _, _, _, _ => none
  | n + 1, r0, i1, i2, h =>
    (gI 15 h r0 95).bind fun x1 =>
    if x1 ≤ i2 then
      some (i1, h)
    else
      (gA 15 h r0 98).bind fun a2 =>
      (aI 0 h a2 i2).bind fun x3 =>
      if x3 = (-1) then
        (gI 15 h r0 5).bind fun x6 =>
        f_X15_late_41 (f_X15_late_9 n) r0 i2 x6 i1 h
      else
        (gA 15 h r0 98).bind fun a4 =>
        (aI 0 h a4 i2).bind fun x5 =>
        f_X15_late_41 (f_X15_late_9 n) r0 i2 x5 i1 h
set_option maxRecDepth 100000 in
set_option maxHeartbeats 4000000 in
theorem l_X15_late_9 {X : MX} {l : Launch} {G : GX} {h0 : AH} {rr : Int32} {hr : AH} (C : Cx X G RX15 cX15_late 3 (some .int) 0 0 h0) (C2 : Cy X l "late" []) : ∀ (n : Nat) (r0 : Nat) (i1 : Int32) (i2 : Int32) (h : AH), f_X15_late_9 n r0 i1 i2 h = some (rr, hr) → V X G h0 (QI rr hr) 9 [(0, .ref r0), (1, .int i1), (2, .int i2)] [] h := by
  intro n
  induction n with
  | zero => intro r0 i1 i2 h hf; rw [f_X15_late_9] at hf; cases hf
  | succ n ih =>
    intro r0 i1 i2 h hf
    rw [f_X15_late_9] at hf
    refine C.seg (pe := 11) (lv' := [(0, .ref r0), (1, .int i1), (2, .int i2)]) (st' := [.ref r0, .int i2]) [(.iload_n 2, 1, 0), (.aload_n 0, 1, 0)] (by decide +kernel) rfl ?_
    obtain ⟨x1, gx1, hf⟩ := Option.bind_eq_some_iff.mp hf
    refine C.rdI fr_1881 gx1 (by decide +kernel) rfl ?_
    refine C.icmp_ge (off := 49) (tgt := 63) (pf := 17) (by decide +kernel) (by decide) rfl (fun c8 => ?_) (fun c8 => ?_)
    · replace hf := ifp c8 hf
      refine C.seg (pe := 64) (lv' := [(0, .ref r0), (1, .int i1), (2, .int i2)]) (st' := [.int i1]) [(.iload_n 1, 1, 0)] (by decide +kernel) rfl ?_
      cases hf
      exact C.retI rfl (by decide +kernel) ⟨rfl, rfl⟩
    · replace hf := ifn c8 hf
      refine C.seg (pe := 19) (lv' := [(0, .ref r0), (1, .int i1), (2, .int i2)]) (st' := [.ref r0, .int i1]) [(.iload_n 1, 1, 0), (.aload_n 0, 1, 0)] (by decide +kernel) rfl ?_
      obtain ⟨a2, ga2, hf⟩ := Option.bind_eq_some_iff.mp hf
      refine C.rdA fr_1884 ga2 (by decide +kernel) rfl ?_
      refine C.seg (pe := 23) (lv' := [(0, .ref r0), (1, .int i1), (2, .int i2)]) (st' := [.int i2, .ref a2, .int i1]) [(.iload_n 2, 1, 0)] (by decide +kernel) rfl ?_
      obtain ⟨x3, gx3, hf⟩ := Option.bind_eq_some_iff.mp hf
      refine C.ald 0 rfl gx3 (by decide +kernel) rfl ?_
      refine C.seg (pe := 25) (lv' := [(0, .ref r0), (1, .int i1), (2, .int i2)]) (st' := [.int (-1), .int x3, .int i1]) [(.iconst (-1), 1, (-1))] (by decide +kernel) rfl ?_
      refine C.icmp_ne (off := 10) (tgt := 35) (pf := 28) (by decide +kernel) (by decide) rfl (fun c7 => ?_) (fun c7 => ?_)
      · replace hf := ifn c7 hf
        refine C.seg (pe := 36) (lv' := [(0, .ref r0), (1, .int i1), (2, .int i2)]) (st' := [.ref r0, .int i1]) [(.aload_n 0, 1, 0)] (by decide +kernel) rfl ?_
        obtain ⟨a4, ga4, hf⟩ := Option.bind_eq_some_iff.mp hf
        refine C.rdA fr_1884 ga4 (by decide +kernel) rfl ?_
        refine C.seg (pe := 40) (lv' := [(0, .ref r0), (1, .int i1), (2, .int i2)]) (st' := [.int i2, .ref a4, .int i1]) [(.iload_n 2, 1, 0)] (by decide +kernel) rfl ?_
        obtain ⟨x5, gx5, hf⟩ := Option.bind_eq_some_iff.mp hf
        refine C.ald 0 rfl gx5 (by decide +kernel) rfl ?_
        refine Vsub [0, 2] rfl ?_
        exact l_X15_late_41 C C2 ih r0 i2 x5 i1 h hf
      · replace hf := ifp c7 hf
        refine C.seg (pe := 29) (lv' := [(0, .ref r0), (1, .int i1), (2, .int i2)]) (st' := [.ref r0, .int i1]) [(.aload_n 0, 1, 0)] (by decide +kernel) rfl ?_
        obtain ⟨x6, gx6, hf⟩ := Option.bind_eq_some_iff.mp hf
        refine C.rdI fr_1791 gx6 (by decide +kernel) rfl ?_
        refine C.goto (off := 9) (tgt := 41) (by decide +kernel) (by decide) ?_
        refine Vsub [0, 2] rfl ?_
        exact l_X15_late_41 C C2 ih r0 i2 x6 i1 h hf
def f_X15_late (a0 : Nat) (h : AH) : Option (Int32 × AH) :=
  if isO 15 h a0 = true then
    (pI 15 h a0 0 0).bind fun h1 =>
    f_X15_late_9 FU a0 0 0 h1
  else none
set_option maxRecDepth 100000 in
set_option maxHeartbeats 4000000 in
theorem w_X15_late {l : Launch} {G : GX} {a0 : Nat} {h : AH} {rr : Int32} {hr : AH} (hf : f_X15_late a0 h = some (rr, hr)) : Ct l G yX15_late 0 0 [.ref a0] h (QI rr hr) := by
  unfold f_X15_late at hf
  obtain ⟨ho, hf⟩ := ifO hf
  refine Ct_of (own := RX15) (cc := cX15_late) (nL := 3) (ret := (some .int)) rfl rfl k_2501 (Nat.le_of_ble_eq_true rfl) (fun X C2 C => ?_)
  show V X G h (QI rr hr) 0 [(0, .ref a0)] [] h
  refine C.seg (pe := 2) (lv' := [(0, .ref a0)]) (st' := [.int 0, .ref a0]) [(.aload_n 0, 1, 0), (.iconst 0, 1, 0)] (by decide +kernel) rfl ?_
  obtain ⟨h1, gh1, hf⟩ := Option.bind_eq_some_iff.mp hf
  refine C.putI fl_1786 gh1 (by decide +kernel) rfl ?_
  refine C.seg (pe := 9) (lv' := [(2, .int 0), (1, .int 0), (0, .ref a0)]) (st' := []) [(.iconst 0, 1, 0), (.istore_n 1, 1, 0), (.iconst 0, 1, 0), (.istore_n 2, 1, 0)] (by decide +kernel) rfl ?_
  refine Vsub [2, 1, 0] rfl ?_
  exact l_X15_late_9 C C2 FU a0 0 0 h1 hf
theorem o_X15_late {a0 : Nat} {h : AH} {rr : Int32} {hr : AH} (hf : f_X15_late a0 h = some (rr, hr)) : isO 15 h a0 = true := by
  unfold f_X15_late at hf
  exact (ifO hf).1
/-! WallHouseModel.leastBy(I)I -/
def f_X15_leastBy_47 (k5 : Nat → Int32 → Int32 → Int32 → AH → Option (Int32 × AH)) (r0 : Nat) (i1 : Int32) (i3 : Int32) (si0 : Int32) (h : AH) : Option (Int32 × AH) :=
  k5 r0 i1 si0 (i3 + 1) h
set_option maxRecDepth 100000 in
set_option maxHeartbeats 4000000 in
theorem l_X15_leastBy_47 {X : MX} {l : Launch} {G : GX} {h0 : AH} {rr : Int32} {hr : AH} (C : Cx X G RX15 cX15_leastBy 4 (some .int) 1 40 h0) (C2 : Cy X l "leastBy" []) {k5 : Nat → Int32 → Int32 → Int32 → AH → Option (Int32 × AH)} (hk5 : ∀ (r0 : Nat) (i1 : Int32) (i2 : Int32) (i3 : Int32) (h : AH), k5 r0 i1 i2 i3 h = some (rr, hr) → V X G h0 (QI rr hr) 5 [(0, .ref r0), (1, .int i1), (2, .int i2), (3, .int i3)] [] h) (r0 : Nat) (i1 : Int32) (i3 : Int32) (si0 : Int32) (h : AH) (hf : f_X15_leastBy_47 k5 r0 i1 i3 si0 h = some (rr, hr)) : V X G h0 (QI rr hr) 47 [(0, .ref r0), (1, .int i1), (3, .int i3)] [.int si0] h := by
  unfold f_X15_leastBy_47 at hf
  refine C.seg (pe := 51) (lv' := [(3, .int (i3 + 1)), (2, .int si0), (0, .ref r0), (1, .int i1)]) (st' := []) [(.istore_n 2, 1, 0), (.iinc 3 1, 3, 1)] (by decide +kernel) rfl ?_
  refine C.goto (off := (-46)) (tgt := 5) (by decide +kernel) (by decide) ?_
  refine Vsub [2, 3, 1, 0] rfl ?_
  exact hk5 r0 i1 si0 (i3 + 1) h hf
def f_X15_leastBy_46 (k5 : Nat → Int32 → Int32 → Int32 → AH → Option (Int32 × AH)) (r0 : Nat) (i1 : Int32) (i2 : Int32) (i3 : Int32) (h : AH) : Option (Int32 × AH) :=
  f_X15_leastBy_47 k5 r0 i1 i3 i2 h
set_option maxRecDepth 100000 in
set_option maxHeartbeats 4000000 in
theorem l_X15_leastBy_46 {X : MX} {l : Launch} {G : GX} {h0 : AH} {rr : Int32} {hr : AH} (C : Cx X G RX15 cX15_leastBy 4 (some .int) 1 40 h0) (C2 : Cy X l "leastBy" []) {k5 : Nat → Int32 → Int32 → Int32 → AH → Option (Int32 × AH)} (hk5 : ∀ (r0 : Nat) (i1 : Int32) (i2 : Int32) (i3 : Int32) (h : AH), k5 r0 i1 i2 i3 h = some (rr, hr) → V X G h0 (QI rr hr) 5 [(0, .ref r0), (1, .int i1), (2, .int i2), (3, .int i3)] [] h) (r0 : Nat) (i1 : Int32) (i2 : Int32) (i3 : Int32) (h : AH) (hf : f_X15_leastBy_46 k5 r0 i1 i2 i3 h = some (rr, hr)) : V X G h0 (QI rr hr) 46 [(0, .ref r0), (1, .int i1), (2, .int i2), (3, .int i3)] [] h := by
  unfold f_X15_leastBy_46 at hf
  refine C.seg (pe := 47) (lv' := [(0, .ref r0), (1, .int i1), (2, .int i2), (3, .int i3)]) (st' := [.int i2]) [(.iload_n 2, 1, 0)] (by decide +kernel) rfl ?_
  refine Vsub [0, 1, 3] rfl ?_
  exact l_X15_leastBy_47 C C2 hk5 r0 i1 i3 i2 h hf
def f_X15_leastBy_5 : Nat → Nat → Int32 → Int32 → Int32 → AH → Option (Int32 × AH)
  | 0, _, _, _, _, _ => none
  | n + 1, r0, i1, i2, i3, h =>
    (gI 15 h r0 95).bind fun x1 =>
    if x1 ≤ i3 then
      some (i2, h)
    else
      (gA 15 h r0 96).bind fun a2 =>
      (aI 0 h a2 i3).bind fun x3 =>
      if x3 = i1 then
        (gA 15 h r0 98).bind fun a4 =>
        (aI 0 h a4 i3).bind fun x5 =>
        if x5 = (-1) then
          (gA 15 h r0 97).bind fun a6 =>
          (aI 0 h a6 i3).bind fun x7 =>
          f_X15_leastBy_47 (f_X15_leastBy_5 n) r0 i1 i3 (mnI i2 x7) h
        else
          f_X15_leastBy_46 (f_X15_leastBy_5 n) r0 i1 i2 i3 h
      else
        f_X15_leastBy_46 (f_X15_leastBy_5 n) r0 i1 i2 i3 h
set_option maxRecDepth 100000 in
set_option maxHeartbeats 4000000 in
theorem l_X15_leastBy_5 {X : MX} {l : Launch} {G : GX} {h0 : AH} {rr : Int32} {hr : AH} (C : Cx X G RX15 cX15_leastBy 4 (some .int) 1 40 h0) (C2 : Cy X l "leastBy" []) : ∀ (n : Nat) (r0 : Nat) (i1 : Int32) (i2 : Int32) (i3 : Int32) (h : AH), f_X15_leastBy_5 n r0 i1 i2 i3 h = some (rr, hr) → V X G h0 (QI rr hr) 5 [(0, .ref r0), (1, .int i1), (2, .int i2), (3, .int i3)] [] h := by
  intro n
  induction n with
  | zero => intro r0 i1 i2 i3 h hf; rw [f_X15_leastBy_5] at hf; cases hf
  | succ n ih =>
    intro r0 i1 i2 i3 h hf
    rw [f_X15_leastBy_5] at hf
    refine C.seg (pe := 7) (lv' := [(0, .ref r0), (1, .int i1), (2, .int i2), (3, .int i3)]) (st' := [.ref r0, .int i3]) [(.iload_n 3, 1, 0), (.aload_n 0, 1, 0)] (by decide +kernel) rfl ?_
    obtain ⟨x1, gx1, hf⟩ := Option.bind_eq_some_iff.mp hf
    refine C.rdI fr_1881 gx1 (by decide +kernel) rfl ?_
    refine C.icmp_ge (off := 44) (tgt := 54) (pf := 13) (by decide +kernel) (by decide) rfl (fun c10 => ?_) (fun c10 => ?_)
    · replace hf := ifp c10 hf
      refine C.seg (pe := 55) (lv' := [(0, .ref r0), (1, .int i1), (2, .int i2), (3, .int i3)]) (st' := [.int i2]) [(.iload_n 2, 1, 0)] (by decide +kernel) rfl ?_
      cases hf
      exact C.retI rfl (by decide +kernel) ⟨rfl, rfl⟩
    · replace hf := ifn c10 hf
      refine C.seg (pe := 14) (lv' := [(0, .ref r0), (1, .int i1), (2, .int i2), (3, .int i3)]) (st' := [.ref r0]) [(.aload_n 0, 1, 0)] (by decide +kernel) rfl ?_
      obtain ⟨a2, ga2, hf⟩ := Option.bind_eq_some_iff.mp hf
      refine C.rdA fr_1882 ga2 (by decide +kernel) rfl ?_
      refine C.seg (pe := 18) (lv' := [(0, .ref r0), (1, .int i1), (2, .int i2), (3, .int i3)]) (st' := [.int i3, .ref a2]) [(.iload_n 3, 1, 0)] (by decide +kernel) rfl ?_
      obtain ⟨x3, gx3, hf⟩ := Option.bind_eq_some_iff.mp hf
      refine C.ald 0 rfl gx3 (by decide +kernel) rfl ?_
      refine C.seg (pe := 20) (lv' := [(0, .ref r0), (1, .int i1), (2, .int i2), (3, .int i3)]) (st' := [.int i1, .int x3]) [(.iload_n 1, 1, 0)] (by decide +kernel) rfl ?_
      refine C.icmp_ne (off := 26) (tgt := 46) (pf := 23) (by decide +kernel) (by decide) rfl (fun c9 => ?_) (fun c9 => ?_)
      · replace hf := ifn c9 hf
        exact l_X15_leastBy_46 C C2 ih r0 i1 i2 i3 h hf
      · replace hf := ifp c9 hf
        refine C.seg (pe := 24) (lv' := [(0, .ref r0), (1, .int i1), (2, .int i2), (3, .int i3)]) (st' := [.ref r0]) [(.aload_n 0, 1, 0)] (by decide +kernel) rfl ?_
        obtain ⟨a4, ga4, hf⟩ := Option.bind_eq_some_iff.mp hf
        refine C.rdA fr_1884 ga4 (by decide +kernel) rfl ?_
        refine C.seg (pe := 28) (lv' := [(0, .ref r0), (1, .int i1), (2, .int i2), (3, .int i3)]) (st' := [.int i3, .ref a4]) [(.iload_n 3, 1, 0)] (by decide +kernel) rfl ?_
        obtain ⟨x5, gx5, hf⟩ := Option.bind_eq_some_iff.mp hf
        refine C.ald 0 rfl gx5 (by decide +kernel) rfl ?_
        refine C.seg (pe := 30) (lv' := [(0, .ref r0), (1, .int i1), (2, .int i2), (3, .int i3)]) (st' := [.int (-1), .int x5]) [(.iconst (-1), 1, (-1))] (by decide +kernel) rfl ?_
        refine C.icmp_ne (off := 16) (tgt := 46) (pf := 33) (by decide +kernel) (by decide) rfl (fun c8 => ?_) (fun c8 => ?_)
        · replace hf := ifn c8 hf
          exact l_X15_leastBy_46 C C2 ih r0 i1 i2 i3 h hf
        · replace hf := ifp c8 hf
          refine C.seg (pe := 35) (lv' := [(0, .ref r0), (1, .int i1), (2, .int i2), (3, .int i3)]) (st' := [.ref r0, .int i2]) [(.iload_n 2, 1, 0), (.aload_n 0, 1, 0)] (by decide +kernel) rfl ?_
          obtain ⟨a6, ga6, hf⟩ := Option.bind_eq_some_iff.mp hf
          refine C.rdA fr_1883 ga6 (by decide +kernel) rfl ?_
          refine C.seg (pe := 39) (lv' := [(0, .ref r0), (1, .int i1), (2, .int i2), (3, .int i3)]) (st' := [.int i3, .ref a6, .int i2]) [(.iload_n 3, 1, 0)] (by decide +kernel) rfl ?_
          obtain ⟨x7, gx7, hf⟩ := Option.bind_eq_some_iff.mp hf
          refine C.ald 0 rfl gx7 (by decide +kernel) rfl ?_
          refine C.mmin k_2164 k_639 k_137 k_640 (by omega) (by omega) (Nat.le_of_ble_eq_true rfl) (by decide +kernel) rfl ?_
          refine C.goto (off := 4) (tgt := 47) (by decide +kernel) (by decide) ?_
          refine Vsub [0, 1, 3] rfl ?_
          exact l_X15_leastBy_47 C C2 ih r0 i1 i3 (mnI i2 x7) h hf
def f_X15_leastBy (a0 : Nat) (p1 : Int32) (h : AH) : Option (Int32 × AH) :=
  if isO 15 h a0 = true then
    f_X15_leastBy_5 FU a0 p1 1000000 0 h
  else none
set_option maxRecDepth 100000 in
set_option maxHeartbeats 4000000 in
theorem w_X15_leastBy {l : Launch} {G : GX} {a0 : Nat} {p1 : Int32} {h : AH} {rr : Int32} {hr : AH} (hf : f_X15_leastBy a0 p1 h = some (rr, hr)) : Ct l G yX15_leastBy 1 40 [.ref a0, .int p1] h (QI rr hr) := by
  unfold f_X15_leastBy at hf
  obtain ⟨ho, hf⟩ := ifO hf
  refine Ct_of (own := RX15) (cc := cX15_leastBy) (nL := 4) (ret := (some .int)) rfl rfl k_2513 (Nat.le_of_ble_eq_true rfl) (fun X C2 C => ?_)
  show V X G h (QI rr hr) 0 [(0, .ref a0), (1, .int p1)] [] h
  refine C.ldcI k_1785 (by decide +kernel) rfl ?_
  refine C.seg (pe := 5) (lv' := [(3, .int 0), (2, .int 1000000), (0, .ref a0), (1, .int p1)]) (st' := []) [(.istore_n 2, 1, 0), (.iconst 0, 1, 0), (.istore_n 3, 1, 0)] (by decide +kernel) rfl ?_
  refine Vsub [2, 3, 1, 0] rfl ?_
  exact l_X15_leastBy_5 C C2 FU a0 p1 1000000 0 h hf
theorem o_X15_leastBy {a0 : Nat} {p1 : Int32} {h : AH} {rr : Int32} {hr : AH} (hf : f_X15_leastBy a0 p1 h = some (rr, hr)) : isO 15 h a0 = true := by
  unfold f_X15_leastBy at hf
  exact (ifO hf).1
/-! WallHouseModel.apart(II)I -/
def f_X15_apart_20 (si0 : Int32) (h : AH) : Option (Int32 × AH) :=
  some (si0, h)
set_option maxRecDepth 100000 in
set_option maxHeartbeats 4000000 in
theorem l_X15_apart_20 {X : MX} {l : Launch} {G : GX} {h0 : AH} {rr : Int32} {hr : AH} (C : Cx X G RX15 cX15_apart 3 (some .int) 0 0 h0) (C2 : Cy X l "apart" []) (si0 : Int32) (h : AH) (hf : f_X15_apart_20 si0 h = some (rr, hr)) : V X G h0 (QI rr hr) 20 [] [.int si0] h := by
  unfold f_X15_apart_20 at hf
  cases hf
  exact C.retI rfl (by decide +kernel) ⟨rfl, rfl⟩
def f_X15_apart (a0 : Nat) (p1 : Int32) (p2 : Int32) (h : AH) : Option (Int32 × AH) :=
  if isO 15 h a0 = true then
    if p1 = p2 then
      f_X15_apart_20 0 h
    else
      (gA 15 h a0 22).bind fun a1 =>
      (aI 0 h a1 ((16 * p1) + p2)).bind fun x2 =>
      f_X15_apart_20 x2 h
  else none
set_option maxRecDepth 100000 in
set_option maxHeartbeats 4000000 in
theorem w_X15_apart {l : Launch} {G : GX} {a0 : Nat} {p1 : Int32} {p2 : Int32} {h : AH} {rr : Int32} {hr : AH} (hf : f_X15_apart a0 p1 p2 h = some (rr, hr)) : Ct l G yX15_apart 0 0 [.ref a0, .int p1, .int p2] h (QI rr hr) := by
  unfold f_X15_apart at hf
  obtain ⟨ho, hf⟩ := ifO hf
  refine Ct_of (own := RX15) (cc := cX15_apart) (nL := 3) (ret := (some .int)) rfl rfl k_2517 (Nat.le_of_ble_eq_true rfl) (fun X C2 C => ?_)
  show V X G h (QI rr hr) 0 [(0, .ref a0), (1, .int p1), (2, .int p2)] [] h
  refine C.seg (pe := 2) (lv' := [(0, .ref a0), (1, .int p1), (2, .int p2)]) (st' := [.int p2, .int p1]) [(.iload_n 1, 1, 0), (.iload_n 2, 1, 0)] (by decide +kernel) rfl ?_
  refine C.icmp_ne (off := 7) (tgt := 9) (pf := 5) (by decide +kernel) (by decide) rfl (fun c3 => ?_) (fun c3 => ?_)
  · replace hf := ifn c3 hf
    refine C.seg (pe := 10) (lv' := [(0, .ref a0), (1, .int p1), (2, .int p2)]) (st' := [.ref a0]) [(.aload_n 0, 1, 0)] (by decide +kernel) rfl ?_
    obtain ⟨a1, ga1, hf⟩ := Option.bind_eq_some_iff.mp hf
    refine C.rdA fr_1808 ga1 (by decide +kernel) rfl ?_
    refine C.seg (pe := 19) (lv' := [(0, .ref a0), (1, .int p1), (2, .int p2)]) (st' := [.int ((16 * p1) + p2), .ref a1]) [(.bipush 16, 2, 16), (.iload_n 1, 1, 0), (.imul, 1, 0), (.iload_n 2, 1, 0), (.iadd, 1, 0)] (by decide +kernel) rfl ?_
    obtain ⟨x2, gx2, hf⟩ := Option.bind_eq_some_iff.mp hf
    refine C.ald 0 rfl gx2 (by decide +kernel) rfl ?_
    refine Vsub [] rfl ?_
    exact l_X15_apart_20 C C2 x2 h hf
  · replace hf := ifp c3 hf
    refine C.seg (pe := 6) (lv' := [(0, .ref a0), (1, .int p1), (2, .int p2)]) (st' := [.int 0]) [(.iconst 0, 1, 0)] (by decide +kernel) rfl ?_
    refine C.goto (off := 14) (tgt := 20) (by decide +kernel) (by decide) ?_
    refine Vsub [] rfl ?_
    exact l_X15_apart_20 C C2 0 h hf
theorem o_X15_apart {a0 : Nat} {p1 : Int32} {p2 : Int32} {h : AH} {rr : Int32} {hr : AH} (hf : f_X15_apart a0 p1 p2 h = some (rr, hr)) : isO 15 h a0 = true := by
  unfold f_X15_apart at hf
  exact (ifO hf).1
/-! WallHouseModel.nextWall(I)I -/
def f_X15_nextWall_85 (k4 : Nat → Int32 → Int32 → Int32 → AH → Option (Int32 × AH)) (r0 : Nat) (i1 : Int32) (i2 : Int32) (i3 : Int32) (h : AH) : Option (Int32 × AH) :=
  k4 r0 i1 i2 (i3 + 1) h
set_option maxRecDepth 100000 in
set_option maxHeartbeats 4000000 in
theorem l_X15_nextWall_85 {X : MX} {l : Launch} {G : GX} {h0 : AH} {rr : Int32} {hr : AH} (C : Cx X G RX15 cX15_nextWall 5 (some .int) 2 63 h0) (C2 : Cy X l "nextWall" []) {k4 : Nat → Int32 → Int32 → Int32 → AH → Option (Int32 × AH)} (hk4 : ∀ (r0 : Nat) (i1 : Int32) (i2 : Int32) (i3 : Int32) (h : AH), k4 r0 i1 i2 i3 h = some (rr, hr) → V X G h0 (QI rr hr) 4 [(0, .ref r0), (1, .int i1), (2, .int i2), (3, .int i3)] [] h) (r0 : Nat) (i1 : Int32) (i2 : Int32) (i3 : Int32) (h : AH) (hf : f_X15_nextWall_85 k4 r0 i1 i2 i3 h = some (rr, hr)) : V X G h0 (QI rr hr) 85 [(0, .ref r0), (1, .int i1), (2, .int i2), (3, .int i3)] [] h := by
  unfold f_X15_nextWall_85 at hf
  refine C.seg (pe := 88) (lv' := [(3, .int (i3 + 1)), (0, .ref r0), (1, .int i1), (2, .int i2)]) (st' := []) [(.iinc 3 1, 3, 1)] (by decide +kernel) rfl ?_
  refine C.goto (off := (-84)) (tgt := 4) (by decide +kernel) (by decide) ?_
  refine Vsub [1, 2, 3, 0] rfl ?_
  exact hk4 r0 i1 i2 (i3 + 1) h hf
def f_X15_nextWall_76 (k4 : Nat → Int32 → Int32 → Int32 → AH → Option (Int32 × AH)) (r0 : Nat) (i1 : Int32) (i2 : Int32) (i3 : Int32) (si0 : Int32) (h : AH) : Option (Int32 × AH) :=
  if si0 = 0 then
    f_X15_nextWall_85 k4 r0 i1 i2 i3 h
  else
    f_X15_nextWall_85 k4 r0 i1 i3 i3 h
set_option maxRecDepth 100000 in
set_option maxHeartbeats 4000000 in
theorem l_X15_nextWall_76 {X : MX} {l : Launch} {G : GX} {h0 : AH} {rr : Int32} {hr : AH} (C : Cx X G RX15 cX15_nextWall 5 (some .int) 2 63 h0) (C2 : Cy X l "nextWall" []) {k4 : Nat → Int32 → Int32 → Int32 → AH → Option (Int32 × AH)} (hk4 : ∀ (r0 : Nat) (i1 : Int32) (i2 : Int32) (i3 : Int32) (h : AH), k4 r0 i1 i2 i3 h = some (rr, hr) → V X G h0 (QI rr hr) 4 [(0, .ref r0), (1, .int i1), (2, .int i2), (3, .int i3)] [] h) (r0 : Nat) (i1 : Int32) (i2 : Int32) (i3 : Int32) (si0 : Int32) (h : AH) (hf : f_X15_nextWall_76 k4 r0 i1 i2 i3 si0 h = some (rr, hr)) : V X G h0 (QI rr hr) 76 [(0, .ref r0), (1, .int i1), (2, .int i2), (3, .int i3)] [.int si0] h := by
  unfold f_X15_nextWall_76 at hf
  refine C.seg (pe := 80) (lv' := [(4, .int si0), (0, .ref r0), (1, .int i1), (2, .int i2), (3, .int i3)]) (st' := [.int si0]) [(.istore 4, 2, 0), (.iload 4, 2, 0)] (by decide +kernel) rfl ?_
  refine C.if_eq (off := 5) (tgt := 85) (pf := 83) (by decide +kernel) (by decide) rfl (fun c1 => ?_) (fun c1 => ?_)
  · replace hf := ifp c1 hf
    refine Vsub [1, 2, 3, 4] rfl ?_
    exact l_X15_nextWall_85 C C2 hk4 r0 i1 i2 i3 h hf
  · replace hf := ifn c1 hf
    refine C.seg (pe := 85) (lv' := [(2, .int i3), (4, .int si0), (0, .ref r0), (1, .int i1), (3, .int i3)]) (st' := []) [(.iload_n 3, 1, 0), (.istore_n 2, 1, 0)] (by decide +kernel) rfl ?_
    refine Vsub [2, 3, 0, 4] rfl ?_
    exact l_X15_nextWall_85 C C2 hk4 r0 i1 i3 i3 h hf
def f_X15_nextWall_75 (k4 : Nat → Int32 → Int32 → Int32 → AH → Option (Int32 × AH)) (r0 : Nat) (i1 : Int32) (i2 : Int32) (i3 : Int32) (h : AH) : Option (Int32 × AH) :=
  f_X15_nextWall_76 k4 r0 i1 i2 i3 0 h
set_option maxRecDepth 100000 in
set_option maxHeartbeats 4000000 in
theorem l_X15_nextWall_75 {X : MX} {l : Launch} {G : GX} {h0 : AH} {rr : Int32} {hr : AH} (C : Cx X G RX15 cX15_nextWall 5 (some .int) 2 63 h0) (C2 : Cy X l "nextWall" []) {k4 : Nat → Int32 → Int32 → Int32 → AH → Option (Int32 × AH)} (hk4 : ∀ (r0 : Nat) (i1 : Int32) (i2 : Int32) (i3 : Int32) (h : AH), k4 r0 i1 i2 i3 h = some (rr, hr) → V X G h0 (QI rr hr) 4 [(0, .ref r0), (1, .int i1), (2, .int i2), (3, .int i3)] [] h) (r0 : Nat) (i1 : Int32) (i2 : Int32) (i3 : Int32) (h : AH) (hf : f_X15_nextWall_75 k4 r0 i1 i2 i3 h = some (rr, hr)) : V X G h0 (QI rr hr) 75 [(0, .ref r0), (1, .int i1), (2, .int i2), (3, .int i3)] [] h := by
  unfold f_X15_nextWall_75 at hf
  refine C.seg (pe := 76) (lv' := [(0, .ref r0), (1, .int i1), (2, .int i2), (3, .int i3)]) (st' := [.int 0]) [(.iconst 0, 1, 0)] (by decide +kernel) rfl ?_
  exact l_X15_nextWall_76 C C2 hk4 r0 i1 i2 i3 0 h hf
def f_X15_nextWall_71 (k4 : Nat → Int32 → Int32 → Int32 → AH → Option (Int32 × AH)) (r0 : Nat) (i1 : Int32) (i2 : Int32) (i3 : Int32) (h : AH) : Option (Int32 × AH) :=
  f_X15_nextWall_76 k4 r0 i1 i2 i3 1 h
set_option maxRecDepth 100000 in
set_option maxHeartbeats 4000000 in
theorem l_X15_nextWall_71 {X : MX} {l : Launch} {G : GX} {h0 : AH} {rr : Int32} {hr : AH} (C : Cx X G RX15 cX15_nextWall 5 (some .int) 2 63 h0) (C2 : Cy X l "nextWall" []) {k4 : Nat → Int32 → Int32 → Int32 → AH → Option (Int32 × AH)} (hk4 : ∀ (r0 : Nat) (i1 : Int32) (i2 : Int32) (i3 : Int32) (h : AH), k4 r0 i1 i2 i3 h = some (rr, hr) → V X G h0 (QI rr hr) 4 [(0, .ref r0), (1, .int i1), (2, .int i2), (3, .int i3)] [] h) (r0 : Nat) (i1 : Int32) (i2 : Int32) (i3 : Int32) (h : AH) (hf : f_X15_nextWall_71 k4 r0 i1 i2 i3 h = some (rr, hr)) : V X G h0 (QI rr hr) 71 [(0, .ref r0), (1, .int i1), (2, .int i2), (3, .int i3)] [] h := by
  unfold f_X15_nextWall_71 at hf
  refine C.seg (pe := 72) (lv' := [(0, .ref r0), (1, .int i1), (2, .int i2), (3, .int i3)]) (st' := [.int 1]) [(.iconst 1, 1, 1)] (by decide +kernel) rfl ?_
  refine C.goto (off := 4) (tgt := 76) (by decide +kernel) (by decide) ?_
  exact l_X15_nextWall_76 C C2 hk4 r0 i1 i2 i3 1 h hf
def f_X15_nextWall_4 : Nat → Nat → Int32 → Int32 → Int32 → AH → Option (Int32 × AH)
  | 0, _, _, _, _, _ => none
  | n + 1, r0, i1, i2, i3, h =>
    (gI 15 h r0 4).bind fun x1 =>
    if x1 ≤ i3 then
      some (i2, h)
    else
      b2 (f_X15_leastBy r0 i3 h) fun x2 h3 =>
      if x2 = 1000000 then
        f_X15_nextWall_85 (f_X15_nextWall_4 n) r0 i1 i2 i3 h3
      else
        if i2 = (-1) then
          f_X15_nextWall_71 (f_X15_nextWall_4 n) r0 i1 i2 i3 h3
        else
          b2 (f_X15_leastBy r0 i3 h3) fun x4 h5 =>
          b2 (f_X15_leastBy r0 i2 h5) fun x6 h7 =>
          if x4 < x6 then
            f_X15_nextWall_71 (f_X15_nextWall_4 n) r0 i1 i2 i3 h7
          else
            b2 (f_X15_leastBy r0 i3 h7) fun x8 h9 =>
            b2 (f_X15_leastBy r0 i2 h9) fun x10 h11 =>
            if x8 = x10 then
              b2 (f_X15_apart r0 i1 i3 h11) fun x12 h13 =>
              b2 (f_X15_apart r0 i1 i2 h13) fun x14 h15 =>
              if x14 ≤ x12 then
                f_X15_nextWall_75 (f_X15_nextWall_4 n) r0 i1 i2 i3 h15
              else
                f_X15_nextWall_71 (f_X15_nextWall_4 n) r0 i1 i2 i3 h15
            else
              f_X15_nextWall_75 (f_X15_nextWall_4 n) r0 i1 i2 i3 h11
set_option maxRecDepth 100000 in
set_option maxHeartbeats 4000000 in
theorem l_X15_nextWall_4 {X : MX} {l : Launch} {G : GX} {h0 : AH} {rr : Int32} {hr : AH} (C : Cx X G RX15 cX15_nextWall 5 (some .int) 2 63 h0) (C2 : Cy X l "nextWall" []) : ∀ (n : Nat) (r0 : Nat) (i1 : Int32) (i2 : Int32) (i3 : Int32) (h : AH), f_X15_nextWall_4 n r0 i1 i2 i3 h = some (rr, hr) → V X G h0 (QI rr hr) 4 [(0, .ref r0), (1, .int i1), (2, .int i2), (3, .int i3)] [] h := by
  intro n
  induction n with
  | zero => intro r0 i1 i2 i3 h hf; rw [f_X15_nextWall_4] at hf; cases hf
  | succ n ih =>
    intro r0 i1 i2 i3 h hf
    rw [f_X15_nextWall_4] at hf
    refine C.seg (pe := 6) (lv' := [(0, .ref r0), (1, .int i1), (2, .int i2), (3, .int i3)]) (st' := [.ref r0, .int i3]) [(.iload_n 3, 1, 0), (.aload_n 0, 1, 0)] (by decide +kernel) rfl ?_
    obtain ⟨x1, gx1, hf⟩ := Option.bind_eq_some_iff.mp hf
    refine C.rdI fr_1790 gx1 (by decide +kernel) rfl ?_
    refine C.icmp_ge (off := 82) (tgt := 91) (pf := 12) (by decide +kernel) (by decide) rfl (fun c21 => ?_) (fun c21 => ?_)
    · replace hf := ifp c21 hf
      refine C.seg (pe := 92) (lv' := [(0, .ref r0), (1, .int i1), (2, .int i2), (3, .int i3)]) (st' := [.int i2]) [(.iload_n 2, 1, 0)] (by decide +kernel) rfl ?_
      cases hf
      exact C.retI rfl (by decide +kernel) ⟨rfl, rfl⟩
    · replace hf := ifn c21 hf
      refine C.seg (pe := 14) (lv' := [(0, .ref r0), (1, .int i1), (2, .int i2), (3, .int i3)]) (st' := [.int i3, .ref r0]) [(.aload_n 0, 1, 0), (.iload_n 3, 1, 0)] (by decide +kernel) rfl ?_
      obtain ⟨x2, h3, gx2, hf⟩ := b2_some hf
      refine C.callVr C2 [.int i3] [] mv_2510 rfl (o_X15_leastBy gx2) (w_X15_leastBy gx2) (by omega) (by omega) (Nat.le_of_ble_eq_true rfl) (by decide +kernel) rfl ?_
      refine C.ldcI k_1785 (by decide +kernel) rfl ?_
      refine C.icmp_ne (off := 6) (tgt := 25) (pf := 22) (by decide +kernel) (by decide) rfl (fun c20 => ?_) (fun c20 => ?_)
      · replace hf := ifn c20 hf
        refine C.seg (pe := 27) (lv' := [(0, .ref r0), (1, .int i1), (2, .int i2), (3, .int i3)]) (st' := [.int (-1), .int i2]) [(.iload_n 2, 1, 0), (.iconst (-1), 1, (-1))] (by decide +kernel) rfl ?_
        refine C.icmp_eq (off := 44) (tgt := 71) (pf := 30) (by decide +kernel) (by decide) rfl (fun c19 => ?_) (fun c19 => ?_)
        · replace hf := ifp c19 hf
          exact l_X15_nextWall_71 C C2 ih r0 i1 i2 i3 h3 hf
        · replace hf := ifn c19 hf
          refine C.seg (pe := 32) (lv' := [(0, .ref r0), (1, .int i1), (2, .int i2), (3, .int i3)]) (st' := [.int i3, .ref r0]) [(.aload_n 0, 1, 0), (.iload_n 3, 1, 0)] (by decide +kernel) rfl ?_
          obtain ⟨x4, h5, gx4, hf⟩ := b2_some hf
          refine C.callVr C2 [.int i3] [] mv_2510 rfl (o_X15_leastBy gx4) (w_X15_leastBy gx4) (by omega) (by omega) (Nat.le_of_ble_eq_true rfl) (by decide +kernel) rfl ?_
          refine C.seg (pe := 37) (lv' := [(0, .ref r0), (1, .int i1), (2, .int i2), (3, .int i3)]) (st' := [.int i2, .ref r0, .int x4]) [(.aload_n 0, 1, 0), (.iload_n 2, 1, 0)] (by decide +kernel) rfl ?_
          obtain ⟨x6, h7, gx6, hf⟩ := b2_some hf
          refine C.callVr C2 [.int i2] [.int x4] mv_2510 rfl (o_X15_leastBy gx6) (w_X15_leastBy gx6) (by omega) (by omega) (Nat.le_of_ble_eq_true rfl) (by decide +kernel) rfl ?_
          refine C.icmp_lt (off := 31) (tgt := 71) (pf := 43) (by decide +kernel) (by decide) rfl (fun c18 => ?_) (fun c18 => ?_)
          · replace hf := ifp c18 hf
            exact l_X15_nextWall_71 C C2 ih r0 i1 i2 i3 h7 hf
          · replace hf := ifn c18 hf
            refine C.seg (pe := 45) (lv' := [(0, .ref r0), (1, .int i1), (2, .int i2), (3, .int i3)]) (st' := [.int i3, .ref r0]) [(.aload_n 0, 1, 0), (.iload_n 3, 1, 0)] (by decide +kernel) rfl ?_
            obtain ⟨x8, h9, gx8, hf⟩ := b2_some hf
            refine C.callVr C2 [.int i3] [] mv_2510 rfl (o_X15_leastBy gx8) (w_X15_leastBy gx8) (by omega) (by omega) (Nat.le_of_ble_eq_true rfl) (by decide +kernel) rfl ?_
            refine C.seg (pe := 50) (lv' := [(0, .ref r0), (1, .int i1), (2, .int i2), (3, .int i3)]) (st' := [.int i2, .ref r0, .int x8]) [(.aload_n 0, 1, 0), (.iload_n 2, 1, 0)] (by decide +kernel) rfl ?_
            obtain ⟨x10, h11, gx10, hf⟩ := b2_some hf
            refine C.callVr C2 [.int i2] [.int x8] mv_2510 rfl (o_X15_leastBy gx10) (w_X15_leastBy gx10) (by omega) (by omega) (Nat.le_of_ble_eq_true rfl) (by decide +kernel) rfl ?_
            refine C.icmp_ne (off := 22) (tgt := 75) (pf := 56) (by decide +kernel) (by decide) rfl (fun c17 => ?_) (fun c17 => ?_)
            · replace hf := ifn c17 hf
              exact l_X15_nextWall_75 C C2 ih r0 i1 i2 i3 h11 hf
            · replace hf := ifp c17 hf
              refine C.seg (pe := 59) (lv' := [(0, .ref r0), (1, .int i1), (2, .int i2), (3, .int i3)]) (st' := [.int i3, .int i1, .ref r0]) [(.aload_n 0, 1, 0), (.iload_n 1, 1, 0), (.iload_n 3, 1, 0)] (by decide +kernel) rfl ?_
              obtain ⟨x12, h13, gx12, hf⟩ := b2_some hf
              refine C.callVr C2 [.int i1, .int i3] [] mv_2514 rfl (o_X15_apart gx12) (w_X15_apart gx12) (by omega) (by omega) (Nat.le_of_ble_eq_true rfl) (by decide +kernel) rfl ?_
              refine C.seg (pe := 65) (lv' := [(0, .ref r0), (1, .int i1), (2, .int i2), (3, .int i3)]) (st' := [.int i2, .int i1, .ref r0, .int x12]) [(.aload_n 0, 1, 0), (.iload_n 1, 1, 0), (.iload_n 2, 1, 0)] (by decide +kernel) rfl ?_
              obtain ⟨x14, h15, gx14, hf⟩ := b2_some hf
              refine C.callVr C2 [.int i1, .int i2] [.int x12] mv_2514 rfl (o_X15_apart gx14) (w_X15_apart gx14) (by omega) (by omega) (Nat.le_of_ble_eq_true rfl) (by decide +kernel) rfl ?_
              refine C.icmp_ge (off := 7) (tgt := 75) (pf := 71) (by decide +kernel) (by decide) rfl (fun c16 => ?_) (fun c16 => ?_)
              · replace hf := ifp c16 hf
                exact l_X15_nextWall_75 C C2 ih r0 i1 i2 i3 h15 hf
              · replace hf := ifn c16 hf
                exact l_X15_nextWall_71 C C2 ih r0 i1 i2 i3 h15 hf
      · replace hf := ifp c20 hf
        refine C.goto (off := 63) (tgt := 85) (by decide +kernel) (by decide) ?_
        exact l_X15_nextWall_85 C C2 ih r0 i1 i2 i3 h3 hf
def f_X15_nextWall (a0 : Nat) (p1 : Int32) (h : AH) : Option (Int32 × AH) :=
  if isO 15 h a0 = true then
    f_X15_nextWall_4 FU a0 p1 (-1) 0 h
  else none
set_option maxRecDepth 100000 in
set_option maxHeartbeats 4000000 in
theorem w_X15_nextWall {l : Launch} {G : GX} {a0 : Nat} {p1 : Int32} {h : AH} {rr : Int32} {hr : AH} (hf : f_X15_nextWall a0 p1 h = some (rr, hr)) : Ct l G yX15_nextWall 2 63 [.ref a0, .int p1] h (QI rr hr) := by
  unfold f_X15_nextWall at hf
  obtain ⟨ho, hf⟩ := ifO hf
  refine Ct_of (own := RX15) (cc := cX15_nextWall) (nL := 5) (ret := (some .int)) rfl rfl k_2509 (Nat.le_of_ble_eq_true rfl) (fun X C2 C => ?_)
  show V X G h (QI rr hr) 0 [(0, .ref a0), (1, .int p1)] [] h
  refine C.seg (pe := 4) (lv' := [(3, .int 0), (2, .int (-1)), (0, .ref a0), (1, .int p1)]) (st' := []) [(.iconst (-1), 1, (-1)), (.istore_n 2, 1, 0), (.iconst 0, 1, 0), (.istore_n 3, 1, 0)] (by decide +kernel) rfl ?_
  refine Vsub [2, 3, 1, 0] rfl ?_
  exact l_X15_nextWall_4 C C2 FU a0 p1 (-1) 0 h hf
theorem o_X15_nextWall {a0 : Nat} {p1 : Int32} {h : AH} {rr : Int32} {hr : AH} (hf : f_X15_nextWall a0 p1 h = some (rr, hr)) : isO 15 h a0 = true := by
  unfold f_X15_nextWall at hf
  exact (ifO hf).1
