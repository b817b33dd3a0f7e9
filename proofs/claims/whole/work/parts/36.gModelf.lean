/-! WallHouseModel.round(I)I -/
def f_X15_round_182 (k49 : Nat → Int32 → Int32 → Int32 → Int32 → AH → Option (Int32 × AH)) (k139 : Nat → Int32 → Int32 → Int32 → Int32 → Int32 → AH → Option (Int32 × AH)) (r0 : Nat) (i3 : Int32) (i4 : Int32) (i5 : Int32) (i6 : Int32) (i7 : Int32) (h : AH) : Option (Int32 × AH) :=
  k139 r0 i3 i4 i5 i6 (i7 + 1) h
set_option maxRecDepth 100000 in
set_option maxHeartbeats 4000000 in
theorem l_X15_round_182 {X : MX} {l : Launch} {G : GX} {h0 : AH} {rr : Int32} {hr : AH} (C : Cx X G RX15 cX15_round 8 (some .int) 3 87 h0) (C2 : Cy X l "round" []) {k49 : Nat → Int32 → Int32 → Int32 → Int32 → AH → Option (Int32 × AH)} (hk49 : ∀ (r0 : Nat) (i2 : Int32) (i3 : Int32) (i4 : Int32) (i5 : Int32) (h : AH), k49 r0 i2 i3 i4 i5 h = some (rr, hr) → V X G h0 (QI rr hr) 49 [(0, .ref r0), (2, .int i2), (3, .int i3), (4, .int i4), (5, .int i5)] [] h) {k139 : Nat → Int32 → Int32 → Int32 → Int32 → Int32 → AH → Option (Int32 × AH)} (hk139 : ∀ (r0 : Nat) (i3 : Int32) (i4 : Int32) (i5 : Int32) (i6 : Int32) (i7 : Int32) (h : AH), k139 r0 i3 i4 i5 i6 i7 h = some (rr, hr) → V X G h0 (QI rr hr) 139 [(0, .ref r0), (3, .int i3), (4, .int i4), (5, .int i5), (6, .int i6), (7, .int i7)] [] h) (r0 : Nat) (i3 : Int32) (i4 : Int32) (i5 : Int32) (i6 : Int32) (i7 : Int32) (h : AH) (hf : f_X15_round_182 k49 k139 r0 i3 i4 i5 i6 i7 h = some (rr, hr)) : V X G h0 (QI rr hr) 182 [(0, .ref r0), (3, .int i3), (4, .int i4), (5, .int i5), (6, .int i6), (7, .int i7)] [] h := by
  unfold f_X15_round_182 at hf
  refine C.seg (pe := 185) (lv' := [(7, .int (i7 + 1)), (0, .ref r0), (3, .int i3), (4, .int i4), (5, .int i5), (6, .int i6)]) (st' := []) [(.iinc 7 1, 3, 1)] (by decide +kernel) rfl ?_
  refine C.goto (off := (-46)) (tgt := 139) (by decide +kernel) (by decide) ?_
  refine Vsub [1, 2, 3, 4, 5, 0] rfl ?_
  exact hk139 r0 i3 i4 i5 i6 (i7 + 1) h hf
def f_X15_round_139 (k49 : Nat → Int32 → Int32 → Int32 → Int32 → AH → Option (Int32 × AH)) : Nat → Nat → Int32 → Int32 → Int32 → Int32 → Int32 → AH → Option (Int32 × AH)
  | 0, _, _, _, _, _, _, _ => none
  | n + 1, r0, i3, i4, i5, i6, i7, h =>
    (gI 15 h r0 95).bind fun x1 =>
    if x1 ≤ i7 then
      b2 (f_X15_nextWall r0 i5 h) fun x2 h3 =>
      k49 r0 i5 i3 (i4 + i6) x2 h3
    else
      (gA 15 h r0 96).bind fun a4 =>
      (aI 0 h a4 i7).bind fun x5 =>
      if x5 = i5 then
        (gA 15 h r0 98).bind fun a6 =>
        (aI 0 h a6 i7).bind fun x7 =>
        if x7 = (-1) then
          (gA 15 h r0 98).bind fun a8 =>
          (gI 15 h r0 5).bind fun x9 =>
          (sI 0 h a8 i7 x9).bind fun h10 =>
          f_X15_round_182 k49 (f_X15_round_139 k49 n) r0 i3 i4 i5 i6 i7 h10
        else
          f_X15_round_182 k49 (f_X15_round_139 k49 n) r0 i3 i4 i5 i6 i7 h
      else
        f_X15_round_182 k49 (f_X15_round_139 k49 n) r0 i3 i4 i5 i6 i7 h
set_option maxRecDepth 100000 in
set_option maxHeartbeats 4000000 in
theorem l_X15_round_139 {X : MX} {l : Launch} {G : GX} {h0 : AH} {rr : Int32} {hr : AH} (C : Cx X G RX15 cX15_round 8 (some .int) 3 87 h0) (C2 : Cy X l "round" []) {k49 : Nat → Int32 → Int32 → Int32 → Int32 → AH → Option (Int32 × AH)} (hk49 : ∀ (r0 : Nat) (i2 : Int32) (i3 : Int32) (i4 : Int32) (i5 : Int32) (h : AH), k49 r0 i2 i3 i4 i5 h = some (rr, hr) → V X G h0 (QI rr hr) 49 [(0, .ref r0), (2, .int i2), (3, .int i3), (4, .int i4), (5, .int i5)] [] h) : ∀ (n : Nat) (r0 : Nat) (i3 : Int32) (i4 : Int32) (i5 : Int32) (i6 : Int32) (i7 : Int32) (h : AH), f_X15_round_139 k49 n r0 i3 i4 i5 i6 i7 h = some (rr, hr) → V X G h0 (QI rr hr) 139 [(0, .ref r0), (3, .int i3), (4, .int i4), (5, .int i5), (6, .int i6), (7, .int i7)] [] h := by
  intro n
  induction n with
  | zero => intro r0 i3 i4 i5 i6 i7 h hf; rw [f_X15_round_139] at hf; cases hf
  | succ n ih =>
    intro r0 i3 i4 i5 i6 i7 h hf
    rw [f_X15_round_139] at hf
    refine C.seg (pe := 142) (lv' := [(0, .ref r0), (3, .int i3), (4, .int i4), (5, .int i5), (6, .int i6), (7, .int i7)]) (st' := [.ref r0, .int i7]) [(.iload 7, 2, 0), (.aload_n 0, 1, 0)] (by decide +kernel) rfl ?_
    obtain ⟨x1, gx1, hf⟩ := Option.bind_eq_some_iff.mp hf
    refine C.rdI fr_1881 gx1 (by decide +kernel) rfl ?_
    refine C.icmp_ge (off := 43) (tgt := 188) (pf := 148) (by decide +kernel) (by decide) rfl (fun c13 => ?_) (fun c13 => ?_)
    · replace hf := ifp c13 hf
      refine C.seg (pe := 200) (lv' := [(2, .int i5), (4, .int (i4 + i6)), (0, .ref r0), (3, .int i3), (5, .int i5), (6, .int i6), (7, .int i7)]) (st' := [.int i5, .ref r0]) [(.iload 4, 2, 0), (.iload 6, 2, 0), (.iadd, 1, 0), (.istore 4, 2, 0), (.iload 5, 2, 0), (.istore_n 2, 1, 0), (.aload_n 0, 1, 0), (.iload_n 2, 1, 0)] (by decide +kernel) rfl ?_
      obtain ⟨x2, h3, gx2, hf⟩ := b2_some hf
      refine C.callVr C2 [.int i5] [] mv_2506 rfl (o_X15_nextWall gx2) (w_X15_nextWall gx2) (by omega) (by omega) (Nat.le_of_ble_eq_true rfl) (by decide +kernel) rfl ?_
      refine C.seg (pe := 205) (lv' := [(5, .int x2), (2, .int i5), (4, .int (i4 + i6)), (0, .ref r0), (3, .int i3), (6, .int i6), (7, .int i7)]) (st' := []) [(.istore 5, 2, 0)] (by decide +kernel) rfl ?_
      refine C.goto (off := (-156)) (tgt := 49) (by decide +kernel) (by decide) ?_
      refine Vsub [3, 1, 4, 2, 0] rfl ?_
      exact hk49 r0 i5 i3 (i4 + i6) x2 h3 hf
    · replace hf := ifn c13 hf
      refine C.seg (pe := 149) (lv' := [(0, .ref r0), (3, .int i3), (4, .int i4), (5, .int i5), (6, .int i6), (7, .int i7)]) (st' := [.ref r0]) [(.aload_n 0, 1, 0)] (by decide +kernel) rfl ?_
      obtain ⟨a4, ga4, hf⟩ := Option.bind_eq_some_iff.mp hf
      refine C.rdA fr_1882 ga4 (by decide +kernel) rfl ?_
      refine C.seg (pe := 154) (lv' := [(0, .ref r0), (3, .int i3), (4, .int i4), (5, .int i5), (6, .int i6), (7, .int i7)]) (st' := [.int i7, .ref a4]) [(.iload 7, 2, 0)] (by decide +kernel) rfl ?_
      obtain ⟨x5, gx5, hf⟩ := Option.bind_eq_some_iff.mp hf
      refine C.ald 0 rfl gx5 (by decide +kernel) rfl ?_
      refine C.seg (pe := 157) (lv' := [(0, .ref r0), (3, .int i3), (4, .int i4), (5, .int i5), (6, .int i6), (7, .int i7)]) (st' := [.int i5, .int x5]) [(.iload 5, 2, 0)] (by decide +kernel) rfl ?_
      refine C.icmp_ne (off := 25) (tgt := 182) (pf := 160) (by decide +kernel) (by decide) rfl (fun c12 => ?_) (fun c12 => ?_)
      · replace hf := ifn c12 hf
        exact l_X15_round_182 C C2 hk49 ih r0 i3 i4 i5 i6 i7 h hf
      · replace hf := ifp c12 hf
        refine C.seg (pe := 161) (lv' := [(0, .ref r0), (3, .int i3), (4, .int i4), (5, .int i5), (6, .int i6), (7, .int i7)]) (st' := [.ref r0]) [(.aload_n 0, 1, 0)] (by decide +kernel) rfl ?_
        obtain ⟨a6, ga6, hf⟩ := Option.bind_eq_some_iff.mp hf
        refine C.rdA fr_1884 ga6 (by decide +kernel) rfl ?_
        refine C.seg (pe := 166) (lv' := [(0, .ref r0), (3, .int i3), (4, .int i4), (5, .int i5), (6, .int i6), (7, .int i7)]) (st' := [.int i7, .ref a6]) [(.iload 7, 2, 0)] (by decide +kernel) rfl ?_
        obtain ⟨x7, gx7, hf⟩ := Option.bind_eq_some_iff.mp hf
        refine C.ald 0 rfl gx7 (by decide +kernel) rfl ?_
        refine C.seg (pe := 168) (lv' := [(0, .ref r0), (3, .int i3), (4, .int i4), (5, .int i5), (6, .int i6), (7, .int i7)]) (st' := [.int (-1), .int x7]) [(.iconst (-1), 1, (-1))] (by decide +kernel) rfl ?_
        refine C.icmp_ne (off := 14) (tgt := 182) (pf := 171) (by decide +kernel) (by decide) rfl (fun c11 => ?_) (fun c11 => ?_)
        · replace hf := ifn c11 hf
          exact l_X15_round_182 C C2 hk49 ih r0 i3 i4 i5 i6 i7 h hf
        · replace hf := ifp c11 hf
          refine C.seg (pe := 172) (lv' := [(0, .ref r0), (3, .int i3), (4, .int i4), (5, .int i5), (6, .int i6), (7, .int i7)]) (st' := [.ref r0]) [(.aload_n 0, 1, 0)] (by decide +kernel) rfl ?_
          obtain ⟨a8, ga8, hf⟩ := Option.bind_eq_some_iff.mp hf
          refine C.rdA fr_1884 ga8 (by decide +kernel) rfl ?_
          refine C.seg (pe := 178) (lv' := [(0, .ref r0), (3, .int i3), (4, .int i4), (5, .int i5), (6, .int i6), (7, .int i7)]) (st' := [.ref r0, .int i7, .ref a8]) [(.iload 7, 2, 0), (.aload_n 0, 1, 0)] (by decide +kernel) rfl ?_
          obtain ⟨x9, gx9, hf⟩ := Option.bind_eq_some_iff.mp hf
          refine C.rdI fr_1791 gx9 (by decide +kernel) rfl ?_
          obtain ⟨h10, gh10, hf⟩ := Option.bind_eq_some_iff.mp hf
          refine C.ast gh10 (by decide +kernel) rfl ?_
          exact l_X15_round_182 C C2 hk49 ih r0 i3 i4 i5 i6 i7 h10 hf
def f_X15_round_100 (k49 : Nat → Int32 → Int32 → Int32 → Int32 → AH → Option (Int32 × AH)) (k61 : Nat → Int32 → Int32 → Int32 → Int32 → Int32 → Int32 → AH → Option (Int32 × AH)) (r0 : Nat) (i2 : Int32) (i3 : Int32) (i4 : Int32) (i5 : Int32) (i7 : Int32) (si0 : Int32) (si1 : Int32) (h : AH) : Option (Int32 × AH) :=
  k61 r0 i2 i3 i4 i5 (si1 + si0) (i7 + 1) h
set_option maxRecDepth 100000 in
set_option maxHeartbeats 4000000 in
theorem l_X15_round_100 {X : MX} {l : Launch} {G : GX} {h0 : AH} {rr : Int32} {hr : AH} (C : Cx X G RX15 cX15_round 8 (some .int) 3 87 h0) (C2 : Cy X l "round" []) {k49 : Nat → Int32 → Int32 → Int32 → Int32 → AH → Option (Int32 × AH)} (hk49 : ∀ (r0 : Nat) (i2 : Int32) (i3 : Int32) (i4 : Int32) (i5 : Int32) (h : AH), k49 r0 i2 i3 i4 i5 h = some (rr, hr) → V X G h0 (QI rr hr) 49 [(0, .ref r0), (2, .int i2), (3, .int i3), (4, .int i4), (5, .int i5)] [] h) {k61 : Nat → Int32 → Int32 → Int32 → Int32 → Int32 → Int32 → AH → Option (Int32 × AH)} (hk61 : ∀ (r0 : Nat) (i2 : Int32) (i3 : Int32) (i4 : Int32) (i5 : Int32) (i6 : Int32) (i7 : Int32) (h : AH), k61 r0 i2 i3 i4 i5 i6 i7 h = some (rr, hr) → V X G h0 (QI rr hr) 61 [(0, .ref r0), (2, .int i2), (3, .int i3), (4, .int i4), (5, .int i5), (6, .int i6), (7, .int i7)] [] h) (r0 : Nat) (i2 : Int32) (i3 : Int32) (i4 : Int32) (i5 : Int32) (i7 : Int32) (si0 : Int32) (si1 : Int32) (h : AH) (hf : f_X15_round_100 k49 k61 r0 i2 i3 i4 i5 i7 si0 si1 h = some (rr, hr)) : V X G h0 (QI rr hr) 100 [(0, .ref r0), (2, .int i2), (3, .int i3), (4, .int i4), (5, .int i5), (7, .int i7)] [.int si0, .int si1] h := by
  unfold f_X15_round_100 at hf
  refine C.seg (pe := 106) (lv' := [(7, .int (i7 + 1)), (6, .int (si1 + si0)), (0, .ref r0), (2, .int i2), (3, .int i3), (4, .int i4), (5, .int i5)]) (st' := []) [(.iadd, 1, 0), (.istore 6, 2, 0), (.iinc 7 1, 3, 1)] (by decide +kernel) rfl ?_
  refine C.goto (off := (-45)) (tgt := 61) (by decide +kernel) (by decide) ?_
  refine Vsub [2, 3, 4, 5, 6, 1, 0] rfl ?_
  exact hk61 r0 i2 i3 i4 i5 (si1 + si0) (i7 + 1) h hf
def f_X15_round_99 (k49 : Nat → Int32 → Int32 → Int32 → Int32 → AH → Option (Int32 × AH)) (k61 : Nat → Int32 → Int32 → Int32 → Int32 → Int32 → Int32 → AH → Option (Int32 × AH)) (r0 : Nat) (i2 : Int32) (i3 : Int32) (i4 : Int32) (i5 : Int32) (i7 : Int32) (si0 : Int32) (h : AH) : Option (Int32 × AH) :=
  f_X15_round_100 k49 k61 r0 i2 i3 i4 i5 i7 0 si0 h
set_option maxRecDepth 100000 in
set_option maxHeartbeats 4000000 in
theorem l_X15_round_99 {X : MX} {l : Launch} {G : GX} {h0 : AH} {rr : Int32} {hr : AH} (C : Cx X G RX15 cX15_round 8 (some .int) 3 87 h0) (C2 : Cy X l "round" []) {k49 : Nat → Int32 → Int32 → Int32 → Int32 → AH → Option (Int32 × AH)} (hk49 : ∀ (r0 : Nat) (i2 : Int32) (i3 : Int32) (i4 : Int32) (i5 : Int32) (h : AH), k49 r0 i2 i3 i4 i5 h = some (rr, hr) → V X G h0 (QI rr hr) 49 [(0, .ref r0), (2, .int i2), (3, .int i3), (4, .int i4), (5, .int i5)] [] h) {k61 : Nat → Int32 → Int32 → Int32 → Int32 → Int32 → Int32 → AH → Option (Int32 × AH)} (hk61 : ∀ (r0 : Nat) (i2 : Int32) (i3 : Int32) (i4 : Int32) (i5 : Int32) (i6 : Int32) (i7 : Int32) (h : AH), k61 r0 i2 i3 i4 i5 i6 i7 h = some (rr, hr) → V X G h0 (QI rr hr) 61 [(0, .ref r0), (2, .int i2), (3, .int i3), (4, .int i4), (5, .int i5), (6, .int i6), (7, .int i7)] [] h) (r0 : Nat) (i2 : Int32) (i3 : Int32) (i4 : Int32) (i5 : Int32) (i7 : Int32) (si0 : Int32) (h : AH) (hf : f_X15_round_99 k49 k61 r0 i2 i3 i4 i5 i7 si0 h = some (rr, hr)) : V X G h0 (QI rr hr) 99 [(0, .ref r0), (2, .int i2), (3, .int i3), (4, .int i4), (5, .int i5), (7, .int i7)] [.int si0] h := by
  unfold f_X15_round_99 at hf
  refine C.seg (pe := 100) (lv' := [(0, .ref r0), (2, .int i2), (3, .int i3), (4, .int i4), (5, .int i5), (7, .int i7)]) (st' := [.int 0, .int si0]) [(.iconst 0, 1, 0)] (by decide +kernel) rfl ?_
  exact l_X15_round_100 C C2 hk49 hk61 r0 i2 i3 i4 i5 i7 0 si0 h hf
def f_X15_round_61 (k49 : Nat → Int32 → Int32 → Int32 → Int32 → AH → Option (Int32 × AH)) : Nat → Nat → Int32 → Int32 → Int32 → Int32 → Int32 → Int32 → AH → Option (Int32 × AH)
  | 0, _, _, _, _, _, _, _, _ => none
  | n + 1, r0, i2, i3, i4, i5, i6, i7, h =>
    (gI 15 h r0 95).bind fun x1 =>
    if x1 ≤ i7 then
      b2 (f_X15_apart r0 i2 i5 h) fun x2 h3 =>
      lt (i3 - (x2 + (10 * i6)) : Int32) fun x4 =>
      if 0 ≤ x4 then
        f_X15_round_139 k49 FU r0 x4 i4 i5 i6 0 h3
      else
        b2 (f_X15_done r0 i4 h3) fun x5 h6 =>
        some (x5, h6)
    else
      (gA 15 h r0 96).bind fun a8 =>
      (aI 0 h a8 i7).bind fun x9 =>
      if x9 = i5 then
        (gA 15 h r0 98).bind fun a10 =>
        (aI 0 h a10 i7).bind fun x11 =>
        if x11 = (-1) then
          f_X15_round_100 k49 (f_X15_round_61 k49 n) r0 i2 i3 i4 i5 i7 1 i6 h
        else
          f_X15_round_99 k49 (f_X15_round_61 k49 n) r0 i2 i3 i4 i5 i7 i6 h
      else
        f_X15_round_99 k49 (f_X15_round_61 k49 n) r0 i2 i3 i4 i5 i7 i6 h
set_option maxRecDepth 100000 in
set_option maxHeartbeats 4000000 in
theorem l_X15_round_61 {X : MX} {l : Launch} {G : GX} {h0 : AH} {rr : Int32} {hr : AH} (C : Cx X G RX15 cX15_round 8 (some .int) 3 87 h0) (C2 : Cy X l "round" []) {k49 : Nat → Int32 → Int32 → Int32 → Int32 → AH → Option (Int32 × AH)} (hk49 : ∀ (r0 : Nat) (i2 : Int32) (i3 : Int32) (i4 : Int32) (i5 : Int32) (h : AH), k49 r0 i2 i3 i4 i5 h = some (rr, hr) → V X G h0 (QI rr hr) 49 [(0, .ref r0), (2, .int i2), (3, .int i3), (4, .int i4), (5, .int i5)] [] h) : ∀ (n : Nat) (r0 : Nat) (i2 : Int32) (i3 : Int32) (i4 : Int32) (i5 : Int32) (i6 : Int32) (i7 : Int32) (h : AH), f_X15_round_61 k49 n r0 i2 i3 i4 i5 i6 i7 h = some (rr, hr) → V X G h0 (QI rr hr) 61 [(0, .ref r0), (2, .int i2), (3, .int i3), (4, .int i4), (5, .int i5), (6, .int i6), (7, .int i7)] [] h := by
  intro n
  induction n with
  | zero => intro r0 i2 i3 i4 i5 i6 i7 h hf; rw [f_X15_round_61] at hf; cases hf
  | succ n ih =>
    intro r0 i2 i3 i4 i5 i6 i7 h hf
    rw [f_X15_round_61] at hf
    refine C.seg (pe := 64) (lv' := [(0, .ref r0), (2, .int i2), (3, .int i3), (4, .int i4), (5, .int i5), (6, .int i6), (7, .int i7)]) (st' := [.ref r0, .int i7]) [(.iload 7, 2, 0), (.aload_n 0, 1, 0)] (by decide +kernel) rfl ?_
    obtain ⟨x1, gx1, hf⟩ := Option.bind_eq_some_iff.mp hf
    refine C.rdI fr_1881 gx1 (by decide +kernel) rfl ?_
    refine C.icmp_ge (off := 42) (tgt := 109) (pf := 70) (by decide +kernel) (by decide) rfl (fun c14 => ?_) (fun c14 => ?_)
    · replace hf := ifp c14 hf
      refine C.seg (pe := 114) (lv' := [(0, .ref r0), (2, .int i2), (3, .int i3), (4, .int i4), (5, .int i5), (6, .int i6), (7, .int i7)]) (st' := [.int i5, .int i2, .ref r0, .int i3]) [(.iload_n 3, 1, 0), (.aload_n 0, 1, 0), (.iload_n 2, 1, 0), (.iload 5, 2, 0)] (by decide +kernel) rfl ?_
      obtain ⟨x2, h3, gx2, hf⟩ := b2_some hf
      refine C.callVr C2 [.int i2, .int i5] [.int i3] mv_2514 rfl (o_X15_apart gx2) (w_X15_apart gx2) (by omega) (by omega) (Nat.le_of_ble_eq_true rfl) (by decide +kernel) rfl ?_
      refine C.seg (pe := 124) (lv' := [(0, .ref r0), (2, .int i2), (3, .int i3), (4, .int i4), (5, .int i5), (6, .int i6), (7, .int i7)]) (st' := [.int (i3 - (x2 + (10 * i6)))]) [(.bipush 10, 2, 10), (.iload 6, 2, 0), (.imul, 1, 0), (.iadd, 1, 0), (.isub, 1, 0)] (by decide +kernel) rfl ?_
      refine Vtopi (fun x4 ex4 => ?_)
      replace hf := lt_ap ex4 hf
      clear ex4
      refine C.seg (pe := 126) (lv' := [(3, .int x4), (0, .ref r0), (2, .int i2), (4, .int i4), (5, .int i5), (6, .int i6), (7, .int i7)]) (st' := [.int x4]) [(.istore_n 3, 1, 0), (.iload_n 3, 1, 0)] (by decide +kernel) rfl ?_
      refine C.if_ge (off := 10) (tgt := 136) (pf := 129) (by decide +kernel) (by decide) rfl (fun c7 => ?_) (fun c7 => ?_)
      · replace hf := ifp c7 hf
        refine C.seg (pe := 139) (lv' := [(7, .int 0), (3, .int x4), (0, .ref r0), (2, .int i2), (4, .int i4), (5, .int i5), (6, .int i6)]) (st' := []) [(.iconst 0, 1, 0), (.istore 7, 2, 0)] (by decide +kernel) rfl ?_
        refine Vsub [2, 1, 4, 5, 6, 0] rfl ?_
        exact l_X15_round_139 C C2 hk49 FU r0 x4 i4 i5 i6 0 h3 hf
      · replace hf := ifn c7 hf
        refine C.seg (pe := 132) (lv' := [(3, .int x4), (0, .ref r0), (2, .int i2), (4, .int i4), (5, .int i5), (6, .int i6), (7, .int i7)]) (st' := [.int i4, .ref r0]) [(.aload_n 0, 1, 0), (.iload 4, 2, 0)] (by decide +kernel) rfl ?_
        obtain ⟨x5, h6, gx5, hf⟩ := b2_some hf
        refine C.callVr C2 [.int i4] [] mv_2116 rfl (o_X15_done gx5) (w_X15_done gx5) (by omega) (by omega) (Nat.le_of_ble_eq_true rfl) (by decide +kernel) rfl ?_
        cases hf
        exact C.retI rfl (by decide +kernel) ⟨rfl, rfl⟩
    · replace hf := ifn c14 hf
      refine C.seg (pe := 73) (lv' := [(0, .ref r0), (2, .int i2), (3, .int i3), (4, .int i4), (5, .int i5), (6, .int i6), (7, .int i7)]) (st' := [.ref r0, .int i6]) [(.iload 6, 2, 0), (.aload_n 0, 1, 0)] (by decide +kernel) rfl ?_
      obtain ⟨a8, ga8, hf⟩ := Option.bind_eq_some_iff.mp hf
      refine C.rdA fr_1882 ga8 (by decide +kernel) rfl ?_
      refine C.seg (pe := 78) (lv' := [(0, .ref r0), (2, .int i2), (3, .int i3), (4, .int i4), (5, .int i5), (6, .int i6), (7, .int i7)]) (st' := [.int i7, .ref a8, .int i6]) [(.iload 7, 2, 0)] (by decide +kernel) rfl ?_
      obtain ⟨x9, gx9, hf⟩ := Option.bind_eq_some_iff.mp hf
      refine C.ald 0 rfl gx9 (by decide +kernel) rfl ?_
      refine C.seg (pe := 81) (lv' := [(0, .ref r0), (2, .int i2), (3, .int i3), (4, .int i4), (5, .int i5), (6, .int i6), (7, .int i7)]) (st' := [.int i5, .int x9, .int i6]) [(.iload 5, 2, 0)] (by decide +kernel) rfl ?_
      refine C.icmp_ne (off := 18) (tgt := 99) (pf := 84) (by decide +kernel) (by decide) rfl (fun c13 => ?_) (fun c13 => ?_)
      · replace hf := ifn c13 hf
        refine Vsub [0, 1, 2, 3, 4, 6] rfl ?_
        exact l_X15_round_99 C C2 hk49 ih r0 i2 i3 i4 i5 i7 i6 h hf
      · replace hf := ifp c13 hf
        refine C.seg (pe := 85) (lv' := [(0, .ref r0), (2, .int i2), (3, .int i3), (4, .int i4), (5, .int i5), (6, .int i6), (7, .int i7)]) (st' := [.ref r0, .int i6]) [(.aload_n 0, 1, 0)] (by decide +kernel) rfl ?_
        obtain ⟨a10, ga10, hf⟩ := Option.bind_eq_some_iff.mp hf
        refine C.rdA fr_1884 ga10 (by decide +kernel) rfl ?_
        refine C.seg (pe := 90) (lv' := [(0, .ref r0), (2, .int i2), (3, .int i3), (4, .int i4), (5, .int i5), (6, .int i6), (7, .int i7)]) (st' := [.int i7, .ref a10, .int i6]) [(.iload 7, 2, 0)] (by decide +kernel) rfl ?_
        obtain ⟨x11, gx11, hf⟩ := Option.bind_eq_some_iff.mp hf
        refine C.ald 0 rfl gx11 (by decide +kernel) rfl ?_
        refine C.seg (pe := 92) (lv' := [(0, .ref r0), (2, .int i2), (3, .int i3), (4, .int i4), (5, .int i5), (6, .int i6), (7, .int i7)]) (st' := [.int (-1), .int x11, .int i6]) [(.iconst (-1), 1, (-1))] (by decide +kernel) rfl ?_
        refine C.icmp_ne (off := 7) (tgt := 99) (pf := 95) (by decide +kernel) (by decide) rfl (fun c12 => ?_) (fun c12 => ?_)
        · replace hf := ifn c12 hf
          refine Vsub [0, 1, 2, 3, 4, 6] rfl ?_
          exact l_X15_round_99 C C2 hk49 ih r0 i2 i3 i4 i5 i7 i6 h hf
        · replace hf := ifp c12 hf
          refine C.seg (pe := 96) (lv' := [(0, .ref r0), (2, .int i2), (3, .int i3), (4, .int i4), (5, .int i5), (6, .int i6), (7, .int i7)]) (st' := [.int 1, .int i6]) [(.iconst 1, 1, 1)] (by decide +kernel) rfl ?_
          refine C.goto (off := 4) (tgt := 100) (by decide +kernel) (by decide) ?_
          refine Vsub [0, 1, 2, 3, 4, 6] rfl ?_
          exact l_X15_round_100 C C2 hk49 ih r0 i2 i3 i4 i5 i7 1 i6 h hf
def f_X15_round_49 : Nat → Nat → Int32 → Int32 → Int32 → Int32 → AH → Option (Int32 × AH)
  | 0, _, _, _, _, _, _ => none
  | n + 1, r0, i2, i3, i4, i5, h =>
    if i5 = (-1) then
      b2 (f_X15_done r0 i4 h) fun x1 h2 =>
      some (x1, h2)
    else
      f_X15_round_61 (f_X15_round_49 n) FU r0 i2 i3 i4 i5 0 0 h
set_option maxRecDepth 100000 in
set_option maxHeartbeats 4000000 in
theorem l_X15_round_49 {X : MX} {l : Launch} {G : GX} {h0 : AH} {rr : Int32} {hr : AH} (C : Cx X G RX15 cX15_round 8 (some .int) 3 87 h0) (C2 : Cy X l "round" []) : ∀ (n : Nat) (r0 : Nat) (i2 : Int32) (i3 : Int32) (i4 : Int32) (i5 : Int32) (h : AH), f_X15_round_49 n r0 i2 i3 i4 i5 h = some (rr, hr) → V X G h0 (QI rr hr) 49 [(0, .ref r0), (2, .int i2), (3, .int i3), (4, .int i4), (5, .int i5)] [] h := by
  intro n
  induction n with
  | zero => intro r0 i2 i3 i4 i5 h hf; rw [f_X15_round_49] at hf; cases hf
  | succ n ih =>
    intro r0 i2 i3 i4 i5 h hf
    rw [f_X15_round_49] at hf
    refine C.seg (pe := 52) (lv' := [(0, .ref r0), (2, .int i2), (3, .int i3), (4, .int i4), (5, .int i5)]) (st' := [.int (-1), .int i5]) [(.iload 5, 2, 0), (.iconst (-1), 1, (-1))] (by decide +kernel) rfl ?_
    refine C.icmp_eq (off := 156) (tgt := 208) (pf := 55) (by decide +kernel) (by decide) rfl (fun c3 => ?_) (fun c3 => ?_)
    · replace hf := ifp c3 hf
      refine C.seg (pe := 211) (lv' := [(0, .ref r0), (2, .int i2), (3, .int i3), (4, .int i4), (5, .int i5)]) (st' := [.int i4, .ref r0]) [(.aload_n 0, 1, 0), (.iload 4, 2, 0)] (by decide +kernel) rfl ?_
      obtain ⟨x1, h2, gx1, hf⟩ := b2_some hf
      refine C.callVr C2 [.int i4] [] mv_2116 rfl (o_X15_done gx1) (w_X15_done gx1) (by omega) (by omega) (Nat.le_of_ble_eq_true rfl) (by decide +kernel) rfl ?_
      cases hf
      exact C.retI rfl (by decide +kernel) ⟨rfl, rfl⟩
    · replace hf := ifn c3 hf
      refine C.seg (pe := 61) (lv' := [(7, .int 0), (6, .int 0), (0, .ref r0), (2, .int i2), (3, .int i3), (4, .int i4), (5, .int i5)]) (st' := []) [(.iconst 0, 1, 0), (.istore 6, 2, 0), (.iconst 0, 1, 0), (.istore 7, 2, 0)] (by decide +kernel) rfl ?_
      refine Vsub [2, 3, 4, 5, 6, 1, 0] rfl ?_
      exact l_X15_round_61 C C2 ih FU r0 i2 i3 i4 i5 0 0 h hf
def f_X15_round (a0 : Nat) (p1 : Int32) (h : AH) : Option (Int32 × AH) :=
  if isO 15 h a0 = true then
    (pI 15 h a0 0 0).bind fun h1 =>
    b2 (f_X15_in p1 0 600 h1) fun x2 h3 =>
    if x2 = 0 then
      b2 (f_X15_refused a0 2 h3) fun x10 h11 =>
      some (x10, h11)
    else
      (gI 15 h3 a0 4).bind fun x4 =>
      if x4 = 0 then
        b2 (f_X15_refused a0 1 h3) fun x7 h8 =>
        some (x7, h8)
      else
        b2 (f_X15_nextWall a0 0 h3) fun x5 h6 =>
        f_X15_round_49 FU a0 0 p1 0 x5 h6
  else none
set_option maxRecDepth 100000 in
set_option maxHeartbeats 4000000 in
theorem w_X15_round {l : Launch} {G : GX} {a0 : Nat} {p1 : Int32} {h : AH} {rr : Int32} {hr : AH} (hf : f_X15_round a0 p1 h = some (rr, hr)) : Ct l G yX15_round 3 87 [.ref a0, .int p1] h (QI rr hr) := by
  unfold f_X15_round at hf
  obtain ⟨ho, hf⟩ := ifO hf
  refine Ct_of (own := RX15) (cc := cX15_round) (nL := 8) (ret := (some .int)) rfl rfl k_2505 (Nat.le_of_ble_eq_true rfl) (fun X C2 C => ?_)
  show V X G h (QI rr hr) 0 [(0, .ref a0), (1, .int p1)] [] h
  refine C.seg (pe := 2) (lv' := [(0, .ref a0), (1, .int p1)]) (st' := [.int 0, .ref a0]) [(.aload_n 0, 1, 0), (.iconst 0, 1, 0)] (by decide +kernel) rfl ?_
  obtain ⟨h1, gh1, hf⟩ := Option.bind_eq_some_iff.mp hf
  refine C.putI fl_1786 gh1 (by decide +kernel) rfl ?_
  refine C.seg (pe := 10) (lv' := [(0, .ref a0), (1, .int p1)]) (st' := [.int 600, .int 0, .int p1]) [(.iload_n 1, 1, 0), (.iconst 0, 1, 0), (.sipush 600, 3, 600)] (by decide +kernel) rfl ?_
  obtain ⟨x2, h3, gx2, hf⟩ := b2_some hf
  refine C.callSr C2 [.int p1, .int 0, .int 600] [] ms_2109 rfl (w_X15_in gx2) (by omega) (by omega) (Nat.le_of_ble_eq_true rfl) (by decide +kernel) rfl ?_
  refine C.if_ne (off := 9) (tgt := 22) (pf := 16) (by decide +kernel) (by decide) rfl (fun c12 => ?_) (fun c12 => ?_)
  · replace hf := ifn c12 hf
    refine C.seg (pe := 23) (lv' := [(0, .ref a0), (1, .int p1)]) (st' := [.ref a0]) [(.aload_n 0, 1, 0)] (by decide +kernel) rfl ?_
    obtain ⟨x4, gx4, hf⟩ := Option.bind_eq_some_iff.mp hf
    refine C.rdI fr_1790 gx4 (by decide +kernel) rfl ?_
    refine C.if_ne (off := 9) (tgt := 35) (pf := 29) (by decide +kernel) (by decide) rfl (fun c9 => ?_) (fun c9 => ?_)
    · replace hf := ifn c9 hf
      refine C.seg (pe := 44) (lv' := [(4, .int 0), (3, .int p1), (2, .int 0), (0, .ref a0), (1, .int p1)]) (st' := [.int 0, .ref a0]) [(.iconst 0, 1, 0), (.istore_n 2, 1, 0), (.iload_n 1, 1, 0), (.istore_n 3, 1, 0), (.iconst 0, 1, 0), (.istore 4, 2, 0), (.aload_n 0, 1, 0), (.iload_n 2, 1, 0)] (by decide +kernel) rfl ?_
      obtain ⟨x5, h6, gx5, hf⟩ := b2_some hf
      refine C.callVr C2 [.int 0] [] mv_2506 rfl (o_X15_nextWall gx5) (w_X15_nextWall gx5) (by omega) (by omega) (Nat.le_of_ble_eq_true rfl) (by decide +kernel) rfl ?_
      refine C.seg (pe := 49) (lv' := [(5, .int x5), (4, .int 0), (3, .int p1), (2, .int 0), (0, .ref a0), (1, .int p1)]) (st' := []) [(.istore 5, 2, 0)] (by decide +kernel) rfl ?_
      refine Vsub [4, 3, 2, 1, 0] rfl ?_
      exact l_X15_round_49 C C2 FU a0 0 p1 0 x5 h6 hf
    · replace hf := ifp c9 hf
      refine C.seg (pe := 31) (lv' := [(0, .ref a0), (1, .int p1)]) (st' := [.int 1, .ref a0]) [(.aload_n 0, 1, 0), (.iconst 1, 1, 1)] (by decide +kernel) rfl ?_
      obtain ⟨x7, h8, gx7, hf⟩ := b2_some hf
      refine C.callVr C2 [.int 1] [] mv_2112 rfl (o_X15_refused gx7) (w_X15_refused gx7) (by omega) (by omega) (Nat.le_of_ble_eq_true rfl) (by decide +kernel) rfl ?_
      cases hf
      exact C.retI rfl (by decide +kernel) ⟨rfl, rfl⟩
  · replace hf := ifp c12 hf
    refine C.seg (pe := 18) (lv' := [(0, .ref a0), (1, .int p1)]) (st' := [.int 2, .ref a0]) [(.aload_n 0, 1, 0), (.iconst 2, 1, 2)] (by decide +kernel) rfl ?_
    obtain ⟨x10, h11, gx10, hf⟩ := b2_some hf
    refine C.callVr C2 [.int 2] [] mv_2112 rfl (o_X15_refused gx10) (w_X15_refused gx10) (by omega) (by omega) (Nat.le_of_ble_eq_true rfl) (by decide +kernel) rfl ?_
    cases hf
    exact C.retI rfl (by decide +kernel) ⟨rfl, rfl⟩
theorem o_X15_round {a0 : Nat} {p1 : Int32} {h : AH} {rr : Int32} {hr : AH} (hf : f_X15_round a0 p1 h = some (rr, hr)) : isO 15 h a0 = true := by
  unfold f_X15_round at hf
  exact (ifO hf).1
/-! WallHouseModel.themes(II)Z -/
def f_X15_themes (a0 : Nat) (p1 : Int32) (p2 : Int32) (h : AH) : Option (Int32 × AH) :=
  if isO 15 h a0 = true then
    (pI 15 h a0 0 0).bind fun h1 =>
    b2 (f_X15_isWall a0 p1 h1) fun x2 h3 =>
    if x2 = 0 then
      b2 (f_X15_denied a0 1 h3) fun x15 h16 =>
      (ckZ x15).bind fun x17 =>
      some (x17, h16)
    else
      b2 (f_X15_in p2 0 1023 h3) fun x4 h5 =>
      if x4 = 0 then
        b2 (f_X15_denied a0 2 h5) fun x11 h12 =>
        (ckZ x11).bind fun x13 =>
        some (x13, h12)
      else
        (gA 15 h5 a0 12).bind fun a6 =>
        (sI 0 h5 a6 p1 p2).bind fun h7 =>
        b2 (f_X15_granted a0 h7) fun x8 h9 =>
        (ckZ x8).bind fun x10 =>
        some (x10, h9)
  else none
set_option maxRecDepth 100000 in
set_option maxHeartbeats 4000000 in
theorem w_X15_themes {l : Launch} {G : GX} {a0 : Nat} {p1 : Int32} {p2 : Int32} {h : AH} {rr : Int32} {hr : AH} (hf : f_X15_themes a0 p1 p2 h = some (rr, hr)) : Ct l G yX15_themes 1 22 [.ref a0, .int p1, .int p2] h (QI rr hr) := by
  unfold f_X15_themes at hf
  obtain ⟨ho, hf⟩ := ifO hf
  refine Ct_of (own := RX15) (cc := cX15_themes) (nL := 3) (ret := (some .boolean)) rfl rfl k_2521 (Nat.le_of_ble_eq_true rfl) (fun X C2 C => ?_)
  show V X G h (QI rr hr) 0 [(0, .ref a0), (1, .int p1), (2, .int p2)] [] h
  refine C.seg (pe := 2) (lv' := [(0, .ref a0), (1, .int p1), (2, .int p2)]) (st' := [.int 0, .ref a0]) [(.aload_n 0, 1, 0), (.iconst 0, 1, 0)] (by decide +kernel) rfl ?_
  obtain ⟨h1, gh1, hf⟩ := Option.bind_eq_some_iff.mp hf
  refine C.putI fl_1786 gh1 (by decide +kernel) rfl ?_
  refine C.seg (pe := 7) (lv' := [(0, .ref a0), (1, .int p1), (2, .int p2)]) (st' := [.int p1, .ref a0]) [(.aload_n 0, 1, 0), (.iload_n 1, 1, 0)] (by decide +kernel) rfl ?_
  obtain ⟨x2, h3, gx2, hf⟩ := b2_some hf
  refine C.callVr C2 [.int p1] [] mv_2124 rfl (o_X15_isWall gx2) (w_X15_isWall gx2) (by omega) (by omega) (Nat.le_of_ble_eq_true rfl) (by decide +kernel) rfl ?_
  refine C.if_ne (off := 9) (tgt := 19) (pf := 13) (by decide +kernel) (by decide) rfl (fun c18 => ?_) (fun c18 => ?_)
  · replace hf := ifn c18 hf
    refine C.seg (pe := 24) (lv' := [(0, .ref a0), (1, .int p1), (2, .int p2)]) (st' := [.int 1023, .int 0, .int p2]) [(.iload_n 2, 1, 0), (.iconst 0, 1, 0), (.sipush 1023, 3, 1023)] (by decide +kernel) rfl ?_
    obtain ⟨x4, h5, gx4, hf⟩ := b2_some hf
    refine C.callSr C2 [.int p2, .int 0, .int 1023] [] ms_2109 rfl (w_X15_in gx4) (by omega) (by omega) (Nat.le_of_ble_eq_true rfl) (by decide +kernel) rfl ?_
    refine C.if_ne (off := 9) (tgt := 36) (pf := 30) (by decide +kernel) (by decide) rfl (fun c14 => ?_) (fun c14 => ?_)
    · replace hf := ifn c14 hf
      refine C.seg (pe := 37) (lv' := [(0, .ref a0), (1, .int p1), (2, .int p2)]) (st' := [.ref a0]) [(.aload_n 0, 1, 0)] (by decide +kernel) rfl ?_
      obtain ⟨a6, ga6, hf⟩ := Option.bind_eq_some_iff.mp hf
      refine C.rdA fr_1798 ga6 (by decide +kernel) rfl ?_
      refine C.seg (pe := 42) (lv' := [(0, .ref a0), (1, .int p1), (2, .int p2)]) (st' := [.int p2, .int p1, .ref a6]) [(.iload_n 1, 1, 0), (.iload_n 2, 1, 0)] (by decide +kernel) rfl ?_
      obtain ⟨h7, gh7, hf⟩ := Option.bind_eq_some_iff.mp hf
      refine C.ast gh7 (by decide +kernel) rfl ?_
      refine C.seg (pe := 44) (lv' := [(0, .ref a0), (1, .int p1), (2, .int p2)]) (st' := [.ref a0]) [(.aload_n 0, 1, 0)] (by decide +kernel) rfl ?_
      obtain ⟨x8, h9, gx8, hf⟩ := b2_some hf
      refine C.callVr C2 [] [] mv_2156 rfl (o_X15_granted gx8) (w_X15_granted gx8) (by omega) (by omega) (Nat.le_of_ble_eq_true rfl) (by decide +kernel) rfl ?_
      obtain ⟨x10, gx10, hf⟩ := Option.bind_eq_some_iff.mp hf
      have ex10 := ckZ_eq gx10
      subst ex10
      cases hf
      exact C.retZ rfl gx10 (by decide +kernel) ⟨rfl, rfl⟩
    · replace hf := ifp c14 hf
      refine C.seg (pe := 32) (lv' := [(0, .ref a0), (1, .int p1), (2, .int p2)]) (st' := [.int 2, .ref a0]) [(.aload_n 0, 1, 0), (.iconst 2, 1, 2)] (by decide +kernel) rfl ?_
      obtain ⟨x11, h12, gx11, hf⟩ := b2_some hf
      refine C.callVr C2 [.int 2] [] mv_2152 rfl (o_X15_denied gx11) (w_X15_denied gx11) (by omega) (by omega) (Nat.le_of_ble_eq_true rfl) (by decide +kernel) rfl ?_
      obtain ⟨x13, gx13, hf⟩ := Option.bind_eq_some_iff.mp hf
      have ex13 := ckZ_eq gx13
      subst ex13
      cases hf
      exact C.retZ rfl gx13 (by decide +kernel) ⟨rfl, rfl⟩
  · replace hf := ifp c18 hf
    refine C.seg (pe := 15) (lv' := [(0, .ref a0), (1, .int p1), (2, .int p2)]) (st' := [.int 1, .ref a0]) [(.aload_n 0, 1, 0), (.iconst 1, 1, 1)] (by decide +kernel) rfl ?_
    obtain ⟨x15, h16, gx15, hf⟩ := b2_some hf
    refine C.callVr C2 [.int 1] [] mv_2152 rfl (o_X15_denied gx15) (w_X15_denied gx15) (by omega) (by omega) (Nat.le_of_ble_eq_true rfl) (by decide +kernel) rfl ?_
    obtain ⟨x17, gx17, hf⟩ := Option.bind_eq_some_iff.mp hf
    have ex17 := ckZ_eq gx17
    subst ex17
    cases hf
    exact C.retZ rfl gx17 (by decide +kernel) ⟨rfl, rfl⟩
theorem o_X15_themes {a0 : Nat} {p1 : Int32} {p2 : Int32} {h : AH} {rr : Int32} {hr : AH} (hf : f_X15_themes a0 p1 p2 h = some (rr, hr)) : isO 15 h a0 = true := by
  unfold f_X15_themes at hf
  exact (ifO hf).1
/-! WallHouseModel.trail(I)I -/
def f_X15_trail_415 : Nat → Nat → Int32 → Int32 → Int32 → AH → Option (Int32 × AH)
  | 0, _, _, _, _, _ => none
  | n + 1, r0, i3, i4, i5, h =>
    (gI 15 h r0 101).bind fun x1 =>
    if x1 ≤ i5 then
      b2 (f_X15_done r0 i4 h) fun x2 h3 =>
      some (x2, h3)
    else
      (gI 15 h r0 102).bind fun x4 =>
      (gA 15 h r0 99).bind fun a5 =>
      (aI 0 h a5 i5).bind fun x6 =>
      (pI 15 h r0 102 (x4 ||| (((i3 >>> (i5 &&& 31)) &&& 1) <<< (x6 &&& 31)))).bind fun h7 =>
      (f_X15_trail_415 n) r0 i3 i4 (i5 + 1) h7
set_option maxRecDepth 100000 in
set_option maxHeartbeats 4000000 in
theorem l_X15_trail_415 {X : MX} {l : Launch} {G : GX} {h0 : AH} {rr : Int32} {hr : AH} (C : Cx X G RX15 cX15_trail 12 (some .int) 1 40 h0) (C2 : Cy X l "trail" []) : ∀ (n : Nat) (r0 : Nat) (i3 : Int32) (i4 : Int32) (i5 : Int32) (h : AH), f_X15_trail_415 n r0 i3 i4 i5 h = some (rr, hr) → V X G h0 (QI rr hr) 415 [(0, .ref r0), (3, .int i3), (4, .int i4), (5, .int i5)] [] h := by
  intro n
  induction n with
  | zero => intro r0 i3 i4 i5 h hf; rw [f_X15_trail_415] at hf; cases hf
  | succ n ih =>
    intro r0 i3 i4 i5 h hf
    rw [f_X15_trail_415] at hf
    refine C.seg (pe := 418) (lv' := [(0, .ref r0), (3, .int i3), (4, .int i4), (5, .int i5)]) (st' := [.ref r0, .int i5]) [(.iload 5, 2, 0), (.aload_n 0, 1, 0)] (by decide +kernel) rfl ?_
    obtain ⟨x1, gx1, hf⟩ := Option.bind_eq_some_iff.mp hf
    refine C.rdI fr_1887 gx1 (by decide +kernel) rfl ?_
    refine C.icmp_ge (off := 32) (tgt := 453) (pf := 424) (by decide +kernel) (by decide) rfl (fun c8 => ?_) (fun c8 => ?_)
    · replace hf := ifp c8 hf
      refine C.seg (pe := 456) (lv' := [(0, .ref r0), (3, .int i3), (4, .int i4), (5, .int i5)]) (st' := [.int i4, .ref r0]) [(.aload_n 0, 1, 0), (.iload 4, 2, 0)] (by decide +kernel) rfl ?_
      obtain ⟨x2, h3, gx2, hf⟩ := b2_some hf
      refine C.callVr C2 [.int i4] [] mv_2116 rfl (o_X15_done gx2) (w_X15_done gx2) (by omega) (by omega) (Nat.le_of_ble_eq_true rfl) (by decide +kernel) rfl ?_
      cases hf
      exact C.retI rfl (by decide +kernel) ⟨rfl, rfl⟩
    · replace hf := ifn c8 hf
      refine C.seg (pe := 426) (lv' := [(0, .ref r0), (3, .int i3), (4, .int i4), (5, .int i5)]) (st' := [.ref r0, .ref r0]) [(.aload_n 0, 1, 0), (.dup, 1, 0)] (by decide +kernel) rfl ?_
      obtain ⟨x4, gx4, hf⟩ := Option.bind_eq_some_iff.mp hf
      refine C.rdI fr_1888 gx4 (by decide +kernel) rfl ?_
      refine C.seg (pe := 436) (lv' := [(0, .ref r0), (3, .int i3), (4, .int i4), (5, .int i5)]) (st' := [.ref r0, .int ((i3 >>> (i5 &&& 31)) &&& 1), .int x4, .ref r0]) [(.iload_n 3, 1, 0), (.iload 5, 2, 0), (.ishr, 1, 0), (.iconst 1, 1, 1), (.iand, 1, 0), (.aload_n 0, 1, 0)] (by decide +kernel) rfl ?_
      obtain ⟨a5, ga5, hf⟩ := Option.bind_eq_some_iff.mp hf
      refine C.rdA fr_1885 ga5 (by decide +kernel) rfl ?_
      refine C.seg (pe := 441) (lv' := [(0, .ref r0), (3, .int i3), (4, .int i4), (5, .int i5)]) (st' := [.int i5, .ref a5, .int ((i3 >>> (i5 &&& 31)) &&& 1), .int x4, .ref r0]) [(.iload 5, 2, 0)] (by decide +kernel) rfl ?_
      obtain ⟨x6, gx6, hf⟩ := Option.bind_eq_some_iff.mp hf
      refine C.ald 0 rfl gx6 (by decide +kernel) rfl ?_
      refine C.seg (pe := 444) (lv' := [(0, .ref r0), (3, .int i3), (4, .int i4), (5, .int i5)]) (st' := [.int (x4 ||| (((i3 >>> (i5 &&& 31)) &&& 1) <<< (x6 &&& 31))), .ref r0]) [(.ishl, 1, 0), (.ior, 1, 0)] (by decide +kernel) rfl ?_
      obtain ⟨h7, gh7, hf⟩ := Option.bind_eq_some_iff.mp hf
      refine C.putI fl_1888 gh7 (by decide +kernel) rfl ?_
      refine C.seg (pe := 450) (lv' := [(5, .int (i5 + 1)), (0, .ref r0), (3, .int i3), (4, .int i4)]) (st' := []) [(.iinc 5 1, 3, 1)] (by decide +kernel) rfl ?_
      refine C.goto (off := (-35)) (tgt := 415) (by decide +kernel) (by decide) ?_
      refine Vsub [1, 2, 3, 0] rfl ?_
      exact ih r0 i3 i4 (i5 + 1) h7 hf
def f_X15_trail_401 (k129 : Nat → Int32 → Int32 → Int32 → Int32 → AH → Option (Int32 × AH)) (r0 : Nat) (i2 : Int32) (i3 : Int32) (i4 : Int32) (i5 : Int32) (h : AH) : Option (Int32 × AH) :=
  k129 r0 i2 i3 i4 (i5 + 1) h
set_option maxRecDepth 100000 in
set_option maxHeartbeats 4000000 in
theorem l_X15_trail_401 {X : MX} {l : Launch} {G : GX} {h0 : AH} {rr : Int32} {hr : AH} (C : Cx X G RX15 cX15_trail 12 (some .int) 1 40 h0) (C2 : Cy X l "trail" []) {k129 : Nat → Int32 → Int32 → Int32 → Int32 → AH → Option (Int32 × AH)} (hk129 : ∀ (r0 : Nat) (i2 : Int32) (i3 : Int32) (i4 : Int32) (i5 : Int32) (h : AH), k129 r0 i2 i3 i4 i5 h = some (rr, hr) → V X G h0 (QI rr hr) 129 [(0, .ref r0), (2, .int i2), (3, .int i3), (4, .int i4), (5, .int i5)] [] h) (r0 : Nat) (i2 : Int32) (i3 : Int32) (i4 : Int32) (i5 : Int32) (h : AH) (hf : f_X15_trail_401 k129 r0 i2 i3 i4 i5 h = some (rr, hr)) : V X G h0 (QI rr hr) 401 [(0, .ref r0), (2, .int i2), (3, .int i3), (4, .int i4), (5, .int i5)] [] h := by
  unfold f_X15_trail_401 at hf
  refine C.seg (pe := 404) (lv' := [(5, .int (i5 + 1)), (0, .ref r0), (2, .int i2), (3, .int i3), (4, .int i4)]) (st' := []) [(.iinc 5 1, 3, 1)] (by decide +kernel) rfl ?_
  refine C.goto (off := (-275)) (tgt := 129) (by decide +kernel) (by decide) ?_
  refine Vsub [1, 2, 3, 4, 0] rfl ?_
  exact hk129 r0 i2 i3 i4 (i5 + 1) h hf
def f_X15_trail_384 (k129 : Nat → Int32 → Int32 → Int32 → Int32 → AH → Option (Int32 × AH)) (r0 : Nat) (i2 : Int32) (i3 : Int32) (i4 : Int32) (i5 : Int32) (i7 : Int32) (si0 : Int32) (h : AH) : Option (Int32 × AH) :=
  if si0 = 0 then
    f_X15_trail_401 k129 r0 i2 i3 i4 i5 h
  else
    f_X15_trail_401 k129 r0 i2 i5 i7 i5 h
set_option maxRecDepth 100000 in
set_option maxHeartbeats 4000000 in
theorem l_X15_trail_384 {X : MX} {l : Launch} {G : GX} {h0 : AH} {rr : Int32} {hr : AH} (C : Cx X G RX15 cX15_trail 12 (some .int) 1 40 h0) (C2 : Cy X l "trail" []) {k129 : Nat → Int32 → Int32 → Int32 → Int32 → AH → Option (Int32 × AH)} (hk129 : ∀ (r0 : Nat) (i2 : Int32) (i3 : Int32) (i4 : Int32) (i5 : Int32) (h : AH), k129 r0 i2 i3 i4 i5 h = some (rr, hr) → V X G h0 (QI rr hr) 129 [(0, .ref r0), (2, .int i2), (3, .int i3), (4, .int i4), (5, .int i5)] [] h) (r0 : Nat) (i2 : Int32) (i3 : Int32) (i4 : Int32) (i5 : Int32) (i7 : Int32) (si0 : Int32) (h : AH) (hf : f_X15_trail_384 k129 r0 i2 i3 i4 i5 i7 si0 h = some (rr, hr)) : V X G h0 (QI rr hr) 384 [(0, .ref r0), (2, .int i2), (3, .int i3), (4, .int i4), (5, .int i5), (7, .int i7)] [.int si0] h := by
  unfold f_X15_trail_384 at hf
  refine C.seg (pe := 388) (lv' := [(9, .int si0), (0, .ref r0), (2, .int i2), (3, .int i3), (4, .int i4), (5, .int i5), (7, .int i7)]) (st' := [.int si0]) [(.istore 9, 2, 0), (.iload 9, 2, 0)] (by decide +kernel) rfl ?_
  refine C.if_ne (off := 6) (tgt := 394) (pf := 391) (by decide +kernel) (by decide) rfl (fun c1 => ?_) (fun c1 => ?_)
  · replace hf := ifn c1 hf
    refine C.seg (pe := 401) (lv' := [(4, .int i7), (3, .int i5), (9, .int si0), (0, .ref r0), (2, .int i2), (5, .int i5), (7, .int i7)]) (st' := []) [(.iload 5, 2, 0), (.istore_n 3, 1, 0), (.iload 7, 2, 0), (.istore 4, 2, 0)] (by decide +kernel) rfl ?_
    refine Vsub [3, 4, 1, 0, 5] rfl ?_
    exact l_X15_trail_401 C C2 hk129 r0 i2 i5 i7 i5 h hf
  · replace hf := ifp c1 hf
    refine C.goto (off := 10) (tgt := 401) (by decide +kernel) (by decide) ?_
    refine Vsub [1, 2, 3, 4, 5] rfl ?_
    exact l_X15_trail_401 C C2 hk129 r0 i2 i3 i4 i5 h hf
def f_X15_trail_383 (k129 : Nat → Int32 → Int32 → Int32 → Int32 → AH → Option (Int32 × AH)) (r0 : Nat) (i2 : Int32) (i3 : Int32) (i4 : Int32) (i5 : Int32) (i7 : Int32) (h : AH) : Option (Int32 × AH) :=
  f_X15_trail_384 k129 r0 i2 i3 i4 i5 i7 0 h
set_option maxRecDepth 100000 in
set_option maxHeartbeats 4000000 in
theorem l_X15_trail_383 {X : MX} {l : Launch} {G : GX} {h0 : AH} {rr : Int32} {hr : AH} (C : Cx X G RX15 cX15_trail 12 (some .int) 1 40 h0) (C2 : Cy X l "trail" []) {k129 : Nat → Int32 → Int32 → Int32 → Int32 → AH → Option (Int32 × AH)} (hk129 : ∀ (r0 : Nat) (i2 : Int32) (i3 : Int32) (i4 : Int32) (i5 : Int32) (h : AH), k129 r0 i2 i3 i4 i5 h = some (rr, hr) → V X G h0 (QI rr hr) 129 [(0, .ref r0), (2, .int i2), (3, .int i3), (4, .int i4), (5, .int i5)] [] h) (r0 : Nat) (i2 : Int32) (i3 : Int32) (i4 : Int32) (i5 : Int32) (i7 : Int32) (h : AH) (hf : f_X15_trail_383 k129 r0 i2 i3 i4 i5 i7 h = some (rr, hr)) : V X G h0 (QI rr hr) 383 [(0, .ref r0), (2, .int i2), (3, .int i3), (4, .int i4), (5, .int i5), (7, .int i7)] [] h := by
  unfold f_X15_trail_383 at hf
  refine C.seg (pe := 384) (lv' := [(0, .ref r0), (2, .int i2), (3, .int i3), (4, .int i4), (5, .int i5), (7, .int i7)]) (st' := [.int 0]) [(.iconst 0, 1, 0)] (by decide +kernel) rfl ?_
  exact l_X15_trail_384 C C2 hk129 r0 i2 i3 i4 i5 i7 0 h hf
def f_X15_trail_379 (k129 : Nat → Int32 → Int32 → Int32 → Int32 → AH → Option (Int32 × AH)) (r0 : Nat) (i2 : Int32) (i3 : Int32) (i4 : Int32) (i5 : Int32) (i7 : Int32) (h : AH) : Option (Int32 × AH) :=
  f_X15_trail_384 k129 r0 i2 i3 i4 i5 i7 1 h
set_option maxRecDepth 100000 in
set_option maxHeartbeats 4000000 in
theorem l_X15_trail_379 {X : MX} {l : Launch} {G : GX} {h0 : AH} {rr : Int32} {hr : AH} (C : Cx X G RX15 cX15_trail 12 (some .int) 1 40 h0) (C2 : Cy X l "trail" []) {k129 : Nat → Int32 → Int32 → Int32 → Int32 → AH → Option (Int32 × AH)} (hk129 : ∀ (r0 : Nat) (i2 : Int32) (i3 : Int32) (i4 : Int32) (i5 : Int32) (h : AH), k129 r0 i2 i3 i4 i5 h = some (rr, hr) → V X G h0 (QI rr hr) 129 [(0, .ref r0), (2, .int i2), (3, .int i3), (4, .int i4), (5, .int i5)] [] h) (r0 : Nat) (i2 : Int32) (i3 : Int32) (i4 : Int32) (i5 : Int32) (i7 : Int32) (h : AH) (hf : f_X15_trail_379 k129 r0 i2 i3 i4 i5 i7 h = some (rr, hr)) : V X G h0 (QI rr hr) 379 [(0, .ref r0), (2, .int i2), (3, .int i3), (4, .int i4), (5, .int i5), (7, .int i7)] [] h := by
  unfold f_X15_trail_379 at hf
  refine C.seg (pe := 380) (lv' := [(0, .ref r0), (2, .int i2), (3, .int i3), (4, .int i4), (5, .int i5), (7, .int i7)]) (st' := [.int 1]) [(.iconst 1, 1, 1)] (by decide +kernel) rfl ?_
  refine C.goto (off := 4) (tgt := 384) (by decide +kernel) (by decide) ?_
  exact l_X15_trail_384 C C2 hk129 r0 i2 i3 i4 i5 i7 1 h hf
def f_X15_trail_305 (k129 : Nat → Int32 → Int32 → Int32 → Int32 → AH → Option (Int32 × AH)) (k150 : Nat → Int32 → Int32 → Int32 → Int32 → Int32 → Int32 → Int32 → AH → Option (Int32 × AH)) (r0 : Nat) (i2 : Int32) (i3 : Int32) (i4 : Int32) (i5 : Int32) (i6 : Int32) (i7 : Int32) (i8 : Int32) (h : AH) : Option (Int32 × AH) :=
  k150 r0 i2 i3 i4 i5 i6 i7 (i8 + 1) h
set_option maxRecDepth 100000 in
set_option maxHeartbeats 4000000 in
theorem l_X15_trail_305 {X : MX} {l : Launch} {G : GX} {h0 : AH} {rr : Int32} {hr : AH} (C : Cx X G RX15 cX15_trail 12 (some .int) 1 40 h0) (C2 : Cy X l "trail" []) {k129 : Nat → Int32 → Int32 → Int32 → Int32 → AH → Option (Int32 × AH)} (hk129 : ∀ (r0 : Nat) (i2 : Int32) (i3 : Int32) (i4 : Int32) (i5 : Int32) (h : AH), k129 r0 i2 i3 i4 i5 h = some (rr, hr) → V X G h0 (QI rr hr) 129 [(0, .ref r0), (2, .int i2), (3, .int i3), (4, .int i4), (5, .int i5)] [] h) {k150 : Nat → Int32 → Int32 → Int32 → Int32 → Int32 → Int32 → Int32 → AH → Option (Int32 × AH)} (hk150 : ∀ (r0 : Nat) (i2 : Int32) (i3 : Int32) (i4 : Int32) (i5 : Int32) (i6 : Int32) (i7 : Int32) (i8 : Int32) (h : AH), k150 r0 i2 i3 i4 i5 i6 i7 i8 h = some (rr, hr) → V X G h0 (QI rr hr) 150 [(0, .ref r0), (2, .int i2), (3, .int i3), (4, .int i4), (5, .int i5), (6, .int i6), (7, .int i7), (8, .int i8)] [] h) (r0 : Nat) (i2 : Int32) (i3 : Int32) (i4 : Int32) (i5 : Int32) (i6 : Int32) (i7 : Int32) (i8 : Int32) (h : AH) (hf : f_X15_trail_305 k129 k150 r0 i2 i3 i4 i5 i6 i7 i8 h = some (rr, hr)) : V X G h0 (QI rr hr) 305 [(0, .ref r0), (2, .int i2), (3, .int i3), (4, .int i4), (5, .int i5), (6, .int i6), (7, .int i7), (8, .int i8)] [] h := by
  unfold f_X15_trail_305 at hf
  refine C.seg (pe := 308) (lv' := [(8, .int (i8 + 1)), (0, .ref r0), (2, .int i2), (3, .int i3), (4, .int i4), (5, .int i5), (6, .int i6), (7, .int i7)]) (st' := []) [(.iinc 8 1, 3, 1)] (by decide +kernel) rfl ?_
  refine C.goto (off := (-158)) (tgt := 150) (by decide +kernel) (by decide) ?_
  refine Vsub [1, 2, 3, 4, 5, 6, 7, 0] rfl ?_
  exact hk150 r0 i2 i3 i4 i5 i6 i7 (i8 + 1) h hf
def f_X15_trail_275 (k129 : Nat → Int32 → Int32 → Int32 → Int32 → AH → Option (Int32 × AH)) (k150 : Nat → Int32 → Int32 → Int32 → Int32 → Int32 → Int32 → Int32 → AH → Option (Int32 × AH)) (k216 : Nat → Int32 → Int32 → Int32 → Int32 → Int32 → Int32 → Int32 → Int32 → Int32 → Int32 → AH → Option (Int32 × AH)) (r0 : Nat) (i2 : Int32) (i3 : Int32) (i4 : Int32) (i5 : Int32) (i6 : Int32) (i7 : Int32) (i8 : Int32) (i9 : Int32) (i10 : Int32) (i11 : Int32) (h : AH) : Option (Int32 × AH) :=
  k216 r0 i2 i3 i4 i5 i6 i7 i8 i9 i10 (i11 + 1) h
set_option maxRecDepth 100000 in
set_option maxHeartbeats 4000000 in
theorem l_X15_trail_275 {X : MX} {l : Launch} {G : GX} {h0 : AH} {rr : Int32} {hr : AH} (C : Cx X G RX15 cX15_trail 12 (some .int) 1 40 h0) (C2 : Cy X l "trail" []) {k129 : Nat → Int32 → Int32 → Int32 → Int32 → AH → Option (Int32 × AH)} (hk129 : ∀ (r0 : Nat) (i2 : Int32) (i3 : Int32) (i4 : Int32) (i5 : Int32) (h : AH), k129 r0 i2 i3 i4 i5 h = some (rr, hr) → V X G h0 (QI rr hr) 129 [(0, .ref r0), (2, .int i2), (3, .int i3), (4, .int i4), (5, .int i5)] [] h) {k150 : Nat → Int32 → Int32 → Int32 → Int32 → Int32 → Int32 → Int32 → AH → Option (Int32 × AH)} (hk150 : ∀ (r0 : Nat) (i2 : Int32) (i3 : Int32) (i4 : Int32) (i5 : Int32) (i6 : Int32) (i7 : Int32) (i8 : Int32) (h : AH), k150 r0 i2 i3 i4 i5 i6 i7 i8 h = some (rr, hr) → V X G h0 (QI rr hr) 150 [(0, .ref r0), (2, .int i2), (3, .int i3), (4, .int i4), (5, .int i5), (6, .int i6), (7, .int i7), (8, .int i8)] [] h) {k216 : Nat → Int32 → Int32 → Int32 → Int32 → Int32 → Int32 → Int32 → Int32 → Int32 → Int32 → AH → Option (Int32 × AH)} (hk216 : ∀ (r0 : Nat) (i2 : Int32) (i3 : Int32) (i4 : Int32) (i5 : Int32) (i6 : Int32) (i7 : Int32) (i8 : Int32) (i9 : Int32) (i10 : Int32) (i11 : Int32) (h : AH), k216 r0 i2 i3 i4 i5 i6 i7 i8 i9 i10 i11 h = some (rr, hr) → V X G h0 (QI rr hr) 216 [(0, .ref r0), (2, .int i2), (3, .int i3), (4, .int i4), (5, .int i5), (6, .int i6), (7, .int i7), (8, .int i8), (9, .int i9), (10, .int i10), (11, .int i11)] [] h) (r0 : Nat) (i2 : Int32) (i3 : Int32) (i4 : Int32) (i5 : Int32) (i6 : Int32) (i7 : Int32) (i8 : Int32) (i9 : Int32) (i10 : Int32) (i11 : Int32) (h : AH) (hf : f_X15_trail_275 k129 k150 k216 r0 i2 i3 i4 i5 i6 i7 i8 i9 i10 i11 h = some (rr, hr)) : V X G h0 (QI rr hr) 275 [(0, .ref r0), (2, .int i2), (3, .int i3), (4, .int i4), (5, .int i5), (6, .int i6), (7, .int i7), (8, .int i8), (9, .int i9), (10, .int i10), (11, .int i11)] [] h := by
  unfold f_X15_trail_275 at hf
  refine C.seg (pe := 278) (lv' := [(11, .int (i11 + 1)), (0, .ref r0), (2, .int i2), (3, .int i3), (4, .int i4), (5, .int i5), (6, .int i6), (7, .int i7), (8, .int i8), (9, .int i9), (10, .int i10)]) (st' := []) [(.iinc 11 1, 3, 1)] (by decide +kernel) rfl ?_
  refine C.goto (off := (-62)) (tgt := 216) (by decide +kernel) (by decide) ?_
  refine Vsub [1, 2, 3, 4, 5, 6, 7, 8, 9, 10, 0] rfl ?_
  exact hk216 r0 i2 i3 i4 i5 i6 i7 i8 i9 i10 (i11 + 1) h hf
def f_X15_trail_216 (k129 : Nat → Int32 → Int32 → Int32 → Int32 → AH → Option (Int32 × AH)) (k150 : Nat → Int32 → Int32 → Int32 → Int32 → Int32 → Int32 → Int32 → AH → Option (Int32 × AH)) : Nat → Nat → Int32 → Int32 → Int32 → Int32 → Int32 → Int32 → Int32 → Int32 → Int32 → Int32 → AH → Option (Int32 × AH)
  | 0, _, _, _, _, _, _, _, _, _, _, _, _ => none
  | n + 1, r0, i2, i3, i4, i5, i6, i7, i8, i9, i10, i11, h =>
    (gI 15 h r0 101).bind fun x1 =>
    if x1 ≤ i11 then
      (gA 15 h r0 100).bind fun a2 =>
      (sI 0 h a2 ((9 * i5) + i8) i10).bind fun h3 =>
      f_X15_trail_305 k129 k150 r0 i2 i3 i4 i5 i6 (mnI i7 i10) i8 h3
    else
      if (i9 >>> (i11 &&& 31)) &&& 1 = 1 then
        (gA 15 h r0 100).bind fun a4 =>
        (aI 0 h a4 ((9 * i9) + i11)).bind fun x5 =>
        (gA 15 h r0 99).bind fun a6 =>
        (aI 0 h a6 i11).bind fun x7 =>
        (gA 15 h r0 99).bind fun a8 =>
        (aI 0 h a8 i8).bind fun x9 =>
        b2 (f_X15_apart r0 x7 x9 h) fun x10 h11 =>
        lt (mnI i10 (x5 + x10) : Int32) fun x12 =>
        f_X15_trail_275 k129 k150 (f_X15_trail_216 k129 k150 n) r0 i2 i3 i4 i5 i6 i7 i8 i9 x12 i11 h11
      else
        f_X15_trail_275 k129 k150 (f_X15_trail_216 k129 k150 n) r0 i2 i3 i4 i5 i6 i7 i8 i9 i10 i11 h
set_option maxRecDepth 100000 in
set_option maxHeartbeats 4000000 in
theorem l_X15_trail_216 {X : MX} {l : Launch} {G : GX} {h0 : AH} {rr : Int32} {hr : AH} (C : Cx X G RX15 cX15_trail 12 (some .int) 1 40 h0) (C2 : Cy X l "trail" []) {k129 : Nat → Int32 → Int32 → Int32 → Int32 → AH → Option (Int32 × AH)} (hk129 : ∀ (r0 : Nat) (i2 : Int32) (i3 : Int32) (i4 : Int32) (i5 : Int32) (h : AH), k129 r0 i2 i3 i4 i5 h = some (rr, hr) → V X G h0 (QI rr hr) 129 [(0, .ref r0), (2, .int i2), (3, .int i3), (4, .int i4), (5, .int i5)] [] h) {k150 : Nat → Int32 → Int32 → Int32 → Int32 → Int32 → Int32 → Int32 → AH → Option (Int32 × AH)} (hk150 : ∀ (r0 : Nat) (i2 : Int32) (i3 : Int32) (i4 : Int32) (i5 : Int32) (i6 : Int32) (i7 : Int32) (i8 : Int32) (h : AH), k150 r0 i2 i3 i4 i5 i6 i7 i8 h = some (rr, hr) → V X G h0 (QI rr hr) 150 [(0, .ref r0), (2, .int i2), (3, .int i3), (4, .int i4), (5, .int i5), (6, .int i6), (7, .int i7), (8, .int i8)] [] h) : ∀ (n : Nat) (r0 : Nat) (i2 : Int32) (i3 : Int32) (i4 : Int32) (i5 : Int32) (i6 : Int32) (i7 : Int32) (i8 : Int32) (i9 : Int32) (i10 : Int32) (i11 : Int32) (h : AH), f_X15_trail_216 k129 k150 n r0 i2 i3 i4 i5 i6 i7 i8 i9 i10 i11 h = some (rr, hr) → V X G h0 (QI rr hr) 216 [(0, .ref r0), (2, .int i2), (3, .int i3), (4, .int i4), (5, .int i5), (6, .int i6), (7, .int i7), (8, .int i8), (9, .int i9), (10, .int i10), (11, .int i11)] [] h := by
  intro n
  induction n with
  | zero => intro r0 i2 i3 i4 i5 i6 i7 i8 i9 i10 i11 h hf; rw [f_X15_trail_216] at hf; cases hf
  | succ n ih =>
    intro r0 i2 i3 i4 i5 i6 i7 i8 i9 i10 i11 h hf
    rw [f_X15_trail_216] at hf
    refine C.seg (pe := 219) (lv' := [(0, .ref r0), (2, .int i2), (3, .int i3), (4, .int i4), (5, .int i5), (6, .int i6), (7, .int i7), (8, .int i8), (9, .int i9), (10, .int i10), (11, .int i11)]) (st' := [.ref r0, .int i11]) [(.iload 11, 2, 0), (.aload_n 0, 1, 0)] (by decide +kernel) rfl ?_
    obtain ⟨x1, gx1, hf⟩ := Option.bind_eq_some_iff.mp hf
    refine C.rdI fr_1887 gx1 (by decide +kernel) rfl ?_
    refine C.icmp_ge (off := 59) (tgt := 281) (pf := 225) (by decide +kernel) (by decide) rfl (fun c14 => ?_) (fun c14 => ?_)
    · replace hf := ifp c14 hf
      refine C.seg (pe := 282) (lv' := [(0, .ref r0), (2, .int i2), (3, .int i3), (4, .int i4), (5, .int i5), (6, .int i6), (7, .int i7), (8, .int i8), (9, .int i9), (10, .int i10), (11, .int i11)]) (st' := [.ref r0]) [(.aload_n 0, 1, 0)] (by decide +kernel) rfl ?_
      obtain ⟨a2, ga2, hf⟩ := Option.bind_eq_some_iff.mp hf
      refine C.rdA fr_1886 ga2 (by decide +kernel) rfl ?_
      refine C.seg (pe := 295) (lv' := [(0, .ref r0), (2, .int i2), (3, .int i3), (4, .int i4), (5, .int i5), (6, .int i6), (7, .int i7), (8, .int i8), (9, .int i9), (10, .int i10), (11, .int i11)]) (st' := [.int i10, .int ((9 * i5) + i8), .ref a2]) [(.bipush 9, 2, 9), (.iload 5, 2, 0), (.imul, 1, 0), (.iload 8, 2, 0), (.iadd, 1, 0), (.iload 10, 2, 0)] (by decide +kernel) rfl ?_
      obtain ⟨h3, gh3, hf⟩ := Option.bind_eq_some_iff.mp hf
      refine C.ast gh3 (by decide +kernel) rfl ?_
      refine C.seg (pe := 300) (lv' := [(0, .ref r0), (2, .int i2), (3, .int i3), (4, .int i4), (5, .int i5), (6, .int i6), (7, .int i7), (8, .int i8), (9, .int i9), (10, .int i10), (11, .int i11)]) (st' := [.int i10, .int i7]) [(.iload 7, 2, 0), (.iload 10, 2, 0)] (by decide +kernel) rfl ?_
      refine C.mmin k_2164 k_639 k_137 k_640 (by omega) (by omega) (Nat.le_of_ble_eq_true rfl) (by decide +kernel) rfl ?_
      refine C.seg (pe := 305) (lv' := [(7, .int (mnI i7 i10)), (0, .ref r0), (2, .int i2), (3, .int i3), (4, .int i4), (5, .int i5), (6, .int i6), (8, .int i8), (9, .int i9), (10, .int i10), (11, .int i11)]) (st' := []) [(.istore 7, 2, 0)] (by decide +kernel) rfl ?_
      refine Vsub [1, 2, 3, 4, 5, 6, 0, 7] rfl ?_
      exact l_X15_trail_305 C C2 hk129 hk150 r0 i2 i3 i4 i5 i6 (mnI i7 i10) i8 h3 hf
    · replace hf := ifn c14 hf
      refine C.seg (pe := 233) (lv' := [(0, .ref r0), (2, .int i2), (3, .int i3), (4, .int i4), (5, .int i5), (6, .int i6), (7, .int i7), (8, .int i8), (9, .int i9), (10, .int i10), (11, .int i11)]) (st' := [.int 1, .int ((i9 >>> (i11 &&& 31)) &&& 1)]) [(.iload 9, 2, 0), (.iload 11, 2, 0), (.ishr, 1, 0), (.iconst 1, 1, 1), (.iand, 1, 0), (.iconst 1, 1, 1)] (by decide +kernel) rfl ?_
      refine C.icmp_ne (off := 42) (tgt := 275) (pf := 236) (by decide +kernel) (by decide) rfl (fun c13 => ?_) (fun c13 => ?_)
      · replace hf := ifn c13 hf
        exact l_X15_trail_275 C C2 hk129 hk150 ih r0 i2 i3 i4 i5 i6 i7 i8 i9 i10 i11 h hf
      · replace hf := ifp c13 hf
        refine C.seg (pe := 239) (lv' := [(0, .ref r0), (2, .int i2), (3, .int i3), (4, .int i4), (5, .int i5), (6, .int i6), (7, .int i7), (8, .int i8), (9, .int i9), (10, .int i10), (11, .int i11)]) (st' := [.ref r0, .int i10]) [(.iload 10, 2, 0), (.aload_n 0, 1, 0)] (by decide +kernel) rfl ?_
        obtain ⟨a4, ga4, hf⟩ := Option.bind_eq_some_iff.mp hf
        refine C.rdA fr_1886 ga4 (by decide +kernel) rfl ?_
        refine C.seg (pe := 250) (lv' := [(0, .ref r0), (2, .int i2), (3, .int i3), (4, .int i4), (5, .int i5), (6, .int i6), (7, .int i7), (8, .int i8), (9, .int i9), (10, .int i10), (11, .int i11)]) (st' := [.int ((9 * i9) + i11), .ref a4, .int i10]) [(.bipush 9, 2, 9), (.iload 9, 2, 0), (.imul, 1, 0), (.iload 11, 2, 0), (.iadd, 1, 0)] (by decide +kernel) rfl ?_
        obtain ⟨x5, gx5, hf⟩ := Option.bind_eq_some_iff.mp hf
        refine C.ald 0 rfl gx5 (by decide +kernel) rfl ?_
        refine C.seg (pe := 253) (lv' := [(0, .ref r0), (2, .int i2), (3, .int i3), (4, .int i4), (5, .int i5), (6, .int i6), (7, .int i7), (8, .int i8), (9, .int i9), (10, .int i10), (11, .int i11)]) (st' := [.ref r0, .ref r0, .int x5, .int i10]) [(.aload_n 0, 1, 0), (.aload_n 0, 1, 0)] (by decide +kernel) rfl ?_
        obtain ⟨a6, ga6, hf⟩ := Option.bind_eq_some_iff.mp hf
        refine C.rdA fr_1885 ga6 (by decide +kernel) rfl ?_
        refine C.seg (pe := 258) (lv' := [(0, .ref r0), (2, .int i2), (3, .int i3), (4, .int i4), (5, .int i5), (6, .int i6), (7, .int i7), (8, .int i8), (9, .int i9), (10, .int i10), (11, .int i11)]) (st' := [.int i11, .ref a6, .ref r0, .int x5, .int i10]) [(.iload 11, 2, 0)] (by decide +kernel) rfl ?_
        obtain ⟨x7, gx7, hf⟩ := Option.bind_eq_some_iff.mp hf
        refine C.ald 0 rfl gx7 (by decide +kernel) rfl ?_
        refine C.seg (pe := 260) (lv' := [(0, .ref r0), (2, .int i2), (3, .int i3), (4, .int i4), (5, .int i5), (6, .int i6), (7, .int i7), (8, .int i8), (9, .int i9), (10, .int i10), (11, .int i11)]) (st' := [.ref r0, .int x7, .ref r0, .int x5, .int i10]) [(.aload_n 0, 1, 0)] (by decide +kernel) rfl ?_
        obtain ⟨a8, ga8, hf⟩ := Option.bind_eq_some_iff.mp hf
        refine C.rdA fr_1885 ga8 (by decide +kernel) rfl ?_
        refine C.seg (pe := 265) (lv' := [(0, .ref r0), (2, .int i2), (3, .int i3), (4, .int i4), (5, .int i5), (6, .int i6), (7, .int i7), (8, .int i8), (9, .int i9), (10, .int i10), (11, .int i11)]) (st' := [.int i8, .ref a8, .int x7, .ref r0, .int x5, .int i10]) [(.iload 8, 2, 0)] (by decide +kernel) rfl ?_
        obtain ⟨x9, gx9, hf⟩ := Option.bind_eq_some_iff.mp hf
        refine C.ald 0 rfl gx9 (by decide +kernel) rfl ?_
        obtain ⟨x10, h11, gx10, hf⟩ := b2_some hf
        refine C.callVr C2 [.int x7, .int x9] [.int x5, .int i10] mv_2514 rfl (o_X15_apart gx10) (w_X15_apart gx10) (by omega) (by omega) (Nat.le_of_ble_eq_true rfl) (by decide +kernel) rfl ?_
        refine C.seg (pe := 270) (lv' := [(0, .ref r0), (2, .int i2), (3, .int i3), (4, .int i4), (5, .int i5), (6, .int i6), (7, .int i7), (8, .int i8), (9, .int i9), (10, .int i10), (11, .int i11)]) (st' := [.int (x5 + x10), .int i10]) [(.iadd, 1, 0)] (by decide +kernel) rfl ?_
        refine C.mmin k_2164 k_639 k_137 k_640 (by omega) (by omega) (Nat.le_of_ble_eq_true rfl) (by decide +kernel) rfl ?_
        refine Vtopi (fun x12 ex12 => ?_)
        replace hf := lt_ap ex12 hf
        clear ex12
        refine C.seg (pe := 275) (lv' := [(10, .int x12), (0, .ref r0), (2, .int i2), (3, .int i3), (4, .int i4), (5, .int i5), (6, .int i6), (7, .int i7), (8, .int i8), (9, .int i9), (11, .int i11)]) (st' := []) [(.istore 10, 2, 0)] (by decide +kernel) rfl ?_
        refine Vsub [1, 2, 3, 4, 5, 6, 7, 8, 9, 0, 10] rfl ?_
        exact l_X15_trail_275 C C2 hk129 hk150 ih r0 i2 i3 i4 i5 i6 i7 i8 i9 x12 i11 h11 hf
def f_X15_trail_211 (k129 : Nat → Int32 → Int32 → Int32 → Int32 → AH → Option (Int32 × AH)) (k150 : Nat → Int32 → Int32 → Int32 → Int32 → Int32 → Int32 → Int32 → AH → Option (Int32 × AH)) (r0 : Nat) (i2 : Int32) (i3 : Int32) (i4 : Int32) (i5 : Int32) (i6 : Int32) (i7 : Int32) (i8 : Int32) (i9 : Int32) (si0 : Int32) (h : AH) : Option (Int32 × AH) :=
  f_X15_trail_216 k129 k150 FU r0 i2 i3 i4 i5 i6 i7 i8 i9 si0 0 h
set_option maxRecDepth 100000 in
set_option maxHeartbeats 4000000 in
theorem l_X15_trail_211 {X : MX} {l : Launch} {G : GX} {h0 : AH} {rr : Int32} {hr : AH} (C : Cx X G RX15 cX15_trail 12 (some .int) 1 40 h0) (C2 : Cy X l "trail" []) {k129 : Nat → Int32 → Int32 → Int32 → Int32 → AH → Option (Int32 × AH)} (hk129 : ∀ (r0 : Nat) (i2 : Int32) (i3 : Int32) (i4 : Int32) (i5 : Int32) (h : AH), k129 r0 i2 i3 i4 i5 h = some (rr, hr) → V X G h0 (QI rr hr) 129 [(0, .ref r0), (2, .int i2), (3, .int i3), (4, .int i4), (5, .int i5)] [] h) {k150 : Nat → Int32 → Int32 → Int32 → Int32 → Int32 → Int32 → Int32 → AH → Option (Int32 × AH)} (hk150 : ∀ (r0 : Nat) (i2 : Int32) (i3 : Int32) (i4 : Int32) (i5 : Int32) (i6 : Int32) (i7 : Int32) (i8 : Int32) (h : AH), k150 r0 i2 i3 i4 i5 i6 i7 i8 h = some (rr, hr) → V X G h0 (QI rr hr) 150 [(0, .ref r0), (2, .int i2), (3, .int i3), (4, .int i4), (5, .int i5), (6, .int i6), (7, .int i7), (8, .int i8)] [] h) (r0 : Nat) (i2 : Int32) (i3 : Int32) (i4 : Int32) (i5 : Int32) (i6 : Int32) (i7 : Int32) (i8 : Int32) (i9 : Int32) (si0 : Int32) (h : AH) (hf : f_X15_trail_211 k129 k150 r0 i2 i3 i4 i5 i6 i7 i8 i9 si0 h = some (rr, hr)) : V X G h0 (QI rr hr) 211 [(0, .ref r0), (2, .int i2), (3, .int i3), (4, .int i4), (5, .int i5), (6, .int i6), (7, .int i7), (8, .int i8), (9, .int i9)] [.int si0] h := by
  unfold f_X15_trail_211 at hf
  refine C.seg (pe := 216) (lv' := [(11, .int 0), (10, .int si0), (0, .ref r0), (2, .int i2), (3, .int i3), (4, .int i4), (5, .int i5), (6, .int i6), (7, .int i7), (8, .int i8), (9, .int i9)]) (st' := []) [(.istore 10, 2, 0), (.iconst 0, 1, 0), (.istore 11, 2, 0)] (by decide +kernel) rfl ?_
  refine Vsub [2, 3, 4, 5, 6, 7, 8, 9, 10, 1, 0] rfl ?_
  exact l_X15_trail_216 C C2 hk129 hk150 FU r0 i2 i3 i4 i5 i6 i7 i8 i9 si0 0 h hf
def f_X15_trail_150 (k129 : Nat → Int32 → Int32 → Int32 → Int32 → AH → Option (Int32 × AH)) : Nat → Nat → Int32 → Int32 → Int32 → Int32 → Int32 → Int32 → Int32 → AH → Option (Int32 × AH)
  | 0, _, _, _, _, _, _, _, _, _ => none
  | n + 1, r0, i2, i3, i4, i5, i6, i7, i8, h =>
    (gI 15 h r0 101).bind fun x1 =>
    if x1 ≤ i8 then
      if i2 &&& (i6 ^^^ (-1)) = 0 then
        if i7 < i4 then
          f_X15_trail_379 k129 r0 i2 i3 i4 i5 i7 h
        else
          if i7 = i4 then
            b2 (f_X15_bits i5 h) fun x2 h3 =>
            b2 (f_X15_bits i3 h3) fun x4 h5 =>
            if x2 < x4 then
              f_X15_trail_379 k129 r0 i2 i3 i4 i5 i7 h5
            else
              b2 (f_X15_bits i5 h5) fun x6 h7 =>
              b2 (f_X15_bits i3 h7) fun x8 h9 =>
              if x6 = x8 then
                if ((i5 ^^^ i3) &&& (-(i5 ^^^ i3))) &&& i5 = 0 then
                  f_X15_trail_383 k129 r0 i2 i3 i4 i5 i7 h9
                else
                  f_X15_trail_379 k129 r0 i2 i3 i4 i5 i7 h9
              else
                f_X15_trail_383 k129 r0 i2 i3 i4 i5 i7 h9
          else
            f_X15_trail_383 k129 r0 i2 i3 i4 i5 i7 h
      else
        f_X15_trail_401 k129 r0 i2 i3 i4 i5 h
    else
      if (i5 >>> (i8 &&& 31)) &&& 1 = 0 then
        f_X15_trail_305 k129 (f_X15_trail_150 k129 n) r0 i2 i3 i4 i5 i6 i7 i8 h
      else
        (gA 15 h r0 12).bind fun a16 =>
        (gA 15 h r0 99).bind fun a17 =>
        (aI 0 h a17 i8).bind fun x18 =>
        (aI 0 h a16 x18).bind fun x19 =>
        lt (i5 &&& ((1 <<< (i8 &&& 31)) ^^^ (-1)) : Int32) fun x20 =>
        if x20 = 0 then
          f_X15_trail_211 k129 (f_X15_trail_150 k129 n) r0 i2 i3 i4 i5 (i6 ||| x19) i7 i8 x20 0 h
        else
          f_X15_trail_211 k129 (f_X15_trail_150 k129 n) r0 i2 i3 i4 i5 (i6 ||| x19) i7 i8 x20 1000000 h
set_option maxRecDepth 100000 in
set_option maxHeartbeats 4000000 in
theorem l_X15_trail_150 {X : MX} {l : Launch} {G : GX} {h0 : AH} {rr : Int32} {hr : AH} (C : Cx X G RX15 cX15_trail 12 (some .int) 1 40 h0) (C2 : Cy X l "trail" []) {k129 : Nat → Int32 → Int32 → Int32 → Int32 → AH → Option (Int32 × AH)} (hk129 : ∀ (r0 : Nat) (i2 : Int32) (i3 : Int32) (i4 : Int32) (i5 : Int32) (h : AH), k129 r0 i2 i3 i4 i5 h = some (rr, hr) → V X G h0 (QI rr hr) 129 [(0, .ref r0), (2, .int i2), (3, .int i3), (4, .int i4), (5, .int i5)] [] h) : ∀ (n : Nat) (r0 : Nat) (i2 : Int32) (i3 : Int32) (i4 : Int32) (i5 : Int32) (i6 : Int32) (i7 : Int32) (i8 : Int32) (h : AH), f_X15_trail_150 k129 n r0 i2 i3 i4 i5 i6 i7 i8 h = some (rr, hr) → V X G h0 (QI rr hr) 150 [(0, .ref r0), (2, .int i2), (3, .int i3), (4, .int i4), (5, .int i5), (6, .int i6), (7, .int i7), (8, .int i8)] [] h := by
  intro n
  induction n with
  | zero => intro r0 i2 i3 i4 i5 i6 i7 i8 h hf; rw [f_X15_trail_150] at hf; cases hf
  | succ n ih =>
    intro r0 i2 i3 i4 i5 i6 i7 i8 h hf
    rw [f_X15_trail_150] at hf
    refine C.seg (pe := 153) (lv' := [(0, .ref r0), (2, .int i2), (3, .int i3), (4, .int i4), (5, .int i5), (6, .int i6), (7, .int i7), (8, .int i8)]) (st' := [.ref r0, .int i8]) [(.iload 8, 2, 0), (.aload_n 0, 1, 0)] (by decide +kernel) rfl ?_
    obtain ⟨x1, gx1, hf⟩ := Option.bind_eq_some_iff.mp hf
    refine C.rdI fr_1887 gx1 (by decide +kernel) rfl ?_
    refine C.icmp_ge (off := 155) (tgt := 311) (pf := 159) (by decide +kernel) (by decide) rfl (fun c23 => ?_) (fun c23 => ?_)
    · replace hf := ifp c23 hf
      refine C.seg (pe := 317) (lv' := [(0, .ref r0), (2, .int i2), (3, .int i3), (4, .int i4), (5, .int i5), (6, .int i6), (7, .int i7), (8, .int i8)]) (st' := [.int (i2 &&& (i6 ^^^ (-1)))]) [(.iload_n 2, 1, 0), (.iload 6, 2, 0), (.iconst (-1), 1, (-1)), (.ixor, 1, 0), (.iand, 1, 0)] (by decide +kernel) rfl ?_
      refine C.if_eq (off := 6) (tgt := 323) (pf := 320) (by decide +kernel) (by decide) rfl (fun c15 => ?_) (fun c15 => ?_)
      · replace hf := ifp c15 hf
        refine C.seg (pe := 333) (lv' := [(8, .int (i5 ^^^ i3)), (0, .ref r0), (2, .int i2), (3, .int i3), (4, .int i4), (5, .int i5), (6, .int i6), (7, .int i7)]) (st' := [.int i4, .int i7]) [(.iload 5, 2, 0), (.iload_n 3, 1, 0), (.ixor, 1, 0), (.istore 8, 2, 0), (.iload 7, 2, 0), (.iload 4, 2, 0)] (by decide +kernel) rfl ?_
        refine C.icmp_lt (off := 46) (tgt := 379) (pf := 336) (by decide +kernel) (by decide) rfl (fun c14 => ?_) (fun c14 => ?_)
        · replace hf := ifp c14 hf
          refine Vsub [1, 2, 3, 4, 5, 7] rfl ?_
          exact l_X15_trail_379 C C2 hk129 r0 i2 i3 i4 i5 i7 h hf
        · replace hf := ifn c14 hf
          refine C.seg (pe := 340) (lv' := [(8, .int (i5 ^^^ i3)), (0, .ref r0), (2, .int i2), (3, .int i3), (4, .int i4), (5, .int i5), (6, .int i6), (7, .int i7)]) (st' := [.int i4, .int i7]) [(.iload 7, 2, 0), (.iload 4, 2, 0)] (by decide +kernel) rfl ?_
          refine C.icmp_ne (off := 43) (tgt := 383) (pf := 343) (by decide +kernel) (by decide) rfl (fun c13 => ?_) (fun c13 => ?_)
          · replace hf := ifn c13 hf
            refine Vsub [1, 2, 3, 4, 5, 7] rfl ?_
            exact l_X15_trail_383 C C2 hk129 r0 i2 i3 i4 i5 i7 h hf
          · replace hf := ifp c13 hf
            refine C.seg (pe := 345) (lv' := [(8, .int (i5 ^^^ i3)), (0, .ref r0), (2, .int i2), (3, .int i3), (4, .int i4), (5, .int i5), (6, .int i6), (7, .int i7)]) (st' := [.int i5]) [(.iload 5, 2, 0)] (by decide +kernel) rfl ?_
            obtain ⟨x2, h3, gx2, hf⟩ := b2_some hf
            refine C.callSr C2 [.int i5] [] ms_2395 rfl (w_X15_bits gx2) (by omega) (by omega) (Nat.le_of_ble_eq_true rfl) (by decide +kernel) rfl ?_
            refine C.seg (pe := 349) (lv' := [(8, .int (i5 ^^^ i3)), (0, .ref r0), (2, .int i2), (3, .int i3), (4, .int i4), (5, .int i5), (6, .int i6), (7, .int i7)]) (st' := [.int i3, .int x2]) [(.iload_n 3, 1, 0)] (by decide +kernel) rfl ?_
            obtain ⟨x4, h5, gx4, hf⟩ := b2_some hf
            refine C.callSr C2 [.int i3] [.int x2] ms_2395 rfl (w_X15_bits gx4) (by omega) (by omega) (Nat.le_of_ble_eq_true rfl) (by decide +kernel) rfl ?_
            refine C.icmp_lt (off := 27) (tgt := 379) (pf := 355) (by decide +kernel) (by decide) rfl (fun c12 => ?_) (fun c12 => ?_)
            · replace hf := ifp c12 hf
              refine Vsub [1, 2, 3, 4, 5, 7] rfl ?_
              exact l_X15_trail_379 C C2 hk129 r0 i2 i3 i4 i5 i7 h5 hf
            · replace hf := ifn c12 hf
              refine C.seg (pe := 357) (lv' := [(8, .int (i5 ^^^ i3)), (0, .ref r0), (2, .int i2), (3, .int i3), (4, .int i4), (5, .int i5), (6, .int i6), (7, .int i7)]) (st' := [.int i5]) [(.iload 5, 2, 0)] (by decide +kernel) rfl ?_
              obtain ⟨x6, h7, gx6, hf⟩ := b2_some hf
              refine C.callSr C2 [.int i5] [] ms_2395 rfl (w_X15_bits gx6) (by omega) (by omega) (Nat.le_of_ble_eq_true rfl) (by decide +kernel) rfl ?_
              refine C.seg (pe := 361) (lv' := [(8, .int (i5 ^^^ i3)), (0, .ref r0), (2, .int i2), (3, .int i3), (4, .int i4), (5, .int i5), (6, .int i6), (7, .int i7)]) (st' := [.int i3, .int x6]) [(.iload_n 3, 1, 0)] (by decide +kernel) rfl ?_
              obtain ⟨x8, h9, gx8, hf⟩ := b2_some hf
              refine C.callSr C2 [.int i3] [.int x6] ms_2395 rfl (w_X15_bits gx8) (by omega) (by omega) (Nat.le_of_ble_eq_true rfl) (by decide +kernel) rfl ?_
              refine C.icmp_ne (off := 19) (tgt := 383) (pf := 367) (by decide +kernel) (by decide) rfl (fun c11 => ?_) (fun c11 => ?_)
              · replace hf := ifn c11 hf
                refine Vsub [1, 2, 3, 4, 5, 7] rfl ?_
                exact l_X15_trail_383 C C2 hk129 r0 i2 i3 i4 i5 i7 h9 hf
              · replace hf := ifp c11 hf
                refine C.seg (pe := 376) (lv' := [(8, .int (i5 ^^^ i3)), (0, .ref r0), (2, .int i2), (3, .int i3), (4, .int i4), (5, .int i5), (6, .int i6), (7, .int i7)]) (st' := [.int (((i5 ^^^ i3) &&& (-(i5 ^^^ i3))) &&& i5)]) [(.iload 8, 2, 0), (.iload 8, 2, 0), (.ineg, 1, 0), (.iand, 1, 0), (.iload 5, 2, 0), (.iand, 1, 0)] (by decide +kernel) rfl ?_
                refine C.if_eq (off := 7) (tgt := 383) (pf := 379) (by decide +kernel) (by decide) rfl (fun c10 => ?_) (fun c10 => ?_)
                · replace hf := ifp c10 hf
                  refine Vsub [1, 2, 3, 4, 5, 7] rfl ?_
                  exact l_X15_trail_383 C C2 hk129 r0 i2 i3 i4 i5 i7 h9 hf
                · replace hf := ifn c10 hf
                  refine Vsub [1, 2, 3, 4, 5, 7] rfl ?_
                  exact l_X15_trail_379 C C2 hk129 r0 i2 i3 i4 i5 i7 h9 hf
      · replace hf := ifn c15 hf
        refine C.goto (off := 81) (tgt := 401) (by decide +kernel) (by decide) ?_
        refine Vsub [0, 1, 2, 3, 4] rfl ?_
        exact l_X15_trail_401 C C2 hk129 r0 i2 i3 i4 i5 h hf
    · replace hf := ifn c23 hf
      refine C.seg (pe := 166) (lv' := [(0, .ref r0), (2, .int i2), (3, .int i3), (4, .int i4), (5, .int i5), (6, .int i6), (7, .int i7), (8, .int i8)]) (st' := [.int ((i5 >>> (i8 &&& 31)) &&& 1)]) [(.iload 5, 2, 0), (.iload 8, 2, 0), (.ishr, 1, 0), (.iconst 1, 1, 1), (.iand, 1, 0)] (by decide +kernel) rfl ?_
      refine C.if_ne (off := 6) (tgt := 172) (pf := 169) (by decide +kernel) (by decide) rfl (fun c22 => ?_) (fun c22 => ?_)
      · replace hf := ifn c22 hf
        refine C.seg (pe := 175) (lv' := [(0, .ref r0), (2, .int i2), (3, .int i3), (4, .int i4), (5, .int i5), (6, .int i6), (7, .int i7), (8, .int i8)]) (st' := [.ref r0, .int i6]) [(.iload 6, 2, 0), (.aload_n 0, 1, 0)] (by decide +kernel) rfl ?_
        obtain ⟨a16, ga16, hf⟩ := Option.bind_eq_some_iff.mp hf
        refine C.rdA fr_1798 ga16 (by decide +kernel) rfl ?_
        refine C.seg (pe := 179) (lv' := [(0, .ref r0), (2, .int i2), (3, .int i3), (4, .int i4), (5, .int i5), (6, .int i6), (7, .int i7), (8, .int i8)]) (st' := [.ref r0, .ref a16, .int i6]) [(.aload_n 0, 1, 0)] (by decide +kernel) rfl ?_
        obtain ⟨a17, ga17, hf⟩ := Option.bind_eq_some_iff.mp hf
        refine C.rdA fr_1885 ga17 (by decide +kernel) rfl ?_
        refine C.seg (pe := 184) (lv' := [(0, .ref r0), (2, .int i2), (3, .int i3), (4, .int i4), (5, .int i5), (6, .int i6), (7, .int i7), (8, .int i8)]) (st' := [.int i8, .ref a17, .ref a16, .int i6]) [(.iload 8, 2, 0)] (by decide +kernel) rfl ?_
        obtain ⟨x18, gx18, hf⟩ := Option.bind_eq_some_iff.mp hf
        refine C.ald 0 rfl gx18 (by decide +kernel) rfl ?_
        obtain ⟨x19, gx19, hf⟩ := Option.bind_eq_some_iff.mp hf
        refine C.ald 0 rfl gx19 (by decide +kernel) rfl ?_
        refine C.seg (pe := 198) (lv' := [(6, .int (i6 ||| x19)), (0, .ref r0), (2, .int i2), (3, .int i3), (4, .int i4), (5, .int i5), (7, .int i7), (8, .int i8)]) (st' := [.int (i5 &&& ((1 <<< (i8 &&& 31)) ^^^ (-1)))]) [(.ior, 1, 0), (.istore 6, 2, 0), (.iload 5, 2, 0), (.iconst 1, 1, 1), (.iload 8, 2, 0), (.ishl, 1, 0), (.iconst (-1), 1, (-1)), (.ixor, 1, 0), (.iand, 1, 0)] (by decide +kernel) rfl ?_
        refine Vtopi (fun x20 ex20 => ?_)
        replace hf := lt_ap ex20 hf
        clear ex20
        refine C.seg (pe := 202) (lv' := [(9, .int x20), (6, .int (i6 ||| x19)), (0, .ref r0), (2, .int i2), (3, .int i3), (4, .int i4), (5, .int i5), (7, .int i7), (8, .int i8)]) (st' := [.int x20]) [(.istore 9, 2, 0), (.iload 9, 2, 0)] (by decide +kernel) rfl ?_
        refine C.if_ne (off := 7) (tgt := 209) (pf := 205) (by decide +kernel) (by decide) rfl (fun c21 => ?_) (fun c21 => ?_)
        · replace hf := ifn c21 hf
          refine C.ldcI k_1785 (by decide +kernel) rfl ?_
          refine Vsub [2, 3, 4, 5, 6, 1, 7, 8, 0] rfl ?_
          exact l_X15_trail_211 C C2 hk129 ih r0 i2 i3 i4 i5 (i6 ||| x19) i7 i8 x20 1000000 h hf
        · replace hf := ifp c21 hf
          refine C.seg (pe := 206) (lv' := [(9, .int x20), (6, .int (i6 ||| x19)), (0, .ref r0), (2, .int i2), (3, .int i3), (4, .int i4), (5, .int i5), (7, .int i7), (8, .int i8)]) (st' := [.int 0]) [(.iconst 0, 1, 0)] (by decide +kernel) rfl ?_
          refine C.goto (off := 5) (tgt := 211) (by decide +kernel) (by decide) ?_
          refine Vsub [2, 3, 4, 5, 6, 1, 7, 8, 0] rfl ?_
          exact l_X15_trail_211 C C2 hk129 ih r0 i2 i3 i4 i5 (i6 ||| x19) i7 i8 x20 0 h hf
      · replace hf := ifp c22 hf
        refine C.goto (off := 136) (tgt := 305) (by decide +kernel) (by decide) ?_
        exact l_X15_trail_305 C C2 hk129 ih r0 i2 i3 i4 i5 i6 i7 i8 h hf
def f_X15_trail_129 : Nat → Nat → Int32 → Int32 → Int32 → Int32 → AH → Option (Int32 × AH)
  | 0, _, _, _, _, _, _ => none
  | n + 1, r0, i2, i3, i4, i5, h =>
    (gI 15 h r0 101).bind fun x1 =>
    if 1 <<< (x1 &&& 31) ≤ i5 then
      (pI 15 h r0 102 0).bind fun h2 =>
      f_X15_trail_415 FU r0 i3 i4 0 h2
    else
      f_X15_trail_150 (f_X15_trail_129 n) FU r0 i2 i3 i4 i5 0 1000000 0 h
set_option maxRecDepth 100000 in
set_option maxHeartbeats 4000000 in
theorem l_X15_trail_129 {X : MX} {l : Launch} {G : GX} {h0 : AH} {rr : Int32} {hr : AH} (C : Cx X G RX15 cX15_trail 12 (some .int) 1 40 h0) (C2 : Cy X l "trail" []) : ∀ (n : Nat) (r0 : Nat) (i2 : Int32) (i3 : Int32) (i4 : Int32) (i5 : Int32) (h : AH), f_X15_trail_129 n r0 i2 i3 i4 i5 h = some (rr, hr) → V X G h0 (QI rr hr) 129 [(0, .ref r0), (2, .int i2), (3, .int i3), (4, .int i4), (5, .int i5)] [] h := by
  intro n
  induction n with
  | zero => intro r0 i2 i3 i4 i5 h hf; rw [f_X15_trail_129] at hf; cases hf
  | succ n ih =>
    intro r0 i2 i3 i4 i5 h hf
    rw [f_X15_trail_129] at hf
    refine C.seg (pe := 133) (lv' := [(0, .ref r0), (2, .int i2), (3, .int i3), (4, .int i4), (5, .int i5)]) (st' := [.ref r0, .int 1, .int i5]) [(.iload 5, 2, 0), (.iconst 1, 1, 1), (.aload_n 0, 1, 0)] (by decide +kernel) rfl ?_
    obtain ⟨x1, gx1, hf⟩ := Option.bind_eq_some_iff.mp hf
    refine C.rdI fr_1887 gx1 (by decide +kernel) rfl ?_
    refine C.seg (pe := 137) (lv' := [(0, .ref r0), (2, .int i2), (3, .int i3), (4, .int i4), (5, .int i5)]) (st' := [.int (1 <<< (x1 &&& 31)), .int i5]) [(.ishl, 1, 0)] (by decide +kernel) rfl ?_
    refine C.icmp_ge (off := 270) (tgt := 407) (pf := 140) (by decide +kernel) (by decide) rfl (fun c3 => ?_) (fun c3 => ?_)
    · replace hf := ifp c3 hf
      refine C.seg (pe := 409) (lv' := [(0, .ref r0), (2, .int i2), (3, .int i3), (4, .int i4), (5, .int i5)]) (st' := [.int 0, .ref r0]) [(.aload_n 0, 1, 0), (.iconst 0, 1, 0)] (by decide +kernel) rfl ?_
      obtain ⟨h2, gh2, hf⟩ := Option.bind_eq_some_iff.mp hf
      refine C.putI fl_1888 gh2 (by decide +kernel) rfl ?_
      refine C.seg (pe := 415) (lv' := [(5, .int 0), (0, .ref r0), (2, .int i2), (3, .int i3), (4, .int i4)]) (st' := []) [(.iconst 0, 1, 0), (.istore 5, 2, 0)] (by decide +kernel) rfl ?_
      refine Vsub [1, 3, 4, 0] rfl ?_
      exact l_X15_trail_415 C C2 FU r0 i3 i4 0 h2 hf
    · replace hf := ifn c3 hf
      refine C.seg (pe := 143) (lv' := [(6, .int 0), (0, .ref r0), (2, .int i2), (3, .int i3), (4, .int i4), (5, .int i5)]) (st' := []) [(.iconst 0, 1, 0), (.istore 6, 2, 0)] (by decide +kernel) rfl ?_
      refine C.ldcI k_1785 (by decide +kernel) rfl ?_
      refine C.seg (pe := 150) (lv' := [(8, .int 0), (7, .int 1000000), (6, .int 0), (0, .ref r0), (2, .int i2), (3, .int i3), (4, .int i4), (5, .int i5)]) (st' := []) [(.istore 7, 2, 0), (.iconst 0, 1, 0), (.istore 8, 2, 0)] (by decide +kernel) rfl ?_
      refine Vsub [3, 4, 5, 6, 7, 2, 1, 0] rfl ?_
      exact l_X15_trail_150 C C2 ih FU r0 i2 i3 i4 i5 0 1000000 0 h hf
def f_X15_trail_100 (k31 : Nat → Int32 → Int32 → Int32 → AH → Option (Int32 × AH)) (r0 : Nat) (i1 : Int32) (i2 : Int32) (i3 : Int32) (h : AH) : Option (Int32 × AH) :=
  k31 r0 i1 i2 (i3 + 1) h
set_option maxRecDepth 100000 in
set_option maxHeartbeats 4000000 in
theorem l_X15_trail_100 {X : MX} {l : Launch} {G : GX} {h0 : AH} {rr : Int32} {hr : AH} (C : Cx X G RX15 cX15_trail 12 (some .int) 1 40 h0) (C2 : Cy X l "trail" []) {k31 : Nat → Int32 → Int32 → Int32 → AH → Option (Int32 × AH)} (hk31 : ∀ (r0 : Nat) (i1 : Int32) (i2 : Int32) (i3 : Int32) (h : AH), k31 r0 i1 i2 i3 h = some (rr, hr) → V X G h0 (QI rr hr) 31 [(0, .ref r0), (1, .int i1), (2, .int i2), (3, .int i3)] [] h) (r0 : Nat) (i1 : Int32) (i2 : Int32) (i3 : Int32) (h : AH) (hf : f_X15_trail_100 k31 r0 i1 i2 i3 h = some (rr, hr)) : V X G h0 (QI rr hr) 100 [(0, .ref r0), (1, .int i1), (2, .int i2), (3, .int i3)] [] h := by
  unfold f_X15_trail_100 at hf
  refine C.seg (pe := 103) (lv' := [(3, .int (i3 + 1)), (0, .ref r0), (1, .int i1), (2, .int i2)]) (st' := []) [(.iinc 3 1, 3, 1)] (by decide +kernel) rfl ?_
  refine C.goto (off := (-72)) (tgt := 31) (by decide +kernel) (by decide) ?_
  refine Vsub [1, 2, 3, 0] rfl ?_
  exact hk31 r0 i1 i2 (i3 + 1) h hf
def f_X15_trail_31 : Nat → Nat → Int32 → Int32 → Int32 → AH → Option (Int32 × AH)
  | 0, _, _, _, _, _ => none
  | n + 1, r0, i1, i2, i3, h =>
    (gI 15 h r0 4).bind fun x1 =>
    if x1 ≤ i3 then
      (gI 15 h r0 101).bind fun x2 =>
      if x2 = 0 then
        b2 (f_X15_done r0 (-2) h) fun x3 h4 =>
        some (x3, h4)
      else
        f_X15_trail_129 FU r0 i2 0 1000000 1 h
    else
      (gA 15 h r0 12).bind fun a6 =>
      (aI 0 h a6 i3).bind fun x7 =>
      if x7 &&& i1 = 0 then
        f_X15_trail_100 (f_X15_trail_31 n) r0 i1 i2 i3 h
      else
        (gI 15 h r0 101).bind fun x8 =>
        if x8 = 9 then
          b2 (f_X15_refused r0 6 h) fun x17 h18 =>
          some (x17, h18)
        else
          (gA 15 h r0 99).bind fun a9 =>
          (gI 15 h r0 101).bind fun x10 =>
          (sI 0 h a9 x10 i3).bind fun h11 =>
          (gI 15 h11 r0 101).bind fun x12 =>
          (pI 15 h11 r0 101 (x12 + 1)).bind fun h13 =>
          (gA 15 h13 r0 12).bind fun a14 =>
          (aI 0 h13 a14 i3).bind fun x15 =>
          lt (i2 ||| (x15 &&& i1) : Int32) fun x16 =>
          f_X15_trail_100 (f_X15_trail_31 n) r0 i1 x16 i3 h13
set_option maxRecDepth 100000 in
set_option maxHeartbeats 4000000 in
theorem l_X15_trail_31 {X : MX} {l : Launch} {G : GX} {h0 : AH} {rr : Int32} {hr : AH} (C : Cx X G RX15 cX15_trail 12 (some .int) 1 40 h0) (C2 : Cy X l "trail" []) : ∀ (n : Nat) (r0 : Nat) (i1 : Int32) (i2 : Int32) (i3 : Int32) (h : AH), f_X15_trail_31 n r0 i1 i2 i3 h = some (rr, hr) → V X G h0 (QI rr hr) 31 [(0, .ref r0), (1, .int i1), (2, .int i2), (3, .int i3)] [] h := by
  intro n
  induction n with
  | zero => intro r0 i1 i2 i3 h hf; rw [f_X15_trail_31] at hf; cases hf
  | succ n ih =>
    intro r0 i1 i2 i3 h hf
    rw [f_X15_trail_31] at hf
    refine C.seg (pe := 33) (lv' := [(0, .ref r0), (1, .int i1), (2, .int i2), (3, .int i3)]) (st' := [.ref r0, .int i3]) [(.iload_n 3, 1, 0), (.aload_n 0, 1, 0)] (by decide +kernel) rfl ?_
    obtain ⟨x1, gx1, hf⟩ := Option.bind_eq_some_iff.mp hf
    refine C.rdI fr_1790 gx1 (by decide +kernel) rfl ?_
    refine C.icmp_ge (off := 70) (tgt := 106) (pf := 39) (by decide +kernel) (by decide) rfl (fun c21 => ?_) (fun c21 => ?_)
    · replace hf := ifp c21 hf
      refine C.seg (pe := 107) (lv' := [(0, .ref r0), (1, .int i1), (2, .int i2), (3, .int i3)]) (st' := [.ref r0]) [(.aload_n 0, 1, 0)] (by decide +kernel) rfl ?_
      obtain ⟨x2, gx2, hf⟩ := Option.bind_eq_some_iff.mp hf
      refine C.rdI fr_1887 gx2 (by decide +kernel) rfl ?_
      refine C.if_ne (off := 10) (tgt := 120) (pf := 113) (by decide +kernel) (by decide) rfl (fun c5 => ?_) (fun c5 => ?_)
      · replace hf := ifn c5 hf
        refine C.seg (pe := 122) (lv' := [(3, .int 0), (0, .ref r0), (1, .int i1), (2, .int i2)]) (st' := []) [(.iconst 0, 1, 0), (.istore_n 3, 1, 0)] (by decide +kernel) rfl ?_
        refine C.ldcI k_1785 (by decide +kernel) rfl ?_
        refine C.seg (pe := 129) (lv' := [(5, .int 1), (4, .int 1000000), (3, .int 0), (0, .ref r0), (1, .int i1), (2, .int i2)]) (st' := []) [(.istore 4, 2, 0), (.iconst 1, 1, 1), (.istore 5, 2, 0)] (by decide +kernel) rfl ?_
        refine Vsub [3, 5, 2, 1, 0] rfl ?_
        exact l_X15_trail_129 C C2 FU r0 i2 0 1000000 1 h hf
      · replace hf := ifp c5 hf
        refine C.seg (pe := 116) (lv' := [(0, .ref r0), (1, .int i1), (2, .int i2), (3, .int i3)]) (st' := [.int (-2), .ref r0]) [(.aload_n 0, 1, 0), (.bipush (-2), 2, (-2))] (by decide +kernel) rfl ?_
        obtain ⟨x3, h4, gx3, hf⟩ := b2_some hf
        refine C.callVr C2 [.int (-2)] [] mv_2116 rfl (o_X15_done gx3) (w_X15_done gx3) (by omega) (by omega) (Nat.le_of_ble_eq_true rfl) (by decide +kernel) rfl ?_
        cases hf
        exact C.retI rfl (by decide +kernel) ⟨rfl, rfl⟩
    · replace hf := ifn c21 hf
      refine C.seg (pe := 40) (lv' := [(0, .ref r0), (1, .int i1), (2, .int i2), (3, .int i3)]) (st' := [.ref r0]) [(.aload_n 0, 1, 0)] (by decide +kernel) rfl ?_
      obtain ⟨a6, ga6, hf⟩ := Option.bind_eq_some_iff.mp hf
      refine C.rdA fr_1798 ga6 (by decide +kernel) rfl ?_
      refine C.seg (pe := 44) (lv' := [(0, .ref r0), (1, .int i1), (2, .int i2), (3, .int i3)]) (st' := [.int i3, .ref a6]) [(.iload_n 3, 1, 0)] (by decide +kernel) rfl ?_
      obtain ⟨x7, gx7, hf⟩ := Option.bind_eq_some_iff.mp hf
      refine C.ald 0 rfl gx7 (by decide +kernel) rfl ?_
      refine C.seg (pe := 47) (lv' := [(0, .ref r0), (1, .int i1), (2, .int i2), (3, .int i3)]) (st' := [.int (x7 &&& i1)]) [(.iload_n 1, 1, 0), (.iand, 1, 0)] (by decide +kernel) rfl ?_
      refine C.if_ne (off := 6) (tgt := 53) (pf := 50) (by decide +kernel) (by decide) rfl (fun c20 => ?_) (fun c20 => ?_)
      · replace hf := ifn c20 hf
        refine C.seg (pe := 54) (lv' := [(0, .ref r0), (1, .int i1), (2, .int i2), (3, .int i3)]) (st' := [.ref r0]) [(.aload_n 0, 1, 0)] (by decide +kernel) rfl ?_
        obtain ⟨x8, gx8, hf⟩ := Option.bind_eq_some_iff.mp hf
        refine C.rdI fr_1887 gx8 (by decide +kernel) rfl ?_
        refine C.seg (pe := 59) (lv' := [(0, .ref r0), (1, .int i1), (2, .int i2), (3, .int i3)]) (st' := [.int 9, .int x8]) [(.bipush 9, 2, 9)] (by decide +kernel) rfl ?_
        refine C.icmp_ne (off := 10) (tgt := 69) (pf := 62) (by decide +kernel) (by decide) rfl (fun c19 => ?_) (fun c19 => ?_)
        · replace hf := ifn c19 hf
          refine C.seg (pe := 70) (lv' := [(0, .ref r0), (1, .int i1), (2, .int i2), (3, .int i3)]) (st' := [.ref r0]) [(.aload_n 0, 1, 0)] (by decide +kernel) rfl ?_
          obtain ⟨a9, ga9, hf⟩ := Option.bind_eq_some_iff.mp hf
          refine C.rdA fr_1885 ga9 (by decide +kernel) rfl ?_
          refine C.seg (pe := 74) (lv' := [(0, .ref r0), (1, .int i1), (2, .int i2), (3, .int i3)]) (st' := [.ref r0, .ref a9]) [(.aload_n 0, 1, 0)] (by decide +kernel) rfl ?_
          obtain ⟨x10, gx10, hf⟩ := Option.bind_eq_some_iff.mp hf
          refine C.rdI fr_1887 gx10 (by decide +kernel) rfl ?_
          refine C.seg (pe := 78) (lv' := [(0, .ref r0), (1, .int i1), (2, .int i2), (3, .int i3)]) (st' := [.int i3, .int x10, .ref a9]) [(.iload_n 3, 1, 0)] (by decide +kernel) rfl ?_
          obtain ⟨h11, gh11, hf⟩ := Option.bind_eq_some_iff.mp hf
          refine C.ast gh11 (by decide +kernel) rfl ?_
          refine C.seg (pe := 81) (lv' := [(0, .ref r0), (1, .int i1), (2, .int i2), (3, .int i3)]) (st' := [.ref r0, .ref r0]) [(.aload_n 0, 1, 0), (.dup, 1, 0)] (by decide +kernel) rfl ?_
          obtain ⟨x12, gx12, hf⟩ := Option.bind_eq_some_iff.mp hf
          refine C.rdI fr_1887 gx12 (by decide +kernel) rfl ?_
          refine C.seg (pe := 86) (lv' := [(0, .ref r0), (1, .int i1), (2, .int i2), (3, .int i3)]) (st' := [.int (x12 + 1), .ref r0]) [(.iconst 1, 1, 1), (.iadd, 1, 0)] (by decide +kernel) rfl ?_
          obtain ⟨h13, gh13, hf⟩ := Option.bind_eq_some_iff.mp hf
          refine C.putI fl_1887 gh13 (by decide +kernel) rfl ?_
          refine C.seg (pe := 91) (lv' := [(0, .ref r0), (1, .int i1), (2, .int i2), (3, .int i3)]) (st' := [.ref r0, .int i2]) [(.iload_n 2, 1, 0), (.aload_n 0, 1, 0)] (by decide +kernel) rfl ?_
          obtain ⟨a14, ga14, hf⟩ := Option.bind_eq_some_iff.mp hf
          refine C.rdA fr_1798 ga14 (by decide +kernel) rfl ?_
          refine C.seg (pe := 95) (lv' := [(0, .ref r0), (1, .int i1), (2, .int i2), (3, .int i3)]) (st' := [.int i3, .ref a14, .int i2]) [(.iload_n 3, 1, 0)] (by decide +kernel) rfl ?_
          obtain ⟨x15, gx15, hf⟩ := Option.bind_eq_some_iff.mp hf
          refine C.ald 0 rfl gx15 (by decide +kernel) rfl ?_
          refine C.seg (pe := 99) (lv' := [(0, .ref r0), (1, .int i1), (2, .int i2), (3, .int i3)]) (st' := [.int (i2 ||| (x15 &&& i1))]) [(.iload_n 1, 1, 0), (.iand, 1, 0), (.ior, 1, 0)] (by decide +kernel) rfl ?_
          refine Vtopi (fun x16 ex16 => ?_)
          replace hf := lt_ap ex16 hf
          clear ex16
          refine C.seg (pe := 100) (lv' := [(2, .int x16), (0, .ref r0), (1, .int i1), (3, .int i3)]) (st' := []) [(.istore_n 2, 1, 0)] (by decide +kernel) rfl ?_
          refine Vsub [1, 2, 0, 3] rfl ?_
          exact l_X15_trail_100 C C2 ih r0 i1 x16 i3 h13 hf
        · replace hf := ifp c19 hf
          refine C.seg (pe := 65) (lv' := [(0, .ref r0), (1, .int i1), (2, .int i2), (3, .int i3)]) (st' := [.int 6, .ref r0]) [(.aload_n 0, 1, 0), (.bipush 6, 2, 6)] (by decide +kernel) rfl ?_
          obtain ⟨x17, h18, gx17, hf⟩ := b2_some hf
          refine C.callVr C2 [.int 6] [] mv_2112 rfl (o_X15_refused gx17) (w_X15_refused gx17) (by omega) (by omega) (Nat.le_of_ble_eq_true rfl) (by decide +kernel) rfl ?_
          cases hf
          exact C.retI rfl (by decide +kernel) ⟨rfl, rfl⟩
      · replace hf := ifp c20 hf
        refine C.goto (off := 50) (tgt := 100) (by decide +kernel) (by decide) ?_
        exact l_X15_trail_100 C C2 ih r0 i1 i2 i3 h hf
def f_X15_trail (a0 : Nat) (p1 : Int32) (h : AH) : Option (Int32 × AH) :=
  if isO 15 h a0 = true then
    (pI 15 h a0 0 0).bind fun h1 =>
    b2 (f_X15_in p1 0 1023 h1) fun x2 h3 =>
    if x2 = 0 then
      b2 (f_X15_refused a0 2 h3) fun x5 h6 =>
      some (x5, h6)
    else
      (pI 15 h3 a0 101 0).bind fun h4 =>
      f_X15_trail_31 FU a0 p1 0 0 h4
  else none
set_option maxRecDepth 100000 in
set_option maxHeartbeats 4000000 in
theorem w_X15_trail {l : Launch} {G : GX} {a0 : Nat} {p1 : Int32} {h : AH} {rr : Int32} {hr : AH} (hf : f_X15_trail a0 p1 h = some (rr, hr)) : Ct l G yX15_trail 1 40 [.ref a0, .int p1] h (QI rr hr) := by
  unfold f_X15_trail at hf
  obtain ⟨ho, hf⟩ := ifO hf
  refine Ct_of (own := RX15) (cc := cX15_trail) (nL := 12) (ret := (some .int)) rfl rfl k_2525 (Nat.le_of_ble_eq_true rfl) (fun X C2 C => ?_)
  show V X G h (QI rr hr) 0 [(0, .ref a0), (1, .int p1)] [] h
  refine C.seg (pe := 2) (lv' := [(0, .ref a0), (1, .int p1)]) (st' := [.int 0, .ref a0]) [(.aload_n 0, 1, 0), (.iconst 0, 1, 0)] (by decide +kernel) rfl ?_
  obtain ⟨h1, gh1, hf⟩ := Option.bind_eq_some_iff.mp hf
  refine C.putI fl_1786 gh1 (by decide +kernel) rfl ?_
  refine C.seg (pe := 10) (lv' := [(0, .ref a0), (1, .int p1)]) (st' := [.int 1023, .int 0, .int p1]) [(.iload_n 1, 1, 0), (.iconst 0, 1, 0), (.sipush 1023, 3, 1023)] (by decide +kernel) rfl ?_
  obtain ⟨x2, h3, gx2, hf⟩ := b2_some hf
  refine C.callSr C2 [.int p1, .int 0, .int 1023] [] ms_2109 rfl (w_X15_in gx2) (by omega) (by omega) (Nat.le_of_ble_eq_true rfl) (by decide +kernel) rfl ?_
  refine C.if_ne (off := 9) (tgt := 22) (pf := 16) (by decide +kernel) (by decide) rfl (fun c7 => ?_) (fun c7 => ?_)
  · replace hf := ifn c7 hf
    refine C.seg (pe := 24) (lv' := [(0, .ref a0), (1, .int p1)]) (st' := [.int 0, .ref a0]) [(.aload_n 0, 1, 0), (.iconst 0, 1, 0)] (by decide +kernel) rfl ?_
    obtain ⟨h4, gh4, hf⟩ := Option.bind_eq_some_iff.mp hf
    refine C.putI fl_1887 gh4 (by decide +kernel) rfl ?_
    refine C.seg (pe := 31) (lv' := [(3, .int 0), (2, .int 0), (0, .ref a0), (1, .int p1)]) (st' := []) [(.iconst 0, 1, 0), (.istore_n 2, 1, 0), (.iconst 0, 1, 0), (.istore_n 3, 1, 0)] (by decide +kernel) rfl ?_
    refine Vsub [2, 3, 1, 0] rfl ?_
    exact l_X15_trail_31 C C2 FU a0 p1 0 0 h4 hf
  · replace hf := ifp c7 hf
    refine C.seg (pe := 18) (lv' := [(0, .ref a0), (1, .int p1)]) (st' := [.int 2, .ref a0]) [(.aload_n 0, 1, 0), (.iconst 2, 1, 2)] (by decide +kernel) rfl ?_
    obtain ⟨x5, h6, gx5, hf⟩ := b2_some hf
    refine C.callVr C2 [.int 2] [] mv_2112 rfl (o_X15_refused gx5) (w_X15_refused gx5) (by omega) (by omega) (Nat.le_of_ble_eq_true rfl) (by decide +kernel) rfl ?_
    cases hf
    exact C.retI rfl (by decide +kernel) ⟨rfl, rfl⟩
theorem o_X15_trail {a0 : Nat} {p1 : Int32} {h : AH} {rr : Int32} {hr : AH} (hf : f_X15_trail a0 p1 h = some (rr, hr)) : isO 15 h a0 = true := by
  unfold f_X15_trail at hf
  exact (ifO hf).1
/-! WallHouseModel.trailOf()I -/
def f_X15_trailOf (a0 : Nat) (h : AH) : Option (Int32 × AH) :=
  if isO 15 h a0 = true then
    (pI 15 h a0 0 0).bind fun h1 =>
    (gI 15 h1 a0 102).bind fun x2 =>
    some (x2, h1)
  else none
set_option maxRecDepth 100000 in
set_option maxHeartbeats 4000000 in
theorem w_X15_trailOf {l : Launch} {G : GX} {a0 : Nat} {h : AH} {rr : Int32} {hr : AH} (hf : f_X15_trailOf a0 h = some (rr, hr)) : Ct l G yX15_trailOf 0 0 [.ref a0] h (QI rr hr) := by
  unfold f_X15_trailOf at hf
  obtain ⟨ho, hf⟩ := ifO hf
  refine Ct_of (own := RX15) (cc := cX15_trailOf) (nL := 1) (ret := (some .int)) rfl rfl k_2529 (Nat.le_of_ble_eq_true rfl) (fun X C2 C => ?_)
  show V X G h (QI rr hr) 0 [(0, .ref a0)] [] h
  refine C.seg (pe := 2) (lv' := [(0, .ref a0)]) (st' := [.int 0, .ref a0]) [(.aload_n 0, 1, 0), (.iconst 0, 1, 0)] (by decide +kernel) rfl ?_
  obtain ⟨h1, gh1, hf⟩ := Option.bind_eq_some_iff.mp hf
  refine C.putI fl_1786 gh1 (by decide +kernel) rfl ?_
  refine C.seg (pe := 6) (lv' := [(0, .ref a0)]) (st' := [.ref a0]) [(.aload_n 0, 1, 0)] (by decide +kernel) rfl ?_
  obtain ⟨x2, gx2, hf⟩ := Option.bind_eq_some_iff.mp hf
  refine C.rdI fr_1888 gx2 (by decide +kernel) rfl ?_
  cases hf
  exact C.retI rfl (by decide +kernel) ⟨rfl, rfl⟩
theorem o_X15_trailOf {a0 : Nat} {h : AH} {rr : Int32} {hr : AH} (hf : f_X15_trailOf a0 h = some (rr, hr)) : isO 15 h a0 = true := by
  unfold f_X15_trailOf at hf
  exact (ifO hf).1
/-! WallHouseModel.whoHere()I -/
def f_X15_whoHere_57 (z : ZX) (si0 : Int32) (h : AH) : Option (Int32 × AH) :=
  some (si0, h)
set_option maxRecDepth 100000 in
set_option maxHeartbeats 4000000 in
theorem l_X15_whoHere_57 {X : MX} {l : Launch} {G : GX} {h0 : AH} {rr : Int32} {hr : AH} (C : Cx X G RX15 cX15_whoHere 1 (some .int) 6 129 h0) (C2 : Cy X l "whoHere" []) (si0 : Int32) (h : AH) (hf : f_X15_whoHere_57 G.2.2 si0 h = some (rr, hr)) : V X G h0 (QI rr hr) 57 [] [.int si0] h := by
  unfold f_X15_whoHere_57 at hf
  cases hf
  exact C.retI rfl (by decide +kernel) ⟨rfl, rfl⟩
def f_X15_whoHere (z : ZX) (a0 : Nat) (h : AH) : Option (Int32 × AH) :=
  if isO 15 h a0 = true then
    b2 (f_X15_isWord z a0 ((z.1 26)) h) fun x1 h2 =>
    if x1 = 0 then
      b2 (f_X15_isWord z a0 ((z.1 27)) h2) fun x3 h4 =>
      if x3 = 0 then
        b2 (f_X15_isWord z a0 ((z.1 28)) h4) fun x5 h6 =>
        if x5 = 0 then
          b2 (f_X15_isWord z a0 ((z.1 29)) h6) fun x7 h8 =>
          if x7 = 0 then
            f_X15_whoHere_57 z (-1) h8
          else
            f_X15_whoHere_57 z 3 h8
        else
          f_X15_whoHere_57 z 2 h6
      else
        f_X15_whoHere_57 z 1 h4
    else
      f_X15_whoHere_57 z 0 h2
  else none
set_option maxRecDepth 100000 in
set_option maxHeartbeats 4000000 in
theorem w_X15_whoHere {l : Launch} {G : GX} {a0 : Nat} {h : AH} {rr : Int32} {hr : AH} (hf : f_X15_whoHere G.2.2 a0 h = some (rr, hr)) : Ct l G yX15_whoHere 6 129 [.ref a0] h (QI rr hr) := by
  unfold f_X15_whoHere at hf
  obtain ⟨ho, hf⟩ := ifO hf
  refine Ct_of (own := RX15) (cc := cX15_whoHere) (nL := 1) (ret := (some .int)) rfl rfl k_2542 (Nat.le_of_ble_eq_true rfl) (fun X C2 C => ?_)
  show V X G h (QI rr hr) 0 [(0, .ref a0)] [] h
  refine C.seg (pe := 1) (lv' := [(0, .ref a0)]) (st' := [.ref a0]) [(.aload_n 0, 1, 0)] (by decide +kernel) rfl ?_
  refine C.ldcwS (i := 26) (idx := 634) (tx := "painter") rfl (by decide +kernel) rfl ?_
  obtain ⟨x1, h2, gx1, hf⟩ := b2_some hf
  refine C.callVr C2 [.ref ((G.2.2.1 26))] [] mv_2225 rfl (o_X15_isWord gx1) (w_X15_isWord gx1) (by omega) (by omega) (Nat.le_of_ble_eq_true rfl) (by decide +kernel) rfl ?_
  refine C.if_eq (off := 7) (tgt := 14) (pf := 10) (by decide +kernel) (by decide) rfl (fun c12 => ?_) (fun c12 => ?_)
  · replace hf := ifp c12 hf
    refine C.seg (pe := 15) (lv' := [(0, .ref a0)]) (st' := [.ref a0]) [(.aload_n 0, 1, 0)] (by decide +kernel) rfl ?_
    refine C.ldcwS (i := 27) (idx := 636) (tx := "owner") rfl (by decide +kernel) rfl ?_
    obtain ⟨x3, h4, gx3, hf⟩ := b2_some hf
    refine C.callVr C2 [.ref ((G.2.2.1 27))] [] mv_2225 rfl (o_X15_isWord gx3) (w_X15_isWord gx3) (by omega) (by omega) (Nat.le_of_ble_eq_true rfl) (by decide +kernel) rfl ?_
    refine C.if_eq (off := 7) (tgt := 28) (pf := 24) (by decide +kernel) (by decide) rfl (fun c11 => ?_) (fun c11 => ?_)
    · replace hf := ifp c11 hf
      refine C.seg (pe := 29) (lv' := [(0, .ref a0)]) (st' := [.ref a0]) [(.aload_n 0, 1, 0)] (by decide +kernel) rfl ?_
      refine C.ldcwS (i := 28) (idx := 637) (tx := "town") rfl (by decide +kernel) rfl ?_
      obtain ⟨x5, h6, gx5, hf⟩ := b2_some hf
      refine C.callVr C2 [.ref ((G.2.2.1 28))] [] mv_2225 rfl (o_X15_isWord gx5) (w_X15_isWord gx5) (by omega) (by omega) (Nat.le_of_ble_eq_true rfl) (by decide +kernel) rfl ?_
      refine C.if_eq (off := 7) (tgt := 42) (pf := 38) (by decide +kernel) (by decide) rfl (fun c10 => ?_) (fun c10 => ?_)
      · replace hf := ifp c10 hf
        refine C.seg (pe := 43) (lv' := [(0, .ref a0)]) (st' := [.ref a0]) [(.aload_n 0, 1, 0)] (by decide +kernel) rfl ?_
        refine C.ldcwS (i := 29) (idx := 639) (tx := "school") rfl (by decide +kernel) rfl ?_
        obtain ⟨x7, h8, gx7, hf⟩ := b2_some hf
        refine C.callVr C2 [.ref ((G.2.2.1 29))] [] mv_2225 rfl (o_X15_isWord gx7) (w_X15_isWord gx7) (by omega) (by omega) (Nat.le_of_ble_eq_true rfl) (by decide +kernel) rfl ?_
        refine C.if_eq (off := 7) (tgt := 56) (pf := 52) (by decide +kernel) (by decide) rfl (fun c9 => ?_) (fun c9 => ?_)
        · replace hf := ifp c9 hf
          refine C.seg (pe := 57) (lv' := [(0, .ref a0)]) (st' := [.int (-1)]) [(.iconst (-1), 1, (-1))] (by decide +kernel) rfl ?_
          refine Vsub [] rfl ?_
          exact l_X15_whoHere_57 C C2 (-1) h8 hf
        · replace hf := ifn c9 hf
          refine C.seg (pe := 53) (lv' := [(0, .ref a0)]) (st' := [.int 3]) [(.iconst 3, 1, 3)] (by decide +kernel) rfl ?_
          refine C.goto (off := 4) (tgt := 57) (by decide +kernel) (by decide) ?_
          refine Vsub [] rfl ?_
          exact l_X15_whoHere_57 C C2 3 h8 hf
      · replace hf := ifn c10 hf
        refine C.seg (pe := 39) (lv' := [(0, .ref a0)]) (st' := [.int 2]) [(.iconst 2, 1, 2)] (by decide +kernel) rfl ?_
        refine C.goto (off := 18) (tgt := 57) (by decide +kernel) (by decide) ?_
        refine Vsub [] rfl ?_
        exact l_X15_whoHere_57 C C2 2 h6 hf
    · replace hf := ifn c11 hf
      refine C.seg (pe := 25) (lv' := [(0, .ref a0)]) (st' := [.int 1]) [(.iconst 1, 1, 1)] (by decide +kernel) rfl ?_
      refine C.goto (off := 32) (tgt := 57) (by decide +kernel) (by decide) ?_
      refine Vsub [] rfl ?_
      exact l_X15_whoHere_57 C C2 1 h4 hf
  · replace hf := ifn c12 hf
    refine C.seg (pe := 11) (lv' := [(0, .ref a0)]) (st' := [.int 0]) [(.iconst 0, 1, 0)] (by decide +kernel) rfl ?_
    refine C.goto (off := 46) (tgt := 57) (by decide +kernel) (by decide) ?_
    refine Vsub [] rfl ?_
    exact l_X15_whoHere_57 C C2 0 h2 hf
theorem o_X15_whoHere {z : ZX} {a0 : Nat} {h : AH} {rr : Int32} {hr : AH} (hf : f_X15_whoHere z a0 h = some (rr, hr)) : isO 15 h a0 = true := by
  unfold f_X15_whoHere at hf
  exact (ifO hf).1
/-! WallHouseModel.readRight()V -/
def f_X15_readRight_175 (z : ZX) (k18 : Nat → Nat → Int32 → Int32 → AH → Option (Option Nat × AH)) (r0 : Nat) (r1 : Nat) (i2 : Int32) (h : AH) : Option (Option Nat × AH) :=
  (gI 13 h r1 0).bind fun x1 =>
  (pI 13 h r1 0 (x1 + 1)).bind fun h2 =>
  b2 (f_X15_is r0 44 h2) fun x3 h4 =>
  if x3 = 0 then
    k18 r0 r1 i2 x3 h4
  else
    (f_X15_next r0 h4).bind fun h5 =>
    k18 r0 r1 i2 x3 h5
set_option maxRecDepth 100000 in
set_option maxHeartbeats 4000000 in
theorem l_X15_readRight_175 {X : MX} {l : Launch} {G : GX} {h0 : AH} {e1 : Option Nat} {hr : AH} (C : Cx X G RX15 cX15_readRight 4 none 7 149 h0) (C2 : Cy X l "readRight" []) {k18 : Nat → Nat → Int32 → Int32 → AH → Option (Option Nat × AH)} (hk18 : ∀ (r0 : Nat) (r1 : Nat) (i2 : Int32) (i3 : Int32) (h : AH), k18 r0 r1 i2 i3 h = some (e1, hr) → V X G h0 (QT e1 hr) 18 [(0, .ref r0), (1, .ref r1), (2, .int i2), (3, .int i3)] [] h) (r0 : Nat) (r1 : Nat) (i2 : Int32) (h : AH) (hf : f_X15_readRight_175 G.2.2 k18 r0 r1 i2 h = some (e1, hr)) : V X G h0 (QT e1 hr) 175 [(0, .ref r0), (1, .ref r1), (2, .int i2)] [] h := by
  unfold f_X15_readRight_175 at hf
  refine C.seg (pe := 177) (lv' := [(0, .ref r0), (1, .ref r1), (2, .int i2)]) (st' := [.ref r1, .ref r1]) [(.aload_n 1, 1, 0), (.dup, 1, 0)] (by decide +kernel) rfl ?_
  obtain ⟨x1, gx1, hf⟩ := Option.bind_eq_some_iff.mp hf
  refine C.rdI fr_1773 gx1 (by decide +kernel) rfl ?_
  refine C.seg (pe := 182) (lv' := [(0, .ref r0), (1, .ref r1), (2, .int i2)]) (st' := [.int (x1 + 1), .ref r1]) [(.iconst 1, 1, 1), (.iadd, 1, 0)] (by decide +kernel) rfl ?_
  obtain ⟨h2, gh2, hf⟩ := Option.bind_eq_some_iff.mp hf
  refine C.putI fl_1773 gh2 (by decide +kernel) rfl ?_
  refine C.seg (pe := 188) (lv' := [(0, .ref r0), (1, .ref r1), (2, .int i2)]) (st' := [.int 44, .ref r0]) [(.aload_n 0, 1, 0), (.bipush 44, 2, 44)] (by decide +kernel) rfl ?_
  obtain ⟨x3, h4, gx3, hf⟩ := b2_some hf
  refine C.callVr C2 [.int 44] [] mv_2258 rfl (o_X15_is gx3) (w_X15_is gx3) (by omega) (by omega) (Nat.le_of_ble_eq_true rfl) (by decide +kernel) rfl ?_
  refine C.seg (pe := 193) (lv' := [(3, .int x3), (0, .ref r0), (1, .ref r1), (2, .int i2)]) (st' := [.int x3]) [(.istore_n 3, 1, 0), (.iload_n 3, 1, 0)] (by decide +kernel) rfl ?_
  refine C.if_eq (off := (-175)) (tgt := 18) (pf := 196) (by decide +kernel) (by decide) rfl (fun c6 => ?_) (fun c6 => ?_)
  · replace hf := ifp c6 hf
    refine Vsub [1, 2, 3, 0] rfl ?_
    exact hk18 r0 r1 i2 x3 h4 hf
  · replace hf := ifn c6 hf
    refine C.seg (pe := 197) (lv' := [(3, .int x3), (0, .ref r0), (1, .ref r1), (2, .int i2)]) (st' := [.ref r0]) [(.aload_n 0, 1, 0)] (by decide +kernel) rfl ?_
    obtain ⟨h5, gh5, hf⟩ := Option.bind_eq_some_iff.mp hf
    refine C.callVr C2 [] [] mv_2193 rfl (o_X15_next gh5) (w_X15_next gh5) (by omega) (by omega) (Nat.le_of_ble_eq_true rfl) (by decide +kernel) rfl ?_
    refine C.goto (off := (-182)) (tgt := 18) (by decide +kernel) (by decide) ?_
    refine Vsub [1, 2, 3, 0] rfl ?_
    exact hk18 r0 r1 i2 x3 h5 hf
def f_X15_readRight_40 (z : ZX) (r0 : Nat) (h : AH) : Option (Option Nat × AH) :=
  b2 (f_X15_stop r0 1 h) fun q1 h2 =>
  tr q1 (
    none) fun a3 =>
  some (some a3, h2)
set_option maxRecDepth 100000 in
set_option maxHeartbeats 4000000 in
theorem l_X15_readRight_40 {X : MX} {l : Launch} {G : GX} {h0 : AH} {e1 : Option Nat} {hr : AH} (C : Cx X G RX15 cX15_readRight 4 none 7 149 h0) (C2 : Cy X l "readRight" []) (r0 : Nat) (h : AH) (hf : f_X15_readRight_40 G.2.2 r0 h = some (e1, hr)) : V X G h0 (QT e1 hr) 40 [(0, .ref r0)] [] h := by
  unfold f_X15_readRight_40 at hf
  refine C.seg (pe := 42) (lv' := [(0, .ref r0)]) (st' := [.int 1, .ref r0]) [(.aload_n 0, 1, 0), (.iconst 1, 1, 1)] (by decide +kernel) rfl ?_
  obtain ⟨q1, h2, gq1, hf⟩ := b2_some hf
  cases q1 with
  | none =>
    replace hf := tr_none hf
    refine C.callVr C2 [.int 1] [] mv_2220 rfl (o_X15_stop gq1) (w_X15_stop gq1) (by omega) (by omega) (Nat.le_of_ble_eq_true rfl) (by decide +kernel) rfl ?_
    cases hf
  | some a3 =>
    replace hf := tr_some hf
    refine C.callVr C2 [.int 1] [] mv_2220 rfl (o_X15_stop gq1) (w_X15_stop gq1) (by omega) (by omega) (Nat.le_of_ble_eq_true rfl) (by decide +kernel) rfl ?_
    cases hf
    exact C.athrow C2 (by decide +kernel) ⟨rfl, rfl⟩
def f_X15_readRight_18 (z : ZX) : Nat → Nat → Nat → Int32 → Int32 → AH → Option (Option Nat × AH)
  | 0, _, _, _, _, _ => none
  | n + 1, r0, r1, i2, i3, h =>
    if i3 = 0 then
      (gI 15 h r0 28).bind fun x1 =>
      if x1 = 1 then
        some (none, h)
      else
        b2 (f_X15_stop r0 1 h) fun q2 h3 =>
        tr q2 (
          none) fun a4 =>
        some (some a4, h3)
    else
      (gI 15 h r0 28).bind fun x6 =>
      if x6 = 2 then
        b2 (f_X15_isWord z r0 ((z.1 25)) h) fun x7 h8 =>
        if x7 = 0 then
          b2 (f_X15_whoHere z r0 h8) fun x9 h10 =>
          if x9 = (-1) then
            b2 (f_X15_stop r0 2 h10) fun q47 h48 =>
            tr q47 (
              none) fun a49 =>
            some (some a49, h48)
          else
            (gI 13 h10 r1 0).bind fun x11 =>
            if x11 = 8 then
              b2 (f_X15_stop r0 4 h10) fun q43 h44 =>
              tr q43 (
                none) fun a45 =>
              some (some a45, h44)
            else
              (gA 13 h10 r1 1).bind fun a12 =>
              (gI 13 h10 r1 0).bind fun x13 =>
              b2 (f_X15_whoHere z r0 h10) fun x14 h15 =>
              (sI 0 h15 a12 x13 x14).bind fun h16 =>
              (gA 13 h16 r1 2).bind fun a17 =>
              (gI 13 h16 r1 0).bind fun x18 =>
              (sI 0 h16 a17 x18 (-1)).bind fun h19 =>
              (f_X15_next r0 h19).bind fun h20 =>
              b2 (f_X15_isWord z r0 ((z.1 25)) h20) fun x21 h22 =>
              if x21 = 0 then
                (gI 15 h22 r0 28).bind fun x23 =>
                if x23 = 3 then
                  (gI 15 h22 r0 31).bind fun x24 =>
                  if i2 + x24 ≤ 100 then
                    (gA 13 h22 r1 2).bind fun a25 =>
                    (gI 13 h22 r1 0).bind fun x26 =>
                    (gI 15 h22 r0 31).bind fun x27 =>
                    (sI 0 h22 a25 x26 x27).bind fun h28 =>
                    (f_X15_next r0 h28).bind fun h29 =>
                    b2 (f_X15_need r0 37 h29) fun q30 h31 =>
                    tr q30 (
                      f_X15_readRight_175 z (f_X15_readRight_18 z n) r0 r1 (i2 + x24) h31) fun a32 =>
                    some (some a32, h31)
                  else
                    b2 (f_X15_stop r0 3 h22) fun q33 h34 =>
                    tr q33 (
                      none) fun a35 =>
                    some (some a35, h34)
                else
                  b2 (f_X15_stop r0 1 h22) fun q37 h38 =>
                  tr q37 (
                    none) fun a39 =>
                  some (some a39, h38)
              else
                (f_X15_next r0 h22).bind fun h41 =>
                f_X15_readRight_175 z (f_X15_readRight_18 z n) r0 r1 i2 h41
        else
          f_X15_readRight_40 z r0 h8
      else
        f_X15_readRight_40 z r0 h
set_option maxRecDepth 100000 in
set_option maxHeartbeats 4000000 in
theorem l_X15_readRight_18 {X : MX} {l : Launch} {G : GX} {h0 : AH} {e1 : Option Nat} {hr : AH} (C : Cx X G RX15 cX15_readRight 4 none 7 149 h0) (C2 : Cy X l "readRight" []) : ∀ (n : Nat) (r0 : Nat) (r1 : Nat) (i2 : Int32) (i3 : Int32) (h : AH), f_X15_readRight_18 G.2.2 n r0 r1 i2 i3 h = some (e1, hr) → V X G h0 (QT e1 hr) 18 [(0, .ref r0), (1, .ref r1), (2, .int i2), (3, .int i3)] [] h := by
  intro n
  induction n with
  | zero => intro r0 r1 i2 i3 h hf; rw [f_X15_readRight_18] at hf; cases hf
  | succ n ih =>
    intro r0 r1 i2 i3 h hf
    rw [f_X15_readRight_18] at hf
    refine C.seg (pe := 19) (lv' := [(0, .ref r0), (1, .ref r1), (2, .int i2), (3, .int i3)]) (st' := [.int i3]) [(.iload_n 3, 1, 0)] (by decide +kernel) rfl ?_
    refine C.if_eq (off := 184) (tgt := 203) (pf := 22) (by decide +kernel) (by decide) rfl (fun c53 => ?_) (fun c53 => ?_)
    · replace hf := ifp c53 hf
      refine C.seg (pe := 204) (lv' := [(0, .ref r0), (1, .ref r1), (2, .int i2), (3, .int i3)]) (st' := [.ref r0]) [(.aload_n 0, 1, 0)] (by decide +kernel) rfl ?_
      obtain ⟨x1, gx1, hf⟩ := Option.bind_eq_some_iff.mp hf
      refine C.rdI fr_1814 gx1 (by decide +kernel) rfl ?_
      refine C.seg (pe := 208) (lv' := [(0, .ref r0), (1, .ref r1), (2, .int i2), (3, .int i3)]) (st' := [.int 1, .int x1]) [(.iconst 1, 1, 1)] (by decide +kernel) rfl ?_
      refine C.icmp_eq (off := 9) (tgt := 217) (pf := 211) (by decide +kernel) (by decide) rfl (fun c5 => ?_) (fun c5 => ?_)
      · replace hf := ifp c5 hf
        cases hf
        exact C.retV rfl (by decide +kernel) ⟨rfl, rfl⟩
      · replace hf := ifn c5 hf
        refine C.seg (pe := 213) (lv' := [(0, .ref r0), (1, .ref r1), (2, .int i2), (3, .int i3)]) (st' := [.int 1, .ref r0]) [(.aload_n 0, 1, 0), (.iconst 1, 1, 1)] (by decide +kernel) rfl ?_
        obtain ⟨q2, h3, gq2, hf⟩ := b2_some hf
        cases q2 with
        | none =>
          replace hf := tr_none hf
          refine C.callVr C2 [.int 1] [] mv_2220 rfl (o_X15_stop gq2) (w_X15_stop gq2) (by omega) (by omega) (Nat.le_of_ble_eq_true rfl) (by decide +kernel) rfl ?_
          cases hf
        | some a4 =>
          replace hf := tr_some hf
          refine C.callVr C2 [.int 1] [] mv_2220 rfl (o_X15_stop gq2) (w_X15_stop gq2) (by omega) (by omega) (Nat.le_of_ble_eq_true rfl) (by decide +kernel) rfl ?_
          cases hf
          exact C.athrow C2 (by decide +kernel) ⟨rfl, rfl⟩
    · replace hf := ifn c53 hf
      refine C.seg (pe := 23) (lv' := [(0, .ref r0), (1, .ref r1), (2, .int i2), (3, .int i3)]) (st' := [.ref r0]) [(.aload_n 0, 1, 0)] (by decide +kernel) rfl ?_
      obtain ⟨x6, gx6, hf⟩ := Option.bind_eq_some_iff.mp hf
      refine C.rdI fr_1814 gx6 (by decide +kernel) rfl ?_
      refine C.seg (pe := 27) (lv' := [(0, .ref r0), (1, .ref r1), (2, .int i2), (3, .int i3)]) (st' := [.int 2, .int x6]) [(.iconst 2, 1, 2)] (by decide +kernel) rfl ?_
      refine C.icmp_ne (off := 13) (tgt := 40) (pf := 30) (by decide +kernel) (by decide) rfl (fun c52 => ?_) (fun c52 => ?_)
      · replace hf := ifn c52 hf
        refine Vsub [0] rfl ?_
        exact l_X15_readRight_40 C C2 r0 h hf
      · replace hf := ifp c52 hf
        refine C.seg (pe := 31) (lv' := [(0, .ref r0), (1, .ref r1), (2, .int i2), (3, .int i3)]) (st' := [.ref r0]) [(.aload_n 0, 1, 0)] (by decide +kernel) rfl ?_
        refine C.ldcwS (i := 25) (idx := 644) (tx := "rest") rfl (by decide +kernel) rfl ?_
        obtain ⟨x7, h8, gx7, hf⟩ := b2_some hf
        refine C.callVr C2 [.ref ((G.2.2.1 25))] [] mv_2225 rfl (o_X15_isWord gx7) (w_X15_isWord gx7) (by omega) (by omega) (Nat.le_of_ble_eq_true rfl) (by decide +kernel) rfl ?_
        refine C.if_eq (off := 9) (tgt := 46) (pf := 40) (by decide +kernel) (by decide) rfl (fun c51 => ?_) (fun c51 => ?_)
        · replace hf := ifp c51 hf
          refine C.seg (pe := 47) (lv' := [(0, .ref r0), (1, .ref r1), (2, .int i2), (3, .int i3)]) (st' := [.ref r0]) [(.aload_n 0, 1, 0)] (by decide +kernel) rfl ?_
          obtain ⟨x9, h10, gx9, hf⟩ := b2_some hf
          refine C.callVr C2 [] [] mv_2539 rfl (o_X15_whoHere gx9) (w_X15_whoHere gx9) (by omega) (by omega) (Nat.le_of_ble_eq_true rfl) (by decide +kernel) rfl ?_
          refine C.seg (pe := 51) (lv' := [(0, .ref r0), (1, .ref r1), (2, .int i2), (3, .int i3)]) (st' := [.int (-1), .int x9]) [(.iconst (-1), 1, (-1))] (by decide +kernel) rfl ?_
          refine C.icmp_ne (off := 9) (tgt := 60) (pf := 54) (by decide +kernel) (by decide) rfl (fun c50 => ?_) (fun c50 => ?_)
          · replace hf := ifn c50 hf
            refine C.seg (pe := 61) (lv' := [(0, .ref r0), (1, .ref r1), (2, .int i2), (3, .int i3)]) (st' := [.ref r1]) [(.aload_n 1, 1, 0)] (by decide +kernel) rfl ?_
            obtain ⟨x11, gx11, hf⟩ := Option.bind_eq_some_iff.mp hf
            refine C.rdI fr_1773 gx11 (by decide +kernel) rfl ?_
            refine C.seg (pe := 66) (lv' := [(0, .ref r0), (1, .ref r1), (2, .int i2), (3, .int i3)]) (st' := [.int 8, .int x11]) [(.bipush 8, 2, 8)] (by decide +kernel) rfl ?_
            refine C.icmp_ne (off := 9) (tgt := 75) (pf := 69) (by decide +kernel) (by decide) rfl (fun c46 => ?_) (fun c46 => ?_)
            · replace hf := ifn c46 hf
              refine C.seg (pe := 76) (lv' := [(0, .ref r0), (1, .ref r1), (2, .int i2), (3, .int i3)]) (st' := [.ref r1]) [(.aload_n 1, 1, 0)] (by decide +kernel) rfl ?_
              obtain ⟨a12, ga12, hf⟩ := Option.bind_eq_some_iff.mp hf
              refine C.rdA fr_1775 ga12 (by decide +kernel) rfl ?_
              refine C.seg (pe := 80) (lv' := [(0, .ref r0), (1, .ref r1), (2, .int i2), (3, .int i3)]) (st' := [.ref r1, .ref a12]) [(.aload_n 1, 1, 0)] (by decide +kernel) rfl ?_
              obtain ⟨x13, gx13, hf⟩ := Option.bind_eq_some_iff.mp hf
              refine C.rdI fr_1773 gx13 (by decide +kernel) rfl ?_
              refine C.seg (pe := 84) (lv' := [(0, .ref r0), (1, .ref r1), (2, .int i2), (3, .int i3)]) (st' := [.ref r0, .int x13, .ref a12]) [(.aload_n 0, 1, 0)] (by decide +kernel) rfl ?_
              obtain ⟨x14, h15, gx14, hf⟩ := b2_some hf
              refine C.callVr C2 [] [.int x13, .ref a12] mv_2539 rfl (o_X15_whoHere gx14) (w_X15_whoHere gx14) (by omega) (by omega) (Nat.le_of_ble_eq_true rfl) (by decide +kernel) rfl ?_
              obtain ⟨h16, gh16, hf⟩ := Option.bind_eq_some_iff.mp hf
              refine C.ast gh16 (by decide +kernel) rfl ?_
              refine C.seg (pe := 89) (lv' := [(0, .ref r0), (1, .ref r1), (2, .int i2), (3, .int i3)]) (st' := [.ref r1]) [(.aload_n 1, 1, 0)] (by decide +kernel) rfl ?_
              obtain ⟨a17, ga17, hf⟩ := Option.bind_eq_some_iff.mp hf
              refine C.rdA fr_1777 ga17 (by decide +kernel) rfl ?_
              refine C.seg (pe := 93) (lv' := [(0, .ref r0), (1, .ref r1), (2, .int i2), (3, .int i3)]) (st' := [.ref r1, .ref a17]) [(.aload_n 1, 1, 0)] (by decide +kernel) rfl ?_
              obtain ⟨x18, gx18, hf⟩ := Option.bind_eq_some_iff.mp hf
              refine C.rdI fr_1773 gx18 (by decide +kernel) rfl ?_
              refine C.seg (pe := 97) (lv' := [(0, .ref r0), (1, .ref r1), (2, .int i2), (3, .int i3)]) (st' := [.int (-1), .int x18, .ref a17]) [(.iconst (-1), 1, (-1))] (by decide +kernel) rfl ?_
              obtain ⟨h19, gh19, hf⟩ := Option.bind_eq_some_iff.mp hf
              refine C.ast gh19 (by decide +kernel) rfl ?_
              refine C.seg (pe := 99) (lv' := [(0, .ref r0), (1, .ref r1), (2, .int i2), (3, .int i3)]) (st' := [.ref r0]) [(.aload_n 0, 1, 0)] (by decide +kernel) rfl ?_
              obtain ⟨h20, gh20, hf⟩ := Option.bind_eq_some_iff.mp hf
              refine C.callVr C2 [] [] mv_2193 rfl (o_X15_next gh20) (w_X15_next gh20) (by omega) (by omega) (Nat.le_of_ble_eq_true rfl) (by decide +kernel) rfl ?_
              refine C.seg (pe := 103) (lv' := [(0, .ref r0), (1, .ref r1), (2, .int i2), (3, .int i3)]) (st' := [.ref r0]) [(.aload_n 0, 1, 0)] (by decide +kernel) rfl ?_
              refine C.ldcwS (i := 25) (idx := 644) (tx := "rest") rfl (by decide +kernel) rfl ?_
              obtain ⟨x21, h22, gx21, hf⟩ := b2_some hf
              refine C.callVr C2 [.ref ((G.2.2.1 25))] [] mv_2225 rfl (o_X15_isWord gx21) (w_X15_isWord gx21) (by omega) (by omega) (Nat.le_of_ble_eq_true rfl) (by decide +kernel) rfl ?_
              refine C.if_eq (off := 10) (tgt := 119) (pf := 112) (by decide +kernel) (by decide) rfl (fun c42 => ?_) (fun c42 => ?_)
              · replace hf := ifp c42 hf
                refine C.seg (pe := 120) (lv' := [(0, .ref r0), (1, .ref r1), (2, .int i2), (3, .int i3)]) (st' := [.ref r0]) [(.aload_n 0, 1, 0)] (by decide +kernel) rfl ?_
                obtain ⟨x23, gx23, hf⟩ := Option.bind_eq_some_iff.mp hf
                refine C.rdI fr_1814 gx23 (by decide +kernel) rfl ?_
                refine C.seg (pe := 124) (lv' := [(0, .ref r0), (1, .ref r1), (2, .int i2), (3, .int i3)]) (st' := [.int 3, .int x23]) [(.iconst 3, 1, 3)] (by decide +kernel) rfl ?_
                refine C.icmp_eq (off := 9) (tgt := 133) (pf := 127) (by decide +kernel) (by decide) rfl (fun c40 => ?_) (fun c40 => ?_)
                · replace hf := ifp c40 hf
                  refine C.seg (pe := 135) (lv' := [(0, .ref r0), (1, .ref r1), (2, .int i2), (3, .int i3)]) (st' := [.ref r0, .int i2]) [(.iload_n 2, 1, 0), (.aload_n 0, 1, 0)] (by decide +kernel) rfl ?_
                  obtain ⟨x24, gx24, hf⟩ := Option.bind_eq_some_iff.mp hf
                  refine C.rdI fr_1817 gx24 (by decide +kernel) rfl ?_
                  refine C.seg (pe := 143) (lv' := [(2, .int (i2 + x24)), (0, .ref r0), (1, .ref r1), (3, .int i3)]) (st' := [.int 100, .int (i2 + x24)]) [(.iadd, 1, 0), (.istore_n 2, 1, 0), (.iload_n 2, 1, 0), (.bipush 100, 2, 100)] (by decide +kernel) rfl ?_
                  refine C.icmp_le (off := 9) (tgt := 152) (pf := 146) (by decide +kernel) (by decide) rfl (fun c36 => ?_) (fun c36 => ?_)
                  · replace hf := ifp c36 hf
                    refine C.seg (pe := 153) (lv' := [(2, .int (i2 + x24)), (0, .ref r0), (1, .ref r1), (3, .int i3)]) (st' := [.ref r1]) [(.aload_n 1, 1, 0)] (by decide +kernel) rfl ?_
                    obtain ⟨a25, ga25, hf⟩ := Option.bind_eq_some_iff.mp hf
                    refine C.rdA fr_1777 ga25 (by decide +kernel) rfl ?_
                    refine C.seg (pe := 157) (lv' := [(2, .int (i2 + x24)), (0, .ref r0), (1, .ref r1), (3, .int i3)]) (st' := [.ref r1, .ref a25]) [(.aload_n 1, 1, 0)] (by decide +kernel) rfl ?_
                    obtain ⟨x26, gx26, hf⟩ := Option.bind_eq_some_iff.mp hf
                    refine C.rdI fr_1773 gx26 (by decide +kernel) rfl ?_
                    refine C.seg (pe := 161) (lv' := [(2, .int (i2 + x24)), (0, .ref r0), (1, .ref r1), (3, .int i3)]) (st' := [.ref r0, .int x26, .ref a25]) [(.aload_n 0, 1, 0)] (by decide +kernel) rfl ?_
                    obtain ⟨x27, gx27, hf⟩ := Option.bind_eq_some_iff.mp hf
                    refine C.rdI fr_1817 gx27 (by decide +kernel) rfl ?_
                    obtain ⟨h28, gh28, hf⟩ := Option.bind_eq_some_iff.mp hf
                    refine C.ast gh28 (by decide +kernel) rfl ?_
                    refine C.seg (pe := 166) (lv' := [(2, .int (i2 + x24)), (0, .ref r0), (1, .ref r1), (3, .int i3)]) (st' := [.ref r0]) [(.aload_n 0, 1, 0)] (by decide +kernel) rfl ?_
                    obtain ⟨h29, gh29, hf⟩ := Option.bind_eq_some_iff.mp hf
                    refine C.callVr C2 [] [] mv_2193 rfl (o_X15_next gh29) (w_X15_next gh29) (by omega) (by omega) (Nat.le_of_ble_eq_true rfl) (by decide +kernel) rfl ?_
                    refine C.seg (pe := 172) (lv' := [(2, .int (i2 + x24)), (0, .ref r0), (1, .ref r1), (3, .int i3)]) (st' := [.int 37, .ref r0]) [(.aload_n 0, 1, 0), (.bipush 37, 2, 37)] (by decide +kernel) rfl ?_
                    obtain ⟨q30, h31, gq30, hf⟩ := b2_some hf
                    cases q30 with
                    | none =>
                      replace hf := tr_none hf
                      refine C.callVr C2 [.int 37] [] mv_2262 rfl (o_X15_need gq30) (w_X15_need gq30) (by omega) (by omega) (Nat.le_of_ble_eq_true rfl) (by decide +kernel) rfl ?_
                      refine Vsub [1, 2, 0] rfl ?_
                      exact l_X15_readRight_175 C C2 ih r0 r1 (i2 + x24) h31 hf
                    | some a32 =>
                      replace hf := tr_some hf
                      cases hf
                      exact C.callVt C2 [.int 37] [] mv_2262 rfl (o_X15_need gq30) (w_X15_need gq30) (by omega) (by omega) (Nat.le_of_ble_eq_true rfl) (by decide +kernel) ⟨rfl, rfl⟩
                  · replace hf := ifn c36 hf
                    refine C.seg (pe := 148) (lv' := [(2, .int (i2 + x24)), (0, .ref r0), (1, .ref r1), (3, .int i3)]) (st' := [.int 3, .ref r0]) [(.aload_n 0, 1, 0), (.iconst 3, 1, 3)] (by decide +kernel) rfl ?_
                    obtain ⟨q33, h34, gq33, hf⟩ := b2_some hf
                    cases q33 with
                    | none =>
                      replace hf := tr_none hf
                      refine C.callVr C2 [.int 3] [] mv_2220 rfl (o_X15_stop gq33) (w_X15_stop gq33) (by omega) (by omega) (Nat.le_of_ble_eq_true rfl) (by decide +kernel) rfl ?_
                      cases hf
                    | some a35 =>
                      replace hf := tr_some hf
                      refine C.callVr C2 [.int 3] [] mv_2220 rfl (o_X15_stop gq33) (w_X15_stop gq33) (by omega) (by omega) (Nat.le_of_ble_eq_true rfl) (by decide +kernel) rfl ?_
                      cases hf
                      exact C.athrow C2 (by decide +kernel) ⟨rfl, rfl⟩
                · replace hf := ifn c40 hf
                  refine C.seg (pe := 129) (lv' := [(0, .ref r0), (1, .ref r1), (2, .int i2), (3, .int i3)]) (st' := [.int 1, .ref r0]) [(.aload_n 0, 1, 0), (.iconst 1, 1, 1)] (by decide +kernel) rfl ?_
                  obtain ⟨q37, h38, gq37, hf⟩ := b2_some hf
                  cases q37 with
                  | none =>
                    replace hf := tr_none hf
                    refine C.callVr C2 [.int 1] [] mv_2220 rfl (o_X15_stop gq37) (w_X15_stop gq37) (by omega) (by omega) (Nat.le_of_ble_eq_true rfl) (by decide +kernel) rfl ?_
                    cases hf
                  | some a39 =>
                    replace hf := tr_some hf
                    refine C.callVr C2 [.int 1] [] mv_2220 rfl (o_X15_stop gq37) (w_X15_stop gq37) (by omega) (by omega) (Nat.le_of_ble_eq_true rfl) (by decide +kernel) rfl ?_
                    cases hf
                    exact C.athrow C2 (by decide +kernel) ⟨rfl, rfl⟩
              · replace hf := ifn c42 hf
                refine C.seg (pe := 113) (lv' := [(0, .ref r0), (1, .ref r1), (2, .int i2), (3, .int i3)]) (st' := [.ref r0]) [(.aload_n 0, 1, 0)] (by decide +kernel) rfl ?_
                obtain ⟨h41, gh41, hf⟩ := Option.bind_eq_some_iff.mp hf
                refine C.callVr C2 [] [] mv_2193 rfl (o_X15_next gh41) (w_X15_next gh41) (by omega) (by omega) (Nat.le_of_ble_eq_true rfl) (by decide +kernel) rfl ?_
                refine C.goto (off := 59) (tgt := 175) (by decide +kernel) (by decide) ?_
                refine Vsub [0, 1, 2] rfl ?_
                exact l_X15_readRight_175 C C2 ih r0 r1 i2 h41 hf
            · replace hf := ifp c46 hf
              refine C.seg (pe := 71) (lv' := [(0, .ref r0), (1, .ref r1), (2, .int i2), (3, .int i3)]) (st' := [.int 4, .ref r0]) [(.aload_n 0, 1, 0), (.iconst 4, 1, 4)] (by decide +kernel) rfl ?_
              obtain ⟨q43, h44, gq43, hf⟩ := b2_some hf
              cases q43 with
              | none =>
                replace hf := tr_none hf
                refine C.callVr C2 [.int 4] [] mv_2220 rfl (o_X15_stop gq43) (w_X15_stop gq43) (by omega) (by omega) (Nat.le_of_ble_eq_true rfl) (by decide +kernel) rfl ?_
                cases hf
              | some a45 =>
                replace hf := tr_some hf
                refine C.callVr C2 [.int 4] [] mv_2220 rfl (o_X15_stop gq43) (w_X15_stop gq43) (by omega) (by omega) (Nat.le_of_ble_eq_true rfl) (by decide +kernel) rfl ?_
                cases hf
                exact C.athrow C2 (by decide +kernel) ⟨rfl, rfl⟩
          · replace hf := ifp c50 hf
            refine C.seg (pe := 56) (lv' := [(0, .ref r0), (1, .ref r1), (2, .int i2), (3, .int i3)]) (st' := [.int 2, .ref r0]) [(.aload_n 0, 1, 0), (.iconst 2, 1, 2)] (by decide +kernel) rfl ?_
            obtain ⟨q47, h48, gq47, hf⟩ := b2_some hf
            cases q47 with
            | none =>
              replace hf := tr_none hf
              refine C.callVr C2 [.int 2] [] mv_2220 rfl (o_X15_stop gq47) (w_X15_stop gq47) (by omega) (by omega) (Nat.le_of_ble_eq_true rfl) (by decide +kernel) rfl ?_
              cases hf
            | some a49 =>
              replace hf := tr_some hf
              refine C.callVr C2 [.int 2] [] mv_2220 rfl (o_X15_stop gq47) (w_X15_stop gq47) (by omega) (by omega) (Nat.le_of_ble_eq_true rfl) (by decide +kernel) rfl ?_
              cases hf
              exact C.athrow C2 (by decide +kernel) ⟨rfl, rfl⟩
        · replace hf := ifn c51 hf
          refine Vsub [0] rfl ?_
          exact l_X15_readRight_40 C C2 r0 h8 hf
def f_X15_readRight (z : ZX) (a0 : Nat) (h : AH) : Option (Option Nat × AH) :=
  if isO 15 h a0 = true then
    (gA 15 h a0 105).bind fun a1 =>
    (pI 13 h a1 0 0).bind fun h2 =>
    (f_X15_next a0 h2).bind fun h3 =>
    f_X15_readRight_18 z FU a0 a1 0 1 h3
  else none
set_option maxRecDepth 100000 in
set_option maxHeartbeats 4000000 in
theorem w_X15_readRight {l : Launch} {G : GX} {a0 : Nat} {h : AH} {e1 : Option Nat} {hr : AH} (hf : f_X15_readRight G.2.2 a0 h = some (e1, hr)) : Ct l G yX15_readRight 7 149 [.ref a0] h (QT e1 hr) := by
  unfold f_X15_readRight at hf
  obtain ⟨ho, hf⟩ := ifO hf
  refine Ct_of (own := RX15) (cc := cX15_readRight) (nL := 4) (ret := none) rfl rfl k_2537 (Nat.le_of_ble_eq_true rfl) (fun X C2 C => ?_)
  show V X G h (QT e1 hr) 0 [(0, .ref a0)] [] h
  refine C.seg (pe := 1) (lv' := [(0, .ref a0)]) (st' := [.ref a0]) [(.aload_n 0, 1, 0)] (by decide +kernel) rfl ?_
  obtain ⟨a1, ga1, hf⟩ := Option.bind_eq_some_iff.mp hf
  refine C.rdA fr_1891 ga1 (by decide +kernel) rfl ?_
  refine C.seg (pe := 7) (lv' := [(1, .ref a1), (0, .ref a0)]) (st' := [.int 0, .ref a1]) [(.astore_n 1, 1, 0), (.aload_n 1, 1, 0), (.iconst 0, 1, 0)] (by decide +kernel) rfl ?_
  obtain ⟨h2, gh2, hf⟩ := Option.bind_eq_some_iff.mp hf
  refine C.putI fl_1773 gh2 (by decide +kernel) rfl ?_
  refine C.seg (pe := 13) (lv' := [(2, .int 0), (1, .ref a1), (0, .ref a0)]) (st' := [.ref a0]) [(.iconst 0, 1, 0), (.istore_n 2, 1, 0), (.aload_n 0, 1, 0)] (by decide +kernel) rfl ?_
  obtain ⟨h3, gh3, hf⟩ := Option.bind_eq_some_iff.mp hf
  refine C.callVr C2 [] [] mv_2193 rfl (o_X15_next gh3) (w_X15_next gh3) (by omega) (by omega) (Nat.le_of_ble_eq_true rfl) (by decide +kernel) rfl ?_
  refine C.seg (pe := 18) (lv' := [(3, .int 1), (2, .int 0), (1, .ref a1), (0, .ref a0)]) (st' := []) [(.iconst 1, 1, 1), (.istore_n 3, 1, 0)] (by decide +kernel) rfl ?_
  refine Vsub [3, 2, 1, 0] rfl ?_
  exact l_X15_readRight_18 C C2 FU a0 a1 0 1 h3 hf
theorem o_X15_readRight {z : ZX} {a0 : Nat} {h : AH} {e1 : Option Nat} {hr : AH} (hf : f_X15_readRight z a0 h = some (e1, hr)) : isO 15 h a0 = true := by
  unfold f_X15_readRight at hf
  exact (ifO hf).1
/-! WallHouseModel.right(I)I -/
def f_X15_right (z : ZX) (a0 : Nat) (p1 : Int32) (h : AH) : Option (Int32 × AH) :=
  if isO 15 h a0 = true then
    (pI 15 h a0 0 0).bind fun h1 =>
    b2 (f_X15_isTaped a0 p1 h1) fun x2 h3 =>
    if x2 = 0 then
      b2 (f_X15_refused a0 2 h3) fun x31 h32 =>
      some (x31, h32)
    else
      (pI 15 h3 a0 26 p1).bind fun h4 =>
      (pI 15 h4 a0 25 0).bind fun h5 =>
      (pI 15 h5 a0 27 0).bind fun h6 =>
      (pI 15 h6 a0 3 0).bind fun h7 =>
      (pZ 15 h7 a0 36 1).bind fun h8 =>
      b2 (f_X15_readRight z a0 h8) fun q9 h10 =>
      tr q9 (
        (gI 15 h10 a0 103).bind fun x12 =>
        if x12 = 8 then
          b2 (f_X15_refused a0 3 h10) fun x26 h27 =>
          some (x26, h27)
        else
          (gA 15 h10 a0 104).bind fun a13 =>
          (gI 15 h10 a0 103).bind fun x14 =>
          (gA 15 h10 a0 105).bind fun a15 =>
          (sQ 8 13 h10 a13 x14 a15).bind fun h16 =>
          b2 (nwO 13 3 dX13 h16) fun a17 h18 =>
          (f_X13_init a17 h18).bind fun h19 =>
          (pQ 15 h19 a0 105 (some a17)).bind fun h20 =>
          (gI 15 h20 a0 103).bind fun x21 =>
          (pI 15 h20 a0 103 (x21 + 1)).bind fun h22 =>
          (gI 15 h22 a0 103).bind fun x23 =>
          b2 (f_X15_done a0 (x23 - 1) h22) fun x24 h25 =>
          some (x24, h25)) fun a11 =>
      (ckO 14 h10 a11).bind fun _ =>
      b2 (f_X15_faulty a0 a11 h10) fun x29 h30 =>
      some (x29, h30)
  else none
set_option maxRecDepth 100000 in
set_option maxHeartbeats 4000000 in
theorem w_X15_right {l : Launch} {G : GX} {a0 : Nat} {p1 : Int32} {h : AH} {rr : Int32} {hr : AH} (hf : f_X15_right G.2.2 a0 p1 h = some (rr, hr)) : Ct l G yX15_right 8 172 [.ref a0, .int p1] h (QI rr hr) := by
  unfold f_X15_right at hf
  obtain ⟨ho, hf⟩ := ifO hf
  refine Ct_ofH (own := RX15) (cc := cX15_right) (nL := 3) (ret := (some .int)) rfl rfl k_2533 (Nat.le_of_ble_eq_true rfl) (fun X C2 C => ?_)
  show V X G h (QI rr hr) 0 [(0, .ref a0), (1, .int p1)] [] h
  refine C.seg (pe := 2) (lv' := [(0, .ref a0), (1, .int p1)]) (st' := [.int 0, .ref a0]) [(.aload_n 0, 1, 0), (.iconst 0, 1, 0)] (by decide +kernel) rfl ?_
  obtain ⟨h1, gh1, hf⟩ := Option.bind_eq_some_iff.mp hf
  refine C.putI fl_1786 gh1 (by decide +kernel) rfl ?_
  refine C.seg (pe := 7) (lv' := [(0, .ref a0), (1, .int p1)]) (st' := [.int p1, .ref a0]) [(.aload_n 0, 1, 0), (.iload_n 1, 1, 0)] (by decide +kernel) rfl ?_
  obtain ⟨x2, h3, gx2, hf⟩ := b2_some hf
  refine C.callVr C2 [.int p1] [] mv_2189 rfl (o_X15_isTaped gx2) (w_X15_isTaped gx2) (by omega) (by omega) (Nat.le_of_ble_eq_true rfl) (by decide +kernel) rfl ?_
  refine C.if_ne (off := 9) (tgt := 19) (pf := 13) (by decide +kernel) (by decide) rfl (fun c33 => ?_) (fun c33 => ?_)
  · replace hf := ifn c33 hf
    refine C.seg (pe := 21) (lv' := [(0, .ref a0), (1, .int p1)]) (st' := [.int p1, .ref a0]) [(.aload_n 0, 1, 0), (.iload_n 1, 1, 0)] (by decide +kernel) rfl ?_
    obtain ⟨h4, gh4, hf⟩ := Option.bind_eq_some_iff.mp hf
    refine C.putI fl_1812 gh4 (by decide +kernel) rfl ?_
    refine C.seg (pe := 26) (lv' := [(0, .ref a0), (1, .int p1)]) (st' := [.int 0, .ref a0]) [(.aload_n 0, 1, 0), (.iconst 0, 1, 0)] (by decide +kernel) rfl ?_
    obtain ⟨h5, gh5, hf⟩ := Option.bind_eq_some_iff.mp hf
    refine C.putI fl_1811 gh5 (by decide +kernel) rfl ?_
    refine C.seg (pe := 31) (lv' := [(0, .ref a0), (1, .int p1)]) (st' := [.int 0, .ref a0]) [(.aload_n 0, 1, 0), (.iconst 0, 1, 0)] (by decide +kernel) rfl ?_
    obtain ⟨h6, gh6, hf⟩ := Option.bind_eq_some_iff.mp hf
    refine C.putI fl_1813 gh6 (by decide +kernel) rfl ?_
    refine C.seg (pe := 36) (lv' := [(0, .ref a0), (1, .int p1)]) (st' := [.int 0, .ref a0]) [(.aload_n 0, 1, 0), (.iconst 0, 1, 0)] (by decide +kernel) rfl ?_
    obtain ⟨h7, gh7, hf⟩ := Option.bind_eq_some_iff.mp hf
    refine C.putI fl_1789 gh7 (by decide +kernel) rfl ?_
    refine C.seg (pe := 41) (lv' := [(0, .ref a0), (1, .int p1)]) (st' := [.int 1, .ref a0]) [(.aload_n 0, 1, 0), (.iconst 1, 1, 1)] (by decide +kernel) rfl ?_
    obtain ⟨h8, gh8, hf⟩ := Option.bind_eq_some_iff.mp hf
    refine C.putZ fl_1822 gh8 (by decide +kernel) rfl ?_
    refine C.seg (pe := 45) (lv' := [(0, .ref a0), (1, .int p1)]) (st' := [.ref a0]) [(.aload_n 0, 1, 0)] (by decide +kernel) rfl ?_
    obtain ⟨q9, h10, gq9, hf⟩ := b2_some hf
    cases q9 with
    | none =>
      replace hf := tr_none hf
      refine C.callVr C2 [] [] mv_2534 rfl (o_X15_readRight gq9) (w_X15_readRight gq9) (by omega) (by omega) (Nat.le_of_ble_eq_true rfl) (by decide +kernel) rfl ?_
      refine C.goto (off := 10) (tgt := 58) (by decide +kernel) (by decide) ?_
      refine C.seg (pe := 59) (lv' := [(0, .ref a0), (1, .int p1)]) (st' := [.ref a0]) [(.aload_n 0, 1, 0)] (by decide +kernel) rfl ?_
      obtain ⟨x12, gx12, hf⟩ := Option.bind_eq_some_iff.mp hf
      refine C.rdI fr_1889 gx12 (by decide +kernel) rfl ?_
      refine C.seg (pe := 64) (lv' := [(0, .ref a0), (1, .int p1)]) (st' := [.int 8, .int x12]) [(.bipush 8, 2, 8)] (by decide +kernel) rfl ?_
      refine C.icmp_ne (off := 9) (tgt := 73) (pf := 67) (by decide +kernel) (by decide) rfl (fun c28 => ?_) (fun c28 => ?_)
      · replace hf := ifn c28 hf
        refine C.seg (pe := 74) (lv' := [(0, .ref a0), (1, .int p1)]) (st' := [.ref a0]) [(.aload_n 0, 1, 0)] (by decide +kernel) rfl ?_
        obtain ⟨a13, ga13, hf⟩ := Option.bind_eq_some_iff.mp hf
        refine C.rdA fr_1890 ga13 (by decide +kernel) rfl ?_
        refine C.seg (pe := 78) (lv' := [(0, .ref a0), (1, .int p1)]) (st' := [.ref a0, .ref a13]) [(.aload_n 0, 1, 0)] (by decide +kernel) rfl ?_
        obtain ⟨x14, gx14, hf⟩ := Option.bind_eq_some_iff.mp hf
        refine C.rdI fr_1889 gx14 (by decide +kernel) rfl ?_
        refine C.seg (pe := 82) (lv' := [(0, .ref a0), (1, .int p1)]) (st' := [.ref a0, .int x14, .ref a13]) [(.aload_n 0, 1, 0)] (by decide +kernel) rfl ?_
        obtain ⟨a15, ga15, hf⟩ := Option.bind_eq_some_iff.mp hf
        refine C.rdA fr_1891 ga15 (by decide +kernel) rfl ?_
        obtain ⟨h16, gh16, hf⟩ := Option.bind_eq_some_iff.mp hf
        refine C.aast 8 (ci := 13) rfl (by decide) rfl gh16 (by decide +kernel) rfl ?_
        refine C.seg (pe := 87) (lv' := [(0, .ref a0), (1, .int p1)]) (st' := [.ref a0]) [(.aload_n 0, 1, 0)] (by decide +kernel) rfl ?_
        obtain ⟨a17, h18, ga17, hf⟩ := b2_some hf
        refine C.newo cl_13 k_1766 ga17 (by decide +kernel) rfl ?_
        refine C.seg (pe := 91) (lv' := [(0, .ref a0), (1, .int p1)]) (st' := [.ref a17, .ref a17, .ref a0]) [(.dup, 1, 0)] (by decide +kernel) rfl ?_
        obtain ⟨h19, gh19, hf⟩ := Option.bind_eq_some_iff.mp hf
        refine C.callIr C2 [] [.ref a17, .ref a0] mi_1769 rfl (w_X13_init gh19) (by omega) (by omega) (Nat.le_of_ble_eq_true rfl) (by decide +kernel) rfl ?_
        obtain ⟨h20, gh20, hf⟩ := Option.bind_eq_some_iff.mp hf
        refine C.putA fl_1891 (Or.inl ⟨_, rfl⟩) gh20 (by decide +kernel) rfl ?_
        refine C.seg (pe := 99) (lv' := [(0, .ref a0), (1, .int p1)]) (st' := [.ref a0, .ref a0]) [(.aload_n 0, 1, 0), (.dup, 1, 0)] (by decide +kernel) rfl ?_
        obtain ⟨x21, gx21, hf⟩ := Option.bind_eq_some_iff.mp hf
        refine C.rdI fr_1889 gx21 (by decide +kernel) rfl ?_
        refine C.seg (pe := 104) (lv' := [(0, .ref a0), (1, .int p1)]) (st' := [.int (x21 + 1), .ref a0]) [(.iconst 1, 1, 1), (.iadd, 1, 0)] (by decide +kernel) rfl ?_
        obtain ⟨h22, gh22, hf⟩ := Option.bind_eq_some_iff.mp hf
        refine C.putI fl_1889 gh22 (by decide +kernel) rfl ?_
        refine C.seg (pe := 109) (lv' := [(0, .ref a0), (1, .int p1)]) (st' := [.ref a0, .ref a0]) [(.aload_n 0, 1, 0), (.aload_n 0, 1, 0)] (by decide +kernel) rfl ?_
        obtain ⟨x23, gx23, hf⟩ := Option.bind_eq_some_iff.mp hf
        refine C.rdI fr_1889 gx23 (by decide +kernel) rfl ?_
        refine C.seg (pe := 114) (lv' := [(0, .ref a0), (1, .int p1)]) (st' := [.int (x23 - 1), .ref a0]) [(.iconst 1, 1, 1), (.isub, 1, 0)] (by decide +kernel) rfl ?_
        obtain ⟨x24, h25, gx24, hf⟩ := b2_some hf
        refine C.callVr C2 [.int (x23 - 1)] [] mv_2116 rfl (o_X15_done gx24) (w_X15_done gx24) (by omega) (by omega) (Nat.le_of_ble_eq_true rfl) (by decide +kernel) rfl ?_
        cases hf
        exact C.retI rfl (by decide +kernel) ⟨rfl, rfl⟩
      · replace hf := ifp c28 hf
        refine C.seg (pe := 69) (lv' := [(0, .ref a0), (1, .int p1)]) (st' := [.int 3, .ref a0]) [(.aload_n 0, 1, 0), (.iconst 3, 1, 3)] (by decide +kernel) rfl ?_
        obtain ⟨x26, h27, gx26, hf⟩ := b2_some hf
        refine C.callVr C2 [.int 3] [] mv_2112 rfl (o_X15_refused gx26) (w_X15_refused gx26) (by omega) (by omega) (Nat.le_of_ble_eq_true rfl) (by decide +kernel) rfl ?_
        cases hf
        exact C.retI rfl (by decide +kernel) ⟨rfl, rfl⟩
    | some a11 =>
      replace hf := tr_some hf
      obtain ⟨_, g0, hf⟩ := Option.bind_eq_some_iff.mp hf
      refine C.callVh C2 [] [] mv_2534 rfl (o_X15_readRight gq9) (w_X15_readRight gq9) (by omega) (by omega) (Nat.le_of_ble_eq_true rfl) (by decide +kernel) (hp := 51) (k_1637) g0 ?_
      refine C.seg (pe := 54) (lv' := [(2, .ref a11), (0, .ref a0), (1, .int p1)]) (st' := [.ref a11, .ref a0]) [(.astore_n 2, 1, 0), (.aload_n 0, 1, 0), (.aload_n 2, 1, 0)] (by decide +kernel) rfl ?_
      obtain ⟨x29, h30, gx29, hf⟩ := b2_some hf
      refine C.callVr C2 [.ref a11] [] mv_2303 rfl (o_X15_faulty gx29) (w_X15_faulty gx29) (by omega) (by omega) (Nat.le_of_ble_eq_true rfl) (by decide +kernel) rfl ?_
      cases hf
      exact C.retI rfl (by decide +kernel) ⟨rfl, rfl⟩
  · replace hf := ifp c33 hf
    refine C.seg (pe := 15) (lv' := [(0, .ref a0), (1, .int p1)]) (st' := [.int 2, .ref a0]) [(.aload_n 0, 1, 0), (.iconst 2, 1, 2)] (by decide +kernel) rfl ?_
    obtain ⟨x31, h32, gx31, hf⟩ := b2_some hf
    refine C.callVr C2 [.int 2] [] mv_2112 rfl (o_X15_refused gx31) (w_X15_refused gx31) (by omega) (by omega) (Nat.le_of_ble_eq_true rfl) (by decide +kernel) rfl ?_
    cases hf
    exact C.retI rfl (by decide +kernel) ⟨rfl, rfl⟩
theorem o_X15_right {z : ZX} {a0 : Nat} {p1 : Int32} {h : AH} {rr : Int32} {hr : AH} (hf : f_X15_right z a0 p1 h = some (rr, hr)) : isO 15 h a0 = true := by
  unfold f_X15_right at hf
  exact (ifO hf).1
/-! WallHouseModel.gets(III)I -/
def f_X15_gets_270 (k197 : Nat → Int32 → Nat → Int32 → Int32 → Int32 → Int32 → Int32 → AH → Option (Int32 × AH)) (r0 : Nat) (i3 : Int32) (r4 : Nat) (i5 : Int32) (i6 : Int32) (i7 : Int32) (i8 : Int32) (i9 : Int32) (h : AH) : Option (Int32 × AH) :=
  k197 r0 i3 r4 i5 i6 i7 i8 (i9 + 1) h
set_option maxRecDepth 100000 in
set_option maxHeartbeats 4000000 in
theorem l_X15_gets_270 {X : MX} {l : Launch} {G : GX} {h0 : AH} {rr : Int32} {hr : AH} (C : Cx X G RX15 cX15_gets 11 (some .int) 1 22 h0) (C2 : Cy X l "gets" []) {k197 : Nat → Int32 → Nat → Int32 → Int32 → Int32 → Int32 → Int32 → AH → Option (Int32 × AH)} (hk197 : ∀ (r0 : Nat) (i3 : Int32) (r4 : Nat) (i5 : Int32) (i6 : Int32) (i7 : Int32) (i8 : Int32) (i9 : Int32) (h : AH), k197 r0 i3 r4 i5 i6 i7 i8 i9 h = some (rr, hr) → V X G h0 (QI rr hr) 197 [(0, .ref r0), (3, .int i3), (4, .ref r4), (5, .int i5), (6, .int i6), (7, .int i7), (8, .int i8), (9, .int i9)] [] h) (r0 : Nat) (i3 : Int32) (r4 : Nat) (i5 : Int32) (i6 : Int32) (i7 : Int32) (i8 : Int32) (i9 : Int32) (h : AH) (hf : f_X15_gets_270 k197 r0 i3 r4 i5 i6 i7 i8 i9 h = some (rr, hr)) : V X G h0 (QI rr hr) 270 [(0, .ref r0), (3, .int i3), (4, .ref r4), (5, .int i5), (6, .int i6), (7, .int i7), (8, .int i8), (9, .int i9)] [] h := by
  unfold f_X15_gets_270 at hf
  refine C.seg (pe := 273) (lv' := [(9, .int (i9 + 1)), (0, .ref r0), (3, .int i3), (4, .ref r4), (5, .int i5), (6, .int i6), (7, .int i7), (8, .int i8)]) (st' := []) [(.iinc 9 1, 3, 1)] (by decide +kernel) rfl ?_
  refine C.goto (off := (-76)) (tgt := 197) (by decide +kernel) (by decide) ?_
  refine Vsub [1, 2, 3, 4, 5, 6, 7, 0] rfl ?_
  exact hk197 r0 i3 r4 i5 i6 i7 i8 (i9 + 1) h hf
def f_X15_gets_264 (k197 : Nat → Int32 → Nat → Int32 → Int32 → Int32 → Int32 → Int32 → AH → Option (Int32 × AH)) (r0 : Nat) (i3 : Int32) (r4 : Nat) (i6 : Int32) (i7 : Int32) (i9 : Int32) (si0 : Int32) (si1 : Int32) (h : AH) : Option (Int32 × AH) :=
  f_X15_gets_270 k197 r0 i3 r4 (si1 + si0) i6 i7 0 i9 h
set_option maxRecDepth 100000 in
set_option maxHeartbeats 4000000 in
theorem l_X15_gets_264 {X : MX} {l : Launch} {G : GX} {h0 : AH} {rr : Int32} {hr : AH} (C : Cx X G RX15 cX15_gets 11 (some .int) 1 22 h0) (C2 : Cy X l "gets" []) {k197 : Nat → Int32 → Nat → Int32 → Int32 → Int32 → Int32 → Int32 → AH → Option (Int32 × AH)} (hk197 : ∀ (r0 : Nat) (i3 : Int32) (r4 : Nat) (i5 : Int32) (i6 : Int32) (i7 : Int32) (i8 : Int32) (i9 : Int32) (h : AH), k197 r0 i3 r4 i5 i6 i7 i8 i9 h = some (rr, hr) → V X G h0 (QI rr hr) 197 [(0, .ref r0), (3, .int i3), (4, .ref r4), (5, .int i5), (6, .int i6), (7, .int i7), (8, .int i8), (9, .int i9)] [] h) (r0 : Nat) (i3 : Int32) (r4 : Nat) (i6 : Int32) (i7 : Int32) (i9 : Int32) (si0 : Int32) (si1 : Int32) (h : AH) (hf : f_X15_gets_264 k197 r0 i3 r4 i6 i7 i9 si0 si1 h = some (rr, hr)) : V X G h0 (QI rr hr) 264 [(0, .ref r0), (3, .int i3), (4, .ref r4), (6, .int i6), (7, .int i7), (9, .int i9)] [.int si0, .int si1] h := by
  unfold f_X15_gets_264 at hf
  refine C.seg (pe := 270) (lv' := [(8, .int 0), (5, .int (si1 + si0)), (0, .ref r0), (3, .int i3), (4, .ref r4), (6, .int i6), (7, .int i7), (9, .int i9)]) (st' := []) [(.iadd, 1, 0), (.istore 5, 2, 0), (.iconst 0, 1, 0), (.istore 8, 2, 0)] (by decide +kernel) rfl ?_
  refine Vsub [2, 3, 4, 1, 5, 6, 0, 7] rfl ?_
  exact l_X15_gets_270 C C2 hk197 r0 i3 r4 (si1 + si0) i6 i7 0 i9 h hf
def f_X15_gets_241 (k197 : Nat → Int32 → Nat → Int32 → Int32 → Int32 → Int32 → Int32 → AH → Option (Int32 × AH)) (r0 : Nat) (i3 : Int32) (r4 : Nat) (i5 : Int32) (i6 : Int32) (i7 : Int32) (i9 : Int32) (si0 : Int32) (si1 : Int32) (h : AH) : Option (Int32 × AH) :=
  (gA 13 h r4 1).bind fun a1 =>
  (aI 0 h a1 i9).bind fun x2 =>
  if x2 = i3 then
    f_X15_gets_264 k197 r0 i3 r4 i6 i7 i9 (si1 + si0) i5 h
  else
    f_X15_gets_264 k197 r0 i3 r4 i6 i7 i9 0 i5 h
set_option maxRecDepth 100000 in
set_option maxHeartbeats 4000000 in
theorem l_X15_gets_241 {X : MX} {l : Launch} {G : GX} {h0 : AH} {rr : Int32} {hr : AH} (C : Cx X G RX15 cX15_gets 11 (some .int) 1 22 h0) (C2 : Cy X l "gets" []) {k197 : Nat → Int32 → Nat → Int32 → Int32 → Int32 → Int32 → Int32 → AH → Option (Int32 × AH)} (hk197 : ∀ (r0 : Nat) (i3 : Int32) (r4 : Nat) (i5 : Int32) (i6 : Int32) (i7 : Int32) (i8 : Int32) (i9 : Int32) (h : AH), k197 r0 i3 r4 i5 i6 i7 i8 i9 h = some (rr, hr) → V X G h0 (QI rr hr) 197 [(0, .ref r0), (3, .int i3), (4, .ref r4), (5, .int i5), (6, .int i6), (7, .int i7), (8, .int i8), (9, .int i9)] [] h) (r0 : Nat) (i3 : Int32) (r4 : Nat) (i5 : Int32) (i6 : Int32) (i7 : Int32) (i9 : Int32) (si0 : Int32) (si1 : Int32) (h : AH) (hf : f_X15_gets_241 k197 r0 i3 r4 i5 i6 i7 i9 si0 si1 h = some (rr, hr)) : V X G h0 (QI rr hr) 241 [(0, .ref r0), (3, .int i3), (4, .ref r4), (5, .int i5), (6, .int i6), (7, .int i7), (9, .int i9)] [.int si0, .int si1] h := by
  unfold f_X15_gets_241 at hf
  refine C.seg (pe := 248) (lv' := [(10, .int (si1 + si0)), (0, .ref r0), (3, .int i3), (4, .ref r4), (5, .int i5), (6, .int i6), (7, .int i7), (9, .int i9)]) (st' := [.ref r4, .int i5]) [(.iadd, 1, 0), (.istore 10, 2, 0), (.iload 5, 2, 0), (.aload 4, 2, 0)] (by decide +kernel) rfl ?_
  obtain ⟨a1, ga1, hf⟩ := Option.bind_eq_some_iff.mp hf
  refine C.rdA fr_1775 ga1 (by decide +kernel) rfl ?_
  refine C.seg (pe := 253) (lv' := [(10, .int (si1 + si0)), (0, .ref r0), (3, .int i3), (4, .ref r4), (5, .int i5), (6, .int i6), (7, .int i7), (9, .int i9)]) (st' := [.int i9, .ref a1, .int i5]) [(.iload 9, 2, 0)] (by decide +kernel) rfl ?_
  obtain ⟨x2, gx2, hf⟩ := Option.bind_eq_some_iff.mp hf
  refine C.ald 0 rfl gx2 (by decide +kernel) rfl ?_
  refine C.seg (pe := 255) (lv' := [(10, .int (si1 + si0)), (0, .ref r0), (3, .int i3), (4, .ref r4), (5, .int i5), (6, .int i6), (7, .int i7), (9, .int i9)]) (st' := [.int i3, .int x2, .int i5]) [(.iload_n 3, 1, 0)] (by decide +kernel) rfl ?_
  refine C.icmp_ne (off := 8) (tgt := 263) (pf := 258) (by decide +kernel) (by decide) rfl (fun c3 => ?_) (fun c3 => ?_)
  · replace hf := ifn c3 hf
    refine C.seg (pe := 264) (lv' := [(10, .int (si1 + si0)), (0, .ref r0), (3, .int i3), (4, .ref r4), (5, .int i5), (6, .int i6), (7, .int i7), (9, .int i9)]) (st' := [.int 0, .int i5]) [(.iconst 0, 1, 0)] (by decide +kernel) rfl ?_
    refine Vsub [1, 2, 3, 5, 6, 7] rfl ?_
    exact l_X15_gets_264 C C2 hk197 r0 i3 r4 i6 i7 i9 0 i5 h hf
  · replace hf := ifp c3 hf
    refine C.seg (pe := 260) (lv' := [(10, .int (si1 + si0)), (0, .ref r0), (3, .int i3), (4, .ref r4), (5, .int i5), (6, .int i6), (7, .int i7), (9, .int i9)]) (st' := [.int (si1 + si0), .int i5]) [(.iload 10, 2, 0)] (by decide +kernel) rfl ?_
    refine C.goto (off := 4) (tgt := 264) (by decide +kernel) (by decide) ?_
    refine Vsub [1, 2, 3, 5, 6, 7] rfl ?_
    exact l_X15_gets_264 C C2 hk197 r0 i3 r4 i6 i7 i9 (si1 + si0) i5 h hf
def f_X15_gets_197 : Nat → Nat → Int32 → Nat → Int32 → Int32 → Int32 → Int32 → Int32 → AH → Option (Int32 × AH)
  | 0, _, _, _, _, _, _, _, _, _ => none
  | n + 1, r0, i3, r4, i5, i6, i7, i8, i9, h =>
    (gI 13 h r4 0).bind fun x1 =>
    if x1 ≤ i9 then
      b2 (f_X15_done r0 i5 h) fun x2 h3 =>
      some (x2, h3)
    else
      (gA 13 h r4 2).bind fun a4 =>
      (aI 0 h a4 i9).bind fun x5 =>
      if x5 = (-1) then
        (ckD i7).bind fun x8 =>
        if i8 = 0 then
          f_X15_gets_241 (f_X15_gets_197 n) r0 i3 r4 i5 i6 i7 i9 0 (i6 / i7) h
        else
          (ckD i7).bind fun x6 =>
          f_X15_gets_241 (f_X15_gets_197 n) r0 i3 r4 i5 i6 i7 i9 (i6 - i6 / i7 * i7) (i6 / i7) h
      else
        f_X15_gets_270 (f_X15_gets_197 n) r0 i3 r4 i5 i6 i7 i8 i9 h
set_option maxRecDepth 100000 in
set_option maxHeartbeats 4000000 in
theorem l_X15_gets_197 {X : MX} {l : Launch} {G : GX} {h0 : AH} {rr : Int32} {hr : AH} (C : Cx X G RX15 cX15_gets 11 (some .int) 1 22 h0) (C2 : Cy X l "gets" []) : ∀ (n : Nat) (r0 : Nat) (i3 : Int32) (r4 : Nat) (i5 : Int32) (i6 : Int32) (i7 : Int32) (i8 : Int32) (i9 : Int32) (h : AH), f_X15_gets_197 n r0 i3 r4 i5 i6 i7 i8 i9 h = some (rr, hr) → V X G h0 (QI rr hr) 197 [(0, .ref r0), (3, .int i3), (4, .ref r4), (5, .int i5), (6, .int i6), (7, .int i7), (8, .int i8), (9, .int i9)] [] h := by
  intro n
  induction n with
  | zero => intro r0 i3 r4 i5 i6 i7 i8 i9 h hf; rw [f_X15_gets_197] at hf; cases hf
  | succ n ih =>
    intro r0 i3 r4 i5 i6 i7 i8 i9 h hf
    rw [f_X15_gets_197] at hf
    refine C.seg (pe := 201) (lv' := [(0, .ref r0), (3, .int i3), (4, .ref r4), (5, .int i5), (6, .int i6), (7, .int i7), (8, .int i8), (9, .int i9)]) (st' := [.ref r4, .int i9]) [(.iload 9, 2, 0), (.aload 4, 2, 0)] (by decide +kernel) rfl ?_
    obtain ⟨x1, gx1, hf⟩ := Option.bind_eq_some_iff.mp hf
    refine C.rdI fr_1773 gx1 (by decide +kernel) rfl ?_
    refine C.icmp_ge (off := 72) (tgt := 276) (pf := 207) (by decide +kernel) (by decide) rfl (fun c10 => ?_) (fun c10 => ?_)
    · replace hf := ifp c10 hf
      refine C.seg (pe := 279) (lv' := [(0, .ref r0), (3, .int i3), (4, .ref r4), (5, .int i5), (6, .int i6), (7, .int i7), (8, .int i8), (9, .int i9)]) (st' := [.int i5, .ref r0]) [(.aload_n 0, 1, 0), (.iload 5, 2, 0)] (by decide +kernel) rfl ?_
      obtain ⟨x2, h3, gx2, hf⟩ := b2_some hf
      refine C.callVr C2 [.int i5] [] mv_2116 rfl (o_X15_done gx2) (w_X15_done gx2) (by omega) (by omega) (Nat.le_of_ble_eq_true rfl) (by decide +kernel) rfl ?_
      cases hf
      exact C.retI rfl (by decide +kernel) ⟨rfl, rfl⟩
    · replace hf := ifn c10 hf
      refine C.seg (pe := 209) (lv' := [(0, .ref r0), (3, .int i3), (4, .ref r4), (5, .int i5), (6, .int i6), (7, .int i7), (8, .int i8), (9, .int i9)]) (st' := [.ref r4]) [(.aload 4, 2, 0)] (by decide +kernel) rfl ?_
      obtain ⟨a4, ga4, hf⟩ := Option.bind_eq_some_iff.mp hf
      refine C.rdA fr_1777 ga4 (by decide +kernel) rfl ?_
      refine C.seg (pe := 214) (lv' := [(0, .ref r0), (3, .int i3), (4, .ref r4), (5, .int i5), (6, .int i6), (7, .int i7), (8, .int i8), (9, .int i9)]) (st' := [.int i9, .ref a4]) [(.iload 9, 2, 0)] (by decide +kernel) rfl ?_
      obtain ⟨x5, gx5, hf⟩ := Option.bind_eq_some_iff.mp hf
      refine C.ald 0 rfl gx5 (by decide +kernel) rfl ?_
      refine C.seg (pe := 216) (lv' := [(0, .ref r0), (3, .int i3), (4, .ref r4), (5, .int i5), (6, .int i6), (7, .int i7), (8, .int i8), (9, .int i9)]) (st' := [.int (-1), .int x5]) [(.iconst (-1), 1, (-1))] (by decide +kernel) rfl ?_
      refine C.icmp_eq (off := 6) (tgt := 222) (pf := 219) (by decide +kernel) (by decide) rfl (fun c9 => ?_) (fun c9 => ?_)
      · replace hf := ifp c9 hf
        refine C.seg (pe := 226) (lv' := [(0, .ref r0), (3, .int i3), (4, .ref r4), (5, .int i5), (6, .int i6), (7, .int i7), (8, .int i8), (9, .int i9)]) (st' := [.int i7, .int i6]) [(.iload 6, 2, 0), (.iload 7, 2, 0)] (by decide +kernel) rfl ?_
        obtain ⟨x8, gx8, hf⟩ := Option.bind_eq_some_iff.mp hf
        refine C.idiv (by decide +kernel) rfl (ckD_self gx8) ?_
        refine C.seg (pe := 229) (lv' := [(0, .ref r0), (3, .int i3), (4, .ref r4), (5, .int i5), (6, .int i6), (7, .int i7), (8, .int i8), (9, .int i9)]) (st' := [.int i8, .int (i6 / i7)]) [(.iload 8, 2, 0)] (by decide +kernel) rfl ?_
        refine C.if_eq (off := 11) (tgt := 240) (pf := 232) (by decide +kernel) (by decide) rfl (fun c7 => ?_) (fun c7 => ?_)
        · replace hf := ifp c7 hf
          refine C.seg (pe := 241) (lv' := [(0, .ref r0), (3, .int i3), (4, .ref r4), (5, .int i5), (6, .int i6), (7, .int i7), (8, .int i8), (9, .int i9)]) (st' := [.int 0, .int (i6 / i7)]) [(.iconst 0, 1, 0)] (by decide +kernel) rfl ?_
          refine Vsub [0, 1, 2, 3, 4, 5, 7] rfl ?_
          exact l_X15_gets_241 C C2 ih r0 i3 r4 i5 i6 i7 i9 0 (i6 / i7) h hf
        · replace hf := ifn c7 hf
          refine C.seg (pe := 236) (lv' := [(0, .ref r0), (3, .int i3), (4, .ref r4), (5, .int i5), (6, .int i6), (7, .int i7), (8, .int i8), (9, .int i9)]) (st' := [.int i7, .int i6, .int (i6 / i7)]) [(.iload 6, 2, 0), (.iload 7, 2, 0)] (by decide +kernel) rfl ?_
          obtain ⟨x6, gx6, hf⟩ := Option.bind_eq_some_iff.mp hf
          refine C.irem (by decide +kernel) rfl (ckD_self gx6) ?_
          refine C.goto (off := 4) (tgt := 241) (by decide +kernel) (by decide) ?_
          refine Vsub [0, 1, 2, 3, 4, 5, 7] rfl ?_
          exact l_X15_gets_241 C C2 ih r0 i3 r4 i5 i6 i7 i9 (i6 - i6 / i7 * i7) (i6 / i7) h hf
      · replace hf := ifn c9 hf
        refine C.goto (off := 51) (tgt := 270) (by decide +kernel) (by decide) ?_
        exact l_X15_gets_270 C C2 ih r0 i3 r4 i5 i6 i7 i8 i9 h hf
def f_X15_gets_186 (si0 : Int32) (si1 : Int32) (sr2 : Nat) (h : AH) : Option (Int32 × AH) :=
  b2 (f_X15_done sr2 (si1 + si0) h) fun x1 h2 =>
  some (x1, h2)
set_option maxRecDepth 100000 in
set_option maxHeartbeats 4000000 in
theorem l_X15_gets_186 {X : MX} {l : Launch} {G : GX} {h0 : AH} {rr : Int32} {hr : AH} (C : Cx X G RX15 cX15_gets 11 (some .int) 1 22 h0) (C2 : Cy X l "gets" []) (si0 : Int32) (si1 : Int32) (sr2 : Nat) (h : AH) (hf : f_X15_gets_186 si0 si1 sr2 h = some (rr, hr)) : V X G h0 (QI rr hr) 186 [] [.int si0, .int si1, .ref sr2] h := by
  unfold f_X15_gets_186 at hf
  refine C.seg (pe := 187) (lv' := []) (st' := [.int (si1 + si0), .ref sr2]) [(.iadd, 1, 0)] (by decide +kernel) rfl ?_
  obtain ⟨x1, h2, gx1, hf⟩ := b2_some hf
  refine C.callVr C2 [.int (si1 + si0)] [] mv_2116 rfl (o_X15_done gx1) (w_X15_done gx1) (by omega) (by omega) (Nat.le_of_ble_eq_true rfl) (by decide +kernel) rfl ?_
  cases hf
  exact C.retI rfl (by decide +kernel) ⟨rfl, rfl⟩
def f_X15_gets_158 (k68 : Nat → Int32 → Int32 → Option Nat → Int32 → Int32 → Int32 → Int32 → AH → Option (Int32 × AH)) (r0 : Nat) (i2 : Int32) (i3 : Int32) (r4 : Nat) (i5 : Int32) (i6 : Int32) (i8 : Int32) (si0 : Int32) (si1 : Int32) (h : AH) : Option (Int32 × AH) :=
  k68 r0 i2 i3 (some r4) i5 i6 (si1 + si0) (i8 + 1) h
set_option maxRecDepth 100000 in
set_option maxHeartbeats 4000000 in
theorem l_X15_gets_158 {X : MX} {l : Launch} {G : GX} {h0 : AH} {rr : Int32} {hr : AH} (C : Cx X G RX15 cX15_gets 11 (some .int) 1 22 h0) (C2 : Cy X l "gets" []) {k68 : Nat → Int32 → Int32 → Option Nat → Int32 → Int32 → Int32 → Int32 → AH → Option (Int32 × AH)} (hk68 : ∀ (r0 : Nat) (i2 : Int32) (i3 : Int32) (o4 : Option Nat) (i5 : Int32) (i6 : Int32) (i7 : Int32) (i8 : Int32) (h : AH), k68 r0 i2 i3 o4 i5 i6 i7 i8 h = some (rr, hr) → V X G h0 (QI rr hr) 68 [(0, .ref r0), (2, .int i2), (3, .int i3), (4, va_rf o4), (5, .int i5), (6, .int i6), (7, .int i7), (8, .int i8)] [] h) (r0 : Nat) (i2 : Int32) (i3 : Int32) (r4 : Nat) (i5 : Int32) (i6 : Int32) (i8 : Int32) (si0 : Int32) (si1 : Int32) (h : AH) (hf : f_X15_gets_158 k68 r0 i2 i3 r4 i5 i6 i8 si0 si1 h = some (rr, hr)) : V X G h0 (QI rr hr) 158 [(0, .ref r0), (2, .int i2), (3, .int i3), (4, .ref r4), (5, .int i5), (6, .int i6), (8, .int i8)] [.int si0, .int si1] h := by
  unfold f_X15_gets_158 at hf
  refine C.seg (pe := 164) (lv' := [(8, .int (i8 + 1)), (7, .int (si1 + si0)), (0, .ref r0), (2, .int i2), (3, .int i3), (4, .ref r4), (5, .int i5), (6, .int i6)]) (st' := []) [(.iadd, 1, 0), (.istore 7, 2, 0), (.iinc 8 1, 3, 1)] (by decide +kernel) rfl ?_
  refine C.goto (off := (-96)) (tgt := 68) (by decide +kernel) (by decide) ?_
  refine Vsub [2, 3, 4, 5, 6, 7, 1, 0] rfl ?_
  exact hk68 r0 i2 i3 (some r4) i5 i6 (si1 + si0) (i8 + 1) h hf
def f_X15_gets_129 (k68 : Nat → Int32 → Int32 → Option Nat → Int32 → Int32 → Int32 → Int32 → AH → Option (Int32 × AH)) (r0 : Nat) (i2 : Int32) (i3 : Int32) (r4 : Nat) (i6 : Int32) (i7 : Int32) (i8 : Int32) (i9 : Int32) (si0 : Int32) (si1 : Int32) (h : AH) : Option (Int32 × AH) :=
  (gA 13 h r4 2).bind fun a1 =>
  (aI 0 h a1 i8).bind fun x2 =>
  if x2 = (-1) then
    f_X15_gets_158 k68 r0 i2 i3 r4 (si1 + si0) (i6 - i9) i8 1 i7 h
  else
    f_X15_gets_158 k68 r0 i2 i3 r4 (si1 + si0) (i6 - i9) i8 0 i7 h
set_option maxRecDepth 100000 in
set_option maxHeartbeats 4000000 in
theorem l_X15_gets_129 {X : MX} {l : Launch} {G : GX} {h0 : AH} {rr : Int32} {hr : AH} (C : Cx X G RX15 cX15_gets 11 (some .int) 1 22 h0) (C2 : Cy X l "gets" []) {k68 : Nat → Int32 → Int32 → Option Nat → Int32 → Int32 → Int32 → Int32 → AH → Option (Int32 × AH)} (hk68 : ∀ (r0 : Nat) (i2 : Int32) (i3 : Int32) (o4 : Option Nat) (i5 : Int32) (i6 : Int32) (i7 : Int32) (i8 : Int32) (h : AH), k68 r0 i2 i3 o4 i5 i6 i7 i8 h = some (rr, hr) → V X G h0 (QI rr hr) 68 [(0, .ref r0), (2, .int i2), (3, .int i3), (4, va_rf o4), (5, .int i5), (6, .int i6), (7, .int i7), (8, .int i8)] [] h) (r0 : Nat) (i2 : Int32) (i3 : Int32) (r4 : Nat) (i6 : Int32) (i7 : Int32) (i8 : Int32) (i9 : Int32) (si0 : Int32) (si1 : Int32) (h : AH) (hf : f_X15_gets_129 k68 r0 i2 i3 r4 i6 i7 i8 i9 si0 si1 h = some (rr, hr)) : V X G h0 (QI rr hr) 129 [(0, .ref r0), (2, .int i2), (3, .int i3), (4, .ref r4), (6, .int i6), (7, .int i7), (8, .int i8), (9, .int i9)] [.int si0, .int si1] h := by
  unfold f_X15_gets_129 at hf
  refine C.seg (pe := 143) (lv' := [(6, .int (i6 - i9)), (5, .int (si1 + si0)), (0, .ref r0), (2, .int i2), (3, .int i3), (4, .ref r4), (7, .int i7), (8, .int i8), (9, .int i9)]) (st' := [.ref r4, .int i7]) [(.iadd, 1, 0), (.istore 5, 2, 0), (.iload 6, 2, 0), (.iload 9, 2, 0), (.isub, 1, 0), (.istore 6, 2, 0), (.iload 7, 2, 0), (.aload 4, 2, 0)] (by decide +kernel) rfl ?_
  obtain ⟨a1, ga1, hf⟩ := Option.bind_eq_some_iff.mp hf
  refine C.rdA fr_1777 ga1 (by decide +kernel) rfl ?_
  refine C.seg (pe := 148) (lv' := [(6, .int (i6 - i9)), (5, .int (si1 + si0)), (0, .ref r0), (2, .int i2), (3, .int i3), (4, .ref r4), (7, .int i7), (8, .int i8), (9, .int i9)]) (st' := [.int i8, .ref a1, .int i7]) [(.iload 8, 2, 0)] (by decide +kernel) rfl ?_
  obtain ⟨x2, gx2, hf⟩ := Option.bind_eq_some_iff.mp hf
  refine C.ald 0 rfl gx2 (by decide +kernel) rfl ?_
  refine C.seg (pe := 150) (lv' := [(6, .int (i6 - i9)), (5, .int (si1 + si0)), (0, .ref r0), (2, .int i2), (3, .int i3), (4, .ref r4), (7, .int i7), (8, .int i8), (9, .int i9)]) (st' := [.int (-1), .int x2, .int i7]) [(.iconst (-1), 1, (-1))] (by decide +kernel) rfl ?_
  refine C.icmp_ne (off := 7) (tgt := 157) (pf := 153) (by decide +kernel) (by decide) rfl (fun c3 => ?_) (fun c3 => ?_)
  · replace hf := ifn c3 hf
    refine C.seg (pe := 158) (lv' := [(6, .int (i6 - i9)), (5, .int (si1 + si0)), (0, .ref r0), (2, .int i2), (3, .int i3), (4, .ref r4), (7, .int i7), (8, .int i8), (9, .int i9)]) (st' := [.int 0, .int i7]) [(.iconst 0, 1, 0)] (by decide +kernel) rfl ?_
    refine Vsub [2, 3, 4, 5, 1, 0, 7] rfl ?_
    exact l_X15_gets_158 C C2 hk68 r0 i2 i3 r4 (si1 + si0) (i6 - i9) i8 0 i7 h hf
  · replace hf := ifp c3 hf
    refine C.seg (pe := 154) (lv' := [(6, .int (i6 - i9)), (5, .int (si1 + si0)), (0, .ref r0), (2, .int i2), (3, .int i3), (4, .ref r4), (7, .int i7), (8, .int i8), (9, .int i9)]) (st' := [.int 1, .int i7]) [(.iconst 1, 1, 1)] (by decide +kernel) rfl ?_
    refine C.goto (off := 4) (tgt := 158) (by decide +kernel) (by decide) ?_
    refine Vsub [2, 3, 4, 5, 1, 0, 7] rfl ?_
    exact l_X15_gets_158 C C2 hk68 r0 i2 i3 r4 (si1 + si0) (i6 - i9) i8 1 i7 h hf
def f_X15_gets_107 (k68 : Nat → Int32 → Int32 → Option Nat → Int32 → Int32 → Int32 → Int32 → AH → Option (Int32 × AH)) (r0 : Nat) (i2 : Int32) (i3 : Int32) (r4 : Nat) (i5 : Int32) (i6 : Int32) (i7 : Int32) (i8 : Int32) (si0 : Int32) (h : AH) : Option (Int32 × AH) :=
  (gA 13 h r4 1).bind fun a1 =>
  (aI 0 h a1 i8).bind fun x2 =>
  if x2 = i3 then
    f_X15_gets_129 k68 r0 i2 i3 r4 i6 i7 i8 si0 si0 i5 h
  else
    f_X15_gets_129 k68 r0 i2 i3 r4 i6 i7 i8 si0 0 i5 h
set_option maxRecDepth 100000 in
set_option maxHeartbeats 4000000 in
theorem l_X15_gets_107 {X : MX} {l : Launch} {G : GX} {h0 : AH} {rr : Int32} {hr : AH} (C : Cx X G RX15 cX15_gets 11 (some .int) 1 22 h0) (C2 : Cy X l "gets" []) {k68 : Nat → Int32 → Int32 → Option Nat → Int32 → Int32 → Int32 → Int32 → AH → Option (Int32 × AH)} (hk68 : ∀ (r0 : Nat) (i2 : Int32) (i3 : Int32) (o4 : Option Nat) (i5 : Int32) (i6 : Int32) (i7 : Int32) (i8 : Int32) (h : AH), k68 r0 i2 i3 o4 i5 i6 i7 i8 h = some (rr, hr) → V X G h0 (QI rr hr) 68 [(0, .ref r0), (2, .int i2), (3, .int i3), (4, va_rf o4), (5, .int i5), (6, .int i6), (7, .int i7), (8, .int i8)] [] h) (r0 : Nat) (i2 : Int32) (i3 : Int32) (r4 : Nat) (i5 : Int32) (i6 : Int32) (i7 : Int32) (i8 : Int32) (si0 : Int32) (h : AH) (hf : f_X15_gets_107 k68 r0 i2 i3 r4 i5 i6 i7 i8 si0 h = some (rr, hr)) : V X G h0 (QI rr hr) 107 [(0, .ref r0), (2, .int i2), (3, .int i3), (4, .ref r4), (5, .int i5), (6, .int i6), (7, .int i7), (8, .int i8)] [.int si0] h := by
  unfold f_X15_gets_107 at hf
  refine C.seg (pe := 113) (lv' := [(9, .int si0), (0, .ref r0), (2, .int i2), (3, .int i3), (4, .ref r4), (5, .int i5), (6, .int i6), (7, .int i7), (8, .int i8)]) (st' := [.ref r4, .int i5]) [(.istore 9, 2, 0), (.iload 5, 2, 0), (.aload 4, 2, 0)] (by decide +kernel) rfl ?_
  obtain ⟨a1, ga1, hf⟩ := Option.bind_eq_some_iff.mp hf
  refine C.rdA fr_1775 ga1 (by decide +kernel) rfl ?_
  refine C.seg (pe := 118) (lv' := [(9, .int si0), (0, .ref r0), (2, .int i2), (3, .int i3), (4, .ref r4), (5, .int i5), (6, .int i6), (7, .int i7), (8, .int i8)]) (st' := [.int i8, .ref a1, .int i5]) [(.iload 8, 2, 0)] (by decide +kernel) rfl ?_
  obtain ⟨x2, gx2, hf⟩ := Option.bind_eq_some_iff.mp hf
  refine C.ald 0 rfl gx2 (by decide +kernel) rfl ?_
  refine C.seg (pe := 120) (lv' := [(9, .int si0), (0, .ref r0), (2, .int i2), (3, .int i3), (4, .ref r4), (5, .int i5), (6, .int i6), (7, .int i7), (8, .int i8)]) (st' := [.int i3, .int x2, .int i5]) [(.iload_n 3, 1, 0)] (by decide +kernel) rfl ?_
  refine C.icmp_ne (off := 8) (tgt := 128) (pf := 123) (by decide +kernel) (by decide) rfl (fun c3 => ?_) (fun c3 => ?_)
  · replace hf := ifn c3 hf
    refine C.seg (pe := 129) (lv' := [(9, .int si0), (0, .ref r0), (2, .int i2), (3, .int i3), (4, .ref r4), (5, .int i5), (6, .int i6), (7, .int i7), (8, .int i8)]) (st' := [.int 0, .int i5]) [(.iconst 0, 1, 0)] (by decide +kernel) rfl ?_
    refine Vsub [1, 2, 3, 4, 6, 7, 8, 0] rfl ?_
    exact l_X15_gets_129 C C2 hk68 r0 i2 i3 r4 i6 i7 i8 si0 0 i5 h hf
  · replace hf := ifp c3 hf
    refine C.seg (pe := 125) (lv' := [(9, .int si0), (0, .ref r0), (2, .int i2), (3, .int i3), (4, .ref r4), (5, .int i5), (6, .int i6), (7, .int i7), (8, .int i8)]) (st' := [.int si0, .int i5]) [(.iload 9, 2, 0)] (by decide +kernel) rfl ?_
    refine C.goto (off := 4) (tgt := 129) (by decide +kernel) (by decide) ?_
    refine Vsub [1, 2, 3, 4, 6, 7, 8, 0] rfl ?_
    exact l_X15_gets_129 C C2 hk68 r0 i2 i3 r4 i6 i7 i8 si0 si0 i5 h hf
def f_X15_gets_68 : Nat → Nat → Int32 → Int32 → Option Nat → Int32 → Int32 → Int32 → Int32 → AH → Option (Int32 × AH)
  | 0, _, _, _, _, _, _, _, _, _ => none
  | n + 1, r0, i2, i3, o4, i5, i6, i7, i8, h =>
    tr o4 (
      none) fun r4 =>
    (gI 13 h r4 0).bind fun x1 =>
    if x1 ≤ i8 then
      if i7 = 0 then
        if i3 = 2 then
          f_X15_gets_186 i6 i5 r0 h
        else
          f_X15_gets_186 0 i5 r0 h
      else
        f_X15_gets_197 FU r0 i3 r4 i5 i6 i7 1 0 h
    else
      (gA 13 h r4 2).bind fun a4 =>
      (aI 0 h a4 i8).bind fun x5 =>
      if x5 = (-1) then
        f_X15_gets_107 (f_X15_gets_68 n) r0 i2 i3 r4 i5 i6 i7 i8 0 h
      else
        (gA 13 h r4 2).bind fun a6 =>
        (aI 0 h a6 i8).bind fun x7 =>
        f_X15_gets_107 (f_X15_gets_68 n) r0 i2 i3 r4 i5 i6 i7 i8 ((i2 * x7) / 100) h
set_option maxRecDepth 100000 in
set_option maxHeartbeats 4000000 in
theorem l_X15_gets_68 {X : MX} {l : Launch} {G : GX} {h0 : AH} {rr : Int32} {hr : AH} (C : Cx X G RX15 cX15_gets 11 (some .int) 1 22 h0) (C2 : Cy X l "gets" []) : ∀ (n : Nat) (r0 : Nat) (i2 : Int32) (i3 : Int32) (o4 : Option Nat) (i5 : Int32) (i6 : Int32) (i7 : Int32) (i8 : Int32) (h : AH), f_X15_gets_68 n r0 i2 i3 o4 i5 i6 i7 i8 h = some (rr, hr) → V X G h0 (QI rr hr) 68 [(0, .ref r0), (2, .int i2), (3, .int i3), (4, va_rf o4), (5, .int i5), (6, .int i6), (7, .int i7), (8, .int i8)] [] h := by
  intro n
  induction n with
  | zero => intro r0 i2 i3 o4 i5 i6 i7 i8 h hf; rw [f_X15_gets_68] at hf; cases hf
  | succ n ih =>
    intro r0 i2 i3 o4 i5 i6 i7 i8 h hf
    rw [f_X15_gets_68] at hf
    cases o4 with
    | none =>
      replace hf := tr_none hf
      refine C.seg (pe := 72) (lv' := [(0, .ref r0), (2, .int i2), (3, .int i3), (4, .null), (5, .int i5), (6, .int i6), (7, .int i7), (8, .int i8)]) (st' := [.null, .int i8]) [(.iload 8, 2, 0), (.aload 4, 2, 0)] (by decide +kernel) rfl ?_
      cases hf
    | some r4 =>
      replace hf := tr_some hf
      refine C.seg (pe := 72) (lv' := [(0, .ref r0), (2, .int i2), (3, .int i3), (4, .ref r4), (5, .int i5), (6, .int i6), (7, .int i7), (8, .int i8)]) (st' := [.ref r4, .int i8]) [(.iload 8, 2, 0), (.aload 4, 2, 0)] (by decide +kernel) rfl ?_
      obtain ⟨x1, gx1, hf⟩ := Option.bind_eq_some_iff.mp hf
      refine C.rdI fr_1773 gx1 (by decide +kernel) rfl ?_
      refine C.icmp_ge (off := 92) (tgt := 167) (pf := 78) (by decide +kernel) (by decide) rfl (fun c9 => ?_) (fun c9 => ?_)
      · replace hf := ifp c9 hf
        refine C.seg (pe := 169) (lv' := [(0, .ref r0), (2, .int i2), (3, .int i3), (4, .ref r4), (5, .int i5), (6, .int i6), (7, .int i7), (8, .int i8)]) (st' := [.int i7]) [(.iload 7, 2, 0)] (by decide +kernel) rfl ?_
        refine C.if_ne (off := 22) (tgt := 191) (pf := 172) (by decide +kernel) (by decide) rfl (fun c3 => ?_) (fun c3 => ?_)
        · replace hf := ifn c3 hf
          refine C.seg (pe := 197) (lv' := [(9, .int 0), (8, .int 1), (0, .ref r0), (2, .int i2), (3, .int i3), (4, .ref r4), (5, .int i5), (6, .int i6), (7, .int i7)]) (st' := []) [(.iconst 1, 1, 1), (.istore 8, 2, 0), (.iconst 0, 1, 0), (.istore 9, 2, 0)] (by decide +kernel) rfl ?_
          refine Vsub [2, 4, 5, 6, 7, 8, 1, 0] rfl ?_
          exact l_X15_gets_197 C C2 FU r0 i3 r4 i5 i6 i7 1 0 h hf
        · replace hf := ifp c3 hf
          refine C.seg (pe := 177) (lv' := [(0, .ref r0), (2, .int i2), (3, .int i3), (4, .ref r4), (5, .int i5), (6, .int i6), (7, .int i7), (8, .int i8)]) (st' := [.int 2, .int i3, .int i5, .ref r0]) [(.aload_n 0, 1, 0), (.iload 5, 2, 0), (.iload_n 3, 1, 0), (.iconst 2, 1, 2)] (by decide +kernel) rfl ?_
          refine C.icmp_ne (off := 8) (tgt := 185) (pf := 180) (by decide +kernel) (by decide) rfl (fun c2 => ?_) (fun c2 => ?_)
          · replace hf := ifn c2 hf
            refine C.seg (pe := 186) (lv' := [(0, .ref r0), (2, .int i2), (3, .int i3), (4, .ref r4), (5, .int i5), (6, .int i6), (7, .int i7), (8, .int i8)]) (st' := [.int 0, .int i5, .ref r0]) [(.iconst 0, 1, 0)] (by decide +kernel) rfl ?_
            refine Vsub [] rfl ?_
            exact l_X15_gets_186 C C2 0 i5 r0 h hf
          · replace hf := ifp c2 hf
            refine C.seg (pe := 182) (lv' := [(0, .ref r0), (2, .int i2), (3, .int i3), (4, .ref r4), (5, .int i5), (6, .int i6), (7, .int i7), (8, .int i8)]) (st' := [.int i6, .int i5, .ref r0]) [(.iload 6, 2, 0)] (by decide +kernel) rfl ?_
            refine C.goto (off := 4) (tgt := 186) (by decide +kernel) (by decide) ?_
            refine Vsub [] rfl ?_
            exact l_X15_gets_186 C C2 i6 i5 r0 h hf
      · replace hf := ifn c9 hf
        refine C.seg (pe := 80) (lv' := [(0, .ref r0), (2, .int i2), (3, .int i3), (4, .ref r4), (5, .int i5), (6, .int i6), (7, .int i7), (8, .int i8)]) (st' := [.ref r4]) [(.aload 4, 2, 0)] (by decide +kernel) rfl ?_
        obtain ⟨a4, ga4, hf⟩ := Option.bind_eq_some_iff.mp hf
        refine C.rdA fr_1777 ga4 (by decide +kernel) rfl ?_
        refine C.seg (pe := 85) (lv' := [(0, .ref r0), (2, .int i2), (3, .int i3), (4, .ref r4), (5, .int i5), (6, .int i6), (7, .int i7), (8, .int i8)]) (st' := [.int i8, .ref a4]) [(.iload 8, 2, 0)] (by decide +kernel) rfl ?_
        obtain ⟨x5, gx5, hf⟩ := Option.bind_eq_some_iff.mp hf
        refine C.ald 0 rfl gx5 (by decide +kernel) rfl ?_
        refine C.seg (pe := 87) (lv' := [(0, .ref r0), (2, .int i2), (3, .int i3), (4, .ref r4), (5, .int i5), (6, .int i6), (7, .int i7), (8, .int i8)]) (st' := [.int (-1), .int x5]) [(.iconst (-1), 1, (-1))] (by decide +kernel) rfl ?_
        refine C.icmp_ne (off := 7) (tgt := 94) (pf := 90) (by decide +kernel) (by decide) rfl (fun c8 => ?_) (fun c8 => ?_)
        · replace hf := ifn c8 hf
          refine C.seg (pe := 97) (lv' := [(0, .ref r0), (2, .int i2), (3, .int i3), (4, .ref r4), (5, .int i5), (6, .int i6), (7, .int i7), (8, .int i8)]) (st' := [.ref r4, .int i2]) [(.iload_n 2, 1, 0), (.aload 4, 2, 0)] (by decide +kernel) rfl ?_
          obtain ⟨a6, ga6, hf⟩ := Option.bind_eq_some_iff.mp hf
          refine C.rdA fr_1777 ga6 (by decide +kernel) rfl ?_
          refine C.seg (pe := 102) (lv' := [(0, .ref r0), (2, .int i2), (3, .int i3), (4, .ref r4), (5, .int i5), (6, .int i6), (7, .int i7), (8, .int i8)]) (st' := [.int i8, .ref a6, .int i2]) [(.iload 8, 2, 0)] (by decide +kernel) rfl ?_
          obtain ⟨x7, gx7, hf⟩ := Option.bind_eq_some_iff.mp hf
          refine C.ald 0 rfl gx7 (by decide +kernel) rfl ?_
          refine C.seg (pe := 106) (lv' := [(0, .ref r0), (2, .int i2), (3, .int i3), (4, .ref r4), (5, .int i5), (6, .int i6), (7, .int i7), (8, .int i8)]) (st' := [.int 100, .int (i2 * x7)]) [(.imul, 1, 0), (.bipush 100, 2, 100)] (by decide +kernel) rfl ?_
          refine C.idiv (by decide +kernel) rfl (by decide) ?_
          exact l_X15_gets_107 C C2 ih r0 i2 i3 r4 i5 i6 i7 i8 ((i2 * x7) / 100) h hf
        · replace hf := ifp c8 hf
          refine C.seg (pe := 91) (lv' := [(0, .ref r0), (2, .int i2), (3, .int i3), (4, .ref r4), (5, .int i5), (6, .int i6), (7, .int i7), (8, .int i8)]) (st' := [.int 0]) [(.iconst 0, 1, 0)] (by decide +kernel) rfl ?_
          refine C.goto (off := 16) (tgt := 107) (by decide +kernel) (by decide) ?_
          exact l_X15_gets_107 C C2 ih r0 i2 i3 r4 i5 i6 i7 i8 0 h hf
def f_X15_gets_42 (r0 : Nat) (h : AH) : Option (Int32 × AH) :=
  b2 (f_X15_refused r0 2 h) fun x1 h2 =>
  some (x1, h2)
set_option maxRecDepth 100000 in
set_option maxHeartbeats 4000000 in
theorem l_X15_gets_42 {X : MX} {l : Launch} {G : GX} {h0 : AH} {rr : Int32} {hr : AH} (C : Cx X G RX15 cX15_gets 11 (some .int) 1 22 h0) (C2 : Cy X l "gets" []) (r0 : Nat) (h : AH) (hf : f_X15_gets_42 r0 h = some (rr, hr)) : V X G h0 (QI rr hr) 42 [(0, .ref r0)] [] h := by
  unfold f_X15_gets_42 at hf
  refine C.seg (pe := 44) (lv' := [(0, .ref r0)]) (st' := [.int 2, .ref r0]) [(.aload_n 0, 1, 0), (.iconst 2, 1, 2)] (by decide +kernel) rfl ?_
  obtain ⟨x1, h2, gx1, hf⟩ := b2_some hf
  refine C.callVr C2 [.int 2] [] mv_2112 rfl (o_X15_refused gx1) (w_X15_refused gx1) (by omega) (by omega) (Nat.le_of_ble_eq_true rfl) (by decide +kernel) rfl ?_
  cases hf
  exact C.retI rfl (by decide +kernel) ⟨rfl, rfl⟩
def f_X15_gets_17 (r0 : Nat) (h : AH) : Option (Int32 × AH) :=
  b2 (f_X15_refused r0 1 h) fun x1 h2 =>
  some (x1, h2)
set_option maxRecDepth 100000 in
set_option maxHeartbeats 4000000 in
theorem l_X15_gets_17 {X : MX} {l : Launch} {G : GX} {h0 : AH} {rr : Int32} {hr : AH} (C : Cx X G RX15 cX15_gets 11 (some .int) 1 22 h0) (C2 : Cy X l "gets" []) (r0 : Nat) (h : AH) (hf : f_X15_gets_17 r0 h = some (rr, hr)) : V X G h0 (QI rr hr) 17 [(0, .ref r0)] [] h := by
  unfold f_X15_gets_17 at hf
  refine C.seg (pe := 19) (lv' := [(0, .ref r0)]) (st' := [.int 1, .ref r0]) [(.aload_n 0, 1, 0), (.iconst 1, 1, 1)] (by decide +kernel) rfl ?_
  obtain ⟨x1, h2, gx1, hf⟩ := b2_some hf
  refine C.callVr C2 [.int 1] [] mv_2112 rfl (o_X15_refused gx1) (w_X15_refused gx1) (by omega) (by omega) (Nat.le_of_ble_eq_true rfl) (by decide +kernel) rfl ?_
  cases hf
  exact C.retI rfl (by decide +kernel) ⟨rfl, rfl⟩
def f_X15_gets (a0 : Nat) (p1 : Int32) (p2 : Int32) (p3 : Int32) (h : AH) : Option (Int32 × AH) :=
  if isO 15 h a0 = true then
    (pI 15 h a0 0 0).bind fun h1 =>
    if p1 < 0 then
      f_X15_gets_17 a0 h1
    else
      (gI 15 h1 a0 103).bind fun x2 =>
      if p1 < x2 then
        b2 (f_X15_in p2 0 1000000 h1) fun x3 h4 =>
        if x3 = 0 then
          f_X15_gets_42 a0 h4
        else
          b2 (f_X15_in p3 0 3 h4) fun x5 h6 =>
          if x5 = 0 then
            f_X15_gets_42 a0 h6
          else
            (gA 15 h6 a0 104).bind fun a7 =>
            (aQ 8 h6 a7 p1).bind fun q8 =>
            tr q8 (
              f_X15_gets_68 FU a0 p2 p3 none 0 p2 0 0 h6) fun a9 =>
            f_X15_gets_68 FU a0 p2 p3 (some a9) 0 p2 0 0 h6
      else
        f_X15_gets_17 a0 h1
  else none
set_option maxRecDepth 100000 in
set_option maxHeartbeats 4000000 in
theorem w_X15_gets {l : Launch} {G : GX} {a0 : Nat} {p1 : Int32} {p2 : Int32} {p3 : Int32} {h : AH} {rr : Int32} {hr : AH} (hf : f_X15_gets a0 p1 p2 p3 h = some (rr, hr)) : Ct l G yX15_gets 1 22 [.ref a0, .int p1, .int p2, .int p3] h (QI rr hr) := by
  unfold f_X15_gets at hf
  obtain ⟨ho, hf⟩ := ifO hf
  refine Ct_of (own := RX15) (cc := cX15_gets) (nL := 11) (ret := (some .int)) rfl rfl k_2550 (Nat.le_of_ble_eq_true rfl) (fun X C2 C => ?_)
  show V X G h (QI rr hr) 0 [(0, .ref a0), (1, .int p1), (2, .int p2), (3, .int p3)] [] h
  refine C.seg (pe := 2) (lv' := [(0, .ref a0), (1, .int p1), (2, .int p2), (3, .int p3)]) (st' := [.int 0, .ref a0]) [(.aload_n 0, 1, 0), (.iconst 0, 1, 0)] (by decide +kernel) rfl ?_
  obtain ⟨h1, gh1, hf⟩ := Option.bind_eq_some_iff.mp hf
  refine C.putI fl_1786 gh1 (by decide +kernel) rfl ?_
  refine C.seg (pe := 6) (lv' := [(0, .ref a0), (1, .int p1), (2, .int p2), (3, .int p3)]) (st' := [.int p1]) [(.iload_n 1, 1, 0)] (by decide +kernel) rfl ?_
  refine C.if_lt (off := 11) (tgt := 17) (pf := 9) (by decide +kernel) (by decide) rfl (fun c13 => ?_) (fun c13 => ?_)
  · replace hf := ifp c13 hf
    refine Vsub [0] rfl ?_
    exact l_X15_gets_17 C C2 a0 h1 hf
  · replace hf := ifn c13 hf
    refine C.seg (pe := 11) (lv' := [(0, .ref a0), (1, .int p1), (2, .int p2), (3, .int p3)]) (st' := [.ref a0, .int p1]) [(.iload_n 1, 1, 0), (.aload_n 0, 1, 0)] (by decide +kernel) rfl ?_
    obtain ⟨x2, gx2, hf⟩ := Option.bind_eq_some_iff.mp hf
    refine C.rdI fr_1889 gx2 (by decide +kernel) rfl ?_
    refine C.icmp_lt (off := 9) (tgt := 23) (pf := 17) (by decide +kernel) (by decide) rfl (fun c12 => ?_) (fun c12 => ?_)
    · replace hf := ifp c12 hf
      refine C.seg (pe := 25) (lv' := [(0, .ref a0), (1, .int p1), (2, .int p2), (3, .int p3)]) (st' := [.int 0, .int p2]) [(.iload_n 2, 1, 0), (.iconst 0, 1, 0)] (by decide +kernel) rfl ?_
      refine C.ldcI k_1785 (by decide +kernel) rfl ?_
      obtain ⟨x3, h4, gx3, hf⟩ := b2_some hf
      refine C.callSr C2 [.int p2, .int 0, .int 1000000] [] ms_2109 rfl (w_X15_in gx3) (by omega) (by omega) (Nat.le_of_ble_eq_true rfl) (by decide +kernel) rfl ?_
      refine C.if_eq (off := 12) (tgt := 42) (pf := 33) (by decide +kernel) (by decide) rfl (fun c11 => ?_) (fun c11 => ?_)
      · replace hf := ifp c11 hf
        refine Vsub [0] rfl ?_
        exact l_X15_gets_42 C C2 a0 h4 hf
      · replace hf := ifn c11 hf
        refine C.seg (pe := 36) (lv' := [(0, .ref a0), (1, .int p1), (2, .int p2), (3, .int p3)]) (st' := [.int 3, .int 0, .int p3]) [(.iload_n 3, 1, 0), (.iconst 0, 1, 0), (.iconst 3, 1, 3)] (by decide +kernel) rfl ?_
        obtain ⟨x5, h6, gx5, hf⟩ := b2_some hf
        refine C.callSr C2 [.int p3, .int 0, .int 3] [] ms_2109 rfl (w_X15_in gx5) (by omega) (by omega) (Nat.le_of_ble_eq_true rfl) (by decide +kernel) rfl ?_
        refine C.if_ne (off := 9) (tgt := 48) (pf := 42) (by decide +kernel) (by decide) rfl (fun c10 => ?_) (fun c10 => ?_)
        · replace hf := ifn c10 hf
          refine C.seg (pe := 49) (lv' := [(0, .ref a0), (1, .int p1), (2, .int p2), (3, .int p3)]) (st' := [.ref a0]) [(.aload_n 0, 1, 0)] (by decide +kernel) rfl ?_
          obtain ⟨a7, ga7, hf⟩ := Option.bind_eq_some_iff.mp hf
          refine C.rdA fr_1890 ga7 (by decide +kernel) rfl ?_
          refine C.seg (pe := 53) (lv' := [(0, .ref a0), (1, .int p1), (2, .int p2), (3, .int p3)]) (st' := [.int p1, .ref a7]) [(.iload_n 1, 1, 0)] (by decide +kernel) rfl ?_
          obtain ⟨q8, gq8, hf⟩ := Option.bind_eq_some_iff.mp hf
          cases q8 with
          | none =>
            refine C.aald 8 rfl gq8 (by decide +kernel) rfl ?_
            replace hf := tr_none hf
            refine C.seg (pe := 68) (lv' := [(8, .int 0), (7, .int 0), (6, .int p2), (5, .int 0), (4, .null), (0, .ref a0), (1, .int p1), (2, .int p2), (3, .int p3)]) (st' := []) [(.astore 4, 2, 0), (.iconst 0, 1, 0), (.istore 5, 2, 0), (.iload_n 2, 1, 0), (.istore 6, 2, 0), (.iconst 0, 1, 0), (.istore 7, 2, 0), (.iconst 0, 1, 0), (.istore 8, 2, 0)] (by decide +kernel) rfl ?_
            refine Vsub [5, 7, 8, 4, 3, 2, 1, 0] rfl ?_
            exact l_X15_gets_68 C C2 FU a0 p2 p3 none 0 p2 0 0 h6 hf
          | some a9 =>
            refine C.aald 8 rfl gq8 (by decide +kernel) rfl ?_
            replace hf := tr_some hf
            refine C.seg (pe := 68) (lv' := [(8, .int 0), (7, .int 0), (6, .int p2), (5, .int 0), (4, .ref a9), (0, .ref a0), (1, .int p1), (2, .int p2), (3, .int p3)]) (st' := []) [(.astore 4, 2, 0), (.iconst 0, 1, 0), (.istore 5, 2, 0), (.iload_n 2, 1, 0), (.istore 6, 2, 0), (.iconst 0, 1, 0), (.istore 7, 2, 0), (.iconst 0, 1, 0), (.istore 8, 2, 0)] (by decide +kernel) rfl ?_
            refine Vsub [5, 7, 8, 4, 3, 2, 1, 0] rfl ?_
            exact l_X15_gets_68 C C2 FU a0 p2 p3 (some a9) 0 p2 0 0 h6 hf
        · replace hf := ifp c10 hf
          refine Vsub [0] rfl ?_
          exact l_X15_gets_42 C C2 a0 h6 hf
    · replace hf := ifn c12 hf
      refine Vsub [0] rfl ?_
      exact l_X15_gets_17 C C2 a0 h1 hf
theorem o_X15_gets {a0 : Nat} {p1 : Int32} {p2 : Int32} {p3 : Int32} {h : AH} {rr : Int32} {hr : AH} (hf : f_X15_gets a0 p1 p2 p3 h = some (rr, hr)) : isO 15 h a0 = true := by
  unfold f_X15_gets at hf
  exact (ifO hf).1
/-! WallHouseModel.led(IIII)I -/
def f_X15_led_95 (si0 : Int32) (h : AH) : Option (Int32 × AH) :=
  some (si0, h)
set_option maxRecDepth 100000 in
set_option maxHeartbeats 4000000 in
theorem l_X15_led_95 {X : MX} {l : Launch} {G : GX} {h0 : AH} {rr : Int32} {hr : AH} (C : Cx X G RX15 cX15_led 6 (some .int) 2 45 h0) (C2 : Cy X l "led" []) (si0 : Int32) (h : AH) (hf : f_X15_led_95 si0 h = some (rr, hr)) : V X G h0 (QI rr hr) 95 [] [.int si0] h := by
  unfold f_X15_led_95 at hf
  cases hf
  exact C.retI rfl (by decide +kernel) ⟨rfl, rfl⟩
def f_X15_led_31 (h : AH) : Option (Int32 × AH) :=
  some ((-1), h)
set_option maxRecDepth 100000 in
set_option maxHeartbeats 4000000 in
theorem l_X15_led_31 {X : MX} {l : Launch} {G : GX} {h0 : AH} {rr : Int32} {hr : AH} (C : Cx X G RX15 cX15_led 6 (some .int) 2 45 h0) (C2 : Cy X l "led" []) (h : AH) (hf : f_X15_led_31 h = some (rr, hr)) : V X G h0 (QI rr hr) 31 [] [] h := by
  unfold f_X15_led_31 at hf
  refine C.seg (pe := 32) (lv' := []) (st' := [.int (-1)]) [(.iconst (-1), 1, (-1))] (by decide +kernel) rfl ?_
  cases hf
  exact C.retI rfl (by decide +kernel) ⟨rfl, rfl⟩
def f_X15_led (a0 : Nat) (p1 : Int32) (p2 : Int32) (p3 : Int32) (p4 : Int32) (h : AH) : Option (Int32 × AH) :=
  if isO 15 h a0 = true then
    (pI 15 h a0 0 0).bind fun h1 =>
    b2 (f_X15_isOn a0 p1 p2 p3 h1) fun x2 h3 =>
    if x2 = 0 then
      f_X15_led_31 h3
    else
      (gA 15 h3 a0 19).bind fun a4 =>
      b2 (f_X15_cellOf a0 p1 p2 p3 h3) fun x5 h6 =>
      (aI 0 h6 a4 x5).bind fun x7 =>
      if x7 = (-1) then
        f_X15_led_31 h6
      else
        b2 (f_X15_cellOf a0 p1 p2 p3 h6) fun x8 h9 =>
        if p4 = 0 then
          (gA 15 h9 a0 20).bind fun a18 =>
          (aI 0 h9 a18 x8).bind fun x19 =>
          f_X15_led_95 x19 h9
        else
          if p4 = 1 then
            (gA 15 h9 a0 80).bind fun a13 =>
            (gA 15 h9 a0 20).bind fun a14 =>
            (aI 0 h9 a14 x8).bind fun x15 =>
            (aI 0 h9 a13 x15).bind fun x16 =>
            f_X15_led_95 x16 h9
          else
            if p4 = 2 then
              (gA 15 h9 a0 21).bind fun a10 =>
              (aI 0 h9 a10 x8).bind fun x11 =>
              f_X15_led_95 x11 h9
            else
              f_X15_led_95 (-1) h9
  else none
set_option maxRecDepth 100000 in
set_option maxHeartbeats 4000000 in
theorem w_X15_led {l : Launch} {G : GX} {a0 : Nat} {p1 : Int32} {p2 : Int32} {p3 : Int32} {p4 : Int32} {h : AH} {rr : Int32} {hr : AH} (hf : f_X15_led a0 p1 p2 p3 p4 h = some (rr, hr)) : Ct l G yX15_led 2 45 [.ref a0, .int p1, .int p2, .int p3, .int p4] h (QI rr hr) := by
  unfold f_X15_led at hf
  obtain ⟨ho, hf⟩ := ifO hf
  refine Ct_of (own := RX15) (cc := cX15_led) (nL := 6) (ret := (some .int)) rfl rfl k_2554 (Nat.le_of_ble_eq_true rfl) (fun X C2 C => ?_)
  show V X G h (QI rr hr) 0 [(0, .ref a0), (1, .int p1), (2, .int p2), (3, .int p3), (4, .int p4)] [] h
  refine C.seg (pe := 2) (lv' := [(0, .ref a0), (1, .int p1), (2, .int p2), (3, .int p3), (4, .int p4)]) (st' := [.int 0, .ref a0]) [(.aload_n 0, 1, 0), (.iconst 0, 1, 0)] (by decide +kernel) rfl ?_
  obtain ⟨h1, gh1, hf⟩ := Option.bind_eq_some_iff.mp hf
  refine C.putI fl_1786 gh1 (by decide +kernel) rfl ?_
  refine C.seg (pe := 9) (lv' := [(0, .ref a0), (1, .int p1), (2, .int p2), (3, .int p3), (4, .int p4)]) (st' := [.int p3, .int p2, .int p1, .ref a0]) [(.aload_n 0, 1, 0), (.iload_n 1, 1, 0), (.iload_n 2, 1, 0), (.iload_n 3, 1, 0)] (by decide +kernel) rfl ?_
  obtain ⟨x2, h3, gx2, hf⟩ := b2_some hf
  refine C.callVr C2 [.int p1, .int p2, .int p3] [] mv_2474 rfl (o_X15_isOn gx2) (w_X15_isOn gx2) (by omega) (by omega) (Nat.le_of_ble_eq_true rfl) (by decide +kernel) rfl ?_
  refine C.if_eq (off := 19) (tgt := 31) (pf := 15) (by decide +kernel) (by decide) rfl (fun c22 => ?_) (fun c22 => ?_)
  · replace hf := ifp c22 hf
    refine Vsub [] rfl ?_
    exact l_X15_led_31 C C2 h3 hf
  · replace hf := ifn c22 hf
    refine C.seg (pe := 16) (lv' := [(0, .ref a0), (1, .int p1), (2, .int p2), (3, .int p3), (4, .int p4)]) (st' := [.ref a0]) [(.aload_n 0, 1, 0)] (by decide +kernel) rfl ?_
    obtain ⟨a4, ga4, hf⟩ := Option.bind_eq_some_iff.mp hf
    refine C.rdA fr_1805 ga4 (by decide +kernel) rfl ?_
    refine C.seg (pe := 23) (lv' := [(0, .ref a0), (1, .int p1), (2, .int p2), (3, .int p3), (4, .int p4)]) (st' := [.int p3, .int p2, .int p1, .ref a0, .ref a4]) [(.aload_n 0, 1, 0), (.iload_n 1, 1, 0), (.iload_n 2, 1, 0), (.iload_n 3, 1, 0)] (by decide +kernel) rfl ?_
    obtain ⟨x5, h6, gx5, hf⟩ := b2_some hf
    refine C.callVr C2 [.int p1, .int p2, .int p3] [.ref a4] mv_2144 rfl (o_X15_cellOf gx5) (w_X15_cellOf gx5) (by omega) (by omega) (Nat.le_of_ble_eq_true rfl) (by decide +kernel) rfl ?_
    obtain ⟨x7, gx7, hf⟩ := Option.bind_eq_some_iff.mp hf
    refine C.ald 0 rfl gx7 (by decide +kernel) rfl ?_
    refine C.seg (pe := 28) (lv' := [(0, .ref a0), (1, .int p1), (2, .int p2), (3, .int p3), (4, .int p4)]) (st' := [.int (-1), .int x7]) [(.iconst (-1), 1, (-1))] (by decide +kernel) rfl ?_
    refine C.icmp_ne (off := 5) (tgt := 33) (pf := 31) (by decide +kernel) (by decide) rfl (fun c21 => ?_) (fun c21 => ?_)
    · replace hf := ifn c21 hf
      refine C.seg (pe := 37) (lv' := [(0, .ref a0), (1, .int p1), (2, .int p2), (3, .int p3), (4, .int p4)]) (st' := [.int p3, .int p2, .int p1, .ref a0]) [(.aload_n 0, 1, 0), (.iload_n 1, 1, 0), (.iload_n 2, 1, 0), (.iload_n 3, 1, 0)] (by decide +kernel) rfl ?_
      obtain ⟨x8, h9, gx8, hf⟩ := b2_some hf
      refine C.callVr C2 [.int p1, .int p2, .int p3] [] mv_2144 rfl (o_X15_cellOf gx8) (w_X15_cellOf gx8) (by omega) (by omega) (Nat.le_of_ble_eq_true rfl) (by decide +kernel) rfl ?_
      refine C.seg (pe := 44) (lv' := [(5, .int x8), (0, .ref a0), (1, .int p1), (2, .int p2), (3, .int p3), (4, .int p4)]) (st' := [.int p4]) [(.istore 5, 2, 0), (.iload 4, 2, 0)] (by decide +kernel) rfl ?_
      refine C.if_ne (off := 13) (tgt := 57) (pf := 47) (by decide +kernel) (by decide) rfl (fun c20 => ?_) (fun c20 => ?_)
      · replace hf := ifn c20 hf
        refine C.seg (pe := 60) (lv' := [(5, .int x8), (0, .ref a0), (1, .int p1), (2, .int p2), (3, .int p3), (4, .int p4)]) (st' := [.int 1, .int p4]) [(.iload 4, 2, 0), (.iconst 1, 1, 1)] (by decide +kernel) rfl ?_
        refine C.icmp_ne (off := 18) (tgt := 78) (pf := 63) (by decide +kernel) (by decide) rfl (fun c17 => ?_) (fun c17 => ?_)
        · replace hf := ifn c17 hf
          refine C.seg (pe := 81) (lv' := [(5, .int x8), (0, .ref a0), (1, .int p1), (2, .int p2), (3, .int p3), (4, .int p4)]) (st' := [.int 2, .int p4]) [(.iload 4, 2, 0), (.iconst 2, 1, 2)] (by decide +kernel) rfl ?_
          refine C.icmp_ne (off := 13) (tgt := 94) (pf := 84) (by decide +kernel) (by decide) rfl (fun c12 => ?_) (fun c12 => ?_)
          · replace hf := ifn c12 hf
            refine C.seg (pe := 95) (lv' := [(5, .int x8), (0, .ref a0), (1, .int p1), (2, .int p2), (3, .int p3), (4, .int p4)]) (st' := [.int (-1)]) [(.iconst (-1), 1, (-1))] (by decide +kernel) rfl ?_
            refine Vsub [] rfl ?_
            exact l_X15_led_95 C C2 (-1) h9 hf
          · replace hf := ifp c12 hf
            refine C.seg (pe := 85) (lv' := [(5, .int x8), (0, .ref a0), (1, .int p1), (2, .int p2), (3, .int p3), (4, .int p4)]) (st' := [.ref a0]) [(.aload_n 0, 1, 0)] (by decide +kernel) rfl ?_
            obtain ⟨a10, ga10, hf⟩ := Option.bind_eq_some_iff.mp hf
            refine C.rdA fr_1807 ga10 (by decide +kernel) rfl ?_
            refine C.seg (pe := 90) (lv' := [(5, .int x8), (0, .ref a0), (1, .int p1), (2, .int p2), (3, .int p3), (4, .int p4)]) (st' := [.int x8, .ref a10]) [(.iload 5, 2, 0)] (by decide +kernel) rfl ?_
            obtain ⟨x11, gx11, hf⟩ := Option.bind_eq_some_iff.mp hf
            refine C.ald 0 rfl gx11 (by decide +kernel) rfl ?_
            refine C.goto (off := 4) (tgt := 95) (by decide +kernel) (by decide) ?_
            refine Vsub [] rfl ?_
            exact l_X15_led_95 C C2 x11 h9 hf
        · replace hf := ifp c17 hf
          refine C.seg (pe := 64) (lv' := [(5, .int x8), (0, .ref a0), (1, .int p1), (2, .int p2), (3, .int p3), (4, .int p4)]) (st' := [.ref a0]) [(.aload_n 0, 1, 0)] (by decide +kernel) rfl ?_
          obtain ⟨a13, ga13, hf⟩ := Option.bind_eq_some_iff.mp hf
          refine C.rdA fr_1866 ga13 (by decide +kernel) rfl ?_
          refine C.seg (pe := 68) (lv' := [(5, .int x8), (0, .ref a0), (1, .int p1), (2, .int p2), (3, .int p3), (4, .int p4)]) (st' := [.ref a0, .ref a13]) [(.aload_n 0, 1, 0)] (by decide +kernel) rfl ?_
          obtain ⟨a14, ga14, hf⟩ := Option.bind_eq_some_iff.mp hf
          refine C.rdA fr_1806 ga14 (by decide +kernel) rfl ?_
          refine C.seg (pe := 73) (lv' := [(5, .int x8), (0, .ref a0), (1, .int p1), (2, .int p2), (3, .int p3), (4, .int p4)]) (st' := [.int x8, .ref a14, .ref a13]) [(.iload 5, 2, 0)] (by decide +kernel) rfl ?_
          obtain ⟨x15, gx15, hf⟩ := Option.bind_eq_some_iff.mp hf
          refine C.ald 0 rfl gx15 (by decide +kernel) rfl ?_
          obtain ⟨x16, gx16, hf⟩ := Option.bind_eq_some_iff.mp hf
          refine C.ald 0 rfl gx16 (by decide +kernel) rfl ?_
          refine C.goto (off := 20) (tgt := 95) (by decide +kernel) (by decide) ?_
          refine Vsub [] rfl ?_
          exact l_X15_led_95 C C2 x16 h9 hf
      · replace hf := ifp c20 hf
        refine C.seg (pe := 48) (lv' := [(5, .int x8), (0, .ref a0), (1, .int p1), (2, .int p2), (3, .int p3), (4, .int p4)]) (st' := [.ref a0]) [(.aload_n 0, 1, 0)] (by decide +kernel) rfl ?_
        obtain ⟨a18, ga18, hf⟩ := Option.bind_eq_some_iff.mp hf
        refine C.rdA fr_1806 ga18 (by decide +kernel) rfl ?_
        refine C.seg (pe := 53) (lv' := [(5, .int x8), (0, .ref a0), (1, .int p1), (2, .int p2), (3, .int p3), (4, .int p4)]) (st' := [.int x8, .ref a18]) [(.iload 5, 2, 0)] (by decide +kernel) rfl ?_
        obtain ⟨x19, gx19, hf⟩ := Option.bind_eq_some_iff.mp hf
        refine C.ald 0 rfl gx19 (by decide +kernel) rfl ?_
        refine C.goto (off := 41) (tgt := 95) (by decide +kernel) (by decide) ?_
        refine Vsub [] rfl ?_
        exact l_X15_led_95 C C2 x19 h9 hf
    · replace hf := ifp c21 hf
      refine Vsub [] rfl ?_
      exact l_X15_led_31 C C2 h6 hf
theorem o_X15_led {a0 : Nat} {p1 : Int32} {p2 : Int32} {p3 : Int32} {p4 : Int32} {h : AH} {rr : Int32} {hr : AH} (hf : f_X15_led a0 p1 p2 p3 p4 h = some (rr, hr)) : isO 15 h a0 = true := by
  unfold f_X15_led at hf
  exact (ifO hf).1
/-! WallHouseModel.shows(I)I -/
def f_X15_shows_92 (k23 : Nat → Int32 → Int32 → Int32 → AH → Option (Int32 × AH)) (k34 : Nat → Int32 → Int32 → Int32 → Int32 → AH → Option (Int32 × AH)) (r0 : Nat) (i1 : Int32) (i3 : Int32) (i4 : Int32) (si0 : Int32) (si1 : Int32) (h : AH) : Option (Int32 × AH) :=
  k34 r0 i1 (si1 + si0) i3 (i4 + 1) h
set_option maxRecDepth 100000 in
set_option maxHeartbeats 4000000 in
theorem l_X15_shows_92 {X : MX} {l : Launch} {G : GX} {h0 : AH} {rr : Int32} {hr : AH} (C : Cx X G RX15 cX15_shows 5 (some .int) 0 0 h0) (C2 : Cy X l "shows" []) {k23 : Nat → Int32 → Int32 → Int32 → AH → Option (Int32 × AH)} (hk23 : ∀ (r0 : Nat) (i1 : Int32) (i2 : Int32) (i3 : Int32) (h : AH), k23 r0 i1 i2 i3 h = some (rr, hr) → V X G h0 (QI rr hr) 23 [(0, .ref r0), (1, .int i1), (2, .int i2), (3, .int i3)] [] h) {k34 : Nat → Int32 → Int32 → Int32 → Int32 → AH → Option (Int32 × AH)} (hk34 : ∀ (r0 : Nat) (i1 : Int32) (i2 : Int32) (i3 : Int32) (i4 : Int32) (h : AH), k34 r0 i1 i2 i3 i4 h = some (rr, hr) → V X G h0 (QI rr hr) 34 [(0, .ref r0), (1, .int i1), (2, .int i2), (3, .int i3), (4, .int i4)] [] h) (r0 : Nat) (i1 : Int32) (i3 : Int32) (i4 : Int32) (si0 : Int32) (si1 : Int32) (h : AH) (hf : f_X15_shows_92 k23 k34 r0 i1 i3 i4 si0 si1 h = some (rr, hr)) : V X G h0 (QI rr hr) 92 [(0, .ref r0), (1, .int i1), (3, .int i3), (4, .int i4)] [.int si0, .int si1] h := by
  unfold f_X15_shows_92 at hf
  refine C.seg (pe := 97) (lv' := [(4, .int (i4 + 1)), (2, .int (si1 + si0)), (0, .ref r0), (1, .int i1), (3, .int i3)]) (st' := []) [(.iadd, 1, 0), (.istore_n 2, 1, 0), (.iinc 4 1, 3, 1)] (by decide +kernel) rfl ?_
  refine C.goto (off := (-63)) (tgt := 34) (by decide +kernel) (by decide) ?_
  refine Vsub [2, 3, 1, 4, 0] rfl ?_
  exact hk34 r0 i1 (si1 + si0) i3 (i4 + 1) h hf
def f_X15_shows_91 (k23 : Nat → Int32 → Int32 → Int32 → AH → Option (Int32 × AH)) (k34 : Nat → Int32 → Int32 → Int32 → Int32 → AH → Option (Int32 × AH)) (r0 : Nat) (i1 : Int32) (i3 : Int32) (i4 : Int32) (si0 : Int32) (h : AH) : Option (Int32 × AH) :=
  f_X15_shows_92 k23 k34 r0 i1 i3 i4 0 si0 h
set_option maxRecDepth 100000 in
set_option maxHeartbeats 4000000 in
theorem l_X15_shows_91 {X : MX} {l : Launch} {G : GX} {h0 : AH} {rr : Int32} {hr : AH} (C : Cx X G RX15 cX15_shows 5 (some .int) 0 0 h0) (C2 : Cy X l "shows" []) {k23 : Nat → Int32 → Int32 → Int32 → AH → Option (Int32 × AH)} (hk23 : ∀ (r0 : Nat) (i1 : Int32) (i2 : Int32) (i3 : Int32) (h : AH), k23 r0 i1 i2 i3 h = some (rr, hr) → V X G h0 (QI rr hr) 23 [(0, .ref r0), (1, .int i1), (2, .int i2), (3, .int i3)] [] h) {k34 : Nat → Int32 → Int32 → Int32 → Int32 → AH → Option (Int32 × AH)} (hk34 : ∀ (r0 : Nat) (i1 : Int32) (i2 : Int32) (i3 : Int32) (i4 : Int32) (h : AH), k34 r0 i1 i2 i3 i4 h = some (rr, hr) → V X G h0 (QI rr hr) 34 [(0, .ref r0), (1, .int i1), (2, .int i2), (3, .int i3), (4, .int i4)] [] h) (r0 : Nat) (i1 : Int32) (i3 : Int32) (i4 : Int32) (si0 : Int32) (h : AH) (hf : f_X15_shows_91 k23 k34 r0 i1 i3 i4 si0 h = some (rr, hr)) : V X G h0 (QI rr hr) 91 [(0, .ref r0), (1, .int i1), (3, .int i3), (4, .int i4)] [.int si0] h := by
  unfold f_X15_shows_91 at hf
  refine C.seg (pe := 92) (lv' := [(0, .ref r0), (1, .int i1), (3, .int i3), (4, .int i4)]) (st' := [.int 0, .int si0]) [(.iconst 0, 1, 0)] (by decide +kernel) rfl ?_
  exact l_X15_shows_92 C C2 hk23 hk34 r0 i1 i3 i4 0 si0 h hf
def f_X15_shows_34 (k23 : Nat → Int32 → Int32 → Int32 → AH → Option (Int32 × AH)) : Nat → Nat → Int32 → Int32 → Int32 → Int32 → AH → Option (Int32 × AH)
  | 0, _, _, _, _, _, _ => none
  | n + 1, r0, i1, i2, i3, i4, h =>
    (gA 15 h r0 6).bind fun a1 =>
    (aI 0 h a1 i3).bind fun x2 =>
    (gA 15 h r0 7).bind fun a3 =>
    (aI 0 h a3 i3).bind fun x4 =>
    if x2 * x4 ≤ i4 then
      k23 r0 i1 i2 (i3 + 1) h
    else
      (gA 15 h r0 19).bind fun a5 =>
      (aI 0 h a5 ((192 * i3) + i4)).bind fun x6 =>
      if x6 = (-1) then
        f_X15_shows_91 k23 (f_X15_shows_34 k23 n) r0 i1 i3 i4 i2 h
      else
        (gA 15 h r0 21).bind fun a7 =>
        (aI 0 h a7 ((192 * i3) + i4)).bind fun x8 =>
        if x8 = i1 then
          f_X15_shows_92 k23 (f_X15_shows_34 k23 n) r0 i1 i3 i4 1 i2 h
        else
          f_X15_shows_91 k23 (f_X15_shows_34 k23 n) r0 i1 i3 i4 i2 h
set_option maxRecDepth 100000 in
set_option maxHeartbeats 4000000 in
theorem l_X15_shows_34 {X : MX} {l : Launch} {G : GX} {h0 : AH} {rr : Int32} {hr : AH} (C : Cx X G RX15 cX15_shows 5 (some .int) 0 0 h0) (C2 : Cy X l "shows" []) {k23 : Nat → Int32 → Int32 → Int32 → AH → Option (Int32 × AH)} (hk23 : ∀ (r0 : Nat) (i1 : Int32) (i2 : Int32) (i3 : Int32) (h : AH), k23 r0 i1 i2 i3 h = some (rr, hr) → V X G h0 (QI rr hr) 23 [(0, .ref r0), (1, .int i1), (2, .int i2), (3, .int i3)] [] h) : ∀ (n : Nat) (r0 : Nat) (i1 : Int32) (i2 : Int32) (i3 : Int32) (i4 : Int32) (h : AH), f_X15_shows_34 k23 n r0 i1 i2 i3 i4 h = some (rr, hr) → V X G h0 (QI rr hr) 34 [(0, .ref r0), (1, .int i1), (2, .int i2), (3, .int i3), (4, .int i4)] [] h := by
  intro n
  induction n with
  | zero => intro r0 i1 i2 i3 i4 h hf; rw [f_X15_shows_34] at hf; cases hf
  | succ n ih =>
    intro r0 i1 i2 i3 i4 h hf
    rw [f_X15_shows_34] at hf
    refine C.seg (pe := 37) (lv' := [(0, .ref r0), (1, .int i1), (2, .int i2), (3, .int i3), (4, .int i4)]) (st' := [.ref r0, .int i4]) [(.iload 4, 2, 0), (.aload_n 0, 1, 0)] (by decide +kernel) rfl ?_
    obtain ⟨a1, ga1, hf⟩ := Option.bind_eq_some_iff.mp hf
    refine C.rdA fr_1792 ga1 (by decide +kernel) rfl ?_
    refine C.seg (pe := 41) (lv' := [(0, .ref r0), (1, .int i1), (2, .int i2), (3, .int i3), (4, .int i4)]) (st' := [.int i3, .ref a1, .int i4]) [(.iload_n 3, 1, 0)] (by decide +kernel) rfl ?_
    obtain ⟨x2, gx2, hf⟩ := Option.bind_eq_some_iff.mp hf
    refine C.ald 0 rfl gx2 (by decide +kernel) rfl ?_
    refine C.seg (pe := 43) (lv' := [(0, .ref r0), (1, .int i1), (2, .int i2), (3, .int i3), (4, .int i4)]) (st' := [.ref r0, .int x2, .int i4]) [(.aload_n 0, 1, 0)] (by decide +kernel) rfl ?_
    obtain ⟨a3, ga3, hf⟩ := Option.bind_eq_some_iff.mp hf
    refine C.rdA fr_1793 ga3 (by decide +kernel) rfl ?_
    refine C.seg (pe := 47) (lv' := [(0, .ref r0), (1, .int i1), (2, .int i2), (3, .int i3), (4, .int i4)]) (st' := [.int i3, .ref a3, .int x2, .int i4]) [(.iload_n 3, 1, 0)] (by decide +kernel) rfl ?_
    obtain ⟨x4, gx4, hf⟩ := Option.bind_eq_some_iff.mp hf
    refine C.ald 0 rfl gx4 (by decide +kernel) rfl ?_
    refine C.seg (pe := 49) (lv' := [(0, .ref r0), (1, .int i1), (2, .int i2), (3, .int i3), (4, .int i4)]) (st' := [.int (x2 * x4), .int i4]) [(.imul, 1, 0)] (by decide +kernel) rfl ?_
    refine C.icmp_ge (off := 51) (tgt := 100) (pf := 52) (by decide +kernel) (by decide) rfl (fun c11 => ?_) (fun c11 => ?_)
    · replace hf := ifp c11 hf
      refine C.seg (pe := 103) (lv' := [(3, .int (i3 + 1)), (0, .ref r0), (1, .int i1), (2, .int i2), (4, .int i4)]) (st' := []) [(.iinc 3 1, 3, 1)] (by decide +kernel) rfl ?_
      refine C.goto (off := (-80)) (tgt := 23) (by decide +kernel) (by decide) ?_
      refine Vsub [1, 2, 3, 0] rfl ?_
      exact hk23 r0 i1 i2 (i3 + 1) h hf
    · replace hf := ifn c11 hf
      refine C.seg (pe := 54) (lv' := [(0, .ref r0), (1, .int i1), (2, .int i2), (3, .int i3), (4, .int i4)]) (st' := [.ref r0, .int i2]) [(.iload_n 2, 1, 0), (.aload_n 0, 1, 0)] (by decide +kernel) rfl ?_
      obtain ⟨a5, ga5, hf⟩ := Option.bind_eq_some_iff.mp hf
      refine C.rdA fr_1805 ga5 (by decide +kernel) rfl ?_
      refine C.seg (pe := 65) (lv' := [(0, .ref r0), (1, .int i1), (2, .int i2), (3, .int i3), (4, .int i4)]) (st' := [.int ((192 * i3) + i4), .ref a5, .int i2]) [(.sipush 192, 3, 192), (.iload_n 3, 1, 0), (.imul, 1, 0), (.iload 4, 2, 0), (.iadd, 1, 0)] (by decide +kernel) rfl ?_
      obtain ⟨x6, gx6, hf⟩ := Option.bind_eq_some_iff.mp hf
      refine C.ald 0 rfl gx6 (by decide +kernel) rfl ?_
      refine C.seg (pe := 67) (lv' := [(0, .ref r0), (1, .int i1), (2, .int i2), (3, .int i3), (4, .int i4)]) (st' := [.int (-1), .int x6, .int i2]) [(.iconst (-1), 1, (-1))] (by decide +kernel) rfl ?_
      refine C.icmp_eq (off := 24) (tgt := 91) (pf := 70) (by decide +kernel) (by decide) rfl (fun c10 => ?_) (fun c10 => ?_)
      · replace hf := ifp c10 hf
        refine Vsub [0, 1, 3, 4] rfl ?_
        exact l_X15_shows_91 C C2 hk23 ih r0 i1 i3 i4 i2 h hf
      · replace hf := ifn c10 hf
        refine C.seg (pe := 71) (lv' := [(0, .ref r0), (1, .int i1), (2, .int i2), (3, .int i3), (4, .int i4)]) (st' := [.ref r0, .int i2]) [(.aload_n 0, 1, 0)] (by decide +kernel) rfl ?_
        obtain ⟨a7, ga7, hf⟩ := Option.bind_eq_some_iff.mp hf
        refine C.rdA fr_1807 ga7 (by decide +kernel) rfl ?_
        refine C.seg (pe := 82) (lv' := [(0, .ref r0), (1, .int i1), (2, .int i2), (3, .int i3), (4, .int i4)]) (st' := [.int ((192 * i3) + i4), .ref a7, .int i2]) [(.sipush 192, 3, 192), (.iload_n 3, 1, 0), (.imul, 1, 0), (.iload 4, 2, 0), (.iadd, 1, 0)] (by decide +kernel) rfl ?_
        obtain ⟨x8, gx8, hf⟩ := Option.bind_eq_some_iff.mp hf
        refine C.ald 0 rfl gx8 (by decide +kernel) rfl ?_
        refine C.seg (pe := 84) (lv' := [(0, .ref r0), (1, .int i1), (2, .int i2), (3, .int i3), (4, .int i4)]) (st' := [.int i1, .int x8, .int i2]) [(.iload_n 1, 1, 0)] (by decide +kernel) rfl ?_
        refine C.icmp_ne (off := 7) (tgt := 91) (pf := 87) (by decide +kernel) (by decide) rfl (fun c9 => ?_) (fun c9 => ?_)
        · replace hf := ifn c9 hf
          refine Vsub [0, 1, 3, 4] rfl ?_
          exact l_X15_shows_91 C C2 hk23 ih r0 i1 i3 i4 i2 h hf
        · replace hf := ifp c9 hf
          refine C.seg (pe := 88) (lv' := [(0, .ref r0), (1, .int i1), (2, .int i2), (3, .int i3), (4, .int i4)]) (st' := [.int 1, .int i2]) [(.iconst 1, 1, 1)] (by decide +kernel) rfl ?_
          refine C.goto (off := 4) (tgt := 92) (by decide +kernel) (by decide) ?_
          refine Vsub [0, 1, 3, 4] rfl ?_
          exact l_X15_shows_92 C C2 hk23 ih r0 i1 i3 i4 1 i2 h hf
def f_X15_shows_23 : Nat → Nat → Int32 → Int32 → Int32 → AH → Option (Int32 × AH)
  | 0, _, _, _, _, _ => none
  | n + 1, r0, i1, i2, i3, h =>
    (gI 15 h r0 4).bind fun x1 =>
    if x1 ≤ i3 then
      some (i2, h)
    else
      f_X15_shows_34 (f_X15_shows_23 n) FU r0 i1 i2 i3 0 h
set_option maxRecDepth 100000 in
set_option maxHeartbeats 4000000 in
theorem l_X15_shows_23 {X : MX} {l : Launch} {G : GX} {h0 : AH} {rr : Int32} {hr : AH} (C : Cx X G RX15 cX15_shows 5 (some .int) 0 0 h0) (C2 : Cy X l "shows" []) : ∀ (n : Nat) (r0 : Nat) (i1 : Int32) (i2 : Int32) (i3 : Int32) (h : AH), f_X15_shows_23 n r0 i1 i2 i3 h = some (rr, hr) → V X G h0 (QI rr hr) 23 [(0, .ref r0), (1, .int i1), (2, .int i2), (3, .int i3)] [] h := by
  intro n
  induction n with
  | zero => intro r0 i1 i2 i3 h hf; rw [f_X15_shows_23] at hf; cases hf
  | succ n ih =>
    intro r0 i1 i2 i3 h hf
    rw [f_X15_shows_23] at hf
    refine C.seg (pe := 25) (lv' := [(0, .ref r0), (1, .int i1), (2, .int i2), (3, .int i3)]) (st' := [.ref r0, .int i3]) [(.iload_n 3, 1, 0), (.aload_n 0, 1, 0)] (by decide +kernel) rfl ?_
    obtain ⟨x1, gx1, hf⟩ := Option.bind_eq_some_iff.mp hf
    refine C.rdI fr_1790 gx1 (by decide +kernel) rfl ?_
    refine C.icmp_ge (off := 78) (tgt := 106) (pf := 31) (by decide +kernel) (by decide) rfl (fun c2 => ?_) (fun c2 => ?_)
    · replace hf := ifp c2 hf
      refine C.seg (pe := 107) (lv' := [(0, .ref r0), (1, .int i1), (2, .int i2), (3, .int i3)]) (st' := [.int i2]) [(.iload_n 2, 1, 0)] (by decide +kernel) rfl ?_
      cases hf
      exact C.retI rfl (by decide +kernel) ⟨rfl, rfl⟩
    · replace hf := ifn c2 hf
      refine C.seg (pe := 34) (lv' := [(4, .int 0), (0, .ref r0), (1, .int i1), (2, .int i2), (3, .int i3)]) (st' := []) [(.iconst 0, 1, 0), (.istore 4, 2, 0)] (by decide +kernel) rfl ?_
      refine Vsub [1, 2, 3, 4, 0] rfl ?_
      exact l_X15_shows_34 C C2 ih FU r0 i1 i2 i3 0 h hf
def f_X15_shows_17 (h : AH) : Option (Int32 × AH) :=
  some ((-1), h)
set_option maxRecDepth 100000 in
set_option maxHeartbeats 4000000 in
theorem l_X15_shows_17 {X : MX} {l : Launch} {G : GX} {h0 : AH} {rr : Int32} {hr : AH} (C : Cx X G RX15 cX15_shows 5 (some .int) 0 0 h0) (C2 : Cy X l "shows" []) (h : AH) (hf : f_X15_shows_17 h = some (rr, hr)) : V X G h0 (QI rr hr) 17 [] [] h := by
  unfold f_X15_shows_17 at hf
  refine C.seg (pe := 18) (lv' := []) (st' := [.int (-1)]) [(.iconst (-1), 1, (-1))] (by decide +kernel) rfl ?_
  cases hf
  exact C.retI rfl (by decide +kernel) ⟨rfl, rfl⟩
def f_X15_shows (a0 : Nat) (p1 : Int32) (h : AH) : Option (Int32 × AH) :=
  if isO 15 h a0 = true then
    (pI 15 h a0 0 0).bind fun h1 =>
    if p1 < 0 then
      f_X15_shows_17 h1
    else
      (gI 15 h1 a0 77).bind fun x2 =>
      if p1 < x2 then
        f_X15_shows_23 FU a0 p1 0 0 h1
      else
        f_X15_shows_17 h1
  else none
set_option maxRecDepth 100000 in
set_option maxHeartbeats 4000000 in
theorem w_X15_shows {l : Launch} {G : GX} {a0 : Nat} {p1 : Int32} {h : AH} {rr : Int32} {hr : AH} (hf : f_X15_shows a0 p1 h = some (rr, hr)) : Ct l G yX15_shows 0 0 [.ref a0, .int p1] h (QI rr hr) := by
  unfold f_X15_shows at hf
  obtain ⟨ho, hf⟩ := ifO hf
  refine Ct_of (own := RX15) (cc := cX15_shows) (nL := 5) (ret := (some .int)) rfl rfl k_2558 (Nat.le_of_ble_eq_true rfl) (fun X C2 C => ?_)
  show V X G h (QI rr hr) 0 [(0, .ref a0), (1, .int p1)] [] h
  refine C.seg (pe := 2) (lv' := [(0, .ref a0), (1, .int p1)]) (st' := [.int 0, .ref a0]) [(.aload_n 0, 1, 0), (.iconst 0, 1, 0)] (by decide +kernel) rfl ?_
  obtain ⟨h1, gh1, hf⟩ := Option.bind_eq_some_iff.mp hf
  refine C.putI fl_1786 gh1 (by decide +kernel) rfl ?_
  refine C.seg (pe := 6) (lv' := [(0, .ref a0), (1, .int p1)]) (st' := [.int p1]) [(.iload_n 1, 1, 0)] (by decide +kernel) rfl ?_
  refine C.if_lt (off := 11) (tgt := 17) (pf := 9) (by decide +kernel) (by decide) rfl (fun c4 => ?_) (fun c4 => ?_)
  · replace hf := ifp c4 hf
    refine Vsub [] rfl ?_
    exact l_X15_shows_17 C C2 h1 hf
  · replace hf := ifn c4 hf
    refine C.seg (pe := 11) (lv' := [(0, .ref a0), (1, .int p1)]) (st' := [.ref a0, .int p1]) [(.iload_n 1, 1, 0), (.aload_n 0, 1, 0)] (by decide +kernel) rfl ?_
    obtain ⟨x2, gx2, hf⟩ := Option.bind_eq_some_iff.mp hf
    refine C.rdI fr_1863 gx2 (by decide +kernel) rfl ?_
    refine C.icmp_lt (off := 5) (tgt := 19) (pf := 17) (by decide +kernel) (by decide) rfl (fun c3 => ?_) (fun c3 => ?_)
    · replace hf := ifp c3 hf
      refine C.seg (pe := 23) (lv' := [(3, .int 0), (2, .int 0), (0, .ref a0), (1, .int p1)]) (st' := []) [(.iconst 0, 1, 0), (.istore_n 2, 1, 0), (.iconst 0, 1, 0), (.istore_n 3, 1, 0)] (by decide +kernel) rfl ?_
      refine Vsub [2, 3, 1, 0] rfl ?_
      exact l_X15_shows_23 C C2 FU a0 p1 0 0 h1 hf
    · replace hf := ifn c3 hf
      refine Vsub [] rfl ?_
      exact l_X15_shows_17 C C2 h1 hf
theorem o_X15_shows {a0 : Nat} {p1 : Int32} {h : AH} {rr : Int32} {hr : AH} (hf : f_X15_shows a0 p1 h = some (rr, hr)) : isO 15 h a0 = true := by
  unfold f_X15_shows at hf
  exact (ifO hf).1
/-! WallHouseModel.count(I)I -/
def f_X15_count_121 (k97 : Nat → Int32 → Int32 → AH → Option (Int32 × AH)) (r0 : Nat) (i3 : Int32) (si0 : Int32) (si1 : Int32) (h : AH) : Option (Int32 × AH) :=
  k97 r0 (si1 + si0) (i3 + 1) h
set_option maxRecDepth 100000 in
set_option maxHeartbeats 4000000 in
theorem l_X15_count_121 {X : MX} {l : Launch} {G : GX} {h0 : AH} {rr : Int32} {hr : AH} (C : Cx X G RX15 cX15_count 4 (some .int) 0 0 h0) (C2 : Cy X l "count" []) {k97 : Nat → Int32 → Int32 → AH → Option (Int32 × AH)} (hk97 : ∀ (r0 : Nat) (i2 : Int32) (i3 : Int32) (h : AH), k97 r0 i2 i3 h = some (rr, hr) → V X G h0 (QI rr hr) 97 [(0, .ref r0), (2, .int i2), (3, .int i3)] [] h) (r0 : Nat) (i3 : Int32) (si0 : Int32) (si1 : Int32) (h : AH) (hf : f_X15_count_121 k97 r0 i3 si0 si1 h = some (rr, hr)) : V X G h0 (QI rr hr) 121 [(0, .ref r0), (3, .int i3)] [.int si0, .int si1] h := by
  unfold f_X15_count_121 at hf
  refine C.seg (pe := 126) (lv' := [(3, .int (i3 + 1)), (2, .int (si1 + si0)), (0, .ref r0)]) (st' := []) [(.iadd, 1, 0), (.istore_n 2, 1, 0), (.iinc 3 1, 3, 1)] (by decide +kernel) rfl ?_
  refine C.goto (off := (-29)) (tgt := 97) (by decide +kernel) (by decide) ?_
  refine Vsub [2, 1, 0] rfl ?_
  exact hk97 r0 (si1 + si0) (i3 + 1) h hf
def f_X15_count_97 : Nat → Nat → Int32 → Int32 → AH → Option (Int32 × AH)
  | 0, _, _, _, _ => none
  | n + 1, r0, i2, i3, h =>
    (gI 15 h r0 76).bind fun x1 =>
    if x1 ≤ i3 then
      some (i2, h)
    else
      (gA 15 h r0 82).bind fun a2 =>
      (aI 0 h a2 i3).bind fun x3 =>
      if x3 = 3 then
        f_X15_count_121 (f_X15_count_97 n) r0 i3 1 i2 h
      else
        f_X15_count_121 (f_X15_count_97 n) r0 i3 0 i2 h
set_option maxRecDepth 100000 in
set_option maxHeartbeats 4000000 in
theorem l_X15_count_97 {X : MX} {l : Launch} {G : GX} {h0 : AH} {rr : Int32} {hr : AH} (C : Cx X G RX15 cX15_count 4 (some .int) 0 0 h0) (C2 : Cy X l "count" []) : ∀ (n : Nat) (r0 : Nat) (i2 : Int32) (i3 : Int32) (h : AH), f_X15_count_97 n r0 i2 i3 h = some (rr, hr) → V X G h0 (QI rr hr) 97 [(0, .ref r0), (2, .int i2), (3, .int i3)] [] h := by
  intro n
  induction n with
  | zero => intro r0 i2 i3 h hf; rw [f_X15_count_97] at hf; cases hf
  | succ n ih =>
    intro r0 i2 i3 h hf
    rw [f_X15_count_97] at hf
    refine C.seg (pe := 99) (lv' := [(0, .ref r0), (2, .int i2), (3, .int i3)]) (st' := [.ref r0, .int i3]) [(.iload_n 3, 1, 0), (.aload_n 0, 1, 0)] (by decide +kernel) rfl ?_
    obtain ⟨x1, gx1, hf⟩ := Option.bind_eq_some_iff.mp hf
    refine C.rdI fr_1862 gx1 (by decide +kernel) rfl ?_
    refine C.icmp_ge (off := 27) (tgt := 129) (pf := 105) (by decide +kernel) (by decide) rfl (fun c5 => ?_) (fun c5 => ?_)
    · replace hf := ifp c5 hf
      refine C.seg (pe := 130) (lv' := [(0, .ref r0), (2, .int i2), (3, .int i3)]) (st' := [.int i2]) [(.iload_n 2, 1, 0)] (by decide +kernel) rfl ?_
      cases hf
      exact C.retI rfl (by decide +kernel) ⟨rfl, rfl⟩
    · replace hf := ifn c5 hf
      refine C.seg (pe := 107) (lv' := [(0, .ref r0), (2, .int i2), (3, .int i3)]) (st' := [.ref r0, .int i2]) [(.iload_n 2, 1, 0), (.aload_n 0, 1, 0)] (by decide +kernel) rfl ?_
      obtain ⟨a2, ga2, hf⟩ := Option.bind_eq_some_iff.mp hf
      refine C.rdA fr_1868 ga2 (by decide +kernel) rfl ?_
      refine C.seg (pe := 111) (lv' := [(0, .ref r0), (2, .int i2), (3, .int i3)]) (st' := [.int i3, .ref a2, .int i2]) [(.iload_n 3, 1, 0)] (by decide +kernel) rfl ?_
      obtain ⟨x3, gx3, hf⟩ := Option.bind_eq_some_iff.mp hf
      refine C.ald 0 rfl gx3 (by decide +kernel) rfl ?_
      refine C.seg (pe := 113) (lv' := [(0, .ref r0), (2, .int i2), (3, .int i3)]) (st' := [.int 3, .int x3, .int i2]) [(.iconst 3, 1, 3)] (by decide +kernel) rfl ?_
      refine C.icmp_ne (off := 7) (tgt := 120) (pf := 116) (by decide +kernel) (by decide) rfl (fun c4 => ?_) (fun c4 => ?_)
      · replace hf := ifn c4 hf
        refine C.seg (pe := 121) (lv' := [(0, .ref r0), (2, .int i2), (3, .int i3)]) (st' := [.int 0, .int i2]) [(.iconst 0, 1, 0)] (by decide +kernel) rfl ?_
        refine Vsub [0, 2] rfl ?_
        exact l_X15_count_121 C C2 ih r0 i3 0 i2 h hf
      · replace hf := ifp c4 hf
        refine C.seg (pe := 117) (lv' := [(0, .ref r0), (2, .int i2), (3, .int i3)]) (st' := [.int 1, .int i2]) [(.iconst 1, 1, 1)] (by decide +kernel) rfl ?_
        refine C.goto (off := 4) (tgt := 121) (by decide +kernel) (by decide) ?_
        refine Vsub [0, 2] rfl ?_
        exact l_X15_count_121 C C2 ih r0 i3 1 i2 h hf
def f_X15_count (a0 : Nat) (p1 : Int32) (h : AH) : Option (Int32 × AH) :=
  if isO 15 h a0 = true then
    (pI 15 h a0 0 0).bind fun h1 =>
    if p1 = 0 then
      (gI 15 h1 a0 4).bind fun x14 =>
      some (x14, h1)
    else
      if p1 = 1 then
        (gI 15 h1 a0 58).bind fun x15 =>
        some (x15, h1)
      else
        if p1 = 2 then
          (gI 15 h1 a0 38).bind fun x16 =>
          some (x16, h1)
        else
          if p1 = 3 then
            (gI 15 h1 a0 41).bind fun x17 =>
            some (x17, h1)
          else
            if p1 = 4 then
              (gI 15 h1 a0 76).bind fun x18 =>
              some (x18, h1)
            else
              if p1 = 5 then
                f_X15_count_97 FU a0 0 0 h1
              else
                if p1 = 6 then
                  (gI 15 h1 a0 77).bind fun x19 =>
                  some (x19, h1)
                else
                  if p1 = 7 then
                    (gI 15 h1 a0 95).bind fun x20 =>
                    some (x20, h1)
                  else
                    if p1 = 8 then
                      (gI 15 h1 a0 103).bind fun x21 =>
                      some (x21, h1)
                    else
                      if p1 = 9 then
                        (gI 15 h1 a0 5).bind fun x22 =>
                        some (x22, h1)
                      else
                        if p1 = 10 then
                          (gI 15 h1 a0 59).bind fun x23 =>
                          some (x23, h1)
                        else
                          if p1 = 11 then
                            (gI 15 h1 a0 25).bind fun x24 =>
                            some (x24, h1)
                          else
                            some ((-1), h1)
  else none
set_option maxRecDepth 100000 in
set_option maxHeartbeats 4000000 in
theorem w_X15_count {l : Launch} {G : GX} {a0 : Nat} {p1 : Int32} {h : AH} {rr : Int32} {hr : AH} (hf : f_X15_count a0 p1 h = some (rr, hr)) : Ct l G yX15_count 0 0 [.ref a0, .int p1] h (QI rr hr) := by
  unfold f_X15_count at hf
  obtain ⟨ho, hf⟩ := ifO hf
  refine Ct_of (own := RX15) (cc := cX15_count) (nL := 4) (ret := (some .int)) rfl rfl k_2562 (Nat.le_of_ble_eq_true rfl) (fun X C2 C => ?_)
  show V X G h (QI rr hr) 0 [(0, .ref a0), (1, .int p1)] [] h
  refine C.seg (pe := 2) (lv' := [(0, .ref a0), (1, .int p1)]) (st' := [.int 0, .ref a0]) [(.aload_n 0, 1, 0), (.iconst 0, 1, 0)] (by decide +kernel) rfl ?_
  obtain ⟨h1, gh1, hf⟩ := Option.bind_eq_some_iff.mp hf
  refine C.putI fl_1786 gh1 (by decide +kernel) rfl ?_
  refine C.seg (pe := 6) (lv' := [(0, .ref a0), (1, .int p1)]) (st' := [.int p1]) [(.iload_n 1, 1, 0)] (by decide +kernel) rfl ?_
  by_cases c2 : p1 = 0
  · replace hf := ifp c2 hf
    refine C.tsIn (len := 62) (dflt := 155) (a := 0) (b := 11) (offs := #[62, 67, 72, 77, 82, 87, 125, 130, 135, 140, 145, 150]) (k := 0) (off := 62) (tgt := 68) c2 (by decide +kernel) (by decide) (by decide) rfl (by decide) ?_
    refine C.seg (pe := 69) (lv' := [(0, .ref a0), (1, .int p1)]) (st' := [.ref a0]) [(.aload_n 0, 1, 0)] (by decide +kernel) rfl ?_
    obtain ⟨x14, gx14, hf⟩ := Option.bind_eq_some_iff.mp hf
    refine C.rdI fr_1790 gx14 (by decide +kernel) rfl ?_
    cases hf
    exact C.retI rfl (by decide +kernel) ⟨rfl, rfl⟩
  · replace hf := ifn c2 hf
    by_cases c3 : p1 = 1
    · replace hf := ifp c3 hf
      refine C.tsIn (len := 62) (dflt := 155) (a := 0) (b := 11) (offs := #[62, 67, 72, 77, 82, 87, 125, 130, 135, 140, 145, 150]) (k := 1) (off := 67) (tgt := 73) c3 (by decide +kernel) (by decide) (by decide) rfl (by decide) ?_
      refine C.seg (pe := 74) (lv' := [(0, .ref a0), (1, .int p1)]) (st' := [.ref a0]) [(.aload_n 0, 1, 0)] (by decide +kernel) rfl ?_
      obtain ⟨x15, gx15, hf⟩ := Option.bind_eq_some_iff.mp hf
      refine C.rdI fr_1844 gx15 (by decide +kernel) rfl ?_
      cases hf
      exact C.retI rfl (by decide +kernel) ⟨rfl, rfl⟩
    · replace hf := ifn c3 hf
      by_cases c4 : p1 = 2
      · replace hf := ifp c4 hf
        refine C.tsIn (len := 62) (dflt := 155) (a := 0) (b := 11) (offs := #[62, 67, 72, 77, 82, 87, 125, 130, 135, 140, 145, 150]) (k := 2) (off := 72) (tgt := 78) c4 (by decide +kernel) (by decide) (by decide) rfl (by decide) ?_
        refine C.seg (pe := 79) (lv' := [(0, .ref a0), (1, .int p1)]) (st' := [.ref a0]) [(.aload_n 0, 1, 0)] (by decide +kernel) rfl ?_
        obtain ⟨x16, gx16, hf⟩ := Option.bind_eq_some_iff.mp hf
        refine C.rdI fr_1824 gx16 (by decide +kernel) rfl ?_
        cases hf
        exact C.retI rfl (by decide +kernel) ⟨rfl, rfl⟩
      · replace hf := ifn c4 hf
        by_cases c5 : p1 = 3
        · replace hf := ifp c5 hf
          refine C.tsIn (len := 62) (dflt := 155) (a := 0) (b := 11) (offs := #[62, 67, 72, 77, 82, 87, 125, 130, 135, 140, 145, 150]) (k := 3) (off := 77) (tgt := 83) c5 (by decide +kernel) (by decide) (by decide) rfl (by decide) ?_
          refine C.seg (pe := 84) (lv' := [(0, .ref a0), (1, .int p1)]) (st' := [.ref a0]) [(.aload_n 0, 1, 0)] (by decide +kernel) rfl ?_
          obtain ⟨x17, gx17, hf⟩ := Option.bind_eq_some_iff.mp hf
          refine C.rdI fr_1827 gx17 (by decide +kernel) rfl ?_
          cases hf
          exact C.retI rfl (by decide +kernel) ⟨rfl, rfl⟩
        · replace hf := ifn c5 hf
          by_cases c6 : p1 = 4
          · replace hf := ifp c6 hf
            refine C.tsIn (len := 62) (dflt := 155) (a := 0) (b := 11) (offs := #[62, 67, 72, 77, 82, 87, 125, 130, 135, 140, 145, 150]) (k := 4) (off := 82) (tgt := 88) c6 (by decide +kernel) (by decide) (by decide) rfl (by decide) ?_
            refine C.seg (pe := 89) (lv' := [(0, .ref a0), (1, .int p1)]) (st' := [.ref a0]) [(.aload_n 0, 1, 0)] (by decide +kernel) rfl ?_
            obtain ⟨x18, gx18, hf⟩ := Option.bind_eq_some_iff.mp hf
            refine C.rdI fr_1862 gx18 (by decide +kernel) rfl ?_
            cases hf
            exact C.retI rfl (by decide +kernel) ⟨rfl, rfl⟩
          · replace hf := ifn c6 hf
            by_cases c7 : p1 = 5
            · replace hf := ifp c7 hf
              refine C.tsIn (len := 62) (dflt := 155) (a := 0) (b := 11) (offs := #[62, 67, 72, 77, 82, 87, 125, 130, 135, 140, 145, 150]) (k := 5) (off := 87) (tgt := 93) c7 (by decide +kernel) (by decide) (by decide) rfl (by decide) ?_
              refine C.seg (pe := 97) (lv' := [(3, .int 0), (2, .int 0), (0, .ref a0), (1, .int p1)]) (st' := []) [(.iconst 0, 1, 0), (.istore_n 2, 1, 0), (.iconst 0, 1, 0), (.istore_n 3, 1, 0)] (by decide +kernel) rfl ?_
              refine Vsub [2, 1, 0] rfl ?_
              exact l_X15_count_97 C C2 FU a0 0 0 h1 hf
            · replace hf := ifn c7 hf
              by_cases c8 : p1 = 6
              · replace hf := ifp c8 hf
                refine C.tsIn (len := 62) (dflt := 155) (a := 0) (b := 11) (offs := #[62, 67, 72, 77, 82, 87, 125, 130, 135, 140, 145, 150]) (k := 6) (off := 125) (tgt := 131) c8 (by decide +kernel) (by decide) (by decide) rfl (by decide) ?_
                refine C.seg (pe := 132) (lv' := [(0, .ref a0), (1, .int p1)]) (st' := [.ref a0]) [(.aload_n 0, 1, 0)] (by decide +kernel) rfl ?_
                obtain ⟨x19, gx19, hf⟩ := Option.bind_eq_some_iff.mp hf
                refine C.rdI fr_1863 gx19 (by decide +kernel) rfl ?_
                cases hf
                exact C.retI rfl (by decide +kernel) ⟨rfl, rfl⟩
              · replace hf := ifn c8 hf
                by_cases c9 : p1 = 7
                · replace hf := ifp c9 hf
                  refine C.tsIn (len := 62) (dflt := 155) (a := 0) (b := 11) (offs := #[62, 67, 72, 77, 82, 87, 125, 130, 135, 140, 145, 150]) (k := 7) (off := 130) (tgt := 136) c9 (by decide +kernel) (by decide) (by decide) rfl (by decide) ?_
                  refine C.seg (pe := 137) (lv' := [(0, .ref a0), (1, .int p1)]) (st' := [.ref a0]) [(.aload_n 0, 1, 0)] (by decide +kernel) rfl ?_
                  obtain ⟨x20, gx20, hf⟩ := Option.bind_eq_some_iff.mp hf
                  refine C.rdI fr_1881 gx20 (by decide +kernel) rfl ?_
                  cases hf
                  exact C.retI rfl (by decide +kernel) ⟨rfl, rfl⟩
                · replace hf := ifn c9 hf
                  by_cases c10 : p1 = 8
                  · replace hf := ifp c10 hf
                    refine C.tsIn (len := 62) (dflt := 155) (a := 0) (b := 11) (offs := #[62, 67, 72, 77, 82, 87, 125, 130, 135, 140, 145, 150]) (k := 8) (off := 135) (tgt := 141) c10 (by decide +kernel) (by decide) (by decide) rfl (by decide) ?_
                    refine C.seg (pe := 142) (lv' := [(0, .ref a0), (1, .int p1)]) (st' := [.ref a0]) [(.aload_n 0, 1, 0)] (by decide +kernel) rfl ?_
                    obtain ⟨x21, gx21, hf⟩ := Option.bind_eq_some_iff.mp hf
                    refine C.rdI fr_1889 gx21 (by decide +kernel) rfl ?_
                    cases hf
                    exact C.retI rfl (by decide +kernel) ⟨rfl, rfl⟩
                  · replace hf := ifn c10 hf
                    by_cases c11 : p1 = 9
                    · replace hf := ifp c11 hf
                      refine C.tsIn (len := 62) (dflt := 155) (a := 0) (b := 11) (offs := #[62, 67, 72, 77, 82, 87, 125, 130, 135, 140, 145, 150]) (k := 9) (off := 140) (tgt := 146) c11 (by decide +kernel) (by decide) (by decide) rfl (by decide) ?_
                      refine C.seg (pe := 147) (lv' := [(0, .ref a0), (1, .int p1)]) (st' := [.ref a0]) [(.aload_n 0, 1, 0)] (by decide +kernel) rfl ?_
                      obtain ⟨x22, gx22, hf⟩ := Option.bind_eq_some_iff.mp hf
                      refine C.rdI fr_1791 gx22 (by decide +kernel) rfl ?_
                      cases hf
                      exact C.retI rfl (by decide +kernel) ⟨rfl, rfl⟩
                    · replace hf := ifn c11 hf
                      by_cases c12 : p1 = 10
                      · replace hf := ifp c12 hf
                        refine C.tsIn (len := 62) (dflt := 155) (a := 0) (b := 11) (offs := #[62, 67, 72, 77, 82, 87, 125, 130, 135, 140, 145, 150]) (k := 10) (off := 145) (tgt := 151) c12 (by decide +kernel) (by decide) (by decide) rfl (by decide) ?_
                        refine C.seg (pe := 152) (lv' := [(0, .ref a0), (1, .int p1)]) (st' := [.ref a0]) [(.aload_n 0, 1, 0)] (by decide +kernel) rfl ?_
                        obtain ⟨x23, gx23, hf⟩ := Option.bind_eq_some_iff.mp hf
                        refine C.rdI fr_1845 gx23 (by decide +kernel) rfl ?_
                        cases hf
                        exact C.retI rfl (by decide +kernel) ⟨rfl, rfl⟩
                      · replace hf := ifn c12 hf
                        by_cases c13 : p1 = 11
                        · replace hf := ifp c13 hf
                          refine C.tsIn (len := 62) (dflt := 155) (a := 0) (b := 11) (offs := #[62, 67, 72, 77, 82, 87, 125, 130, 135, 140, 145, 150]) (k := 11) (off := 150) (tgt := 156) c13 (by decide +kernel) (by decide) (by decide) rfl (by decide) ?_
                          refine C.seg (pe := 157) (lv' := [(0, .ref a0), (1, .int p1)]) (st' := [.ref a0]) [(.aload_n 0, 1, 0)] (by decide +kernel) rfl ?_
                          obtain ⟨x24, gx24, hf⟩ := Option.bind_eq_some_iff.mp hf
                          refine C.rdI fr_1811 gx24 (by decide +kernel) rfl ?_
                          cases hf
                          exact C.retI rfl (by decide +kernel) ⟨rfl, rfl⟩
                        · replace hf := ifn c13 hf
                          have qc2 := lv_neT c2 (by decide : (0 : Int32).toInt = 0)
                          have qc3 := lv_neT c3 (by decide : (1 : Int32).toInt = 1)
                          have qc4 := lv_neT c4 (by decide : (2 : Int32).toInt = 2)
                          have qc5 := lv_neT c5 (by decide : (3 : Int32).toInt = 3)
                          have qc6 := lv_neT c6 (by decide : (4 : Int32).toInt = 4)
                          have qc7 := lv_neT c7 (by decide : (5 : Int32).toInt = 5)
                          have qc8 := lv_neT c8 (by decide : (6 : Int32).toInt = 6)
                          have qc9 := lv_neT c9 (by decide : (7 : Int32).toInt = 7)
                          have qc10 := lv_neT c10 (by decide : (8 : Int32).toInt = 8)
                          have qc11 := lv_neT c11 (by decide : (9 : Int32).toInt = 9)
                          have qc12 := lv_neT c12 (by decide : (10 : Int32).toInt = 10)
                          have qc13 := lv_neT c13 (by decide : (11 : Int32).toInt = 11)
                          refine C.tsOut (len := 62) (dflt := 155) (a := 0) (b := 11) (offs := #[62, 67, 72, 77, 82, 87, 125, 130, 135, 140, 145, 150]) (tgt := 161) (by decide +kernel) (by omega) (by decide) ?_
                          refine C.seg (pe := 162) (lv' := [(0, .ref a0), (1, .int p1)]) (st' := [.int (-1)]) [(.iconst (-1), 1, (-1))] (by decide +kernel) rfl ?_
                          cases hf
                          exact C.retI rfl (by decide +kernel) ⟨rfl, rfl⟩
theorem o_X15_count {a0 : Nat} {p1 : Int32} {h : AH} {rr : Int32} {hr : AH} (hf : f_X15_count a0 p1 h = some (rr, hr)) : isO 15 h a0 = true := by
  unfold f_X15_count at hf
  exact (ifO hf).1
/-! WallHouseModel.trouble()I -/
def f_X15_trouble (a0 : Nat) (h : AH) : Option (Int32 × AH) :=
  if isO 15 h a0 = true then
    (pI 15 h a0 0 0).bind fun h1 =>
    (gI 15 h1 a0 1).bind fun x2 =>
    some (x2, h1)
  else none
set_option maxRecDepth 100000 in
set_option maxHeartbeats 4000000 in
theorem w_X15_trouble {l : Launch} {G : GX} {a0 : Nat} {h : AH} {rr : Int32} {hr : AH} (hf : f_X15_trouble a0 h = some (rr, hr)) : Ct l G yX15_trouble 0 0 [.ref a0] h (QI rr hr) := by
  unfold f_X15_trouble at hf
  obtain ⟨ho, hf⟩ := ifO hf
  refine Ct_of (own := RX15) (cc := cX15_trouble) (nL := 1) (ret := (some .int)) rfl rfl k_2566 (Nat.le_of_ble_eq_true rfl) (fun X C2 C => ?_)
  show V X G h (QI rr hr) 0 [(0, .ref a0)] [] h
  refine C.seg (pe := 2) (lv' := [(0, .ref a0)]) (st' := [.int 0, .ref a0]) [(.aload_n 0, 1, 0), (.iconst 0, 1, 0)] (by decide +kernel) rfl ?_
  obtain ⟨h1, gh1, hf⟩ := Option.bind_eq_some_iff.mp hf
  refine C.putI fl_1786 gh1 (by decide +kernel) rfl ?_
  refine C.seg (pe := 6) (lv' := [(0, .ref a0)]) (st' := [.ref a0]) [(.aload_n 0, 1, 0)] (by decide +kernel) rfl ?_
  obtain ⟨x2, gx2, hf⟩ := Option.bind_eq_some_iff.mp hf
  refine C.rdI fr_1787 gx2 (by decide +kernel) rfl ?_
  cases hf
  exact C.retI rfl (by decide +kernel) ⟨rfl, rfl⟩
theorem o_X15_trouble {a0 : Nat} {h : AH} {rr : Int32} {hr : AH} (hf : f_X15_trouble a0 h = some (rr, hr)) : isO 15 h a0 = true := by
  unfold f_X15_trouble at hf
  exact (ifO hf).1
