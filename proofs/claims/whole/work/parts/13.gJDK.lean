/-! java/util/Arrays.fill([II)V -/
def f_J7_fill_53178_5 : Nat → Nat → Int32 → Int32 → Int32 → AH → Option (AH)
  | 0, _, _, _, _, _ => none
  | n + 1, r0, i1, i2, i3, h =>
    if i3 ≤ i2 then
      some h
    else
      (sI 0 h r0 i2 i1).bind fun h1 =>
      (f_J7_fill_53178_5 n) r0 i1 (i2 + 1) i3 h1
set_option maxRecDepth 100000 in
set_option maxHeartbeats 4000000 in
theorem l_J7_fill_53178_5 {X : MX} {l : Launch} {G : GX} {h0 : AH} {hr : AH} (C : Cx X G RJ7 cJ7_fill_53178 4 none 0 0 h0) (C2 : Cy X l "fill" []) : ∀ (n : Nat) (r0 : Nat) (i1 : Int32) (i2 : Int32) (i3 : Int32) (h : AH), f_J7_fill_53178_5 n r0 i1 i2 i3 h = some hr → V X G h0 (QV hr) 5 [(0, .ref r0), (1, .int i1), (2, .int i2), (3, .int i3)] [] h := by
  intro n
  induction n with
  | zero => intro r0 i1 i2 i3 h hf; rw [f_J7_fill_53178_5] at hf; cases hf
  | succ n ih =>
    intro r0 i1 i2 i3 h hf
    rw [f_J7_fill_53178_5] at hf
    refine C.seg (pe := 7) (lv' := [(0, .ref r0), (1, .int i1), (2, .int i2), (3, .int i3)]) (st' := [.int i3, .int i2]) [(.iload_n 2, 1, 0), (.iload_n 3, 1, 0)] (by decide +kernel) rfl ?_
    refine C.icmp_ge (off := 13) (tgt := 20) (pf := 10) (by decide +kernel) (by decide) rfl (fun c2 => ?_) (fun c2 => ?_)
    · replace hf := ifp c2 hf
      cases hf
      exact C.retV rfl (by decide +kernel) ⟨rfl, rfl⟩
    · replace hf := ifn c2 hf
      refine C.seg (pe := 13) (lv' := [(0, .ref r0), (1, .int i1), (2, .int i2), (3, .int i3)]) (st' := [.int i1, .int i2, .ref r0]) [(.aload_n 0, 1, 0), (.iload_n 2, 1, 0), (.iload_n 1, 1, 0)] (by decide +kernel) rfl ?_
      obtain ⟨h1, gh1, hf⟩ := Option.bind_eq_some_iff.mp hf
      refine C.ast gh1 (by decide +kernel) rfl ?_
      refine C.seg (pe := 17) (lv' := [(2, .int (i2 + 1)), (0, .ref r0), (1, .int i1), (3, .int i3)]) (st' := []) [(.iinc 2 1, 3, 1)] (by decide +kernel) rfl ?_
      refine C.goto (off := (-12)) (tgt := 5) (by decide +kernel) (by decide) ?_
      refine Vsub [1, 2, 0, 3] rfl ?_
      exact ih r0 i1 (i2 + 1) i3 h1 hf
def f_J7_fill_53178 (p1 : Nat) (p2 : Int32) (h : AH) : Option (AH) :=
  (aN h p1).bind fun x1 =>
  f_J7_fill_53178_5 FU p1 p2 0 x1 h
set_option maxRecDepth 100000 in
set_option maxHeartbeats 4000000 in
theorem w_J7_fill_53178 {l : Launch} {G : GX} {p1 : Nat} {p2 : Int32} {h : AH} {hr : AH} (hf : f_J7_fill_53178 p1 p2 h = some hr) : Ct l G yJ7_fill_53178 0 0 [.ref p1, .int p2] h (QV hr) := by
  unfold f_J7_fill_53178 at hf
  refine Ct_of (own := RJ7) (cc := cJ7_fill_53178) (nL := 4) (ret := none) rfl rfl k_163 (Nat.le_of_ble_eq_true rfl) (fun X C2 C => ?_)
  show V X G h (QV hr) 0 [(0, .ref p1), (1, .int p2)] [] h
  refine C.seg (pe := 3) (lv' := [(2, .int 0), (0, .ref p1), (1, .int p2)]) (st' := [.ref p1]) [(.iconst 0, 1, 0), (.istore_n 2, 1, 0), (.aload_n 0, 1, 0)] (by decide +kernel) rfl ?_
  obtain ⟨x1, gx1, hf⟩ := Option.bind_eq_some_iff.mp hf
  refine C.alen gx1 (by decide +kernel) rfl ?_
  refine C.seg (pe := 5) (lv' := [(3, .int x1), (2, .int 0), (0, .ref p1), (1, .int p2)]) (st' := []) [(.istore_n 3, 1, 0)] (by decide +kernel) rfl ?_
  refine Vsub [2, 3, 1, 0] rfl ?_
  exact l_J7_fill_53178_5 C C2 FU p1 p2 0 x1 h hf
/-! java/util/Arrays.fill([BB)V -/
def f_J7_fill_031fb_5 : Nat → Nat → Int32 → Int32 → Int32 → AH → Option (AH)
  | 0, _, _, _, _, _ => none
  | n + 1, r0, i1, i2, i3, h =>
    if i3 ≤ i2 then
      some h
    else
      (sI 1 h r0 i2 i1).bind fun h1 =>
      (f_J7_fill_031fb_5 n) r0 i1 (i2 + 1) i3 h1
set_option maxRecDepth 100000 in
set_option maxHeartbeats 4000000 in
theorem l_J7_fill_031fb_5 {X : MX} {l : Launch} {G : GX} {h0 : AH} {hr : AH} (C : Cx X G RJ7 cJ7_fill_031fb 4 none 0 0 h0) (C2 : Cy X l "fill" []) : ∀ (n : Nat) (r0 : Nat) (i1 : Int32) (i2 : Int32) (i3 : Int32) (h : AH), f_J7_fill_031fb_5 n r0 i1 i2 i3 h = some hr → V X G h0 (QV hr) 5 [(0, .ref r0), (1, .int i1), (2, .int i2), (3, .int i3)] [] h := by
  intro n
  induction n with
  | zero => intro r0 i1 i2 i3 h hf; rw [f_J7_fill_031fb_5] at hf; cases hf
  | succ n ih =>
    intro r0 i1 i2 i3 h hf
    rw [f_J7_fill_031fb_5] at hf
    refine C.seg (pe := 7) (lv' := [(0, .ref r0), (1, .int i1), (2, .int i2), (3, .int i3)]) (st' := [.int i3, .int i2]) [(.iload_n 2, 1, 0), (.iload_n 3, 1, 0)] (by decide +kernel) rfl ?_
    refine C.icmp_ge (off := 13) (tgt := 20) (pf := 10) (by decide +kernel) (by decide) rfl (fun c2 => ?_) (fun c2 => ?_)
    · replace hf := ifp c2 hf
      cases hf
      exact C.retV rfl (by decide +kernel) ⟨rfl, rfl⟩
    · replace hf := ifn c2 hf
      refine C.seg (pe := 13) (lv' := [(0, .ref r0), (1, .int i1), (2, .int i2), (3, .int i3)]) (st' := [.int i1, .int i2, .ref r0]) [(.aload_n 0, 1, 0), (.iload_n 2, 1, 0), (.iload_n 1, 1, 0)] (by decide +kernel) rfl ?_
      obtain ⟨h1, gh1, hf⟩ := Option.bind_eq_some_iff.mp hf
      refine C.bast gh1 (by decide +kernel) rfl ?_
      refine C.seg (pe := 17) (lv' := [(2, .int (i2 + 1)), (0, .ref r0), (1, .int i1), (3, .int i3)]) (st' := []) [(.iinc 2 1, 3, 1)] (by decide +kernel) rfl ?_
      refine C.goto (off := (-12)) (tgt := 5) (by decide +kernel) (by decide) ?_
      refine Vsub [1, 2, 0, 3] rfl ?_
      exact ih r0 i1 (i2 + 1) i3 h1 hf
def f_J7_fill_031fb (p1 : Nat) (p2 : Int32) (h : AH) : Option (AH) :=
  (aN h p1).bind fun x1 =>
  f_J7_fill_031fb_5 FU p1 p2 0 x1 h
set_option maxRecDepth 100000 in
set_option maxHeartbeats 4000000 in
theorem w_J7_fill_031fb {l : Launch} {G : GX} {p1 : Nat} {p2 : Int32} {h : AH} {hr : AH} (hf : f_J7_fill_031fb p1 p2 h = some hr) : Ct l G yJ7_fill_031fb 0 0 [.ref p1, .int p2] h (QV hr) := by
  unfold f_J7_fill_031fb at hf
  refine Ct_of (own := RJ7) (cc := cJ7_fill_031fb) (nL := 4) (ret := none) rfl rfl k_643 (Nat.le_of_ble_eq_true rfl) (fun X C2 C => ?_)
  show V X G h (QV hr) 0 [(0, .ref p1), (1, .int p2)] [] h
  refine C.seg (pe := 3) (lv' := [(2, .int 0), (0, .ref p1), (1, .int p2)]) (st' := [.ref p1]) [(.iconst 0, 1, 0), (.istore_n 2, 1, 0), (.aload_n 0, 1, 0)] (by decide +kernel) rfl ?_
  obtain ⟨x1, gx1, hf⟩ := Option.bind_eq_some_iff.mp hf
  refine C.alen gx1 (by decide +kernel) rfl ?_
  refine C.seg (pe := 5) (lv' := [(3, .int x1), (2, .int 0), (0, .ref p1), (1, .int p2)]) (st' := []) [(.istore_n 3, 1, 0)] (by decide +kernel) rfl ?_
  refine Vsub [2, 3, 1, 0] rfl ?_
  exact l_J7_fill_031fb_5 C C2 FU p1 p2 0 x1 h hf
/-! java/util/Arrays.copyOf([BI)[B -/
def f_J7_copyOf_9075b (p1 : Nat) (p2 : Int32) (h : AH) : Option (Option Nat × AH) :=
  (aN h p1).bind fun x1 =>
  if p2 = x1 then
    none
  else
    b2 (nwA 1 p2 h) fun a2 h3 =>
    (aN h3 p1).bind fun x4 =>
    (cpI 1 h3 p1 0 a2 0 (mnI x4 p2)).bind fun h5 =>
    some (some a2, h5)
set_option maxRecDepth 100000 in
set_option maxHeartbeats 4000000 in
theorem w_J7_copyOf_9075b {l : Launch} {G : GX} {p1 : Nat} {p2 : Int32} {h : AH} {rr : Option Nat} {hr : AH} (hf : f_J7_copyOf_9075b p1 p2 h = some (rr, hr)) : Ct l G yJ7_copyOf_9075b 1 80 [.ref p1, .int p2] h (QA rr hr) := by
  unfold f_J7_copyOf_9075b at hf
  refine Ct_of (own := RJ7) (cc := cJ7_copyOf_9075b) (nL := 3) (ret := (some (.array .byte))) rfl rfl k_1062 (Nat.le_of_ble_eq_true rfl) (fun X C2 C => ?_)
  show V X G h (QA rr hr) 0 [(0, .ref p1), (1, .int p2)] [] h
  refine C.seg (pe := 2) (lv' := [(0, .ref p1), (1, .int p2)]) (st' := [.ref p1, .int p2]) [(.iload_n 1, 1, 0), (.aload_n 0, 1, 0)] (by decide +kernel) rfl ?_
  obtain ⟨x1, gx1, hf⟩ := Option.bind_eq_some_iff.mp hf
  refine C.alen gx1 (by decide +kernel) rfl ?_
  refine C.icmp_ne (off := 11) (tgt := 14) (pf := 6) (by decide +kernel) (by decide) rfl (fun c6 => ?_) (fun c6 => ?_)
  · replace hf := ifn c6 hf
    refine C.seg (pe := 15) (lv' := [(0, .ref p1), (1, .int p2)]) (st' := [.int p2]) [(.iload_n 1, 1, 0)] (by decide +kernel) rfl ?_
    obtain ⟨a2, h3, ga2, hf⟩ := b2_some hf
    refine C.newa1 k_400 ga2 (by decide +kernel) rfl ?_
    refine C.seg (pe := 23) (lv' := [(2, .ref a2), (0, .ref p1), (1, .int p2)]) (st' := [.ref p1, .int 0, .ref a2, .int 0, .ref p1]) [(.astore_n 2, 1, 0), (.aload_n 0, 1, 0), (.iconst 0, 1, 0), (.aload_n 2, 1, 0), (.iconst 0, 1, 0), (.aload_n 0, 1, 0)] (by decide +kernel) rfl ?_
    obtain ⟨x4, gx4, hf⟩ := Option.bind_eq_some_iff.mp hf
    refine C.alen gx4 (by decide +kernel) rfl ?_
    refine C.seg (pe := 25) (lv' := [(2, .ref a2), (0, .ref p1), (1, .int p2)]) (st' := [.int p2, .int x4, .int 0, .ref a2, .int 0, .ref p1]) [(.iload_n 1, 1, 0)] (by decide +kernel) rfl ?_
    refine C.mmin k_1070 k_639 k_137 k_640 (by omega) (by omega) (Nat.le_of_ble_eq_true rfl) (by decide +kernel) rfl ?_
    obtain ⟨h5, gh5, hf⟩ := Option.bind_eq_some_iff.mp hf
    refine C.copyI 1 (by decide) k_1071 k_1073 k_1072 k_143 (by omega) (by first | decide | exact Nat.le_trans (by decide : _ ≤ 400) (Nat.le_add_left _ _)) (Nat.le_of_ble_eq_true rfl) gh5 (by decide +kernel) rfl ?_
    refine C.seg (pe := 32) (lv' := [(2, .ref a2), (0, .ref p1), (1, .int p2)]) (st' := [.ref a2]) [(.aload_n 2, 1, 0)] (by decide +kernel) rfl ?_
    cases hf
    exact C.retA rfl (Or.inr ⟨_, rfl⟩) (by decide +kernel) ⟨rfl, rfl⟩
  · replace hf := ifp c6 hf
    refine C.seg (pe := 7) (lv' := [(0, .ref p1), (1, .int p2)]) (st' := [.ref p1]) [(.aload_n 0, 1, 0)] (by decide +kernel) rfl ?_
    cases hf
/-! java/util/Arrays.copyOf([SI)[S -/
def f_J7_copyOf_974b1 (p1 : Nat) (p2 : Int32) (h : AH) : Option (Option Nat × AH) :=
  (aN h p1).bind fun x1 =>
  if p2 = x1 then
    none
  else
    b2 (nwA 3 p2 h) fun a2 h3 =>
    (aN h3 p1).bind fun x4 =>
    (cpI 3 h3 p1 0 a2 0 (mnI x4 p2)).bind fun h5 =>
    some (some a2, h5)
set_option maxRecDepth 100000 in
set_option maxHeartbeats 4000000 in
theorem w_J7_copyOf_974b1 {l : Launch} {G : GX} {p1 : Nat} {p2 : Int32} {h : AH} {rr : Option Nat} {hr : AH} (hf : f_J7_copyOf_974b1 p1 p2 h = some (rr, hr)) : Ct l G yJ7_copyOf_974b1 1 80 [.ref p1, .int p2] h (QA rr hr) := by
  unfold f_J7_copyOf_974b1 at hf
  refine Ct_of (own := RJ7) (cc := cJ7_copyOf_974b1) (nL := 3) (ret := (some (.array .short))) rfl rfl k_1076 (Nat.le_of_ble_eq_true rfl) (fun X C2 C => ?_)
  show V X G h (QA rr hr) 0 [(0, .ref p1), (1, .int p2)] [] h
  refine C.seg (pe := 2) (lv' := [(0, .ref p1), (1, .int p2)]) (st' := [.ref p1, .int p2]) [(.iload_n 1, 1, 0), (.aload_n 0, 1, 0)] (by decide +kernel) rfl ?_
  obtain ⟨x1, gx1, hf⟩ := Option.bind_eq_some_iff.mp hf
  refine C.alen gx1 (by decide +kernel) rfl ?_
  refine C.icmp_ne (off := 11) (tgt := 14) (pf := 6) (by decide +kernel) (by decide) rfl (fun c6 => ?_) (fun c6 => ?_)
  · replace hf := ifn c6 hf
    refine C.seg (pe := 15) (lv' := [(0, .ref p1), (1, .int p2)]) (st' := [.int p2]) [(.iload_n 1, 1, 0)] (by decide +kernel) rfl ?_
    obtain ⟨a2, h3, ga2, hf⟩ := b2_some hf
    refine C.newa3 k_442 ga2 (by decide +kernel) rfl ?_
    refine C.seg (pe := 23) (lv' := [(2, .ref a2), (0, .ref p1), (1, .int p2)]) (st' := [.ref p1, .int 0, .ref a2, .int 0, .ref p1]) [(.astore_n 2, 1, 0), (.aload_n 0, 1, 0), (.iconst 0, 1, 0), (.aload_n 2, 1, 0), (.iconst 0, 1, 0), (.aload_n 0, 1, 0)] (by decide +kernel) rfl ?_
    obtain ⟨x4, gx4, hf⟩ := Option.bind_eq_some_iff.mp hf
    refine C.alen gx4 (by decide +kernel) rfl ?_
    refine C.seg (pe := 25) (lv' := [(2, .ref a2), (0, .ref p1), (1, .int p2)]) (st' := [.int p2, .int x4, .int 0, .ref a2, .int 0, .ref p1]) [(.iload_n 1, 1, 0)] (by decide +kernel) rfl ?_
    refine C.mmin k_1070 k_639 k_137 k_640 (by omega) (by omega) (Nat.le_of_ble_eq_true rfl) (by decide +kernel) rfl ?_
    obtain ⟨h5, gh5, hf⟩ := Option.bind_eq_some_iff.mp hf
    refine C.copyI 3 (by decide) k_1071 k_1073 k_1072 k_143 (by omega) (by first | decide | exact Nat.le_trans (by decide : _ ≤ 400) (Nat.le_add_left _ _)) (Nat.le_of_ble_eq_true rfl) gh5 (by decide +kernel) rfl ?_
    refine C.seg (pe := 32) (lv' := [(2, .ref a2), (0, .ref p1), (1, .int p2)]) (st' := [.ref a2]) [(.aload_n 2, 1, 0)] (by decide +kernel) rfl ?_
    cases hf
    exact C.retA rfl (Or.inr ⟨_, rfl⟩) (by decide +kernel) ⟨rfl, rfl⟩
  · replace hf := ifp c6 hf
    refine C.seg (pe := 7) (lv' := [(0, .ref p1), (1, .int p2)]) (st' := [.ref p1]) [(.aload_n 0, 1, 0)] (by decide +kernel) rfl ?_
    cases hf
/-! java/util/Arrays.copyOf([JI)[J -/
def f_J7_copyOf_c38d5 (p1 : Nat) (p2 : Int32) (h : AH) : Option (Option Nat × AH) :=
  (aN h p1).bind fun x1 =>
  if p2 = x1 then
    b2 (clL h p1) fun a6 h7 =>
    some (some a6, h7)
  else
    b2 (nwA 4 p2 h) fun a2 h3 =>
    (aN h3 p1).bind fun x4 =>
    (cpL h3 p1 0 a2 0 (mnI x4 p2)).bind fun h5 =>
    some (some a2, h5)
set_option maxRecDepth 100000 in
set_option maxHeartbeats 4000000 in
theorem w_J7_copyOf_c38d5 {l : Launch} {G : GX} {p1 : Nat} {p2 : Int32} {h : AH} {rr : Option Nat} {hr : AH} (hf : f_J7_copyOf_c38d5 p1 p2 h = some (rr, hr)) : Ct l G yJ7_copyOf_c38d5 1 80 [.ref p1, .int p2] h (QA rr hr) := by
  unfold f_J7_copyOf_c38d5 at hf
  refine Ct_of (own := RJ7) (cc := cJ7_copyOf_c38d5) (nL := 3) (ret := (some (.array .long))) rfl rfl k_1084 (Nat.le_of_ble_eq_true rfl) (fun X C2 C => ?_)
  show V X G h (QA rr hr) 0 [(0, .ref p1), (1, .int p2)] [] h
  refine C.seg (pe := 2) (lv' := [(0, .ref p1), (1, .int p2)]) (st' := [.ref p1, .int p2]) [(.iload_n 1, 1, 0), (.aload_n 0, 1, 0)] (by decide +kernel) rfl ?_
  obtain ⟨x1, gx1, hf⟩ := Option.bind_eq_some_iff.mp hf
  refine C.alen gx1 (by decide +kernel) rfl ?_
  refine C.icmp_ne (off := 11) (tgt := 14) (pf := 6) (by decide +kernel) (by decide) rfl (fun c8 => ?_) (fun c8 => ?_)
  · replace hf := ifn c8 hf
    refine C.seg (pe := 15) (lv' := [(0, .ref p1), (1, .int p2)]) (st' := [.int p2]) [(.iload_n 1, 1, 0)] (by decide +kernel) rfl ?_
    obtain ⟨a2, h3, ga2, hf⟩ := b2_some hf
    refine C.newa4 k_401 ga2 (by decide +kernel) rfl ?_
    refine C.seg (pe := 23) (lv' := [(2, .ref a2), (0, .ref p1), (1, .int p2)]) (st' := [.ref p1, .int 0, .ref a2, .int 0, .ref p1]) [(.astore_n 2, 1, 0), (.aload_n 0, 1, 0), (.iconst 0, 1, 0), (.aload_n 2, 1, 0), (.iconst 0, 1, 0), (.aload_n 0, 1, 0)] (by decide +kernel) rfl ?_
    obtain ⟨x4, gx4, hf⟩ := Option.bind_eq_some_iff.mp hf
    refine C.alen gx4 (by decide +kernel) rfl ?_
    refine C.seg (pe := 25) (lv' := [(2, .ref a2), (0, .ref p1), (1, .int p2)]) (st' := [.int p2, .int x4, .int 0, .ref a2, .int 0, .ref p1]) [(.iload_n 1, 1, 0)] (by decide +kernel) rfl ?_
    refine C.mmin k_1070 k_639 k_137 k_640 (by omega) (by omega) (Nat.le_of_ble_eq_true rfl) (by decide +kernel) rfl ?_
    obtain ⟨h5, gh5, hf⟩ := Option.bind_eq_some_iff.mp hf
    refine C.copyL k_1071 k_1073 k_1072 k_143 (by omega) (by first | decide | exact Nat.le_trans (by decide : _ ≤ 400) (Nat.le_add_left _ _)) (Nat.le_of_ble_eq_true rfl) gh5 (by decide +kernel) rfl ?_
    refine C.seg (pe := 32) (lv' := [(2, .ref a2), (0, .ref p1), (1, .int p2)]) (st' := [.ref a2]) [(.aload_n 2, 1, 0)] (by decide +kernel) rfl ?_
    cases hf
    exact C.retA rfl (Or.inr ⟨_, rfl⟩) (by decide +kernel) ⟨rfl, rfl⟩
  · replace hf := ifp c8 hf
    refine C.seg (pe := 7) (lv' := [(0, .ref p1), (1, .int p2)]) (st' := [.ref p1]) [(.aload_n 0, 1, 0)] (by decide +kernel) rfl ?_
    obtain ⟨a6, h7, ga6, hf⟩ := b2_some hf
    refine C.cloneL k_1085 k_1086 k_1065 k_1066 k_1087 k_1089 (by omega) (by omega) (Nat.le_of_ble_eq_true rfl) ga6 (by decide +kernel) (by decide +kernel) rfl ?_
    cases hf
    exact C.retA rfl (Or.inr ⟨_, rfl⟩) (by decide +kernel) ⟨rfl, rfl⟩
/-! java/lang/Integer.bitCount(I)I -/
def f_J6_bitCount_0f7a4 (p1 : Int32) (h : AH) : Option (Int32 × AH) :=
  lt (p1 - (((p1.toUInt32 >>> ((1 : Int32).toUInt32 &&& Int32.toUInt32 31)).toInt32) &&& 1431655765) : Int32) fun x1 =>
  lt ((x1 &&& 858993459) + (((x1.toUInt32 >>> ((2 : Int32).toUInt32 &&& Int32.toUInt32 31)).toInt32) &&& 858993459) : Int32) fun x2 =>
  lt ((x2 + ((x2.toUInt32 >>> ((4 : Int32).toUInt32 &&& Int32.toUInt32 31)).toInt32)) &&& 252645135 : Int32) fun x3 =>
  lt (x3 + ((x3.toUInt32 >>> ((8 : Int32).toUInt32 &&& Int32.toUInt32 31)).toInt32) : Int32) fun x4 =>
  lt (x4 + ((x4.toUInt32 >>> ((16 : Int32).toUInt32 &&& Int32.toUInt32 31)).toInt32) : Int32) fun x5 =>
  some (x5 &&& 63, h)
set_option maxRecDepth 100000 in
set_option maxHeartbeats 4000000 in
theorem w_J6_bitCount_0f7a4 {l : Launch} {G : GX} {p1 : Int32} {h : AH} {rr : Int32} {hr : AH} (hf : f_J6_bitCount_0f7a4 p1 h = some (rr, hr)) : Ct l G yJ6_bitCount_0f7a4 0 0 [.int p1] h (QI rr hr) := by
  unfold f_J6_bitCount_0f7a4 at hf
  refine Ct_of (own := RJ6) (cc := cJ6_bitCount_0f7a4) (nL := 1) (ret := (some .int)) rfl rfl k_1239 (Nat.le_of_ble_eq_true rfl) (fun X C2 C => ?_)
  show V X G h (QI rr hr) 0 [(0, .int p1)] [] h
  refine C.seg (pe := 4) (lv' := [(0, .int p1)]) (st' := [.int ((p1.toUInt32 >>> ((1 : Int32).toUInt32 &&& Int32.toUInt32 31)).toInt32), .int p1]) [(.iload_n 0, 1, 0), (.iload_n 0, 1, 0), (.iconst 1, 1, 1), (.iushr, 1, 0)] (by decide +kernel) rfl ?_
  refine C.ldcwI k_1240 (by decide +kernel) rfl ?_
  refine C.seg (pe := 9) (lv' := [(0, .int p1)]) (st' := [.int (p1 - (((p1.toUInt32 >>> ((1 : Int32).toUInt32 &&& Int32.toUInt32 31)).toInt32) &&& 1431655765))]) [(.iand, 1, 0), (.isub, 1, 0)] (by decide +kernel) rfl ?_
  refine Vtopi (fun x1 ex1 => ?_)
  replace hf := lt_ap ex1 hf
  clear ex1
  refine C.seg (pe := 11) (lv' := [(0, .int x1)]) (st' := [.int x1]) [(.istore_n 0, 1, 0), (.iload_n 0, 1, 0)] (by decide +kernel) rfl ?_
  refine C.ldcwI k_1241 (by decide +kernel) rfl ?_
  refine C.seg (pe := 18) (lv' := [(0, .int x1)]) (st' := [.int ((x1.toUInt32 >>> ((2 : Int32).toUInt32 &&& Int32.toUInt32 31)).toInt32), .int (x1 &&& 858993459)]) [(.iand, 1, 0), (.iload_n 0, 1, 0), (.iconst 2, 1, 2), (.iushr, 1, 0)] (by decide +kernel) rfl ?_
  refine C.ldcwI k_1241 (by decide +kernel) rfl ?_
  refine C.seg (pe := 23) (lv' := [(0, .int x1)]) (st' := [.int ((x1 &&& 858993459) + (((x1.toUInt32 >>> ((2 : Int32).toUInt32 &&& Int32.toUInt32 31)).toInt32) &&& 858993459))]) [(.iand, 1, 0), (.iadd, 1, 0)] (by decide +kernel) rfl ?_
  refine Vtopi (fun x2 ex2 => ?_)
  replace hf := lt_ap ex2 hf
  clear ex2
  refine C.seg (pe := 29) (lv' := [(0, .int x2)]) (st' := [.int (x2 + ((x2.toUInt32 >>> ((4 : Int32).toUInt32 &&& Int32.toUInt32 31)).toInt32))]) [(.istore_n 0, 1, 0), (.iload_n 0, 1, 0), (.iload_n 0, 1, 0), (.iconst 4, 1, 4), (.iushr, 1, 0), (.iadd, 1, 0)] (by decide +kernel) rfl ?_
  refine C.ldcwI k_1242 (by decide +kernel) rfl ?_
  refine C.seg (pe := 33) (lv' := [(0, .int x2)]) (st' := [.int ((x2 + ((x2.toUInt32 >>> ((4 : Int32).toUInt32 &&& Int32.toUInt32 31)).toInt32)) &&& 252645135)]) [(.iand, 1, 0)] (by decide +kernel) rfl ?_
  refine Vtopi (fun x3 ex3 => ?_)
  replace hf := lt_ap ex3 hf
  clear ex3
  refine C.seg (pe := 40) (lv' := [(0, .int x3)]) (st' := [.int (x3 + ((x3.toUInt32 >>> ((8 : Int32).toUInt32 &&& Int32.toUInt32 31)).toInt32))]) [(.istore_n 0, 1, 0), (.iload_n 0, 1, 0), (.iload_n 0, 1, 0), (.bipush 8, 2, 8), (.iushr, 1, 0), (.iadd, 1, 0)] (by decide +kernel) rfl ?_
  refine Vtopi (fun x4 ex4 => ?_)
  replace hf := lt_ap ex4 hf
  clear ex4
  refine C.seg (pe := 47) (lv' := [(0, .int x4)]) (st' := [.int (x4 + ((x4.toUInt32 >>> ((16 : Int32).toUInt32 &&& Int32.toUInt32 31)).toInt32))]) [(.istore_n 0, 1, 0), (.iload_n 0, 1, 0), (.iload_n 0, 1, 0), (.bipush 16, 2, 16), (.iushr, 1, 0), (.iadd, 1, 0)] (by decide +kernel) rfl ?_
  refine Vtopi (fun x5 ex5 => ?_)
  replace hf := lt_ap ex5 hf
  clear ex5
  refine C.seg (pe := 52) (lv' := [(0, .int x5)]) (st' := [.int (x5 &&& 63)]) [(.istore_n 0, 1, 0), (.iload_n 0, 1, 0), (.bipush 63, 2, 63), (.iand, 1, 0)] (by decide +kernel) rfl ?_
  cases hf
  exact C.retI rfl (by decide +kernel) ⟨rfl, rfl⟩
/-! java/lang/Integer.compare(II)I -/
def f_J6_compare_7cf53_19 (si0 : Int32) (h : AH) : Option (Int32 × AH) :=
  some (si0, h)
set_option maxRecDepth 100000 in
set_option maxHeartbeats 4000000 in
theorem l_J6_compare_7cf53_19 {X : MX} {l : Launch} {G : GX} {h0 : AH} {rr : Int32} {hr : AH} (C : Cx X G RJ6 cJ6_compare_7cf53 2 (some .int) 0 0 h0) (C2 : Cy X l "compare" []) (si0 : Int32) (h : AH) (hf : f_J6_compare_7cf53_19 si0 h = some (rr, hr)) : V X G h0 (QI rr hr) 19 [] [.int si0] h := by
  unfold f_J6_compare_7cf53_19 at hf
  cases hf
  exact C.retI rfl (by decide +kernel) ⟨rfl, rfl⟩
def f_J6_compare_7cf53 (p1 : Int32) (p2 : Int32) (h : AH) : Option (Int32 × AH) :=
  if p2 ≤ p1 then
    if p1 = p2 then
      f_J6_compare_7cf53_19 0 h
    else
      f_J6_compare_7cf53_19 1 h
  else
    f_J6_compare_7cf53_19 (-1) h
set_option maxRecDepth 100000 in
set_option maxHeartbeats 4000000 in
theorem w_J6_compare_7cf53 {l : Launch} {G : GX} {p1 : Int32} {p2 : Int32} {h : AH} {rr : Int32} {hr : AH} (hf : f_J6_compare_7cf53 p1 p2 h = some (rr, hr)) : Ct l G yJ6_compare_7cf53 0 0 [.int p1, .int p2] h (QI rr hr) := by
  unfold f_J6_compare_7cf53 at hf
  refine Ct_of (own := RJ6) (cc := cJ6_compare_7cf53) (nL := 2) (ret := (some .int)) rfl rfl k_1548 (Nat.le_of_ble_eq_true rfl) (fun X C2 C => ?_)
  show V X G h (QI rr hr) 0 [(0, .int p1), (1, .int p2)] [] h
  refine C.seg (pe := 2) (lv' := [(0, .int p1), (1, .int p2)]) (st' := [.int p2, .int p1]) [(.iload_n 0, 1, 0), (.iload_n 1, 1, 0)] (by decide +kernel) rfl ?_
  refine C.icmp_ge (off := 7) (tgt := 9) (pf := 5) (by decide +kernel) (by decide) rfl (fun c2 => ?_) (fun c2 => ?_)
  · replace hf := ifp c2 hf
    refine C.seg (pe := 11) (lv' := [(0, .int p1), (1, .int p2)]) (st' := [.int p2, .int p1]) [(.iload_n 0, 1, 0), (.iload_n 1, 1, 0)] (by decide +kernel) rfl ?_
    refine C.icmp_ne (off := 7) (tgt := 18) (pf := 14) (by decide +kernel) (by decide) rfl (fun c1 => ?_) (fun c1 => ?_)
    · replace hf := ifn c1 hf
      refine C.seg (pe := 19) (lv' := [(0, .int p1), (1, .int p2)]) (st' := [.int 1]) [(.iconst 1, 1, 1)] (by decide +kernel) rfl ?_
      refine Vsub [] rfl ?_
      exact l_J6_compare_7cf53_19 C C2 1 h hf
    · replace hf := ifp c1 hf
      refine C.seg (pe := 15) (lv' := [(0, .int p1), (1, .int p2)]) (st' := [.int 0]) [(.iconst 0, 1, 0)] (by decide +kernel) rfl ?_
      refine C.goto (off := 4) (tgt := 19) (by decide +kernel) (by decide) ?_
      refine Vsub [] rfl ?_
      exact l_J6_compare_7cf53_19 C C2 0 h hf
  · replace hf := ifn c2 hf
    refine C.seg (pe := 6) (lv' := [(0, .int p1), (1, .int p2)]) (st' := [.int (-1)]) [(.iconst (-1), 1, (-1))] (by decide +kernel) rfl ?_
    refine C.goto (off := 13) (tgt := 19) (by decide +kernel) (by decide) ?_
    refine Vsub [] rfl ?_
    exact l_J6_compare_7cf53_19 C C2 (-1) h hf
