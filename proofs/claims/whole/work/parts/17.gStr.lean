/-! java/lang/String.coder()B -/
def f_J0_coder_7d493_14 (si0 : Int32) (h : AH) : Option (Int32 × AH) :=
  (ckB si0).bind fun x1 =>
  some (x1, h)
set_option maxRecDepth 100000 in
set_option maxHeartbeats 4000000 in
theorem l_J0_coder_7d493_14 {X : MX} {l : Launch} {G : GX} {h0 : AH} {rr : Int32} {hr : AH} (C : Cx X G RJ0 cJ0_coder_7d493 1 (some .byte) 0 0 h0) (C2 : Cy X l "coder" []) (si0 : Int32) (h : AH) (hf : f_J0_coder_7d493_14 si0 h = some (rr, hr)) : V X G h0 (QI rr hr) 14 [] [.int si0] h := by
  unfold f_J0_coder_7d493_14 at hf
  obtain ⟨x1, gx1, hf⟩ := Option.bind_eq_some_iff.mp hf
  have ex1 := ckB_eq gx1
  subst ex1
  cases hf
  exact C.retB rfl gx1 (by decide +kernel) ⟨rfl, rfl⟩
def f_J0_coder_7d493 (a0 : Nat) (h : AH) : Option (Int32 × AH) :=
  if isO 99 h a0 = true then
    if (1 : Int32) = 0 then
      f_J0_coder_7d493_14 1 h
    else
      (gI 99 h a0 1).bind fun x1 =>
      f_J0_coder_7d493_14 x1 h
  else none
set_option maxRecDepth 100000 in
set_option maxHeartbeats 4000000 in
theorem w_J0_coder_7d493 {l : Launch} {G : GX} {a0 : Nat} {h : AH} {rr : Int32} {hr : AH} (hf : f_J0_coder_7d493 a0 h = some (rr, hr)) : Ct l G yJ0_coder_7d493 0 0 [.ref a0] h (QI rr hr) := by
  unfold f_J0_coder_7d493 at hf
  obtain ⟨ho, hf⟩ := ifO hf
  refine Ct_of (own := RJ0) (cc := cJ0_coder_7d493) (nL := 1) (ret := (some .byte)) rfl rfl k_846 (Nat.le_of_ble_eq_true rfl) (fun X C2 C => ?_)
  show V X G h (QI rr hr) 0 [(0, .ref a0)] [] h
  refine C.compact k_847 (by decide +kernel) rfl ?_
  refine C.if_eq (off := 10) (tgt := 13) (pf := 6) (by decide +kernel) (by decide) rfl (fun c2 => ?_) (fun c2 => ?_)
  · replace hf := ifp c2 hf
    refine C.seg (pe := 14) (lv' := [(0, .ref a0)]) (st' := [.int 1]) [(.iconst 1, 1, 1)] (by decide +kernel) rfl ?_
    refine Vsub [] rfl ?_
    exact l_J0_coder_7d493_14 C C2 1 h hf
  · replace hf := ifn c2 hf
    refine C.seg (pe := 7) (lv' := [(0, .ref a0)]) (st' := [.ref a0]) [(.aload_n 0, 1, 0)] (by decide +kernel) rfl ?_
    obtain ⟨x1, gx1, hf⟩ := Option.bind_eq_some_iff.mp hf
    refine C.strC (k_2569) gx1 (by decide +kernel) rfl ?_
    refine C.goto (off := 4) (tgt := 14) (by decide +kernel) (by decide) ?_
    refine Vsub [] rfl ?_
    exact l_J0_coder_7d493_14 C C2 x1 h hf
theorem o_J0_coder_7d493 {a0 : Nat} {h : AH} {rr : Int32} {hr : AH} (hf : f_J0_coder_7d493 a0 h = some (rr, hr)) : isO 99 h a0 = true := by
  unfold f_J0_coder_7d493 at hf
  exact (ifO hf).1
/-! java/lang/String.length()I -/
def f_J0_length_8abf5 (a0 : Nat) (h : AH) : Option (Int32 × AH) :=
  if isO 99 h a0 = true then
    (gA 99 h a0 0).bind fun a1 =>
    (aN h a1).bind fun x2 =>
    b2 (f_J0_coder_7d493 a0 h) fun x3 h4 =>
    some (x2 >>> (x3 &&& 31), h4)
  else none
set_option maxRecDepth 100000 in
set_option maxHeartbeats 4000000 in
theorem w_J0_length_8abf5 {l : Launch} {G : GX} {a0 : Nat} {h : AH} {rr : Int32} {hr : AH} (hf : f_J0_length_8abf5 a0 h = some (rr, hr)) : Ct l G yJ0_length_8abf5 1 20 [.ref a0] h (QI rr hr) := by
  unfold f_J0_length_8abf5 at hf
  obtain ⟨ho, hf⟩ := ifO hf
  refine Ct_of (own := RJ0) (cc := cJ0_length_8abf5) (nL := 1) (ret := (some .int)) rfl rfl k_842 (Nat.le_of_ble_eq_true rfl) (fun X C2 C => ?_)
  show V X G h (QI rr hr) 0 [(0, .ref a0)] [] h
  refine C.seg (pe := 1) (lv' := [(0, .ref a0)]) (st' := [.ref a0]) [(.aload_n 0, 1, 0)] (by decide +kernel) rfl ?_
  obtain ⟨a1, ga1, hf⟩ := Option.bind_eq_some_iff.mp hf
  refine C.strV (k_2568) ga1 (by decide +kernel) rfl ?_
  obtain ⟨x2, gx2, hf⟩ := Option.bind_eq_some_iff.mp hf
  refine C.alen gx2 (by decide +kernel) rfl ?_
  refine C.seg (pe := 6) (lv' := [(0, .ref a0)]) (st' := [.ref a0, .int x2]) [(.aload_n 0, 1, 0)] (by decide +kernel) rfl ?_
  obtain ⟨x3, h4, gx3, hf⟩ := b2_some hf
  refine C.callTr C2 [] [.int x2] mt_843 rfl (o_J0_coder_7d493 gx3) (w_J0_coder_7d493 gx3) (by omega) (by omega) (Nat.le_of_ble_eq_true rfl) (by decide +kernel) rfl ?_
  refine C.seg (pe := 10) (lv' := [(0, .ref a0)]) (st' := [.int (x2 >>> (x3 &&& 31))]) [(.ishr, 1, 0)] (by decide +kernel) rfl ?_
  cases hf
  exact C.retI rfl (by decide +kernel) ⟨rfl, rfl⟩
theorem o_J0_length_8abf5 {a0 : Nat} {h : AH} {rr : Int32} {hr : AH} (hf : f_J0_length_8abf5 a0 h = some (rr, hr)) : isO 99 h a0 = true := by
  unfold f_J0_length_8abf5 at hf
  exact (ifO hf).1
/-! java/lang/String.isLatin1()Z -/
def f_J0_isLatin1_aae02_18 (si0 : Int32) (h : AH) : Option (Int32 × AH) :=
  (ckZ si0).bind fun x1 =>
  some (x1, h)
set_option maxRecDepth 100000 in
set_option maxHeartbeats 4000000 in
theorem l_J0_isLatin1_aae02_18 {X : MX} {l : Launch} {G : GX} {h0 : AH} {rr : Int32} {hr : AH} (C : Cx X G RJ0 cJ0_isLatin1_aae02 1 (some .boolean) 0 0 h0) (C2 : Cy X l "isLatin1" []) (si0 : Int32) (h : AH) (hf : f_J0_isLatin1_aae02_18 si0 h = some (rr, hr)) : V X G h0 (QI rr hr) 18 [] [.int si0] h := by
  unfold f_J0_isLatin1_aae02_18 at hf
  obtain ⟨x1, gx1, hf⟩ := Option.bind_eq_some_iff.mp hf
  have ex1 := ckZ_eq gx1
  subst ex1
  cases hf
  exact C.retZ rfl gx1 (by decide +kernel) ⟨rfl, rfl⟩
def f_J0_isLatin1_aae02_17 (h : AH) : Option (Int32 × AH) :=
  f_J0_isLatin1_aae02_18 0 h
set_option maxRecDepth 100000 in
set_option maxHeartbeats 4000000 in
theorem l_J0_isLatin1_aae02_17 {X : MX} {l : Launch} {G : GX} {h0 : AH} {rr : Int32} {hr : AH} (C : Cx X G RJ0 cJ0_isLatin1_aae02 1 (some .boolean) 0 0 h0) (C2 : Cy X l "isLatin1" []) (h : AH) (hf : f_J0_isLatin1_aae02_17 h = some (rr, hr)) : V X G h0 (QI rr hr) 17 [] [] h := by
  unfold f_J0_isLatin1_aae02_17 at hf
  refine C.seg (pe := 18) (lv' := []) (st' := [.int 0]) [(.iconst 0, 1, 0)] (by decide +kernel) rfl ?_
  exact l_J0_isLatin1_aae02_18 C C2 0 h hf
def f_J0_isLatin1_aae02 (a0 : Nat) (h : AH) : Option (Int32 × AH) :=
  if isO 99 h a0 = true then
    if (1 : Int32) = 0 then
      f_J0_isLatin1_aae02_17 h
    else
      (gI 99 h a0 1).bind fun x1 =>
      if x1 = 0 then
        f_J0_isLatin1_aae02_18 1 h
      else
        f_J0_isLatin1_aae02_17 h
  else none
set_option maxRecDepth 100000 in
set_option maxHeartbeats 4000000 in
theorem w_J0_isLatin1_aae02 {l : Launch} {G : GX} {a0 : Nat} {h : AH} {rr : Int32} {hr : AH} (hf : f_J0_isLatin1_aae02 a0 h = some (rr, hr)) : Ct l G yJ0_isLatin1_aae02 0 0 [.ref a0] h (QI rr hr) := by
  unfold f_J0_isLatin1_aae02 at hf
  obtain ⟨ho, hf⟩ := ifO hf
  refine Ct_of (own := RJ0) (cc := cJ0_isLatin1_aae02) (nL := 1) (ret := (some .boolean)) rfl rfl k_856 (Nat.le_of_ble_eq_true rfl) (fun X C2 C => ?_)
  show V X G h (QI rr hr) 0 [(0, .ref a0)] [] h
  refine C.compact k_847 (by decide +kernel) rfl ?_
  refine C.if_eq (off := 14) (tgt := 17) (pf := 6) (by decide +kernel) (by decide) rfl (fun c3 => ?_) (fun c3 => ?_)
  · replace hf := ifp c3 hf
    refine Vsub [] rfl ?_
    exact l_J0_isLatin1_aae02_17 C C2 h hf
  · replace hf := ifn c3 hf
    refine C.seg (pe := 7) (lv' := [(0, .ref a0)]) (st' := [.ref a0]) [(.aload_n 0, 1, 0)] (by decide +kernel) rfl ?_
    obtain ⟨x1, gx1, hf⟩ := Option.bind_eq_some_iff.mp hf
    refine C.strC (k_2569) gx1 (by decide +kernel) rfl ?_
    refine C.if_ne (off := 7) (tgt := 17) (pf := 13) (by decide +kernel) (by decide) rfl (fun c2 => ?_) (fun c2 => ?_)
    · replace hf := ifn c2 hf
      refine Vsub [] rfl ?_
      exact l_J0_isLatin1_aae02_17 C C2 h hf
    · replace hf := ifp c2 hf
      refine C.seg (pe := 14) (lv' := [(0, .ref a0)]) (st' := [.int 1]) [(.iconst 1, 1, 1)] (by decide +kernel) rfl ?_
      refine C.goto (off := 4) (tgt := 18) (by decide +kernel) (by decide) ?_
      refine Vsub [] rfl ?_
      exact l_J0_isLatin1_aae02_18 C C2 1 h hf
theorem o_J0_isLatin1_aae02 {a0 : Nat} {h : AH} {rr : Int32} {hr : AH} (hf : f_J0_isLatin1_aae02 a0 h = some (rr, hr)) : isO 99 h a0 = true := by
  unfold f_J0_isLatin1_aae02 at hf
  exact (ifO hf).1
/-! jdk/internal/util/Preconditions.checkIndex(IILjava/util/function/BiFunction;)I -/
def f_E4_9 (i0 : Int32) (i1 : Int32) (o2 : Option Nat) (h : AH) : Option (Int32 × AH) :=
  tr o2 (
    none) fun r2 =>
  none
set_option maxRecDepth 100000 in
set_option maxHeartbeats 4000000 in
theorem l_E4_9 {X : MX} {l : Launch} {G : GX} {h0 : AH} {rr : Int32} {hr : AH} (C : Cx X G RE4 cE4 3 (some .int) 0 0 h0) (C2 : Cy X l "checkIndex" []) (i0 : Int32) (i1 : Int32) (o2 : Option Nat) (h : AH) (hf : f_E4_9 i0 i1 o2 h = some (rr, hr)) : V X G h0 (QI rr hr) 9 [(0, .int i0), (1, .int i1), (2, va_rf o2)] [] h := by
  unfold f_E4_9 at hf
  cases o2 with
  | none =>
    replace hf := tr_none hf
    refine C.seg (pe := 12) (lv' := [(0, .int i0), (1, .int i1), (2, .null)]) (st' := [.int i1, .int i0, .null]) [(.aload_n 2, 1, 0), (.iload_n 0, 1, 0), (.iload_n 1, 1, 0)] (by decide +kernel) rfl ?_
    cases hf
  | some r2 =>
    replace hf := tr_some hf
    refine C.seg (pe := 12) (lv' := [(0, .int i0), (1, .int i1), (2, .ref r2)]) (st' := [.int i1, .int i0, .ref r2]) [(.aload_n 2, 1, 0), (.iload_n 0, 1, 0), (.iload_n 1, 1, 0)] (by decide +kernel) rfl ?_
    cases hf
def f_E4 (p1 : Int32) (p2 : Int32) (p3 : Option Nat) (h : AH) : Option (Int32 × AH) :=
  tr p3 (
    if p1 < 0 then
      f_E4_9 p1 p2 none h
    else
      if p1 < p2 then
        some (p1, h)
      else
        f_E4_9 p1 p2 none h) fun rp3 =>
  if p1 < 0 then
    f_E4_9 p1 p2 (some rp3) h
  else
    if p1 < p2 then
      some (p1, h)
    else
      f_E4_9 p1 p2 (some rp3) h
set_option maxRecDepth 100000 in
set_option maxHeartbeats 4000000 in
theorem w_E4 {l : Launch} {G : GX} {p1 : Int32} {p2 : Int32} {p3 : Option Nat} {h : AH} {rr : Int32} {hr : AH} (hf : f_E4 p1 p2 p3 h = some (rr, hr)) : Ct l G yE4 0 0 [.int p1, .int p2, va_rf p3] h (QI rr hr) := by
  unfold f_E4 at hf
  refine Ct_of (own := RE4) (cc := cE4) (nL := 3) (ret := (some .int)) rfl rfl k_867 (by cases p3 <;> exact Nat.le_of_ble_eq_true rfl) (fun X C2 C => ?_)
  rw [show lv_args 0 [.int p1, .int p2, va_rf p3] = [(0, .int p1), (1, .int p2), (2, va_rf p3)] from by cases p3 <;> rfl]
  cases p3 with
  | none =>
    replace hf := tr_none hf
    refine C.seg (pe := 1) (lv' := [(0, .int p1), (1, .int p2), (2, .null)]) (st' := [.int p1]) [(.iload_n 0, 1, 0)] (by decide +kernel) rfl ?_
    refine C.if_lt (off := 8) (tgt := 9) (pf := 4) (by decide +kernel) (by decide) rfl (fun c2 => ?_) (fun c2 => ?_)
    · replace hf := ifp c2 hf
      exact l_E4_9 C C2 p1 p2 none h hf
    · replace hf := ifn c2 hf
      refine C.seg (pe := 6) (lv' := [(0, .int p1), (1, .int p2), (2, .null)]) (st' := [.int p2, .int p1]) [(.iload_n 0, 1, 0), (.iload_n 1, 1, 0)] (by decide +kernel) rfl ?_
      refine C.icmp_lt (off := 10) (tgt := 16) (pf := 9) (by decide +kernel) (by decide) rfl (fun c1 => ?_) (fun c1 => ?_)
      · replace hf := ifp c1 hf
        refine C.seg (pe := 17) (lv' := [(0, .int p1), (1, .int p2), (2, .null)]) (st' := [.int p1]) [(.iload_n 0, 1, 0)] (by decide +kernel) rfl ?_
        cases hf
        exact C.retI rfl (by decide +kernel) ⟨rfl, rfl⟩
      · replace hf := ifn c1 hf
        exact l_E4_9 C C2 p1 p2 none h hf
  | some rp3 =>
    replace hf := tr_some hf
    refine C.seg (pe := 1) (lv' := [(0, .int p1), (1, .int p2), (2, .ref rp3)]) (st' := [.int p1]) [(.iload_n 0, 1, 0)] (by decide +kernel) rfl ?_
    refine C.if_lt (off := 8) (tgt := 9) (pf := 4) (by decide +kernel) (by decide) rfl (fun c4 => ?_) (fun c4 => ?_)
    · replace hf := ifp c4 hf
      exact l_E4_9 C C2 p1 p2 (some rp3) h hf
    · replace hf := ifn c4 hf
      refine C.seg (pe := 6) (lv' := [(0, .int p1), (1, .int p2), (2, .ref rp3)]) (st' := [.int p2, .int p1]) [(.iload_n 0, 1, 0), (.iload_n 1, 1, 0)] (by decide +kernel) rfl ?_
      refine C.icmp_lt (off := 10) (tgt := 16) (pf := 9) (by decide +kernel) (by decide) rfl (fun c3 => ?_) (fun c3 => ?_)
      · replace hf := ifp c3 hf
        refine C.seg (pe := 17) (lv' := [(0, .int p1), (1, .int p2), (2, .ref rp3)]) (st' := [.int p1]) [(.iload_n 0, 1, 0)] (by decide +kernel) rfl ?_
        cases hf
        exact C.retI rfl (by decide +kernel) ⟨rfl, rfl⟩
      · replace hf := ifn c3 hf
        exact l_E4_9 C C2 p1 p2 (some rp3) h hf
/-! java/lang/String.checkIndex(II)V -/
def f_J0_checkIndex_df160 (z : ZX) (p1 : Int32) (p2 : Int32) (h : AH) : Option (AH) :=
  tr (z.2.2 0) (
    b2 (f_E4 p1 p2 none h) fun x3 h4 =>
    some h4) fun a1 =>
  b2 (f_E4 p1 p2 (some a1) h) fun x5 h6 =>
  some h6
set_option maxRecDepth 100000 in
set_option maxHeartbeats 4000000 in
theorem w_J0_checkIndex_df160 {l : Launch} {G : GX} {p1 : Int32} {p2 : Int32} {h : AH} {hr : AH} (hf : f_J0_checkIndex_df160 G.2.2 p1 p2 h = some hr) : Ct l G yJ0_checkIndex_df160 1 22 [.int p1, .int p2] h (QV hr) := by
  unfold f_J0_checkIndex_df160 at hf
  refine Ct_of (own := RJ0) (cc := cJ0_checkIndex_df160) (nL := 2) (ret := none) rfl rfl k_862 (Nat.le_of_ble_eq_true rfl) (fun X C2 C => ?_)
  show V X G h (QV hr) 0 [(0, .int p1), (1, .int p2)] [] h
  refine C.seg (pe := 2) (lv' := [(0, .int p1), (1, .int p2)]) (st' := [.int p2, .int p1]) [(.iload_n 0, 1, 0), (.iload_n 1, 1, 0)] (by decide +kernel) rfl ?_
  cases e2 : (G.2.2.2.2 0) with
  | none =>
    rw [e2] at hf
    replace hf := tr_none hf
    refine C.stat0 (v := .null) (by rw [e2]; rfl) k_863 (by decide +kernel) rfl ?_
    obtain ⟨x3, h4, gx3, hf⟩ := b2_some hf
    refine C.callSr C2 [.int p1, .int p2, .null] [] ms_865 rfl (w_E4 gx3) (by omega) (by omega) (Nat.le_of_ble_eq_true rfl) (by decide +kernel) rfl ?_
    refine C.seg (pe := 9) (lv' := [(0, .int p1), (1, .int p2)]) (st' := []) [(.pop, 1, 0)] (by decide +kernel) rfl ?_
    cases hf
    exact C.retV rfl (by decide +kernel) ⟨rfl, rfl⟩
  | some a1 =>
    rw [e2] at hf
    replace hf := tr_some hf
    refine C.stat0 (v := .ref a1) (by rw [e2]; rfl) k_863 (by decide +kernel) rfl ?_
    obtain ⟨x5, h6, gx5, hf⟩ := b2_some hf
    refine C.callSr C2 [.int p1, .int p2, .ref a1] [] ms_865 rfl (w_E4 gx5) (by omega) (by omega) (Nat.le_of_ble_eq_true rfl) (by decide +kernel) rfl ?_
    refine C.seg (pe := 9) (lv' := [(0, .int p1), (1, .int p2)]) (st' := []) [(.pop, 1, 0)] (by decide +kernel) rfl ?_
    cases hf
    exact C.retV rfl (by decide +kernel) ⟨rfl, rfl⟩
/-! java/lang/StringLatin1.charAt([BI)C -/
def f_J1_charAt_3b067 (z : ZX) (p1 : Nat) (p2 : Int32) (h : AH) : Option (Int32 × AH) :=
  (aN h p1).bind fun x1 =>
  (f_J0_checkIndex_df160 z p2 x1 h).bind fun h2 =>
  (aI 21 h2 p1 p2).bind fun x3 =>
  (ckC (((x3 &&& 255).toUInt32 % 65536).toInt32)).bind fun x4 =>
  some (x4, h2)
set_option maxRecDepth 100000 in
set_option maxHeartbeats 4000000 in
theorem w_J1_charAt_3b067 {l : Launch} {G : GX} {p1 : Nat} {p2 : Int32} {h : AH} {rr : Int32} {hr : AH} (hf : f_J1_charAt_3b067 G.2.2 p1 p2 h = some (rr, hr)) : Ct l G yJ1_charAt_3b067 2 43 [.ref p1, .int p2] h (QI rr hr) := by
  unfold f_J1_charAt_3b067 at hf
  refine Ct_of (own := RJ1) (cc := cJ1_charAt_3b067) (nL := 2) (ret := (some .char)) rfl rfl k_859 (Nat.le_of_ble_eq_true rfl) (fun X C2 C => ?_)
  show V X G h (QI rr hr) 0 [(0, .ref p1), (1, .int p2)] [] h
  refine C.seg (pe := 2) (lv' := [(0, .ref p1), (1, .int p2)]) (st' := [.ref p1, .int p2]) [(.iload_n 1, 1, 0), (.aload_n 0, 1, 0)] (by decide +kernel) rfl ?_
  obtain ⟨x1, gx1, hf⟩ := Option.bind_eq_some_iff.mp hf
  refine C.alen gx1 (by decide +kernel) rfl ?_
  obtain ⟨h2, gh2, hf⟩ := Option.bind_eq_some_iff.mp hf
  refine C.callSr C2 [.int p2, .int x1] [] ms_860 rfl (w_J0_checkIndex_df160 gh2) (by omega) (by omega) (Nat.le_of_ble_eq_true rfl) (by decide +kernel) rfl ?_
  refine C.seg (pe := 8) (lv' := [(0, .ref p1), (1, .int p2)]) (st' := [.int p2, .ref p1]) [(.aload_n 0, 1, 0), (.iload_n 1, 1, 0)] (by decide +kernel) rfl ?_
  obtain ⟨x3, gx3, hf⟩ := Option.bind_eq_some_iff.mp hf
  refine C.bald 21 rfl gx3 (by decide +kernel) rfl ?_
  refine C.seg (pe := 14) (lv' := [(0, .ref p1), (1, .int p2)]) (st' := [.int (((x3 &&& 255).toUInt32 % 65536).toInt32)]) [(.sipush 255, 3, 255), (.iand, 1, 0), (.i2c, 1, 0)] (by decide +kernel) rfl ?_
  obtain ⟨x4, gx4, hf⟩ := Option.bind_eq_some_iff.mp hf
  have ex4 := ckC_eq gx4
  subst ex4
  cases hf
  exact C.retC rfl gx4 (by decide +kernel) ⟨rfl, rfl⟩
/-! java/lang/String.charAt(I)C -/
def f_J0_charAt_5068e (z : ZX) (a0 : Nat) (p1 : Int32) (h : AH) : Option (Int32 × AH) :=
  if isO 99 h a0 = true then
    b2 (f_J0_isLatin1_aae02 a0 h) fun x1 h2 =>
    if x1 = 0 then
      (gA 99 h2 a0 0).bind fun a3 =>
      none
    else
      (gA 99 h2 a0 0).bind fun a4 =>
      b2 (f_J1_charAt_3b067 z a4 p1 h2) fun x5 h6 =>
      (ckC x5).bind fun x7 =>
      some (x7, h6)
  else none
set_option maxRecDepth 100000 in
set_option maxHeartbeats 4000000 in
theorem w_J0_charAt_5068e {l : Launch} {G : GX} {a0 : Nat} {p1 : Int32} {h : AH} {rr : Int32} {hr : AH} (hf : f_J0_charAt_5068e G.2.2 a0 p1 h = some (rr, hr)) : Ct l G yJ0_charAt_5068e 3 64 [.ref a0, .int p1] h (QI rr hr) := by
  unfold f_J0_charAt_5068e at hf
  obtain ⟨ho, hf⟩ := ifO hf
  refine Ct_of (own := RJ0) (cc := cJ0_charAt_5068e) (nL := 2) (ret := (some .char)) rfl rfl k_852 (Nat.le_of_ble_eq_true rfl) (fun X C2 C => ?_)
  show V X G h (QI rr hr) 0 [(0, .ref a0), (1, .int p1)] [] h
  refine C.seg (pe := 1) (lv' := [(0, .ref a0), (1, .int p1)]) (st' := [.ref a0]) [(.aload_n 0, 1, 0)] (by decide +kernel) rfl ?_
  obtain ⟨x1, h2, gx1, hf⟩ := b2_some hf
  refine C.callTr C2 [] [] mt_853 rfl (o_J0_isLatin1_aae02 gx1) (w_J0_isLatin1_aae02 gx1) (by omega) (by omega) (Nat.le_of_ble_eq_true rfl) (by decide +kernel) rfl ?_
  refine C.if_eq (off := 12) (tgt := 16) (pf := 7) (by decide +kernel) (by decide) rfl (fun c8 => ?_) (fun c8 => ?_)
  · replace hf := ifp c8 hf
    refine C.seg (pe := 17) (lv' := [(0, .ref a0), (1, .int p1)]) (st' := [.ref a0]) [(.aload_n 0, 1, 0)] (by decide +kernel) rfl ?_
    obtain ⟨a3, ga3, hf⟩ := Option.bind_eq_some_iff.mp hf
    refine C.strV (k_2568) ga3 (by decide +kernel) rfl ?_
    refine C.seg (pe := 21) (lv' := [(0, .ref a0), (1, .int p1)]) (st' := [.int p1, .ref a3]) [(.iload_n 1, 1, 0)] (by decide +kernel) rfl ?_
    cases hf
  · replace hf := ifn c8 hf
    refine C.seg (pe := 8) (lv' := [(0, .ref a0), (1, .int p1)]) (st' := [.ref a0]) [(.aload_n 0, 1, 0)] (by decide +kernel) rfl ?_
    obtain ⟨a4, ga4, hf⟩ := Option.bind_eq_some_iff.mp hf
    refine C.strV (k_2568) ga4 (by decide +kernel) rfl ?_
    refine C.seg (pe := 12) (lv' := [(0, .ref a0), (1, .int p1)]) (st' := [.int p1, .ref a4]) [(.iload_n 1, 1, 0)] (by decide +kernel) rfl ?_
    obtain ⟨x5, h6, gx5, hf⟩ := b2_some hf
    refine C.callSr C2 [.ref a4, .int p1] [] ms_857 rfl (w_J1_charAt_3b067 gx5) (by omega) (by omega) (Nat.le_of_ble_eq_true rfl) (by decide +kernel) rfl ?_
    obtain ⟨x7, gx7, hf⟩ := Option.bind_eq_some_iff.mp hf
    have ex7 := ckC_eq gx7
    subst ex7
    cases hf
    exact C.retC rfl gx7 (by decide +kernel) ⟨rfl, rfl⟩
theorem o_J0_charAt_5068e {z : ZX} {a0 : Nat} {p1 : Int32} {h : AH} {rr : Int32} {hr : AH} (hf : f_J0_charAt_5068e z a0 p1 h = some (rr, hr)) : isO 99 h a0 = true := by
  unfold f_J0_charAt_5068e at hf
  exact (ifO hf).1
/-! java/lang/StringLatin1.canEncode(I)Z -/
def f_J1_canEncode_9a6ad_16 (si0 : Int32) (h : AH) : Option (Int32 × AH) :=
  (ckZ si0).bind fun x1 =>
  some (x1, h)
set_option maxRecDepth 100000 in
set_option maxHeartbeats 4000000 in
theorem l_J1_canEncode_9a6ad_16 {X : MX} {l : Launch} {G : GX} {h0 : AH} {rr : Int32} {hr : AH} (C : Cx X G RJ1 cJ1_canEncode_9a6ad 1 (some .boolean) 0 0 h0) (C2 : Cy X l "canEncode" []) (si0 : Int32) (h : AH) (hf : f_J1_canEncode_9a6ad_16 si0 h = some (rr, hr)) : V X G h0 (QI rr hr) 16 [] [.int si0] h := by
  unfold f_J1_canEncode_9a6ad_16 at hf
  obtain ⟨x1, gx1, hf⟩ := Option.bind_eq_some_iff.mp hf
  have ex1 := ckZ_eq gx1
  subst ex1
  cases hf
  exact C.retZ rfl gx1 (by decide +kernel) ⟨rfl, rfl⟩
def f_J1_canEncode_9a6ad_15 (h : AH) : Option (Int32 × AH) :=
  f_J1_canEncode_9a6ad_16 0 h
set_option maxRecDepth 100000 in
set_option maxHeartbeats 4000000 in
theorem l_J1_canEncode_9a6ad_15 {X : MX} {l : Launch} {G : GX} {h0 : AH} {rr : Int32} {hr : AH} (C : Cx X G RJ1 cJ1_canEncode_9a6ad 1 (some .boolean) 0 0 h0) (C2 : Cy X l "canEncode" []) (h : AH) (hf : f_J1_canEncode_9a6ad_15 h = some (rr, hr)) : V X G h0 (QI rr hr) 15 [] [] h := by
  unfold f_J1_canEncode_9a6ad_15 at hf
  refine C.seg (pe := 16) (lv' := []) (st' := [.int 0]) [(.iconst 0, 1, 0)] (by decide +kernel) rfl ?_
  exact l_J1_canEncode_9a6ad_16 C C2 0 h hf
def f_J1_canEncode_9a6ad (p1 : Int32) (h : AH) : Option (Int32 × AH) :=
  if p1 < 0 then
    f_J1_canEncode_9a6ad_15 h
  else
    if 255 < p1 then
      f_J1_canEncode_9a6ad_15 h
    else
      f_J1_canEncode_9a6ad_16 1 h
set_option maxRecDepth 100000 in
set_option maxHeartbeats 4000000 in
theorem w_J1_canEncode_9a6ad {l : Launch} {G : GX} {p1 : Int32} {h : AH} {rr : Int32} {hr : AH} (hf : f_J1_canEncode_9a6ad p1 h = some (rr, hr)) : Ct l G yJ1_canEncode_9a6ad 0 0 [.int p1] h (QI rr hr) := by
  unfold f_J1_canEncode_9a6ad at hf
  refine Ct_of (own := RJ1) (cc := cJ1_canEncode_9a6ad) (nL := 1) (ret := (some .boolean)) rfl rfl k_909 (Nat.le_of_ble_eq_true rfl) (fun X C2 C => ?_)
  show V X G h (QI rr hr) 0 [(0, .int p1)] [] h
  refine C.seg (pe := 1) (lv' := [(0, .int p1)]) (st' := [.int p1]) [(.iload_n 0, 1, 0)] (by decide +kernel) rfl ?_
  refine C.if_lt (off := 14) (tgt := 15) (pf := 4) (by decide +kernel) (by decide) rfl (fun c2 => ?_) (fun c2 => ?_)
  · replace hf := ifp c2 hf
    refine Vsub [] rfl ?_
    exact l_J1_canEncode_9a6ad_15 C C2 h hf
  · replace hf := ifn c2 hf
    refine C.seg (pe := 8) (lv' := [(0, .int p1)]) (st' := [.int 255, .int p1]) [(.iload_n 0, 1, 0), (.sipush 255, 3, 255)] (by decide +kernel) rfl ?_
    refine C.icmp_gt (off := 7) (tgt := 15) (pf := 11) (by decide +kernel) (by decide) rfl (fun c1 => ?_) (fun c1 => ?_)
    · replace hf := ifp c1 hf
      refine Vsub [] rfl ?_
      exact l_J1_canEncode_9a6ad_15 C C2 h hf
    · replace hf := ifn c1 hf
      refine C.seg (pe := 12) (lv' := [(0, .int p1)]) (st' := [.int 1]) [(.iconst 1, 1, 1)] (by decide +kernel) rfl ?_
      refine C.goto (off := 4) (tgt := 16) (by decide +kernel) (by decide) ?_
      refine Vsub [] rfl ?_
      exact l_J1_canEncode_9a6ad_16 C C2 1 h hf
/-! java/lang/StringLatin1.indexOfChar([BIII)I -/
def f_J1_indexOfChar_4cfef_7 : Nat → Nat → Int32 → Int32 → Int32 → AH → Option (Int32 × AH)
  | 0, _, _, _, _, _ => none
  | n + 1, r0, i3, i4, i5, h =>
    if i3 ≤ i5 then
      some ((-1), h)
    else
      (aI 21 h r0 i5).bind fun x1 =>
      if x1 = i4 then
        some (i5, h)
      else
        (f_J1_indexOfChar_4cfef_7 n) r0 i3 i4 (i5 + 1) h
set_option maxRecDepth 100000 in
set_option maxHeartbeats 4000000 in
theorem l_J1_indexOfChar_4cfef_7 {X : MX} {l : Launch} {G : GX} {h0 : AH} {rr : Int32} {hr : AH} (C : Cx X G RJ1 cJ1_indexOfChar_4cfef 6 (some .int) 0 0 h0) (C2 : Cy X l "indexOfChar" []) : ∀ (n : Nat) (r0 : Nat) (i3 : Int32) (i4 : Int32) (i5 : Int32) (h : AH), f_J1_indexOfChar_4cfef_7 n r0 i3 i4 i5 h = some (rr, hr) → V X G h0 (QI rr hr) 7 [(0, .ref r0), (3, .int i3), (4, .int i4), (5, .int i5)] [] h := by
  intro n
  induction n with
  | zero => intro r0 i3 i4 i5 h hf; rw [f_J1_indexOfChar_4cfef_7] at hf; cases hf
  | succ n ih =>
    intro r0 i3 i4 i5 h hf
    rw [f_J1_indexOfChar_4cfef_7] at hf
    refine C.seg (pe := 10) (lv' := [(0, .ref r0), (3, .int i3), (4, .int i4), (5, .int i5)]) (st' := [.int i3, .int i5]) [(.iload 5, 2, 0), (.iload_n 3, 1, 0)] (by decide +kernel) rfl ?_
    refine C.icmp_ge (off := 21) (tgt := 31) (pf := 13) (by decide +kernel) (by decide) rfl (fun c3 => ?_) (fun c3 => ?_)
    · replace hf := ifp c3 hf
      refine C.seg (pe := 32) (lv' := [(0, .ref r0), (3, .int i3), (4, .int i4), (5, .int i5)]) (st' := [.int (-1)]) [(.iconst (-1), 1, (-1))] (by decide +kernel) rfl ?_
      cases hf
      exact C.retI rfl (by decide +kernel) ⟨rfl, rfl⟩
    · replace hf := ifn c3 hf
      refine C.seg (pe := 16) (lv' := [(0, .ref r0), (3, .int i3), (4, .int i4), (5, .int i5)]) (st' := [.int i5, .ref r0]) [(.aload_n 0, 1, 0), (.iload 5, 2, 0)] (by decide +kernel) rfl ?_
      obtain ⟨x1, gx1, hf⟩ := Option.bind_eq_some_iff.mp hf
      refine C.bald 21 rfl gx1 (by decide +kernel) rfl ?_
      refine C.seg (pe := 19) (lv' := [(0, .ref r0), (3, .int i3), (4, .int i4), (5, .int i5)]) (st' := [.int i4, .int x1]) [(.iload 4, 2, 0)] (by decide +kernel) rfl ?_
      refine C.icmp_ne (off := 6) (tgt := 25) (pf := 22) (by decide +kernel) (by decide) rfl (fun c2 => ?_) (fun c2 => ?_)
      · replace hf := ifn c2 hf
        refine C.seg (pe := 28) (lv' := [(5, .int (i5 + 1)), (0, .ref r0), (3, .int i3), (4, .int i4)]) (st' := []) [(.iinc 5 1, 3, 1)] (by decide +kernel) rfl ?_
        refine C.goto (off := (-21)) (tgt := 7) (by decide +kernel) (by decide) ?_
        refine Vsub [1, 2, 3, 0] rfl ?_
        exact ih r0 i3 i4 (i5 + 1) h hf
      · replace hf := ifp c2 hf
        refine C.seg (pe := 24) (lv' := [(0, .ref r0), (3, .int i3), (4, .int i4), (5, .int i5)]) (st' := [.int i5]) [(.iload 5, 2, 0)] (by decide +kernel) rfl ?_
        cases hf
        exact C.retI rfl (by decide +kernel) ⟨rfl, rfl⟩
def f_J1_indexOfChar_4cfef (p1 : Nat) (p2 : Int32) (p3 : Int32) (p4 : Int32) (h : AH) : Option (Int32 × AH) :=
  f_J1_indexOfChar_4cfef_7 FU p1 p4 p2.toInt8.toInt32 p3 h
set_option maxRecDepth 100000 in
set_option maxHeartbeats 4000000 in
theorem w_J1_indexOfChar_4cfef {l : Launch} {G : GX} {p1 : Nat} {p2 : Int32} {p3 : Int32} {p4 : Int32} {h : AH} {rr : Int32} {hr : AH} (hf : f_J1_indexOfChar_4cfef p1 p2 p3 p4 h = some (rr, hr)) : Ct l G yJ1_indexOfChar_4cfef 0 0 [.ref p1, .int p2, .int p3, .int p4] h (QI rr hr) := by
  unfold f_J1_indexOfChar_4cfef at hf
  refine Ct_of (own := RJ1) (cc := cJ1_indexOfChar_4cfef) (nL := 6) (ret := (some .int)) rfl rfl k_914 (Nat.le_of_ble_eq_true rfl) (fun X C2 C => ?_)
  show V X G h (QI rr hr) 0 [(0, .ref p1), (1, .int p2), (2, .int p3), (3, .int p4)] [] h
  refine C.seg (pe := 7) (lv' := [(5, .int p3), (4, .int p2.toInt8.toInt32), (0, .ref p1), (1, .int p2), (2, .int p3), (3, .int p4)]) (st' := []) [(.iload_n 1, 1, 0), (.i2b, 1, 0), (.istore 4, 2, 0), (.iload_n 2, 1, 0), (.istore 5, 2, 0)] (by decide +kernel) rfl ?_
  refine Vsub [2, 5, 1, 0] rfl ?_
  exact l_J1_indexOfChar_4cfef_7 C C2 FU p1 p4 p2.toInt8.toInt32 p3 h hf
/-! java/lang/StringLatin1.indexOf([BIII)I -/
def f_J1_indexOf_4cfef (p1 : Nat) (p2 : Int32) (p3 : Int32) (p4 : Int32) (h : AH) : Option (Int32 × AH) :=
  b2 (f_J1_canEncode_9a6ad p2 h) fun x1 h2 =>
  if x1 = 0 then
    some ((-1), h2)
  else
    (aN h2 p1).bind fun x3 =>
    if mxI p3 0 < mnI p4 x3 then
      b2 (f_J1_indexOfChar_4cfef p1 p2 (mxI p3 0) (mnI p4 x3) h2) fun x4 h5 =>
      some (x4, h5)
    else
      some ((-1), h2)
set_option maxRecDepth 100000 in
set_option maxHeartbeats 4000000 in
theorem w_J1_indexOf_4cfef {l : Launch} {G : GX} {p1 : Nat} {p2 : Int32} {p3 : Int32} {p4 : Int32} {h : AH} {rr : Int32} {hr : AH} (hf : f_J1_indexOf_4cfef p1 p2 p3 p4 h = some (rr, hr)) : Ct l G yJ1_indexOf_4cfef 1 40 [.ref p1, .int p2, .int p3, .int p4] h (QI rr hr) := by
  unfold f_J1_indexOf_4cfef at hf
  refine Ct_of (own := RJ1) (cc := cJ1_indexOf_4cfef) (nL := 4) (ret := (some .int)) rfl rfl k_906 (Nat.le_of_ble_eq_true rfl) (fun X C2 C => ?_)
  show V X G h (QI rr hr) 0 [(0, .ref p1), (1, .int p2), (2, .int p3), (3, .int p4)] [] h
  refine C.seg (pe := 1) (lv' := [(0, .ref p1), (1, .int p2), (2, .int p3), (3, .int p4)]) (st' := [.int p2]) [(.iload_n 1, 1, 0)] (by decide +kernel) rfl ?_
  obtain ⟨x1, h2, gx1, hf⟩ := b2_some hf
  refine C.callSr C2 [.int p2] [] ms_907 rfl (w_J1_canEncode_9a6ad gx1) (by omega) (by omega) (Nat.le_of_ble_eq_true rfl) (by decide +kernel) rfl ?_
  refine C.if_ne (off := 5) (tgt := 9) (pf := 7) (by decide +kernel) (by decide) rfl (fun c7 => ?_) (fun c7 => ?_)
  · replace hf := ifn c7 hf
    refine C.seg (pe := 11) (lv' := [(0, .ref p1), (1, .int p2), (2, .int p3), (3, .int p4)]) (st' := [.int 0, .int p3]) [(.iload_n 2, 1, 0), (.iconst 0, 1, 0)] (by decide +kernel) rfl ?_
    refine C.mmax k_910 k_636 k_137 k_637 (by omega) (by omega) (Nat.le_of_ble_eq_true rfl) (by decide +kernel) rfl ?_
    refine C.seg (pe := 17) (lv' := [(2, .int (mxI p3 0)), (0, .ref p1), (1, .int p2), (3, .int p4)]) (st' := [.ref p1, .int p4]) [(.istore_n 2, 1, 0), (.iload_n 3, 1, 0), (.aload_n 0, 1, 0)] (by decide +kernel) rfl ?_
    obtain ⟨x3, gx3, hf⟩ := Option.bind_eq_some_iff.mp hf
    refine C.alen gx3 (by decide +kernel) rfl ?_
    refine C.mmin k_911 k_639 k_137 k_640 (by omega) (by omega) (Nat.le_of_ble_eq_true rfl) (by decide +kernel) rfl ?_
    refine C.seg (pe := 24) (lv' := [(3, .int (mnI p4 x3)), (2, .int (mxI p3 0)), (0, .ref p1), (1, .int p2)]) (st' := [.int (mnI p4 x3), .int (mxI p3 0)]) [(.istore_n 3, 1, 0), (.iload_n 2, 1, 0), (.iload_n 3, 1, 0)] (by decide +kernel) rfl ?_
    refine C.icmp_lt (off := 5) (tgt := 29) (pf := 27) (by decide +kernel) (by decide) rfl (fun c6 => ?_) (fun c6 => ?_)
    · replace hf := ifp c6 hf
      refine C.seg (pe := 33) (lv' := [(3, .int (mnI p4 x3)), (2, .int (mxI p3 0)), (0, .ref p1), (1, .int p2)]) (st' := [.int (mnI p4 x3), .int (mxI p3 0), .int p2, .ref p1]) [(.aload_n 0, 1, 0), (.iload_n 1, 1, 0), (.iload_n 2, 1, 0), (.iload_n 3, 1, 0)] (by decide +kernel) rfl ?_
      obtain ⟨x4, h5, gx4, hf⟩ := b2_some hf
      refine C.callSr C2 [.ref p1, .int p2, .int (mxI p3 0), .int (mnI p4 x3)] [] ms_912 rfl (w_J1_indexOfChar_4cfef gx4) (by omega) (by omega) (Nat.le_of_ble_eq_true rfl) (by decide +kernel) rfl ?_
      cases hf
      exact C.retI rfl (by decide +kernel) ⟨rfl, rfl⟩
    · replace hf := ifn c6 hf
      refine C.seg (pe := 28) (lv' := [(3, .int (mnI p4 x3)), (2, .int (mxI p3 0)), (0, .ref p1), (1, .int p2)]) (st' := [.int (-1)]) [(.iconst (-1), 1, (-1))] (by decide +kernel) rfl ?_
      cases hf
      exact C.retI rfl (by decide +kernel) ⟨rfl, rfl⟩
  · replace hf := ifp c7 hf
    refine C.seg (pe := 8) (lv' := [(0, .ref p1), (1, .int p2), (2, .int p3), (3, .int p4)]) (st' := [.int (-1)]) [(.iconst (-1), 1, (-1))] (by decide +kernel) rfl ?_
    cases hf
    exact C.retI rfl (by decide +kernel) ⟨rfl, rfl⟩
/-! java/lang/String.indexOf(II)I -/
def f_J0_indexOf_7cf53_36 (z : ZX) (si0 : Int32) (h : AH) : Option (Int32 × AH) :=
  some (si0, h)
set_option maxRecDepth 100000 in
set_option maxHeartbeats 4000000 in
theorem l_J0_indexOf_7cf53_36 {X : MX} {l : Launch} {G : GX} {h0 : AH} {rr : Int32} {hr : AH} (C : Cx X G RJ0 cJ0_indexOf_7cf53 3 (some .int) 2 63 h0) (C2 : Cy X l "indexOf" []) (si0 : Int32) (h : AH) (hf : f_J0_indexOf_7cf53_36 G.2.2 si0 h = some (rr, hr)) : V X G h0 (QI rr hr) 36 [] [.int si0] h := by
  unfold f_J0_indexOf_7cf53_36 at hf
  cases hf
  exact C.retI rfl (by decide +kernel) ⟨rfl, rfl⟩
def f_J0_indexOf_7cf53 (z : ZX) (a0 : Nat) (p1 : Int32) (p2 : Int32) (h : AH) : Option (Int32 × AH) :=
  if isO 99 h a0 = true then
    b2 (f_J0_isLatin1_aae02 a0 h) fun x1 h2 =>
    if x1 = 0 then
      (gA 99 h2 a0 0).bind fun a3 =>
      b2 (f_J0_length_8abf5 a0 h2) fun x4 h5 =>
      none
    else
      (gA 99 h2 a0 0).bind fun a6 =>
      b2 (f_J0_length_8abf5 a0 h2) fun x7 h8 =>
      b2 (f_J1_indexOf_4cfef a6 p1 p2 x7 h8) fun x9 h10 =>
      f_J0_indexOf_7cf53_36 z x9 h10
  else none
set_option maxRecDepth 100000 in
set_option maxHeartbeats 4000000 in
theorem w_J0_indexOf_7cf53 {l : Launch} {G : GX} {a0 : Nat} {p1 : Int32} {p2 : Int32} {h : AH} {rr : Int32} {hr : AH} (hf : f_J0_indexOf_7cf53 G.2.2 a0 p1 p2 h = some (rr, hr)) : Ct l G yJ0_indexOf_7cf53 2 63 [.ref a0, .int p1, .int p2] h (QI rr hr) := by
  unfold f_J0_indexOf_7cf53 at hf
  obtain ⟨ho, hf⟩ := ifO hf
  refine Ct_of (own := RJ0) (cc := cJ0_indexOf_7cf53) (nL := 3) (ret := (some .int)) rfl rfl k_902 (Nat.le_of_ble_eq_true rfl) (fun X C2 C => ?_)
  show V X G h (QI rr hr) 0 [(0, .ref a0), (1, .int p1), (2, .int p2)] [] h
  refine C.seg (pe := 1) (lv' := [(0, .ref a0), (1, .int p1), (2, .int p2)]) (st' := [.ref a0]) [(.aload_n 0, 1, 0)] (by decide +kernel) rfl ?_
  obtain ⟨x1, h2, gx1, hf⟩ := b2_some hf
  refine C.callTr C2 [] [] mt_853 rfl (o_J0_isLatin1_aae02 gx1) (w_J0_isLatin1_aae02 gx1) (by omega) (by omega) (Nat.le_of_ble_eq_true rfl) (by decide +kernel) rfl ?_
  refine C.if_eq (off := 19) (tgt := 23) (pf := 7) (by decide +kernel) (by decide) rfl (fun c11 => ?_) (fun c11 => ?_)
  · replace hf := ifp c11 hf
    refine C.seg (pe := 24) (lv' := [(0, .ref a0), (1, .int p1), (2, .int p2)]) (st' := [.ref a0]) [(.aload_n 0, 1, 0)] (by decide +kernel) rfl ?_
    obtain ⟨a3, ga3, hf⟩ := Option.bind_eq_some_iff.mp hf
    refine C.strV (k_2568) ga3 (by decide +kernel) rfl ?_
    refine C.seg (pe := 30) (lv' := [(0, .ref a0), (1, .int p1), (2, .int p2)]) (st' := [.ref a0, .int p2, .int p1, .ref a3]) [(.iload_n 1, 1, 0), (.iload_n 2, 1, 0), (.aload_n 0, 1, 0)] (by decide +kernel) rfl ?_
    obtain ⟨x4, h5, gx4, hf⟩ := b2_some hf
    refine C.callTr C2 [] [.int p2, .int p1, .ref a3] mt_903 rfl (o_J0_length_8abf5 gx4) (w_J0_length_8abf5 gx4) (by omega) (by omega) (Nat.le_of_ble_eq_true rfl) (by decide +kernel) rfl ?_
    cases hf
  · replace hf := ifn c11 hf
    refine C.seg (pe := 8) (lv' := [(0, .ref a0), (1, .int p1), (2, .int p2)]) (st' := [.ref a0]) [(.aload_n 0, 1, 0)] (by decide +kernel) rfl ?_
    obtain ⟨a6, ga6, hf⟩ := Option.bind_eq_some_iff.mp hf
    refine C.strV (k_2568) ga6 (by decide +kernel) rfl ?_
    refine C.seg (pe := 14) (lv' := [(0, .ref a0), (1, .int p1), (2, .int p2)]) (st' := [.ref a0, .int p2, .int p1, .ref a6]) [(.iload_n 1, 1, 0), (.iload_n 2, 1, 0), (.aload_n 0, 1, 0)] (by decide +kernel) rfl ?_
    obtain ⟨x7, h8, gx7, hf⟩ := b2_some hf
    refine C.callTr C2 [] [.int p2, .int p1, .ref a6] mt_903 rfl (o_J0_length_8abf5 gx7) (w_J0_length_8abf5 gx7) (by omega) (by omega) (Nat.le_of_ble_eq_true rfl) (by decide +kernel) rfl ?_
    obtain ⟨x9, h10, gx9, hf⟩ := b2_some hf
    refine C.callSr C2 [.ref a6, .int p1, .int p2, .int x7] [] ms_904 rfl (w_J1_indexOf_4cfef gx9) (by omega) (by omega) (Nat.le_of_ble_eq_true rfl) (by decide +kernel) rfl ?_
    refine C.goto (off := 16) (tgt := 36) (by decide +kernel) (by decide) ?_
    refine Vsub [] rfl ?_
    exact l_J0_indexOf_7cf53_36 C C2 x9 h10 hf
theorem o_J0_indexOf_7cf53 {z : ZX} {a0 : Nat} {p1 : Int32} {p2 : Int32} {h : AH} {rr : Int32} {hr : AH} (hf : f_J0_indexOf_7cf53 z a0 p1 p2 h = some (rr, hr)) : isO 99 h a0 = true := by
  unfold f_J0_indexOf_7cf53 at hf
  exact (ifO hf).1
/-! java/lang/String.indexOf(I)I -/
def f_J0_indexOf_0f7a4 (z : ZX) (a0 : Nat) (p1 : Int32) (h : AH) : Option (Int32 × AH) :=
  if isO 99 h a0 = true then
    b2 (f_J0_indexOf_7cf53 z a0 p1 0 h) fun x1 h2 =>
    some (x1, h2)
  else none
set_option maxRecDepth 100000 in
set_option maxHeartbeats 4000000 in
theorem w_J0_indexOf_0f7a4 {l : Launch} {G : GX} {a0 : Nat} {p1 : Int32} {h : AH} {rr : Int32} {hr : AH} (hf : f_J0_indexOf_0f7a4 G.2.2 a0 p1 h = some (rr, hr)) : Ct l G yJ0_indexOf_0f7a4 3 85 [.ref a0, .int p1] h (QI rr hr) := by
  unfold f_J0_indexOf_0f7a4 at hf
  obtain ⟨ho, hf⟩ := ifO hf
  refine Ct_of (own := RJ0) (cc := cJ0_indexOf_0f7a4) (nL := 2) (ret := (some .int)) rfl rfl k_898 (Nat.le_of_ble_eq_true rfl) (fun X C2 C => ?_)
  show V X G h (QI rr hr) 0 [(0, .ref a0), (1, .int p1)] [] h
  refine C.seg (pe := 3) (lv' := [(0, .ref a0), (1, .int p1)]) (st' := [.int 0, .int p1, .ref a0]) [(.aload_n 0, 1, 0), (.iload_n 1, 1, 0), (.iconst 0, 1, 0)] (by decide +kernel) rfl ?_
  obtain ⟨x1, h2, gx1, hf⟩ := b2_some hf
  refine C.callTr C2 [.int p1, .int 0] [] mt_899 rfl (o_J0_indexOf_7cf53 gx1) (w_J0_indexOf_7cf53 gx1) (by omega) (by omega) (Nat.le_of_ble_eq_true rfl) (by decide +kernel) rfl ?_
  cases hf
  exact C.retI rfl (by decide +kernel) ⟨rfl, rfl⟩
theorem o_J0_indexOf_0f7a4 {z : ZX} {a0 : Nat} {p1 : Int32} {h : AH} {rr : Int32} {hr : AH} (hf : f_J0_indexOf_0f7a4 z a0 p1 h = some (rr, hr)) : isO 99 h a0 = true := by
  unfold f_J0_indexOf_0f7a4 at hf
  exact (ifO hf).1
