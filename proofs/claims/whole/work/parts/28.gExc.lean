/-! java/lang/Throwable.<init>(Ljava/lang/String;Ljava/lang/Throwable;ZZ)V -/
def f_E3_60 (z : ZX) (h : AH) : Option (AH) :=
  some h
set_option maxRecDepth 100000 in
set_option maxHeartbeats 4000000 in
theorem l_E3_60 {X : MX} {l : Launch} {G : GX} {h0 : AH} {hr : AH} (C : Cx X G RE3 cE3 5 none 1 20 h0) (C2 : Cy X l "<init>" []) (h : AH) (hf : f_E3_60 G.2.2 h = some hr) : V X G h0 (QV hr) 60 [] [] h := by
  unfold f_E3_60 at hf
  cases hf
  exact C.retV rfl (by decide +kernel) ⟨rfl, rfl⟩
def f_E3_41 (z : ZX) (r0 : Nat) (o1 : Option Nat) (o2 : Option Nat) (i3 : Int32) (h : AH) : Option (AH) :=
  tr o1 (
    tr o2 (
      (pQ 14 h r0 3 none).bind fun h1 =>
      (pQ 14 h1 r0 0 none).bind fun h2 =>
      if i3 = 0 then
        (pQ 14 h2 r0 2 none).bind fun h3 =>
        f_E3_60 z h3
      else
        f_E3_60 z h2) fun r2 =>
    (pQ 14 h r0 3 none).bind fun h5 =>
    (pQ 14 h5 r0 0 (some r2)).bind fun h6 =>
    if i3 = 0 then
      (pQ 14 h6 r0 2 none).bind fun h7 =>
      f_E3_60 z h7
    else
      f_E3_60 z h6) fun r1 =>
  tr o2 (
    (pQ 14 h r0 3 (some r1)).bind fun h9 =>
    (pQ 14 h9 r0 0 none).bind fun h10 =>
    if i3 = 0 then
      (pQ 14 h10 r0 2 none).bind fun h11 =>
      f_E3_60 z h11
    else
      f_E3_60 z h10) fun r2 =>
  (pQ 14 h r0 3 (some r1)).bind fun h13 =>
  (pQ 14 h13 r0 0 (some r2)).bind fun h14 =>
  if i3 = 0 then
    (pQ 14 h14 r0 2 none).bind fun h15 =>
    f_E3_60 z h15
  else
    f_E3_60 z h14
set_option maxRecDepth 100000 in
set_option maxHeartbeats 4000000 in
theorem l_E3_41 {X : MX} {l : Launch} {G : GX} {h0 : AH} {hr : AH} (C : Cx X G RE3 cE3 5 none 1 20 h0) (C2 : Cy X l "<init>" []) (r0 : Nat) (o1 : Option Nat) (o2 : Option Nat) (i3 : Int32) (h : AH) (hf : f_E3_41 G.2.2 r0 o1 o2 i3 h = some hr) : V X G h0 (QV hr) 41 [(0, .ref r0), (1, va_rf o1), (2, va_rf o2), (3, .int i3)] [] h := by
  unfold f_E3_41 at hf
  cases o1 with
  | none =>
    replace hf := tr_none hf
    cases o2 with
    | none =>
      replace hf := tr_none hf
      refine C.seg (pe := 43) (lv' := [(0, .ref r0), (1, .null), (2, .null), (3, .int i3)]) (st' := [.null, .ref r0]) [(.aload_n 0, 1, 0), (.aload_n 1, 1, 0)] (by decide +kernel) rfl ?_
      obtain ⟨h1, gh1, hf⟩ := Option.bind_eq_some_iff.mp hf
      refine C.putN fl_1691 (Or.inl ⟨_, rfl⟩) gh1 (by decide +kernel) rfl ?_
      refine C.seg (pe := 48) (lv' := [(0, .ref r0), (1, .null), (2, .null), (3, .int i3)]) (st' := [.null, .ref r0]) [(.aload_n 0, 1, 0), (.aload_n 2, 1, 0)] (by decide +kernel) rfl ?_
      obtain ⟨h2, gh2, hf⟩ := Option.bind_eq_some_iff.mp hf
      refine C.putN fl_1692 (Or.inl ⟨_, rfl⟩) gh2 (by decide +kernel) rfl ?_
      refine C.seg (pe := 52) (lv' := [(0, .ref r0), (1, .null), (2, .null), (3, .int i3)]) (st' := [.int i3]) [(.iload_n 3, 1, 0)] (by decide +kernel) rfl ?_
      refine C.if_ne (off := 8) (tgt := 60) (pf := 55) (by decide +kernel) (by decide) rfl (fun c4 => ?_) (fun c4 => ?_)
      · replace hf := ifn c4 hf
        refine Vsub [] rfl ?_
        exact l_E3_60 C C2 h2 hf
      · replace hf := ifp c4 hf
        refine C.seg (pe := 57) (lv' := [(0, .ref r0), (1, .null), (2, .null), (3, .int i3)]) (st' := [.null, .ref r0]) [(.aload_n 0, 1, 0), (.aconst_null, 1, 0)] (by decide +kernel) rfl ?_
        obtain ⟨h3, gh3, hf⟩ := Option.bind_eq_some_iff.mp hf
        refine C.putN fl_1694 (Or.inl ⟨_, rfl⟩) gh3 (by decide +kernel) rfl ?_
        refine Vsub [] rfl ?_
        exact l_E3_60 C C2 h3 hf
    | some r2 =>
      replace hf := tr_some hf
      refine C.seg (pe := 43) (lv' := [(0, .ref r0), (1, .null), (2, .ref r2), (3, .int i3)]) (st' := [.null, .ref r0]) [(.aload_n 0, 1, 0), (.aload_n 1, 1, 0)] (by decide +kernel) rfl ?_
      obtain ⟨h5, gh5, hf⟩ := Option.bind_eq_some_iff.mp hf
      refine C.putN fl_1691 (Or.inl ⟨_, rfl⟩) gh5 (by decide +kernel) rfl ?_
      refine C.seg (pe := 48) (lv' := [(0, .ref r0), (1, .null), (2, .ref r2), (3, .int i3)]) (st' := [.ref r2, .ref r0]) [(.aload_n 0, 1, 0), (.aload_n 2, 1, 0)] (by decide +kernel) rfl ?_
      obtain ⟨h6, gh6, hf⟩ := Option.bind_eq_some_iff.mp hf
      refine C.putA fl_1692 (Or.inl ⟨_, rfl⟩) gh6 (by decide +kernel) rfl ?_
      refine C.seg (pe := 52) (lv' := [(0, .ref r0), (1, .null), (2, .ref r2), (3, .int i3)]) (st' := [.int i3]) [(.iload_n 3, 1, 0)] (by decide +kernel) rfl ?_
      refine C.if_ne (off := 8) (tgt := 60) (pf := 55) (by decide +kernel) (by decide) rfl (fun c8 => ?_) (fun c8 => ?_)
      · replace hf := ifn c8 hf
        refine Vsub [] rfl ?_
        exact l_E3_60 C C2 h6 hf
      · replace hf := ifp c8 hf
        refine C.seg (pe := 57) (lv' := [(0, .ref r0), (1, .null), (2, .ref r2), (3, .int i3)]) (st' := [.null, .ref r0]) [(.aload_n 0, 1, 0), (.aconst_null, 1, 0)] (by decide +kernel) rfl ?_
        obtain ⟨h7, gh7, hf⟩ := Option.bind_eq_some_iff.mp hf
        refine C.putN fl_1694 (Or.inl ⟨_, rfl⟩) gh7 (by decide +kernel) rfl ?_
        refine Vsub [] rfl ?_
        exact l_E3_60 C C2 h7 hf
  | some r1 =>
    replace hf := tr_some hf
    cases o2 with
    | none =>
      replace hf := tr_none hf
      refine C.seg (pe := 43) (lv' := [(0, .ref r0), (1, .ref r1), (2, .null), (3, .int i3)]) (st' := [.ref r1, .ref r0]) [(.aload_n 0, 1, 0), (.aload_n 1, 1, 0)] (by decide +kernel) rfl ?_
      obtain ⟨h9, gh9, hf⟩ := Option.bind_eq_some_iff.mp hf
      refine C.putA fl_1691 (Or.inl ⟨_, rfl⟩) gh9 (by decide +kernel) rfl ?_
      refine C.seg (pe := 48) (lv' := [(0, .ref r0), (1, .ref r1), (2, .null), (3, .int i3)]) (st' := [.null, .ref r0]) [(.aload_n 0, 1, 0), (.aload_n 2, 1, 0)] (by decide +kernel) rfl ?_
      obtain ⟨h10, gh10, hf⟩ := Option.bind_eq_some_iff.mp hf
      refine C.putN fl_1692 (Or.inl ⟨_, rfl⟩) gh10 (by decide +kernel) rfl ?_
      refine C.seg (pe := 52) (lv' := [(0, .ref r0), (1, .ref r1), (2, .null), (3, .int i3)]) (st' := [.int i3]) [(.iload_n 3, 1, 0)] (by decide +kernel) rfl ?_
      refine C.if_ne (off := 8) (tgt := 60) (pf := 55) (by decide +kernel) (by decide) rfl (fun c12 => ?_) (fun c12 => ?_)
      · replace hf := ifn c12 hf
        refine Vsub [] rfl ?_
        exact l_E3_60 C C2 h10 hf
      · replace hf := ifp c12 hf
        refine C.seg (pe := 57) (lv' := [(0, .ref r0), (1, .ref r1), (2, .null), (3, .int i3)]) (st' := [.null, .ref r0]) [(.aload_n 0, 1, 0), (.aconst_null, 1, 0)] (by decide +kernel) rfl ?_
        obtain ⟨h11, gh11, hf⟩ := Option.bind_eq_some_iff.mp hf
        refine C.putN fl_1694 (Or.inl ⟨_, rfl⟩) gh11 (by decide +kernel) rfl ?_
        refine Vsub [] rfl ?_
        exact l_E3_60 C C2 h11 hf
    | some r2 =>
      replace hf := tr_some hf
      refine C.seg (pe := 43) (lv' := [(0, .ref r0), (1, .ref r1), (2, .ref r2), (3, .int i3)]) (st' := [.ref r1, .ref r0]) [(.aload_n 0, 1, 0), (.aload_n 1, 1, 0)] (by decide +kernel) rfl ?_
      obtain ⟨h13, gh13, hf⟩ := Option.bind_eq_some_iff.mp hf
      refine C.putA fl_1691 (Or.inl ⟨_, rfl⟩) gh13 (by decide +kernel) rfl ?_
      refine C.seg (pe := 48) (lv' := [(0, .ref r0), (1, .ref r1), (2, .ref r2), (3, .int i3)]) (st' := [.ref r2, .ref r0]) [(.aload_n 0, 1, 0), (.aload_n 2, 1, 0)] (by decide +kernel) rfl ?_
      obtain ⟨h14, gh14, hf⟩ := Option.bind_eq_some_iff.mp hf
      refine C.putA fl_1692 (Or.inl ⟨_, rfl⟩) gh14 (by decide +kernel) rfl ?_
      refine C.seg (pe := 52) (lv' := [(0, .ref r0), (1, .ref r1), (2, .ref r2), (3, .int i3)]) (st' := [.int i3]) [(.iload_n 3, 1, 0)] (by decide +kernel) rfl ?_
      refine C.if_ne (off := 8) (tgt := 60) (pf := 55) (by decide +kernel) (by decide) rfl (fun c16 => ?_) (fun c16 => ?_)
      · replace hf := ifn c16 hf
        refine Vsub [] rfl ?_
        exact l_E3_60 C C2 h14 hf
      · replace hf := ifp c16 hf
        refine C.seg (pe := 57) (lv' := [(0, .ref r0), (1, .ref r1), (2, .ref r2), (3, .int i3)]) (st' := [.null, .ref r0]) [(.aload_n 0, 1, 0), (.aconst_null, 1, 0)] (by decide +kernel) rfl ?_
        obtain ⟨h15, gh15, hf⟩ := Option.bind_eq_some_iff.mp hf
        refine C.putN fl_1694 (Or.inl ⟨_, rfl⟩) gh15 (by decide +kernel) rfl ?_
        refine Vsub [] rfl ?_
        exact l_E3_60 C C2 h15 hf
def f_E3 (z : ZX) (a0 : Nat) (p1 : Option Nat) (p2 : Option Nat) (p3 : Int32) (p4 : Int32) (h : AH) : Option (AH) :=
  tr p1 (
    tr p2 (
      (pQ 14 h a0 0 (some a0)).bind fun h1 =>
      tr (z.2.2 1) (
        (pQ 14 h1 a0 1 none).bind fun h4 =>
        tr (z.2.2 2) (
          (pQ 14 h4 a0 2 none).bind fun h7 =>
          if p4 = 0 then
            (pQ 14 h7 a0 1 none).bind fun h8 =>
            f_E3_41 z a0 none none p3 h8
          else
            none) fun a5 =>
        (pQ 14 h4 a0 2 (some a5)).bind fun h10 =>
        if p4 = 0 then
          (pQ 14 h10 a0 1 none).bind fun h11 =>
          f_E3_41 z a0 none none p3 h11
        else
          none) fun a2 =>
      (pQ 14 h1 a0 1 (some a2)).bind fun h13 =>
      tr (z.2.2 2) (
        (pQ 14 h13 a0 2 none).bind fun h16 =>
        if p4 = 0 then
          (pQ 14 h16 a0 1 none).bind fun h17 =>
          f_E3_41 z a0 none none p3 h17
        else
          none) fun a14 =>
      (pQ 14 h13 a0 2 (some a14)).bind fun h19 =>
      if p4 = 0 then
        (pQ 14 h19 a0 1 none).bind fun h20 =>
        f_E3_41 z a0 none none p3 h20
      else
        none) fun rp2 =>
    (pQ 14 h a0 0 (some a0)).bind fun h22 =>
    tr (z.2.2 1) (
      (pQ 14 h22 a0 1 none).bind fun h25 =>
      tr (z.2.2 2) (
        (pQ 14 h25 a0 2 none).bind fun h28 =>
        if p4 = 0 then
          (pQ 14 h28 a0 1 none).bind fun h29 =>
          f_E3_41 z a0 none (some rp2) p3 h29
        else
          none) fun a26 =>
      (pQ 14 h25 a0 2 (some a26)).bind fun h31 =>
      if p4 = 0 then
        (pQ 14 h31 a0 1 none).bind fun h32 =>
        f_E3_41 z a0 none (some rp2) p3 h32
      else
        none) fun a23 =>
    (pQ 14 h22 a0 1 (some a23)).bind fun h34 =>
    tr (z.2.2 2) (
      (pQ 14 h34 a0 2 none).bind fun h37 =>
      if p4 = 0 then
        (pQ 14 h37 a0 1 none).bind fun h38 =>
        f_E3_41 z a0 none (some rp2) p3 h38
      else
        none) fun a35 =>
    (pQ 14 h34 a0 2 (some a35)).bind fun h40 =>
    if p4 = 0 then
      (pQ 14 h40 a0 1 none).bind fun h41 =>
      f_E3_41 z a0 none (some rp2) p3 h41
    else
      none) fun rp1 =>
  tr p2 (
    (pQ 14 h a0 0 (some a0)).bind fun h43 =>
    tr (z.2.2 1) (
      (pQ 14 h43 a0 1 none).bind fun h46 =>
      tr (z.2.2 2) (
        (pQ 14 h46 a0 2 none).bind fun h49 =>
        if p4 = 0 then
          (pQ 14 h49 a0 1 none).bind fun h50 =>
          f_E3_41 z a0 (some rp1) none p3 h50
        else
          none) fun a47 =>
      (pQ 14 h46 a0 2 (some a47)).bind fun h52 =>
      if p4 = 0 then
        (pQ 14 h52 a0 1 none).bind fun h53 =>
        f_E3_41 z a0 (some rp1) none p3 h53
      else
        none) fun a44 =>
    (pQ 14 h43 a0 1 (some a44)).bind fun h55 =>
    tr (z.2.2 2) (
      (pQ 14 h55 a0 2 none).bind fun h58 =>
      if p4 = 0 then
        (pQ 14 h58 a0 1 none).bind fun h59 =>
        f_E3_41 z a0 (some rp1) none p3 h59
      else
        none) fun a56 =>
    (pQ 14 h55 a0 2 (some a56)).bind fun h61 =>
    if p4 = 0 then
      (pQ 14 h61 a0 1 none).bind fun h62 =>
      f_E3_41 z a0 (some rp1) none p3 h62
    else
      none) fun rp2 =>
  (pQ 14 h a0 0 (some a0)).bind fun h64 =>
  tr (z.2.2 1) (
    (pQ 14 h64 a0 1 none).bind fun h67 =>
    tr (z.2.2 2) (
      (pQ 14 h67 a0 2 none).bind fun h70 =>
      if p4 = 0 then
        (pQ 14 h70 a0 1 none).bind fun h71 =>
        f_E3_41 z a0 (some rp1) (some rp2) p3 h71
      else
        none) fun a68 =>
    (pQ 14 h67 a0 2 (some a68)).bind fun h73 =>
    if p4 = 0 then
      (pQ 14 h73 a0 1 none).bind fun h74 =>
      f_E3_41 z a0 (some rp1) (some rp2) p3 h74
    else
      none) fun a65 =>
  (pQ 14 h64 a0 1 (some a65)).bind fun h76 =>
  tr (z.2.2 2) (
    (pQ 14 h76 a0 2 none).bind fun h79 =>
    if p4 = 0 then
      (pQ 14 h79 a0 1 none).bind fun h80 =>
      f_E3_41 z a0 (some rp1) (some rp2) p3 h80
    else
      none) fun a77 =>
  (pQ 14 h76 a0 2 (some a77)).bind fun h82 =>
  if p4 = 0 then
    (pQ 14 h82 a0 1 none).bind fun h83 =>
    f_E3_41 z a0 (some rp1) (some rp2) p3 h83
  else
    none
set_option maxRecDepth 100000 in
set_option maxHeartbeats 4000000 in
theorem w_E3 {l : Launch} {G : GX} {a0 : Nat} {p1 : Option Nat} {p2 : Option Nat} {p3 : Int32} {p4 : Int32} {h : AH} {hr : AH} (hf : f_E3 G.2.2 a0 p1 p2 p3 p4 h = some hr) : Ct l G yE3 1 20 [.ref a0, va_rf p1, va_rf p2, .int p3, .int p4] h (QV hr) := by
  unfold f_E3 at hf
  refine Ct_of (own := RE3) (cc := cE3) (nL := 5) (ret := none) rfl rfl k_1687 (by cases p1 <;> cases p2 <;> exact Nat.le_of_ble_eq_true rfl) (fun X C2 C => ?_)
  rw [show lv_args 0 [.ref a0, va_rf p1, va_rf p2, .int p3, .int p4] = [(0, .ref a0), (1, va_rf p1), (2, va_rf p2), (3, .int p3), (4, .int p4)] from by cases p1 <;> cases p2 <;> rfl]
  cases p1 with
  | none =>
    replace hf := tr_none hf
    cases p2 with
    | none =>
      replace hf := tr_none hf
      refine C.seg (pe := 1) (lv' := [(0, .ref a0), (1, .null), (2, .null), (3, .int p3), (4, .int p4)]) (st' := [.ref a0]) [(.aload_n 0, 1, 0)] (by decide +kernel) rfl ?_
      refine C.objInit k_1662 k_151 k_152 (by omega) (by omega) (Nat.le_of_ble_eq_true rfl) (by decide +kernel) rfl ?_
      refine C.seg (pe := 6) (lv' := [(0, .ref a0), (1, .null), (2, .null), (3, .int p3), (4, .int p4)]) (st' := [.ref a0, .ref a0]) [(.aload_n 0, 1, 0), (.aload_n 0, 1, 0)] (by decide +kernel) rfl ?_
      obtain ⟨h1, gh1, hf⟩ := Option.bind_eq_some_iff.mp hf
      refine C.putA fl_1692 (Or.inl ⟨_, rfl⟩) gh1 (by decide +kernel) rfl ?_
      refine C.seg (pe := 10) (lv' := [(0, .ref a0), (1, .null), (2, .null), (3, .int p3), (4, .int p4)]) (st' := [.ref a0]) [(.aload_n 0, 1, 0)] (by decide +kernel) rfl ?_
      cases e3 : (G.2.2.2.2 1) with
      | none =>
        rw [e3] at hf
        replace hf := tr_none hf
        refine C.stat1 (v := .null) (by rw [e3]; rfl) k_1663 (by decide +kernel) rfl ?_
        obtain ⟨h4, gh4, hf⟩ := Option.bind_eq_some_iff.mp hf
        refine C.putN fl_1693 (Or.inr ⟨_, rfl⟩) gh4 (by decide +kernel) rfl ?_
        refine C.seg (pe := 17) (lv' := [(0, .ref a0), (1, .null), (2, .null), (3, .int p3), (4, .int p4)]) (st' := [.ref a0]) [(.aload_n 0, 1, 0)] (by decide +kernel) rfl ?_
        cases e6 : (G.2.2.2.2 2) with
        | none =>
          rw [e6] at hf
          replace hf := tr_none hf
          refine C.stat2 (v := .null) (by rw [e6]; rfl) k_1665 (by decide +kernel) rfl ?_
          obtain ⟨h7, gh7, hf⟩ := Option.bind_eq_some_iff.mp hf
          refine C.putN fl_1694 (Or.inl ⟨_, rfl⟩) gh7 (by decide +kernel) rfl ?_
          refine C.seg (pe := 25) (lv' := [(0, .ref a0), (1, .null), (2, .null), (3, .int p3), (4, .int p4)]) (st' := [.int p4]) [(.iload 4, 2, 0)] (by decide +kernel) rfl ?_
          refine C.if_eq (off := 11) (tgt := 36) (pf := 28) (by decide +kernel) (by decide) rfl (fun c9 => ?_) (fun c9 => ?_)
          · replace hf := ifp c9 hf
            refine C.seg (pe := 38) (lv' := [(0, .ref a0), (1, .null), (2, .null), (3, .int p3), (4, .int p4)]) (st' := [.null, .ref a0]) [(.aload_n 0, 1, 0), (.aconst_null, 1, 0)] (by decide +kernel) rfl ?_
            obtain ⟨h8, gh8, hf⟩ := Option.bind_eq_some_iff.mp hf
            refine C.putN fl_1693 (Or.inr ⟨_, rfl⟩) gh8 (by decide +kernel) rfl ?_
            refine Vsub [0, 1, 2, 3] rfl ?_
            exact l_E3_41 C C2 a0 none none p3 h8 hf
          · replace hf := ifn c9 hf
            refine C.seg (pe := 29) (lv' := [(0, .ref a0), (1, .null), (2, .null), (3, .int p3), (4, .int p4)]) (st' := [.ref a0]) [(.aload_n 0, 1, 0)] (by decide +kernel) rfl ?_
            cases hf
        | some a5 =>
          rw [e6] at hf
          replace hf := tr_some hf
          refine C.stat2 (v := .ref a5) (by rw [e6]; rfl) k_1665 (by decide +kernel) rfl ?_
          obtain ⟨h10, gh10, hf⟩ := Option.bind_eq_some_iff.mp hf
          refine C.putA fl_1694 (Or.inl ⟨_, rfl⟩) gh10 (by decide +kernel) rfl ?_
          refine C.seg (pe := 25) (lv' := [(0, .ref a0), (1, .null), (2, .null), (3, .int p3), (4, .int p4)]) (st' := [.int p4]) [(.iload 4, 2, 0)] (by decide +kernel) rfl ?_
          refine C.if_eq (off := 11) (tgt := 36) (pf := 28) (by decide +kernel) (by decide) rfl (fun c12 => ?_) (fun c12 => ?_)
          · replace hf := ifp c12 hf
            refine C.seg (pe := 38) (lv' := [(0, .ref a0), (1, .null), (2, .null), (3, .int p3), (4, .int p4)]) (st' := [.null, .ref a0]) [(.aload_n 0, 1, 0), (.aconst_null, 1, 0)] (by decide +kernel) rfl ?_
            obtain ⟨h11, gh11, hf⟩ := Option.bind_eq_some_iff.mp hf
            refine C.putN fl_1693 (Or.inr ⟨_, rfl⟩) gh11 (by decide +kernel) rfl ?_
            refine Vsub [0, 1, 2, 3] rfl ?_
            exact l_E3_41 C C2 a0 none none p3 h11 hf
          · replace hf := ifn c12 hf
            refine C.seg (pe := 29) (lv' := [(0, .ref a0), (1, .null), (2, .null), (3, .int p3), (4, .int p4)]) (st' := [.ref a0]) [(.aload_n 0, 1, 0)] (by decide +kernel) rfl ?_
            cases hf
      | some a2 =>
        rw [e3] at hf
        replace hf := tr_some hf
        refine C.stat1 (v := .ref a2) (by rw [e3]; rfl) k_1663 (by decide +kernel) rfl ?_
        obtain ⟨h13, gh13, hf⟩ := Option.bind_eq_some_iff.mp hf
        refine C.putA fl_1693 (Or.inr ⟨_, rfl⟩) gh13 (by decide +kernel) rfl ?_
        refine C.seg (pe := 17) (lv' := [(0, .ref a0), (1, .null), (2, .null), (3, .int p3), (4, .int p4)]) (st' := [.ref a0]) [(.aload_n 0, 1, 0)] (by decide +kernel) rfl ?_
        cases e15 : (G.2.2.2.2 2) with
        | none =>
          rw [e15] at hf
          replace hf := tr_none hf
          refine C.stat2 (v := .null) (by rw [e15]; rfl) k_1665 (by decide +kernel) rfl ?_
          obtain ⟨h16, gh16, hf⟩ := Option.bind_eq_some_iff.mp hf
          refine C.putN fl_1694 (Or.inl ⟨_, rfl⟩) gh16 (by decide +kernel) rfl ?_
          refine C.seg (pe := 25) (lv' := [(0, .ref a0), (1, .null), (2, .null), (3, .int p3), (4, .int p4)]) (st' := [.int p4]) [(.iload 4, 2, 0)] (by decide +kernel) rfl ?_
          refine C.if_eq (off := 11) (tgt := 36) (pf := 28) (by decide +kernel) (by decide) rfl (fun c18 => ?_) (fun c18 => ?_)
          · replace hf := ifp c18 hf
            refine C.seg (pe := 38) (lv' := [(0, .ref a0), (1, .null), (2, .null), (3, .int p3), (4, .int p4)]) (st' := [.null, .ref a0]) [(.aload_n 0, 1, 0), (.aconst_null, 1, 0)] (by decide +kernel) rfl ?_
            obtain ⟨h17, gh17, hf⟩ := Option.bind_eq_some_iff.mp hf
            refine C.putN fl_1693 (Or.inr ⟨_, rfl⟩) gh17 (by decide +kernel) rfl ?_
            refine Vsub [0, 1, 2, 3] rfl ?_
            exact l_E3_41 C C2 a0 none none p3 h17 hf
          · replace hf := ifn c18 hf
            refine C.seg (pe := 29) (lv' := [(0, .ref a0), (1, .null), (2, .null), (3, .int p3), (4, .int p4)]) (st' := [.ref a0]) [(.aload_n 0, 1, 0)] (by decide +kernel) rfl ?_
            cases hf
        | some a14 =>
          rw [e15] at hf
          replace hf := tr_some hf
          refine C.stat2 (v := .ref a14) (by rw [e15]; rfl) k_1665 (by decide +kernel) rfl ?_
          obtain ⟨h19, gh19, hf⟩ := Option.bind_eq_some_iff.mp hf
          refine C.putA fl_1694 (Or.inl ⟨_, rfl⟩) gh19 (by decide +kernel) rfl ?_
          refine C.seg (pe := 25) (lv' := [(0, .ref a0), (1, .null), (2, .null), (3, .int p3), (4, .int p4)]) (st' := [.int p4]) [(.iload 4, 2, 0)] (by decide +kernel) rfl ?_
          refine C.if_eq (off := 11) (tgt := 36) (pf := 28) (by decide +kernel) (by decide) rfl (fun c21 => ?_) (fun c21 => ?_)
          · replace hf := ifp c21 hf
            refine C.seg (pe := 38) (lv' := [(0, .ref a0), (1, .null), (2, .null), (3, .int p3), (4, .int p4)]) (st' := [.null, .ref a0]) [(.aload_n 0, 1, 0), (.aconst_null, 1, 0)] (by decide +kernel) rfl ?_
            obtain ⟨h20, gh20, hf⟩ := Option.bind_eq_some_iff.mp hf
            refine C.putN fl_1693 (Or.inr ⟨_, rfl⟩) gh20 (by decide +kernel) rfl ?_
            refine Vsub [0, 1, 2, 3] rfl ?_
            exact l_E3_41 C C2 a0 none none p3 h20 hf
          · replace hf := ifn c21 hf
            refine C.seg (pe := 29) (lv' := [(0, .ref a0), (1, .null), (2, .null), (3, .int p3), (4, .int p4)]) (st' := [.ref a0]) [(.aload_n 0, 1, 0)] (by decide +kernel) rfl ?_
            cases hf
    | some rp2 =>
      replace hf := tr_some hf
      refine C.seg (pe := 1) (lv' := [(0, .ref a0), (1, .null), (2, .ref rp2), (3, .int p3), (4, .int p4)]) (st' := [.ref a0]) [(.aload_n 0, 1, 0)] (by decide +kernel) rfl ?_
      refine C.objInit k_1662 k_151 k_152 (by omega) (by omega) (Nat.le_of_ble_eq_true rfl) (by decide +kernel) rfl ?_
      refine C.seg (pe := 6) (lv' := [(0, .ref a0), (1, .null), (2, .ref rp2), (3, .int p3), (4, .int p4)]) (st' := [.ref a0, .ref a0]) [(.aload_n 0, 1, 0), (.aload_n 0, 1, 0)] (by decide +kernel) rfl ?_
      obtain ⟨h22, gh22, hf⟩ := Option.bind_eq_some_iff.mp hf
      refine C.putA fl_1692 (Or.inl ⟨_, rfl⟩) gh22 (by decide +kernel) rfl ?_
      refine C.seg (pe := 10) (lv' := [(0, .ref a0), (1, .null), (2, .ref rp2), (3, .int p3), (4, .int p4)]) (st' := [.ref a0]) [(.aload_n 0, 1, 0)] (by decide +kernel) rfl ?_
      cases e24 : (G.2.2.2.2 1) with
      | none =>
        rw [e24] at hf
        replace hf := tr_none hf
        refine C.stat1 (v := .null) (by rw [e24]; rfl) k_1663 (by decide +kernel) rfl ?_
        obtain ⟨h25, gh25, hf⟩ := Option.bind_eq_some_iff.mp hf
        refine C.putN fl_1693 (Or.inr ⟨_, rfl⟩) gh25 (by decide +kernel) rfl ?_
        refine C.seg (pe := 17) (lv' := [(0, .ref a0), (1, .null), (2, .ref rp2), (3, .int p3), (4, .int p4)]) (st' := [.ref a0]) [(.aload_n 0, 1, 0)] (by decide +kernel) rfl ?_
        cases e27 : (G.2.2.2.2 2) with
        | none =>
          rw [e27] at hf
          replace hf := tr_none hf
          refine C.stat2 (v := .null) (by rw [e27]; rfl) k_1665 (by decide +kernel) rfl ?_
          obtain ⟨h28, gh28, hf⟩ := Option.bind_eq_some_iff.mp hf
          refine C.putN fl_1694 (Or.inl ⟨_, rfl⟩) gh28 (by decide +kernel) rfl ?_
          refine C.seg (pe := 25) (lv' := [(0, .ref a0), (1, .null), (2, .ref rp2), (3, .int p3), (4, .int p4)]) (st' := [.int p4]) [(.iload 4, 2, 0)] (by decide +kernel) rfl ?_
          refine C.if_eq (off := 11) (tgt := 36) (pf := 28) (by decide +kernel) (by decide) rfl (fun c30 => ?_) (fun c30 => ?_)
          · replace hf := ifp c30 hf
            refine C.seg (pe := 38) (lv' := [(0, .ref a0), (1, .null), (2, .ref rp2), (3, .int p3), (4, .int p4)]) (st' := [.null, .ref a0]) [(.aload_n 0, 1, 0), (.aconst_null, 1, 0)] (by decide +kernel) rfl ?_
            obtain ⟨h29, gh29, hf⟩ := Option.bind_eq_some_iff.mp hf
            refine C.putN fl_1693 (Or.inr ⟨_, rfl⟩) gh29 (by decide +kernel) rfl ?_
            refine Vsub [0, 1, 2, 3] rfl ?_
            exact l_E3_41 C C2 a0 none (some rp2) p3 h29 hf
          · replace hf := ifn c30 hf
            refine C.seg (pe := 29) (lv' := [(0, .ref a0), (1, .null), (2, .ref rp2), (3, .int p3), (4, .int p4)]) (st' := [.ref a0]) [(.aload_n 0, 1, 0)] (by decide +kernel) rfl ?_
            cases hf
        | some a26 =>
          rw [e27] at hf
          replace hf := tr_some hf
          refine C.stat2 (v := .ref a26) (by rw [e27]; rfl) k_1665 (by decide +kernel) rfl ?_
          obtain ⟨h31, gh31, hf⟩ := Option.bind_eq_some_iff.mp hf
          refine C.putA fl_1694 (Or.inl ⟨_, rfl⟩) gh31 (by decide +kernel) rfl ?_
          refine C.seg (pe := 25) (lv' := [(0, .ref a0), (1, .null), (2, .ref rp2), (3, .int p3), (4, .int p4)]) (st' := [.int p4]) [(.iload 4, 2, 0)] (by decide +kernel) rfl ?_
          refine C.if_eq (off := 11) (tgt := 36) (pf := 28) (by decide +kernel) (by decide) rfl (fun c33 => ?_) (fun c33 => ?_)
          · replace hf := ifp c33 hf
            refine C.seg (pe := 38) (lv' := [(0, .ref a0), (1, .null), (2, .ref rp2), (3, .int p3), (4, .int p4)]) (st' := [.null, .ref a0]) [(.aload_n 0, 1, 0), (.aconst_null, 1, 0)] (by decide +kernel) rfl ?_
            obtain ⟨h32, gh32, hf⟩ := Option.bind_eq_some_iff.mp hf
            refine C.putN fl_1693 (Or.inr ⟨_, rfl⟩) gh32 (by decide +kernel) rfl ?_
            refine Vsub [0, 1, 2, 3] rfl ?_
            exact l_E3_41 C C2 a0 none (some rp2) p3 h32 hf
          · replace hf := ifn c33 hf
            refine C.seg (pe := 29) (lv' := [(0, .ref a0), (1, .null), (2, .ref rp2), (3, .int p3), (4, .int p4)]) (st' := [.ref a0]) [(.aload_n 0, 1, 0)] (by decide +kernel) rfl ?_
            cases hf
      | some a23 =>
        rw [e24] at hf
        replace hf := tr_some hf
        refine C.stat1 (v := .ref a23) (by rw [e24]; rfl) k_1663 (by decide +kernel) rfl ?_
        obtain ⟨h34, gh34, hf⟩ := Option.bind_eq_some_iff.mp hf
        refine C.putA fl_1693 (Or.inr ⟨_, rfl⟩) gh34 (by decide +kernel) rfl ?_
        refine C.seg (pe := 17) (lv' := [(0, .ref a0), (1, .null), (2, .ref rp2), (3, .int p3), (4, .int p4)]) (st' := [.ref a0]) [(.aload_n 0, 1, 0)] (by decide +kernel) rfl ?_
        cases e36 : (G.2.2.2.2 2) with
        | none =>
          rw [e36] at hf
          replace hf := tr_none hf
          refine C.stat2 (v := .null) (by rw [e36]; rfl) k_1665 (by decide +kernel) rfl ?_
          obtain ⟨h37, gh37, hf⟩ := Option.bind_eq_some_iff.mp hf
          refine C.putN fl_1694 (Or.inl ⟨_, rfl⟩) gh37 (by decide +kernel) rfl ?_
          refine C.seg (pe := 25) (lv' := [(0, .ref a0), (1, .null), (2, .ref rp2), (3, .int p3), (4, .int p4)]) (st' := [.int p4]) [(.iload 4, 2, 0)] (by decide +kernel) rfl ?_
          refine C.if_eq (off := 11) (tgt := 36) (pf := 28) (by decide +kernel) (by decide) rfl (fun c39 => ?_) (fun c39 => ?_)
          · replace hf := ifp c39 hf
            refine C.seg (pe := 38) (lv' := [(0, .ref a0), (1, .null), (2, .ref rp2), (3, .int p3), (4, .int p4)]) (st' := [.null, .ref a0]) [(.aload_n 0, 1, 0), (.aconst_null, 1, 0)] (by decide +kernel) rfl ?_
            obtain ⟨h38, gh38, hf⟩ := Option.bind_eq_some_iff.mp hf
            refine C.putN fl_1693 (Or.inr ⟨_, rfl⟩) gh38 (by decide +kernel) rfl ?_
            refine Vsub [0, 1, 2, 3] rfl ?_
            exact l_E3_41 C C2 a0 none (some rp2) p3 h38 hf
          · replace hf := ifn c39 hf
            refine C.seg (pe := 29) (lv' := [(0, .ref a0), (1, .null), (2, .ref rp2), (3, .int p3), (4, .int p4)]) (st' := [.ref a0]) [(.aload_n 0, 1, 0)] (by decide +kernel) rfl ?_
            cases hf
        | some a35 =>
          rw [e36] at hf
          replace hf := tr_some hf
          refine C.stat2 (v := .ref a35) (by rw [e36]; rfl) k_1665 (by decide +kernel) rfl ?_
          obtain ⟨h40, gh40, hf⟩ := Option.bind_eq_some_iff.mp hf
          refine C.putA fl_1694 (Or.inl ⟨_, rfl⟩) gh40 (by decide +kernel) rfl ?_
          refine C.seg (pe := 25) (lv' := [(0, .ref a0), (1, .null), (2, .ref rp2), (3, .int p3), (4, .int p4)]) (st' := [.int p4]) [(.iload 4, 2, 0)] (by decide +kernel) rfl ?_
          refine C.if_eq (off := 11) (tgt := 36) (pf := 28) (by decide +kernel) (by decide) rfl (fun c42 => ?_) (fun c42 => ?_)
          · replace hf := ifp c42 hf
            refine C.seg (pe := 38) (lv' := [(0, .ref a0), (1, .null), (2, .ref rp2), (3, .int p3), (4, .int p4)]) (st' := [.null, .ref a0]) [(.aload_n 0, 1, 0), (.aconst_null, 1, 0)] (by decide +kernel) rfl ?_
            obtain ⟨h41, gh41, hf⟩ := Option.bind_eq_some_iff.mp hf
            refine C.putN fl_1693 (Or.inr ⟨_, rfl⟩) gh41 (by decide +kernel) rfl ?_
            refine Vsub [0, 1, 2, 3] rfl ?_
            exact l_E3_41 C C2 a0 none (some rp2) p3 h41 hf
          · replace hf := ifn c42 hf
            refine C.seg (pe := 29) (lv' := [(0, .ref a0), (1, .null), (2, .ref rp2), (3, .int p3), (4, .int p4)]) (st' := [.ref a0]) [(.aload_n 0, 1, 0)] (by decide +kernel) rfl ?_
            cases hf
  | some rp1 =>
    replace hf := tr_some hf
    cases p2 with
    | none =>
      replace hf := tr_none hf
      refine C.seg (pe := 1) (lv' := [(0, .ref a0), (1, .ref rp1), (2, .null), (3, .int p3), (4, .int p4)]) (st' := [.ref a0]) [(.aload_n 0, 1, 0)] (by decide +kernel) rfl ?_
      refine C.objInit k_1662 k_151 k_152 (by omega) (by omega) (Nat.le_of_ble_eq_true rfl) (by decide +kernel) rfl ?_
      refine C.seg (pe := 6) (lv' := [(0, .ref a0), (1, .ref rp1), (2, .null), (3, .int p3), (4, .int p4)]) (st' := [.ref a0, .ref a0]) [(.aload_n 0, 1, 0), (.aload_n 0, 1, 0)] (by decide +kernel) rfl ?_
      obtain ⟨h43, gh43, hf⟩ := Option.bind_eq_some_iff.mp hf
      refine C.putA fl_1692 (Or.inl ⟨_, rfl⟩) gh43 (by decide +kernel) rfl ?_
      refine C.seg (pe := 10) (lv' := [(0, .ref a0), (1, .ref rp1), (2, .null), (3, .int p3), (4, .int p4)]) (st' := [.ref a0]) [(.aload_n 0, 1, 0)] (by decide +kernel) rfl ?_
      cases e45 : (G.2.2.2.2 1) with
      | none =>
        rw [e45] at hf
        replace hf := tr_none hf
        refine C.stat1 (v := .null) (by rw [e45]; rfl) k_1663 (by decide +kernel) rfl ?_
        obtain ⟨h46, gh46, hf⟩ := Option.bind_eq_some_iff.mp hf
        refine C.putN fl_1693 (Or.inr ⟨_, rfl⟩) gh46 (by decide +kernel) rfl ?_
        refine C.seg (pe := 17) (lv' := [(0, .ref a0), (1, .ref rp1), (2, .null), (3, .int p3), (4, .int p4)]) (st' := [.ref a0]) [(.aload_n 0, 1, 0)] (by decide +kernel) rfl ?_
        cases e48 : (G.2.2.2.2 2) with
        | none =>
          rw [e48] at hf
          replace hf := tr_none hf
          refine C.stat2 (v := .null) (by rw [e48]; rfl) k_1665 (by decide +kernel) rfl ?_
          obtain ⟨h49, gh49, hf⟩ := Option.bind_eq_some_iff.mp hf
          refine C.putN fl_1694 (Or.inl ⟨_, rfl⟩) gh49 (by decide +kernel) rfl ?_
          refine C.seg (pe := 25) (lv' := [(0, .ref a0), (1, .ref rp1), (2, .null), (3, .int p3), (4, .int p4)]) (st' := [.int p4]) [(.iload 4, 2, 0)] (by decide +kernel) rfl ?_
          refine C.if_eq (off := 11) (tgt := 36) (pf := 28) (by decide +kernel) (by decide) rfl (fun c51 => ?_) (fun c51 => ?_)
          · replace hf := ifp c51 hf
            refine C.seg (pe := 38) (lv' := [(0, .ref a0), (1, .ref rp1), (2, .null), (3, .int p3), (4, .int p4)]) (st' := [.null, .ref a0]) [(.aload_n 0, 1, 0), (.aconst_null, 1, 0)] (by decide +kernel) rfl ?_
            obtain ⟨h50, gh50, hf⟩ := Option.bind_eq_some_iff.mp hf
            refine C.putN fl_1693 (Or.inr ⟨_, rfl⟩) gh50 (by decide +kernel) rfl ?_
            refine Vsub [0, 1, 2, 3] rfl ?_
            exact l_E3_41 C C2 a0 (some rp1) none p3 h50 hf
          · replace hf := ifn c51 hf
            refine C.seg (pe := 29) (lv' := [(0, .ref a0), (1, .ref rp1), (2, .null), (3, .int p3), (4, .int p4)]) (st' := [.ref a0]) [(.aload_n 0, 1, 0)] (by decide +kernel) rfl ?_
            cases hf
        | some a47 =>
          rw [e48] at hf
          replace hf := tr_some hf
          refine C.stat2 (v := .ref a47) (by rw [e48]; rfl) k_1665 (by decide +kernel) rfl ?_
          obtain ⟨h52, gh52, hf⟩ := Option.bind_eq_some_iff.mp hf
          refine C.putA fl_1694 (Or.inl ⟨_, rfl⟩) gh52 (by decide +kernel) rfl ?_
          refine C.seg (pe := 25) (lv' := [(0, .ref a0), (1, .ref rp1), (2, .null), (3, .int p3), (4, .int p4)]) (st' := [.int p4]) [(.iload 4, 2, 0)] (by decide +kernel) rfl ?_
          refine C.if_eq (off := 11) (tgt := 36) (pf := 28) (by decide +kernel) (by decide) rfl (fun c54 => ?_) (fun c54 => ?_)
          · replace hf := ifp c54 hf
            refine C.seg (pe := 38) (lv' := [(0, .ref a0), (1, .ref rp1), (2, .null), (3, .int p3), (4, .int p4)]) (st' := [.null, .ref a0]) [(.aload_n 0, 1, 0), (.aconst_null, 1, 0)] (by decide +kernel) rfl ?_
            obtain ⟨h53, gh53, hf⟩ := Option.bind_eq_some_iff.mp hf
            refine C.putN fl_1693 (Or.inr ⟨_, rfl⟩) gh53 (by decide +kernel) rfl ?_
            refine Vsub [0, 1, 2, 3] rfl ?_
            exact l_E3_41 C C2 a0 (some rp1) none p3 h53 hf
          · replace hf := ifn c54 hf
            refine C.seg (pe := 29) (lv' := [(0, .ref a0), (1, .ref rp1), (2, .null), (3, .int p3), (4, .int p4)]) (st' := [.ref a0]) [(.aload_n 0, 1, 0)] (by decide +kernel) rfl ?_
            cases hf
      | some a44 =>
        rw [e45] at hf
        replace hf := tr_some hf
        refine C.stat1 (v := .ref a44) (by rw [e45]; rfl) k_1663 (by decide +kernel) rfl ?_
        obtain ⟨h55, gh55, hf⟩ := Option.bind_eq_some_iff.mp hf
        refine C.putA fl_1693 (Or.inr ⟨_, rfl⟩) gh55 (by decide +kernel) rfl ?_
        refine C.seg (pe := 17) (lv' := [(0, .ref a0), (1, .ref rp1), (2, .null), (3, .int p3), (4, .int p4)]) (st' := [.ref a0]) [(.aload_n 0, 1, 0)] (by decide +kernel) rfl ?_
        cases e57 : (G.2.2.2.2 2) with
        | none =>
          rw [e57] at hf
          replace hf := tr_none hf
          refine C.stat2 (v := .null) (by rw [e57]; rfl) k_1665 (by decide +kernel) rfl ?_
          obtain ⟨h58, gh58, hf⟩ := Option.bind_eq_some_iff.mp hf
          refine C.putN fl_1694 (Or.inl ⟨_, rfl⟩) gh58 (by decide +kernel) rfl ?_
          refine C.seg (pe := 25) (lv' := [(0, .ref a0), (1, .ref rp1), (2, .null), (3, .int p3), (4, .int p4)]) (st' := [.int p4]) [(.iload 4, 2, 0)] (by decide +kernel) rfl ?_
          refine C.if_eq (off := 11) (tgt := 36) (pf := 28) (by decide +kernel) (by decide) rfl (fun c60 => ?_) (fun c60 => ?_)
          · replace hf := ifp c60 hf
            refine C.seg (pe := 38) (lv' := [(0, .ref a0), (1, .ref rp1), (2, .null), (3, .int p3), (4, .int p4)]) (st' := [.null, .ref a0]) [(.aload_n 0, 1, 0), (.aconst_null, 1, 0)] (by decide +kernel) rfl ?_
            obtain ⟨h59, gh59, hf⟩ := Option.bind_eq_some_iff.mp hf
            refine C.putN fl_1693 (Or.inr ⟨_, rfl⟩) gh59 (by decide +kernel) rfl ?_
            refine Vsub [0, 1, 2, 3] rfl ?_
            exact l_E3_41 C C2 a0 (some rp1) none p3 h59 hf
          · replace hf := ifn c60 hf
            refine C.seg (pe := 29) (lv' := [(0, .ref a0), (1, .ref rp1), (2, .null), (3, .int p3), (4, .int p4)]) (st' := [.ref a0]) [(.aload_n 0, 1, 0)] (by decide +kernel) rfl ?_
            cases hf
        | some a56 =>
          rw [e57] at hf
          replace hf := tr_some hf
          refine C.stat2 (v := .ref a56) (by rw [e57]; rfl) k_1665 (by decide +kernel) rfl ?_
          obtain ⟨h61, gh61, hf⟩ := Option.bind_eq_some_iff.mp hf
          refine C.putA fl_1694 (Or.inl ⟨_, rfl⟩) gh61 (by decide +kernel) rfl ?_
          refine C.seg (pe := 25) (lv' := [(0, .ref a0), (1, .ref rp1), (2, .null), (3, .int p3), (4, .int p4)]) (st' := [.int p4]) [(.iload 4, 2, 0)] (by decide +kernel) rfl ?_
          refine C.if_eq (off := 11) (tgt := 36) (pf := 28) (by decide +kernel) (by decide) rfl (fun c63 => ?_) (fun c63 => ?_)
          · replace hf := ifp c63 hf
            refine C.seg (pe := 38) (lv' := [(0, .ref a0), (1, .ref rp1), (2, .null), (3, .int p3), (4, .int p4)]) (st' := [.null, .ref a0]) [(.aload_n 0, 1, 0), (.aconst_null, 1, 0)] (by decide +kernel) rfl ?_
            obtain ⟨h62, gh62, hf⟩ := Option.bind_eq_some_iff.mp hf
            refine C.putN fl_1693 (Or.inr ⟨_, rfl⟩) gh62 (by decide +kernel) rfl ?_
            refine Vsub [0, 1, 2, 3] rfl ?_
            exact l_E3_41 C C2 a0 (some rp1) none p3 h62 hf
          · replace hf := ifn c63 hf
            refine C.seg (pe := 29) (lv' := [(0, .ref a0), (1, .ref rp1), (2, .null), (3, .int p3), (4, .int p4)]) (st' := [.ref a0]) [(.aload_n 0, 1, 0)] (by decide +kernel) rfl ?_
            cases hf
    | some rp2 =>
      replace hf := tr_some hf
      refine C.seg (pe := 1) (lv' := [(0, .ref a0), (1, .ref rp1), (2, .ref rp2), (3, .int p3), (4, .int p4)]) (st' := [.ref a0]) [(.aload_n 0, 1, 0)] (by decide +kernel) rfl ?_
      refine C.objInit k_1662 k_151 k_152 (by omega) (by omega) (Nat.le_of_ble_eq_true rfl) (by decide +kernel) rfl ?_
      refine C.seg (pe := 6) (lv' := [(0, .ref a0), (1, .ref rp1), (2, .ref rp2), (3, .int p3), (4, .int p4)]) (st' := [.ref a0, .ref a0]) [(.aload_n 0, 1, 0), (.aload_n 0, 1, 0)] (by decide +kernel) rfl ?_
      obtain ⟨h64, gh64, hf⟩ := Option.bind_eq_some_iff.mp hf
      refine C.putA fl_1692 (Or.inl ⟨_, rfl⟩) gh64 (by decide +kernel) rfl ?_
      refine C.seg (pe := 10) (lv' := [(0, .ref a0), (1, .ref rp1), (2, .ref rp2), (3, .int p3), (4, .int p4)]) (st' := [.ref a0]) [(.aload_n 0, 1, 0)] (by decide +kernel) rfl ?_
      cases e66 : (G.2.2.2.2 1) with
      | none =>
        rw [e66] at hf
        replace hf := tr_none hf
        refine C.stat1 (v := .null) (by rw [e66]; rfl) k_1663 (by decide +kernel) rfl ?_
        obtain ⟨h67, gh67, hf⟩ := Option.bind_eq_some_iff.mp hf
        refine C.putN fl_1693 (Or.inr ⟨_, rfl⟩) gh67 (by decide +kernel) rfl ?_
        refine C.seg (pe := 17) (lv' := [(0, .ref a0), (1, .ref rp1), (2, .ref rp2), (3, .int p3), (4, .int p4)]) (st' := [.ref a0]) [(.aload_n 0, 1, 0)] (by decide +kernel) rfl ?_
        cases e69 : (G.2.2.2.2 2) with
        | none =>
          rw [e69] at hf
          replace hf := tr_none hf
          refine C.stat2 (v := .null) (by rw [e69]; rfl) k_1665 (by decide +kernel) rfl ?_
          obtain ⟨h70, gh70, hf⟩ := Option.bind_eq_some_iff.mp hf
          refine C.putN fl_1694 (Or.inl ⟨_, rfl⟩) gh70 (by decide +kernel) rfl ?_
          refine C.seg (pe := 25) (lv' := [(0, .ref a0), (1, .ref rp1), (2, .ref rp2), (3, .int p3), (4, .int p4)]) (st' := [.int p4]) [(.iload 4, 2, 0)] (by decide +kernel) rfl ?_
          refine C.if_eq (off := 11) (tgt := 36) (pf := 28) (by decide +kernel) (by decide) rfl (fun c72 => ?_) (fun c72 => ?_)
          · replace hf := ifp c72 hf
            refine C.seg (pe := 38) (lv' := [(0, .ref a0), (1, .ref rp1), (2, .ref rp2), (3, .int p3), (4, .int p4)]) (st' := [.null, .ref a0]) [(.aload_n 0, 1, 0), (.aconst_null, 1, 0)] (by decide +kernel) rfl ?_
            obtain ⟨h71, gh71, hf⟩ := Option.bind_eq_some_iff.mp hf
            refine C.putN fl_1693 (Or.inr ⟨_, rfl⟩) gh71 (by decide +kernel) rfl ?_
            refine Vsub [0, 1, 2, 3] rfl ?_
            exact l_E3_41 C C2 a0 (some rp1) (some rp2) p3 h71 hf
          · replace hf := ifn c72 hf
            refine C.seg (pe := 29) (lv' := [(0, .ref a0), (1, .ref rp1), (2, .ref rp2), (3, .int p3), (4, .int p4)]) (st' := [.ref a0]) [(.aload_n 0, 1, 0)] (by decide +kernel) rfl ?_
            cases hf
        | some a68 =>
          rw [e69] at hf
          replace hf := tr_some hf
          refine C.stat2 (v := .ref a68) (by rw [e69]; rfl) k_1665 (by decide +kernel) rfl ?_
          obtain ⟨h73, gh73, hf⟩ := Option.bind_eq_some_iff.mp hf
          refine C.putA fl_1694 (Or.inl ⟨_, rfl⟩) gh73 (by decide +kernel) rfl ?_
          refine C.seg (pe := 25) (lv' := [(0, .ref a0), (1, .ref rp1), (2, .ref rp2), (3, .int p3), (4, .int p4)]) (st' := [.int p4]) [(.iload 4, 2, 0)] (by decide +kernel) rfl ?_
          refine C.if_eq (off := 11) (tgt := 36) (pf := 28) (by decide +kernel) (by decide) rfl (fun c75 => ?_) (fun c75 => ?_)
          · replace hf := ifp c75 hf
            refine C.seg (pe := 38) (lv' := [(0, .ref a0), (1, .ref rp1), (2, .ref rp2), (3, .int p3), (4, .int p4)]) (st' := [.null, .ref a0]) [(.aload_n 0, 1, 0), (.aconst_null, 1, 0)] (by decide +kernel) rfl ?_
            obtain ⟨h74, gh74, hf⟩ := Option.bind_eq_some_iff.mp hf
            refine C.putN fl_1693 (Or.inr ⟨_, rfl⟩) gh74 (by decide +kernel) rfl ?_
            refine Vsub [0, 1, 2, 3] rfl ?_
            exact l_E3_41 C C2 a0 (some rp1) (some rp2) p3 h74 hf
          · replace hf := ifn c75 hf
            refine C.seg (pe := 29) (lv' := [(0, .ref a0), (1, .ref rp1), (2, .ref rp2), (3, .int p3), (4, .int p4)]) (st' := [.ref a0]) [(.aload_n 0, 1, 0)] (by decide +kernel) rfl ?_
            cases hf
      | some a65 =>
        rw [e66] at hf
        replace hf := tr_some hf
        refine C.stat1 (v := .ref a65) (by rw [e66]; rfl) k_1663 (by decide +kernel) rfl ?_
        obtain ⟨h76, gh76, hf⟩ := Option.bind_eq_some_iff.mp hf
        refine C.putA fl_1693 (Or.inr ⟨_, rfl⟩) gh76 (by decide +kernel) rfl ?_
        refine C.seg (pe := 17) (lv' := [(0, .ref a0), (1, .ref rp1), (2, .ref rp2), (3, .int p3), (4, .int p4)]) (st' := [.ref a0]) [(.aload_n 0, 1, 0)] (by decide +kernel) rfl ?_
        cases e78 : (G.2.2.2.2 2) with
        | none =>
          rw [e78] at hf
          replace hf := tr_none hf
          refine C.stat2 (v := .null) (by rw [e78]; rfl) k_1665 (by decide +kernel) rfl ?_
          obtain ⟨h79, gh79, hf⟩ := Option.bind_eq_some_iff.mp hf
          refine C.putN fl_1694 (Or.inl ⟨_, rfl⟩) gh79 (by decide +kernel) rfl ?_
          refine C.seg (pe := 25) (lv' := [(0, .ref a0), (1, .ref rp1), (2, .ref rp2), (3, .int p3), (4, .int p4)]) (st' := [.int p4]) [(.iload 4, 2, 0)] (by decide +kernel) rfl ?_
          refine C.if_eq (off := 11) (tgt := 36) (pf := 28) (by decide +kernel) (by decide) rfl (fun c81 => ?_) (fun c81 => ?_)
          · replace hf := ifp c81 hf
            refine C.seg (pe := 38) (lv' := [(0, .ref a0), (1, .ref rp1), (2, .ref rp2), (3, .int p3), (4, .int p4)]) (st' := [.null, .ref a0]) [(.aload_n 0, 1, 0), (.aconst_null, 1, 0)] (by decide +kernel) rfl ?_
            obtain ⟨h80, gh80, hf⟩ := Option.bind_eq_some_iff.mp hf
            refine C.putN fl_1693 (Or.inr ⟨_, rfl⟩) gh80 (by decide +kernel) rfl ?_
            refine Vsub [0, 1, 2, 3] rfl ?_
            exact l_E3_41 C C2 a0 (some rp1) (some rp2) p3 h80 hf
          · replace hf := ifn c81 hf
            refine C.seg (pe := 29) (lv' := [(0, .ref a0), (1, .ref rp1), (2, .ref rp2), (3, .int p3), (4, .int p4)]) (st' := [.ref a0]) [(.aload_n 0, 1, 0)] (by decide +kernel) rfl ?_
            cases hf
        | some a77 =>
          rw [e78] at hf
          replace hf := tr_some hf
          refine C.stat2 (v := .ref a77) (by rw [e78]; rfl) k_1665 (by decide +kernel) rfl ?_
          obtain ⟨h82, gh82, hf⟩ := Option.bind_eq_some_iff.mp hf
          refine C.putA fl_1694 (Or.inl ⟨_, rfl⟩) gh82 (by decide +kernel) rfl ?_
          refine C.seg (pe := 25) (lv' := [(0, .ref a0), (1, .ref rp1), (2, .ref rp2), (3, .int p3), (4, .int p4)]) (st' := [.int p4]) [(.iload 4, 2, 0)] (by decide +kernel) rfl ?_
          refine C.if_eq (off := 11) (tgt := 36) (pf := 28) (by decide +kernel) (by decide) rfl (fun c84 => ?_) (fun c84 => ?_)
          · replace hf := ifp c84 hf
            refine C.seg (pe := 38) (lv' := [(0, .ref a0), (1, .ref rp1), (2, .ref rp2), (3, .int p3), (4, .int p4)]) (st' := [.null, .ref a0]) [(.aload_n 0, 1, 0), (.aconst_null, 1, 0)] (by decide +kernel) rfl ?_
            obtain ⟨h83, gh83, hf⟩ := Option.bind_eq_some_iff.mp hf
            refine C.putN fl_1693 (Or.inr ⟨_, rfl⟩) gh83 (by decide +kernel) rfl ?_
            refine Vsub [0, 1, 2, 3] rfl ?_
            exact l_E3_41 C C2 a0 (some rp1) (some rp2) p3 h83 hf
          · replace hf := ifn c84 hf
            refine C.seg (pe := 29) (lv' := [(0, .ref a0), (1, .ref rp1), (2, .ref rp2), (3, .int p3), (4, .int p4)]) (st' := [.ref a0]) [(.aload_n 0, 1, 0)] (by decide +kernel) rfl ?_
            cases hf
/-! java/lang/Exception.<init>(Ljava/lang/String;Ljava/lang/Throwable;ZZ)V -/
def f_E2 (z : ZX) (a0 : Nat) (p1 : Option Nat) (p2 : Option Nat) (p3 : Int32) (p4 : Int32) (h : AH) : Option (AH) :=
  tr p1 (
    tr p2 (
      (f_E3 z a0 none none p3 p4 h).bind fun h1 =>
      some h1) fun rp2 =>
    (f_E3 z a0 none (some rp2) p3 p4 h).bind fun h2 =>
    some h2) fun rp1 =>
  tr p2 (
    (f_E3 z a0 (some rp1) none p3 p4 h).bind fun h3 =>
    some h3) fun rp2 =>
  (f_E3 z a0 (some rp1) (some rp2) p3 p4 h).bind fun h4 =>
  some h4
set_option maxRecDepth 100000 in
set_option maxHeartbeats 4000000 in
theorem w_E2 {l : Launch} {G : GX} {a0 : Nat} {p1 : Option Nat} {p2 : Option Nat} {p3 : Int32} {p4 : Int32} {h : AH} {hr : AH} (hf : f_E2 G.2.2 a0 p1 p2 p3 p4 h = some hr) : Ct l G yE2 2 44 [.ref a0, va_rf p1, va_rf p2, .int p3, .int p4] h (QV hr) := by
  unfold f_E2 at hf
  refine Ct_of (own := RE2) (cc := cE2) (nL := 5) (ret := none) rfl rfl k_1684 (by cases p1 <;> cases p2 <;> exact Nat.le_of_ble_eq_true rfl) (fun X C2 C => ?_)
  rw [show lv_args 0 [.ref a0, va_rf p1, va_rf p2, .int p3, .int p4] = [(0, .ref a0), (1, va_rf p1), (2, va_rf p2), (3, .int p3), (4, .int p4)] from by cases p1 <;> cases p2 <;> rfl]
  cases p1 with
  | none =>
    replace hf := tr_none hf
    cases p2 with
    | none =>
      replace hf := tr_none hf
      refine C.seg (pe := 6) (lv' := [(0, .ref a0), (1, .null), (2, .null), (3, .int p3), (4, .int p4)]) (st' := [.int p4, .int p3, .null, .null, .ref a0]) [(.aload_n 0, 1, 0), (.aload_n 1, 1, 0), (.aload_n 2, 1, 0), (.iload_n 3, 1, 0), (.iload 4, 2, 0)] (by decide +kernel) rfl ?_
      obtain ⟨h1, gh1, hf⟩ := Option.bind_eq_some_iff.mp hf
      refine C.callIr C2 [.null, .null, .int p3, .int p4] [] mi_1685 rfl (w_E3 gh1) (by omega) (by omega) (Nat.le_of_ble_eq_true rfl) (by decide +kernel) rfl ?_
      cases hf
      exact C.retV rfl (by decide +kernel) ⟨rfl, rfl⟩
    | some rp2 =>
      replace hf := tr_some hf
      refine C.seg (pe := 6) (lv' := [(0, .ref a0), (1, .null), (2, .ref rp2), (3, .int p3), (4, .int p4)]) (st' := [.int p4, .int p3, .ref rp2, .null, .ref a0]) [(.aload_n 0, 1, 0), (.aload_n 1, 1, 0), (.aload_n 2, 1, 0), (.iload_n 3, 1, 0), (.iload 4, 2, 0)] (by decide +kernel) rfl ?_
      obtain ⟨h2, gh2, hf⟩ := Option.bind_eq_some_iff.mp hf
      refine C.callIr C2 [.null, .ref rp2, .int p3, .int p4] [] mi_1685 rfl (w_E3 gh2) (by omega) (by omega) (Nat.le_of_ble_eq_true rfl) (by decide +kernel) rfl ?_
      cases hf
      exact C.retV rfl (by decide +kernel) ⟨rfl, rfl⟩
  | some rp1 =>
    replace hf := tr_some hf
    cases p2 with
    | none =>
      replace hf := tr_none hf
      refine C.seg (pe := 6) (lv' := [(0, .ref a0), (1, .ref rp1), (2, .null), (3, .int p3), (4, .int p4)]) (st' := [.int p4, .int p3, .null, .ref rp1, .ref a0]) [(.aload_n 0, 1, 0), (.aload_n 1, 1, 0), (.aload_n 2, 1, 0), (.iload_n 3, 1, 0), (.iload 4, 2, 0)] (by decide +kernel) rfl ?_
      obtain ⟨h3, gh3, hf⟩ := Option.bind_eq_some_iff.mp hf
      refine C.callIr C2 [.ref rp1, .null, .int p3, .int p4] [] mi_1685 rfl (w_E3 gh3) (by omega) (by omega) (Nat.le_of_ble_eq_true rfl) (by decide +kernel) rfl ?_
      cases hf
      exact C.retV rfl (by decide +kernel) ⟨rfl, rfl⟩
    | some rp2 =>
      replace hf := tr_some hf
      refine C.seg (pe := 6) (lv' := [(0, .ref a0), (1, .ref rp1), (2, .ref rp2), (3, .int p3), (4, .int p4)]) (st' := [.int p4, .int p3, .ref rp2, .ref rp1, .ref a0]) [(.aload_n 0, 1, 0), (.aload_n 1, 1, 0), (.aload_n 2, 1, 0), (.iload_n 3, 1, 0), (.iload 4, 2, 0)] (by decide +kernel) rfl ?_
      obtain ⟨h4, gh4, hf⟩ := Option.bind_eq_some_iff.mp hf
      refine C.callIr C2 [.ref rp1, .ref rp2, .int p3, .int p4] [] mi_1685 rfl (w_E3 gh4) (by omega) (by omega) (Nat.le_of_ble_eq_true rfl) (by decide +kernel) rfl ?_
      cases hf
      exact C.retV rfl (by decide +kernel) ⟨rfl, rfl⟩
/-! java/lang/RuntimeException.<init>(Ljava/lang/String;Ljava/lang/Throwable;ZZ)V -/
def f_E1 (z : ZX) (a0 : Nat) (p1 : Option Nat) (p2 : Option Nat) (p3 : Int32) (p4 : Int32) (h : AH) : Option (AH) :=
  tr p1 (
    tr p2 (
      (f_E2 z a0 none none p3 p4 h).bind fun h1 =>
      some h1) fun rp2 =>
    (f_E2 z a0 none (some rp2) p3 p4 h).bind fun h2 =>
    some h2) fun rp1 =>
  tr p2 (
    (f_E2 z a0 (some rp1) none p3 p4 h).bind fun h3 =>
    some h3) fun rp2 =>
  (f_E2 z a0 (some rp1) (some rp2) p3 p4 h).bind fun h4 =>
  some h4
set_option maxRecDepth 100000 in
set_option maxHeartbeats 4000000 in
theorem w_E1 {l : Launch} {G : GX} {a0 : Nat} {p1 : Option Nat} {p2 : Option Nat} {p3 : Int32} {p4 : Int32} {h : AH} {hr : AH} (hf : f_E1 G.2.2 a0 p1 p2 p3 p4 h = some hr) : Ct l G yE1 3 68 [.ref a0, va_rf p1, va_rf p2, .int p3, .int p4] h (QV hr) := by
  unfold f_E1 at hf
  refine Ct_of (own := RE1) (cc := cE1) (nL := 5) (ret := none) rfl rfl k_1681 (by cases p1 <;> cases p2 <;> exact Nat.le_of_ble_eq_true rfl) (fun X C2 C => ?_)
  rw [show lv_args 0 [.ref a0, va_rf p1, va_rf p2, .int p3, .int p4] = [(0, .ref a0), (1, va_rf p1), (2, va_rf p2), (3, .int p3), (4, .int p4)] from by cases p1 <;> cases p2 <;> rfl]
  cases p1 with
  | none =>
    replace hf := tr_none hf
    cases p2 with
    | none =>
      replace hf := tr_none hf
      refine C.seg (pe := 6) (lv' := [(0, .ref a0), (1, .null), (2, .null), (3, .int p3), (4, .int p4)]) (st' := [.int p4, .int p3, .null, .null, .ref a0]) [(.aload_n 0, 1, 0), (.aload_n 1, 1, 0), (.aload_n 2, 1, 0), (.iload_n 3, 1, 0), (.iload 4, 2, 0)] (by decide +kernel) rfl ?_
      obtain ⟨h1, gh1, hf⟩ := Option.bind_eq_some_iff.mp hf
      refine C.callIr C2 [.null, .null, .int p3, .int p4] [] mi_1682 rfl (w_E2 gh1) (by omega) (by omega) (Nat.le_of_ble_eq_true rfl) (by decide +kernel) rfl ?_
      cases hf
      exact C.retV rfl (by decide +kernel) ⟨rfl, rfl⟩
    | some rp2 =>
      replace hf := tr_some hf
      refine C.seg (pe := 6) (lv' := [(0, .ref a0), (1, .null), (2, .ref rp2), (3, .int p3), (4, .int p4)]) (st' := [.int p4, .int p3, .ref rp2, .null, .ref a0]) [(.aload_n 0, 1, 0), (.aload_n 1, 1, 0), (.aload_n 2, 1, 0), (.iload_n 3, 1, 0), (.iload 4, 2, 0)] (by decide +kernel) rfl ?_
      obtain ⟨h2, gh2, hf⟩ := Option.bind_eq_some_iff.mp hf
      refine C.callIr C2 [.null, .ref rp2, .int p3, .int p4] [] mi_1682 rfl (w_E2 gh2) (by omega) (by omega) (Nat.le_of_ble_eq_true rfl) (by decide +kernel) rfl ?_
      cases hf
      exact C.retV rfl (by decide +kernel) ⟨rfl, rfl⟩
  | some rp1 =>
    replace hf := tr_some hf
    cases p2 with
    | none =>
      replace hf := tr_none hf
      refine C.seg (pe := 6) (lv' := [(0, .ref a0), (1, .ref rp1), (2, .null), (3, .int p3), (4, .int p4)]) (st' := [.int p4, .int p3, .null, .ref rp1, .ref a0]) [(.aload_n 0, 1, 0), (.aload_n 1, 1, 0), (.aload_n 2, 1, 0), (.iload_n 3, 1, 0), (.iload 4, 2, 0)] (by decide +kernel) rfl ?_
      obtain ⟨h3, gh3, hf⟩ := Option.bind_eq_some_iff.mp hf
      refine C.callIr C2 [.ref rp1, .null, .int p3, .int p4] [] mi_1682 rfl (w_E2 gh3) (by omega) (by omega) (Nat.le_of_ble_eq_true rfl) (by decide +kernel) rfl ?_
      cases hf
      exact C.retV rfl (by decide +kernel) ⟨rfl, rfl⟩
    | some rp2 =>
      replace hf := tr_some hf
      refine C.seg (pe := 6) (lv' := [(0, .ref a0), (1, .ref rp1), (2, .ref rp2), (3, .int p3), (4, .int p4)]) (st' := [.int p4, .int p3, .ref rp2, .ref rp1, .ref a0]) [(.aload_n 0, 1, 0), (.aload_n 1, 1, 0), (.aload_n 2, 1, 0), (.iload_n 3, 1, 0), (.iload 4, 2, 0)] (by decide +kernel) rfl ?_
      obtain ⟨h4, gh4, hf⟩ := Option.bind_eq_some_iff.mp hf
      refine C.callIr C2 [.ref rp1, .ref rp2, .int p3, .int p4] [] mi_1682 rfl (w_E2 gh4) (by omega) (by omega) (Nat.le_of_ble_eq_true rfl) (by decide +kernel) rfl ?_
      cases hf
      exact C.retV rfl (by decide +kernel) ⟨rfl, rfl⟩
