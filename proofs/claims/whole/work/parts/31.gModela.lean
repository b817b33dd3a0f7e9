/-! WallHouseModel.<init>()V -/
def f_X15_init_614 (z : ZX) : Nat → Nat → Int32 → AH → Option (AH)
  | 0, _, _, _ => none
  | n + 1, r0, i1, h =>
    if 192 ≤ i1 then
      some h
    else
      (gA 15 h r0 51).bind fun a1 =>
      (sI 0 h a1 i1 (-1)).bind fun h2 =>
      (f_X15_init_614 z n) r0 (i1 + 1) h2
set_option maxRecDepth 100000 in
set_option maxHeartbeats 4000000 in
theorem l_X15_init_614 {X : MX} {l : Launch} {G : GX} {h0 : AH} {hr : AH} (C : Cx X G RX15 cX15_init 2 none 5 112 h0) (C2 : Cy X l "<init>" []) : ∀ (n : Nat) (r0 : Nat) (i1 : Int32) (h : AH), f_X15_init_614 G.2.2 n r0 i1 h = some hr → V X G h0 (QV hr) 614 [(0, .ref r0), (1, .int i1)] [] h := by
  intro n
  induction n with
  | zero => intro r0 i1 h hf; rw [f_X15_init_614] at hf; cases hf
  | succ n ih =>
    intro r0 i1 h hf
    rw [f_X15_init_614] at hf
    refine C.seg (pe := 618) (lv' := [(0, .ref r0), (1, .int i1)]) (st' := [.int 192, .int i1]) [(.iload_n 1, 1, 0), (.sipush 192, 3, 192)] (by decide +kernel) rfl ?_
    refine C.icmp_ge (off := 16) (tgt := 634) (pf := 621) (by decide +kernel) (by decide) rfl (fun c3 => ?_) (fun c3 => ?_)
    · replace hf := ifp c3 hf
      cases hf
      exact C.retV rfl (by decide +kernel) ⟨rfl, rfl⟩
    · replace hf := ifn c3 hf
      refine C.seg (pe := 622) (lv' := [(0, .ref r0), (1, .int i1)]) (st' := [.ref r0]) [(.aload_n 0, 1, 0)] (by decide +kernel) rfl ?_
      obtain ⟨a1, ga1, hf⟩ := Option.bind_eq_some_iff.mp hf
      refine C.rdA fr_1837 ga1 (by decide +kernel) rfl ?_
      refine C.seg (pe := 627) (lv' := [(0, .ref r0), (1, .int i1)]) (st' := [.int (-1), .int i1, .ref a1]) [(.iload_n 1, 1, 0), (.iconst (-1), 1, (-1))] (by decide +kernel) rfl ?_
      obtain ⟨h2, gh2, hf⟩ := Option.bind_eq_some_iff.mp hf
      refine C.ast gh2 (by decide +kernel) rfl ?_
      refine C.seg (pe := 631) (lv' := [(1, .int (i1 + 1)), (0, .ref r0)]) (st' := []) [(.iinc 1 1, 3, 1)] (by decide +kernel) rfl ?_
      refine C.goto (off := (-17)) (tgt := 614) (by decide +kernel) (by decide) ?_
      refine Vsub [1, 0] rfl ?_
      exact ih r0 (i1 + 1) h2 hf
def f_X15_init_591 (z : ZX) : Nat → Nat → Int32 → AH → Option (AH)
  | 0, _, _, _ => none
  | n + 1, r0, i1, h =>
    if 3650 ≤ i1 then
      f_X15_init_614 z FU r0 0 h
    else
      (gA 15 h r0 89).bind fun a1 =>
      (sI 0 h a1 i1 1000000).bind fun h2 =>
      (f_X15_init_591 z n) r0 (i1 + 1) h2
set_option maxRecDepth 100000 in
set_option maxHeartbeats 4000000 in
theorem l_X15_init_591 {X : MX} {l : Launch} {G : GX} {h0 : AH} {hr : AH} (C : Cx X G RX15 cX15_init 2 none 5 112 h0) (C2 : Cy X l "<init>" []) : ∀ (n : Nat) (r0 : Nat) (i1 : Int32) (h : AH), f_X15_init_591 G.2.2 n r0 i1 h = some hr → V X G h0 (QV hr) 591 [(0, .ref r0), (1, .int i1)] [] h := by
  intro n
  induction n with
  | zero => intro r0 i1 h hf; rw [f_X15_init_591] at hf; cases hf
  | succ n ih =>
    intro r0 i1 h hf
    rw [f_X15_init_591] at hf
    refine C.seg (pe := 595) (lv' := [(0, .ref r0), (1, .int i1)]) (st' := [.int 3650, .int i1]) [(.iload_n 1, 1, 0), (.sipush 3650, 3, 3650)] (by decide +kernel) rfl ?_
    refine C.icmp_ge (off := 17) (tgt := 612) (pf := 598) (by decide +kernel) (by decide) rfl (fun c3 => ?_) (fun c3 => ?_)
    · replace hf := ifp c3 hf
      refine C.seg (pe := 614) (lv' := [(1, .int 0), (0, .ref r0)]) (st' := []) [(.iconst 0, 1, 0), (.istore_n 1, 1, 0)] (by decide +kernel) rfl ?_
      refine Vsub [1, 0] rfl ?_
      exact l_X15_init_614 C C2 FU r0 0 h hf
    · replace hf := ifn c3 hf
      refine C.seg (pe := 599) (lv' := [(0, .ref r0), (1, .int i1)]) (st' := [.ref r0]) [(.aload_n 0, 1, 0)] (by decide +kernel) rfl ?_
      obtain ⟨a1, ga1, hf⟩ := Option.bind_eq_some_iff.mp hf
      refine C.rdA fr_1875 ga1 (by decide +kernel) rfl ?_
      refine C.seg (pe := 603) (lv' := [(0, .ref r0), (1, .int i1)]) (st' := [.int i1, .ref a1]) [(.iload_n 1, 1, 0)] (by decide +kernel) rfl ?_
      refine C.ldcI k_1785 (by decide +kernel) rfl ?_
      obtain ⟨h2, gh2, hf⟩ := Option.bind_eq_some_iff.mp hf
      refine C.ast gh2 (by decide +kernel) rfl ?_
      refine C.seg (pe := 609) (lv' := [(1, .int (i1 + 1)), (0, .ref r0)]) (st' := []) [(.iinc 1 1, 3, 1)] (by decide +kernel) rfl ?_
      refine C.goto (off := (-18)) (tgt := 591) (by decide +kernel) (by decide) ?_
      refine Vsub [1, 0] rfl ?_
      exact ih r0 (i1 + 1) h2 hf
def f_X15_init_568 (z : ZX) : Nat → Nat → Int32 → AH → Option (AH)
  | 0, _, _, _ => none
  | n + 1, r0, i1, h =>
    if 256 ≤ i1 then
      f_X15_init_591 z FU r0 0 h
    else
      (gA 15 h r0 22).bind fun a1 =>
      (sI 0 h a1 i1 60).bind fun h2 =>
      (f_X15_init_568 z n) r0 (i1 + 1) h2
set_option maxRecDepth 100000 in
set_option maxHeartbeats 4000000 in
theorem l_X15_init_568 {X : MX} {l : Launch} {G : GX} {h0 : AH} {hr : AH} (C : Cx X G RX15 cX15_init 2 none 5 112 h0) (C2 : Cy X l "<init>" []) : ∀ (n : Nat) (r0 : Nat) (i1 : Int32) (h : AH), f_X15_init_568 G.2.2 n r0 i1 h = some hr → V X G h0 (QV hr) 568 [(0, .ref r0), (1, .int i1)] [] h := by
  intro n
  induction n with
  | zero => intro r0 i1 h hf; rw [f_X15_init_568] at hf; cases hf
  | succ n ih =>
    intro r0 i1 h hf
    rw [f_X15_init_568] at hf
    refine C.seg (pe := 572) (lv' := [(0, .ref r0), (1, .int i1)]) (st' := [.int 256, .int i1]) [(.iload_n 1, 1, 0), (.sipush 256, 3, 256)] (by decide +kernel) rfl ?_
    refine C.icmp_ge (off := 17) (tgt := 589) (pf := 575) (by decide +kernel) (by decide) rfl (fun c3 => ?_) (fun c3 => ?_)
    · replace hf := ifp c3 hf
      refine C.seg (pe := 591) (lv' := [(1, .int 0), (0, .ref r0)]) (st' := []) [(.iconst 0, 1, 0), (.istore_n 1, 1, 0)] (by decide +kernel) rfl ?_
      refine Vsub [1, 0] rfl ?_
      exact l_X15_init_591 C C2 FU r0 0 h hf
    · replace hf := ifn c3 hf
      refine C.seg (pe := 576) (lv' := [(0, .ref r0), (1, .int i1)]) (st' := [.ref r0]) [(.aload_n 0, 1, 0)] (by decide +kernel) rfl ?_
      obtain ⟨a1, ga1, hf⟩ := Option.bind_eq_some_iff.mp hf
      refine C.rdA fr_1808 ga1 (by decide +kernel) rfl ?_
      refine C.seg (pe := 582) (lv' := [(0, .ref r0), (1, .int i1)]) (st' := [.int 60, .int i1, .ref a1]) [(.iload_n 1, 1, 0), (.bipush 60, 2, 60)] (by decide +kernel) rfl ?_
      obtain ⟨h2, gh2, hf⟩ := Option.bind_eq_some_iff.mp hf
      refine C.ast gh2 (by decide +kernel) rfl ?_
      refine C.seg (pe := 586) (lv' := [(1, .int (i1 + 1)), (0, .ref r0)]) (st' := []) [(.iinc 1 1, 3, 1)] (by decide +kernel) rfl ?_
      refine C.goto (off := (-18)) (tgt := 568) (by decide +kernel) (by decide) ?_
      refine Vsub [1, 0] rfl ?_
      exact ih r0 (i1 + 1) h2 hf
def f_X15_init_546 (z : ZX) : Nat → Nat → Int32 → AH → Option (AH)
  | 0, _, _, _ => none
  | n + 1, r0, i1, h =>
    if 3072 ≤ i1 then
      f_X15_init_568 z FU r0 0 h
    else
      (gA 15 h r0 19).bind fun a1 =>
      (sI 0 h a1 i1 (-1)).bind fun h2 =>
      (f_X15_init_546 z n) r0 (i1 + 1) h2
set_option maxRecDepth 100000 in
set_option maxHeartbeats 4000000 in
theorem l_X15_init_546 {X : MX} {l : Launch} {G : GX} {h0 : AH} {hr : AH} (C : Cx X G RX15 cX15_init 2 none 5 112 h0) (C2 : Cy X l "<init>" []) : ∀ (n : Nat) (r0 : Nat) (i1 : Int32) (h : AH), f_X15_init_546 G.2.2 n r0 i1 h = some hr → V X G h0 (QV hr) 546 [(0, .ref r0), (1, .int i1)] [] h := by
  intro n
  induction n with
  | zero => intro r0 i1 h hf; rw [f_X15_init_546] at hf; cases hf
  | succ n ih =>
    intro r0 i1 h hf
    rw [f_X15_init_546] at hf
    refine C.seg (pe := 550) (lv' := [(0, .ref r0), (1, .int i1)]) (st' := [.int 3072, .int i1]) [(.iload_n 1, 1, 0), (.sipush 3072, 3, 3072)] (by decide +kernel) rfl ?_
    refine C.icmp_ge (off := 16) (tgt := 566) (pf := 553) (by decide +kernel) (by decide) rfl (fun c3 => ?_) (fun c3 => ?_)
    · replace hf := ifp c3 hf
      refine C.seg (pe := 568) (lv' := [(1, .int 0), (0, .ref r0)]) (st' := []) [(.iconst 0, 1, 0), (.istore_n 1, 1, 0)] (by decide +kernel) rfl ?_
      refine Vsub [1, 0] rfl ?_
      exact l_X15_init_568 C C2 FU r0 0 h hf
    · replace hf := ifn c3 hf
      refine C.seg (pe := 554) (lv' := [(0, .ref r0), (1, .int i1)]) (st' := [.ref r0]) [(.aload_n 0, 1, 0)] (by decide +kernel) rfl ?_
      obtain ⟨a1, ga1, hf⟩ := Option.bind_eq_some_iff.mp hf
      refine C.rdA fr_1805 ga1 (by decide +kernel) rfl ?_
      refine C.seg (pe := 559) (lv' := [(0, .ref r0), (1, .int i1)]) (st' := [.int (-1), .int i1, .ref a1]) [(.iload_n 1, 1, 0), (.iconst (-1), 1, (-1))] (by decide +kernel) rfl ?_
      obtain ⟨h2, gh2, hf⟩ := Option.bind_eq_some_iff.mp hf
      refine C.ast gh2 (by decide +kernel) rfl ?_
      refine C.seg (pe := 563) (lv' := [(1, .int (i1 + 1)), (0, .ref r0)]) (st' := []) [(.iinc 1 1, 3, 1)] (by decide +kernel) rfl ?_
      refine C.goto (off := (-17)) (tgt := 546) (by decide +kernel) (by decide) ?_
      refine Vsub [1, 0] rfl ?_
      exact ih r0 (i1 + 1) h2 hf
def f_X15_init (z : ZX) (a0 : Nat) (h : AH) : Option (AH) :=
  (pI 15 h a0 2 (-1)).bind fun h1 =>
  b2 (nwA 0 16 h1) fun a2 h3 =>
  (pQ 15 h3 a0 6 (some a2)).bind fun h4 =>
  b2 (nwA 0 16 h4) fun a5 h6 =>
  (pQ 15 h6 a0 7 (some a5)).bind fun h7 =>
  b2 (nwA 0 16 h7) fun a8 h9 =>
  (pQ 15 h9 a0 8 (some a8)).bind fun h10 =>
  b2 (nwA 0 16 h10) fun a11 h12 =>
  (pQ 15 h12 a0 9 (some a11)).bind fun h13 =>
  b2 (nwA 0 16 h13) fun a14 h15 =>
  (pQ 15 h15 a0 10 (some a14)).bind fun h16 =>
  b2 (nwA 0 16 h16) fun a17 h18 =>
  (pQ 15 h18 a0 11 (some a17)).bind fun h19 =>
  b2 (nwA 0 16 h19) fun a20 h21 =>
  (pQ 15 h21 a0 12 (some a20)).bind fun h22 =>
  b2 (nwA 0 16 h22) fun a23 h24 =>
  (pQ 15 h24 a0 13 (some a23)).bind fun h25 =>
  b2 (nwA 0 16 h25) fun a26 h27 =>
  (pQ 15 h27 a0 14 (some a26)).bind fun h28 =>
  b2 (nwA 0 16 h28) fun a29 h30 =>
  (pQ 15 h30 a0 15 (some a29)).bind fun h31 =>
  b2 (nwA 2 16 h31) fun a32 h33 =>
  (pQ 15 h33 a0 16 (some a32)).bind fun h34 =>
  b2 (nwA 2 3072 h34) fun a35 h36 =>
  (pQ 15 h36 a0 17 (some a35)).bind fun h37 =>
  b2 (nwA 2 256 h37) fun a38 h39 =>
  (pQ 15 h39 a0 18 (some a38)).bind fun h40 =>
  b2 (nwA 0 3072 h40) fun a41 h42 =>
  (pQ 15 h42 a0 19 (some a41)).bind fun h43 =>
  b2 (nwA 0 3072 h43) fun a44 h45 =>
  (pQ 15 h45 a0 20 (some a44)).bind fun h46 =>
  b2 (nwA 0 3072 h46) fun a47 h48 =>
  (pQ 15 h48 a0 21 (some a47)).bind fun h49 =>
  b2 (nwA 0 256 h49) fun a50 h51 =>
  (pQ 15 h51 a0 22 (some a50)).bind fun h52 =>
  b2 (nwO 14 8 dX14 h52) fun a53 h54 =>
  (f_X14_init z a53 h54).bind fun h55 =>
  (pQ 15 h55 a0 23 (some a53)).bind fun h56 =>
  b2 (nwA 1 400 h56) fun a57 h58 =>
  (pQ 15 h58 a0 24 (some a57)).bind fun h59 =>
  b2 (nwA 7 12 h59) fun a60 h61 =>
  (pQ 15 h61 a0 39 (some a60)).bind fun h62 =>
  b2 (nwO 12 13 dX12 h62) fun a63 h64 =>
  (f_X12_init a63 h64).bind fun h65 =>
  (pQ 15 h65 a0 40 (some a63)).bind fun h66 =>
  b2 (nwA 4 12 h66) fun a67 h68 =>
  (pQ 15 h68 a0 42 (some a67)).bind fun h69 =>
  b2 (nwA 0 192 h69) fun a70 h71 =>
  (pQ 15 h71 a0 43 (some a70)).bind fun h72 =>
  b2 (nwA 0 5 h72) fun a73 h74 =>
  (pQ 15 h74 a0 44 (some a73)).bind fun h75 =>
  b2 (nwA 0 400 h75) fun a76 h77 =>
  (pQ 15 h77 a0 45 (some a76)).bind fun h78 =>
  b2 (nwA 4 40 h78) fun a79 h80 =>
  (pQ 15 h80 a0 46 (some a79)).bind fun h81 =>
  b2 (nwA 0 192 h81) fun a82 h83 =>
  (pQ 15 h83 a0 51 (some a82)).bind fun h84 =>
  b2 (nwA 0 10 h84) fun a85 h86 =>
  (pQ 15 h86 a0 60 (some a85)).bind fun h87 =>
  b2 (nwA 0 10 h87) fun a88 h89 =>
  (pQ 15 h89 a0 61 (some a88)).bind fun h90 =>
  b2 (nwA 0 160 h90) fun a91 h92 =>
  (pQ 15 h92 a0 62 (some a91)).bind fun h93 =>
  b2 (nwA 0 300 h93) fun a94 h95 =>
  (pQ 15 h95 a0 63 (some a94)).bind fun h96 =>
  b2 (nwA 0 300 h96) fun a97 h98 =>
  (pQ 15 h98 a0 64 (some a97)).bind fun h99 =>
  b2 (nwA 0 300 h99) fun a100 h101 =>
  (pQ 15 h101 a0 65 (some a100)).bind fun h102 =>
  b2 (nwA 0 300 h102) fun a103 h104 =>
  (pQ 15 h104 a0 66 (some a103)).bind fun h105 =>
  b2 (nwA 0 6 h105) fun a106 h107 =>
  (pQ 15 h107 a0 67 (some a106)).bind fun h108 =>
  b2 (nwA 0 6 h108) fun a109 h110 =>
  (pQ 15 h110 a0 68 (some a109)).bind fun h111 =>
  b2 (nwA 0 6 h111) fun a112 h113 =>
  (pQ 15 h113 a0 69 (some a112)).bind fun h114 =>
  b2 (nwA 0 16 h114) fun a115 h116 =>
  (pQ 15 h116 a0 70 (some a115)).bind fun h117 =>
  b2 (nwA 0 10 h117) fun a118 h119 =>
  (pQ 15 h119 a0 71 (some a118)).bind fun h120 =>
  (pI 15 h120 a0 78 2).bind fun h121 =>
  b2 (nwA 0 40 h121) fun a122 h123 =>
  (pQ 15 h123 a0 79 (some a122)).bind fun h124 =>
  b2 (nwA 0 40 h124) fun a125 h126 =>
  (pQ 15 h126 a0 80 (some a125)).bind fun h127 =>
  b2 (nwA 0 40 h127) fun a128 h129 =>
  (pQ 15 h129 a0 81 (some a128)).bind fun h130 =>
  b2 (nwA 0 40 h130) fun a131 h132 =>
  (pQ 15 h132 a0 82 (some a131)).bind fun h133 =>
  b2 (nwA 0 40 h133) fun a134 h135 =>
  (pQ 15 h135 a0 83 (some a134)).bind fun h136 =>
  b2 (nwA 0 40 h136) fun a137 h138 =>
  (pQ 15 h138 a0 84 (some a137)).bind fun h139 =>
  b2 (nwA 0 40 h139) fun a140 h141 =>
  (pQ 15 h141 a0 85 (some a140)).bind fun h142 =>
  b2 (nwA 0 40 h142) fun a143 h144 =>
  (pQ 15 h144 a0 86 (some a143)).bind fun h145 =>
  b2 (nwA 0 40 h145) fun a146 h147 =>
  (pQ 15 h147 a0 87 (some a146)).bind fun h148 =>
  b2 (nwA 0 7680 h148) fun a149 h150 =>
  (pQ 15 h150 a0 88 (some a149)).bind fun h151 =>
  b2 (nwA 0 3650 h151) fun a152 h153 =>
  (pQ 15 h153 a0 89 (some a152)).bind fun h154 =>
  b2 (nwA 0 3650 h154) fun a155 h156 =>
  (pQ 15 h156 a0 90 (some a155)).bind fun h157 =>
  b2 (nwA 0 60 h157) fun a158 h159 =>
  (pQ 15 h159 a0 91 (some a158)).bind fun h160 =>
  b2 (nwA 0 60 h160) fun a161 h162 =>
  (pQ 15 h162 a0 92 (some a161)).bind fun h163 =>
  b2 (nwA 0 40 h163) fun a164 h165 =>
  (pQ 15 h165 a0 93 (some a164)).bind fun h166 =>
  b2 (nwA 0 40 h166) fun a167 h168 =>
  (pQ 15 h168 a0 94 (some a167)).bind fun h169 =>
  b2 (nwA 0 100 h169) fun a170 h171 =>
  (pQ 15 h171 a0 96 (some a170)).bind fun h172 =>
  b2 (nwA 0 100 h172) fun a173 h174 =>
  (pQ 15 h174 a0 97 (some a173)).bind fun h175 =>
  b2 (nwA 0 100 h175) fun a176 h177 =>
  (pQ 15 h177 a0 98 (some a176)).bind fun h178 =>
  b2 (nwA 0 9 h178) fun a179 h180 =>
  (pQ 15 h180 a0 99 (some a179)).bind fun h181 =>
  b2 (nwA 0 4608 h181) fun a182 h183 =>
  (pQ 15 h183 a0 100 (some a182)).bind fun h184 =>
  (pI 15 h184 a0 102 (-1)).bind fun h185 =>
  b2 (nwA 8 8 h185) fun a186 h187 =>
  (pQ 15 h187 a0 104 (some a186)).bind fun h188 =>
  b2 (nwO 13 3 dX13 h188) fun a189 h190 =>
  (f_X13_init a189 h190).bind fun h191 =>
  (pQ 15 h191 a0 105 (some a189)).bind fun h192 =>
  f_X15_init_546 z FU a0 0 h192
set_option maxRecDepth 100000 in
set_option maxHeartbeats 4000000 in
theorem w_X15_init {l : Launch} {G : GX} {a0 : Nat} {h : AH} {hr : AH} (hf : f_X15_init G.2.2 a0 h = some hr) : Ct l G yX15_init 5 112 [.ref a0] h (QV hr) := by
  unfold f_X15_init at hf
  refine Ct_of (own := RX15) (cc := cX15_init) (nL := 2) (ret := none) rfl rfl k_1635 (Nat.le_of_ble_eq_true rfl) (fun X C2 C => ?_)
  show V X G h (QV hr) 0 [(0, .ref a0)] [] h
  refine C.seg (pe := 1) (lv' := [(0, .ref a0)]) (st' := [.ref a0]) [(.aload_n 0, 1, 0)] (by decide +kernel) rfl ?_
  refine C.objInit k_1636 k_151 k_152 (by omega) (by omega) (Nat.le_of_ble_eq_true rfl) (by decide +kernel) rfl ?_
  refine C.seg (pe := 6) (lv' := [(0, .ref a0)]) (st' := [.int (-1), .ref a0]) [(.aload_n 0, 1, 0), (.iconst (-1), 1, (-1))] (by decide +kernel) rfl ?_
  obtain ⟨h1, gh1, hf⟩ := Option.bind_eq_some_iff.mp hf
  refine C.putI fl_1788 gh1 (by decide +kernel) rfl ?_
  refine C.seg (pe := 12) (lv' := [(0, .ref a0)]) (st' := [.int 16, .ref a0]) [(.aload_n 0, 1, 0), (.bipush 16, 2, 16)] (by decide +kernel) rfl ?_
  obtain ⟨a2, h3, ga2, hf⟩ := b2_some hf
  refine C.newa0 k_180 ga2 (by decide +kernel) rfl ?_
  obtain ⟨h4, gh4, hf⟩ := Option.bind_eq_some_iff.mp hf
  refine C.putFA C2.2.1 fl_1792 (Or.inr ⟨_, rfl⟩) gh4 (by decide +kernel) rfl ?_
  refine C.seg (pe := 20) (lv' := [(0, .ref a0)]) (st' := [.int 16, .ref a0]) [(.aload_n 0, 1, 0), (.bipush 16, 2, 16)] (by decide +kernel) rfl ?_
  obtain ⟨a5, h6, ga5, hf⟩ := b2_some hf
  refine C.newa0 k_180 ga5 (by decide +kernel) rfl ?_
  obtain ⟨h7, gh7, hf⟩ := Option.bind_eq_some_iff.mp hf
  refine C.putFA C2.2.1 fl_1793 (Or.inr ⟨_, rfl⟩) gh7 (by decide +kernel) rfl ?_
  refine C.seg (pe := 28) (lv' := [(0, .ref a0)]) (st' := [.int 16, .ref a0]) [(.aload_n 0, 1, 0), (.bipush 16, 2, 16)] (by decide +kernel) rfl ?_
  obtain ⟨a8, h9, ga8, hf⟩ := b2_some hf
  refine C.newa0 k_180 ga8 (by decide +kernel) rfl ?_
  obtain ⟨h10, gh10, hf⟩ := Option.bind_eq_some_iff.mp hf
  refine C.putFA C2.2.1 fl_1794 (Or.inr ⟨_, rfl⟩) gh10 (by decide +kernel) rfl ?_
  refine C.seg (pe := 36) (lv' := [(0, .ref a0)]) (st' := [.int 16, .ref a0]) [(.aload_n 0, 1, 0), (.bipush 16, 2, 16)] (by decide +kernel) rfl ?_
  obtain ⟨a11, h12, ga11, hf⟩ := b2_some hf
  refine C.newa0 k_180 ga11 (by decide +kernel) rfl ?_
  obtain ⟨h13, gh13, hf⟩ := Option.bind_eq_some_iff.mp hf
  refine C.putFA C2.2.1 fl_1795 (Or.inr ⟨_, rfl⟩) gh13 (by decide +kernel) rfl ?_
  refine C.seg (pe := 44) (lv' := [(0, .ref a0)]) (st' := [.int 16, .ref a0]) [(.aload_n 0, 1, 0), (.bipush 16, 2, 16)] (by decide +kernel) rfl ?_
  obtain ⟨a14, h15, ga14, hf⟩ := b2_some hf
  refine C.newa0 k_180 ga14 (by decide +kernel) rfl ?_
  obtain ⟨h16, gh16, hf⟩ := Option.bind_eq_some_iff.mp hf
  refine C.putFA C2.2.1 fl_1796 (Or.inr ⟨_, rfl⟩) gh16 (by decide +kernel) rfl ?_
  refine C.seg (pe := 52) (lv' := [(0, .ref a0)]) (st' := [.int 16, .ref a0]) [(.aload_n 0, 1, 0), (.bipush 16, 2, 16)] (by decide +kernel) rfl ?_
  obtain ⟨a17, h18, ga17, hf⟩ := b2_some hf
  refine C.newa0 k_180 ga17 (by decide +kernel) rfl ?_
  obtain ⟨h19, gh19, hf⟩ := Option.bind_eq_some_iff.mp hf
  refine C.putFA C2.2.1 fl_1797 (Or.inr ⟨_, rfl⟩) gh19 (by decide +kernel) rfl ?_
  refine C.seg (pe := 60) (lv' := [(0, .ref a0)]) (st' := [.int 16, .ref a0]) [(.aload_n 0, 1, 0), (.bipush 16, 2, 16)] (by decide +kernel) rfl ?_
  obtain ⟨a20, h21, ga20, hf⟩ := b2_some hf
  refine C.newa0 k_180 ga20 (by decide +kernel) rfl ?_
  obtain ⟨h22, gh22, hf⟩ := Option.bind_eq_some_iff.mp hf
  refine C.putFA C2.2.1 fl_1798 (Or.inr ⟨_, rfl⟩) gh22 (by decide +kernel) rfl ?_
  refine C.seg (pe := 68) (lv' := [(0, .ref a0)]) (st' := [.int 16, .ref a0]) [(.aload_n 0, 1, 0), (.bipush 16, 2, 16)] (by decide +kernel) rfl ?_
  obtain ⟨a23, h24, ga23, hf⟩ := b2_some hf
  refine C.newa0 k_180 ga23 (by decide +kernel) rfl ?_
  obtain ⟨h25, gh25, hf⟩ := Option.bind_eq_some_iff.mp hf
  refine C.putFA C2.2.1 fl_1799 (Or.inr ⟨_, rfl⟩) gh25 (by decide +kernel) rfl ?_
  refine C.seg (pe := 76) (lv' := [(0, .ref a0)]) (st' := [.int 16, .ref a0]) [(.aload_n 0, 1, 0), (.bipush 16, 2, 16)] (by decide +kernel) rfl ?_
  obtain ⟨a26, h27, ga26, hf⟩ := b2_some hf
  refine C.newa0 k_180 ga26 (by decide +kernel) rfl ?_
  obtain ⟨h28, gh28, hf⟩ := Option.bind_eq_some_iff.mp hf
  refine C.putFA C2.2.1 fl_1800 (Or.inr ⟨_, rfl⟩) gh28 (by decide +kernel) rfl ?_
  refine C.seg (pe := 84) (lv' := [(0, .ref a0)]) (st' := [.int 16, .ref a0]) [(.aload_n 0, 1, 0), (.bipush 16, 2, 16)] (by decide +kernel) rfl ?_
  obtain ⟨a29, h30, ga29, hf⟩ := b2_some hf
  refine C.newa0 k_180 ga29 (by decide +kernel) rfl ?_
  obtain ⟨h31, gh31, hf⟩ := Option.bind_eq_some_iff.mp hf
  refine C.putFA C2.2.1 fl_1801 (Or.inr ⟨_, rfl⟩) gh31 (by decide +kernel) rfl ?_
  refine C.seg (pe := 92) (lv' := [(0, .ref a0)]) (st' := [.int 16, .ref a0]) [(.aload_n 0, 1, 0), (.bipush 16, 2, 16)] (by decide +kernel) rfl ?_
  obtain ⟨a32, h33, ga32, hf⟩ := b2_some hf
  refine C.newa2 k_559 ga32 (by decide +kernel) rfl ?_
  obtain ⟨h34, gh34, hf⟩ := Option.bind_eq_some_iff.mp hf
  refine C.putFA C2.2.1 fl_1802 (Or.inr ⟨_, rfl⟩) gh34 (by decide +kernel) rfl ?_
  refine C.seg (pe := 101) (lv' := [(0, .ref a0)]) (st' := [.int 3072, .ref a0]) [(.aload_n 0, 1, 0), (.sipush 3072, 3, 3072)] (by decide +kernel) rfl ?_
  obtain ⟨a35, h36, ga35, hf⟩ := b2_some hf
  refine C.newa2 k_559 ga35 (by decide +kernel) rfl ?_
  obtain ⟨h37, gh37, hf⟩ := Option.bind_eq_some_iff.mp hf
  refine C.putFA C2.2.1 fl_1803 (Or.inr ⟨_, rfl⟩) gh37 (by decide +kernel) rfl ?_
  refine C.seg (pe := 110) (lv' := [(0, .ref a0)]) (st' := [.int 256, .ref a0]) [(.aload_n 0, 1, 0), (.sipush 256, 3, 256)] (by decide +kernel) rfl ?_
  obtain ⟨a38, h39, ga38, hf⟩ := b2_some hf
  refine C.newa2 k_559 ga38 (by decide +kernel) rfl ?_
  obtain ⟨h40, gh40, hf⟩ := Option.bind_eq_some_iff.mp hf
  refine C.putFA C2.2.1 fl_1804 (Or.inr ⟨_, rfl⟩) gh40 (by decide +kernel) rfl ?_
  refine C.seg (pe := 119) (lv' := [(0, .ref a0)]) (st' := [.int 3072, .ref a0]) [(.aload_n 0, 1, 0), (.sipush 3072, 3, 3072)] (by decide +kernel) rfl ?_
  obtain ⟨a41, h42, ga41, hf⟩ := b2_some hf
  refine C.newa0 k_180 ga41 (by decide +kernel) rfl ?_
  obtain ⟨h43, gh43, hf⟩ := Option.bind_eq_some_iff.mp hf
  refine C.putFA C2.2.1 fl_1805 (Or.inr ⟨_, rfl⟩) gh43 (by decide +kernel) rfl ?_
  refine C.seg (pe := 128) (lv' := [(0, .ref a0)]) (st' := [.int 3072, .ref a0]) [(.aload_n 0, 1, 0), (.sipush 3072, 3, 3072)] (by decide +kernel) rfl ?_
  obtain ⟨a44, h45, ga44, hf⟩ := b2_some hf
  refine C.newa0 k_180 ga44 (by decide +kernel) rfl ?_
  obtain ⟨h46, gh46, hf⟩ := Option.bind_eq_some_iff.mp hf
  refine C.putFA C2.2.1 fl_1806 (Or.inr ⟨_, rfl⟩) gh46 (by decide +kernel) rfl ?_
  refine C.seg (pe := 137) (lv' := [(0, .ref a0)]) (st' := [.int 3072, .ref a0]) [(.aload_n 0, 1, 0), (.sipush 3072, 3, 3072)] (by decide +kernel) rfl ?_
  obtain ⟨a47, h48, ga47, hf⟩ := b2_some hf
  refine C.newa0 k_180 ga47 (by decide +kernel) rfl ?_
  obtain ⟨h49, gh49, hf⟩ := Option.bind_eq_some_iff.mp hf
  refine C.putFA C2.2.1 fl_1807 (Or.inr ⟨_, rfl⟩) gh49 (by decide +kernel) rfl ?_
  refine C.seg (pe := 146) (lv' := [(0, .ref a0)]) (st' := [.int 256, .ref a0]) [(.aload_n 0, 1, 0), (.sipush 256, 3, 256)] (by decide +kernel) rfl ?_
  obtain ⟨a50, h51, ga50, hf⟩ := b2_some hf
  refine C.newa0 k_180 ga50 (by decide +kernel) rfl ?_
  obtain ⟨h52, gh52, hf⟩ := Option.bind_eq_some_iff.mp hf
  refine C.putFA C2.2.1 fl_1808 (Or.inr ⟨_, rfl⟩) gh52 (by decide +kernel) rfl ?_
  refine C.seg (pe := 152) (lv' := [(0, .ref a0)]) (st' := [.ref a0]) [(.aload_n 0, 1, 0)] (by decide +kernel) rfl ?_
  obtain ⟨a53, h54, ga53, hf⟩ := b2_some hf
  refine C.newo cl_14 k_1637 ga53 (by decide +kernel) rfl ?_
  refine C.seg (pe := 156) (lv' := [(0, .ref a0)]) (st' := [.ref a53, .ref a53, .ref a0]) [(.dup, 1, 0)] (by decide +kernel) rfl ?_
  obtain ⟨h55, gh55, hf⟩ := Option.bind_eq_some_iff.mp hf
  refine C.callIr C2 [] [.ref a53, .ref a0] mi_1676 rfl (w_X14_init gh55) (by omega) (by omega) (Nat.le_of_ble_eq_true rfl) (by decide +kernel) rfl ?_
  obtain ⟨h56, gh56, hf⟩ := Option.bind_eq_some_iff.mp hf
  refine C.putFA C2.2.1 fl_1809 (Or.inl ⟨_, rfl⟩) gh56 (by decide +kernel) rfl ?_
  refine C.seg (pe := 166) (lv' := [(0, .ref a0)]) (st' := [.int 400, .ref a0]) [(.aload_n 0, 1, 0), (.sipush 400, 3, 400)] (by decide +kernel) rfl ?_
  obtain ⟨a57, h58, ga57, hf⟩ := b2_some hf
  refine C.newa1 k_400 ga57 (by decide +kernel) rfl ?_
  obtain ⟨h59, gh59, hf⟩ := Option.bind_eq_some_iff.mp hf
  refine C.putFA C2.2.1 fl_1810 (Or.inr ⟨_, rfl⟩) gh59 (by decide +kernel) rfl ?_
  refine C.seg (pe := 174) (lv' := [(0, .ref a0)]) (st' := [.int 12, .ref a0]) [(.aload_n 0, 1, 0), (.bipush 12, 2, 12)] (by decide +kernel) rfl ?_
  obtain ⟨a60, h61, ga60, hf⟩ := b2_some hf
  refine C.anew 7 k_1707 rfl (by decide) (by decide) (fun _ K => K.2.2.2.1.2.2.1) ga60 (by decide +kernel) rfl ?_
  obtain ⟨h62, gh62, hf⟩ := Option.bind_eq_some_iff.mp hf
  refine C.putFA C2.2.1 fl_1825 (Or.inr ⟨_, rfl⟩) gh62 (by decide +kernel) rfl ?_
  refine C.seg (pe := 181) (lv' := [(0, .ref a0)]) (st' := [.ref a0]) [(.aload_n 0, 1, 0)] (by decide +kernel) rfl ?_
  obtain ⟨a63, h64, ga63, hf⟩ := b2_some hf
  refine C.newo cl_12 k_1707 ga63 (by decide +kernel) rfl ?_
  refine C.seg (pe := 185) (lv' := [(0, .ref a0)]) (st' := [.ref a63, .ref a63, .ref a0]) [(.dup, 1, 0)] (by decide +kernel) rfl ?_
  obtain ⟨h65, gh65, hf⟩ := Option.bind_eq_some_iff.mp hf
  refine C.callIr C2 [] [.ref a63, .ref a0] mi_1710 rfl (w_X12_init gh65) (by omega) (by omega) (Nat.le_of_ble_eq_true rfl) (by decide +kernel) rfl ?_
  obtain ⟨h66, gh66, hf⟩ := Option.bind_eq_some_iff.mp hf
  refine C.putA fl_1826 (Or.inl ⟨_, rfl⟩) gh66 (by decide +kernel) rfl ?_
  refine C.seg (pe := 194) (lv' := [(0, .ref a0)]) (st' := [.int 12, .ref a0]) [(.aload_n 0, 1, 0), (.bipush 12, 2, 12)] (by decide +kernel) rfl ?_
  obtain ⟨a67, h68, ga67, hf⟩ := b2_some hf
  refine C.newa4 k_401 ga67 (by decide +kernel) rfl ?_
  obtain ⟨h69, gh69, hf⟩ := Option.bind_eq_some_iff.mp hf
  refine C.putFA C2.2.1 fl_1828 (Or.inr ⟨_, rfl⟩) gh69 (by decide +kernel) rfl ?_
  refine C.seg (pe := 203) (lv' := [(0, .ref a0)]) (st' := [.int 192, .ref a0]) [(.aload_n 0, 1, 0), (.sipush 192, 3, 192)] (by decide +kernel) rfl ?_
  obtain ⟨a70, h71, ga70, hf⟩ := b2_some hf
  refine C.newa0 k_180 ga70 (by decide +kernel) rfl ?_
  obtain ⟨h72, gh72, hf⟩ := Option.bind_eq_some_iff.mp hf
  refine C.putFA C2.2.1 fl_1829 (Or.inr ⟨_, rfl⟩) gh72 (by decide +kernel) rfl ?_
  refine C.seg (pe := 210) (lv' := [(0, .ref a0)]) (st' := [.int 5, .ref a0]) [(.aload_n 0, 1, 0), (.iconst 5, 1, 5)] (by decide +kernel) rfl ?_
  obtain ⟨a73, h74, ga73, hf⟩ := b2_some hf
  refine C.newa0 k_180 ga73 (by decide +kernel) rfl ?_
  obtain ⟨h75, gh75, hf⟩ := Option.bind_eq_some_iff.mp hf
  refine C.putFA C2.2.1 fl_1830 (Or.inr ⟨_, rfl⟩) gh75 (by decide +kernel) rfl ?_
  refine C.seg (pe := 219) (lv' := [(0, .ref a0)]) (st' := [.int 400, .ref a0]) [(.aload_n 0, 1, 0), (.sipush 400, 3, 400)] (by decide +kernel) rfl ?_
  obtain ⟨a76, h77, ga76, hf⟩ := b2_some hf
  refine C.newa0 k_180 ga76 (by decide +kernel) rfl ?_
  obtain ⟨h78, gh78, hf⟩ := Option.bind_eq_some_iff.mp hf
  refine C.putFA C2.2.1 fl_1831 (Or.inr ⟨_, rfl⟩) gh78 (by decide +kernel) rfl ?_
  refine C.seg (pe := 227) (lv' := [(0, .ref a0)]) (st' := [.int 40, .ref a0]) [(.aload_n 0, 1, 0), (.bipush 40, 2, 40)] (by decide +kernel) rfl ?_
  obtain ⟨a79, h80, ga79, hf⟩ := b2_some hf
  refine C.newa4 k_401 ga79 (by decide +kernel) rfl ?_
  obtain ⟨h81, gh81, hf⟩ := Option.bind_eq_some_iff.mp hf
  refine C.putFA C2.2.1 fl_1832 (Or.inr ⟨_, rfl⟩) gh81 (by decide +kernel) rfl ?_
  refine C.seg (pe := 236) (lv' := [(0, .ref a0)]) (st' := [.int 192, .ref a0]) [(.aload_n 0, 1, 0), (.sipush 192, 3, 192)] (by decide +kernel) rfl ?_
  obtain ⟨a82, h83, ga82, hf⟩ := b2_some hf
  refine C.newa0 k_180 ga82 (by decide +kernel) rfl ?_
  obtain ⟨h84, gh84, hf⟩ := Option.bind_eq_some_iff.mp hf
  refine C.putFA C2.2.1 fl_1837 (Or.inr ⟨_, rfl⟩) gh84 (by decide +kernel) rfl ?_
  refine C.seg (pe := 244) (lv' := [(0, .ref a0)]) (st' := [.int 10, .ref a0]) [(.aload_n 0, 1, 0), (.bipush 10, 2, 10)] (by decide +kernel) rfl ?_
  obtain ⟨a85, h86, ga85, hf⟩ := b2_some hf
  refine C.newa0 k_180 ga85 (by decide +kernel) rfl ?_
  obtain ⟨h87, gh87, hf⟩ := Option.bind_eq_some_iff.mp hf
  refine C.putFA C2.2.1 fl_1846 (Or.inr ⟨_, rfl⟩) gh87 (by decide +kernel) rfl ?_
  refine C.seg (pe := 252) (lv' := [(0, .ref a0)]) (st' := [.int 10, .ref a0]) [(.aload_n 0, 1, 0), (.bipush 10, 2, 10)] (by decide +kernel) rfl ?_
  obtain ⟨a88, h89, ga88, hf⟩ := b2_some hf
  refine C.newa0 k_180 ga88 (by decide +kernel) rfl ?_
  obtain ⟨h90, gh90, hf⟩ := Option.bind_eq_some_iff.mp hf
  refine C.putFA C2.2.1 fl_1847 (Or.inr ⟨_, rfl⟩) gh90 (by decide +kernel) rfl ?_
  refine C.seg (pe := 261) (lv' := [(0, .ref a0)]) (st' := [.int 160, .ref a0]) [(.aload_n 0, 1, 0), (.sipush 160, 3, 160)] (by decide +kernel) rfl ?_
  obtain ⟨a91, h92, ga91, hf⟩ := b2_some hf
  refine C.newa0 k_180 ga91 (by decide +kernel) rfl ?_
  obtain ⟨h93, gh93, hf⟩ := Option.bind_eq_some_iff.mp hf
  refine C.putFA C2.2.1 fl_1848 (Or.inr ⟨_, rfl⟩) gh93 (by decide +kernel) rfl ?_
  refine C.seg (pe := 270) (lv' := [(0, .ref a0)]) (st' := [.int 300, .ref a0]) [(.aload_n 0, 1, 0), (.sipush 300, 3, 300)] (by decide +kernel) rfl ?_
  obtain ⟨a94, h95, ga94, hf⟩ := b2_some hf
  refine C.newa0 k_180 ga94 (by decide +kernel) rfl ?_
  obtain ⟨h96, gh96, hf⟩ := Option.bind_eq_some_iff.mp hf
  refine C.putFA C2.2.1 fl_1849 (Or.inr ⟨_, rfl⟩) gh96 (by decide +kernel) rfl ?_
  refine C.seg (pe := 279) (lv' := [(0, .ref a0)]) (st' := [.int 300, .ref a0]) [(.aload_n 0, 1, 0), (.sipush 300, 3, 300)] (by decide +kernel) rfl ?_
  obtain ⟨a97, h98, ga97, hf⟩ := b2_some hf
  refine C.newa0 k_180 ga97 (by decide +kernel) rfl ?_
  obtain ⟨h99, gh99, hf⟩ := Option.bind_eq_some_iff.mp hf
  refine C.putFA C2.2.1 fl_1850 (Or.inr ⟨_, rfl⟩) gh99 (by decide +kernel) rfl ?_
  refine C.seg (pe := 288) (lv' := [(0, .ref a0)]) (st' := [.int 300, .ref a0]) [(.aload_n 0, 1, 0), (.sipush 300, 3, 300)] (by decide +kernel) rfl ?_
  obtain ⟨a100, h101, ga100, hf⟩ := b2_some hf
  refine C.newa0 k_180 ga100 (by decide +kernel) rfl ?_
  obtain ⟨h102, gh102, hf⟩ := Option.bind_eq_some_iff.mp hf
  refine C.putFA C2.2.1 fl_1851 (Or.inr ⟨_, rfl⟩) gh102 (by decide +kernel) rfl ?_
  refine C.seg (pe := 297) (lv' := [(0, .ref a0)]) (st' := [.int 300, .ref a0]) [(.aload_n 0, 1, 0), (.sipush 300, 3, 300)] (by decide +kernel) rfl ?_
  obtain ⟨a103, h104, ga103, hf⟩ := b2_some hf
  refine C.newa0 k_180 ga103 (by decide +kernel) rfl ?_
  obtain ⟨h105, gh105, hf⟩ := Option.bind_eq_some_iff.mp hf
  refine C.putFA C2.2.1 fl_1852 (Or.inr ⟨_, rfl⟩) gh105 (by decide +kernel) rfl ?_
  refine C.seg (pe := 305) (lv' := [(0, .ref a0)]) (st' := [.int 6, .ref a0]) [(.aload_n 0, 1, 0), (.bipush 6, 2, 6)] (by decide +kernel) rfl ?_
  obtain ⟨a106, h107, ga106, hf⟩ := b2_some hf
  refine C.newa0 k_180 ga106 (by decide +kernel) rfl ?_
  obtain ⟨h108, gh108, hf⟩ := Option.bind_eq_some_iff.mp hf
  refine C.putFA C2.2.1 fl_1853 (Or.inr ⟨_, rfl⟩) gh108 (by decide +kernel) rfl ?_
  refine C.seg (pe := 313) (lv' := [(0, .ref a0)]) (st' := [.int 6, .ref a0]) [(.aload_n 0, 1, 0), (.bipush 6, 2, 6)] (by decide +kernel) rfl ?_
  obtain ⟨a109, h110, ga109, hf⟩ := b2_some hf
  refine C.newa0 k_180 ga109 (by decide +kernel) rfl ?_
  obtain ⟨h111, gh111, hf⟩ := Option.bind_eq_some_iff.mp hf
  refine C.putFA C2.2.1 fl_1854 (Or.inr ⟨_, rfl⟩) gh111 (by decide +kernel) rfl ?_
  refine C.seg (pe := 321) (lv' := [(0, .ref a0)]) (st' := [.int 6, .ref a0]) [(.aload_n 0, 1, 0), (.bipush 6, 2, 6)] (by decide +kernel) rfl ?_
  obtain ⟨a112, h113, ga112, hf⟩ := b2_some hf
  refine C.newa0 k_180 ga112 (by decide +kernel) rfl ?_
  obtain ⟨h114, gh114, hf⟩ := Option.bind_eq_some_iff.mp hf
  refine C.putFA C2.2.1 fl_1855 (Or.inr ⟨_, rfl⟩) gh114 (by decide +kernel) rfl ?_
  refine C.seg (pe := 329) (lv' := [(0, .ref a0)]) (st' := [.int 16, .ref a0]) [(.aload_n 0, 1, 0), (.bipush 16, 2, 16)] (by decide +kernel) rfl ?_
  obtain ⟨a115, h116, ga115, hf⟩ := b2_some hf
  refine C.newa0 k_180 ga115 (by decide +kernel) rfl ?_
  obtain ⟨h117, gh117, hf⟩ := Option.bind_eq_some_iff.mp hf
  refine C.putFA C2.2.1 fl_1856 (Or.inr ⟨_, rfl⟩) gh117 (by decide +kernel) rfl ?_
  refine C.seg (pe := 337) (lv' := [(0, .ref a0)]) (st' := [.int 10, .ref a0]) [(.aload_n 0, 1, 0), (.bipush 10, 2, 10)] (by decide +kernel) rfl ?_
  obtain ⟨a118, h119, ga118, hf⟩ := b2_some hf
  refine C.newa0 k_180 ga118 (by decide +kernel) rfl ?_
  obtain ⟨h120, gh120, hf⟩ := Option.bind_eq_some_iff.mp hf
  refine C.putFA C2.2.1 fl_1857 (Or.inr ⟨_, rfl⟩) gh120 (by decide +kernel) rfl ?_
  refine C.seg (pe := 344) (lv' := [(0, .ref a0)]) (st' := [.int 2, .ref a0]) [(.aload_n 0, 1, 0), (.iconst 2, 1, 2)] (by decide +kernel) rfl ?_
  obtain ⟨h121, gh121, hf⟩ := Option.bind_eq_some_iff.mp hf
  refine C.putI fl_1864 gh121 (by decide +kernel) rfl ?_
  refine C.seg (pe := 350) (lv' := [(0, .ref a0)]) (st' := [.int 40, .ref a0]) [(.aload_n 0, 1, 0), (.bipush 40, 2, 40)] (by decide +kernel) rfl ?_
  obtain ⟨a122, h123, ga122, hf⟩ := b2_some hf
  refine C.newa0 k_180 ga122 (by decide +kernel) rfl ?_
  obtain ⟨h124, gh124, hf⟩ := Option.bind_eq_some_iff.mp hf
  refine C.putFA C2.2.1 fl_1865 (Or.inr ⟨_, rfl⟩) gh124 (by decide +kernel) rfl ?_
  refine C.seg (pe := 358) (lv' := [(0, .ref a0)]) (st' := [.int 40, .ref a0]) [(.aload_n 0, 1, 0), (.bipush 40, 2, 40)] (by decide +kernel) rfl ?_
  obtain ⟨a125, h126, ga125, hf⟩ := b2_some hf
  refine C.newa0 k_180 ga125 (by decide +kernel) rfl ?_
  obtain ⟨h127, gh127, hf⟩ := Option.bind_eq_some_iff.mp hf
  refine C.putFA C2.2.1 fl_1866 (Or.inr ⟨_, rfl⟩) gh127 (by decide +kernel) rfl ?_
  refine C.seg (pe := 366) (lv' := [(0, .ref a0)]) (st' := [.int 40, .ref a0]) [(.aload_n 0, 1, 0), (.bipush 40, 2, 40)] (by decide +kernel) rfl ?_
  obtain ⟨a128, h129, ga128, hf⟩ := b2_some hf
  refine C.newa0 k_180 ga128 (by decide +kernel) rfl ?_
  obtain ⟨h130, gh130, hf⟩ := Option.bind_eq_some_iff.mp hf
  refine C.putFA C2.2.1 fl_1867 (Or.inr ⟨_, rfl⟩) gh130 (by decide +kernel) rfl ?_
  refine C.seg (pe := 374) (lv' := [(0, .ref a0)]) (st' := [.int 40, .ref a0]) [(.aload_n 0, 1, 0), (.bipush 40, 2, 40)] (by decide +kernel) rfl ?_
  obtain ⟨a131, h132, ga131, hf⟩ := b2_some hf
  refine C.newa0 k_180 ga131 (by decide +kernel) rfl ?_
  obtain ⟨h133, gh133, hf⟩ := Option.bind_eq_some_iff.mp hf
  refine C.putFA C2.2.1 fl_1868 (Or.inr ⟨_, rfl⟩) gh133 (by decide +kernel) rfl ?_
  refine C.seg (pe := 382) (lv' := [(0, .ref a0)]) (st' := [.int 40, .ref a0]) [(.aload_n 0, 1, 0), (.bipush 40, 2, 40)] (by decide +kernel) rfl ?_
  obtain ⟨a134, h135, ga134, hf⟩ := b2_some hf
  refine C.newa0 k_180 ga134 (by decide +kernel) rfl ?_
  obtain ⟨h136, gh136, hf⟩ := Option.bind_eq_some_iff.mp hf
  refine C.putFA C2.2.1 fl_1869 (Or.inr ⟨_, rfl⟩) gh136 (by decide +kernel) rfl ?_
  refine C.seg (pe := 390) (lv' := [(0, .ref a0)]) (st' := [.int 40, .ref a0]) [(.aload_n 0, 1, 0), (.bipush 40, 2, 40)] (by decide +kernel) rfl ?_
  obtain ⟨a137, h138, ga137, hf⟩ := b2_some hf
  refine C.newa0 k_180 ga137 (by decide +kernel) rfl ?_
  obtain ⟨h139, gh139, hf⟩ := Option.bind_eq_some_iff.mp hf
  refine C.putFA C2.2.1 fl_1870 (Or.inr ⟨_, rfl⟩) gh139 (by decide +kernel) rfl ?_
  refine C.seg (pe := 398) (lv' := [(0, .ref a0)]) (st' := [.int 40, .ref a0]) [(.aload_n 0, 1, 0), (.bipush 40, 2, 40)] (by decide +kernel) rfl ?_
  obtain ⟨a140, h141, ga140, hf⟩ := b2_some hf
  refine C.newa0 k_180 ga140 (by decide +kernel) rfl ?_
  obtain ⟨h142, gh142, hf⟩ := Option.bind_eq_some_iff.mp hf
  refine C.putFA C2.2.1 fl_1871 (Or.inr ⟨_, rfl⟩) gh142 (by decide +kernel) rfl ?_
  refine C.seg (pe := 406) (lv' := [(0, .ref a0)]) (st' := [.int 40, .ref a0]) [(.aload_n 0, 1, 0), (.bipush 40, 2, 40)] (by decide +kernel) rfl ?_
  obtain ⟨a143, h144, ga143, hf⟩ := b2_some hf
  refine C.newa0 k_180 ga143 (by decide +kernel) rfl ?_
  obtain ⟨h145, gh145, hf⟩ := Option.bind_eq_some_iff.mp hf
  refine C.putFA C2.2.1 fl_1872 (Or.inr ⟨_, rfl⟩) gh145 (by decide +kernel) rfl ?_
  refine C.seg (pe := 414) (lv' := [(0, .ref a0)]) (st' := [.int 40, .ref a0]) [(.aload_n 0, 1, 0), (.bipush 40, 2, 40)] (by decide +kernel) rfl ?_
  obtain ⟨a146, h147, ga146, hf⟩ := b2_some hf
  refine C.newa0 k_180 ga146 (by decide +kernel) rfl ?_
  obtain ⟨h148, gh148, hf⟩ := Option.bind_eq_some_iff.mp hf
  refine C.putFA C2.2.1 fl_1873 (Or.inr ⟨_, rfl⟩) gh148 (by decide +kernel) rfl ?_
  refine C.seg (pe := 423) (lv' := [(0, .ref a0)]) (st' := [.int 7680, .ref a0]) [(.aload_n 0, 1, 0), (.sipush 7680, 3, 7680)] (by decide +kernel) rfl ?_
  obtain ⟨a149, h150, ga149, hf⟩ := b2_some hf
  refine C.newa0 k_180 ga149 (by decide +kernel) rfl ?_
  obtain ⟨h151, gh151, hf⟩ := Option.bind_eq_some_iff.mp hf
  refine C.putFA C2.2.1 fl_1874 (Or.inr ⟨_, rfl⟩) gh151 (by decide +kernel) rfl ?_
  refine C.seg (pe := 432) (lv' := [(0, .ref a0)]) (st' := [.int 3650, .ref a0]) [(.aload_n 0, 1, 0), (.sipush 3650, 3, 3650)] (by decide +kernel) rfl ?_
  obtain ⟨a152, h153, ga152, hf⟩ := b2_some hf
  refine C.newa0 k_180 ga152 (by decide +kernel) rfl ?_
  obtain ⟨h154, gh154, hf⟩ := Option.bind_eq_some_iff.mp hf
  refine C.putFA C2.2.1 fl_1875 (Or.inr ⟨_, rfl⟩) gh154 (by decide +kernel) rfl ?_
  refine C.seg (pe := 441) (lv' := [(0, .ref a0)]) (st' := [.int 3650, .ref a0]) [(.aload_n 0, 1, 0), (.sipush 3650, 3, 3650)] (by decide +kernel) rfl ?_
  obtain ⟨a155, h156, ga155, hf⟩ := b2_some hf
  refine C.newa0 k_180 ga155 (by decide +kernel) rfl ?_
  obtain ⟨h157, gh157, hf⟩ := Option.bind_eq_some_iff.mp hf
  refine C.putFA C2.2.1 fl_1876 (Or.inr ⟨_, rfl⟩) gh157 (by decide +kernel) rfl ?_
  refine C.seg (pe := 449) (lv' := [(0, .ref a0)]) (st' := [.int 60, .ref a0]) [(.aload_n 0, 1, 0), (.bipush 60, 2, 60)] (by decide +kernel) rfl ?_
  obtain ⟨a158, h159, ga158, hf⟩ := b2_some hf
  refine C.newa0 k_180 ga158 (by decide +kernel) rfl ?_
  obtain ⟨h160, gh160, hf⟩ := Option.bind_eq_some_iff.mp hf
  refine C.putFA C2.2.1 fl_1877 (Or.inr ⟨_, rfl⟩) gh160 (by decide +kernel) rfl ?_
  refine C.seg (pe := 457) (lv' := [(0, .ref a0)]) (st' := [.int 60, .ref a0]) [(.aload_n 0, 1, 0), (.bipush 60, 2, 60)] (by decide +kernel) rfl ?_
  obtain ⟨a161, h162, ga161, hf⟩ := b2_some hf
  refine C.newa0 k_180 ga161 (by decide +kernel) rfl ?_
  obtain ⟨h163, gh163, hf⟩ := Option.bind_eq_some_iff.mp hf
  refine C.putFA C2.2.1 fl_1878 (Or.inr ⟨_, rfl⟩) gh163 (by decide +kernel) rfl ?_
  refine C.seg (pe := 465) (lv' := [(0, .ref a0)]) (st' := [.int 40, .ref a0]) [(.aload_n 0, 1, 0), (.bipush 40, 2, 40)] (by decide +kernel) rfl ?_
  obtain ⟨a164, h165, ga164, hf⟩ := b2_some hf
  refine C.newa0 k_180 ga164 (by decide +kernel) rfl ?_
  obtain ⟨h166, gh166, hf⟩ := Option.bind_eq_some_iff.mp hf
  refine C.putFA C2.2.1 fl_1879 (Or.inr ⟨_, rfl⟩) gh166 (by decide +kernel) rfl ?_
  refine C.seg (pe := 473) (lv' := [(0, .ref a0)]) (st' := [.int 40, .ref a0]) [(.aload_n 0, 1, 0), (.bipush 40, 2, 40)] (by decide +kernel) rfl ?_
  obtain ⟨a167, h168, ga167, hf⟩ := b2_some hf
  refine C.newa0 k_180 ga167 (by decide +kernel) rfl ?_
  obtain ⟨h169, gh169, hf⟩ := Option.bind_eq_some_iff.mp hf
  refine C.putFA C2.2.1 fl_1880 (Or.inr ⟨_, rfl⟩) gh169 (by decide +kernel) rfl ?_
  refine C.seg (pe := 481) (lv' := [(0, .ref a0)]) (st' := [.int 100, .ref a0]) [(.aload_n 0, 1, 0), (.bipush 100, 2, 100)] (by decide +kernel) rfl ?_
  obtain ⟨a170, h171, ga170, hf⟩ := b2_some hf
  refine C.newa0 k_180 ga170 (by decide +kernel) rfl ?_
  obtain ⟨h172, gh172, hf⟩ := Option.bind_eq_some_iff.mp hf
  refine C.putFA C2.2.1 fl_1882 (Or.inr ⟨_, rfl⟩) gh172 (by decide +kernel) rfl ?_
  refine C.seg (pe := 489) (lv' := [(0, .ref a0)]) (st' := [.int 100, .ref a0]) [(.aload_n 0, 1, 0), (.bipush 100, 2, 100)] (by decide +kernel) rfl ?_
  obtain ⟨a173, h174, ga173, hf⟩ := b2_some hf
  refine C.newa0 k_180 ga173 (by decide +kernel) rfl ?_
  obtain ⟨h175, gh175, hf⟩ := Option.bind_eq_some_iff.mp hf
  refine C.putFA C2.2.1 fl_1883 (Or.inr ⟨_, rfl⟩) gh175 (by decide +kernel) rfl ?_
  refine C.seg (pe := 497) (lv' := [(0, .ref a0)]) (st' := [.int 100, .ref a0]) [(.aload_n 0, 1, 0), (.bipush 100, 2, 100)] (by decide +kernel) rfl ?_
  obtain ⟨a176, h177, ga176, hf⟩ := b2_some hf
  refine C.newa0 k_180 ga176 (by decide +kernel) rfl ?_
  obtain ⟨h178, gh178, hf⟩ := Option.bind_eq_some_iff.mp hf
  refine C.putFA C2.2.1 fl_1884 (Or.inr ⟨_, rfl⟩) gh178 (by decide +kernel) rfl ?_
  refine C.seg (pe := 505) (lv' := [(0, .ref a0)]) (st' := [.int 9, .ref a0]) [(.aload_n 0, 1, 0), (.bipush 9, 2, 9)] (by decide +kernel) rfl ?_
  obtain ⟨a179, h180, ga179, hf⟩ := b2_some hf
  refine C.newa0 k_180 ga179 (by decide +kernel) rfl ?_
  obtain ⟨h181, gh181, hf⟩ := Option.bind_eq_some_iff.mp hf
  refine C.putFA C2.2.1 fl_1885 (Or.inr ⟨_, rfl⟩) gh181 (by decide +kernel) rfl ?_
  refine C.seg (pe := 514) (lv' := [(0, .ref a0)]) (st' := [.int 4608, .ref a0]) [(.aload_n 0, 1, 0), (.sipush 4608, 3, 4608)] (by decide +kernel) rfl ?_
  obtain ⟨a182, h183, ga182, hf⟩ := b2_some hf
  refine C.newa0 k_180 ga182 (by decide +kernel) rfl ?_
  obtain ⟨h184, gh184, hf⟩ := Option.bind_eq_some_iff.mp hf
  refine C.putFA C2.2.1 fl_1886 (Or.inr ⟨_, rfl⟩) gh184 (by decide +kernel) rfl ?_
  refine C.seg (pe := 521) (lv' := [(0, .ref a0)]) (st' := [.int (-1), .ref a0]) [(.aload_n 0, 1, 0), (.iconst (-1), 1, (-1))] (by decide +kernel) rfl ?_
  obtain ⟨h185, gh185, hf⟩ := Option.bind_eq_some_iff.mp hf
  refine C.putI fl_1888 gh185 (by decide +kernel) rfl ?_
  refine C.seg (pe := 527) (lv' := [(0, .ref a0)]) (st' := [.int 8, .ref a0]) [(.aload_n 0, 1, 0), (.bipush 8, 2, 8)] (by decide +kernel) rfl ?_
  obtain ⟨a186, h187, ga186, hf⟩ := b2_some hf
  refine C.anew 8 k_1766 rfl (by decide) (by decide) (fun _ K => K.2.2.2.1.2.2.2.1) ga186 (by decide +kernel) rfl ?_
  obtain ⟨h188, gh188, hf⟩ := Option.bind_eq_some_iff.mp hf
  refine C.putFA C2.2.1 fl_1890 (Or.inr ⟨_, rfl⟩) gh188 (by decide +kernel) rfl ?_
  refine C.seg (pe := 534) (lv' := [(0, .ref a0)]) (st' := [.ref a0]) [(.aload_n 0, 1, 0)] (by decide +kernel) rfl ?_
  obtain ⟨a189, h190, ga189, hf⟩ := b2_some hf
  refine C.newo cl_13 k_1766 ga189 (by decide +kernel) rfl ?_
  refine C.seg (pe := 538) (lv' := [(0, .ref a0)]) (st' := [.ref a189, .ref a189, .ref a0]) [(.dup, 1, 0)] (by decide +kernel) rfl ?_
  obtain ⟨h191, gh191, hf⟩ := Option.bind_eq_some_iff.mp hf
  refine C.callIr C2 [] [.ref a189, .ref a0] mi_1769 rfl (w_X13_init gh191) (by omega) (by omega) (Nat.le_of_ble_eq_true rfl) (by decide +kernel) rfl ?_
  obtain ⟨h192, gh192, hf⟩ := Option.bind_eq_some_iff.mp hf
  refine C.putA fl_1891 (Or.inl ⟨_, rfl⟩) gh192 (by decide +kernel) rfl ?_
  refine C.seg (pe := 546) (lv' := [(1, .int 0), (0, .ref a0)]) (st' := []) [(.iconst 0, 1, 0), (.istore_n 1, 1, 0)] (by decide +kernel) rfl ?_
  refine Vsub [1, 0] rfl ?_
  exact l_X15_init_546 C C2 FU a0 0 h192 hf
/-! WallHouseModel.in(III)Z -/
def f_X15_in_15 (si0 : Int32) (h : AH) : Option (Int32 × AH) :=
  (ckZ si0).bind fun x1 =>
  some (x1, h)
set_option maxRecDepth 100000 in
set_option maxHeartbeats 4000000 in
theorem l_X15_in_15 {X : MX} {l : Launch} {G : GX} {h0 : AH} {rr : Int32} {hr : AH} (C : Cx X G RX15 cX15_in 3 (some .boolean) 0 0 h0) (C2 : Cy X l "in" []) (si0 : Int32) (h : AH) (hf : f_X15_in_15 si0 h = some (rr, hr)) : V X G h0 (QI rr hr) 15 [] [.int si0] h := by
  unfold f_X15_in_15 at hf
  obtain ⟨x1, gx1, hf⟩ := Option.bind_eq_some_iff.mp hf
  have ex1 := ckZ_eq gx1
  subst ex1
  cases hf
  exact C.retZ rfl gx1 (by decide +kernel) ⟨rfl, rfl⟩
def f_X15_in_14 (h : AH) : Option (Int32 × AH) :=
  f_X15_in_15 0 h
set_option maxRecDepth 100000 in
set_option maxHeartbeats 4000000 in
theorem l_X15_in_14 {X : MX} {l : Launch} {G : GX} {h0 : AH} {rr : Int32} {hr : AH} (C : Cx X G RX15 cX15_in 3 (some .boolean) 0 0 h0) (C2 : Cy X l "in" []) (h : AH) (hf : f_X15_in_14 h = some (rr, hr)) : V X G h0 (QI rr hr) 14 [] [] h := by
  unfold f_X15_in_14 at hf
  refine C.seg (pe := 15) (lv' := []) (st' := [.int 0]) [(.iconst 0, 1, 0)] (by decide +kernel) rfl ?_
  exact l_X15_in_15 C C2 0 h hf
def f_X15_in (p1 : Int32) (p2 : Int32) (p3 : Int32) (h : AH) : Option (Int32 × AH) :=
  if p1 < p2 then
    f_X15_in_14 h
  else
    if p3 < p1 then
      f_X15_in_14 h
    else
      f_X15_in_15 1 h
set_option maxRecDepth 100000 in
set_option maxHeartbeats 4000000 in
theorem w_X15_in {l : Launch} {G : GX} {p1 : Int32} {p2 : Int32} {p3 : Int32} {h : AH} {rr : Int32} {hr : AH} (hf : f_X15_in p1 p2 p3 h = some (rr, hr)) : Ct l G yX15_in 0 0 [.int p1, .int p2, .int p3] h (QI rr hr) := by
  unfold f_X15_in at hf
  refine Ct_of (own := RX15) (cc := cX15_in) (nL := 3) (ret := (some .boolean)) rfl rfl k_2111 (Nat.le_of_ble_eq_true rfl) (fun X C2 C => ?_)
  show V X G h (QI rr hr) 0 [(0, .int p1), (1, .int p2), (2, .int p3)] [] h
  refine C.seg (pe := 2) (lv' := [(0, .int p1), (1, .int p2), (2, .int p3)]) (st' := [.int p2, .int p1]) [(.iload_n 0, 1, 0), (.iload_n 1, 1, 0)] (by decide +kernel) rfl ?_
  refine C.icmp_lt (off := 12) (tgt := 14) (pf := 5) (by decide +kernel) (by decide) rfl (fun c2 => ?_) (fun c2 => ?_)
  · replace hf := ifp c2 hf
    refine Vsub [] rfl ?_
    exact l_X15_in_14 C C2 h hf
  · replace hf := ifn c2 hf
    refine C.seg (pe := 7) (lv' := [(0, .int p1), (1, .int p2), (2, .int p3)]) (st' := [.int p3, .int p1]) [(.iload_n 0, 1, 0), (.iload_n 2, 1, 0)] (by decide +kernel) rfl ?_
    refine C.icmp_gt (off := 7) (tgt := 14) (pf := 10) (by decide +kernel) (by decide) rfl (fun c1 => ?_) (fun c1 => ?_)
    · replace hf := ifp c1 hf
      refine Vsub [] rfl ?_
      exact l_X15_in_14 C C2 h hf
    · replace hf := ifn c1 hf
      refine C.seg (pe := 11) (lv' := [(0, .int p1), (1, .int p2), (2, .int p3)]) (st' := [.int 1]) [(.iconst 1, 1, 1)] (by decide +kernel) rfl ?_
      refine C.goto (off := 4) (tgt := 15) (by decide +kernel) (by decide) ?_
      refine Vsub [] rfl ?_
      exact l_X15_in_15 C C2 1 h hf
/-! WallHouseModel.refused(I)I -/
def f_X15_refused (a0 : Nat) (p1 : Int32) (h : AH) : Option (Int32 × AH) :=
  if isO 15 h a0 = true then
    (pI 15 h a0 1 p1).bind fun h1 =>
    (pI 15 h1 a0 2 (-1)).bind fun h2 =>
    some ((-1), h2)
  else none
set_option maxRecDepth 100000 in
set_option maxHeartbeats 4000000 in
theorem w_X15_refused {l : Launch} {G : GX} {a0 : Nat} {p1 : Int32} {h : AH} {rr : Int32} {hr : AH} (hf : f_X15_refused a0 p1 h = some (rr, hr)) : Ct l G yX15_refused 0 0 [.ref a0, .int p1] h (QI rr hr) := by
  unfold f_X15_refused at hf
  obtain ⟨ho, hf⟩ := ifO hf
  refine Ct_of (own := RX15) (cc := cX15_refused) (nL := 2) (ret := (some .int)) rfl rfl k_2115 (Nat.le_of_ble_eq_true rfl) (fun X C2 C => ?_)
  show V X G h (QI rr hr) 0 [(0, .ref a0), (1, .int p1)] [] h
  refine C.seg (pe := 2) (lv' := [(0, .ref a0), (1, .int p1)]) (st' := [.int p1, .ref a0]) [(.aload_n 0, 1, 0), (.iload_n 1, 1, 0)] (by decide +kernel) rfl ?_
  obtain ⟨h1, gh1, hf⟩ := Option.bind_eq_some_iff.mp hf
  refine C.putI fl_1787 gh1 (by decide +kernel) rfl ?_
  refine C.seg (pe := 7) (lv' := [(0, .ref a0), (1, .int p1)]) (st' := [.int (-1), .ref a0]) [(.aload_n 0, 1, 0), (.iconst (-1), 1, (-1))] (by decide +kernel) rfl ?_
  obtain ⟨h2, gh2, hf⟩ := Option.bind_eq_some_iff.mp hf
  refine C.putI fl_1788 gh2 (by decide +kernel) rfl ?_
  refine C.seg (pe := 11) (lv' := [(0, .ref a0), (1, .int p1)]) (st' := [.int (-1)]) [(.iconst (-1), 1, (-1))] (by decide +kernel) rfl ?_
  cases hf
  exact C.retI rfl (by decide +kernel) ⟨rfl, rfl⟩
theorem o_X15_refused {a0 : Nat} {p1 : Int32} {h : AH} {rr : Int32} {hr : AH} (hf : f_X15_refused a0 p1 h = some (rr, hr)) : isO 15 h a0 = true := by
  unfold f_X15_refused at hf
  exact (ifO hf).1
/-! WallHouseModel.done(I)I -/
def f_X15_done (a0 : Nat) (p1 : Int32) (h : AH) : Option (Int32 × AH) :=
  if isO 15 h a0 = true then
    (pI 15 h a0 1 0).bind fun h1 =>
    (pI 15 h1 a0 2 (-1)).bind fun h2 =>
    some (p1, h2)
  else none
set_option maxRecDepth 100000 in
set_option maxHeartbeats 4000000 in
theorem w_X15_done {l : Launch} {G : GX} {a0 : Nat} {p1 : Int32} {h : AH} {rr : Int32} {hr : AH} (hf : f_X15_done a0 p1 h = some (rr, hr)) : Ct l G yX15_done 0 0 [.ref a0, .int p1] h (QI rr hr) := by
  unfold f_X15_done at hf
  obtain ⟨ho, hf⟩ := ifO hf
  refine Ct_of (own := RX15) (cc := cX15_done) (nL := 2) (ret := (some .int)) rfl rfl k_2119 (Nat.le_of_ble_eq_true rfl) (fun X C2 C => ?_)
  show V X G h (QI rr hr) 0 [(0, .ref a0), (1, .int p1)] [] h
  refine C.seg (pe := 2) (lv' := [(0, .ref a0), (1, .int p1)]) (st' := [.int 0, .ref a0]) [(.aload_n 0, 1, 0), (.iconst 0, 1, 0)] (by decide +kernel) rfl ?_
  obtain ⟨h1, gh1, hf⟩ := Option.bind_eq_some_iff.mp hf
  refine C.putI fl_1787 gh1 (by decide +kernel) rfl ?_
  refine C.seg (pe := 7) (lv' := [(0, .ref a0), (1, .int p1)]) (st' := [.int (-1), .ref a0]) [(.aload_n 0, 1, 0), (.iconst (-1), 1, (-1))] (by decide +kernel) rfl ?_
  obtain ⟨h2, gh2, hf⟩ := Option.bind_eq_some_iff.mp hf
  refine C.putI fl_1788 gh2 (by decide +kernel) rfl ?_
  refine C.seg (pe := 11) (lv' := [(0, .ref a0), (1, .int p1)]) (st' := [.int p1]) [(.iload_n 1, 1, 0)] (by decide +kernel) rfl ?_
  cases hf
  exact C.retI rfl (by decide +kernel) ⟨rfl, rfl⟩
theorem o_X15_done {a0 : Nat} {p1 : Int32} {h : AH} {rr : Int32} {hr : AH} (hf : f_X15_done a0 p1 h = some (rr, hr)) : isO 15 h a0 = true := by
  unfold f_X15_done at hf
  exact (ifO hf).1
/-! WallHouseModel.wall(IIII)I -/
def f_X15_wall_45 (r0 : Nat) (h : AH) : Option (Int32 × AH) :=
  b2 (f_X15_refused r0 2 h) fun x1 h2 =>
  some (x1, h2)
set_option maxRecDepth 100000 in
set_option maxHeartbeats 4000000 in
theorem l_X15_wall_45 {X : MX} {l : Launch} {G : GX} {h0 : AH} {rr : Int32} {hr : AH} (C : Cx X G RX15 cX15_wall 5 (some .int) 1 22 h0) (C2 : Cy X l "wall" []) (r0 : Nat) (h : AH) (hf : f_X15_wall_45 r0 h = some (rr, hr)) : V X G h0 (QI rr hr) 45 [(0, .ref r0)] [] h := by
  unfold f_X15_wall_45 at hf
  refine C.seg (pe := 47) (lv' := [(0, .ref r0)]) (st' := [.int 2, .ref r0]) [(.aload_n 0, 1, 0), (.iconst 2, 1, 2)] (by decide +kernel) rfl ?_
  obtain ⟨x1, h2, gx1, hf⟩ := b2_some hf
  refine C.callVr C2 [.int 2] [] mv_2112 rfl (o_X15_refused gx1) (w_X15_refused gx1) (by omega) (by omega) (Nat.le_of_ble_eq_true rfl) (by decide +kernel) rfl ?_
  cases hf
  exact C.retI rfl (by decide +kernel) ⟨rfl, rfl⟩
def f_X15_wall (a0 : Nat) (p1 : Int32) (p2 : Int32) (p3 : Int32) (p4 : Int32) (h : AH) : Option (Int32 × AH) :=
  if isO 15 h a0 = true then
    (pI 15 h a0 0 0).bind fun h1 =>
    b2 (f_X15_in p1 1 16 h1) fun x2 h3 =>
    if x2 = 0 then
      f_X15_wall_45 a0 h3
    else
      b2 (f_X15_in p2 1 12 h3) fun x4 h5 =>
      if x4 = 0 then
        f_X15_wall_45 a0 h5
      else
        b2 (f_X15_in p3 0 3 h5) fun x6 h7 =>
        if x6 = 0 then
          f_X15_wall_45 a0 h7
        else
          b2 (f_X15_in p4 0 99 h7) fun x8 h9 =>
          if x8 = 0 then
            f_X15_wall_45 a0 h9
          else
            (gI 15 h9 a0 4).bind fun x10 =>
            if x10 = 16 then
              b2 (f_X15_refused a0 3 h9) fun x43 h44 =>
              some (x43, h44)
            else
              (gA 15 h9 a0 6).bind fun a11 =>
              (gI 15 h9 a0 4).bind fun x12 =>
              (sI 0 h9 a11 x12 p1).bind fun h13 =>
              (gA 15 h13 a0 7).bind fun a14 =>
              (gI 15 h13 a0 4).bind fun x15 =>
              (sI 0 h13 a14 x15 p2).bind fun h16 =>
              (gA 15 h16 a0 8).bind fun a17 =>
              (gI 15 h16 a0 4).bind fun x18 =>
              (sI 0 h16 a17 x18 p3).bind fun h19 =>
              (gA 15 h19 a0 9).bind fun a20 =>
              (gI 15 h19 a0 4).bind fun x21 =>
              (sI 0 h19 a20 x21 p4).bind fun h22 =>
              (gA 15 h22 a0 10).bind fun a23 =>
              (gI 15 h22 a0 4).bind fun x24 =>
              (sI 0 h22 a23 x24 0).bind fun h25 =>
              (gA 15 h25 a0 11).bind fun a26 =>
              (gI 15 h25 a0 4).bind fun x27 =>
              (sI 0 h25 a26 x27 (-1)).bind fun h28 =>
              (gA 15 h28 a0 13).bind fun a29 =>
              (gI 15 h28 a0 4).bind fun x30 =>
              (sI 0 h28 a29 x30 (-2)).bind fun h31 =>
              (gA 15 h31 a0 14).bind fun a32 =>
              (gI 15 h31 a0 4).bind fun x33 =>
              (sI 0 h31 a32 x33 (-2)).bind fun h34 =>
              (gA 15 h34 a0 15).bind fun a35 =>
              (gI 15 h34 a0 4).bind fun x36 =>
              (sI 0 h34 a35 x36 (-1)).bind fun h37 =>
              (gI 15 h37 a0 4).bind fun x38 =>
              (pI 15 h37 a0 4 (x38 + 1)).bind fun h39 =>
              (gI 15 h39 a0 4).bind fun x40 =>
              b2 (f_X15_done a0 (x40 - 1) h39) fun x41 h42 =>
              some (x41, h42)
  else none
set_option maxRecDepth 100000 in
set_option maxHeartbeats 4000000 in
theorem w_X15_wall {l : Launch} {G : GX} {a0 : Nat} {p1 : Int32} {p2 : Int32} {p3 : Int32} {p4 : Int32} {h : AH} {rr : Int32} {hr : AH} (hf : f_X15_wall a0 p1 p2 p3 p4 h = some (rr, hr)) : Ct l G yX15_wall 1 22 [.ref a0, .int p1, .int p2, .int p3, .int p4] h (QI rr hr) := by
  unfold f_X15_wall at hf
  obtain ⟨ho, hf⟩ := ifO hf
  refine Ct_of (own := RX15) (cc := cX15_wall) (nL := 5) (ret := (some .int)) rfl rfl k_2108 (Nat.le_of_ble_eq_true rfl) (fun X C2 C => ?_)
  show V X G h (QI rr hr) 0 [(0, .ref a0), (1, .int p1), (2, .int p2), (3, .int p3), (4, .int p4)] [] h
  refine C.seg (pe := 2) (lv' := [(0, .ref a0), (1, .int p1), (2, .int p2), (3, .int p3), (4, .int p4)]) (st' := [.int 0, .ref a0]) [(.aload_n 0, 1, 0), (.iconst 0, 1, 0)] (by decide +kernel) rfl ?_
  obtain ⟨h1, gh1, hf⟩ := Option.bind_eq_some_iff.mp hf
  refine C.putI fl_1786 gh1 (by decide +kernel) rfl ?_
  refine C.seg (pe := 9) (lv' := [(0, .ref a0), (1, .int p1), (2, .int p2), (3, .int p3), (4, .int p4)]) (st' := [.int 16, .int 1, .int p1]) [(.iload_n 1, 1, 0), (.iconst 1, 1, 1), (.bipush 16, 2, 16)] (by decide +kernel) rfl ?_
  obtain ⟨x2, h3, gx2, hf⟩ := b2_some hf
  refine C.callSr C2 [.int p1, .int 1, .int 16] [] ms_2109 rfl (w_X15_in gx2) (by omega) (by omega) (Nat.le_of_ble_eq_true rfl) (by decide +kernel) rfl ?_
  refine C.if_eq (off := 33) (tgt := 45) (pf := 15) (by decide +kernel) (by decide) rfl (fun c49 => ?_) (fun c49 => ?_)
  · replace hf := ifp c49 hf
    refine Vsub [0] rfl ?_
    exact l_X15_wall_45 C C2 a0 h3 hf
  · replace hf := ifn c49 hf
    refine C.seg (pe := 19) (lv' := [(0, .ref a0), (1, .int p1), (2, .int p2), (3, .int p3), (4, .int p4)]) (st' := [.int 12, .int 1, .int p2]) [(.iload_n 2, 1, 0), (.iconst 1, 1, 1), (.bipush 12, 2, 12)] (by decide +kernel) rfl ?_
    obtain ⟨x4, h5, gx4, hf⟩ := b2_some hf
    refine C.callSr C2 [.int p2, .int 1, .int 12] [] ms_2109 rfl (w_X15_in gx4) (by omega) (by omega) (Nat.le_of_ble_eq_true rfl) (by decide +kernel) rfl ?_
    refine C.if_eq (off := 23) (tgt := 45) (pf := 25) (by decide +kernel) (by decide) rfl (fun c48 => ?_) (fun c48 => ?_)
    · replace hf := ifp c48 hf
      refine Vsub [0] rfl ?_
      exact l_X15_wall_45 C C2 a0 h5 hf
    · replace hf := ifn c48 hf
      refine C.seg (pe := 28) (lv' := [(0, .ref a0), (1, .int p1), (2, .int p2), (3, .int p3), (4, .int p4)]) (st' := [.int 3, .int 0, .int p3]) [(.iload_n 3, 1, 0), (.iconst 0, 1, 0), (.iconst 3, 1, 3)] (by decide +kernel) rfl ?_
      obtain ⟨x6, h7, gx6, hf⟩ := b2_some hf
      refine C.callSr C2 [.int p3, .int 0, .int 3] [] ms_2109 rfl (w_X15_in gx6) (by omega) (by omega) (Nat.le_of_ble_eq_true rfl) (by decide +kernel) rfl ?_
      refine C.if_eq (off := 14) (tgt := 45) (pf := 34) (by decide +kernel) (by decide) rfl (fun c47 => ?_) (fun c47 => ?_)
      · replace hf := ifp c47 hf
        refine Vsub [0] rfl ?_
        exact l_X15_wall_45 C C2 a0 h7 hf
      · replace hf := ifn c47 hf
        refine C.seg (pe := 39) (lv' := [(0, .ref a0), (1, .int p1), (2, .int p2), (3, .int p3), (4, .int p4)]) (st' := [.int 99, .int 0, .int p4]) [(.iload 4, 2, 0), (.iconst 0, 1, 0), (.bipush 99, 2, 99)] (by decide +kernel) rfl ?_
        obtain ⟨x8, h9, gx8, hf⟩ := b2_some hf
        refine C.callSr C2 [.int p4, .int 0, .int 99] [] ms_2109 rfl (w_X15_in gx8) (by omega) (by omega) (Nat.le_of_ble_eq_true rfl) (by decide +kernel) rfl ?_
        refine C.if_ne (off := 9) (tgt := 51) (pf := 45) (by decide +kernel) (by decide) rfl (fun c46 => ?_) (fun c46 => ?_)
        · replace hf := ifn c46 hf
          refine C.seg (pe := 52) (lv' := [(0, .ref a0), (1, .int p1), (2, .int p2), (3, .int p3), (4, .int p4)]) (st' := [.ref a0]) [(.aload_n 0, 1, 0)] (by decide +kernel) rfl ?_
          obtain ⟨x10, gx10, hf⟩ := Option.bind_eq_some_iff.mp hf
          refine C.rdI fr_1790 gx10 (by decide +kernel) rfl ?_
          refine C.seg (pe := 57) (lv' := [(0, .ref a0), (1, .int p1), (2, .int p2), (3, .int p3), (4, .int p4)]) (st' := [.int 16, .int x10]) [(.bipush 16, 2, 16)] (by decide +kernel) rfl ?_
          refine C.icmp_ne (off := 9) (tgt := 66) (pf := 60) (by decide +kernel) (by decide) rfl (fun c45 => ?_) (fun c45 => ?_)
          · replace hf := ifn c45 hf
            refine C.seg (pe := 67) (lv' := [(0, .ref a0), (1, .int p1), (2, .int p2), (3, .int p3), (4, .int p4)]) (st' := [.ref a0]) [(.aload_n 0, 1, 0)] (by decide +kernel) rfl ?_
            obtain ⟨a11, ga11, hf⟩ := Option.bind_eq_some_iff.mp hf
            refine C.rdA fr_1792 ga11 (by decide +kernel) rfl ?_
            refine C.seg (pe := 71) (lv' := [(0, .ref a0), (1, .int p1), (2, .int p2), (3, .int p3), (4, .int p4)]) (st' := [.ref a0, .ref a11]) [(.aload_n 0, 1, 0)] (by decide +kernel) rfl ?_
            obtain ⟨x12, gx12, hf⟩ := Option.bind_eq_some_iff.mp hf
            refine C.rdI fr_1790 gx12 (by decide +kernel) rfl ?_
            refine C.seg (pe := 75) (lv' := [(0, .ref a0), (1, .int p1), (2, .int p2), (3, .int p3), (4, .int p4)]) (st' := [.int p1, .int x12, .ref a11]) [(.iload_n 1, 1, 0)] (by decide +kernel) rfl ?_
            obtain ⟨h13, gh13, hf⟩ := Option.bind_eq_some_iff.mp hf
            refine C.ast gh13 (by decide +kernel) rfl ?_
            refine C.seg (pe := 77) (lv' := [(0, .ref a0), (1, .int p1), (2, .int p2), (3, .int p3), (4, .int p4)]) (st' := [.ref a0]) [(.aload_n 0, 1, 0)] (by decide +kernel) rfl ?_
            obtain ⟨a14, ga14, hf⟩ := Option.bind_eq_some_iff.mp hf
            refine C.rdA fr_1793 ga14 (by decide +kernel) rfl ?_
            refine C.seg (pe := 81) (lv' := [(0, .ref a0), (1, .int p1), (2, .int p2), (3, .int p3), (4, .int p4)]) (st' := [.ref a0, .ref a14]) [(.aload_n 0, 1, 0)] (by decide +kernel) rfl ?_
            obtain ⟨x15, gx15, hf⟩ := Option.bind_eq_some_iff.mp hf
            refine C.rdI fr_1790 gx15 (by decide +kernel) rfl ?_
            refine C.seg (pe := 85) (lv' := [(0, .ref a0), (1, .int p1), (2, .int p2), (3, .int p3), (4, .int p4)]) (st' := [.int p2, .int x15, .ref a14]) [(.iload_n 2, 1, 0)] (by decide +kernel) rfl ?_
            obtain ⟨h16, gh16, hf⟩ := Option.bind_eq_some_iff.mp hf
            refine C.ast gh16 (by decide +kernel) rfl ?_
            refine C.seg (pe := 87) (lv' := [(0, .ref a0), (1, .int p1), (2, .int p2), (3, .int p3), (4, .int p4)]) (st' := [.ref a0]) [(.aload_n 0, 1, 0)] (by decide +kernel) rfl ?_
            obtain ⟨a17, ga17, hf⟩ := Option.bind_eq_some_iff.mp hf
            refine C.rdA fr_1794 ga17 (by decide +kernel) rfl ?_
            refine C.seg (pe := 91) (lv' := [(0, .ref a0), (1, .int p1), (2, .int p2), (3, .int p3), (4, .int p4)]) (st' := [.ref a0, .ref a17]) [(.aload_n 0, 1, 0)] (by decide +kernel) rfl ?_
            obtain ⟨x18, gx18, hf⟩ := Option.bind_eq_some_iff.mp hf
            refine C.rdI fr_1790 gx18 (by decide +kernel) rfl ?_
            refine C.seg (pe := 95) (lv' := [(0, .ref a0), (1, .int p1), (2, .int p2), (3, .int p3), (4, .int p4)]) (st' := [.int p3, .int x18, .ref a17]) [(.iload_n 3, 1, 0)] (by decide +kernel) rfl ?_
            obtain ⟨h19, gh19, hf⟩ := Option.bind_eq_some_iff.mp hf
            refine C.ast gh19 (by decide +kernel) rfl ?_
            refine C.seg (pe := 97) (lv' := [(0, .ref a0), (1, .int p1), (2, .int p2), (3, .int p3), (4, .int p4)]) (st' := [.ref a0]) [(.aload_n 0, 1, 0)] (by decide +kernel) rfl ?_
            obtain ⟨a20, ga20, hf⟩ := Option.bind_eq_some_iff.mp hf
            refine C.rdA fr_1795 ga20 (by decide +kernel) rfl ?_
            refine C.seg (pe := 101) (lv' := [(0, .ref a0), (1, .int p1), (2, .int p2), (3, .int p3), (4, .int p4)]) (st' := [.ref a0, .ref a20]) [(.aload_n 0, 1, 0)] (by decide +kernel) rfl ?_
            obtain ⟨x21, gx21, hf⟩ := Option.bind_eq_some_iff.mp hf
            refine C.rdI fr_1790 gx21 (by decide +kernel) rfl ?_
            refine C.seg (pe := 106) (lv' := [(0, .ref a0), (1, .int p1), (2, .int p2), (3, .int p3), (4, .int p4)]) (st' := [.int p4, .int x21, .ref a20]) [(.iload 4, 2, 0)] (by decide +kernel) rfl ?_
            obtain ⟨h22, gh22, hf⟩ := Option.bind_eq_some_iff.mp hf
            refine C.ast gh22 (by decide +kernel) rfl ?_
            refine C.seg (pe := 108) (lv' := [(0, .ref a0), (1, .int p1), (2, .int p2), (3, .int p3), (4, .int p4)]) (st' := [.ref a0]) [(.aload_n 0, 1, 0)] (by decide +kernel) rfl ?_
            obtain ⟨a23, ga23, hf⟩ := Option.bind_eq_some_iff.mp hf
            refine C.rdA fr_1796 ga23 (by decide +kernel) rfl ?_
            refine C.seg (pe := 112) (lv' := [(0, .ref a0), (1, .int p1), (2, .int p2), (3, .int p3), (4, .int p4)]) (st' := [.ref a0, .ref a23]) [(.aload_n 0, 1, 0)] (by decide +kernel) rfl ?_
            obtain ⟨x24, gx24, hf⟩ := Option.bind_eq_some_iff.mp hf
            refine C.rdI fr_1790 gx24 (by decide +kernel) rfl ?_
            refine C.seg (pe := 116) (lv' := [(0, .ref a0), (1, .int p1), (2, .int p2), (3, .int p3), (4, .int p4)]) (st' := [.int 0, .int x24, .ref a23]) [(.iconst 0, 1, 0)] (by decide +kernel) rfl ?_
            obtain ⟨h25, gh25, hf⟩ := Option.bind_eq_some_iff.mp hf
            refine C.ast gh25 (by decide +kernel) rfl ?_
            refine C.seg (pe := 118) (lv' := [(0, .ref a0), (1, .int p1), (2, .int p2), (3, .int p3), (4, .int p4)]) (st' := [.ref a0]) [(.aload_n 0, 1, 0)] (by decide +kernel) rfl ?_
            obtain ⟨a26, ga26, hf⟩ := Option.bind_eq_some_iff.mp hf
            refine C.rdA fr_1797 ga26 (by decide +kernel) rfl ?_
            refine C.seg (pe := 122) (lv' := [(0, .ref a0), (1, .int p1), (2, .int p2), (3, .int p3), (4, .int p4)]) (st' := [.ref a0, .ref a26]) [(.aload_n 0, 1, 0)] (by decide +kernel) rfl ?_
            obtain ⟨x27, gx27, hf⟩ := Option.bind_eq_some_iff.mp hf
            refine C.rdI fr_1790 gx27 (by decide +kernel) rfl ?_
            refine C.seg (pe := 126) (lv' := [(0, .ref a0), (1, .int p1), (2, .int p2), (3, .int p3), (4, .int p4)]) (st' := [.int (-1), .int x27, .ref a26]) [(.iconst (-1), 1, (-1))] (by decide +kernel) rfl ?_
            obtain ⟨h28, gh28, hf⟩ := Option.bind_eq_some_iff.mp hf
            refine C.ast gh28 (by decide +kernel) rfl ?_
            refine C.seg (pe := 128) (lv' := [(0, .ref a0), (1, .int p1), (2, .int p2), (3, .int p3), (4, .int p4)]) (st' := [.ref a0]) [(.aload_n 0, 1, 0)] (by decide +kernel) rfl ?_
            obtain ⟨a29, ga29, hf⟩ := Option.bind_eq_some_iff.mp hf
            refine C.rdA fr_1799 ga29 (by decide +kernel) rfl ?_
            refine C.seg (pe := 132) (lv' := [(0, .ref a0), (1, .int p1), (2, .int p2), (3, .int p3), (4, .int p4)]) (st' := [.ref a0, .ref a29]) [(.aload_n 0, 1, 0)] (by decide +kernel) rfl ?_
            obtain ⟨x30, gx30, hf⟩ := Option.bind_eq_some_iff.mp hf
            refine C.rdI fr_1790 gx30 (by decide +kernel) rfl ?_
            refine C.seg (pe := 137) (lv' := [(0, .ref a0), (1, .int p1), (2, .int p2), (3, .int p3), (4, .int p4)]) (st' := [.int (-2), .int x30, .ref a29]) [(.bipush (-2), 2, (-2))] (by decide +kernel) rfl ?_
            obtain ⟨h31, gh31, hf⟩ := Option.bind_eq_some_iff.mp hf
            refine C.ast gh31 (by decide +kernel) rfl ?_
            refine C.seg (pe := 139) (lv' := [(0, .ref a0), (1, .int p1), (2, .int p2), (3, .int p3), (4, .int p4)]) (st' := [.ref a0]) [(.aload_n 0, 1, 0)] (by decide +kernel) rfl ?_
            obtain ⟨a32, ga32, hf⟩ := Option.bind_eq_some_iff.mp hf
            refine C.rdA fr_1800 ga32 (by decide +kernel) rfl ?_
            refine C.seg (pe := 143) (lv' := [(0, .ref a0), (1, .int p1), (2, .int p2), (3, .int p3), (4, .int p4)]) (st' := [.ref a0, .ref a32]) [(.aload_n 0, 1, 0)] (by decide +kernel) rfl ?_
            obtain ⟨x33, gx33, hf⟩ := Option.bind_eq_some_iff.mp hf
            refine C.rdI fr_1790 gx33 (by decide +kernel) rfl ?_
            refine C.seg (pe := 148) (lv' := [(0, .ref a0), (1, .int p1), (2, .int p2), (3, .int p3), (4, .int p4)]) (st' := [.int (-2), .int x33, .ref a32]) [(.bipush (-2), 2, (-2))] (by decide +kernel) rfl ?_
            obtain ⟨h34, gh34, hf⟩ := Option.bind_eq_some_iff.mp hf
            refine C.ast gh34 (by decide +kernel) rfl ?_
            refine C.seg (pe := 150) (lv' := [(0, .ref a0), (1, .int p1), (2, .int p2), (3, .int p3), (4, .int p4)]) (st' := [.ref a0]) [(.aload_n 0, 1, 0)] (by decide +kernel) rfl ?_
            obtain ⟨a35, ga35, hf⟩ := Option.bind_eq_some_iff.mp hf
            refine C.rdA fr_1801 ga35 (by decide +kernel) rfl ?_
            refine C.seg (pe := 154) (lv' := [(0, .ref a0), (1, .int p1), (2, .int p2), (3, .int p3), (4, .int p4)]) (st' := [.ref a0, .ref a35]) [(.aload_n 0, 1, 0)] (by decide +kernel) rfl ?_
            obtain ⟨x36, gx36, hf⟩ := Option.bind_eq_some_iff.mp hf
            refine C.rdI fr_1790 gx36 (by decide +kernel) rfl ?_
            refine C.seg (pe := 158) (lv' := [(0, .ref a0), (1, .int p1), (2, .int p2), (3, .int p3), (4, .int p4)]) (st' := [.int (-1), .int x36, .ref a35]) [(.iconst (-1), 1, (-1))] (by decide +kernel) rfl ?_
            obtain ⟨h37, gh37, hf⟩ := Option.bind_eq_some_iff.mp hf
            refine C.ast gh37 (by decide +kernel) rfl ?_
            refine C.seg (pe := 161) (lv' := [(0, .ref a0), (1, .int p1), (2, .int p2), (3, .int p3), (4, .int p4)]) (st' := [.ref a0, .ref a0]) [(.aload_n 0, 1, 0), (.dup, 1, 0)] (by decide +kernel) rfl ?_
            obtain ⟨x38, gx38, hf⟩ := Option.bind_eq_some_iff.mp hf
            refine C.rdI fr_1790 gx38 (by decide +kernel) rfl ?_
            refine C.seg (pe := 166) (lv' := [(0, .ref a0), (1, .int p1), (2, .int p2), (3, .int p3), (4, .int p4)]) (st' := [.int (x38 + 1), .ref a0]) [(.iconst 1, 1, 1), (.iadd, 1, 0)] (by decide +kernel) rfl ?_
            obtain ⟨h39, gh39, hf⟩ := Option.bind_eq_some_iff.mp hf
            refine C.putI fl_1790 gh39 (by decide +kernel) rfl ?_
            refine C.seg (pe := 171) (lv' := [(0, .ref a0), (1, .int p1), (2, .int p2), (3, .int p3), (4, .int p4)]) (st' := [.ref a0, .ref a0]) [(.aload_n 0, 1, 0), (.aload_n 0, 1, 0)] (by decide +kernel) rfl ?_
            obtain ⟨x40, gx40, hf⟩ := Option.bind_eq_some_iff.mp hf
            refine C.rdI fr_1790 gx40 (by decide +kernel) rfl ?_
            refine C.seg (pe := 176) (lv' := [(0, .ref a0), (1, .int p1), (2, .int p2), (3, .int p3), (4, .int p4)]) (st' := [.int (x40 - 1), .ref a0]) [(.iconst 1, 1, 1), (.isub, 1, 0)] (by decide +kernel) rfl ?_
            obtain ⟨x41, h42, gx41, hf⟩ := b2_some hf
            refine C.callVr C2 [.int (x40 - 1)] [] mv_2116 rfl (o_X15_done gx41) (w_X15_done gx41) (by omega) (by omega) (Nat.le_of_ble_eq_true rfl) (by decide +kernel) rfl ?_
            cases hf
            exact C.retI rfl (by decide +kernel) ⟨rfl, rfl⟩
          · replace hf := ifp c45 hf
            refine C.seg (pe := 62) (lv' := [(0, .ref a0), (1, .int p1), (2, .int p2), (3, .int p3), (4, .int p4)]) (st' := [.int 3, .ref a0]) [(.aload_n 0, 1, 0), (.iconst 3, 1, 3)] (by decide +kernel) rfl ?_
            obtain ⟨x43, h44, gx43, hf⟩ := b2_some hf
            refine C.callVr C2 [.int 3] [] mv_2112 rfl (o_X15_refused gx43) (w_X15_refused gx43) (by omega) (by omega) (Nat.le_of_ble_eq_true rfl) (by decide +kernel) rfl ?_
            cases hf
            exact C.retI rfl (by decide +kernel) ⟨rfl, rfl⟩
        · replace hf := ifp c46 hf
          refine Vsub [0] rfl ?_
          exact l_X15_wall_45 C C2 a0 h9 hf
theorem o_X15_wall {a0 : Nat} {p1 : Int32} {p2 : Int32} {p3 : Int32} {p4 : Int32} {h : AH} {rr : Int32} {hr : AH} (hf : f_X15_wall a0 p1 p2 p3 p4 h = some (rr, hr)) : isO 15 h a0 = true := by
  unfold f_X15_wall at hf
  exact (ifO hf).1
/-! WallHouseModel.isWall(I)Z -/
def f_X15_isWall_17 (si0 : Int32) (h : AH) : Option (Int32 × AH) :=
  (ckZ si0).bind fun x1 =>
  some (x1, h)
set_option maxRecDepth 100000 in
set_option maxHeartbeats 4000000 in
theorem l_X15_isWall_17 {X : MX} {l : Launch} {G : GX} {h0 : AH} {rr : Int32} {hr : AH} (C : Cx X G RX15 cX15_isWall 2 (some .boolean) 0 0 h0) (C2 : Cy X l "isWall" []) (si0 : Int32) (h : AH) (hf : f_X15_isWall_17 si0 h = some (rr, hr)) : V X G h0 (QI rr hr) 17 [] [.int si0] h := by
  unfold f_X15_isWall_17 at hf
  obtain ⟨x1, gx1, hf⟩ := Option.bind_eq_some_iff.mp hf
  have ex1 := ckZ_eq gx1
  subst ex1
  cases hf
  exact C.retZ rfl gx1 (by decide +kernel) ⟨rfl, rfl⟩
def f_X15_isWall_16 (h : AH) : Option (Int32 × AH) :=
  f_X15_isWall_17 0 h
set_option maxRecDepth 100000 in
set_option maxHeartbeats 4000000 in
theorem l_X15_isWall_16 {X : MX} {l : Launch} {G : GX} {h0 : AH} {rr : Int32} {hr : AH} (C : Cx X G RX15 cX15_isWall 2 (some .boolean) 0 0 h0) (C2 : Cy X l "isWall" []) (h : AH) (hf : f_X15_isWall_16 h = some (rr, hr)) : V X G h0 (QI rr hr) 16 [] [] h := by
  unfold f_X15_isWall_16 at hf
  refine C.seg (pe := 17) (lv' := []) (st' := [.int 0]) [(.iconst 0, 1, 0)] (by decide +kernel) rfl ?_
  exact l_X15_isWall_17 C C2 0 h hf
def f_X15_isWall (a0 : Nat) (p1 : Int32) (h : AH) : Option (Int32 × AH) :=
  if isO 15 h a0 = true then
    if p1 < 0 then
      f_X15_isWall_16 h
    else
      (gI 15 h a0 4).bind fun x1 =>
      if x1 ≤ p1 then
        f_X15_isWall_16 h
      else
        f_X15_isWall_17 1 h
  else none
set_option maxRecDepth 100000 in
set_option maxHeartbeats 4000000 in
theorem w_X15_isWall {l : Launch} {G : GX} {a0 : Nat} {p1 : Int32} {h : AH} {rr : Int32} {hr : AH} (hf : f_X15_isWall a0 p1 h = some (rr, hr)) : Ct l G yX15_isWall 0 0 [.ref a0, .int p1] h (QI rr hr) := by
  unfold f_X15_isWall at hf
  obtain ⟨ho, hf⟩ := ifO hf
  refine Ct_of (own := RX15) (cc := cX15_isWall) (nL := 2) (ret := (some .boolean)) rfl rfl k_2127 (Nat.le_of_ble_eq_true rfl) (fun X C2 C => ?_)
  show V X G h (QI rr hr) 0 [(0, .ref a0), (1, .int p1)] [] h
  refine C.seg (pe := 1) (lv' := [(0, .ref a0), (1, .int p1)]) (st' := [.int p1]) [(.iload_n 1, 1, 0)] (by decide +kernel) rfl ?_
  refine C.if_lt (off := 15) (tgt := 16) (pf := 4) (by decide +kernel) (by decide) rfl (fun c3 => ?_) (fun c3 => ?_)
  · replace hf := ifp c3 hf
    refine Vsub [] rfl ?_
    exact l_X15_isWall_16 C C2 h hf
  · replace hf := ifn c3 hf
    refine C.seg (pe := 6) (lv' := [(0, .ref a0), (1, .int p1)]) (st' := [.ref a0, .int p1]) [(.iload_n 1, 1, 0), (.aload_n 0, 1, 0)] (by decide +kernel) rfl ?_
    obtain ⟨x1, gx1, hf⟩ := Option.bind_eq_some_iff.mp hf
    refine C.rdI fr_1790 gx1 (by decide +kernel) rfl ?_
    refine C.icmp_ge (off := 7) (tgt := 16) (pf := 12) (by decide +kernel) (by decide) rfl (fun c2 => ?_) (fun c2 => ?_)
    · replace hf := ifp c2 hf
      refine Vsub [] rfl ?_
      exact l_X15_isWall_16 C C2 h hf
    · replace hf := ifn c2 hf
      refine C.seg (pe := 13) (lv' := [(0, .ref a0), (1, .int p1)]) (st' := [.int 1]) [(.iconst 1, 1, 1)] (by decide +kernel) rfl ?_
      refine C.goto (off := 4) (tgt := 17) (by decide +kernel) (by decide) ?_
      refine Vsub [] rfl ?_
      exact l_X15_isWall_17 C C2 1 h hf
theorem o_X15_isWall {a0 : Nat} {p1 : Int32} {h : AH} {rr : Int32} {hr : AH} (hf : f_X15_isWall a0 p1 h = some (rr, hr)) : isO 15 h a0 = true := by
  unfold f_X15_isWall at hf
  exact (ifO hf).1
/-! WallHouseModel.year()I -/
def f_X15_year (a0 : Nat) (h : AH) : Option (Int32 × AH) :=
  if isO 15 h a0 = true then
    (gI 15 h a0 5).bind fun x1 =>
    some (x1 / 365, h)
  else none
set_option maxRecDepth 100000 in
set_option maxHeartbeats 4000000 in
theorem w_X15_year {l : Launch} {G : GX} {a0 : Nat} {h : AH} {rr : Int32} {hr : AH} (hf : f_X15_year a0 h = some (rr, hr)) : Ct l G yX15_year 0 0 [.ref a0] h (QI rr hr) := by
  unfold f_X15_year at hf
  obtain ⟨ho, hf⟩ := ifO hf
  refine Ct_of (own := RX15) (cc := cX15_year) (nL := 1) (ret := (some .int)) rfl rfl k_2135 (Nat.le_of_ble_eq_true rfl) (fun X C2 C => ?_)
  show V X G h (QI rr hr) 0 [(0, .ref a0)] [] h
  refine C.seg (pe := 1) (lv' := [(0, .ref a0)]) (st' := [.ref a0]) [(.aload_n 0, 1, 0)] (by decide +kernel) rfl ?_
  obtain ⟨x1, gx1, hf⟩ := Option.bind_eq_some_iff.mp hf
  refine C.rdI fr_1791 gx1 (by decide +kernel) rfl ?_
  refine C.seg (pe := 7) (lv' := [(0, .ref a0)]) (st' := [.int 365, .int x1]) [(.sipush 365, 3, 365)] (by decide +kernel) rfl ?_
  refine C.idiv (by decide +kernel) rfl (by decide) ?_
  cases hf
  exact C.retI rfl (by decide +kernel) ⟨rfl, rfl⟩
theorem o_X15_year {a0 : Nat} {h : AH} {rr : Int32} {hr : AH} (hf : f_X15_year a0 h = some (rr, hr)) : isO 15 h a0 = true := by
  unfold f_X15_year at hf
  exact (ifO hf).1
/-! WallHouseModel.hasLeave(I)Z -/
def f_X15_hasLeave (a0 : Nat) (p1 : Int32) (h : AH) : Option (Int32 × AH) :=
  if isO 15 h a0 = true then
    b2 (f_X15_year a0 h) fun x1 h2 =>
    (gA 15 h2 a0 10).bind fun a3 =>
    (aI 0 h2 a3 p1).bind fun x4 =>
    (gA 15 h2 a0 11).bind fun a5 =>
    (aI 0 h2 a5 p1).bind fun x6 =>
    b2 (f_X15_in x1 x4 x6 h2) fun x7 h8 =>
    (ckZ x7).bind fun x9 =>
    some (x9, h8)
  else none
set_option maxRecDepth 100000 in
set_option maxHeartbeats 4000000 in
theorem w_X15_hasLeave {l : Launch} {G : GX} {a0 : Nat} {p1 : Int32} {h : AH} {rr : Int32} {hr : AH} (hf : f_X15_hasLeave a0 p1 h = some (rr, hr)) : Ct l G yX15_hasLeave 1 22 [.ref a0, .int p1] h (QI rr hr) := by
  unfold f_X15_hasLeave at hf
  obtain ⟨ho, hf⟩ := ifO hf
  refine Ct_of (own := RX15) (cc := cX15_hasLeave) (nL := 2) (ret := (some .boolean)) rfl rfl k_2131 (Nat.le_of_ble_eq_true rfl) (fun X C2 C => ?_)
  show V X G h (QI rr hr) 0 [(0, .ref a0), (1, .int p1)] [] h
  refine C.seg (pe := 1) (lv' := [(0, .ref a0), (1, .int p1)]) (st' := [.ref a0]) [(.aload_n 0, 1, 0)] (by decide +kernel) rfl ?_
  obtain ⟨x1, h2, gx1, hf⟩ := b2_some hf
  refine C.callVr C2 [] [] mv_2132 rfl (o_X15_year gx1) (w_X15_year gx1) (by omega) (by omega) (Nat.le_of_ble_eq_true rfl) (by decide +kernel) rfl ?_
  refine C.seg (pe := 5) (lv' := [(0, .ref a0), (1, .int p1)]) (st' := [.ref a0, .int x1]) [(.aload_n 0, 1, 0)] (by decide +kernel) rfl ?_
  obtain ⟨a3, ga3, hf⟩ := Option.bind_eq_some_iff.mp hf
  refine C.rdA fr_1796 ga3 (by decide +kernel) rfl ?_
  refine C.seg (pe := 9) (lv' := [(0, .ref a0), (1, .int p1)]) (st' := [.int p1, .ref a3, .int x1]) [(.iload_n 1, 1, 0)] (by decide +kernel) rfl ?_
  obtain ⟨x4, gx4, hf⟩ := Option.bind_eq_some_iff.mp hf
  refine C.ald 0 rfl gx4 (by decide +kernel) rfl ?_
  refine C.seg (pe := 11) (lv' := [(0, .ref a0), (1, .int p1)]) (st' := [.ref a0, .int x4, .int x1]) [(.aload_n 0, 1, 0)] (by decide +kernel) rfl ?_
  obtain ⟨a5, ga5, hf⟩ := Option.bind_eq_some_iff.mp hf
  refine C.rdA fr_1797 ga5 (by decide +kernel) rfl ?_
  refine C.seg (pe := 15) (lv' := [(0, .ref a0), (1, .int p1)]) (st' := [.int p1, .ref a5, .int x4, .int x1]) [(.iload_n 1, 1, 0)] (by decide +kernel) rfl ?_
  obtain ⟨x6, gx6, hf⟩ := Option.bind_eq_some_iff.mp hf
  refine C.ald 0 rfl gx6 (by decide +kernel) rfl ?_
  obtain ⟨x7, h8, gx7, hf⟩ := b2_some hf
  refine C.callSr C2 [.int x1, .int x4, .int x6] [] ms_2109 rfl (w_X15_in gx7) (by omega) (by omega) (Nat.le_of_ble_eq_true rfl) (by decide +kernel) rfl ?_
  obtain ⟨x9, gx9, hf⟩ := Option.bind_eq_some_iff.mp hf
  have ex9 := ckZ_eq gx9
  subst ex9
  cases hf
  exact C.retZ rfl gx9 (by decide +kernel) ⟨rfl, rfl⟩
theorem o_X15_hasLeave {a0 : Nat} {p1 : Int32} {h : AH} {rr : Int32} {hr : AH} (hf : f_X15_hasLeave a0 p1 h = some (rr, hr)) : isO 15 h a0 = true := by
  unfold f_X15_hasLeave at hf
  exact (ifO hf).1
/-! WallHouseModel.painted(I)I -/
def f_X15_painted_43 (k4 : Nat → Int32 → Int32 → Int32 → AH → Option (Int32 × AH)) (r0 : Nat) (i1 : Int32) (i3 : Int32) (si0 : Int32) (si1 : Int32) (h : AH) : Option (Int32 × AH) :=
  k4 r0 i1 (si1 + si0) (i3 + 1) h
set_option maxRecDepth 100000 in
set_option maxHeartbeats 4000000 in
theorem l_X15_painted_43 {X : MX} {l : Launch} {G : GX} {h0 : AH} {rr : Int32} {hr : AH} (C : Cx X G RX15 cX15_painted 4 (some .int) 0 0 h0) (C2 : Cy X l "painted" []) {k4 : Nat → Int32 → Int32 → Int32 → AH → Option (Int32 × AH)} (hk4 : ∀ (r0 : Nat) (i1 : Int32) (i2 : Int32) (i3 : Int32) (h : AH), k4 r0 i1 i2 i3 h = some (rr, hr) → V X G h0 (QI rr hr) 4 [(0, .ref r0), (1, .int i1), (2, .int i2), (3, .int i3)] [] h) (r0 : Nat) (i1 : Int32) (i3 : Int32) (si0 : Int32) (si1 : Int32) (h : AH) (hf : f_X15_painted_43 k4 r0 i1 i3 si0 si1 h = some (rr, hr)) : V X G h0 (QI rr hr) 43 [(0, .ref r0), (1, .int i1), (3, .int i3)] [.int si0, .int si1] h := by
  unfold f_X15_painted_43 at hf
  refine C.seg (pe := 48) (lv' := [(3, .int (i3 + 1)), (2, .int (si1 + si0)), (0, .ref r0), (1, .int i1)]) (st' := []) [(.iadd, 1, 0), (.istore_n 2, 1, 0), (.iinc 3 1, 3, 1)] (by decide +kernel) rfl ?_
  refine C.goto (off := (-44)) (tgt := 4) (by decide +kernel) (by decide) ?_
  refine Vsub [2, 3, 1, 0] rfl ?_
  exact hk4 r0 i1 (si1 + si0) (i3 + 1) h hf
def f_X15_painted_4 : Nat → Nat → Int32 → Int32 → Int32 → AH → Option (Int32 × AH)
  | 0, _, _, _, _, _ => none
  | n + 1, r0, i1, i2, i3, h =>
    (gA 15 h r0 6).bind fun a1 =>
    (aI 0 h a1 i1).bind fun x2 =>
    (gA 15 h r0 7).bind fun a3 =>
    (aI 0 h a3 i1).bind fun x4 =>
    if x2 * x4 ≤ i3 then
      some (i2, h)
    else
      (gA 15 h r0 19).bind fun a5 =>
      (aI 0 h a5 ((192 * i1) + i3)).bind fun x6 =>
      if x6 = (-1) then
        f_X15_painted_43 (f_X15_painted_4 n) r0 i1 i3 0 i2 h
      else
        f_X15_painted_43 (f_X15_painted_4 n) r0 i1 i3 1 i2 h
set_option maxRecDepth 100000 in
set_option maxHeartbeats 4000000 in
theorem l_X15_painted_4 {X : MX} {l : Launch} {G : GX} {h0 : AH} {rr : Int32} {hr : AH} (C : Cx X G RX15 cX15_painted 4 (some .int) 0 0 h0) (C2 : Cy X l "painted" []) : ∀ (n : Nat) (r0 : Nat) (i1 : Int32) (i2 : Int32) (i3 : Int32) (h : AH), f_X15_painted_4 n r0 i1 i2 i3 h = some (rr, hr) → V X G h0 (QI rr hr) 4 [(0, .ref r0), (1, .int i1), (2, .int i2), (3, .int i3)] [] h := by
  intro n
  induction n with
  | zero => intro r0 i1 i2 i3 h hf; rw [f_X15_painted_4] at hf; cases hf
  | succ n ih =>
    intro r0 i1 i2 i3 h hf
    rw [f_X15_painted_4] at hf
    refine C.seg (pe := 6) (lv' := [(0, .ref r0), (1, .int i1), (2, .int i2), (3, .int i3)]) (st' := [.ref r0, .int i3]) [(.iload_n 3, 1, 0), (.aload_n 0, 1, 0)] (by decide +kernel) rfl ?_
    obtain ⟨a1, ga1, hf⟩ := Option.bind_eq_some_iff.mp hf
    refine C.rdA fr_1792 ga1 (by decide +kernel) rfl ?_
    refine C.seg (pe := 10) (lv' := [(0, .ref r0), (1, .int i1), (2, .int i2), (3, .int i3)]) (st' := [.int i1, .ref a1, .int i3]) [(.iload_n 1, 1, 0)] (by decide +kernel) rfl ?_
    obtain ⟨x2, gx2, hf⟩ := Option.bind_eq_some_iff.mp hf
    refine C.ald 0 rfl gx2 (by decide +kernel) rfl ?_
    refine C.seg (pe := 12) (lv' := [(0, .ref r0), (1, .int i1), (2, .int i2), (3, .int i3)]) (st' := [.ref r0, .int x2, .int i3]) [(.aload_n 0, 1, 0)] (by decide +kernel) rfl ?_
    obtain ⟨a3, ga3, hf⟩ := Option.bind_eq_some_iff.mp hf
    refine C.rdA fr_1793 ga3 (by decide +kernel) rfl ?_
    refine C.seg (pe := 16) (lv' := [(0, .ref r0), (1, .int i1), (2, .int i2), (3, .int i3)]) (st' := [.int i1, .ref a3, .int x2, .int i3]) [(.iload_n 1, 1, 0)] (by decide +kernel) rfl ?_
    obtain ⟨x4, gx4, hf⟩ := Option.bind_eq_some_iff.mp hf
    refine C.ald 0 rfl gx4 (by decide +kernel) rfl ?_
    refine C.seg (pe := 18) (lv' := [(0, .ref r0), (1, .int i1), (2, .int i2), (3, .int i3)]) (st' := [.int (x2 * x4), .int i3]) [(.imul, 1, 0)] (by decide +kernel) rfl ?_
    refine C.icmp_ge (off := 33) (tgt := 51) (pf := 21) (by decide +kernel) (by decide) rfl (fun c8 => ?_) (fun c8 => ?_)
    · replace hf := ifp c8 hf
      refine C.seg (pe := 52) (lv' := [(0, .ref r0), (1, .int i1), (2, .int i2), (3, .int i3)]) (st' := [.int i2]) [(.iload_n 2, 1, 0)] (by decide +kernel) rfl ?_
      cases hf
      exact C.retI rfl (by decide +kernel) ⟨rfl, rfl⟩
    · replace hf := ifn c8 hf
      refine C.seg (pe := 23) (lv' := [(0, .ref r0), (1, .int i1), (2, .int i2), (3, .int i3)]) (st' := [.ref r0, .int i2]) [(.iload_n 2, 1, 0), (.aload_n 0, 1, 0)] (by decide +kernel) rfl ?_
      obtain ⟨a5, ga5, hf⟩ := Option.bind_eq_some_iff.mp hf
      refine C.rdA fr_1805 ga5 (by decide +kernel) rfl ?_
      refine C.seg (pe := 33) (lv' := [(0, .ref r0), (1, .int i1), (2, .int i2), (3, .int i3)]) (st' := [.int ((192 * i1) + i3), .ref a5, .int i2]) [(.sipush 192, 3, 192), (.iload_n 1, 1, 0), (.imul, 1, 0), (.iload_n 3, 1, 0), (.iadd, 1, 0)] (by decide +kernel) rfl ?_
      obtain ⟨x6, gx6, hf⟩ := Option.bind_eq_some_iff.mp hf
      refine C.ald 0 rfl gx6 (by decide +kernel) rfl ?_
      refine C.seg (pe := 35) (lv' := [(0, .ref r0), (1, .int i1), (2, .int i2), (3, .int i3)]) (st' := [.int (-1), .int x6, .int i2]) [(.iconst (-1), 1, (-1))] (by decide +kernel) rfl ?_
      refine C.icmp_ne (off := 7) (tgt := 42) (pf := 38) (by decide +kernel) (by decide) rfl (fun c7 => ?_) (fun c7 => ?_)
      · replace hf := ifn c7 hf
        refine C.seg (pe := 43) (lv' := [(0, .ref r0), (1, .int i1), (2, .int i2), (3, .int i3)]) (st' := [.int 1, .int i2]) [(.iconst 1, 1, 1)] (by decide +kernel) rfl ?_
        refine Vsub [0, 1, 3] rfl ?_
        exact l_X15_painted_43 C C2 ih r0 i1 i3 1 i2 h hf
      · replace hf := ifp c7 hf
        refine C.seg (pe := 39) (lv' := [(0, .ref r0), (1, .int i1), (2, .int i2), (3, .int i3)]) (st' := [.int 0, .int i2]) [(.iconst 0, 1, 0)] (by decide +kernel) rfl ?_
        refine C.goto (off := 4) (tgt := 43) (by decide +kernel) (by decide) ?_
        refine Vsub [0, 1, 3] rfl ?_
        exact l_X15_painted_43 C C2 ih r0 i1 i3 0 i2 h hf
def f_X15_painted (a0 : Nat) (p1 : Int32) (h : AH) : Option (Int32 × AH) :=
  if isO 15 h a0 = true then
    f_X15_painted_4 FU a0 p1 0 0 h
  else none
set_option maxRecDepth 100000 in
set_option maxHeartbeats 4000000 in
theorem w_X15_painted {l : Launch} {G : GX} {a0 : Nat} {p1 : Int32} {h : AH} {rr : Int32} {hr : AH} (hf : f_X15_painted a0 p1 h = some (rr, hr)) : Ct l G yX15_painted 0 0 [.ref a0, .int p1] h (QI rr hr) := by
  unfold f_X15_painted at hf
  obtain ⟨ho, hf⟩ := ifO hf
  refine Ct_of (own := RX15) (cc := cX15_painted) (nL := 4) (ret := (some .int)) rfl rfl k_2139 (Nat.le_of_ble_eq_true rfl) (fun X C2 C => ?_)
  show V X G h (QI rr hr) 0 [(0, .ref a0), (1, .int p1)] [] h
  refine C.seg (pe := 4) (lv' := [(3, .int 0), (2, .int 0), (0, .ref a0), (1, .int p1)]) (st' := []) [(.iconst 0, 1, 0), (.istore_n 2, 1, 0), (.iconst 0, 1, 0), (.istore_n 3, 1, 0)] (by decide +kernel) rfl ?_
  refine Vsub [2, 3, 1, 0] rfl ?_
  exact l_X15_painted_4 C C2 FU a0 p1 0 0 h hf
theorem o_X15_painted {a0 : Nat} {p1 : Int32} {h : AH} {rr : Int32} {hr : AH} (hf : f_X15_painted a0 p1 h = some (rr, hr)) : isO 15 h a0 = true := by
  unfold f_X15_painted at hf
  exact (ifO hf).1
/-! WallHouseModel.about(II)I -/
def f_X15_about_149 (k119 : Nat → Int32 → Int32 → Int32 → AH → Option (Int32 × AH)) (r0 : Nat) (i1 : Int32) (i4 : Int32) (si0 : Int32) (si1 : Int32) (h : AH) : Option (Int32 × AH) :=
  k119 r0 i1 (si1 + si0) (i4 + 1) h
set_option maxRecDepth 100000 in
set_option maxHeartbeats 4000000 in
theorem l_X15_about_149 {X : MX} {l : Launch} {G : GX} {h0 : AH} {rr : Int32} {hr : AH} (C : Cx X G RX15 cX15_about 5 (some .int) 2 43 h0) (C2 : Cy X l "about" []) {k119 : Nat → Int32 → Int32 → Int32 → AH → Option (Int32 × AH)} (hk119 : ∀ (r0 : Nat) (i1 : Int32) (i3 : Int32) (i4 : Int32) (h : AH), k119 r0 i1 i3 i4 h = some (rr, hr) → V X G h0 (QI rr hr) 119 [(0, .ref r0), (1, .int i1), (3, .int i3), (4, .int i4)] [] h) (r0 : Nat) (i1 : Int32) (i4 : Int32) (si0 : Int32) (si1 : Int32) (h : AH) (hf : f_X15_about_149 k119 r0 i1 i4 si0 si1 h = some (rr, hr)) : V X G h0 (QI rr hr) 149 [(0, .ref r0), (1, .int i1), (4, .int i4)] [.int si0, .int si1] h := by
  unfold f_X15_about_149 at hf
  refine C.seg (pe := 154) (lv' := [(4, .int (i4 + 1)), (3, .int (si1 + si0)), (0, .ref r0), (1, .int i1)]) (st' := []) [(.iadd, 1, 0), (.istore_n 3, 1, 0), (.iinc 4 1, 3, 1)] (by decide +kernel) rfl ?_
  refine C.goto (off := (-35)) (tgt := 119) (by decide +kernel) (by decide) ?_
  refine Vsub [2, 3, 1, 0] rfl ?_
  exact hk119 r0 i1 (si1 + si0) (i4 + 1) h hf
def f_X15_about_119 : Nat → Nat → Int32 → Int32 → Int32 → AH → Option (Int32 × AH)
  | 0, _, _, _, _, _ => none
  | n + 1, r0, i1, i3, i4, h =>
    if 192 ≤ i4 then
      some (i3, h)
    else
      (gA 15 h r0 17).bind fun a1 =>
      (aI 2 h a1 ((192 * i1) + i4)).bind fun x2 =>
      if x2 = 0 then
        f_X15_about_149 (f_X15_about_119 n) r0 i1 i4 0 i3 h
      else
        f_X15_about_149 (f_X15_about_119 n) r0 i1 i4 1 i3 h
set_option maxRecDepth 100000 in
set_option maxHeartbeats 4000000 in
theorem l_X15_about_119 {X : MX} {l : Launch} {G : GX} {h0 : AH} {rr : Int32} {hr : AH} (C : Cx X G RX15 cX15_about 5 (some .int) 2 43 h0) (C2 : Cy X l "about" []) : ∀ (n : Nat) (r0 : Nat) (i1 : Int32) (i3 : Int32) (i4 : Int32) (h : AH), f_X15_about_119 n r0 i1 i3 i4 h = some (rr, hr) → V X G h0 (QI rr hr) 119 [(0, .ref r0), (1, .int i1), (3, .int i3), (4, .int i4)] [] h := by
  intro n
  induction n with
  | zero => intro r0 i1 i3 i4 h hf; rw [f_X15_about_119] at hf; cases hf
  | succ n ih =>
    intro r0 i1 i3 i4 h hf
    rw [f_X15_about_119] at hf
    refine C.seg (pe := 124) (lv' := [(0, .ref r0), (1, .int i1), (3, .int i3), (4, .int i4)]) (st' := [.int 192, .int i4]) [(.iload 4, 2, 0), (.sipush 192, 3, 192)] (by decide +kernel) rfl ?_
    refine C.icmp_ge (off := 33) (tgt := 157) (pf := 127) (by decide +kernel) (by decide) rfl (fun c4 => ?_) (fun c4 => ?_)
    · replace hf := ifp c4 hf
      refine C.seg (pe := 158) (lv' := [(0, .ref r0), (1, .int i1), (3, .int i3), (4, .int i4)]) (st' := [.int i3]) [(.iload_n 3, 1, 0)] (by decide +kernel) rfl ?_
      cases hf
      exact C.retI rfl (by decide +kernel) ⟨rfl, rfl⟩
    · replace hf := ifn c4 hf
      refine C.seg (pe := 129) (lv' := [(0, .ref r0), (1, .int i1), (3, .int i3), (4, .int i4)]) (st' := [.ref r0, .int i3]) [(.iload_n 3, 1, 0), (.aload_n 0, 1, 0)] (by decide +kernel) rfl ?_
      obtain ⟨a1, ga1, hf⟩ := Option.bind_eq_some_iff.mp hf
      refine C.rdA fr_1803 ga1 (by decide +kernel) rfl ?_
      refine C.seg (pe := 140) (lv' := [(0, .ref r0), (1, .int i1), (3, .int i3), (4, .int i4)]) (st' := [.int ((192 * i1) + i4), .ref a1, .int i3]) [(.sipush 192, 3, 192), (.iload_n 1, 1, 0), (.imul, 1, 0), (.iload 4, 2, 0), (.iadd, 1, 0)] (by decide +kernel) rfl ?_
      obtain ⟨x2, gx2, hf⟩ := Option.bind_eq_some_iff.mp hf
      refine C.zald 2 rfl gx2 (by decide +kernel) rfl ?_
      refine C.if_eq (off := 7) (tgt := 148) (pf := 144) (by decide +kernel) (by decide) rfl (fun c3 => ?_) (fun c3 => ?_)
      · replace hf := ifp c3 hf
        refine C.seg (pe := 149) (lv' := [(0, .ref r0), (1, .int i1), (3, .int i3), (4, .int i4)]) (st' := [.int 0, .int i3]) [(.iconst 0, 1, 0)] (by decide +kernel) rfl ?_
        refine Vsub [0, 1, 3] rfl ?_
        exact l_X15_about_149 C C2 ih r0 i1 i4 0 i3 h hf
      · replace hf := ifn c3 hf
        refine C.seg (pe := 145) (lv' := [(0, .ref r0), (1, .int i1), (3, .int i3), (4, .int i4)]) (st' := [.int 1, .int i3]) [(.iconst 1, 1, 1)] (by decide +kernel) rfl ?_
        refine C.goto (off := 4) (tgt := 149) (by decide +kernel) (by decide) ?_
        refine Vsub [0, 1, 3] rfl ?_
        exact l_X15_about_149 C C2 ih r0 i1 i4 1 i3 h hf
def f_X15_about_113 (si0 : Int32) (h : AH) : Option (Int32 × AH) :=
  some (si0, h)
set_option maxRecDepth 100000 in
set_option maxHeartbeats 4000000 in
theorem l_X15_about_113 {X : MX} {l : Launch} {G : GX} {h0 : AH} {rr : Int32} {hr : AH} (C : Cx X G RX15 cX15_about 5 (some .int) 2 43 h0) (C2 : Cy X l "about" []) (si0 : Int32) (h : AH) (hf : f_X15_about_113 si0 h = some (rr, hr)) : V X G h0 (QI rr hr) 113 [] [.int si0] h := by
  unfold f_X15_about_113 at hf
  cases hf
  exact C.retI rfl (by decide +kernel) ⟨rfl, rfl⟩
def f_X15_about (a0 : Nat) (p1 : Int32) (p2 : Int32) (h : AH) : Option (Int32 × AH) :=
  if isO 15 h a0 = true then
    (pI 15 h a0 0 0).bind fun h1 =>
    b2 (f_X15_isWall a0 p1 h1) fun x2 h3 =>
    if x2 = 0 then
      some ((-1), h3)
    else
      if p2 = 0 then
        (gA 15 h3 a0 6).bind fun a14 =>
        (aI 0 h3 a14 p1).bind fun x15 =>
        some (x15, h3)
      else
        if p2 = 1 then
          (gA 15 h3 a0 7).bind fun a16 =>
          (aI 0 h3 a16 p1).bind fun x17 =>
          some (x17, h3)
        else
          if p2 = 2 then
            (gA 15 h3 a0 8).bind fun a18 =>
            (aI 0 h3 a18 p1).bind fun x19 =>
            some (x19, h3)
          else
            if p2 = 3 then
              (gA 15 h3 a0 9).bind fun a20 =>
              (aI 0 h3 a20 p1).bind fun x21 =>
              some (x21, h3)
            else
              if p2 = 4 then
                b2 (f_X15_hasLeave a0 p1 h3) fun x22 h23 =>
                if x22 = 0 then
                  f_X15_about_113 0 h23
                else
                  f_X15_about_113 1 h23
              else
                if p2 = 5 then
                  f_X15_about_119 FU a0 p1 0 0 h3
                else
                  if p2 = 6 then
                    (gA 15 h3 a0 13).bind fun a25 =>
                    (aI 0 h3 a25 p1).bind fun x26 =>
                    some (x26, h3)
                  else
                    if p2 = 7 then
                      (gA 15 h3 a0 12).bind fun a27 =>
                      (aI 0 h3 a27 p1).bind fun x28 =>
                      some (x28, h3)
                    else
                      if p2 = 8 then
                        b2 (f_X15_painted a0 p1 h3) fun x29 h30 =>
                        some (x29, h30)
                      else
                        if p2 = 9 then
                          (gA 15 h3 a0 14).bind fun a31 =>
                          (aI 0 h3 a31 p1).bind fun x32 =>
                          some (x32, h3)
                        else
                          some ((-1), h3)
  else none
set_option maxRecDepth 100000 in
set_option maxHeartbeats 4000000 in
theorem w_X15_about {l : Launch} {G : GX} {a0 : Nat} {p1 : Int32} {p2 : Int32} {h : AH} {rr : Int32} {hr : AH} (hf : f_X15_about a0 p1 p2 h = some (rr, hr)) : Ct l G yX15_about 2 43 [.ref a0, .int p1, .int p2] h (QI rr hr) := by
  unfold f_X15_about at hf
  obtain ⟨ho, hf⟩ := ifO hf
  refine Ct_of (own := RX15) (cc := cX15_about) (nL := 5) (ret := (some .int)) rfl rfl k_2123 (Nat.le_of_ble_eq_true rfl) (fun X C2 C => ?_)
  show V X G h (QI rr hr) 0 [(0, .ref a0), (1, .int p1), (2, .int p2)] [] h
  refine C.seg (pe := 2) (lv' := [(0, .ref a0), (1, .int p1), (2, .int p2)]) (st' := [.int 0, .ref a0]) [(.aload_n 0, 1, 0), (.iconst 0, 1, 0)] (by decide +kernel) rfl ?_
  obtain ⟨h1, gh1, hf⟩ := Option.bind_eq_some_iff.mp hf
  refine C.putI fl_1786 gh1 (by decide +kernel) rfl ?_
  refine C.seg (pe := 7) (lv' := [(0, .ref a0), (1, .int p1), (2, .int p2)]) (st' := [.int p1, .ref a0]) [(.aload_n 0, 1, 0), (.iload_n 1, 1, 0)] (by decide +kernel) rfl ?_
  obtain ⟨x2, h3, gx2, hf⟩ := b2_some hf
  refine C.callVr C2 [.int p1] [] mv_2124 rfl (o_X15_isWall gx2) (w_X15_isWall gx2) (by omega) (by omega) (Nat.le_of_ble_eq_true rfl) (by decide +kernel) rfl ?_
  refine C.if_ne (off := 5) (tgt := 15) (pf := 13) (by decide +kernel) (by decide) rfl (fun c33 => ?_) (fun c33 => ?_)
  · replace hf := ifn c33 hf
    refine C.seg (pe := 16) (lv' := [(0, .ref a0), (1, .int p1), (2, .int p2)]) (st' := [.int p2]) [(.iload_n 2, 1, 0)] (by decide +kernel) rfl ?_
    by_cases c4 : p2 = 0
    · replace hf := ifp c4 hf
      refine C.tsIn (len := 56) (dflt := 170) (a := 0) (b := 9) (offs := #[56, 63, 70, 77, 84, 98, 143, 150, 157, 163]) (k := 0) (off := 56) (tgt := 72) c4 (by decide +kernel) (by decide) (by decide) rfl (by decide) ?_
      refine C.seg (pe := 73) (lv' := [(0, .ref a0), (1, .int p1), (2, .int p2)]) (st' := [.ref a0]) [(.aload_n 0, 1, 0)] (by decide +kernel) rfl ?_
      obtain ⟨a14, ga14, hf⟩ := Option.bind_eq_some_iff.mp hf
      refine C.rdA fr_1792 ga14 (by decide +kernel) rfl ?_
      refine C.seg (pe := 77) (lv' := [(0, .ref a0), (1, .int p1), (2, .int p2)]) (st' := [.int p1, .ref a14]) [(.iload_n 1, 1, 0)] (by decide +kernel) rfl ?_
      obtain ⟨x15, gx15, hf⟩ := Option.bind_eq_some_iff.mp hf
      refine C.ald 0 rfl gx15 (by decide +kernel) rfl ?_
      cases hf
      exact C.retI rfl (by decide +kernel) ⟨rfl, rfl⟩
    · replace hf := ifn c4 hf
      by_cases c5 : p2 = 1
      · replace hf := ifp c5 hf
        refine C.tsIn (len := 56) (dflt := 170) (a := 0) (b := 9) (offs := #[56, 63, 70, 77, 84, 98, 143, 150, 157, 163]) (k := 1) (off := 63) (tgt := 79) c5 (by decide +kernel) (by decide) (by decide) rfl (by decide) ?_
        refine C.seg (pe := 80) (lv' := [(0, .ref a0), (1, .int p1), (2, .int p2)]) (st' := [.ref a0]) [(.aload_n 0, 1, 0)] (by decide +kernel) rfl ?_
        obtain ⟨a16, ga16, hf⟩ := Option.bind_eq_some_iff.mp hf
        refine C.rdA fr_1793 ga16 (by decide +kernel) rfl ?_
        refine C.seg (pe := 84) (lv' := [(0, .ref a0), (1, .int p1), (2, .int p2)]) (st' := [.int p1, .ref a16]) [(.iload_n 1, 1, 0)] (by decide +kernel) rfl ?_
        obtain ⟨x17, gx17, hf⟩ := Option.bind_eq_some_iff.mp hf
        refine C.ald 0 rfl gx17 (by decide +kernel) rfl ?_
        cases hf
        exact C.retI rfl (by decide +kernel) ⟨rfl, rfl⟩
      · replace hf := ifn c5 hf
        by_cases c6 : p2 = 2
        · replace hf := ifp c6 hf
          refine C.tsIn (len := 56) (dflt := 170) (a := 0) (b := 9) (offs := #[56, 63, 70, 77, 84, 98, 143, 150, 157, 163]) (k := 2) (off := 70) (tgt := 86) c6 (by decide +kernel) (by decide) (by decide) rfl (by decide) ?_
          refine C.seg (pe := 87) (lv' := [(0, .ref a0), (1, .int p1), (2, .int p2)]) (st' := [.ref a0]) [(.aload_n 0, 1, 0)] (by decide +kernel) rfl ?_
          obtain ⟨a18, ga18, hf⟩ := Option.bind_eq_some_iff.mp hf
          refine C.rdA fr_1794 ga18 (by decide +kernel) rfl ?_
          refine C.seg (pe := 91) (lv' := [(0, .ref a0), (1, .int p1), (2, .int p2)]) (st' := [.int p1, .ref a18]) [(.iload_n 1, 1, 0)] (by decide +kernel) rfl ?_
          obtain ⟨x19, gx19, hf⟩ := Option.bind_eq_some_iff.mp hf
          refine C.ald 0 rfl gx19 (by decide +kernel) rfl ?_
          cases hf
          exact C.retI rfl (by decide +kernel) ⟨rfl, rfl⟩
        · replace hf := ifn c6 hf
          by_cases c7 : p2 = 3
          · replace hf := ifp c7 hf
            refine C.tsIn (len := 56) (dflt := 170) (a := 0) (b := 9) (offs := #[56, 63, 70, 77, 84, 98, 143, 150, 157, 163]) (k := 3) (off := 77) (tgt := 93) c7 (by decide +kernel) (by decide) (by decide) rfl (by decide) ?_
            refine C.seg (pe := 94) (lv' := [(0, .ref a0), (1, .int p1), (2, .int p2)]) (st' := [.ref a0]) [(.aload_n 0, 1, 0)] (by decide +kernel) rfl ?_
            obtain ⟨a20, ga20, hf⟩ := Option.bind_eq_some_iff.mp hf
            refine C.rdA fr_1795 ga20 (by decide +kernel) rfl ?_
            refine C.seg (pe := 98) (lv' := [(0, .ref a0), (1, .int p1), (2, .int p2)]) (st' := [.int p1, .ref a20]) [(.iload_n 1, 1, 0)] (by decide +kernel) rfl ?_
            obtain ⟨x21, gx21, hf⟩ := Option.bind_eq_some_iff.mp hf
            refine C.ald 0 rfl gx21 (by decide +kernel) rfl ?_
            cases hf
            exact C.retI rfl (by decide +kernel) ⟨rfl, rfl⟩
          · replace hf := ifn c7 hf
            by_cases c8 : p2 = 4
            · replace hf := ifp c8 hf
              refine C.tsIn (len := 56) (dflt := 170) (a := 0) (b := 9) (offs := #[56, 63, 70, 77, 84, 98, 143, 150, 157, 163]) (k := 4) (off := 84) (tgt := 100) c8 (by decide +kernel) (by decide) (by decide) rfl (by decide) ?_
              refine C.seg (pe := 102) (lv' := [(0, .ref a0), (1, .int p1), (2, .int p2)]) (st' := [.int p1, .ref a0]) [(.aload_n 0, 1, 0), (.iload_n 1, 1, 0)] (by decide +kernel) rfl ?_
              obtain ⟨x22, h23, gx22, hf⟩ := b2_some hf
              refine C.callVr C2 [.int p1] [] mv_2128 rfl (o_X15_hasLeave gx22) (w_X15_hasLeave gx22) (by omega) (by omega) (Nat.le_of_ble_eq_true rfl) (by decide +kernel) rfl ?_
              refine C.if_eq (off := 7) (tgt := 112) (pf := 108) (by decide +kernel) (by decide) rfl (fun c24 => ?_) (fun c24 => ?_)
              · replace hf := ifp c24 hf
                refine C.seg (pe := 113) (lv' := [(0, .ref a0), (1, .int p1), (2, .int p2)]) (st' := [.int 0]) [(.iconst 0, 1, 0)] (by decide +kernel) rfl ?_
                refine Vsub [] rfl ?_
                exact l_X15_about_113 C C2 0 h23 hf
              · replace hf := ifn c24 hf
                refine C.seg (pe := 109) (lv' := [(0, .ref a0), (1, .int p1), (2, .int p2)]) (st' := [.int 1]) [(.iconst 1, 1, 1)] (by decide +kernel) rfl ?_
                refine C.goto (off := 4) (tgt := 113) (by decide +kernel) (by decide) ?_
                refine Vsub [] rfl ?_
                exact l_X15_about_113 C C2 1 h23 hf
            · replace hf := ifn c8 hf
              by_cases c9 : p2 = 5
              · replace hf := ifp c9 hf
                refine C.tsIn (len := 56) (dflt := 170) (a := 0) (b := 9) (offs := #[56, 63, 70, 77, 84, 98, 143, 150, 157, 163]) (k := 5) (off := 98) (tgt := 114) c9 (by decide +kernel) (by decide) (by decide) rfl (by decide) ?_
                refine C.seg (pe := 119) (lv' := [(4, .int 0), (3, .int 0), (0, .ref a0), (1, .int p1), (2, .int p2)]) (st' := []) [(.iconst 0, 1, 0), (.istore_n 3, 1, 0), (.iconst 0, 1, 0), (.istore 4, 2, 0)] (by decide +kernel) rfl ?_
                refine Vsub [2, 3, 1, 0] rfl ?_
                exact l_X15_about_119 C C2 FU a0 p1 0 0 h3 hf
              · replace hf := ifn c9 hf
                by_cases c10 : p2 = 6
                · replace hf := ifp c10 hf
                  refine C.tsIn (len := 56) (dflt := 170) (a := 0) (b := 9) (offs := #[56, 63, 70, 77, 84, 98, 143, 150, 157, 163]) (k := 6) (off := 143) (tgt := 159) c10 (by decide +kernel) (by decide) (by decide) rfl (by decide) ?_
                  refine C.seg (pe := 160) (lv' := [(0, .ref a0), (1, .int p1), (2, .int p2)]) (st' := [.ref a0]) [(.aload_n 0, 1, 0)] (by decide +kernel) rfl ?_
                  obtain ⟨a25, ga25, hf⟩ := Option.bind_eq_some_iff.mp hf
                  refine C.rdA fr_1799 ga25 (by decide +kernel) rfl ?_
                  refine C.seg (pe := 164) (lv' := [(0, .ref a0), (1, .int p1), (2, .int p2)]) (st' := [.int p1, .ref a25]) [(.iload_n 1, 1, 0)] (by decide +kernel) rfl ?_
                  obtain ⟨x26, gx26, hf⟩ := Option.bind_eq_some_iff.mp hf
                  refine C.ald 0 rfl gx26 (by decide +kernel) rfl ?_
                  cases hf
                  exact C.retI rfl (by decide +kernel) ⟨rfl, rfl⟩
                · replace hf := ifn c10 hf
                  by_cases c11 : p2 = 7
                  · replace hf := ifp c11 hf
                    refine C.tsIn (len := 56) (dflt := 170) (a := 0) (b := 9) (offs := #[56, 63, 70, 77, 84, 98, 143, 150, 157, 163]) (k := 7) (off := 150) (tgt := 166) c11 (by decide +kernel) (by decide) (by decide) rfl (by decide) ?_
                    refine C.seg (pe := 167) (lv' := [(0, .ref a0), (1, .int p1), (2, .int p2)]) (st' := [.ref a0]) [(.aload_n 0, 1, 0)] (by decide +kernel) rfl ?_
                    obtain ⟨a27, ga27, hf⟩ := Option.bind_eq_some_iff.mp hf
                    refine C.rdA fr_1798 ga27 (by decide +kernel) rfl ?_
                    refine C.seg (pe := 171) (lv' := [(0, .ref a0), (1, .int p1), (2, .int p2)]) (st' := [.int p1, .ref a27]) [(.iload_n 1, 1, 0)] (by decide +kernel) rfl ?_
                    obtain ⟨x28, gx28, hf⟩ := Option.bind_eq_some_iff.mp hf
                    refine C.ald 0 rfl gx28 (by decide +kernel) rfl ?_
                    cases hf
                    exact C.retI rfl (by decide +kernel) ⟨rfl, rfl⟩
                  · replace hf := ifn c11 hf
                    by_cases c12 : p2 = 8
                    · replace hf := ifp c12 hf
                      refine C.tsIn (len := 56) (dflt := 170) (a := 0) (b := 9) (offs := #[56, 63, 70, 77, 84, 98, 143, 150, 157, 163]) (k := 8) (off := 157) (tgt := 173) c12 (by decide +kernel) (by decide) (by decide) rfl (by decide) ?_
                      refine C.seg (pe := 175) (lv' := [(0, .ref a0), (1, .int p1), (2, .int p2)]) (st' := [.int p1, .ref a0]) [(.aload_n 0, 1, 0), (.iload_n 1, 1, 0)] (by decide +kernel) rfl ?_
                      obtain ⟨x29, h30, gx29, hf⟩ := b2_some hf
                      refine C.callVr C2 [.int p1] [] mv_2136 rfl (o_X15_painted gx29) (w_X15_painted gx29) (by omega) (by omega) (Nat.le_of_ble_eq_true rfl) (by decide +kernel) rfl ?_
                      cases hf
                      exact C.retI rfl (by decide +kernel) ⟨rfl, rfl⟩
                    · replace hf := ifn c12 hf
                      by_cases c13 : p2 = 9
                      · replace hf := ifp c13 hf
                        refine C.tsIn (len := 56) (dflt := 170) (a := 0) (b := 9) (offs := #[56, 63, 70, 77, 84, 98, 143, 150, 157, 163]) (k := 9) (off := 163) (tgt := 179) c13 (by decide +kernel) (by decide) (by decide) rfl (by decide) ?_
                        refine C.seg (pe := 180) (lv' := [(0, .ref a0), (1, .int p1), (2, .int p2)]) (st' := [.ref a0]) [(.aload_n 0, 1, 0)] (by decide +kernel) rfl ?_
                        obtain ⟨a31, ga31, hf⟩ := Option.bind_eq_some_iff.mp hf
                        refine C.rdA fr_1800 ga31 (by decide +kernel) rfl ?_
                        refine C.seg (pe := 184) (lv' := [(0, .ref a0), (1, .int p1), (2, .int p2)]) (st' := [.int p1, .ref a31]) [(.iload_n 1, 1, 0)] (by decide +kernel) rfl ?_
                        obtain ⟨x32, gx32, hf⟩ := Option.bind_eq_some_iff.mp hf
                        refine C.ald 0 rfl gx32 (by decide +kernel) rfl ?_
                        cases hf
                        exact C.retI rfl (by decide +kernel) ⟨rfl, rfl⟩
                      · replace hf := ifn c13 hf
                        have qc4 := lv_neT c4 (by decide : (0 : Int32).toInt = 0)
                        have qc5 := lv_neT c5 (by decide : (1 : Int32).toInt = 1)
                        have qc6 := lv_neT c6 (by decide : (2 : Int32).toInt = 2)
                        have qc7 := lv_neT c7 (by decide : (3 : Int32).toInt = 3)
                        have qc8 := lv_neT c8 (by decide : (4 : Int32).toInt = 4)
                        have qc9 := lv_neT c9 (by decide : (5 : Int32).toInt = 5)
                        have qc10 := lv_neT c10 (by decide : (6 : Int32).toInt = 6)
                        have qc11 := lv_neT c11 (by decide : (7 : Int32).toInt = 7)
                        have qc12 := lv_neT c12 (by decide : (8 : Int32).toInt = 8)
                        have qc13 := lv_neT c13 (by decide : (9 : Int32).toInt = 9)
                        refine C.tsOut (len := 56) (dflt := 170) (a := 0) (b := 9) (offs := #[56, 63, 70, 77, 84, 98, 143, 150, 157, 163]) (tgt := 186) (by decide +kernel) (by omega) (by decide) ?_
                        refine C.seg (pe := 187) (lv' := [(0, .ref a0), (1, .int p1), (2, .int p2)]) (st' := [.int (-1)]) [(.iconst (-1), 1, (-1))] (by decide +kernel) rfl ?_
                        cases hf
                        exact C.retI rfl (by decide +kernel) ⟨rfl, rfl⟩
  · replace hf := ifp c33 hf
    refine C.seg (pe := 14) (lv' := [(0, .ref a0), (1, .int p1), (2, .int p2)]) (st' := [.int (-1)]) [(.iconst (-1), 1, (-1))] (by decide +kernel) rfl ?_
    cases hf
    exact C.retI rfl (by decide +kernel) ⟨rfl, rfl⟩
theorem o_X15_about {a0 : Nat} {p1 : Int32} {p2 : Int32} {h : AH} {rr : Int32} {hr : AH} (hf : f_X15_about a0 p1 p2 h = some (rr, hr)) : isO 15 h a0 = true := by
  unfold f_X15_about at hf
  exact (ifO hf).1
/-! WallHouseModel.cellOf(III)I -/
def f_X15_cellOf (a0 : Nat) (p1 : Int32) (p2 : Int32) (p3 : Int32) (h : AH) : Option (Int32 × AH) :=
  if isO 15 h a0 = true then
    (gA 15 h a0 6).bind fun a1 =>
    (aI 0 h a1 p1).bind fun x2 =>
    some (((192 * p1) + (x2 * p3)) + p2, h)
  else none
set_option maxRecDepth 100000 in
set_option maxHeartbeats 4000000 in
theorem w_X15_cellOf {l : Launch} {G : GX} {a0 : Nat} {p1 : Int32} {p2 : Int32} {p3 : Int32} {h : AH} {rr : Int32} {hr : AH} (hf : f_X15_cellOf a0 p1 p2 p3 h = some (rr, hr)) : Ct l G yX15_cellOf 0 0 [.ref a0, .int p1, .int p2, .int p3] h (QI rr hr) := by
  unfold f_X15_cellOf at hf
  obtain ⟨ho, hf⟩ := ifO hf
  refine Ct_of (own := RX15) (cc := cX15_cellOf) (nL := 4) (ret := (some .int)) rfl rfl k_2147 (Nat.le_of_ble_eq_true rfl) (fun X C2 C => ?_)
  show V X G h (QI rr hr) 0 [(0, .ref a0), (1, .int p1), (2, .int p2), (3, .int p3)] [] h
  refine C.seg (pe := 6) (lv' := [(0, .ref a0), (1, .int p1), (2, .int p2), (3, .int p3)]) (st' := [.ref a0, .int (192 * p1)]) [(.sipush 192, 3, 192), (.iload_n 1, 1, 0), (.imul, 1, 0), (.aload_n 0, 1, 0)] (by decide +kernel) rfl ?_
  obtain ⟨a1, ga1, hf⟩ := Option.bind_eq_some_iff.mp hf
  refine C.rdA fr_1792 ga1 (by decide +kernel) rfl ?_
  refine C.seg (pe := 10) (lv' := [(0, .ref a0), (1, .int p1), (2, .int p2), (3, .int p3)]) (st' := [.int p1, .ref a1, .int (192 * p1)]) [(.iload_n 1, 1, 0)] (by decide +kernel) rfl ?_
  obtain ⟨x2, gx2, hf⟩ := Option.bind_eq_some_iff.mp hf
  refine C.ald 0 rfl gx2 (by decide +kernel) rfl ?_
  refine C.seg (pe := 16) (lv' := [(0, .ref a0), (1, .int p1), (2, .int p2), (3, .int p3)]) (st' := [.int (((192 * p1) + (x2 * p3)) + p2)]) [(.iload_n 3, 1, 0), (.imul, 1, 0), (.iadd, 1, 0), (.iload_n 2, 1, 0), (.iadd, 1, 0)] (by decide +kernel) rfl ?_
  cases hf
  exact C.retI rfl (by decide +kernel) ⟨rfl, rfl⟩
theorem o_X15_cellOf {a0 : Nat} {p1 : Int32} {p2 : Int32} {p3 : Int32} {h : AH} {rr : Int32} {hr : AH} (hf : f_X15_cellOf a0 p1 p2 p3 h = some (rr, hr)) : isO 15 h a0 = true := by
  unfold f_X15_cellOf at hf
  exact (ifO hf).1
/-! WallHouseModel.hole(IIIII)I -/
def f_X15_hole_163 (k114 : Nat → Int32 → Int32 → Int32 → Int32 → Int32 → Int32 → Int32 → AH → Option (Int32 × AH)) (k126 : Nat → Int32 → Int32 → Int32 → Int32 → Int32 → Int32 → Int32 → Int32 → AH → Option (Int32 × AH)) (r0 : Nat) (i1 : Int32) (i2 : Int32) (i3 : Int32) (i4 : Int32) (i5 : Int32) (i7 : Int32) (i8 : Int32) (i9 : Int32) (si0 : Int32) (si1 : Int32) (h : AH) : Option (Int32 × AH) :=
  (gA 15 h r0 17).bind fun a1 =>
  (sI 2 h a1 i9 1).bind fun h2 =>
  (gA 15 h2 r0 19).bind fun a3 =>
  (sI 0 h2 a3 i9 (-1)).bind fun h4 =>
  k126 r0 i1 i2 i3 i4 i5 (si1 + si0) i7 (i8 + 1) h4
set_option maxRecDepth 100000 in
set_option maxHeartbeats 4000000 in
theorem l_X15_hole_163 {X : MX} {l : Launch} {G : GX} {h0 : AH} {rr : Int32} {hr : AH} (C : Cx X G RX15 cX15_hole 10 (some .int) 1 23 h0) (C2 : Cy X l "hole" []) {k114 : Nat → Int32 → Int32 → Int32 → Int32 → Int32 → Int32 → Int32 → AH → Option (Int32 × AH)} (hk114 : ∀ (r0 : Nat) (i1 : Int32) (i2 : Int32) (i3 : Int32) (i4 : Int32) (i5 : Int32) (i6 : Int32) (i7 : Int32) (h : AH), k114 r0 i1 i2 i3 i4 i5 i6 i7 h = some (rr, hr) → V X G h0 (QI rr hr) 114 [(0, .ref r0), (1, .int i1), (2, .int i2), (3, .int i3), (4, .int i4), (5, .int i5), (6, .int i6), (7, .int i7)] [] h) {k126 : Nat → Int32 → Int32 → Int32 → Int32 → Int32 → Int32 → Int32 → Int32 → AH → Option (Int32 × AH)} (hk126 : ∀ (r0 : Nat) (i1 : Int32) (i2 : Int32) (i3 : Int32) (i4 : Int32) (i5 : Int32) (i6 : Int32) (i7 : Int32) (i8 : Int32) (h : AH), k126 r0 i1 i2 i3 i4 i5 i6 i7 i8 h = some (rr, hr) → V X G h0 (QI rr hr) 126 [(0, .ref r0), (1, .int i1), (2, .int i2), (3, .int i3), (4, .int i4), (5, .int i5), (6, .int i6), (7, .int i7), (8, .int i8)] [] h) (r0 : Nat) (i1 : Int32) (i2 : Int32) (i3 : Int32) (i4 : Int32) (i5 : Int32) (i7 : Int32) (i8 : Int32) (i9 : Int32) (si0 : Int32) (si1 : Int32) (h : AH) (hf : f_X15_hole_163 k114 k126 r0 i1 i2 i3 i4 i5 i7 i8 i9 si0 si1 h = some (rr, hr)) : V X G h0 (QI rr hr) 163 [(0, .ref r0), (1, .int i1), (2, .int i2), (3, .int i3), (4, .int i4), (5, .int i5), (7, .int i7), (8, .int i8), (9, .int i9)] [.int si0, .int si1] h := by
  unfold f_X15_hole_163 at hf
  refine C.seg (pe := 167) (lv' := [(6, .int (si1 + si0)), (0, .ref r0), (1, .int i1), (2, .int i2), (3, .int i3), (4, .int i4), (5, .int i5), (7, .int i7), (8, .int i8), (9, .int i9)]) (st' := [.ref r0]) [(.iadd, 1, 0), (.istore 6, 2, 0), (.aload_n 0, 1, 0)] (by decide +kernel) rfl ?_
  obtain ⟨a1, ga1, hf⟩ := Option.bind_eq_some_iff.mp hf
  refine C.rdA fr_1803 ga1 (by decide +kernel) rfl ?_
  refine C.seg (pe := 173) (lv' := [(6, .int (si1 + si0)), (0, .ref r0), (1, .int i1), (2, .int i2), (3, .int i3), (4, .int i4), (5, .int i5), (7, .int i7), (8, .int i8), (9, .int i9)]) (st' := [.int 1, .int i9, .ref a1]) [(.iload 9, 2, 0), (.iconst 1, 1, 1)] (by decide +kernel) rfl ?_
  obtain ⟨h2, gh2, hf⟩ := Option.bind_eq_some_iff.mp hf
  refine C.zast gh2 (by decide +kernel) rfl ?_
  refine C.seg (pe := 175) (lv' := [(6, .int (si1 + si0)), (0, .ref r0), (1, .int i1), (2, .int i2), (3, .int i3), (4, .int i4), (5, .int i5), (7, .int i7), (8, .int i8), (9, .int i9)]) (st' := [.ref r0]) [(.aload_n 0, 1, 0)] (by decide +kernel) rfl ?_
  obtain ⟨a3, ga3, hf⟩ := Option.bind_eq_some_iff.mp hf
  refine C.rdA fr_1805 ga3 (by decide +kernel) rfl ?_
  refine C.seg (pe := 181) (lv' := [(6, .int (si1 + si0)), (0, .ref r0), (1, .int i1), (2, .int i2), (3, .int i3), (4, .int i4), (5, .int i5), (7, .int i7), (8, .int i8), (9, .int i9)]) (st' := [.int (-1), .int i9, .ref a3]) [(.iload 9, 2, 0), (.iconst (-1), 1, (-1))] (by decide +kernel) rfl ?_
  obtain ⟨h4, gh4, hf⟩ := Option.bind_eq_some_iff.mp hf
  refine C.ast gh4 (by decide +kernel) rfl ?_
  refine C.seg (pe := 185) (lv' := [(8, .int (i8 + 1)), (6, .int (si1 + si0)), (0, .ref r0), (1, .int i1), (2, .int i2), (3, .int i3), (4, .int i4), (5, .int i5), (7, .int i7), (9, .int i9)]) (st' := []) [(.iinc 8 1, 3, 1)] (by decide +kernel) rfl ?_
  refine C.goto (off := (-59)) (tgt := 126) (by decide +kernel) (by decide) ?_
  refine Vsub [2, 3, 4, 5, 6, 7, 1, 8, 0] rfl ?_
  exact hk126 r0 i1 i2 i3 i4 i5 (si1 + si0) i7 (i8 + 1) h4 hf
def f_X15_hole_126 (k114 : Nat → Int32 → Int32 → Int32 → Int32 → Int32 → Int32 → Int32 → AH → Option (Int32 × AH)) : Nat → Nat → Int32 → Int32 → Int32 → Int32 → Int32 → Int32 → Int32 → Int32 → AH → Option (Int32 × AH)
  | 0, _, _, _, _, _, _, _, _, _, _ => none
  | n + 1, r0, i1, i2, i3, i4, i5, i6, i7, i8, h =>
    if i2 + i4 ≤ i8 then
      k114 r0 i1 i2 i3 i4 i5 i6 (i7 + 1) h
    else
      b2 (f_X15_cellOf r0 i1 i8 i7 h) fun x1 h2 =>
      (gA 15 h2 r0 17).bind fun a3 =>
      (aI 2 h2 a3 x1).bind fun x4 =>
      if x4 = 0 then
        f_X15_hole_163 k114 (f_X15_hole_126 k114 n) r0 i1 i2 i3 i4 i5 i7 i8 x1 1 i6 h2
      else
        f_X15_hole_163 k114 (f_X15_hole_126 k114 n) r0 i1 i2 i3 i4 i5 i7 i8 x1 0 i6 h2
set_option maxRecDepth 100000 in
set_option maxHeartbeats 4000000 in
theorem l_X15_hole_126 {X : MX} {l : Launch} {G : GX} {h0 : AH} {rr : Int32} {hr : AH} (C : Cx X G RX15 cX15_hole 10 (some .int) 1 23 h0) (C2 : Cy X l "hole" []) {k114 : Nat → Int32 → Int32 → Int32 → Int32 → Int32 → Int32 → Int32 → AH → Option (Int32 × AH)} (hk114 : ∀ (r0 : Nat) (i1 : Int32) (i2 : Int32) (i3 : Int32) (i4 : Int32) (i5 : Int32) (i6 : Int32) (i7 : Int32) (h : AH), k114 r0 i1 i2 i3 i4 i5 i6 i7 h = some (rr, hr) → V X G h0 (QI rr hr) 114 [(0, .ref r0), (1, .int i1), (2, .int i2), (3, .int i3), (4, .int i4), (5, .int i5), (6, .int i6), (7, .int i7)] [] h) : ∀ (n : Nat) (r0 : Nat) (i1 : Int32) (i2 : Int32) (i3 : Int32) (i4 : Int32) (i5 : Int32) (i6 : Int32) (i7 : Int32) (i8 : Int32) (h : AH), f_X15_hole_126 k114 n r0 i1 i2 i3 i4 i5 i6 i7 i8 h = some (rr, hr) → V X G h0 (QI rr hr) 126 [(0, .ref r0), (1, .int i1), (2, .int i2), (3, .int i3), (4, .int i4), (5, .int i5), (6, .int i6), (7, .int i7), (8, .int i8)] [] h := by
  intro n
  induction n with
  | zero => intro r0 i1 i2 i3 i4 i5 i6 i7 i8 h hf; rw [f_X15_hole_126] at hf; cases hf
  | succ n ih =>
    intro r0 i1 i2 i3 i4 i5 i6 i7 i8 h hf
    rw [f_X15_hole_126] at hf
    refine C.seg (pe := 132) (lv' := [(0, .ref r0), (1, .int i1), (2, .int i2), (3, .int i3), (4, .int i4), (5, .int i5), (6, .int i6), (7, .int i7), (8, .int i8)]) (st' := [.int (i2 + i4), .int i8]) [(.iload 8, 2, 0), (.iload_n 2, 1, 0), (.iload 4, 2, 0), (.iadd, 1, 0)] (by decide +kernel) rfl ?_
    refine C.icmp_ge (off := 56) (tgt := 188) (pf := 135) (by decide +kernel) (by decide) rfl (fun c6 => ?_) (fun c6 => ?_)
    · replace hf := ifp c6 hf
      refine C.seg (pe := 191) (lv' := [(7, .int (i7 + 1)), (0, .ref r0), (1, .int i1), (2, .int i2), (3, .int i3), (4, .int i4), (5, .int i5), (6, .int i6), (8, .int i8)]) (st' := []) [(.iinc 7 1, 3, 1)] (by decide +kernel) rfl ?_
      refine C.goto (off := (-77)) (tgt := 114) (by decide +kernel) (by decide) ?_
      refine Vsub [1, 2, 3, 4, 5, 6, 7, 0] rfl ?_
      exact hk114 r0 i1 i2 i3 i4 i5 i6 (i7 + 1) h hf
    · replace hf := ifn c6 hf
      refine C.seg (pe := 141) (lv' := [(0, .ref r0), (1, .int i1), (2, .int i2), (3, .int i3), (4, .int i4), (5, .int i5), (6, .int i6), (7, .int i7), (8, .int i8)]) (st' := [.int i7, .int i8, .int i1, .ref r0]) [(.aload_n 0, 1, 0), (.iload_n 1, 1, 0), (.iload 8, 2, 0), (.iload 7, 2, 0)] (by decide +kernel) rfl ?_
      obtain ⟨x1, h2, gx1, hf⟩ := b2_some hf
      refine C.callVr C2 [.int i1, .int i8, .int i7] [] mv_2144 rfl (o_X15_cellOf gx1) (w_X15_cellOf gx1) (by omega) (by omega) (Nat.le_of_ble_eq_true rfl) (by decide +kernel) rfl ?_
      refine C.seg (pe := 149) (lv' := [(9, .int x1), (0, .ref r0), (1, .int i1), (2, .int i2), (3, .int i3), (4, .int i4), (5, .int i5), (6, .int i6), (7, .int i7), (8, .int i8)]) (st' := [.ref r0, .int i6]) [(.istore 9, 2, 0), (.iload 6, 2, 0), (.aload_n 0, 1, 0)] (by decide +kernel) rfl ?_
      obtain ⟨a3, ga3, hf⟩ := Option.bind_eq_some_iff.mp hf
      refine C.rdA fr_1803 ga3 (by decide +kernel) rfl ?_
      refine C.seg (pe := 154) (lv' := [(9, .int x1), (0, .ref r0), (1, .int i1), (2, .int i2), (3, .int i3), (4, .int i4), (5, .int i5), (6, .int i6), (7, .int i7), (8, .int i8)]) (st' := [.int x1, .ref a3, .int i6]) [(.iload 9, 2, 0)] (by decide +kernel) rfl ?_
      obtain ⟨x4, gx4, hf⟩ := Option.bind_eq_some_iff.mp hf
      refine C.zald 2 rfl gx4 (by decide +kernel) rfl ?_
      refine C.if_eq (off := 7) (tgt := 162) (pf := 158) (by decide +kernel) (by decide) rfl (fun c5 => ?_) (fun c5 => ?_)
      · replace hf := ifp c5 hf
        refine C.seg (pe := 163) (lv' := [(9, .int x1), (0, .ref r0), (1, .int i1), (2, .int i2), (3, .int i3), (4, .int i4), (5, .int i5), (6, .int i6), (7, .int i7), (8, .int i8)]) (st' := [.int 1, .int i6]) [(.iconst 1, 1, 1)] (by decide +kernel) rfl ?_
        refine Vsub [1, 2, 3, 4, 5, 6, 8, 9, 0] rfl ?_
        exact l_X15_hole_163 C C2 hk114 ih r0 i1 i2 i3 i4 i5 i7 i8 x1 1 i6 h2 hf
      · replace hf := ifn c5 hf
        refine C.seg (pe := 159) (lv' := [(9, .int x1), (0, .ref r0), (1, .int i1), (2, .int i2), (3, .int i3), (4, .int i4), (5, .int i5), (6, .int i6), (7, .int i7), (8, .int i8)]) (st' := [.int 0, .int i6]) [(.iconst 0, 1, 0)] (by decide +kernel) rfl ?_
        refine C.goto (off := 4) (tgt := 163) (by decide +kernel) (by decide) ?_
        refine Vsub [1, 2, 3, 4, 5, 6, 8, 9, 0] rfl ?_
        exact l_X15_hole_163 C C2 hk114 ih r0 i1 i2 i3 i4 i5 i7 i8 x1 0 i6 h2 hf
def f_X15_hole_114 : Nat → Nat → Int32 → Int32 → Int32 → Int32 → Int32 → Int32 → Int32 → AH → Option (Int32 × AH)
  | 0, _, _, _, _, _, _, _, _, _ => none
  | n + 1, r0, i1, i2, i3, i4, i5, i6, i7, h =>
    if i3 + i5 ≤ i7 then
      b2 (f_X15_done r0 i6 h) fun x1 h2 =>
      some (x1, h2)
    else
      f_X15_hole_126 (f_X15_hole_114 n) FU r0 i1 i2 i3 i4 i5 i6 i7 i2 h
set_option maxRecDepth 100000 in
set_option maxHeartbeats 4000000 in
theorem l_X15_hole_114 {X : MX} {l : Launch} {G : GX} {h0 : AH} {rr : Int32} {hr : AH} (C : Cx X G RX15 cX15_hole 10 (some .int) 1 23 h0) (C2 : Cy X l "hole" []) : ∀ (n : Nat) (r0 : Nat) (i1 : Int32) (i2 : Int32) (i3 : Int32) (i4 : Int32) (i5 : Int32) (i6 : Int32) (i7 : Int32) (h : AH), f_X15_hole_114 n r0 i1 i2 i3 i4 i5 i6 i7 h = some (rr, hr) → V X G h0 (QI rr hr) 114 [(0, .ref r0), (1, .int i1), (2, .int i2), (3, .int i3), (4, .int i4), (5, .int i5), (6, .int i6), (7, .int i7)] [] h := by
  intro n
  induction n with
  | zero => intro r0 i1 i2 i3 i4 i5 i6 i7 h hf; rw [f_X15_hole_114] at hf; cases hf
  | succ n ih =>
    intro r0 i1 i2 i3 i4 i5 i6 i7 h hf
    rw [f_X15_hole_114] at hf
    refine C.seg (pe := 120) (lv' := [(0, .ref r0), (1, .int i1), (2, .int i2), (3, .int i3), (4, .int i4), (5, .int i5), (6, .int i6), (7, .int i7)]) (st' := [.int (i3 + i5), .int i7]) [(.iload 7, 2, 0), (.iload_n 3, 1, 0), (.iload 5, 2, 0), (.iadd, 1, 0)] (by decide +kernel) rfl ?_
    refine C.icmp_ge (off := 74) (tgt := 194) (pf := 123) (by decide +kernel) (by decide) rfl (fun c3 => ?_) (fun c3 => ?_)
    · replace hf := ifp c3 hf
      refine C.seg (pe := 197) (lv' := [(0, .ref r0), (1, .int i1), (2, .int i2), (3, .int i3), (4, .int i4), (5, .int i5), (6, .int i6), (7, .int i7)]) (st' := [.int i6, .ref r0]) [(.aload_n 0, 1, 0), (.iload 6, 2, 0)] (by decide +kernel) rfl ?_
      obtain ⟨x1, h2, gx1, hf⟩ := b2_some hf
      refine C.callVr C2 [.int i6] [] mv_2116 rfl (o_X15_done gx1) (w_X15_done gx1) (by omega) (by omega) (Nat.le_of_ble_eq_true rfl) (by decide +kernel) rfl ?_
      cases hf
      exact C.retI rfl (by decide +kernel) ⟨rfl, rfl⟩
    · replace hf := ifn c3 hf
      refine C.seg (pe := 126) (lv' := [(8, .int i2), (0, .ref r0), (1, .int i1), (2, .int i2), (3, .int i3), (4, .int i4), (5, .int i5), (6, .int i6), (7, .int i7)]) (st' := []) [(.iload_n 2, 1, 0), (.istore 8, 2, 0)] (by decide +kernel) rfl ?_
      refine Vsub [1, 2, 3, 4, 5, 6, 7, 8, 0] rfl ?_
      exact l_X15_hole_126 C C2 ih FU r0 i1 i2 i3 i4 i5 i6 i7 i2 h hf
def f_X15_hole_85 (r0 : Nat) (h : AH) : Option (Int32 × AH) :=
  b2 (f_X15_refused r0 2 h) fun x1 h2 =>
  some (x1, h2)
set_option maxRecDepth 100000 in
set_option maxHeartbeats 4000000 in
theorem l_X15_hole_85 {X : MX} {l : Launch} {G : GX} {h0 : AH} {rr : Int32} {hr : AH} (C : Cx X G RX15 cX15_hole 10 (some .int) 1 23 h0) (C2 : Cy X l "hole" []) (r0 : Nat) (h : AH) (hf : f_X15_hole_85 r0 h = some (rr, hr)) : V X G h0 (QI rr hr) 85 [(0, .ref r0)] [] h := by
  unfold f_X15_hole_85 at hf
  refine C.seg (pe := 87) (lv' := [(0, .ref r0)]) (st' := [.int 2, .ref r0]) [(.aload_n 0, 1, 0), (.iconst 2, 1, 2)] (by decide +kernel) rfl ?_
  obtain ⟨x1, h2, gx1, hf⟩ := b2_some hf
  refine C.callVr C2 [.int 2] [] mv_2112 rfl (o_X15_refused gx1) (w_X15_refused gx1) (by omega) (by omega) (Nat.le_of_ble_eq_true rfl) (by decide +kernel) rfl ?_
  cases hf
  exact C.retI rfl (by decide +kernel) ⟨rfl, rfl⟩
def f_X15_hole (a0 : Nat) (p1 : Int32) (p2 : Int32) (p3 : Int32) (p4 : Int32) (p5 : Int32) (h : AH) : Option (Int32 × AH) :=
  if isO 15 h a0 = true then
    (pI 15 h a0 0 0).bind fun h1 =>
    b2 (f_X15_isWall a0 p1 h1) fun x2 h3 =>
    if x2 = 0 then
      b2 (f_X15_refused a0 1 h3) fun x29 h30 =>
      some (x29, h30)
    else
      (gA 15 h3 a0 6).bind fun a4 =>
      (aI 0 h3 a4 p1).bind fun x5 =>
      b2 (f_X15_in p2 0 (x5 - 1) h3) fun x6 h7 =>
      if x6 = 0 then
        f_X15_hole_85 a0 h7
      else
        (gA 15 h7 a0 7).bind fun a8 =>
        (aI 0 h7 a8 p1).bind fun x9 =>
        b2 (f_X15_in p3 0 (x9 - 1) h7) fun x10 h11 =>
        if x10 = 0 then
          f_X15_hole_85 a0 h11
        else
          (gA 15 h11 a0 6).bind fun a12 =>
          (aI 0 h11 a12 p1).bind fun x13 =>
          b2 (f_X15_in p4 1 (x13 - p2) h11) fun x14 h15 =>
          if x14 = 0 then
            f_X15_hole_85 a0 h15
          else
            (gA 15 h15 a0 7).bind fun a16 =>
            (aI 0 h15 a16 p1).bind fun x17 =>
            b2 (f_X15_in p5 1 (x17 - p3) h15) fun x18 h19 =>
            if x18 = 0 then
              f_X15_hole_85 a0 h19
            else
              (gA 15 h19 a0 13).bind fun a20 =>
              (aI 0 h19 a20 p1).bind fun x21 =>
              if x21 = (-2) then
                f_X15_hole_114 FU a0 p1 p2 p3 p4 p5 0 p3 h19
              else
                b2 (f_X15_refused a0 5 h19) fun x22 h23 =>
                some (x22, h23)
  else none
set_option maxRecDepth 100000 in
set_option maxHeartbeats 4000000 in
theorem w_X15_hole {l : Launch} {G : GX} {a0 : Nat} {p1 : Int32} {p2 : Int32} {p3 : Int32} {p4 : Int32} {p5 : Int32} {h : AH} {rr : Int32} {hr : AH} (hf : f_X15_hole a0 p1 p2 p3 p4 p5 h = some (rr, hr)) : Ct l G yX15_hole 1 23 [.ref a0, .int p1, .int p2, .int p3, .int p4, .int p5] h (QI rr hr) := by
  unfold f_X15_hole at hf
  obtain ⟨ho, hf⟩ := ifO hf
  refine Ct_of (own := RX15) (cc := cX15_hole) (nL := 10) (ret := (some .int)) rfl rfl k_2143 (Nat.le_of_ble_eq_true rfl) (fun X C2 C => ?_)
  show V X G h (QI rr hr) 0 [(0, .ref a0), (1, .int p1), (2, .int p2), (3, .int p3), (4, .int p4), (5, .int p5)] [] h
  refine C.seg (pe := 2) (lv' := [(0, .ref a0), (1, .int p1), (2, .int p2), (3, .int p3), (4, .int p4), (5, .int p5)]) (st' := [.int 0, .ref a0]) [(.aload_n 0, 1, 0), (.iconst 0, 1, 0)] (by decide +kernel) rfl ?_
  obtain ⟨h1, gh1, hf⟩ := Option.bind_eq_some_iff.mp hf
  refine C.putI fl_1786 gh1 (by decide +kernel) rfl ?_
  refine C.seg (pe := 7) (lv' := [(0, .ref a0), (1, .int p1), (2, .int p2), (3, .int p3), (4, .int p4), (5, .int p5)]) (st' := [.int p1, .ref a0]) [(.aload_n 0, 1, 0), (.iload_n 1, 1, 0)] (by decide +kernel) rfl ?_
  obtain ⟨x2, h3, gx2, hf⟩ := b2_some hf
  refine C.callVr C2 [.int p1] [] mv_2124 rfl (o_X15_isWall gx2) (w_X15_isWall gx2) (by omega) (by omega) (Nat.le_of_ble_eq_true rfl) (by decide +kernel) rfl ?_
  refine C.if_ne (off := 9) (tgt := 19) (pf := 13) (by decide +kernel) (by decide) rfl (fun c31 => ?_) (fun c31 => ?_)
  · replace hf := ifn c31 hf
    refine C.seg (pe := 22) (lv' := [(0, .ref a0), (1, .int p1), (2, .int p2), (3, .int p3), (4, .int p4), (5, .int p5)]) (st' := [.ref a0, .int 0, .int p2]) [(.iload_n 2, 1, 0), (.iconst 0, 1, 0), (.aload_n 0, 1, 0)] (by decide +kernel) rfl ?_
    obtain ⟨a4, ga4, hf⟩ := Option.bind_eq_some_iff.mp hf
    refine C.rdA fr_1792 ga4 (by decide +kernel) rfl ?_
    refine C.seg (pe := 26) (lv' := [(0, .ref a0), (1, .int p1), (2, .int p2), (3, .int p3), (4, .int p4), (5, .int p5)]) (st' := [.int p1, .ref a4, .int 0, .int p2]) [(.iload_n 1, 1, 0)] (by decide +kernel) rfl ?_
    obtain ⟨x5, gx5, hf⟩ := Option.bind_eq_some_iff.mp hf
    refine C.ald 0 rfl gx5 (by decide +kernel) rfl ?_
    refine C.seg (pe := 29) (lv' := [(0, .ref a0), (1, .int p1), (2, .int p2), (3, .int p3), (4, .int p4), (5, .int p5)]) (st' := [.int (x5 - 1), .int 0, .int p2]) [(.iconst 1, 1, 1), (.isub, 1, 0)] (by decide +kernel) rfl ?_
    obtain ⟨x6, h7, gx6, hf⟩ := b2_some hf
    refine C.callSr C2 [.int p2, .int 0, .int (x5 - 1)] [] ms_2109 rfl (w_X15_in gx6) (by omega) (by omega) (Nat.le_of_ble_eq_true rfl) (by decide +kernel) rfl ?_
    refine C.if_eq (off := 53) (tgt := 85) (pf := 35) (by decide +kernel) (by decide) rfl (fun c28 => ?_) (fun c28 => ?_)
    · replace hf := ifp c28 hf
      refine Vsub [0] rfl ?_
      exact l_X15_hole_85 C C2 a0 h7 hf
    · replace hf := ifn c28 hf
      refine C.seg (pe := 38) (lv' := [(0, .ref a0), (1, .int p1), (2, .int p2), (3, .int p3), (4, .int p4), (5, .int p5)]) (st' := [.ref a0, .int 0, .int p3]) [(.iload_n 3, 1, 0), (.iconst 0, 1, 0), (.aload_n 0, 1, 0)] (by decide +kernel) rfl ?_
      obtain ⟨a8, ga8, hf⟩ := Option.bind_eq_some_iff.mp hf
      refine C.rdA fr_1793 ga8 (by decide +kernel) rfl ?_
      refine C.seg (pe := 42) (lv' := [(0, .ref a0), (1, .int p1), (2, .int p2), (3, .int p3), (4, .int p4), (5, .int p5)]) (st' := [.int p1, .ref a8, .int 0, .int p3]) [(.iload_n 1, 1, 0)] (by decide +kernel) rfl ?_
      obtain ⟨x9, gx9, hf⟩ := Option.bind_eq_some_iff.mp hf
      refine C.ald 0 rfl gx9 (by decide +kernel) rfl ?_
      refine C.seg (pe := 45) (lv' := [(0, .ref a0), (1, .int p1), (2, .int p2), (3, .int p3), (4, .int p4), (5, .int p5)]) (st' := [.int (x9 - 1), .int 0, .int p3]) [(.iconst 1, 1, 1), (.isub, 1, 0)] (by decide +kernel) rfl ?_
      obtain ⟨x10, h11, gx10, hf⟩ := b2_some hf
      refine C.callSr C2 [.int p3, .int 0, .int (x9 - 1)] [] ms_2109 rfl (w_X15_in gx10) (by omega) (by omega) (Nat.le_of_ble_eq_true rfl) (by decide +kernel) rfl ?_
      refine C.if_eq (off := 37) (tgt := 85) (pf := 51) (by decide +kernel) (by decide) rfl (fun c27 => ?_) (fun c27 => ?_)
      · replace hf := ifp c27 hf
        refine Vsub [0] rfl ?_
        exact l_X15_hole_85 C C2 a0 h11 hf
      · replace hf := ifn c27 hf
        refine C.seg (pe := 55) (lv' := [(0, .ref a0), (1, .int p1), (2, .int p2), (3, .int p3), (4, .int p4), (5, .int p5)]) (st' := [.ref a0, .int 1, .int p4]) [(.iload 4, 2, 0), (.iconst 1, 1, 1), (.aload_n 0, 1, 0)] (by decide +kernel) rfl ?_
        obtain ⟨a12, ga12, hf⟩ := Option.bind_eq_some_iff.mp hf
        refine C.rdA fr_1792 ga12 (by decide +kernel) rfl ?_
        refine C.seg (pe := 59) (lv' := [(0, .ref a0), (1, .int p1), (2, .int p2), (3, .int p3), (4, .int p4), (5, .int p5)]) (st' := [.int p1, .ref a12, .int 1, .int p4]) [(.iload_n 1, 1, 0)] (by decide +kernel) rfl ?_
        obtain ⟨x13, gx13, hf⟩ := Option.bind_eq_some_iff.mp hf
        refine C.ald 0 rfl gx13 (by decide +kernel) rfl ?_
        refine C.seg (pe := 62) (lv' := [(0, .ref a0), (1, .int p1), (2, .int p2), (3, .int p3), (4, .int p4), (5, .int p5)]) (st' := [.int (x13 - p2), .int 1, .int p4]) [(.iload_n 2, 1, 0), (.isub, 1, 0)] (by decide +kernel) rfl ?_
        obtain ⟨x14, h15, gx14, hf⟩ := b2_some hf
        refine C.callSr C2 [.int p4, .int 1, .int (x13 - p2)] [] ms_2109 rfl (w_X15_in gx14) (by omega) (by omega) (Nat.le_of_ble_eq_true rfl) (by decide +kernel) rfl ?_
        refine C.if_eq (off := 20) (tgt := 85) (pf := 68) (by decide +kernel) (by decide) rfl (fun c26 => ?_) (fun c26 => ?_)
        · replace hf := ifp c26 hf
          refine Vsub [0] rfl ?_
          exact l_X15_hole_85 C C2 a0 h15 hf
        · replace hf := ifn c26 hf
          refine C.seg (pe := 72) (lv' := [(0, .ref a0), (1, .int p1), (2, .int p2), (3, .int p3), (4, .int p4), (5, .int p5)]) (st' := [.ref a0, .int 1, .int p5]) [(.iload 5, 2, 0), (.iconst 1, 1, 1), (.aload_n 0, 1, 0)] (by decide +kernel) rfl ?_
          obtain ⟨a16, ga16, hf⟩ := Option.bind_eq_some_iff.mp hf
          refine C.rdA fr_1793 ga16 (by decide +kernel) rfl ?_
          refine C.seg (pe := 76) (lv' := [(0, .ref a0), (1, .int p1), (2, .int p2), (3, .int p3), (4, .int p4), (5, .int p5)]) (st' := [.int p1, .ref a16, .int 1, .int p5]) [(.iload_n 1, 1, 0)] (by decide +kernel) rfl ?_
          obtain ⟨x17, gx17, hf⟩ := Option.bind_eq_some_iff.mp hf
          refine C.ald 0 rfl gx17 (by decide +kernel) rfl ?_
          refine C.seg (pe := 79) (lv' := [(0, .ref a0), (1, .int p1), (2, .int p2), (3, .int p3), (4, .int p4), (5, .int p5)]) (st' := [.int (x17 - p3), .int 1, .int p5]) [(.iload_n 3, 1, 0), (.isub, 1, 0)] (by decide +kernel) rfl ?_
          obtain ⟨x18, h19, gx18, hf⟩ := b2_some hf
          refine C.callSr C2 [.int p5, .int 1, .int (x17 - p3)] [] ms_2109 rfl (w_X15_in gx18) (by omega) (by omega) (Nat.le_of_ble_eq_true rfl) (by decide +kernel) rfl ?_
          refine C.if_ne (off := 9) (tgt := 91) (pf := 85) (by decide +kernel) (by decide) rfl (fun c25 => ?_) (fun c25 => ?_)
          · replace hf := ifn c25 hf
            refine C.seg (pe := 92) (lv' := [(0, .ref a0), (1, .int p1), (2, .int p2), (3, .int p3), (4, .int p4), (5, .int p5)]) (st' := [.ref a0]) [(.aload_n 0, 1, 0)] (by decide +kernel) rfl ?_
            obtain ⟨a20, ga20, hf⟩ := Option.bind_eq_some_iff.mp hf
            refine C.rdA fr_1799 ga20 (by decide +kernel) rfl ?_
            refine C.seg (pe := 96) (lv' := [(0, .ref a0), (1, .int p1), (2, .int p2), (3, .int p3), (4, .int p4), (5, .int p5)]) (st' := [.int p1, .ref a20]) [(.iload_n 1, 1, 0)] (by decide +kernel) rfl ?_
            obtain ⟨x21, gx21, hf⟩ := Option.bind_eq_some_iff.mp hf
            refine C.ald 0 rfl gx21 (by decide +kernel) rfl ?_
            refine C.seg (pe := 99) (lv' := [(0, .ref a0), (1, .int p1), (2, .int p2), (3, .int p3), (4, .int p4), (5, .int p5)]) (st' := [.int (-2), .int x21]) [(.bipush (-2), 2, (-2))] (by decide +kernel) rfl ?_
            refine C.icmp_eq (off := 9) (tgt := 108) (pf := 102) (by decide +kernel) (by decide) rfl (fun c24 => ?_) (fun c24 => ?_)
            · replace hf := ifp c24 hf
              refine C.seg (pe := 114) (lv' := [(7, .int p3), (6, .int 0), (0, .ref a0), (1, .int p1), (2, .int p2), (3, .int p3), (4, .int p4), (5, .int p5)]) (st' := []) [(.iconst 0, 1, 0), (.istore 6, 2, 0), (.iload_n 3, 1, 0), (.istore 7, 2, 0)] (by decide +kernel) rfl ?_
              refine Vsub [2, 3, 4, 5, 6, 7, 1, 0] rfl ?_
              exact l_X15_hole_114 C C2 FU a0 p1 p2 p3 p4 p5 0 p3 h19 hf
            · replace hf := ifn c24 hf
              refine C.seg (pe := 104) (lv' := [(0, .ref a0), (1, .int p1), (2, .int p2), (3, .int p3), (4, .int p4), (5, .int p5)]) (st' := [.int 5, .ref a0]) [(.aload_n 0, 1, 0), (.iconst 5, 1, 5)] (by decide +kernel) rfl ?_
              obtain ⟨x22, h23, gx22, hf⟩ := b2_some hf
              refine C.callVr C2 [.int 5] [] mv_2112 rfl (o_X15_refused gx22) (w_X15_refused gx22) (by omega) (by omega) (Nat.le_of_ble_eq_true rfl) (by decide +kernel) rfl ?_
              cases hf
              exact C.retI rfl (by decide +kernel) ⟨rfl, rfl⟩
          · replace hf := ifp c25 hf
            refine Vsub [0] rfl ?_
            exact l_X15_hole_85 C C2 a0 h19 hf
  · replace hf := ifp c31 hf
    refine C.seg (pe := 15) (lv' := [(0, .ref a0), (1, .int p1), (2, .int p2), (3, .int p3), (4, .int p4), (5, .int p5)]) (st' := [.int 1, .ref a0]) [(.aload_n 0, 1, 0), (.iconst 1, 1, 1)] (by decide +kernel) rfl ?_
    obtain ⟨x29, h30, gx29, hf⟩ := b2_some hf
    refine C.callVr C2 [.int 1] [] mv_2112 rfl (o_X15_refused gx29) (w_X15_refused gx29) (by omega) (by omega) (Nat.le_of_ble_eq_true rfl) (by decide +kernel) rfl ?_
    cases hf
    exact C.retI rfl (by decide +kernel) ⟨rfl, rfl⟩
theorem o_X15_hole {a0 : Nat} {p1 : Int32} {p2 : Int32} {p3 : Int32} {p4 : Int32} {p5 : Int32} {h : AH} {rr : Int32} {hr : AH} (hf : f_X15_hole a0 p1 p2 p3 p4 p5 h = some (rr, hr)) : isO 15 h a0 = true := by
  unfold f_X15_hole at hf
  exact (ifO hf).1
/-! WallHouseModel.denied(I)Z -/
def f_X15_denied (a0 : Nat) (p1 : Int32) (h : AH) : Option (Int32 × AH) :=
  if isO 15 h a0 = true then
    (pI 15 h a0 1 p1).bind fun h1 =>
    (pI 15 h1 a0 2 (-1)).bind fun h2 =>
    some (0, h2)
  else none
set_option maxRecDepth 100000 in
set_option maxHeartbeats 4000000 in
theorem w_X15_denied {l : Launch} {G : GX} {a0 : Nat} {p1 : Int32} {h : AH} {rr : Int32} {hr : AH} (hf : f_X15_denied a0 p1 h = some (rr, hr)) : Ct l G yX15_denied 0 0 [.ref a0, .int p1] h (QI rr hr) := by
  unfold f_X15_denied at hf
  obtain ⟨ho, hf⟩ := ifO hf
  refine Ct_of (own := RX15) (cc := cX15_denied) (nL := 2) (ret := (some .boolean)) rfl rfl k_2155 (Nat.le_of_ble_eq_true rfl) (fun X C2 C => ?_)
  show V X G h (QI rr hr) 0 [(0, .ref a0), (1, .int p1)] [] h
  refine C.seg (pe := 2) (lv' := [(0, .ref a0), (1, .int p1)]) (st' := [.int p1, .ref a0]) [(.aload_n 0, 1, 0), (.iload_n 1, 1, 0)] (by decide +kernel) rfl ?_
  obtain ⟨h1, gh1, hf⟩ := Option.bind_eq_some_iff.mp hf
  refine C.putI fl_1787 gh1 (by decide +kernel) rfl ?_
  refine C.seg (pe := 7) (lv' := [(0, .ref a0), (1, .int p1)]) (st' := [.int (-1), .ref a0]) [(.aload_n 0, 1, 0), (.iconst (-1), 1, (-1))] (by decide +kernel) rfl ?_
  obtain ⟨h2, gh2, hf⟩ := Option.bind_eq_some_iff.mp hf
  refine C.putI fl_1788 gh2 (by decide +kernel) rfl ?_
  refine C.seg (pe := 11) (lv' := [(0, .ref a0), (1, .int p1)]) (st' := [.int 0]) [(.iconst 0, 1, 0)] (by decide +kernel) rfl ?_
  cases hf
  exact C.retZ rfl (by decide) (by decide +kernel) ⟨rfl, rfl⟩
theorem o_X15_denied {a0 : Nat} {p1 : Int32} {h : AH} {rr : Int32} {hr : AH} (hf : f_X15_denied a0 p1 h = some (rr, hr)) : isO 15 h a0 = true := by
  unfold f_X15_denied at hf
  exact (ifO hf).1
/-! WallHouseModel.granted()Z -/
def f_X15_granted (a0 : Nat) (h : AH) : Option (Int32 × AH) :=
  if isO 15 h a0 = true then
    (pI 15 h a0 1 0).bind fun h1 =>
    (pI 15 h1 a0 2 (-1)).bind fun h2 =>
    some (1, h2)
  else none
set_option maxRecDepth 100000 in
set_option maxHeartbeats 4000000 in
theorem w_X15_granted {l : Launch} {G : GX} {a0 : Nat} {h : AH} {rr : Int32} {hr : AH} (hf : f_X15_granted a0 h = some (rr, hr)) : Ct l G yX15_granted 0 0 [.ref a0] h (QI rr hr) := by
  unfold f_X15_granted at hf
  obtain ⟨ho, hf⟩ := ifO hf
  refine Ct_of (own := RX15) (cc := cX15_granted) (nL := 1) (ret := (some .boolean)) rfl rfl k_2159 (Nat.le_of_ble_eq_true rfl) (fun X C2 C => ?_)
  show V X G h (QI rr hr) 0 [(0, .ref a0)] [] h
  refine C.seg (pe := 2) (lv' := [(0, .ref a0)]) (st' := [.int 0, .ref a0]) [(.aload_n 0, 1, 0), (.iconst 0, 1, 0)] (by decide +kernel) rfl ?_
  obtain ⟨h1, gh1, hf⟩ := Option.bind_eq_some_iff.mp hf
  refine C.putI fl_1787 gh1 (by decide +kernel) rfl ?_
  refine C.seg (pe := 7) (lv' := [(0, .ref a0)]) (st' := [.int (-1), .ref a0]) [(.aload_n 0, 1, 0), (.iconst (-1), 1, (-1))] (by decide +kernel) rfl ?_
  obtain ⟨h2, gh2, hf⟩ := Option.bind_eq_some_iff.mp hf
  refine C.putI fl_1788 gh2 (by decide +kernel) rfl ?_
  refine C.seg (pe := 11) (lv' := [(0, .ref a0)]) (st' := [.int 1]) [(.iconst 1, 1, 1)] (by decide +kernel) rfl ?_
  cases hf
  exact C.retZ rfl (by decide) (by decide +kernel) ⟨rfl, rfl⟩
theorem o_X15_granted {a0 : Nat} {h : AH} {rr : Int32} {hr : AH} (hf : f_X15_granted a0 h = some (rr, hr)) : isO 15 h a0 = true := by
  unfold f_X15_granted at hf
  exact (ifO hf).1
/-! WallHouseModel.leave(IIIZ)Z -/
def f_X15_leave_39 (r0 : Nat) (h : AH) : Option (Int32 × AH) :=
  b2 (f_X15_denied r0 2 h) fun x1 h2 =>
  (ckZ x1).bind fun x3 =>
  some (x3, h2)
set_option maxRecDepth 100000 in
set_option maxHeartbeats 4000000 in
theorem l_X15_leave_39 {X : MX} {l : Launch} {G : GX} {h0 : AH} {rr : Int32} {hr : AH} (C : Cx X G RX15 cX15_leave 5 (some .boolean) 1 22 h0) (C2 : Cy X l "leave" []) (r0 : Nat) (h : AH) (hf : f_X15_leave_39 r0 h = some (rr, hr)) : V X G h0 (QI rr hr) 39 [(0, .ref r0)] [] h := by
  unfold f_X15_leave_39 at hf
  refine C.seg (pe := 41) (lv' := [(0, .ref r0)]) (st' := [.int 2, .ref r0]) [(.aload_n 0, 1, 0), (.iconst 2, 1, 2)] (by decide +kernel) rfl ?_
  obtain ⟨x1, h2, gx1, hf⟩ := b2_some hf
  refine C.callVr C2 [.int 2] [] mv_2152 rfl (o_X15_denied gx1) (w_X15_denied gx1) (by omega) (by omega) (Nat.le_of_ble_eq_true rfl) (by decide +kernel) rfl ?_
  obtain ⟨x3, gx3, hf⟩ := Option.bind_eq_some_iff.mp hf
  have ex3 := ckZ_eq gx3
  subst ex3
  cases hf
  exact C.retZ rfl gx3 (by decide +kernel) ⟨rfl, rfl⟩
def f_X15_leave (a0 : Nat) (p1 : Int32) (p2 : Int32) (p3 : Int32) (p4 : Int32) (h : AH) : Option (Int32 × AH) :=
  if isO 15 h a0 = true then
    (pI 15 h a0 0 0).bind fun h1 =>
    b2 (f_X15_isWall a0 p1 h1) fun x2 h3 =>
    if x2 = 0 then
      b2 (f_X15_denied a0 1 h3) fun x19 h20 =>
      (ckZ x19).bind fun x21 =>
      some (x21, h20)
    else
      b2 (f_X15_in p2 0 9 h3) fun x4 h5 =>
      if x4 = 0 then
        f_X15_leave_39 a0 h5
      else
        b2 (f_X15_in p3 p2 9 h5) fun x6 h7 =>
        if x6 = 0 then
          f_X15_leave_39 a0 h7
        else
          (gA 15 h7 a0 10).bind fun a8 =>
          (sI 0 h7 a8 p1 p2).bind fun h9 =>
          (gA 15 h9 a0 11).bind fun a10 =>
          (sI 0 h9 a10 p1 p3).bind fun h11 =>
          (gA 15 h11 a0 16).bind fun a12 =>
          (sI 2 h11 a12 p1 p4).bind fun h13 =>
          b2 (f_X15_granted a0 h13) fun x14 h15 =>
          (ckZ x14).bind fun x16 =>
          some (x16, h15)
  else none
set_option maxRecDepth 100000 in
set_option maxHeartbeats 4000000 in
theorem w_X15_leave {l : Launch} {G : GX} {a0 : Nat} {p1 : Int32} {p2 : Int32} {p3 : Int32} {p4 : Int32} {h : AH} {rr : Int32} {hr : AH} (hf : f_X15_leave a0 p1 p2 p3 p4 h = some (rr, hr)) : Ct l G yX15_leave 1 22 [.ref a0, .int p1, .int p2, .int p3, .int p4] h (QI rr hr) := by
  unfold f_X15_leave at hf
  obtain ⟨ho, hf⟩ := ifO hf
  refine Ct_of (own := RX15) (cc := cX15_leave) (nL := 5) (ret := (some .boolean)) rfl rfl k_2151 (Nat.le_of_ble_eq_true rfl) (fun X C2 C => ?_)
  show V X G h (QI rr hr) 0 [(0, .ref a0), (1, .int p1), (2, .int p2), (3, .int p3), (4, .int p4)] [] h
  refine C.seg (pe := 2) (lv' := [(0, .ref a0), (1, .int p1), (2, .int p2), (3, .int p3), (4, .int p4)]) (st' := [.int 0, .ref a0]) [(.aload_n 0, 1, 0), (.iconst 0, 1, 0)] (by decide +kernel) rfl ?_
  obtain ⟨h1, gh1, hf⟩ := Option.bind_eq_some_iff.mp hf
  refine C.putI fl_1786 gh1 (by decide +kernel) rfl ?_
  refine C.seg (pe := 7) (lv' := [(0, .ref a0), (1, .int p1), (2, .int p2), (3, .int p3), (4, .int p4)]) (st' := [.int p1, .ref a0]) [(.aload_n 0, 1, 0), (.iload_n 1, 1, 0)] (by decide +kernel) rfl ?_
  obtain ⟨x2, h3, gx2, hf⟩ := b2_some hf
  refine C.callVr C2 [.int p1] [] mv_2124 rfl (o_X15_isWall gx2) (w_X15_isWall gx2) (by omega) (by omega) (Nat.le_of_ble_eq_true rfl) (by decide +kernel) rfl ?_
  refine C.if_ne (off := 9) (tgt := 19) (pf := 13) (by decide +kernel) (by decide) rfl (fun c22 => ?_) (fun c22 => ?_)
  · replace hf := ifn c22 hf
    refine C.seg (pe := 23) (lv' := [(0, .ref a0), (1, .int p1), (2, .int p2), (3, .int p3), (4, .int p4)]) (st' := [.int 9, .int 0, .int p2]) [(.iload_n 2, 1, 0), (.iconst 0, 1, 0), (.bipush 9, 2, 9)] (by decide +kernel) rfl ?_
    obtain ⟨x4, h5, gx4, hf⟩ := b2_some hf
    refine C.callSr C2 [.int p2, .int 0, .int 9] [] ms_2109 rfl (w_X15_in gx4) (by omega) (by omega) (Nat.le_of_ble_eq_true rfl) (by decide +kernel) rfl ?_
    refine C.if_eq (off := 13) (tgt := 39) (pf := 29) (by decide +kernel) (by decide) rfl (fun c18 => ?_) (fun c18 => ?_)
    · replace hf := ifp c18 hf
      refine Vsub [0] rfl ?_
      exact l_X15_leave_39 C C2 a0 h5 hf
    · replace hf := ifn c18 hf
      refine C.seg (pe := 33) (lv' := [(0, .ref a0), (1, .int p1), (2, .int p2), (3, .int p3), (4, .int p4)]) (st' := [.int 9, .int p2, .int p3]) [(.iload_n 3, 1, 0), (.iload_n 2, 1, 0), (.bipush 9, 2, 9)] (by decide +kernel) rfl ?_
      obtain ⟨x6, h7, gx6, hf⟩ := b2_some hf
      refine C.callSr C2 [.int p3, .int p2, .int 9] [] ms_2109 rfl (w_X15_in gx6) (by omega) (by omega) (Nat.le_of_ble_eq_true rfl) (by decide +kernel) rfl ?_
      refine C.if_ne (off := 9) (tgt := 45) (pf := 39) (by decide +kernel) (by decide) rfl (fun c17 => ?_) (fun c17 => ?_)
      · replace hf := ifn c17 hf
        refine C.seg (pe := 46) (lv' := [(0, .ref a0), (1, .int p1), (2, .int p2), (3, .int p3), (4, .int p4)]) (st' := [.ref a0]) [(.aload_n 0, 1, 0)] (by decide +kernel) rfl ?_
        obtain ⟨a8, ga8, hf⟩ := Option.bind_eq_some_iff.mp hf
        refine C.rdA fr_1796 ga8 (by decide +kernel) rfl ?_
        refine C.seg (pe := 51) (lv' := [(0, .ref a0), (1, .int p1), (2, .int p2), (3, .int p3), (4, .int p4)]) (st' := [.int p2, .int p1, .ref a8]) [(.iload_n 1, 1, 0), (.iload_n 2, 1, 0)] (by decide +kernel) rfl ?_
        obtain ⟨h9, gh9, hf⟩ := Option.bind_eq_some_iff.mp hf
        refine C.ast gh9 (by decide +kernel) rfl ?_
        refine C.seg (pe := 53) (lv' := [(0, .ref a0), (1, .int p1), (2, .int p2), (3, .int p3), (4, .int p4)]) (st' := [.ref a0]) [(.aload_n 0, 1, 0)] (by decide +kernel) rfl ?_
        obtain ⟨a10, ga10, hf⟩ := Option.bind_eq_some_iff.mp hf
        refine C.rdA fr_1797 ga10 (by decide +kernel) rfl ?_
        refine C.seg (pe := 58) (lv' := [(0, .ref a0), (1, .int p1), (2, .int p2), (3, .int p3), (4, .int p4)]) (st' := [.int p3, .int p1, .ref a10]) [(.iload_n 1, 1, 0), (.iload_n 3, 1, 0)] (by decide +kernel) rfl ?_
        obtain ⟨h11, gh11, hf⟩ := Option.bind_eq_some_iff.mp hf
        refine C.ast gh11 (by decide +kernel) rfl ?_
        refine C.seg (pe := 60) (lv' := [(0, .ref a0), (1, .int p1), (2, .int p2), (3, .int p3), (4, .int p4)]) (st' := [.ref a0]) [(.aload_n 0, 1, 0)] (by decide +kernel) rfl ?_
        obtain ⟨a12, ga12, hf⟩ := Option.bind_eq_some_iff.mp hf
        refine C.rdA fr_1802 ga12 (by decide +kernel) rfl ?_
        refine C.seg (pe := 66) (lv' := [(0, .ref a0), (1, .int p1), (2, .int p2), (3, .int p3), (4, .int p4)]) (st' := [.int p4, .int p1, .ref a12]) [(.iload_n 1, 1, 0), (.iload 4, 2, 0)] (by decide +kernel) rfl ?_
        obtain ⟨h13, gh13, hf⟩ := Option.bind_eq_some_iff.mp hf
        refine C.zast gh13 (by decide +kernel) rfl ?_
        refine C.seg (pe := 68) (lv' := [(0, .ref a0), (1, .int p1), (2, .int p2), (3, .int p3), (4, .int p4)]) (st' := [.ref a0]) [(.aload_n 0, 1, 0)] (by decide +kernel) rfl ?_
        obtain ⟨x14, h15, gx14, hf⟩ := b2_some hf
        refine C.callVr C2 [] [] mv_2156 rfl (o_X15_granted gx14) (w_X15_granted gx14) (by omega) (by omega) (Nat.le_of_ble_eq_true rfl) (by decide +kernel) rfl ?_
        obtain ⟨x16, gx16, hf⟩ := Option.bind_eq_some_iff.mp hf
        have ex16 := ckZ_eq gx16
        subst ex16
        cases hf
        exact C.retZ rfl gx16 (by decide +kernel) ⟨rfl, rfl⟩
      · replace hf := ifp c17 hf
        refine Vsub [0] rfl ?_
        exact l_X15_leave_39 C C2 a0 h7 hf
  · replace hf := ifp c22 hf
    refine C.seg (pe := 15) (lv' := [(0, .ref a0), (1, .int p1), (2, .int p2), (3, .int p3), (4, .int p4)]) (st' := [.int 1, .ref a0]) [(.aload_n 0, 1, 0), (.iconst 1, 1, 1)] (by decide +kernel) rfl ?_
    obtain ⟨x19, h20, gx19, hf⟩ := b2_some hf
    refine C.callVr C2 [.int 1] [] mv_2152 rfl (o_X15_denied gx19) (w_X15_denied gx19) (by omega) (by omega) (Nat.le_of_ble_eq_true rfl) (by decide +kernel) rfl ?_
    obtain ⟨x21, gx21, hf⟩ := Option.bind_eq_some_iff.mp hf
    have ex21 := ckZ_eq gx21
    subst ex21
    cases hf
    exact C.retZ rfl gx21 (by decide +kernel) ⟨rfl, rfl⟩
theorem o_X15_leave {a0 : Nat} {p1 : Int32} {p2 : Int32} {p3 : Int32} {p4 : Int32} {h : AH} {rr : Int32} {hr : AH} (hf : f_X15_leave a0 p1 p2 p3 p4 h = some (rr, hr)) : isO 15 h a0 = true := by
  unfold f_X15_leave at hf
  exact (ifO hf).1
/-! WallHouseModel.sold(II)Z -/
def f_X15_sold_72 (r0 : Nat) (h : AH) : Option (Int32 × AH) :=
  b2 (f_X15_granted r0 h) fun x1 h2 =>
  (ckZ x1).bind fun x3 =>
  some (x3, h2)
set_option maxRecDepth 100000 in
set_option maxHeartbeats 4000000 in
theorem l_X15_sold_72 {X : MX} {l : Launch} {G : GX} {h0 : AH} {rr : Int32} {hr : AH} (C : Cx X G RX15 cX15_sold 3 (some .boolean) 1 40 h0) (C2 : Cy X l "sold" []) (r0 : Nat) (h : AH) (hf : f_X15_sold_72 r0 h = some (rr, hr)) : V X G h0 (QI rr hr) 72 [(0, .ref r0)] [] h := by
  unfold f_X15_sold_72 at hf
  refine C.seg (pe := 73) (lv' := [(0, .ref r0)]) (st' := [.ref r0]) [(.aload_n 0, 1, 0)] (by decide +kernel) rfl ?_
  obtain ⟨x1, h2, gx1, hf⟩ := b2_some hf
  refine C.callVr C2 [] [] mv_2156 rfl (o_X15_granted gx1) (w_X15_granted gx1) (by omega) (by omega) (Nat.le_of_ble_eq_true rfl) (by decide +kernel) rfl ?_
  obtain ⟨x3, gx3, hf⟩ := Option.bind_eq_some_iff.mp hf
  have ex3 := ckZ_eq gx3
  subst ex3
  cases hf
  exact C.retZ rfl gx3 (by decide +kernel) ⟨rfl, rfl⟩
def f_X15_sold (a0 : Nat) (p1 : Int32) (p2 : Int32) (h : AH) : Option (Int32 × AH) :=
  if isO 15 h a0 = true then
    (pI 15 h a0 0 0).bind fun h1 =>
    b2 (f_X15_isWall a0 p1 h1) fun x2 h3 =>
    if x2 = 0 then
      b2 (f_X15_denied a0 1 h3) fun x21 h22 =>
      (ckZ x21).bind fun x23 =>
      some (x23, h22)
    else
      b2 (f_X15_in p2 0 99 h3) fun x4 h5 =>
      if x4 = 0 then
        b2 (f_X15_denied a0 2 h5) fun x17 h18 =>
        (ckZ x17).bind fun x19 =>
        some (x19, h18)
      else
        (gA 15 h5 a0 9).bind fun a6 =>
        (sI 0 h5 a6 p1 p2).bind fun h7 =>
        (gA 15 h7 a0 16).bind fun a8 =>
        (aI 2 h7 a8 p1).bind fun x9 =>
        if x9 = 0 then
          (gA 15 h7 a0 11).bind fun a10 =>
          (gA 15 h7 a0 11).bind fun a11 =>
          (aI 0 h7 a11 p1).bind fun x12 =>
          b2 (f_X15_year a0 h7) fun x13 h14 =>
          (sI 0 h14 a10 p1 (mnI x12 (x13 - 1))).bind fun h15 =>
          f_X15_sold_72 a0 h15
        else
          f_X15_sold_72 a0 h7
  else none
set_option maxRecDepth 100000 in
set_option maxHeartbeats 4000000 in
theorem w_X15_sold {l : Launch} {G : GX} {a0 : Nat} {p1 : Int32} {p2 : Int32} {h : AH} {rr : Int32} {hr : AH} (hf : f_X15_sold a0 p1 p2 h = some (rr, hr)) : Ct l G yX15_sold 1 40 [.ref a0, .int p1, .int p2] h (QI rr hr) := by
  unfold f_X15_sold at hf
  obtain ⟨ho, hf⟩ := ifO hf
  refine Ct_of (own := RX15) (cc := cX15_sold) (nL := 3) (ret := (some .boolean)) rfl rfl k_2163 (Nat.le_of_ble_eq_true rfl) (fun X C2 C => ?_)
  show V X G h (QI rr hr) 0 [(0, .ref a0), (1, .int p1), (2, .int p2)] [] h
  refine C.seg (pe := 2) (lv' := [(0, .ref a0), (1, .int p1), (2, .int p2)]) (st' := [.int 0, .ref a0]) [(.aload_n 0, 1, 0), (.iconst 0, 1, 0)] (by decide +kernel) rfl ?_
  obtain ⟨h1, gh1, hf⟩ := Option.bind_eq_some_iff.mp hf
  refine C.putI fl_1786 gh1 (by decide +kernel) rfl ?_
  refine C.seg (pe := 7) (lv' := [(0, .ref a0), (1, .int p1), (2, .int p2)]) (st' := [.int p1, .ref a0]) [(.aload_n 0, 1, 0), (.iload_n 1, 1, 0)] (by decide +kernel) rfl ?_
  obtain ⟨x2, h3, gx2, hf⟩ := b2_some hf
  refine C.callVr C2 [.int p1] [] mv_2124 rfl (o_X15_isWall gx2) (w_X15_isWall gx2) (by omega) (by omega) (Nat.le_of_ble_eq_true rfl) (by decide +kernel) rfl ?_
  refine C.if_ne (off := 9) (tgt := 19) (pf := 13) (by decide +kernel) (by decide) rfl (fun c24 => ?_) (fun c24 => ?_)
  · replace hf := ifn c24 hf
    refine C.seg (pe := 23) (lv' := [(0, .ref a0), (1, .int p1), (2, .int p2)]) (st' := [.int 99, .int 0, .int p2]) [(.iload_n 2, 1, 0), (.iconst 0, 1, 0), (.bipush 99, 2, 99)] (by decide +kernel) rfl ?_
    obtain ⟨x4, h5, gx4, hf⟩ := b2_some hf
    refine C.callSr C2 [.int p2, .int 0, .int 99] [] ms_2109 rfl (w_X15_in gx4) (by omega) (by omega) (Nat.le_of_ble_eq_true rfl) (by decide +kernel) rfl ?_
    refine C.if_ne (off := 9) (tgt := 35) (pf := 29) (by decide +kernel) (by decide) rfl (fun c20 => ?_) (fun c20 => ?_)
    · replace hf := ifn c20 hf
      refine C.seg (pe := 36) (lv' := [(0, .ref a0), (1, .int p1), (2, .int p2)]) (st' := [.ref a0]) [(.aload_n 0, 1, 0)] (by decide +kernel) rfl ?_
      obtain ⟨a6, ga6, hf⟩ := Option.bind_eq_some_iff.mp hf
      refine C.rdA fr_1795 ga6 (by decide +kernel) rfl ?_
      refine C.seg (pe := 41) (lv' := [(0, .ref a0), (1, .int p1), (2, .int p2)]) (st' := [.int p2, .int p1, .ref a6]) [(.iload_n 1, 1, 0), (.iload_n 2, 1, 0)] (by decide +kernel) rfl ?_
      obtain ⟨h7, gh7, hf⟩ := Option.bind_eq_some_iff.mp hf
      refine C.ast gh7 (by decide +kernel) rfl ?_
      refine C.seg (pe := 43) (lv' := [(0, .ref a0), (1, .int p1), (2, .int p2)]) (st' := [.ref a0]) [(.aload_n 0, 1, 0)] (by decide +kernel) rfl ?_
      obtain ⟨a8, ga8, hf⟩ := Option.bind_eq_some_iff.mp hf
      refine C.rdA fr_1802 ga8 (by decide +kernel) rfl ?_
      refine C.seg (pe := 47) (lv' := [(0, .ref a0), (1, .int p1), (2, .int p2)]) (st' := [.int p1, .ref a8]) [(.iload_n 1, 1, 0)] (by decide +kernel) rfl ?_
      obtain ⟨x9, gx9, hf⟩ := Option.bind_eq_some_iff.mp hf
      refine C.zald 2 rfl gx9 (by decide +kernel) rfl ?_
      refine C.if_ne (off := 24) (tgt := 72) (pf := 51) (by decide +kernel) (by decide) rfl (fun c16 => ?_) (fun c16 => ?_)
      · replace hf := ifn c16 hf
        refine Vsub [0] rfl ?_
        exact l_X15_sold_72 C C2 a0 h7 hf
      · replace hf := ifp c16 hf
        refine C.seg (pe := 52) (lv' := [(0, .ref a0), (1, .int p1), (2, .int p2)]) (st' := [.ref a0]) [(.aload_n 0, 1, 0)] (by decide +kernel) rfl ?_
        obtain ⟨a10, ga10, hf⟩ := Option.bind_eq_some_iff.mp hf
        refine C.rdA fr_1797 ga10 (by decide +kernel) rfl ?_
        refine C.seg (pe := 57) (lv' := [(0, .ref a0), (1, .int p1), (2, .int p2)]) (st' := [.ref a0, .int p1, .ref a10]) [(.iload_n 1, 1, 0), (.aload_n 0, 1, 0)] (by decide +kernel) rfl ?_
        obtain ⟨a11, ga11, hf⟩ := Option.bind_eq_some_iff.mp hf
        refine C.rdA fr_1797 ga11 (by decide +kernel) rfl ?_
        refine C.seg (pe := 61) (lv' := [(0, .ref a0), (1, .int p1), (2, .int p2)]) (st' := [.int p1, .ref a11, .int p1, .ref a10]) [(.iload_n 1, 1, 0)] (by decide +kernel) rfl ?_
        obtain ⟨x12, gx12, hf⟩ := Option.bind_eq_some_iff.mp hf
        refine C.ald 0 rfl gx12 (by decide +kernel) rfl ?_
        refine C.seg (pe := 63) (lv' := [(0, .ref a0), (1, .int p1), (2, .int p2)]) (st' := [.ref a0, .int x12, .int p1, .ref a10]) [(.aload_n 0, 1, 0)] (by decide +kernel) rfl ?_
        obtain ⟨x13, h14, gx13, hf⟩ := b2_some hf
        refine C.callVr C2 [] [.int x12, .int p1, .ref a10] mv_2132 rfl (o_X15_year gx13) (w_X15_year gx13) (by omega) (by omega) (Nat.le_of_ble_eq_true rfl) (by decide +kernel) rfl ?_
        refine C.seg (pe := 68) (lv' := [(0, .ref a0), (1, .int p1), (2, .int p2)]) (st' := [.int (x13 - 1), .int x12, .int p1, .ref a10]) [(.iconst 1, 1, 1), (.isub, 1, 0)] (by decide +kernel) rfl ?_
        refine C.mmin k_2164 k_639 k_137 k_640 (by omega) (by omega) (Nat.le_of_ble_eq_true rfl) (by decide +kernel) rfl ?_
        obtain ⟨h15, gh15, hf⟩ := Option.bind_eq_some_iff.mp hf
        refine C.ast gh15 (by decide +kernel) rfl ?_
        refine Vsub [0] rfl ?_
        exact l_X15_sold_72 C C2 a0 h15 hf
    · replace hf := ifp c20 hf
      refine C.seg (pe := 31) (lv' := [(0, .ref a0), (1, .int p1), (2, .int p2)]) (st' := [.int 2, .ref a0]) [(.aload_n 0, 1, 0), (.iconst 2, 1, 2)] (by decide +kernel) rfl ?_
      obtain ⟨x17, h18, gx17, hf⟩ := b2_some hf
      refine C.callVr C2 [.int 2] [] mv_2152 rfl (o_X15_denied gx17) (w_X15_denied gx17) (by omega) (by omega) (Nat.le_of_ble_eq_true rfl) (by decide +kernel) rfl ?_
      obtain ⟨x19, gx19, hf⟩ := Option.bind_eq_some_iff.mp hf
      have ex19 := ckZ_eq gx19
      subst ex19
      cases hf
      exact C.retZ rfl gx19 (by decide +kernel) ⟨rfl, rfl⟩
  · replace hf := ifp c24 hf
    refine C.seg (pe := 15) (lv' := [(0, .ref a0), (1, .int p1), (2, .int p2)]) (st' := [.int 1, .ref a0]) [(.aload_n 0, 1, 0), (.iconst 1, 1, 1)] (by decide +kernel) rfl ?_
    obtain ⟨x21, h22, gx21, hf⟩ := b2_some hf
    refine C.callVr C2 [.int 1] [] mv_2152 rfl (o_X15_denied gx21) (w_X15_denied gx21) (by omega) (by omega) (Nat.le_of_ble_eq_true rfl) (by decide +kernel) rfl ?_
    obtain ⟨x23, gx23, hf⟩ := Option.bind_eq_some_iff.mp hf
    have ex23 := ckZ_eq gx23
    subst ex23
    cases hf
    exact C.retZ rfl gx23 (by decide +kernel) ⟨rfl, rfl⟩
theorem o_X15_sold {a0 : Nat} {p1 : Int32} {p2 : Int32} {h : AH} {rr : Int32} {hr : AH} (hf : f_X15_sold a0 p1 p2 h = some (rr, hr)) : isO 15 h a0 = true := by
  unfold f_X15_sold at hf
  exact (ifO hf).1
/-! WallHouseModel.beside(IIZ)Z -/
def f_X15_beside_26 (r0 : Nat) (h : AH) : Option (Int32 × AH) :=
  b2 (f_X15_denied r0 1 h) fun x1 h2 =>
  (ckZ x1).bind fun x3 =>
  some (x3, h2)
set_option maxRecDepth 100000 in
set_option maxHeartbeats 4000000 in
theorem l_X15_beside_26 {X : MX} {l : Launch} {G : GX} {h0 : AH} {rr : Int32} {hr : AH} (C : Cx X G RX15 cX15_beside 4 (some .boolean) 1 21 h0) (C2 : Cy X l "beside" []) (r0 : Nat) (h : AH) (hf : f_X15_beside_26 r0 h = some (rr, hr)) : V X G h0 (QI rr hr) 26 [(0, .ref r0)] [] h := by
  unfold f_X15_beside_26 at hf
  refine C.seg (pe := 28) (lv' := [(0, .ref r0)]) (st' := [.int 1, .ref r0]) [(.aload_n 0, 1, 0), (.iconst 1, 1, 1)] (by decide +kernel) rfl ?_
  obtain ⟨x1, h2, gx1, hf⟩ := b2_some hf
  refine C.callVr C2 [.int 1] [] mv_2152 rfl (o_X15_denied gx1) (w_X15_denied gx1) (by omega) (by omega) (Nat.le_of_ble_eq_true rfl) (by decide +kernel) rfl ?_
  obtain ⟨x3, gx3, hf⟩ := Option.bind_eq_some_iff.mp hf
  have ex3 := ckZ_eq gx3
  subst ex3
  cases hf
  exact C.retZ rfl gx3 (by decide +kernel) ⟨rfl, rfl⟩
def f_X15_beside (a0 : Nat) (p1 : Int32) (p2 : Int32) (p3 : Int32) (h : AH) : Option (Int32 × AH) :=
  if isO 15 h a0 = true then
    (pI 15 h a0 0 0).bind fun h1 =>
    b2 (f_X15_isWall a0 p1 h1) fun x2 h3 =>
    if x2 = 0 then
      f_X15_beside_26 a0 h3
    else
      b2 (f_X15_isWall a0 p2 h3) fun x4 h5 =>
      if x4 = 0 then
        f_X15_beside_26 a0 h5
      else
        if p1 = p2 then
          f_X15_beside_26 a0 h5
        else
          (gA 15 h5 a0 18).bind fun a6 =>
          (sI 2 h5 a6 ((16 * p1) + p2) p3).bind fun h7 =>
          (gA 15 h7 a0 18).bind fun a8 =>
          (sI 2 h7 a8 ((16 * p2) + p1) p3).bind fun h9 =>
          b2 (f_X15_granted a0 h9) fun x10 h11 =>
          (ckZ x10).bind fun x12 =>
          some (x12, h11)
  else none
set_option maxRecDepth 100000 in
set_option maxHeartbeats 4000000 in
theorem w_X15_beside {l : Launch} {G : GX} {a0 : Nat} {p1 : Int32} {p2 : Int32} {p3 : Int32} {h : AH} {rr : Int32} {hr : AH} (hf : f_X15_beside a0 p1 p2 p3 h = some (rr, hr)) : Ct l G yX15_beside 1 21 [.ref a0, .int p1, .int p2, .int p3] h (QI rr hr) := by
  unfold f_X15_beside at hf
  obtain ⟨ho, hf⟩ := ifO hf
  refine Ct_of (own := RX15) (cc := cX15_beside) (nL := 4) (ret := (some .boolean)) rfl rfl k_2168 (Nat.le_of_ble_eq_true rfl) (fun X C2 C => ?_)
  show V X G h (QI rr hr) 0 [(0, .ref a0), (1, .int p1), (2, .int p2), (3, .int p3)] [] h
  refine C.seg (pe := 2) (lv' := [(0, .ref a0), (1, .int p1), (2, .int p2), (3, .int p3)]) (st' := [.int 0, .ref a0]) [(.aload_n 0, 1, 0), (.iconst 0, 1, 0)] (by decide +kernel) rfl ?_
  obtain ⟨h1, gh1, hf⟩ := Option.bind_eq_some_iff.mp hf
  refine C.putI fl_1786 gh1 (by decide +kernel) rfl ?_
  refine C.seg (pe := 7) (lv' := [(0, .ref a0), (1, .int p1), (2, .int p2), (3, .int p3)]) (st' := [.int p1, .ref a0]) [(.aload_n 0, 1, 0), (.iload_n 1, 1, 0)] (by decide +kernel) rfl ?_
  obtain ⟨x2, h3, gx2, hf⟩ := b2_some hf
  refine C.callVr C2 [.int p1] [] mv_2124 rfl (o_X15_isWall gx2) (w_X15_isWall gx2) (by omega) (by omega) (Nat.le_of_ble_eq_true rfl) (by decide +kernel) rfl ?_
  refine C.if_eq (off := 16) (tgt := 26) (pf := 13) (by decide +kernel) (by decide) rfl (fun c15 => ?_) (fun c15 => ?_)
  · replace hf := ifp c15 hf
    refine Vsub [0] rfl ?_
    exact l_X15_beside_26 C C2 a0 h3 hf
  · replace hf := ifn c15 hf
    refine C.seg (pe := 15) (lv' := [(0, .ref a0), (1, .int p1), (2, .int p2), (3, .int p3)]) (st' := [.int p2, .ref a0]) [(.aload_n 0, 1, 0), (.iload_n 2, 1, 0)] (by decide +kernel) rfl ?_
    obtain ⟨x4, h5, gx4, hf⟩ := b2_some hf
    refine C.callVr C2 [.int p2] [] mv_2124 rfl (o_X15_isWall gx4) (w_X15_isWall gx4) (by omega) (by omega) (Nat.le_of_ble_eq_true rfl) (by decide +kernel) rfl ?_
    refine C.if_eq (off := 8) (tgt := 26) (pf := 21) (by decide +kernel) (by decide) rfl (fun c14 => ?_) (fun c14 => ?_)
    · replace hf := ifp c14 hf
      refine Vsub [0] rfl ?_
      exact l_X15_beside_26 C C2 a0 h5 hf
    · replace hf := ifn c14 hf
      refine C.seg (pe := 23) (lv' := [(0, .ref a0), (1, .int p1), (2, .int p2), (3, .int p3)]) (st' := [.int p2, .int p1]) [(.iload_n 1, 1, 0), (.iload_n 2, 1, 0)] (by decide +kernel) rfl ?_
      refine C.icmp_ne (off := 9) (tgt := 32) (pf := 26) (by decide +kernel) (by decide) rfl (fun c13 => ?_) (fun c13 => ?_)
      · replace hf := ifn c13 hf
        refine C.seg (pe := 33) (lv' := [(0, .ref a0), (1, .int p1), (2, .int p2), (3, .int p3)]) (st' := [.ref a0]) [(.aload_n 0, 1, 0)] (by decide +kernel) rfl ?_
        obtain ⟨a6, ga6, hf⟩ := Option.bind_eq_some_iff.mp hf
        refine C.rdA fr_1804 ga6 (by decide +kernel) rfl ?_
        refine C.seg (pe := 43) (lv' := [(0, .ref a0), (1, .int p1), (2, .int p2), (3, .int p3)]) (st' := [.int p3, .int ((16 * p1) + p2), .ref a6]) [(.bipush 16, 2, 16), (.iload_n 1, 1, 0), (.imul, 1, 0), (.iload_n 2, 1, 0), (.iadd, 1, 0), (.iload_n 3, 1, 0)] (by decide +kernel) rfl ?_
        obtain ⟨h7, gh7, hf⟩ := Option.bind_eq_some_iff.mp hf
        refine C.zast gh7 (by decide +kernel) rfl ?_
        refine C.seg (pe := 45) (lv' := [(0, .ref a0), (1, .int p1), (2, .int p2), (3, .int p3)]) (st' := [.ref a0]) [(.aload_n 0, 1, 0)] (by decide +kernel) rfl ?_
        obtain ⟨a8, ga8, hf⟩ := Option.bind_eq_some_iff.mp hf
        refine C.rdA fr_1804 ga8 (by decide +kernel) rfl ?_
        refine C.seg (pe := 55) (lv' := [(0, .ref a0), (1, .int p1), (2, .int p2), (3, .int p3)]) (st' := [.int p3, .int ((16 * p2) + p1), .ref a8]) [(.bipush 16, 2, 16), (.iload_n 2, 1, 0), (.imul, 1, 0), (.iload_n 1, 1, 0), (.iadd, 1, 0), (.iload_n 3, 1, 0)] (by decide +kernel) rfl ?_
        obtain ⟨h9, gh9, hf⟩ := Option.bind_eq_some_iff.mp hf
        refine C.zast gh9 (by decide +kernel) rfl ?_
        refine C.seg (pe := 57) (lv' := [(0, .ref a0), (1, .int p1), (2, .int p2), (3, .int p3)]) (st' := [.ref a0]) [(.aload_n 0, 1, 0)] (by decide +kernel) rfl ?_
        obtain ⟨x10, h11, gx10, hf⟩ := b2_some hf
        refine C.callVr C2 [] [] mv_2156 rfl (o_X15_granted gx10) (w_X15_granted gx10) (by omega) (by omega) (Nat.le_of_ble_eq_true rfl) (by decide +kernel) rfl ?_
        obtain ⟨x12, gx12, hf⟩ := Option.bind_eq_some_iff.mp hf
        have ex12 := ckZ_eq gx12
        subst ex12
        cases hf
        exact C.retZ rfl gx12 (by decide +kernel) ⟨rfl, rfl⟩
      · replace hf := ifp c13 hf
        refine Vsub [0] rfl ?_
        exact l_X15_beside_26 C C2 a0 h5 hf
theorem o_X15_beside {a0 : Nat} {p1 : Int32} {p2 : Int32} {p3 : Int32} {h : AH} {rr : Int32} {hr : AH} (hf : f_X15_beside a0 p1 p2 p3 h = some (rr, hr)) : isO 15 h a0 = true := by
  unfold f_X15_beside at hf
  exact (ifO hf).1
/-! WallHouseModel.minutes(III)Z -/
def f_X15_minutes_26 (r0 : Nat) (h : AH) : Option (Int32 × AH) :=
  b2 (f_X15_denied r0 1 h) fun x1 h2 =>
  (ckZ x1).bind fun x3 =>
  some (x3, h2)
set_option maxRecDepth 100000 in
set_option maxHeartbeats 4000000 in
theorem l_X15_minutes_26 {X : MX} {l : Launch} {G : GX} {h0 : AH} {rr : Int32} {hr : AH} (C : Cx X G RX15 cX15_minutes 4 (some .boolean) 1 22 h0) (C2 : Cy X l "minutes" []) (r0 : Nat) (h : AH) (hf : f_X15_minutes_26 r0 h = some (rr, hr)) : V X G h0 (QI rr hr) 26 [(0, .ref r0)] [] h := by
  unfold f_X15_minutes_26 at hf
  refine C.seg (pe := 28) (lv' := [(0, .ref r0)]) (st' := [.int 1, .ref r0]) [(.aload_n 0, 1, 0), (.iconst 1, 1, 1)] (by decide +kernel) rfl ?_
  obtain ⟨x1, h2, gx1, hf⟩ := b2_some hf
  refine C.callVr C2 [.int 1] [] mv_2152 rfl (o_X15_denied gx1) (w_X15_denied gx1) (by omega) (by omega) (Nat.le_of_ble_eq_true rfl) (by decide +kernel) rfl ?_
  obtain ⟨x3, gx3, hf⟩ := Option.bind_eq_some_iff.mp hf
  have ex3 := ckZ_eq gx3
  subst ex3
  cases hf
  exact C.retZ rfl gx3 (by decide +kernel) ⟨rfl, rfl⟩
def f_X15_minutes (a0 : Nat) (p1 : Int32) (p2 : Int32) (p3 : Int32) (h : AH) : Option (Int32 × AH) :=
  if isO 15 h a0 = true then
    (pI 15 h a0 0 0).bind fun h1 =>
    b2 (f_X15_isWall a0 p1 h1) fun x2 h3 =>
    if x2 = 0 then
      f_X15_minutes_26 a0 h3
    else
      b2 (f_X15_isWall a0 p2 h3) fun x4 h5 =>
      if x4 = 0 then
        f_X15_minutes_26 a0 h5
      else
        if p1 = p2 then
          f_X15_minutes_26 a0 h5
        else
          b2 (f_X15_in p3 1 120 h5) fun x6 h7 =>
          if x6 = 0 then
            b2 (f_X15_denied a0 2 h7) fun x15 h16 =>
            (ckZ x15).bind fun x17 =>
            some (x17, h16)
          else
            (gA 15 h7 a0 22).bind fun a8 =>
            (sI 0 h7 a8 ((16 * p1) + p2) p3).bind fun h9 =>
            (gA 15 h9 a0 22).bind fun a10 =>
            (sI 0 h9 a10 ((16 * p2) + p1) p3).bind fun h11 =>
            b2 (f_X15_granted a0 h11) fun x12 h13 =>
            (ckZ x12).bind fun x14 =>
            some (x14, h13)
  else none
set_option maxRecDepth 100000 in
set_option maxHeartbeats 4000000 in
theorem w_X15_minutes {l : Launch} {G : GX} {a0 : Nat} {p1 : Int32} {p2 : Int32} {p3 : Int32} {h : AH} {rr : Int32} {hr : AH} (hf : f_X15_minutes a0 p1 p2 p3 h = some (rr, hr)) : Ct l G yX15_minutes 1 22 [.ref a0, .int p1, .int p2, .int p3] h (QI rr hr) := by
  unfold f_X15_minutes at hf
  obtain ⟨ho, hf⟩ := ifO hf
  refine Ct_of (own := RX15) (cc := cX15_minutes) (nL := 4) (ret := (some .boolean)) rfl rfl k_2172 (Nat.le_of_ble_eq_true rfl) (fun X C2 C => ?_)
  show V X G h (QI rr hr) 0 [(0, .ref a0), (1, .int p1), (2, .int p2), (3, .int p3)] [] h
  refine C.seg (pe := 2) (lv' := [(0, .ref a0), (1, .int p1), (2, .int p2), (3, .int p3)]) (st' := [.int 0, .ref a0]) [(.aload_n 0, 1, 0), (.iconst 0, 1, 0)] (by decide +kernel) rfl ?_
  obtain ⟨h1, gh1, hf⟩ := Option.bind_eq_some_iff.mp hf
  refine C.putI fl_1786 gh1 (by decide +kernel) rfl ?_
  refine C.seg (pe := 7) (lv' := [(0, .ref a0), (1, .int p1), (2, .int p2), (3, .int p3)]) (st' := [.int p1, .ref a0]) [(.aload_n 0, 1, 0), (.iload_n 1, 1, 0)] (by decide +kernel) rfl ?_
  obtain ⟨x2, h3, gx2, hf⟩ := b2_some hf
  refine C.callVr C2 [.int p1] [] mv_2124 rfl (o_X15_isWall gx2) (w_X15_isWall gx2) (by omega) (by omega) (Nat.le_of_ble_eq_true rfl) (by decide +kernel) rfl ?_
  refine C.if_eq (off := 16) (tgt := 26) (pf := 13) (by decide +kernel) (by decide) rfl (fun c21 => ?_) (fun c21 => ?_)
  · replace hf := ifp c21 hf
    refine Vsub [0] rfl ?_
    exact l_X15_minutes_26 C C2 a0 h3 hf
  · replace hf := ifn c21 hf
    refine C.seg (pe := 15) (lv' := [(0, .ref a0), (1, .int p1), (2, .int p2), (3, .int p3)]) (st' := [.int p2, .ref a0]) [(.aload_n 0, 1, 0), (.iload_n 2, 1, 0)] (by decide +kernel) rfl ?_
    obtain ⟨x4, h5, gx4, hf⟩ := b2_some hf
    refine C.callVr C2 [.int p2] [] mv_2124 rfl (o_X15_isWall gx4) (w_X15_isWall gx4) (by omega) (by omega) (Nat.le_of_ble_eq_true rfl) (by decide +kernel) rfl ?_
    refine C.if_eq (off := 8) (tgt := 26) (pf := 21) (by decide +kernel) (by decide) rfl (fun c20 => ?_) (fun c20 => ?_)
    · replace hf := ifp c20 hf
      refine Vsub [0] rfl ?_
      exact l_X15_minutes_26 C C2 a0 h5 hf
    · replace hf := ifn c20 hf
      refine C.seg (pe := 23) (lv' := [(0, .ref a0), (1, .int p1), (2, .int p2), (3, .int p3)]) (st' := [.int p2, .int p1]) [(.iload_n 1, 1, 0), (.iload_n 2, 1, 0)] (by decide +kernel) rfl ?_
      refine C.icmp_ne (off := 9) (tgt := 32) (pf := 26) (by decide +kernel) (by decide) rfl (fun c19 => ?_) (fun c19 => ?_)
      · replace hf := ifn c19 hf
        refine C.seg (pe := 36) (lv' := [(0, .ref a0), (1, .int p1), (2, .int p2), (3, .int p3)]) (st' := [.int 120, .int 1, .int p3]) [(.iload_n 3, 1, 0), (.iconst 1, 1, 1), (.bipush 120, 2, 120)] (by decide +kernel) rfl ?_
        obtain ⟨x6, h7, gx6, hf⟩ := b2_some hf
        refine C.callSr C2 [.int p3, .int 1, .int 120] [] ms_2109 rfl (w_X15_in gx6) (by omega) (by omega) (Nat.le_of_ble_eq_true rfl) (by decide +kernel) rfl ?_
        refine C.if_ne (off := 9) (tgt := 48) (pf := 42) (by decide +kernel) (by decide) rfl (fun c18 => ?_) (fun c18 => ?_)
        · replace hf := ifn c18 hf
          refine C.seg (pe := 49) (lv' := [(0, .ref a0), (1, .int p1), (2, .int p2), (3, .int p3)]) (st' := [.ref a0]) [(.aload_n 0, 1, 0)] (by decide +kernel) rfl ?_
          obtain ⟨a8, ga8, hf⟩ := Option.bind_eq_some_iff.mp hf
          refine C.rdA fr_1808 ga8 (by decide +kernel) rfl ?_
          refine C.seg (pe := 59) (lv' := [(0, .ref a0), (1, .int p1), (2, .int p2), (3, .int p3)]) (st' := [.int p3, .int ((16 * p1) + p2), .ref a8]) [(.bipush 16, 2, 16), (.iload_n 1, 1, 0), (.imul, 1, 0), (.iload_n 2, 1, 0), (.iadd, 1, 0), (.iload_n 3, 1, 0)] (by decide +kernel) rfl ?_
          obtain ⟨h9, gh9, hf⟩ := Option.bind_eq_some_iff.mp hf
          refine C.ast gh9 (by decide +kernel) rfl ?_
          refine C.seg (pe := 61) (lv' := [(0, .ref a0), (1, .int p1), (2, .int p2), (3, .int p3)]) (st' := [.ref a0]) [(.aload_n 0, 1, 0)] (by decide +kernel) rfl ?_
          obtain ⟨a10, ga10, hf⟩ := Option.bind_eq_some_iff.mp hf
          refine C.rdA fr_1808 ga10 (by decide +kernel) rfl ?_
          refine C.seg (pe := 71) (lv' := [(0, .ref a0), (1, .int p1), (2, .int p2), (3, .int p3)]) (st' := [.int p3, .int ((16 * p2) + p1), .ref a10]) [(.bipush 16, 2, 16), (.iload_n 2, 1, 0), (.imul, 1, 0), (.iload_n 1, 1, 0), (.iadd, 1, 0), (.iload_n 3, 1, 0)] (by decide +kernel) rfl ?_
          obtain ⟨h11, gh11, hf⟩ := Option.bind_eq_some_iff.mp hf
          refine C.ast gh11 (by decide +kernel) rfl ?_
          refine C.seg (pe := 73) (lv' := [(0, .ref a0), (1, .int p1), (2, .int p2), (3, .int p3)]) (st' := [.ref a0]) [(.aload_n 0, 1, 0)] (by decide +kernel) rfl ?_
          obtain ⟨x12, h13, gx12, hf⟩ := b2_some hf
          refine C.callVr C2 [] [] mv_2156 rfl (o_X15_granted gx12) (w_X15_granted gx12) (by omega) (by omega) (Nat.le_of_ble_eq_true rfl) (by decide +kernel) rfl ?_
          obtain ⟨x14, gx14, hf⟩ := Option.bind_eq_some_iff.mp hf
          have ex14 := ckZ_eq gx14
          subst ex14
          cases hf
          exact C.retZ rfl gx14 (by decide +kernel) ⟨rfl, rfl⟩
        · replace hf := ifp c18 hf
          refine C.seg (pe := 44) (lv' := [(0, .ref a0), (1, .int p1), (2, .int p2), (3, .int p3)]) (st' := [.int 2, .ref a0]) [(.aload_n 0, 1, 0), (.iconst 2, 1, 2)] (by decide +kernel) rfl ?_
          obtain ⟨x15, h16, gx15, hf⟩ := b2_some hf
          refine C.callVr C2 [.int 2] [] mv_2152 rfl (o_X15_denied gx15) (w_X15_denied gx15) (by omega) (by omega) (Nat.le_of_ble_eq_true rfl) (by decide +kernel) rfl ?_
          obtain ⟨x17, gx17, hf⟩ := Option.bind_eq_some_iff.mp hf
          have ex17 := ckZ_eq gx17
          subst ex17
          cases hf
          exact C.retZ rfl gx17 (by decide +kernel) ⟨rfl, rfl⟩
      · replace hf := ifp c19 hf
        refine Vsub [0] rfl ?_
        exact l_X15_minutes_26 C C2 a0 h5 hf
theorem o_X15_minutes {a0 : Nat} {p1 : Int32} {p2 : Int32} {p3 : Int32} {h : AH} {rr : Int32} {hr : AH} (hf : f_X15_minutes a0 p1 p2 p3 h = some (rr, hr)) : isO 15 h a0 = true := by
  unfold f_X15_minutes at hf
  exact (ifO hf).1
/-! WallHouseModel.feed(IIIII)I -/
def f_X15_feed_76 (k23 : Nat → Int32 → Int32 → Int32 → Int32 → Int32 → Int32 → AH → Option (Int32 × AH)) (r0 : Nat) (i1 : Int32) (i2 : Int32) (i3 : Int32) (i4 : Int32) (i5 : Int32) (i6 : Int32) (si0 : Int32) (h : AH) : Option (Int32 × AH) :=
  (gA 15 h r0 24).bind fun a1 =>
  (gI 15 h r0 25).bind fun x2 =>
  (sI 1 h a1 x2 ((si0 >>> ((24 - (8 * (i6 - i6 / 4 * 4))) &&& 31)).toInt8.toInt32)).bind fun h3 =>
  (gI 15 h3 r0 25).bind fun x4 =>
  (pI 15 h3 r0 25 (x4 + 1)).bind fun h5 =>
  k23 r0 i1 i2 i3 i4 i5 (i6 + 1) h5
set_option maxRecDepth 100000 in
set_option maxHeartbeats 4000000 in
theorem l_X15_feed_76 {X : MX} {l : Launch} {G : GX} {h0 : AH} {rr : Int32} {hr : AH} (C : Cx X G RX15 cX15_feed 8 (some .int) 0 0 h0) (C2 : Cy X l "feed" []) {k23 : Nat → Int32 → Int32 → Int32 → Int32 → Int32 → Int32 → AH → Option (Int32 × AH)} (hk23 : ∀ (r0 : Nat) (i1 : Int32) (i2 : Int32) (i3 : Int32) (i4 : Int32) (i5 : Int32) (i6 : Int32) (h : AH), k23 r0 i1 i2 i3 i4 i5 i6 h = some (rr, hr) → V X G h0 (QI rr hr) 23 [(0, .ref r0), (1, .int i1), (2, .int i2), (3, .int i3), (4, .int i4), (5, .int i5), (6, .int i6)] [] h) (r0 : Nat) (i1 : Int32) (i2 : Int32) (i3 : Int32) (i4 : Int32) (i5 : Int32) (i6 : Int32) (si0 : Int32) (h : AH) (hf : f_X15_feed_76 k23 r0 i1 i2 i3 i4 i5 i6 si0 h = some (rr, hr)) : V X G h0 (QI rr hr) 76 [(0, .ref r0), (1, .int i1), (2, .int i2), (3, .int i3), (4, .int i4), (5, .int i5), (6, .int i6)] [.int si0] h := by
  unfold f_X15_feed_76 at hf
  refine C.seg (pe := 79) (lv' := [(7, .int si0), (0, .ref r0), (1, .int i1), (2, .int i2), (3, .int i3), (4, .int i4), (5, .int i5), (6, .int i6)]) (st' := [.ref r0]) [(.istore 7, 2, 0), (.aload_n 0, 1, 0)] (by decide +kernel) rfl ?_
  obtain ⟨a1, ga1, hf⟩ := Option.bind_eq_some_iff.mp hf
  refine C.rdA fr_1810 ga1 (by decide +kernel) rfl ?_
  refine C.seg (pe := 83) (lv' := [(7, .int si0), (0, .ref r0), (1, .int i1), (2, .int i2), (3, .int i3), (4, .int i4), (5, .int i5), (6, .int i6)]) (st' := [.ref r0, .ref a1]) [(.aload_n 0, 1, 0)] (by decide +kernel) rfl ?_
  obtain ⟨x2, gx2, hf⟩ := Option.bind_eq_some_iff.mp hf
  refine C.rdI fr_1811 gx2 (by decide +kernel) rfl ?_
  refine C.seg (pe := 95) (lv' := [(7, .int si0), (0, .ref r0), (1, .int i1), (2, .int i2), (3, .int i3), (4, .int i4), (5, .int i5), (6, .int i6)]) (st' := [.int 4, .int i6, .int 8, .int 24, .int si0, .int x2, .ref a1]) [(.iload 7, 2, 0), (.bipush 24, 2, 24), (.bipush 8, 2, 8), (.iload 6, 2, 0), (.iconst 4, 1, 4)] (by decide +kernel) rfl ?_
  refine C.irem (by decide +kernel) rfl (by decide) ?_
  refine C.seg (pe := 100) (lv' := [(7, .int si0), (0, .ref r0), (1, .int i1), (2, .int i2), (3, .int i3), (4, .int i4), (5, .int i5), (6, .int i6)]) (st' := [.int ((si0 >>> ((24 - (8 * (i6 - i6 / 4 * 4))) &&& 31)).toInt8.toInt32), .int x2, .ref a1]) [(.imul, 1, 0), (.isub, 1, 0), (.ishr, 1, 0), (.i2b, 1, 0)] (by decide +kernel) rfl ?_
  obtain ⟨h3, gh3, hf⟩ := Option.bind_eq_some_iff.mp hf
  refine C.bast gh3 (by decide +kernel) rfl ?_
  refine C.seg (pe := 103) (lv' := [(7, .int si0), (0, .ref r0), (1, .int i1), (2, .int i2), (3, .int i3), (4, .int i4), (5, .int i5), (6, .int i6)]) (st' := [.ref r0, .ref r0]) [(.aload_n 0, 1, 0), (.dup, 1, 0)] (by decide +kernel) rfl ?_
  obtain ⟨x4, gx4, hf⟩ := Option.bind_eq_some_iff.mp hf
  refine C.rdI fr_1811 gx4 (by decide +kernel) rfl ?_
  refine C.seg (pe := 108) (lv' := [(7, .int si0), (0, .ref r0), (1, .int i1), (2, .int i2), (3, .int i3), (4, .int i4), (5, .int i5), (6, .int i6)]) (st' := [.int (x4 + 1), .ref r0]) [(.iconst 1, 1, 1), (.iadd, 1, 0)] (by decide +kernel) rfl ?_
  obtain ⟨h5, gh5, hf⟩ := Option.bind_eq_some_iff.mp hf
  refine C.putI fl_1811 gh5 (by decide +kernel) rfl ?_
  refine C.seg (pe := 114) (lv' := [(6, .int (i6 + 1)), (7, .int si0), (0, .ref r0), (1, .int i1), (2, .int i2), (3, .int i3), (4, .int i4), (5, .int i5)]) (st' := []) [(.iinc 6 1, 3, 1)] (by decide +kernel) rfl ?_
  refine C.goto (off := (-91)) (tgt := 23) (by decide +kernel) (by decide) ?_
  refine Vsub [2, 3, 4, 5, 6, 7, 0] rfl ?_
  exact hk23 r0 i1 i2 i3 i4 i5 (i6 + 1) h5 hf
def f_X15_feed_23 : Nat → Nat → Int32 → Int32 → Int32 → Int32 → Int32 → Int32 → AH → Option (Int32 × AH)
  | 0, _, _, _, _, _, _, _, _ => none
  | n + 1, r0, i1, i2, i3, i4, i5, i6, h =>
    if 20 ≤ i6 then
      (gI 15 h r0 25).bind fun x1 =>
      some (x1, h)
    else
      if 4 ≤ i6 then
        if 8 ≤ i6 then
          if 12 ≤ i6 then
            if 16 ≤ i6 then
              f_X15_feed_76 (f_X15_feed_23 n) r0 i1 i2 i3 i4 i5 i6 i5 h
            else
              f_X15_feed_76 (f_X15_feed_23 n) r0 i1 i2 i3 i4 i5 i6 i4 h
          else
            f_X15_feed_76 (f_X15_feed_23 n) r0 i1 i2 i3 i4 i5 i6 i3 h
        else
          f_X15_feed_76 (f_X15_feed_23 n) r0 i1 i2 i3 i4 i5 i6 i2 h
      else
        f_X15_feed_76 (f_X15_feed_23 n) r0 i1 i2 i3 i4 i5 i6 i1 h
set_option maxRecDepth 100000 in
set_option maxHeartbeats 4000000 in
theorem l_X15_feed_23 {X : MX} {l : Launch} {G : GX} {h0 : AH} {rr : Int32} {hr : AH} (C : Cx X G RX15 cX15_feed 8 (some .int) 0 0 h0) (C2 : Cy X l "feed" []) : ∀ (n : Nat) (r0 : Nat) (i1 : Int32) (i2 : Int32) (i3 : Int32) (i4 : Int32) (i5 : Int32) (i6 : Int32) (h : AH), f_X15_feed_23 n r0 i1 i2 i3 i4 i5 i6 h = some (rr, hr) → V X G h0 (QI rr hr) 23 [(0, .ref r0), (1, .int i1), (2, .int i2), (3, .int i3), (4, .int i4), (5, .int i5), (6, .int i6)] [] h := by
  intro n
  induction n with
  | zero => intro r0 i1 i2 i3 i4 i5 i6 h hf; rw [f_X15_feed_23] at hf; cases hf
  | succ n ih =>
    intro r0 i1 i2 i3 i4 i5 i6 h hf
    rw [f_X15_feed_23] at hf
    refine C.seg (pe := 27) (lv' := [(0, .ref r0), (1, .int i1), (2, .int i2), (3, .int i3), (4, .int i4), (5, .int i5), (6, .int i6)]) (st' := [.int 20, .int i6]) [(.iload 6, 2, 0), (.bipush 20, 2, 20)] (by decide +kernel) rfl ?_
    refine C.icmp_ge (off := 90) (tgt := 117) (pf := 30) (by decide +kernel) (by decide) rfl (fun c6 => ?_) (fun c6 => ?_)
    · replace hf := ifp c6 hf
      refine C.seg (pe := 118) (lv' := [(0, .ref r0), (1, .int i1), (2, .int i2), (3, .int i3), (4, .int i4), (5, .int i5), (6, .int i6)]) (st' := [.ref r0]) [(.aload_n 0, 1, 0)] (by decide +kernel) rfl ?_
      obtain ⟨x1, gx1, hf⟩ := Option.bind_eq_some_iff.mp hf
      refine C.rdI fr_1811 gx1 (by decide +kernel) rfl ?_
      cases hf
      exact C.retI rfl (by decide +kernel) ⟨rfl, rfl⟩
    · replace hf := ifn c6 hf
      refine C.seg (pe := 33) (lv' := [(0, .ref r0), (1, .int i1), (2, .int i2), (3, .int i3), (4, .int i4), (5, .int i5), (6, .int i6)]) (st' := [.int 4, .int i6]) [(.iload 6, 2, 0), (.iconst 4, 1, 4)] (by decide +kernel) rfl ?_
      refine C.icmp_ge (off := 7) (tgt := 40) (pf := 36) (by decide +kernel) (by decide) rfl (fun c5 => ?_) (fun c5 => ?_)
      · replace hf := ifp c5 hf
        refine C.seg (pe := 44) (lv' := [(0, .ref r0), (1, .int i1), (2, .int i2), (3, .int i3), (4, .int i4), (5, .int i5), (6, .int i6)]) (st' := [.int 8, .int i6]) [(.iload 6, 2, 0), (.bipush 8, 2, 8)] (by decide +kernel) rfl ?_
        refine C.icmp_ge (off := 7) (tgt := 51) (pf := 47) (by decide +kernel) (by decide) rfl (fun c4 => ?_) (fun c4 => ?_)
        · replace hf := ifp c4 hf
          refine C.seg (pe := 55) (lv' := [(0, .ref r0), (1, .int i1), (2, .int i2), (3, .int i3), (4, .int i4), (5, .int i5), (6, .int i6)]) (st' := [.int 12, .int i6]) [(.iload 6, 2, 0), (.bipush 12, 2, 12)] (by decide +kernel) rfl ?_
          refine C.icmp_ge (off := 7) (tgt := 62) (pf := 58) (by decide +kernel) (by decide) rfl (fun c3 => ?_) (fun c3 => ?_)
          · replace hf := ifp c3 hf
            refine C.seg (pe := 66) (lv' := [(0, .ref r0), (1, .int i1), (2, .int i2), (3, .int i3), (4, .int i4), (5, .int i5), (6, .int i6)]) (st' := [.int 16, .int i6]) [(.iload 6, 2, 0), (.bipush 16, 2, 16)] (by decide +kernel) rfl ?_
            refine C.icmp_ge (off := 8) (tgt := 74) (pf := 69) (by decide +kernel) (by decide) rfl (fun c2 => ?_) (fun c2 => ?_)
            · replace hf := ifp c2 hf
              refine C.seg (pe := 76) (lv' := [(0, .ref r0), (1, .int i1), (2, .int i2), (3, .int i3), (4, .int i4), (5, .int i5), (6, .int i6)]) (st' := [.int i5]) [(.iload 5, 2, 0)] (by decide +kernel) rfl ?_
              exact l_X15_feed_76 C C2 ih r0 i1 i2 i3 i4 i5 i6 i5 h hf
            · replace hf := ifn c2 hf
              refine C.seg (pe := 71) (lv' := [(0, .ref r0), (1, .int i1), (2, .int i2), (3, .int i3), (4, .int i4), (5, .int i5), (6, .int i6)]) (st' := [.int i4]) [(.iload 4, 2, 0)] (by decide +kernel) rfl ?_
              refine C.goto (off := 5) (tgt := 76) (by decide +kernel) (by decide) ?_
              exact l_X15_feed_76 C C2 ih r0 i1 i2 i3 i4 i5 i6 i4 h hf
          · replace hf := ifn c3 hf
            refine C.seg (pe := 59) (lv' := [(0, .ref r0), (1, .int i1), (2, .int i2), (3, .int i3), (4, .int i4), (5, .int i5), (6, .int i6)]) (st' := [.int i3]) [(.iload_n 3, 1, 0)] (by decide +kernel) rfl ?_
            refine C.goto (off := 17) (tgt := 76) (by decide +kernel) (by decide) ?_
            exact l_X15_feed_76 C C2 ih r0 i1 i2 i3 i4 i5 i6 i3 h hf
        · replace hf := ifn c4 hf
          refine C.seg (pe := 48) (lv' := [(0, .ref r0), (1, .int i1), (2, .int i2), (3, .int i3), (4, .int i4), (5, .int i5), (6, .int i6)]) (st' := [.int i2]) [(.iload_n 2, 1, 0)] (by decide +kernel) rfl ?_
          refine C.goto (off := 28) (tgt := 76) (by decide +kernel) (by decide) ?_
          exact l_X15_feed_76 C C2 ih r0 i1 i2 i3 i4 i5 i6 i2 h hf
      · replace hf := ifn c5 hf
        refine C.seg (pe := 37) (lv' := [(0, .ref r0), (1, .int i1), (2, .int i2), (3, .int i3), (4, .int i4), (5, .int i5), (6, .int i6)]) (st' := [.int i1]) [(.iload_n 1, 1, 0)] (by decide +kernel) rfl ?_
        refine C.goto (off := 39) (tgt := 76) (by decide +kernel) (by decide) ?_
        exact l_X15_feed_76 C C2 ih r0 i1 i2 i3 i4 i5 i6 i1 h hf
def f_X15_feed (a0 : Nat) (p1 : Int32) (p2 : Int32) (p3 : Int32) (p4 : Int32) (p5 : Int32) (h : AH) : Option (Int32 × AH) :=
  if isO 15 h a0 = true then
    (pI 15 h a0 0 0).bind fun h1 =>
    (gI 15 h1 a0 25).bind fun x2 =>
    if x2 + 20 ≤ 400 then
      f_X15_feed_23 FU a0 p1 p2 p3 p4 p5 0 h1
    else
      some ((-1), h1)
  else none
set_option maxRecDepth 100000 in
set_option maxHeartbeats 4000000 in
theorem w_X15_feed {l : Launch} {G : GX} {a0 : Nat} {p1 : Int32} {p2 : Int32} {p3 : Int32} {p4 : Int32} {p5 : Int32} {h : AH} {rr : Int32} {hr : AH} (hf : f_X15_feed a0 p1 p2 p3 p4 p5 h = some (rr, hr)) : Ct l G yX15_feed 0 0 [.ref a0, .int p1, .int p2, .int p3, .int p4, .int p5] h (QI rr hr) := by
  unfold f_X15_feed at hf
  obtain ⟨ho, hf⟩ := ifO hf
  refine Ct_of (own := RX15) (cc := cX15_feed) (nL := 8) (ret := (some .int)) rfl rfl k_2176 (Nat.le_of_ble_eq_true rfl) (fun X C2 C => ?_)
  show V X G h (QI rr hr) 0 [(0, .ref a0), (1, .int p1), (2, .int p2), (3, .int p3), (4, .int p4), (5, .int p5)] [] h
  refine C.seg (pe := 2) (lv' := [(0, .ref a0), (1, .int p1), (2, .int p2), (3, .int p3), (4, .int p4), (5, .int p5)]) (st' := [.int 0, .ref a0]) [(.aload_n 0, 1, 0), (.iconst 0, 1, 0)] (by decide +kernel) rfl ?_
  obtain ⟨h1, gh1, hf⟩ := Option.bind_eq_some_iff.mp hf
  refine C.putI fl_1786 gh1 (by decide +kernel) rfl ?_
  refine C.seg (pe := 6) (lv' := [(0, .ref a0), (1, .int p1), (2, .int p2), (3, .int p3), (4, .int p4), (5, .int p5)]) (st' := [.ref a0]) [(.aload_n 0, 1, 0)] (by decide +kernel) rfl ?_
  obtain ⟨x2, gx2, hf⟩ := Option.bind_eq_some_iff.mp hf
  refine C.rdI fr_1811 gx2 (by decide +kernel) rfl ?_
  refine C.seg (pe := 15) (lv' := [(0, .ref a0), (1, .int p1), (2, .int p2), (3, .int p3), (4, .int p4), (5, .int p5)]) (st' := [.int 400, .int (x2 + 20)]) [(.bipush 20, 2, 20), (.iadd, 1, 0), (.sipush 400, 3, 400)] (by decide +kernel) rfl ?_
  refine C.icmp_le (off := 5) (tgt := 20) (pf := 18) (by decide +kernel) (by decide) rfl (fun c3 => ?_) (fun c3 => ?_)
  · replace hf := ifp c3 hf
    refine C.seg (pe := 23) (lv' := [(6, .int 0), (0, .ref a0), (1, .int p1), (2, .int p2), (3, .int p3), (4, .int p4), (5, .int p5)]) (st' := []) [(.iconst 0, 1, 0), (.istore 6, 2, 0)] (by decide +kernel) rfl ?_
    refine Vsub [1, 2, 3, 4, 5, 6, 0] rfl ?_
    exact l_X15_feed_23 C C2 FU a0 p1 p2 p3 p4 p5 0 h1 hf
  · replace hf := ifn c3 hf
    refine C.seg (pe := 19) (lv' := [(0, .ref a0), (1, .int p1), (2, .int p2), (3, .int p3), (4, .int p4), (5, .int p5)]) (st' := [.int (-1)]) [(.iconst (-1), 1, (-1))] (by decide +kernel) rfl ?_
    cases hf
    exact C.retI rfl (by decide +kernel) ⟨rfl, rfl⟩
theorem o_X15_feed {a0 : Nat} {p1 : Int32} {p2 : Int32} {p3 : Int32} {p4 : Int32} {p5 : Int32} {h : AH} {rr : Int32} {hr : AH} (hf : f_X15_feed a0 p1 p2 p3 p4 p5 h = some (rr, hr)) : isO 15 h a0 = true := by
  unfold f_X15_feed at hf
  exact (ifO hf).1
/-! WallHouseModel.fault()I -/
def f_X15_fault (a0 : Nat) (h : AH) : Option (Int32 × AH) :=
  if isO 15 h a0 = true then
    (pI 15 h a0 0 0).bind fun h1 =>
    (gI 15 h1 a0 3).bind fun x2 =>
    some (x2, h1)
  else none
set_option maxRecDepth 100000 in
set_option maxHeartbeats 4000000 in
theorem w_X15_fault {l : Launch} {G : GX} {a0 : Nat} {h : AH} {rr : Int32} {hr : AH} (hf : f_X15_fault a0 h = some (rr, hr)) : Ct l G yX15_fault 0 0 [.ref a0] h (QI rr hr) := by
  unfold f_X15_fault at hf
  obtain ⟨ho, hf⟩ := ifO hf
  refine Ct_of (own := RX15) (cc := cX15_fault) (nL := 1) (ret := (some .int)) rfl rfl k_2180 (Nat.le_of_ble_eq_true rfl) (fun X C2 C => ?_)
  show V X G h (QI rr hr) 0 [(0, .ref a0)] [] h
  refine C.seg (pe := 2) (lv' := [(0, .ref a0)]) (st' := [.int 0, .ref a0]) [(.aload_n 0, 1, 0), (.iconst 0, 1, 0)] (by decide +kernel) rfl ?_
  obtain ⟨h1, gh1, hf⟩ := Option.bind_eq_some_iff.mp hf
  refine C.putI fl_1786 gh1 (by decide +kernel) rfl ?_
  refine C.seg (pe := 6) (lv' := [(0, .ref a0)]) (st' := [.ref a0]) [(.aload_n 0, 1, 0)] (by decide +kernel) rfl ?_
  obtain ⟨x2, gx2, hf⟩ := Option.bind_eq_some_iff.mp hf
  refine C.rdI fr_1789 gx2 (by decide +kernel) rfl ?_
  cases hf
  exact C.retI rfl (by decide +kernel) ⟨rfl, rfl⟩
theorem o_X15_fault {a0 : Nat} {h : AH} {rr : Int32} {hr : AH} (hf : f_X15_fault a0 h = some (rr, hr)) : isO 15 h a0 = true := by
  unfold f_X15_fault at hf
  exact (ifO hf).1
/-! WallHouseModel.where()I -/
def f_X15_where (a0 : Nat) (h : AH) : Option (Int32 × AH) :=
  if isO 15 h a0 = true then
    (pI 15 h a0 0 0).bind fun h1 =>
    (gI 15 h1 a0 2).bind fun x2 =>
    some (x2, h1)
  else none
set_option maxRecDepth 100000 in
set_option maxHeartbeats 4000000 in
theorem w_X15_where {l : Launch} {G : GX} {a0 : Nat} {h : AH} {rr : Int32} {hr : AH} (hf : f_X15_where a0 h = some (rr, hr)) : Ct l G yX15_where 0 0 [.ref a0] h (QI rr hr) := by
  unfold f_X15_where at hf
  obtain ⟨ho, hf⟩ := ifO hf
  refine Ct_of (own := RX15) (cc := cX15_where) (nL := 1) (ret := (some .int)) rfl rfl k_2184 (Nat.le_of_ble_eq_true rfl) (fun X C2 C => ?_)
  show V X G h (QI rr hr) 0 [(0, .ref a0)] [] h
  refine C.seg (pe := 2) (lv' := [(0, .ref a0)]) (st' := [.int 0, .ref a0]) [(.aload_n 0, 1, 0), (.iconst 0, 1, 0)] (by decide +kernel) rfl ?_
  obtain ⟨h1, gh1, hf⟩ := Option.bind_eq_some_iff.mp hf
  refine C.putI fl_1786 gh1 (by decide +kernel) rfl ?_
  refine C.seg (pe := 6) (lv' := [(0, .ref a0)]) (st' := [.ref a0]) [(.aload_n 0, 1, 0)] (by decide +kernel) rfl ?_
  obtain ⟨x2, gx2, hf⟩ := Option.bind_eq_some_iff.mp hf
  refine C.rdI fr_1788 gx2 (by decide +kernel) rfl ?_
  cases hf
  exact C.retI rfl (by decide +kernel) ⟨rfl, rfl⟩
theorem o_X15_where {a0 : Nat} {h : AH} {rr : Int32} {hr : AH} (hf : f_X15_where a0 h = some (rr, hr)) : isO 15 h a0 = true := by
  unfold f_X15_where at hf
  exact (ifO hf).1
/-! WallHouseModel.isTaped(I)Z -/
def f_X15_isTaped_17 (si0 : Int32) (h : AH) : Option (Int32 × AH) :=
  (ckZ si0).bind fun x1 =>
  some (x1, h)
set_option maxRecDepth 100000 in
set_option maxHeartbeats 4000000 in
theorem l_X15_isTaped_17 {X : MX} {l : Launch} {G : GX} {h0 : AH} {rr : Int32} {hr : AH} (C : Cx X G RX15 cX15_isTaped 2 (some .boolean) 0 0 h0) (C2 : Cy X l "isTaped" []) (si0 : Int32) (h : AH) (hf : f_X15_isTaped_17 si0 h = some (rr, hr)) : V X G h0 (QI rr hr) 17 [] [.int si0] h := by
  unfold f_X15_isTaped_17 at hf
  obtain ⟨x1, gx1, hf⟩ := Option.bind_eq_some_iff.mp hf
  have ex1 := ckZ_eq gx1
  subst ex1
  cases hf
  exact C.retZ rfl gx1 (by decide +kernel) ⟨rfl, rfl⟩
def f_X15_isTaped_16 (h : AH) : Option (Int32 × AH) :=
  f_X15_isTaped_17 0 h
set_option maxRecDepth 100000 in
set_option maxHeartbeats 4000000 in
theorem l_X15_isTaped_16 {X : MX} {l : Launch} {G : GX} {h0 : AH} {rr : Int32} {hr : AH} (C : Cx X G RX15 cX15_isTaped 2 (some .boolean) 0 0 h0) (C2 : Cy X l "isTaped" []) (h : AH) (hf : f_X15_isTaped_16 h = some (rr, hr)) : V X G h0 (QI rr hr) 16 [] [] h := by
  unfold f_X15_isTaped_16 at hf
  refine C.seg (pe := 17) (lv' := []) (st' := [.int 0]) [(.iconst 0, 1, 0)] (by decide +kernel) rfl ?_
  exact l_X15_isTaped_17 C C2 0 h hf
def f_X15_isTaped (a0 : Nat) (p1 : Int32) (h : AH) : Option (Int32 × AH) :=
  if isO 15 h a0 = true then
    if p1 < 0 then
      f_X15_isTaped_16 h
    else
      (gI 15 h a0 25).bind fun x1 =>
      if x1 < p1 then
        f_X15_isTaped_16 h
      else
        f_X15_isTaped_17 1 h
  else none
set_option maxRecDepth 100000 in
set_option maxHeartbeats 4000000 in
theorem w_X15_isTaped {l : Launch} {G : GX} {a0 : Nat} {p1 : Int32} {h : AH} {rr : Int32} {hr : AH} (hf : f_X15_isTaped a0 p1 h = some (rr, hr)) : Ct l G yX15_isTaped 0 0 [.ref a0, .int p1] h (QI rr hr) := by
  unfold f_X15_isTaped at hf
  obtain ⟨ho, hf⟩ := ifO hf
  refine Ct_of (own := RX15) (cc := cX15_isTaped) (nL := 2) (ret := (some .boolean)) rfl rfl k_2192 (Nat.le_of_ble_eq_true rfl) (fun X C2 C => ?_)
  show V X G h (QI rr hr) 0 [(0, .ref a0), (1, .int p1)] [] h
  refine C.seg (pe := 1) (lv' := [(0, .ref a0), (1, .int p1)]) (st' := [.int p1]) [(.iload_n 1, 1, 0)] (by decide +kernel) rfl ?_
  refine C.if_lt (off := 15) (tgt := 16) (pf := 4) (by decide +kernel) (by decide) rfl (fun c3 => ?_) (fun c3 => ?_)
  · replace hf := ifp c3 hf
    refine Vsub [] rfl ?_
    exact l_X15_isTaped_16 C C2 h hf
  · replace hf := ifn c3 hf
    refine C.seg (pe := 6) (lv' := [(0, .ref a0), (1, .int p1)]) (st' := [.ref a0, .int p1]) [(.iload_n 1, 1, 0), (.aload_n 0, 1, 0)] (by decide +kernel) rfl ?_
    obtain ⟨x1, gx1, hf⟩ := Option.bind_eq_some_iff.mp hf
    refine C.rdI fr_1811 gx1 (by decide +kernel) rfl ?_
    refine C.icmp_gt (off := 7) (tgt := 16) (pf := 12) (by decide +kernel) (by decide) rfl (fun c2 => ?_) (fun c2 => ?_)
    · replace hf := ifp c2 hf
      refine Vsub [] rfl ?_
      exact l_X15_isTaped_16 C C2 h hf
    · replace hf := ifn c2 hf
      refine C.seg (pe := 13) (lv' := [(0, .ref a0), (1, .int p1)]) (st' := [.int 1]) [(.iconst 1, 1, 1)] (by decide +kernel) rfl ?_
      refine C.goto (off := 4) (tgt := 17) (by decide +kernel) (by decide) ?_
      refine Vsub [] rfl ?_
      exact l_X15_isTaped_17 C C2 1 h hf
theorem o_X15_isTaped {a0 : Nat} {p1 : Int32} {h : AH} {rr : Int32} {hr : AH} (hf : f_X15_isTaped a0 p1 h = some (rr, hr)) : isO 15 h a0 = true := by
  unfold f_X15_isTaped at hf
  exact (ifO hf).1
/-! WallHouseModel.byteAt(I)I -/
def f_X15_byteAt_22 (si0 : Int32) (h : AH) : Option (Int32 × AH) :=
  some (si0, h)
set_option maxRecDepth 100000 in
set_option maxHeartbeats 4000000 in
theorem l_X15_byteAt_22 {X : MX} {l : Launch} {G : GX} {h0 : AH} {rr : Int32} {hr : AH} (C : Cx X G RX15 cX15_byteAt 2 (some .int) 0 0 h0) (C2 : Cy X l "byteAt" []) (si0 : Int32) (h : AH) (hf : f_X15_byteAt_22 si0 h = some (rr, hr)) : V X G h0 (QI rr hr) 22 [] [.int si0] h := by
  unfold f_X15_byteAt_22 at hf
  cases hf
  exact C.retI rfl (by decide +kernel) ⟨rfl, rfl⟩
def f_X15_byteAt (a0 : Nat) (p1 : Int32) (h : AH) : Option (Int32 × AH) :=
  if isO 15 h a0 = true then
    (gI 15 h a0 26).bind fun x1 =>
    if x1 ≤ p1 then
      f_X15_byteAt_22 (-1) h
    else
      (gA 15 h a0 24).bind fun a2 =>
      (aI 1 h a2 p1).bind fun x3 =>
      f_X15_byteAt_22 (x3 &&& 255) h
  else none
set_option maxRecDepth 100000 in
set_option maxHeartbeats 4000000 in
theorem w_X15_byteAt {l : Launch} {G : GX} {a0 : Nat} {p1 : Int32} {h : AH} {rr : Int32} {hr : AH} (hf : f_X15_byteAt a0 p1 h = some (rr, hr)) : Ct l G yX15_byteAt 0 0 [.ref a0, .int p1] h (QI rr hr) := by
  unfold f_X15_byteAt at hf
  obtain ⟨ho, hf⟩ := ifO hf
  refine Ct_of (own := RX15) (cc := cX15_byteAt) (nL := 2) (ret := (some .int)) rfl rfl k_2200 (Nat.le_of_ble_eq_true rfl) (fun X C2 C => ?_)
  show V X G h (QI rr hr) 0 [(0, .ref a0), (1, .int p1)] [] h
  refine C.seg (pe := 2) (lv' := [(0, .ref a0), (1, .int p1)]) (st' := [.ref a0, .int p1]) [(.iload_n 1, 1, 0), (.aload_n 0, 1, 0)] (by decide +kernel) rfl ?_
  obtain ⟨x1, gx1, hf⟩ := Option.bind_eq_some_iff.mp hf
  refine C.rdI fr_1812 gx1 (by decide +kernel) rfl ?_
  refine C.icmp_ge (off := 16) (tgt := 21) (pf := 8) (by decide +kernel) (by decide) rfl (fun c4 => ?_) (fun c4 => ?_)
  · replace hf := ifp c4 hf
    refine C.seg (pe := 22) (lv' := [(0, .ref a0), (1, .int p1)]) (st' := [.int (-1)]) [(.iconst (-1), 1, (-1))] (by decide +kernel) rfl ?_
    refine Vsub [] rfl ?_
    exact l_X15_byteAt_22 C C2 (-1) h hf
  · replace hf := ifn c4 hf
    refine C.seg (pe := 9) (lv' := [(0, .ref a0), (1, .int p1)]) (st' := [.ref a0]) [(.aload_n 0, 1, 0)] (by decide +kernel) rfl ?_
    obtain ⟨a2, ga2, hf⟩ := Option.bind_eq_some_iff.mp hf
    refine C.rdA fr_1810 ga2 (by decide +kernel) rfl ?_
    refine C.seg (pe := 13) (lv' := [(0, .ref a0), (1, .int p1)]) (st' := [.int p1, .ref a2]) [(.iload_n 1, 1, 0)] (by decide +kernel) rfl ?_
    obtain ⟨x3, gx3, hf⟩ := Option.bind_eq_some_iff.mp hf
    refine C.bald 1 rfl gx3 (by decide +kernel) rfl ?_
    refine C.seg (pe := 18) (lv' := [(0, .ref a0), (1, .int p1)]) (st' := [.int (x3 &&& 255)]) [(.sipush 255, 3, 255), (.iand, 1, 0)] (by decide +kernel) rfl ?_
    refine C.goto (off := 4) (tgt := 22) (by decide +kernel) (by decide) ?_
    refine Vsub [] rfl ?_
    exact l_X15_byteAt_22 C C2 (x3 &&& 255) h hf
theorem o_X15_byteAt {a0 : Nat} {p1 : Int32} {h : AH} {rr : Int32} {hr : AH} (hf : f_X15_byteAt a0 p1 h = some (rr, hr)) : isO 15 h a0 = true := by
  unfold f_X15_byteAt at hf
  exact (ifO hf).1
/-! WallHouseModel.isLetter(I)Z -/
def f_X15_isLetter_17 (si0 : Int32) (h : AH) : Option (Int32 × AH) :=
  (ckZ si0).bind fun x1 =>
  some (x1, h)
set_option maxRecDepth 100000 in
set_option maxHeartbeats 4000000 in
theorem l_X15_isLetter_17 {X : MX} {l : Launch} {G : GX} {h0 : AH} {rr : Int32} {hr : AH} (C : Cx X G RX15 cX15_isLetter 1 (some .boolean) 0 0 h0) (C2 : Cy X l "isLetter" []) (si0 : Int32) (h : AH) (hf : f_X15_isLetter_17 si0 h = some (rr, hr)) : V X G h0 (QI rr hr) 17 [] [.int si0] h := by
  unfold f_X15_isLetter_17 at hf
  obtain ⟨x1, gx1, hf⟩ := Option.bind_eq_some_iff.mp hf
  have ex1 := ckZ_eq gx1
  subst ex1
  cases hf
  exact C.retZ rfl gx1 (by decide +kernel) ⟨rfl, rfl⟩
def f_X15_isLetter_16 (h : AH) : Option (Int32 × AH) :=
  f_X15_isLetter_17 0 h
set_option maxRecDepth 100000 in
set_option maxHeartbeats 4000000 in
theorem l_X15_isLetter_16 {X : MX} {l : Launch} {G : GX} {h0 : AH} {rr : Int32} {hr : AH} (C : Cx X G RX15 cX15_isLetter 1 (some .boolean) 0 0 h0) (C2 : Cy X l "isLetter" []) (h : AH) (hf : f_X15_isLetter_16 h = some (rr, hr)) : V X G h0 (QI rr hr) 16 [] [] h := by
  unfold f_X15_isLetter_16 at hf
  refine C.seg (pe := 17) (lv' := []) (st' := [.int 0]) [(.iconst 0, 1, 0)] (by decide +kernel) rfl ?_
  exact l_X15_isLetter_17 C C2 0 h hf
def f_X15_isLetter (p1 : Int32) (h : AH) : Option (Int32 × AH) :=
  if p1 < 97 then
    f_X15_isLetter_16 h
  else
    if 122 < p1 then
      f_X15_isLetter_16 h
    else
      f_X15_isLetter_17 1 h
set_option maxRecDepth 100000 in
set_option maxHeartbeats 4000000 in
theorem w_X15_isLetter {l : Launch} {G : GX} {p1 : Int32} {h : AH} {rr : Int32} {hr : AH} (hf : f_X15_isLetter p1 h = some (rr, hr)) : Ct l G yX15_isLetter 0 0 [.int p1] h (QI rr hr) := by
  unfold f_X15_isLetter at hf
  refine Ct_of (own := RX15) (cc := cX15_isLetter) (nL := 1) (ret := (some .boolean)) rfl rfl k_2203 (Nat.le_of_ble_eq_true rfl) (fun X C2 C => ?_)
  show V X G h (QI rr hr) 0 [(0, .int p1)] [] h
  refine C.seg (pe := 3) (lv' := [(0, .int p1)]) (st' := [.int 97, .int p1]) [(.iload_n 0, 1, 0), (.bipush 97, 2, 97)] (by decide +kernel) rfl ?_
  refine C.icmp_lt (off := 13) (tgt := 16) (pf := 6) (by decide +kernel) (by decide) rfl (fun c2 => ?_) (fun c2 => ?_)
  · replace hf := ifp c2 hf
    refine Vsub [] rfl ?_
    exact l_X15_isLetter_16 C C2 h hf
  · replace hf := ifn c2 hf
    refine C.seg (pe := 9) (lv' := [(0, .int p1)]) (st' := [.int 122, .int p1]) [(.iload_n 0, 1, 0), (.bipush 122, 2, 122)] (by decide +kernel) rfl ?_
    refine C.icmp_gt (off := 7) (tgt := 16) (pf := 12) (by decide +kernel) (by decide) rfl (fun c1 => ?_) (fun c1 => ?_)
    · replace hf := ifp c1 hf
      refine Vsub [] rfl ?_
      exact l_X15_isLetter_16 C C2 h hf
    · replace hf := ifn c1 hf
      refine C.seg (pe := 13) (lv' := [(0, .int p1)]) (st' := [.int 1]) [(.iconst 1, 1, 1)] (by decide +kernel) rfl ?_
      refine C.goto (off := 4) (tgt := 17) (by decide +kernel) (by decide) ?_
      refine Vsub [] rfl ?_
      exact l_X15_isLetter_17 C C2 1 h hf
/-! WallHouseModel.isDigit(I)Z -/
def f_X15_isDigit_17 (si0 : Int32) (h : AH) : Option (Int32 × AH) :=
  (ckZ si0).bind fun x1 =>
  some (x1, h)
set_option maxRecDepth 100000 in
set_option maxHeartbeats 4000000 in
theorem l_X15_isDigit_17 {X : MX} {l : Launch} {G : GX} {h0 : AH} {rr : Int32} {hr : AH} (C : Cx X G RX15 cX15_isDigit 1 (some .boolean) 0 0 h0) (C2 : Cy X l "isDigit" []) (si0 : Int32) (h : AH) (hf : f_X15_isDigit_17 si0 h = some (rr, hr)) : V X G h0 (QI rr hr) 17 [] [.int si0] h := by
  unfold f_X15_isDigit_17 at hf
  obtain ⟨x1, gx1, hf⟩ := Option.bind_eq_some_iff.mp hf
  have ex1 := ckZ_eq gx1
  subst ex1
  cases hf
  exact C.retZ rfl gx1 (by decide +kernel) ⟨rfl, rfl⟩
def f_X15_isDigit_16 (h : AH) : Option (Int32 × AH) :=
  f_X15_isDigit_17 0 h
set_option maxRecDepth 100000 in
set_option maxHeartbeats 4000000 in
theorem l_X15_isDigit_16 {X : MX} {l : Launch} {G : GX} {h0 : AH} {rr : Int32} {hr : AH} (C : Cx X G RX15 cX15_isDigit 1 (some .boolean) 0 0 h0) (C2 : Cy X l "isDigit" []) (h : AH) (hf : f_X15_isDigit_16 h = some (rr, hr)) : V X G h0 (QI rr hr) 16 [] [] h := by
  unfold f_X15_isDigit_16 at hf
  refine C.seg (pe := 17) (lv' := []) (st' := [.int 0]) [(.iconst 0, 1, 0)] (by decide +kernel) rfl ?_
  exact l_X15_isDigit_17 C C2 0 h hf
def f_X15_isDigit (p1 : Int32) (h : AH) : Option (Int32 × AH) :=
  if p1 < 48 then
    f_X15_isDigit_16 h
  else
    if 57 < p1 then
      f_X15_isDigit_16 h
    else
      f_X15_isDigit_17 1 h
set_option maxRecDepth 100000 in
set_option maxHeartbeats 4000000 in
theorem w_X15_isDigit {l : Launch} {G : GX} {p1 : Int32} {h : AH} {rr : Int32} {hr : AH} (hf : f_X15_isDigit p1 h = some (rr, hr)) : Ct l G yX15_isDigit 0 0 [.int p1] h (QI rr hr) := by
  unfold f_X15_isDigit at hf
  refine Ct_of (own := RX15) (cc := cX15_isDigit) (nL := 1) (ret := (some .boolean)) rfl rfl k_2207 (Nat.le_of_ble_eq_true rfl) (fun X C2 C => ?_)
  show V X G h (QI rr hr) 0 [(0, .int p1)] [] h
  refine C.seg (pe := 3) (lv' := [(0, .int p1)]) (st' := [.int 48, .int p1]) [(.iload_n 0, 1, 0), (.bipush 48, 2, 48)] (by decide +kernel) rfl ?_
  refine C.icmp_lt (off := 13) (tgt := 16) (pf := 6) (by decide +kernel) (by decide) rfl (fun c2 => ?_) (fun c2 => ?_)
  · replace hf := ifp c2 hf
    refine Vsub [] rfl ?_
    exact l_X15_isDigit_16 C C2 h hf
  · replace hf := ifn c2 hf
    refine C.seg (pe := 9) (lv' := [(0, .int p1)]) (st' := [.int 57, .int p1]) [(.iload_n 0, 1, 0), (.bipush 57, 2, 57)] (by decide +kernel) rfl ?_
    refine C.icmp_gt (off := 7) (tgt := 16) (pf := 12) (by decide +kernel) (by decide) rfl (fun c1 => ?_) (fun c1 => ?_)
    · replace hf := ifp c1 hf
      refine Vsub [] rfl ?_
      exact l_X15_isDigit_16 C C2 h hf
    · replace hf := ifn c1 hf
      refine C.seg (pe := 13) (lv' := [(0, .int p1)]) (st' := [.int 1]) [(.iconst 1, 1, 1)] (by decide +kernel) rfl ?_
      refine C.goto (off := 4) (tgt := 17) (by decide +kernel) (by decide) ?_
      refine Vsub [] rfl ?_
      exact l_X15_isDigit_17 C C2 1 h hf
/-! WallHouseModel.isMark(I)Z -/
def f_X15_isMark_106 (si0 : Int32) (h : AH) : Option (Int32 × AH) :=
  (ckZ si0).bind fun x1 =>
  some (x1, h)
set_option maxRecDepth 100000 in
set_option maxHeartbeats 4000000 in
theorem l_X15_isMark_106 {X : MX} {l : Launch} {G : GX} {h0 : AH} {rr : Int32} {hr : AH} (C : Cx X G RX15 cX15_isMark 3 (some .boolean) 0 0 h0) (C2 : Cy X l "isMark" []) (si0 : Int32) (h : AH) (hf : f_X15_isMark_106 si0 h = some (rr, hr)) : V X G h0 (QI rr hr) 106 [] [.int si0] h := by
  unfold f_X15_isMark_106 at hf
  obtain ⟨x1, gx1, hf⟩ := Option.bind_eq_some_iff.mp hf
  have ex1 := ckZ_eq gx1
  subst ex1
  cases hf
  exact C.retZ rfl gx1 (by decide +kernel) ⟨rfl, rfl⟩
def f_X15_isMark_105 (h : AH) : Option (Int32 × AH) :=
  f_X15_isMark_106 0 h
set_option maxRecDepth 100000 in
set_option maxHeartbeats 4000000 in
theorem l_X15_isMark_105 {X : MX} {l : Launch} {G : GX} {h0 : AH} {rr : Int32} {hr : AH} (C : Cx X G RX15 cX15_isMark 3 (some .boolean) 0 0 h0) (C2 : Cy X l "isMark" []) (h : AH) (hf : f_X15_isMark_105 h = some (rr, hr)) : V X G h0 (QI rr hr) 105 [] [] h := by
  unfold f_X15_isMark_105 at hf
  refine C.seg (pe := 106) (lv' := []) (st' := [.int 0]) [(.iconst 0, 1, 0)] (by decide +kernel) rfl ?_
  exact l_X15_isMark_106 C C2 0 h hf
def f_X15_isMark_101 (h : AH) : Option (Int32 × AH) :=
  f_X15_isMark_106 1 h
set_option maxRecDepth 100000 in
set_option maxHeartbeats 4000000 in
theorem l_X15_isMark_101 {X : MX} {l : Launch} {G : GX} {h0 : AH} {rr : Int32} {hr : AH} (C : Cx X G RX15 cX15_isMark 3 (some .boolean) 0 0 h0) (C2 : Cy X l "isMark" []) (h : AH) (hf : f_X15_isMark_101 h = some (rr, hr)) : V X G h0 (QI rr hr) 101 [] [] h := by
  unfold f_X15_isMark_101 at hf
  refine C.seg (pe := 102) (lv' := []) (st' := [.int 1]) [(.iconst 1, 1, 1)] (by decide +kernel) rfl ?_
  refine C.goto (off := 4) (tgt := 106) (by decide +kernel) (by decide) ?_
  exact l_X15_isMark_106 C C2 1 h hf
def f_X15_isMark_77 (r0 : Nat) (i1 : Int32) (si0 : Int32) (h : AH) : Option (Int32 × AH) :=
  if si0 = 0 then
    (gI 15 h r0 36).bind fun x1 =>
    if x1 = 0 then
      f_X15_isMark_105 h
    else
      if i1 = 44 then
        f_X15_isMark_101 h
      else
        if i1 = 37 then
          f_X15_isMark_101 h
        else
          f_X15_isMark_105 h
  else
    f_X15_isMark_101 h
set_option maxRecDepth 100000 in
set_option maxHeartbeats 4000000 in
theorem l_X15_isMark_77 {X : MX} {l : Launch} {G : GX} {h0 : AH} {rr : Int32} {hr : AH} (C : Cx X G RX15 cX15_isMark 3 (some .boolean) 0 0 h0) (C2 : Cy X l "isMark" []) (r0 : Nat) (i1 : Int32) (si0 : Int32) (h : AH) (hf : f_X15_isMark_77 r0 i1 si0 h = some (rr, hr)) : V X G h0 (QI rr hr) 77 [(0, .ref r0), (1, .int i1)] [.int si0] h := by
  unfold f_X15_isMark_77 at hf
  refine C.seg (pe := 79) (lv' := [(2, .int si0), (0, .ref r0), (1, .int i1)]) (st' := [.int si0]) [(.istore_n 2, 1, 0), (.iload_n 2, 1, 0)] (by decide +kernel) rfl ?_
  refine C.if_ne (off := 22) (tgt := 101) (pf := 82) (by decide +kernel) (by decide) rfl (fun c5 => ?_) (fun c5 => ?_)
  · replace hf := ifn c5 hf
    refine Vsub [] rfl ?_
    exact l_X15_isMark_101 C C2 h hf
  · replace hf := ifp c5 hf
    refine C.seg (pe := 83) (lv' := [(2, .int si0), (0, .ref r0), (1, .int i1)]) (st' := [.ref r0]) [(.aload_n 0, 1, 0)] (by decide +kernel) rfl ?_
    obtain ⟨x1, gx1, hf⟩ := Option.bind_eq_some_iff.mp hf
    refine C.rdI fr_1822 gx1 (by decide +kernel) rfl ?_
    refine C.if_eq (off := 19) (tgt := 105) (pf := 89) (by decide +kernel) (by decide) rfl (fun c4 => ?_) (fun c4 => ?_)
    · replace hf := ifp c4 hf
      refine Vsub [] rfl ?_
      exact l_X15_isMark_105 C C2 h hf
    · replace hf := ifn c4 hf
      refine C.seg (pe := 92) (lv' := [(2, .int si0), (0, .ref r0), (1, .int i1)]) (st' := [.int 44, .int i1]) [(.iload_n 1, 1, 0), (.bipush 44, 2, 44)] (by decide +kernel) rfl ?_
      refine C.icmp_eq (off := 9) (tgt := 101) (pf := 95) (by decide +kernel) (by decide) rfl (fun c3 => ?_) (fun c3 => ?_)
      · replace hf := ifp c3 hf
        refine Vsub [] rfl ?_
        exact l_X15_isMark_101 C C2 h hf
      · replace hf := ifn c3 hf
        refine C.seg (pe := 98) (lv' := [(2, .int si0), (0, .ref r0), (1, .int i1)]) (st' := [.int 37, .int i1]) [(.iload_n 1, 1, 0), (.bipush 37, 2, 37)] (by decide +kernel) rfl ?_
        refine C.icmp_ne (off := 7) (tgt := 105) (pf := 101) (by decide +kernel) (by decide) rfl (fun c2 => ?_) (fun c2 => ?_)
        · replace hf := ifn c2 hf
          refine Vsub [] rfl ?_
          exact l_X15_isMark_105 C C2 h hf
        · replace hf := ifp c2 hf
          refine Vsub [] rfl ?_
          exact l_X15_isMark_101 C C2 h hf
def f_X15_isMark_72 (r0 : Nat) (i1 : Int32) (h : AH) : Option (Int32 × AH) :=
  f_X15_isMark_77 r0 i1 1 h
set_option maxRecDepth 100000 in
set_option maxHeartbeats 4000000 in
theorem l_X15_isMark_72 {X : MX} {l : Launch} {G : GX} {h0 : AH} {rr : Int32} {hr : AH} (C : Cx X G RX15 cX15_isMark 3 (some .boolean) 0 0 h0) (C2 : Cy X l "isMark" []) (r0 : Nat) (i1 : Int32) (h : AH) (hf : f_X15_isMark_72 r0 i1 h = some (rr, hr)) : V X G h0 (QI rr hr) 72 [(0, .ref r0), (1, .int i1)] [] h := by
  unfold f_X15_isMark_72 at hf
  refine C.seg (pe := 73) (lv' := [(0, .ref r0), (1, .int i1)]) (st' := [.int 1]) [(.iconst 1, 1, 1)] (by decide +kernel) rfl ?_
  refine C.goto (off := 4) (tgt := 77) (by decide +kernel) (by decide) ?_
  exact l_X15_isMark_77 C C2 r0 i1 1 h hf
def f_X15_isMark (a0 : Nat) (p1 : Int32) (h : AH) : Option (Int32 × AH) :=
  if isO 15 h a0 = true then
    if p1 = 91 then
      f_X15_isMark_72 a0 p1 h
    else
      if p1 = 93 then
        f_X15_isMark_72 a0 p1 h
      else
        if p1 = 40 then
          f_X15_isMark_72 a0 p1 h
        else
          if p1 = 41 then
            f_X15_isMark_72 a0 p1 h
          else
            if p1 = 59 then
              f_X15_isMark_72 a0 p1 h
            else
              if p1 = 60 then
                f_X15_isMark_72 a0 p1 h
              else
                if p1 = 62 then
                  f_X15_isMark_72 a0 p1 h
                else
                  if p1 = 61 then
                    f_X15_isMark_72 a0 p1 h
                  else
                    if p1 = 43 then
                      f_X15_isMark_72 a0 p1 h
                    else
                      if p1 = 45 then
                        f_X15_isMark_72 a0 p1 h
                      else
                        if p1 = 42 then
                          f_X15_isMark_72 a0 p1 h
                        else
                          if p1 = 47 then
                            f_X15_isMark_72 a0 p1 h
                          else
                            f_X15_isMark_77 a0 p1 0 h
  else none
set_option maxRecDepth 100000 in
set_option maxHeartbeats 4000000 in
theorem w_X15_isMark {l : Launch} {G : GX} {a0 : Nat} {p1 : Int32} {h : AH} {rr : Int32} {hr : AH} (hf : f_X15_isMark a0 p1 h = some (rr, hr)) : Ct l G yX15_isMark 0 0 [.ref a0, .int p1] h (QI rr hr) := by
  unfold f_X15_isMark at hf
  obtain ⟨ho, hf⟩ := ifO hf
  refine Ct_of (own := RX15) (cc := cX15_isMark) (nL := 3) (ret := (some .boolean)) rfl rfl k_2211 (Nat.le_of_ble_eq_true rfl) (fun X C2 C => ?_)
  show V X G h (QI rr hr) 0 [(0, .ref a0), (1, .int p1)] [] h
  refine C.seg (pe := 3) (lv' := [(0, .ref a0), (1, .int p1)]) (st' := [.int 91, .int p1]) [(.iload_n 1, 1, 0), (.bipush 91, 2, 91)] (by decide +kernel) rfl ?_
  refine C.icmp_eq (off := 69) (tgt := 72) (pf := 6) (by decide +kernel) (by decide) rfl (fun c12 => ?_) (fun c12 => ?_)
  · replace hf := ifp c12 hf
    exact l_X15_isMark_72 C C2 a0 p1 h hf
  · replace hf := ifn c12 hf
    refine C.seg (pe := 9) (lv' := [(0, .ref a0), (1, .int p1)]) (st' := [.int 93, .int p1]) [(.iload_n 1, 1, 0), (.bipush 93, 2, 93)] (by decide +kernel) rfl ?_
    refine C.icmp_eq (off := 63) (tgt := 72) (pf := 12) (by decide +kernel) (by decide) rfl (fun c11 => ?_) (fun c11 => ?_)
    · replace hf := ifp c11 hf
      exact l_X15_isMark_72 C C2 a0 p1 h hf
    · replace hf := ifn c11 hf
      refine C.seg (pe := 15) (lv' := [(0, .ref a0), (1, .int p1)]) (st' := [.int 40, .int p1]) [(.iload_n 1, 1, 0), (.bipush 40, 2, 40)] (by decide +kernel) rfl ?_
      refine C.icmp_eq (off := 57) (tgt := 72) (pf := 18) (by decide +kernel) (by decide) rfl (fun c10 => ?_) (fun c10 => ?_)
      · replace hf := ifp c10 hf
        exact l_X15_isMark_72 C C2 a0 p1 h hf
      · replace hf := ifn c10 hf
        refine C.seg (pe := 21) (lv' := [(0, .ref a0), (1, .int p1)]) (st' := [.int 41, .int p1]) [(.iload_n 1, 1, 0), (.bipush 41, 2, 41)] (by decide +kernel) rfl ?_
        refine C.icmp_eq (off := 51) (tgt := 72) (pf := 24) (by decide +kernel) (by decide) rfl (fun c9 => ?_) (fun c9 => ?_)
        · replace hf := ifp c9 hf
          exact l_X15_isMark_72 C C2 a0 p1 h hf
        · replace hf := ifn c9 hf
          refine C.seg (pe := 27) (lv' := [(0, .ref a0), (1, .int p1)]) (st' := [.int 59, .int p1]) [(.iload_n 1, 1, 0), (.bipush 59, 2, 59)] (by decide +kernel) rfl ?_
          refine C.icmp_eq (off := 45) (tgt := 72) (pf := 30) (by decide +kernel) (by decide) rfl (fun c8 => ?_) (fun c8 => ?_)
          · replace hf := ifp c8 hf
            exact l_X15_isMark_72 C C2 a0 p1 h hf
          · replace hf := ifn c8 hf
            refine C.seg (pe := 33) (lv' := [(0, .ref a0), (1, .int p1)]) (st' := [.int 60, .int p1]) [(.iload_n 1, 1, 0), (.bipush 60, 2, 60)] (by decide +kernel) rfl ?_
            refine C.icmp_eq (off := 39) (tgt := 72) (pf := 36) (by decide +kernel) (by decide) rfl (fun c7 => ?_) (fun c7 => ?_)
            · replace hf := ifp c7 hf
              exact l_X15_isMark_72 C C2 a0 p1 h hf
            · replace hf := ifn c7 hf
              refine C.seg (pe := 39) (lv' := [(0, .ref a0), (1, .int p1)]) (st' := [.int 62, .int p1]) [(.iload_n 1, 1, 0), (.bipush 62, 2, 62)] (by decide +kernel) rfl ?_
              refine C.icmp_eq (off := 33) (tgt := 72) (pf := 42) (by decide +kernel) (by decide) rfl (fun c6 => ?_) (fun c6 => ?_)
              · replace hf := ifp c6 hf
                exact l_X15_isMark_72 C C2 a0 p1 h hf
              · replace hf := ifn c6 hf
                refine C.seg (pe := 45) (lv' := [(0, .ref a0), (1, .int p1)]) (st' := [.int 61, .int p1]) [(.iload_n 1, 1, 0), (.bipush 61, 2, 61)] (by decide +kernel) rfl ?_
                refine C.icmp_eq (off := 27) (tgt := 72) (pf := 48) (by decide +kernel) (by decide) rfl (fun c5 => ?_) (fun c5 => ?_)
                · replace hf := ifp c5 hf
                  exact l_X15_isMark_72 C C2 a0 p1 h hf
                · replace hf := ifn c5 hf
                  refine C.seg (pe := 51) (lv' := [(0, .ref a0), (1, .int p1)]) (st' := [.int 43, .int p1]) [(.iload_n 1, 1, 0), (.bipush 43, 2, 43)] (by decide +kernel) rfl ?_
                  refine C.icmp_eq (off := 21) (tgt := 72) (pf := 54) (by decide +kernel) (by decide) rfl (fun c4 => ?_) (fun c4 => ?_)
                  · replace hf := ifp c4 hf
                    exact l_X15_isMark_72 C C2 a0 p1 h hf
                  · replace hf := ifn c4 hf
                    refine C.seg (pe := 57) (lv' := [(0, .ref a0), (1, .int p1)]) (st' := [.int 45, .int p1]) [(.iload_n 1, 1, 0), (.bipush 45, 2, 45)] (by decide +kernel) rfl ?_
                    refine C.icmp_eq (off := 15) (tgt := 72) (pf := 60) (by decide +kernel) (by decide) rfl (fun c3 => ?_) (fun c3 => ?_)
                    · replace hf := ifp c3 hf
                      exact l_X15_isMark_72 C C2 a0 p1 h hf
                    · replace hf := ifn c3 hf
                      refine C.seg (pe := 63) (lv' := [(0, .ref a0), (1, .int p1)]) (st' := [.int 42, .int p1]) [(.iload_n 1, 1, 0), (.bipush 42, 2, 42)] (by decide +kernel) rfl ?_
                      refine C.icmp_eq (off := 9) (tgt := 72) (pf := 66) (by decide +kernel) (by decide) rfl (fun c2 => ?_) (fun c2 => ?_)
                      · replace hf := ifp c2 hf
                        exact l_X15_isMark_72 C C2 a0 p1 h hf
                      · replace hf := ifn c2 hf
                        refine C.seg (pe := 69) (lv' := [(0, .ref a0), (1, .int p1)]) (st' := [.int 47, .int p1]) [(.iload_n 1, 1, 0), (.bipush 47, 2, 47)] (by decide +kernel) rfl ?_
                        refine C.icmp_ne (off := 7) (tgt := 76) (pf := 72) (by decide +kernel) (by decide) rfl (fun c1 => ?_) (fun c1 => ?_)
                        · replace hf := ifn c1 hf
                          refine C.seg (pe := 77) (lv' := [(0, .ref a0), (1, .int p1)]) (st' := [.int 0]) [(.iconst 0, 1, 0)] (by decide +kernel) rfl ?_
                          exact l_X15_isMark_77 C C2 a0 p1 0 h hf
                        · replace hf := ifp c1 hf
                          exact l_X15_isMark_72 C C2 a0 p1 h hf
theorem o_X15_isMark {a0 : Nat} {p1 : Int32} {h : AH} {rr : Int32} {hr : AH} (hf : f_X15_isMark a0 p1 h = some (rr, hr)) : isO 15 h a0 = true := by
  unfold f_X15_isMark at hf
  exact (ifO hf).1
