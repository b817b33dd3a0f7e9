/-! ===== the relation of both, and what keeps its groups ===== -/
/-- what a call leaves alone: fields T and rows R of the static cells, dynamic cells with tags tg, rows LR of longs, rows PR and entries PT of references -/
def FRM (a : Nat) (T : List (Nat × Nat)) (R tg LR PR : List Nat) (PT : List (Nat × Nat)) (ow : Nat → Nat) (E : Nat → Option KD) (I : Nat → Nat → Int32) (L : Nat → Nat → Int64) (P : Nat → Nat → Option Nat) (ow2 : Nat → Nat) (E2 : Nat → Option KD) (I2 : Nat → Nat → Int32) (L2 : Nat → Nat → Int64) (P2 : Nat → Nat → Option Nat) : Prop := (∀ c k, c < 149 → T.contains (c, k) = false → R.contains c = false → I2 c k = I c k) ∧ (∀ c, c < a → tg.contains (ow c) = false → I2 (149 + c) = I (149 + c) ∧ L2 (149 + c) = L (149 + c)) ∧ (∀ c, c < 149 + a → E2 c = E c) ∧ (∀ c, c < 149 → LR.contains c = false → L2 c = L c) ∧ (∀ c, c < 149 + a → PR.contains c = false → ∀ k, PT.contains (c, k) = false → P2 c k = P c k) ∧ ∀ c, c < a → ow2 c = ow c
section FRMS
variable {a : Nat} {T : List (Nat × Nat)} {R tg LR PR : List Nat} {PT : List (Nat × Nat)} {ow ow2 : Nat → Nat} {E E2 : Nat → Option KD} {I I2 : Nat → Nat → Int32} {L L2 : Nat → Nat → Int64} {P P2 : Nat → Nat → Option Nat}
theorem FRM.fld (h : FRM a T R tg LR PR PT ow E I L P ow2 E2 I2 L2 P2) {c k : Nat} (hc : c < 149) (h1 : T.contains (c, k) = false) (h2 : R.contains c = false) : I2 c k = I c k := h.1 c k hc h1 h2
theorem FRM.row (h : FRM a T R tg LR PR PT ow E I L P ow2 E2 I2 L2 P2) {c : Nat} (hc : c < 149) (h1 : T.all (fun q => q.1 != c) = true) (h2 : R.contains c = false) : I2 c = I c := by
  funext k
  refine h.1 c k hc ?_ h2
  rw [List.all_eq_true] at h1
  cases hq : T.contains (c, k) with
  | false => rfl
  | true =>
    have hm := List.contains_iff_mem.mp hq
    have := h1 _ hm
    simp at this
theorem FRM.rowL (h : FRM a T R tg LR PR PT ow E I L P ow2 E2 I2 L2 P2) {c : Nat} (hc : c < 149) (h1 : LR.contains c = false) : L2 c = L c := h.2.2.2.1 c hc h1
theorem FRM.ref (h : FRM a T R tg LR PR PT ow E I L P ow2 E2 I2 L2 P2) {c k : Nat} (hc : c < 149) (h1 : PR.contains c = false) (h2 : PT.contains (c, k) = false) : P2 c k = P c k := h.2.2.2.2.1 c (by omega) h1 k h2
theorem FRM.kd (h : FRM a T R tg LR PR PT ow E I L P ow2 E2 I2 L2 P2) {c : Nat} (hc : c < 149 + a) : kdf E2 c = kdf E c := by unfold kdf; rw [h.2.2.1 c hc]
theorem FRM.own (h : FRM a T R tg LR PR PT ow E I L P ow2 E2 I2 L2 P2) {c : Nat} (hc : c < a) : ow2 c = ow c := h.2.2.2.2.2 c hc
theorem FRM.dy (h : FRM a T R tg LR PR PT ow E I L P ow2 E2 I2 L2 P2) {c : Nat} (hc : c < a) (ht : tg.contains (ow c) = false) : I2 (149 + c) = I (149 + c) ∧ L2 (149 + c) = L (149 + c) := h.2.1 c hc ht
theorem lt_of_ow (hO : ∀ c, a ≤ c → ow c = 0) {c t : Nat} (h : ow c = t) (ht : t ≠ 0) : c < a := by
  rcases Nat.lt_or_ge c a with q | q
  · exact q
  · rw [hO c q] at h; omega
theorem WA_fr {nw : Nat} {q wd hg : Nat → Nat} (h : FRM a T R tg LR PR PT ow E I L P ow2 E2 I2 L2 P2) (hO : ∀ c, a ≤ c → ow c = 0) (hp : PR.contains 2 = false) (hp2 : ∀ k, PT.contains (2, k) = false) (hA : WA nw q wd hg ow E (P 2)) : WA nw q wd hg ow2 E2 (P2 2) := by
  intro w hw
  obtain ⟨a1, ⟨e0, e1, e2, e3, e4⟩, a3, a4, a5, a6, a7, a8⟩ := hA w hw
  have hl : ∀ i, i < 5 → q w + i < a := fun i hi => lt_of_ow hO (a8 i hi) (by decide)
  have l4 := hl 4 (by decide)
  refine ⟨by rw [h.ref (by decide) hp (hp2 w)]; exact a1, ⟨?_, ?_, ?_, ?_, ?_⟩, a3, a4, a5, a6, a7, fun i hi => by rw [h.own (hl i hi)]; exact a8 i hi⟩
  · rw [h.2.2.1 _ (by omega)]; exact e0
  · rw [h.2.2.1 _ (by omega)]; exact e1
  · rw [h.2.2.1 _ (by omega)]; exact e2
  · rw [h.2.2.1 _ (by omega)]; exact e3
  · rw [h.2.2.1 _ (by omega)]; exact e4
theorem WALL_f2 {nw nk nt : Nat} {q wd hg : Nat → Nat} (hd : ∀ w, w < nw → ∀ i, i < 5 → I2 (149 + (q w + i)) = I (149 + (q w + i))) (hc : ∀ c, 73 ≤ c → c ≤ 88 → c ≠ 85 → I2 c = I c) (h1 : I2 123 = I 123) (h2 : I2 129 = I 129) (h3 : I2 132 = I 132) (h5 : I2 72 5 = I 72 5) (h : WALL nw nk nt q wd hg I) : WALL nw nk nt q wd hg I2 := by
  obtain ⟨hB, hC, hD, ⟨hE, hE2⟩, hF, hG, hH, hI, hU⟩ := h
  have g : ∀ w, w < nw → ∀ i, i < 5 → dyn I2 (q w + i) = dyn I (q w + i) := hd
  have g0 : ∀ w, w < nw → dyn I2 (q w) = dyn I (q w) := fun w hw => g w hw 0 (by decide)
  unfold WALL
  rw [hc 73 (by decide) (by decide) (by decide), hc 74 (by decide) (by decide) (by decide), hc 75 (by decide) (by decide) (by decide), hc 76 (by decide) (by decide) (by decide), hc 77 (by decide) (by decide) (by decide), hc 78 (by decide) (by decide) (by decide), hc 79 (by decide) (by decide) (by decide), hc 80 (by decide) (by decide) (by decide), hc 81 (by decide) (by decide) (by decide), hc 82 (by decide) (by decide) (by decide), hc 83 (by decide) (by decide) (by decide), hc 84 (by decide) (by decide) (by decide), hc 86 (by decide) (by decide) (by decide), hc 87 (by decide) (by decide) (by decide), hc 88 (by decide) (by decide) (by decide), h1, h2, h3, h5]
  refine ⟨fun w hw => ?_, fun w hw => ?_, fun w hw => ?_, ⟨fun w hw => ?_, hE2⟩, fun w hw => ?_, fun w hw => ?_, fun w hw => ?_, fun w hw => ?_, hU⟩
  · rw [g0 w hw]; exact hB w hw
  · rw [g0 w hw]; exact hC w hw
  · rw [g0 w hw]; exact hD w hw
  · rw [g0 w hw]; exact hE w hw
  · rw [g w hw 1 (by decide)]; exact hF w hw
  · rw [g w hw 2 (by decide)]; exact hG w hw
  · rw [g w hw 3 (by decide)]; exact hH w hw
  · rw [g w hw 4 (by decide)]; exact hI w hw
theorem GSh_fr (h : FRM a T R tg LR PR PT ow E I L P ow2 E2 I2 L2 P2) (hO : ∀ c, a ≤ c → ow c = 0) (hp : PR.contains 33 = false) (hp2 : PT.contains (33, 8) = false) (hG : GSh E P ow) : GSh E2 P2 ow2 := by
  obtain ⟨sc, len, s1, s2, s3, s4⟩ := hG
  have hl : sc < 149 + a := by
    rcases s4 with ⟨e, -⟩ | ⟨d, e, od⟩
    · omega
    · have := lt_of_ow hO od (by decide); omega
  refine ⟨sc, len, by rw [h.ref (by decide) hp hp2]; exact s1, by rw [h.kd hl]; exact s2, s3, ?_⟩
  rcases s4 with e | ⟨d, e, od⟩
  · exact Or.inl e
  · exact Or.inr ⟨d, e, by rw [h.own (lt_of_ow hO od (by decide))]; exact od⟩
theorem GHo_fr (h : FRM a T R tg LR PR PT ow E I L P ow2 E2 I2 L2 P2) (hO : ∀ c, a ≤ c → ow c = 0) (hp : PR.contains 26 = false) (hp2 : PT.contains (26, 7) = false) (hG : GHo E P ow) : GHo E2 P2 ow2 := by
  obtain ⟨sc, len, s1, s2, s3, s4⟩ := hG
  have hl : sc < 149 + a := by
    rcases s4 with ⟨e, -⟩ | ⟨d, e, od⟩
    · omega
    · have := lt_of_ow hO od (by decide); omega
  refine ⟨sc, len, by rw [h.ref (by decide) hp hp2]; exact s1, by rw [h.kd hl]; exact s2, s3, ?_⟩
  rcases s4 with e | ⟨d, e, od⟩
  · exact Or.inl e
  · exact Or.inr ⟨d, e, by rw [h.own (lt_of_ow hO od (by decide))]; exact od⟩
/-- the rights of both -/
theorem GR_fr {nr sp : Nat} {rc : Nat → Nat} (h : FRM a T R tg LR PR PT ow E I L P ow2 E2 I2 L2 P2) (hO : ∀ c, a ≤ c → ow c = 0) (hp : PR.contains 144 = false) (hp2 : ∀ k, PT.contains (144, k) = false) (hp3 : PR.contains 72 = false) (hp4 : PT.contains (72, 105) = false) (ht : tg.contains 9 = false) (r55 : I2 55 = I 55) (r56 : I2 56 = I 56) (r57 : I2 57 = I 57) (r145 : I2 145 = I 145) (r146 : I2 146 = I 146) (r147 : I2 147 = I 147) (hR : GRt nr rc E (P 144) I) (hS : GRs nr rc sp E P ow) : GRt nr rc E2 (P2 144) I2 ∧ GRs nr rc sp E2 P2 ow2 := by
  obtain ⟨s1, s2, s3, s4, s5, s6, s7⟩ := hS
  have low : ∀ x, (x = 145 ∨ ∃ d, x = 149 + d ∧ ow d = 9 ∧ ow (d + 1) = 9 ∧ ow (d + 2) = 9) → x + 3 ≤ 149 + a ∧ (x = 145 ∨ ∃ d, x = 149 + d ∧ ow2 d = 9 ∧ ow2 (d + 1) = 9 ∧ ow2 (d + 2) = 9) ∧ I2 x = I x ∧ I2 (x + 1) = I (x + 1) ∧ I2 (x + 2) = I (x + 2) := by
    rintro x (e | ⟨d, e, o0, o1, o2⟩)
    · subst e
      exact ⟨by omega, Or.inl rfl, r145, r146, r147⟩
    · subst e
      have l0 := lt_of_ow hO o0 (by decide)
      have l1 := lt_of_ow hO o1 (by decide)
      have l2 := lt_of_ow hO o2 (by decide)
      exact ⟨by omega, Or.inr ⟨d, rfl, by rw [h.own l0]; exact o0, by rw [h.own l1]; exact o1, by rw [h.own l2]; exact o2⟩, (h.dy l0 (by rw [o0]; exact ht)).1, (h.dy l1 (by rw [o1]; exact ht)).1, (h.dy l2 (by rw [o2]; exact ht)).1⟩
  obtain ⟨lsp, tsp, -⟩ := low sp s6
  refine ⟨fun r hr => ?_, by rw [h.ref (by decide) hp3 hp4]; exact s1, s2, by rw [h.kd (by omega)]; exact s3, by rw [h.kd (by omega)]; exact s4, by rw [h.kd (by omega)]; exact s5, tsp, fun r hr => ⟨(s7 r hr).1, (low _ (s7 r hr).2).2.1⟩⟩
  obtain ⟨g1, g2, g3, g4, g5, nl, g6, g7, g8, g9⟩ := hR r hr
  obtain ⟨lr, -, i0, i1, i2⟩ := low _ (s7 r hr).2
  refine ⟨by rw [h.ref (by decide) hp (hp2 r)]; exact g1, g2, by rw [h.kd (by omega)]; exact g3, by rw [h.kd (by omega)]; exact g4, by rw [h.kd (by omega)]; exact g5, nl, g6, by rw [r55]; exact g7, by rw [i0]; exact g8, fun l hl => by rw [r56, r57, i1, i2]; exact g9 l hl⟩
/-- the drawings of both -/
theorem GDr_fr {nd w : Nat} {cd rd : Nat → Nat} (h : FRM a T R tg LR PR PT ow E I L P ow2 E2 I2 L2 P2) (hO : ∀ c, a ≤ c → ow c = 0) (hp : PR.contains 52 = false) (hp2 : ∀ k, PT.contains (52, k) = false) (hp3 : PR.contains 92 = false) (hp4 : ∀ k, PT.contains (92, k) = false) (hp5 : PR.contains 72 = false) (hp6 : PT.contains (72, 40) = false) (ht1 : tg.contains 11 = false) (ht2 : tg.contains 12 = false) (hrow : ∀ j, j < 11 → I2 (93 + j) = I (93 + j)) (hl : L2 104 = L 104) (hD : GDr nd cd rd w E I L P ow) (hW : GDw w E P ow) : GDr nd cd rd w E2 I2 L2 P2 ow2 ∧ GDw w E2 P2 ow2 := by
  have low : ∀ x, DT ow x → x + 12 ≤ 149 + a ∧ DT ow2 x ∧ (∀ j, j < 11 → I2 (x + j) = I (x + j)) ∧ L2 (x + 11) = L (x + 11) := by
    intro x hx
    have hlt := (DT_lt hO hx).2
    refine ⟨hlt, DT_ow hO (fun c hc => h.own hc) hx, ?_⟩
    rcases hx with e | ⟨d, e, o⟩
    · subst e
      exact ⟨hrow, hl⟩
    · subst e
      refine ⟨fun j hj => ?_, ?_⟩
      · have := h.dy (lt_of_ow hO (o j (by omega)) (by decide)) (by rw [o j (by omega)]; exact ht1)
        rw [Nat.add_assoc]
        exact this.1
      · have := h.dy (lt_of_ow hO (o 11 (by omega)) (by decide)) (by rw [o 11 (by omega)]; exact ht1)
        rw [Nat.add_assoc]
        exact this.2
  obtain ⟨w1, w2, w3⟩ := hW
  obtain ⟨lw, tw, -⟩ := low w w3
  refine ⟨fun d hd => ?_, by rw [h.ref (by decide) hp5 hp6]; exact w1, K12_fr (fun j hj => h.kd (by omega)) w2, tw⟩
  obtain ⟨g1, g2, g3, g4, g5, ⟨e, g6, g7⟩, g8⟩ := hD d hd
  obtain ⟨lr, tr', ir, llr⟩ := low _ g5
  have cl : ∀ j, j < 5 → I2 (cd d + j) = I (cd d + j) ∧ L2 (cd d + j) = L (cd d + j) := fun j hj => by
    rw [g6, Nat.add_assoc]
    exact h.dy (lt_of_ow hO (g7 j hj) (by decide)) (by rw [g7 j hj]; exact ht2)
  have he4 := lt_of_ow hO (g7 4 (by decide)) (by decide)
  refine ⟨g1, by rw [h.ref (by decide) hp (hp2 d)]; exact g2, by rw [h.ref (by decide) hp3 (hp4 d)]; exact g3, K12_fr (fun j hj => h.kd (by omega)) g4, tr', ⟨e, g6, fun j hj => by rw [h.own (lt_of_ow hO (g7 j hj) (by decide))]; exact g7 j hj⟩, GD1_fr (fun j hj => h.kd (by omega)) (fun j hj => (cl j hj).1) ir (cl 4 (by decide)).2 llr g8⟩
end FRMS
theorem GTag_mo {ng nw td nw2 td2 : Nat} {x34 x35 x36 m139 m140 m141 : RW} (h1 : nw ≤ nw2) (h2 : td ≤ td2) (h : GTag ng nw td x34 x35 x36 m139 m140 m141) : GTag ng nw2 td2 x34 x35 x36 m139 m140 m141 := by
  intro k hk
  obtain ⟨a1, a2, a3, ⟨w, w1, w2⟩, a5, a6⟩ := h k hk
  refine ⟨a1, a2, a3, ⟨w, by omega, w2⟩, a5, ?_⟩
  rcases a6 with e | ⟨d, d1, d2⟩
  · exact Or.inl e
  · exact Or.inr ⟨d, by omega, d2⟩
theorem GVot_mo {nv np nw np2 nw2 : Nat} {x10 x11 x12 m114 m115 m116 m117 : RW} (h1 : np ≤ np2) (h2 : nw ≤ nw2) (h : GVot nv np nw x10 x11 x12 m114 m115 m116 m117) : GVot nv np2 nw2 x10 x11 x12 m114 m115 m116 m117 := by
  refine ⟨fun k hk => ?_, h.2⟩
  obtain ⟨p, w, v, p1, w1, r⟩ := h.1 k hk
  exact ⟨p, w, v, by omega, by omega, r⟩
theorem GWrk_mo {nk nw np nd td nw2 np2 nd2 td2 : Nat} {x14 x15 x16 x17 x18 x20 x21 x22 m123 m124 m125 m126 m127 m128 m129 m130 m131 : RW} (h1 : nw ≤ nw2) (h2 : np ≤ np2) (h3 : nd ≤ nd2) (h4 : td ≤ td2) (h : GWrk nk nw np nd td x14 x15 x16 x17 x18 x20 x21 x22 m123 m124 m125 m126 m127 m128 m129 m130 m131) : GWrk nk nw2 np2 nd2 td2 x14 x15 x16 x17 x18 x20 x21 x22 m123 m124 m125 m126 m127 m128 m129 m130 m131 := by
  intro k hk
  obtain ⟨a1, ⟨w, w1, w2⟩, a3, ⟨p, p1, p2⟩, a5, ⟨d, d1, d2⟩, a7, a8, a9, aa, ab, ac⟩ := h k hk
  refine ⟨a1, ⟨w, by omega, w2⟩, a3, ⟨p, by omega, p2⟩, a5, ⟨d, by omega, d2⟩, a7, a8, a9, ?_, ab, ac⟩
  rcases aa with e | ⟨d', e1, e2⟩
  · exact Or.inl e
  · exact Or.inr ⟨d', by omega, e2⟩
theorem GGiv_mo {nw nw2 : Nat} {x32 m121 : RW} {g : Int32} (h1 : nw ≤ nw2) (h : GGiv nw x32 m121 g) : GGiv nw2 x32 m121 g := ⟨h.1, fun hg w hw => ⟨(h.2 hg w hw).1, fun hn => (h.2 hg w hw).2 (by omega)⟩⟩
theorem WALL_nt {nw nk nt nt2 : Nat} {q wd hg : Nat → Nat} {I : Nat → Nat → Int32} (h1 : nt ≤ nt2) (h : WALL nw nk nt q wd hg I) : WALL nw nk nt2 q wd hg I := by
  obtain ⟨hB, hC, hD, hE, hF, hG, hH, hI, hU⟩ := h
  refine ⟨hB, hC, hD, hE, hF, hG, fun w hw c hc => ⟨(hH w hw c hc).1, fun hq => ?_⟩, hI, hU⟩
  obtain ⟨a1, a2, a3, a4⟩ := (hH w hw c hc).2 hq
  refine ⟨a1, a2, a3, ?_⟩
  rcases a4 with e | ⟨t, t1, t2⟩
  · exact Or.inl e
  · exact Or.inr ⟨t, by omega, t2⟩
