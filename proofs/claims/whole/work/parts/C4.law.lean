/-! ===== the law's loop ===== -/
/-- the law behind one call -/
def Nxt (b : Nat) (F : Nat → Option AE) (z : ZX) (n r0 i a us : Nat) (run : Option (Int32 × AH)) : Prop := ∃ E2 I2 L2 P2 a2 us2, run = f_Law_18 z n r0 (ad b 0) (ad b 72) (Int32.ofNat (i + 6)) (lay b F E2 I2 L2 P2 (149 + a2) us2) ∧ a2 ≤ a + 17 ∧ us2 ≤ us + 7168 ∧ Rel a2 E2 I2 L2 P2
theorem oN6 {i : Nat} : Int32.ofNat i + 6 = Int32.ofNat (i + 6) := oN_add i 6
section LAWS
variable {b : Nat} {F : Nat → Option AE} {D E : Nat → Option KD} {I : Nat → Nat → Int32} {L : Nat → Nat → Int64} {P : Nat → Nat → Option Nat} {nx us : Nat}
theorem br_236 {z : ZX} {a n r0 i : Nat} {sc : RW} (q1 : ∀ (E : Nat → Option KD) (I : Nat → Nat → Int32) (L : Nat → Nat → Int64) (P : Nat → Nat → Option Nat) (nx us : Nat), aI 20 (lay b F E I L P nx us) r0 (Int32.ofNat i + 1) = some (sc (i + 1))) (q2 : ∀ (E : Nat → Option KD) (I : Nat → Nat → Int32) (L : Nat → Nat → Int64) (P : Nat → Nat → Option Nat) (nx us : Nat), aI 20 (lay b F E I L P nx us) r0 (Int32.ofNat i + 2) = some (sc (i + 2))) (q3 : ∀ (E : Nat → Option KD) (I : Nat → Nat → Int32) (L : Nat → Nat → Int64) (P : Nat → Nat → Option Nat) (nx us : Nat), aI 20 (lay b F E I L P nx us) r0 (Int32.ofNat i + 3) = some (sc (i + 3))) (q4 : ∀ (E : Nat → Option KD) (I : Nat → Nat → Int32) (L : Nat → Nat → Int64) (P : Nat → Nat → Option Nat) (nx us : Nat), aI 20 (lay b F E I L P nx us) r0 (Int32.ofNat i + 4) = some (sc (i + 4))) (q5 : ∀ (E : Nat → Option KD) (I : Nat → Nat → Int32) (L : Nat → Nat → Int64) (P : Nat → Nat → Option Nat) (nx us : Nat), aI 20 (lay b F E I L P nx us) r0 (Int32.ofNat i + 5) = some (sc (i + 5))) (st : StepR b F (f_X11_wall (ad b 0) (sc (i + 1)) (sc (i + 2)) (sc (i + 3)) (sc (i + 4))) (f_X15_wall (ad b 72) (sc (i + 1)) (sc (i + 2)) (sc (i + 3)) (sc (i + 4))) E I L P a us) : Nxt b F z n r0 i a us (f_Law_236 z (f_Law_18 z n) r0 (ad b 0) (ad b 72) (Int32.ofNat i) (lay b F E I L P (149 + a) us)) := by
  obtain ⟨E2, I2, L2, P2, a2, us2, ⟨v, E1, I1, L1, P1, nx1, us1, e1, e2⟩, b1, b2', hR2⟩ := st
  refine ⟨E2, I2, L2, P2, a2, us2, ?_, b1, b2', hR2⟩
  unfold f_Law_236 f_Law_1749
  rw [q1, Option.bind_some, q2, Option.bind_some, q3, Option.bind_some, q4, Option.bind_some, e1, b2_p, q1, Option.bind_some, q2, Option.bind_some, q3, Option.bind_some, q4, Option.bind_some, e2, b2_p, if_pos rfl, oN6]
theorem br_289 {z : ZX} {a n r0 i : Nat} {sc : RW} (q1 : ∀ (E : Nat → Option KD) (I : Nat → Nat → Int32) (L : Nat → Nat → Int64) (P : Nat → Nat → Option Nat) (nx us : Nat), aI 20 (lay b F E I L P nx us) r0 (Int32.ofNat i + 1) = some (sc (i + 1))) (q2 : ∀ (E : Nat → Option KD) (I : Nat → Nat → Int32) (L : Nat → Nat → Int64) (P : Nat → Nat → Option Nat) (nx us : Nat), aI 20 (lay b F E I L P nx us) r0 (Int32.ofNat i + 2) = some (sc (i + 2))) (q3 : ∀ (E : Nat → Option KD) (I : Nat → Nat → Int32) (L : Nat → Nat → Int64) (P : Nat → Nat → Option Nat) (nx us : Nat), aI 20 (lay b F E I L P nx us) r0 (Int32.ofNat i + 3) = some (sc (i + 3))) (q4 : ∀ (E : Nat → Option KD) (I : Nat → Nat → Int32) (L : Nat → Nat → Int64) (P : Nat → Nat → Option Nat) (nx us : Nat), aI 20 (lay b F E I L P nx us) r0 (Int32.ofNat i + 4) = some (sc (i + 4))) (q5 : ∀ (E : Nat → Option KD) (I : Nat → Nat → Int32) (L : Nat → Nat → Int64) (P : Nat → Nat → Option Nat) (nx us : Nat), aI 20 (lay b F E I L P nx us) r0 (Int32.ofNat i + 5) = some (sc (i + 5))) (st : StepR b F (f_X11_about (ad b 0) (sc (i + 1)) (sc (i + 2))) (f_X15_about (ad b 72) (sc (i + 1)) (sc (i + 2))) E I L P a us) : Nxt b F z n r0 i a us (f_Law_289 z (f_Law_18 z n) r0 (ad b 0) (ad b 72) (Int32.ofNat i) (lay b F E I L P (149 + a) us)) := by
  obtain ⟨E2, I2, L2, P2, a2, us2, ⟨v, E1, I1, L1, P1, nx1, us1, e1, e2⟩, b1, b2', hR2⟩ := st
  refine ⟨E2, I2, L2, P2, a2, us2, ?_, b1, b2', hR2⟩
  unfold f_Law_289 f_Law_1749
  rw [q1, Option.bind_some, q2, Option.bind_some, e1, b2_p, q1, Option.bind_some, q2, Option.bind_some, e2, b2_p, if_pos rfl, oN6]
theorem br_322 {z : ZX} {a n r0 i : Nat} {sc : RW} (q1 : ∀ (E : Nat → Option KD) (I : Nat → Nat → Int32) (L : Nat → Nat → Int64) (P : Nat → Nat → Option Nat) (nx us : Nat), aI 20 (lay b F E I L P nx us) r0 (Int32.ofNat i + 1) = some (sc (i + 1))) (q2 : ∀ (E : Nat → Option KD) (I : Nat → Nat → Int32) (L : Nat → Nat → Int64) (P : Nat → Nat → Option Nat) (nx us : Nat), aI 20 (lay b F E I L P nx us) r0 (Int32.ofNat i + 2) = some (sc (i + 2))) (q3 : ∀ (E : Nat → Option KD) (I : Nat → Nat → Int32) (L : Nat → Nat → Int64) (P : Nat → Nat → Option Nat) (nx us : Nat), aI 20 (lay b F E I L P nx us) r0 (Int32.ofNat i + 3) = some (sc (i + 3))) (q4 : ∀ (E : Nat → Option KD) (I : Nat → Nat → Int32) (L : Nat → Nat → Int64) (P : Nat → Nat → Option Nat) (nx us : Nat), aI 20 (lay b F E I L P nx us) r0 (Int32.ofNat i + 4) = some (sc (i + 4))) (q5 : ∀ (E : Nat → Option KD) (I : Nat → Nat → Int32) (L : Nat → Nat → Int64) (P : Nat → Nat → Option Nat) (nx us : Nat), aI 20 (lay b F E I L P nx us) r0 (Int32.ofNat i + 5) = some (sc (i + 5))) (st : StepR b F (f_X11_hole (ad b 0) (sc (i + 1)) (sc (i + 2)) (sc (i + 3)) (sc (i + 4)) (sc (i + 5))) (f_X15_hole (ad b 72) (sc (i + 1)) (sc (i + 2)) (sc (i + 3)) (sc (i + 4)) (sc (i + 5))) E I L P a us) : Nxt b F z n r0 i a us (f_Law_322 z (f_Law_18 z n) r0 (ad b 0) (ad b 72) (Int32.ofNat i) (lay b F E I L P (149 + a) us)) := by
  obtain ⟨E2, I2, L2, P2, a2, us2, ⟨v, E1, I1, L1, P1, nx1, us1, e1, e2⟩, b1, b2', hR2⟩ := st
  refine ⟨E2, I2, L2, P2, a2, us2, ?_, b1, b2', hR2⟩
  unfold f_Law_322 f_Law_1749
  rw [q1, Option.bind_some, q2, Option.bind_some, q3, Option.bind_some, q4, Option.bind_some, q5, Option.bind_some, e1, b2_p, q1, Option.bind_some, q2, Option.bind_some, q3, Option.bind_some, q4, Option.bind_some, q5, Option.bind_some, e2, b2_p, if_pos rfl, oN6]
theorem br_454 {z : ZX} {a n r0 i : Nat} {sc : RW} (q1 : ∀ (E : Nat → Option KD) (I : Nat → Nat → Int32) (L : Nat → Nat → Int64) (P : Nat → Nat → Option Nat) (nx us : Nat), aI 20 (lay b F E I L P nx us) r0 (Int32.ofNat i + 1) = some (sc (i + 1))) (q2 : ∀ (E : Nat → Option KD) (I : Nat → Nat → Int32) (L : Nat → Nat → Int64) (P : Nat → Nat → Option Nat) (nx us : Nat), aI 20 (lay b F E I L P nx us) r0 (Int32.ofNat i + 2) = some (sc (i + 2))) (q3 : ∀ (E : Nat → Option KD) (I : Nat → Nat → Int32) (L : Nat → Nat → Int64) (P : Nat → Nat → Option Nat) (nx us : Nat), aI 20 (lay b F E I L P nx us) r0 (Int32.ofNat i + 3) = some (sc (i + 3))) (q4 : ∀ (E : Nat → Option KD) (I : Nat → Nat → Int32) (L : Nat → Nat → Int64) (P : Nat → Nat → Option Nat) (nx us : Nat), aI 20 (lay b F E I L P nx us) r0 (Int32.ofNat i + 4) = some (sc (i + 4))) (q5 : ∀ (E : Nat → Option KD) (I : Nat → Nat → Int32) (L : Nat → Nat → Int64) (P : Nat → Nat → Option Nat) (nx us : Nat), aI 20 (lay b F E I L P nx us) r0 (Int32.ofNat i + 5) = some (sc (i + 5))) (st : StepR b F (f_X11_sold (ad b 0) (sc (i + 1)) (sc (i + 2))) (f_X15_sold (ad b 72) (sc (i + 1)) (sc (i + 2))) E I L P a us) : Nxt b F z n r0 i a us (f_Law_454 z (f_Law_18 z n) r0 (ad b 0) (ad b 72) (Int32.ofNat i) (lay b F E I L P (149 + a) us)) := by
  obtain ⟨E2, I2, L2, P2, a2, us2, ⟨v, E1, I1, L1, P1, nx1, us1, e1, e2⟩, b1, b2', hR2⟩ := st
  refine ⟨E2, I2, L2, P2, a2, us2, ?_, b1, b2', hR2⟩
  unfold f_Law_454 f_Law_1749
  rw [q1, Option.bind_some, q2, Option.bind_some, e1, b2_p, q1, Option.bind_some, q2, Option.bind_some, e2, b2_p, if_pos rfl, oN6]
theorem br_546 {z : ZX} {a n r0 i : Nat} {sc : RW} (q1 : ∀ (E : Nat → Option KD) (I : Nat → Nat → Int32) (L : Nat → Nat → Int64) (P : Nat → Nat → Option Nat) (nx us : Nat), aI 20 (lay b F E I L P nx us) r0 (Int32.ofNat i + 1) = some (sc (i + 1))) (q2 : ∀ (E : Nat → Option KD) (I : Nat → Nat → Int32) (L : Nat → Nat → Int64) (P : Nat → Nat → Option Nat) (nx us : Nat), aI 20 (lay b F E I L P nx us) r0 (Int32.ofNat i + 2) = some (sc (i + 2))) (q3 : ∀ (E : Nat → Option KD) (I : Nat → Nat → Int32) (L : Nat → Nat → Int64) (P : Nat → Nat → Option Nat) (nx us : Nat), aI 20 (lay b F E I L P nx us) r0 (Int32.ofNat i + 3) = some (sc (i + 3))) (q4 : ∀ (E : Nat → Option KD) (I : Nat → Nat → Int32) (L : Nat → Nat → Int64) (P : Nat → Nat → Option Nat) (nx us : Nat), aI 20 (lay b F E I L P nx us) r0 (Int32.ofNat i + 4) = some (sc (i + 4))) (q5 : ∀ (E : Nat → Option KD) (I : Nat → Nat → Int32) (L : Nat → Nat → Int64) (P : Nat → Nat → Option Nat) (nx us : Nat), aI 20 (lay b F E I L P nx us) r0 (Int32.ofNat i + 5) = some (sc (i + 5))) (st : StepR b F (f_X11_minutes (ad b 0) (sc (i + 1)) (sc (i + 2)) (sc (i + 3))) (f_X15_minutes (ad b 72) (sc (i + 1)) (sc (i + 2)) (sc (i + 3))) E I L P a us) : Nxt b F z n r0 i a us (f_Law_546 z (f_Law_18 z n) r0 (ad b 0) (ad b 72) (Int32.ofNat i) (lay b F E I L P (149 + a) us)) := by
  obtain ⟨E2, I2, L2, P2, a2, us2, ⟨v, E1, I1, L1, P1, nx1, us1, e1, e2⟩, b1, b2', hR2⟩ := st
  refine ⟨E2, I2, L2, P2, a2, us2, ?_, b1, b2', hR2⟩
  unfold f_Law_546 f_Law_1749
  rw [q1, Option.bind_some, q2, Option.bind_some, q3, Option.bind_some, e1, b2_p, q1, Option.bind_some, q2, Option.bind_some, q3, Option.bind_some, e2, b2_p, if_pos rfl, oN6]
theorem br_589 {z : ZX} {a n r0 i : Nat} {sc : RW} (q1 : ∀ (E : Nat → Option KD) (I : Nat → Nat → Int32) (L : Nat → Nat → Int64) (P : Nat → Nat → Option Nat) (nx us : Nat), aI 20 (lay b F E I L P nx us) r0 (Int32.ofNat i + 1) = some (sc (i + 1))) (q2 : ∀ (E : Nat → Option KD) (I : Nat → Nat → Int32) (L : Nat → Nat → Int64) (P : Nat → Nat → Option Nat) (nx us : Nat), aI 20 (lay b F E I L P nx us) r0 (Int32.ofNat i + 2) = some (sc (i + 2))) (q3 : ∀ (E : Nat → Option KD) (I : Nat → Nat → Int32) (L : Nat → Nat → Int64) (P : Nat → Nat → Option Nat) (nx us : Nat), aI 20 (lay b F E I L P nx us) r0 (Int32.ofNat i + 3) = some (sc (i + 3))) (q4 : ∀ (E : Nat → Option KD) (I : Nat → Nat → Int32) (L : Nat → Nat → Int64) (P : Nat → Nat → Option Nat) (nx us : Nat), aI 20 (lay b F E I L P nx us) r0 (Int32.ofNat i + 4) = some (sc (i + 4))) (q5 : ∀ (E : Nat → Option KD) (I : Nat → Nat → Int32) (L : Nat → Nat → Int64) (P : Nat → Nat → Option Nat) (nx us : Nat), aI 20 (lay b F E I L P nx us) r0 (Int32.ofNat i + 5) = some (sc (i + 5))) (st : StepR b F (f_X11_feed (ad b 0) (sc (i + 1)) (sc (i + 2)) (sc (i + 3)) (sc (i + 4)) (sc (i + 5))) (f_X15_feed (ad b 72) (sc (i + 1)) (sc (i + 2)) (sc (i + 3)) (sc (i + 4)) (sc (i + 5))) E I L P a us) : Nxt b F z n r0 i a us (f_Law_589 z (f_Law_18 z n) r0 (ad b 0) (ad b 72) (Int32.ofNat i) (lay b F E I L P (149 + a) us)) := by
  obtain ⟨E2, I2, L2, P2, a2, us2, ⟨v, E1, I1, L1, P1, nx1, us1, e1, e2⟩, b1, b2', hR2⟩ := st
  refine ⟨E2, I2, L2, P2, a2, us2, ?_, b1, b2', hR2⟩
  unfold f_Law_589 f_Law_1749
  rw [q1, Option.bind_some, q2, Option.bind_some, q3, Option.bind_some, q4, Option.bind_some, q5, Option.bind_some, e1, b2_p, q1, Option.bind_some, q2, Option.bind_some, q3, Option.bind_some, q4, Option.bind_some, q5, Option.bind_some, e2, b2_p, if_pos rfl, oN6]
theorem br_652 {z : ZX} {a n r0 i : Nat} {sc : RW} (q1 : ∀ (E : Nat → Option KD) (I : Nat → Nat → Int32) (L : Nat → Nat → Int64) (P : Nat → Nat → Option Nat) (nx us : Nat), aI 20 (lay b F E I L P nx us) r0 (Int32.ofNat i + 1) = some (sc (i + 1))) (q2 : ∀ (E : Nat → Option KD) (I : Nat → Nat → Int32) (L : Nat → Nat → Int64) (P : Nat → Nat → Option Nat) (nx us : Nat), aI 20 (lay b F E I L P nx us) r0 (Int32.ofNat i + 2) = some (sc (i + 2))) (q3 : ∀ (E : Nat → Option KD) (I : Nat → Nat → Int32) (L : Nat → Nat → Int64) (P : Nat → Nat → Option Nat) (nx us : Nat), aI 20 (lay b F E I L P nx us) r0 (Int32.ofNat i + 3) = some (sc (i + 3))) (q4 : ∀ (E : Nat → Option KD) (I : Nat → Nat → Int32) (L : Nat → Nat → Int64) (P : Nat → Nat → Option Nat) (nx us : Nat), aI 20 (lay b F E I L P nx us) r0 (Int32.ofNat i + 4) = some (sc (i + 4))) (q5 : ∀ (E : Nat → Option KD) (I : Nat → Nat → Int32) (L : Nat → Nat → Int64) (P : Nat → Nat → Option Nat) (nx us : Nat), aI 20 (lay b F E I L P nx us) r0 (Int32.ofNat i + 5) = some (sc (i + 5))) (st : StepR b F (f_X11_drawing z (ad b 0) (sc (i + 1))) (f_X15_drawing z (ad b 72) (sc (i + 1))) E I L P a us) : Nxt b F z n r0 i a us (f_Law_652 z (f_Law_18 z n) r0 (ad b 0) (ad b 72) (Int32.ofNat i) (lay b F E I L P (149 + a) us)) := by
  obtain ⟨E2, I2, L2, P2, a2, us2, ⟨v, E1, I1, L1, P1, nx1, us1, e1, e2⟩, b1, b2', hR2⟩ := st
  refine ⟨E2, I2, L2, P2, a2, us2, ?_, b1, b2', hR2⟩
  unfold f_Law_652 f_Law_1749
  rw [q1, Option.bind_some, e1, b2_p, q1, Option.bind_some, e2, b2_p, if_pos rfl, oN6]
theorem br_675 {z : ZX} {a n r0 i : Nat} {sc : RW} (q1 : ∀ (E : Nat → Option KD) (I : Nat → Nat → Int32) (L : Nat → Nat → Int64) (P : Nat → Nat → Option Nat) (nx us : Nat), aI 20 (lay b F E I L P nx us) r0 (Int32.ofNat i + 1) = some (sc (i + 1))) (q2 : ∀ (E : Nat → Option KD) (I : Nat → Nat → Int32) (L : Nat → Nat → Int64) (P : Nat → Nat → Option Nat) (nx us : Nat), aI 20 (lay b F E I L P nx us) r0 (Int32.ofNat i + 2) = some (sc (i + 2))) (q3 : ∀ (E : Nat → Option KD) (I : Nat → Nat → Int32) (L : Nat → Nat → Int64) (P : Nat → Nat → Option Nat) (nx us : Nat), aI 20 (lay b F E I L P nx us) r0 (Int32.ofNat i + 3) = some (sc (i + 3))) (q4 : ∀ (E : Nat → Option KD) (I : Nat → Nat → Int32) (L : Nat → Nat → Int64) (P : Nat → Nat → Option Nat) (nx us : Nat), aI 20 (lay b F E I L P nx us) r0 (Int32.ofNat i + 4) = some (sc (i + 4))) (q5 : ∀ (E : Nat → Option KD) (I : Nat → Nat → Int32) (L : Nat → Nat → Int64) (P : Nat → Nat → Option Nat) (nx us : Nat), aI 20 (lay b F E I L P nx us) r0 (Int32.ofNat i + 5) = some (sc (i + 5))) (st : StepR b F (f_X11_bar (ad b 0) (sc (i + 1))) (f_X15_bar (ad b 72) (sc (i + 1))) E I L P a us) : Nxt b F z n r0 i a us (f_Law_675 z (f_Law_18 z n) r0 (ad b 0) (ad b 72) (Int32.ofNat i) (lay b F E I L P (149 + a) us)) := by
  obtain ⟨E2, I2, L2, P2, a2, us2, ⟨v, E1, I1, L1, P1, nx1, us1, e1, e2⟩, b1, b2', hR2⟩ := st
  refine ⟨E2, I2, L2, P2, a2, us2, ?_, b1, b2', hR2⟩
  unfold f_Law_675 f_Law_1749
  rw [q1, Option.bind_some, e1, b2_p, q1, Option.bind_some, e2, b2_p, if_pos rfl, oN6]
theorem br_698 {z : ZX} {a n r0 i : Nat} {sc : RW} (q1 : ∀ (E : Nat → Option KD) (I : Nat → Nat → Int32) (L : Nat → Nat → Int64) (P : Nat → Nat → Option Nat) (nx us : Nat), aI 20 (lay b F E I L P nx us) r0 (Int32.ofNat i + 1) = some (sc (i + 1))) (q2 : ∀ (E : Nat → Option KD) (I : Nat → Nat → Int32) (L : Nat → Nat → Int64) (P : Nat → Nat → Option Nat) (nx us : Nat), aI 20 (lay b F E I L P nx us) r0 (Int32.ofNat i + 2) = some (sc (i + 2))) (q3 : ∀ (E : Nat → Option KD) (I : Nat → Nat → Int32) (L : Nat → Nat → Int64) (P : Nat → Nat → Option Nat) (nx us : Nat), aI 20 (lay b F E I L P nx us) r0 (Int32.ofNat i + 3) = some (sc (i + 3))) (q4 : ∀ (E : Nat → Option KD) (I : Nat → Nat → Int32) (L : Nat → Nat → Int64) (P : Nat → Nat → Option Nat) (nx us : Nat), aI 20 (lay b F E I L P nx us) r0 (Int32.ofNat i + 4) = some (sc (i + 4))) (q5 : ∀ (E : Nat → Option KD) (I : Nat → Nat → Int32) (L : Nat → Nat → Int64) (P : Nat → Nat → Option Nat) (nx us : Nat), aI 20 (lay b F E I L P nx us) r0 (Int32.ofNat i + 5) = some (sc (i + 5))) (st : StepR b F (f_X11_right z (ad b 0) (sc (i + 1))) (f_X15_right z (ad b 72) (sc (i + 1))) E I L P a us) : Nxt b F z n r0 i a us (f_Law_698 z (f_Law_18 z n) r0 (ad b 0) (ad b 72) (Int32.ofNat i) (lay b F E I L P (149 + a) us)) := by
  obtain ⟨E2, I2, L2, P2, a2, us2, ⟨v, E1, I1, L1, P1, nx1, us1, e1, e2⟩, b1, b2', hR2⟩ := st
  refine ⟨E2, I2, L2, P2, a2, us2, ?_, b1, b2', hR2⟩
  unfold f_Law_698 f_Law_1749
  rw [q1, Option.bind_some, e1, b2_p, q1, Option.bind_some, e2, b2_p, if_pos rfl, oN6]
theorem br_721 {z : ZX} {a n r0 i : Nat} {sc : RW} (q1 : ∀ (E : Nat → Option KD) (I : Nat → Nat → Int32) (L : Nat → Nat → Int64) (P : Nat → Nat → Option Nat) (nx us : Nat), aI 20 (lay b F E I L P nx us) r0 (Int32.ofNat i + 1) = some (sc (i + 1))) (q2 : ∀ (E : Nat → Option KD) (I : Nat → Nat → Int32) (L : Nat → Nat → Int64) (P : Nat → Nat → Option Nat) (nx us : Nat), aI 20 (lay b F E I L P nx us) r0 (Int32.ofNat i + 2) = some (sc (i + 2))) (q3 : ∀ (E : Nat → Option KD) (I : Nat → Nat → Int32) (L : Nat → Nat → Int64) (P : Nat → Nat → Option Nat) (nx us : Nat), aI 20 (lay b F E I L P nx us) r0 (Int32.ofNat i + 3) = some (sc (i + 3))) (q4 : ∀ (E : Nat → Option KD) (I : Nat → Nat → Int32) (L : Nat → Nat → Int64) (P : Nat → Nat → Option Nat) (nx us : Nat), aI 20 (lay b F E I L P nx us) r0 (Int32.ofNat i + 4) = some (sc (i + 4))) (q5 : ∀ (E : Nat → Option KD) (I : Nat → Nat → Int32) (L : Nat → Nat → Int64) (P : Nat → Nat → Option Nat) (nx us : Nat), aI 20 (lay b F E I L P nx us) r0 (Int32.ofNat i + 5) = some (sc (i + 5))) (st : StepR b F (f_X11_fault (ad b 0) ) (f_X15_fault (ad b 72) ) E I L P a us) : Nxt b F z n r0 i a us (f_Law_721 z (f_Law_18 z n) r0 (ad b 0) (ad b 72) (Int32.ofNat i) (lay b F E I L P (149 + a) us)) := by
  obtain ⟨E2, I2, L2, P2, a2, us2, ⟨v, E1, I1, L1, P1, nx1, us1, e1, e2⟩, b1, b2', hR2⟩ := st
  refine ⟨E2, I2, L2, P2, a2, us2, ?_, b1, b2', hR2⟩
  unfold f_Law_721 f_Law_1749
  rw [e1, b2_p, e2, b2_p, if_pos rfl, oN6]
theorem br_734 {z : ZX} {a n r0 i : Nat} {sc : RW} (q1 : ∀ (E : Nat → Option KD) (I : Nat → Nat → Int32) (L : Nat → Nat → Int64) (P : Nat → Nat → Option Nat) (nx us : Nat), aI 20 (lay b F E I L P nx us) r0 (Int32.ofNat i + 1) = some (sc (i + 1))) (q2 : ∀ (E : Nat → Option KD) (I : Nat → Nat → Int32) (L : Nat → Nat → Int64) (P : Nat → Nat → Option Nat) (nx us : Nat), aI 20 (lay b F E I L P nx us) r0 (Int32.ofNat i + 2) = some (sc (i + 2))) (q3 : ∀ (E : Nat → Option KD) (I : Nat → Nat → Int32) (L : Nat → Nat → Int64) (P : Nat → Nat → Option Nat) (nx us : Nat), aI 20 (lay b F E I L P nx us) r0 (Int32.ofNat i + 3) = some (sc (i + 3))) (q4 : ∀ (E : Nat → Option KD) (I : Nat → Nat → Int32) (L : Nat → Nat → Int64) (P : Nat → Nat → Option Nat) (nx us : Nat), aI 20 (lay b F E I L P nx us) r0 (Int32.ofNat i + 4) = some (sc (i + 4))) (q5 : ∀ (E : Nat → Option KD) (I : Nat → Nat → Int32) (L : Nat → Nat → Int64) (P : Nat → Nat → Option Nat) (nx us : Nat), aI 20 (lay b F E I L P nx us) r0 (Int32.ofNat i + 5) = some (sc (i + 5))) (st : StepR b F (f_X11_where (ad b 0) ) (f_X15_where (ad b 72) ) E I L P a us) : Nxt b F z n r0 i a us (f_Law_734 z (f_Law_18 z n) r0 (ad b 0) (ad b 72) (Int32.ofNat i) (lay b F E I L P (149 + a) us)) := by
  obtain ⟨E2, I2, L2, P2, a2, us2, ⟨v, E1, I1, L1, P1, nx1, us1, e1, e2⟩, b1, b2', hR2⟩ := st
  refine ⟨E2, I2, L2, P2, a2, us2, ?_, b1, b2', hR2⟩
  unfold f_Law_734 f_Law_1749
  rw [e1, b2_p, e2, b2_p, if_pos rfl, oN6]
theorem br_747 {z : ZX} {a n r0 i : Nat} {sc : RW} (q1 : ∀ (E : Nat → Option KD) (I : Nat → Nat → Int32) (L : Nat → Nat → Int64) (P : Nat → Nat → Option Nat) (nx us : Nat), aI 20 (lay b F E I L P nx us) r0 (Int32.ofNat i + 1) = some (sc (i + 1))) (q2 : ∀ (E : Nat → Option KD) (I : Nat → Nat → Int32) (L : Nat → Nat → Int64) (P : Nat → Nat → Option Nat) (nx us : Nat), aI 20 (lay b F E I L P nx us) r0 (Int32.ofNat i + 2) = some (sc (i + 2))) (q3 : ∀ (E : Nat → Option KD) (I : Nat → Nat → Int32) (L : Nat → Nat → Int64) (P : Nat → Nat → Option Nat) (nx us : Nat), aI 20 (lay b F E I L P nx us) r0 (Int32.ofNat i + 3) = some (sc (i + 3))) (q4 : ∀ (E : Nat → Option KD) (I : Nat → Nat → Int32) (L : Nat → Nat → Int64) (P : Nat → Nat → Option Nat) (nx us : Nat), aI 20 (lay b F E I L P nx us) r0 (Int32.ofNat i + 4) = some (sc (i + 4))) (q5 : ∀ (E : Nat → Option KD) (I : Nat → Nat → Int32) (L : Nat → Nat → Int64) (P : Nat → Nat → Option Nat) (nx us : Nat), aI 20 (lay b F E I L P nx us) r0 (Int32.ofNat i + 5) = some (sc (i + 5))) (st : StepR b F (f_X11_sketch (ad b 0) (sc (i + 1)) (sc (i + 2))) (f_X15_sketch (ad b 72) (sc (i + 1)) (sc (i + 2))) E I L P a us) : Nxt b F z n r0 i a us (f_Law_747 z (f_Law_18 z n) r0 (ad b 0) (ad b 72) (Int32.ofNat i) (lay b F E I L P (149 + a) us)) := by
  obtain ⟨E2, I2, L2, P2, a2, us2, ⟨v, E1, I1, L1, P1, nx1, us1, e1, e2⟩, b1, b2', hR2⟩ := st
  refine ⟨E2, I2, L2, P2, a2, us2, ?_, b1, b2', hR2⟩
  unfold f_Law_747 f_Law_1749
  rw [q1, Option.bind_some, q2, Option.bind_some, e1, b2_p, q1, Option.bind_some, q2, Option.bind_some, e2, b2_p, if_pos rfl, oN6]
theorem br_780 {z : ZX} {a n r0 i : Nat} {sc : RW} (q1 : ∀ (E : Nat → Option KD) (I : Nat → Nat → Int32) (L : Nat → Nat → Int64) (P : Nat → Nat → Option Nat) (nx us : Nat), aI 20 (lay b F E I L P nx us) r0 (Int32.ofNat i + 1) = some (sc (i + 1))) (q2 : ∀ (E : Nat → Option KD) (I : Nat → Nat → Int32) (L : Nat → Nat → Int64) (P : Nat → Nat → Option Nat) (nx us : Nat), aI 20 (lay b F E I L P nx us) r0 (Int32.ofNat i + 2) = some (sc (i + 2))) (q3 : ∀ (E : Nat → Option KD) (I : Nat → Nat → Int32) (L : Nat → Nat → Int64) (P : Nat → Nat → Option Nat) (nx us : Nat), aI 20 (lay b F E I L P nx us) r0 (Int32.ofNat i + 3) = some (sc (i + 3))) (q4 : ∀ (E : Nat → Option KD) (I : Nat → Nat → Int32) (L : Nat → Nat → Int64) (P : Nat → Nat → Option Nat) (nx us : Nat), aI 20 (lay b F E I L P nx us) r0 (Int32.ofNat i + 4) = some (sc (i + 4))) (q5 : ∀ (E : Nat → Option KD) (I : Nat → Nat → Int32) (L : Nat → Nat → Int64) (P : Nat → Nat → Option Nat) (nx us : Nat), aI 20 (lay b F E I L P nx us) r0 (Int32.ofNat i + 5) = some (sc (i + 5))) (st : StepR b F (f_X11_sketched (ad b 0) (sc (i + 1)) (sc (i + 2))) (f_X15_sketched (ad b 72) (sc (i + 1)) (sc (i + 2))) E I L P a us) : Nxt b F z n r0 i a us (f_Law_780 z (f_Law_18 z n) r0 (ad b 0) (ad b 72) (Int32.ofNat i) (lay b F E I L P (149 + a) us)) := by
  obtain ⟨E2, I2, L2, P2, a2, us2, ⟨v, E1, I1, L1, P1, nx1, us1, e1, e2⟩, b1, b2', hR2⟩ := st
  refine ⟨E2, I2, L2, P2, a2, us2, ?_, b1, b2', hR2⟩
  unfold f_Law_780 f_Law_1749
  rw [q1, Option.bind_some, q2, Option.bind_some, e1, b2_p, q1, Option.bind_some, q2, Option.bind_some, e2, b2_p, if_pos rfl, oN6]
theorem br_813 {z : ZX} {a n r0 i : Nat} {sc : RW} (q1 : ∀ (E : Nat → Option KD) (I : Nat → Nat → Int32) (L : Nat → Nat → Int64) (P : Nat → Nat → Option Nat) (nx us : Nat), aI 20 (lay b F E I L P nx us) r0 (Int32.ofNat i + 1) = some (sc (i + 1))) (q2 : ∀ (E : Nat → Option KD) (I : Nat → Nat → Int32) (L : Nat → Nat → Int64) (P : Nat → Nat → Option Nat) (nx us : Nat), aI 20 (lay b F E I L P nx us) r0 (Int32.ofNat i + 2) = some (sc (i + 2))) (q3 : ∀ (E : Nat → Option KD) (I : Nat → Nat → Int32) (L : Nat → Nat → Int64) (P : Nat → Nat → Option Nat) (nx us : Nat), aI 20 (lay b F E I L P nx us) r0 (Int32.ofNat i + 3) = some (sc (i + 3))) (q4 : ∀ (E : Nat → Option KD) (I : Nat → Nat → Int32) (L : Nat → Nat → Int64) (P : Nat → Nat → Option Nat) (nx us : Nat), aI 20 (lay b F E I L P nx us) r0 (Int32.ofNat i + 4) = some (sc (i + 4))) (q5 : ∀ (E : Nat → Option KD) (I : Nat → Nat → Int32) (L : Nat → Nat → Int64) (P : Nat → Nat → Option Nat) (nx us : Nat), aI 20 (lay b F E I L P nx us) r0 (Int32.ofNat i + 5) = some (sc (i + 5))) (st : StepR b F (f_X11_sketchOf (ad b 0) (sc (i + 1))) (f_X15_sketchOf (ad b 72) (sc (i + 1))) E I L P a us) : Nxt b F z n r0 i a us (f_Law_813 z (f_Law_18 z n) r0 (ad b 0) (ad b 72) (Int32.ofNat i) (lay b F E I L P (149 + a) us)) := by
  obtain ⟨E2, I2, L2, P2, a2, us2, ⟨v, E1, I1, L1, P1, nx1, us1, e1, e2⟩, b1, b2', hR2⟩ := st
  refine ⟨E2, I2, L2, P2, a2, us2, ?_, b1, b2', hR2⟩
  unfold f_Law_813 f_Law_1749
  rw [q1, Option.bind_some, e1, b2_p, q1, Option.bind_some, e2, b2_p, if_pos rfl, oN6]
theorem br_836 {z : ZX} {a n r0 i : Nat} {sc : RW} (q1 : ∀ (E : Nat → Option KD) (I : Nat → Nat → Int32) (L : Nat → Nat → Int64) (P : Nat → Nat → Option Nat) (nx us : Nat), aI 20 (lay b F E I L P nx us) r0 (Int32.ofNat i + 1) = some (sc (i + 1))) (q2 : ∀ (E : Nat → Option KD) (I : Nat → Nat → Int32) (L : Nat → Nat → Int64) (P : Nat → Nat → Option Nat) (nx us : Nat), aI 20 (lay b F E I L P nx us) r0 (Int32.ofNat i + 2) = some (sc (i + 2))) (q3 : ∀ (E : Nat → Option KD) (I : Nat → Nat → Int32) (L : Nat → Nat → Int64) (P : Nat → Nat → Option Nat) (nx us : Nat), aI 20 (lay b F E I L P nx us) r0 (Int32.ofNat i + 3) = some (sc (i + 3))) (q4 : ∀ (E : Nat → Option KD) (I : Nat → Nat → Int32) (L : Nat → Nat → Int64) (P : Nat → Nat → Option Nat) (nx us : Nat), aI 20 (lay b F E I L P nx us) r0 (Int32.ofNat i + 4) = some (sc (i + 4))) (q5 : ∀ (E : Nat → Option KD) (I : Nat → Nat → Int32) (L : Nat → Nat → Int64) (P : Nat → Nat → Option Nat) (nx us : Nat), aI 20 (lay b F E I L P nx us) r0 (Int32.ofNat i + 5) = some (sc (i + 5))) (st : StepR b F (f_X11_unlike (ad b 0) (sc (i + 1))) (f_X15_unlike (ad b 72) (sc (i + 1))) E I L P a us) : Nxt b F z n r0 i a us (f_Law_836 z (f_Law_18 z n) r0 (ad b 0) (ad b 72) (Int32.ofNat i) (lay b F E I L P (149 + a) us)) := by
  obtain ⟨E2, I2, L2, P2, a2, us2, ⟨v, E1, I1, L1, P1, nx1, us1, e1, e2⟩, b1, b2', hR2⟩ := st
  refine ⟨E2, I2, L2, P2, a2, us2, ?_, b1, b2', hR2⟩
  unfold f_Law_836 f_Law_1749
  rw [q1, Option.bind_some, e1, b2_p, q1, Option.bind_some, e2, b2_p, if_pos rfl, oN6]
theorem br_859 {z : ZX} {a n r0 i : Nat} {sc : RW} (q1 : ∀ (E : Nat → Option KD) (I : Nat → Nat → Int32) (L : Nat → Nat → Int64) (P : Nat → Nat → Option Nat) (nx us : Nat), aI 20 (lay b F E I L P nx us) r0 (Int32.ofNat i + 1) = some (sc (i + 1))) (q2 : ∀ (E : Nat → Option KD) (I : Nat → Nat → Int32) (L : Nat → Nat → Int64) (P : Nat → Nat → Option Nat) (nx us : Nat), aI 20 (lay b F E I L P nx us) r0 (Int32.ofNat i + 2) = some (sc (i + 2))) (q3 : ∀ (E : Nat → Option KD) (I : Nat → Nat → Int32) (L : Nat → Nat → Int64) (P : Nat → Nat → Option Nat) (nx us : Nat), aI 20 (lay b F E I L P nx us) r0 (Int32.ofNat i + 3) = some (sc (i + 3))) (q4 : ∀ (E : Nat → Option KD) (I : Nat → Nat → Int32) (L : Nat → Nat → Int64) (P : Nat → Nat → Option Nat) (nx us : Nat), aI 20 (lay b F E I L P nx us) r0 (Int32.ofNat i + 4) = some (sc (i + 4))) (q5 : ∀ (E : Nat → Option KD) (I : Nat → Nat → Int32) (L : Nat → Nat → Int64) (P : Nat → Nat → Option Nat) (nx us : Nat), aI 20 (lay b F E I L P nx us) r0 (Int32.ofNat i + 5) = some (sc (i + 5))) (st : StepR b F (f_X11_painter (ad b 0) (sc (i + 1)) (sc (i + 2))) (f_X15_painter (ad b 72) (sc (i + 1)) (sc (i + 2))) E I L P a us) : Nxt b F z n r0 i a us (f_Law_859 z (f_Law_18 z n) r0 (ad b 0) (ad b 72) (Int32.ofNat i) (lay b F E I L P (149 + a) us)) := by
  obtain ⟨E2, I2, L2, P2, a2, us2, ⟨v, E1, I1, L1, P1, nx1, us1, e1, e2⟩, b1, b2', hR2⟩ := st
  refine ⟨E2, I2, L2, P2, a2, us2, ?_, b1, b2', hR2⟩
  unfold f_Law_859 f_Law_1749
  rw [q1, Option.bind_some, q2, Option.bind_some, e1, b2_p, q1, Option.bind_some, q2, Option.bind_some, e2, b2_p, if_pos rfl, oN6]
theorem br_892 {z : ZX} {a n r0 i : Nat} {sc : RW} (q1 : ∀ (E : Nat → Option KD) (I : Nat → Nat → Int32) (L : Nat → Nat → Int64) (P : Nat → Nat → Option Nat) (nx us : Nat), aI 20 (lay b F E I L P nx us) r0 (Int32.ofNat i + 1) = some (sc (i + 1))) (q2 : ∀ (E : Nat → Option KD) (I : Nat → Nat → Int32) (L : Nat → Nat → Int64) (P : Nat → Nat → Option Nat) (nx us : Nat), aI 20 (lay b F E I L P nx us) r0 (Int32.ofNat i + 2) = some (sc (i + 2))) (q3 : ∀ (E : Nat → Option KD) (I : Nat → Nat → Int32) (L : Nat → Nat → Int64) (P : Nat → Nat → Option Nat) (nx us : Nat), aI 20 (lay b F E I L P nx us) r0 (Int32.ofNat i + 3) = some (sc (i + 3))) (q4 : ∀ (E : Nat → Option KD) (I : Nat → Nat → Int32) (L : Nat → Nat → Int64) (P : Nat → Nat → Option Nat) (nx us : Nat), aI 20 (lay b F E I L P nx us) r0 (Int32.ofNat i + 4) = some (sc (i + 4))) (q5 : ∀ (E : Nat → Option KD) (I : Nat → Nat → Int32) (L : Nat → Nat → Int64) (P : Nat → Nat → Option Nat) (nx us : Nat), aI 20 (lay b F E I L P nx us) r0 (Int32.ofNat i + 5) = some (sc (i + 5))) (st : StepR b F (f_X11_wish (ad b 0) (sc (i + 1)) (sc (i + 2)) (sc (i + 3))) (f_X15_wish (ad b 72) (sc (i + 1)) (sc (i + 2)) (sc (i + 3))) E I L P a us) : Nxt b F z n r0 i a us (f_Law_892 z (f_Law_18 z n) r0 (ad b 0) (ad b 72) (Int32.ofNat i) (lay b F E I L P (149 + a) us)) := by
  obtain ⟨E2, I2, L2, P2, a2, us2, ⟨v, E1, I1, L1, P1, nx1, us1, e1, e2⟩, b1, b2', hR2⟩ := st
  refine ⟨E2, I2, L2, P2, a2, us2, ?_, b1, b2', hR2⟩
  unfold f_Law_892 f_Law_1749
  rw [q1, Option.bind_some, q2, Option.bind_some, q3, Option.bind_some, e1, b2_p, q1, Option.bind_some, q2, Option.bind_some, q3, Option.bind_some, e2, b2_p, if_pos rfl, oN6]
theorem br_935 {z : ZX} {a n r0 i : Nat} {sc : RW} (q1 : ∀ (E : Nat → Option KD) (I : Nat → Nat → Int32) (L : Nat → Nat → Int64) (P : Nat → Nat → Option Nat) (nx us : Nat), aI 20 (lay b F E I L P nx us) r0 (Int32.ofNat i + 1) = some (sc (i + 1))) (q2 : ∀ (E : Nat → Option KD) (I : Nat → Nat → Int32) (L : Nat → Nat → Int64) (P : Nat → Nat → Option Nat) (nx us : Nat), aI 20 (lay b F E I L P nx us) r0 (Int32.ofNat i + 2) = some (sc (i + 2))) (q3 : ∀ (E : Nat → Option KD) (I : Nat → Nat → Int32) (L : Nat → Nat → Int64) (P : Nat → Nat → Option Nat) (nx us : Nat), aI 20 (lay b F E I L P nx us) r0 (Int32.ofNat i + 3) = some (sc (i + 3))) (q4 : ∀ (E : Nat → Option KD) (I : Nat → Nat → Int32) (L : Nat → Nat → Int64) (P : Nat → Nat → Option Nat) (nx us : Nat), aI 20 (lay b F E I L P nx us) r0 (Int32.ofNat i + 4) = some (sc (i + 4))) (q5 : ∀ (E : Nat → Option KD) (I : Nat → Nat → Int32) (L : Nat → Nat → Int64) (P : Nat → Nat → Option Nat) (nx us : Nat), aI 20 (lay b F E I L P nx us) r0 (Int32.ofNat i + 5) = some (sc (i + 5))) (st : StepR b F (f_X11_vote (ad b 0) (sc (i + 1)) (sc (i + 2)) (sc (i + 3)) (sc (i + 4))) (f_X15_vote (ad b 72) (sc (i + 1)) (sc (i + 2)) (sc (i + 3)) (sc (i + 4))) E I L P a us) : Nxt b F z n r0 i a us (f_Law_935 z (f_Law_18 z n) r0 (ad b 0) (ad b 72) (Int32.ofNat i) (lay b F E I L P (149 + a) us)) := by
  obtain ⟨E2, I2, L2, P2, a2, us2, ⟨v, E1, I1, L1, P1, nx1, us1, e1, e2⟩, b1, b2', hR2⟩ := st
  refine ⟨E2, I2, L2, P2, a2, us2, ?_, b1, b2', hR2⟩
  unfold f_Law_935 f_Law_1749
  rw [q1, Option.bind_some, q2, Option.bind_some, q3, Option.bind_some, q4, Option.bind_some, e1, b2_p, q1, Option.bind_some, q2, Option.bind_some, q3, Option.bind_some, q4, Option.bind_some, e2, b2_p, if_pos rfl, oN6]
theorem br_988 {z : ZX} {a n r0 i : Nat} {sc : RW} (q1 : ∀ (E : Nat → Option KD) (I : Nat → Nat → Int32) (L : Nat → Nat → Int64) (P : Nat → Nat → Option Nat) (nx us : Nat), aI 20 (lay b F E I L P nx us) r0 (Int32.ofNat i + 1) = some (sc (i + 1))) (q2 : ∀ (E : Nat → Option KD) (I : Nat → Nat → Int32) (L : Nat → Nat → Int64) (P : Nat → Nat → Option Nat) (nx us : Nat), aI 20 (lay b F E I L P nx us) r0 (Int32.ofNat i + 2) = some (sc (i + 2))) (q3 : ∀ (E : Nat → Option KD) (I : Nat → Nat → Int32) (L : Nat → Nat → Int64) (P : Nat → Nat → Option Nat) (nx us : Nat), aI 20 (lay b F E I L P nx us) r0 (Int32.ofNat i + 3) = some (sc (i + 3))) (q4 : ∀ (E : Nat → Option KD) (I : Nat → Nat → Int32) (L : Nat → Nat → Int64) (P : Nat → Nat → Option Nat) (nx us : Nat), aI 20 (lay b F E I L P nx us) r0 (Int32.ofNat i + 4) = some (sc (i + 4))) (q5 : ∀ (E : Nat → Option KD) (I : Nat → Nat → Int32) (L : Nat → Nat → Int64) (P : Nat → Nat → Option Nat) (nx us : Nat), aI 20 (lay b F E I L P nx us) r0 (Int32.ofNat i + 5) = some (sc (i + 5))) (st : StepR b F (f_X11_liked (ad b 0) (sc (i + 1)) (sc (i + 2))) (f_X15_liked (ad b 72) (sc (i + 1)) (sc (i + 2))) E I L P a us) : Nxt b F z n r0 i a us (f_Law_988 z (f_Law_18 z n) r0 (ad b 0) (ad b 72) (Int32.ofNat i) (lay b F E I L P (149 + a) us)) := by
  obtain ⟨E2, I2, L2, P2, a2, us2, ⟨v, E1, I1, L1, P1, nx1, us1, e1, e2⟩, b1, b2', hR2⟩ := st
  refine ⟨E2, I2, L2, P2, a2, us2, ?_, b1, b2', hR2⟩
  unfold f_Law_988 f_Law_1749
  rw [q1, Option.bind_some, q2, Option.bind_some, e1, b2_p, q1, Option.bind_some, q2, Option.bind_some, e2, b2_p, if_pos rfl, oN6]
theorem br_1021 {z : ZX} {a n r0 i : Nat} {sc : RW} (q1 : ∀ (E : Nat → Option KD) (I : Nat → Nat → Int32) (L : Nat → Nat → Int64) (P : Nat → Nat → Option Nat) (nx us : Nat), aI 20 (lay b F E I L P nx us) r0 (Int32.ofNat i + 1) = some (sc (i + 1))) (q2 : ∀ (E : Nat → Option KD) (I : Nat → Nat → Int32) (L : Nat → Nat → Int64) (P : Nat → Nat → Option Nat) (nx us : Nat), aI 20 (lay b F E I L P nx us) r0 (Int32.ofNat i + 2) = some (sc (i + 2))) (q3 : ∀ (E : Nat → Option KD) (I : Nat → Nat → Int32) (L : Nat → Nat → Int64) (P : Nat → Nat → Option Nat) (nx us : Nat), aI 20 (lay b F E I L P nx us) r0 (Int32.ofNat i + 3) = some (sc (i + 3))) (q4 : ∀ (E : Nat → Option KD) (I : Nat → Nat → Int32) (L : Nat → Nat → Int64) (P : Nat → Nat → Option Nat) (nx us : Nat), aI 20 (lay b F E I L P nx us) r0 (Int32.ofNat i + 4) = some (sc (i + 4))) (q5 : ∀ (E : Nat → Option KD) (I : Nat → Nat → Int32) (L : Nat → Nat → Int64) (P : Nat → Nat → Option Nat) (nx us : Nat), aI 20 (lay b F E I L P nx us) r0 (Int32.ofNat i + 5) = some (sc (i + 5))) (st : StepR b F (f_X11_give (ad b 0) (sc (i + 1))) (f_X15_give (ad b 72) (sc (i + 1))) E I L P a us) : Nxt b F z n r0 i a us (f_Law_1021 z (f_Law_18 z n) r0 (ad b 0) (ad b 72) (Int32.ofNat i) (lay b F E I L P (149 + a) us)) := by
  obtain ⟨E2, I2, L2, P2, a2, us2, ⟨v, E1, I1, L1, P1, nx1, us1, e1, e2⟩, b1, b2', hR2⟩ := st
  refine ⟨E2, I2, L2, P2, a2, us2, ?_, b1, b2', hR2⟩
  unfold f_Law_1021 f_Law_1749
  rw [q1, Option.bind_some, e1, b2_p, q1, Option.bind_some, e2, b2_p, if_pos rfl, oN6]
theorem br_1044 {z : ZX} {a n r0 i : Nat} {sc : RW} (q1 : ∀ (E : Nat → Option KD) (I : Nat → Nat → Int32) (L : Nat → Nat → Int64) (P : Nat → Nat → Option Nat) (nx us : Nat), aI 20 (lay b F E I L P nx us) r0 (Int32.ofNat i + 1) = some (sc (i + 1))) (q2 : ∀ (E : Nat → Option KD) (I : Nat → Nat → Int32) (L : Nat → Nat → Int64) (P : Nat → Nat → Option Nat) (nx us : Nat), aI 20 (lay b F E I L P nx us) r0 (Int32.ofNat i + 2) = some (sc (i + 2))) (q3 : ∀ (E : Nat → Option KD) (I : Nat → Nat → Int32) (L : Nat → Nat → Int64) (P : Nat → Nat → Option Nat) (nx us : Nat), aI 20 (lay b F E I L P nx us) r0 (Int32.ofNat i + 3) = some (sc (i + 3))) (q4 : ∀ (E : Nat → Option KD) (I : Nat → Nat → Int32) (L : Nat → Nat → Int64) (P : Nat → Nat → Option Nat) (nx us : Nat), aI 20 (lay b F E I L P nx us) r0 (Int32.ofNat i + 4) = some (sc (i + 4))) (q5 : ∀ (E : Nat → Option KD) (I : Nat → Nat → Int32) (L : Nat → Nat → Int64) (P : Nat → Nat → Option Nat) (nx us : Nat), aI 20 (lay b F E I L P nx us) r0 (Int32.ofNat i + 5) = some (sc (i + 5))) (st : StepR b F (f_X11_given (ad b 0) (sc (i + 1))) (f_X15_given (ad b 72) (sc (i + 1))) E I L P a us) : Nxt b F z n r0 i a us (f_Law_1044 z (f_Law_18 z n) r0 (ad b 0) (ad b 72) (Int32.ofNat i) (lay b F E I L P (149 + a) us)) := by
  obtain ⟨E2, I2, L2, P2, a2, us2, ⟨v, E1, I1, L1, P1, nx1, us1, e1, e2⟩, b1, b2', hR2⟩ := st
  refine ⟨E2, I2, L2, P2, a2, us2, ?_, b1, b2', hR2⟩
  unfold f_Law_1044 f_Law_1749
  rw [q1, Option.bind_some, e1, b2_p, q1, Option.bind_some, e2, b2_p, if_pos rfl, oN6]
theorem br_1067 {z : ZX} {a n r0 i : Nat} {sc : RW} (q1 : ∀ (E : Nat → Option KD) (I : Nat → Nat → Int32) (L : Nat → Nat → Int64) (P : Nat → Nat → Option Nat) (nx us : Nat), aI 20 (lay b F E I L P nx us) r0 (Int32.ofNat i + 1) = some (sc (i + 1))) (q2 : ∀ (E : Nat → Option KD) (I : Nat → Nat → Int32) (L : Nat → Nat → Int64) (P : Nat → Nat → Option Nat) (nx us : Nat), aI 20 (lay b F E I L P nx us) r0 (Int32.ofNat i + 2) = some (sc (i + 2))) (q3 : ∀ (E : Nat → Option KD) (I : Nat → Nat → Int32) (L : Nat → Nat → Int64) (P : Nat → Nat → Option Nat) (nx us : Nat), aI 20 (lay b F E I L P nx us) r0 (Int32.ofNat i + 3) = some (sc (i + 3))) (q4 : ∀ (E : Nat → Option KD) (I : Nat → Nat → Int32) (L : Nat → Nat → Int64) (P : Nat → Nat → Option Nat) (nx us : Nat), aI 20 (lay b F E I L P nx us) r0 (Int32.ofNat i + 4) = some (sc (i + 4))) (q5 : ∀ (E : Nat → Option KD) (I : Nat → Nat → Int32) (L : Nat → Nat → Int64) (P : Nat → Nat → Option Nat) (nx us : Nat), aI 20 (lay b F E I L P nx us) r0 (Int32.ofNat i + 5) = some (sc (i + 5))) (st : StepR b F (f_X11_work (ad b 0) (sc (i + 1)) (sc (i + 2)) (sc (i + 3))) (f_X15_work (ad b 72) (sc (i + 1)) (sc (i + 2)) (sc (i + 3))) E I L P a us) : Nxt b F z n r0 i a us (f_Law_1067 z (f_Law_18 z n) r0 (ad b 0) (ad b 72) (Int32.ofNat i) (lay b F E I L P (149 + a) us)) := by
  obtain ⟨E2, I2, L2, P2, a2, us2, ⟨v, E1, I1, L1, P1, nx1, us1, e1, e2⟩, b1, b2', hR2⟩ := st
  refine ⟨E2, I2, L2, P2, a2, us2, ?_, b1, b2', hR2⟩
  unfold f_Law_1067 f_Law_1749
  rw [q1, Option.bind_some, q2, Option.bind_some, q3, Option.bind_some, e1, b2_p, q1, Option.bind_some, q2, Option.bind_some, q3, Option.bind_some, e2, b2_p, if_pos rfl, oN6]
theorem br_1110 {z : ZX} {a n r0 i : Nat} {sc : RW} (q1 : ∀ (E : Nat → Option KD) (I : Nat → Nat → Int32) (L : Nat → Nat → Int64) (P : Nat → Nat → Option Nat) (nx us : Nat), aI 20 (lay b F E I L P nx us) r0 (Int32.ofNat i + 1) = some (sc (i + 1))) (q2 : ∀ (E : Nat → Option KD) (I : Nat → Nat → Int32) (L : Nat → Nat → Int64) (P : Nat → Nat → Option Nat) (nx us : Nat), aI 20 (lay b F E I L P nx us) r0 (Int32.ofNat i + 2) = some (sc (i + 2))) (q3 : ∀ (E : Nat → Option KD) (I : Nat → Nat → Int32) (L : Nat → Nat → Int64) (P : Nat → Nat → Option Nat) (nx us : Nat), aI 20 (lay b F E I L P nx us) r0 (Int32.ofNat i + 3) = some (sc (i + 3))) (q4 : ∀ (E : Nat → Option KD) (I : Nat → Nat → Int32) (L : Nat → Nat → Int64) (P : Nat → Nat → Option Nat) (nx us : Nat), aI 20 (lay b F E I L P nx us) r0 (Int32.ofNat i + 4) = some (sc (i + 4))) (q5 : ∀ (E : Nat → Option KD) (I : Nat → Nat → Int32) (L : Nat → Nat → Int64) (P : Nat → Nat → Option Nat) (nx us : Nat), aI 20 (lay b F E I L P nx us) r0 (Int32.ofNat i + 5) = some (sc (i + 5))) (st : StepR b F (f_X11_workOf (ad b 0) (sc (i + 1)) (sc (i + 2))) (f_X15_workOf (ad b 72) (sc (i + 1)) (sc (i + 2))) E I L P a us) : Nxt b F z n r0 i a us (f_Law_1110 z (f_Law_18 z n) r0 (ad b 0) (ad b 72) (Int32.ofNat i) (lay b F E I L P (149 + a) us)) := by
  obtain ⟨E2, I2, L2, P2, a2, us2, ⟨v, E1, I1, L1, P1, nx1, us1, e1, e2⟩, b1, b2', hR2⟩ := st
  refine ⟨E2, I2, L2, P2, a2, us2, ?_, b1, b2', hR2⟩
  unfold f_Law_1110 f_Law_1749
  rw [q1, Option.bind_some, q2, Option.bind_some, e1, b2_p, q1, Option.bind_some, q2, Option.bind_some, e2, b2_p, if_pos rfl, oN6]
theorem br_1143 {z : ZX} {a n r0 i : Nat} {sc : RW} (q1 : ∀ (E : Nat → Option KD) (I : Nat → Nat → Int32) (L : Nat → Nat → Int64) (P : Nat → Nat → Option Nat) (nx us : Nat), aI 20 (lay b F E I L P nx us) r0 (Int32.ofNat i + 1) = some (sc (i + 1))) (q2 : ∀ (E : Nat → Option KD) (I : Nat → Nat → Int32) (L : Nat → Nat → Int64) (P : Nat → Nat → Option Nat) (nx us : Nat), aI 20 (lay b F E I L P nx us) r0 (Int32.ofNat i + 2) = some (sc (i + 2))) (q3 : ∀ (E : Nat → Option KD) (I : Nat → Nat → Int32) (L : Nat → Nat → Int64) (P : Nat → Nat → Option Nat) (nx us : Nat), aI 20 (lay b F E I L P nx us) r0 (Int32.ofNat i + 3) = some (sc (i + 3))) (q4 : ∀ (E : Nat → Option KD) (I : Nat → Nat → Int32) (L : Nat → Nat → Int64) (P : Nat → Nat → Option Nat) (nx us : Nat), aI 20 (lay b F E I L P nx us) r0 (Int32.ofNat i + 4) = some (sc (i + 4))) (q5 : ∀ (E : Nat → Option KD) (I : Nat → Nat → Int32) (L : Nat → Nat → Int64) (P : Nat → Nat → Option Nat) (nx us : Nat), aI 20 (lay b F E I L P nx us) r0 (Int32.ofNat i + 5) = some (sc (i + 5))) (st : StepR b F (f_X11_weather (ad b 0) (sc (i + 1)) (sc (i + 2)) (sc (i + 3))) (f_X15_weather (ad b 72) (sc (i + 1)) (sc (i + 2)) (sc (i + 3))) E I L P a us) : Nxt b F z n r0 i a us (f_Law_1143 z (f_Law_18 z n) r0 (ad b 0) (ad b 72) (Int32.ofNat i) (lay b F E I L P (149 + a) us)) := by
  obtain ⟨E2, I2, L2, P2, a2, us2, ⟨v, E1, I1, L1, P1, nx1, us1, e1, e2⟩, b1, b2', hR2⟩ := st
  refine ⟨E2, I2, L2, P2, a2, us2, ?_, b1, b2', hR2⟩
  unfold f_Law_1143 f_Law_1749
  rw [q1, Option.bind_some, q2, Option.bind_some, q3, Option.bind_some, e1, b2_p, q1, Option.bind_some, q2, Option.bind_some, q3, Option.bind_some, e2, b2_p, if_pos rfl, oN6]
theorem br_1186 {z : ZX} {a n r0 i : Nat} {sc : RW} (q1 : ∀ (E : Nat → Option KD) (I : Nat → Nat → Int32) (L : Nat → Nat → Int64) (P : Nat → Nat → Option Nat) (nx us : Nat), aI 20 (lay b F E I L P nx us) r0 (Int32.ofNat i + 1) = some (sc (i + 1))) (q2 : ∀ (E : Nat → Option KD) (I : Nat → Nat → Int32) (L : Nat → Nat → Int64) (P : Nat → Nat → Option Nat) (nx us : Nat), aI 20 (lay b F E I L P nx us) r0 (Int32.ofNat i + 2) = some (sc (i + 2))) (q3 : ∀ (E : Nat → Option KD) (I : Nat → Nat → Int32) (L : Nat → Nat → Int64) (P : Nat → Nat → Option Nat) (nx us : Nat), aI 20 (lay b F E I L P nx us) r0 (Int32.ofNat i + 3) = some (sc (i + 3))) (q4 : ∀ (E : Nat → Option KD) (I : Nat → Nat → Int32) (L : Nat → Nat → Int64) (P : Nat → Nat → Option Nat) (nx us : Nat), aI 20 (lay b F E I L P nx us) r0 (Int32.ofNat i + 4) = some (sc (i + 4))) (q5 : ∀ (E : Nat → Option KD) (I : Nat → Nat → Int32) (L : Nat → Nat → Int64) (P : Nat → Nat → Option Nat) (nx us : Nat), aI 20 (lay b F E I L P nx us) r0 (Int32.ofNat i + 5) = some (sc (i + 5))) (st : StepR b F (f_X11_lifts (ad b 0) (sc (i + 1))) (f_X15_lifts (ad b 72) (sc (i + 1))) E I L P a us) : Nxt b F z n r0 i a us (f_Law_1186 z (f_Law_18 z n) r0 (ad b 0) (ad b 72) (Int32.ofNat i) (lay b F E I L P (149 + a) us)) := by
  obtain ⟨E2, I2, L2, P2, a2, us2, ⟨v, E1, I1, L1, P1, nx1, us1, e1, e2⟩, b1, b2', hR2⟩ := st
  refine ⟨E2, I2, L2, P2, a2, us2, ?_, b1, b2', hR2⟩
  unfold f_Law_1186 f_Law_1749
  rw [q1, Option.bind_some, e1, b2_p, q1, Option.bind_some, e2, b2_p, if_pos rfl, oN6]
theorem br_1209 {z : ZX} {a n r0 i : Nat} {sc : RW} (q1 : ∀ (E : Nat → Option KD) (I : Nat → Nat → Int32) (L : Nat → Nat → Int64) (P : Nat → Nat → Option Nat) (nx us : Nat), aI 20 (lay b F E I L P nx us) r0 (Int32.ofNat i + 1) = some (sc (i + 1))) (q2 : ∀ (E : Nat → Option KD) (I : Nat → Nat → Int32) (L : Nat → Nat → Int64) (P : Nat → Nat → Option Nat) (nx us : Nat), aI 20 (lay b F E I L P nx us) r0 (Int32.ofNat i + 2) = some (sc (i + 2))) (q3 : ∀ (E : Nat → Option KD) (I : Nat → Nat → Int32) (L : Nat → Nat → Int64) (P : Nat → Nat → Option Nat) (nx us : Nat), aI 20 (lay b F E I L P nx us) r0 (Int32.ofNat i + 3) = some (sc (i + 3))) (q4 : ∀ (E : Nat → Option KD) (I : Nat → Nat → Int32) (L : Nat → Nat → Int64) (P : Nat → Nat → Option Nat) (nx us : Nat), aI 20 (lay b F E I L P nx us) r0 (Int32.ofNat i + 4) = some (sc (i + 4))) (q5 : ∀ (E : Nat → Option KD) (I : Nat → Nat → Int32) (L : Nat → Nat → Int64) (P : Nat → Nat → Option Nat) (nx us : Nat), aI 20 (lay b F E I L P nx us) r0 (Int32.ofNat i + 5) = some (sc (i + 5))) (st : StepR b F (f_X11_end (ad b 0) (sc (i + 1))) (f_X15_end (ad b 72) (sc (i + 1))) E I L P a us) : Nxt b F z n r0 i a us (f_Law_1209 z (f_Law_18 z n) r0 (ad b 0) (ad b 72) (Int32.ofNat i) (lay b F E I L P (149 + a) us)) := by
  obtain ⟨E2, I2, L2, P2, a2, us2, ⟨v, E1, I1, L1, P1, nx1, us1, e1, e2⟩, b1, b2', hR2⟩ := st
  refine ⟨E2, I2, L2, P2, a2, us2, ?_, b1, b2', hR2⟩
  unfold f_Law_1209 f_Law_1749
  rw [q1, Option.bind_some, e1, b2_p, q1, Option.bind_some, e2, b2_p, if_pos rfl, oN6]
theorem br_1232 {z : ZX} {a n r0 i : Nat} {sc : RW} (q1 : ∀ (E : Nat → Option KD) (I : Nat → Nat → Int32) (L : Nat → Nat → Int64) (P : Nat → Nat → Option Nat) (nx us : Nat), aI 20 (lay b F E I L P nx us) r0 (Int32.ofNat i + 1) = some (sc (i + 1))) (q2 : ∀ (E : Nat → Option KD) (I : Nat → Nat → Int32) (L : Nat → Nat → Int64) (P : Nat → Nat → Option Nat) (nx us : Nat), aI 20 (lay b F E I L P nx us) r0 (Int32.ofNat i + 2) = some (sc (i + 2))) (q3 : ∀ (E : Nat → Option KD) (I : Nat → Nat → Int32) (L : Nat → Nat → Int64) (P : Nat → Nat → Option Nat) (nx us : Nat), aI 20 (lay b F E I L P nx us) r0 (Int32.ofNat i + 3) = some (sc (i + 3))) (q4 : ∀ (E : Nat → Option KD) (I : Nat → Nat → Int32) (L : Nat → Nat → Int64) (P : Nat → Nat → Option Nat) (nx us : Nat), aI 20 (lay b F E I L P nx us) r0 (Int32.ofNat i + 4) = some (sc (i + 4))) (q5 : ∀ (E : Nat → Option KD) (I : Nat → Nat → Int32) (L : Nat → Nat → Int64) (P : Nat → Nat → Option Nat) (nx us : Nat), aI 20 (lay b F E I L P nx us) r0 (Int32.ofNat i + 5) = some (sc (i + 5))) (st : StepR b F (f_X11_ready (ad b 0) (sc (i + 1))) (f_X15_ready (ad b 72) (sc (i + 1))) E I L P a us) : Nxt b F z n r0 i a us (f_Law_1232 z (f_Law_18 z n) r0 (ad b 0) (ad b 72) (Int32.ofNat i) (lay b F E I L P (149 + a) us)) := by
  obtain ⟨E2, I2, L2, P2, a2, us2, ⟨v, E1, I1, L1, P1, nx1, us1, e1, e2⟩, b1, b2', hR2⟩ := st
  refine ⟨E2, I2, L2, P2, a2, us2, ?_, b1, b2', hR2⟩
  unfold f_Law_1232 f_Law_1749
  rw [q1, Option.bind_some, e1, b2_p, q1, Option.bind_some, e2, b2_p, if_pos rfl, oN6]
theorem br_1255 {z : ZX} {a n r0 i : Nat} {sc : RW} (q1 : ∀ (E : Nat → Option KD) (I : Nat → Nat → Int32) (L : Nat → Nat → Int64) (P : Nat → Nat → Option Nat) (nx us : Nat), aI 20 (lay b F E I L P nx us) r0 (Int32.ofNat i + 1) = some (sc (i + 1))) (q2 : ∀ (E : Nat → Option KD) (I : Nat → Nat → Int32) (L : Nat → Nat → Int64) (P : Nat → Nat → Option Nat) (nx us : Nat), aI 20 (lay b F E I L P nx us) r0 (Int32.ofNat i + 2) = some (sc (i + 2))) (q3 : ∀ (E : Nat → Option KD) (I : Nat → Nat → Int32) (L : Nat → Nat → Int64) (P : Nat → Nat → Option Nat) (nx us : Nat), aI 20 (lay b F E I L P nx us) r0 (Int32.ofNat i + 3) = some (sc (i + 3))) (q4 : ∀ (E : Nat → Option KD) (I : Nat → Nat → Int32) (L : Nat → Nat → Int64) (P : Nat → Nat → Option Nat) (nx us : Nat), aI 20 (lay b F E I L P nx us) r0 (Int32.ofNat i + 4) = some (sc (i + 4))) (q5 : ∀ (E : Nat → Option KD) (I : Nat → Nat → Int32) (L : Nat → Nat → Int64) (P : Nat → Nat → Option Nat) (nx us : Nat), aI 20 (lay b F E I L P nx us) r0 (Int32.ofNat i + 5) = some (sc (i + 5))) (st : StepR b F (f_X11_tin (ad b 0) (sc (i + 1)) (sc (i + 2))) (f_X15_tin (ad b 72) (sc (i + 1)) (sc (i + 2))) E I L P a us) : Nxt b F z n r0 i a us (f_Law_1255 z (f_Law_18 z n) r0 (ad b 0) (ad b 72) (Int32.ofNat i) (lay b F E I L P (149 + a) us)) := by
  obtain ⟨E2, I2, L2, P2, a2, us2, ⟨v, E1, I1, L1, P1, nx1, us1, e1, e2⟩, b1, b2', hR2⟩ := st
  refine ⟨E2, I2, L2, P2, a2, us2, ?_, b1, b2', hR2⟩
  unfold f_Law_1255 f_Law_1749
  rw [q1, Option.bind_some, q2, Option.bind_some, e1, b2_p, q1, Option.bind_some, q2, Option.bind_some, e2, b2_p, if_pos rfl, oN6]
theorem br_1288 {z : ZX} {a n r0 i : Nat} {sc : RW} (q1 : ∀ (E : Nat → Option KD) (I : Nat → Nat → Int32) (L : Nat → Nat → Int64) (P : Nat → Nat → Option Nat) (nx us : Nat), aI 20 (lay b F E I L P nx us) r0 (Int32.ofNat i + 1) = some (sc (i + 1))) (q2 : ∀ (E : Nat → Option KD) (I : Nat → Nat → Int32) (L : Nat → Nat → Int64) (P : Nat → Nat → Option Nat) (nx us : Nat), aI 20 (lay b F E I L P nx us) r0 (Int32.ofNat i + 2) = some (sc (i + 2))) (q3 : ∀ (E : Nat → Option KD) (I : Nat → Nat → Int32) (L : Nat → Nat → Int64) (P : Nat → Nat → Option Nat) (nx us : Nat), aI 20 (lay b F E I L P nx us) r0 (Int32.ofNat i + 3) = some (sc (i + 3))) (q4 : ∀ (E : Nat → Option KD) (I : Nat → Nat → Int32) (L : Nat → Nat → Int64) (P : Nat → Nat → Option Nat) (nx us : Nat), aI 20 (lay b F E I L P nx us) r0 (Int32.ofNat i + 4) = some (sc (i + 4))) (q5 : ∀ (E : Nat → Option KD) (I : Nat → Nat → Int32) (L : Nat → Nat → Int64) (P : Nat → Nat → Option Nat) (nx us : Nat), aI 20 (lay b F E I L P nx us) r0 (Int32.ofNat i + 5) = some (sc (i + 5))) (st : StepR b F (f_X11_left (ad b 0) (sc (i + 1))) (f_X15_left (ad b 72) (sc (i + 1))) E I L P a us) : Nxt b F z n r0 i a us (f_Law_1288 z (f_Law_18 z n) r0 (ad b 0) (ad b 72) (Int32.ofNat i) (lay b F E I L P (149 + a) us)) := by
  obtain ⟨E2, I2, L2, P2, a2, us2, ⟨v, E1, I1, L1, P1, nx1, us1, e1, e2⟩, b1, b2', hR2⟩ := st
  refine ⟨E2, I2, L2, P2, a2, us2, ?_, b1, b2', hR2⟩
  unfold f_Law_1288 f_Law_1749
  rw [q1, Option.bind_some, e1, b2_p, q1, Option.bind_some, e2, b2_p, if_pos rfl, oN6]
theorem br_1311 {z : ZX} {a n r0 i : Nat} {sc : RW} (q1 : ∀ (E : Nat → Option KD) (I : Nat → Nat → Int32) (L : Nat → Nat → Int64) (P : Nat → Nat → Option Nat) (nx us : Nat), aI 20 (lay b F E I L P nx us) r0 (Int32.ofNat i + 1) = some (sc (i + 1))) (q2 : ∀ (E : Nat → Option KD) (I : Nat → Nat → Int32) (L : Nat → Nat → Int64) (P : Nat → Nat → Option Nat) (nx us : Nat), aI 20 (lay b F E I L P nx us) r0 (Int32.ofNat i + 2) = some (sc (i + 2))) (q3 : ∀ (E : Nat → Option KD) (I : Nat → Nat → Int32) (L : Nat → Nat → Int64) (P : Nat → Nat → Option Nat) (nx us : Nat), aI 20 (lay b F E I L P nx us) r0 (Int32.ofNat i + 3) = some (sc (i + 3))) (q4 : ∀ (E : Nat → Option KD) (I : Nat → Nat → Int32) (L : Nat → Nat → Int64) (P : Nat → Nat → Option Nat) (nx us : Nat), aI 20 (lay b F E I L P nx us) r0 (Int32.ofNat i + 4) = some (sc (i + 4))) (q5 : ∀ (E : Nat → Option KD) (I : Nat → Nat → Int32) (L : Nat → Nat → Int64) (P : Nat → Nat → Option Nat) (nx us : Nat), aI 20 (lay b F E I L P nx us) r0 (Int32.ofNat i + 5) = some (sc (i + 5))) (st : StepR b F (f_X11_pass (ad b 0) (sc (i + 1))) (f_X15_pass (ad b 72) (sc (i + 1))) E I L P a us) : Nxt b F z n r0 i a us (f_Law_1311 z (f_Law_18 z n) r0 (ad b 0) (ad b 72) (Int32.ofNat i) (lay b F E I L P (149 + a) us)) := by
  obtain ⟨E2, I2, L2, P2, a2, us2, ⟨v, E1, I1, L1, P1, nx1, us1, e1, e2⟩, b1, b2', hR2⟩ := st
  refine ⟨E2, I2, L2, P2, a2, us2, ?_, b1, b2', hR2⟩
  unfold f_Law_1311 f_Law_1749
  rw [q1, Option.bind_some, e1, b2_p, q1, Option.bind_some, e2, b2_p, if_pos rfl, oN6]
theorem br_1334 {z : ZX} {a n r0 i : Nat} {sc : RW} (q1 : ∀ (E : Nat → Option KD) (I : Nat → Nat → Int32) (L : Nat → Nat → Int64) (P : Nat → Nat → Option Nat) (nx us : Nat), aI 20 (lay b F E I L P nx us) r0 (Int32.ofNat i + 1) = some (sc (i + 1))) (q2 : ∀ (E : Nat → Option KD) (I : Nat → Nat → Int32) (L : Nat → Nat → Int64) (P : Nat → Nat → Option Nat) (nx us : Nat), aI 20 (lay b F E I L P nx us) r0 (Int32.ofNat i + 2) = some (sc (i + 2))) (q3 : ∀ (E : Nat → Option KD) (I : Nat → Nat → Int32) (L : Nat → Nat → Int64) (P : Nat → Nat → Option Nat) (nx us : Nat), aI 20 (lay b F E I L P nx us) r0 (Int32.ofNat i + 3) = some (sc (i + 3))) (q4 : ∀ (E : Nat → Option KD) (I : Nat → Nat → Int32) (L : Nat → Nat → Int64) (P : Nat → Nat → Option Nat) (nx us : Nat), aI 20 (lay b F E I L P nx us) r0 (Int32.ofNat i + 4) = some (sc (i + 4))) (q5 : ∀ (E : Nat → Option KD) (I : Nat → Nat → Int32) (L : Nat → Nat → Int64) (P : Nat → Nat → Option Nat) (nx us : Nat), aI 20 (lay b F E I L P nx us) r0 (Int32.ofNat i + 5) = some (sc (i + 5))) (st : StepR b F (f_X11_cell (ad b 0) (sc (i + 1)) (sc (i + 2)) (sc (i + 3))) (f_X15_cell (ad b 72) (sc (i + 1)) (sc (i + 2)) (sc (i + 3))) E I L P a us) : Nxt b F z n r0 i a us (f_Law_1334 z (f_Law_18 z n) r0 (ad b 0) (ad b 72) (Int32.ofNat i) (lay b F E I L P (149 + a) us)) := by
  obtain ⟨E2, I2, L2, P2, a2, us2, ⟨v, E1, I1, L1, P1, nx1, us1, e1, e2⟩, b1, b2', hR2⟩ := st
  refine ⟨E2, I2, L2, P2, a2, us2, ?_, b1, b2', hR2⟩
  unfold f_Law_1334 f_Law_1749
  rw [q1, Option.bind_some, q2, Option.bind_some, q3, Option.bind_some, e1, b2_p, q1, Option.bind_some, q2, Option.bind_some, q3, Option.bind_some, e2, b2_p, if_pos rfl, oN6]
theorem br_1377 {z : ZX} {a n r0 i : Nat} {sc : RW} (q1 : ∀ (E : Nat → Option KD) (I : Nat → Nat → Int32) (L : Nat → Nat → Int64) (P : Nat → Nat → Option Nat) (nx us : Nat), aI 20 (lay b F E I L P nx us) r0 (Int32.ofNat i + 1) = some (sc (i + 1))) (q2 : ∀ (E : Nat → Option KD) (I : Nat → Nat → Int32) (L : Nat → Nat → Int64) (P : Nat → Nat → Option Nat) (nx us : Nat), aI 20 (lay b F E I L P nx us) r0 (Int32.ofNat i + 2) = some (sc (i + 2))) (q3 : ∀ (E : Nat → Option KD) (I : Nat → Nat → Int32) (L : Nat → Nat → Int64) (P : Nat → Nat → Option Nat) (nx us : Nat), aI 20 (lay b F E I L P nx us) r0 (Int32.ofNat i + 3) = some (sc (i + 3))) (q4 : ∀ (E : Nat → Option KD) (I : Nat → Nat → Int32) (L : Nat → Nat → Int64) (P : Nat → Nat → Option Nat) (nx us : Nat), aI 20 (lay b F E I L P nx us) r0 (Int32.ofNat i + 4) = some (sc (i + 4))) (q5 : ∀ (E : Nat → Option KD) (I : Nat → Nat → Int32) (L : Nat → Nat → Int64) (P : Nat → Nat → Option Nat) (nx us : Nat), aI 20 (lay b F E I L P nx us) r0 (Int32.ofNat i + 5) = some (sc (i + 5))) (st : StepR b F (f_X11_looks z (ad b 0) (sc (i + 1)) (sc (i + 2))) (f_X15_looks (ad b 72) (sc (i + 1)) (sc (i + 2))) E I L P a us) : Nxt b F z n r0 i a us (f_Law_1377 z (f_Law_18 z n) r0 (ad b 0) (ad b 72) (Int32.ofNat i) (lay b F E I L P (149 + a) us)) := by
  obtain ⟨E2, I2, L2, P2, a2, us2, ⟨v, E1, I1, L1, P1, nx1, us1, e1, e2⟩, b1, b2', hR2⟩ := st
  refine ⟨E2, I2, L2, P2, a2, us2, ?_, b1, b2', hR2⟩
  unfold f_Law_1377 f_Law_1749
  rw [q1, Option.bind_some, q2, Option.bind_some, e1, b2_p, q1, Option.bind_some, q2, Option.bind_some, e2, b2_p, if_pos rfl, oN6]
theorem br_1410 {z : ZX} {a n r0 i : Nat} {sc : RW} (q1 : ∀ (E : Nat → Option KD) (I : Nat → Nat → Int32) (L : Nat → Nat → Int64) (P : Nat → Nat → Option Nat) (nx us : Nat), aI 20 (lay b F E I L P nx us) r0 (Int32.ofNat i + 1) = some (sc (i + 1))) (q2 : ∀ (E : Nat → Option KD) (I : Nat → Nat → Int32) (L : Nat → Nat → Int64) (P : Nat → Nat → Option Nat) (nx us : Nat), aI 20 (lay b F E I L P nx us) r0 (Int32.ofNat i + 2) = some (sc (i + 2))) (q3 : ∀ (E : Nat → Option KD) (I : Nat → Nat → Int32) (L : Nat → Nat → Int64) (P : Nat → Nat → Option Nat) (nx us : Nat), aI 20 (lay b F E I L P nx us) r0 (Int32.ofNat i + 3) = some (sc (i + 3))) (q4 : ∀ (E : Nat → Option KD) (I : Nat → Nat → Int32) (L : Nat → Nat → Int64) (P : Nat → Nat → Option Nat) (nx us : Nat), aI 20 (lay b F E I L P nx us) r0 (Int32.ofNat i + 4) = some (sc (i + 4))) (q5 : ∀ (E : Nat → Option KD) (I : Nat → Nat → Int32) (L : Nat → Nat → Int64) (P : Nat → Nat → Option Nat) (nx us : Nat), aI 20 (lay b F E I L P nx us) r0 (Int32.ofNat i + 5) = some (sc (i + 5))) (st : StepR b F (f_X11_pale z (ad b 0) (sc (i + 1))) (f_X15_pale (ad b 72) (sc (i + 1))) E I L P a us) : Nxt b F z n r0 i a us (f_Law_1410 z (f_Law_18 z n) r0 (ad b 0) (ad b 72) (Int32.ofNat i) (lay b F E I L P (149 + a) us)) := by
  obtain ⟨E2, I2, L2, P2, a2, us2, ⟨v, E1, I1, L1, P1, nx1, us1, e1, e2⟩, b1, b2', hR2⟩ := st
  refine ⟨E2, I2, L2, P2, a2, us2, ?_, b1, b2', hR2⟩
  unfold f_Law_1410 f_Law_1749
  rw [q1, Option.bind_some, e1, b2_p, q1, Option.bind_some, e2, b2_p, if_pos rfl, oN6]
theorem br_1433 {z : ZX} {a n r0 i : Nat} {sc : RW} (q1 : ∀ (E : Nat → Option KD) (I : Nat → Nat → Int32) (L : Nat → Nat → Int64) (P : Nat → Nat → Option Nat) (nx us : Nat), aI 20 (lay b F E I L P nx us) r0 (Int32.ofNat i + 1) = some (sc (i + 1))) (q2 : ∀ (E : Nat → Option KD) (I : Nat → Nat → Int32) (L : Nat → Nat → Int64) (P : Nat → Nat → Option Nat) (nx us : Nat), aI 20 (lay b F E I L P nx us) r0 (Int32.ofNat i + 2) = some (sc (i + 2))) (q3 : ∀ (E : Nat → Option KD) (I : Nat → Nat → Int32) (L : Nat → Nat → Int64) (P : Nat → Nat → Option Nat) (nx us : Nat), aI 20 (lay b F E I L P nx us) r0 (Int32.ofNat i + 3) = some (sc (i + 3))) (q4 : ∀ (E : Nat → Option KD) (I : Nat → Nat → Int32) (L : Nat → Nat → Int64) (P : Nat → Nat → Option Nat) (nx us : Nat), aI 20 (lay b F E I L P nx us) r0 (Int32.ofNat i + 4) = some (sc (i + 4))) (q5 : ∀ (E : Nat → Option KD) (I : Nat → Nat → Int32) (L : Nat → Nat → Int64) (P : Nat → Nat → Option Nat) (nx us : Nat), aI 20 (lay b F E I L P nx us) r0 (Int32.ofNat i + 5) = some (sc (i + 5))) (st : StepR b F (f_X11_tag (ad b 0) (sc (i + 1)) (sc (i + 2))) (f_X15_tag (ad b 72) (sc (i + 1)) (sc (i + 2))) E I L P a us) : Nxt b F z n r0 i a us (f_Law_1433 z (f_Law_18 z n) r0 (ad b 0) (ad b 72) (Int32.ofNat i) (lay b F E I L P (149 + a) us)) := by
  obtain ⟨E2, I2, L2, P2, a2, us2, ⟨v, E1, I1, L1, P1, nx1, us1, e1, e2⟩, b1, b2', hR2⟩ := st
  refine ⟨E2, I2, L2, P2, a2, us2, ?_, b1, b2', hR2⟩
  unfold f_Law_1433 f_Law_1749
  rw [q1, Option.bind_some, q2, Option.bind_some, e1, b2_p, q1, Option.bind_some, q2, Option.bind_some, e2, b2_p, if_pos rfl, oN6]
theorem br_1466 {z : ZX} {a n r0 i : Nat} {sc : RW} (q1 : ∀ (E : Nat → Option KD) (I : Nat → Nat → Int32) (L : Nat → Nat → Int64) (P : Nat → Nat → Option Nat) (nx us : Nat), aI 20 (lay b F E I L P nx us) r0 (Int32.ofNat i + 1) = some (sc (i + 1))) (q2 : ∀ (E : Nat → Option KD) (I : Nat → Nat → Int32) (L : Nat → Nat → Int64) (P : Nat → Nat → Option Nat) (nx us : Nat), aI 20 (lay b F E I L P nx us) r0 (Int32.ofNat i + 2) = some (sc (i + 2))) (q3 : ∀ (E : Nat → Option KD) (I : Nat → Nat → Int32) (L : Nat → Nat → Int64) (P : Nat → Nat → Option Nat) (nx us : Nat), aI 20 (lay b F E I L P nx us) r0 (Int32.ofNat i + 3) = some (sc (i + 3))) (q4 : ∀ (E : Nat → Option KD) (I : Nat → Nat → Int32) (L : Nat → Nat → Int64) (P : Nat → Nat → Option Nat) (nx us : Nat), aI 20 (lay b F E I L P nx us) r0 (Int32.ofNat i + 4) = some (sc (i + 4))) (q5 : ∀ (E : Nat → Option KD) (I : Nat → Nat → Int32) (L : Nat → Nat → Int64) (P : Nat → Nat → Option Nat) (nx us : Nat), aI 20 (lay b F E I L P nx us) r0 (Int32.ofNat i + 5) = some (sc (i + 5))) (st : StepR b F (f_X11_clean (ad b 0) (sc (i + 1))) (f_X15_clean (ad b 72) (sc (i + 1))) E I L P a us) : Nxt b F z n r0 i a us (f_Law_1466 z (f_Law_18 z n) r0 (ad b 0) (ad b 72) (Int32.ofNat i) (lay b F E I L P (149 + a) us)) := by
  obtain ⟨E2, I2, L2, P2, a2, us2, ⟨v, E1, I1, L1, P1, nx1, us1, e1, e2⟩, b1, b2', hR2⟩ := st
  refine ⟨E2, I2, L2, P2, a2, us2, ?_, b1, b2', hR2⟩
  unfold f_Law_1466 f_Law_1749
  rw [q1, Option.bind_some, e1, b2_p, q1, Option.bind_some, e2, b2_p, if_pos rfl, oN6]
theorem br_1489 {z : ZX} {a n r0 i : Nat} {sc : RW} (q1 : ∀ (E : Nat → Option KD) (I : Nat → Nat → Int32) (L : Nat → Nat → Int64) (P : Nat → Nat → Option Nat) (nx us : Nat), aI 20 (lay b F E I L P nx us) r0 (Int32.ofNat i + 1) = some (sc (i + 1))) (q2 : ∀ (E : Nat → Option KD) (I : Nat → Nat → Int32) (L : Nat → Nat → Int64) (P : Nat → Nat → Option Nat) (nx us : Nat), aI 20 (lay b F E I L P nx us) r0 (Int32.ofNat i + 2) = some (sc (i + 2))) (q3 : ∀ (E : Nat → Option KD) (I : Nat → Nat → Int32) (L : Nat → Nat → Int64) (P : Nat → Nat → Option Nat) (nx us : Nat), aI 20 (lay b F E I L P nx us) r0 (Int32.ofNat i + 3) = some (sc (i + 3))) (q4 : ∀ (E : Nat → Option KD) (I : Nat → Nat → Int32) (L : Nat → Nat → Int64) (P : Nat → Nat → Option Nat) (nx us : Nat), aI 20 (lay b F E I L P nx us) r0 (Int32.ofNat i + 4) = some (sc (i + 4))) (q5 : ∀ (E : Nat → Option KD) (I : Nat → Nat → Int32) (L : Nat → Nat → Int64) (P : Nat → Nat → Option Nat) (nx us : Nat), aI 20 (lay b F E I L P nx us) r0 (Int32.ofNat i + 5) = some (sc (i + 5))) (st : StepR b F (f_X11_late (ad b 0) ) (f_X15_late (ad b 72) ) E I L P a us) : Nxt b F z n r0 i a us (f_Law_1489 z (f_Law_18 z n) r0 (ad b 0) (ad b 72) (Int32.ofNat i) (lay b F E I L P (149 + a) us)) := by
  obtain ⟨E2, I2, L2, P2, a2, us2, ⟨v, E1, I1, L1, P1, nx1, us1, e1, e2⟩, b1, b2', hR2⟩ := st
  refine ⟨E2, I2, L2, P2, a2, us2, ?_, b1, b2', hR2⟩
  unfold f_Law_1489 f_Law_1749
  rw [e1, b2_p, e2, b2_p, if_pos rfl, oN6]
theorem br_1502 {z : ZX} {a n r0 i : Nat} {sc : RW} (q1 : ∀ (E : Nat → Option KD) (I : Nat → Nat → Int32) (L : Nat → Nat → Int64) (P : Nat → Nat → Option Nat) (nx us : Nat), aI 20 (lay b F E I L P nx us) r0 (Int32.ofNat i + 1) = some (sc (i + 1))) (q2 : ∀ (E : Nat → Option KD) (I : Nat → Nat → Int32) (L : Nat → Nat → Int64) (P : Nat → Nat → Option Nat) (nx us : Nat), aI 20 (lay b F E I L P nx us) r0 (Int32.ofNat i + 2) = some (sc (i + 2))) (q3 : ∀ (E : Nat → Option KD) (I : Nat → Nat → Int32) (L : Nat → Nat → Int64) (P : Nat → Nat → Option Nat) (nx us : Nat), aI 20 (lay b F E I L P nx us) r0 (Int32.ofNat i + 3) = some (sc (i + 3))) (q4 : ∀ (E : Nat → Option KD) (I : Nat → Nat → Int32) (L : Nat → Nat → Int64) (P : Nat → Nat → Option Nat) (nx us : Nat), aI 20 (lay b F E I L P nx us) r0 (Int32.ofNat i + 4) = some (sc (i + 4))) (q5 : ∀ (E : Nat → Option KD) (I : Nat → Nat → Int32) (L : Nat → Nat → Int64) (P : Nat → Nat → Option Nat) (nx us : Nat), aI 20 (lay b F E I L P nx us) r0 (Int32.ofNat i + 5) = some (sc (i + 5))) (st : StepR b F (f_X11_round (ad b 0) (sc (i + 1))) (f_X15_round (ad b 72) (sc (i + 1))) E I L P a us) : Nxt b F z n r0 i a us (f_Law_1502 z (f_Law_18 z n) r0 (ad b 0) (ad b 72) (Int32.ofNat i) (lay b F E I L P (149 + a) us)) := by
  obtain ⟨E2, I2, L2, P2, a2, us2, ⟨v, E1, I1, L1, P1, nx1, us1, e1, e2⟩, b1, b2', hR2⟩ := st
  refine ⟨E2, I2, L2, P2, a2, us2, ?_, b1, b2', hR2⟩
  unfold f_Law_1502 f_Law_1749
  rw [q1, Option.bind_some, e1, b2_p, q1, Option.bind_some, e2, b2_p, if_pos rfl, oN6]
theorem br_1525 {z : ZX} {a n r0 i : Nat} {sc : RW} (q1 : ∀ (E : Nat → Option KD) (I : Nat → Nat → Int32) (L : Nat → Nat → Int64) (P : Nat → Nat → Option Nat) (nx us : Nat), aI 20 (lay b F E I L P nx us) r0 (Int32.ofNat i + 1) = some (sc (i + 1))) (q2 : ∀ (E : Nat → Option KD) (I : Nat → Nat → Int32) (L : Nat → Nat → Int64) (P : Nat → Nat → Option Nat) (nx us : Nat), aI 20 (lay b F E I L P nx us) r0 (Int32.ofNat i + 2) = some (sc (i + 2))) (q3 : ∀ (E : Nat → Option KD) (I : Nat → Nat → Int32) (L : Nat → Nat → Int64) (P : Nat → Nat → Option Nat) (nx us : Nat), aI 20 (lay b F E I L P nx us) r0 (Int32.ofNat i + 3) = some (sc (i + 3))) (q4 : ∀ (E : Nat → Option KD) (I : Nat → Nat → Int32) (L : Nat → Nat → Int64) (P : Nat → Nat → Option Nat) (nx us : Nat), aI 20 (lay b F E I L P nx us) r0 (Int32.ofNat i + 4) = some (sc (i + 4))) (q5 : ∀ (E : Nat → Option KD) (I : Nat → Nat → Int32) (L : Nat → Nat → Int64) (P : Nat → Nat → Option Nat) (nx us : Nat), aI 20 (lay b F E I L P nx us) r0 (Int32.ofNat i + 5) = some (sc (i + 5))) (st : StepR b F (f_X11_themes (ad b 0) (sc (i + 1)) (sc (i + 2))) (f_X15_themes (ad b 72) (sc (i + 1)) (sc (i + 2))) E I L P a us) : Nxt b F z n r0 i a us (f_Law_1525 z (f_Law_18 z n) r0 (ad b 0) (ad b 72) (Int32.ofNat i) (lay b F E I L P (149 + a) us)) := by
  obtain ⟨E2, I2, L2, P2, a2, us2, ⟨v, E1, I1, L1, P1, nx1, us1, e1, e2⟩, b1, b2', hR2⟩ := st
  refine ⟨E2, I2, L2, P2, a2, us2, ?_, b1, b2', hR2⟩
  unfold f_Law_1525 f_Law_1749
  rw [q1, Option.bind_some, q2, Option.bind_some, e1, b2_p, q1, Option.bind_some, q2, Option.bind_some, e2, b2_p, if_pos rfl, oN6]
theorem br_1558 {z : ZX} {a n r0 i : Nat} {sc : RW} (q1 : ∀ (E : Nat → Option KD) (I : Nat → Nat → Int32) (L : Nat → Nat → Int64) (P : Nat → Nat → Option Nat) (nx us : Nat), aI 20 (lay b F E I L P nx us) r0 (Int32.ofNat i + 1) = some (sc (i + 1))) (q2 : ∀ (E : Nat → Option KD) (I : Nat → Nat → Int32) (L : Nat → Nat → Int64) (P : Nat → Nat → Option Nat) (nx us : Nat), aI 20 (lay b F E I L P nx us) r0 (Int32.ofNat i + 2) = some (sc (i + 2))) (q3 : ∀ (E : Nat → Option KD) (I : Nat → Nat → Int32) (L : Nat → Nat → Int64) (P : Nat → Nat → Option Nat) (nx us : Nat), aI 20 (lay b F E I L P nx us) r0 (Int32.ofNat i + 3) = some (sc (i + 3))) (q4 : ∀ (E : Nat → Option KD) (I : Nat → Nat → Int32) (L : Nat → Nat → Int64) (P : Nat → Nat → Option Nat) (nx us : Nat), aI 20 (lay b F E I L P nx us) r0 (Int32.ofNat i + 4) = some (sc (i + 4))) (q5 : ∀ (E : Nat → Option KD) (I : Nat → Nat → Int32) (L : Nat → Nat → Int64) (P : Nat → Nat → Option Nat) (nx us : Nat), aI 20 (lay b F E I L P nx us) r0 (Int32.ofNat i + 5) = some (sc (i + 5))) (st : StepR b F (f_X11_trail (ad b 0) (sc (i + 1))) (f_X15_trail (ad b 72) (sc (i + 1))) E I L P a us) : Nxt b F z n r0 i a us (f_Law_1558 z (f_Law_18 z n) r0 (ad b 0) (ad b 72) (Int32.ofNat i) (lay b F E I L P (149 + a) us)) := by
  obtain ⟨E2, I2, L2, P2, a2, us2, ⟨v, E1, I1, L1, P1, nx1, us1, e1, e2⟩, b1, b2', hR2⟩ := st
  refine ⟨E2, I2, L2, P2, a2, us2, ?_, b1, b2', hR2⟩
  unfold f_Law_1558 f_Law_1749
  rw [q1, Option.bind_some, e1, b2_p, q1, Option.bind_some, e2, b2_p, if_pos rfl, oN6]
theorem br_1581 {z : ZX} {a n r0 i : Nat} {sc : RW} (q1 : ∀ (E : Nat → Option KD) (I : Nat → Nat → Int32) (L : Nat → Nat → Int64) (P : Nat → Nat → Option Nat) (nx us : Nat), aI 20 (lay b F E I L P nx us) r0 (Int32.ofNat i + 1) = some (sc (i + 1))) (q2 : ∀ (E : Nat → Option KD) (I : Nat → Nat → Int32) (L : Nat → Nat → Int64) (P : Nat → Nat → Option Nat) (nx us : Nat), aI 20 (lay b F E I L P nx us) r0 (Int32.ofNat i + 2) = some (sc (i + 2))) (q3 : ∀ (E : Nat → Option KD) (I : Nat → Nat → Int32) (L : Nat → Nat → Int64) (P : Nat → Nat → Option Nat) (nx us : Nat), aI 20 (lay b F E I L P nx us) r0 (Int32.ofNat i + 3) = some (sc (i + 3))) (q4 : ∀ (E : Nat → Option KD) (I : Nat → Nat → Int32) (L : Nat → Nat → Int64) (P : Nat → Nat → Option Nat) (nx us : Nat), aI 20 (lay b F E I L P nx us) r0 (Int32.ofNat i + 4) = some (sc (i + 4))) (q5 : ∀ (E : Nat → Option KD) (I : Nat → Nat → Int32) (L : Nat → Nat → Int64) (P : Nat → Nat → Option Nat) (nx us : Nat), aI 20 (lay b F E I L P nx us) r0 (Int32.ofNat i + 5) = some (sc (i + 5))) (st : StepR b F (f_X11_trailOf (ad b 0) ) (f_X15_trailOf (ad b 72) ) E I L P a us) : Nxt b F z n r0 i a us (f_Law_1581 z (f_Law_18 z n) r0 (ad b 0) (ad b 72) (Int32.ofNat i) (lay b F E I L P (149 + a) us)) := by
  obtain ⟨E2, I2, L2, P2, a2, us2, ⟨v, E1, I1, L1, P1, nx1, us1, e1, e2⟩, b1, b2', hR2⟩ := st
  refine ⟨E2, I2, L2, P2, a2, us2, ?_, b1, b2', hR2⟩
  unfold f_Law_1581 f_Law_1749
  rw [e1, b2_p, e2, b2_p, if_pos rfl, oN6]
theorem br_1594 {z : ZX} {a n r0 i : Nat} {sc : RW} (q1 : ∀ (E : Nat → Option KD) (I : Nat → Nat → Int32) (L : Nat → Nat → Int64) (P : Nat → Nat → Option Nat) (nx us : Nat), aI 20 (lay b F E I L P nx us) r0 (Int32.ofNat i + 1) = some (sc (i + 1))) (q2 : ∀ (E : Nat → Option KD) (I : Nat → Nat → Int32) (L : Nat → Nat → Int64) (P : Nat → Nat → Option Nat) (nx us : Nat), aI 20 (lay b F E I L P nx us) r0 (Int32.ofNat i + 2) = some (sc (i + 2))) (q3 : ∀ (E : Nat → Option KD) (I : Nat → Nat → Int32) (L : Nat → Nat → Int64) (P : Nat → Nat → Option Nat) (nx us : Nat), aI 20 (lay b F E I L P nx us) r0 (Int32.ofNat i + 3) = some (sc (i + 3))) (q4 : ∀ (E : Nat → Option KD) (I : Nat → Nat → Int32) (L : Nat → Nat → Int64) (P : Nat → Nat → Option Nat) (nx us : Nat), aI 20 (lay b F E I L P nx us) r0 (Int32.ofNat i + 4) = some (sc (i + 4))) (q5 : ∀ (E : Nat → Option KD) (I : Nat → Nat → Int32) (L : Nat → Nat → Int64) (P : Nat → Nat → Option Nat) (nx us : Nat), aI 20 (lay b F E I L P nx us) r0 (Int32.ofNat i + 5) = some (sc (i + 5))) (st : StepR b F (f_X11_gets (ad b 0) (sc (i + 1)) (sc (i + 2)) (sc (i + 3))) (f_X15_gets (ad b 72) (sc (i + 1)) (sc (i + 2)) (sc (i + 3))) E I L P a us) : Nxt b F z n r0 i a us (f_Law_1594 z (f_Law_18 z n) r0 (ad b 0) (ad b 72) (Int32.ofNat i) (lay b F E I L P (149 + a) us)) := by
  obtain ⟨E2, I2, L2, P2, a2, us2, ⟨v, E1, I1, L1, P1, nx1, us1, e1, e2⟩, b1, b2', hR2⟩ := st
  refine ⟨E2, I2, L2, P2, a2, us2, ?_, b1, b2', hR2⟩
  unfold f_Law_1594 f_Law_1749
  rw [q1, Option.bind_some, q2, Option.bind_some, q3, Option.bind_some, e1, b2_p, q1, Option.bind_some, q2, Option.bind_some, q3, Option.bind_some, e2, b2_p, if_pos rfl, oN6]
theorem br_1637 {z : ZX} {a n r0 i : Nat} {sc : RW} (q1 : ∀ (E : Nat → Option KD) (I : Nat → Nat → Int32) (L : Nat → Nat → Int64) (P : Nat → Nat → Option Nat) (nx us : Nat), aI 20 (lay b F E I L P nx us) r0 (Int32.ofNat i + 1) = some (sc (i + 1))) (q2 : ∀ (E : Nat → Option KD) (I : Nat → Nat → Int32) (L : Nat → Nat → Int64) (P : Nat → Nat → Option Nat) (nx us : Nat), aI 20 (lay b F E I L P nx us) r0 (Int32.ofNat i + 2) = some (sc (i + 2))) (q3 : ∀ (E : Nat → Option KD) (I : Nat → Nat → Int32) (L : Nat → Nat → Int64) (P : Nat → Nat → Option Nat) (nx us : Nat), aI 20 (lay b F E I L P nx us) r0 (Int32.ofNat i + 3) = some (sc (i + 3))) (q4 : ∀ (E : Nat → Option KD) (I : Nat → Nat → Int32) (L : Nat → Nat → Int64) (P : Nat → Nat → Option Nat) (nx us : Nat), aI 20 (lay b F E I L P nx us) r0 (Int32.ofNat i + 4) = some (sc (i + 4))) (q5 : ∀ (E : Nat → Option KD) (I : Nat → Nat → Int32) (L : Nat → Nat → Int64) (P : Nat → Nat → Option Nat) (nx us : Nat), aI 20 (lay b F E I L P nx us) r0 (Int32.ofNat i + 5) = some (sc (i + 5))) (st : StepR b F (f_X11_led (ad b 0) (sc (i + 1)) (sc (i + 2)) (sc (i + 3)) (sc (i + 4))) (f_X15_led (ad b 72) (sc (i + 1)) (sc (i + 2)) (sc (i + 3)) (sc (i + 4))) E I L P a us) : Nxt b F z n r0 i a us (f_Law_1637 z (f_Law_18 z n) r0 (ad b 0) (ad b 72) (Int32.ofNat i) (lay b F E I L P (149 + a) us)) := by
  obtain ⟨E2, I2, L2, P2, a2, us2, ⟨v, E1, I1, L1, P1, nx1, us1, e1, e2⟩, b1, b2', hR2⟩ := st
  refine ⟨E2, I2, L2, P2, a2, us2, ?_, b1, b2', hR2⟩
  unfold f_Law_1637 f_Law_1749
  rw [q1, Option.bind_some, q2, Option.bind_some, q3, Option.bind_some, q4, Option.bind_some, e1, b2_p, q1, Option.bind_some, q2, Option.bind_some, q3, Option.bind_some, q4, Option.bind_some, e2, b2_p, if_pos rfl, oN6]
theorem br_1690 {z : ZX} {a n r0 i : Nat} {sc : RW} (q1 : ∀ (E : Nat → Option KD) (I : Nat → Nat → Int32) (L : Nat → Nat → Int64) (P : Nat → Nat → Option Nat) (nx us : Nat), aI 20 (lay b F E I L P nx us) r0 (Int32.ofNat i + 1) = some (sc (i + 1))) (q2 : ∀ (E : Nat → Option KD) (I : Nat → Nat → Int32) (L : Nat → Nat → Int64) (P : Nat → Nat → Option Nat) (nx us : Nat), aI 20 (lay b F E I L P nx us) r0 (Int32.ofNat i + 2) = some (sc (i + 2))) (q3 : ∀ (E : Nat → Option KD) (I : Nat → Nat → Int32) (L : Nat → Nat → Int64) (P : Nat → Nat → Option Nat) (nx us : Nat), aI 20 (lay b F E I L P nx us) r0 (Int32.ofNat i + 3) = some (sc (i + 3))) (q4 : ∀ (E : Nat → Option KD) (I : Nat → Nat → Int32) (L : Nat → Nat → Int64) (P : Nat → Nat → Option Nat) (nx us : Nat), aI 20 (lay b F E I L P nx us) r0 (Int32.ofNat i + 4) = some (sc (i + 4))) (q5 : ∀ (E : Nat → Option KD) (I : Nat → Nat → Int32) (L : Nat → Nat → Int64) (P : Nat → Nat → Option Nat) (nx us : Nat), aI 20 (lay b F E I L P nx us) r0 (Int32.ofNat i + 5) = some (sc (i + 5))) (st : StepR b F (f_X11_shows (ad b 0) (sc (i + 1))) (f_X15_shows (ad b 72) (sc (i + 1))) E I L P a us) : Nxt b F z n r0 i a us (f_Law_1690 z (f_Law_18 z n) r0 (ad b 0) (ad b 72) (Int32.ofNat i) (lay b F E I L P (149 + a) us)) := by
  obtain ⟨E2, I2, L2, P2, a2, us2, ⟨v, E1, I1, L1, P1, nx1, us1, e1, e2⟩, b1, b2', hR2⟩ := st
  refine ⟨E2, I2, L2, P2, a2, us2, ?_, b1, b2', hR2⟩
  unfold f_Law_1690 f_Law_1749
  rw [q1, Option.bind_some, e1, b2_p, q1, Option.bind_some, e2, b2_p, if_pos rfl, oN6]
theorem br_1713 {z : ZX} {a n r0 i : Nat} {sc : RW} (q1 : ∀ (E : Nat → Option KD) (I : Nat → Nat → Int32) (L : Nat → Nat → Int64) (P : Nat → Nat → Option Nat) (nx us : Nat), aI 20 (lay b F E I L P nx us) r0 (Int32.ofNat i + 1) = some (sc (i + 1))) (q2 : ∀ (E : Nat → Option KD) (I : Nat → Nat → Int32) (L : Nat → Nat → Int64) (P : Nat → Nat → Option Nat) (nx us : Nat), aI 20 (lay b F E I L P nx us) r0 (Int32.ofNat i + 2) = some (sc (i + 2))) (q3 : ∀ (E : Nat → Option KD) (I : Nat → Nat → Int32) (L : Nat → Nat → Int64) (P : Nat → Nat → Option Nat) (nx us : Nat), aI 20 (lay b F E I L P nx us) r0 (Int32.ofNat i + 3) = some (sc (i + 3))) (q4 : ∀ (E : Nat → Option KD) (I : Nat → Nat → Int32) (L : Nat → Nat → Int64) (P : Nat → Nat → Option Nat) (nx us : Nat), aI 20 (lay b F E I L P nx us) r0 (Int32.ofNat i + 4) = some (sc (i + 4))) (q5 : ∀ (E : Nat → Option KD) (I : Nat → Nat → Int32) (L : Nat → Nat → Int64) (P : Nat → Nat → Option Nat) (nx us : Nat), aI 20 (lay b F E I L P nx us) r0 (Int32.ofNat i + 5) = some (sc (i + 5))) (st : StepR b F (f_X11_count (ad b 0) (sc (i + 1))) (f_X15_count (ad b 72) (sc (i + 1))) E I L P a us) : Nxt b F z n r0 i a us (f_Law_1713 z (f_Law_18 z n) r0 (ad b 0) (ad b 72) (Int32.ofNat i) (lay b F E I L P (149 + a) us)) := by
  obtain ⟨E2, I2, L2, P2, a2, us2, ⟨v, E1, I1, L1, P1, nx1, us1, e1, e2⟩, b1, b2', hR2⟩ := st
  refine ⟨E2, I2, L2, P2, a2, us2, ?_, b1, b2', hR2⟩
  unfold f_Law_1713 f_Law_1749
  rw [q1, Option.bind_some, e1, b2_p, q1, Option.bind_some, e2, b2_p, if_pos rfl, oN6]
theorem br_1736 {z : ZX} {a n r0 i : Nat} {sc : RW} (q1 : ∀ (E : Nat → Option KD) (I : Nat → Nat → Int32) (L : Nat → Nat → Int64) (P : Nat → Nat → Option Nat) (nx us : Nat), aI 20 (lay b F E I L P nx us) r0 (Int32.ofNat i + 1) = some (sc (i + 1))) (q2 : ∀ (E : Nat → Option KD) (I : Nat → Nat → Int32) (L : Nat → Nat → Int64) (P : Nat → Nat → Option Nat) (nx us : Nat), aI 20 (lay b F E I L P nx us) r0 (Int32.ofNat i + 2) = some (sc (i + 2))) (q3 : ∀ (E : Nat → Option KD) (I : Nat → Nat → Int32) (L : Nat → Nat → Int64) (P : Nat → Nat → Option Nat) (nx us : Nat), aI 20 (lay b F E I L P nx us) r0 (Int32.ofNat i + 3) = some (sc (i + 3))) (q4 : ∀ (E : Nat → Option KD) (I : Nat → Nat → Int32) (L : Nat → Nat → Int64) (P : Nat → Nat → Option Nat) (nx us : Nat), aI 20 (lay b F E I L P nx us) r0 (Int32.ofNat i + 4) = some (sc (i + 4))) (q5 : ∀ (E : Nat → Option KD) (I : Nat → Nat → Int32) (L : Nat → Nat → Int64) (P : Nat → Nat → Option Nat) (nx us : Nat), aI 20 (lay b F E I L P nx us) r0 (Int32.ofNat i + 5) = some (sc (i + 5))) (st : StepR b F (f_X11_trouble (ad b 0) ) (f_X15_trouble (ad b 72) ) E I L P a us) : Nxt b F z n r0 i a us (f_Law_1736 z (f_Law_18 z n) r0 (ad b 0) (ad b 72) (Int32.ofNat i) (lay b F E I L P (149 + a) us)) := by
  obtain ⟨E2, I2, L2, P2, a2, us2, ⟨v, E1, I1, L1, P1, nx1, us1, e1, e2⟩, b1, b2', hR2⟩ := st
  refine ⟨E2, I2, L2, P2, a2, us2, ?_, b1, b2', hR2⟩
  unfold f_Law_1736 f_Law_1749
  rw [e1, b2_p, e2, b2_p, if_pos rfl, oN6]
theorem br_487 {z : ZX} {a n r0 i : Nat} {sc : RW} (q1 : ∀ (E : Nat → Option KD) (I : Nat → Nat → Int32) (L : Nat → Nat → Int64) (P : Nat → Nat → Option Nat) (nx us : Nat), aI 20 (lay b F E I L P nx us) r0 (Int32.ofNat i + 1) = some (sc (i + 1))) (q2 : ∀ (E : Nat → Option KD) (I : Nat → Nat → Int32) (L : Nat → Nat → Int64) (P : Nat → Nat → Option Nat) (nx us : Nat), aI 20 (lay b F E I L P nx us) r0 (Int32.ofNat i + 2) = some (sc (i + 2))) (q3 : ∀ (E : Nat → Option KD) (I : Nat → Nat → Int32) (L : Nat → Nat → Int64) (P : Nat → Nat → Option Nat) (nx us : Nat), aI 20 (lay b F E I L P nx us) r0 (Int32.ofNat i + 3) = some (sc (i + 3))) (q4 : ∀ (E : Nat → Option KD) (I : Nat → Nat → Int32) (L : Nat → Nat → Int64) (P : Nat → Nat → Option Nat) (nx us : Nat), aI 20 (lay b F E I L P nx us) r0 (Int32.ofNat i + 4) = some (sc (i + 4))) (q5 : ∀ (E : Nat → Option KD) (I : Nat → Nat → Int32) (L : Nat → Nat → Int64) (P : Nat → Nat → Option Nat) (nx us : Nat), aI 20 (lay b F E I L P nx us) r0 (Int32.ofNat i + 5) = some (sc (i + 5))) (st : ∀ v : Int32, v = 0 ∨ v = 1 → StepR b F (f_X11_beside (ad b 0) (sc (i + 1)) (sc (i + 2)) v) (f_X15_beside (ad b 72) (sc (i + 1)) (sc (i + 2)) v) E I L P a us) : Nxt b F z n r0 i a us (f_Law_487 z (f_Law_18 z n) r0 (ad b 0) (ad b 72) (Int32.ofNat i) (lay b F E I L P (149 + a) us)) := by
  by_cases h0 : sc (i + 3) = 0
  · obtain ⟨E2, I2, L2, P2, a2, us2, ⟨v, E1, I1, L1, P1, nx1, us1, e1, e2⟩, b1, b2', hR2⟩ := st 0 (Or.inl rfl)
    refine ⟨E2, I2, L2, P2, a2, us2, ?_, b1, b2', hR2⟩
    unfold f_Law_487 f_Law_511 f_Law_538 f_Law_1749
    rw [q1, Option.bind_some, q2, Option.bind_some, q3, Option.bind_some, if_pos h0, e1, b2_p, q1, Option.bind_some, q2, Option.bind_some, q3, Option.bind_some, if_pos h0, e2, b2_p, if_pos rfl, oN6]
  · obtain ⟨E2, I2, L2, P2, a2, us2, ⟨v, E1, I1, L1, P1, nx1, us1, e1, e2⟩, b1, b2', hR2⟩ := st 1 (Or.inr rfl)
    refine ⟨E2, I2, L2, P2, a2, us2, ?_, b1, b2', hR2⟩
    unfold f_Law_487 f_Law_511 f_Law_538 f_Law_1749
    rw [q1, Option.bind_some, q2, Option.bind_some, q3, Option.bind_some, if_neg h0, e1, b2_p, q1, Option.bind_some, q2, Option.bind_some, q3, Option.bind_some, if_neg h0, e2, b2_p, if_pos rfl, oN6]
theorem br_385 {z : ZX} {a n r0 i : Nat} {sc : RW} (q1 : ∀ (E : Nat → Option KD) (I : Nat → Nat → Int32) (L : Nat → Nat → Int64) (P : Nat → Nat → Option Nat) (nx us : Nat), aI 20 (lay b F E I L P nx us) r0 (Int32.ofNat i + 1) = some (sc (i + 1))) (q2 : ∀ (E : Nat → Option KD) (I : Nat → Nat → Int32) (L : Nat → Nat → Int64) (P : Nat → Nat → Option Nat) (nx us : Nat), aI 20 (lay b F E I L P nx us) r0 (Int32.ofNat i + 2) = some (sc (i + 2))) (q3 : ∀ (E : Nat → Option KD) (I : Nat → Nat → Int32) (L : Nat → Nat → Int64) (P : Nat → Nat → Option Nat) (nx us : Nat), aI 20 (lay b F E I L P nx us) r0 (Int32.ofNat i + 3) = some (sc (i + 3))) (q4 : ∀ (E : Nat → Option KD) (I : Nat → Nat → Int32) (L : Nat → Nat → Int64) (P : Nat → Nat → Option Nat) (nx us : Nat), aI 20 (lay b F E I L P nx us) r0 (Int32.ofNat i + 4) = some (sc (i + 4))) (q5 : ∀ (E : Nat → Option KD) (I : Nat → Nat → Int32) (L : Nat → Nat → Int64) (P : Nat → Nat → Option Nat) (nx us : Nat), aI 20 (lay b F E I L P nx us) r0 (Int32.ofNat i + 5) = some (sc (i + 5))) (st : ∀ v : Int32, v = 0 ∨ v = 1 → StepR b F (f_X11_leave (ad b 0) (sc (i + 1)) (sc (i + 2)) (sc (i + 3)) v) (f_X15_leave (ad b 72) (sc (i + 1)) (sc (i + 2)) (sc (i + 3)) v) E I L P a us) : Nxt b F z n r0 i a us (f_Law_385 z (f_Law_18 z n) r0 (ad b 0) (ad b 72) (Int32.ofNat i) (lay b F E I L P (149 + a) us)) := by
  by_cases h0 : sc (i + 4) = 0
  · obtain ⟨E2, I2, L2, P2, a2, us2, ⟨v, E1, I1, L1, P1, nx1, us1, e1, e2⟩, b1, b2', hR2⟩ := st 0 (Or.inl rfl)
    refine ⟨E2, I2, L2, P2, a2, us2, ?_, b1, b2', hR2⟩
    unfold f_Law_385 f_Law_414 f_Law_446 f_Law_1749
    rw [q1, Option.bind_some, q2, Option.bind_some, q3, Option.bind_some, q4, Option.bind_some, if_pos h0, e1, b2_p, q1, Option.bind_some, q2, Option.bind_some, q3, Option.bind_some, q4, Option.bind_some, if_pos h0, e2, b2_p, if_pos rfl, oN6]
  · obtain ⟨E2, I2, L2, P2, a2, us2, ⟨v, E1, I1, L1, P1, nx1, us1, e1, e2⟩, b1, b2', hR2⟩ := st 1 (Or.inr rfl)
    refine ⟨E2, I2, L2, P2, a2, us2, ?_, b1, b2', hR2⟩
    unfold f_Law_385 f_Law_414 f_Law_446 f_Law_1749
    rw [q1, Option.bind_some, q2, Option.bind_some, q3, Option.bind_some, q4, Option.bind_some, if_neg h0, e1, b2_p, q1, Option.bind_some, q2, Option.bind_some, q3, Option.bind_some, q4, Option.bind_some, if_neg h0, e2, b2_p, if_pos rfl, oN6]

theorem aI_F {r0 N : Nat} {sc : RW} {x : Int32} (hr : r0 < b) (hs : F r0 = some (.inl (20, N, .inl sc))) : aI 20 (lay b F E I L P nx us) r0 x = (iN x N).map sc := by
  have : hM (lay b F E I L P nx us) r0 = some (.inl (20, N, .inl sc)) := by
    show (if r0 < b then F r0 else _) = _
    rw [if_pos hr, hs]
  unfold aI
  rw [this]
  rfl
theorem aN_F {r0 N : Nat} {sc : RW} (hr : r0 < b) (hs : F r0 = some (.inl (20, N, .inl sc))) : aN (lay b F E I L P nx us) r0 = some (Int32.ofNat N) := by
  have : hM (lay b F E I L P nx us) r0 = some (.inl (20, N, .inl sc)) := by
    show (if r0 < b then F r0 else _) = _
    rw [if_pos hr, hs]
  unfold aN
  rw [this]
theorem law_1 {z : ZX} {a n r0 i N : Nat} {sc : RW} (hz : GZ b F z) (hf : FZ b F z.2.1) (hr : r0 < b) (hs : F r0 = some (.inl (20, N, .inl sc))) (hN : N < 1000000) (hi : i + 6 ≤ N) (r1 : a + 17 + 149 ≤ 601024) (r2 : us + 7168 ≤ 7293034) (hR : Rel a E I L P) : Nxt b F z n r0 i a us (f_Law_18 z (n + 1) r0 (ad b 0) (ad b 72) (Int32.ofNat i) (lay b F E I L P (149 + a) us)) := by
  have rd : ∀ k, k ≤ 5 → ∀ (E : Nat → Option KD) (I : Nat → Nat → Int32) (L : Nat → Nat → Int64) (P : Nat → Nat → Option Nat) (nx us : Nat), aI 20 (lay b F E I L P nx us) r0 (Int32.ofNat (i + k)) = some (sc (i + k)) := by
    intro k hk E I L P nx us
    have e : iN (Int32.ofNat (i + k)) N = some (i + k) := iN_oN (by omega) (by omega)
    rw [aI_F hr hs, e]
    rfl
  have q1 : ∀ (E : Nat → Option KD) (I : Nat → Nat → Int32) (L : Nat → Nat → Int64) (P : Nat → Nat → Option Nat) (nx us : Nat), aI 20 (lay b F E I L P nx us) r0 (Int32.ofNat i + 1) = some (sc (i + 1)) := fun E I L P nx us => by rw [show Int32.ofNat i + 1 = Int32.ofNat (i + 1) from oN_add i 1]; exact rd 1 (by decide) E I L P nx us
  have q2 : ∀ (E : Nat → Option KD) (I : Nat → Nat → Int32) (L : Nat → Nat → Int64) (P : Nat → Nat → Option Nat) (nx us : Nat), aI 20 (lay b F E I L P nx us) r0 (Int32.ofNat i + 2) = some (sc (i + 2)) := fun E I L P nx us => by rw [show Int32.ofNat i + 2 = Int32.ofNat (i + 2) from oN_add i 2]; exact rd 2 (by decide) E I L P nx us
  have q3 : ∀ (E : Nat → Option KD) (I : Nat → Nat → Int32) (L : Nat → Nat → Int64) (P : Nat → Nat → Option Nat) (nx us : Nat), aI 20 (lay b F E I L P nx us) r0 (Int32.ofNat i + 3) = some (sc (i + 3)) := fun E I L P nx us => by rw [show Int32.ofNat i + 3 = Int32.ofNat (i + 3) from oN_add i 3]; exact rd 3 (by decide) E I L P nx us
  have q4 : ∀ (E : Nat → Option KD) (I : Nat → Nat → Int32) (L : Nat → Nat → Int64) (P : Nat → Nat → Option Nat) (nx us : Nat), aI 20 (lay b F E I L P nx us) r0 (Int32.ofNat i + 4) = some (sc (i + 4)) := fun E I L P nx us => by rw [show Int32.ofNat i + 4 = Int32.ofNat (i + 4) from oN_add i 4]; exact rd 4 (by decide) E I L P nx us
  have q5 : ∀ (E : Nat → Option KD) (I : Nat → Nat → Int32) (L : Nat → Nat → Int64) (P : Nat → Nat → Option Nat) (nx us : Nat), aI 20 (lay b F E I L P nx us) r0 (Int32.ofNat i + 5) = some (sc (i + 5)) := fun E I L P nx us => by rw [show Int32.ofNat i + 5 = Int32.ofNat (i + 5) from oN_add i 5]; exact rd 5 (by decide) E I L P nx us
  have e6 : Int32.ofNat N - 6 = Int32.ofNat (N - 6) := oN_sub (c := 6) (by omega)
  have q0 : aI 20 (lay b F E I L P (149 + a) us) r0 (Int32.ofNat i) = some (sc i) := rd 0 (by decide) E I L P (149 + a) us
  rw [f_Law_18, aN_F hr hs, Option.bind_some, e6, if_neg (fun q => by have := (oN_lt (by omega) (by omega)).mp q; omega), q0, Option.bind_some]
  by_cases o0 : sc i &&& 63 = 0
  · rw [if_pos o0]
    exact br_236 q1 q2 q3 q4 q5 (step_wall (sc (i + 1)) (sc (i + 2)) (sc (i + 3)) (sc (i + 4)) hz hf r1 r2 hR)
  rw [if_neg o0]
  by_cases o1 : sc i &&& 63 = 1
  · rw [if_pos o1]
    exact br_289 q1 q2 q3 q4 q5 (step_about (sc (i + 1)) (sc (i + 2)) hz hf r1 r2 hR)
  rw [if_neg o1]
  by_cases o2 : sc i &&& 63 = 2
  · rw [if_pos o2]
    exact br_322 q1 q2 q3 q4 q5 (step_hole (sc (i + 1)) (sc (i + 2)) (sc (i + 3)) (sc (i + 4)) (sc (i + 5)) hz hf r1 r2 hR)
  rw [if_neg o2]
  by_cases o3 : sc i &&& 63 = 3
  · rw [if_pos o3]
    exact br_385 q1 q2 q3 q4 q5 (fun v hv => step_leave (sc (i + 1)) (sc (i + 2)) (sc (i + 3)) v hv hz hf r1 r2 hR)
  rw [if_neg o3]
  by_cases o4 : sc i &&& 63 = 4
  · rw [if_pos o4]
    exact br_454 q1 q2 q3 q4 q5 (step_sold (sc (i + 1)) (sc (i + 2)) hz hf r1 r2 hR)
  rw [if_neg o4]
  by_cases o5 : sc i &&& 63 = 5
  · rw [if_pos o5]
    exact br_487 q1 q2 q3 q4 q5 (fun v hv => step_beside (sc (i + 1)) (sc (i + 2)) v hv hz hf r1 r2 hR)
  rw [if_neg o5]
  by_cases o6 : sc i &&& 63 = 6
  · rw [if_pos o6]
    exact br_546 q1 q2 q3 q4 q5 (step_minutes (sc (i + 1)) (sc (i + 2)) (sc (i + 3)) hz hf r1 r2 hR)
  rw [if_neg o6]
  by_cases o7 : sc i &&& 63 = 7
  · rw [if_pos o7]
    exact br_589 q1 q2 q3 q4 q5 (step_feed (sc (i + 1)) (sc (i + 2)) (sc (i + 3)) (sc (i + 4)) (sc (i + 5)) hz hf r1 r2 hR)
  rw [if_neg o7]
  by_cases o8 : sc i &&& 63 = 8
  · rw [if_pos o8]
    exact br_652 q1 q2 q3 q4 q5 (step_drawing (sc (i + 1)) hz hf r1 r2 hR)
  rw [if_neg o8]
  by_cases o9 : sc i &&& 63 = 9
  · rw [if_pos o9]
    exact br_675 q1 q2 q3 q4 q5 (step_bar (sc (i + 1)) hz hf r1 r2 hR)
  rw [if_neg o9]
  by_cases o10 : sc i &&& 63 = 10
  · rw [if_pos o10]
    exact br_698 q1 q2 q3 q4 q5 (step_right (sc (i + 1)) hz hf r1 r2 hR)
  rw [if_neg o10]
  by_cases o11 : sc i &&& 63 = 11
  · rw [if_pos o11]
    exact br_721 q1 q2 q3 q4 q5 (step_fault  hz hf r1 r2 hR)
  rw [if_neg o11]
  by_cases o12 : sc i &&& 63 = 12
  · rw [if_pos o12]
    exact br_734 q1 q2 q3 q4 q5 (step_where  hz hf r1 r2 hR)
  rw [if_neg o12]
  by_cases o13 : sc i &&& 63 = 13
  · rw [if_pos o13]
    exact br_747 q1 q2 q3 q4 q5 (step_sketch (sc (i + 1)) (sc (i + 2)) hz hf r1 r2 hR)
  rw [if_neg o13]
  by_cases o14 : sc i &&& 63 = 14
  · rw [if_pos o14]
    exact br_780 q1 q2 q3 q4 q5 (step_sketched (sc (i + 1)) (sc (i + 2)) hz hf r1 r2 hR)
  rw [if_neg o14]
  by_cases o15 : sc i &&& 63 = 15
  · rw [if_pos o15]
    exact br_813 q1 q2 q3 q4 q5 (step_sketchOf (sc (i + 1)) hz hf r1 r2 hR)
  rw [if_neg o15]
  by_cases o16 : sc i &&& 63 = 16
  · rw [if_pos o16]
    exact br_836 q1 q2 q3 q4 q5 (step_unlike (sc (i + 1)) hz hf r1 r2 hR)
  rw [if_neg o16]
  by_cases o17 : sc i &&& 63 = 17
  · rw [if_pos o17]
    exact br_859 q1 q2 q3 q4 q5 (step_painter (sc (i + 1)) (sc (i + 2)) hz hf r1 r2 hR)
  rw [if_neg o17]
  by_cases o18 : sc i &&& 63 = 18
  · rw [if_pos o18]
    exact br_892 q1 q2 q3 q4 q5 (step_wish (sc (i + 1)) (sc (i + 2)) (sc (i + 3)) hz hf r1 r2 hR)
  rw [if_neg o18]
  by_cases o19 : sc i &&& 63 = 19
  · rw [if_pos o19]
    exact br_935 q1 q2 q3 q4 q5 (step_vote (sc (i + 1)) (sc (i + 2)) (sc (i + 3)) (sc (i + 4)) hz hf r1 r2 hR)
  rw [if_neg o19]
  by_cases o20 : sc i &&& 63 = 20
  · rw [if_pos o20]
    exact br_988 q1 q2 q3 q4 q5 (step_liked (sc (i + 1)) (sc (i + 2)) hz hf r1 r2 hR)
  rw [if_neg o20]
  by_cases o21 : sc i &&& 63 = 21
  · rw [if_pos o21]
    exact br_1021 q1 q2 q3 q4 q5 (step_give (sc (i + 1)) hz hf r1 r2 hR)
  rw [if_neg o21]
  by_cases o22 : sc i &&& 63 = 22
  · rw [if_pos o22]
    exact br_1044 q1 q2 q3 q4 q5 (step_given (sc (i + 1)) hz hf r1 r2 hR)
  rw [if_neg o22]
  by_cases o23 : sc i &&& 63 = 23
  · rw [if_pos o23]
    exact br_1067 q1 q2 q3 q4 q5 (step_work (sc (i + 1)) (sc (i + 2)) (sc (i + 3)) hz hf r1 r2 hR)
  rw [if_neg o23]
  by_cases o24 : sc i &&& 63 = 24
  · rw [if_pos o24]
    exact br_1110 q1 q2 q3 q4 q5 (step_workOf (sc (i + 1)) (sc (i + 2)) hz hf r1 r2 hR)
  rw [if_neg o24]
  by_cases o25 : sc i &&& 63 = 25
  · rw [if_pos o25]
    exact br_1143 q1 q2 q3 q4 q5 (step_weather (sc (i + 1)) (sc (i + 2)) (sc (i + 3)) hz hf r1 r2 hR)
  rw [if_neg o25]
  by_cases o26 : sc i &&& 63 = 26
  · rw [if_pos o26]
    exact br_1186 q1 q2 q3 q4 q5 (step_lifts (sc (i + 1)) hz hf r1 r2 hR)
  rw [if_neg o26]
  by_cases o27 : sc i &&& 63 = 27
  · rw [if_pos o27]
    exact br_1209 q1 q2 q3 q4 q5 (step_end (sc (i + 1)) hz hf r1 r2 hR)
  rw [if_neg o27]
  by_cases o28 : sc i &&& 63 = 28
  · rw [if_pos o28]
    exact br_1232 q1 q2 q3 q4 q5 (step_ready (sc (i + 1)) hz hf r1 r2 hR)
  rw [if_neg o28]
  by_cases o29 : sc i &&& 63 = 29
  · rw [if_pos o29]
    exact br_1255 q1 q2 q3 q4 q5 (step_tin (sc (i + 1)) (sc (i + 2)) hz hf r1 r2 hR)
  rw [if_neg o29]
  by_cases o30 : sc i &&& 63 = 30
  · rw [if_pos o30]
    exact br_1288 q1 q2 q3 q4 q5 (step_left (sc (i + 1)) hz hf r1 r2 hR)
  rw [if_neg o30]
  by_cases o31 : sc i &&& 63 = 31
  · rw [if_pos o31]
    exact br_1311 q1 q2 q3 q4 q5 (step_pass (sc (i + 1)) hz hf r1 r2 hR)
  rw [if_neg o31]
  by_cases o32 : sc i &&& 63 = 32
  · rw [if_pos o32]
    exact br_1334 q1 q2 q3 q4 q5 (step_cell (sc (i + 1)) (sc (i + 2)) (sc (i + 3)) hz hf r1 r2 hR)
  rw [if_neg o32]
  by_cases o33 : sc i &&& 63 = 33
  · rw [if_pos o33]
    exact br_1377 q1 q2 q3 q4 q5 (step_looks (sc (i + 1)) (sc (i + 2)) hz hf r1 r2 hR)
  rw [if_neg o33]
  by_cases o34 : sc i &&& 63 = 34
  · rw [if_pos o34]
    exact br_1410 q1 q2 q3 q4 q5 (step_pale (sc (i + 1)) hz hf r1 r2 hR)
  rw [if_neg o34]
  by_cases o35 : sc i &&& 63 = 35
  · rw [if_pos o35]
    exact br_1433 q1 q2 q3 q4 q5 (step_tag (sc (i + 1)) (sc (i + 2)) hz hf r1 r2 hR)
  rw [if_neg o35]
  by_cases o36 : sc i &&& 63 = 36
  · rw [if_pos o36]
    exact br_1466 q1 q2 q3 q4 q5 (step_clean (sc (i + 1)) hz hf r1 r2 hR)
  rw [if_neg o36]
  by_cases o37 : sc i &&& 63 = 37
  · rw [if_pos o37]
    exact br_1489 q1 q2 q3 q4 q5 (step_late  hz hf r1 r2 hR)
  rw [if_neg o37]
  by_cases o38 : sc i &&& 63 = 38
  · rw [if_pos o38]
    exact br_1502 q1 q2 q3 q4 q5 (step_round (sc (i + 1)) hz hf r1 r2 hR)
  rw [if_neg o38]
  by_cases o39 : sc i &&& 63 = 39
  · rw [if_pos o39]
    exact br_1525 q1 q2 q3 q4 q5 (step_themes (sc (i + 1)) (sc (i + 2)) hz hf r1 r2 hR)
  rw [if_neg o39]
  by_cases o40 : sc i &&& 63 = 40
  · rw [if_pos o40]
    exact br_1558 q1 q2 q3 q4 q5 (step_trail (sc (i + 1)) hz hf r1 r2 hR)
  rw [if_neg o40]
  by_cases o41 : sc i &&& 63 = 41
  · rw [if_pos o41]
    exact br_1581 q1 q2 q3 q4 q5 (step_trailOf  hz hf r1 r2 hR)
  rw [if_neg o41]
  by_cases o42 : sc i &&& 63 = 42
  · rw [if_pos o42]
    exact br_1594 q1 q2 q3 q4 q5 (step_gets (sc (i + 1)) (sc (i + 2)) (sc (i + 3)) hz hf r1 r2 hR)
  rw [if_neg o42]
  by_cases o43 : sc i &&& 63 = 43
  · rw [if_pos o43]
    exact br_1637 q1 q2 q3 q4 q5 (step_led (sc (i + 1)) (sc (i + 2)) (sc (i + 3)) (sc (i + 4)) hz hf r1 r2 hR)
  rw [if_neg o43]
  by_cases o44 : sc i &&& 63 = 44
  · rw [if_pos o44]
    exact br_1690 q1 q2 q3 q4 q5 (step_shows (sc (i + 1)) hz hf r1 r2 hR)
  rw [if_neg o44]
  by_cases o45 : sc i &&& 63 = 45
  · rw [if_pos o45]
    exact br_1713 q1 q2 q3 q4 q5 (step_count (sc (i + 1)) hz hf r1 r2 hR)
  rw [if_neg o45]
  by_cases o46 : sc i &&& 63 = 46
  · rw [if_pos o46]
    exact br_1736 q1 q2 q3 q4 q5 (step_trouble  hz hf r1 r2 hR)
  rw [if_neg o46]
  unfold f_Law_1749
  exact ⟨E, I, L, P, a, us, by rw [oN6], by omega, by omega, hR⟩
/-- the law says yes -/
theorem law_all {z : ZX} {r0 N : Nat} {sc : RW} (hz : GZ b F z) (hf : FZ b F z.2.1) (hr : r0 < b) (hs : F r0 = some (.inl (20, N, .inl sc))) (hN : N < 100000) : ∀ (m j n a us : Nat) (E : Nat → Option KD) (I : Nat → Nat → Int32) (L : Nat → Nat → Int64) (P : Nat → Nat → Option Nat), N < 6 * (j + m) + 6 → m < n → j + m < 100000 → a + 17 * m + 17 + 149 ≤ 601024 → us + 7168 * m + 7168 ≤ 7293034 → Rel a E I L P → ∃ H, f_Law_18 z n r0 (ad b 0) (ad b 72) (Int32.ofNat (6 * j)) (lay b F E I L P (149 + a) us) = some (1, H) := by
  intro m
  induction m with
  | zero =>
    intro j n a us E I L P h1 h2 h3 h4 h5 hR
    obtain ⟨n, rfl⟩ : ∃ z, n = z + 1 := ⟨n - 1, by omega⟩
    have hlt : Int32.ofNat N - 6 < Int32.ofNat (6 * j) := by
      rw [Int32.lt_iff_toInt_lt, Int32.toInt_sub, oN_toInt (by omega), oN_toInt (by omega)]
      have e : (6 : Int32).toInt = 6 := by decide
      rw [e, Int.bmod_eq_of_le (by omega) (by omega)]
      omega
    rw [f_Law_18, aN_F hr hs, Option.bind_some, if_pos hlt]
    exact ⟨_, rfl⟩
  | succ m ih =>
    intro j n a us E I L P h1 h2 h3 h4 h5 hR
    obtain ⟨n, rfl⟩ : ∃ z, n = z + 1 := ⟨n - 1, by omega⟩
    by_cases hlt : N < 6 * j + 6
    · have hlt' : Int32.ofNat N - 6 < Int32.ofNat (6 * j) := by
        rw [Int32.lt_iff_toInt_lt, Int32.toInt_sub, oN_toInt (by omega), oN_toInt (by omega)]
        have e : (6 : Int32).toInt = 6 := by decide
        rw [e, Int.bmod_eq_of_le (by omega) (by omega)]
        omega
      rw [f_Law_18, aN_F hr hs, Option.bind_some, if_pos hlt']
      exact ⟨_, rfl⟩
    · obtain ⟨E2, I2, L2, P2, a2, us2, e1, e2, e3, hR2⟩ := law_1 (n := n) (a := a) (us := us) hz hf hr hs (by omega) (show 6 * j + 6 ≤ N by omega) (by omega) (by omega) hR
      rw [e1, show 6 * j + 6 = 6 * (j + 1) by omega]
      exact ih (j + 1) n a2 us2 E2 I2 L2 P2 (by omega) (by omega) (by omega) (by omega) (by omega) hR2
end LAWS
