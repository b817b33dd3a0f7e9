/-! ===== the first state keeps the relation ===== -/
theorem zr0 {c : Nat} (h : c ≠ 4 ∧ c ≠ 13 ∧ c ≠ 32 ∧ c ≠ 33 ∧ c ≠ 72 ∧ c ≠ 86 ∧ c ≠ 89 ∧ c ≠ 133 ∧ c ≠ 110) : zI2 c = fun _ => 0 := by
  unfold zI2 zI1
  rw [u2_ne (by omega), u2_ne (by omega), u2_ne (by omega), u2_ne (by omega), u2_ne (by omega), u2_ne (by omega), u2_ne (by omega), u2_ne (by omega), u2_ne (by omega), u2_ne (by omega), u2_ne (by omega), u2_ne (by omega), u2_ne (by omega)]
  rfl
theorem zr4 (k : Nat) : zI2 4 k = if 17 * 0 ≤ k ∧ k < 272 ∧ k % 17 = 0 then 0 else if k < 256 then 60 else 0 := rfl
theorem zr32 (k : Nat) : zI2 32 k = if k < 16 then -1 else 0 := rfl
theorem zr86 (k : Nat) : zI2 86 k = if 0 ≤ k ∧ k < 3072 then -1 else 0 := rfl
theorem zr89 (k : Nat) : zI2 89 k = if 0 ≤ k ∧ k < 256 then 60 else 0 := rfl
theorem zr133 (k : Nat) : zI2 133 k = if 0 ≤ k ∧ k < 3650 then 1000000 else 0 := rfl
theorem nz {p : Prop} {k : Nat} (h : k < 0) : p := absurd h (Nat.not_lt_zero k)
theorem WALL_0 : WALL 0 0 0 (fun _ => 0) (fun _ => 0) (fun _ => 0) zI2 := by
  refine ⟨fun w h => nz h, fun w h => nz h, fun w h => nz h, ⟨fun w h => nz h, fun k w h => nz h⟩, fun w h => nz h, fun w h => nz h, fun w h => nz h, fun w h => nz h, fun w _ hw => ?_⟩
  refine ⟨rfl, rfl, fun c hc => ⟨rfl, ?_⟩⟩
  rw [zr86, if_pos (by omega)]
theorem GWea_0 : GWea (zI2 23) (zI2 13 12) (zI2 133) (zI2 134) := by
  refine ⟨by show (-1 : Int32) ≤ -1; decide, by show (-1 : Int32) ≤ 3649; decide, fun d hd => ?_⟩
  have e : ¬ gdD (zI2 133 d) (zI2 134 d) := by
    rw [zr133, if_pos (by omega)]
    exact fun h => h.1 rfl
  have e2 : ∀ j, j < 32 → ¬ btI 0 j := by
    unfold btI
    decide
  have e3 : zI2 23 (d / 32) = 0 := rfl
  rw [e3]
  exact ⟨⟨fun h => absurd h (e2 _ (by omega)), fun h => absurd h e⟩, fun h => absurd h e⟩
theorem GBes_0 : GBes (zI2 3) (zI2 85) := by
  intro i j hi hj
  have e2 : ∀ j, j < 32 → ¬ btI 0 j := by
    unfold btI
    decide
  have e3 : zI2 3 i = 0 := rfl
  have e4 : zI2 85 (16 * i + j) = 0 := rfl
  rw [e3, e4]
  exact ⟨Or.inl rfl, fun _ => ⟨fun h => absurd h (e2 _ (by omega)), fun h => absurd h (by decide)⟩, fun _ => rfl⟩
theorem GWay_0 : GWay (zI2 4) (zI2 89) := by
  intro i j hi hj
  rw [zr4, zr89]
  refine ⟨fun h => ?_, fun h => ?_⟩
  · rw [if_neg (by omega), if_pos (by omega), if_pos (by omega)]
    exact ⟨rfl, by decide, by decide⟩
  · rw [if_pos (by omega)]
theorem Rel_0 : Rel 0 (fun _ => none) zI2 (fun _ _ => 0) (plk mR) := by
  refine ⟨0, 0, 0, 0, 0, 0, 0, 0, 0, 0, 0, 93, 145, fun _ => 0, fun _ => 0, fun _ => 0, fun _ => 0, fun _ => 0, fun _ => 0, fun _ => 0, ?_⟩
  refine ⟨⟨rfl, rfl, rfl⟩, ⟨by decide, rfl, rfl⟩, ⟨by decide, rfl, rfl⟩, ⟨by decide, rfl, rfl⟩, ⟨by decide, rfl, rfl⟩, ⟨by decide, rfl, rfl⟩, ⟨by decide, rfl, rfl⟩, ⟨by decide, rfl, rfl⟩, ⟨by decide, rfl, rfl⟩, ⟨by decide, rfl, rfl⟩, ⟨by decide, rfl, rfl⟩, ⟨by decide, rfl, rfl⟩, ⟨rfl, by show (1 : Int32) ≤ 2; decide, by show (2 : Int32) ≤ 5; decide⟩, fun k h => nz h, fun k h => nz h, GWea_0, GBes_0, fun i j _ _ => rfl, GWay_0, fun k h => nz h, ?_, ?_, ?_, fun k h => nz h, fun k h => nz h, fun k h => nz h, WALL_0, ?_, ?_, Or.inl ⟨rfl, rfl, rfl, rfl⟩, fun k h => nz h, ?_, ?_, rfl, fun k h => nz h, ?_, fun k h => nz h, ?_, ?_, fun c _ => rfl⟩
  · intro k _
    exact ⟨rfl, by show (0 : Int32) ≤ 0; decide, by show (0 : Int32) ≤ 9; decide⟩
  · exact ⟨fun k h => nz h, fun j k _ h => nz h, fun p w _ _ => rfl⟩
  · intro p _
    rfl
  · refine ⟨fun _ w hw => ?_, fun h => absurd rfl h⟩
    rw [zr32, if_pos hw]
  · intro k _
    exact ⟨rfl, by show (-128 : Int32) ≤ 0; decide, by show (0 : Int32) ≤ 127; decide⟩
  · exact ⟨38, 0, rfl, rfl, by decide, Or.inl ⟨rfl, rfl⟩⟩
  · exact ⟨29, 0, rfl, rfl, by decide, Or.inl ⟨rfl, rfl⟩⟩
  · exact ⟨rfl, by decide, rfl, rfl, rfl, Or.inl rfl, fun r h => nz h⟩
  · refine ⟨rfl, ⟨rfl, ?_, rfl, rfl, rfl, rfl, rfl⟩, Or.inl rfl⟩
    intro j h1 h2
    have : j = 1 ∨ j = 2 ∨ j = 3 ∨ j = 4 ∨ j = 5 ∨ j = 6 := by omega
    rcases this with rfl | rfl | rfl | rfl | rfl | rfl <;> rfl
  · intro k
    exact ⟨rfl, rfl, rfl⟩
