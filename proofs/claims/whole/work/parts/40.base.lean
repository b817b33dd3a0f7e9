/-! ===== what the calls share ===== -/
def inR (p a c : Int32) : Int32 := if p < a then 0 else if c < p then 0 else 1
theorem inR_z (p a c : Int32) : (inR p a c = 0) = (p < a ∨ c < p) := by
  unfold inR
  apply propext
  constructor
  · intro h
    split at h
    · rename_i q; exact Or.inl q
    · split at h
      · rename_i q; exact Or.inr q
      · cases h
  · rintro (h | h)
    · rw [if_pos h]
    · split
      · rfl
      · rfl
theorem u2_u2 {α : Type} (I : Nat → α) (c : Nat) (f g : α) : u2 (u2 I c f) c g = u2 I c g := by
  funext q
  unfold u2
  split <;> rfl
theorem X_within (p a c : Int32) (h : AH) : f_X11_within p a c h = some (inR p a c, h) := by
  simp only [f_X11_within, f_X11_within_14, f_X11_within_15, ckZ, inR]
  split
  · rfl
  · split <;> rfl
theorem M_in (p a c : Int32) (h : AH) : f_X15_in p a c h = some (inR p a c, h) := by
  simp only [f_X15_in, f_X15_in_14, f_X15_in_15, ckZ, inR]
  split
  · rfl
  · split <;> rfl
section BASE
variable {b : Nat} {F : Nat → Option AE} {D E : Nat → Option KD} {I : Nat → Nat → Int32} {L : Nat → Nat → Int64} {P : Nat → Nat → Option Nat} {nx us : Nat}
theorem X_refuse (x : Int32) : f_X11_refuse (ad b 0) x (lay b F E I L P nx us) = some (-1, lay b F E (u2 I 0 (upd (I 0) 16 x)) L P nx us) := by
  simp (decide := true) only [f_X11_refuse, isO_s, pI_s, if_true, Option.bind_some]
theorem X_tell (v : Int32) : f_X11_tell (ad b 0) v (lay b F E I L P nx us) = some (v, lay b F E (u2 I 0 (upd (I 0) 16 0)) L P nx us) := by
  simp (decide := true) only [f_X11_tell, isO_s, pI_s, if_true, Option.bind_some]
theorem X_deny (x : Int32) : f_X11_deny (ad b 0) x (lay b F E I L P nx us) = some (0, lay b F E (u2 I 0 (upd (I 0) 16 x)) L P nx us) := by
  simp (decide := true) only [f_X11_deny, isO_s, pI_s, if_true, Option.bind_some]
theorem X_grant : f_X11_grant (ad b 0) (lay b F E I L P nx us) = some (1, lay b F E (u2 I 0 (upd (I 0) 16 0)) L P nx us) := by
  simp (decide := true) only [f_X11_grant, isO_s, pI_s, if_true, Option.bind_some]
/-- the reference's row behind an end with trouble x -/
def mE (r : Nat → Int32) (x : Int32) : Nat → Int32 := upd (upd r 1 x) 2 (-1)
theorem M_refused (x : Int32) : f_X15_refused (ad b 72) x (lay b F E I L P nx us) = some (-1, lay b F E (u2 I 72 (mE (I 72) x)) L P nx us) := by
  simp (decide := true) only [f_X15_refused, isO_s, pI_s, if_true, Option.bind_some, u2_same, u2_u2, mE]
theorem M_denied (x : Int32) : f_X15_denied (ad b 72) x (lay b F E I L P nx us) = some (0, lay b F E (u2 I 72 (mE (I 72) x)) L P nx us) := by
  simp (decide := true) only [f_X15_denied, isO_s, pI_s, if_true, Option.bind_some, u2_same, u2_u2, mE]
theorem M_done (v : Int32) : f_X15_done (ad b 72) v (lay b F E I L P nx us) = some (v, lay b F E (u2 I 72 (mE (I 72) 0)) L P nx us) := by
  simp (decide := true) only [f_X15_done, isO_s, pI_s, if_true, Option.bind_some, u2_same, u2_u2, mE]
theorem M_granted : f_X15_granted (ad b 72) (lay b F E I L P nx us) = some (1, lay b F E (u2 I 72 (mE (I 72) 0)) L P nx us) := by
  simp (decide := true) only [f_X15_granted, isO_s, pI_s, if_true, Option.bind_some, u2_same, u2_u2, mE]
end BASE
