/-! ===== the state at the beginning ===== -/
def bF (a i : Nat) : Int32 := if a = 23 then (if i = 11 then -1 else 0) else if a = 24 then (if i = 2 then -1 else 0) else if a = 51 ∨ a = 71 then (if i = 1 ∨ i = 3 ∨ i = 4 ∨ i = 5 then -1 else 0) else if a = 61 then (if i = 2 then 1 else 0) else if a = 65 then (if i = 2 then 1 else 0) else if a = 82 then (if i = 9 ∨ i = 43 then -1 else 0) else if a = 87 then nI (wdL.getD i 0) else 0
def bV (a i : Nat) : Value := if a = 38 then .ref (39 + 4 * i) else if a = 61 ∧ i = 1 then .ref 62 else if a = 55 ∧ i = 5 then .ref 59 else .null
def bR0 : rT := (0, false, 0, .var 0, .var 0)
def bA : aT := (((0, fun _ => bR0, false, false), (0, fun _ => (bR0, false))), fun _ => none, (0, fun _ => 0), (-1, 0, fun _ => 0), none)
theorem no_lt {P : Nat → Prop} : ∀ i, i < 0 → P i := fun i hi => absurd hi (Nat.not_lt_zero i)
theorem lw_begin {ys : List Int32} {s : Nat} (hs : s ≤ 6000000) : LwS ys 0 (am_c0 ys, 108, s) bF bV := by
  have c0 : CB (am_c0 ys, 108, s) bF bV bA := by
    refine ⟨⟨⟨rfl, by decide, no_lt⟩, rfl, rfl, ⟨rfl, by decide, no_lt⟩, fun i hi => ⟨Or.inl rfl, Or.inl rfl⟩, fun i hi => Or.inl rfl⟩, ?_, ⟨rfl, by decide, no_lt⟩, rfl, rfl, fun i hi => rfl, rfl⟩
    intro i hi
    refine ⟨rfl, ?_, fun X hX => by cases hX⟩
    rcases (show i = 0 ∨ i = 1 by omega) with e | e <;> rw [e] <;> rfl
  have m0 : MS bF bA := by
    refine ⟨⟨⟨rfl, by decide, rfl, rfl, no_lt, fun z => by cases z⟩, ⟨rfl, by decide, no_lt⟩⟩, ?_, ⟨rfl, by decide, no_lt⟩, rfl, rfl, fun i hi => rfl, rfl, fun i hi => rfl⟩
    intro i hi
    exact ⟨rfl, fun X hX => by cases hX⟩
  refine ⟨rfl, Nat.le_refl _, hs, bA, (am_c0 ys, 108, s), 62, 59, ⟨rfl, rfl, fun a a1 a2 => ?_, Nat.le_refl _, no_lt, Hk.rf, rfl, c0, Or.inl rfl, ⟨rfl, 1, fun _ => 0, ⟨by decide, Or.inl ⟨rfl, rfl, fun i hi => rfl⟩⟩, Or.inl rfl⟩, Or.inl rfl, Or.inl rfl, ⟨rfl, 2, fun _ => 0, ⟨by decide, Or.inl ⟨rfl, rfl, fun i hi => rfl⟩⟩⟩, by decide⟩, m0⟩
  show am_c0 ys a = _
  unfold am_c0
  rw [if_neg (by omega), if_neg (by omega), if_neg (by omega), if_pos a2]
