/-! ===== marks of the heaps: 0 no quarrel, 1 a quarrel that is not least, 2 a least quarrel ===== -/
theorem lqF_iff {D : dT} {hp : Nat} : ∀ k, lqF D hp k = true ↔ qz (hzD D hp) (fun _ => false) = true ∧ ∀ i, i < k → hp.testBit i = true → qz (hzD D (clr hp i)) (fun _ => false) = false
  | 0 => ⟨fun h => ⟨h, fun i hi => absurd hi (Nat.not_lt_zero i)⟩, fun h => h.1⟩
  | k + 1 => by
    show (lqF D hp k && (!hp.testBit k || !qz (hzD D (clr hp k)) (fun _ => false))) = true ↔ _
    rw [Bool.and_eq_true, lqF_iff k]
    constructor
    · rintro ⟨⟨h1, h2⟩, h3⟩
      refine ⟨h1, fun i hi hb => ?_⟩
      by_cases e : i = k
      · subst e
        rw [hb, Bool.not_true, Bool.false_or, Bool.not_eq_true'] at h3
        exact h3
      · exact h2 i (by omega) hb
    · rintro ⟨h1, h2⟩
      refine ⟨⟨h1, fun i hi => h2 i (by omega)⟩, ?_⟩
      cases hb : hp.testBit k
      · rfl
      · rw [h2 k (by omega) hb]; rfl
def mkQ (D : dT) (hp : Nat) : Nat := if qz (hzD D hp) (fun _ => false) then (if lq D hp then 2 else 1) else 0
theorem mkQ_0 {D : dT} {hp : Nat} : mkQ D hp = 0 ↔ qz (hzD D hp) (fun _ => false) = false := by
  unfold mkQ
  cases qz (hzD D hp) (fun _ => false) <;> cases lq D hp <;> simp
theorem mkQ_2 {D : dT} {hp : Nat} : mkQ D hp = 2 ↔ lq D hp = true := by
  unfold mkQ
  cases e : qz (hzD D hp) (fun _ => false)
  · have : lq D hp = false := by
      cases z : lq D hp
      · rfl
      · have := ((lqF_iff D.1).mp z).1
        rw [e] at this; cases this
    rw [this]; simp
  · cases lq D hp <;> simp
