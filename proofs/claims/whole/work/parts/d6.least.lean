/-! ===== the fewest: by size, and the first of that size ===== -/
def fwF (p : Nat → Bool) (s : Nat) : Nat → Option Nat × Nat
  | 0 => (none, 0)
  | k + 1 => if decide (pop k = s) && p k then (match (fwF p s k).1 with
    | none => (some k, 1)
    | some b => (some b, (fwF p s k).2 + 1)) else fwF p s k
theorem mnF_S {p : Nat → Bool} {k : Nat} : mnF p (k + 1) = (match (mnF p k).1 with
    | none => if p k then (some k, 1) else mnF p k
    | some b => if pop b < pop k then mnF p k else if p k then (if pop k < pop b then (some k, 1) else (some b, (mnF p k).2 + 1)) else mnF p k) := rfl
theorem fwF_S {p : Nat → Bool} {s k : Nat} : fwF p s (k + 1) = (if decide (pop k = s) && p k then (match (fwF p s k).1 with
    | none => (some k, 1)
    | some b => (some b, (fwF p s k).2 + 1)) else fwF p s k) := rfl
theorem mnF_none {p : Nat → Bool} : ∀ {n : Nat}, (∀ k, k < n → p k = false) → mnF p n = (none, 0)
  | 0, _ => rfl
  | n + 1, h => by
    rw [mnF_S, mnF_none (fun k hk => h k (by omega))]
    dsimp only
    rw [h n (by omega), if_neg Bool.false_ne_true]
theorem fwF_none {p : Nat → Bool} {s : Nat} : ∀ {n : Nat}, (fwF p s n).2 = 0 → fwF p s n = (none, 0) ∧ ∀ k, k < n → pop k = s → p k = false
  | 0, _ => ⟨rfl, fun k hk => absurd hk (Nat.not_lt_zero k)⟩
  | n + 1, h => by
    rw [fwF_S] at h ⊢
    cases e : (decide (pop n = s) && p n)
    · rw [e, if_neg Bool.false_ne_true] at h
      obtain ⟨h1, h2⟩ := fwF_none h
      rw [if_neg Bool.false_ne_true]
      refine ⟨h1, fun k hk q => ?_⟩
      by_cases z : k = n
      · subst z
        rw [decide_eq_true q, Bool.true_and] at e
        exact e
      · exact h2 k (by omega) q
    · rw [e, if_pos rfl] at h
      cases z : (fwF p s n).1 <;> rw [z] at h <;> dsimp only at h <;> omega
theorem fwF_mn {p : Nat → Bool} {s : Nat} : ∀ n, (∀ k, k < n → p k = true → s ≤ pop k) → (fwF p s n = (none, 0) ∧ (mnF p n = (none, 0) ∨ ∃ b c, mnF p n = (some b, c) ∧ s < pop b)) ∨ ∃ b c, fwF p s n = (some b, c + 1) ∧ mnF p n = (some b, c + 1) ∧ pop b = s
  | 0, _ => Or.inl ⟨rfl, Or.inl rfl⟩
  | n + 1, h => by
    have ih := fwF_mn n (fun k hk => h k (by omega))
    have hn := h n (by omega)
    rw [mnF_S, fwF_S]
    cases ep : p n
    · rw [Bool.and_false, if_neg Bool.false_ne_true]
      rcases ih with ⟨a1, a2 | ⟨b, c, a2, a3⟩⟩ | ⟨b, c, a1, a2, a3⟩
      · rw [a2]; dsimp only; rw [if_neg Bool.false_ne_true]
        exact Or.inl ⟨a1, Or.inl rfl⟩
      · rw [a2]; dsimp only; rw [if_neg Bool.false_ne_true, ite_self]
        exact Or.inl ⟨a1, Or.inr ⟨b, c, rfl, a3⟩⟩
      · rw [a2]; dsimp only; rw [if_neg Bool.false_ne_true, ite_self]
        exact Or.inr ⟨b, c, a1, rfl, a3⟩
    · have hn := hn ep
      by_cases es : pop n = s
      · rw [decide_eq_true es, Bool.true_and, if_pos rfl]
        rcases ih with ⟨a1, a2 | ⟨b, c, a2, a3⟩⟩ | ⟨b, c, a1, a2, a3⟩
        · rw [a1, a2]; dsimp only; rw [if_pos rfl]
          exact Or.inr ⟨n, 0, rfl, rfl, es⟩
        · rw [a1, a2]; dsimp only; rw [if_neg (by omega), if_pos rfl, if_pos (by omega)]
          exact Or.inr ⟨n, 0, rfl, rfl, es⟩
        · rw [a1, a2]; dsimp only; rw [if_neg (by omega), if_pos rfl, if_neg (by omega)]
          exact Or.inr ⟨b, c + 1, rfl, rfl, a3⟩
      · rw [decide_eq_false es, Bool.false_and, if_neg Bool.false_ne_true]
        rcases ih with ⟨a1, a2 | ⟨b, c, a2, a3⟩⟩ | ⟨b, c, a1, a2, a3⟩
        · rw [a2]; dsimp only; rw [if_pos rfl]
          exact Or.inl ⟨a1, Or.inr ⟨n, 1, rfl, by omega⟩⟩
        · rw [a2]; dsimp only
          by_cases z : pop b < pop n
          · rw [if_pos z]; exact Or.inl ⟨a1, Or.inr ⟨b, c, rfl, a3⟩⟩
          · rw [if_neg z, if_pos rfl]
            by_cases y : pop n < pop b
            · rw [if_pos y]; exact Or.inl ⟨a1, Or.inr ⟨n, 1, rfl, by omega⟩⟩
            · rw [if_neg y]; exact Or.inl ⟨a1, Or.inr ⟨b, c + 1, rfl, a3⟩⟩
        · rw [a2]; dsimp only; rw [if_pos (by omega)]
          exact Or.inr ⟨b, c, a1, rfl, a3⟩
/-- the first size that has one gives the fewest -/
theorem fwF_hit {p : Nat → Bool} {s n : Nat} (h : ∀ k, k < n → p k = true → s ≤ pop k) (h0 : (fwF p s n).2 ≠ 0) : mnF p n = fwF p s n := by
  rcases fwF_mn n h with ⟨a1, _⟩ | ⟨b, c, a1, a2, _⟩
  · rw [a1] at h0; exact absurd rfl h0
  · rw [a1, a2]
