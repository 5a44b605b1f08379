/-! ===== the class: the fewest regions that meet a set of wants ===== -/
def lowB (n : Nat) : Nat → Nat → Nat
  | 0, k => k
  | j + 1, k => if n.testBit k then k else lowB n j (k + 1)
theorem low_dec : ∀ a b : Fin 128, a.val * 128 + b.val ≠ 0 → nI (a.val * 128 + b.val) &&& -(nI (a.val * 128 + b.val)) = nI (2 ^ lowB (a.val * 128 + b.val) 13 0) ∧ (a.val * 128 + b.val).testBit (lowB (a.val * 128 + b.val) 13 0) = true ∧ lowB (a.val * 128 + b.val) 13 0 < 14 ∨ 64 ≤ a.val := by decide +kernel
theorem low_ok {n : Nat} (hn : n < 8192) (h0 : n ≠ 0) : nI n &&& -(nI n) = nI (2 ^ lowB n 13 0) ∧ n.testBit (lowB n 13 0) = true ∧ lowB n 13 0 < 14 := by
  have := low_dec ⟨n / 128, by omega⟩ ⟨n % 128, by omega⟩
  have e : n / 128 * 128 + n % 128 = n := by omega
  rw [show (⟨n / 128, by omega⟩ : Fin 128).val * 128 + (⟨n % 128, by omega⟩ : Fin 128).val = n from e] at this
  rcases this h0 with w | w
  · exact w
  · have w : 64 ≤ n / 128 := w
    omega
