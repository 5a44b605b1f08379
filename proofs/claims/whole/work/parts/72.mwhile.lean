/-! ===== how many are not yet derived ===== -/
def cnM (r : Nat → Int32) (k : Nat) : Nat := cn (fun x => decide (r x = -1)) k
theorem cnM_up {r : Nat → Int32} {n : Nat} {rd : Int32} (h : r n = -1) (hr : ¬ rd = -1) : ∀ k, cnM (upz r n rd) k + (if n < k then 1 else 0) = cnM r k
  | 0 => by rw [if_neg (Nat.not_lt_zero n)]; rfl
  | k + 1 => by
    have ih := cnM_up h hr k
    have e1 : cnM (upz r n rd) (k + 1) = cnM (upz r n rd) k + (if decide (upz r n rd k = -1) = true then 1 else 0) := rfl
    have e2 : cnM r (k + 1) = cnM r k + (if decide (r k = -1) = true then 1 else 0) := rfl
    rw [e1, e2, ← ih, upz_at]
    by_cases q : k = n
    · rw [if_pos q, q, decide_eq_false hr, decide_eq_true h, if_neg Bool.false_ne_true, if_pos rfl, if_neg (Nat.lt_irrefl n), if_pos (Nat.lt_succ_self n)]
    · rw [if_neg q]
      by_cases z : n < k
      · rw [if_pos z, if_pos (show n < k + 1 by omega)]; omega
      · rw [if_neg z, if_neg (show ¬ n < k + 1 by omega)]; omega
theorem cnM_le (r : Nat → Int32) (k : Nat) : cnM r k ≤ k := cn_le _ k
theorem stB_cn {ex : Bool} {rd : Int32} (hr : ¬ rd = -1) {a b : Nat} (na : isNu a = true) {S : (Nat → Int32) × Bool} (nb : rOl S.1 rd b = true → isNu b = true) : stB ex rd a b S = S ∨ ((stB ex rd a b S).2 = true ∧ cnM (stB ex rd a b S).1 256 + 1 = cnM S.1 256) := by
  unfold stB
  by_cases q : (rOl S.1 rd b && !decide (cdd ex a b = -1) && decide (S.1 (cdd ex a b).toNatClampNeg = -1)) = true
  · rw [if_pos q]
    rw [Bool.and_eq_true, Bool.and_eq_true] at q
    obtain ⟨⟨q1, q2⟩, q3⟩ := q
    rcases cdd_or (ex := ex) na (nb q1) with z | ⟨n, z1, z2, z3⟩
    · rw [decide_eq_true z] at q2; exact absurd q2 (by decide)
    · rw [z3, nk_cl (show n < 2147483648 by omega)] at q3 ⊢
      have u := cnM_up (of_decide_eq_true q3) hr 256
      rw [if_pos z1] at u
      exact Or.inr ⟨rfl, u⟩
  · rw [if_neg q]; exact Or.inl rfl
