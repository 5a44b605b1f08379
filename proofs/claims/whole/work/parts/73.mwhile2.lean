/-! ===== a sweep changes nothing, or flags and lessens ===== -/
def nuV (r : Nat → Int32) : Prop := ∀ x, x < 256 → ¬ r x = -1 → isNu x = true
theorem stB_nu {ex : Bool} {rd : Int32} {a b : Nat} (na : isNu a = true) (hb : b < 256) {S : (Nat → Int32) × Bool} (h : nuV S.1) : nuV (stB ex rd a b S).1 := by
  unfold stB
  by_cases q : (rOl S.1 rd b && !decide (cdd ex a b = -1) && decide (S.1 (cdd ex a b).toNatClampNeg = -1)) = true
  · rw [if_pos q]
    rw [Bool.and_eq_true, Bool.and_eq_true] at q
    obtain ⟨⟨q1, q2⟩, q3⟩ := q
    have nb : isNu b = true := h b hb (fun e => by unfold rOl at q1; rw [decide_eq_true e] at q1; exact absurd q1 (by intro w; cases w))
    rcases cdd_or (ex := ex) na nb with z | ⟨n, z1, z2, z3⟩
    · rw [decide_eq_true z] at q2; exact absurd q2 (by decide)
    · rw [z3, nk_cl (show n < 2147483648 by omega)]
      intro x hx hq
      by_cases e : x = n
      · rw [e]; exact z2
      · exact h x hx (fun w => hq (by show upz S.1 n rd x = -1; rw [upz_ne _ _ e]; exact w))
  · rw [if_neg q]; exact h
theorem swB_cn {ex : Bool} {rd : Int32} (hr : ¬ rd = -1) {a : Nat} (na : isNu a = true) : ∀ j b (S : (Nat → Int32) × Bool), b + j ≤ 256 → nuV S.1 → nuV (swB ex rd a j b S).1 ∧ (swB ex rd a j b S = S ∨ ((swB ex rd a j b S).2 = true ∧ cnM (swB ex rd a j b S).1 256 < cnM S.1 256))
  | 0, _, _, _, h => ⟨h, Or.inl rfl⟩
  | j + 1, b, S, hb, h => by
    unfold swB
    have h1 := stB_nu (ex := ex) (rd := rd) na (show b < 256 by omega) h
    obtain ⟨g1, g2⟩ := swB_cn hr na j (b + 1) (stB ex rd a b S) (by omega) h1
    refine ⟨g1, ?_⟩
    have nb : rOl S.1 rd b = true → isNu b = true := fun q1 => h b (by omega) (fun e => by unfold rOl at q1; rw [decide_eq_true e] at q1; exact absurd q1 (by intro w; cases w))
    rcases stB_cn (ex := ex) hr na nb with z | ⟨z1, z2⟩
    · rw [z] at g2 ⊢; exact g2
    · rcases g2 with w | ⟨w1, w2⟩
      · rw [w]; exact Or.inr ⟨z1, by omega⟩
      · exact Or.inr ⟨w1, by omega⟩
