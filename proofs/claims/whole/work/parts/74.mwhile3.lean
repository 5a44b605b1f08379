/-! ===== a round changes nothing, or flags and lessens ===== -/
theorem swA_cn {ex : Bool} {rd : Int32} (hr : ¬ rd = -1) : ∀ j a (S : (Nat → Int32) × Bool), a + j ≤ 256 → nuV S.1 → nuV (swA ex rd j a S).1 ∧ (swA ex rd j a S = S ∨ ((swA ex rd j a S).2 = true ∧ cnM (swA ex rd j a S).1 256 < cnM S.1 256))
  | 0, _, _, _, h => ⟨h, Or.inl rfl⟩
  | j + 1, a, S, hb, h => by
    unfold swA
    by_cases q : rOl S.1 rd a = true
    · rw [if_pos q]
      have na : isNu a = true := h a (by omega) (fun e => by unfold rOl at q; rw [decide_eq_true e] at q; exact absurd q (by intro w; cases w))
      obtain ⟨h1, h2⟩ := swB_cn (ex := ex) hr na 256 0 S (by omega) h
      revert h1 h2
      generalize swB ex rd a 256 0 S = S1
      intro h1 h2
      obtain ⟨g1, g2⟩ := swA_cn (ex := ex) hr j (a + 1) S1 (by omega) h1
      refine ⟨g1, ?_⟩
      rcases h2 with z | ⟨z1, z2⟩
      · rw [z] at g2 ⊢; exact g2
      · rcases g2 with w | ⟨w1, w2⟩
        · rw [w]; exact Or.inr ⟨z1, z2⟩
        · exact Or.inr ⟨w1, Nat.lt_trans w2 z2⟩
    · rw [if_neg q]
      exact swA_cn hr j (a + 1) S (by omega) h
