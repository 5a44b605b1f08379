/-! ===== the model: numberOf, followsNumber ===== -/
theorem cdT_pos {t : Int.Internal.Linear.Expr} (h : wfT t) : 0 < (cdT t).length := by
  induction t with
  | var i => exact Nat.one_pos
  | neg a ih => show 0 < (cdT a ++ [8]).length; rw [List.length_append]; exact Nat.succ_pos _
  | sub a b iha ihb => show 0 < (cdT a ++ cdT b ++ [9]).length; rw [List.length_append]; exact Nat.succ_pos _
  | add a b iha ihb => show 0 < (cdT a ++ cdT b ++ [10]).length; rw [List.length_append]; exact Nat.succ_pos _
  | num v => exact h.elim
  | mulL v a ih => exact h.elim
  | mulR a v ih => exact h.elim
theorem cdT_one {t : Int.Internal.Linear.Expr} (h : wfT t) (hl : (cdT t).length = 1) : ∃ i : Nat, t = .var i ∧ i < 8 := by
  cases t with
  | var i => exact ⟨i, rfl, h⟩
  | neg a =>
    have := cdT_pos (t := a) h
    have hl : (cdT a ++ [8]).length = 1 := hl
    rw [List.length_append, List.length_singleton] at hl
    omega
  | sub a b =>
    have := cdT_pos (t := a) h.1
    have hl : (cdT a ++ cdT b ++ [9]).length = 1 := hl
    rw [List.length_append, List.length_append, List.length_singleton] at hl
    omega
  | add a b =>
    have := cdT_pos (t := a) h.1
    have hl : (cdT a ++ cdT b ++ [10]).length = 1 := hl
    rw [List.length_append, List.length_append, List.length_singleton] at hl
    omega
  | num v => exact h.elim
  | mulL v a => exact h.elim
  | mulR a v => exact h.elim
theorem nk_subk (a b : Nat) : nI (a + b) - nI a = nI b := by
  have := nk_sub (a := a + b) (b := a) (by omega)
  rw [Nat.add_sub_cancel_left] at this
  exact this
section MNU
variable {d : Nat} {h : am_H} {F : Nat → Nat → Int32} {J : Nat → Nat → Int64} {V : Nat → Nat → Value} {Q : am_Q}
set_option maxRecDepth 20000 in
theorem m_numberOf {s : Nat} (hs : s < 14) {R : rT} (hR : wfR R) (hg : RR (F 84) s R) (K : Q (some (.int (oI (nuR R)))) (ov h F J V)) : am_cl (d + 2) 214 [.ref 82, .int (nI s)] (ov h F J V) Q := by
  obtain ⟨w1, w2, ⟨w3, w4⟩, w5, w6⟩ := hR
  obtain ⟨g1, g2, g3, g4, g5, g6⟩ := hg
  have hf : R.1 < 11 := by rcases w1 with e | e | e | e | e | e | e <;> omega
  have i5 : nI (183 * s) + (5 : Int32) + nI ((rC1 R).length) = nI (183 * s + 5 + (rC1 R).length) := nk_add3 (183 * s) 5 (rC1 R).length
  have i6 : nI (183 * s) + (5 : Int32) + nI ((rC1 R).length + (rC2 R).length) = nI (183 * s + 5 + (rC1 R).length + (rC2 R).length) := by rw [Nat.add_assoc (183 * s + 5)]; exact nk_add3 (183 * s) 5 ((rC1 R).length + (rC2 R).length)
  have i7 : nI (183 * s) + (5 : Int32) = nI (183 * s + 5) := nk_add (183 * s) 5
  have i3 : nI (183 * s) + (3 : Int32) = nI (183 * s + 3) := nk_add (183 * s) 3
  have i4 : nI (183 * s) + (4 : Int32) = nI (183 * s + 4) := nk_add (183 * s) 4
  have i8 : nI (183 * s + 5) + nI ((rC1 R).length) = nI (183 * s + 5 + (rC1 R).length) := nk_add _ _
  have i9 : nI (183 * s + 5) + nI ((rC1 R).length + (rC2 R).length) = nI (183 * s + 5 + (rC1 R).length + (rC2 R).length) := by rw [nk_add, Nat.add_assoc (183 * s + 5)]
  simp only [ax0, ex_cons, am_get, upz_at, true_and, and_true, Nat.reduceAdd, Nat.reduceLeDiff, Nat.reduceEqDiff, Nat.reduceSub, Int32.reduceOfInt, Int32.reduceAdd, Int32.reduceMul, Int32.reduceSub, ↓reduceIte, Int32.reduceLT, Int32.reduceLE, Int32.reduceToNatClampNeg, Nat.reduceMod, Nat.reduceLT, List.length_cons, List.length_nil, eq_self, true_or, or_true, and_self, implies_true, not_true_eq_false, not_false_eq_true, false_implies, true_implies, forall_const, st_aload, st_getfield, st_goto_w, st_iadd, st_iaload, st_iconst, st_ifCond, st_if_icmp, st_iload, st_imul, st_in4, st_istore, am_put, am_nlg, kb_Model_numberOf_0, og_82_2, oo_82, oa_82, oa_84, or_84, cx_Model_numberOf, show (183 : Int32) * nI (s) = nI (183 * (s)) from nk_mul (183) (s), i3, i4, i7, i8, i9, nk_neg (show 183 * s < 2147483648 by omega), nk_cl (show 183 * s < 2147483648 by omega), nk_neg (show 183 * s + 3 < 2147483648 by omega), nk_cl (show 183 * s + 3 < 2147483648 by omega), nk_neg (show 183 * s + 4 < 2147483648 by omega), nk_cl (show 183 * s + 4 < 2147483648 by omega), show 183 * s < 2698 by omega, show 183 * s + 3 < 2698 by omega, show 183 * s + 4 < 2698 by omega, g1, g4, g5, show ((9 : Int32) ≤ nI (R.1)) = (9 ≤ R.1) from nk_le (a := 9) (b := R.1) (by omega) (by omega)]
  refine ⟨fun hc => ?_, fun hc => ?_⟩
  · have e : nuR R = none := by unfold nuR; rw [if_neg (fun q => absurd q.1 (by omega))]
    rw [e] at K
    simp only [ax0, ex_cons, am_get, upz_at, true_and, and_true, Nat.reduceAdd, Nat.reduceLeDiff, Nat.reduceEqDiff, Nat.reduceSub, Int32.reduceOfInt, Int32.reduceAdd, Int32.reduceMul, Int32.reduceSub, ↓reduceIte, Int32.reduceLT, Int32.reduceLE, Int32.reduceToNatClampNeg, Nat.reduceMod, Nat.reduceLT, List.length_cons, List.length_nil, eq_self, true_or, or_true, and_self, implies_true, not_true_eq_false, not_false_eq_true, false_implies, true_implies, forall_const, st_iconst, st_ireturn, jx_Model_numberOf_91, kb_Model_numberOf_91]
    exact K
  · have hc9 : R.1 < 9 := by omega
    obtain ⟨w7, w8⟩ := w2 hc9
    have ec1 : rC1 R = cdT R.2.2.2.1 := by unfold rC1; rw [if_pos hc9]
    have n1 : (nI ((rC1 R).length) = 1) = ((rC1 R).length = 1) := nk_eq (b := 1) (by omega) (by decide)
    have n2 : (nI ((rC2 R).length) = 1) = ((rC2 R).length = 1) := nk_eq (b := 1) (by omega) (by decide)
    by_cases hA : (rC1 R).length = 1
    · by_cases hB : (rC2 R).length = 1
      · obtain ⟨a, ea, ha⟩ := cdT_one w7 (by rw [← ec1]; exact hA)
        obtain ⟨b, eb, hb⟩ := cdT_one w3 hB
        have c1 : rC1 R = [a] := by rw [ec1, ea]; rfl
        have c2 : rC2 R = [b] := by unfold rC2; rw [eb]; rfl
        have f1 : F 84 (183 * s + 5) = nI a := by have := g6.l; rw [c1] at this; exact this.one
        have f2 : F 84 (183 * s + 5 + 1) = nI b := by have := g6.r; rw [c1, c2] at this; exact this.one
        have en : nuR R = if a = b then none else some (if R.1 = 1 then 8 * a + b else if R.1 = 2 then 64 + 8 * a + b else if R.1 = 3 then (if R.2.1 then 192 else 128) + 8 * a + b else 8 * b + a) := by
          unfold nuR
          rw [c1, c2]
          by_cases q : a = b
          · rw [if_neg (fun z => z.2.2.2 q), if_pos q]
          · rw [if_pos ⟨hc9, rfl, rfl, q⟩, if_neg q]; rfl
        rw [hA, hB] at *
        have k1 : nI (183 * s + 5 + 1) - nI (183 * s + 5) = (1 : Int32) := nk_subk (183 * s + 5) 1
        have k2 : nI (183 * s + 5 + 1 + 1) - nI (183 * s + 5 + 1) = (1 : Int32) := nk_subk (183 * s + 5 + 1) 1
        simp only [ax0, ex_cons, am_get, upz_at, true_and, and_true, Nat.reduceAdd, Nat.reduceLeDiff, Nat.reduceEqDiff, Nat.reduceSub, Int32.reduceOfInt, Int32.reduceAdd, Int32.reduceMul, Int32.reduceSub, ↓reduceIte, Int32.reduceLT, Int32.reduceLE, Int32.reduceToNatClampNeg, Nat.reduceMod, Nat.reduceLT, List.length_cons, List.length_nil, eq_self, true_or, or_true, and_self, implies_true, not_true_eq_false, not_false_eq_true, false_implies, true_implies, forall_const, st_aload, st_freturn, st_getfield, st_goto, st_goto_w, st_iaload, st_iconst, st_ifCond, st_if_icmp, st_iload, st_isub, cx_Model_isAlone, kb_Model_isAlone_0, og_82_2, jx_Model_isAlone_26, kb_Model_isAlone_26, jx_Model_isAlone_27, kb_Model_isAlone_27, oa_82, oa_84, or_84, k1, k2, nk_neg (show 183 * s + 5 < 2147483648 by omega), nk_cl (show 183 * s + 5 < 2147483648 by omega), nk_neg (show 183 * s + 5 + 1 < 2147483648 by omega), nk_cl (show 183 * s + 5 + 1 < 2147483648 by omega), nk_neg (show 183 * s < 2147483648 by omega), nk_cl (show 183 * s < 2147483648 by omega), show 183 * s + 5 < 2698 by omega, show 183 * s + 5 + 1 < 2698 by omega, f1, f2, show ((8 : Int32) ≤ nI (a)) = (8 ≤ a) from nk_le (a := 8) (b := a) (by omega) (by omega), show ((8 : Int32) ≤ nI (b)) = (8 ≤ b) from nk_le (a := 8) (b := b) (by omega) (by omega), show ¬ 8 ≤ a by omega, show ¬ 8 ≤ b by omega]
        simp only [ax0, ex_cons, am_get, upz_at, true_and, and_true, Nat.reduceAdd, Nat.reduceLeDiff, Nat.reduceEqDiff, Nat.reduceSub, Int32.reduceOfInt, Int32.reduceAdd, Int32.reduceMul, Int32.reduceSub, ↓reduceIte, Int32.reduceLT, Int32.reduceLE, Int32.reduceToNatClampNeg, Nat.reduceMod, Nat.reduceLT, List.length_cons, List.length_nil, eq_self, true_or, or_true, and_self, implies_true, not_true_eq_false, not_false_eq_true, false_implies, true_implies, forall_const, st_aload, st_getfield, st_goto_w, st_iadd, st_iaload, st_iconst, st_ifCond, st_if_icmp, st_iload, st_imul, st_in4, st_istore, am_put, am_nlg, kb_Model_numberOf_0, og_82_2, oo_82, oa_82, oa_84, or_84, nk_neg (show 183 * s + 5 < 2147483648 by omega), nk_cl (show 183 * s + 5 < 2147483648 by omega), nk_neg (show 183 * s + 5 + 1 < 2147483648 by omega), nk_cl (show 183 * s + 5 + 1 < 2147483648 by omega), show 183 * s + 5 < 2698 by omega, show 183 * s + 5 + 1 < 2698 by omega, f1, f2]
        simp only [ax0, ex_cons, am_get, upz_at, true_and, and_true, Nat.reduceAdd, Nat.reduceLeDiff, Nat.reduceEqDiff, Nat.reduceSub, Int32.reduceOfInt, Int32.reduceAdd, Int32.reduceMul, Int32.reduceSub, ↓reduceIte, Int32.reduceLT, Int32.reduceLE, Int32.reduceToNatClampNeg, Nat.reduceMod, Nat.reduceLT, List.length_cons, List.length_nil, eq_self, true_or, or_true, and_self, implies_true, not_true_eq_false, not_false_eq_true, false_implies, true_implies, forall_const, st_aload, st_freturn, st_getfield, st_goto, st_goto_w, st_iaload, st_iconst, st_ifCond, st_if_icmp, st_iload, st_isub, cx_Model_isAlone, kb_Model_isAlone_0, og_82_2, jx_Model_isAlone_26, kb_Model_isAlone_26, jx_Model_isAlone_27, kb_Model_isAlone_27, oa_82, oa_84, or_84, k1, k2, nk_neg (show 183 * s + 5 < 2147483648 by omega), nk_cl (show 183 * s + 5 < 2147483648 by omega), nk_neg (show 183 * s + 5 + 1 < 2147483648 by omega), nk_cl (show 183 * s + 5 + 1 < 2147483648 by omega), nk_neg (show 183 * s < 2147483648 by omega), nk_cl (show 183 * s < 2147483648 by omega), show 183 * s + 5 < 2698 by omega, show 183 * s + 5 + 1 < 2698 by omega, f1, f2, show ((8 : Int32) ≤ nI (a)) = (8 ≤ a) from nk_le (a := 8) (b := a) (by omega) (by omega), show ((8 : Int32) ≤ nI (b)) = (8 ≤ b) from nk_le (a := 8) (b := b) (by omega) (by omega), show ¬ 8 ≤ a by omega, show ¬ 8 ≤ b by omega]
        simp only [ax0, ex_cons, am_get, upz_at, true_and, and_true, Nat.reduceAdd, Nat.reduceLeDiff, Nat.reduceEqDiff, Nat.reduceSub, Int32.reduceOfInt, Int32.reduceAdd, Int32.reduceMul, Int32.reduceSub, ↓reduceIte, Int32.reduceLT, Int32.reduceLE, Int32.reduceToNatClampNeg, Nat.reduceMod, Nat.reduceLT, List.length_cons, List.length_nil, eq_self, true_or, or_true, and_self, implies_true, not_true_eq_false, not_false_eq_true, false_implies, true_implies, forall_const, st_aload, st_getfield, st_goto_w, st_iadd, st_iaload, st_iconst, st_ifCond, st_if_icmp, st_iload, st_imul, st_in4, st_istore, am_put, am_nlg, kb_Model_numberOf_0, og_82_2, oo_82, oa_82, oa_84, or_84, nk_neg (show 183 * s + 5 < 2147483648 by omega), nk_cl (show 183 * s + 5 < 2147483648 by omega), nk_neg (show 183 * s + 5 + 1 < 2147483648 by omega), nk_cl (show 183 * s + 5 + 1 < 2147483648 by omega), show 183 * s + 5 < 2698 by omega, show 183 * s + 5 + 1 < 2698 by omega, f1, f2, nk_eq (show a < 2147483648 by omega) (show b < 2147483648 by omega)]
        refine ⟨fun q => ?_, fun q => ?_⟩
        · rw [en, if_neg q] at K
          have m1 : (8 : Int32) * nI a = nI (8 * a) := nk_mul 8 a
          have m2 : (8 : Int32) * nI b = nI (8 * b) := nk_mul 8 b
          have m3 : nI (8 * a) + nI b = nI (8 * a + b) := nk_add _ _
          have m4 : nI (8 * b) + nI a = nI (8 * b + a) := nk_add _ _
          have m5 : (64 : Int32) + nI (8 * a) = nI (64 + 8 * a) := nk_add 64 (8 * a)
          have m6 : nI (64 + 8 * a) + nI b = nI (64 + 8 * a + b) := nk_add _ _
          have m7 : (192 : Int32) + nI (8 * a) = nI (192 + 8 * a) := nk_add 192 (8 * a)
          have m8 : nI (192 + 8 * a) + nI b = nI (192 + 8 * a + b) := nk_add _ _
          have m9 : (128 : Int32) + nI (8 * a) = nI (128 + 8 * a) := nk_add 128 (8 * a)
          have m0 : nI (128 + 8 * a) + nI b = nI (128 + 8 * a + b) := nk_add _ _
          have i1 : nI (183 * s) + (1 : Int32) = nI (183 * s + 1) := nk_add (183 * s) 1
          rcases w1 with e | e | e | e | e | e | e
          · have ef : nI R.1 = (1 : Int32) := congrArg nI e
            rw [if_pos e] at K
            simp only [ax0, ex_cons, am_get, upz_at, true_and, and_true, Nat.reduceAdd, Nat.reduceLeDiff, Nat.reduceEqDiff, Nat.reduceSub, Int32.reduceOfInt, Int32.reduceAdd, Int32.reduceMul, Int32.reduceSub, ↓reduceIte, Int32.reduceLT, Int32.reduceLE, Int32.reduceToNatClampNeg, Nat.reduceMod, Nat.reduceLT, List.length_cons, List.length_nil, eq_self, true_or, or_true, and_self, implies_true, not_true_eq_false, not_false_eq_true, false_implies, true_implies, forall_const, st_aload, st_getfield, st_goto, st_iadd, st_iaload, st_iconst, st_if_icmp, st_iload, st_imul, st_ireturn, st_istore, am_put, am_nlg, jx_Model_numberOf_93, kb_Model_numberOf_93, og_82_2, jx_Model_numberOf_192, kb_Model_numberOf_192, oa_82, oa_84, or_84, nk_neg (show 183 * s + 5 < 2147483648 by omega), nk_cl (show 183 * s + 5 < 2147483648 by omega), nk_neg (show 183 * s + 5 + 1 < 2147483648 by omega), nk_cl (show 183 * s + 5 + 1 < 2147483648 by omega), show 183 * s + 5 < 2698 by omega, show 183 * s + 5 + 1 < 2698 by omega, f1, f2, ef, m1, m3]
            exact K
          · have ef : nI R.1 = (2 : Int32) := congrArg nI e
            rw [if_neg (by omega), if_pos e] at K
            simp only [ax0, ex_cons, am_get, upz_at, true_and, and_true, Nat.reduceAdd, Nat.reduceLeDiff, Nat.reduceEqDiff, Nat.reduceSub, Int32.reduceOfInt, Int32.reduceAdd, Int32.reduceMul, Int32.reduceSub, ↓reduceIte, Int32.reduceLT, Int32.reduceLE, Int32.reduceToNatClampNeg, Nat.reduceMod, Nat.reduceLT, List.length_cons, List.length_nil, eq_self, true_or, or_true, and_self, implies_true, not_true_eq_false, not_false_eq_true, false_implies, true_implies, forall_const, st_aload, st_getfield, st_goto, st_iadd, st_iaload, st_iconst, st_if_icmp, st_iload, st_imul, st_ireturn, st_istore, am_put, am_nlg, jx_Model_numberOf_93, kb_Model_numberOf_93, og_82_2, jx_Model_numberOf_127, kb_Model_numberOf_127, jx_Model_numberOf_192, kb_Model_numberOf_192, oa_82, oa_84, or_84, nk_neg (show 183 * s + 5 < 2147483648 by omega), nk_cl (show 183 * s + 5 < 2147483648 by omega), nk_neg (show 183 * s + 5 + 1 < 2147483648 by omega), nk_cl (show 183 * s + 5 + 1 < 2147483648 by omega), show 183 * s + 5 < 2698 by omega, show 183 * s + 5 + 1 < 2698 by omega, f1, f2, ef, m1, m5, m6]
            exact K
          · have ef : nI R.1 = (3 : Int32) := congrArg nI e
            rw [if_neg (by omega), if_neg (by omega), if_pos e] at K
            simp only [ax0, ex_cons, am_get, upz_at, true_and, and_true, Nat.reduceAdd, Nat.reduceLeDiff, Nat.reduceEqDiff, Nat.reduceSub, Int32.reduceOfInt, Int32.reduceAdd, Int32.reduceMul, Int32.reduceSub, ↓reduceIte, Int32.reduceLT, Int32.reduceLE, Int32.reduceToNatClampNeg, Nat.reduceMod, Nat.reduceLT, List.length_cons, List.length_nil, eq_self, true_or, or_true, and_self, implies_true, not_true_eq_false, not_false_eq_true, false_implies, true_implies, forall_const, st_aload, st_getfield, st_goto, st_iadd, st_iaload, st_iconst, st_if_icmp, st_iload, st_imul, st_istore, am_put, am_nlg, jx_Model_numberOf_93, kb_Model_numberOf_93, og_82_2, jx_Model_numberOf_127, kb_Model_numberOf_127, jx_Model_numberOf_146, kb_Model_numberOf_146, oa_82, oa_84, or_84, nk_neg (show 183 * s + 5 < 2147483648 by omega), nk_cl (show 183 * s + 5 < 2147483648 by omega), nk_neg (show 183 * s + 5 + 1 < 2147483648 by omega), nk_cl (show 183 * s + 5 + 1 < 2147483648 by omega), nk_neg (show 183 * s + 1 < 2147483648 by omega), nk_cl (show 183 * s + 1 < 2147483648 by omega), show 183 * s + 5 < 2698 by omega, show 183 * s + 5 + 1 < 2698 by omega, show 183 * s + 1 < 2698 by omega, f1, f2, ef, i1, g2]
            refine ifnb1 (fun q => ?_) (fun q => ?_)
            · rw [q] at K
              simp only [ax0, ex_cons, am_get, upz_at, true_and, and_true, Nat.reduceAdd, Nat.reduceLeDiff, Nat.reduceEqDiff, Nat.reduceSub, Int32.reduceOfInt, Int32.reduceAdd, Int32.reduceMul, Int32.reduceSub, ↓reduceIte, Int32.reduceLT, Int32.reduceLE, Int32.reduceToNatClampNeg, Nat.reduceMod, Nat.reduceLT, List.length_cons, List.length_nil, eq_self, true_or, or_true, and_self, implies_true, not_true_eq_false, not_false_eq_true, false_implies, true_implies, forall_const, st_goto, st_goto_w, st_iadd, st_iconst, st_iload, st_imul, st_ireturn, jx_Model_numberOf_169, kb_Model_numberOf_169, jx_Model_numberOf_172, kb_Model_numberOf_172, jx_Model_numberOf_192, kb_Model_numberOf_192, m1, m9, m0]
              exact K
            · rw [q] at K
              simp only [ax0, ex_cons, am_get, upz_at, true_and, and_true, Nat.reduceAdd, Nat.reduceLeDiff, Nat.reduceEqDiff, Nat.reduceSub, Int32.reduceOfInt, Int32.reduceAdd, Int32.reduceMul, Int32.reduceSub, ↓reduceIte, Int32.reduceLT, Int32.reduceLE, Int32.reduceToNatClampNeg, Nat.reduceMod, Nat.reduceLT, List.length_cons, List.length_nil, eq_self, true_or, or_true, and_self, implies_true, not_true_eq_false, not_false_eq_true, false_implies, true_implies, forall_const, st_goto, st_goto_w, st_iadd, st_iconst, st_iload, st_imul, st_ireturn, jx_Model_numberOf_169, kb_Model_numberOf_169, jx_Model_numberOf_172, kb_Model_numberOf_172, jx_Model_numberOf_192, kb_Model_numberOf_192, m1, m7, m8]
              exact K
          · have ef : nI R.1 = (4 : Int32) := congrArg nI e
            rw [if_neg (by omega), if_neg (by omega), if_neg (by omega)] at K
            simp only [ax0, ex_cons, am_get, upz_at, true_and, and_true, Nat.reduceAdd, Nat.reduceLeDiff, Nat.reduceEqDiff, Nat.reduceSub, Int32.reduceOfInt, Int32.reduceAdd, Int32.reduceMul, Int32.reduceSub, ↓reduceIte, Int32.reduceLT, Int32.reduceLE, Int32.reduceToNatClampNeg, Nat.reduceMod, Nat.reduceLT, List.length_cons, List.length_nil, eq_self, true_or, or_true, and_self, implies_true, not_true_eq_false, not_false_eq_true, false_implies, true_implies, forall_const, st_aload, st_getfield, st_goto, st_goto_w, st_iadd, st_iaload, st_iconst, st_if_icmp, st_iload, st_imul, st_ireturn, st_istore, am_put, am_nlg, jx_Model_numberOf_93, kb_Model_numberOf_93, og_82_2, jx_Model_numberOf_127, kb_Model_numberOf_127, jx_Model_numberOf_146, kb_Model_numberOf_146, jx_Model_numberOf_184, kb_Model_numberOf_184, jx_Model_numberOf_192, kb_Model_numberOf_192, oa_82, oa_84, or_84, nk_neg (show 183 * s + 5 < 2147483648 by omega), nk_cl (show 183 * s + 5 < 2147483648 by omega), nk_neg (show 183 * s + 5 + 1 < 2147483648 by omega), nk_cl (show 183 * s + 5 + 1 < 2147483648 by omega), show 183 * s + 5 < 2698 by omega, show 183 * s + 5 + 1 < 2698 by omega, f1, f2, ef, m2, m4]
            exact K
          · have ef : nI R.1 = (5 : Int32) := congrArg nI e
            rw [if_neg (by omega), if_neg (by omega), if_neg (by omega)] at K
            simp only [ax0, ex_cons, am_get, upz_at, true_and, and_true, Nat.reduceAdd, Nat.reduceLeDiff, Nat.reduceEqDiff, Nat.reduceSub, Int32.reduceOfInt, Int32.reduceAdd, Int32.reduceMul, Int32.reduceSub, ↓reduceIte, Int32.reduceLT, Int32.reduceLE, Int32.reduceToNatClampNeg, Nat.reduceMod, Nat.reduceLT, List.length_cons, List.length_nil, eq_self, true_or, or_true, and_self, implies_true, not_true_eq_false, not_false_eq_true, false_implies, true_implies, forall_const, st_aload, st_getfield, st_goto, st_goto_w, st_iadd, st_iaload, st_iconst, st_if_icmp, st_iload, st_imul, st_ireturn, st_istore, am_put, am_nlg, jx_Model_numberOf_93, kb_Model_numberOf_93, og_82_2, jx_Model_numberOf_127, kb_Model_numberOf_127, jx_Model_numberOf_146, kb_Model_numberOf_146, jx_Model_numberOf_184, kb_Model_numberOf_184, jx_Model_numberOf_192, kb_Model_numberOf_192, oa_82, oa_84, or_84, nk_neg (show 183 * s + 5 < 2147483648 by omega), nk_cl (show 183 * s + 5 < 2147483648 by omega), nk_neg (show 183 * s + 5 + 1 < 2147483648 by omega), nk_cl (show 183 * s + 5 + 1 < 2147483648 by omega), show 183 * s + 5 < 2698 by omega, show 183 * s + 5 + 1 < 2698 by omega, f1, f2, ef, m2, m4]
            exact K
          · omega
          · omega
        · rw [en, if_pos (Decidable.not_not.mp q)] at K
          simp only [ax0, ex_cons, am_get, upz_at, true_and, and_true, Nat.reduceAdd, Nat.reduceLeDiff, Nat.reduceEqDiff, Nat.reduceSub, Int32.reduceOfInt, Int32.reduceAdd, Int32.reduceMul, Int32.reduceSub, ↓reduceIte, Int32.reduceLT, Int32.reduceLE, Int32.reduceToNatClampNeg, Nat.reduceMod, Nat.reduceLT, List.length_cons, List.length_nil, eq_self, true_or, or_true, and_self, implies_true, not_true_eq_false, not_false_eq_true, false_implies, true_implies, forall_const, st_iconst, st_ireturn, jx_Model_numberOf_91, kb_Model_numberOf_91]
          exact K
      · have en : nuR R = none := by unfold nuR; rw [if_neg (fun z => hB z.2.2.1)]
        rw [en] at K
        obtain ⟨a, ea, ha⟩ := cdT_one w7 (by rw [← ec1]; exact hA)
        have c1 : rC1 R = [a] := by rw [ec1, ea]; rfl
        have f1 : F 84 (183 * s + 5) = nI a := by have := g6.l; rw [c1] at this; exact this.one
        rw [hA] at *
        have k1 : nI (183 * s + 5 + 1) - nI (183 * s + 5) = (1 : Int32) := nk_subk (183 * s + 5) 1
        have k2 : nI (183 * s + 5 + 1 + (rC2 R).length) - nI (183 * s + 5 + 1) = nI (rC2 R).length := nk_subk (183 * s + 5 + 1) _
        simp only [ax0, ex_cons, am_get, upz_at, true_and, and_true, Nat.reduceAdd, Nat.reduceLeDiff, Nat.reduceEqDiff, Nat.reduceSub, Int32.reduceOfInt, Int32.reduceAdd, Int32.reduceMul, Int32.reduceSub, ↓reduceIte, Int32.reduceLT, Int32.reduceLE, Int32.reduceToNatClampNeg, Nat.reduceMod, Nat.reduceLT, List.length_cons, List.length_nil, eq_self, true_or, or_true, and_self, implies_true, not_true_eq_false, not_false_eq_true, false_implies, true_implies, forall_const, st_aload, st_freturn, st_getfield, st_goto, st_goto_w, st_iaload, st_iconst, st_ifCond, st_if_icmp, st_iload, st_isub, cx_Model_isAlone, kb_Model_isAlone_0, og_82_2, jx_Model_isAlone_26, kb_Model_isAlone_26, jx_Model_isAlone_27, kb_Model_isAlone_27, oa_82, oa_84, or_84, k1, k2, nk_neg (show 183 * s + 5 < 2147483648 by omega), nk_cl (show 183 * s + 5 < 2147483648 by omega), nk_neg (show 183 * s < 2147483648 by omega), nk_cl (show 183 * s < 2147483648 by omega), show 183 * s + 5 < 2698 by omega, f1, show ((8 : Int32) ≤ nI (a)) = (8 ≤ a) from nk_le (a := 8) (b := a) (by omega) (by omega), show ¬ 8 ≤ a by omega]
        simp only [ax0, ex_cons, am_get, upz_at, true_and, and_true, Nat.reduceAdd, Nat.reduceLeDiff, Nat.reduceEqDiff, Nat.reduceSub, Int32.reduceOfInt, Int32.reduceAdd, Int32.reduceMul, Int32.reduceSub, ↓reduceIte, Int32.reduceLT, Int32.reduceLE, Int32.reduceToNatClampNeg, Nat.reduceMod, Nat.reduceLT, List.length_cons, List.length_nil, eq_self, true_or, or_true, and_self, implies_true, not_true_eq_false, not_false_eq_true, false_implies, true_implies, forall_const, st_aload, st_getfield, st_goto_w, st_iadd, st_iaload, st_iconst, st_ifCond, st_if_icmp, st_iload, st_imul, st_in4, st_istore, am_put, am_nlg, kb_Model_numberOf_0, og_82_2, oo_82, oa_82, oa_84, or_84]
        simp only [ax0, ex_cons, am_get, upz_at, true_and, and_true, Nat.reduceAdd, Nat.reduceLeDiff, Nat.reduceEqDiff, Nat.reduceSub, Int32.reduceOfInt, Int32.reduceAdd, Int32.reduceMul, Int32.reduceSub, ↓reduceIte, Int32.reduceLT, Int32.reduceLE, Int32.reduceToNatClampNeg, Nat.reduceMod, Nat.reduceLT, List.length_cons, List.length_nil, eq_self, true_or, or_true, and_self, implies_true, not_true_eq_false, not_false_eq_true, false_implies, true_implies, forall_const, st_aload, st_freturn, st_getfield, st_goto, st_goto_w, st_iaload, st_iconst, st_ifCond, st_if_icmp, st_iload, st_isub, cx_Model_isAlone, kb_Model_isAlone_0, og_82_2, jx_Model_isAlone_26, kb_Model_isAlone_26, jx_Model_isAlone_27, kb_Model_isAlone_27, oa_82, oa_84, or_84, k2, n2, hB]
        simp only [ax0, ex_cons, am_get, upz_at, true_and, and_true, Nat.reduceAdd, Nat.reduceLeDiff, Nat.reduceEqDiff, Nat.reduceSub, Int32.reduceOfInt, Int32.reduceAdd, Int32.reduceMul, Int32.reduceSub, ↓reduceIte, Int32.reduceLT, Int32.reduceLE, Int32.reduceToNatClampNeg, Nat.reduceMod, Nat.reduceLT, List.length_cons, List.length_nil, eq_self, true_or, or_true, and_self, implies_true, not_true_eq_false, not_false_eq_true, false_implies, true_implies, forall_const, st_aload, st_getfield, st_goto_w, st_iadd, st_iaload, st_iconst, st_ifCond, st_if_icmp, st_iload, st_imul, st_in4, st_ireturn, st_istore, am_put, am_nlg, kb_Model_numberOf_0, og_82_2, oo_82, jx_Model_numberOf_91, kb_Model_numberOf_91, oa_82, oa_84, or_84]
        exact K
    · have en : nuR R = none := by unfold nuR; rw [if_neg (fun z => hA z.2.1)]
      rw [en] at K
      have k1 : nI (183 * s + 5 + (rC1 R).length) - nI (183 * s + 5) = nI (rC1 R).length := nk_subk (183 * s + 5) _
      simp only [ax0, ex_cons, am_get, upz_at, true_and, and_true, Nat.reduceAdd, Nat.reduceLeDiff, Nat.reduceEqDiff, Nat.reduceSub, Int32.reduceOfInt, Int32.reduceAdd, Int32.reduceMul, Int32.reduceSub, ↓reduceIte, Int32.reduceLT, Int32.reduceLE, Int32.reduceToNatClampNeg, Nat.reduceMod, Nat.reduceLT, List.length_cons, List.length_nil, eq_self, true_or, or_true, and_self, implies_true, not_true_eq_false, not_false_eq_true, false_implies, true_implies, forall_const, st_aload, st_freturn, st_getfield, st_goto, st_goto_w, st_iaload, st_iconst, st_ifCond, st_if_icmp, st_iload, st_isub, cx_Model_isAlone, kb_Model_isAlone_0, og_82_2, jx_Model_isAlone_26, kb_Model_isAlone_26, jx_Model_isAlone_27, kb_Model_isAlone_27, oa_82, oa_84, or_84, k1, n1, hA]
      simp only [ax0, ex_cons, am_get, upz_at, true_and, and_true, Nat.reduceAdd, Nat.reduceLeDiff, Nat.reduceEqDiff, Nat.reduceSub, Int32.reduceOfInt, Int32.reduceAdd, Int32.reduceMul, Int32.reduceSub, ↓reduceIte, Int32.reduceLT, Int32.reduceLE, Int32.reduceToNatClampNeg, Nat.reduceMod, Nat.reduceLT, List.length_cons, List.length_nil, eq_self, true_or, or_true, and_self, implies_true, not_true_eq_false, not_false_eq_true, false_implies, true_implies, forall_const, st_aload, st_getfield, st_goto_w, st_iadd, st_iaload, st_iconst, st_ifCond, st_if_icmp, st_iload, st_imul, st_in4, st_ireturn, st_istore, am_put, am_nlg, kb_Model_numberOf_0, og_82_2, oo_82, jx_Model_numberOf_91, kb_Model_numberOf_91, oa_82, oa_84, or_84]
      exact K
set_option maxRecDepth 20000 in
theorem m_followsNumber {T : tT} (hT : MT F T) (hw : T.2.1.length ≤ 40) {ex : Bool} (he : F 84 2697 = b2i ex) {n : Nat} (hn : n < 256) (K : ∀ F', MT F' T → S13 F F' → ∀ f, Q (some (.int (b2i (fo T (clR (rS n)) ex)))) (ov h (upz F' 100 f) J V)) : am_cl (d + 5) 250 [.ref 82, .int (nI n)] (ov h F J V) Q := by
  simp only [ax0, ex_cons, am_get, upz_at, true_and, and_true, Nat.reduceAdd, Nat.reduceLeDiff, Nat.reduceEqDiff, Nat.reduceSub, Int32.reduceOfInt, Int32.reduceAdd, Int32.reduceMul, Int32.reduceSub, ↓reduceIte, Int32.reduceLT, Int32.reduceLE, Int32.reduceToNatClampNeg, Nat.reduceMod, Nat.reduceLT, List.length_cons, List.length_nil, eq_self, true_or, or_true, and_self, implies_true, not_true_eq_false, not_false_eq_true, false_implies, true_implies, forall_const, st_aload, st_freturn, st_iconst, st_iload, st_in1, st_in2, st_in3, cx_Model_followsNumber, kb_Model_followsNumber_0, oo_82, oa_82]
  refine m_simple hn (fun F1 h1 h2 => ?_)
  have hT1 : MT F1 T := by
    unfold MT at hT ⊢
    rw [h2.1 97 (by decide) (by decide), h2.1 82 (by decide) (by decide), h2.1 98 (by decide) (by decide), h2.1 99 (by decide) (by decide)]
    exact hT
  simp only [ax0, ex_cons, am_get, upz_at, true_and, and_true, Nat.reduceAdd, Nat.reduceLeDiff, Nat.reduceEqDiff, Nat.reduceSub, Int32.reduceOfInt, Int32.reduceAdd, Int32.reduceMul, Int32.reduceSub, ↓reduceIte, Int32.reduceLT, Int32.reduceLE, Int32.reduceToNatClampNeg, Nat.reduceMod, Nat.reduceLT, List.length_cons, List.length_nil, eq_self, true_or, or_true, and_self, implies_true, not_true_eq_false, not_false_eq_true, false_implies, true_implies, forall_const, st_aload, st_freturn, st_iconst, st_iload, st_in1, st_in2, st_in3, kb_Model_followsNumber_0, oo_82, oa_82]
  refine m_isTold (ex := ex) (by rw [h2.2 2697 (by omega)]; exact he) ?_
  simp only [ax0, ex_cons, am_get, upz_at, true_and, and_true, Nat.reduceAdd, Nat.reduceLeDiff, Nat.reduceEqDiff, Nat.reduceSub, Int32.reduceOfInt, Int32.reduceAdd, Int32.reduceMul, Int32.reduceSub, ↓reduceIte, Int32.reduceLT, Int32.reduceLE, Int32.reduceToNatClampNeg, Nat.reduceMod, Nat.reduceLT, List.length_cons, List.length_nil, eq_self, true_or, or_true, and_self, implies_true, not_true_eq_false, not_false_eq_true, false_implies, true_implies, forall_const, st_aload, st_freturn, st_iconst, st_iload, st_in1, st_in2, st_in3, kb_Model_followsNumber_0, oo_82, oa_82]
  refine m_followsOf (s := 13) hT1 hw (by decide) h1 (fun f => ?_)
  simp only [ax0, ex_cons, am_get, upz_at, true_and, and_true, Nat.reduceAdd, Nat.reduceLeDiff, Nat.reduceEqDiff, Nat.reduceSub, Int32.reduceOfInt, Int32.reduceAdd, Int32.reduceMul, Int32.reduceSub, ↓reduceIte, Int32.reduceLT, Int32.reduceLE, Int32.reduceToNatClampNeg, Nat.reduceMod, Nat.reduceLT, List.length_cons, List.length_nil, eq_self, true_or, or_true, and_self, implies_true, not_true_eq_false, not_false_eq_true, false_implies, true_implies, forall_const, st_aload, st_freturn, st_iconst, st_iload, st_in1, st_in2, st_in3, kb_Model_followsNumber_0, oo_82, oa_82, b2i_01]
  exact K F1 hT1 h2 f
end MNU
