/-! ===== the model: what is told, quarrels ===== -/
def sh8 (row bar bes : Nat → Int32) : Bool := (List.range 8).all (fun k => decide (row k &&& (bar k ^^^ -1) &&& (bes k ^^^ -1) = 0))
section MT
variable {d : Nat} {h : am_H} {F : Nat → Nat → Int32} {J : Nat → Nat → Int64} {V : Nat → Nat → Value} {Q : am_Q}
set_option maxRecDepth 10000 in
theorem m_isShut98 {a : Nat} (ha : a + 8 ≤ 320) (K : Q (some (.int (b2i (sh8 (fun k => F 98 (a + k)) (F 97) (F 100))))) (ov h F J V)) : am_cl (d + 1) 233 [.ref 82, .ref 98, .int (nI a)] (ov h F J V) Q := by
  simp only [ax0, am_ex, am_get, ax1, upz_at, true_and, and_true, Nat.reduceAdd, Nat.reduceLeDiff, Nat.reduceEqDiff, Nat.reduceSub, Int32.reduceOfInt, ↓reduceIte, Int32.reduceLT, Int32.reduceLE, Int32.reduceToNatClampNeg, Nat.reduceMod, Nat.reduceLT, List.length_cons, List.length_nil, eq_self, true_or, or_true, and_self, implies_true, not_true_eq_false, not_false_eq_true, false_implies, true_implies, forall_const, st_freturn, st_goto, st_goto_w, st_iconst, st_iinc, st_istore, am_put, am_nlg, cx_Model_isShut, kb_Model_isShut_0, jx_Model_isShut_36, kb_Model_isShut_36, jx_Model_isShut_42, kb_Model_isShut_42]
  refine am_iter 8 (fun k => [.ref 82, .ref 98, .int (nI a), .int (nI k)]) (fun _ => ov h F J V) (fun k => ∀ i, i < k → F 98 (a + i) &&& (F 97 i ^^^ -1) &&& (F 100 i ^^^ -1) = 0) (fun k hk hI go => ?_) (fun hI => ?_) 0 (by decide) (fun i hi => by omega)
  · rw [jx_Model_isShut_2]
    simp only [ax0, am_ex, am_get, ax1, upz_at, true_and, and_true, Nat.reduceAdd, Nat.reduceLeDiff, Nat.reduceEqDiff, Nat.reduceSub, Int32.reduceOfInt, ↓reduceIte, Int32.reduceLT, Int32.reduceLE, Int32.reduceToNatClampNeg, Nat.reduceMod, Nat.reduceLT, List.length_cons, List.length_nil, eq_self, true_or, or_true, and_self, implies_true, not_true_eq_false, not_false_eq_true, false_implies, true_implies, forall_const, st_aload, st_freturn, st_getfield, st_goto, st_iadd, st_iaload, st_iand, st_iconst, st_ifCond, st_if_icmp, st_iinc, st_iload, st_ixor, am_put, am_nlg, kb_Model_isShut_2, og_82_28, og_82_32, jx_Model_isShut_36, kb_Model_isShut_36, jx_Model_isShut_42, kb_Model_isShut_42, oa_82, oa_97, or_97, oa_100, or_100, oa_98, or_98, nk_add, nk_succ, nk_neg (show a + k < 2147483648 by omega), nk_neg (show k < 2147483648 by omega), nk_cl (show a + k < 2147483648 by omega), nk_cl (show k < 2147483648 by omega), (nk_le (by decide) (by omega) : ((8 : Int32) ≤ nI k) = (8 ≤ k)), show ¬ 8 ≤ k by omega, hk, show a + k < 320 by omega]
    refine ⟨fun hc => go (fun i hi => ?_), fun hc => ?_⟩
    · by_cases e : i = k
      · subst e; exact hc
      · exact hI i (by omega)
    · have e : sh8 (fun k => F 98 (a + k)) (F 97) (F 100) = false := by
        rw [Bool.eq_false_iff]
        intro q
        have := rg_all.mp q k hk
        simp only [decide_eq_true_eq] at this
        exact hc this
      rw [e] at K
      exact K
  · rw [jx_Model_isShut_2]
    simp only [ax0, am_ex, am_get, ax1, upz_at, true_and, and_true, Nat.reduceAdd, Nat.reduceLeDiff, Nat.reduceEqDiff, Nat.reduceSub, Int32.reduceOfInt, ↓reduceIte, Int32.reduceLT, Int32.reduceLE, Int32.reduceToNatClampNeg, Nat.reduceMod, Nat.reduceLT, List.length_cons, List.length_nil, eq_self, true_or, or_true, and_self, implies_true, not_true_eq_false, not_false_eq_true, false_implies, true_implies, forall_const, st_aload, st_freturn, st_getfield, st_goto, st_iadd, st_iaload, st_iand, st_iconst, st_ifCond, st_if_icmp, st_iinc, st_iload, st_ixor, am_put, am_nlg, kb_Model_isShut_2, og_82_28, og_82_32, jx_Model_isShut_36, kb_Model_isShut_36, jx_Model_isShut_42, kb_Model_isShut_42, oa_82, oa_97, or_97, oa_100, or_100, (nk_le (by decide) (by decide) : ((8 : Int32) ≤ nI 8) = (8 ≤ 8))]
    have e : sh8 (fun k => F 98 (a + k)) (F 97) (F 100) = true := rg_all.mpr (fun i hi => by simp only [decide_eq_true_eq]; exact hI i hi)
    rw [e] at K
    exact K
end MT
