/-! ===== the model: by ===== -/
section MDB
variable {d : Nat} {h : am_H} {F : Nat → Nat → Int32} {J : Nat → Nat → Int64} {V : Nat → Nat → Value} {Q : am_Q}
set_option maxRecDepth 20000 in
theorem m_byB {ex : Bool} {r : Nat → Int32} {x y z w : Int32} {n a : Nat} {v7 : Nat} (hn : n < 256) (ha : a < 256) (na : isNu a = true) (ht : ∀ k, k < 64 → F 106 k = tbV ex k) (hv : nuV (F 105)) (hr : F 105 = r)
    (K1 : ∀ b, byB ex r n a 256 0 = some b → Q (some (.int (if w = 0 then nI a else nI b))) (ov h F J V)) (K2 : byB ex r n a 256 0 = none → am_W kc_Model_by (am_cl (d + 7)) Q 155 [.ref 82, .int x, .int y, .int z, .int w, .int (nI n), .int (nI a), .int (nI 256)] [] (ov h F J V)) :
    am_W kc_Model_by (am_cl (d + 7)) Q 92 [.ref 82, .int x, .int y, .int z, .int w, .int (nI n), .int (nI a), .int (nI 0)] [] (ov h F J V) := by
  have key : ∀ j b, b + j = 256 → byB ex r n a 256 0 = byB ex r n a j b → am_W kc_Model_by (am_cl (d + 7)) Q 92 [.ref 82, .int x, .int y, .int z, .int w, .int (nI n), .int (nI a), .int (nI b)] [] (ov h F J V) := by
    intro j
    induction j with
    | zero =>
      intro b eb e
      have eb : b = 256 := eb
      subst eb
      rw [jx_Model_by_92]
      simp only [ax0, ex_cons, am_get, upz_at, true_and, and_true, Nat.reduceAdd, Nat.reduceLeDiff, Nat.reduceEqDiff, Nat.reduceSub, Int32.reduceOfInt, Int32.reduceAdd, Int32.reduceMul, Int32.reduceSub, ↓reduceIte, Int32.reduceLT, Int32.reduceLE, Int32.reduceToNatClampNeg, Nat.reduceMod, Nat.reduceLT, List.length_cons, List.length_nil, eq_self, true_or, or_true, and_self, implies_true, not_true_eq_false, not_false_eq_true, false_implies, true_implies, forall_const, st_aload, st_getfield, st_goto, st_iaload, st_iconst, st_ifCond, st_if_icmp, st_iload, st_in3, st_st3, st_isub, kb_Model_by_92, og_82_40, oo_82, oa_82, oa_105, or_105, show ((256 : Int32) ≤ nI (256)) = (256 ≤ 256) from nk_le (a := 256) (b := 256) (by omega) (by omega)]
      exact K2 e
    | succ j ih =>
      intro b eb e
      unfold byB at e
      rw [jx_Model_by_92]
      simp only [ax0, ex_cons, am_get, upz_at, true_and, and_true, Nat.reduceAdd, Nat.reduceLeDiff, Nat.reduceEqDiff, Nat.reduceSub, Int32.reduceOfInt, Int32.reduceAdd, Int32.reduceMul, Int32.reduceSub, ↓reduceIte, Int32.reduceLT, Int32.reduceLE, Int32.reduceToNatClampNeg, Nat.reduceMod, Nat.reduceLT, List.length_cons, List.length_nil, eq_self, true_or, or_true, and_self, implies_true, not_true_eq_false, not_false_eq_true, false_implies, true_implies, forall_const, st_aload, st_getfield, st_goto, st_iaload, st_iconst, st_ifCond, st_if_icmp, st_iload, st_in3, st_st3, st_isub, kb_Model_by_92, og_82_40, oo_82, oa_82, oa_105, or_105, show ((256 : Int32) ≤ nI (b)) = (256 ≤ b) from nk_le (a := 256) (b := b) (by omega) (by omega), show ¬ 256 ≤ b by omega, nk_neg (show b < 2147483648 by omega), nk_cl (show b < 2147483648 by omega), nk_neg (show n < 2147483648 by omega), nk_cl (show n < 2147483648 by omega), show b < 256 by omega, hn, hr]
      refine m_lies ?_
      simp only [ax0, ex_cons, am_get, upz_at, true_and, and_true, Nat.reduceAdd, Nat.reduceLeDiff, Nat.reduceEqDiff, Nat.reduceSub, Int32.reduceOfInt, Int32.reduceAdd, Int32.reduceMul, Int32.reduceSub, ↓reduceIte, Int32.reduceLT, Int32.reduceLE, Int32.reduceToNatClampNeg, Nat.reduceMod, Nat.reduceLT, List.length_cons, List.length_nil, eq_self, true_or, or_true, and_self, implies_true, not_true_eq_false, not_false_eq_true, false_implies, true_implies, forall_const, st_aload, st_getfield, st_goto, st_iaload, st_iconst, st_ifCond, st_if_icmp, st_iinc, st_iload, st_in3, st_st3, st_isub, am_put, am_nlg, kb_Model_by_92, og_82_40, oo_82, jx_Model_by_149, kb_Model_by_149, oa_82, oa_105, or_105, nk_succ]
      refine ifb (fun q => ?_) (fun q => ?_)
      · rw [q, Bool.false_and, if_neg Bool.false_ne_true] at e
        exact ih (b + 1) (by omega) e
      · refine m_concluded ht ha (by omega) na (hv b (by omega) (by rw [hr]; exact lie0 q)) ?_
        simp only [ax0, ex_cons, am_get, upz_at, true_and, and_true, Nat.reduceAdd, Nat.reduceLeDiff, Nat.reduceEqDiff, Nat.reduceSub, Int32.reduceOfInt, Int32.reduceAdd, Int32.reduceMul, Int32.reduceSub, ↓reduceIte, Int32.reduceLT, Int32.reduceLE, Int32.reduceToNatClampNeg, Nat.reduceMod, Nat.reduceLT, List.length_cons, List.length_nil, eq_self, true_or, or_true, and_self, implies_true, not_true_eq_false, not_false_eq_true, false_implies, true_implies, forall_const, st_aload, st_getfield, st_goto, st_goto_w, st_iaload, st_iconst, st_ifCond, st_if_icmp, st_iinc, st_iload, st_in3, st_st3, st_ireturn, st_isub, am_put, am_nlg, kb_Model_by_92, og_82_40, oo_82, jx_Model_by_146, kb_Model_by_146, jx_Model_by_148, kb_Model_by_148, jx_Model_by_149, kb_Model_by_149, oa_82, oa_105, or_105, nk_succ]
        refine And.intro (fun q2 => ?_) (fun q2 => ?_)
        · rw [decide_eq_false q2, Bool.and_false, if_neg Bool.false_ne_true] at e
          exact ih (b + 1) (by omega) e
        · rw [q, decide_eq_true (Classical.not_not.mp q2), Bool.and_true, if_pos rfl] at e
          have K1 := K1 b e
          refine And.intro (fun q3 => ?_) (fun q3 => ?_)
          · rw [if_neg q3] at K1; exact K1
          · rw [if_pos (Classical.not_not.mp q3)] at K1; exact K1
  exact key 256 0 rfl rfl
set_option maxRecDepth 20000 in
theorem mp_by {D : dT} (hD : MK (F 84) D) {x y z w : Int32} (K : ∀ F', Pm F F' → Q (some (.int (aBy D x y z w))) (ov h F' J V)) : am_cl (d + 8) 277 [.ref 82, .int x, .int y, .int z, .int w] (ov h F J V) Q := by
  simp only [ax0, ex_cons, am_get, upz_at, true_and, and_true, Nat.reduceAdd, Nat.reduceLeDiff, Nat.reduceEqDiff, Nat.reduceSub, Int32.reduceOfInt, Int32.reduceAdd, Int32.reduceMul, Int32.reduceSub, ↓reduceIte, Int32.reduceLT, Int32.reduceLE, Int32.reduceToNatClampNeg, Nat.reduceMod, Nat.reduceLT, List.length_cons, List.length_nil, eq_self, true_or, or_true, and_self, implies_true, not_true_eq_false, not_false_eq_true, false_implies, true_implies, forall_const, st_goto_w, st_iconst, st_ifCond, st_iload, st_st3, kb_Model_by_0, cx_Model_by]
  refine m_isSimple ?_
  unfold aBy at K
  simp only [ax0, ex_cons, am_get, upz_at, true_and, and_true, Nat.reduceAdd, Nat.reduceLeDiff, Nat.reduceEqDiff, Nat.reduceSub, Int32.reduceOfInt, Int32.reduceAdd, Int32.reduceMul, Int32.reduceSub, ↓reduceIte, Int32.reduceLT, Int32.reduceLE, Int32.reduceToNatClampNeg, Nat.reduceMod, Nat.reduceLT, List.length_cons, List.length_nil, eq_self, true_or, or_true, and_self, implies_true, not_true_eq_false, not_false_eq_true, false_implies, true_implies, forall_const, st_goto_w, st_iconst, st_ifCond, st_iload, st_st3, st_ireturn, kb_Model_by_0, jx_Model_by_19, kb_Model_by_19]
  refine ifb (fun e => ?_) (fun e => ?_)
  · rw [e, Bool.false_and, if_neg Bool.false_ne_true] at K
    exact K F Pm.rf
  rw [e, Bool.true_and] at K
  refine m_lies ?_
  simp only [ax0, ex_cons, am_get, upz_at, true_and, and_true, Nat.reduceAdd, Nat.reduceLeDiff, Nat.reduceEqDiff, Nat.reduceSub, Int32.reduceOfInt, Int32.reduceAdd, Int32.reduceMul, Int32.reduceSub, ↓reduceIte, Int32.reduceLT, Int32.reduceLE, Int32.reduceToNatClampNeg, Nat.reduceMod, Nat.reduceLT, List.length_cons, List.length_nil, eq_self, true_or, or_true, and_self, implies_true, not_true_eq_false, not_false_eq_true, false_implies, true_implies, forall_const, st_goto_w, st_iconst, st_ifCond, st_iload, st_st3, st_ireturn, kb_Model_by_0, jx_Model_by_19, kb_Model_by_19]
  refine ifnb (fun e1 => ?_) (fun e1 => ?_)
  · rw [e1, if_pos rfl] at K
    obtain ⟨a, b, c, e1, e2, e3, h1, h2, h3, e4⟩ := siB_nI e
    rw [e4] at K
    subst e1; subst e2; subst e3
    simp only [ax0, ex_cons, am_get, upz_at, true_and, and_true, Nat.reduceAdd, Nat.reduceLeDiff, Nat.reduceEqDiff, Nat.reduceSub, Int32.reduceOfInt, Int32.reduceAdd, Int32.reduceMul, Int32.reduceSub, ↓reduceIte, Int32.reduceLT, Int32.reduceLE, Int32.reduceToNatClampNeg, Nat.reduceMod, Nat.reduceLT, List.length_cons, List.length_nil, eq_self, true_or, or_true, and_self, implies_true, not_true_eq_false, not_false_eq_true, false_implies, true_implies, forall_const, st_aload, st_getfield, st_iadd, st_iaload, st_iconst, st_if_icmp, st_iload, st_imul, st_in1, st_ireturn, st_istore, st_pop, am_put, am_nlg, jx_Model_by_21, kb_Model_by_21, oo_82, og_82_40, oa_82, oa_105, or_105]
    refine m_derives hD (fun F1 p1 t1 n1 r1 => ?_)
    have K := K F1 p1
    simp only [ax0, ex_cons, am_get, upz_at, true_and, and_true, Nat.reduceAdd, Nat.reduceLeDiff, Nat.reduceEqDiff, Nat.reduceSub, Int32.reduceOfInt, Int32.reduceAdd, Int32.reduceMul, Int32.reduceSub, ↓reduceIte, Int32.reduceLT, Int32.reduceLE, Int32.reduceToNatClampNeg, Nat.reduceMod, Nat.reduceLT, List.length_cons, List.length_nil, eq_self, true_or, or_true, and_self, implies_true, not_true_eq_false, not_false_eq_true, false_implies, true_implies, forall_const, st_aload, st_getfield, st_iadd, st_iaload, st_iconst, st_if_icmp, st_iload, st_imul, st_in1, st_ireturn, st_istore, st_pop, am_put, am_nlg, jx_Model_by_21, kb_Model_by_21, oo_82, og_82_40, oa_82, oa_105, or_105, show (64 : Int32) * nI (a) = nI (64 * (a)) from nk_mul (64) (a), show (8 : Int32) * nI (b) = nI (8 * (b)) from nk_mul (8) (b), nk_add]
    generalize hN : 64 * a + 8 * b + c = n at K ⊢
    have hn : n < 256 := by omega
    simp only [ax0, ex_cons, am_get, upz_at, true_and, and_true, Nat.reduceAdd, Nat.reduceLeDiff, Nat.reduceEqDiff, Nat.reduceSub, Int32.reduceOfInt, Int32.reduceAdd, Int32.reduceMul, Int32.reduceSub, ↓reduceIte, Int32.reduceLT, Int32.reduceLE, Int32.reduceToNatClampNeg, Nat.reduceMod, Nat.reduceLT, List.length_cons, List.length_nil, eq_self, true_or, or_true, and_self, implies_true, not_true_eq_false, not_false_eq_true, false_implies, true_implies, forall_const, st_aload, st_getfield, st_iadd, st_iaload, st_iconst, st_if_icmp, st_iload, st_imul, st_in1, st_ireturn, st_istore, st_pop, am_put, am_nlg, jx_Model_by_21, kb_Model_by_21, oo_82, og_82_40, oa_82, oa_105, or_105, nk_neg (show n < 2147483648 by omega), nk_cl (show n < 2147483648 by omega), hn, r1]
    refine And.intro (fun q => ?_) (fun q => ?_)
    · rw [if_neg (Int32.not_lt.mpr q)] at K
      simp only [ax0, ex_cons, am_get, upz_at, true_and, and_true, Nat.reduceAdd, Nat.reduceLeDiff, Nat.reduceEqDiff, Nat.reduceSub, Int32.reduceOfInt, Int32.reduceAdd, Int32.reduceMul, Int32.reduceSub, ↓reduceIte, Int32.reduceLT, Int32.reduceLE, Int32.reduceToNatClampNeg, Nat.reduceMod, Nat.reduceLT, List.length_cons, List.length_nil, eq_self, true_or, or_true, and_self, implies_true, not_true_eq_false, not_false_eq_true, false_implies, true_implies, forall_const, st_goto_w, st_iconst, st_istore, am_put, am_nlg, jx_Model_by_52, kb_Model_by_52]
      generalize ho : byA D.2.2.2 (rdD D).1 n 256 0 = o at K
      have key : ∀ j a' v7, a' + j = 256 → o = byA D.2.2.2 (rdD D).1 n j a' → am_W kc_Model_by (am_cl (d + 7)) Q 55 [.ref 82, .int (nI a), .int (nI b), .int (nI c), .int w, .int (nI n), .int (nI a'), v7] [] (ov h F1 J V) := by
        intro j
        induction j with
        | zero =>
          intro a' v7 ea e
          have ea : a' = 256 := ea
          subst ea
          rw [jx_Model_by_55]
          simp only [ax0, ex_cons, am_get, upz_at, true_and, and_true, Nat.reduceAdd, Nat.reduceLeDiff, Nat.reduceEqDiff, Nat.reduceSub, Int32.reduceOfInt, Int32.reduceAdd, Int32.reduceMul, Int32.reduceSub, ↓reduceIte, Int32.reduceLT, Int32.reduceLE, Int32.reduceToNatClampNeg, Nat.reduceMod, Nat.reduceLT, List.length_cons, List.length_nil, eq_self, true_or, or_true, and_self, implies_true, not_true_eq_false, not_false_eq_true, false_implies, true_implies, forall_const, st_aload, st_getfield, st_goto, st_iaload, st_iconst, st_ifCond, st_if_icmp, st_iload, st_st3, st_ireturn, st_isub, kb_Model_by_55, og_82_40, jx_Model_by_161, kb_Model_by_161, oa_82, oa_105, or_105, show ((256 : Int32) ≤ nI (256)) = (256 ≤ 256) from nk_le (a := 256) (b := 256) (by omega) (by omega)]
          rw [e] at K
          exact K
        | succ j ih =>
          intro a' v7 ea e
          unfold byA at e
          rw [jx_Model_by_55]
          simp only [ax0, ex_cons, am_get, upz_at, true_and, and_true, Nat.reduceAdd, Nat.reduceLeDiff, Nat.reduceEqDiff, Nat.reduceSub, Int32.reduceOfInt, Int32.reduceAdd, Int32.reduceMul, Int32.reduceSub, ↓reduceIte, Int32.reduceLT, Int32.reduceLE, Int32.reduceToNatClampNeg, Nat.reduceMod, Nat.reduceLT, List.length_cons, List.length_nil, eq_self, true_or, or_true, and_self, implies_true, not_true_eq_false, not_false_eq_true, false_implies, true_implies, forall_const, st_aload, st_getfield, st_goto, st_iaload, st_iconst, st_ifCond, st_if_icmp, st_iload, st_st3, st_isub, kb_Model_by_55, og_82_40, oa_82, oa_105, or_105, show ((256 : Int32) ≤ nI (a')) = (256 ≤ a') from nk_le (a := 256) (b := a') (by omega) (by omega), show ¬ 256 ≤ a' by omega, nk_neg (show a' < 2147483648 by omega), nk_cl (show a' < 2147483648 by omega), nk_neg (show n < 2147483648 by omega), nk_cl (show n < 2147483648 by omega), show a' < 256 by omega, hn, r1]
          refine m_lies ?_
          simp only [ax0, ex_cons, am_get, upz_at, true_and, and_true, Nat.reduceAdd, Nat.reduceLeDiff, Nat.reduceEqDiff, Nat.reduceSub, Int32.reduceOfInt, Int32.reduceAdd, Int32.reduceMul, Int32.reduceSub, ↓reduceIte, Int32.reduceLT, Int32.reduceLE, Int32.reduceToNatClampNeg, Nat.reduceMod, Nat.reduceLT, List.length_cons, List.length_nil, eq_self, true_or, or_true, and_self, implies_true, not_true_eq_false, not_false_eq_true, false_implies, true_implies, forall_const, st_aload, st_getfield, st_goto, st_goto_w, st_iaload, st_iconst, st_ifCond, st_if_icmp, st_iinc, st_iload, st_st3, st_istore, st_isub, am_put, am_nlg, kb_Model_by_55, og_82_40, jx_Model_by_89, kb_Model_by_89, jx_Model_by_155, kb_Model_by_155, oa_82, oa_105, or_105, nk_succ]
          refine ifnb (fun q2 => ?_) (fun q2 => ?_)
          · rw [q2, if_pos rfl] at e
            refine m_byB (v7 := 0) hn (by omega) (n1 a' (by omega) (by rw [r1]; exact lie0 q2)) t1 n1 r1 (fun b' eb => ?_) (fun eb => ?_)
            · rw [eb] at e
              rw [e] at K
              exact K
            · rw [eb] at e
              simp only [ax0, ex_cons, am_get, upz_at, true_and, and_true, Nat.reduceAdd, Nat.reduceLeDiff, Nat.reduceEqDiff, Nat.reduceSub, Int32.reduceOfInt, Int32.reduceAdd, Int32.reduceMul, Int32.reduceSub, ↓reduceIte, Int32.reduceLT, Int32.reduceLE, Int32.reduceToNatClampNeg, Nat.reduceMod, Nat.reduceLT, List.length_cons, List.length_nil, eq_self, true_or, or_true, and_self, implies_true, not_true_eq_false, not_false_eq_true, false_implies, true_implies, forall_const, st_goto, st_iinc, am_put, am_nlg, jx_Model_by_155, kb_Model_by_155, nk_succ]
              exact ih (a' + 1) _ (by omega) e
          · rw [q2, if_neg Bool.false_ne_true] at e
            exact ih (a' + 1) v7 (by omega) e
      exact key 256 0 _ rfl ho.symm
    · rw [if_pos (Int32.not_le.mp q)] at K
      exact K
  · rw [e1, if_neg Bool.false_ne_true] at K
    exact K F Pm.rf
end MDB
