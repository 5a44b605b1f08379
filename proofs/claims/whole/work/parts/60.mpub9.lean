/-! ===== the model: quarrel, hint ===== -/
theorem lqF_f {D : dT} {hp : Nat} : ∀ {j k : Nat}, lqF D hp k = false → lqF D hp (k + j) = false
  | 0, _, h => h
  | j + 1, k, h => by
    show (lqF D hp (k + j) && _) = false
    rw [lqF_f h, Bool.false_and]
section MPJ
variable {d : Nat} {h : am_H} {F : Nat → Nat → Int32} {J : Nat → Nat → Int64} {V : Nat → Nat → Value} {Q : am_Q}
set_option maxRecDepth 20000 in
theorem mp_quarrel {D : dT} (hD : MK (F 84) D) {x : Int32} (K : ∀ F', Pm F F' → Q (some (.int (aQuarrel D x))) (ov h F' J V)) : am_cl (d + 5) 245 [.ref 82, .int x] (ov h F J V) Q := by
  have hn := hD.2.1
  have h12 : 2 ^ D.1 ≤ 4096 := (Nat.pow_le_pow_right (by decide) hn : 2 ^ D.1 ≤ 2 ^ 12)
  have h0 : 0 < 2 ^ D.1 := Nat.pow_pos (by decide)
  simp only [ax0, ex_cons, am_get, upz_at, true_and, and_true, Nat.reduceAdd, Nat.reduceLeDiff, Nat.reduceEqDiff, Nat.reduceSub, Int32.reduceOfInt, Int32.reduceAdd, Int32.reduceMul, Int32.reduceSub, ↓reduceIte, Int32.reduceLT, Int32.reduceLE, Int32.reduceToNatClampNeg, Nat.reduceMod, Nat.reduceLT, List.length_cons, List.length_nil, eq_self, true_or, or_true, and_self, implies_true, not_true_eq_false, not_false_eq_true, false_implies, true_implies, forall_const, st_iconst, st_if_icmp, st_iload, st_ireturn, kb_Model_quarrel_0, cx_Model_quarrel]
  unfold aQuarrel at K
  refine ⟨fun hx => ?_, fun hx => ?_⟩
  · rw [if_neg (Int32.not_lt.mpr hx)] at K
    simp only [ax0, ex_cons, am_get, upz_at, true_and, and_true, Nat.reduceAdd, Nat.reduceLeDiff, Nat.reduceEqDiff, Nat.reduceSub, Int32.reduceOfInt, Int32.reduceAdd, Int32.reduceMul, Int32.reduceSub, ↓reduceIte, Int32.reduceLT, Int32.reduceLE, Int32.reduceToNatClampNeg, Nat.reduceMod, Nat.reduceLT, List.length_cons, List.length_nil, eq_self, true_or, or_true, and_self, implies_true, not_true_eq_false, not_false_eq_true, false_implies, true_implies, forall_const, st_goto_w, st_iconst, st_istore, am_put, am_nlg, jx_Model_quarrel_7, kb_Model_quarrel_7]
    have key : ∀ j k F1, 0 < k → k + j = 2 ^ D.1 → MK (F1 84) D → St F F1 → (∀ F', Pm F F' → Q (some (.int (qrF D x j k))) (ov h F' J V)) → ∀ v4 v5 : Value, am_W kc_Model_quarrel (am_cl (d + 4)) Q 11 [.ref 82, .int x, .int (nI (cq D k)), .int (nI k), v4, v5] [] (ov h F1 J V) := by
      intro j
      induction j with
      | zero =>
        intro k F1 hk0 ek g1 g2 K2 v4 v5
        have ek : k = 2 ^ D.1 := ek
        have K1 := K2 F1 g2.pm
        rw [jx_Model_quarrel_11]
        simp only [ax0, ex_cons, am_get, upz_at, true_and, and_true, Nat.reduceAdd, Nat.reduceLeDiff, Nat.reduceEqDiff, Nat.reduceSub, Int32.reduceOfInt, Int32.reduceAdd, Int32.reduceMul, Int32.reduceSub, ↓reduceIte, Int32.reduceLT, Int32.reduceLE, Int32.reduceToNatClampNeg, Nat.reduceMod, Nat.reduceLT, List.length_cons, List.length_nil, eq_self, true_or, or_true, and_self, implies_true, not_true_eq_false, not_false_eq_true, false_implies, true_implies, forall_const, st_aload, st_getfield, st_goto_w, st_iaload, st_iconst, st_if_icmp, st_iload, st_in1, st_in2, st_ireturn, st_ishl, st_istore, am_put, am_nlg, kb_Model_quarrel_11, oo_82, cx_Model_slips, kb_Model_slips_0, og_82_2, oa_82, oa_84, or_84, g1.1, nk_1shl (show D.1 < 32 by omega), (nk_le (by omega) (by omega) : (nI (2 ^ D.1) ≤ nI (k)) = (2 ^ D.1 ≤ k)), show 2 ^ D.1 ≤ k by omega]
        unfold qrF at K1
        simp only [ax0, ex_cons, am_get, upz_at, true_and, and_true, Nat.reduceAdd, Nat.reduceLeDiff, Nat.reduceEqDiff, Nat.reduceSub, Int32.reduceOfInt, Int32.reduceAdd, Int32.reduceMul, Int32.reduceSub, ↓reduceIte, Int32.reduceLT, Int32.reduceLE, Int32.reduceToNatClampNeg, Nat.reduceMod, Nat.reduceLT, List.length_cons, List.length_nil, eq_self, true_or, or_true, and_self, implies_true, not_true_eq_false, not_false_eq_true, false_implies, true_implies, forall_const, st_goto, st_iconst, st_if_icmp, st_iload, jx_Model_quarrel_106, kb_Model_quarrel_106]
        refine ⟨fun q => ?_, fun q => ?_⟩
        · rw [if_neg q] at K1
          simp only [ax0, ex_cons, am_get, upz_at, true_and, and_true, Nat.reduceAdd, Nat.reduceLeDiff, Nat.reduceEqDiff, Nat.reduceSub, Int32.reduceOfInt, Int32.reduceAdd, Int32.reduceMul, Int32.reduceSub, ↓reduceIte, Int32.reduceLT, Int32.reduceLE, Int32.reduceToNatClampNeg, Nat.reduceMod, Nat.reduceLT, List.length_cons, List.length_nil, eq_self, true_or, or_true, and_self, implies_true, not_true_eq_false, not_false_eq_true, false_implies, true_implies, forall_const, st_goto_w, st_iconst, st_ireturn, jx_Model_quarrel_115, kb_Model_quarrel_115, jx_Model_quarrel_116, kb_Model_quarrel_116]
          exact K1
        · rw [if_pos (Decidable.not_not.mp q)] at K1
          simp only [ax0, ex_cons, am_get, upz_at, true_and, and_true, Nat.reduceAdd, Nat.reduceLeDiff, Nat.reduceEqDiff, Nat.reduceSub, Int32.reduceOfInt, Int32.reduceAdd, Int32.reduceMul, Int32.reduceSub, ↓reduceIte, Int32.reduceLT, Int32.reduceLE, Int32.reduceToNatClampNeg, Nat.reduceMod, Nat.reduceLT, List.length_cons, List.length_nil, eq_self, true_or, or_true, and_self, implies_true, not_true_eq_false, not_false_eq_true, false_implies, true_implies, forall_const, st_ireturn, jx_Model_quarrel_116, kb_Model_quarrel_116]
          exact K1
      | succ j ih =>
        intro k F1 hk0 ek g1 g2 K2 v4 v5
        have hk : k < 2 ^ D.1 := by omega
        rw [jx_Model_quarrel_11]
        simp only [ax0, ex_cons, am_get, upz_at, true_and, and_true, Nat.reduceAdd, Nat.reduceLeDiff, Nat.reduceEqDiff, Nat.reduceSub, Int32.reduceOfInt, Int32.reduceAdd, Int32.reduceMul, Int32.reduceSub, ↓reduceIte, Int32.reduceLT, Int32.reduceLE, Int32.reduceToNatClampNeg, Nat.reduceMod, Nat.reduceLT, List.length_cons, List.length_nil, eq_self, true_or, or_true, and_self, implies_true, not_true_eq_false, not_false_eq_true, false_implies, true_implies, forall_const, st_aload, st_getfield, st_goto_w, st_iaload, st_iconst, st_if_icmp, st_iload, st_in1, st_in2, st_ireturn, st_ishl, st_istore, am_put, am_nlg, kb_Model_quarrel_11, oo_82, cx_Model_slips, kb_Model_slips_0, og_82_2, oa_82, oa_84, or_84, g1.1, nk_1shl (show D.1 < 32 by omega), (nk_le (by omega) (by omega) : (nI (2 ^ D.1) ≤ nI (k)) = (2 ^ D.1 ≤ k)), show ¬ 2 ^ D.1 ≤ k by omega]
        refine m_isQuarrelling g1 hk (fun F2 q1 q2 => ?_)
        simp only [ax0, ex_cons, am_get, upz_at, true_and, and_true, Nat.reduceAdd, Nat.reduceLeDiff, Nat.reduceEqDiff, Nat.reduceSub, Int32.reduceOfInt, Int32.reduceAdd, Int32.reduceMul, Int32.reduceSub, ↓reduceIte, Int32.reduceLT, Int32.reduceLE, Int32.reduceToNatClampNeg, Nat.reduceMod, Nat.reduceLT, List.length_cons, List.length_nil, eq_self, true_or, or_true, and_self, implies_true, not_true_eq_false, not_false_eq_true, false_implies, true_implies, forall_const, st_aload, st_goto_w, st_iconst, st_if_icmp, st_iload, st_in1, st_in2, st_ishl, st_istore, am_put, am_nlg, kb_Model_quarrel_11, oo_82, oa_82]
        have fin : ∀ (F3 : Nat → Nat → Int32) (v5 : Value), MK (F3 84) D → St F F3 → am_W kc_Model_quarrel (am_cl (d + 4)) Q 82 [.ref 82, .int x, .int (nI (cq D k)), .int (nI k), .int (b2i (lq D k)), v5] [] (ov h F3 J V) := by
          intro F3 v5 r1 r2
          have ec : cq D (k + 1) = cq D k + (if lq D k then 1 else 0) := by
            show cn (fun i => decide (0 < i) && lq D i) k + (if (decide (0 < k) && lq D k) = true then 1 else 0) = _
            rw [decide_eq_true hk0, Bool.true_and]; rfl
          simp only [ax0, ex_cons, am_get, upz_at, true_and, and_true, Nat.reduceAdd, Nat.reduceLeDiff, Nat.reduceEqDiff, Nat.reduceSub, Int32.reduceOfInt, Int32.reduceAdd, Int32.reduceMul, Int32.reduceSub, ↓reduceIte, Int32.reduceLT, Int32.reduceLE, Int32.reduceToNatClampNeg, Nat.reduceMod, Nat.reduceLT, List.length_cons, List.length_nil, eq_self, true_or, or_true, and_self, implies_true, not_true_eq_false, not_false_eq_true, false_implies, true_implies, forall_const, st_goto, st_ifCond, st_iload, jx_Model_quarrel_82, kb_Model_quarrel_82]
          refine ifnb (fun e => ?_) (fun e => ?_)
          · unfold qrF at K2
            rw [e, Bool.true_and] at K2
            rw [e, if_pos rfl] at ec
            simp only [ax0, ex_cons, am_get, upz_at, true_and, and_true, Nat.reduceAdd, Nat.reduceLeDiff, Nat.reduceEqDiff, Nat.reduceSub, Int32.reduceOfInt, Int32.reduceAdd, Int32.reduceMul, Int32.reduceSub, ↓reduceIte, Int32.reduceLT, Int32.reduceLE, Int32.reduceToNatClampNeg, Nat.reduceMod, Nat.reduceLT, List.length_cons, List.length_nil, eq_self, true_or, or_true, and_self, implies_true, not_true_eq_false, not_false_eq_true, false_implies, true_implies, forall_const, st_if_icmp, st_iload, st_ireturn, jx_Model_quarrel_90, kb_Model_quarrel_90]
            refine ⟨fun q => ?_, fun q => ?_⟩
            · rw [decide_eq_false q] at K2
              have g := ih (k + 1) F3 (by omega) (by omega) r1 r2 K2 (.int 1) v5
              rw [ec] at g
              simp only [ax0, ex_cons, am_get, upz_at, true_and, and_true, Nat.reduceAdd, Nat.reduceLeDiff, Nat.reduceEqDiff, Nat.reduceSub, Int32.reduceOfInt, Int32.reduceAdd, Int32.reduceMul, Int32.reduceSub, ↓reduceIte, Int32.reduceLT, Int32.reduceLE, Int32.reduceToNatClampNeg, Nat.reduceMod, Nat.reduceLT, List.length_cons, List.length_nil, eq_self, true_or, or_true, and_self, implies_true, not_true_eq_false, not_false_eq_true, false_implies, true_implies, forall_const, st_goto, st_goto_w, st_iinc, am_put, am_nlg, jx_Model_quarrel_97, kb_Model_quarrel_97, jx_Model_quarrel_100, kb_Model_quarrel_100, nk_succ]
              rw [e]
              exact g
            · rw [decide_eq_true (Decidable.not_not.mp q)] at K2
              exact K2 F3 r2.pm
          · unfold qrF at K2
            rw [e, Bool.false_and] at K2
            rw [e] at ec
            have g := ih (k + 1) F3 (by omega) (by omega) r1 r2 K2 (.int 0) v5
            rw [ec] at g
            simp only [ax0, ex_cons, am_get, upz_at, true_and, and_true, Nat.reduceAdd, Nat.reduceLeDiff, Nat.reduceEqDiff, Nat.reduceSub, Int32.reduceOfInt, Int32.reduceAdd, Int32.reduceMul, Int32.reduceSub, ↓reduceIte, Int32.reduceLT, Int32.reduceLE, Int32.reduceToNatClampNeg, Nat.reduceMod, Nat.reduceLT, List.length_cons, List.length_nil, eq_self, true_or, or_true, and_self, implies_true, not_true_eq_false, not_false_eq_true, false_implies, true_implies, forall_const, st_goto, st_iinc, am_put, am_nlg, jx_Model_quarrel_100, kb_Model_quarrel_100, nk_succ]
            rw [e]
            exact g
        have inner : ∀ i m F3, m + i = D.1 → MK (F3 84) D → St F F3 → am_W kc_Model_quarrel (am_cl (d + 4)) Q 31 [.ref 82, .int x, .int (nI (cq D k)), .int (nI k), .int (b2i (lqF D k m)), .int (nI m)] [] (ov h F3 J V) := by
          intro i
          induction i with
          | zero =>
            intro m F3 em r1 r2
            have em : m = D.1 := em
            rw [jx_Model_quarrel_31]
            simp only [ax0, ex_cons, am_get, upz_at, true_and, and_true, Nat.reduceAdd, Nat.reduceLeDiff, Nat.reduceEqDiff, Nat.reduceSub, Int32.reduceOfInt, Int32.reduceAdd, Int32.reduceMul, Int32.reduceSub, ↓reduceIte, Int32.reduceLT, Int32.reduceLE, Int32.reduceToNatClampNeg, Nat.reduceMod, Nat.reduceLT, List.length_cons, List.length_nil, eq_self, true_or, or_true, and_self, implies_true, not_true_eq_false, not_false_eq_true, false_implies, true_implies, forall_const, st_aload, st_getfield, st_goto_w, st_iaload, st_iand, st_iconst, st_ifCond, st_if_icmp, st_iload, st_in1, st_in2, st_ireturn, st_ishl, st_ishr, st_ixor, kb_Model_quarrel_31, oo_82, cx_Model_slips, kb_Model_slips_0, og_82_2, oa_82, oa_84, or_84, r1.1, (nk_le (by omega) (by omega) : (nI (D.1) ≤ nI (m)) = (D.1 ≤ m)), show D.1 ≤ m by omega]
            rw [em]
            exact fin F3 _ r1 r2
          | succ i ih2 =>
            intro m F3 em r1 r2
            rw [jx_Model_quarrel_31]
            simp only [ax0, ex_cons, am_get, upz_at, true_and, and_true, Nat.reduceAdd, Nat.reduceLeDiff, Nat.reduceEqDiff, Nat.reduceSub, Int32.reduceOfInt, Int32.reduceAdd, Int32.reduceMul, Int32.reduceSub, ↓reduceIte, Int32.reduceLT, Int32.reduceLE, Int32.reduceToNatClampNeg, Nat.reduceMod, Nat.reduceLT, List.length_cons, List.length_nil, eq_self, true_or, or_true, and_self, implies_true, not_true_eq_false, not_false_eq_true, false_implies, true_implies, forall_const, st_aload, st_getfield, st_goto_w, st_iaload, st_iand, st_iconst, st_ifCond, st_if_icmp, st_iload, st_in1, st_in2, st_ireturn, st_ishl, st_ishr, st_ixor, kb_Model_quarrel_31, oo_82, cx_Model_slips, kb_Model_slips_0, og_82_2, oa_82, oa_84, or_84, r1.1, (nk_le (by omega) (by omega) : (nI (D.1) ≤ nI (m)) = (D.1 ≤ m)), show ¬ D.1 ≤ m by omega]
            refine ifb (fun e => ?_) (fun e => ?_)
            · have e2 : lq D k = false := by
                have := lqF_f (j := i + 1) e
                rw [em] at this
                exact this
              have g := fin F3 (.int (nI m)) r1 r2
              rw [e2] at g
              rw [e]
              exact g
            · simp only [nk_bit (show k < 2147483648 by omega) (show m < 32 by omega)]
              refine ifb (fun e3 => ?_) (fun e3 => ?_)
              · have g := ih2 (m + 1) F3 (by omega) r1 r2
                rw [show lqF D k (m + 1) = (lqF D k m && (!k.testBit m || !qz (hzD D (clr k m)) (fun _ => false))) from rfl, e, e3] at g
                simp only [ax0, ex_cons, am_get, upz_at, true_and, and_true, Nat.reduceAdd, Nat.reduceLeDiff, Nat.reduceEqDiff, Nat.reduceSub, Int32.reduceOfInt, Int32.reduceAdd, Int32.reduceMul, Int32.reduceSub, ↓reduceIte, Int32.reduceLT, Int32.reduceLE, Int32.reduceToNatClampNeg, Nat.reduceMod, Nat.reduceLT, List.length_cons, List.length_nil, eq_self, true_or, or_true, and_self, implies_true, not_true_eq_false, not_false_eq_true, false_implies, true_implies, forall_const, st_goto, st_iconst, st_iinc, st_istore, am_put, am_nlg, jx_Model_quarrel_69, kb_Model_quarrel_69, jx_Model_quarrel_74, kb_Model_quarrel_74, nk_succ]
                exact g
              · simp only [ax0, ex_cons, am_get, upz_at, true_and, and_true, Nat.reduceAdd, Nat.reduceLeDiff, Nat.reduceEqDiff, Nat.reduceSub, Int32.reduceOfInt, Int32.reduceAdd, Int32.reduceMul, Int32.reduceSub, ↓reduceIte, Int32.reduceLT, Int32.reduceLE, Int32.reduceToNatClampNeg, Nat.reduceMod, Nat.reduceLT, List.length_cons, List.length_nil, eq_self, true_or, or_true, and_self, implies_true, not_true_eq_false, not_false_eq_true, false_implies, true_implies, forall_const, st_aload, st_goto_w, st_iand, st_iconst, st_ifCond, st_if_icmp, st_iload, st_in1, st_in2, st_ishl, st_ishr, st_ixor, kb_Model_quarrel_31, oo_82, oa_82, nk_1shl (show m < 32 by omega), nk_clr (show k < 4096 by omega) (show m < 12 by omega)]
                refine m_isQuarrelling r1 (Nat.lt_of_le_of_lt (clr_le k m) hk) (fun F4 r3 r4 => ?_)
                have g := ih2 (m + 1) F4 (by omega) r3 (r2.tr r4)
                rw [show lqF D k (m + 1) = (lqF D k m && (!k.testBit m || !qz (hzD D (clr k m)) (fun _ => false))) from rfl, e, e3] at g
                simp only [ax0, ex_cons, am_get, upz_at, true_and, and_true, Nat.reduceAdd, Nat.reduceLeDiff, Nat.reduceEqDiff, Nat.reduceSub, Int32.reduceOfInt, Int32.reduceAdd, Int32.reduceMul, Int32.reduceSub, ↓reduceIte, Int32.reduceLT, Int32.reduceLE, Int32.reduceToNatClampNeg, Nat.reduceMod, Nat.reduceLT, List.length_cons, List.length_nil, eq_self, true_or, or_true, and_self, implies_true, not_true_eq_false, not_false_eq_true, false_implies, true_implies, forall_const, st_aload, st_goto, st_goto_w, st_iand, st_iconst, st_ifCond, st_if_icmp, st_iinc, st_iload, st_in1, st_in2, st_ishl, st_ishr, st_istore, st_ixor, am_put, am_nlg, kb_Model_quarrel_31, oo_82, jx_Model_quarrel_69, kb_Model_quarrel_69, jx_Model_quarrel_73, kb_Model_quarrel_73, jx_Model_quarrel_74, kb_Model_quarrel_74, oa_82, nk_succ]
                refine ifnb (fun e4 => ?_) (fun e4 => ?_) <;> rw [e4] at g <;> exact g
        exact inner D.1 0 F2 (by omega) q1 (g2.tr q2)
    have hc1 : cq D 1 = 0 := rfl
    have g := key (2 ^ D.1 - 1) 1 F (by decide) (by omega) hD St.rf K am_dum am_dum
    rw [hc1] at g
    exact g
  · rw [if_pos (Int32.not_le.mp hx)] at K
    exact K F Pm.rf
set_option maxRecDepth 20000 in
theorem mp_hint {D : dT} (hD : MK (F 84) D) {x : Int32} (K : ∀ F', Pm F F' → Q (some (.int (aHint D x))) (ov h F' J V)) : am_cl (d + 5) 248 [.ref 82, .int x] (ov h F J V) Q := by
  have no : aHint D x = -1 → am_W kc_Model_hint (am_cl (d + 4)) Q 15 [.ref 82, .int x, am_dum] [] (ov h F J V) := fun e => by
    rw [e] at K
    simp only [ax0, ex_cons, am_get, upz_at, true_and, and_true, Nat.reduceAdd, Nat.reduceLeDiff, Nat.reduceEqDiff, Nat.reduceSub, Int32.reduceOfInt, Int32.reduceAdd, Int32.reduceMul, Int32.reduceSub, ↓reduceIte, Int32.reduceLT, Int32.reduceLE, Int32.reduceToNatClampNeg, Nat.reduceMod, Nat.reduceLT, List.length_cons, List.length_nil, eq_self, true_or, or_true, and_self, implies_true, not_true_eq_false, not_false_eq_true, false_implies, true_implies, forall_const, st_iconst, st_ireturn, jx_Model_hint_15, kb_Model_hint_15]
    exact K F Pm.rf
  simp only [ax0, ex_cons, am_get, upz_at, true_and, and_true, Nat.reduceAdd, Nat.reduceLeDiff, Nat.reduceEqDiff, Nat.reduceSub, Int32.reduceOfInt, Int32.reduceAdd, Int32.reduceMul, Int32.reduceSub, ↓reduceIte, Int32.reduceLT, Int32.reduceLE, Int32.reduceToNatClampNeg, Nat.reduceMod, Nat.reduceLT, List.length_cons, List.length_nil, eq_self, true_or, or_true, and_self, implies_true, not_true_eq_false, not_false_eq_true, false_implies, true_implies, forall_const, st_aload, st_goto_w, st_ifCond, st_iload, st_in1, st_in2, kb_Model_hint_0, oo_82, oa_82, cx_Model_hint]
  refine m_isHeap hD.1 hD.2.1 ?_
  simp only [ax0, ex_cons, am_get, upz_at, true_and, and_true, Nat.reduceAdd, Nat.reduceLeDiff, Nat.reduceEqDiff, Nat.reduceSub, Int32.reduceOfInt, Int32.reduceAdd, Int32.reduceMul, Int32.reduceSub, ↓reduceIte, Int32.reduceLT, Int32.reduceLE, Int32.reduceToNatClampNeg, Nat.reduceMod, Nat.reduceLT, List.length_cons, List.length_nil, eq_self, true_or, or_true, and_self, implies_true, not_true_eq_false, not_false_eq_true, false_implies, true_implies, forall_const, st_aload, st_goto_w, st_ifCond, st_iload, st_in1, st_in2, kb_Model_hint_0, oo_82, oa_82]
  refine ifb (fun e => no (by unfold aHint; rw [e, Bool.false_and]; exact if_neg Bool.false_ne_true)) (fun e => ?_)
  refine m_isAsked hD.2.2.1 ?_
  simp only [ax0, ex_cons, am_get, upz_at, true_and, and_true, Nat.reduceAdd, Nat.reduceLeDiff, Nat.reduceEqDiff, Nat.reduceSub, Int32.reduceOfInt, Int32.reduceAdd, Int32.reduceMul, Int32.reduceSub, ↓reduceIte, Int32.reduceLT, Int32.reduceLE, Int32.reduceToNatClampNeg, Nat.reduceMod, Nat.reduceLT, List.length_cons, List.length_nil, eq_self, true_or, or_true, and_self, implies_true, not_true_eq_false, not_false_eq_true, false_implies, true_implies, forall_const, st_aload, st_goto_w, st_ifCond, st_iload, st_in1, st_in2, kb_Model_hint_0, oo_82, oa_82]
  refine ifnb (fun e4 => ?_) (fun e4 => no (by unfold aHint; rw [e4, Bool.and_false]; exact if_neg Bool.false_ne_true))
  obtain ⟨hp, a1, a2, a3⟩ := hpB_nI hD.2.1 e
  have ea : aHint D x = htF D hp 256 0 := by unfold aHint; rw [e, e4, a3]; exact if_pos rfl
  rw [ea] at K
  rw [a1]
  simp only [ax0, ex_cons, am_get, upz_at, true_and, and_true, Nat.reduceAdd, Nat.reduceLeDiff, Nat.reduceEqDiff, Nat.reduceSub, Int32.reduceOfInt, Int32.reduceAdd, Int32.reduceMul, Int32.reduceSub, ↓reduceIte, Int32.reduceLT, Int32.reduceLE, Int32.reduceToNatClampNeg, Nat.reduceMod, Nat.reduceLT, List.length_cons, List.length_nil, eq_self, true_or, or_true, and_self, implies_true, not_true_eq_false, not_false_eq_true, false_implies, true_implies, forall_const, st_goto_w, st_iconst, st_istore, am_put, am_nlg, jx_Model_hint_17, kb_Model_hint_17]
  have key : ∀ j k F1, k + j = 256 → MK (F1 84) D → Pm F F1 → (∀ F', Pm F F' → Q (some (.int (htF D hp j k))) (ov h F' J V)) → am_W kc_Model_hint (am_cl (d + 4)) Q 19 [.ref 82, .int (nI hp), .int (nI k)] [] (ov h F1 J V) := by
    intro j
    induction j with
    | zero =>
      intro k F1 ek g1 g2 K2
      have ek : k = 256 := ek
      subst ek
      rw [jx_Model_hint_19]
      simp only [ax0, ex_cons, am_get, upz_at, true_and, and_true, Nat.reduceAdd, Nat.reduceLeDiff, Nat.reduceEqDiff, Nat.reduceSub, Int32.reduceOfInt, Int32.reduceAdd, Int32.reduceMul, Int32.reduceSub, ↓reduceIte, Int32.reduceLT, Int32.reduceLE, Int32.reduceToNatClampNeg, Nat.reduceMod, Nat.reduceLT, List.length_cons, List.length_nil, eq_self, true_or, or_true, and_self, implies_true, not_true_eq_false, not_false_eq_true, false_implies, true_implies, forall_const, st_aload, st_goto, st_iconst, st_ifCond, st_if_icmp, st_iload, st_in2, st_st1, st_ireturn, kb_Model_hint_19, oo_82, jx_Model_hint_94, kb_Model_hint_94, oa_82, show ((256 : Int32) ≤ nI (256)) = (256 ≤ 256) from nk_le (a := 256) (b := 256) (by omega) (by omega)]
      exact K2 F1 g2
    | succ j ih =>
      intro k F1 ek g1 g2 K2
      unfold htF at K2
      have next : ∀ F2, MK (F2 84) D → Pm F F2 → (isNu k && !decide (nI k = oI (nuR (D.2.1 12))) && hiP D hp k) = false → am_W kc_Model_hint (am_cl (d + 4)) Q 88 [.ref 82, .int (nI hp), .int (nI k)] [] (ov h F2 J V) := by
        intro F2 q1 q2 q3
        rw [q3] at K2
        simp only [ax0, ex_cons, am_get, upz_at, true_and, and_true, Nat.reduceAdd, Nat.reduceLeDiff, Nat.reduceEqDiff, Nat.reduceSub, Int32.reduceOfInt, Int32.reduceAdd, Int32.reduceMul, Int32.reduceSub, ↓reduceIte, Int32.reduceLT, Int32.reduceLE, Int32.reduceToNatClampNeg, Nat.reduceMod, Nat.reduceLT, List.length_cons, List.length_nil, eq_self, true_or, or_true, and_self, implies_true, not_true_eq_false, not_false_eq_true, false_implies, true_implies, forall_const, st_goto, st_iinc, am_put, am_nlg, jx_Model_hint_88, kb_Model_hint_88, nk_succ]
        exact ih (k + 1) F2 (by omega) q1 q2 K2
      rw [jx_Model_hint_19]
      simp only [ax0, ex_cons, am_get, upz_at, true_and, and_true, Nat.reduceAdd, Nat.reduceLeDiff, Nat.reduceEqDiff, Nat.reduceSub, Int32.reduceOfInt, Int32.reduceAdd, Int32.reduceMul, Int32.reduceSub, ↓reduceIte, Int32.reduceLT, Int32.reduceLE, Int32.reduceToNatClampNeg, Nat.reduceMod, Nat.reduceLT, List.length_cons, List.length_nil, eq_self, true_or, or_true, and_self, implies_true, not_true_eq_false, not_false_eq_true, false_implies, true_implies, forall_const, st_aload, st_goto, st_iconst, st_ifCond, st_if_icmp, st_iload, st_in2, st_st1, kb_Model_hint_19, oo_82, oa_82, show ((256 : Int32) ≤ nI (k)) = (256 ≤ k) from nk_le (a := 256) (b := k) (by omega) (by omega), show ¬ 256 ≤ k by omega]
      refine m_isNumber (by omega) ?_
      simp only [ax0, ex_cons, am_get, upz_at, true_and, and_true, Nat.reduceAdd, Nat.reduceLeDiff, Nat.reduceEqDiff, Nat.reduceSub, Int32.reduceOfInt, Int32.reduceAdd, Int32.reduceMul, Int32.reduceSub, ↓reduceIte, Int32.reduceLT, Int32.reduceLE, Int32.reduceToNatClampNeg, Nat.reduceMod, Nat.reduceLT, List.length_cons, List.length_nil, eq_self, true_or, or_true, and_self, implies_true, not_true_eq_false, not_false_eq_true, false_implies, true_implies, forall_const, st_aload, st_goto, st_iconst, st_ifCond, st_if_icmp, st_iload, st_in2, st_st1, kb_Model_hint_19, oo_82, oa_82]
      refine ifb (fun e5 => next F1 g1 g2 (by rw [e5]; rfl)) (fun e5 => ?_)
      have hq := g1.2.2.2.2.2 e4
      refine m_numberOf (s := 12) (by decide) hq.1 hq.2.1 ?_
      simp only [ax0, ex_cons, am_get, upz_at, true_and, and_true, Nat.reduceAdd, Nat.reduceLeDiff, Nat.reduceEqDiff, Nat.reduceSub, Int32.reduceOfInt, Int32.reduceAdd, Int32.reduceMul, Int32.reduceSub, ↓reduceIte, Int32.reduceLT, Int32.reduceLE, Int32.reduceToNatClampNeg, Nat.reduceMod, Nat.reduceLT, List.length_cons, List.length_nil, eq_self, true_or, or_true, and_self, implies_true, not_true_eq_false, not_false_eq_true, false_implies, true_implies, forall_const, st_aload, st_goto, st_iconst, st_ifCond, st_if_icmp, st_iload, st_in2, st_st1, kb_Model_hint_19, oo_82, oa_82]
      refine ⟨fun q => ?_, fun q => ?_⟩
      · simp only [ax0, ex_cons, am_get, upz_at, true_and, and_true, Nat.reduceAdd, Nat.reduceLeDiff, Nat.reduceEqDiff, Nat.reduceSub, Int32.reduceOfInt, Int32.reduceAdd, Int32.reduceMul, Int32.reduceSub, ↓reduceIte, Int32.reduceLT, Int32.reduceLE, Int32.reduceToNatClampNeg, Nat.reduceMod, Nat.reduceLT, List.length_cons, List.length_nil, eq_self, true_or, or_true, and_self, implies_true, not_true_eq_false, not_false_eq_true, false_implies, true_implies, forall_const, st_aload, st_iconst, st_ifCond, st_iload, st_in1, st_in2, st_in3, st_ireturn, jx_Model_hint_46, kb_Model_hint_46, oo_82, oa_82]
        refine m_simple (by omega) (fun F2 h1 h2 => ?_)
        have hD2 := g1.pm h2.pm
        simp only [ax0, ex_cons, am_get, upz_at, true_and, and_true, Nat.reduceAdd, Nat.reduceLeDiff, Nat.reduceEqDiff, Nat.reduceSub, Int32.reduceOfInt, Int32.reduceAdd, Int32.reduceMul, Int32.reduceSub, ↓reduceIte, Int32.reduceLT, Int32.reduceLE, Int32.reduceToNatClampNeg, Nat.reduceMod, Nat.reduceLT, List.length_cons, List.length_nil, eq_self, true_or, or_true, and_self, implies_true, not_true_eq_false, not_false_eq_true, false_implies, true_implies, forall_const, st_aload, st_iconst, st_ifCond, st_iload, st_in1, st_in2, st_in3, st_ireturn, jx_Model_hint_46, kb_Model_hint_46, oo_82, oa_82]
        refine m_heapsD hD2 a2 (fun F3 h3 h4 h5 => ?_)
        simp only [ax0, ex_cons, am_get, upz_at, true_and, and_true, Nat.reduceAdd, Nat.reduceLeDiff, Nat.reduceEqDiff, Nat.reduceSub, Int32.reduceOfInt, Int32.reduceAdd, Int32.reduceMul, Int32.reduceSub, ↓reduceIte, Int32.reduceLT, Int32.reduceLE, Int32.reduceToNatClampNeg, Nat.reduceMod, Nat.reduceLT, List.length_cons, List.length_nil, eq_self, true_or, or_true, and_self, implies_true, not_true_eq_false, not_false_eq_true, false_implies, true_implies, forall_const, st_aload, st_iconst, st_ifCond, st_iload, st_in1, st_in2, st_in3, st_ireturn, jx_Model_hint_46, kb_Model_hint_46, oo_82, oa_82]
        refine m_isTold h4.2.2.2.1 ?_
        simp only [ax0, ex_cons, am_get, upz_at, true_and, and_true, Nat.reduceAdd, Nat.reduceLeDiff, Nat.reduceEqDiff, Nat.reduceSub, Int32.reduceOfInt, Int32.reduceAdd, Int32.reduceMul, Int32.reduceSub, ↓reduceIte, Int32.reduceLT, Int32.reduceLE, Int32.reduceToNatClampNeg, Nat.reduceMod, Nat.reduceLT, List.length_cons, List.length_nil, eq_self, true_or, or_true, and_self, implies_true, not_true_eq_false, not_false_eq_true, false_implies, true_implies, forall_const, st_aload, st_iconst, st_ifCond, st_iload, st_in1, st_in2, st_in3, st_ireturn, jx_Model_hint_46, kb_Model_hint_46, oo_82, oa_82]
        have hl := hzD_len D hp
        have hl2 := tellz_len (hzD D hp) (clR (rS k)) D.2.2.2
        refine m_tellsOf (s := 13) h3 (by omega) (by decide) (by rw [h5.k]; exact h1) (fun F4 h6 h7 => ?_)
        have hD4 := h4.pm h7.pm
        have hP4 := ((g2.tr h2.pm).tr h5.pm).tr h7.pm
        simp only [ax0, ex_cons, am_get, upz_at, true_and, and_true, Nat.reduceAdd, Nat.reduceLeDiff, Nat.reduceEqDiff, Nat.reduceSub, Int32.reduceOfInt, Int32.reduceAdd, Int32.reduceMul, Int32.reduceSub, ↓reduceIte, Int32.reduceLT, Int32.reduceLE, Int32.reduceToNatClampNeg, Nat.reduceMod, Nat.reduceLT, List.length_cons, List.length_nil, eq_self, true_or, or_true, and_self, implies_true, not_true_eq_false, not_false_eq_true, false_implies, true_implies, forall_const, st_aload, st_iconst, st_ifCond, st_iload, st_in1, st_in2, st_in3, st_ireturn, jx_Model_hint_46, kb_Model_hint_46, oo_82, oa_82]
        refine m_isQuarrel h6 (by omega) (fun f => ?_)
        simp only [ax0, ex_cons, am_get, upz_at, true_and, and_true, Nat.reduceAdd, Nat.reduceLeDiff, Nat.reduceEqDiff, Nat.reduceSub, Int32.reduceOfInt, Int32.reduceAdd, Int32.reduceMul, Int32.reduceSub, ↓reduceIte, Int32.reduceLT, Int32.reduceLE, Int32.reduceToNatClampNeg, Nat.reduceMod, Nat.reduceLT, List.length_cons, List.length_nil, eq_self, true_or, or_true, and_self, implies_true, not_true_eq_false, not_false_eq_true, false_implies, true_implies, forall_const, st_aload, st_iconst, st_ifCond, st_iload, st_in1, st_in2, st_in3, st_ireturn, jx_Model_hint_46, kb_Model_hint_46, oo_82, oa_82]
        refine ifnb (fun e6 => next _ hD4 (hP4.s100 f) (by unfold hiP; rw [e6, Bool.not_true, Bool.false_and, Bool.and_false])) (fun e6 => ?_)
        refine m_isTold hD4.2.2.2.1 ?_
        simp only [ax0, ex_cons, am_get, upz_at, true_and, and_true, Nat.reduceAdd, Nat.reduceLeDiff, Nat.reduceEqDiff, Nat.reduceSub, Int32.reduceOfInt, Int32.reduceAdd, Int32.reduceMul, Int32.reduceSub, ↓reduceIte, Int32.reduceLT, Int32.reduceLE, Int32.reduceToNatClampNeg, Nat.reduceMod, Nat.reduceLT, List.length_cons, List.length_nil, eq_self, true_or, or_true, and_self, implies_true, not_true_eq_false, not_false_eq_true, false_implies, true_implies, forall_const, st_aload, st_iconst, st_ifCond, st_iload, st_in1, st_in2, st_in3, st_ireturn, jx_Model_hint_46, kb_Model_hint_46, oo_82, oa_82]
        refine m_followsOf (s := 12) (h6.s100 f) (by omega) (by decide) (hD4.2.2.2.2.2 e4).2.2 (fun f2 => ?_)
        rw [upz_upd]
        simp only [ax0, ex_cons, am_get, upz_at, true_and, and_true, Nat.reduceAdd, Nat.reduceLeDiff, Nat.reduceEqDiff, Nat.reduceSub, Int32.reduceOfInt, Int32.reduceAdd, Int32.reduceMul, Int32.reduceSub, ↓reduceIte, Int32.reduceLT, Int32.reduceLE, Int32.reduceToNatClampNeg, Nat.reduceMod, Nat.reduceLT, List.length_cons, List.length_nil, eq_self, true_or, or_true, and_self, implies_true, not_true_eq_false, not_false_eq_true, false_implies, true_implies, forall_const, st_aload, st_iconst, st_ifCond, st_iload, st_in1, st_in2, st_in3, st_ireturn, jx_Model_hint_46, kb_Model_hint_46, oo_82, oa_82]
        refine ifb (fun e7 => next _ hD4 (hP4.s100 f2) (by unfold hiP csD; rw [e7, Bool.and_false, Bool.and_false])) (fun e7 => ?_)
        have hh : hiP D hp k = true := by unfold hiP csD; rw [e6, e7]; rfl
        rw [e5, decide_eq_false q, hh] at K2
        exact K2 _ (hP4.s100 f2)
      · exact next F1 g1 g2 (by rw [decide_eq_true (Decidable.not_not.mp q), Bool.not_true, Bool.and_false, Bool.false_and])
  exact key 256 0 F (by decide) hD Pm.rf K
end MPJ
