/-! ===== the model: derives, the first round ===== -/
def hasN (D : dT) : Nat → Nat → Bool
  | 0, _ => false
  | k + 1, i => hasN D k i || decide (nuR (D.2.1 k) = some i)
def rd0 (D : dT) (k i : Nat) : Int32 := if hasN D k i then 0 else -1
section MPS
variable {d : Nat} {h : am_H} {F : Nat → Nat → Int32} {J : Nat → Nat → Int64} {V : Nat → Nat → Value} {Q : am_Q}
set_option maxRecDepth 20000 in
theorem m_rdInit {v2 v3 v4 v5 : Value} (K : ∀ F', Pm F F' → F' 106 = F 106 → (∀ i, i < 256 → F' 105 i = -1) → am_W kc_Model_derives (am_cl (d + 6)) Q 97 [.ref 82, .int (nI 256), v2, v3, v4, v5] [] (ov h F' J V)) : am_W kc_Model_derives (am_cl (d + 6)) Q 77 [.ref 82, .int (nI 0), v2, v3, v4, v5] [] (ov h F J V) := by
  have key : ∀ j k F1, k + j = 256 → Pm F F1 → F1 106 = F 106 → (∀ i, i < k → F1 105 i = -1) → am_W kc_Model_derives (am_cl (d + 6)) Q 77 [.ref 82, .int (nI k), v2, v3, v4, v5] [] (ov h F1 J V) := by
    intro j
    induction j with
    | zero =>
      intro k F1 ek g1 g2 g3
      have ek : k = 256 := ek
      subst ek
      rw [jx_Model_derives_77]
      simp only [ax0, ex_cons, am_get, upz_at, true_and, and_true, Nat.reduceAdd, Nat.reduceLeDiff, Nat.reduceEqDiff, Nat.reduceSub, Int32.reduceOfInt, Int32.reduceAdd, Int32.reduceMul, Int32.reduceSub, ↓reduceIte, Int32.reduceLT, Int32.reduceLE, Int32.reduceToNatClampNeg, Nat.reduceMod, Nat.reduceLT, List.length_cons, List.length_nil, eq_self, true_or, or_true, and_self, implies_true, not_true_eq_false, not_false_eq_true, false_implies, true_implies, forall_const, st_aload, st_getfield, st_goto, st_iastore, st_iconst, st_if_icmp, st_iinc, st_iload, am_put, am_nlg, kb_Model_derives_77, og_82_40, oa_82, oa_105, ow_105, os_105, show ((256 : Int32) ≤ nI (256)) = (256 ≤ 256) from nk_le (a := 256) (b := 256) (by omega) (by omega)]
      exact K F1 g1 g2 g3
    | succ j ih =>
      intro k F1 ek g1 g2 g3
      rw [jx_Model_derives_77]
      simp only [ax0, ex_cons, am_get, upz_at, true_and, and_true, Nat.reduceAdd, Nat.reduceLeDiff, Nat.reduceEqDiff, Nat.reduceSub, Int32.reduceOfInt, Int32.reduceAdd, Int32.reduceMul, Int32.reduceSub, ↓reduceIte, Int32.reduceLT, Int32.reduceLE, Int32.reduceToNatClampNeg, Nat.reduceMod, Nat.reduceLT, List.length_cons, List.length_nil, eq_self, true_or, or_true, and_self, implies_true, not_true_eq_false, not_false_eq_true, false_implies, true_implies, forall_const, st_aload, st_getfield, st_goto, st_iastore, st_iconst, st_if_icmp, st_iinc, st_iload, am_put, am_nlg, kb_Model_derives_77, og_82_40, oa_82, oa_105, ow_105, os_105, show ((256 : Int32) ≤ nI (k)) = (256 ≤ k) from nk_le (a := 256) (b := k) (by omega) (by omega), show ¬ 256 ≤ k by omega, nk_neg (show k < 2147483648 by omega), nk_cl (show k < 2147483648 by omega), show k < 256 by omega, nk_succ]
      refine ih (k + 1) _ (by omega) (g1.s105 _) (by rw [upz_ne _ _ (by decide)]; exact g2) (fun i hi => ?_)
      rw [upz_eq, upz_at]
      by_cases q : i = k
      · rw [if_pos q]
      · rw [if_neg q]; exact g3 i (by omega)
  exact key 256 0 F (by decide) Pm.rf rfl (fun i hi => absurd hi (Nat.not_lt_zero i))
set_option maxRecDepth 20000 in
theorem m_rdSlips {D : dT} (hD : MK (F 84) D) (h0 : ∀ i, i < 256 → F 105 i = -1) {v2 v3 v4 v5 : Value} (K : ∀ F', Pm F F' → F' 106 = F 106 → (∀ i, i < 256 → F' 105 i = rd0 D D.1 i) → am_W kc_Model_derives (am_cl (d + 6)) Q 133 [.ref 82, .int (nI D.1), v2, v3, v4, v5] [] (ov h F' J V)) : am_W kc_Model_derives (am_cl (d + 6)) Q 99 [.ref 82, .int (nI 0), v2, v3, v4, v5] [] (ov h F J V) := by
  have hn := hD.2.1
  have key : ∀ j k F1, k + j = D.1 → Pm F F1 → F1 106 = F 106 → (∀ i, i < 256 → F1 105 i = rd0 D k i) → am_W kc_Model_derives (am_cl (d + 6)) Q 99 [.ref 82, .int (nI k), v2, v3, v4, v5] [] (ov h F1 J V) := by
    intro j
    induction j with
    | zero =>
      intro k F1 ek g1 g2 g3
      have ek : k = D.1 := ek
      subst ek
      have hD1 := hD.pm g1
      rw [jx_Model_derives_99]
      simp only [ax0, ex_cons, am_get, upz_at, true_and, and_true, Nat.reduceAdd, Nat.reduceLeDiff, Nat.reduceEqDiff, Nat.reduceSub, Int32.reduceOfInt, Int32.reduceAdd, Int32.reduceMul, Int32.reduceSub, ↓reduceIte, Int32.reduceLT, Int32.reduceLE, Int32.reduceToNatClampNeg, Nat.reduceMod, Nat.reduceLT, List.length_cons, List.length_nil, eq_self, true_or, or_true, and_self, implies_true, not_true_eq_false, not_false_eq_true, false_implies, true_implies, forall_const, st_aload, st_getfield, st_goto_w, st_iaload, st_iastore, st_iconst, st_if_icmp, st_iload, st_in1, st_in2, st_ireturn, kb_Model_derives_99, oo_82, og_82_40, cx_Model_slips, kb_Model_slips_0, og_82_2, oa_82, oa_84, or_84, ow_84, os_84, oa_105, or_105, ow_105, os_105, hD1.1, (nk_le (by omega) (by omega) : (nI (D.1) ≤ nI (D.1)) = (D.1 ≤ D.1)), Nat.le_refl]
      exact K F1 g1 g2 g3
    | succ j ih =>
      intro k F1 ek g1 g2 g3
      have hD1 := hD.pm g1
      have hm1 := hD1.2.2.2.2.1 k (by omega)
      rw [jx_Model_derives_99]
      simp only [ax0, ex_cons, am_get, upz_at, true_and, and_true, Nat.reduceAdd, Nat.reduceLeDiff, Nat.reduceEqDiff, Nat.reduceSub, Int32.reduceOfInt, Int32.reduceAdd, Int32.reduceMul, Int32.reduceSub, ↓reduceIte, Int32.reduceLT, Int32.reduceLE, Int32.reduceToNatClampNeg, Nat.reduceMod, Nat.reduceLT, List.length_cons, List.length_nil, eq_self, true_or, or_true, and_self, implies_true, not_true_eq_false, not_false_eq_true, false_implies, true_implies, forall_const, st_aload, st_getfield, st_goto_w, st_iaload, st_iastore, st_iconst, st_if_icmp, st_iload, st_in1, st_in2, st_ireturn, kb_Model_derives_99, oo_82, og_82_40, cx_Model_slips, kb_Model_slips_0, og_82_2, oa_82, oa_84, or_84, ow_84, os_84, oa_105, or_105, ow_105, os_105, hD1.1, (nk_le (by omega) (by omega) : (nI (D.1) ≤ nI (k)) = (D.1 ≤ k)), show ¬ D.1 ≤ k by omega]
      refine m_numberOf (s := k) (by omega) hm1.1 hm1.2.1 ?_
      cases e3 : nuR (D.2.1 k) with
      | none =>
        simp only [ax0, ex_cons, am_get, upz_at, true_and, and_true, Nat.reduceAdd, Nat.reduceLeDiff, Nat.reduceEqDiff, Nat.reduceSub, Int32.reduceOfInt, Int32.reduceAdd, Int32.reduceMul, Int32.reduceSub, ↓reduceIte, Int32.reduceLT, Int32.reduceLE, Int32.reduceToNatClampNeg, Nat.reduceMod, Nat.reduceLT, List.length_cons, List.length_nil, eq_self, true_or, or_true, and_self, implies_true, not_true_eq_false, not_false_eq_true, false_implies, true_implies, forall_const, st_aload, st_getfield, st_goto, st_goto_w, st_iastore, st_iconst, st_if_icmp, st_iinc, st_iload, st_in1, st_in2, am_put, am_nlg, kb_Model_derives_99, oo_82, og_82_40, jx_Model_derives_127, kb_Model_derives_127, oa_82, oa_105, ow_105, os_105, oI_n, nk_succ]
        refine ih (k + 1) F1 (by omega) g1 g2 (fun i hi => ?_)
        have := g3 i hi
        unfold rd0 at this ⊢
        unfold hasN
        rw [e3, decide_eq_false (fun z => by cases z), Bool.or_false]
        exact this
      | some a =>
        obtain ⟨ha, na⟩ := nuR_num hm1.1 e3
        simp only [ax0, ex_cons, am_get, upz_at, true_and, and_true, Nat.reduceAdd, Nat.reduceLeDiff, Nat.reduceEqDiff, Nat.reduceSub, Int32.reduceOfInt, Int32.reduceAdd, Int32.reduceMul, Int32.reduceSub, ↓reduceIte, Int32.reduceLT, Int32.reduceLE, Int32.reduceToNatClampNeg, Nat.reduceMod, Nat.reduceLT, List.length_cons, List.length_nil, eq_self, true_or, or_true, and_self, implies_true, not_true_eq_false, not_false_eq_true, false_implies, true_implies, forall_const, st_aload, st_getfield, st_goto_w, st_iastore, st_iconst, st_if_icmp, st_iload, st_in1, st_in2, kb_Model_derives_99, oo_82, og_82_40, oa_82, oa_105, ow_105, os_105, oI_s, nI_neg1 (show a < 2147483648 by omega)]
        refine m_numberOf (s := k) (by omega) hm1.1 hm1.2.1 ?_
        rw [e3]
        simp only [ax0, ex_cons, am_get, upz_at, true_and, and_true, Nat.reduceAdd, Nat.reduceLeDiff, Nat.reduceEqDiff, Nat.reduceSub, Int32.reduceOfInt, Int32.reduceAdd, Int32.reduceMul, Int32.reduceSub, ↓reduceIte, Int32.reduceLT, Int32.reduceLE, Int32.reduceToNatClampNeg, Nat.reduceMod, Nat.reduceLT, List.length_cons, List.length_nil, eq_self, true_or, or_true, and_self, implies_true, not_true_eq_false, not_false_eq_true, false_implies, true_implies, forall_const, st_aload, st_getfield, st_goto, st_goto_w, st_iastore, st_iconst, st_if_icmp, st_iinc, st_iload, st_in1, st_in2, am_put, am_nlg, kb_Model_derives_99, oo_82, og_82_40, jx_Model_derives_127, kb_Model_derives_127, oa_82, oa_105, ow_105, os_105, oI_s, nk_neg (show a < 2147483648 by omega), nk_cl (show a < 2147483648 by omega), show a < 256 by omega, nk_succ]
        refine ih (k + 1) _ (by omega) (g1.s105 _) (by rw [upz_ne _ _ (by decide)]; exact g2) (fun i hi => ?_)
        rw [upz_eq, upz_at]
        unfold rd0 hasN
        rw [e3]
        by_cases q : i = a
        · rw [if_pos q, q, decide_eq_true rfl, Bool.or_true, if_pos rfl]
        · rw [if_neg q, decide_eq_false (fun z => q (Option.some.inj z).symm), Bool.or_false]
          exact g3 i hi
  exact key D.1 0 F (by omega) Pm.rf rfl (fun i hi => h0 i hi)
end MPS
