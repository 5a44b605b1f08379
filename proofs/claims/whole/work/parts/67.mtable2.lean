/-! ===== the model: derives, the table's loop ===== -/
theorem tbA_ok (k : Nat) : tbA k < 256 ∧ isNu (tbA k) = true := by
  unfold tbA
  split
  · exact isNu_mk (k := k / 4 % 4) (u := 2) (v := 1) (by omega) (by decide) (by decide) (by decide) (by omega)
  · exact isNu_mk (k := k / 4 % 4) (u := 1) (v := 2) (by omega) (by decide) (by decide) (by decide) (by omega)
theorem tbB_ok (k : Nat) : tbB k < 256 ∧ isNu (tbB k) = true := by
  unfold tbB
  split
  · exact isNu_mk (k := k % 4) (u := 0) (v := 2) (by omega) (by decide) (by decide) (by decide) (by omega)
  · exact isNu_mk (k := k % 4) (u := 2) (v := 0) (by omega) (by decide) (by decide) (by decide) (by omega)
theorem Pm.s106 {F F1 : Nat → Nat → Int32} (a : Pm F F1) (f : Nat → Int32) : Pm F (upz F1 106 f) := ⟨fun i hi => by rw [upz_ne _ _ (by omega)]; exact a.1 i hi, fun i hi => by rw [upz_ne _ _ (by omega)]; exact a.2.1 i hi, fun i hi => by rw [upz_ne _ _ (by decide)]; exact a.2.2.1 i hi, fun i hi => by rw [upz_ne _ _ (by decide)]; exact a.2.2.2 i hi⟩
theorem Pm.s105 {F F1 : Nat → Nat → Int32} (a : Pm F F1) (f : Nat → Int32) : Pm F (upz F1 105 f) := ⟨fun i hi => by rw [upz_ne _ _ (by omega)]; exact a.1 i hi, fun i hi => by rw [upz_ne _ _ (by omega)]; exact a.2.1 i hi, fun i hi => by rw [upz_ne _ _ (by decide)]; exact a.2.2.1 i hi, fun i hi => by rw [upz_ne _ _ (by decide)]; exact a.2.2.2 i hi⟩
section MPR
variable {d : Nat} {h : am_H} {F : Nat → Nat → Int32} {J : Nat → Nat → Int64} {V : Nat → Nat → Value} {Q : am_Q}
set_option maxRecDepth 20000 in
theorem m_tableLoop {D : dT} (hD : MK (F 84) D) (K : ∀ F' v2 v3 v4, Pm F F' → (∀ k, k < 64 → F' 106 k = tbV D.2.2.2 k) → am_W kc_Model_derives (am_cl (d + 6)) Q 75 [.ref 82, .int (nI 64), v2, v3, v4, am_dum] [] (ov h F' J V)) : am_W kc_Model_derives (am_cl (d + 6)) Q 2 [.ref 82, .int (nI 0), am_dum, am_dum, am_dum, am_dum] [] (ov h F J V) := by
  have key : ∀ j k F1 v2 v3 v4, k + j = 64 → Pm F F1 → (∀ i, i < k → F1 106 i = tbV D.2.2.2 i) → am_W kc_Model_derives (am_cl (d + 6)) Q 2 [.ref 82, .int (nI k), v2, v3, v4, am_dum] [] (ov h F1 J V) := by
    intro j
    induction j with
    | zero =>
      intro k F1 v2 v3 v4 ek g1 g2
      have ek : k = 64 := ek
      subst ek
      rw [jx_Model_derives_2]
      simp only [ax0, ex_cons, am_get, upz_at, true_and, and_true, Nat.reduceAdd, Nat.reduceLeDiff, Nat.reduceEqDiff, Nat.reduceSub, Int32.reduceOfInt, Int32.reduceAdd, Int32.reduceMul, Int32.reduceSub, ↓reduceIte, Int32.reduceLT, Int32.reduceLE, Int32.reduceToNatClampNeg, Nat.reduceMod, Nat.reduceLT, List.length_cons, List.length_nil, eq_self, true_or, or_true, and_self, implies_true, not_true_eq_false, not_false_eq_true, false_implies, true_implies, forall_const, st_goto, st_iconst, st_idiv, st_ifCond, st_if_icmp, st_iload, st_imul, st_irem, st_istore, am_put, am_nlg, kb_Model_derives_2, show ((64 : Int32) ≤ nI (64)) = (64 ≤ 64) from nk_le (a := 64) (b := 64) (by omega) (by omega)]
      exact K F1 v2 v3 v4 g1 g2
    | succ j ih =>
      intro k F1 v2 v3 v4 ek g1 g2
      obtain ⟨hA, nA⟩ := tbA_ok k
      obtain ⟨hB, nB⟩ := tbB_ok k
      have hD1 := hD.pm g1
      have t53 : ∀ c, 64 * (k % 4) + c = tbB k → ∀ v4, am_W kc_Model_derives (am_cl (d + 6)) Q 53 [.ref 82, .int (nI k), .int (nI (k / 16)), .int (nI (tbA k)), v4, am_dum] [.int (nI c), .int (nI (64 * (k % 4)))] (ov h F1 J V) := by
        intro c ec v4
        simp only [ax0, ex_cons, am_get, upz_at, true_and, and_true, Nat.reduceAdd, Nat.reduceLeDiff, Nat.reduceEqDiff, Nat.reduceSub, Int32.reduceOfInt, Int32.reduceAdd, Int32.reduceMul, Int32.reduceSub, ↓reduceIte, Int32.reduceLT, Int32.reduceLE, Int32.reduceToNatClampNeg, Nat.reduceMod, Nat.reduceLT, List.length_cons, List.length_nil, eq_self, true_or, or_true, and_self, implies_true, not_true_eq_false, not_false_eq_true, false_implies, true_implies, forall_const, st_aload, st_getfield, st_goto, st_iadd, st_iastore, st_iinc, st_iload, st_in3, st_istore, am_put, am_nlg, jx_Model_derives_53, kb_Model_derives_53, og_82_41, oo_82, oa_82, oa_106, ow_106, os_106, nk_add (64 * (k % 4)) c, ec]
        refine m_concludesQ hD1 hA hB nA nB (fun F2 h2 => ?_)
        simp only [ax0, ex_cons, am_get, upz_at, true_and, and_true, Nat.reduceAdd, Nat.reduceLeDiff, Nat.reduceEqDiff, Nat.reduceSub, Int32.reduceOfInt, Int32.reduceAdd, Int32.reduceMul, Int32.reduceSub, ↓reduceIte, Int32.reduceLT, Int32.reduceLE, Int32.reduceToNatClampNeg, Nat.reduceMod, Nat.reduceLT, List.length_cons, List.length_nil, eq_self, true_or, or_true, and_self, implies_true, not_true_eq_false, not_false_eq_true, false_implies, true_implies, forall_const, st_aload, st_getfield, st_goto, st_iadd, st_iastore, st_iinc, st_iload, st_in3, st_istore, am_put, am_nlg, jx_Model_derives_53, kb_Model_derives_53, og_82_41, oo_82, oa_82, oa_106, ow_106, os_106, oa_106, ow_106, os_106, nk_neg (show k < 2147483648 by omega), nk_cl (show k < 2147483648 by omega), show k < 64 by omega, nk_succ]
        refine ih (k + 1) _ _ _ _ (by omega) ((g1.tr h2.1).s106 _) (fun i hi => ?_)
        rw [upz_eq, upz_at]
        by_cases q : i = k
        · rw [if_pos q, q]; rfl
        · rw [if_neg q, h2.2.2]; exact g2 i (by omega)
      have t34 : ∀ c, 64 * (k / 4 % 4) + c = tbA k → ∀ v3, am_W kc_Model_derives (am_cl (d + 6)) Q 34 [.ref 82, .int (nI k), .int (nI (k / 16)), v3, v4, am_dum] [.int (nI c), .int (nI (64 * (k / 4 % 4)))] (ov h F1 J V) := by
        intro c ec v3
        simp only [ax0, ex_cons, am_get, upz_at, true_and, and_true, Nat.reduceAdd, Nat.reduceLeDiff, Nat.reduceEqDiff, Nat.reduceSub, Int32.reduceOfInt, Int32.reduceAdd, Int32.reduceMul, Int32.reduceSub, ↓reduceIte, Int32.reduceLT, Int32.reduceLE, Int32.reduceToNatClampNeg, Nat.reduceMod, Nat.reduceLT, List.length_cons, List.length_nil, eq_self, true_or, or_true, and_self, implies_true, not_true_eq_false, not_false_eq_true, false_implies, true_implies, forall_const, st_goto, st_goto_w, st_iadd, st_iconst, st_if_icmp, st_iload, st_imul, st_irem, st_istore, am_put, am_nlg, jx_Model_derives_34, kb_Model_derives_34, jx_Model_derives_51, kb_Model_derives_51, nk_add (64 * (k / 4 % 4)) c, ec, show ((4 : Int32) = 0) = False from ax_f (by decide), show nI (k) / (4 : Int32) = nI ((k) / 4) from nk_div (a := k) (b := 4) (by omega) (by decide) (by decide), show nI (k) - nI ((k) / 4) * (4 : Int32) = nI ((k) % 4) from nk_rm (a := k) (b := 4) (by omega) (by decide) (by decide), show (64 : Int32) * nI (k % 4) = nI (64 * (k % 4)) from nk_mul (64) (k % 4), show ((2 : Int32) ≤ nI (k / 16)) = (2 ≤ k / 16) from nk_le (a := 2) (b := k / 16) (by omega) (by omega)]
        refine And.intro (fun q => ?_) (fun q => ?_)
        · exact t53 16 (by unfold tbB; rw [if_neg (by omega)]) v4
        · exact t53 2 (by unfold tbB; rw [if_pos (by omega)]) v4
      rw [jx_Model_derives_2]
      simp only [ax0, ex_cons, am_get, upz_at, true_and, and_true, Nat.reduceAdd, Nat.reduceLeDiff, Nat.reduceEqDiff, Nat.reduceSub, Int32.reduceOfInt, Int32.reduceAdd, Int32.reduceMul, Int32.reduceSub, ↓reduceIte, Int32.reduceLT, Int32.reduceLE, Int32.reduceToNatClampNeg, Nat.reduceMod, Nat.reduceLT, List.length_cons, List.length_nil, eq_self, true_or, or_true, and_self, implies_true, not_true_eq_false, not_false_eq_true, false_implies, true_implies, forall_const, st_goto, st_goto_w, st_iconst, st_idiv, st_ifCond, st_if_icmp, st_iload, st_imul, st_irem, st_istore, am_put, am_nlg, kb_Model_derives_2, jx_Model_derives_32, kb_Model_derives_32, show ((64 : Int32) ≤ nI (k)) = (64 ≤ k) from nk_le (a := 64) (b := k) (by omega) (by omega), show ¬ 64 ≤ k by omega, show ((16 : Int32) = 0) = False from ax_f (by decide), show nI (k) / (16 : Int32) = nI ((k) / 16) from nk_div (a := k) (b := 16) (by omega) (by decide) (by decide), show nI (k) - nI ((k) / 16) * (16 : Int32) = nI ((k) % 16) from nk_rm (a := k) (b := 16) (by omega) (by decide) (by decide), show ((4 : Int32) = 0) = False from ax_f (by decide), show nI (k) / (4 : Int32) = nI ((k) / 4) from nk_div (a := k) (b := 4) (by omega) (by decide) (by decide), show nI (k) - nI ((k) / 4) * (4 : Int32) = nI ((k) % 4) from nk_rm (a := k) (b := 4) (by omega) (by decide) (by decide), show ((4 : Int32) = 0) = False from ax_f (by decide), show nI (k / 4) / (4 : Int32) = nI ((k / 4) / 4) from nk_div (a := k / 4) (b := 4) (by omega) (by decide) (by decide), show nI (k / 4) - nI ((k / 4) / 4) * (4 : Int32) = nI ((k / 4) % 4) from nk_rm (a := k / 4) (b := 4) (by omega) (by decide) (by decide), show (64 : Int32) * nI (k / 4 % 4) = nI (64 * (k / 4 % 4)) from nk_mul (64) (k / 4 % 4), show ((2 : Int32) = 0) = False from ax_f (by decide), show nI (k / 16) / (2 : Int32) = nI ((k / 16) / 2) from nk_div (a := k / 16) (b := 2) (by omega) (by decide) (by decide), show nI (k / 16) - nI ((k / 16) / 2) * (2 : Int32) = nI ((k / 16) % 2) from nk_rm (a := k / 16) (b := 2) (by omega) (by decide) (by decide), show (nI (k / 16 % 2) = 0) = (k / 16 % 2 = 0) from nk_eq (b := 0) (by omega) (by decide)]
      refine And.intro (fun q => ?_) (fun q => ?_)
      · exact t34 10 (by unfold tbA; rw [if_neg q]) v3
      · exact t34 17 (by unfold tbA; rw [if_pos (Decidable.not_not.mp q)]) v3
  exact key 64 0 F _ _ _ (by decide) Pm.rf (fun i hi => absurd hi (Nat.not_lt_zero i))
end MPR
