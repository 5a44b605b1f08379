/-! ===== the model: derives, a round ===== -/
def swA (ex : Bool) (rd : Int32) : Nat → Nat → (Nat → Int32) × Bool → (Nat → Int32) × Bool
  | 0, _, S => S
  | j + 1, a, S => swA ex rd j (a + 1) (if rOl S.1 rd a then swB ex rd a 256 0 S else S)
section MPU
variable {d : Nat} {h : am_H} {F : Nat → Nat → Int32} {J : Nat → Nat → Int64} {V : Nat → Nat → Value} {Q : am_Q}
set_option maxRecDepth 20000 in
theorem m_swA {ex : Bool} (ht : ∀ k, k < 64 → F 106 k = tbV ex k) {rd : Int32} : ∀ j a F1 S v4 v5, a + j = 256 → Pm F F1 → F1 106 = F 106 → F1 105 = S.1 → (∀ x, x < 256 → ¬ S.1 x = -1 → isNu x = true) → (∀ F' v4 v5, Pm F F' → F' 106 = F 106 → F' 105 = (swA ex rd j a S).1 → (∀ x, x < 256 → ¬ (swA ex rd j a S).1 x = -1 → isNu x = true) → am_W kc_Model_derives (am_cl (d + 6)) Q 266 [.ref 82, .int rd, .int (b2i (swA ex rd j a S).2), .int (nI 256), v4, v5] [] (ov h F' J V)) → am_W kc_Model_derives (am_cl (d + 6)) Q 148 [.ref 82, .int rd, .int (b2i S.2), .int (nI a), v4, v5] [] (ov h F1 J V) := by
  intro j
  induction j with
  | zero =>
    intro a F1 S v4 v5 eb g1 g2 g3 g4 K
    have eb : a = 256 := eb
    subst eb
    rw [jx_Model_derives_148]
    simp only [ax0, ex_cons, am_get, upz_at, true_and, and_true, Nat.reduceAdd, Nat.reduceLeDiff, Nat.reduceEqDiff, Nat.reduceSub, Int32.reduceOfInt, Int32.reduceAdd, Int32.reduceMul, Int32.reduceSub, ↓reduceIte, Int32.reduceLT, Int32.reduceLE, Int32.reduceToNatClampNeg, Nat.reduceMod, Nat.reduceLT, List.length_cons, List.length_nil, eq_self, true_or, or_true, and_self, implies_true, not_true_eq_false, not_false_eq_true, false_implies, true_implies, forall_const, st_aload, st_getfield, st_goto, st_iaload, st_iconst, st_if_icmp, st_iload, kb_Model_derives_148, og_82_40, oa_82, oa_105, or_105, show ((256 : Int32) ≤ nI (256)) = (256 ≤ 256) from nk_le (a := 256) (b := 256) (by omega) (by omega)]
    exact K F1 v4 v5 g1 g2 g3 g4
  | succ j ih =>
    intro a F1 S v4 v5 eb g1 g2 g3 g4 K
    unfold swA at K
    have ha : a < 256 := by omega
    have no : rOl S.1 rd a = false → am_W kc_Model_derives (am_cl (d + 6)) Q 260 [.ref 82, .int rd, .int (b2i S.2), .int (nI a), v4, v5] [] (ov h F1 J V) := by
      intro e
      rw [e, if_neg Bool.false_ne_true] at K
      simp only [ax0, ex_cons, am_get, upz_at, true_and, and_true, Nat.reduceAdd, Nat.reduceLeDiff, Nat.reduceEqDiff, Nat.reduceSub, Int32.reduceOfInt, Int32.reduceAdd, Int32.reduceMul, Int32.reduceSub, ↓reduceIte, Int32.reduceLT, Int32.reduceLE, Int32.reduceToNatClampNeg, Nat.reduceMod, Nat.reduceLT, List.length_cons, List.length_nil, eq_self, true_or, or_true, and_self, implies_true, not_true_eq_false, not_false_eq_true, false_implies, true_implies, forall_const, st_goto, st_iinc, am_put, am_nlg, jx_Model_derives_260, kb_Model_derives_260, nk_succ]
      exact ih (a + 1) F1 S v4 v5 (by omega) g1 g2 g3 g4 K
    rw [jx_Model_derives_148]
    simp only [ax0, ex_cons, am_get, upz_at, true_and, and_true, Nat.reduceAdd, Nat.reduceLeDiff, Nat.reduceEqDiff, Nat.reduceSub, Int32.reduceOfInt, Int32.reduceAdd, Int32.reduceMul, Int32.reduceSub, ↓reduceIte, Int32.reduceLT, Int32.reduceLE, Int32.reduceToNatClampNeg, Nat.reduceMod, Nat.reduceLT, List.length_cons, List.length_nil, eq_self, true_or, or_true, and_self, implies_true, not_true_eq_false, not_false_eq_true, false_implies, true_implies, forall_const, st_aload, st_getfield, st_goto, st_iaload, st_iconst, st_if_icmp, st_iload, kb_Model_derives_148, og_82_40, oa_82, oa_105, or_105, show ((256 : Int32) ≤ nI (a)) = (256 ≤ a) from nk_le (a := 256) (b := a) (by omega) (by omega), show ¬ 256 ≤ a by omega, nk_neg (show a < 2147483648 by omega), nk_cl (show a < 2147483648 by omega), ha, g3]
    refine And.intro (fun q => ?_) (fun q => And.intro (fun q2 => ?_) (fun q2 => ?_))
    · exact no (by unfold rOl; rw [decide_eq_true q]; rfl)
    · have ho : rOl S.1 rd a = true := by unfold rOl; rw [decide_eq_false q, decide_eq_false q2]; rfl
      rw [ho, if_pos rfl] at K
      simp only [ax0, ex_cons, am_get, upz_at, true_and, and_true, Nat.reduceAdd, Nat.reduceLeDiff, Nat.reduceEqDiff, Nat.reduceSub, Int32.reduceOfInt, Int32.reduceAdd, Int32.reduceMul, Int32.reduceSub, ↓reduceIte, Int32.reduceLT, Int32.reduceLE, Int32.reduceToNatClampNeg, Nat.reduceMod, Nat.reduceLT, List.length_cons, List.length_nil, eq_self, true_or, or_true, and_self, implies_true, not_true_eq_false, not_false_eq_true, false_implies, true_implies, forall_const, st_goto_w, st_iconst, st_istore, am_put, am_nlg, jx_Model_derives_178, kb_Model_derives_178]
      refine m_swB ht ha (g4 a ha q) 256 0 F1 S v5 (by decide) g1 g2 g3 g4 (fun F2 v5 q1 q2 q3 q4 => ?_)
      simp only [ax0, ex_cons, am_get, upz_at, true_and, and_true, Nat.reduceAdd, Nat.reduceLeDiff, Nat.reduceEqDiff, Nat.reduceSub, Int32.reduceOfInt, Int32.reduceAdd, Int32.reduceMul, Int32.reduceSub, ↓reduceIte, Int32.reduceLT, Int32.reduceLE, Int32.reduceToNatClampNeg, Nat.reduceMod, Nat.reduceLT, List.length_cons, List.length_nil, eq_self, true_or, or_true, and_self, implies_true, not_true_eq_false, not_false_eq_true, false_implies, true_implies, forall_const, st_goto, st_iinc, am_put, am_nlg, jx_Model_derives_260, kb_Model_derives_260, nk_succ]
      exact ih (a + 1) F2 _ _ v5 (by omega) q1 q2 q3 q4 K
    · exact no (by unfold rOl; rw [decide_eq_true (Decidable.not_not.mp q2), Bool.not_true, Bool.and_false])
end MPU
