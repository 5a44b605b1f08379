/-! ===== the model: derives, a sweep ===== -/
section MPT
variable {d : Nat} {h : am_H} {F : Nat → Nat → Int32} {J : Nat → Nat → Int64} {V : Nat → Nat → Value} {Q : am_Q}
set_option maxRecDepth 20000 in
theorem m_swB {ex : Bool} (ht : ∀ k, k < 64 → F 106 k = tbV ex k) {rd : Int32} {a : Nat} (ha : a < 256) (na : isNu a = true) : ∀ j b F1 S v5, b + j = 256 → Pm F F1 → F1 106 = F 106 → F1 105 = S.1 → (∀ x, x < 256 → ¬ S.1 x = -1 → isNu x = true) → (∀ F' v5, Pm F F' → F' 106 = F 106 → F' 105 = (swB ex rd a j b S).1 → (∀ x, x < 256 → ¬ (swB ex rd a j b S).1 x = -1 → isNu x = true) → am_W kc_Model_derives (am_cl (d + 6)) Q 260 [.ref 82, .int rd, .int (b2i (swB ex rd a j b S).2), .int (nI a), .int (nI 256), v5] [] (ov h F' J V)) → am_W kc_Model_derives (am_cl (d + 6)) Q 181 [.ref 82, .int rd, .int (b2i S.2), .int (nI a), .int (nI b), v5] [] (ov h F1 J V) := by
  intro j
  induction j with
  | zero =>
    intro b F1 S v5 eb g1 g2 g3 g4 K
    have eb : b = 256 := eb
    subst eb
    rw [jx_Model_derives_181]
    simp only [ax0, ex_cons, am_get, upz_at, true_and, and_true, Nat.reduceAdd, Nat.reduceLeDiff, Nat.reduceEqDiff, Nat.reduceSub, Int32.reduceOfInt, Int32.reduceAdd, Int32.reduceMul, Int32.reduceSub, ↓reduceIte, Int32.reduceLT, Int32.reduceLE, Int32.reduceToNatClampNeg, Nat.reduceMod, Nat.reduceLT, List.length_cons, List.length_nil, eq_self, true_or, or_true, and_self, implies_true, not_true_eq_false, not_false_eq_true, false_implies, true_implies, forall_const, st_aload, st_getfield, st_goto_w, st_iaload, st_iconst, st_if_icmp, st_iload, kb_Model_derives_181, og_82_40, oa_82, oa_105, or_105, show ((256 : Int32) ≤ nI (256)) = (256 ≤ 256) from nk_le (a := 256) (b := 256) (by omega) (by omega)]
    exact K F1 v5 g1 g2 g3 g4
  | succ j ih =>
    intro b F1 S v5 eb g1 g2 g3 g4 K
    unfold swB at K
    have hb : b < 256 := by omega
    have no : stB ex rd a b S = S → ∀ v5, am_W kc_Model_derives (am_cl (d + 6)) Q 254 [.ref 82, .int rd, .int (b2i S.2), .int (nI a), .int (nI b), v5] [] (ov h F1 J V) := by
      intro e v5
      rw [e] at K
      simp only [ax0, ex_cons, am_get, upz_at, true_and, and_true, Nat.reduceAdd, Nat.reduceLeDiff, Nat.reduceEqDiff, Nat.reduceSub, Int32.reduceOfInt, Int32.reduceAdd, Int32.reduceMul, Int32.reduceSub, ↓reduceIte, Int32.reduceLT, Int32.reduceLE, Int32.reduceToNatClampNeg, Nat.reduceMod, Nat.reduceLT, List.length_cons, List.length_nil, eq_self, true_or, or_true, and_self, implies_true, not_true_eq_false, not_false_eq_true, false_implies, true_implies, forall_const, st_goto, st_iinc, am_put, am_nlg, jx_Model_derives_254, kb_Model_derives_254, nk_succ]
      exact ih (b + 1) F1 S v5 (by omega) g1 g2 g3 g4 K
    rw [jx_Model_derives_181]
    simp only [ax0, ex_cons, am_get, upz_at, true_and, and_true, Nat.reduceAdd, Nat.reduceLeDiff, Nat.reduceEqDiff, Nat.reduceSub, Int32.reduceOfInt, Int32.reduceAdd, Int32.reduceMul, Int32.reduceSub, ↓reduceIte, Int32.reduceLT, Int32.reduceLE, Int32.reduceToNatClampNeg, Nat.reduceMod, Nat.reduceLT, List.length_cons, List.length_nil, eq_self, true_or, or_true, and_self, implies_true, not_true_eq_false, not_false_eq_true, false_implies, true_implies, forall_const, st_aload, st_getfield, st_goto, st_goto_w, st_iaload, st_iconst, st_if_icmp, st_iload, kb_Model_derives_181, og_82_40, jx_Model_derives_211, kb_Model_derives_211, oa_82, oa_105, or_105, show ((256 : Int32) ≤ nI (b)) = (256 ≤ b) from nk_le (a := 256) (b := b) (by omega) (by omega), show ¬ 256 ≤ b by omega, nk_neg (show b < 2147483648 by omega), nk_cl (show b < 2147483648 by omega), hb, g3]
    refine And.intro (fun q => ?_) (fun q => And.intro (fun q2 => ?_) (fun q2 => ?_))
    · simp only [ax0, ex_cons, am_get, upz_at, true_and, and_true, Nat.reduceAdd, Nat.reduceLeDiff, Nat.reduceEqDiff, Nat.reduceSub, Int32.reduceOfInt, Int32.reduceAdd, Int32.reduceMul, Int32.reduceSub, ↓reduceIte, Int32.reduceLT, Int32.reduceLE, Int32.reduceToNatClampNeg, Nat.reduceMod, Nat.reduceLT, List.length_cons, List.length_nil, eq_self, true_or, or_true, and_self, implies_true, not_true_eq_false, not_false_eq_true, false_implies, true_implies, forall_const, st_aload, st_getfield, st_goto, st_iaload, st_iconst, st_if_icmp, st_iload, st_istore, am_put, am_nlg, jx_Model_derives_222, kb_Model_derives_222, og_82_40, oa_82, oa_105, or_105]
      exact no (by unfold stB rOl; rw [decide_eq_true q]; exact if_neg Bool.false_ne_true) _
    · simp only [ax0, ex_cons, am_get, upz_at, true_and, and_true, Nat.reduceAdd, Nat.reduceLeDiff, Nat.reduceEqDiff, Nat.reduceSub, Int32.reduceOfInt, Int32.reduceAdd, Int32.reduceMul, Int32.reduceSub, ↓reduceIte, Int32.reduceLT, Int32.reduceLE, Int32.reduceToNatClampNeg, Nat.reduceMod, Nat.reduceLT, List.length_cons, List.length_nil, eq_self, true_or, or_true, and_self, implies_true, not_true_eq_false, not_false_eq_true, false_implies, true_implies, forall_const, st_aload, st_goto_w, st_iload, st_in3, jx_Model_derives_215, kb_Model_derives_215, oo_82, oa_82]
      have nb := g4 b hb q
      refine m_concluded (ex := ex) (fun k hk => by rw [g2]; exact ht k hk) ha hb na nb ?_
      have ho : rOl S.1 rd b = true := by unfold rOl; rw [decide_eq_false q, decide_eq_false q2]; rfl
      rcases cdd_or (ex := ex) na nb with z | ⟨n, z1, z2, z3⟩
      · rw [z]
        simp only [ax0, ex_cons, am_get, upz_at, true_and, and_true, Nat.reduceAdd, Nat.reduceLeDiff, Nat.reduceEqDiff, Nat.reduceSub, Int32.reduceOfInt, Int32.reduceAdd, Int32.reduceMul, Int32.reduceSub, ↓reduceIte, Int32.reduceLT, Int32.reduceLE, Int32.reduceToNatClampNeg, Nat.reduceMod, Nat.reduceLT, List.length_cons, List.length_nil, eq_self, true_or, or_true, and_self, implies_true, not_true_eq_false, not_false_eq_true, false_implies, true_implies, forall_const, st_aload, st_getfield, st_goto, st_goto_w, st_iaload, st_iconst, st_if_icmp, st_iload, st_in3, st_istore, am_put, am_nlg, jx_Model_derives_215, kb_Model_derives_215, oo_82, jx_Model_derives_222, kb_Model_derives_222, og_82_40, oa_82, oa_105, or_105]
        exact no (by unfold stB; rw [ho, decide_eq_true z]; exact if_neg Bool.false_ne_true) _
      · rw [z3]
        have zn : ¬ cdd ex a b = -1 := by rw [z3, nI_neg1 (show n < 2147483648 by omega)]; exact not_false
        simp only [ax0, ex_cons, am_get, upz_at, true_and, and_true, Nat.reduceAdd, Nat.reduceLeDiff, Nat.reduceEqDiff, Nat.reduceSub, Int32.reduceOfInt, Int32.reduceAdd, Int32.reduceMul, Int32.reduceSub, ↓reduceIte, Int32.reduceLT, Int32.reduceLE, Int32.reduceToNatClampNeg, Nat.reduceMod, Nat.reduceLT, List.length_cons, List.length_nil, eq_self, true_or, or_true, and_self, implies_true, not_true_eq_false, not_false_eq_true, false_implies, true_implies, forall_const, st_aload, st_getfield, st_goto, st_goto_w, st_iaload, st_iconst, st_if_icmp, st_iload, st_in3, st_istore, am_put, am_nlg, jx_Model_derives_215, kb_Model_derives_215, oo_82, jx_Model_derives_222, kb_Model_derives_222, og_82_40, oa_82, oa_105, or_105, nI_neg1 (show n < 2147483648 by omega), nk_neg (show n < 2147483648 by omega), nk_cl (show n < 2147483648 by omega), z1, g3]
        refine And.intro (fun q3 => ?_) (fun q3 => ?_)
        · have es : stB ex rd a b S = (upz S.1 n rd, true) := by
            unfold stB
            rw [ho, decide_eq_false zn, z3, nk_cl (show n < 2147483648 by omega), decide_eq_true q3]
            exact if_pos rfl
          rw [es] at K
          simp only [ax0, ex_cons, am_get, upz_at, true_and, and_true, Nat.reduceAdd, Nat.reduceLeDiff, Nat.reduceEqDiff, Nat.reduceSub, Int32.reduceOfInt, Int32.reduceAdd, Int32.reduceMul, Int32.reduceSub, ↓reduceIte, Int32.reduceLT, Int32.reduceLE, Int32.reduceToNatClampNeg, Nat.reduceMod, Nat.reduceLT, List.length_cons, List.length_nil, eq_self, true_or, or_true, and_self, implies_true, not_true_eq_false, not_false_eq_true, false_implies, true_implies, forall_const, st_aload, st_getfield, st_goto, st_goto_w, st_iastore, st_iconst, st_iinc, st_iload, st_istore, am_put, am_nlg, jx_Model_derives_244, kb_Model_derives_244, og_82_40, jx_Model_derives_254, kb_Model_derives_254, oa_82, oa_105, ow_105, os_105, nk_neg (show n < 2147483648 by omega), nk_cl (show n < 2147483648 by omega), z1, g3, nk_succ]
          refine ih (b + 1) _ (upz S.1 n rd, true) _ (by omega) (g1.s105 _) (by rw [upz_ne _ _ (by decide)]; exact g2) (by rw [upz_eq]) (fun x hx hq => ?_) K
          by_cases e : x = n
          · rw [e]; exact z2
          · exact g4 x hx (fun w => hq (by show upz S.1 n rd x = -1; rw [upz_ne _ _ e]; exact w))
        · exact no (by unfold stB; rw [z3, nk_cl (show n < 2147483648 by omega), decide_eq_false q3, Bool.and_false]; exact if_neg Bool.false_ne_true) _
    · simp only [ax0, ex_cons, am_get, upz_at, true_and, and_true, Nat.reduceAdd, Nat.reduceLeDiff, Nat.reduceEqDiff, Nat.reduceSub, Int32.reduceOfInt, Int32.reduceAdd, Int32.reduceMul, Int32.reduceSub, ↓reduceIte, Int32.reduceLT, Int32.reduceLE, Int32.reduceToNatClampNeg, Nat.reduceMod, Nat.reduceLT, List.length_cons, List.length_nil, eq_self, true_or, or_true, and_self, implies_true, not_true_eq_false, not_false_eq_true, false_implies, true_implies, forall_const, st_aload, st_getfield, st_goto, st_iaload, st_iconst, st_if_icmp, st_iload, st_istore, am_put, am_nlg, jx_Model_derives_222, kb_Model_derives_222, og_82_40, oa_82, oa_105, or_105]
      exact no (by unfold stB rOl; rw [decide_eq_true (Decidable.not_not.mp q2), Bool.not_true, Bool.and_false]; exact if_neg Bool.false_ne_true) _
end MPT
