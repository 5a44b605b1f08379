/-! ===== the model: derives, the table ===== -/
def Pq (F F' : Nat → Nat → Int32) : Prop := Pm F F' ∧ F' 105 = F 105 ∧ F' 106 = F 106
theorem Pq.rf {F : Nat → Nat → Int32} : Pq F F := ⟨Pm.rf, rfl, rfl⟩
theorem Pq.tr {F F1 F2 : Nat → Nat → Int32} (a : Pq F F1) (b : Pq F1 F2) : Pq F F2 := ⟨a.1.tr b.1, b.2.1.trans a.2.1, b.2.2.trans a.2.2⟩
theorem St.pq {F F1 : Nat → Nat → Int32} (a : St F F1) : Pq F F1 := ⟨a.pm, a.1 105 (by decide) (by decide) (by decide) (by decide) (by decide), a.1 106 (by decide) (by decide) (by decide) (by decide) (by decide)⟩
theorem S13.pq {F F1 : Nat → Nat → Int32} (a : S13 F F1) : Pq F F1 := ⟨a.pm, a.1 105 (by decide) (by decide), a.1 106 (by decide) (by decide)⟩
theorem Pq.s100 {F F1 : Nat → Nat → Int32} (a : Pq F F1) (f : Nat → Int32) : Pq F (upz F1 100 f) := ⟨a.1.s100 f, by rw [upz_ne _ _ (by decide)]; exact a.2.1, by rw [upz_ne _ _ (by decide)]; exact a.2.2⟩
section MPQ
variable {d : Nat} {h : am_H} {F : Nat → Nat → Int32} {J : Nat → Nat → Int64} {V : Nat → Nat → Value} {Q : am_Q}
theorem m_fNQ {D : dT} {T : tT} (hD : MK (F 84) D) (hT : MT F T) (hw : T.2.1.length ≤ 40) {n : Nat} (hn : n < 256) (K : ∀ F', MT F' T → MK (F' 84) D → Pq F F' → Q (some (.int (b2i (fN T D.2.2.2 n)))) (ov h F' J V)) : am_cl (d + 5) 250 [.ref 82, .int (nI n)] (ov h F J V) Q :=
  m_followsNumber hT hw hD.2.2.2.1 hn (fun F' h1 h2 f => K _ (h1.s100 f) (hD.pm (h2.pm.s100 f)) (h2.pq.s100 f))
set_option maxRecDepth 20000 in
theorem m_concludesQ {D : dT} (hD : MK (F 84) D) {a b : Nat} (ha : a < 256) (hb : b < 256) (na : isNu a = true) (nb : isNu b = true) (K : ∀ F', Pq F F' → Q (some (.int (ccN a b D.2.2.2))) (ov h F' J V)) : am_cl (d + 6) 268 [.ref 82, .int (nI a), .int (nI b)] (ov h F J V) Q := by
  simp only [ax0, ex_cons, am_get, upz_at, true_and, and_true, Nat.reduceAdd, Nat.reduceLeDiff, Nat.reduceEqDiff, Nat.reduceSub, Int32.reduceOfInt, Int32.reduceAdd, Int32.reduceMul, Int32.reduceSub, ↓reduceIte, Int32.reduceLT, Int32.reduceLE, Int32.reduceToNatClampNeg, Nat.reduceMod, Nat.reduceLT, List.length_cons, List.length_nil, eq_self, true_or, or_true, and_self, implies_true, not_true_eq_false, not_false_eq_true, false_implies, true_implies, forall_const, st_aload, st_goto_w, st_iconst, st_iload, st_in1, st_in2, st_in3, st_st2, st_istore, am_put, am_nlg, kb_Model_concludes_0, oo_82, oa_82, cx_Model_concludes]
  refine m_middle ha hb na nb ?_
  simp only [ax0, ex_cons, am_get, upz_at, true_and, and_true, Nat.reduceAdd, Nat.reduceLeDiff, Nat.reduceEqDiff, Nat.reduceSub, Int32.reduceOfInt, Int32.reduceAdd, Int32.reduceMul, Int32.reduceSub, ↓reduceIte, Int32.reduceLT, Int32.reduceLE, Int32.reduceToNatClampNeg, Nat.reduceMod, Nat.reduceLT, List.length_cons, List.length_nil, eq_self, true_or, or_true, and_self, implies_true, not_true_eq_false, not_false_eq_true, false_implies, true_implies, forall_const, st_aload, st_goto_w, st_iconst, st_iload, st_in1, st_in2, st_in3, st_st2, st_istore, am_put, am_nlg, kb_Model_concludes_0, oo_82, oa_82]
  refine m_empties (fun F1 g1 g2 => ?_)
  simp only [ax0, ex_cons, am_get, upz_at, true_and, and_true, Nat.reduceAdd, Nat.reduceLeDiff, Nat.reduceEqDiff, Nat.reduceSub, Int32.reduceOfInt, Int32.reduceAdd, Int32.reduceMul, Int32.reduceSub, ↓reduceIte, Int32.reduceLT, Int32.reduceLE, Int32.reduceToNatClampNeg, Nat.reduceMod, Nat.reduceLT, List.length_cons, List.length_nil, eq_self, true_or, or_true, and_self, implies_true, not_true_eq_false, not_false_eq_true, false_implies, true_implies, forall_const, st_aload, st_goto_w, st_iconst, st_iload, st_in1, st_in2, st_in3, st_st2, st_istore, am_put, am_nlg, kb_Model_concludes_0, oo_82, oa_82]
  refine m_simple ha (fun F2 g3 g4 => ?_)
  have g1 := g1.s13 g4
  have hP2 := g2.pq.tr g4.pq
  have hD2 := hD.pm hP2.1
  simp only [ax0, ex_cons, am_get, upz_at, true_and, and_true, Nat.reduceAdd, Nat.reduceLeDiff, Nat.reduceEqDiff, Nat.reduceSub, Int32.reduceOfInt, Int32.reduceAdd, Int32.reduceMul, Int32.reduceSub, ↓reduceIte, Int32.reduceLT, Int32.reduceLE, Int32.reduceToNatClampNeg, Nat.reduceMod, Nat.reduceLT, List.length_cons, List.length_nil, eq_self, true_or, or_true, and_self, implies_true, not_true_eq_false, not_false_eq_true, false_implies, true_implies, forall_const, st_aload, st_goto_w, st_iconst, st_iload, st_in1, st_in2, st_in3, st_st2, st_istore, am_put, am_nlg, kb_Model_concludes_0, oo_82, oa_82]
  refine m_isTold hD2.2.2.2.1 ?_
  simp only [ax0, ex_cons, am_get, upz_at, true_and, and_true, Nat.reduceAdd, Nat.reduceLeDiff, Nat.reduceEqDiff, Nat.reduceSub, Int32.reduceOfInt, Int32.reduceAdd, Int32.reduceMul, Int32.reduceSub, ↓reduceIte, Int32.reduceLT, Int32.reduceLE, Int32.reduceToNatClampNeg, Nat.reduceMod, Nat.reduceLT, List.length_cons, List.length_nil, eq_self, true_or, or_true, and_self, implies_true, not_true_eq_false, not_false_eq_true, false_implies, true_implies, forall_const, st_aload, st_goto_w, st_iconst, st_iload, st_in1, st_in2, st_in3, st_st2, st_istore, am_put, am_nlg, kb_Model_concludes_0, oo_82, oa_82]
  refine m_tellsOf (s := 13) g1 (by decide) (by decide) g3 (fun F3 g5 g6 => ?_)
  simp only [ax0, ex_cons, am_get, upz_at, true_and, and_true, Nat.reduceAdd, Nat.reduceLeDiff, Nat.reduceEqDiff, Nat.reduceSub, Int32.reduceOfInt, Int32.reduceAdd, Int32.reduceMul, Int32.reduceSub, ↓reduceIte, Int32.reduceLT, Int32.reduceLE, Int32.reduceToNatClampNeg, Nat.reduceMod, Nat.reduceLT, List.length_cons, List.length_nil, eq_self, true_or, or_true, and_self, implies_true, not_true_eq_false, not_false_eq_true, false_implies, true_implies, forall_const, st_aload, st_goto_w, st_iconst, st_iload, st_in1, st_in2, st_in3, st_st2, st_istore, am_put, am_nlg, kb_Model_concludes_0, oo_82, oa_82]
  refine m_simple hb (fun F4 g7 g8 => ?_)
  have g5 := g5.s13 g8
  have hP4 := (hP2.tr g6.pq).tr g8.pq
  have hD4 := hD.pm hP4.1
  simp only [ax0, ex_cons, am_get, upz_at, true_and, and_true, Nat.reduceAdd, Nat.reduceLeDiff, Nat.reduceEqDiff, Nat.reduceSub, Int32.reduceOfInt, Int32.reduceAdd, Int32.reduceMul, Int32.reduceSub, ↓reduceIte, Int32.reduceLT, Int32.reduceLE, Int32.reduceToNatClampNeg, Nat.reduceMod, Nat.reduceLT, List.length_cons, List.length_nil, eq_self, true_or, or_true, and_self, implies_true, not_true_eq_false, not_false_eq_true, false_implies, true_implies, forall_const, st_aload, st_goto_w, st_iconst, st_iload, st_in1, st_in2, st_in3, st_st2, st_istore, am_put, am_nlg, kb_Model_concludes_0, oo_82, oa_82]
  refine m_isTold hD4.2.2.2.1 ?_
  simp only [ax0, ex_cons, am_get, upz_at, true_and, and_true, Nat.reduceAdd, Nat.reduceLeDiff, Nat.reduceEqDiff, Nat.reduceSub, Int32.reduceOfInt, Int32.reduceAdd, Int32.reduceMul, Int32.reduceSub, ↓reduceIte, Int32.reduceLT, Int32.reduceLE, Int32.reduceToNatClampNeg, Nat.reduceMod, Nat.reduceLT, List.length_cons, List.length_nil, eq_self, true_or, or_true, and_self, implies_true, not_true_eq_false, not_false_eq_true, false_implies, true_implies, forall_const, st_aload, st_goto_w, st_iconst, st_iload, st_in1, st_in2, st_in3, st_st2, st_istore, am_put, am_nlg, kb_Model_concludes_0, oo_82, oa_82]
  refine m_tellsOf (s := 13) g5 (by have h1 := tellz_len tE (clR (rS a)) D.2.2.2; have h3 : tE.2.1.length = 0 := rfl; omega) (by decide) g7 (fun F5 g9 g10 => ?_)
  have hP5 := hP4.tr g10.pq
  have hD5 := hD.pm hP5.1
  simp only [ax0, ex_cons, am_get, upz_at, true_and, and_true, Nat.reduceAdd, Nat.reduceLeDiff, Nat.reduceEqDiff, Nat.reduceSub, Int32.reduceOfInt, Int32.reduceAdd, Int32.reduceMul, Int32.reduceSub, ↓reduceIte, Int32.reduceLT, Int32.reduceLE, Int32.reduceToNatClampNeg, Nat.reduceMod, Nat.reduceLT, List.length_cons, List.length_nil, eq_self, true_or, or_true, and_self, implies_true, not_true_eq_false, not_false_eq_true, false_implies, true_implies, forall_const, st_aload, st_goto_w, st_iconst, st_iload, st_in1, st_in2, st_in3, st_st2, st_istore, am_put, am_nlg, kb_Model_concludes_0, oo_82, oa_82]
  have hm := mdN_lt a b
  have ho1 := otN_lt b (mdN a b)
  have ho2 := otN_lt a (mdN a b)
  have key : ∀ j m F1, m + j = 4 → MT F1 (ccT a b D.2.2.2) → MK (F1 84) D → Pq F F1 → (∀ F', Pq F F' → Q (some (.int (ccF (ccT a b D.2.2.2) D.2.2.2 (ccK a b) j m))) (ov h F' J V)) → am_W kc_Model_concludes (am_cl (d + 5)) Q 43 [.ref 82, .int (nI a), .int (nI b), .int (nI (mdN a b)), .int (nI m)] [] (ov h F1 J V) := by
    intro j
    induction j with
    | zero =>
      intro m F1 em r1 r2 r3 K2
      have em : m = 4 := em
      subst em
      rw [jx_Model_concludes_43]
      simp only [ax0, ex_cons, am_get, upz_at, true_and, and_true, Nat.reduceAdd, Nat.reduceLeDiff, Nat.reduceEqDiff, Nat.reduceSub, Int32.reduceOfInt, Int32.reduceAdd, Int32.reduceMul, Int32.reduceSub, ↓reduceIte, Int32.reduceLT, Int32.reduceLE, Int32.reduceToNatClampNeg, Nat.reduceMod, Nat.reduceLT, List.length_cons, List.length_nil, eq_self, true_or, or_true, and_self, implies_true, not_true_eq_false, not_false_eq_true, false_implies, true_implies, forall_const, st_aload, st_iadd, st_iconst, st_ifCond, st_if_icmp, st_iload, st_imul, st_in2, st_st2, st_ireturn, kb_Model_concludes_43, oo_82, jx_Model_concludes_85, kb_Model_concludes_85, oa_82, show ((4 : Int32) ≤ nI (4)) = (4 ≤ 4) from nk_le (a := 4) (b := 4) (by omega) (by omega)]
      exact K2 F1 r3
    | succ j ih =>
      intro m F1 em r1 r2 r3 K2
      rw [jx_Model_concludes_43]
      simp only [ax0, ex_cons, am_get, upz_at, true_and, and_true, Nat.reduceAdd, Nat.reduceLeDiff, Nat.reduceEqDiff, Nat.reduceSub, Int32.reduceOfInt, Int32.reduceAdd, Int32.reduceMul, Int32.reduceSub, ↓reduceIte, Int32.reduceLT, Int32.reduceLE, Int32.reduceToNatClampNeg, Nat.reduceMod, Nat.reduceLT, List.length_cons, List.length_nil, eq_self, true_or, or_true, and_self, implies_true, not_true_eq_false, not_false_eq_true, false_implies, true_implies, forall_const, st_aload, st_iadd, st_iconst, st_ifCond, st_if_icmp, st_iload, st_imul, st_in2, st_st2, st_ireturn, kb_Model_concludes_43, oo_82, oa_82, show ((4 : Int32) ≤ nI (m)) = (4 ≤ m) from nk_le (a := 4) (b := m) (by omega) (by omega), show ¬ 4 ≤ m by omega, show (64 : Int32) * nI (m) = nI (64 * (m)) from nk_mul (64) (m)]
      refine m_otherOf hb hm ?_
      simp only [ax0, ex_cons, am_get, upz_at, true_and, and_true, Nat.reduceAdd, Nat.reduceLeDiff, Nat.reduceEqDiff, Nat.reduceSub, Int32.reduceOfInt, Int32.reduceAdd, Int32.reduceMul, Int32.reduceSub, ↓reduceIte, Int32.reduceLT, Int32.reduceLE, Int32.reduceToNatClampNeg, Nat.reduceMod, Nat.reduceLT, List.length_cons, List.length_nil, eq_self, true_or, or_true, and_self, implies_true, not_true_eq_false, not_false_eq_true, false_implies, true_implies, forall_const, st_aload, st_iadd, st_iconst, st_ifCond, st_if_icmp, st_iload, st_imul, st_in2, st_st2, st_ireturn, kb_Model_concludes_43, oo_82, oa_82, show (8 : Int32) * nI (otN b (mdN a b)) = nI (8 * (otN b (mdN a b))) from nk_mul (8) (otN b (mdN a b)), nk_add (64 * m) (8 * otN b (mdN a b))]
      refine m_otherOf ha hm ?_
      have ek : 64 * m + 8 * otN b (mdN a b) + otN a (mdN a b) = 64 * m + ccK a b := by unfold ccK; omega
      simp only [ax0, ex_cons, am_get, upz_at, true_and, and_true, Nat.reduceAdd, Nat.reduceLeDiff, Nat.reduceEqDiff, Nat.reduceSub, Int32.reduceOfInt, Int32.reduceAdd, Int32.reduceMul, Int32.reduceSub, ↓reduceIte, Int32.reduceLT, Int32.reduceLE, Int32.reduceToNatClampNeg, Nat.reduceMod, Nat.reduceLT, List.length_cons, List.length_nil, eq_self, true_or, or_true, and_self, implies_true, not_true_eq_false, not_false_eq_true, false_implies, true_implies, forall_const, st_aload, st_iadd, st_iconst, st_ifCond, st_if_icmp, st_iload, st_imul, st_in2, st_st2, st_ireturn, kb_Model_concludes_43, oo_82, oa_82, nk_add (64 * m + 8 * otN b (mdN a b)) (otN a (mdN a b)), ek]
      have hck : ccK a b < 64 := by unfold ccK; omega
      refine m_fNQ r2 r1 (by have := ccT_len a b D.2.2.2; omega) (by omega) (fun F2 q1 q2 q3 => ?_)
      unfold ccF at K2
      simp only [ax0, ex_cons, am_get, upz_at, true_and, and_true, Nat.reduceAdd, Nat.reduceLeDiff, Nat.reduceEqDiff, Nat.reduceSub, Int32.reduceOfInt, Int32.reduceAdd, Int32.reduceMul, Int32.reduceSub, ↓reduceIte, Int32.reduceLT, Int32.reduceLE, Int32.reduceToNatClampNeg, Nat.reduceMod, Nat.reduceLT, List.length_cons, List.length_nil, eq_self, true_or, or_true, and_self, implies_true, not_true_eq_false, not_false_eq_true, false_implies, true_implies, forall_const, st_aload, st_iadd, st_iconst, st_ifCond, st_if_icmp, st_iload, st_imul, st_in2, st_st2, st_ireturn, kb_Model_concludes_43, oo_82, oa_82]
      refine ifb (fun e => ?_) (fun e => ?_)
      · rw [e] at K2
        simp only [ax0, ex_cons, am_get, upz_at, true_and, and_true, Nat.reduceAdd, Nat.reduceLeDiff, Nat.reduceEqDiff, Nat.reduceSub, Int32.reduceOfInt, Int32.reduceAdd, Int32.reduceMul, Int32.reduceSub, ↓reduceIte, Int32.reduceLT, Int32.reduceLE, Int32.reduceToNatClampNeg, Nat.reduceMod, Nat.reduceLT, List.length_cons, List.length_nil, eq_self, true_or, or_true, and_self, implies_true, not_true_eq_false, not_false_eq_true, false_implies, true_implies, forall_const, st_goto, st_iinc, am_put, am_nlg, jx_Model_concludes_79, kb_Model_concludes_79, nk_succ]
        exact ih (m + 1) F2 (by omega) q1 q2 (r3.tr q3) K2
      · rw [e] at K2
        exact K2 F2 (r3.tr q3)
  exact key 4 0 F5 (by decide) g9 hD5 hP5 K
end MPQ
