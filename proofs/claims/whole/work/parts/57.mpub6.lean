/-! ===== the model: square ===== -/
section MPG
variable {d : Nat} {h : am_H} {F : Nat → Nat → Int32} {J : Nat → Nat → Int64} {V : Nat → Nat → Value} {Q : am_Q}
set_option maxRecDepth 20000 in
theorem mp_square {D : dT} (hD : MK (F 84) D) {x y : Int32} (K : ∀ F', Pm F F' → Q (some (.int (aSquare D x y))) (ov h F' J V)) : am_cl (d + 6) 257 [.ref 82, .int x, .int y] (ov h F J V) Q := by
  have no : aSquare D x y = -1 → am_W kc_Model_square (am_cl (d + 5)) Q 16 [.ref 82, .int x, .int y, am_dum, am_dum, am_dum, am_dum, am_dum, am_dum] [] (ov h F J V) := fun e => by
    rw [e] at K
    simp only [ax0, ex_cons, am_get, upz_at, true_and, and_true, Nat.reduceAdd, Nat.reduceLeDiff, Nat.reduceEqDiff, Nat.reduceSub, Int32.reduceOfInt, Int32.reduceAdd, Int32.reduceMul, Int32.reduceSub, ↓reduceIte, Int32.reduceLT, Int32.reduceLE, Int32.reduceToNatClampNeg, Nat.reduceMod, Nat.reduceLT, List.length_cons, List.length_nil, eq_self, true_or, or_true, and_self, implies_true, not_true_eq_false, not_false_eq_true, false_implies, true_implies, forall_const, st_iconst, st_ireturn, jx_Model_square_16, kb_Model_square_16]
    exact K F Pm.rf
  simp only [ax0, ex_cons, am_get, upz_at, true_and, and_true, Nat.reduceAdd, Nat.reduceLeDiff, Nat.reduceEqDiff, Nat.reduceSub, Int32.reduceOfInt, Int32.reduceAdd, Int32.reduceMul, Int32.reduceSub, ↓reduceIte, Int32.reduceLT, Int32.reduceLE, Int32.reduceToNatClampNeg, Nat.reduceMod, Nat.reduceLT, List.length_cons, List.length_nil, eq_self, true_or, or_true, and_self, implies_true, not_true_eq_false, not_false_eq_true, false_implies, true_implies, forall_const, st_aload, st_goto_w, st_ifCond, st_iload, st_in2, kb_Model_square_0, oo_82, oa_82, cx_Model_square]
  refine m_isSlip hD.1 ?_
  simp only [ax0, ex_cons, am_get, upz_at, true_and, and_true, Nat.reduceAdd, Nat.reduceLeDiff, Nat.reduceEqDiff, Nat.reduceSub, Int32.reduceOfInt, Int32.reduceAdd, Int32.reduceMul, Int32.reduceSub, ↓reduceIte, Int32.reduceLT, Int32.reduceLE, Int32.reduceToNatClampNeg, Nat.reduceMod, Nat.reduceLT, List.length_cons, List.length_nil, eq_self, true_or, or_true, and_self, implies_true, not_true_eq_false, not_false_eq_true, false_implies, true_implies, forall_const, st_aload, st_goto_w, st_ifCond, st_iload, st_in2, kb_Model_square_0, oo_82, oa_82]
  refine ifb (fun e => no (by unfold aSquare slB; rw [e]; rfl)) (fun e => ?_)
  refine m_isSlip hD.1 ?_
  simp only [ax0, ex_cons, am_get, upz_at, true_and, and_true, Nat.reduceAdd, Nat.reduceLeDiff, Nat.reduceEqDiff, Nat.reduceSub, Int32.reduceOfInt, Int32.reduceAdd, Int32.reduceMul, Int32.reduceSub, ↓reduceIte, Int32.reduceLT, Int32.reduceLE, Int32.reduceToNatClampNeg, Nat.reduceMod, Nat.reduceLT, List.length_cons, List.length_nil, eq_self, true_or, or_true, and_self, implies_true, not_true_eq_false, not_false_eq_true, false_implies, true_implies, forall_const, st_aload, st_goto_w, st_ifCond, st_iload, st_in2, kb_Model_square_0, oo_82, oa_82]
  refine ifnb (fun e2 => ?_) (fun e2 => no (by unfold aSquare slB; rw [e2, Bool.and_false]; rfl))
  obtain ⟨s1, a1, a2, a3⟩ := slB_nI hD.2.1 e
  obtain ⟨s2, b1, b2, b3⟩ := slB_nI hD.2.1 e2
  have ea : aSquare D x y = sqZ (csD D s1) (csD D s2) D.2.2.2 := by
    unfold aSquare
    rw [show slB D.1 x = true from e, show slB D.1 y = true from e2, a3, b3]; rfl
  rw [ea] at K
  have hn := hD.2.1
  have hc1 : CR (F 84) s1 (csD D s1) := (hD.2.2.2.2.1 s1 a2).2.2
  have hc2 : CR (F 84) s2 (csD D s2) := (hD.2.2.2.2.1 s2 b2).2.2
  have he := hD.2.2.2.1
  rw [a1, b1]
  generalize csD D s1 = C1 at *
  generalize csD D s2 = C2 at *
  generalize D.2.2.2 = ex at *
  simp only [ax0, ex_cons, am_get, upz_at, true_and, and_true, Nat.reduceAdd, Nat.reduceLeDiff, Nat.reduceEqDiff, Nat.reduceSub, Int32.reduceOfInt, Int32.reduceAdd, Int32.reduceMul, Int32.reduceSub, ↓reduceIte, Int32.reduceLT, Int32.reduceLE, Int32.reduceToNatClampNeg, Nat.reduceMod, Nat.reduceLT, List.length_cons, List.length_nil, eq_self, true_or, or_true, and_self, implies_true, not_true_eq_false, not_false_eq_true, false_implies, true_implies, forall_const, st_aload, st_iconst, st_ifCond, st_iload, st_in3, st_ireturn, st_istore, am_put, am_nlg, jx_Model_square_18, kb_Model_square_18, oo_82, oa_82]
  refine m_leadsTo he (by omega) (by omega) hc1 hc2 (fun F1 g1 => ?_)
  simp only [ax0, ex_cons, am_get, upz_at, true_and, and_true, Nat.reduceAdd, Nat.reduceLeDiff, Nat.reduceEqDiff, Nat.reduceSub, Int32.reduceOfInt, Int32.reduceAdd, Int32.reduceMul, Int32.reduceSub, ↓reduceIte, Int32.reduceLT, Int32.reduceLE, Int32.reduceToNatClampNeg, Nat.reduceMod, Nat.reduceLT, List.length_cons, List.length_nil, eq_self, true_or, or_true, and_self, implies_true, not_true_eq_false, not_false_eq_true, false_implies, true_implies, forall_const, st_aload, st_iconst, st_ifCond, st_iload, st_in3, st_ireturn, st_istore, am_put, am_nlg, jx_Model_square_18, kb_Model_square_18, oo_82, oa_82]
  refine m_leadsTo (by rw [g1.k]; exact he) (by omega) (by omega) (by rw [g1.k]; exact hc2) (by rw [g1.k]; exact hc1) (fun F2 g2 => ?_)
  have g3 := g1.tr g2
  have fin : (leZ C1 C2 ex && leZ C2 C1 ex) = false → am_W kc_Model_square (am_cl (d + 5)) Q 44 [.ref 82, .int (nI s1), .int (nI s2), .int (b2i (leZ C1 C2 ex)), .int (b2i (leZ C2 C1 ex)), am_dum, am_dum, am_dum, am_dum] [] (ov h F2 J V) := by
    intro hle
    simp only [ax0, ex_cons, am_get, upz_at, true_and, and_true, Nat.reduceAdd, Nat.reduceLeDiff, Nat.reduceEqDiff, Nat.reduceSub, Int32.reduceOfInt, Int32.reduceAdd, Int32.reduceMul, Int32.reduceSub, ↓reduceIte, Int32.reduceLT, Int32.reduceLE, Int32.reduceToNatClampNeg, Nat.reduceMod, Nat.reduceLT, List.length_cons, List.length_nil, eq_self, true_or, or_true, and_self, implies_true, not_true_eq_false, not_false_eq_true, false_implies, true_implies, forall_const, st_aload, st_goto_w, st_iconst, st_iload, st_in1, st_in3, st_istore, am_put, am_nlg, jx_Model_square_44, kb_Model_square_44, oo_82, oa_82]
    refine m_empties (fun F3 q1 q2 => ?_)
    simp only [ax0, ex_cons, am_get, upz_at, true_and, and_true, Nat.reduceAdd, Nat.reduceLeDiff, Nat.reduceEqDiff, Nat.reduceSub, Int32.reduceOfInt, Int32.reduceAdd, Int32.reduceMul, Int32.reduceSub, ↓reduceIte, Int32.reduceLT, Int32.reduceLE, Int32.reduceToNatClampNeg, Nat.reduceMod, Nat.reduceLT, List.length_cons, List.length_nil, eq_self, true_or, or_true, and_self, implies_true, not_true_eq_false, not_false_eq_true, false_implies, true_implies, forall_const, st_aload, st_goto_w, st_iconst, st_iload, st_in1, st_in3, st_istore, am_put, am_nlg, jx_Model_square_44, kb_Model_square_44, oo_82, oa_82]
    refine m_isTold (ex := ex) (by rw [q2.k, g3.k]; exact he) ?_
    simp only [ax0, ex_cons, am_get, upz_at, true_and, and_true, Nat.reduceAdd, Nat.reduceLeDiff, Nat.reduceEqDiff, Nat.reduceSub, Int32.reduceOfInt, Int32.reduceAdd, Int32.reduceMul, Int32.reduceSub, ↓reduceIte, Int32.reduceLT, Int32.reduceLE, Int32.reduceToNatClampNeg, Nat.reduceMod, Nat.reduceLT, List.length_cons, List.length_nil, eq_self, true_or, or_true, and_self, implies_true, not_true_eq_false, not_false_eq_true, false_implies, true_implies, forall_const, st_aload, st_goto_w, st_iconst, st_iload, st_in1, st_in3, st_istore, am_put, am_nlg, jx_Model_square_44, kb_Model_square_44, oo_82, oa_82]
    refine m_tellsOf (C := C1) (ex := ex) q1 (by show 0 + 2 ≤ 40; omega) (by omega) (by rw [q2.k, g3.k]; exact hc1) (fun F4 q3 q4 => ?_)
    simp only [ax0, ex_cons, am_get, upz_at, true_and, and_true, Nat.reduceAdd, Nat.reduceLeDiff, Nat.reduceEqDiff, Nat.reduceSub, Int32.reduceOfInt, Int32.reduceAdd, Int32.reduceMul, Int32.reduceSub, ↓reduceIte, Int32.reduceLT, Int32.reduceLE, Int32.reduceToNatClampNeg, Nat.reduceMod, Nat.reduceLT, List.length_cons, List.length_nil, eq_self, true_or, or_true, and_self, implies_true, not_true_eq_false, not_false_eq_true, false_implies, true_implies, forall_const, st_aload, st_goto_w, st_iconst, st_iload, st_in1, st_in3, st_istore, am_put, am_nlg, jx_Model_square_44, kb_Model_square_44, oo_82, oa_82]
    refine m_isTold (ex := ex) (by rw [q4.k, q2.k, g3.k]; exact he) ?_
    simp only [ax0, ex_cons, am_get, upz_at, true_and, and_true, Nat.reduceAdd, Nat.reduceLeDiff, Nat.reduceEqDiff, Nat.reduceSub, Int32.reduceOfInt, Int32.reduceAdd, Int32.reduceMul, Int32.reduceSub, ↓reduceIte, Int32.reduceLT, Int32.reduceLE, Int32.reduceToNatClampNeg, Nat.reduceMod, Nat.reduceLT, List.length_cons, List.length_nil, eq_self, true_or, or_true, and_self, implies_true, not_true_eq_false, not_false_eq_true, false_implies, true_implies, forall_const, st_aload, st_goto_w, st_iconst, st_iload, st_in1, st_in3, st_istore, am_put, am_nlg, jx_Model_square_44, kb_Model_square_44, oo_82, oa_82]
    have l1 := tellz_len tE C1 ex
    have l2 := tellz_len (tellz tE C1 ex) C2 ex
    have l0 : tE.2.1.length = 0 := rfl
    refine m_tellsOf (C := C2) (ex := ex) q3 (by omega) (by omega) (by rw [q4.k, q2.k, g3.k]; exact hc2) (fun F5 q5 q6 => ?_)
    simp only [ax0, ex_cons, am_get, upz_at, true_and, and_true, Nat.reduceAdd, Nat.reduceLeDiff, Nat.reduceEqDiff, Nat.reduceSub, Int32.reduceOfInt, Int32.reduceAdd, Int32.reduceMul, Int32.reduceSub, ↓reduceIte, Int32.reduceLT, Int32.reduceLE, Int32.reduceToNatClampNeg, Nat.reduceMod, Nat.reduceLT, List.length_cons, List.length_nil, eq_self, true_or, or_true, and_self, implies_true, not_true_eq_false, not_false_eq_true, false_implies, true_implies, forall_const, st_aload, st_goto_w, st_iconst, st_iload, st_in1, st_in3, st_istore, am_put, am_nlg, jx_Model_square_44, kb_Model_square_44, oo_82, oa_82]
    refine m_isQuarrel q5 (by omega) (fun f => ?_)
    have g6 : St F (upz F5 100 f) := (((g3.tr q2).tr q4).tr q6).s100 f
    generalize upz F5 100 f = F6 at g6
    simp only [ax0, ex_cons, am_get, upz_at, true_and, and_true, Nat.reduceAdd, Nat.reduceLeDiff, Nat.reduceEqDiff, Nat.reduceSub, Int32.reduceOfInt, Int32.reduceAdd, Int32.reduceMul, Int32.reduceSub, ↓reduceIte, Int32.reduceLT, Int32.reduceLE, Int32.reduceToNatClampNeg, Nat.reduceMod, Nat.reduceLT, List.length_cons, List.length_nil, eq_self, true_or, or_true, and_self, implies_true, not_true_eq_false, not_false_eq_true, false_implies, true_implies, forall_const, st_aload, st_goto_w, st_iconst, st_iload, st_in1, st_in3, st_istore, am_put, am_nlg, jx_Model_square_44, kb_Model_square_44, oo_82, oa_82]
    have o1 : owZ C1 ex ≤ 2 := by unfold owZ; split <;> omega
    have o2 : owZ C2 ex ≤ 2 := by unfold owZ; split <;> omega
    have key : ∀ j a G, a + j = owZ C1 ex → St F G → ∀ v8 : Value, am_W kc_Model_square (am_cl (d + 5)) Q 78 [.ref 82, .int (nI s1), .int (nI s2), .int (b2i (leZ C1 C2 ex)), .int (b2i (leZ C2 C1 ex)), .int (b2i (qz (tellz (tellz tE C1 ex) C2 ex) (fun _ => false))), .int (b2i (eiA C1 C2 (owZ C2 ex) a)), .int (nI a), v8] [] (ov h G J V) := by
      intro j
      induction j with
      | zero =>
        intro a G ej hG v8
        have ej : a = owZ C1 ex := ej
        subst ej
        rw [jx_Model_square_78]
        simp only [ax0, ex_cons, am_get, upz_at, true_and, and_true, Nat.reduceAdd, Nat.reduceLeDiff, Nat.reduceEqDiff, Nat.reduceSub, Int32.reduceOfInt, Int32.reduceAdd, Int32.reduceMul, Int32.reduceSub, ↓reduceIte, Int32.reduceLT, Int32.reduceLE, Int32.reduceToNatClampNeg, Nat.reduceMod, Nat.reduceLT, List.length_cons, List.length_nil, eq_self, true_or, or_true, and_self, implies_true, not_true_eq_false, not_false_eq_true, false_implies, true_implies, forall_const, st_aload, st_goto_w, st_iconst, st_if_icmp, st_iload, st_in2, st_istore, am_put, am_nlg, kb_Model_square_78, oo_82, oa_82]
        refine m_otherwise (C := C1) (ex := ex) (by rw [hG.k]; exact he) (by omega) (by rw [hG.k]; exact hc1) ?_
        simp only [ax0, ex_cons, am_get, upz_at, true_and, and_true, Nat.reduceAdd, Nat.reduceLeDiff, Nat.reduceEqDiff, Nat.reduceSub, Int32.reduceOfInt, Int32.reduceAdd, Int32.reduceMul, Int32.reduceSub, ↓reduceIte, Int32.reduceLT, Int32.reduceLE, Int32.reduceToNatClampNeg, Nat.reduceMod, Nat.reduceLT, List.length_cons, List.length_nil, eq_self, true_or, or_true, and_self, implies_true, not_true_eq_false, not_false_eq_true, false_implies, true_implies, forall_const, st_aload, st_goto_w, st_iconst, st_if_icmp, st_iload, st_in2, st_istore, am_put, am_nlg, kb_Model_square_78, oo_82, oa_82, (nk_le (by omega) (by omega) : (nI (owZ C1 ex) ≤ nI (owZ C1 ex)) = (owZ C1 ex ≤ owZ C1 ex)), Nat.le_refl]
        have K1 := K G hG.pm
        unfold sqZ at K1
        rw [hle] at K1
        simp only [ax0, ex_cons, am_get, upz_at, true_and, and_true, Nat.reduceAdd, Nat.reduceLeDiff, Nat.reduceEqDiff, Nat.reduceSub, Int32.reduceOfInt, Int32.reduceAdd, Int32.reduceMul, Int32.reduceSub, ↓reduceIte, Int32.reduceLT, Int32.reduceLE, Int32.reduceToNatClampNeg, Nat.reduceMod, Nat.reduceLT, List.length_cons, List.length_nil, eq_self, true_or, or_true, and_self, implies_true, not_true_eq_false, not_false_eq_true, false_implies, true_implies, forall_const, st_goto, st_iconst, st_ifCond, st_iload, jx_Model_square_150, kb_Model_square_150]
        cases hz1 : qz (tellz (tellz tE C1 ex) C2 ex) (fun _ => false) <;> cases hz2 : eiA C1 C2 (owZ C2 ex) (owZ C1 ex) <;> rw [hz1, hz2] at K1 <;> simp only [ax0, ex_cons, am_get, upz_at, true_and, and_true, Nat.reduceAdd, Nat.reduceLeDiff, Nat.reduceEqDiff, Nat.reduceSub, Int32.reduceOfInt, Int32.reduceAdd, Int32.reduceMul, Int32.reduceSub, ↓reduceIte, Int32.reduceLT, Int32.reduceLE, Int32.reduceToNatClampNeg, Nat.reduceMod, Nat.reduceLT, List.length_cons, List.length_nil, eq_self, true_or, or_true, and_self, implies_true, not_true_eq_false, not_false_eq_true, false_implies, true_implies, forall_const, st_goto, st_goto_w, st_iconst, st_ifCond, st_iload, st_ireturn, jx_Model_square_150, kb_Model_square_150, jx_Model_square_165, kb_Model_square_165, jx_Model_square_174, kb_Model_square_174, jx_Model_square_183, kb_Model_square_183, jx_Model_square_191, kb_Model_square_191, jx_Model_square_200, kb_Model_square_200, jx_Model_square_201, kb_Model_square_201, b2i_t, b2i_f]
        · cases hz3 : leZ C1 C2 ex <;> cases hz4 : leZ C2 C1 ex <;> rw [hz3, hz4] at K1 <;> simp only [ax0, ex_cons, am_get, upz_at, true_and, and_true, Nat.reduceAdd, Nat.reduceLeDiff, Nat.reduceEqDiff, Nat.reduceSub, Int32.reduceOfInt, Int32.reduceAdd, Int32.reduceMul, Int32.reduceSub, ↓reduceIte, Int32.reduceLT, Int32.reduceLE, Int32.reduceToNatClampNeg, Nat.reduceMod, Nat.reduceLT, List.length_cons, List.length_nil, eq_self, true_or, or_true, and_self, implies_true, not_true_eq_false, not_false_eq_true, false_implies, true_implies, forall_const, st_goto, st_goto_w, st_iconst, st_ifCond, st_iload, st_ireturn, jx_Model_square_191, kb_Model_square_191, jx_Model_square_200, kb_Model_square_200, jx_Model_square_201, kb_Model_square_201, b2i_t, b2i_f] <;> exact K1
        · exact K1
        · exact K1
        · exact K1
      | succ j ih =>
        intro a G ej hG v8
        rw [jx_Model_square_78]
        simp only [ax0, ex_cons, am_get, upz_at, true_and, and_true, Nat.reduceAdd, Nat.reduceLeDiff, Nat.reduceEqDiff, Nat.reduceSub, Int32.reduceOfInt, Int32.reduceAdd, Int32.reduceMul, Int32.reduceSub, ↓reduceIte, Int32.reduceLT, Int32.reduceLE, Int32.reduceToNatClampNeg, Nat.reduceMod, Nat.reduceLT, List.length_cons, List.length_nil, eq_self, true_or, or_true, and_self, implies_true, not_true_eq_false, not_false_eq_true, false_implies, true_implies, forall_const, st_aload, st_goto_w, st_iconst, st_if_icmp, st_iload, st_in2, st_istore, am_put, am_nlg, kb_Model_square_78, oo_82, oa_82]
        refine m_otherwise (C := C1) (ex := ex) (by rw [hG.k]; exact he) (by omega) (by rw [hG.k]; exact hc1) ?_
        simp only [ax0, ex_cons, am_get, upz_at, true_and, and_true, Nat.reduceAdd, Nat.reduceLeDiff, Nat.reduceEqDiff, Nat.reduceSub, Int32.reduceOfInt, Int32.reduceAdd, Int32.reduceMul, Int32.reduceSub, ↓reduceIte, Int32.reduceLT, Int32.reduceLE, Int32.reduceToNatClampNeg, Nat.reduceMod, Nat.reduceLT, List.length_cons, List.length_nil, eq_self, true_or, or_true, and_self, implies_true, not_true_eq_false, not_false_eq_true, false_implies, true_implies, forall_const, st_aload, st_goto_w, st_iconst, st_if_icmp, st_iload, st_in2, st_istore, am_put, am_nlg, kb_Model_square_78, oo_82, oa_82, (nk_le (by omega) (by omega) : (nI (owZ C1 ex) ≤ nI (a)) = (owZ C1 ex ≤ a)), show ¬ owZ C1 ex ≤ a by omega]
        have inner : ∀ i b G, b + i = owZ C2 ex → St F G → am_W kc_Model_square (am_cl (d + 5)) Q 91 [.ref 82, .int (nI s1), .int (nI s2), .int (b2i (leZ C1 C2 ex)), .int (b2i (leZ C2 C1 ex)), .int (b2i (qz (tellz (tellz tE C1 ex) C2 ex) (fun _ => false))), .int (b2i (eiA C1 C2 (owZ C2 ex) a && eiB C1 C2 a b)), .int (nI a), .int (nI b)] [] (ov h G J V) := by
          intro i
          induction i with
          | zero =>
            intro b G ei hG
            have ei : b = owZ C2 ex := ei
            subst ei
            rw [jx_Model_square_91]
            simp only [ax0, ex_cons, am_get, upz_at, true_and, and_true, Nat.reduceAdd, Nat.reduceLeDiff, Nat.reduceEqDiff, Nat.reduceSub, Int32.reduceOfInt, Int32.reduceAdd, Int32.reduceMul, Int32.reduceSub, ↓reduceIte, Int32.reduceLT, Int32.reduceLE, Int32.reduceToNatClampNeg, Nat.reduceMod, Nat.reduceLT, List.length_cons, List.length_nil, eq_self, true_or, or_true, and_self, implies_true, not_true_eq_false, not_false_eq_true, false_implies, true_implies, forall_const, st_aload, st_goto, st_iconst, st_ifCond, st_if_icmp, st_iload, st_in1, st_in2, st_in3, kb_Model_square_91, oo_82, oa_82]
            refine m_otherwise (C := C2) (ex := ex) (by rw [hG.k]; exact he) (by omega) (by rw [hG.k]; exact hc2) ?_
            simp only [ax0, ex_cons, am_get, upz_at, true_and, and_true, Nat.reduceAdd, Nat.reduceLeDiff, Nat.reduceEqDiff, Nat.reduceSub, Int32.reduceOfInt, Int32.reduceAdd, Int32.reduceMul, Int32.reduceSub, ↓reduceIte, Int32.reduceLT, Int32.reduceLE, Int32.reduceToNatClampNeg, Nat.reduceMod, Nat.reduceLT, List.length_cons, List.length_nil, eq_self, true_or, or_true, and_self, implies_true, not_true_eq_false, not_false_eq_true, false_implies, true_implies, forall_const, st_aload, st_goto, st_iconst, st_ifCond, st_if_icmp, st_iinc, st_iload, st_in1, st_in2, st_in3, am_put, am_nlg, kb_Model_square_91, oo_82, jx_Model_square_144, kb_Model_square_144, oa_82, (nk_le (by omega) (by omega) : (nI (owZ C2 ex) ≤ nI (owZ C2 ex)) = (owZ C2 ex ≤ owZ C2 ex)), Nat.le_refl, nk_succ]
            exact ih (a + 1) G (by omega) hG _
          | succ i ih2 =>
            intro b G ei hG
            rw [jx_Model_square_91]
            simp only [ax0, ex_cons, am_get, upz_at, true_and, and_true, Nat.reduceAdd, Nat.reduceLeDiff, Nat.reduceEqDiff, Nat.reduceSub, Int32.reduceOfInt, Int32.reduceAdd, Int32.reduceMul, Int32.reduceSub, ↓reduceIte, Int32.reduceLT, Int32.reduceLE, Int32.reduceToNatClampNeg, Nat.reduceMod, Nat.reduceLT, List.length_cons, List.length_nil, eq_self, true_or, or_true, and_self, implies_true, not_true_eq_false, not_false_eq_true, false_implies, true_implies, forall_const, st_aload, st_goto, st_iconst, st_ifCond, st_if_icmp, st_iload, st_in1, st_in2, st_in3, kb_Model_square_91, oo_82, oa_82]
            refine m_otherwise (C := C2) (ex := ex) (by rw [hG.k]; exact he) (by omega) (by rw [hG.k]; exact hc2) ?_
            simp only [ax0, ex_cons, am_get, upz_at, true_and, and_true, Nat.reduceAdd, Nat.reduceLeDiff, Nat.reduceEqDiff, Nat.reduceSub, Int32.reduceOfInt, Int32.reduceAdd, Int32.reduceMul, Int32.reduceSub, ↓reduceIte, Int32.reduceLT, Int32.reduceLE, Int32.reduceToNatClampNeg, Nat.reduceMod, Nat.reduceLT, List.length_cons, List.length_nil, eq_self, true_or, or_true, and_self, implies_true, not_true_eq_false, not_false_eq_true, false_implies, true_implies, forall_const, st_aload, st_goto, st_iconst, st_ifCond, st_if_icmp, st_iload, st_in1, st_in2, st_in3, kb_Model_square_91, oo_82, oa_82, (nk_le (by omega) (by omega) : (nI (owZ C2 ex) ≤ nI (b)) = (owZ C2 ex ≤ b)), show ¬ owZ C2 ex ≤ b by omega]
            refine m_empties (fun G1 r1 r2 => ?_)
            simp only [ax0, ex_cons, am_get, upz_at, true_and, and_true, Nat.reduceAdd, Nat.reduceLeDiff, Nat.reduceEqDiff, Nat.reduceSub, Int32.reduceOfInt, Int32.reduceAdd, Int32.reduceMul, Int32.reduceSub, ↓reduceIte, Int32.reduceLT, Int32.reduceLE, Int32.reduceToNatClampNeg, Nat.reduceMod, Nat.reduceLT, List.length_cons, List.length_nil, eq_self, true_or, or_true, and_self, implies_true, not_true_eq_false, not_false_eq_true, false_implies, true_implies, forall_const, st_aload, st_goto, st_iconst, st_ifCond, st_if_icmp, st_iload, st_in1, st_in2, st_in3, kb_Model_square_91, oo_82, oa_82]
            refine m_tellsNot (C := C1) (s := s1) (way := a) r1 (by show 0 < 40; omega) (by omega) (by rw [r2.k, hG.k]; exact hc1) (by omega) (fun G2 r3 r4 => ?_)
            simp only [ax0, ex_cons, am_get, upz_at, true_and, and_true, Nat.reduceAdd, Nat.reduceLeDiff, Nat.reduceEqDiff, Nat.reduceSub, Int32.reduceOfInt, Int32.reduceAdd, Int32.reduceMul, Int32.reduceSub, ↓reduceIte, Int32.reduceLT, Int32.reduceLE, Int32.reduceToNatClampNeg, Nat.reduceMod, Nat.reduceLT, List.length_cons, List.length_nil, eq_self, true_or, or_true, and_self, implies_true, not_true_eq_false, not_false_eq_true, false_implies, true_implies, forall_const, st_aload, st_goto, st_iconst, st_ifCond, st_if_icmp, st_iload, st_in1, st_in2, st_in3, kb_Model_square_91, oo_82, oa_82]
            have m1 := tnZ_len tE C1 a
            have m2 := tnZ_len (tnZ tE C1 a) C2 b
            refine m_tellsNot (C := C2) (s := s2) (way := b) r3 (by omega) (by omega) (by rw [r4.k, r2.k, hG.k]; exact hc2) (by omega) (fun G3 r5 r6 => ?_)
            simp only [ax0, ex_cons, am_get, upz_at, true_and, and_true, Nat.reduceAdd, Nat.reduceLeDiff, Nat.reduceEqDiff, Nat.reduceSub, Int32.reduceOfInt, Int32.reduceAdd, Int32.reduceMul, Int32.reduceSub, ↓reduceIte, Int32.reduceLT, Int32.reduceLE, Int32.reduceToNatClampNeg, Nat.reduceMod, Nat.reduceLT, List.length_cons, List.length_nil, eq_self, true_or, or_true, and_self, implies_true, not_true_eq_false, not_false_eq_true, false_implies, true_implies, forall_const, st_aload, st_goto, st_iconst, st_ifCond, st_if_icmp, st_iload, st_in1, st_in2, st_in3, kb_Model_square_91, oo_82, oa_82]
            have hG3 : St F G3 := ((hG.tr r2).tr r4).tr r6
            refine ifb (fun e => ?_) (fun e => ?_)
            · have go := ih2 (b + 1) G3 (by omega) hG3
              rw [show eiB C1 C2 a (b + 1) = (eiB C1 C2 a b && qz (tnZ (tnZ tE C1 a) C2 b) (fun _ => false)) from rfl, ← Bool.and_assoc, e, Bool.false_and] at go
              simp only [ax0, ex_cons, am_get, upz_at, true_and, and_true, Nat.reduceAdd, Nat.reduceLeDiff, Nat.reduceEqDiff, Nat.reduceSub, Int32.reduceOfInt, Int32.reduceAdd, Int32.reduceMul, Int32.reduceSub, ↓reduceIte, Int32.reduceLT, Int32.reduceLE, Int32.reduceToNatClampNeg, Nat.reduceMod, Nat.reduceLT, List.length_cons, List.length_nil, eq_self, true_or, or_true, and_self, implies_true, not_true_eq_false, not_false_eq_true, false_implies, true_implies, forall_const, st_goto, st_goto_w, st_iconst, st_iinc, st_istore, am_put, am_nlg, jx_Model_square_135, kb_Model_square_135, jx_Model_square_136, kb_Model_square_136, nk_succ]
              exact go
            · refine m_isQuarrel r5 (by omega) (fun f => ?_)
              have go := ih2 (b + 1) (upz G3 100 f) (by omega) (hG3.s100 f)
              rw [show eiB C1 C2 a (b + 1) = (eiB C1 C2 a b && qz (tnZ (tnZ tE C1 a) C2 b) (fun _ => false)) from rfl, ← Bool.and_assoc, e, Bool.true_and] at go
              rw [e]
              simp only [ax0, ex_cons, am_get, upz_at, true_and, and_true, Nat.reduceAdd, Nat.reduceLeDiff, Nat.reduceEqDiff, Nat.reduceSub, Int32.reduceOfInt, Int32.reduceAdd, Int32.reduceMul, Int32.reduceSub, ↓reduceIte, Int32.reduceLT, Int32.reduceLE, Int32.reduceToNatClampNeg, Nat.reduceMod, Nat.reduceLT, List.length_cons, List.length_nil, eq_self, true_or, or_true, and_self, implies_true, not_true_eq_false, not_false_eq_true, false_implies, true_implies, forall_const, st_aload, st_goto, st_goto_w, st_iconst, st_ifCond, st_if_icmp, st_iinc, st_iload, st_in1, st_in2, st_in3, st_istore, am_put, am_nlg, kb_Model_square_91, oo_82, jx_Model_square_135, kb_Model_square_135, jx_Model_square_136, kb_Model_square_136, oa_82, nk_succ]
              refine ifb (fun e3 => ?_) (fun e3 => ?_) <;> rw [e3] at go <;> exact go
        have go := inner (owZ C2 ex) 0 G (by omega) hG
        rw [show eiB C1 C2 a 0 = true from rfl, Bool.and_true] at go
        exact go
    exact key (owZ C1 ex) 0 F6 (by omega) g6 _
  simp only [ax0, ex_cons, am_get, upz_at, true_and, and_true, Nat.reduceAdd, Nat.reduceLeDiff, Nat.reduceEqDiff, Nat.reduceSub, Int32.reduceOfInt, Int32.reduceAdd, Int32.reduceMul, Int32.reduceSub, ↓reduceIte, Int32.reduceLT, Int32.reduceLE, Int32.reduceToNatClampNeg, Nat.reduceMod, Nat.reduceLT, List.length_cons, List.length_nil, eq_self, true_or, or_true, and_self, implies_true, not_true_eq_false, not_false_eq_true, false_implies, true_implies, forall_const, st_aload, st_iconst, st_ifCond, st_iload, st_in3, st_ireturn, st_istore, am_put, am_nlg, jx_Model_square_18, kb_Model_square_18, oo_82, oa_82]
  refine ifb (fun e3 => ?_) (fun e3 => ?_)
  · exact fin (by rw [e3, Bool.false_and])
  · refine ifb (fun e4 => ?_) (fun e4 => ?_)
    · exact fin (by rw [e4, Bool.and_false])
    · have K1 := K F2 g3.pm
      unfold sqZ at K1
      rw [e3, e4] at K1
      exact K1
end MPG
