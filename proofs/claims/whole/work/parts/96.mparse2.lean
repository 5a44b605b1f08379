/-! ===== the model: plain terms; the parser as a whole ===== -/
theorem lieB_nn {x lo hi : Nat} (h1 : x < 2147483648) (h2 : lo < 2147483648) (h3 : hi < 2147483648) : lieB (nI x) (nI lo) (nI hi) = decide (lo ≤ x ∧ x ≤ hi) := by
  rw [Bool.eq_iff_iff]
  unfold lieB
  simp only [Bool.and_eq_true, Bool.not_eq_true', decide_eq_false_iff_not, decide_eq_true_eq]
  rw [nk_lt h1 h2, nk_lt h3 h1]
  omega
section MPY
variable {n : Nat} {L : List (Nat × Nat)} {h : am_H} {J : Nat → Nat → Int64} {V : Nat → Nat → Value}
set_option maxRecDepth 20000 in
theorem m_nots (hT : TK n L) {d c : Nat} {ms : List Nat} {dp : Int32} {v3 v4 : Value} {Q : am_Q} : ∀ (f k a : Nat) (F : Nat → Nat → Int32), L.length < k + f → TKr F n L → k ≤ L.length → LV F k c ms → (∀ F', LV F' (k + ntC (cdL L) f k) c ms → Pp F F' → am_W kc_Model_readPlain (am_cl (d + 2)) Q 17 [.ref 82, .int dp, .int (nI (a + ntC (cdL L) f k)), v3, v4] [] (ov h F' J V)) → am_W kc_Model_readPlain (am_cl (d + 2)) Q 2 [.ref 82, .int dp, .int (nI a), v3, v4] [] (ov h F J V) := by
  intro f
  induction f with
  | zero => intro k a F h1 _ h3; omega
  | succ f ih =>
    intro k a F h1 h2 h3 hl K
    unfold ntC at K
    rw [jx_Model_readPlain_2]
    simp only [ax0, ex_cons, am_get, upz_at, true_and, and_true, Nat.reduceAdd, Nat.reduceLeDiff, Nat.reduceEqDiff, Nat.reduceSub, Int32.reduceOfInt, Int32.reduceAdd, Int32.reduceMul, Int32.reduceSub, ↓reduceIte, Int32.reduceLT, Int32.reduceLE, Int32.reduceToNatClampNeg, Nat.reduceMod, Nat.reduceLT, List.length_cons, List.length_nil, eq_self, true_or, or_true, and_self, implies_true, not_true_eq_false, not_false_eq_true, false_implies, true_implies, forall_const, st_aloadx, st_gotox, st_iconstx, st_ifCondx, st_iincx, st_in2, am_put, am_nlg, kb_Model_readPlain_2, oo_82, oa_82]
    refine m_takes0L hT h2 h3 hl (w := 8) (by decide) (fun q => ?_) (fun q F1 l1 p1 => ?_)
    · rw [if_neg q] at K
      simp only [ax0, ex_cons, am_get, upz_at, true_and, and_true, Nat.reduceAdd, Nat.reduceLeDiff, Nat.reduceEqDiff, Nat.reduceSub, Int32.reduceOfInt, Int32.reduceAdd, Int32.reduceMul, Int32.reduceSub, ↓reduceIte, Int32.reduceLT, Int32.reduceLE, Int32.reduceToNatClampNeg, Nat.reduceMod, Nat.reduceLT, List.length_cons, List.length_nil, eq_self, true_or, or_true, and_self, implies_true, not_true_eq_false, not_false_eq_true, false_implies, true_implies, forall_const, st_aloadx, st_gotox, st_iconstx, st_ifCondx, st_iincx, st_in2, am_put, am_nlg, kb_Model_readPlain_2, oo_82, oa_82]
      exact K F hl Pp.rf
    · rw [if_pos q] at K
      have hk1 := tk_lt hT.2.2.1 (k := k) (by rw [q]; decide)
      simp only [ax0, ex_cons, am_get, upz_at, true_and, and_true, Nat.reduceAdd, Nat.reduceLeDiff, Nat.reduceEqDiff, Nat.reduceSub, Int32.reduceOfInt, Int32.reduceAdd, Int32.reduceMul, Int32.reduceSub, ↓reduceIte, Int32.reduceLT, Int32.reduceLE, Int32.reduceToNatClampNeg, Nat.reduceMod, Nat.reduceLT, List.length_cons, List.length_nil, eq_self, true_or, or_true, and_self, implies_true, not_true_eq_false, not_false_eq_true, false_implies, true_implies, forall_const, st_aloadx, st_gotox, st_iconstx, st_ifCondx, st_iincx, st_in2, am_put, am_nlg, kb_Model_readPlain_2, oo_82, oa_82, nk_succ]
      refine ih (k + 1) (a + 1) F1 (by omega) (h2.pp p1) hk1 l1 (fun F2 l2 p2 => ?_)
      have K := K F2
      rw [← Nat.add_assoc, ← Nat.add_assoc] at K
      exact K l2 (p1.tr p2)
set_option maxRecDepth 20000 in
theorem m_ngD {d e : Nat} {F : Nat → Nat → Int32} (hl : DE F e) {dp : Int32} {a : Nat} (ha : a < 1000) {v3 : Int32} {Q : am_Q} (K : Q none (ov h F J V)) : ∀ j i, i + j = a → am_W kc_Model_readPlain (am_cl (d + 2)) Q 161 [.ref 82, .int dp, .int (nI a), .int v3, .int (nI i)] [] (ov h F J V) := by
  intro j
  induction j with
  | zero =>
    intro i e1
    have e1 : i = a := e1
    subst e1
    rw [jx_Model_readPlain_161]
    simp only [ax0, ex_cons, am_get, upz_at, true_and, and_true, Nat.reduceAdd, Nat.reduceLeDiff, Nat.reduceEqDiff, Nat.reduceSub, Int32.reduceOfInt, Int32.reduceAdd, Int32.reduceMul, Int32.reduceSub, ↓reduceIte, Int32.reduceLT, Int32.reduceLE, Int32.reduceToNatClampNeg, Nat.reduceMod, Nat.reduceLT, List.length_cons, List.length_nil, eq_self, true_or, or_true, and_self, implies_true, not_true_eq_false, not_false_eq_true, false_implies, true_implies, forall_const, st_aloadx, st_gotox, st_iconstx, st_if_icmpx, st_iincx, st_iloadx, st_in2, st_return_x, am_put, am_nlg, kb_Model_readPlain_161, oo_82, jx_Model_readPlain_179, kb_Model_readPlain_179, oa_82, (nk_le (by omega) (by omega) : (nI (i) ≤ nI (i)) = (i ≤ i)), Nat.le_refl]
    exact K
  | succ j ih =>
    intro i e1
    rw [jx_Model_readPlain_161]
    simp only [ax0, ex_cons, am_get, upz_at, true_and, and_true, Nat.reduceAdd, Nat.reduceLeDiff, Nat.reduceEqDiff, Nat.reduceSub, Int32.reduceOfInt, Int32.reduceAdd, Int32.reduceMul, Int32.reduceSub, ↓reduceIte, Int32.reduceLT, Int32.reduceLE, Int32.reduceToNatClampNeg, Nat.reduceMod, Nat.reduceLT, List.length_cons, List.length_nil, eq_self, true_or, or_true, and_self, implies_true, not_true_eq_false, not_false_eq_true, false_implies, true_implies, forall_const, st_aloadx, st_gotox, st_iconstx, st_if_icmpx, st_iincx, st_iloadx, st_in2, am_put, am_nlg, kb_Model_readPlain_161, oo_82, oa_82, (nk_le (by omega) (by omega) : (nI (a) ≤ nI (i)) = (a ≤ i)), show ¬ a ≤ i by omega]
    refine m_makesD hl ?_
    simp only [ax0, ex_cons, am_get, upz_at, true_and, and_true, Nat.reduceAdd, Nat.reduceLeDiff, Nat.reduceEqDiff, Nat.reduceSub, Int32.reduceOfInt, Int32.reduceAdd, Int32.reduceMul, Int32.reduceSub, ↓reduceIte, Int32.reduceLT, Int32.reduceLE, Int32.reduceToNatClampNeg, Nat.reduceMod, Nat.reduceLT, List.length_cons, List.length_nil, eq_self, true_or, or_true, and_self, implies_true, not_true_eq_false, not_false_eq_true, false_implies, true_implies, forall_const, st_aloadx, st_gotox, st_iconstx, st_if_icmpx, st_iincx, st_iloadx, st_in2, am_put, am_nlg, kb_Model_readPlain_161, oo_82, oa_82, nk_succ]
    exact ih (i + 1) (by omega)
theorem ng_cl {i : Nat} {t : eT} : (cdT (ngT i t)).length = (cdT t).length + i := by
  induction i with
  | zero => rfl
  | succ i ih => show (cdT (.neg (ngT i t))).length = _; rw [cl_neg, ih]; omega
set_option maxRecDepth 20000 in
theorem m_ngL {d k c : Nat} {ms : List Nat} {t : eT} {dp : Int32} {a : Nat} (ha : (ms ++ cdT t).length + a < 260) {v3 : Int32} {Q : am_Q} : ∀ j i (F : Nat → Nat → Int32), i + j = a → LV F k c (ms ++ cdT (ngT i t)) → (∀ F', LV F' k c (ms ++ cdT (ngT a t)) → Pp F F' → Q none (ov h F' J V)) → am_W kc_Model_readPlain (am_cl (d + 2)) Q 161 [.ref 82, .int dp, .int (nI a), .int v3, .int (nI i)] [] (ov h F J V) := by
  rw [List.length_append] at ha
  intro j
  induction j with
  | zero =>
    intro i F e1 hl K
    have e1 : i = a := e1
    subst e1
    rw [jx_Model_readPlain_161]
    simp only [ax0, ex_cons, am_get, upz_at, true_and, and_true, Nat.reduceAdd, Nat.reduceLeDiff, Nat.reduceEqDiff, Nat.reduceSub, Int32.reduceOfInt, Int32.reduceAdd, Int32.reduceMul, Int32.reduceSub, ↓reduceIte, Int32.reduceLT, Int32.reduceLE, Int32.reduceToNatClampNeg, Nat.reduceMod, Nat.reduceLT, List.length_cons, List.length_nil, eq_self, true_or, or_true, and_self, implies_true, not_true_eq_false, not_false_eq_true, false_implies, true_implies, forall_const, st_aloadx, st_gotox, st_iconstx, st_if_icmpx, st_iincx, st_iloadx, st_in2, st_return_x, am_put, am_nlg, kb_Model_readPlain_161, oo_82, jx_Model_readPlain_179, kb_Model_readPlain_179, oa_82, (nk_le (by omega) (by omega) : (nI (i) ≤ nI (i)) = (i ≤ i)), Nat.le_refl]
    exact K F hl Pp.rf
  | succ j ih =>
    intro i F e1 hl K
    rw [jx_Model_readPlain_161]
    simp only [ax0, ex_cons, am_get, upz_at, true_and, and_true, Nat.reduceAdd, Nat.reduceLeDiff, Nat.reduceEqDiff, Nat.reduceSub, Int32.reduceOfInt, Int32.reduceAdd, Int32.reduceMul, Int32.reduceSub, ↓reduceIte, Int32.reduceLT, Int32.reduceLE, Int32.reduceToNatClampNeg, Nat.reduceMod, Nat.reduceLT, List.length_cons, List.length_nil, eq_self, true_or, or_true, and_self, implies_true, not_true_eq_false, not_false_eq_true, false_implies, true_implies, forall_const, st_aloadx, st_gotox, st_iconstx, st_if_icmpx, st_iincx, st_iloadx, st_in2, am_put, am_nlg, kb_Model_readPlain_161, oo_82, oa_82, (nk_le (by omega) (by omega) : (nI (a) ≤ nI (i)) = (a ≤ i)), show ¬ a ≤ i by omega]
    refine m_makesL (x := 8) hl (by rw [List.length_append, ng_cl]; omega) (fun F1 l1 p1 => ?_)
    simp only [ax0, ex_cons, am_get, upz_at, true_and, and_true, Nat.reduceAdd, Nat.reduceLeDiff, Nat.reduceEqDiff, Nat.reduceSub, Int32.reduceOfInt, Int32.reduceAdd, Int32.reduceMul, Int32.reduceSub, ↓reduceIte, Int32.reduceLT, Int32.reduceLE, Int32.reduceToNatClampNeg, Nat.reduceMod, Nat.reduceLT, List.length_cons, List.length_nil, eq_self, true_or, or_true, and_self, implies_true, not_true_eq_false, not_false_eq_true, false_implies, true_implies, forall_const, st_aloadx, st_gotox, st_iconstx, st_if_icmpx, st_iincx, st_iloadx, st_in2, am_put, am_nlg, kb_Model_readPlain_161, oo_82, oa_82, nk_succ]
    refine ih (i + 1) F1 (by omega) ?_ (fun F2 l2 p2 => K F2 l2 (p1.tr p2))
    rw [List.append_assoc] at l1
    exact l1
set_option maxRecDepth 20000 in
theorem S4_s (hT : TK n L) {f : Nat} (s0 : S0 h J V n L f) : S4 h J V n L (f + 1) := by
  intro d dp k c ms t F Q z pr hl hb hz K
  rw [pG4] at hz
  have hn := hT.1
  have hL := hT.2.1
  obtain ⟨n1, n2⟩ := nt_ok hT.2.2.1 401 k pr.2.2.1
  have hdp := pr.1
  simp only [ax0, ex_cons, am_get, upz_at, true_and, and_true, Nat.reduceAdd, Nat.reduceLeDiff, Nat.reduceEqDiff, Nat.reduceSub, Int32.reduceOfInt, Int32.reduceAdd, Int32.reduceMul, Int32.reduceSub, ↓reduceIte, Int32.reduceLT, Int32.reduceLE, Int32.reduceToNatClampNeg, Nat.reduceMod, Nat.reduceLT, List.length_cons, List.length_nil, eq_self, true_or, or_true, and_self, implies_true, not_true_eq_false, not_false_eq_true, false_implies, true_implies, forall_const, st_goto_wx, st_iconstx, st_istorex, am_put, am_nlg, kb_Model_readPlain_0, cx_Model_readPlain]
  rw [show d + 3 * (8 - dp) + 5 = (d + 3 * (8 - dp) + 3) + 2 by omega]
  refine m_nots hT 401 k 0 F (by omega) pr.2.1 pr.2.2.1 hl (fun F1 l1 p1 => ?_)
  rw [Nat.zero_add]
  generalize ntC (cdL L) 401 k = a at *
  have pr1 := pr.pp (dp' := dp) (k' := k + a) (c' := c) p1 pr.1 n1 pr.2.2.2
  have hcd := (hT.2.2.2 _ n1).2.2
  have hP1 := (hT.2.2.2 _ n1).1
  simp only [ax0, ex_cons, am_get, upz_at, true_and, and_true, Nat.reduceAdd, Nat.reduceLeDiff, Nat.reduceEqDiff, Nat.reduceSub, Int32.reduceOfInt, Int32.reduceAdd, Int32.reduceMul, Int32.reduceSub, ↓reduceIte, Int32.reduceLT, Int32.reduceLE, Int32.reduceToNatClampNeg, Nat.reduceMod, Nat.reduceLT, List.length_cons, List.length_nil, eq_self, true_or, or_true, and_self, implies_true, not_true_eq_false, not_false_eq_true, false_implies, true_implies, forall_const, st_aloadx, st_ifCondx, st_in1, st_return_x, jx_Model_readPlain_17, kb_Model_readPlain_17, oo_82, oa_82]
  refine m_fineL l1 ?_
  simp only [ax0, ex_cons, am_get, upz_at, true_and, and_true, Nat.reduceAdd, Nat.reduceLeDiff, Nat.reduceEqDiff, Nat.reduceSub, Int32.reduceOfInt, Int32.reduceAdd, Int32.reduceMul, Int32.reduceSub, ↓reduceIte, Int32.reduceLT, Int32.reduceLE, Int32.reduceToNatClampNeg, Nat.reduceMod, Nat.reduceLT, List.length_cons, List.length_nil, eq_self, true_or, or_true, and_self, implies_true, not_true_eq_false, not_false_eq_true, false_implies, true_implies, forall_const, st_aloadx, st_ifCondx, st_in1, st_return_x, jx_Model_readPlain_17, kb_Model_readPlain_17, oo_82, oa_82]
  simp only [ax0, ex_cons, am_get, upz_at, true_and, and_true, Nat.reduceAdd, Nat.reduceLeDiff, Nat.reduceEqDiff, Nat.reduceSub, Int32.reduceOfInt, Int32.reduceAdd, Int32.reduceMul, Int32.reduceSub, ↓reduceIte, Int32.reduceLT, Int32.reduceLE, Int32.reduceToNatClampNeg, Nat.reduceMod, Nat.reduceLT, List.length_cons, List.length_nil, eq_self, true_or, or_true, and_self, implies_true, not_true_eq_false, not_false_eq_true, false_implies, true_implies, forall_const, st_aloadx, st_getfieldx, st_goto_wx, st_iaddx, st_ialoadx, st_iconstx, st_if_icmpx, st_iloadx, st_in1, st_st1, st_ireturnx, st_istorex, am_put, am_nlg, jx_Model_readPlain_25, kb_Model_readPlain_25, og_82_10, og_82_14, oo_82, cx_Model_sign, kb_Model_sign_0, oa_82, oa_90, or_90, l1.1, nk_neg (show k + a < 2147483648 by omega), nk_cl (show k + a < 2147483648 by omega), show k + a < 401 by omega, (pr1.2.1.2 _ n1).1, show (nI (cdL L (k + a)) = (140 : Int32)) = (cdL L (k + a) = 140) from nk_eq (b := 140) (by omega) (by decide)]
  refine And.intro (fun q => ?_) (fun q => ?_)
  · rw [if_neg q] at hz
    simp only [ax0, ex_cons, am_get, upz_at, true_and, and_true, Nat.reduceAdd, Nat.reduceLeDiff, Nat.reduceEqDiff, Nat.reduceSub, Int32.reduceOfInt, Int32.reduceAdd, Int32.reduceMul, Int32.reduceSub, ↓reduceIte, Int32.reduceLT, Int32.reduceLE, Int32.reduceToNatClampNeg, Nat.reduceMod, Nat.reduceLT, List.length_cons, List.length_nil, eq_self, true_or, or_true, and_self, implies_true, not_true_eq_false, not_false_eq_true, false_implies, true_implies, forall_const, st_aloadx, st_getfieldx, st_goto_wx, st_iconstx, st_ifCondx, st_if_icmpx, st_iloadx, st_in1, st_st3, jx_Model_readPlain_91, kb_Model_readPlain_91, og_82_19, oo_82, oa_82]
    refine m_lies ?_
    have hlie : lieB (nI (cdL L (k + a))) 13 20 = decide (13 ≤ cdL L (k + a) ∧ cdL L (k + a) ≤ 20) := lieB_nn (lo := 13) (hi := 20) (by omega) (by decide) (by decide)
    rw [hlie]
    simp only [ax0, ex_cons, am_get, upz_at, true_and, and_true, Nat.reduceAdd, Nat.reduceLeDiff, Nat.reduceEqDiff, Nat.reduceSub, Int32.reduceOfInt, Int32.reduceAdd, Int32.reduceMul, Int32.reduceSub, ↓reduceIte, Int32.reduceLT, Int32.reduceLE, Int32.reduceToNatClampNeg, Nat.reduceMod, Nat.reduceLT, List.length_cons, List.length_nil, eq_self, true_or, or_true, and_self, implies_true, not_true_eq_false, not_false_eq_true, false_implies, true_implies, forall_const, st_aloadx, st_getfieldx, st_goto_wx, st_iconstx, st_ifCondx, st_if_icmpx, st_iloadx, st_in1, st_st3, jx_Model_readPlain_91, kb_Model_readPlain_91, og_82_19, oo_82, oa_82]
    refine ifb (fun q2 => ?_) (fun q2 => ?_)
    · rw [if_neg (of_decide_eq_false q2)] at hz
      cases hz
      simp only [ax0, ex_cons, am_get, upz_at, true_and, and_true, Nat.reduceAdd, Nat.reduceLeDiff, Nat.reduceEqDiff, Nat.reduceSub, Int32.reduceOfInt, Int32.reduceAdd, Int32.reduceMul, Int32.reduceSub, ↓reduceIte, Int32.reduceLT, Int32.reduceLE, Int32.reduceToNatClampNeg, Nat.reduceMod, Nat.reduceLT, List.length_cons, List.length_nil, eq_self, true_or, or_true, and_self, implies_true, not_true_eq_false, not_false_eq_true, false_implies, true_implies, forall_const, st_aloadx, st_goto_wx, st_in1, jx_Model_readPlain_154, kb_Model_readPlain_154, oo_82, oa_82]
      refine m_faultsL hT pr1.2.1 n1 l1 (fun F2 l2 p2 => ?_)
      simp only [ax0, ex_cons, am_get, upz_at, true_and, and_true, Nat.reduceAdd, Nat.reduceLeDiff, Nat.reduceEqDiff, Nat.reduceSub, Int32.reduceOfInt, Int32.reduceAdd, Int32.reduceMul, Int32.reduceSub, ↓reduceIte, Int32.reduceLT, Int32.reduceLE, Int32.reduceToNatClampNeg, Nat.reduceMod, Nat.reduceLT, List.length_cons, List.length_nil, eq_self, true_or, or_true, and_self, implies_true, not_true_eq_false, not_false_eq_true, false_implies, true_implies, forall_const, st_aloadx, st_goto_wx, st_iconstx, st_in1, st_istorex, am_put, am_nlg, jx_Model_readPlain_154, kb_Model_readPlain_154, oo_82, jx_Model_readPlain_158, kb_Model_readPlain_158, oa_82]
      exact m_ngD l2 (by omega) (K F2 l2 (p1.tr p2)) a 0 (by omega)
    · have q2 := of_decide_eq_true q2
      rw [if_pos q2] at hz
      have hk1 := tk_lt hT.2.2.1 (k := k + a) (by omega)
      have hwk := hT.2.2.1.1 (k + a) hk1
      have hw2 : wtC (cdL L (k + a)) = 2 := (by decide : ∀ w : Fin 21, 13 ≤ w.val → wtC w.val = 2) ⟨cdL L (k + a), by omega⟩ q2.1
      have hP2 := (hT.2.2.2 _ (show k + a + 1 ≤ L.length from hk1)).1
      have hc := pr.2.2.2
      simp only [ax0, ex_cons, am_get, upz_at, true_and, and_true, Nat.reduceAdd, Nat.reduceLeDiff, Nat.reduceEqDiff, Nat.reduceSub, Int32.reduceOfInt, Int32.reduceAdd, Int32.reduceMul, Int32.reduceSub, ↓reduceIte, Int32.reduceLT, Int32.reduceLE, Int32.reduceToNatClampNeg, Nat.reduceMod, Nat.reduceLT, List.length_cons, List.length_nil, eq_self, true_or, or_true, and_self, implies_true, not_true_eq_false, not_false_eq_true, false_implies, true_implies, forall_const, st_aloadx, st_getfieldx, st_goto_wx, st_iconstx, st_ifCondx, st_if_icmpx, st_iloadx, st_in1, st_st3, jx_Model_readPlain_91, kb_Model_readPlain_91, og_82_19, oo_82, oa_82, l1.2.2.2.1, show (nI c = (24 : Int32)) = (c = 24) from nk_eq (b := 24) (by omega) (by decide)]
      refine And.intro (fun q3 => ?_) (fun q3 => ?_)
      · rw [if_neg q3] at hz
        cases hz
        simp only [ax0, ex_cons, am_get, upz_at, true_and, and_true, Nat.reduceAdd, Nat.reduceLeDiff, Nat.reduceEqDiff, Nat.reduceSub, Int32.reduceOfInt, Int32.reduceAdd, Int32.reduceMul, Int32.reduceSub, ↓reduceIte, Int32.reduceLT, Int32.reduceLE, Int32.reduceToNatClampNeg, Nat.reduceMod, Nat.reduceLT, List.length_cons, List.length_nil, eq_self, true_or, or_true, and_self, implies_true, not_true_eq_false, not_false_eq_true, false_implies, true_implies, forall_const, st_aloadx, st_dupx, st_dup_1x, st_getfieldx, st_iaddx, st_iconstx, st_ifCondx, st_in1, st_putfieldx, st_return_x, jx_Model_readPlain_115, kb_Model_readPlain_115, og_82_19, op_82_19, oo_82, oa_82, os_82, l1.2.2.2.1, nk_succ]
        have l2 : LV (upz F1 82 (upz (F1 82) 19 (nI (c + 1)))) (k + a) (c + 1) ms := ⟨by rw [upz_eq, upz_ne _ _ (by decide)]; exact l1.1, by rw [upz_eq, upz_ne _ _ (by decide)]; exact l1.2.1, by rw [upz_eq, upz_ne _ _ (by decide)]; exact l1.2.2.1, by rw [upz_eq, upz_eq], by rw [upz_ne _ _ (by decide)]; exact l1.2.2.2.2⟩
        have p2 : Pp F1 (upz F1 82 (upz (F1 82) 19 (nI (c + 1)))) := pp_82 (by decide)
        generalize upz F1 82 (upz (F1 82) 19 (nI (c + 1))) = F2 at l2 p2 ⊢
        refine m_fineL l2 ?_
        simp only [ax0, ex_cons, am_get, upz_at, true_and, and_true, Nat.reduceAdd, Nat.reduceLeDiff, Nat.reduceEqDiff, Nat.reduceSub, Int32.reduceOfInt, Int32.reduceAdd, Int32.reduceMul, Int32.reduceSub, ↓reduceIte, Int32.reduceLT, Int32.reduceLE, Int32.reduceToNatClampNeg, Nat.reduceMod, Nat.reduceLT, List.length_cons, List.length_nil, eq_self, true_or, or_true, and_self, implies_true, not_true_eq_false, not_false_eq_true, false_implies, true_implies, forall_const, st_aloadx, st_dupx, st_dup_1x, st_getfieldx, st_iaddx, st_iconstx, st_ifCondx, st_in1, st_putfieldx, st_return_x, jx_Model_readPlain_115, kb_Model_readPlain_115, og_82_19, op_82_19, oo_82, oa_82, os_82]
        simp only [ax0, ex_cons, am_get, upz_at, true_and, and_true, Nat.reduceAdd, Nat.reduceLeDiff, Nat.reduceEqDiff, Nat.reduceSub, Int32.reduceOfInt, Int32.reduceAdd, Int32.reduceMul, Int32.reduceSub, ↓reduceIte, Int32.reduceLT, Int32.reduceLE, Int32.reduceToNatClampNeg, Nat.reduceMod, Nat.reduceLT, List.length_cons, List.length_nil, eq_self, true_or, or_true, and_self, implies_true, not_true_eq_false, not_false_eq_true, false_implies, true_implies, forall_const, st_aloadx, st_dupx, st_dup_1x, st_getfieldx, st_gotox, st_iaddx, st_iconstx, st_iloadx, st_in2, st_isubx, st_putfieldx, jx_Model_readPlain_133, kb_Model_readPlain_133, og_82_14, op_82_14, oo_82, oa_82, os_82, l2.1, nk_succ, show nI (cdL L (k + a)) - (13 : Int32) = nI (cdL L (k + a) - 13) from nk_sub (b := 13) q2.1]
        have l3 := l2.tk (k + a + 1)
        have p3 : Pp F2 (upz F2 82 (upz (F2 82) 14 (nI (k + a + 1)))) := pp_82 (by decide)
        generalize upz F2 82 (upz (F2 82) 14 (nI (k + a + 1))) = F3 at l3 p3 ⊢
        refine m_makesL (x := cdL L (k + a) - 13) l3 (by omega) (fun F4 l4 p4 => ?_)
        simp only [ax0, ex_cons, am_get, upz_at, true_and, and_true, Nat.reduceAdd, Nat.reduceLeDiff, Nat.reduceEqDiff, Nat.reduceSub, Int32.reduceOfInt, Int32.reduceAdd, Int32.reduceMul, Int32.reduceSub, ↓reduceIte, Int32.reduceLT, Int32.reduceLE, Int32.reduceToNatClampNeg, Nat.reduceMod, Nat.reduceLT, List.length_cons, List.length_nil, eq_self, true_or, or_true, and_self, implies_true, not_true_eq_false, not_false_eq_true, false_implies, true_implies, forall_const, st_aloadx, st_dupx, st_dup_1x, st_getfieldx, st_gotox, st_goto_wx, st_iaddx, st_iconstx, st_iloadx, st_in2, st_istorex, st_isubx, st_putfieldx, am_put, am_nlg, jx_Model_readPlain_133, kb_Model_readPlain_133, og_82_14, op_82_14, oo_82, jx_Model_readPlain_158, kb_Model_readPlain_158, oa_82, os_82]
        refine m_ngL (t := .var (cdL L (k + a) - 13)) (ms := ms) (by rw [List.length_append]; show ms.length + 1 + a < 260; omega) a 0 F4 (by omega) l4 (fun F5 l5 p5 => ?_)
        exact K F5 l5 ((((p1.tr p2).tr p3).tr p4).tr p5)
      · have q3 := Classical.not_not.mp q3
        rw [if_pos q3] at hz
        cases hz
        refine m_faultsL hT pr1.2.1 n1 l1 (fun F2 l2 p2 => ?_)
        simp only [ax0, ex_cons, am_get, upz_at, true_and, and_true, Nat.reduceAdd, Nat.reduceLeDiff, Nat.reduceEqDiff, Nat.reduceSub, Int32.reduceOfInt, Int32.reduceAdd, Int32.reduceMul, Int32.reduceSub, ↓reduceIte, Int32.reduceLT, Int32.reduceLE, Int32.reduceToNatClampNeg, Nat.reduceMod, Nat.reduceLT, List.length_cons, List.length_nil, eq_self, true_or, or_true, and_self, implies_true, not_true_eq_false, not_false_eq_true, false_implies, true_implies, forall_const, st_aloadx, st_dupx, st_dup_1x, st_getfieldx, st_goto_wx, st_iaddx, st_iconstx, st_ifCondx, st_if_icmpx, st_iloadx, st_in1, st_st3, st_putfieldx, st_return_x, jx_Model_readPlain_91, kb_Model_readPlain_91, og_82_19, oo_82, jx_Model_readPlain_115, kb_Model_readPlain_115, op_82_19, oa_82, os_82]
        generalize e3 : upz F2 82 (upz (F2 82) 19 (F2 82 19 + 1)) = F3
        have l3 : DE F3 (plL n L (k + a)) := by rw [← e3]; exact ⟨by rw [upz_eq, upz_ne _ _ (by decide)]; exact l2.1, l2.2⟩
        have p3 : Pp F2 F3 := by rw [← e3]; exact pp_82 (by decide)
        refine m_fineD l3 ?_
        simp only [ax0, ex_cons, am_get, upz_at, true_and, and_true, Nat.reduceAdd, Nat.reduceLeDiff, Nat.reduceEqDiff, Nat.reduceSub, Int32.reduceOfInt, Int32.reduceAdd, Int32.reduceMul, Int32.reduceSub, ↓reduceIte, Int32.reduceLT, Int32.reduceLE, Int32.reduceToNatClampNeg, Nat.reduceMod, Nat.reduceLT, List.length_cons, List.length_nil, eq_self, true_or, or_true, and_self, implies_true, not_true_eq_false, not_false_eq_true, false_implies, true_implies, forall_const, st_aloadx, st_dupx, st_dup_1x, st_getfieldx, st_iaddx, st_iconstx, st_ifCondx, st_in1, st_putfieldx, st_return_x, jx_Model_readPlain_115, kb_Model_readPlain_115, og_82_19, op_82_19, oo_82, oa_82, os_82]
        exact K F3 l3 ((p1.tr p2).tr p3)
  · have q := Classical.not_not.mp q
    rw [if_pos q] at hz
    have hk1 := tk_lt hT.2.2.1 (k := k + a) (by omega)
    have hwk := hT.2.2.1.1 (k + a) hk1
    simp only [show (nI dp = (8 : Int32)) = (dp = 8) from nk_eq (b := 8) (by omega) (by decide)]
    refine And.intro (fun q2 => ?_) (fun q2 => ?_)
    · rw [if_neg q2] at hz
      simp only [ax0, ex_cons, am_get, upz_at, true_and, and_true, Nat.reduceAdd, Nat.reduceLeDiff, Nat.reduceEqDiff, Nat.reduceSub, Int32.reduceOfInt, Int32.reduceAdd, Int32.reduceMul, Int32.reduceSub, ↓reduceIte, Int32.reduceLT, Int32.reduceLE, Int32.reduceToNatClampNeg, Nat.reduceMod, Nat.reduceLT, List.length_cons, List.length_nil, eq_self, true_or, or_true, and_self, implies_true, not_true_eq_false, not_false_eq_true, false_implies, true_implies, forall_const, st_aloadx, st_ifCondx, st_in1, st_return_x, jx_Model_readPlain_54, kb_Model_readPlain_54, oo_82, oa_82]
      refine m_fineL l1 ?_
      simp only [ax0, ex_cons, am_get, upz_at, true_and, and_true, Nat.reduceAdd, Nat.reduceLeDiff, Nat.reduceEqDiff, Nat.reduceSub, Int32.reduceOfInt, Int32.reduceAdd, Int32.reduceMul, Int32.reduceSub, ↓reduceIte, Int32.reduceLT, Int32.reduceLE, Int32.reduceToNatClampNeg, Nat.reduceMod, Nat.reduceLT, List.length_cons, List.length_nil, eq_self, true_or, or_true, and_self, implies_true, not_true_eq_false, not_false_eq_true, false_implies, true_implies, forall_const, st_aloadx, st_ifCondx, st_in1, st_return_x, jx_Model_readPlain_54, kb_Model_readPlain_54, oo_82, oa_82]
      simp only [ax0, ex_cons, am_get, upz_at, true_and, and_true, Nat.reduceAdd, Nat.reduceLeDiff, Nat.reduceEqDiff, Nat.reduceSub, Int32.reduceOfInt, Int32.reduceAdd, Int32.reduceMul, Int32.reduceSub, ↓reduceIte, Int32.reduceLT, Int32.reduceLE, Int32.reduceToNatClampNeg, Nat.reduceMod, Nat.reduceLT, List.length_cons, List.length_nil, eq_self, true_or, or_true, and_self, implies_true, not_true_eq_false, not_false_eq_true, false_implies, true_implies, forall_const, st_aloadx, st_dupx, st_dup_1x, st_getfieldx, st_gotox, st_iaddx, st_iconstx, st_iloadx, st_in2, st_st1, st_putfieldx, jx_Model_readPlain_62, kb_Model_readPlain_62, og_82_14, op_82_14, oo_82, oa_82, os_82, l1.1, nk_succ]
      have l2 := l1.tk (k + a + 1)
      have p2 : Pp F1 (upz F1 82 (upz (F1 82) 14 (nI (k + a + 1)))) := pp_82 (by decide)
      generalize upz F1 82 (upz (F1 82) 14 (nI (k + a + 1))) = F2 at l2 p2 ⊢
      have pr2 := pr1.pp (dp' := dp + 1) (k' := k + a + 1) (c' := c) p2 (by omega) hk1 pr.2.2.2
      have e5 : d + 3 * (8 - dp) + 3 + 2 = d + 3 * (8 - (dp + 1)) + 8 := by omega
      rcases thenP_ok hz with ⟨e, h1, h2⟩ | ⟨x, h1, h2⟩
      · subst h2
        rw [e5]
        refine s0 d (dp + 1) (k + a + 1) c ms t F2 _ _ pr2 l2 (by omega) h1 (fun F3 r3 p3 => ?_)
        have r3 : DE F3 (plL n L e) := r3
        rw [← e5]
        simp only [ax0, ex_cons, am_get, upz_at, true_and, and_true, Nat.reduceAdd, Nat.reduceLeDiff, Nat.reduceEqDiff, Nat.reduceSub, Int32.reduceOfInt, Int32.reduceAdd, Int32.reduceMul, Int32.reduceSub, ↓reduceIte, Int32.reduceLT, Int32.reduceLE, Int32.reduceToNatClampNeg, Nat.reduceMod, Nat.reduceLT, List.length_cons, List.length_nil, eq_self, true_or, or_true, and_self, implies_true, not_true_eq_false, not_false_eq_true, false_implies, true_implies, forall_const, st_aloadx, st_dupx, st_dup_1x, st_getfieldx, st_gotox, st_iaddx, st_iconstx, st_iloadx, st_in2, st_st1, st_ireturnx, st_putfieldx, jx_Model_readPlain_62, kb_Model_readPlain_62, og_82_14, op_82_14, oo_82, cx_Model_sign, kb_Model_sign_0, oa_82, os_82]
        refine m_mustD r3 ?_
        simp only [ax0, ex_cons, am_get, upz_at, true_and, and_true, Nat.reduceAdd, Nat.reduceLeDiff, Nat.reduceEqDiff, Nat.reduceSub, Int32.reduceOfInt, Int32.reduceAdd, Int32.reduceMul, Int32.reduceSub, ↓reduceIte, Int32.reduceLT, Int32.reduceLE, Int32.reduceToNatClampNeg, Nat.reduceMod, Nat.reduceLT, List.length_cons, List.length_nil, eq_self, true_or, or_true, and_self, implies_true, not_true_eq_false, not_false_eq_true, false_implies, true_implies, forall_const, st_aloadx, st_dupx, st_dup_1x, st_getfieldx, st_gotox, st_goto_wx, st_iaddx, st_iconstx, st_iloadx, st_in2, st_st1, st_istorex, st_putfieldx, am_put, am_nlg, jx_Model_readPlain_62, kb_Model_readPlain_62, og_82_14, op_82_14, oo_82, jx_Model_readPlain_158, kb_Model_readPlain_158, oa_82, os_82]
        exact m_ngD r3 (by omega) (K F3 r3 ((p1.tr p2).tr p3)) a 0 (by omega)
      · obtain ⟨a1, a2, a3, a4⟩ := pG_ok hT.2.2.1 f 0 (dp + 1) (k + a + 1) c t _ hk1 pr.2.2.2 (fun q => by omega) (by omega) h1
        rw [if_neg (by omega)] at a4
        have hP := (hT.2.2.2 _ a2).1
        have hws2 := ws_cd a1
        rw [e5]
        refine s0 d (dp + 1) (k + a + 1) c ms t F2 _ _ pr2 l2 (by omega) h1 (fun F3 r3 p3 => ?_)
        have r3 : LV F3 x.2.1 x.2.2 (ms ++ cdT x.1) := r3
        have pr3 := pr2.pp (dp' := dp) (k' := x.2.1) (c' := x.2.2) p3 pr.1 a2 a3
        rw [← e5]
        simp only [ax0, ex_cons, am_get, upz_at, true_and, and_true, Nat.reduceAdd, Nat.reduceLeDiff, Nat.reduceEqDiff, Nat.reduceSub, Int32.reduceOfInt, Int32.reduceAdd, Int32.reduceMul, Int32.reduceSub, ↓reduceIte, Int32.reduceLT, Int32.reduceLE, Int32.reduceToNatClampNeg, Nat.reduceMod, Nat.reduceLT, List.length_cons, List.length_nil, eq_self, true_or, or_true, and_self, implies_true, not_true_eq_false, not_false_eq_true, false_implies, true_implies, forall_const, st_aloadx, st_dupx, st_dup_1x, st_getfieldx, st_gotox, st_iaddx, st_iconstx, st_iloadx, st_in2, st_st1, st_ireturnx, st_putfieldx, jx_Model_readPlain_62, kb_Model_readPlain_62, og_82_14, op_82_14, oo_82, cx_Model_sign, kb_Model_sign_0, oa_82, os_82]
        refine m_mustL hT pr3.2.1 a2 r3 (w := 141) (by decide) (fun q4 F4 l4 p4 => ?_) (fun q4 F4 l4 p4 => ?_)
        · rw [if_neg q4] at h2
          cases h2
          simp only [ax0, ex_cons, am_get, upz_at, true_and, and_true, Nat.reduceAdd, Nat.reduceLeDiff, Nat.reduceEqDiff, Nat.reduceSub, Int32.reduceOfInt, Int32.reduceAdd, Int32.reduceMul, Int32.reduceSub, ↓reduceIte, Int32.reduceLT, Int32.reduceLE, Int32.reduceToNatClampNeg, Nat.reduceMod, Nat.reduceLT, List.length_cons, List.length_nil, eq_self, true_or, or_true, and_self, implies_true, not_true_eq_false, not_false_eq_true, false_implies, true_implies, forall_const, st_aloadx, st_dupx, st_dup_1x, st_getfieldx, st_gotox, st_goto_wx, st_iaddx, st_iconstx, st_iloadx, st_in2, st_st1, st_istorex, st_putfieldx, am_put, am_nlg, jx_Model_readPlain_62, kb_Model_readPlain_62, og_82_14, op_82_14, oo_82, jx_Model_readPlain_158, kb_Model_readPlain_158, oa_82, os_82]
          exact m_ngD l4 (by omega) (K F4 l4 (((p1.tr p2).tr p3).tr p4)) a 0 (by omega)
        · rw [if_pos q4] at h2
          cases h2
          simp only [ax0, ex_cons, am_get, upz_at, true_and, and_true, Nat.reduceAdd, Nat.reduceLeDiff, Nat.reduceEqDiff, Nat.reduceSub, Int32.reduceOfInt, Int32.reduceAdd, Int32.reduceMul, Int32.reduceSub, ↓reduceIte, Int32.reduceLT, Int32.reduceLE, Int32.reduceToNatClampNeg, Nat.reduceMod, Nat.reduceLT, List.length_cons, List.length_nil, eq_self, true_or, or_true, and_self, implies_true, not_true_eq_false, not_false_eq_true, false_implies, true_implies, forall_const, st_aloadx, st_dupx, st_dup_1x, st_getfieldx, st_gotox, st_goto_wx, st_iaddx, st_iconstx, st_iloadx, st_in2, st_st1, st_istorex, st_putfieldx, am_put, am_nlg, jx_Model_readPlain_62, kb_Model_readPlain_62, og_82_14, op_82_14, oo_82, jx_Model_readPlain_158, kb_Model_readPlain_158, oa_82, os_82]
          refine m_ngL (t := x.1) (ms := ms) (by rw [List.length_append]; omega) a 0 F4 (by omega) l4 (fun F5 l5 p5 => ?_)
          exact K F5 l5 ((((p1.tr p2).tr p3).tr p4).tr p5)
    · have q2 := Classical.not_not.mp q2
      rw [if_pos q2] at hz
      cases hz
      refine m_faultsL hT pr1.2.1 n1 l1 (fun F2 l2 p2 => ?_)
      simp only [ax0, ex_cons, am_get, upz_at, true_and, and_true, Nat.reduceAdd, Nat.reduceLeDiff, Nat.reduceEqDiff, Nat.reduceSub, Int32.reduceOfInt, Int32.reduceAdd, Int32.reduceMul, Int32.reduceSub, ↓reduceIte, Int32.reduceLT, Int32.reduceLE, Int32.reduceToNatClampNeg, Nat.reduceMod, Nat.reduceLT, List.length_cons, List.length_nil, eq_self, true_or, or_true, and_self, implies_true, not_true_eq_false, not_false_eq_true, false_implies, true_implies, forall_const, st_aloadx, st_getfieldx, st_goto_wx, st_ialoadx, st_iconstx, st_ifCondx, st_if_icmpx, st_iloadx, st_in1, st_st1, st_istorex, st_return_x, am_put, am_nlg, jx_Model_readPlain_25, kb_Model_readPlain_25, og_82_10, og_82_14, oo_82, jx_Model_readPlain_54, kb_Model_readPlain_54, oa_82, oa_90, or_90]
      refine m_fineD l2 ?_
      simp only [ax0, ex_cons, am_get, upz_at, true_and, and_true, Nat.reduceAdd, Nat.reduceLeDiff, Nat.reduceEqDiff, Nat.reduceSub, Int32.reduceOfInt, Int32.reduceAdd, Int32.reduceMul, Int32.reduceSub, ↓reduceIte, Int32.reduceLT, Int32.reduceLE, Int32.reduceToNatClampNeg, Nat.reduceMod, Nat.reduceLT, List.length_cons, List.length_nil, eq_self, true_or, or_true, and_self, implies_true, not_true_eq_false, not_false_eq_true, false_implies, true_implies, forall_const, st_aloadx, st_ifCondx, st_in1, st_return_x, jx_Model_readPlain_54, kb_Model_readPlain_54, oo_82, oa_82]
      exact K F2 l2 (p1.tr p2)
theorem m_parse (hT : TK n L) : ∀ f, S0 h J V n L f ∧ S1 h J V n L f ∧ S2 h J V n L f ∧ S3 h J V n L f ∧ S4 h J V n L f := by
  intro f
  induction f with
  | zero =>
    refine ⟨?_, ?_, ?_, ?_, ?_⟩
    · intro d dp k c ms t F Q z _ _ _ hz; cases hz
    · intro d dp k c ms t F Q z _ _ _ _ hz; cases hz
    · intro d dp k c ms t F Q z _ _ _ hz; cases hz
    · intro d dp k c ms t F Q z _ _ _ _ hz; cases hz
    · intro d dp k c ms t F Q z _ _ _ hz; cases hz
  | succ f ih =>
    obtain ⟨i0, i1, i2, i3, i4⟩ := ih
    exact ⟨S0_s hT i2 i1, S1_s hT i2 i1, S2_s hT i4 i3, S3_s hT i4 i3, S4_s hT i0⟩
end MPY
