/-! ===== the model: readSentence as a whole ===== -/
section MSO
variable {d n : Nat} {L : List (Nat × Nat)} {h : am_H} {F : Nat → Nat → Int32} {J : Nat → Nat → Int64} {V : Nat → Nat → Value} {Q : am_Q}
set_option maxRecDepth 20000 in
theorem m_rsF (hT : TK n L) (c1 : 1 ≤ cdL L 0) (c5 : cdL L 0 ≤ 5) {k : Nat} (hk : k ≤ L.length) (hr : TKr F n L) (hl : LV F k 0 []) (h20 : F 82 20 = nI (cdL L 0)) (h22 : F 82 22 = -1) (K : ∀ F', RSs n L F' (thenQ (pQ (cdL L) L.length k 0) (psB (cdL L) L.length)) → Pg F F' → Q none (ov h F' J V)) : am_W kc_Model_readSentence (am_cl (d + 32)) Q 177 [.ref 82] [] (ov h F J V) := by
  simp only [ax0, ex_cons, am_get, upz_at, true_and, and_true, Nat.reduceAdd, Nat.reduceLeDiff, Nat.reduceEqDiff, Nat.reduceSub, Int32.reduceOfInt, Int32.reduceAdd, Int32.reduceMul, Int32.reduceSub, ↓reduceIte, Int32.reduceLT, Int32.reduceLE, Int32.reduceToNatClampNeg, Nat.reduceMod, Nat.reduceLT, List.length_cons, List.length_nil, eq_self, true_or, or_true, and_self, implies_true, not_true_eq_false, not_false_eq_true, false_implies, true_implies, forall_const, st_aloadx, st_getfieldx, st_gotox, st_iconstx, st_ifCondx, st_if_icmpx, st_in2, st_putfieldx, jx_Model_readSentence_177, kb_Model_readSentence_177, oo_82, og_82_18, op_82_23, og_82_20, oa_82, os_82]
  have ok := pQ_ok hT.2.2.1 hk (c := 0) (by decide)
  refine m_term0 hT hr hk (by decide) hl (by have : ([] : List Nat).length = 0 := rfl; omega) (fun F1 r1 p1 => ?_)
  simp only [ax0, ex_cons, am_get, upz_at, true_and, and_true, Nat.reduceAdd, Nat.reduceLeDiff, Nat.reduceEqDiff, Nat.reduceSub, Int32.reduceOfInt, Int32.reduceAdd, Int32.reduceMul, Int32.reduceSub, ↓reduceIte, Int32.reduceLT, Int32.reduceLE, Int32.reduceToNatClampNeg, Nat.reduceMod, Nat.reduceLT, List.length_cons, List.length_nil, eq_self, true_or, or_true, and_self, implies_true, not_true_eq_false, not_false_eq_true, false_implies, true_implies, forall_const, st_aloadx, st_getfieldx, st_gotox, st_iconstx, st_ifCondx, st_if_icmpx, st_in2, st_putfieldx, jx_Model_readSentence_177, kb_Model_readSentence_177, oo_82, og_82_18, op_82_23, og_82_20, oa_82, os_82]
  cases e : pQ (cdL L) L.length k 0 with
  | inl e1 =>
    rw [e] at r1 K
    have r1 : DE F1 (plL n L e1) := r1
    have l2 := r1.w (i := 23) (by decide) (F1 82 18)
    have p2 : Pg F (upz F1 82 (upz (F1 82) 23 (F1 82 18))) := p1.pg.tr (pg_82 (by decide))
    have f20 : (upz F1 82 (upz (F1 82) 23 (F1 82 18))) 82 20 = nI (cdL L 0) := by rw [upz_eq, upz_ne _ _ (by decide), p1.2 20 (by decide) (by decide) (by decide) (by decide)]; exact h20
    generalize upz F1 82 (upz (F1 82) 23 (F1 82 18)) = F2 at l2 p2 f20 ⊢
    refine m_mustD l2 ?_
    simp only [ax0, ex_cons, am_get, upz_at, true_and, and_true, Nat.reduceAdd, Nat.reduceLeDiff, Nat.reduceEqDiff, Nat.reduceSub, Int32.reduceOfInt, Int32.reduceAdd, Int32.reduceMul, Int32.reduceSub, ↓reduceIte, Int32.reduceLT, Int32.reduceLE, Int32.reduceToNatClampNeg, Nat.reduceMod, Nat.reduceLT, List.length_cons, List.length_nil, eq_self, true_or, or_true, and_self, implies_true, not_true_eq_false, not_false_eq_true, false_implies, true_implies, forall_const, st_aloadx, st_getfieldx, st_gotox, st_goto_wx, st_iconstx, st_ifCondx, st_if_icmpx, st_in2, st_putfieldx, jx_Model_readSentence_177, kb_Model_readSentence_177, oo_82, og_82_18, op_82_23, og_82_20, jx_Model_readSentence_218, kb_Model_readSentence_218, oa_82, os_82, f20]
    refine And.intro (fun q2 => ?_) (fun q2 => ?_)
    · exact m_rsDead 219 (by decide) l2 rfl (fun F3 l3 p3 => K F3 l3 (p2.tr p3))
    · refine m_takes0D l2 ?_
      simp only [ax0, ex_cons, am_get, upz_at, true_and, and_true, Nat.reduceAdd, Nat.reduceLeDiff, Nat.reduceEqDiff, Nat.reduceSub, Int32.reduceOfInt, Int32.reduceAdd, Int32.reduceMul, Int32.reduceSub, ↓reduceIte, Int32.reduceLT, Int32.reduceLE, Int32.reduceToNatClampNeg, Nat.reduceMod, Nat.reduceLT, List.length_cons, List.length_nil, eq_self, true_or, or_true, and_self, implies_true, not_true_eq_false, not_false_eq_true, false_implies, true_implies, forall_const, st_aloadx, st_getfieldx, st_gotox, st_goto_wx, st_iconstx, st_ifCondx, st_if_icmpx, st_in2, st_putfieldx, jx_Model_readSentence_177, kb_Model_readSentence_177, oo_82, og_82_18, op_82_23, og_82_20, jx_Model_readSentence_218, kb_Model_readSentence_218, oa_82, os_82]
      exact m_rsDead 219 (by decide) l2 rfl (fun F3 l3 p3 => K F3 l3 (p2.tr p3))
  | inr x =>
    rw [e] at r1 K ok
    have r1 : LV F1 x.2.1 x.2.2 (cdT x.1) := r1
    obtain ⟨a1, a2, a3, a4⟩ := ok
    rw [if_neg (by omega)] at a4
    rw [r1.2.2.1]
    have p2 : Pg F (upz F1 82 (upz (F1 82) 23 (nI (cdT x.1).length))) := p1.pg.tr (pg_82 (by decide))
    refine m_rsB hT a1 a2 a3 (hr.pg p2) (r1.w (by decide) _) (by omega) c5 ?_ ?_ (by rw [upz_eq, upz_eq]) (fun F3 r3 p3 => K F3 r3 (p2.tr p3))
    · rw [upz_eq, upz_ne _ _ (by decide), p1.2 20 (by decide) (by decide) (by decide) (by decide)]; exact h20
    · rw [upz_eq, upz_ne _ _ (by decide), p1.2 22 (by decide) (by decide) (by decide) (by decide)]; exact h22
set_option maxRecDepth 20000 in
theorem m_readSentence (hT : TK n L) (hr : TKr F n L) (hl : LV F 0 0 []) (K : ∀ F', RSs n L F' (psS (cdL L) L.length) → Pg F F' → Q none (ov h F' J V)) : am_cl (d + 33) 202 [.ref 82] (ov h F J V) Q := by
  have h0 : (0 : Nat) ≤ L.length := Nat.zero_le _
  have hc0 := (hT.2.2.2 0 h0).2.2
  unfold psS at K
  simp only [ax0, ex_cons, am_get, upz_at, true_and, and_true, Nat.reduceAdd, Nat.reduceLeDiff, Nat.reduceEqDiff, Nat.reduceSub, Int32.reduceOfInt, Int32.reduceAdd, Int32.reduceMul, Int32.reduceSub, ↓reduceIte, Int32.reduceLT, Int32.reduceLE, Int32.reduceToNatClampNeg, Nat.reduceMod, Nat.reduceLT, List.length_cons, List.length_nil, eq_self, true_or, or_true, and_self, implies_true, not_true_eq_false, not_false_eq_true, false_implies, true_implies, forall_const, st_aloadx, st_dupx, st_dup_1x, st_getfieldx, st_gotox, st_iaddx, st_ialoadx, st_iconstx, st_ifCondx, st_in2, st_st3, st_isubx, st_putfieldx, kb_Model_readSentence_0, og_82_10, og_82_14, op_82_20, op_82_21, op_82_22, op_82_23, og_82_20, op_82_14, oo_82, oa_82, os_82, oa_90, or_90, cx_Model_readSentence, hl.1, nk_neg (show 0 < 2147483648 by omega), nk_cl (show 0 < 2147483648 by omega), (hr.2 0 h0).1, upz_upd, upz_eq]
  generalize eF : upz F 82 _ = F1
  have l1 : LV F1 0 0 [] := by rw [← eF]; exact ⟨by rw [upz_eq]; exact hl.1, by rw [upz_eq]; exact hl.2.1, by rw [upz_eq]; exact hl.2.2.1, by rw [upz_eq]; exact hl.2.2.2.1, by rw [upz_ne _ _ (by decide)]; exact hl.2.2.2.2⟩
  have p1 : Pg F F1 := by rw [← eF]; exact ⟨fun a h1 _ => upz_ne _ _ h1, fun i h1 h2 h3 => by rw [upz_eq, upz_ne _ _ (by omega), upz_ne _ _ (by omega), upz_ne _ _ (by omega), upz_ne _ _ (by omega)]⟩
  have f20 : F1 82 20 = nI (cdL L 0) := by rw [← eF, upz_eq]; rfl
  have f22 : F1 82 22 = -1 := by rw [← eF, upz_eq]; rfl
  have f23 : F1 82 23 = 0 := by rw [← eF, upz_eq]; rfl
  clear eF
  have r1 := hr.pg p1
  refine m_lies ?_
  rw [show lieB (nI (cdL L 0)) 21 24 = decide (21 ≤ cdL L 0 ∧ cdL L 0 ≤ 24) from lieB_nn (lo := 21) (hi := 24) (by omega) (by decide) (by decide)]
  simp only [ax0, ex_cons, am_get, upz_at, true_and, and_true, Nat.reduceAdd, Nat.reduceLeDiff, Nat.reduceEqDiff, Nat.reduceSub, Int32.reduceOfInt, Int32.reduceAdd, Int32.reduceMul, Int32.reduceSub, ↓reduceIte, Int32.reduceLT, Int32.reduceLE, Int32.reduceToNatClampNeg, Nat.reduceMod, Nat.reduceLT, List.length_cons, List.length_nil, eq_self, true_or, or_true, and_self, implies_true, not_true_eq_false, not_false_eq_true, false_implies, true_implies, forall_const, st_aloadx, st_dupx, st_dup_1x, st_getfieldx, st_gotox, st_iaddx, st_ialoadx, st_iconstx, st_ifCondx, st_in2, st_st3, st_isubx, st_putfieldx, kb_Model_readSentence_0, og_82_10, og_82_14, op_82_20, op_82_21, op_82_22, op_82_23, og_82_20, op_82_14, oo_82, oa_82, os_82, oa_90, or_90, f20, l1.1, nk_succ, upz_upd, upz_eq]
  refine ifb (fun q => ?_) (fun q => ?_)
  · rw [if_neg (of_decide_eq_false q)] at K
    simp only [ax0, ex_cons, am_get, upz_at, true_and, and_true, Nat.reduceAdd, Nat.reduceLeDiff, Nat.reduceEqDiff, Nat.reduceSub, Int32.reduceOfInt, Int32.reduceAdd, Int32.reduceMul, Int32.reduceSub, ↓reduceIte, Int32.reduceLT, Int32.reduceLE, Int32.reduceToNatClampNeg, Nat.reduceMod, Nat.reduceLT, List.length_cons, List.length_nil, eq_self, true_or, or_true, and_self, implies_true, not_true_eq_false, not_false_eq_true, false_implies, true_implies, forall_const, st_aloadx, st_gotox, st_iconstx, st_ifCondx, st_in2, jx_Model_readSentence_101, kb_Model_readSentence_101, oo_82, oa_82]
    refine m_takes0L hT r1 h0 l1 (w := 9) (by decide) (fun q2 => ?_) (fun q2 F2 l2 p2 => ?_)
    · rw [if_neg q2] at K
      simp only [ax0, ex_cons, am_get, upz_at, true_and, and_true, Nat.reduceAdd, Nat.reduceLeDiff, Nat.reduceEqDiff, Nat.reduceSub, Int32.reduceOfInt, Int32.reduceAdd, Int32.reduceMul, Int32.reduceSub, ↓reduceIte, Int32.reduceLT, Int32.reduceLE, Int32.reduceToNatClampNeg, Nat.reduceMod, Nat.reduceLT, List.length_cons, List.length_nil, eq_self, true_or, or_true, and_self, implies_true, not_true_eq_false, not_false_eq_true, false_implies, true_implies, forall_const, st_aloadx, st_gotox, st_iconstx, st_ifCondx, st_in2, jx_Model_readSentence_101, kb_Model_readSentence_101, oo_82, oa_82]
      simp only [ax0, ex_cons, am_get, upz_at, true_and, and_true, Nat.reduceAdd, Nat.reduceLeDiff, Nat.reduceEqDiff, Nat.reduceSub, Int32.reduceOfInt, Int32.reduceAdd, Int32.reduceMul, Int32.reduceSub, ↓reduceIte, Int32.reduceLT, Int32.reduceLE, Int32.reduceToNatClampNeg, Nat.reduceMod, Nat.reduceLT, List.length_cons, List.length_nil, eq_self, true_or, or_true, and_self, implies_true, not_true_eq_false, not_false_eq_true, false_implies, true_implies, forall_const, st_aloadx, st_dupx, st_dup_1x, st_getfieldx, st_goto_wx, st_iaddx, st_iconstx, st_ifCondx, st_if_icmpx, st_in2, st_st3, st_putfieldx, jx_Model_readSentence_141, kb_Model_readSentence_141, og_82_20, og_82_14, op_82_14, oo_82, oa_82, os_82, f20]
      refine m_lies ?_
      rw [show lieB (nI (cdL L 0)) 1 5 = decide (1 ≤ cdL L 0 ∧ cdL L 0 ≤ 5) from lieB_nn (lo := 1) (hi := 5) (by omega) (by decide) (by decide)]
      simp only [ax0, ex_cons, am_get, upz_at, true_and, and_true, Nat.reduceAdd, Nat.reduceLeDiff, Nat.reduceEqDiff, Nat.reduceSub, Int32.reduceOfInt, Int32.reduceAdd, Int32.reduceMul, Int32.reduceSub, ↓reduceIte, Int32.reduceLT, Int32.reduceLE, Int32.reduceToNatClampNeg, Nat.reduceMod, Nat.reduceLT, List.length_cons, List.length_nil, eq_self, true_or, or_true, and_self, implies_true, not_true_eq_false, not_false_eq_true, false_implies, true_implies, forall_const, st_aloadx, st_dupx, st_dup_1x, st_getfieldx, st_goto_wx, st_iaddx, st_iconstx, st_ifCondx, st_if_icmpx, st_in2, st_st3, st_putfieldx, jx_Model_readSentence_141, kb_Model_readSentence_141, og_82_20, og_82_14, op_82_14, oo_82, oa_82, os_82, f20, l1.1, nk_succ, show (nI (cdL L 0) = (5 : Int32)) = (cdL L 0 = 5) from nk_eq (b := 5) (by omega) (by decide)]
      refine ifb (fun q3 => ?_) (fun q3 => ?_)
      · rw [if_neg (of_decide_eq_false q3)] at K
        simp only [ax0, ex_cons, am_get, upz_at, true_and, and_true, Nat.reduceAdd, Nat.reduceLeDiff, Nat.reduceEqDiff, Nat.reduceSub, Int32.reduceOfInt, Int32.reduceAdd, Int32.reduceMul, Int32.reduceSub, ↓reduceIte, Int32.reduceLT, Int32.reduceLE, Int32.reduceToNatClampNeg, Nat.reduceMod, Nat.reduceLT, List.length_cons, List.length_nil, eq_self, true_or, or_true, and_self, implies_true, not_true_eq_false, not_false_eq_true, false_implies, true_implies, forall_const, st_aloadx, st_goto_wx, st_in1, jx_Model_readSentence_230, kb_Model_readSentence_230, oo_82, oa_82]
        refine m_faultsL hT r1 h0 l1 (fun F2 l2 p2 => ?_)
        simp only [ax0, ex_cons, am_get, upz_at, true_and, and_true, Nat.reduceAdd, Nat.reduceLeDiff, Nat.reduceEqDiff, Nat.reduceSub, Int32.reduceOfInt, Int32.reduceAdd, Int32.reduceMul, Int32.reduceSub, ↓reduceIte, Int32.reduceLT, Int32.reduceLE, Int32.reduceToNatClampNeg, Nat.reduceMod, Nat.reduceLT, List.length_cons, List.length_nil, eq_self, true_or, or_true, and_self, implies_true, not_true_eq_false, not_false_eq_true, false_implies, true_implies, forall_const, st_aloadx, st_goto_wx, st_in1, st_return_x, jx_Model_readSentence_230, kb_Model_readSentence_230, oo_82, jx_Model_readSentence_234, kb_Model_readSentence_234, oa_82]
        exact K F2 l2 (p1.tr p2.pg)
      · have q3 := of_decide_eq_true q3
        rw [if_pos q3] at K
        unfold psF at K
        have hk1 := tk_lt hT.2.2.1 (k := 0) (by omega)
        have l2 := l1.tk 1
        have p2 : Pg F1 (upz F1 82 (upz (F1 82) 14 (nI 1))) := pg_82 (by decide)
        have g20 : (upz F1 82 (upz (F1 82) 14 (nI 1))) 82 20 = nI (cdL L 0) := by rw [upz_eq, upz_ne _ _ (by decide)]; exact f20
        have g22 : (upz F1 82 (upz (F1 82) 14 (nI 1))) 82 22 = -1 := by rw [upz_eq, upz_ne _ _ (by decide)]; exact f22
        generalize upz F1 82 (upz (F1 82) 14 (nI 1)) = F2 at l2 p2 g20 g22 ⊢
        refine And.intro (fun q4 => ?_) (fun q4 => ?_)
        · rw [if_neg q4] at K
          exact m_rsF hT q3.1 q3.2 hk1 (r1.pg p2) l2 g20 g22 (fun F3 r3 p3 => K F3 r3 ((p1.tr p2).tr p3))
        · rw [if_pos (Classical.not_not.mp q4)] at K
          refine m_mustL hT (r1.pg p2) hk1 l2 (w := 6) (by decide) (fun q5 F3 l3 p3 => ?_) (fun q5 F3 l3 p3 => ?_)
          · rw [if_neg q5] at K
            simp only [ax0, ex_cons, am_get, upz_at, true_and, and_true, Nat.reduceAdd, Nat.reduceLeDiff, Nat.reduceEqDiff, Nat.reduceSub, Int32.reduceOfInt, Int32.reduceAdd, Int32.reduceMul, Int32.reduceSub, ↓reduceIte, Int32.reduceLT, Int32.reduceLE, Int32.reduceToNatClampNeg, Nat.reduceMod, Nat.reduceLT, List.length_cons, List.length_nil, eq_self, true_or, or_true, and_self, implies_true, not_true_eq_false, not_false_eq_true, false_implies, true_implies, forall_const, st_aloadx, st_dupx, st_dup_1x, st_getfieldx, st_gotox, st_goto_wx, st_iaddx, st_iconstx, st_ifCondx, st_if_icmpx, st_in2, st_st3, st_putfieldx, jx_Model_readSentence_141, kb_Model_readSentence_141, og_82_20, og_82_14, op_82_14, oo_82, jx_Model_readSentence_177, kb_Model_readSentence_177, og_82_18, op_82_23, oa_82, os_82]
            refine m_termD l3 ?_
            simp only [ax0, ex_cons, am_get, upz_at, true_and, and_true, Nat.reduceAdd, Nat.reduceLeDiff, Nat.reduceEqDiff, Nat.reduceSub, Int32.reduceOfInt, Int32.reduceAdd, Int32.reduceMul, Int32.reduceSub, ↓reduceIte, Int32.reduceLT, Int32.reduceLE, Int32.reduceToNatClampNeg, Nat.reduceMod, Nat.reduceLT, List.length_cons, List.length_nil, eq_self, true_or, or_true, and_self, implies_true, not_true_eq_false, not_false_eq_true, false_implies, true_implies, forall_const, st_aloadx, st_getfieldx, st_gotox, st_iconstx, st_ifCondx, st_if_icmpx, st_in2, st_putfieldx, jx_Model_readSentence_177, kb_Model_readSentence_177, oo_82, og_82_18, op_82_23, og_82_20, oa_82, os_82]
            have l4 := l3.w (i := 23) (by decide) (F3 82 18)
            have p4 : Pg F3 (upz F3 82 (upz (F3 82) 23 (F3 82 18))) := pg_82 (by decide)
            have g20' : (upz F3 82 (upz (F3 82) 23 (F3 82 18))) 82 20 = nI (cdL L 0) := by rw [upz_eq, upz_ne _ _ (by decide), p3.2 20 (by decide) (by decide) (by decide) (by decide)]; exact g20
            generalize upz F3 82 (upz (F3 82) 23 (F3 82 18)) = F4 at l4 p4 g20' ⊢
            refine m_mustD l4 ?_
            simp only [ax0, ex_cons, am_get, upz_at, true_and, and_true, Nat.reduceAdd, Nat.reduceLeDiff, Nat.reduceEqDiff, Nat.reduceSub, Int32.reduceOfInt, Int32.reduceAdd, Int32.reduceMul, Int32.reduceSub, ↓reduceIte, Int32.reduceLT, Int32.reduceLE, Int32.reduceToNatClampNeg, Nat.reduceMod, Nat.reduceLT, List.length_cons, List.length_nil, eq_self, true_or, or_true, and_self, implies_true, not_true_eq_false, not_false_eq_true, false_implies, true_implies, forall_const, st_aloadx, st_getfieldx, st_gotox, st_goto_wx, st_iconstx, st_ifCondx, st_if_icmpx, st_in2, st_putfieldx, jx_Model_readSentence_177, kb_Model_readSentence_177, oo_82, og_82_18, op_82_23, og_82_20, jx_Model_readSentence_218, kb_Model_readSentence_218, oa_82, os_82, g20', show (nI (cdL L 0) = (3 : Int32)) = (cdL L 0 = 3) from nk_eq (b := 3) (by omega) (by decide), show ¬ cdL L 0 = 3 by omega]
            exact m_rsDead 219 (by decide) l4 rfl (fun F5 l5 p5 => K F5 l5 ((((p1.tr p2).tr p3.pg).tr p4).tr p5))
          · rw [if_pos q5] at K
            simp only [ax0, ex_cons, am_get, upz_at, true_and, and_true, Nat.reduceAdd, Nat.reduceLeDiff, Nat.reduceEqDiff, Nat.reduceSub, Int32.reduceOfInt, Int32.reduceAdd, Int32.reduceMul, Int32.reduceSub, ↓reduceIte, Int32.reduceLT, Int32.reduceLE, Int32.reduceToNatClampNeg, Nat.reduceMod, Nat.reduceLT, List.length_cons, List.length_nil, eq_self, true_or, or_true, and_self, implies_true, not_true_eq_false, not_false_eq_true, false_implies, true_implies, forall_const, st_aloadx, st_dupx, st_dup_1x, st_getfieldx, st_goto_wx, st_iaddx, st_iconstx, st_ifCondx, st_if_icmpx, st_in2, st_st3, st_putfieldx, jx_Model_readSentence_141, kb_Model_readSentence_141, og_82_20, og_82_14, op_82_14, oo_82, oa_82, os_82]
            have hk2 := tk_lt hT.2.2.1 (k := 1) (by rw [q5]; decide)
            have g20' : F3 82 20 = nI (cdL L 0) := by rw [p3.2 20 (by decide) (by decide) (by decide) (by decide)]; exact g20
            have g22' : F3 82 22 = -1 := by rw [p3.2 22 (by decide) (by decide) (by decide) (by decide)]; exact g22
            exact m_rsF hT q3.1 q3.2 hk2 ((r1.pg p2).pp p3) l3 g20' g22' (fun F4 r4 p4 => K F4 r4 (((p1.tr p2).tr p3.pg).tr p4))
    · rw [if_pos q2] at K
      unfold psT at K
      have hk1 := tk_lt hT.2.2.1 (k := 0) (by rw [q2]; decide)
      have g20 : F2 82 20 = nI 9 := by rw [p2.2 20 (by decide) (by decide) (by decide) (by decide), f20, q2]
      have g22 : F2 82 22 = -1 := by rw [p2.2 22 (by decide) (by decide) (by decide) (by decide)]; exact f22
      have g23 : F2 82 23 = 0 := by rw [p2.2 23 (by decide) (by decide) (by decide) (by decide)]; exact f23
      simp only [ax0, ex_cons, am_get, upz_at, true_and, and_true, Nat.reduceAdd, Nat.reduceLeDiff, Nat.reduceEqDiff, Nat.reduceSub, Int32.reduceOfInt, Int32.reduceAdd, Int32.reduceMul, Int32.reduceSub, ↓reduceIte, Int32.reduceLT, Int32.reduceLE, Int32.reduceToNatClampNeg, Nat.reduceMod, Nat.reduceLT, List.length_cons, List.length_nil, eq_self, true_or, or_true, and_self, implies_true, not_true_eq_false, not_false_eq_true, false_implies, true_implies, forall_const, st_aloadx, st_gotox, st_iconstx, st_ifCondx, st_in2, jx_Model_readSentence_101, kb_Model_readSentence_101, oo_82, oa_82]
      refine m_mustL hT (r1.pp p2) hk1 l2 (w := 7) (by decide) (fun q5 F3 l3 p3 => ?_) (fun q5 F3 l3 p3 => ?_)
      · rw [if_neg q5] at K
        simp only [ax0, ex_cons, am_get, upz_at, true_and, and_true, Nat.reduceAdd, Nat.reduceLeDiff, Nat.reduceEqDiff, Nat.reduceSub, Int32.reduceOfInt, Int32.reduceAdd, Int32.reduceMul, Int32.reduceSub, ↓reduceIte, Int32.reduceLT, Int32.reduceLE, Int32.reduceToNatClampNeg, Nat.reduceMod, Nat.reduceLT, List.length_cons, List.length_nil, eq_self, true_or, or_true, and_self, implies_true, not_true_eq_false, not_false_eq_true, false_implies, true_implies, forall_const, st_aloadx, st_gotox, st_iconstx, st_ifCondx, st_in2, jx_Model_readSentence_101, kb_Model_readSentence_101, oo_82, oa_82]
        refine m_takes0D l3 ?_
        simp only [ax0, ex_cons, am_get, upz_at, true_and, and_true, Nat.reduceAdd, Nat.reduceLeDiff, Nat.reduceEqDiff, Nat.reduceSub, Int32.reduceOfInt, Int32.reduceAdd, Int32.reduceMul, Int32.reduceSub, ↓reduceIte, Int32.reduceLT, Int32.reduceLE, Int32.reduceToNatClampNeg, Nat.reduceMod, Nat.reduceLT, List.length_cons, List.length_nil, eq_self, true_or, or_true, and_self, implies_true, not_true_eq_false, not_false_eq_true, false_implies, true_implies, forall_const, st_aloadx, st_gotox, st_goto_wx, st_iconstx, st_ifCondx, st_in2, jx_Model_readSentence_101, kb_Model_readSentence_101, oo_82, jx_Model_readSentence_129, kb_Model_readSentence_129, oa_82]
        exact m_rsDead 130 (by decide) l3 rfl (fun F4 l4 p4 => K F4 l4 (((p1.tr p2.pg).tr p3.pg).tr p4))
      · rw [if_pos q5] at K
        have hk2 := tk_lt hT.2.2.1 (k := 1) (by rw [q5]; decide)
        have r3 := (r1.pp p2).pp p3
        have i20 : F3 82 20 = nI 9 := by rw [p3.2 20 (by decide) (by decide) (by decide) (by decide)]; exact g20
        have i22 : F3 82 22 = -1 := by rw [p3.2 22 (by decide) (by decide) (by decide) (by decide)]; exact g22
        have i23 : F3 82 23 = 0 := by rw [p3.2 23 (by decide) (by decide) (by decide) (by decide)]; exact g23
        simp only [ax0, ex_cons, am_get, upz_at, true_and, and_true, Nat.reduceAdd, Nat.reduceLeDiff, Nat.reduceEqDiff, Nat.reduceSub, Int32.reduceOfInt, Int32.reduceAdd, Int32.reduceMul, Int32.reduceSub, ↓reduceIte, Int32.reduceLT, Int32.reduceLE, Int32.reduceToNatClampNeg, Nat.reduceMod, Nat.reduceLT, List.length_cons, List.length_nil, eq_self, true_or, or_true, and_self, implies_true, not_true_eq_false, not_false_eq_true, false_implies, true_implies, forall_const, st_aloadx, st_gotox, st_iconstx, st_ifCondx, st_in2, jx_Model_readSentence_101, kb_Model_readSentence_101, oo_82, oa_82]
        refine m_takes0L hT r3 hk2 l3 (w := 2) (by decide) (fun q6 => ?_) (fun q6 F4 l4 p4 => ?_)
        · rw [if_neg q6, decide_eq_false q6] at K
          simp only [ax0, ex_cons, am_get, upz_at, true_and, and_true, Nat.reduceAdd, Nat.reduceLeDiff, Nat.reduceEqDiff, Nat.reduceSub, Int32.reduceOfInt, Int32.reduceAdd, Int32.reduceMul, Int32.reduceSub, ↓reduceIte, Int32.reduceLT, Int32.reduceLE, Int32.reduceToNatClampNeg, Nat.reduceMod, Nat.reduceLT, List.length_cons, List.length_nil, eq_self, true_or, or_true, and_self, implies_true, not_true_eq_false, not_false_eq_true, false_implies, true_implies, forall_const, st_aloadx, st_gotox, st_goto_wx, st_iconstx, st_ifCondx, st_in2, jx_Model_readSentence_101, kb_Model_readSentence_101, oo_82, jx_Model_readSentence_129, kb_Model_readSentence_129, oa_82]
          exact m_rsEnd (f := 9) (w := 0) (nm := 0) 130 (by decide) (by decide) hT r3 (fl := false) hk2 l3 i20 i22 i23 rfl (fun F5 r5 p5 => K F5 r5 (((p1.tr p2.pg).tr p3.pg).tr p5))
        · rw [if_pos q6, decide_eq_true q6] at K
          have hk3 := tk_lt hT.2.2.1 (k := 2) (by rw [q6]; decide)
          simp only [ax0, ex_cons, am_get, upz_at, true_and, and_true, Nat.reduceAdd, Nat.reduceLeDiff, Nat.reduceEqDiff, Nat.reduceSub, Int32.reduceOfInt, Int32.reduceAdd, Int32.reduceMul, Int32.reduceSub, ↓reduceIte, Int32.reduceLT, Int32.reduceLE, Int32.reduceToNatClampNeg, Nat.reduceMod, Nat.reduceLT, List.length_cons, List.length_nil, eq_self, true_or, or_true, and_self, implies_true, not_true_eq_false, not_false_eq_true, false_implies, true_implies, forall_const, st_aloadx, st_gotox, st_iconstx, st_ifCondx, st_in2, jx_Model_readSentence_101, kb_Model_readSentence_101, oo_82, oa_82]
          refine m_rsEnd (f := 9) (w := 0) (nm := 0) 130 (by decide) (by decide) hT (r3.pp p4) (fl := true) hk3 l4 ?_ ?_ ?_ rfl (fun F5 r5 p5 => K F5 r5 ((((p1.tr p2.pg).tr p3.pg).tr p4.pg).tr p5))
          · rw [p4.2 20 (by decide) (by decide) (by decide) (by decide)]; exact i20
          · rw [p4.2 22 (by decide) (by decide) (by decide) (by decide)]; exact i22
          · rw [p4.2 23 (by decide) (by decide) (by decide) (by decide)]; exact i23
  · have q := of_decide_eq_true q
    rw [if_pos q] at K
    unfold psN at K
    have hk1 := tk_lt hT.2.2.1 (k := 0) (by omega)
    rw [show nI (cdL L 0) - (21 : Int32) = nI (cdL L 0 - 21) from nk_sub (b := 21) q.1]
    generalize eF : upz F1 82 _ = F2
    have l2 : LV F2 1 0 [] := by rw [← eF]; exact ⟨by rw [upz_eq]; rfl, by rw [upz_eq]; exact l1.2.1, by rw [upz_eq]; exact l1.2.2.1, by rw [upz_eq]; exact l1.2.2.2.1, by rw [upz_ne _ _ (by decide)]; exact l1.2.2.2.2⟩
    have p2 : Pg F1 F2 := by rw [← eF]; exact ⟨fun a h1 _ => upz_ne _ _ h1, fun i h1 h2 h3 => by rw [upz_eq, upz_ne _ _ (by omega), upz_ne _ _ (by omega), upz_ne _ _ (by omega)]⟩
    have g20 : F2 82 20 = nI 10 := by rw [← eF, upz_eq]; rfl
    have g22 : F2 82 22 = nI (cdL L 0 - 21) := by rw [← eF, upz_eq]; rfl
    have g23 : F2 82 23 = 0 := by rw [← eF, upz_eq]; exact f23
    clear eF
    refine m_mustL hT (r1.pg p2) hk1 l2 (w := 10) (by decide) (fun q5 F3 l3 p3 => ?_) (fun q5 F3 l3 p3 => ?_)
    · rw [if_neg q5] at K
      simp only [ax0, ex_cons, am_get, upz_at, true_and, and_true, Nat.reduceAdd, Nat.reduceLeDiff, Nat.reduceEqDiff, Nat.reduceSub, Int32.reduceOfInt, Int32.reduceAdd, Int32.reduceMul, Int32.reduceSub, ↓reduceIte, Int32.reduceLT, Int32.reduceLE, Int32.reduceToNatClampNeg, Nat.reduceMod, Nat.reduceLT, List.length_cons, List.length_nil, eq_self, true_or, or_true, and_self, implies_true, not_true_eq_false, not_false_eq_true, false_implies, true_implies, forall_const, st_aloadx, st_dupx, st_dup_1x, st_getfieldx, st_gotox, st_iaddx, st_ialoadx, st_iconstx, st_ifCondx, st_in2, st_st3, st_isubx, st_putfieldx, kb_Model_readSentence_0, og_82_10, og_82_14, op_82_20, op_82_21, op_82_22, op_82_23, og_82_20, op_82_14, oo_82, oa_82, os_82, oa_90, or_90]
      refine m_takes0D l3 ?_
      simp only [ax0, ex_cons, am_get, upz_at, true_and, and_true, Nat.reduceAdd, Nat.reduceLeDiff, Nat.reduceEqDiff, Nat.reduceSub, Int32.reduceOfInt, Int32.reduceAdd, Int32.reduceMul, Int32.reduceSub, ↓reduceIte, Int32.reduceLT, Int32.reduceLE, Int32.reduceToNatClampNeg, Nat.reduceMod, Nat.reduceLT, List.length_cons, List.length_nil, eq_self, true_or, or_true, and_self, implies_true, not_true_eq_false, not_false_eq_true, false_implies, true_implies, forall_const, st_aloadx, st_dupx, st_dup_1x, st_getfieldx, st_gotox, st_goto_wx, st_iaddx, st_ialoadx, st_iconstx, st_ifCondx, st_in2, st_st3, st_isubx, st_putfieldx, kb_Model_readSentence_0, og_82_10, og_82_14, op_82_20, op_82_21, op_82_22, op_82_23, og_82_20, op_82_14, oo_82, jx_Model_readSentence_89, kb_Model_readSentence_89, oa_82, os_82, oa_90, or_90]
      exact m_rsDead 90 (by decide) l3 rfl (fun F4 l4 p4 => K F4 l4 (((p1.tr p2).tr p3.pg).tr p4))
    · rw [if_pos q5] at K
      have hk2 := tk_lt hT.2.2.1 (k := 1) (by rw [q5]; decide)
      have r3 := (r1.pg p2).pp p3
      have i20 : F3 82 20 = nI 10 := by rw [p3.2 20 (by decide) (by decide) (by decide) (by decide)]; exact g20
      have i22 : F3 82 22 = nI (cdL L 0 - 21) := by rw [p3.2 22 (by decide) (by decide) (by decide) (by decide)]; exact g22
      have i23 : F3 82 23 = 0 := by rw [p3.2 23 (by decide) (by decide) (by decide) (by decide)]; exact g23
      simp only [ax0, ex_cons, am_get, upz_at, true_and, and_true, Nat.reduceAdd, Nat.reduceLeDiff, Nat.reduceEqDiff, Nat.reduceSub, Int32.reduceOfInt, Int32.reduceAdd, Int32.reduceMul, Int32.reduceSub, ↓reduceIte, Int32.reduceLT, Int32.reduceLE, Int32.reduceToNatClampNeg, Nat.reduceMod, Nat.reduceLT, List.length_cons, List.length_nil, eq_self, true_or, or_true, and_self, implies_true, not_true_eq_false, not_false_eq_true, false_implies, true_implies, forall_const, st_aloadx, st_dupx, st_dup_1x, st_getfieldx, st_gotox, st_iaddx, st_ialoadx, st_iconstx, st_ifCondx, st_in2, st_st3, st_isubx, st_putfieldx, kb_Model_readSentence_0, og_82_10, og_82_14, op_82_20, op_82_21, op_82_22, op_82_23, og_82_20, op_82_14, oo_82, oa_82, os_82, oa_90, or_90]
      refine m_takes0L hT r3 hk2 l3 (w := 8) (by decide) (fun q6 => ?_) (fun q6 F4 l4 p4 => ?_)
      · rw [if_neg q6, decide_eq_false q6] at K
        simp only [ax0, ex_cons, am_get, upz_at, true_and, and_true, Nat.reduceAdd, Nat.reduceLeDiff, Nat.reduceEqDiff, Nat.reduceSub, Int32.reduceOfInt, Int32.reduceAdd, Int32.reduceMul, Int32.reduceSub, ↓reduceIte, Int32.reduceLT, Int32.reduceLE, Int32.reduceToNatClampNeg, Nat.reduceMod, Nat.reduceLT, List.length_cons, List.length_nil, eq_self, true_or, or_true, and_self, implies_true, not_true_eq_false, not_false_eq_true, false_implies, true_implies, forall_const, st_aloadx, st_dupx, st_dup_1x, st_getfieldx, st_gotox, st_goto_wx, st_iaddx, st_ialoadx, st_iconstx, st_ifCondx, st_in2, st_st3, st_isubx, st_putfieldx, kb_Model_readSentence_0, og_82_10, og_82_14, op_82_20, op_82_21, op_82_22, op_82_23, og_82_20, op_82_14, oo_82, jx_Model_readSentence_89, kb_Model_readSentence_89, oa_82, os_82, oa_90, or_90]
        exact m_rsEnd (f := 10) (w := 0) (nm := cdL L 0 - 21) 90 (by decide) (by decide) hT r3 (fl := false) hk2 l3 i20 i22 i23 rfl (fun F5 r5 p5 => K F5 r5 (((p1.tr p2).tr p3.pg).tr p5))
      · rw [if_pos q6, decide_eq_true q6] at K
        have hk3 := tk_lt hT.2.2.1 (k := 2) (by rw [q6]; decide)
        simp only [ax0, ex_cons, am_get, upz_at, true_and, and_true, Nat.reduceAdd, Nat.reduceLeDiff, Nat.reduceEqDiff, Nat.reduceSub, Int32.reduceOfInt, Int32.reduceAdd, Int32.reduceMul, Int32.reduceSub, ↓reduceIte, Int32.reduceLT, Int32.reduceLE, Int32.reduceToNatClampNeg, Nat.reduceMod, Nat.reduceLT, List.length_cons, List.length_nil, eq_self, true_or, or_true, and_self, implies_true, not_true_eq_false, not_false_eq_true, false_implies, true_implies, forall_const, st_aloadx, st_dupx, st_dup_1x, st_getfieldx, st_gotox, st_iaddx, st_ialoadx, st_iconstx, st_ifCondx, st_in2, st_st3, st_isubx, st_putfieldx, kb_Model_readSentence_0, og_82_10, og_82_14, op_82_20, op_82_21, op_82_22, op_82_23, og_82_20, op_82_14, oo_82, oa_82, os_82, oa_90, or_90]
        refine m_rsEnd (f := 10) (w := 0) (nm := cdL L 0 - 21) 90 (by decide) (by decide) hT (r3.pp p4) (fl := true) hk3 l4 ?_ ?_ ?_ rfl (fun F5 r5 p5 => K F5 r5 ((((p1.tr p2).tr p3.pg).tr p4.pg).tr p5))
        · rw [p4.2 20 (by decide) (by decide) (by decide) (by decide)]; exact i20
        · rw [p4.2 22 (by decide) (by decide) (by decide) (by decide)]; exact i22
        · rw [p4.2 23 (by decide) (by decide) (by decide) (by decide)]; exact i23
end MSO
