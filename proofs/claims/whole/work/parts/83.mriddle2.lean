/-! ===== the model: riddle, drawn ===== -/
def aDrawn (A : aT) (i w : Int32) : Int32 := match A.2.2.2.2 with
  | none => -1
  | some y => if lieB w 0 (if i = -1 then 1 else 2) && lieB i (-1) (nI y.1 - 1) then (if i = -1 then (if w = 0 then nI (riC y 0) else nI (riC y 1)) else if w = 0 then nI (y.2 i.toNatClampNeg / 64) else if w = 1 then nI (y.2 i.toNatClampNeg / 8 % 8) else nI (y.2 i.toNatClampNeg % 8)) else -1
section MRE
variable {d : Nat} {h : am_H} {F : Nat → Nat → Int32} {J : Nat → Nat → Int64} {V : Nat → Nat → Value} {Q : am_Q}
set_option maxRecDepth 20000 in
theorem m_riddleLoop {s n : Nat} (hs : s < 1000003) (hn : n ≤ 12) {x : Int32} (K : ∀ F' v4 v5 v6 v7, Pr F F' → F' 82 43 = nI (rdIt s n).2.1 → (∀ i, i < (rdIt s n).2.1 → F' 107 i = nI ((rdIt s n).2.2 i)) → am_W kc_Model_riddle (am_cl (d + 6)) Q 139 [.ref 82, .int x, .int (nI n), .int (nI n), v4, v5, v6, v7] [] (ov h F' J V)) :
    ∀ j k F1 v4 v5 v6 v7, k + j = n → Pr F F1 → F1 82 46 = nI (rdIt s k).1 → F1 82 43 = nI (rdIt s k).2.1 → (∀ i, i < (rdIt s k).2.1 → F1 107 i = nI ((rdIt s k).2.2 i)) → am_W kc_Model_riddle (am_cl (d + 6)) Q 38 [.ref 82, .int x, .int (nI n), .int (nI k), v4, v5, v6, v7] [] (ov h F1 J V) := by
  intro j
  induction j with
  | zero =>
    intro k F1 v4 v5 v6 v7 ek g1 g2 g3 g4
    have ek : k = n := ek
    subst ek
    rw [jx_Model_riddle_38]
    simp only [ax0, ex_cons, am_get, upz_at, true_and, and_true, Nat.reduceAdd, Nat.reduceLeDiff, Nat.reduceEqDiff, Nat.reduceSub, Int32.reduceOfInt, Int32.reduceAdd, Int32.reduceMul, Int32.reduceSub, ↓reduceIte, Int32.reduceLT, Int32.reduceLE, Int32.reduceToNatClampNeg, Nat.reduceMod, Nat.reduceLT, List.length_cons, List.length_nil, eq_self, true_or, or_true, and_self, implies_true, not_true_eq_false, not_false_eq_true, false_implies, true_implies, forall_const, st_aloadx, st_gotox, st_iaddx, st_iconstx, st_if_icmpx, st_iloadx, st_imulx, st_in2, st_istorex, am_put, am_nlg, kb_Model_riddle_38, oo_82, oa_82, (nk_le (by omega) (by omega) : (nI (k) ≤ nI (k)) = (k ≤ k)), Nat.le_refl]
    exact K F1 v4 v5 v6 v7 g1 g3 g4
  | succ j ih =>
    intro k F1 v4 v5 v6 v7 ek g1 g2 g3 g4
    obtain ⟨o1, o2, o3⟩ := rdIt_ok s hs k
    have ih := fun F2 a b c e => ih (k + 1) F2 a b c e (by omega)
    have eS : rdIt s (k + 1) = rdSt (rdIt s k) := rfl
    rw [eS] at ih
    revert o1 o2 o3 g2 g3 g4 ih
    generalize rdIt s k = S
    intro g2 g3 g4 o1 o2 o3 ih
    obtain ⟨s0, y⟩ := S
    dsimp only at g2 g3 g4 o1 o2 o3
    have l1 := drN_lt s0
    have l2 := drN_lt (drN s0)
    have l3 := drN_lt (drN (drN s0))
    rw [jx_Model_riddle_38]
    simp only [ax0, ex_cons, am_get, upz_at, true_and, and_true, Nat.reduceAdd, Nat.reduceLeDiff, Nat.reduceEqDiff, Nat.reduceSub, Int32.reduceOfInt, Int32.reduceAdd, Int32.reduceMul, Int32.reduceSub, ↓reduceIte, Int32.reduceLT, Int32.reduceLE, Int32.reduceToNatClampNeg, Nat.reduceMod, Nat.reduceLT, List.length_cons, List.length_nil, eq_self, true_or, or_true, and_self, implies_true, not_true_eq_false, not_false_eq_true, false_implies, true_implies, forall_const, st_aloadx, st_gotox, st_iaddx, st_iconstx, st_if_icmpx, st_iloadx, st_imulx, st_in2, st_istorex, am_put, am_nlg, kb_Model_riddle_38, oo_82, oa_82, (nk_le (by omega) (by omega) : (nI (n) ≤ nI (k)) = (n ≤ k)), show ¬ n ≤ k by omega]
    refine m_draws (n := 4) g2 o1 (by decide) (by decide) ?_
    simp only [ax0, ex_cons, am_get, upz_at, true_and, and_true, Nat.reduceAdd, Nat.reduceLeDiff, Nat.reduceEqDiff, Nat.reduceSub, Int32.reduceOfInt, Int32.reduceAdd, Int32.reduceMul, Int32.reduceSub, ↓reduceIte, Int32.reduceLT, Int32.reduceLE, Int32.reduceToNatClampNeg, Nat.reduceMod, Nat.reduceLT, List.length_cons, List.length_nil, eq_self, true_or, or_true, and_self, implies_true, not_true_eq_false, not_false_eq_true, false_implies, true_implies, forall_const, st_aloadx, st_gotox, st_iaddx, st_iconstx, st_if_icmpx, st_iloadx, st_imulx, st_in2, st_istorex, am_put, am_nlg, kb_Model_riddle_38, oo_82, oa_82]
    refine m_draws (n := 8) (s := drN s0) (by rw [upz_eq, upz_eq]) l1 (by decide) (by decide) ?_
    simp only [ax0, ex_cons, am_get, upz_at, true_and, and_true, Nat.reduceAdd, Nat.reduceLeDiff, Nat.reduceEqDiff, Nat.reduceSub, Int32.reduceOfInt, Int32.reduceAdd, Int32.reduceMul, Int32.reduceSub, ↓reduceIte, Int32.reduceLT, Int32.reduceLE, Int32.reduceToNatClampNeg, Nat.reduceMod, Nat.reduceLT, List.length_cons, List.length_nil, eq_self, true_or, or_true, and_self, implies_true, not_true_eq_false, not_false_eq_true, false_implies, true_implies, forall_const, st_aloadx, st_gotox, st_iaddx, st_iconstx, st_if_icmpx, st_iloadx, st_imulx, st_in2, st_istorex, am_put, am_nlg, kb_Model_riddle_38, oo_82, oa_82, upz_upd, upz_eq]
    refine m_draws (n := 7) (s := drN (drN s0)) (by rw [upz_eq, upz_eq]) l2 (by decide) (by decide) ?_
    simp only [ax0, ex_cons, am_get, upz_at, true_and, and_true, Nat.reduceAdd, Nat.reduceLeDiff, Nat.reduceEqDiff, Nat.reduceSub, Int32.reduceOfInt, Int32.reduceAdd, Int32.reduceMul, Int32.reduceSub, ↓reduceIte, Int32.reduceLT, Int32.reduceLE, Int32.reduceToNatClampNeg, Nat.reduceMod, Nat.reduceLT, List.length_cons, List.length_nil, eq_self, true_or, or_true, and_self, implies_true, not_true_eq_false, not_false_eq_true, false_implies, true_implies, forall_const, st_aloadx, st_gotox, st_iaddx, st_iconstx, st_if_icmpx, st_iloadx, st_imulx, st_in2, st_istorex, am_put, am_nlg, kb_Model_riddle_38, oo_82, oa_82, upz_upd, upz_eq]
    generalize hG : upz F1 82 (upz (F1 82) 46 (nI (drN (drN (drN s0))))) = G
    have q1 : Pr F G := by subst hG; exact g1.tr (Pr.w82 (by decide))
    have q2 : G 82 46 = nI (drN (drN (drN s0))) := by subst hG; rw [upz_eq, upz_eq]
    have q3 : G 82 43 = nI y.1 := by subst hG; rw [upz_eq, upz_ne _ _ (by decide)]; exact g3
    have q4 : ∀ i, i < y.1 → G 107 i = nI (y.2 i) := by subst hG; intro i hi; rw [upz_ne _ _ (by decide)]; exact g4 i hi
    obtain ⟨nn1, nn2⟩ := rdNum_ok s0
    have fin : ∀ v4 v5 (v6 : Int32) a, a = nI (8 * (drN (drN s0) % 8)) → ∀ b c, nI (64 * (drN s0 % 4)) + nI (8 * (drN (drN s0) % 8)) = c → c + b = nI (rdNum s0) → am_W kc_Model_riddle (am_cl (d + 6)) Q 93 [.ref 82, .int x, .int (nI n), .int (nI k), v4, v5, .int v6, v7] [.int b, .int c] (ov h G J V) := by
      intro v4 v5 v6 a _ b c _ hb
      simp only [ax0, ex_cons, am_get, upz_at, true_and, and_true, Nat.reduceAdd, Nat.reduceLeDiff, Nat.reduceEqDiff, Nat.reduceSub, Int32.reduceOfInt, Int32.reduceAdd, Int32.reduceMul, Int32.reduceSub, ↓reduceIte, Int32.reduceLT, Int32.reduceLE, Int32.reduceToNatClampNeg, Nat.reduceMod, Nat.reduceLT, List.length_cons, List.length_nil, eq_self, true_or, or_true, and_self, implies_true, not_true_eq_false, not_false_eq_true, false_implies, true_implies, forall_const, st_aloadx, st_gotox, st_iaddx, st_ifCondx, st_iloadx, st_in1, st_in2, st_istorex, am_put, am_nlg, jx_Model_riddle_93, kb_Model_riddle_93, oo_82, oa_82, hb]
      refine m_riddles q3 (by omega) (fun i hi => ⟨q4 i hi, (o3 i hi).1⟩) (T := tellz (rzT y.2 y.1) (clR (rS (rdNum s0))) false) (Or.inr ⟨rdNum s0, rfl, nn1, rfl⟩) (fun F2 t2 p2 z2 => ?_)
      simp only [ax0, ex_cons, am_get, upz_at, true_and, and_true, Nat.reduceAdd, Nat.reduceLeDiff, Nat.reduceEqDiff, Nat.reduceSub, Int32.reduceOfInt, Int32.reduceAdd, Int32.reduceMul, Int32.reduceSub, ↓reduceIte, Int32.reduceLT, Int32.reduceLE, Int32.reduceToNatClampNeg, Nat.reduceMod, Nat.reduceLT, List.length_cons, List.length_nil, eq_self, true_or, or_true, and_self, implies_true, not_true_eq_false, not_false_eq_true, false_implies, true_implies, forall_const, st_aloadx, st_gotox, st_iaddx, st_ifCondx, st_iloadx, st_in1, st_in2, st_istorex, am_put, am_nlg, jx_Model_riddle_93, kb_Model_riddle_93, oo_82, oa_82]
      refine m_isQuarrel t2 (by have := rzT_len y.2 y.1; have := tellz_len (rzT y.2 y.1) (clR (rS (rdNum s0))) false; omega) (fun f => ?_)
      have r1 := q1.tr (p2.s100 f).pr
      have r2 : upz F2 100 f 82 46 = nI (drN (drN (drN s0))) := by rw [upz_ne _ _ (by decide), z2 46 (by decide)]; exact q2
      have r3 : upz F2 100 f 82 43 = nI y.1 := by rw [upz_ne _ _ (by decide), z2 43 (by decide)]; exact q3
      have r4 : ∀ i, i < y.1 → upz F2 100 f 107 i = nI (y.2 i) := fun i hi => by rw [upz_ne _ _ (by decide), p2.2.1 107 (by decide)]; exact q4 i hi
      generalize upz F2 100 f = F3 at r1 r2 r3 r4 ⊢
      have ih := ih
      unfold rdSt at ih
      dsimp only at ih
      simp only [ax0, ex_cons, am_get, upz_at, true_and, and_true, Nat.reduceAdd, Nat.reduceLeDiff, Nat.reduceEqDiff, Nat.reduceSub, Int32.reduceOfInt, Int32.reduceAdd, Int32.reduceMul, Int32.reduceSub, ↓reduceIte, Int32.reduceLT, Int32.reduceLE, Int32.reduceToNatClampNeg, Nat.reduceMod, Nat.reduceLT, List.length_cons, List.length_nil, eq_self, true_or, or_true, and_self, implies_true, not_true_eq_false, not_false_eq_true, false_implies, true_implies, forall_const, st_aloadx, st_gotox, st_iaddx, st_ifCondx, st_iloadx, st_in1, st_in2, st_istorex, am_put, am_nlg, jx_Model_riddle_93, kb_Model_riddle_93, oo_82, oa_82]
      refine ifb (fun e => ?_) (fun e => ?_)
      · simp only [e, Bool.false_eq_true, if_false] at ih
        simp only [ax0, ex_cons, am_get, upz_at, true_and, and_true, Nat.reduceAdd, Nat.reduceLeDiff, Nat.reduceEqDiff, Nat.reduceSub, Int32.reduceOfInt, Int32.reduceAdd, Int32.reduceMul, Int32.reduceSub, ↓reduceIte, Int32.reduceLT, Int32.reduceLE, Int32.reduceToNatClampNeg, Nat.reduceMod, Nat.reduceLT, List.length_cons, List.length_nil, eq_self, true_or, or_true, and_self, implies_true, not_true_eq_false, not_false_eq_true, false_implies, true_implies, forall_const, st_aloadx, st_dupx, st_dup_1x, st_getfieldx, st_gotox, st_goto_wx, st_iaddx, st_iastorex, st_iconstx, st_iincx, st_iloadx, st_putfieldx, am_put, am_nlg, jx_Model_riddle_112, kb_Model_riddle_112, og_82_42, og_82_43, op_82_43, jx_Model_riddle_133, kb_Model_riddle_133, oa_82, os_82, oa_107, ow_107, os_107, r3, nk_neg (show y.1 < 2147483648 by omega), nk_cl (show y.1 < 2147483648 by omega), show y.1 < 12 by omega, nk_succ, upz_ne F3 _ (show (82 : Nat) ≠ 107 by decide)]
        refine ih _ v4 v5 _ _ ⟨fun a ha => ?_, fun a ha => ?_, fun i hi => ?_, fun i hi => ?_⟩ ?_ ?_ (fun i hi => ?_)
        · rw [upz_ne _ _ (by omega), upz_ne _ _ (by omega)]; exact r1.1 a ha
        · rw [upz_ne _ _ (by omega), upz_ne _ _ (by omega)]; exact r1.2.1 a ha
        · rw [upz_ne _ _ (by decide), upz_ne _ _ (by decide)]; exact r1.2.2.1 i hi
        · rw [upz_eq, upz_ne _ _ (by omega)]; exact r1.2.2.2 i hi
        · rw [upz_eq, upz_ne _ _ (by decide)]; exact r2
        · rw [upz_eq, upz_eq]
        · rw [upz_ne _ _ (by decide), upz_eq]
          have hi : i < y.1 + 1 := hi
          by_cases z : i = y.1
          · subst z; rw [upz_eq, upz_eq]
          · rw [upz_ne _ _ z, upz_ne _ _ z]; exact r4 i (by omega)
      · simp only [e, if_true] at ih
        simp only [ax0, ex_cons, am_get, upz_at, true_and, and_true, Nat.reduceAdd, Nat.reduceLeDiff, Nat.reduceEqDiff, Nat.reduceSub, Int32.reduceOfInt, Int32.reduceAdd, Int32.reduceMul, Int32.reduceSub, ↓reduceIte, Int32.reduceLT, Int32.reduceLE, Int32.reduceToNatClampNeg, Nat.reduceMod, Nat.reduceLT, List.length_cons, List.length_nil, eq_self, true_or, or_true, and_self, implies_true, not_true_eq_false, not_false_eq_true, false_implies, true_implies, forall_const, st_gotox, st_iincx, am_put, am_nlg, jx_Model_riddle_133, kb_Model_riddle_133, nk_succ]
        exact ih F3 v4 v5 _ _ r1 r2 r3 r4
    simp only [ax0, ex_cons, am_get, upz_at, true_and, and_true, Nat.reduceAdd, Nat.reduceLeDiff, Nat.reduceEqDiff, Nat.reduceSub, Int32.reduceOfInt, Int32.reduceAdd, Int32.reduceMul, Int32.reduceSub, ↓reduceIte, Int32.reduceLT, Int32.reduceLE, Int32.reduceToNatClampNeg, Nat.reduceMod, Nat.reduceLT, List.length_cons, List.length_nil, eq_self, true_or, or_true, and_self, implies_true, not_true_eq_false, not_false_eq_true, false_implies, true_implies, forall_const, st_aloadx, st_gotox, st_iaddx, st_iconstx, st_if_icmpx, st_iloadx, st_imulx, st_in2, st_istorex, am_put, am_nlg, kb_Model_riddle_38, oo_82, oa_82, show (64 : Int32) * nI (drN s0 % 4) = nI (64 * (drN s0 % 4)) from nk_mul (64) (drN s0 % 4), show (8 : Int32) * nI (drN (drN s0) % 8) = nI (8 * (drN (drN s0) % 8)) from nk_mul (8) (drN (drN s0) % 8), nk_add, show (nI (drN (drN (drN s0)) % 7) < nI (drN (drN s0) % 8)) = (drN (drN (drN s0)) % 7 < drN (drN s0) % 8) from nk_lt (by omega) (by omega), nk_succ]
    refine And.intro (fun e => ?_) (fun e => ?_)
    · simp only [ax0, ex_cons, am_get, upz_at, true_and, and_true, Nat.reduceAdd, Nat.reduceLeDiff, Nat.reduceEqDiff, Nat.reduceSub, Int32.reduceOfInt, Int32.reduceAdd, Int32.reduceMul, Int32.reduceSub, ↓reduceIte, Int32.reduceLT, Int32.reduceLE, Int32.reduceToNatClampNeg, Nat.reduceMod, Nat.reduceLT, List.length_cons, List.length_nil, eq_self, true_or, or_true, and_self, implies_true, not_true_eq_false, not_false_eq_true, false_implies, true_implies, forall_const, st_goto_wx, st_iloadx, jx_Model_riddle_91, kb_Model_riddle_91]
      exact fin _ _ _ _ rfl _ _ (nk_add _ _) (by rw [nk_add]; unfold rdNum; rw [if_pos e])
    · exact fin _ _ _ _ rfl _ _ (nk_add _ _) (by rw [nk_add]; unfold rdNum; rw [if_neg e])
set_option maxRecDepth 20000 in
theorem mo_riddle {A : aT} (hA : MS F A) {x n : Int32} (K : ∀ F', Lo F F' → MS F' (xRiddle A x n).1 → Q (some (.int (xRiddle A x n).2)) (ov h F' J V)) : am_cl (d + 7) 287 [.ref 82, .int x, .int n] (ov h F J V) Q := by
  unfold xRiddle at K
  simp only [ax0, ex_cons, am_get, upz_at, true_and, and_true, Nat.reduceAdd, Nat.reduceLeDiff, Nat.reduceEqDiff, Nat.reduceSub, Int32.reduceOfInt, Int32.reduceAdd, Int32.reduceMul, Int32.reduceSub, ↓reduceIte, Int32.reduceLT, Int32.reduceLE, Int32.reduceToNatClampNeg, Nat.reduceMod, Nat.reduceLT, List.length_cons, List.length_nil, eq_self, true_or, or_true, and_self, implies_true, not_true_eq_false, not_false_eq_true, false_implies, true_implies, forall_const, st_goto_wx, st_iconstx, st_ifCondx, st_iloadx, st_st3, kb_Model_riddle_0, cx_Model_riddle]
  refine m_lies ?_
  simp only [ax0, ex_cons, am_get, upz_at, true_and, and_true, Nat.reduceAdd, Nat.reduceLeDiff, Nat.reduceEqDiff, Nat.reduceSub, Int32.reduceOfInt, Int32.reduceAdd, Int32.reduceMul, Int32.reduceSub, ↓reduceIte, Int32.reduceLT, Int32.reduceLE, Int32.reduceToNatClampNeg, Nat.reduceMod, Nat.reduceLT, List.length_cons, List.length_nil, eq_self, true_or, or_true, and_self, implies_true, not_true_eq_false, not_false_eq_true, false_implies, true_implies, forall_const, st_aloadx, st_goto_wx, st_iconstx, st_ifCondx, st_iloadx, st_in2, st_st3, st_ireturnx, kb_Model_riddle_0, jx_Model_riddle_20, kb_Model_riddle_20, oo_82, oa_82]
  refine ifb (fun e => ?_) (fun e => ?_)
  · rw [e, Bool.false_and, if_neg Bool.false_ne_true] at K
    exact m_refuses hA rfl (by decide) K
  rw [e, Bool.true_and] at K
  refine m_lies ?_
  simp only [ax0, ex_cons, am_get, upz_at, true_and, and_true, Nat.reduceAdd, Nat.reduceLeDiff, Nat.reduceEqDiff, Nat.reduceSub, Int32.reduceOfInt, Int32.reduceAdd, Int32.reduceMul, Int32.reduceSub, ↓reduceIte, Int32.reduceLT, Int32.reduceLE, Int32.reduceToNatClampNeg, Nat.reduceMod, Nat.reduceLT, List.length_cons, List.length_nil, eq_self, true_or, or_true, and_self, implies_true, not_true_eq_false, not_false_eq_true, false_implies, true_implies, forall_const, st_aloadx, st_goto_wx, st_iconstx, st_ifCondx, st_iloadx, st_in2, st_st3, st_ireturnx, kb_Model_riddle_0, jx_Model_riddle_20, kb_Model_riddle_20, oo_82, oa_82]
  refine ifnb (fun e2 => ?_) (fun e2 => ?_)
  · rw [e2, if_pos rfl] at K
    obtain ⟨s, es, hs, cs⟩ := lieB_nI (m := 1000000) (by decide) e
    obtain ⟨k, ek, hk, ck⟩ := lieB_nI (m := 12) (by decide) e2
    subst es; subst ek
    rw [cs, ck] at K
    simp only [ax0, ex_cons, am_get, upz_at, true_and, and_true, Nat.reduceAdd, Nat.reduceLeDiff, Nat.reduceEqDiff, Nat.reduceSub, Int32.reduceOfInt, Int32.reduceAdd, Int32.reduceMul, Int32.reduceSub, ↓reduceIte, Int32.reduceLT, Int32.reduceLE, Int32.reduceToNatClampNeg, Nat.reduceMod, Nat.reduceLT, List.length_cons, List.length_nil, eq_self, true_or, or_true, and_self, implies_true, not_true_eq_false, not_false_eq_true, false_implies, true_implies, forall_const, st_aloadx, st_goto_wx, st_iconstx, st_iloadx, st_istorex, st_putfieldx, am_put, am_nlg, jx_Model_riddle_26, kb_Model_riddle_26, op_82_46, op_82_43, oa_82, os_82, upz_upd, upz_eq]
    obtain ⟨o1, o2, o3⟩ := rdIt_ok s (by omega) k
    refine m_riddleLoop (F := F) (s := s) (n := k) (by omega) hk (fun F1 v4 v5 v6 v7 p1 a1 b1 => ?_) k 0 _ _ _ _ _ (by omega) ⟨fun a ha => upz_ne _ _ (by omega), fun a ha => upz_ne _ _ (by omega), fun i hi => by rw [upz_ne _ _ (by decide)], fun i hi => by rw [upz_eq, upz_ne _ _ (by omega), upz_ne _ _ (by omega)]⟩ (by rw [upz_eq, upz_ne _ _ (by decide), upz_eq]; rfl) (by rw [upz_eq, upz_eq]; rfl) (fun i hi => absurd hi (Nat.not_lt_zero i))
    generalize hy : (rdIt s k).2 = y at *
    simp only [ax0, ex_cons, am_get, upz_at, true_and, and_true, Nat.reduceAdd, Nat.reduceLeDiff, Nat.reduceEqDiff, Nat.reduceSub, Int32.reduceOfInt, Int32.reduceAdd, Int32.reduceMul, Int32.reduceSub, ↓reduceIte, Int32.reduceLT, Int32.reduceLE, Int32.reduceToNatClampNeg, Nat.reduceMod, Nat.reduceLT, List.length_cons, List.length_nil, eq_self, true_or, or_true, and_self, implies_true, not_true_eq_false, not_false_eq_true, false_implies, true_implies, forall_const, st_aloadx, st_getfieldx, st_iconstx, st_in2, st_ireturnx, st_putfieldx, jx_Model_riddle_139, kb_Model_riddle_139, oo_82, op_82_44, op_82_45, og_82_43, oa_82, os_82]
    refine m_riddles a1 (by omega) (fun i hi => ⟨b1 i hi, (o3 i hi).1⟩) (T := rzT y.2 y.1) (Or.inl ⟨rfl, rfl⟩) (fun F2 t2 p2 z2 => ?_)
    simp only [ax0, ex_cons, am_get, upz_at, true_and, and_true, Nat.reduceAdd, Nat.reduceLeDiff, Nat.reduceEqDiff, Nat.reduceSub, Int32.reduceOfInt, Int32.reduceAdd, Int32.reduceMul, Int32.reduceSub, ↓reduceIte, Int32.reduceLT, Int32.reduceLE, Int32.reduceToNatClampNeg, Nat.reduceMod, Nat.reduceLT, List.length_cons, List.length_nil, eq_self, true_or, or_true, and_self, implies_true, not_true_eq_false, not_false_eq_true, false_implies, true_implies, forall_const, st_aloadx, st_getfieldx, st_iconstx, st_in2, st_ireturnx, st_putfieldx, jx_Model_riddle_139, kb_Model_riddle_139, oo_82, op_82_44, op_82_45, og_82_43, oa_82, os_82]
    have hl : (rzT y.2 y.1).2.1.length ≤ 40 := by have := rzT_len y.2 y.1; omega
    refine m_followsMood (m := 0) t2 hl (by decide) (fun F3 t3 p3 z3 => ?_)
    simp only [ax0, ex_cons, am_get, upz_at, true_and, and_true, Nat.reduceAdd, Nat.reduceLeDiff, Nat.reduceEqDiff, Nat.reduceSub, Int32.reduceOfInt, Int32.reduceAdd, Int32.reduceMul, Int32.reduceSub, ↓reduceIte, Int32.reduceLT, Int32.reduceLE, Int32.reduceToNatClampNeg, Nat.reduceMod, Nat.reduceLT, List.length_cons, List.length_nil, eq_self, true_or, or_true, and_self, implies_true, not_true_eq_false, not_false_eq_true, false_implies, true_implies, forall_const, st_aloadx, st_getfieldx, st_iconstx, st_in2, st_ireturnx, st_putfieldx, jx_Model_riddle_139, kb_Model_riddle_139, oo_82, op_82_44, op_82_45, og_82_43, oa_82, os_82]
    have z3' : ∀ i, i ≠ 31 → i ≠ 44 → (upz F3 82 (upz (F3 82) 44 (nI (riC y 0)))) 82 i = F1 82 i := fun i h1 h2 => by rw [upz_eq, upz_ne _ _ h2, z3, z2 i h1]
    have t3' : MT (upz F3 82 (upz (F3 82) 44 (nI (riC y 0)))) (rzT y.2 y.1) := by
      obtain ⟨m1, m2, m3, m4⟩ := t3
      exact ⟨fun r hr => by rw [upz_ne _ _ (by decide)]; exact m1 r hr, by rw [upz_eq, upz_ne _ _ (by decide)]; exact m2, fun i hi r hr => by rw [upz_ne _ _ (by decide)]; exact m3 i hi r hr, fun i hi r hr => by rw [upz_ne _ _ (by decide)]; exact m4 i hi r hr⟩
    refine m_followsMood (m := 1) t3' hl (by decide) (fun F4 t4 p4 z4 => ?_)
    have pr4 : Pr F (upz F4 82 (upz (F4 82) 45 (nI (riC y 1)))) := ((((p1.tr p2.pr).tr p3.pr).tr (Pr.w82 (by decide))).tr p4.pr).tr (Pr.w82 (by decide))
    have c43 : F4 82 43 = nI y.1 := by rw [z4, z3' 43 (by decide) (by decide)]; exact a1
    have c44 : F4 82 44 = nI (riC y 0) := by rw [z4, upz_eq, upz_eq]
    have c107 : ∀ i, i < y.1 → F4 107 i = nI (y.2 i) := fun i hi => by rw [p4.2.1 107 (by decide), upz_ne _ _ (by decide), p3.2.1 107 (by decide), p2.2.1 107 (by decide)]; exact b1 i hi
    have hM : MS (upz F4 82 (upz (F4 82) 45 (nI (riC y 1)))) (A.1, A.2.1, A.2.2.1, A.2.2.2.1, some y) := hA.pr pr4 ⟨by rw [upz_eq, upz_ne _ _ (by decide)]; exact c43, by omega, fun i hi => ⟨by rw [upz_ne _ _ (by decide)]; exact c107 i hi, o3 i hi⟩, by rw [upz_eq, upz_ne _ _ (by decide)]; exact c44, by rw [upz_eq, upz_eq]⟩
    show am_kk _ _ (some (.int (nI (riC y 1)))) _ _
    simp only [ax0, ex_cons, am_get, upz_at, true_and, and_true, Nat.reduceAdd, Nat.reduceLeDiff, Nat.reduceEqDiff, Nat.reduceSub, Int32.reduceOfInt, Int32.reduceAdd, Int32.reduceMul, Int32.reduceSub, ↓reduceIte, Int32.reduceLT, Int32.reduceLE, Int32.reduceToNatClampNeg, Nat.reduceMod, Nat.reduceLT, List.length_cons, List.length_nil, eq_self, true_or, or_true, and_self, implies_true, not_true_eq_false, not_false_eq_true, false_implies, true_implies, forall_const, st_aloadx, st_getfieldx, st_iconstx, st_in2, st_ireturnx, st_putfieldx, jx_Model_riddle_139, kb_Model_riddle_139, oo_82, op_82_44, op_82_45, og_82_43, oa_82, os_82, c43]
    exact m_good hM (fun F' l m => K F' (Lo.tr pr4.1 l) m)
  · rw [e2, if_neg Bool.false_ne_true] at K
    exact m_refuses hA rfl (by decide) K
set_option maxRecDepth 20000 in
theorem mo_drawn {A : aT} (hA : MS F A) {x w : Int32} (K : ∀ F', Lo F F' → MS F' A → Q (some (.int (aDrawn A x w))) (ov h F' J V)) : am_cl (d + 2) 288 [.ref 82, .int x, .int w] (ov h F J V) Q := by
  replace K := K F Lo.rf hA
  have hd := hA.2.2.2.2.2.2.1
  unfold aDrawn at K
  cases hy : A.2.2.2.2 with
  | none =>
    rw [hy] at K hd
    have hd : F 82 43 = -1 := hd
    simp only [ax0, ex_cons, am_get, upz_at, true_and, and_true, Nat.reduceAdd, Nat.reduceLeDiff, Nat.reduceEqDiff, Nat.reduceSub, Int32.reduceOfInt, Int32.reduceAdd, Int32.reduceMul, Int32.reduceSub, ↓reduceIte, Int32.reduceLT, Int32.reduceLE, Int32.reduceToNatClampNeg, Nat.reduceMod, Nat.reduceLT, List.length_cons, List.length_nil, eq_self, true_or, or_true, and_self, implies_true, not_true_eq_false, not_false_eq_true, false_implies, true_implies, forall_const, st_aloadx, st_getfieldx, st_gotox, st_iconstx, st_if_icmpx, st_iloadx, st_ireturnx, kb_Model_drawn_0, og_82_43, jx_Model_drawn_40, kb_Model_drawn_40, oa_82, cx_Model_drawn, hd]
    exact K
  | some y =>
    rw [hy] at K hd
    obtain ⟨d1, d2, d3, d4, d5⟩ := hd
    dsimp only at K
    have fin : ∀ z : Int32, (if x = -1 then (1 : Int32) else 2) = z → am_W kc_Model_drawn (am_cl (d + 1)) Q 20 [.ref 82, .int x, .int w] [.int z, .int 0, .int w] (ov h F J V) := by
      intro z hz
      rw [hz] at K
      simp only [ax0, ex_cons, am_get, upz_at, true_and, and_true, Nat.reduceAdd, Nat.reduceLeDiff, Nat.reduceEqDiff, Nat.reduceSub, Int32.reduceOfInt, Int32.reduceAdd, Int32.reduceMul, Int32.reduceSub, ↓reduceIte, Int32.reduceLT, Int32.reduceLE, Int32.reduceToNatClampNeg, Nat.reduceMod, Nat.reduceLT, List.length_cons, List.length_nil, eq_self, true_or, or_true, and_self, implies_true, not_true_eq_false, not_false_eq_true, false_implies, true_implies, forall_const, st_aloadx, st_getfieldx, st_goto_wx, st_iconstx, st_ifCondx, st_iloadx, st_st3, st_isubx, jx_Model_drawn_20, kb_Model_drawn_20, og_82_43, oa_82]
      refine m_lies ?_
      simp only [ax0, ex_cons, am_get, upz_at, true_and, and_true, Nat.reduceAdd, Nat.reduceLeDiff, Nat.reduceEqDiff, Nat.reduceSub, Int32.reduceOfInt, Int32.reduceAdd, Int32.reduceMul, Int32.reduceSub, ↓reduceIte, Int32.reduceLT, Int32.reduceLE, Int32.reduceToNatClampNeg, Nat.reduceMod, Nat.reduceLT, List.length_cons, List.length_nil, eq_self, true_or, or_true, and_self, implies_true, not_true_eq_false, not_false_eq_true, false_implies, true_implies, forall_const, st_aloadx, st_getfieldx, st_goto_wx, st_iconstx, st_ifCondx, st_iloadx, st_st3, st_ireturnx, st_isubx, jx_Model_drawn_20, kb_Model_drawn_20, og_82_43, jx_Model_drawn_40, kb_Model_drawn_40, oa_82, d1]
      refine ifb (fun e => ?_) (fun e => ?_)
      · rw [e, Bool.false_and, if_neg Bool.false_ne_true] at K
        exact K
      rw [e, Bool.true_and] at K
      refine m_lies ?_
      simp only [ax0, ex_cons, am_get, upz_at, true_and, and_true, Nat.reduceAdd, Nat.reduceLeDiff, Nat.reduceEqDiff, Nat.reduceSub, Int32.reduceOfInt, Int32.reduceAdd, Int32.reduceMul, Int32.reduceSub, ↓reduceIte, Int32.reduceLT, Int32.reduceLE, Int32.reduceToNatClampNeg, Nat.reduceMod, Nat.reduceLT, List.length_cons, List.length_nil, eq_self, true_or, or_true, and_self, implies_true, not_true_eq_false, not_false_eq_true, false_implies, true_implies, forall_const, st_aloadx, st_getfieldx, st_goto_wx, st_iconstx, st_ifCondx, st_iloadx, st_st3, st_ireturnx, st_isubx, jx_Model_drawn_20, kb_Model_drawn_20, og_82_43, jx_Model_drawn_40, kb_Model_drawn_40, oa_82]
      refine ifnb (fun e2 => ?_) (fun e2 => ?_)
      · rw [e2, if_pos rfl] at K
        simp only [ax0, ex_cons, am_get, upz_at, true_and, and_true, Nat.reduceAdd, Nat.reduceLeDiff, Nat.reduceEqDiff, Nat.reduceSub, Int32.reduceOfInt, Int32.reduceAdd, Int32.reduceMul, Int32.reduceSub, ↓reduceIte, Int32.reduceLT, Int32.reduceLE, Int32.reduceToNatClampNeg, Nat.reduceMod, Nat.reduceLT, List.length_cons, List.length_nil, eq_self, true_or, or_true, and_self, implies_true, not_true_eq_false, not_false_eq_true, false_implies, true_implies, forall_const, st_aloadx, st_getfieldx, st_gotox, st_goto_wx, st_iconstx, st_ifCondx, st_if_icmpx, st_iloadx, st_ireturnx, jx_Model_drawn_42, kb_Model_drawn_42, og_82_44, jx_Model_drawn_58, kb_Model_drawn_58, og_82_45, jx_Model_drawn_62, kb_Model_drawn_62, oa_82, d4, d5]
        refine And.intro (fun q => ?_) (fun q => ?_)
        · obtain ⟨k, ek, hk, ck⟩ := lie_m1 (by omega) e2 q
          rw [if_neg q, ck] at K
          subst ek
          obtain ⟨f1, f2, f3⟩ := d3 k hk
          simp only [ax0, ex_cons, am_get, upz_at, true_and, and_true, Nat.reduceAdd, Nat.reduceLeDiff, Nat.reduceEqDiff, Nat.reduceSub, Int32.reduceOfInt, Int32.reduceAdd, Int32.reduceMul, Int32.reduceSub, ↓reduceIte, Int32.reduceLT, Int32.reduceLE, Int32.reduceToNatClampNeg, Nat.reduceMod, Nat.reduceLT, List.length_cons, List.length_nil, eq_self, true_or, or_true, and_self, implies_true, not_true_eq_false, not_false_eq_true, false_implies, true_implies, forall_const, st_aloadx, st_getfieldx, st_gotox, st_goto_wx, st_ialoadx, st_iconstx, st_idivx, st_ifCondx, st_if_icmpx, st_iloadx, st_st1, jx_Model_drawn_63, kb_Model_drawn_63, og_82_42, jx_Model_drawn_79, kb_Model_drawn_79, jx_Model_drawn_96, kb_Model_drawn_96, oa_82, oa_107, or_107, nk_neg (show k < 2147483648 by omega), nk_cl (show k < 2147483648 by omega), show k < 12 by omega, f1]
          refine And.intro (fun q2 => ?_) (fun q2 => ?_)
          · rw [if_neg q2] at K
            refine And.intro (fun q3 => ?_) (fun q3 => ?_)
            · rw [if_neg q3] at K
              refine m_predicate f2 ?_
              simp only [ax0, ex_cons, am_get, upz_at, true_and, and_true, Nat.reduceAdd, Nat.reduceLeDiff, Nat.reduceEqDiff, Nat.reduceSub, Int32.reduceOfInt, Int32.reduceAdd, Int32.reduceMul, Int32.reduceSub, ↓reduceIte, Int32.reduceLT, Int32.reduceLE, Int32.reduceToNatClampNeg, Nat.reduceMod, Nat.reduceLT, List.length_cons, List.length_nil, eq_self, true_or, or_true, and_self, implies_true, not_true_eq_false, not_false_eq_true, false_implies, true_implies, forall_const, st_aloadx, st_getfieldx, st_goto_wx, st_ialoadx, st_iloadx, st_st1, st_ireturnx, jx_Model_drawn_96, kb_Model_drawn_96, og_82_42, jx_Model_drawn_105, kb_Model_drawn_105, oa_82, oa_107, or_107]
              exact K
            · rw [if_pos (Classical.not_not.mp q3)] at K
              refine m_subject f2 ?_
              simp only [ax0, ex_cons, am_get, upz_at, true_and, and_true, Nat.reduceAdd, Nat.reduceLeDiff, Nat.reduceEqDiff, Nat.reduceSub, Int32.reduceOfInt, Int32.reduceAdd, Int32.reduceMul, Int32.reduceSub, ↓reduceIte, Int32.reduceLT, Int32.reduceLE, Int32.reduceToNatClampNeg, Nat.reduceMod, Nat.reduceLT, List.length_cons, List.length_nil, eq_self, true_or, or_true, and_self, implies_true, not_true_eq_false, not_false_eq_true, false_implies, true_implies, forall_const, st_aloadx, st_getfieldx, st_gotox, st_ialoadx, st_iconstx, st_if_icmpx, st_iloadx, st_st1, st_ireturnx, jx_Model_drawn_79, kb_Model_drawn_79, og_82_42, jx_Model_drawn_105, kb_Model_drawn_105, oa_82, oa_107, or_107]
              exact K
          · rw [if_pos (Classical.not_not.mp q2)] at K
            simp only [ax0, ex_cons, am_get, upz_at, true_and, and_true, Nat.reduceAdd, Nat.reduceLeDiff, Nat.reduceEqDiff, Nat.reduceSub, Int32.reduceOfInt, Int32.reduceAdd, Int32.reduceMul, Int32.reduceSub, ↓reduceIte, Int32.reduceLT, Int32.reduceLE, Int32.reduceToNatClampNeg, Nat.reduceMod, Nat.reduceLT, List.length_cons, List.length_nil, eq_self, true_or, or_true, and_self, implies_true, not_true_eq_false, not_false_eq_true, false_implies, true_implies, forall_const, st_ireturnx, jx_Model_drawn_105, kb_Model_drawn_105, show ((64 : Int32) = 0) = False from ax_f (by decide), show nI (y.2 k) / (64 : Int32) = nI ((y.2 k) / 64) from nk_div (a := y.2 k) (b := 64) (by omega) (by decide) (by decide), show nI (y.2 k) - nI ((y.2 k) / 64) * (64 : Int32) = nI ((y.2 k) % 64) from nk_rm (a := y.2 k) (b := 64) (by omega) (by decide) (by decide)]
            exact K
        · rw [if_pos (Classical.not_not.mp q)] at K
          refine And.intro (fun q2 => ?_) (fun q2 => ?_)
          · rw [if_neg q2] at K; exact K
          · rw [if_pos (Classical.not_not.mp q2)] at K; exact K
      · rw [e2, if_neg Bool.false_ne_true] at K
        exact K
    simp only [ax0, ex_cons, am_get, upz_at, true_and, and_true, Nat.reduceAdd, Nat.reduceLeDiff, Nat.reduceEqDiff, Nat.reduceSub, Int32.reduceOfInt, Int32.reduceAdd, Int32.reduceMul, Int32.reduceSub, ↓reduceIte, Int32.reduceLT, Int32.reduceLE, Int32.reduceToNatClampNeg, Nat.reduceMod, Nat.reduceLT, List.length_cons, List.length_nil, eq_self, true_or, or_true, and_self, implies_true, not_true_eq_false, not_false_eq_true, false_implies, true_implies, forall_const, st_aloadx, st_getfieldx, st_gotox, st_goto_wx, st_iconstx, st_if_icmpx, st_iloadx, kb_Model_drawn_0, og_82_43, jx_Model_drawn_19, kb_Model_drawn_19, oa_82, cx_Model_drawn, d1, nI_neg1 (show y.1 < 2147483648 by omega)]
    refine And.intro (fun q => ?_) (fun q => ?_)
    · exact fin 2 (if_neg q)
    · exact fin 1 (if_pos (Classical.not_not.mp q))
end MRE
