/-! ===== the model: laysWorld ===== -/
section MWQ
variable {d : Nat} {h : am_H} {F : Nat → Nat → Int32} {J : Nat → Nat → Int64} {V : Nat → Nat → Value} {Q : am_Q}
set_option maxRecDepth 20000 in
theorem m_laysWorld {T : tT} (hT : MT F T) (hl : T.2.1.length ≤ 25) (hq : qz T (fun _ => false) = false) (K : ∀ F' l, Py F F' → IsR T l → WRow F' l → Q none (ov h F' J V)) : am_cl (d + 32) 260 [.ref 82] (ov h F J V) Q := by
  simp only [ax0, ex_cons, am_get, upz_at, true_and, and_true, Nat.reduceAdd, Nat.reduceLeDiff, Nat.reduceEqDiff, Nat.reduceSub, Int32.reduceOfInt, Int32.reduceAdd, Int32.reduceMul, Int32.reduceSub, ↓reduceIte, Int32.reduceLT, Int32.reduceLE, Int32.reduceToNatClampNeg, Nat.reduceMod, Nat.reduceLT, List.length_cons, List.length_nil, eq_self, true_or, or_true, and_self, implies_true, not_true_eq_false, not_false_eq_true, false_implies, true_implies, forall_const, st_aloadx, st_goto_wx, st_iconstx, st_in1, st_putfieldx, kb_Model_laysWorld_0, oo_82, op_82_38, oa_82, os_82, cx_Model_laysWorld]
  refine m_laysMeets hT hl (fun F1 p1 h39 rg => ?_)
  simp only [ax0, ex_cons, am_get, upz_at, true_and, and_true, Nat.reduceAdd, Nat.reduceLeDiff, Nat.reduceEqDiff, Nat.reduceSub, Int32.reduceOfInt, Int32.reduceAdd, Int32.reduceMul, Int32.reduceSub, ↓reduceIte, Int32.reduceLT, Int32.reduceLE, Int32.reduceToNatClampNeg, Nat.reduceMod, Nat.reduceLT, List.length_cons, List.length_nil, eq_self, true_or, or_true, and_self, implies_true, not_true_eq_false, not_false_eq_true, false_implies, true_implies, forall_const, st_aloadx, st_goto_wx, st_iconstx, st_in1, st_putfieldx, kb_Model_laysWorld_0, oo_82, op_82_38, oa_82, os_82]
  have hW := nq_ex hq
  have hlf : lfT T [] = 2 ^ (T.2.1.length + 4) - 1 := rfl
  have hlf2 : lfT T [] < 1073741824 := Nat.lt_of_le_of_lt (lf_le T []) (by
    have : 2 ^ (T.2.1.length + 4) ≤ 2 ^ 29 := Nat.pow_le_pow_right (by decide) (by omega)
    have : 0 < 2 ^ (T.2.1.length + 4) := Nat.two_pow_pos _
    have : (2 : Nat) ^ 29 = 536870912 := by decide
    omega)
  have key : ∀ j N F2, N + j = T.2.1.length + 4 → Py F F2 → RG F2 (lsM T 256) (mkM T) → F2 82 39 = nI (lfT T []) → F2 82 38 = nI N → (∀ M, M < N → ¬ exW T [] M) → am_W kc_Model_laysWorld (am_cl (d + 31)) Q 9 [.ref 82, am_dum, am_dum, am_dum] [] (ov h F2 J V) := by
    intro j
    induction j with
    | zero =>
      intro N F2 eN p2 rg2 g39 g38 hmin
      have eN : N = T.2.1.length + 4 := eN
      rw [jx_Model_laysWorld_9]
      simp only [ax0, ex_cons, am_get, upz_at, true_and, and_true, Nat.reduceAdd, Nat.reduceLeDiff, Nat.reduceEqDiff, Nat.reduceSub, Int32.reduceOfInt, Int32.reduceAdd, Int32.reduceMul, Int32.reduceSub, ↓reduceIte, Int32.reduceLT, Int32.reduceLE, Int32.reduceToNatClampNeg, Nat.reduceMod, Nat.reduceLT, List.length_cons, List.length_nil, eq_self, true_or, or_true, and_self, implies_true, not_true_eq_false, not_false_eq_true, false_implies, true_implies, forall_const, st_aloadx, st_dupx, st_dup_1x, st_getfieldx, st_gotox, st_iaddx, st_iconstx, st_ifCondx, st_in4, st_putfieldx, kb_Model_laysWorld_9, og_82_39, og_82_38, oo_82, op_82_38, oa_82, os_82, g39, g38]
      rw [show d + 31 = (d + 30 - N) + N + 1 by omega]
      refine m_canMeet rg2 N (d := d + 30 - N) (by omega) hlf2 (Nat.zero_le _) ?_
      rw [show (d + 30 - N) + N + 1 = d + 31 by omega, cvb_t.mpr ((cv_all (pre := []) (fun r hr => (List.not_mem_nil hr).elim)).mpr (by rw [eN]; exact hW))]
      simp only [ax0, ex_cons, am_get, upz_at, true_and, and_true, Nat.reduceAdd, Nat.reduceLeDiff, Nat.reduceEqDiff, Nat.reduceSub, Int32.reduceOfInt, Int32.reduceAdd, Int32.reduceMul, Int32.reduceSub, ↓reduceIte, Int32.reduceLT, Int32.reduceLE, Int32.reduceToNatClampNeg, Nat.reduceMod, Nat.reduceLT, List.length_cons, List.length_nil, eq_self, true_or, or_true, and_self, implies_true, not_true_eq_false, not_false_eq_true, false_implies, true_implies, forall_const, st_aloadx, st_dupx, st_dup_1x, st_getfieldx, st_gotox, st_goto_wx, st_iaddx, st_iconstx, st_ifCondx, st_in4, st_istorex, st_putfieldx, am_put, am_nlg, kb_Model_laysWorld_9, og_82_39, og_82_38, oo_82, op_82_38, jx_Model_laysWorld_38, kb_Model_laysWorld_38, oa_82, os_82, b2i_t, g39]
      exact m_lwRow hl (by omega) hmin (by rw [eN]; exact hW) K N [] 0 F2 (by show 0 + N = N; omega) (Nat.zero_le _) p2 rg2 g38 (fun r hr => (List.not_mem_nil hr).elim) (by rw [eN]; exact hW) (fun hN => hmin _ (by omega)) (fun _ i' hi' => absurd hi' (Nat.not_lt_zero i')) (fun p hp => absurd hp (Nat.not_lt_zero p))
    | succ j ih =>
      intro N F2 eN p2 rg2 g39 g38 hmin
      rw [jx_Model_laysWorld_9]
      simp only [ax0, ex_cons, am_get, upz_at, true_and, and_true, Nat.reduceAdd, Nat.reduceLeDiff, Nat.reduceEqDiff, Nat.reduceSub, Int32.reduceOfInt, Int32.reduceAdd, Int32.reduceMul, Int32.reduceSub, ↓reduceIte, Int32.reduceLT, Int32.reduceLE, Int32.reduceToNatClampNeg, Nat.reduceMod, Nat.reduceLT, List.length_cons, List.length_nil, eq_self, true_or, or_true, and_self, implies_true, not_true_eq_false, not_false_eq_true, false_implies, true_implies, forall_const, st_aloadx, st_dupx, st_dup_1x, st_getfieldx, st_gotox, st_iaddx, st_iconstx, st_ifCondx, st_in4, st_putfieldx, kb_Model_laysWorld_9, og_82_39, og_82_38, oo_82, op_82_38, oa_82, os_82, g39, g38]
      rw [show d + 31 = (d + 30 - N) + N + 1 by omega]
      refine m_canMeet rg2 N (d := d + 30 - N) (by omega) hlf2 (Nat.zero_le _) ?_
      rw [show (d + 30 - N) + N + 1 = d + 31 by omega]
      have hcv := cv_all (T := T) (pre := []) (k := N) (fun r hr => (List.not_mem_nil hr).elim)
      simp only [ax0, ex_cons, am_get, upz_at, true_and, and_true, Nat.reduceAdd, Nat.reduceLeDiff, Nat.reduceEqDiff, Nat.reduceSub, Int32.reduceOfInt, Int32.reduceAdd, Int32.reduceMul, Int32.reduceSub, ↓reduceIte, Int32.reduceLT, Int32.reduceLE, Int32.reduceToNatClampNeg, Nat.reduceMod, Nat.reduceLT, List.length_cons, List.length_nil, eq_self, true_or, or_true, and_self, implies_true, not_true_eq_false, not_false_eq_true, false_implies, true_implies, forall_const, st_aloadx, st_dupx, st_dup_1x, st_getfieldx, st_gotox, st_goto_wx, st_iaddx, st_iconstx, st_ifCondx, st_in4, st_istorex, st_putfieldx, am_put, am_nlg, kb_Model_laysWorld_9, og_82_39, og_82_38, oo_82, op_82_38, jx_Model_laysWorld_38, kb_Model_laysWorld_38, oa_82, os_82, g38, g39, nk_succ]
      refine ifnb (fun e => ?_) (fun e => ?_)
      · have hex := hcv.mp (cvb_t.mp e)
        exact m_lwRow hl (by omega) hmin hex K N [] 0 F2 (by show 0 + N = N; omega) (Nat.zero_le _) p2 rg2 g38 (fun r hr => (List.not_mem_nil hr).elim) hex (fun hN => hmin _ (by omega)) (fun _ i' hi' => absurd hi' (Nat.not_lt_zero i')) (fun p hp => absurd hp (Nat.not_lt_zero p))
      · have hno : ¬ exW T [] N := fun z => cvb_f.mp e (hcv.mpr z)
        obtain ⟨g1, g2, g3, g4⟩ := rg2
        refine ih (N + 1) _ (by omega) (p2.tr ⟨fun a h1 _ _ _ => upz_ne _ _ h1, fun i _ h2 _ => by rw [upz_eq, upz_ne _ _ h2]⟩) ⟨by rw [upz_eq, upz_ne _ _ (by decide)]; exact g1, g2, fun i hi => by rw [upz_ne _ _ (by decide)]; exact g3 i hi, fun r hr => by rw [upz_ne _ _ (by decide)]; exact g4 r hr⟩ (by rw [upz_eq, upz_ne _ _ (by decide)]; exact g39) (by rw [upz_eq, upz_eq]) (fun M hM => ?_)
        by_cases e2 : M = N
        · rw [e2]; exact hno
        · exact hmin M (by omega)
  obtain ⟨g1, g2, g3, g4⟩ := rg
  exact key (T.2.1.length + 4) 0 _ (by omega) (p1.py.tr ⟨fun a h1 _ _ _ => upz_ne _ _ h1, fun i _ h2 _ => by rw [upz_eq, upz_ne _ _ h2]⟩) ⟨by rw [upz_eq, upz_ne _ _ (by decide)]; exact g1, g2, fun i hi => by rw [upz_ne _ _ (by decide)]; exact g3 i hi, fun r hr => by rw [upz_ne _ _ (by decide)]; exact g4 r hr⟩ (by rw [upz_eq, upz_ne _ _ (by decide)]; exact h39) (by rw [upz_eq, upz_eq]; rfl) (fun M hM => absurd hM (Nat.not_lt_zero M))
end MWQ
