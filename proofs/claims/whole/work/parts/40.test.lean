theorem ax1 : True := trivial
set_option maxRecDepth 10000 in
theorem t_lies {d : Nat} {h : am_H} {a b c : Int32} {Q : am_Q} (h1 : b ≤ a → a ≤ c → Q (some (.int 1)) h) : am_cl (d + 1) 175 [.int a, .int b, .int c] h Q := by
  simp only [ax0, am_ex, am_get, ax1, upd_at, true_and, and_true, Nat.reduceAdd, Nat.reduceLeDiff, Nat.reduceEqDiff, Nat.reduceSub, Int32.reduceOfInt, ↓reduceIte, Int32.reduceLT, Int32.reduceLE, Int32.reduceEq, not_true_eq_false, not_false_eq_true, false_implies, true_implies, forall_const, st_freturn, st_goto, st_goto_w, st_iconst, st_if_icmp, st_iload, cx_Model_lies, kb_Model_lies_0, jx_Model_lies_14, kb_Model_lies_14, jx_Model_lies_15, kb_Model_lies_15]
  sorry
set_option maxRecDepth 10000 in
theorem t_isHeap {d : Nat} {h : am_H} {F : Nat → Nat → Int32} {J : Nat → Nat → Int64} {V : Nat → Nat → Value} {a : Int32} {Q : am_Q} : am_cl (d + 2) 185 [.ref 82, .int a] (ov h F J V) Q := by
  simp only [ax0, am_ex, am_get, ax1, upd_at, true_and, and_true, Nat.reduceAdd, Nat.reduceLeDiff, Nat.reduceEqDiff, Nat.reduceSub, Int32.reduceOfInt, ↓reduceIte, Int32.reduceLT, Int32.reduceLE, Int32.reduceEq, not_true_eq_false, not_false_eq_true, false_implies, true_implies, forall_const, st_aload, st_freturn, st_getfield, st_goto, st_goto_w, st_iaload, st_iconst, st_if_icmp, st_iload, st_in1, st_st3, st_ireturn, st_ishl, st_isub, cx_Model_isHeap, kb_Model_isHeap_0, oo_82, cx_Model_slips, kb_Model_slips_0, og_82_2, cx_Model_lies, kb_Model_lies_0, jx_Model_lies_14, kb_Model_lies_14, jx_Model_lies_15, kb_Model_lies_15, oa_82, oa_84, or_84]
  sorry
set_option maxRecDepth 10000 in
theorem t_isShut {d : Nat} {h : am_H} {F : Nat → Nat → Int32} {J : Nat → Nat → Int64} {V : Nat → Nat → Value} {a : Int32} {Q : am_Q} : am_cl (d + 2) 233 [.ref 82, .ref 98, .int a] (ov h F J V) Q := by
  simp only [ax0, am_ex, am_get, ax1, upd_at, true_and, and_true, Nat.reduceAdd, Nat.reduceLeDiff, Nat.reduceEqDiff, Nat.reduceSub, Int32.reduceOfInt, ↓reduceIte, Int32.reduceLT, Int32.reduceLE, Int32.reduceEq, not_true_eq_false, not_false_eq_true, false_implies, true_implies, forall_const, st_freturn, st_goto, st_goto_w, st_iconst, st_iinc, st_istore, am_put, am_nlg, cx_Model_isShut, kb_Model_isShut_0, jx_Model_isShut_36, kb_Model_isShut_36, jx_Model_isShut_42, kb_Model_isShut_42, oa_98, or_98]
  sorry
set_option maxRecDepth 10000 in
theorem t_isShut2 {d : Nat} {h : am_H} {F : Nat → Nat → Int32} {J : Nat → Nat → Int64} {V : Nat → Nat → Value} {a b : Int32} {Q : am_Q} : am_W kc_Model_isShut (am_cl d) Q 2 [.ref 82, .ref 98, .int a, .int b] [] (ov h F J V) := by
  rw [jx_Model_isShut_2]
  simp only [ax0, am_ex, am_get, ax1, upd_at, true_and, and_true, Nat.reduceAdd, Nat.reduceLeDiff, Nat.reduceEqDiff, Nat.reduceSub, Int32.reduceOfInt, ↓reduceIte, Int32.reduceLT, Int32.reduceLE, Int32.reduceEq, not_true_eq_false, not_false_eq_true, false_implies, true_implies, forall_const, st_aload, st_freturn, st_getfield, st_goto, st_iadd, st_iaload, st_iand, st_iconst, st_ifCond, st_if_icmp, st_iinc, st_iload, st_ixor, am_put, am_nlg, jx_Model_isShut_2, kb_Model_isShut_2, og_82_28, og_82_32, jx_Model_isShut_36, kb_Model_isShut_36, jx_Model_isShut_42, kb_Model_isShut_42, oa_82, oa_97, or_97, oa_100, or_100, oa_98, or_98]
  sorry
