/-! ===== the class: two sentences with a middle ===== -/
def SyJ (f : Nat → Int32) (a b : Nat) : Prop := f 0 = nI (a / 64) ∧ f 1 = nI (b / 64) ∧ f 2 = fgN a b ∧ f 3 = nI (mdN a b) ∧ f 4 = nI (otN b (mdN a b)) ∧ f 5 = nI (otN a (mdN a b))
def Sy65 (F F' : Nat → Nat → Int32) : Prop := (∀ x, x ≠ 65 → F' x = F x) ∧ F' 65 7 = F 65 7 ∧ F' 65 8 = F 65 8
section CSY
variable {d : Nat} {h : am_H} {F : Nat → Nat → Int32} {J : Nat → Nat → Int64} {V : Nat → Nat → Value} {Q : am_Q}
set_option maxRecDepth 20000 in
theorem c_isSimple1 {hp : am_H} (K : Q (some (.int 0)) hp) : am_cl (d + 2) 71 [.int (-1)] hp Q := by
  simp only [isO_c, ax0, ex_cons, am_get, upz_at, true_and, and_true, Nat.reduceAdd, Nat.reduceLeDiff, Nat.reduceEqDiff, Nat.reduceSub, Int32.reduceOfInt, Int32.reduceAdd, Int32.reduceMul, Int32.reduceSub, ↓reduceIte, Int32.reduceLT, Int32.reduceLE, Int32.reduceToNatClampNeg, Nat.reduceMod, Nat.reduceLT, List.length_cons, List.length_nil, eq_self, true_or, or_true, and_self, implies_true, not_true_eq_false, not_false_eq_true, false_implies, true_implies, forall_const, st_freturnx, st_gotox, st_goto_wx, st_iconstx, st_ifCondx, st_if_icmpx, st_iloadx, st_st1, kb_Slips_isSimple_0, jx_Slips_isSimple_26, kb_Slips_isSimple_26, jx_Slips_isSimple_27, kb_Slips_isSimple_27, cx_Slips_isSimple]
  exact K
set_option maxRecDepth 20000 in
theorem c_join {a b : Nat} (ha : a < 256) (hb : b < 256) (na : isNu a = true) (nb : isNu b = true) (K0 : fgN a b = -1 → Q (some (.int 0)) (ov h F J V)) (K1 : ∀ F', ¬ fgN a b = -1 → Sy65 F F' → SyJ (F' 65) a b → Q (some (.int 1)) (ov h F' J V)) : am_cl (d + 3) 130 [.ref 65, .int (nI a), .int (nI b)] (ov h F J V) Q := by
  have n1 := isNu_ne na
  have n2 := isNu_ne nb
  simp only [isO_c, ax0, ex_cons, am_get, upz_at, true_and, and_true, Nat.reduceAdd, Nat.reduceLeDiff, Nat.reduceEqDiff, Nat.reduceSub, Int32.reduceOfInt, Int32.reduceAdd, Int32.reduceMul, Int32.reduceSub, ↓reduceIte, Int32.reduceLT, Int32.reduceLE, Int32.reduceToNatClampNeg, Nat.reduceMod, Nat.reduceLT, List.length_cons, List.length_nil, eq_self, true_or, or_true, and_self, implies_true, not_true_eq_false, not_false_eq_true, false_implies, true_implies, forall_const, st_goto_wx, st_ifCondx, st_iloadx, st_st1, kb_Syllogism_join_0, cx_Syllogism_join]
  refine c_isSimple ha ?_
  rw [na]
  simp only [isO_c, ax0, ex_cons, am_get, upz_at, true_and, and_true, Nat.reduceAdd, Nat.reduceLeDiff, Nat.reduceEqDiff, Nat.reduceSub, Int32.reduceOfInt, Int32.reduceAdd, Int32.reduceMul, Int32.reduceSub, ↓reduceIte, Int32.reduceLT, Int32.reduceLE, Int32.reduceToNatClampNeg, Nat.reduceMod, Nat.reduceLT, List.length_cons, List.length_nil, eq_self, true_or, or_true, and_self, implies_true, not_true_eq_false, not_false_eq_true, false_implies, true_implies, forall_const, st_goto_wx, st_ifCondx, st_iloadx, st_st1, kb_Syllogism_join_0, show b2i true = (1 : Int32) from rfl]
  refine c_isSimple hb ?_
  rw [nb]
  simp only [isO_c, ax0, ex_cons, am_get, upz_at, true_and, and_true, Nat.reduceAdd, Nat.reduceLeDiff, Nat.reduceEqDiff, Nat.reduceSub, Int32.reduceOfInt, Int32.reduceAdd, Int32.reduceMul, Int32.reduceSub, ↓reduceIte, Int32.reduceLT, Int32.reduceLE, Int32.reduceToNatClampNeg, Nat.reduceMod, Nat.reduceLT, List.length_cons, List.length_nil, eq_self, true_or, or_true, and_self, implies_true, not_true_eq_false, not_false_eq_true, false_implies, true_implies, forall_const, st_goto_wx, st_ifCondx, st_if_icmpx, st_iloadx, st_st1, st_istorex, am_put, am_nlg, kb_Syllogism_join_0, jx_Syllogism_join_16, kb_Syllogism_join_16, show b2i true = (1 : Int32) from rfl]
  refine c_subjectOf hb ?_
  simp only [isO_c, ax0, ex_cons, am_get, upz_at, true_and, and_true, Nat.reduceAdd, Nat.reduceLeDiff, Nat.reduceEqDiff, Nat.reduceSub, Int32.reduceOfInt, Int32.reduceAdd, Int32.reduceMul, Int32.reduceSub, ↓reduceIte, Int32.reduceLT, Int32.reduceLE, Int32.reduceToNatClampNeg, Nat.reduceMod, Nat.reduceLT, List.length_cons, List.length_nil, eq_self, true_or, or_true, and_self, implies_true, not_true_eq_false, not_false_eq_true, false_implies, true_implies, forall_const, st_goto_wx, st_if_icmpx, st_iloadx, st_st1, st_istorex, am_put, am_nlg, jx_Syllogism_join_16, kb_Syllogism_join_16]
  refine c_predicateOf hb ?_
  simp only [isO_c, ax0, ex_cons, am_get, upz_at, true_and, and_true, Nat.reduceAdd, Nat.reduceLeDiff, Nat.reduceEqDiff, Nat.reduceSub, Int32.reduceOfInt, Int32.reduceAdd, Int32.reduceMul, Int32.reduceSub, ↓reduceIte, Int32.reduceLT, Int32.reduceLE, Int32.reduceToNatClampNeg, Nat.reduceMod, Nat.reduceLT, List.length_cons, List.length_nil, eq_self, true_or, or_true, and_self, implies_true, not_true_eq_false, not_false_eq_true, false_implies, true_implies, forall_const, st_goto_wx, st_if_icmpx, st_iloadx, st_st1, st_istorex, am_put, am_nlg, jx_Syllogism_join_16, kb_Syllogism_join_16]
  refine c_subjectOf ha ?_
  simp only [isO_c, ax0, ex_cons, am_get, upz_at, true_and, and_true, Nat.reduceAdd, Nat.reduceLeDiff, Nat.reduceEqDiff, Nat.reduceSub, Int32.reduceOfInt, Int32.reduceAdd, Int32.reduceMul, Int32.reduceSub, ↓reduceIte, Int32.reduceLT, Int32.reduceLE, Int32.reduceToNatClampNeg, Nat.reduceMod, Nat.reduceLT, List.length_cons, List.length_nil, eq_self, true_or, or_true, and_self, implies_true, not_true_eq_false, not_false_eq_true, false_implies, true_implies, forall_const, st_goto_wx, st_if_icmpx, st_iloadx, st_st1, st_istorex, am_put, am_nlg, jx_Syllogism_join_16, kb_Syllogism_join_16]
  refine c_predicateOf ha ?_
  have q1 : (nI (a / 8 % 8) = nI (b / 8 % 8)) = (a / 8 % 8 = b / 8 % 8) := nk_eq (by omega) (by omega)
  have q2 : (nI (a / 8 % 8) = nI (b % 8)) = (a / 8 % 8 = b % 8) := nk_eq (by omega) (by omega)
  have q3 : (nI (a % 8) = nI (b / 8 % 8)) = (a % 8 = b / 8 % 8) := nk_eq (by omega) (by omega)
  have q4 : (nI (a % 8) = nI (b % 8)) = (a % 8 = b % 8) := nk_eq (by omega) (by omega)
  have two : ∀ b7 b8 : Bool, b7 = decide (a / 8 % 8 = b / 8 % 8 ∨ a / 8 % 8 = b % 8) → b8 = decide (a % 8 = b / 8 % 8 ∨ a % 8 = b % 8) → am_W kc_Syllogism_join (am_cl (d + 2)) Q 77 [.ref 65, .int (nI a), .int (nI b), .int (nI (b / 8 % 8)), .int (nI (b % 8)), .int (nI (a / 8 % 8)), .int (nI (a % 8)), .int (b2i b7), am_dum] [.int (b2i b8)] (ov h F J V) := by
    intro b7 b8 e7 e8
    cases b7 <;> cases b8
    · have e7 := of_decide_eq_false e7.symm
      have e8 := of_decide_eq_false e8.symm
      simp only [isO_c, ax0, ex_cons, am_get, upz_at, true_and, and_true, Nat.reduceAdd, Nat.reduceLeDiff, Nat.reduceEqDiff, Nat.reduceSub, Int32.reduceOfInt, Int32.reduceAdd, Int32.reduceMul, Int32.reduceSub, ↓reduceIte, Int32.reduceLT, Int32.reduceLE, Int32.reduceToNatClampNeg, Nat.reduceMod, Nat.reduceLT, List.length_cons, List.length_nil, eq_self, true_or, or_true, and_self, implies_true, not_true_eq_false, not_false_eq_true, false_implies, true_implies, forall_const, st_freturnx, st_iconstx, st_if_icmpx, st_iloadx, st_istorex, am_put, am_nlg, jx_Syllogism_join_77, kb_Syllogism_join_77, show b2i false = (0 : Int32) from rfl]
      refine K0 ?_
      unfold fgN fg
      rw [if_neg (fun z => e7 (Or.inr z)), if_neg (fun z => e7 (Or.inl z)), if_neg (fun z => e8 (Or.inr z)), if_neg (fun z => e8 (Or.inl z))]
    · have e7 := of_decide_eq_false e7.symm
      have e8 := of_decide_eq_true e8.symm
      simp only [isO_c, ax0, ex_cons, am_get, upz_at, true_and, and_true, Nat.reduceAdd, Nat.reduceLeDiff, Nat.reduceEqDiff, Nat.reduceSub, Int32.reduceOfInt, Int32.reduceAdd, Int32.reduceMul, Int32.reduceSub, ↓reduceIte, Int32.reduceLT, Int32.reduceLE, Int32.reduceToNatClampNeg, Nat.reduceMod, Nat.reduceLT, List.length_cons, List.length_nil, eq_self, true_or, or_true, and_self, implies_true, not_true_eq_false, not_false_eq_true, false_implies, true_implies, forall_const, st_aloadx, st_freturnx, st_gotox, st_iconstx, st_ifCondx, st_if_icmpx, st_iloadx, st_st1, st_istorex, st_putfieldx, am_put, am_nlg, jx_Syllogism_join_77, kb_Syllogism_join_77, jx_Syllogism_join_88, kb_Syllogism_join_88, op_65_0, op_65_1, oa_65, os_65, show b2i false = (0 : Int32) from rfl, show b2i true = (1 : Int32) from rfl]
      refine c_moodOf ha ?_
      simp only [isO_c, ax0, ex_cons, am_get, upz_at, true_and, and_true, Nat.reduceAdd, Nat.reduceLeDiff, Nat.reduceEqDiff, Nat.reduceSub, Int32.reduceOfInt, Int32.reduceAdd, Int32.reduceMul, Int32.reduceSub, ↓reduceIte, Int32.reduceLT, Int32.reduceLE, Int32.reduceToNatClampNeg, Nat.reduceMod, Nat.reduceLT, List.length_cons, List.length_nil, eq_self, true_or, or_true, and_self, implies_true, not_true_eq_false, not_false_eq_true, false_implies, true_implies, forall_const, st_aloadx, st_gotox, st_ifCondx, st_iloadx, st_st1, st_putfieldx, jx_Syllogism_join_88, kb_Syllogism_join_88, op_65_0, op_65_1, oa_65, os_65]
      refine c_moodOf hb ?_
      simp only [isO_c, ax0, ex_cons, am_get, upz_at, true_and, and_true, Nat.reduceAdd, Nat.reduceLeDiff, Nat.reduceEqDiff, Nat.reduceSub, Int32.reduceOfInt, Int32.reduceAdd, Int32.reduceMul, Int32.reduceSub, ↓reduceIte, Int32.reduceLT, Int32.reduceLE, Int32.reduceToNatClampNeg, Nat.reduceMod, Nat.reduceLT, List.length_cons, List.length_nil, eq_self, true_or, or_true, and_self, implies_true, not_true_eq_false, not_false_eq_true, false_implies, true_implies, forall_const, st_aloadx, st_getfieldx, st_gotox, st_goto_wx, st_ifCondx, st_if_icmpx, st_iloadx, st_st1, st_putfieldx, jx_Syllogism_join_88, kb_Syllogism_join_88, op_65_0, op_65_1, jx_Syllogism_join_115, kb_Syllogism_join_115, jx_Syllogism_join_117, kb_Syllogism_join_117, op_65_3, jx_Syllogism_join_131, kb_Syllogism_join_131, jx_Syllogism_join_133, kb_Syllogism_join_133, op_65_5, og_65_3, oa_65, os_65, upz_upd, upz_eq, q4]
      by_cases c : a % 8 = b % 8
      · have ef : fgN a b = 2 := by
          unfold fgN fg
          rw [if_neg (fun z => e7 (Or.inr z)), if_neg (fun z => e7 (Or.inl z)), if_pos c]
        have em : mdN a b = a % 8 := by unfold mdN; rw [if_neg (by rw [ef]; decide)]
        have e1 : otN b (mdN a b) = b / 8 % 8 := by unfold otN; rw [if_neg (by omega)]
        have e2 : otN a (mdN a b) = a / 8 % 8 := by unfold otN; rw [if_neg (by omega)]
        have K1 := fun F' => K1 F' (by rw [ef]; decide)
        unfold SyJ at K1
        rw [ef, em] at K1
        rw [em] at e1 e2
        rw [e1, e2] at K1
        simp only [isO_c, ax0, ex_cons, am_get, upz_at, true_and, and_true, Nat.reduceAdd, Nat.reduceLeDiff, Nat.reduceEqDiff, Nat.reduceSub, Int32.reduceOfInt, Int32.reduceAdd, Int32.reduceMul, Int32.reduceSub, ↓reduceIte, Int32.reduceLT, Int32.reduceLE, Int32.reduceToNatClampNeg, Nat.reduceMod, Nat.reduceLT, List.length_cons, List.length_nil, eq_self, true_or, or_true, and_self, implies_true, not_true_eq_false, not_false_eq_true, false_implies, true_implies, forall_const, st_aloadx, st_freturnx, st_getfieldx, st_gotox, st_goto_wx, st_iconstx, st_ifCondx, st_if_icmpx, st_iloadx, st_st1, st_putfieldx, jx_Syllogism_join_88, kb_Syllogism_join_88, op_65_0, op_65_1, jx_Syllogism_join_115, kb_Syllogism_join_115, jx_Syllogism_join_117, kb_Syllogism_join_117, op_65_3, jx_Syllogism_join_131, kb_Syllogism_join_131, jx_Syllogism_join_133, kb_Syllogism_join_133, op_65_5, og_65_3, jx_Syllogism_join_150, kb_Syllogism_join_150, jx_Syllogism_join_152, kb_Syllogism_join_152, op_65_4, jx_Syllogism_join_174, kb_Syllogism_join_174, jx_Syllogism_join_175, kb_Syllogism_join_175, op_65_2, jx_Syllogism_join_195, kb_Syllogism_join_195, oa_65, os_65, upz_upd, upz_eq, q4, c]
        refine K1 _ ⟨fun x hx => upz_ne _ _ hx, ?_, ?_⟩ ⟨?_, ?_, ?_, ?_, ?_, ?_⟩ <;> rw [upz_eq] <;> simp only [upz_at, Nat.reduceEqDiff, ↓reduceIte]
        all_goals first | rfl | exact congrArg nI c.symm
      · have c2 : a % 8 = b / 8 % 8 := e8.resolve_right c
        have ef : fgN a b = 4 := by
          unfold fgN fg
          rw [if_neg (fun z => e7 (Or.inr z)), if_neg (fun z => e7 (Or.inl z)), if_neg c, if_pos c2]
        have em : mdN a b = a % 8 := by unfold mdN; rw [if_neg (by rw [ef]; decide)]
        have e1 : otN b (mdN a b) = b % 8 := by unfold otN; rw [if_pos (by omega)]
        have e2 : otN a (mdN a b) = a / 8 % 8 := by unfold otN; rw [if_neg (by omega)]
        have K1 := fun F' => K1 F' (by rw [ef]; decide)
        unfold SyJ at K1
        rw [ef, em] at K1
        rw [em] at e1 e2
        rw [e1, e2] at K1
        simp only [isO_c, ax0, ex_cons, am_get, upz_at, true_and, and_true, Nat.reduceAdd, Nat.reduceLeDiff, Nat.reduceEqDiff, Nat.reduceSub, Int32.reduceOfInt, Int32.reduceAdd, Int32.reduceMul, Int32.reduceSub, ↓reduceIte, Int32.reduceLT, Int32.reduceLE, Int32.reduceToNatClampNeg, Nat.reduceMod, Nat.reduceLT, List.length_cons, List.length_nil, eq_self, true_or, or_true, and_self, implies_true, not_true_eq_false, not_false_eq_true, false_implies, true_implies, forall_const, st_aloadx, st_freturnx, st_getfieldx, st_gotox, st_goto_wx, st_iconstx, st_ifCondx, st_if_icmpx, st_iloadx, st_st1, st_putfieldx, jx_Syllogism_join_88, kb_Syllogism_join_88, op_65_0, op_65_1, jx_Syllogism_join_115, kb_Syllogism_join_115, jx_Syllogism_join_117, kb_Syllogism_join_117, op_65_3, jx_Syllogism_join_131, kb_Syllogism_join_131, jx_Syllogism_join_133, kb_Syllogism_join_133, op_65_5, og_65_3, jx_Syllogism_join_150, kb_Syllogism_join_150, jx_Syllogism_join_152, kb_Syllogism_join_152, op_65_4, jx_Syllogism_join_181, kb_Syllogism_join_181, jx_Syllogism_join_191, kb_Syllogism_join_191, jx_Syllogism_join_192, kb_Syllogism_join_192, op_65_2, jx_Syllogism_join_195, kb_Syllogism_join_195, oa_65, os_65, upz_upd, upz_eq, q4, c]
        refine K1 _ ⟨fun x hx => upz_ne _ _ hx, ?_, ?_⟩ ⟨?_, ?_, ?_, ?_, ?_, ?_⟩ <;> rw [upz_eq] <;> simp only [upz_at, Nat.reduceEqDiff, ↓reduceIte]
        all_goals first | rfl | exact congrArg nI c.symm
    · have e7 := of_decide_eq_true e7.symm
      have e8 := of_decide_eq_false e8.symm
      simp only [isO_c, ax0, ex_cons, am_get, upz_at, true_and, and_true, Nat.reduceAdd, Nat.reduceLeDiff, Nat.reduceEqDiff, Nat.reduceSub, Int32.reduceOfInt, Int32.reduceAdd, Int32.reduceMul, Int32.reduceSub, ↓reduceIte, Int32.reduceLT, Int32.reduceLE, Int32.reduceToNatClampNeg, Nat.reduceMod, Nat.reduceLT, List.length_cons, List.length_nil, eq_self, true_or, or_true, and_self, implies_true, not_true_eq_false, not_false_eq_true, false_implies, true_implies, forall_const, st_aloadx, st_freturnx, st_gotox, st_iconstx, st_ifCondx, st_if_icmpx, st_iloadx, st_st1, st_istorex, st_putfieldx, am_put, am_nlg, jx_Syllogism_join_77, kb_Syllogism_join_77, jx_Syllogism_join_88, kb_Syllogism_join_88, op_65_0, op_65_1, oa_65, os_65, show b2i false = (0 : Int32) from rfl, show b2i true = (1 : Int32) from rfl]
      refine c_moodOf ha ?_
      simp only [isO_c, ax0, ex_cons, am_get, upz_at, true_and, and_true, Nat.reduceAdd, Nat.reduceLeDiff, Nat.reduceEqDiff, Nat.reduceSub, Int32.reduceOfInt, Int32.reduceAdd, Int32.reduceMul, Int32.reduceSub, ↓reduceIte, Int32.reduceLT, Int32.reduceLE, Int32.reduceToNatClampNeg, Nat.reduceMod, Nat.reduceLT, List.length_cons, List.length_nil, eq_self, true_or, or_true, and_self, implies_true, not_true_eq_false, not_false_eq_true, false_implies, true_implies, forall_const, st_aloadx, st_gotox, st_ifCondx, st_iloadx, st_st1, st_putfieldx, jx_Syllogism_join_88, kb_Syllogism_join_88, op_65_0, op_65_1, oa_65, os_65]
      refine c_moodOf hb ?_
      simp only [isO_c, ax0, ex_cons, am_get, upz_at, true_and, and_true, Nat.reduceAdd, Nat.reduceLeDiff, Nat.reduceEqDiff, Nat.reduceSub, Int32.reduceOfInt, Int32.reduceAdd, Int32.reduceMul, Int32.reduceSub, ↓reduceIte, Int32.reduceLT, Int32.reduceLE, Int32.reduceToNatClampNeg, Nat.reduceMod, Nat.reduceLT, List.length_cons, List.length_nil, eq_self, true_or, or_true, and_self, implies_true, not_true_eq_false, not_false_eq_true, false_implies, true_implies, forall_const, st_aloadx, st_getfieldx, st_gotox, st_goto_wx, st_ifCondx, st_if_icmpx, st_iloadx, st_st1, st_putfieldx, jx_Syllogism_join_88, kb_Syllogism_join_88, op_65_0, op_65_1, jx_Syllogism_join_115, kb_Syllogism_join_115, jx_Syllogism_join_117, kb_Syllogism_join_117, op_65_3, jx_Syllogism_join_131, kb_Syllogism_join_131, jx_Syllogism_join_133, kb_Syllogism_join_133, op_65_5, og_65_3, oa_65, os_65, upz_upd, upz_eq, q2]
      by_cases c : a / 8 % 8 = b % 8
      · have ef : fgN a b = 1 := by
          unfold fgN fg
          rw [if_pos c, if_neg (fun z => e8 (Or.inl z))]
        have em : mdN a b = a / 8 % 8 := by unfold mdN; rw [if_pos (Or.inl ef)]
        have e1 : otN b (mdN a b) = b / 8 % 8 := by unfold otN; rw [if_neg (by omega)]
        have e2 : otN a (mdN a b) = a % 8 := by unfold otN; rw [if_pos (by omega)]
        have K1 := fun F' => K1 F' (by rw [ef]; decide)
        unfold SyJ at K1
        rw [ef, em] at K1
        rw [em] at e1 e2
        rw [e1, e2] at K1
        simp only [isO_c, ax0, ex_cons, am_get, upz_at, true_and, and_true, Nat.reduceAdd, Nat.reduceLeDiff, Nat.reduceEqDiff, Nat.reduceSub, Int32.reduceOfInt, Int32.reduceAdd, Int32.reduceMul, Int32.reduceSub, ↓reduceIte, Int32.reduceLT, Int32.reduceLE, Int32.reduceToNatClampNeg, Nat.reduceMod, Nat.reduceLT, List.length_cons, List.length_nil, eq_self, true_or, or_true, and_self, implies_true, not_true_eq_false, not_false_eq_true, false_implies, true_implies, forall_const, st_aloadx, st_freturnx, st_getfieldx, st_gotox, st_goto_wx, st_iconstx, st_ifCondx, st_if_icmpx, st_iloadx, st_st1, st_putfieldx, jx_Syllogism_join_88, kb_Syllogism_join_88, op_65_0, op_65_1, jx_Syllogism_join_115, kb_Syllogism_join_115, jx_Syllogism_join_117, kb_Syllogism_join_117, op_65_3, jx_Syllogism_join_131, kb_Syllogism_join_131, jx_Syllogism_join_133, kb_Syllogism_join_133, op_65_5, og_65_3, jx_Syllogism_join_150, kb_Syllogism_join_150, jx_Syllogism_join_152, kb_Syllogism_join_152, op_65_4, jx_Syllogism_join_174, kb_Syllogism_join_174, jx_Syllogism_join_175, kb_Syllogism_join_175, op_65_2, jx_Syllogism_join_195, kb_Syllogism_join_195, oa_65, os_65, upz_upd, upz_eq, q2, c]
        refine K1 _ ⟨fun x hx => upz_ne _ _ hx, ?_, ?_⟩ ⟨?_, ?_, ?_, ?_, ?_, ?_⟩ <;> rw [upz_eq] <;> simp only [upz_at, Nat.reduceEqDiff, ↓reduceIte]
        all_goals first | rfl | exact congrArg nI c.symm
      · have c2 : a / 8 % 8 = b / 8 % 8 := e7.resolve_right c
        have ef : fgN a b = 3 := by
          unfold fgN fg
          rw [if_neg c, if_pos c2, if_neg (fun z => e8 (Or.inr z))]
        have em : mdN a b = a / 8 % 8 := by unfold mdN; rw [if_pos (Or.inr ef)]
        have e1 : otN b (mdN a b) = b % 8 := by unfold otN; rw [if_pos (by omega)]
        have e2 : otN a (mdN a b) = a % 8 := by unfold otN; rw [if_pos (by omega)]
        have K1 := fun F' => K1 F' (by rw [ef]; decide)
        unfold SyJ at K1
        rw [ef, em] at K1
        rw [em] at e1 e2
        rw [e1, e2] at K1
        simp only [isO_c, ax0, ex_cons, am_get, upz_at, true_and, and_true, Nat.reduceAdd, Nat.reduceLeDiff, Nat.reduceEqDiff, Nat.reduceSub, Int32.reduceOfInt, Int32.reduceAdd, Int32.reduceMul, Int32.reduceSub, ↓reduceIte, Int32.reduceLT, Int32.reduceLE, Int32.reduceToNatClampNeg, Nat.reduceMod, Nat.reduceLT, List.length_cons, List.length_nil, eq_self, true_or, or_true, and_self, implies_true, not_true_eq_false, not_false_eq_true, false_implies, true_implies, forall_const, st_aloadx, st_freturnx, st_getfieldx, st_gotox, st_goto_wx, st_iconstx, st_ifCondx, st_if_icmpx, st_iloadx, st_st1, st_putfieldx, jx_Syllogism_join_88, kb_Syllogism_join_88, op_65_0, op_65_1, jx_Syllogism_join_115, kb_Syllogism_join_115, jx_Syllogism_join_117, kb_Syllogism_join_117, op_65_3, jx_Syllogism_join_131, kb_Syllogism_join_131, jx_Syllogism_join_133, kb_Syllogism_join_133, op_65_5, og_65_3, jx_Syllogism_join_150, kb_Syllogism_join_150, jx_Syllogism_join_152, kb_Syllogism_join_152, op_65_4, jx_Syllogism_join_181, kb_Syllogism_join_181, jx_Syllogism_join_191, kb_Syllogism_join_191, jx_Syllogism_join_192, kb_Syllogism_join_192, op_65_2, jx_Syllogism_join_195, kb_Syllogism_join_195, oa_65, os_65, upz_upd, upz_eq, q2, c]
        refine K1 _ ⟨fun x hx => upz_ne _ _ hx, ?_, ?_⟩ ⟨?_, ?_, ?_, ?_, ?_, ?_⟩ <;> rw [upz_eq] <;> simp only [upz_at, Nat.reduceEqDiff, ↓reduceIte]
        all_goals first | rfl | exact congrArg nI c.symm
    · have e7 := of_decide_eq_true e7.symm
      have e8 := of_decide_eq_true e8.symm
      simp only [isO_c, ax0, ex_cons, am_get, upz_at, true_and, and_true, Nat.reduceAdd, Nat.reduceLeDiff, Nat.reduceEqDiff, Nat.reduceSub, Int32.reduceOfInt, Int32.reduceAdd, Int32.reduceMul, Int32.reduceSub, ↓reduceIte, Int32.reduceLT, Int32.reduceLE, Int32.reduceToNatClampNeg, Nat.reduceMod, Nat.reduceLT, List.length_cons, List.length_nil, eq_self, true_or, or_true, and_self, implies_true, not_true_eq_false, not_false_eq_true, false_implies, true_implies, forall_const, st_freturnx, st_iconstx, st_if_icmpx, st_iloadx, st_istorex, am_put, am_nlg, jx_Syllogism_join_77, kb_Syllogism_join_77, show b2i true = (1 : Int32) from rfl]
      refine K0 ?_
      unfold fgN fg
      by_cases c : a / 8 % 8 = b % 8
      · rw [if_pos c, if_pos (by omega)]
      · rw [if_neg c, if_pos (e7.resolve_right c), if_pos (by omega)]
  have one : ∀ b7 : Bool, b7 = decide (a / 8 % 8 = b / 8 % 8 ∨ a / 8 % 8 = b % 8) → am_W kc_Syllogism_join (am_cl (d + 2)) Q 57 [.ref 65, .int (nI a), .int (nI b), .int (nI (b / 8 % 8)), .int (nI (b % 8)), .int (nI (a / 8 % 8)), .int (nI (a % 8)), am_dum, am_dum] [.int (b2i b7)] (ov h F J V) := by
    intro b7 e7
    simp only [isO_c, ax0, ex_cons, am_get, upz_at, true_and, and_true, Nat.reduceAdd, Nat.reduceLeDiff, Nat.reduceEqDiff, Nat.reduceSub, Int32.reduceOfInt, Int32.reduceAdd, Int32.reduceMul, Int32.reduceSub, ↓reduceIte, Int32.reduceLT, Int32.reduceLE, Int32.reduceToNatClampNeg, Nat.reduceMod, Nat.reduceLT, List.length_cons, List.length_nil, eq_self, true_or, or_true, and_self, implies_true, not_true_eq_false, not_false_eq_true, false_implies, true_implies, forall_const, st_gotox, st_goto_wx, st_iconstx, st_if_icmpx, st_iloadx, st_istorex, am_put, am_nlg, jx_Syllogism_join_57, kb_Syllogism_join_57, jx_Syllogism_join_72, kb_Syllogism_join_72, jx_Syllogism_join_76, kb_Syllogism_join_76, q3, q4]
    refine And.intro (fun c => ?_) (fun c => And.intro (fun c2 => ?_) (fun c2 => ?_))
    · exact two b7 true e7 (decide_eq_true (Or.inl c)).symm
    · exact two b7 false e7 (decide_eq_false (fun z => z.elim c c2)).symm
    · exact two b7 true e7 (decide_eq_true (Or.inr (Classical.not_not.mp c2))).symm
  simp only [isO_c, ax0, ex_cons, am_get, upz_at, true_and, and_true, Nat.reduceAdd, Nat.reduceLeDiff, Nat.reduceEqDiff, Nat.reduceSub, Int32.reduceOfInt, Int32.reduceAdd, Int32.reduceMul, Int32.reduceSub, ↓reduceIte, Int32.reduceLT, Int32.reduceLE, Int32.reduceToNatClampNeg, Nat.reduceMod, Nat.reduceLT, List.length_cons, List.length_nil, eq_self, true_or, or_true, and_self, implies_true, not_true_eq_false, not_false_eq_true, false_implies, true_implies, forall_const, st_gotox, st_goto_wx, st_iconstx, st_if_icmpx, st_iloadx, st_st1, st_istorex, am_put, am_nlg, jx_Syllogism_join_16, kb_Syllogism_join_16, jx_Syllogism_join_52, kb_Syllogism_join_52, jx_Syllogism_join_56, kb_Syllogism_join_56, q1, q2]
  refine And.intro (fun c => ?_) (fun c => And.intro (fun c2 => ?_) (fun c2 => ?_))
  · exact one true (decide_eq_true (Or.inl c)).symm
  · exact one false (decide_eq_false (fun z => z.elim c c2)).symm
  · exact one true (decide_eq_true (Or.inr (Classical.not_not.mp c2))).symm
set_option maxRecDepth 20000 in
theorem c_leadsMajor {hp : am_H} {f : Nat} (hf : f < 10) (K : Q (some (.int (b2i (decide (f = 1 ∨ f = 3))))) hp) : am_cl (d + 1) 134 [.int (nI f)] hp Q := by
  simp only [isO_c, ax0, ex_cons, am_get, upz_at, true_and, and_true, Nat.reduceAdd, Nat.reduceLeDiff, Nat.reduceEqDiff, Nat.reduceSub, Int32.reduceOfInt, Int32.reduceAdd, Int32.reduceMul, Int32.reduceSub, ↓reduceIte, Int32.reduceLT, Int32.reduceLE, Int32.reduceToNatClampNeg, Nat.reduceMod, Nat.reduceLT, List.length_cons, List.length_nil, eq_self, true_or, or_true, and_self, implies_true, not_true_eq_false, not_false_eq_true, false_implies, true_implies, forall_const, st_freturnx, st_gotox, st_goto_wx, st_iconstx, st_if_icmpx, st_iloadx, kb_Syllogism_leadsMajor_0, jx_Syllogism_leadsMajor_10, kb_Syllogism_leadsMajor_10, jx_Syllogism_leadsMajor_14, kb_Syllogism_leadsMajor_14, jx_Syllogism_leadsMajor_15, kb_Syllogism_leadsMajor_15, cx_Syllogism_leadsMajor, show (nI f = (1 : Int32)) = (f = 1) from nk_eq (b := 1) (by omega) (by decide), show (nI f = (3 : Int32)) = (f = 3) from nk_eq (b := 3) (by omega) (by decide)]
  refine And.intro (fun c => ?_) (fun c => And.intro (fun c2 => ?_) (fun c2 => ?_))
  · rw [decide_eq_true (Or.inl c)] at K; exact K
  · rw [decide_eq_false (fun z => z.elim c c2)] at K; exact K
  · rw [decide_eq_true (Or.inr (Classical.not_not.mp c2))] at K; exact K
set_option maxRecDepth 20000 in
theorem c_leadsMinor {hp : am_H} {f : Nat} (hf : f < 10) (K : Q (some (.int (b2i (decide (f = 3 ∨ f = 4))))) hp) : am_cl (d + 1) 135 [.int (nI f)] hp Q := by
  simp only [isO_c, ax0, ex_cons, am_get, upz_at, true_and, and_true, Nat.reduceAdd, Nat.reduceLeDiff, Nat.reduceEqDiff, Nat.reduceSub, Int32.reduceOfInt, Int32.reduceAdd, Int32.reduceMul, Int32.reduceSub, ↓reduceIte, Int32.reduceLT, Int32.reduceLE, Int32.reduceToNatClampNeg, Nat.reduceMod, Nat.reduceLT, List.length_cons, List.length_nil, eq_self, true_or, or_true, and_self, implies_true, not_true_eq_false, not_false_eq_true, false_implies, true_implies, forall_const, st_freturnx, st_gotox, st_goto_wx, st_iconstx, st_if_icmpx, st_iloadx, kb_Syllogism_leadsMinor_0, jx_Syllogism_leadsMinor_10, kb_Syllogism_leadsMinor_10, jx_Syllogism_leadsMinor_14, kb_Syllogism_leadsMinor_14, jx_Syllogism_leadsMinor_15, kb_Syllogism_leadsMinor_15, cx_Syllogism_leadsMinor, show (nI f = (4 : Int32)) = (f = 4) from nk_eq (b := 4) (by omega) (by decide), show (nI f = (3 : Int32)) = (f = 3) from nk_eq (b := 3) (by omega) (by decide)]
  refine And.intro (fun c => ?_) (fun c => And.intro (fun c2 => ?_) (fun c2 => ?_))
  · rw [decide_eq_true (Or.inl c)] at K; exact K
  · rw [decide_eq_false (fun z => z.elim c c2)] at K; exact K
  · rw [decide_eq_true (Or.inr (Classical.not_not.mp c2))] at K; exact K
set_option maxRecDepth 20000 in
theorem c_conclude {ex : Bool} (ht : ∀ k, k < 64 → F 66 k = tcV ex k) {a b f : Nat} (ha : a < 256) (hb : b < 256) (hJ : SyJ (F 65) a b) (hf : fgN a b = nI f) (h1 : 1 ≤ f) (h4 : f ≤ 4) (K : Q (some (.int (tcV ex ((a / 64 * 4 + b / 64) * 4 + (f - 1))))) (ov h F J V)) : am_cl (d + 1) 132 [.ref 65] (ov h F J V) Q := by
  obtain ⟨j0, j1, j2, _⟩ := hJ
  have e : ((nI (a / 64) * 4 + nI (b / 64)) * 4 + nI f) - 1 = nI ((a / 64 * 4 + b / 64) * 4 + (f - 1)) := by
    rw [show nI (a / 64) * 4 = nI (a / 64 * 4) from nk_mul _ 4, nk_add, show nI (a / 64 * 4 + b / 64) * 4 = nI ((a / 64 * 4 + b / 64) * 4) from nk_mul _ 4, nk_add, show nI ((a / 64 * 4 + b / 64) * 4 + f) - 1 = nI ((a / 64 * 4 + b / 64) * 4 + f - 1) from nk_sub (b := 1) (by omega)]
    congr 1
    omega
  have hk : (a / 64 * 4 + b / 64) * 4 + (f - 1) < 64 := by omega
  simp only [isO_c, ax0, ex_cons, am_get, upz_at, true_and, and_true, Nat.reduceAdd, Nat.reduceLeDiff, Nat.reduceEqDiff, Nat.reduceSub, Int32.reduceOfInt, Int32.reduceAdd, Int32.reduceMul, Int32.reduceSub, ↓reduceIte, Int32.reduceLT, Int32.reduceLE, Int32.reduceToNatClampNeg, Nat.reduceMod, Nat.reduceLT, List.length_cons, List.length_nil, eq_self, true_or, or_true, and_self, implies_true, not_true_eq_false, not_false_eq_true, false_implies, true_implies, forall_const, st_aloadx, st_arraylengthx, st_baloadx, st_getfieldx, st_gotox, st_goto_wx, st_iaddx, st_iconstx, st_ifCondx, st_if_icmpx, st_iloadx, st_imulx, st_ireturnx, st_istorex, st_isubx, am_put, am_nlg, kb_Syllogism_conclude_0, og_65_0, og_65_1, og_65_2, og_65_6, jx_Syllogism_conclude_43, kb_Syllogism_conclude_43, jx_Syllogism_conclude_44, kb_Syllogism_conclude_44, oa_65, oa_66, or_66, ol_66, cx_Syllogism_conclude, j0, j1, j2, hf, e]
  generalize (a / 64 * 4 + b / 64) * 4 + (f - 1) = k at hk K
  simp only [isO_c, ax0, ex_cons, am_get, upz_at, true_and, and_true, Nat.reduceAdd, Nat.reduceLeDiff, Nat.reduceEqDiff, Nat.reduceSub, Int32.reduceOfInt, Int32.reduceAdd, Int32.reduceMul, Int32.reduceSub, ↓reduceIte, Int32.reduceLT, Int32.reduceLE, Int32.reduceToNatClampNeg, Nat.reduceMod, Nat.reduceLT, List.length_cons, List.length_nil, eq_self, true_or, or_true, and_self, implies_true, not_true_eq_false, not_false_eq_true, false_implies, true_implies, forall_const, st_aloadx, st_arraylengthx, st_baloadx, st_getfieldx, st_gotox, st_goto_wx, st_iaddx, st_iconstx, st_ifCondx, st_if_icmpx, st_iloadx, st_imulx, st_ireturnx, st_istorex, st_isubx, am_put, am_nlg, kb_Syllogism_conclude_0, og_65_0, og_65_1, og_65_2, og_65_6, jx_Syllogism_conclude_43, kb_Syllogism_conclude_43, jx_Syllogism_conclude_44, kb_Syllogism_conclude_44, oa_65, oa_66, or_66, ol_66, nk_neg (show k < 2147483648 by omega), nk_cl (show k < 2147483648 by omega), (nk_le (by omega) (by omega) : (nI (64) ≤ nI (k)) = (64 ≤ k)), show ¬ 64 ≤ k by omega, hk, ht k hk]
  exact K
end CSY
