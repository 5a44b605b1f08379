/-! ===== the class: what is concluded is learned ===== -/
theorem sx_dec : ∀ k : Fin 64, nI k.val >>> (4 &&& 31) &&& 3 = nI (k.val / 16) ∧ nI k.val >>> (2 &&& 31) &&& 3 = nI (k.val / 4 % 4) ∧ (nI k.val &&& 3) + 1 = nI (k.val % 4 + 1) := by decide +kernel
theorem b8_dec : (-1 : Int32).toInt8.toInt32 = -1 ∧ ∀ i : Fin 4, (nI i.val).toInt8.toInt32 = nI i.val := by decide
theorem tcV_b8 (ex : Bool) (k : Nat) : (tcV ex k).toInt8.toInt32 = tcV ex k := by
  rcases tcV_or ex k with e | ⟨i, hi, e⟩
  · rw [e]; exact b8_dec.1
  · rw [e]; exact b8_dec.2 ⟨i, hi⟩
/-- what the class has learned, if it has -/
def SYf (F : Nat → Nat → Int32) : Prop := F 65 7 = 0 ∨ F 65 7 = 1 ∧ ∃ t : Bool, F 65 8 = b2i t ∧ ∀ k, k < 64 → F 66 k = tcV t k
section CSZ
variable {d : Nat} {h : am_H} {F : Nat → Nat → Int32} {J : Nat → Nat → Int64} {V : Nat → Nat → Value} {Q : am_Q}
set_option maxRecDepth 20000 in
theorem c_fmLoop (hb : HB h) (hpt : HP h) {T : tT} {P : Nat} {ex : Bool} {v1 v2 v3 v5 : Value} {v6 : Int32} : ∀ j i F1 J1, i + j = 4 → TT F1 J1 67 T P → Cf F F1 → (∀ F' J', Cf F F' → Q (some (.int (ccF T ex 2 j i))) (ov h F' J' V)) → am_W kc_Syllogism_firstMood (am_cl (d + 4)) Q 104 [.ref 65, v1, v2, v3, .int (b2i ex), v5, .int v6, .int (nI i)] [] (ov h F1 J1 V) := by
  intro j
  induction j with
  | zero =>
    intro i F1 J1 ei t1 c1 K
    have ei : i = 4 := ei
    subst ei
    rw [jx_Syllogism_firstMood_104]
    simp only [isO_c, ax0, ex_cons, am_get, upz_at, true_and, and_true, Nat.reduceAdd, Nat.reduceLeDiff, Nat.reduceEqDiff, Nat.reduceSub, Int32.reduceOfInt, Int32.reduceAdd, Int32.reduceMul, Int32.reduceSub, ↓reduceIte, Int32.reduceLT, Int32.reduceLE, Int32.reduceToNatClampNeg, Nat.reduceMod, Nat.reduceLT, List.length_cons, List.length_nil, eq_self, true_or, or_true, and_self, implies_true, not_true_eq_false, not_false_eq_true, false_implies, true_implies, forall_const, st_aloadx, st_getfieldx, st_iconstx, st_ifCondx, st_if_icmpx, st_iloadx, st_in3, st_in4, st_ireturnx, kb_Syllogism_firstMood_104, og_65_10, oo_71, og_65_9, oo_67, jx_Syllogism_firstMood_146, kb_Syllogism_firstMood_146, oa_65, oa_67, oa_71, show ((4 : Int32) ≤ nI (4)) = (4 ≤ 4) from nk_le (a := 4) (b := 4) (by omega) (by omega), Nat.le_refl]
    exact K F1 J1 c1
  | succ j ih =>
    intro i F1 J1 ei t1 c1 K
    have K : ∀ F' J', Cf F F' → Q (some (.int (if fN T ex (64 * i + 2) then nI i else ccF T ex 2 j (i + 1)))) (ov h F' J' V) := K
    rw [jx_Syllogism_firstMood_104]
    simp only [isO_c, ax0, ex_cons, am_get, upz_at, true_and, and_true, Nat.reduceAdd, Nat.reduceLeDiff, Nat.reduceEqDiff, Nat.reduceSub, Int32.reduceOfInt, Int32.reduceAdd, Int32.reduceMul, Int32.reduceSub, ↓reduceIte, Int32.reduceLT, Int32.reduceLE, Int32.reduceToNatClampNeg, Nat.reduceMod, Nat.reduceLT, List.length_cons, List.length_nil, eq_self, true_or, or_true, and_self, implies_true, not_true_eq_false, not_false_eq_true, false_implies, true_implies, forall_const, st_aloadx, st_getfieldx, st_iconstx, st_ifCondx, st_if_icmpx, st_iloadx, st_in3, st_in4, st_ireturnx, kb_Syllogism_firstMood_104, og_65_10, oo_71, og_65_9, oo_67, oa_65, oa_67, oa_71, show ((4 : Int32) ≤ nI (i)) = (4 ≤ i) from nk_le (a := 4) (b := i) (by omega) (by omega), show ¬ 4 ≤ i by omega]
    refine c_setSimple (Or.inr rfl) hpt (show i < 4 by omega) (show 0 < 8 by decide) (show 2 < 8 by decide) (fun F2 J2 l2 _ _ _ s2 => ?_)
    have t2 := t1.si (Or.inr rfl) (Or.inr rfl) s2
    have c2 := c1.tr (s2.cf (Or.inr rfl))
    rw [show 64 * i + 8 * 0 + 2 = 64 * i + 2 by omega] at l2
    simp only [isO_c, ax0, ex_cons, am_get, upz_at, true_and, and_true, Nat.reduceAdd, Nat.reduceLeDiff, Nat.reduceEqDiff, Nat.reduceSub, Int32.reduceOfInt, Int32.reduceAdd, Int32.reduceMul, Int32.reduceSub, ↓reduceIte, Int32.reduceLT, Int32.reduceLE, Int32.reduceToNatClampNeg, Nat.reduceMod, Nat.reduceLT, List.length_cons, List.length_nil, eq_self, true_or, or_true, and_self, implies_true, not_true_eq_false, not_false_eq_true, false_implies, true_implies, forall_const, st_aloadx, st_getfieldx, st_iconstx, st_ifCondx, st_if_icmpx, st_iloadx, st_in3, st_in4, st_ireturnx, kb_Syllogism_firstMood_104, og_65_10, oo_71, og_65_9, oo_67, oa_65, oa_67, oa_71]
    refine c_canFail (Or.inr rfl) hb t2 l2 (clR_ok _) ?_
    unfold fN at K
    simp only [isO_c, ax0, ex_cons, am_get, upz_at, true_and, and_true, Nat.reduceAdd, Nat.reduceLeDiff, Nat.reduceEqDiff, Nat.reduceSub, Int32.reduceOfInt, Int32.reduceAdd, Int32.reduceMul, Int32.reduceSub, ↓reduceIte, Int32.reduceLT, Int32.reduceLE, Int32.reduceToNatClampNeg, Nat.reduceMod, Nat.reduceLT, List.length_cons, List.length_nil, eq_self, true_or, or_true, and_self, implies_true, not_true_eq_false, not_false_eq_true, false_implies, true_implies, forall_const, st_aloadx, st_getfieldx, st_gotox, st_iconstx, st_ifCondx, st_if_icmpx, st_iincx, st_iloadx, st_in3, st_in4, st_ireturnx, am_put, am_nlg, kb_Syllogism_firstMood_104, og_65_10, oo_71, og_65_9, oo_67, jx_Syllogism_firstMood_140, kb_Syllogism_firstMood_140, oa_65, oa_67, oa_71, nk_succ]
    refine ifnb (fun z => ?_) (fun z => ?_)
    · rw [Bool.not_eq_true'] at z
      rw [z, if_neg Bool.false_ne_true] at K
      exact ih (i + 1) F2 J2 (by omega) t2 c2 K
    · rw [Bool.not_eq_false'] at z
      rw [z, if_pos rfl] at K
      exact K F2 J2 c2
set_option maxRecDepth 20000 in
theorem c_firstMood (hb : HB h) (hpt : HP h) {m1 m2 f : Nat} (hm1 : m1 < 4) (hm2 : m2 < 4) (hf : f < 10) {ex : Bool} (K : ∀ F' J', Cf F F' → Q (some (.int (ccV ex m1 m2 (decide (f = 1 ∨ f = 3)) (decide (f = 3 ∨ f = 4)) 0 1 2))) (ov h F' J' V)) : am_cl (d + 5) 133 [.ref 65, .int (nI m1), .int (nI m2), .int (nI f), .int (b2i ex)] (ov h F J V) Q := by
  simp only [isO_c, ax0, ex_cons, am_get, upz_at, true_and, and_true, Nat.reduceAdd, Nat.reduceLeDiff, Nat.reduceEqDiff, Nat.reduceSub, Int32.reduceOfInt, Int32.reduceAdd, Int32.reduceMul, Int32.reduceSub, ↓reduceIte, Int32.reduceLT, Int32.reduceLE, Int32.reduceToNatClampNeg, Nat.reduceMod, Nat.reduceLT, List.length_cons, List.length_nil, eq_self, true_or, or_true, and_self, implies_true, not_true_eq_false, not_false_eq_true, false_implies, true_implies, forall_const, st_aloadx, st_getfieldx, st_gotox, st_iconstx, st_ifCondx, st_iloadx, st_in1, st_st1, st_istorex, am_put, am_nlg, kb_Syllogism_firstMood_0, og_65_9, oo_67, og_65_10, oa_65, oa_67, cx_Syllogism_firstMood]
  refine c_leadsMajor hf ?_
  simp only [isO_c, ax0, ex_cons, am_get, upz_at, true_and, and_true, Nat.reduceAdd, Nat.reduceLeDiff, Nat.reduceEqDiff, Nat.reduceSub, Int32.reduceOfInt, Int32.reduceAdd, Int32.reduceMul, Int32.reduceSub, ↓reduceIte, Int32.reduceLT, Int32.reduceLE, Int32.reduceToNatClampNeg, Nat.reduceMod, Nat.reduceLT, List.length_cons, List.length_nil, eq_self, true_or, or_true, and_self, implies_true, not_true_eq_false, not_false_eq_true, false_implies, true_implies, forall_const, st_aloadx, st_getfieldx, st_gotox, st_iconstx, st_ifCondx, st_iloadx, st_in1, st_st1, st_istorex, am_put, am_nlg, kb_Syllogism_firstMood_0, og_65_9, oo_67, og_65_10, oa_65, oa_67]
  refine c_leadsMinor hf ?_
  generalize decide (f = 1 ∨ f = 3) = lM at K ⊢
  generalize decide (f = 3 ∨ f = 4) = lm at K ⊢
  simp only [isO_c, ax0, ex_cons, am_get, upz_at, true_and, and_true, Nat.reduceAdd, Nat.reduceLeDiff, Nat.reduceEqDiff, Nat.reduceSub, Int32.reduceOfInt, Int32.reduceAdd, Int32.reduceMul, Int32.reduceSub, ↓reduceIte, Int32.reduceLT, Int32.reduceLE, Int32.reduceToNatClampNeg, Nat.reduceMod, Nat.reduceLT, List.length_cons, List.length_nil, eq_self, true_or, or_true, and_self, implies_true, not_true_eq_false, not_false_eq_true, false_implies, true_implies, forall_const, st_aloadx, st_getfieldx, st_gotox, st_iconstx, st_ifCondx, st_iloadx, st_in1, st_st1, st_istorex, am_put, am_nlg, kb_Syllogism_firstMood_0, og_65_9, oo_67, og_65_10, oa_65, oa_67]
  refine c_clear (Or.inr rfl) (fun F1 J1 t1 q1 => ?_)
  have c1 := q1.cf (Or.inr rfl)
  have st2 : ∀ F3 J3 T3 P3, TT F3 J3 67 T3 P3 → T3.2.1.length < 12 → Cf F F3 → (∀ F' J', Cf F F' → Q (some (.int (ccF (tellz T3 (clR (mS m2 (if lm then 1 else 0) (if lm then 0 else 1))) ex) ex 2 4 0))) (ov h F' J' V)) → ∀ u v : Nat, u = (if lm then 1 else 0) → v = (if lm then 0 else 1) → am_W kc_Syllogism_firstMood (am_cl (d + 4)) Q 85 [.ref 65, .int (nI m1), .int (nI m2), .int (nI f), .int (b2i ex), .int (b2i lM), .int (b2i lm), am_dum] [.int (nI v), .int (nI u), .int (nI m2), .ref 71] (ov h F3 J3 V) := by
    intro F3 J3 T3 P3 t3 l3 c3 K3 u v eu ev
    have hu : u < 8 := by rw [eu]; cases lm <;> decide
    have hv : v < 8 := by rw [ev]; cases lm <;> decide
    simp only [isO_c, ax0, ex_cons, am_get, upz_at, true_and, and_true, Nat.reduceAdd, Nat.reduceLeDiff, Nat.reduceEqDiff, Nat.reduceSub, Int32.reduceOfInt, Int32.reduceAdd, Int32.reduceMul, Int32.reduceSub, ↓reduceIte, Int32.reduceLT, Int32.reduceLE, Int32.reduceToNatClampNeg, Nat.reduceMod, Nat.reduceLT, List.length_cons, List.length_nil, eq_self, true_or, or_true, and_self, implies_true, not_true_eq_false, not_false_eq_true, false_implies, true_implies, forall_const, st_aloadx, st_getfieldx, st_goto_wx, st_iconstx, st_iloadx, st_in3, st_in4, st_istorex, am_put, am_nlg, jx_Syllogism_firstMood_85, kb_Syllogism_firstMood_85, oo_71, og_65_9, og_65_10, oo_67, oa_65, oa_67, oa_71]
    refine c_setSimple (Or.inr rfl) hpt hm2 hu hv (fun F4 J4 l4 _ _ _ s4 => ?_)
    have t4 := t3.si (Or.inr rfl) (Or.inr rfl) s4
    have c4 := c3.tr (s4.cf (Or.inr rfl))
    rw [rS_mS hu hv rfl] at l4
    simp only [isO_c, ax0, ex_cons, am_get, upz_at, true_and, and_true, Nat.reduceAdd, Nat.reduceLeDiff, Nat.reduceEqDiff, Nat.reduceSub, Int32.reduceOfInt, Int32.reduceAdd, Int32.reduceMul, Int32.reduceSub, ↓reduceIte, Int32.reduceLT, Int32.reduceLE, Int32.reduceToNatClampNeg, Nat.reduceMod, Nat.reduceLT, List.length_cons, List.length_nil, eq_self, true_or, or_true, and_self, implies_true, not_true_eq_false, not_false_eq_true, false_implies, true_implies, forall_const, st_aloadx, st_getfieldx, st_goto_wx, st_iconstx, st_iloadx, st_in3, st_in4, st_istorex, am_put, am_nlg, jx_Syllogism_firstMood_85, kb_Syllogism_firstMood_85, oo_71, og_65_9, og_65_10, oo_67, oa_65, oa_67, oa_71]
    refine c_grantClaim (Or.inr rfl) t4 (by omega) l4 (clR_ok _) (fun F5 J5 t5 q5 => ?_)
    rw [eu, ev] at t5
    simp only [isO_c, ax0, ex_cons, am_get, upz_at, true_and, and_true, Nat.reduceAdd, Nat.reduceLeDiff, Nat.reduceEqDiff, Nat.reduceSub, Int32.reduceOfInt, Int32.reduceAdd, Int32.reduceMul, Int32.reduceSub, ↓reduceIte, Int32.reduceLT, Int32.reduceLE, Int32.reduceToNatClampNeg, Nat.reduceMod, Nat.reduceLT, List.length_cons, List.length_nil, eq_self, true_or, or_true, and_self, implies_true, not_true_eq_false, not_false_eq_true, false_implies, true_implies, forall_const, st_aloadx, st_getfieldx, st_goto_wx, st_iconstx, st_iloadx, st_in3, st_in4, st_istorex, am_put, am_nlg, jx_Syllogism_firstMood_85, kb_Syllogism_firstMood_85, oo_71, og_65_9, og_65_10, oo_67, oa_65, oa_67, oa_71]
    exact c_fmLoop hb hpt 4 0 F5 J5 rfl t5 (c4.tr (q5.cf (Or.inr rfl))) K3
  have st1 : ∀ u v : Nat, u = (if lM then 1 else 2) → v = (if lM then 2 else 1) → am_W kc_Syllogism_firstMood (am_cl (d + 4)) Q 44 [.ref 65, .int (nI m1), .int (nI m2), .int (nI f), .int (b2i ex), .int (b2i lM), .int (b2i lm), am_dum] [.int (nI v), .int (nI u), .int (nI m1), .ref 71] (ov h F1 J1 V) := by
    intro u v eu ev
    have hu : u < 8 := by rw [eu]; cases lM <;> decide
    have hv : v < 8 := by rw [ev]; cases lM <;> decide
    simp only [isO_c, ax0, ex_cons, am_get, upz_at, true_and, and_true, Nat.reduceAdd, Nat.reduceLeDiff, Nat.reduceEqDiff, Nat.reduceSub, Int32.reduceOfInt, Int32.reduceAdd, Int32.reduceMul, Int32.reduceSub, ↓reduceIte, Int32.reduceLT, Int32.reduceLE, Int32.reduceToNatClampNeg, Nat.reduceMod, Nat.reduceLT, List.length_cons, List.length_nil, eq_self, true_or, or_true, and_self, implies_true, not_true_eq_false, not_false_eq_true, false_implies, true_implies, forall_const, st_aloadx, st_getfieldx, st_gotox, st_iconstx, st_ifCondx, st_iloadx, st_in3, st_in4, jx_Syllogism_firstMood_44, kb_Syllogism_firstMood_44, oo_71, og_65_9, og_65_10, oo_67, oa_65, oa_67, oa_71]
    refine c_setSimple (Or.inr rfl) hpt hm1 hu hv (fun F2 J2 l2 _ _ _ s2 => ?_)
    have t2 := t1.si (Or.inr rfl) (Or.inr rfl) s2
    have c2 := c1.tr (s2.cf (Or.inr rfl))
    rw [rS_mS hu hv rfl] at l2
    simp only [isO_c, ax0, ex_cons, am_get, upz_at, true_and, and_true, Nat.reduceAdd, Nat.reduceLeDiff, Nat.reduceEqDiff, Nat.reduceSub, Int32.reduceOfInt, Int32.reduceAdd, Int32.reduceMul, Int32.reduceSub, ↓reduceIte, Int32.reduceLT, Int32.reduceLE, Int32.reduceToNatClampNeg, Nat.reduceMod, Nat.reduceLT, List.length_cons, List.length_nil, eq_self, true_or, or_true, and_self, implies_true, not_true_eq_false, not_false_eq_true, false_implies, true_implies, forall_const, st_aloadx, st_getfieldx, st_gotox, st_iconstx, st_ifCondx, st_iloadx, st_in3, st_in4, jx_Syllogism_firstMood_44, kb_Syllogism_firstMood_44, oo_71, og_65_9, og_65_10, oo_67, oa_65, oa_67, oa_71]
    refine c_grantClaim (Or.inr rfl) t2 (by decide) l2 (clR_ok _) (fun F3 J3 t3 q3 => ?_)
    rw [eu, ev] at t3
    have c3 := c2.tr (q3.cf (Or.inr rfl))
    have tl := tellz_len tE (clR (mS m1 (if lM then 1 else 2) (if lM then 2 else 1))) ex
    have tl0 : tE.2.1.length = 0 := rfl
    have go := st2 F3 J3 _ _ t3 (by omega) c3 K
    cases lm
    · simp only [isO_c, ax0, ex_cons, am_get, upz_at, true_and, and_true, Nat.reduceAdd, Nat.reduceLeDiff, Nat.reduceEqDiff, Nat.reduceSub, Int32.reduceOfInt, Int32.reduceAdd, Int32.reduceMul, Int32.reduceSub, ↓reduceIte, Int32.reduceLT, Int32.reduceLE, Int32.reduceToNatClampNeg, Nat.reduceMod, Nat.reduceLT, List.length_cons, List.length_nil, eq_self, true_or, or_true, and_self, implies_true, not_true_eq_false, not_false_eq_true, false_implies, true_implies, forall_const, st_aloadx, st_getfieldx, st_gotox, st_goto_wx, st_iconstx, st_ifCondx, st_iloadx, st_in3, st_in4, jx_Syllogism_firstMood_44, kb_Syllogism_firstMood_44, oo_71, og_65_9, og_65_10, oo_67, jx_Syllogism_firstMood_74, kb_Syllogism_firstMood_74, jx_Syllogism_firstMood_75, kb_Syllogism_firstMood_75, jx_Syllogism_firstMood_84, kb_Syllogism_firstMood_84, oa_65, oa_67, oa_71, show b2i false = (0 : Int32) from rfl]
      exact go 0 1 rfl rfl
    · simp only [isO_c, ax0, ex_cons, am_get, upz_at, true_and, and_true, Nat.reduceAdd, Nat.reduceLeDiff, Nat.reduceEqDiff, Nat.reduceSub, Int32.reduceOfInt, Int32.reduceAdd, Int32.reduceMul, Int32.reduceSub, ↓reduceIte, Int32.reduceLT, Int32.reduceLE, Int32.reduceToNatClampNeg, Nat.reduceMod, Nat.reduceLT, List.length_cons, List.length_nil, eq_self, true_or, or_true, and_self, implies_true, not_true_eq_false, not_false_eq_true, false_implies, true_implies, forall_const, st_aloadx, st_getfieldx, st_gotox, st_goto_wx, st_iconstx, st_ifCondx, st_iloadx, st_in3, st_in4, jx_Syllogism_firstMood_44, kb_Syllogism_firstMood_44, oo_71, og_65_9, og_65_10, oo_67, jx_Syllogism_firstMood_74, kb_Syllogism_firstMood_74, jx_Syllogism_firstMood_75, kb_Syllogism_firstMood_75, jx_Syllogism_firstMood_84, kb_Syllogism_firstMood_84, oa_65, oa_67, oa_71, show b2i true = (1 : Int32) from rfl]
      exact go 1 0 rfl rfl
  cases lM
  · simp only [isO_c, ax0, ex_cons, am_get, upz_at, true_and, and_true, Nat.reduceAdd, Nat.reduceLeDiff, Nat.reduceEqDiff, Nat.reduceSub, Int32.reduceOfInt, Int32.reduceAdd, Int32.reduceMul, Int32.reduceSub, ↓reduceIte, Int32.reduceLT, Int32.reduceLE, Int32.reduceToNatClampNeg, Nat.reduceMod, Nat.reduceLT, List.length_cons, List.length_nil, eq_self, true_or, or_true, and_self, implies_true, not_true_eq_false, not_false_eq_true, false_implies, true_implies, forall_const, st_aloadx, st_getfieldx, st_gotox, st_goto_wx, st_iconstx, st_ifCondx, st_iloadx, st_in1, st_st1, st_istorex, am_put, am_nlg, kb_Syllogism_firstMood_0, og_65_9, oo_67, og_65_10, jx_Syllogism_firstMood_33, kb_Syllogism_firstMood_33, jx_Syllogism_firstMood_34, kb_Syllogism_firstMood_34, jx_Syllogism_firstMood_43, kb_Syllogism_firstMood_43, oa_65, oa_67, show b2i false = (0 : Int32) from rfl]
    exact st1 2 1 rfl rfl
  · simp only [isO_c, ax0, ex_cons, am_get, upz_at, true_and, and_true, Nat.reduceAdd, Nat.reduceLeDiff, Nat.reduceEqDiff, Nat.reduceSub, Int32.reduceOfInt, Int32.reduceAdd, Int32.reduceMul, Int32.reduceSub, ↓reduceIte, Int32.reduceLT, Int32.reduceLE, Int32.reduceToNatClampNeg, Nat.reduceMod, Nat.reduceLT, List.length_cons, List.length_nil, eq_self, true_or, or_true, and_self, implies_true, not_true_eq_false, not_false_eq_true, false_implies, true_implies, forall_const, st_aloadx, st_getfieldx, st_gotox, st_goto_wx, st_iconstx, st_ifCondx, st_iloadx, st_in1, st_st1, st_istorex, am_put, am_nlg, kb_Syllogism_firstMood_0, og_65_9, oo_67, og_65_10, jx_Syllogism_firstMood_33, kb_Syllogism_firstMood_33, jx_Syllogism_firstMood_34, kb_Syllogism_firstMood_34, jx_Syllogism_firstMood_43, kb_Syllogism_firstMood_43, oa_65, oa_67, show b2i true = (1 : Int32) from rfl]
    exact st1 1 2 rfl rfl
/-- the theory and the claim of the syllogism, and what it learned, alone differ -/
def Cl (F F' : Nat → Nat → Int32) : Prop := (∀ x, x ≠ 47 → x ≠ 51 → x ≠ 67 → x ≠ 71 → x ≠ 65 → x ≠ 66 → F' x = F x) ∧ ∀ i, i < 6 → F' 65 i = F 65 i
set_option maxRecDepth 20000 in
theorem c_learn (hb : HB h) (hpt : HP h) (hS : SYf F) {ex : Bool} (K : ∀ F' J', Cl F F' → SYf F' → (∀ k, k < 64 → F' 66 k = tcV ex k) → Q none (ov h F' J' V)) : am_cl (d + 6) 131 [.ref 65, .int (b2i ex)] (ov h F J V) Q := by
  have lp : am_W kc_Syllogism_learn (am_cl (d + 5)) Q 18 [.ref 65, .int (b2i ex), .int (nI 0)] [] (ov h F J V) := by
    have key : ∀ j k F1 J1, k + j = 64 → (∀ i, i < k → F1 66 i = tcV ex i) → (∀ x, x ≠ 47 → x ≠ 51 → x ≠ 67 → x ≠ 71 → x ≠ 66 → F1 x = F x) → am_W kc_Syllogism_learn (am_cl (d + 5)) Q 18 [.ref 65, .int (b2i ex), .int (nI k)] [] (ov h F1 J1 V) := by
      intro j
      induction j with
      | zero =>
        intro k F1 J1 ek t1 c1
        have ek : k = 64 := ek
        subst ek
        have b1 : b2i ex = 0 ∨ b2i ex = 1 := by cases ex; exact Or.inl rfl; exact Or.inr rfl
        rw [jx_Syllogism_learn_18]
        simp only [isO_c, ax0, ex_cons, am_get, upz_at, true_and, and_true, Nat.reduceAdd, Nat.reduceLeDiff, Nat.reduceEqDiff, Nat.reduceSub, Int32.reduceOfInt, Int32.reduceAdd, Int32.reduceMul, Int32.reduceSub, ↓reduceIte, Int32.reduceLT, Int32.reduceLE, Int32.reduceToNatClampNeg, Nat.reduceMod, Nat.reduceLT, List.length_cons, List.length_nil, eq_self, true_or, or_true, and_self, implies_true, not_true_eq_false, not_false_eq_true, false_implies, true_implies, forall_const, st_aloadx, st_arraylengthx, st_bastorex, st_getfieldx, st_gotox, st_i2bx, st_iaddx, st_iandx, st_iconstx, st_if_icmpx, st_iincx, st_iloadx, st_in5, st_ishrx, st_putstaticx, st_return_x, am_put, am_nlg, kb_Syllogism_learn_18, og_65_6, oo_65, jx_Syllogism_learn_60, kb_Syllogism_learn_60, op_65_7, op_65_8, oa_65, os_65, oa_66, ow_66, os_66, ol_66, (nk_le (by omega) (by omega) : (nI (64) ≤ nI (64)) = (64 ≤ 64)), Nat.le_refl, b1, upz_upd, upz_eq]
        have e65 : F1 65 = F 65 := c1 65 (by decide) (by decide) (by decide) (by decide) (by decide)
        refine K _ _ ⟨fun x x1 x2 x3 x4 x5 x6 => by rw [upz_ne _ _ x5]; exact c1 x x1 x2 x3 x4 x6, fun i hi => by rw [upz_eq, upz_ne _ _ (by omega), upz_ne _ _ (by omega), e65]⟩ (Or.inr ⟨?_, ex, ?_, fun k hk => ?_⟩) (fun k hk => ?_)
        · rw [upz_eq, upz_ne _ _ (by decide), upz_eq]
        · rw [upz_eq, upz_eq]
        · rw [upz_ne _ _ (by decide)]; exact t1 k hk
        · rw [upz_ne _ _ (by decide)]; exact t1 k hk
      | succ j ih =>
        intro k F1 J1 ek t1 c1
        have hk : k < 64 := by omega
        obtain ⟨s1, s2, s3⟩ := sx_dec ⟨k, hk⟩
        rw [jx_Syllogism_learn_18]
        simp only [isO_c, ax0, ex_cons, am_get, upz_at, true_and, and_true, Nat.reduceAdd, Nat.reduceLeDiff, Nat.reduceEqDiff, Nat.reduceSub, Int32.reduceOfInt, Int32.reduceAdd, Int32.reduceMul, Int32.reduceSub, ↓reduceIte, Int32.reduceLT, Int32.reduceLE, Int32.reduceToNatClampNeg, Nat.reduceMod, Nat.reduceLT, List.length_cons, List.length_nil, eq_self, true_or, or_true, and_self, implies_true, not_true_eq_false, not_false_eq_true, false_implies, true_implies, forall_const, st_aloadx, st_arraylengthx, st_bastorex, st_getfieldx, st_gotox, st_i2bx, st_iaddx, st_iandx, st_iconstx, st_if_icmpx, st_iincx, st_iloadx, st_in5, st_ishrx, am_put, am_nlg, kb_Syllogism_learn_18, og_65_6, oo_65, oa_65, oa_66, ow_66, os_66, ol_66, (nk_le (by omega) (by omega) : (nI (64) ≤ nI (k)) = (64 ≤ k)), show ¬ 64 ≤ k by omega, s1, s2, s3]
        refine c_firstMood hb hpt (show k / 16 < 4 by omega) (show k / 4 % 4 < 4 by omega) (show k % 4 + 1 < 10 by omega) (fun F2 J2 c2 => ?_)
        have e : ccV ex (k / 16) (k / 4 % 4) (decide (k % 4 + 1 = 1 ∨ k % 4 + 1 = 3)) (decide (k % 4 + 1 = 3 ∨ k % 4 + 1 = 4)) 0 1 2 = tcV ex k := by
          unfold tcV
          congr 1
          · exact decide_eq_decide.mpr (by omega)
          · exact decide_eq_decide.mpr (by omega)
        rw [e]
        simp only [isO_c, ax0, ex_cons, am_get, upz_at, true_and, and_true, Nat.reduceAdd, Nat.reduceLeDiff, Nat.reduceEqDiff, Nat.reduceSub, Int32.reduceOfInt, Int32.reduceAdd, Int32.reduceMul, Int32.reduceSub, ↓reduceIte, Int32.reduceLT, Int32.reduceLE, Int32.reduceToNatClampNeg, Nat.reduceMod, Nat.reduceLT, List.length_cons, List.length_nil, eq_self, true_or, or_true, and_self, implies_true, not_true_eq_false, not_false_eq_true, false_implies, true_implies, forall_const, st_aloadx, st_arraylengthx, st_bastorex, st_getfieldx, st_gotox, st_i2bx, st_iaddx, st_iandx, st_iconstx, st_if_icmpx, st_iincx, st_iloadx, st_in5, st_ishrx, am_put, am_nlg, kb_Syllogism_learn_18, og_65_6, oo_65, oa_65, oa_66, ow_66, os_66, ol_66, tcV_b8, nk_neg (show k < 2147483648 by omega), nk_cl (show k < 2147483648 by omega), hk, nk_succ]
        refine ih (k + 1) _ J2 (by omega) (fun i hi => ?_) (fun x x1 x2 x3 x4 x5 => by rw [upz_ne _ _ x5]; exact (c2 x x1 x2 x3 x4).trans (c1 x x1 x2 x3 x4 x5))
        rw [upz_eq]
        by_cases w : i = k
        · rw [w, upz_eq]
        · rw [upz_ne _ _ w, c2 66 (by decide) (by decide) (by decide) (by decide)]
          exact t1 i (by omega)
    exact key 64 0 F J rfl (fun i hi => absurd hi (Nat.not_lt_zero i)) (fun _ _ _ _ _ _ => rfl)
  rcases hS with z | ⟨z, t, z2, z3⟩
  · simp only [isO_c, ax0, ex_cons, am_get, upz_at, true_and, and_true, Nat.reduceAdd, Nat.reduceLeDiff, Nat.reduceEqDiff, Nat.reduceSub, Int32.reduceOfInt, Int32.reduceAdd, Int32.reduceMul, Int32.reduceSub, ↓reduceIte, Int32.reduceLT, Int32.reduceLE, Int32.reduceToNatClampNeg, Nat.reduceMod, Nat.reduceLT, List.length_cons, List.length_nil, eq_self, true_or, or_true, and_self, implies_true, not_true_eq_false, not_false_eq_true, false_implies, true_implies, forall_const, st_aloadx, st_getfieldx, st_goto_wx, st_iconstx, st_ifCondx, st_if_icmpx, st_iloadx, st_istorex, st_return_x, am_put, am_nlg, kb_Syllogism_learn_0, og_65_7, og_65_8, jx_Syllogism_learn_16, kb_Syllogism_learn_16, oa_65, cx_Syllogism_learn, z]
    exact lp
  · by_cases e : t = ex
    · subst e
      simp only [isO_c, ax0, ex_cons, am_get, upz_at, true_and, and_true, Nat.reduceAdd, Nat.reduceLeDiff, Nat.reduceEqDiff, Nat.reduceSub, Int32.reduceOfInt, Int32.reduceAdd, Int32.reduceMul, Int32.reduceSub, ↓reduceIte, Int32.reduceLT, Int32.reduceLE, Int32.reduceToNatClampNeg, Nat.reduceMod, Nat.reduceLT, List.length_cons, List.length_nil, eq_self, true_or, or_true, and_self, implies_true, not_true_eq_false, not_false_eq_true, false_implies, true_implies, forall_const, st_aloadx, st_getfieldx, st_goto_wx, st_iconstx, st_ifCondx, st_if_icmpx, st_iloadx, st_istorex, st_return_x, am_put, am_nlg, kb_Syllogism_learn_0, og_65_7, og_65_8, jx_Syllogism_learn_16, kb_Syllogism_learn_16, oa_65, cx_Syllogism_learn, z, z2]
      exact K F J ⟨fun _ _ _ _ _ _ _ => rfl, fun _ _ => rfl⟩ (Or.inr ⟨z, t, z2, z3⟩) z3
    · have e2 : ¬ b2i t = b2i ex := by
        intro w
        cases t <;> cases ex
        · exact e rfl
        · exact absurd w (by decide)
        · exact absurd w (by decide)
        · exact e rfl
      simp only [isO_c, ax0, ex_cons, am_get, upz_at, true_and, and_true, Nat.reduceAdd, Nat.reduceLeDiff, Nat.reduceEqDiff, Nat.reduceSub, Int32.reduceOfInt, Int32.reduceAdd, Int32.reduceMul, Int32.reduceSub, ↓reduceIte, Int32.reduceLT, Int32.reduceLE, Int32.reduceToNatClampNeg, Nat.reduceMod, Nat.reduceLT, List.length_cons, List.length_nil, eq_self, true_or, or_true, and_self, implies_true, not_true_eq_false, not_false_eq_true, false_implies, true_implies, forall_const, st_aloadx, st_getfieldx, st_goto_wx, st_iconstx, st_ifCondx, st_if_icmpx, st_iloadx, st_istorex, st_return_x, am_put, am_nlg, kb_Syllogism_learn_0, og_65_7, og_65_8, jx_Syllogism_learn_16, kb_Syllogism_learn_16, oa_65, cx_Syllogism_learn, z, z2, e2]
      exact lp
end CSZ
