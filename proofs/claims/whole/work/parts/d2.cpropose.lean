/-! ===== the class: the bound sentences assumed, propose ===== -/
section CPR
variable {d : Nat} {h : am_H} {F : Nat → Nat → Int32} {J : Nat → Nat → Int64} {V : Nat → Nat → Value} {Q : am_Q}
set_option maxRecDepth 20000 in
theorem c_assumeBound {X : kT} (hD : DK h F V 34 X) (K : ∀ F' J' P, TT F' J' 47 (bzT X.2.2 X.2.1) P → Tth 47 F F' J J' → Q none (ov h F' J' V)) : am_cl (d + 3) 54 [.ref 23] (ov h F J V) Q := by
  obtain ⟨_, d4, d5, ⟨d6, d7, d8⟩, d9, d10⟩ := hD
  simp only [isO_c, ax0, ex_cons, am_get, upz_at, true_and, and_true, Nat.reduceAdd, Nat.reduceLeDiff, Nat.reduceEqDiff, Nat.reduceSub, Int32.reduceOfInt, Int32.reduceAdd, Int32.reduceMul, Int32.reduceSub, ↓reduceIte, Int32.reduceLT, Int32.reduceLE, Int32.reduceToNatClampNeg, Nat.reduceMod, Nat.reduceLT, List.length_cons, List.length_nil, eq_self, true_or, or_true, and_self, implies_true, not_true_eq_false, not_false_eq_true, false_implies, true_implies, forall_const, st_aloadx, st_getfieldx, st_goto_wx, st_iconstx, st_in1, st_istorex, am_put, am_nlg, kb_Slips_assumeBound_0, og_23_3, oo_47, oa_23, oa_47, cx_Slips_assumeBound]
  refine c_clear (Or.inl rfl) (fun F1 J1 t1 q1 => ?_)
  simp only [isO_c, ax0, ex_cons, am_get, upz_at, true_and, and_true, Nat.reduceAdd, Nat.reduceLeDiff, Nat.reduceEqDiff, Nat.reduceSub, Int32.reduceOfInt, Int32.reduceAdd, Int32.reduceMul, Int32.reduceSub, ↓reduceIte, Int32.reduceLT, Int32.reduceLE, Int32.reduceToNatClampNeg, Nat.reduceMod, Nat.reduceLT, List.length_cons, List.length_nil, eq_self, true_or, or_true, and_self, implies_true, not_true_eq_false, not_false_eq_true, false_implies, true_implies, forall_const, st_aloadx, st_getfieldx, st_goto_wx, st_iconstx, st_in1, st_istorex, am_put, am_nlg, kb_Slips_assumeBound_0, og_23_3, oo_47, oa_23, oa_47]
  have key : ∀ j k F2 J2 P v3, k + j = X.2.1 → TT F2 J2 47 (bzT X.2.2 k) P → Tth 47 F F2 J J2 → am_W kc_Slips_assumeBound (am_cl (d + 2)) Q 9 [.ref 23, .int (nI k), v3] [] (ov h F2 J2 V) := by
    intro j
    induction j with
    | zero =>
      intro k F2 J2 P v3 ek t2 q2
      have ek : k = X.2.1 := ek
      subst ek
      have h34 : F2 34 6 = nI X.2.1 := by rw [q2.1 34 (by decide)]; exact d6
      rw [jx_Slips_assumeBound_9]
      simp only [isO_c, ax0, ex_cons, am_get, upz_at, true_and, and_true, Nat.reduceAdd, Nat.reduceLeDiff, Nat.reduceEqDiff, Nat.reduceSub, Int32.reduceOfInt, Int32.reduceAdd, Int32.reduceMul, Int32.reduceSub, ↓reduceIte, Int32.reduceLT, Int32.reduceLE, Int32.reduceToNatClampNeg, Nat.reduceMod, Nat.reduceLT, List.length_cons, List.length_nil, eq_self, true_or, or_true, and_self, implies_true, not_true_eq_false, not_false_eq_true, false_implies, true_implies, forall_const, st_aaloadx, st_aloadx, st_astorex, st_astore_1x, st_getfieldx, st_gotox, st_if_icmpx, st_ifnonnullx, st_ifnonnull_1x, st_iloadx, st_return_x, am_put, am_nlg, kb_Slips_assumeBound_9, og_23_1, og_34_6, og_34_4, jx_Slips_assumeBound_75, kb_Slips_assumeBound_75, oa_23, oa_34, oa_36, or_36, h34, (nk_le (by omega) (by omega) : (nI (X.2.1) ≤ nI (X.2.1)) = (X.2.1 ≤ X.2.1)), Nat.le_refl]
      exact K F2 J2 P t2 q2
    | succ j ih =>
      intro k F2 J2 P v3 ek t2 q2
      have h34 : F2 34 6 = nI X.2.1 := by rw [q2.1 34 (by decide)]; exact d6
      obtain ⟨⟨p, hp1, hp2⟩, hp3⟩ := d8 k (by omega)
      have hp1 : V 36 k = .ref p := hp1
      have hp3 : F2 37 k = b2i (X.2.2 k).2 := by rw [q2.1 37 (by decide)]; exact hp3
      have hl := bzT_len X.2.2 k
      have ih := ih (k + 1)
      rw [jx_Slips_assumeBound_9]
      simp only [isO_c, ax0, ex_cons, am_get, upz_at, true_and, and_true, Nat.reduceAdd, Nat.reduceLeDiff, Nat.reduceEqDiff, Nat.reduceSub, Int32.reduceOfInt, Int32.reduceAdd, Int32.reduceMul, Int32.reduceSub, ↓reduceIte, Int32.reduceLT, Int32.reduceLE, Int32.reduceToNatClampNeg, Nat.reduceMod, Nat.reduceLT, List.length_cons, List.length_nil, eq_self, true_or, or_true, and_self, implies_true, not_true_eq_false, not_false_eq_true, false_implies, true_implies, forall_const, st_aaloadx, st_aloadx, st_astorex, st_astore_1x, st_baloadx, st_getfieldx, st_gotox, st_goto_wx, st_iconstx, st_ifCondx, st_if_icmpx, st_ifnonnullx, st_ifnonnull_1x, st_iloadx, st_in2, st_in3, am_put, am_nlg, kb_Slips_assumeBound_9, og_23_1, og_34_6, og_34_4, jx_Slips_assumeBound_37, kb_Slips_assumeBound_37, og_34_5, og_23_3, oo_47, jx_Slips_assumeBound_61, kb_Slips_assumeBound_61, oa_23, oa_34, oa_47, oa_36, or_36, oa_37, or_37, oa_36, or_36, oa_37, or_37, h34, hp3, (nk_le (by omega) (by omega) : (nI (X.2.1) ≤ nI (k)) = (X.2.1 ≤ k)), show ¬ X.2.1 ≤ k by omega, nk_neg (show k < 2147483648 by omega), nk_cl (show k < 2147483648 by omega), show k < 12 by omega, hp1]
      refine And.intro (fun e => ?_) (fun e => ?_)
      · rw [b2i_ne0] at e
        refine c_denyClaim (Or.inl rfl) t2 (by omega) hp2.cl (fun F3 J3 t3 q3 => ?_)
        simp only [isO_c, ax0, ex_cons, am_get, upz_at, true_and, and_true, Nat.reduceAdd, Nat.reduceLeDiff, Nat.reduceEqDiff, Nat.reduceSub, Int32.reduceOfInt, Int32.reduceAdd, Int32.reduceMul, Int32.reduceSub, ↓reduceIte, Int32.reduceLT, Int32.reduceLE, Int32.reduceToNatClampNeg, Nat.reduceMod, Nat.reduceLT, List.length_cons, List.length_nil, eq_self, true_or, or_true, and_self, implies_true, not_true_eq_false, not_false_eq_true, false_implies, true_implies, forall_const, st_aloadx, st_getfieldx, st_gotox, st_goto_wx, st_iincx, st_in2, am_put, am_nlg, jx_Slips_assumeBound_61, kb_Slips_assumeBound_61, og_23_3, oo_47, jx_Slips_assumeBound_69, kb_Slips_assumeBound_69, oa_23, oa_47, nk_succ]
        refine ih F3 J3 (plC P (clR (X.2.2 k).1)) _ (by omega) ?_ (q2.tr q3)
        unfold bzT
        rw [e]
        exact t3
      · rw [b2i_ne0, Bool.not_eq_false] at e
        refine c_grantClaim (Or.inl rfl) (ex := false) t2 (by omega) hp2.cl (clR_ok _) (fun F3 J3 t3 q3 => ?_)
        simp only [isO_c, ax0, ex_cons, am_get, upz_at, true_and, and_true, Nat.reduceAdd, Nat.reduceLeDiff, Nat.reduceEqDiff, Nat.reduceSub, Int32.reduceOfInt, Int32.reduceAdd, Int32.reduceMul, Int32.reduceSub, ↓reduceIte, Int32.reduceLT, Int32.reduceLE, Int32.reduceToNatClampNeg, Nat.reduceMod, Nat.reduceLT, List.length_cons, List.length_nil, eq_self, true_or, or_true, and_self, implies_true, not_true_eq_false, not_false_eq_true, false_implies, true_implies, forall_const, st_aloadx, st_baloadx, st_getfieldx, st_gotox, st_iconstx, st_ifCondx, st_iincx, st_iloadx, st_in3, am_put, am_nlg, jx_Slips_assumeBound_37, kb_Slips_assumeBound_37, og_23_1, og_34_5, og_23_3, oo_47, jx_Slips_assumeBound_69, kb_Slips_assumeBound_69, oa_23, oa_34, oa_47, oa_37, or_37, nk_succ]
        refine ih F3 J3 (plC P (clR (X.2.2 k).1)) _ (by omega) ?_ (q2.tr q3)
        unfold bzT
        rw [e]
        exact t3
  exact key X.2.1 0 F1 J1 0 _ (by omega) t1 q1
set_option maxRecDepth 20000 in
theorem co_propose (hb : HB h) {A : aT} (hA : CB h F V A) (K : ∀ F' J' V', Cx false false F F' → Vz V V' → CB h F' V' (xPropose A).1 → Q (some (.int (xPropose A).2)) (ov h F' J' V')) : am_cl (d + 5) 52 [.ref 23] (ov h F J V) Q := by
  have d6 : F 34 6 = nI (aB A).1 := hA.1.2.2.2.1.1
  have d7 : (aB A).1 ≤ 12 := hA.1.2.2.2.1.2.1
  unfold xPropose at K
  rcases hA.1.asked with ⟨ea, ev⟩ | ⟨ea, p, ev, hs⟩
  · rw [show (aD A).2.2.1 = false from ea, Bool.false_and, if_neg Bool.false_ne_true] at K
    simp only [isO_c, ax0, ex_cons, am_get, upz_at, true_and, and_true, Nat.reduceAdd, Nat.reduceLeDiff, Nat.reduceEqDiff, Nat.reduceSub, Int32.reduceOfInt, Int32.reduceAdd, Int32.reduceMul, Int32.reduceSub, ↓reduceIte, Int32.reduceLT, Int32.reduceLE, Int32.reduceToNatClampNeg, Nat.reduceMod, Nat.reduceLT, List.length_cons, List.length_nil, eq_self, true_or, or_true, and_self, implies_true, not_true_eq_false, not_false_eq_true, false_implies, true_implies, forall_const, st_aloadx, st_astorex, st_astore_1x, st_getfieldx, st_goto_wx, st_iconstx, st_ifCondx, st_ifnullx, st_ifnull_1x, st_in2, st_ireturnx, am_put, am_nlg, kb_Slips_propose_0, og_23_1, og_34_2, og_34_6, jx_Slips_propose_22, kb_Slips_propose_22, oo_23, oa_23, oa_34, cx_Slips_propose, ev]
    refine c_refuse hA (j := 2) (Or.inr (Or.inr (Or.inl ⟨rfl, rfl⟩))) (fun F' c m => ?_)
    simp only [isO_c, ax0, ex_cons, am_get, upz_at, true_and, and_true, Nat.reduceAdd, Nat.reduceLeDiff, Nat.reduceEqDiff, Nat.reduceSub, Int32.reduceOfInt, Int32.reduceAdd, Int32.reduceMul, Int32.reduceSub, ↓reduceIte, Int32.reduceLT, Int32.reduceLE, Int32.reduceToNatClampNeg, Nat.reduceMod, Nat.reduceLT, List.length_cons, List.length_nil, eq_self, true_or, or_true, and_self, implies_true, not_true_eq_false, not_false_eq_true, false_implies, true_implies, forall_const, st_aloadx, st_iconstx, st_in2, st_ireturnx, jx_Slips_propose_22, kb_Slips_propose_22, oo_23, oa_23]
    exact K F' J V c Vz.rf m
  rw [show (aD A).2.2.1 = true from ea, Bool.true_and] at K
  by_cases z0 : (aB A).1 = 0
  · rw [decide_eq_true z0, Bool.not_true, if_neg Bool.false_ne_true] at K
    rw [z0] at d6
    simp only [isO_c, ax0, ex_cons, am_get, upz_at, true_and, and_true, Nat.reduceAdd, Nat.reduceLeDiff, Nat.reduceEqDiff, Nat.reduceSub, Int32.reduceOfInt, Int32.reduceAdd, Int32.reduceMul, Int32.reduceSub, ↓reduceIte, Int32.reduceLT, Int32.reduceLE, Int32.reduceToNatClampNeg, Nat.reduceMod, Nat.reduceLT, List.length_cons, List.length_nil, eq_self, true_or, or_true, and_self, implies_true, not_true_eq_false, not_false_eq_true, false_implies, true_implies, forall_const, st_aloadx, st_astorex, st_astore_1x, st_getfieldx, st_goto_wx, st_iconstx, st_ifCondx, st_ifnullx, st_ifnull_1x, st_in2, st_ireturnx, am_put, am_nlg, kb_Slips_propose_0, og_23_1, og_34_2, og_34_6, jx_Slips_propose_22, kb_Slips_propose_22, oo_23, oa_23, oa_34, cx_Slips_propose, ev, d6, show nI 0 = (0 : Int32) from rfl]
    refine c_refuse hA (j := 2) (Or.inr (Or.inr (Or.inl ⟨rfl, rfl⟩))) (fun F' c m => ?_)
    simp only [isO_c, ax0, ex_cons, am_get, upz_at, true_and, and_true, Nat.reduceAdd, Nat.reduceLeDiff, Nat.reduceEqDiff, Nat.reduceSub, Int32.reduceOfInt, Int32.reduceAdd, Int32.reduceMul, Int32.reduceSub, ↓reduceIte, Int32.reduceLT, Int32.reduceLE, Int32.reduceToNatClampNeg, Nat.reduceMod, Nat.reduceLT, List.length_cons, List.length_nil, eq_self, true_or, or_true, and_self, implies_true, not_true_eq_false, not_false_eq_true, false_implies, true_implies, forall_const, st_aloadx, st_iconstx, st_in2, st_ireturnx, jx_Slips_propose_22, kb_Slips_propose_22, oo_23, oa_23]
    exact K F' J V c Vz.rf m
  rw [decide_eq_false z0, Bool.not_false, if_pos rfl] at K
  have z0' : ¬ nI (aB A).1 = 0 := fun e => z0 (by
    have := congrArg Int32.toInt e
    rw [nk_toInt (by omega), Int32.toInt_zero] at this
    omega)
  have z0'' : ¬ nI A.1.2.1 = 0 := z0'
  by_cases z1 : (aB A).1 = 12
  · rw [if_pos z1] at K
    rw [z1] at d6
    simp only [isO_c, ax0, ex_cons, am_get, upz_at, true_and, and_true, Nat.reduceAdd, Nat.reduceLeDiff, Nat.reduceEqDiff, Nat.reduceSub, Int32.reduceOfInt, Int32.reduceAdd, Int32.reduceMul, Int32.reduceSub, ↓reduceIte, Int32.reduceLT, Int32.reduceLE, Int32.reduceToNatClampNeg, Nat.reduceMod, Nat.reduceLT, List.length_cons, List.length_nil, eq_self, true_or, or_true, and_self, implies_true, not_true_eq_false, not_false_eq_true, false_implies, true_implies, forall_const, st_aloadx, st_astorex, st_astore_1x, st_getfieldx, st_goto_wx, st_iconstx, st_ifCondx, st_if_icmpx, st_ifnullx, st_ifnull_1x, st_in2, st_ireturnx, am_put, am_nlg, kb_Slips_propose_0, og_23_1, og_34_2, og_34_6, jx_Slips_propose_22, kb_Slips_propose_22, oo_23, jx_Slips_propose_29, kb_Slips_propose_29, oa_23, oa_34, cx_Slips_propose, ev, d6, show nI 12 = (12 : Int32) from rfl]
    refine ⟨fun _ => ?_, fun q => absurd (by decide) q⟩
    refine c_refuse hA (j := 3) (Or.inr (Or.inr (Or.inr (Or.inl ⟨rfl, rfl⟩)))) (fun F' c m => ?_)
    simp only [isO_c, ax0, ex_cons, am_get, upz_at, true_and, and_true, Nat.reduceAdd, Nat.reduceLeDiff, Nat.reduceEqDiff, Nat.reduceSub, Int32.reduceOfInt, Int32.reduceAdd, Int32.reduceMul, Int32.reduceSub, ↓reduceIte, Int32.reduceLT, Int32.reduceLE, Int32.reduceToNatClampNeg, Nat.reduceMod, Nat.reduceLT, List.length_cons, List.length_nil, eq_self, true_or, or_true, and_self, implies_true, not_true_eq_false, not_false_eq_true, false_implies, true_implies, forall_const, st_aloadx, st_getfieldx, st_iconstx, st_if_icmpx, st_in2, st_ireturnx, jx_Slips_propose_29, kb_Slips_propose_29, og_23_1, og_34_6, oo_23, oa_23, oa_34]
    exact K F' J V c Vz.rf m
  rw [if_neg z1] at K
  have hn : (aB A).1 < 12 := by omega
  simp only [isO_c, ax0, ex_cons, am_get, upz_at, true_and, and_true, Nat.reduceAdd, Nat.reduceLeDiff, Nat.reduceEqDiff, Nat.reduceSub, Int32.reduceOfInt, Int32.reduceAdd, Int32.reduceMul, Int32.reduceSub, ↓reduceIte, Int32.reduceLT, Int32.reduceLE, Int32.reduceToNatClampNeg, Nat.reduceMod, Nat.reduceLT, List.length_cons, List.length_nil, eq_self, true_or, or_true, and_self, implies_true, not_true_eq_false, not_false_eq_true, false_implies, true_implies, forall_const, st_aloadx, st_astorex, st_astore_1x, st_getfieldx, st_goto_wx, st_iconstx, st_ifCondx, st_if_icmpx, st_ifnullx, st_ifnull_1x, st_in1, st_in2, st_in3, st_ireturnx, am_put, am_nlg, kb_Slips_propose_0, og_23_1, og_34_2, og_34_6, jx_Slips_propose_29, kb_Slips_propose_29, oo_23, jx_Slips_propose_48, kb_Slips_propose_48, og_23_3, oo_47, oo_34, oa_23, oa_34, oa_47, cx_Slips_propose, ev, d6, z0', z0'', show ((12 : Int32) ≤ nI ((aB A).1)) = (12 ≤ (aB A).1) from nk_le (a := 12) (b := (aB A).1) (by omega) (by omega), show ¬ 12 ≤ (aB A).1 by omega]
  refine ⟨fun _ => ?_, fun q => absurd (show nI (aB A).1 < 12 by rw [Int32.lt_iff_toInt_lt, nk_toInt (by omega), show (12 : Int32).toInt = 12 by decide]; omega) q⟩
  refine c_assumeBound hA.1 (fun F1 J1 P t1 q1 => ?_)
  have cf1 := q1.cf (Or.inl rfl)
  have hA1 := hA.cf cf1
  simp only [isO_c, ax0, ex_cons, am_get, upz_at, true_and, and_true, Nat.reduceAdd, Nat.reduceLeDiff, Nat.reduceEqDiff, Nat.reduceSub, Int32.reduceOfInt, Int32.reduceAdd, Int32.reduceMul, Int32.reduceSub, ↓reduceIte, Int32.reduceLT, Int32.reduceLE, Int32.reduceToNatClampNeg, Nat.reduceMod, Nat.reduceLT, List.length_cons, List.length_nil, eq_self, true_or, or_true, and_self, implies_true, not_true_eq_false, not_false_eq_true, false_implies, true_implies, forall_const, st_aloadx, st_getfieldx, st_iconstx, st_ifCondx, st_in1, st_in2, st_in3, st_ireturnx, jx_Slips_propose_48, kb_Slips_propose_48, oo_23, og_23_3, oo_47, og_23_1, oo_34, oa_23, oa_34, oa_47]
  refine c_canFail (Or.inl rfl) hb t1 hs.cl (clR_ok _) (ex := false) ?_
  have ef : fo (bzT A.1.2.2 A.1.2.1) (clR (A.1.1.2.1 12)) false = fo (bzT (aB A).2 (aB A).1) (csD (aD A) 12) false := rfl
  rw [ef]
  cases z : fo (bzT (aB A).2 (aB A).1) (csD (aD A) 12) false
  · rw [z, if_neg Bool.false_ne_true] at K
    simp only [isO_c, ax0, ex_cons, am_get, upz_at, true_and, and_true, Nat.reduceAdd, Nat.reduceLeDiff, Nat.reduceEqDiff, Nat.reduceSub, Int32.reduceOfInt, Int32.reduceAdd, Int32.reduceMul, Int32.reduceSub, ↓reduceIte, Int32.reduceLT, Int32.reduceLE, Int32.reduceToNatClampNeg, Nat.reduceMod, Nat.reduceLT, List.length_cons, List.length_nil, eq_self, true_or, or_true, and_self, implies_true, not_true_eq_false, not_false_eq_true, false_implies, true_implies, forall_const, st_aloadx, st_getfieldx, st_iconstx, st_ifCondx, st_in1, st_in2, st_in3, st_ireturnx, jx_Slips_propose_48, kb_Slips_propose_48, oo_23, og_23_3, oo_47, og_23_1, oo_34, jx_Slips_propose_79, kb_Slips_propose_79, oa_23, oa_34, oa_47, Bool.not_false, show b2i true = (1 : Int32) from rfl]
    refine c_canHold (Or.inl rfl) hb t1 hs.cl (clR_ok _) (ex := false) ?_
    have ez : chZ (bzT A.1.2.2 A.1.2.1) (clR (A.1.1.2.1 12)) false = !qz (tellz (bzT (aB A).2 (aB A).1) (csD (aD A) 12) false) (fun _ => false) := rfl
    rw [ez]
    cases y : qz (tellz (bzT (aB A).2 (aB A).1) (csD (aD A) 12) false) (fun _ => false)
    · rw [y, if_neg Bool.false_ne_true] at K
      simp only [isO_c, ax0, ex_cons, am_get, upz_at, true_and, and_true, Nat.reduceAdd, Nat.reduceLeDiff, Nat.reduceEqDiff, Nat.reduceSub, Int32.reduceOfInt, Int32.reduceAdd, Int32.reduceMul, Int32.reduceSub, ↓reduceIte, Int32.reduceLT, Int32.reduceLE, Int32.reduceToNatClampNeg, Nat.reduceMod, Nat.reduceLT, List.length_cons, List.length_nil, eq_self, true_or, or_true, and_self, implies_true, not_true_eq_false, not_false_eq_true, false_implies, true_implies, forall_const, st_aloadx, st_getfieldx, st_iconstx, st_ifCondx, st_in2, st_in3, st_ireturnx, jx_Slips_propose_79, kb_Slips_propose_79, og_23_3, oo_47, og_23_1, oo_34, oo_23, jx_Slips_propose_106, kb_Slips_propose_106, oa_23, oa_34, oa_47, Bool.not_false, show b2i true = (1 : Int32) from rfl]
      refine c_grant hA1 (fun F3 c3 m3 => ?_)
      simp only [isO_c, ax0, ex_cons, am_get, upz_at, true_and, and_true, Nat.reduceAdd, Nat.reduceLeDiff, Nat.reduceEqDiff, Nat.reduceSub, Int32.reduceOfInt, Int32.reduceAdd, Int32.reduceMul, Int32.reduceSub, ↓reduceIte, Int32.reduceLT, Int32.reduceLE, Int32.reduceToNatClampNeg, Nat.reduceMod, Nat.reduceLT, List.length_cons, List.length_nil, eq_self, true_or, or_true, and_self, implies_true, not_true_eq_false, not_false_eq_true, false_implies, true_implies, forall_const, st_aloadx, st_iconstx, st_in2, st_ireturnx, jx_Slips_propose_106, kb_Slips_propose_106, oo_23, oa_23]
      exact K F3 J1 V (cf1.cx.tr c3) Vz.rf m3
    · rw [y, if_pos rfl] at K
      simp only [isO_c, ax0, ex_cons, am_get, upz_at, true_and, and_true, Nat.reduceAdd, Nat.reduceLeDiff, Nat.reduceEqDiff, Nat.reduceSub, Int32.reduceOfInt, Int32.reduceAdd, Int32.reduceMul, Int32.reduceSub, ↓reduceIte, Int32.reduceLT, Int32.reduceLE, Int32.reduceToNatClampNeg, Nat.reduceMod, Nat.reduceLT, List.length_cons, List.length_nil, eq_self, true_or, or_true, and_self, implies_true, not_true_eq_false, not_false_eq_true, false_implies, true_implies, forall_const, st_aloadx, st_getfieldx, st_iconstx, st_ifCondx, st_in2, st_in3, st_ireturnx, jx_Slips_propose_79, kb_Slips_propose_79, og_23_3, oo_47, og_23_1, oo_34, oo_23, oa_23, oa_34, oa_47, Bool.not_true, show b2i false = (0 : Int32) from rfl]
      refine c_bind (so := false) (n := (aB A).1) hA1.1 rfl hn hs (fun F2 V2 o2 v2 dk2 => ?_)
      simp only [isO_c, ax0, ex_cons, am_get, upz_at, true_and, and_true, Nat.reduceAdd, Nat.reduceLeDiff, Nat.reduceEqDiff, Nat.reduceSub, Int32.reduceOfInt, Int32.reduceAdd, Int32.reduceMul, Int32.reduceSub, ↓reduceIte, Int32.reduceLT, Int32.reduceLE, Int32.reduceToNatClampNeg, Nat.reduceMod, Nat.reduceLT, List.length_cons, List.length_nil, eq_self, true_or, or_true, and_self, implies_true, not_true_eq_false, not_false_eq_true, false_implies, true_implies, forall_const, st_aloadx, st_getfieldx, st_iconstx, st_ifCondx, st_in2, st_in3, st_ireturnx, jx_Slips_propose_79, kb_Slips_propose_79, og_23_3, oo_47, og_23_1, oo_34, oo_23, oa_23, oa_34, oa_47]
      refine c_grant (hA1.dk dk2 (fun a q => o2 a (by omega) (by omega)) (fun a q => v2 a (by omega))) (fun F3 c3 m3 => ?_)
      simp only [isO_c, ax0, ex_cons, am_get, upz_at, true_and, and_true, Nat.reduceAdd, Nat.reduceLeDiff, Nat.reduceEqDiff, Nat.reduceSub, Int32.reduceOfInt, Int32.reduceAdd, Int32.reduceMul, Int32.reduceSub, ↓reduceIte, Int32.reduceLT, Int32.reduceLE, Int32.reduceToNatClampNeg, Nat.reduceMod, Nat.reduceLT, List.length_cons, List.length_nil, eq_self, true_or, or_true, and_self, implies_true, not_true_eq_false, not_false_eq_true, false_implies, true_implies, forall_const, st_aloadx, st_getfieldx, st_iconstx, st_ifCondx, st_in2, st_in3, st_ireturnx, jx_Slips_propose_79, kb_Slips_propose_79, og_23_3, oo_47, og_23_1, oo_34, oo_23, oa_23, oa_34, oa_47]
      exact K F3 J1 V2 (Cx.tr (Cx.tr cf1.cx (Cx.kp (fun a q _ _ => o2 a (by omega) (by omega)))) c3) (fun a q => v2 a (by omega)) m3
  · rw [z, if_pos rfl] at K
    simp only [isO_c, ax0, ex_cons, am_get, upz_at, true_and, and_true, Nat.reduceAdd, Nat.reduceLeDiff, Nat.reduceEqDiff, Nat.reduceSub, Int32.reduceOfInt, Int32.reduceAdd, Int32.reduceMul, Int32.reduceSub, ↓reduceIte, Int32.reduceLT, Int32.reduceLE, Int32.reduceToNatClampNeg, Nat.reduceMod, Nat.reduceLT, List.length_cons, List.length_nil, eq_self, true_or, or_true, and_self, implies_true, not_true_eq_false, not_false_eq_true, false_implies, true_implies, forall_const, st_aloadx, st_getfieldx, st_iconstx, st_ifCondx, st_in1, st_in2, st_in3, st_ireturnx, jx_Slips_propose_48, kb_Slips_propose_48, oo_23, og_23_3, oo_47, og_23_1, oo_34, oa_23, oa_34, oa_47, Bool.not_true, show b2i false = (0 : Int32) from rfl]
    refine c_bind (so := true) (n := (aB A).1) hA1.1 rfl hn hs (fun F2 V2 o2 v2 dk2 => ?_)
    simp only [isO_c, ax0, ex_cons, am_get, upz_at, true_and, and_true, Nat.reduceAdd, Nat.reduceLeDiff, Nat.reduceEqDiff, Nat.reduceSub, Int32.reduceOfInt, Int32.reduceAdd, Int32.reduceMul, Int32.reduceSub, ↓reduceIte, Int32.reduceLT, Int32.reduceLE, Int32.reduceToNatClampNeg, Nat.reduceMod, Nat.reduceLT, List.length_cons, List.length_nil, eq_self, true_or, or_true, and_self, implies_true, not_true_eq_false, not_false_eq_true, false_implies, true_implies, forall_const, st_aloadx, st_getfieldx, st_iconstx, st_ifCondx, st_in1, st_in2, st_in3, st_ireturnx, jx_Slips_propose_48, kb_Slips_propose_48, oo_23, og_23_3, oo_47, og_23_1, oo_34, oa_23, oa_34, oa_47]
    refine c_grant (hA1.dk dk2 (fun a q => o2 a (by omega) (by omega)) (fun a q => v2 a (by omega))) (fun F3 c3 m3 => ?_)
    simp only [isO_c, ax0, ex_cons, am_get, upz_at, true_and, and_true, Nat.reduceAdd, Nat.reduceLeDiff, Nat.reduceEqDiff, Nat.reduceSub, Int32.reduceOfInt, Int32.reduceAdd, Int32.reduceMul, Int32.reduceSub, ↓reduceIte, Int32.reduceLT, Int32.reduceLE, Int32.reduceToNatClampNeg, Nat.reduceMod, Nat.reduceLT, List.length_cons, List.length_nil, eq_self, true_or, or_true, and_self, implies_true, not_true_eq_false, not_false_eq_true, false_implies, true_implies, forall_const, st_aloadx, st_getfieldx, st_iconstx, st_ifCondx, st_in1, st_in2, st_in3, st_ireturnx, jx_Slips_propose_48, kb_Slips_propose_48, oo_23, og_23_3, oo_47, og_23_1, oo_34, oa_23, oa_34, oa_47]
    exact K F3 J1 V2 (Cx.tr (Cx.tr cf1.cx (Cx.kp (fun a q _ _ => o2 a (by omega) (by omega)))) c3) (fun a q => v2 a (by omega)) m3
end CPR
