/-! ===== the class: back ===== -/
def xBb (A : aT) (x : Int32) : Bool := lieB x 0 1 && (A.2.1 x.toNatClampNeg).isSome
section CBK
variable {d : Nat} {h : am_H} {F : Nat → Nat → Int32} {J : Nat → Nat → Int64} {V : Nat → Nat → Value} {Q : am_Q}
set_option maxRecDepth 20000 in
theorem co_back {A : aT} (hA : CB h F V A) {x : Int32} (K : ∀ F' V', Cx (xBb A x) false F F' → Vz V V' → CB h F' V' (xBack A x).1 → Q (some (.int (xBack A x).2)) (ov h F' J V')) : am_cl (d + 2) 60 [.ref 23, .int x] (ov h F J V) Q := by
  unfold xBack xBb at K
  by_cases e0 : x = 0
  · subst e0
    rw [show lieB 0 0 1 = true from rfl, if_pos rfl, show Int32.toNatClampNeg 0 = 0 from rfl, Bool.true_and] at K
    obtain ⟨v0, f7, dk⟩ := hA.2.1 0 (by decide)
    have v0 : V 38 0 = .ref 39 := v0
    have f7 : F 39 7 = b2i (A.2.1 0).isSome := f7
    cases eX : A.2.1 0 with
    | none =>
      rw [eX] at K f7
      have f7 : F 39 7 = 0 := f7
      simp only [isO_c, ax0, ex_cons, am_get, upz_at, true_and, and_true, Nat.reduceAdd, Nat.reduceLeDiff, Nat.reduceEqDiff, Nat.reduceSub, Int32.reduceOfInt, Int32.reduceAdd, Int32.reduceMul, Int32.reduceSub, ↓reduceIte, Int32.reduceLT, Int32.reduceLE, Int32.reduceToNatClampNeg, Nat.reduceMod, Nat.reduceLT, List.length_cons, List.length_nil, eq_self, true_or, or_true, and_self, implies_true, not_true_eq_false, not_false_eq_true, false_implies, true_implies, forall_const, st_aaloadx, st_aloadx, st_getfieldx, st_goto_wx, st_iconstx, st_ifCondx, st_if_icmpx, st_iloadx, st_in2, st_ireturnx, kb_Slips_back_0, jx_Slips_back_15, kb_Slips_back_15, og_23_2, og_34_7, og_39_7, oo_23, oa_23, oa_34, oa_39, oa_38, or_38, cx_Slips_back, oa_38, or_38, v0, f7]
      refine c_refuse hA (j := 1) (Or.inr (Or.inl ⟨rfl, rfl⟩)) (fun F' c m => ?_)
      simp only [isO_c, ax0, ex_cons, am_get, upz_at, true_and, and_true, Nat.reduceAdd, Nat.reduceLeDiff, Nat.reduceEqDiff, Nat.reduceSub, Int32.reduceOfInt, Int32.reduceAdd, Int32.reduceMul, Int32.reduceSub, ↓reduceIte, Int32.reduceLT, Int32.reduceLE, Int32.reduceToNatClampNeg, Nat.reduceMod, Nat.reduceLT, List.length_cons, List.length_nil, eq_self, true_or, or_true, and_self, implies_true, not_true_eq_false, not_false_eq_true, false_implies, true_implies, forall_const, st_aaloadx, st_aloadx, st_getfieldx, st_iconstx, st_ifCondx, st_iloadx, st_in2, st_ireturnx, jx_Slips_back_15, kb_Slips_back_15, og_23_2, og_34_7, og_39_7, oo_23, oa_23, oa_34, oa_39, oa_38, or_38]
      exact K F' V c Vz.rf m
    | some X =>
      rw [eX] at K f7
      have f7 : F 39 7 = 1 := f7
      have dk : DK h F V 39 X := dk X eX
      simp only [isO_c, ax0, ex_cons, am_get, upz_at, true_and, and_true, Nat.reduceAdd, Nat.reduceLeDiff, Nat.reduceEqDiff, Nat.reduceSub, Int32.reduceOfInt, Int32.reduceAdd, Int32.reduceMul, Int32.reduceSub, ↓reduceIte, Int32.reduceLT, Int32.reduceLE, Int32.reduceToNatClampNeg, Nat.reduceMod, Nat.reduceLT, List.length_cons, List.length_nil, eq_self, true_or, or_true, and_self, implies_true, not_true_eq_false, not_false_eq_true, false_implies, true_implies, forall_const, st_aaloadx, st_aloadx, st_getfieldx, st_goto_wx, st_iconstx, st_ifCondx, st_if_icmpx, st_iloadx, st_in1, st_in2, st_ireturnx, kb_Slips_back_0, jx_Slips_back_15, kb_Slips_back_15, og_23_2, og_34_7, og_39_7, oo_23, jx_Slips_back_34, kb_Slips_back_34, og_23_1, oo_34, oo_39, oa_23, oa_34, oa_39, oa_38, or_38, cx_Slips_back, oa_38, or_38, v0, f7]
      refine c_copy_34_39 dk (fun F1 V1 o v _ dk1 => ?_)
      simp only [isO_c, ax0, ex_cons, am_get, upz_at, true_and, and_true, Nat.reduceAdd, Nat.reduceLeDiff, Nat.reduceEqDiff, Nat.reduceSub, Int32.reduceOfInt, Int32.reduceAdd, Int32.reduceMul, Int32.reduceSub, ↓reduceIte, Int32.reduceLT, Int32.reduceLE, Int32.reduceToNatClampNeg, Nat.reduceMod, Nat.reduceLT, List.length_cons, List.length_nil, eq_self, true_or, or_true, and_self, implies_true, not_true_eq_false, not_false_eq_true, false_implies, true_implies, forall_const, st_aaloadx, st_aloadx, st_getfieldx, st_iconstx, st_iloadx, st_in1, st_in2, st_ireturnx, jx_Slips_back_34, kb_Slips_back_34, og_23_1, og_23_2, oo_34, oo_39, oo_23, oa_23, oa_34, oa_39, oa_38, or_38]
      refine c_forget (hA.dk dk1 (fun a q => o a (by omega) (by omega)) (fun a q => v a (by omega) (by omega) (by omega))) (fun F2 c m => ?_)
      simp only [isO_c, ax0, ex_cons, am_get, upz_at, true_and, and_true, Nat.reduceAdd, Nat.reduceLeDiff, Nat.reduceEqDiff, Nat.reduceSub, Int32.reduceOfInt, Int32.reduceAdd, Int32.reduceMul, Int32.reduceSub, ↓reduceIte, Int32.reduceLT, Int32.reduceLE, Int32.reduceToNatClampNeg, Nat.reduceMod, Nat.reduceLT, List.length_cons, List.length_nil, eq_self, true_or, or_true, and_self, implies_true, not_true_eq_false, not_false_eq_true, false_implies, true_implies, forall_const, st_aaloadx, st_aloadx, st_getfieldx, st_iconstx, st_iloadx, st_in1, st_in2, st_ireturnx, jx_Slips_back_34, kb_Slips_back_34, og_23_1, og_23_2, oo_34, oo_39, oo_23, oa_23, oa_34, oa_39, oa_38, or_38]
      refine c_grant m (fun F3 c3 m3 => ?_)
      simp only [isO_c, ax0, ex_cons, am_get, upz_at, true_and, and_true, Nat.reduceAdd, Nat.reduceLeDiff, Nat.reduceEqDiff, Nat.reduceSub, Int32.reduceOfInt, Int32.reduceAdd, Int32.reduceMul, Int32.reduceSub, ↓reduceIte, Int32.reduceLT, Int32.reduceLE, Int32.reduceToNatClampNeg, Nat.reduceMod, Nat.reduceLT, List.length_cons, List.length_nil, eq_self, true_or, or_true, and_self, implies_true, not_true_eq_false, not_false_eq_true, false_implies, true_implies, forall_const, st_aaloadx, st_aloadx, st_getfieldx, st_iconstx, st_iloadx, st_in1, st_in2, st_ireturnx, jx_Slips_back_34, kb_Slips_back_34, og_23_1, og_23_2, oo_34, oo_39, oo_23, oa_23, oa_34, oa_39, oa_38, or_38]
      exact K F3 V1 ((Cx.tr (Cx.kp (fun a q _ _ => o a (by omega) (by omega))) c).tr c3) (fun a q => v a (by omega) (by omega) (by omega)) m3
  by_cases e1 : x = 1
  · subst e1
    rw [show lieB 1 0 1 = true from rfl, if_pos rfl, show Int32.toNatClampNeg 1 = 1 from rfl, Bool.true_and] at K
    obtain ⟨v0, f7, dk⟩ := hA.2.1 1 (by decide)
    have v0 : V 38 1 = .ref 43 := v0
    have f7 : F 43 7 = b2i (A.2.1 1).isSome := f7
    cases eX : A.2.1 1 with
    | none =>
      rw [eX] at K f7
      have f7 : F 43 7 = 0 := f7
      simp only [isO_c, ax0, ex_cons, am_get, upz_at, true_and, and_true, Nat.reduceAdd, Nat.reduceLeDiff, Nat.reduceEqDiff, Nat.reduceSub, Int32.reduceOfInt, Int32.reduceAdd, Int32.reduceMul, Int32.reduceSub, ↓reduceIte, Int32.reduceLT, Int32.reduceLE, Int32.reduceToNatClampNeg, Nat.reduceMod, Nat.reduceLT, List.length_cons, List.length_nil, eq_self, true_or, or_true, and_self, implies_true, not_true_eq_false, not_false_eq_true, false_implies, true_implies, forall_const, st_aaloadx, st_aloadx, st_getfieldx, st_goto_wx, st_iconstx, st_ifCondx, st_if_icmpx, st_iloadx, st_in2, st_ireturnx, kb_Slips_back_0, jx_Slips_back_15, kb_Slips_back_15, og_23_2, og_34_7, og_43_7, oo_23, oa_23, oa_34, oa_43, oa_38, or_38, cx_Slips_back, oa_38, or_38, v0, f7]
      refine c_refuse hA (j := 1) (Or.inr (Or.inl ⟨rfl, rfl⟩)) (fun F' c m => ?_)
      simp only [isO_c, ax0, ex_cons, am_get, upz_at, true_and, and_true, Nat.reduceAdd, Nat.reduceLeDiff, Nat.reduceEqDiff, Nat.reduceSub, Int32.reduceOfInt, Int32.reduceAdd, Int32.reduceMul, Int32.reduceSub, ↓reduceIte, Int32.reduceLT, Int32.reduceLE, Int32.reduceToNatClampNeg, Nat.reduceMod, Nat.reduceLT, List.length_cons, List.length_nil, eq_self, true_or, or_true, and_self, implies_true, not_true_eq_false, not_false_eq_true, false_implies, true_implies, forall_const, st_aaloadx, st_aloadx, st_getfieldx, st_iconstx, st_ifCondx, st_iloadx, st_in2, st_ireturnx, jx_Slips_back_15, kb_Slips_back_15, og_23_2, og_34_7, og_43_7, oo_23, oa_23, oa_34, oa_43, oa_38, or_38]
      exact K F' V c Vz.rf m
    | some X =>
      rw [eX] at K f7
      have f7 : F 43 7 = 1 := f7
      have dk : DK h F V 43 X := dk X eX
      simp only [isO_c, ax0, ex_cons, am_get, upz_at, true_and, and_true, Nat.reduceAdd, Nat.reduceLeDiff, Nat.reduceEqDiff, Nat.reduceSub, Int32.reduceOfInt, Int32.reduceAdd, Int32.reduceMul, Int32.reduceSub, ↓reduceIte, Int32.reduceLT, Int32.reduceLE, Int32.reduceToNatClampNeg, Nat.reduceMod, Nat.reduceLT, List.length_cons, List.length_nil, eq_self, true_or, or_true, and_self, implies_true, not_true_eq_false, not_false_eq_true, false_implies, true_implies, forall_const, st_aaloadx, st_aloadx, st_getfieldx, st_goto_wx, st_iconstx, st_ifCondx, st_if_icmpx, st_iloadx, st_in1, st_in2, st_ireturnx, kb_Slips_back_0, jx_Slips_back_15, kb_Slips_back_15, og_23_2, og_34_7, og_43_7, oo_23, jx_Slips_back_34, kb_Slips_back_34, og_23_1, oo_34, oo_43, oa_23, oa_34, oa_43, oa_38, or_38, cx_Slips_back, oa_38, or_38, v0, f7]
      refine c_copy_34_43 dk (fun F1 V1 o v _ dk1 => ?_)
      simp only [isO_c, ax0, ex_cons, am_get, upz_at, true_and, and_true, Nat.reduceAdd, Nat.reduceLeDiff, Nat.reduceEqDiff, Nat.reduceSub, Int32.reduceOfInt, Int32.reduceAdd, Int32.reduceMul, Int32.reduceSub, ↓reduceIte, Int32.reduceLT, Int32.reduceLE, Int32.reduceToNatClampNeg, Nat.reduceMod, Nat.reduceLT, List.length_cons, List.length_nil, eq_self, true_or, or_true, and_self, implies_true, not_true_eq_false, not_false_eq_true, false_implies, true_implies, forall_const, st_aaloadx, st_aloadx, st_getfieldx, st_iconstx, st_iloadx, st_in1, st_in2, st_ireturnx, jx_Slips_back_34, kb_Slips_back_34, og_23_1, og_23_2, oo_34, oo_43, oo_23, oa_23, oa_34, oa_43, oa_38, or_38]
      refine c_forget (hA.dk dk1 (fun a q => o a (by omega) (by omega)) (fun a q => v a (by omega) (by omega) (by omega))) (fun F2 c m => ?_)
      simp only [isO_c, ax0, ex_cons, am_get, upz_at, true_and, and_true, Nat.reduceAdd, Nat.reduceLeDiff, Nat.reduceEqDiff, Nat.reduceSub, Int32.reduceOfInt, Int32.reduceAdd, Int32.reduceMul, Int32.reduceSub, ↓reduceIte, Int32.reduceLT, Int32.reduceLE, Int32.reduceToNatClampNeg, Nat.reduceMod, Nat.reduceLT, List.length_cons, List.length_nil, eq_self, true_or, or_true, and_self, implies_true, not_true_eq_false, not_false_eq_true, false_implies, true_implies, forall_const, st_aaloadx, st_aloadx, st_getfieldx, st_iconstx, st_iloadx, st_in1, st_in2, st_ireturnx, jx_Slips_back_34, kb_Slips_back_34, og_23_1, og_23_2, oo_34, oo_43, oo_23, oa_23, oa_34, oa_43, oa_38, or_38]
      refine c_grant m (fun F3 c3 m3 => ?_)
      simp only [isO_c, ax0, ex_cons, am_get, upz_at, true_and, and_true, Nat.reduceAdd, Nat.reduceLeDiff, Nat.reduceEqDiff, Nat.reduceSub, Int32.reduceOfInt, Int32.reduceAdd, Int32.reduceMul, Int32.reduceSub, ↓reduceIte, Int32.reduceLT, Int32.reduceLE, Int32.reduceToNatClampNeg, Nat.reduceMod, Nat.reduceLT, List.length_cons, List.length_nil, eq_self, true_or, or_true, and_self, implies_true, not_true_eq_false, not_false_eq_true, false_implies, true_implies, forall_const, st_aaloadx, st_aloadx, st_getfieldx, st_iconstx, st_iloadx, st_in1, st_in2, st_ireturnx, jx_Slips_back_34, kb_Slips_back_34, og_23_1, og_23_2, oo_34, oo_43, oo_23, oa_23, oa_34, oa_43, oa_38, or_38]
      exact K F3 V1 ((Cx.tr (Cx.kp (fun a q _ _ => o a (by omega) (by omega))) c).tr c3) (fun a q => v a (by omega) (by omega) (by omega)) m3
  have e : lieB x 0 1 = false := by
    cases z : lieB x 0 1
    · rfl
    · rcases lie1 z with q | q
      · exact absurd q e0
      · exact absurd q e1
  rw [e, if_neg Bool.false_ne_true] at K
  have nb : ¬ (¬ x < 0 ∧ x < 2) := fun q => by
    unfold lieB at e
    rw [decide_eq_false q.1, decide_eq_false (show ¬ (1 : Int32) < x from fun z => absurd (show (2 : Int32) ≤ x by rw [show (2 : Int32) = nI (1 + 1) from rfl, lt_le 1 (by decide)]; exact z) (Int32.not_le.mpr q.2))] at e
    cases e
  have rf : am_cl (d + 1) 64 [.ref 23, .int (-1)] (ov h F J V) (fun r h1 => am_kk (am_ex (am_cl (d + 1)) (am_W kc_Slips_back (am_cl (d + 1)) Q) Q [(Instr.ireturn, 0)]) [.ref 23, .int x] r [] h1) := by
    refine c_refuse hA (j := 0) (Or.inl ⟨rfl, rfl⟩) (fun F' c m => ?_)
    simp only [isO_c, ax0, ex_cons, am_get, upz_at, true_and, and_true, Nat.reduceAdd, Nat.reduceLeDiff, Nat.reduceEqDiff, Nat.reduceSub, Int32.reduceOfInt, Int32.reduceAdd, Int32.reduceMul, Int32.reduceSub, ↓reduceIte, Int32.reduceLT, Int32.reduceLE, Int32.reduceToNatClampNeg, Nat.reduceMod, Nat.reduceLT, List.length_cons, List.length_nil, eq_self, true_or, or_true, and_self, implies_true, not_true_eq_false, not_false_eq_true, false_implies, true_implies, forall_const, st_aloadx, st_iconstx, st_in2, st_ireturnx, jx_Slips_back_9, kb_Slips_back_9, oo_23, oa_23]
    exact K F' V c Vz.rf m
  simp only [isO_c, ax0, ex_cons, am_get, upz_at, true_and, and_true, Nat.reduceAdd, Nat.reduceLeDiff, Nat.reduceEqDiff, Nat.reduceSub, Int32.reduceOfInt, Int32.reduceAdd, Int32.reduceMul, Int32.reduceSub, ↓reduceIte, Int32.reduceLT, Int32.reduceLE, Int32.reduceToNatClampNeg, Nat.reduceMod, Nat.reduceLT, List.length_cons, List.length_nil, eq_self, true_or, or_true, and_self, implies_true, not_true_eq_false, not_false_eq_true, false_implies, true_implies, forall_const, st_aloadx, st_goto_wx, st_iconstx, st_ifCondx, st_if_icmpx, st_iloadx, st_in2, st_ireturnx, kb_Slips_back_0, jx_Slips_back_9, kb_Slips_back_9, oo_23, oa_23, cx_Slips_back]
  exact ⟨fun _ => rf, fun q => ⟨fun r => absurd ⟨q, r⟩ nb, fun _ => rf⟩⟩
end CBK
