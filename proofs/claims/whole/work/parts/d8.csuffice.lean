/-! ===== the class: suffices ===== -/
section CSU
variable {d : Nat} {h : am_H} {F : Nat → Nat → Int32} {J : Nat → Nat → Int64} {V : Nat → Nat → Value} {Q : am_Q}
set_option maxRecDepth 20000 in
theorem c_suffices (hb : HB h) {X : kT} (hD : DK h F V 34 X) {hp p : Nat} (hhp : hp < 2 ^ X.1.1) (hs : SR h p (X.1.2.1 12)) (K : ∀ F' J', Cf F F' → Q (some (.int (b2i (suP X.1 hp)))) (ov h F' J' V)) : am_cl (d + 5) 29 [.ref 23, .int (nI hp), .ref p] (ov h F J V) Q := by
  unfold suP at K
  simp only [isO_c, ax0, ex_cons, am_get, upz_at, true_and, and_true, Nat.reduceAdd, Nat.reduceLeDiff, Nat.reduceEqDiff, Nat.reduceSub, Int32.reduceOfInt, Int32.reduceAdd, Int32.reduceMul, Int32.reduceSub, ↓reduceIte, Int32.reduceLT, Int32.reduceLE, Int32.reduceToNatClampNeg, Nat.reduceMod, Nat.reduceLT, List.length_cons, List.length_nil, eq_self, true_or, or_true, and_self, implies_true, not_true_eq_false, not_false_eq_true, false_implies, true_implies, forall_const, st_aloadx, st_getfieldx, st_gotox, st_iconstx, st_ifCondx, st_iloadx, st_in1, st_in2, st_in3, kb_Slips_suffices_0, oo_23, og_23_3, oo_47, og_23_1, og_34_3, oa_23, oa_34, oa_47, cx_Slips_suffices]
  refine c_assume hD hhp (fun F1 J1 P t1 l1 q1 => ?_)
  have cf1 := q1.cf (Or.inl rfl)
  have K := K F1 J1 cf1
  have h343 : F1 34 3 = b2i X.1.2.2.2 := (hD.cf cf1).2.2.1
  simp only [isO_c, ax0, ex_cons, am_get, upz_at, true_and, and_true, Nat.reduceAdd, Nat.reduceLeDiff, Nat.reduceEqDiff, Nat.reduceSub, Int32.reduceOfInt, Int32.reduceAdd, Int32.reduceMul, Int32.reduceSub, ↓reduceIte, Int32.reduceLT, Int32.reduceLE, Int32.reduceToNatClampNeg, Nat.reduceMod, Nat.reduceLT, List.length_cons, List.length_nil, eq_self, true_or, or_true, and_self, implies_true, not_true_eq_false, not_false_eq_true, false_implies, true_implies, forall_const, st_aloadx, st_getfieldx, st_gotox, st_iconstx, st_ifCondx, st_iloadx, st_in1, st_in2, st_in3, kb_Slips_suffices_0, oo_23, og_23_3, oo_47, og_23_1, og_34_3, oa_23, oa_34, oa_47]
  refine c_fits (Or.inl rfl) hb t1 ?_
  unfold fw
  cases z : qz (hzD X.1 hp) (fun _ => false)
  · rw [z, Bool.not_false, Bool.true_and] at K
    simp only [isO_c, ax0, ex_cons, am_get, upz_at, true_and, and_true, Nat.reduceAdd, Nat.reduceLeDiff, Nat.reduceEqDiff, Nat.reduceSub, Int32.reduceOfInt, Int32.reduceAdd, Int32.reduceMul, Int32.reduceSub, ↓reduceIte, Int32.reduceLT, Int32.reduceLE, Int32.reduceToNatClampNeg, Nat.reduceMod, Nat.reduceLT, List.length_cons, List.length_nil, eq_self, true_or, or_true, and_self, implies_true, not_true_eq_false, not_false_eq_true, false_implies, true_implies, forall_const, st_aloadx, st_getfieldx, st_gotox, st_iconstx, st_ifCondx, st_iloadx, st_in1, st_in2, st_in3, kb_Slips_suffices_0, oo_23, og_23_3, oo_47, og_23_1, og_34_3, oa_23, oa_34, oa_47, h343, Bool.not_false, show b2i true = (1 : Int32) from rfl]
    refine c_canFail (Or.inl rfl) hb t1 hs.cl (clR_ok _) ?_
    cases y : fo (hzD X.1 hp) (csD X.1 12) X.1.2.2.2
    · rw [y] at K
      rw [show fo (hzD X.1 hp) (clR (X.1.2.1 12)) X.1.2.2.2 = false from y]
      simp only [isO_c, ax0, ex_cons, am_get, upz_at, true_and, and_true, Nat.reduceAdd, Nat.reduceLeDiff, Nat.reduceEqDiff, Nat.reduceSub, Int32.reduceOfInt, Int32.reduceAdd, Int32.reduceMul, Int32.reduceSub, ↓reduceIte, Int32.reduceLT, Int32.reduceLE, Int32.reduceToNatClampNeg, Nat.reduceMod, Nat.reduceLT, List.length_cons, List.length_nil, eq_self, true_or, or_true, and_self, implies_true, not_true_eq_false, not_false_eq_true, false_implies, true_implies, forall_const, st_aloadx, st_freturnx, st_getfieldx, st_gotox, st_goto_wx, st_iconstx, st_ifCondx, st_iloadx, st_in1, st_in2, st_in3, kb_Slips_suffices_0, oo_23, og_23_3, oo_47, og_23_1, og_34_3, jx_Slips_suffices_37, kb_Slips_suffices_37, jx_Slips_suffices_38, kb_Slips_suffices_38, oa_23, oa_34, oa_47, Bool.not_false, show b2i true = (1 : Int32) from rfl]
      exact K
    · rw [y] at K
      rw [show fo (hzD X.1 hp) (clR (X.1.2.1 12)) X.1.2.2.2 = true from y]
      simp only [isO_c, ax0, ex_cons, am_get, upz_at, true_and, and_true, Nat.reduceAdd, Nat.reduceLeDiff, Nat.reduceEqDiff, Nat.reduceSub, Int32.reduceOfInt, Int32.reduceAdd, Int32.reduceMul, Int32.reduceSub, ↓reduceIte, Int32.reduceLT, Int32.reduceLE, Int32.reduceToNatClampNeg, Nat.reduceMod, Nat.reduceLT, List.length_cons, List.length_nil, eq_self, true_or, or_true, and_self, implies_true, not_true_eq_false, not_false_eq_true, false_implies, true_implies, forall_const, st_aloadx, st_freturnx, st_getfieldx, st_gotox, st_goto_wx, st_iconstx, st_ifCondx, st_iloadx, st_in1, st_in2, st_in3, kb_Slips_suffices_0, oo_23, og_23_3, oo_47, og_23_1, og_34_3, jx_Slips_suffices_37, kb_Slips_suffices_37, jx_Slips_suffices_38, kb_Slips_suffices_38, oa_23, oa_34, oa_47, Bool.not_true, show b2i false = (0 : Int32) from rfl]
      exact K
  · rw [z, Bool.not_true, Bool.false_and] at K
    simp only [isO_c, ax0, ex_cons, am_get, upz_at, true_and, and_true, Nat.reduceAdd, Nat.reduceLeDiff, Nat.reduceEqDiff, Nat.reduceSub, Int32.reduceOfInt, Int32.reduceAdd, Int32.reduceMul, Int32.reduceSub, ↓reduceIte, Int32.reduceLT, Int32.reduceLE, Int32.reduceToNatClampNeg, Nat.reduceMod, Nat.reduceLT, List.length_cons, List.length_nil, eq_self, true_or, or_true, and_self, implies_true, not_true_eq_false, not_false_eq_true, false_implies, true_implies, forall_const, st_aloadx, st_freturnx, st_getfieldx, st_gotox, st_goto_wx, st_iconstx, st_ifCondx, st_iloadx, st_in1, st_in2, st_in3, kb_Slips_suffices_0, oo_23, og_23_3, oo_47, og_23_1, og_34_3, jx_Slips_suffices_37, kb_Slips_suffices_37, jx_Slips_suffices_38, kb_Slips_suffices_38, oa_23, oa_34, oa_47, Bool.not_true, show b2i false = (0 : Int32) from rfl]
    exact K
end CSU
