/-! ===== the class: square ===== -/
theorem spV_slip {h : am_H} {F : Nat → Nat → Int32} {V : Nat → Nat → Value} {X : kT} (hD : DK h F V 34 X) {x : Int32} : (slB X.1.1 x = false ∧ spV X.1.1 V x = .null) ∨ (slB X.1.1 x = true ∧ ∃ p, spV X.1.1 V x = .ref p ∧ SR h p (X.1.2.1 x.toNatClampNeg) ∧ x.toNatClampNeg < X.1.1) := by
  unfold spV
  cases e : slB X.1.1 x
  · exact Or.inl ⟨rfl, rfl⟩
  · obtain ⟨k, e1, e2, e3⟩ := slB_nI hD.1.2.1 e
    obtain ⟨p, hp1, hp2⟩ := hD.1.2.2 k e2
    refine Or.inr ⟨rfl, p, ?_, ?_, ?_⟩
    · rw [if_pos rfl, e3]; exact hp1
    · rw [e3]; exact hp2
    · rw [e3]; exact e2
section CSQ
variable {d : Nat} {h : am_H} {F : Nat → Nat → Int32} {J : Nat → Nat → Int64} {V : Nat → Nat → Value} {Q : am_Q}
set_option maxRecDepth 20000 in
theorem c_canBothFail (hb : HB h) {X : kT} (hD : DK h F V 34 X) {p1 p2 : Nat} {R1 R2 : rT} (h1 : SR h p1 R1) (h2 : SR h p2 R2) (K : ∀ F' J', Cf F F' → Q (some (.int (b2i (bfZ (clR R1) (clR R2) X.1.2.2.2)))) (ov h F' J' V)) : am_cl (d + 5) 37 [.ref 23, .ref p1, .ref p2] (ov h F J V) Q := by
  unfold bfZ at K
  obtain ⟨a, b, c, hobj⟩ := h1.obj
  simp only [isO_c, ax0, ex_cons, am_get, upz_at, true_and, and_true, Nat.reduceAdd, Nat.reduceLeDiff, Nat.reduceEqDiff, Nat.reduceSub, Int32.reduceOfInt, Int32.reduceAdd, Int32.reduceMul, Int32.reduceSub, ↓reduceIte, Int32.reduceLT, Int32.reduceLE, Int32.reduceToNatClampNeg, Nat.reduceMod, Nat.reduceLT, List.length_cons, List.length_nil, eq_self, true_or, or_true, and_self, implies_true, not_true_eq_false, not_false_eq_true, false_implies, true_implies, forall_const, st_aloadx, st_freturnx, st_getfieldx, st_iconstx, st_ifCondx, st_in1, st_in2, st_in3, kb_Slips_canBothFail_0, og_23_3, oo_47, og_23_1, oa_23, oa_47, cx_Slips_canBothFail]
  refine c_clear (Or.inl rfl) (fun F1 J1 t1 q1 => ?_)
  simp only [isO_c, ax0, ex_cons, am_get, upz_at, true_and, and_true, Nat.reduceAdd, Nat.reduceLeDiff, Nat.reduceEqDiff, Nat.reduceSub, Int32.reduceOfInt, Int32.reduceAdd, Int32.reduceMul, Int32.reduceSub, ↓reduceIte, Int32.reduceLT, Int32.reduceLE, Int32.reduceToNatClampNeg, Nat.reduceMod, Nat.reduceLT, List.length_cons, List.length_nil, eq_self, true_or, or_true, and_self, implies_true, not_true_eq_false, not_false_eq_true, false_implies, true_implies, forall_const, st_aloadx, st_freturnx, st_getfieldx, st_iconstx, st_ifCondx, st_in1, st_in2, st_in3, kb_Slips_canBothFail_0, og_23_3, oo_47, og_23_1, oa_23, oa_47]
  refine c_denyClaim (Or.inl rfl) t1 (by decide) h1.cl (fun F2 J2 t2 q2 => ?_)
  have cf2 := (q1.cf (Or.inl rfl)).tr (q2.cf (Or.inl rfl))
  have h343 : F2 34 3 = b2i X.1.2.2.2 := (hD.cf cf2).2.2.1
  simp only [isO_c, ax0, ex_cons, am_get, upz_at, true_and, and_true, Nat.reduceAdd, Nat.reduceLeDiff, Nat.reduceEqDiff, Nat.reduceSub, Int32.reduceOfInt, Int32.reduceAdd, Int32.reduceMul, Int32.reduceSub, ↓reduceIte, Int32.reduceLT, Int32.reduceLE, Int32.reduceToNatClampNeg, Nat.reduceMod, Nat.reduceLT, List.length_cons, List.length_nil, eq_self, true_or, or_true, and_self, implies_true, not_true_eq_false, not_false_eq_true, false_implies, true_implies, forall_const, st_aloadx, st_freturnx, st_getfieldx, st_iconstx, st_ifCondx, st_in1, st_in2, st_in3, kb_Slips_canBothFail_0, og_23_3, oo_47, og_23_1, og_34_3, oa_23, oa_34, oa_47, h343]
  have t2 : TT F2 J2 47 (tnZ tE (clR R1) 0) (plC 0 (clR R1)) := t2
  refine c_canFail (Or.inl rfl) hb t2 h2.cl (clR_ok _) ?_
  simp only [isO_c, ax0, ex_cons, am_get, upz_at, true_and, and_true, Nat.reduceAdd, Nat.reduceLeDiff, Nat.reduceEqDiff, Nat.reduceSub, Int32.reduceOfInt, Int32.reduceAdd, Int32.reduceMul, Int32.reduceSub, ↓reduceIte, Int32.reduceLT, Int32.reduceLE, Int32.reduceToNatClampNeg, Nat.reduceMod, Nat.reduceLT, List.length_cons, List.length_nil, eq_self, true_or, or_true, and_self, implies_true, not_true_eq_false, not_false_eq_true, false_implies, true_implies, forall_const, st_aloadx, st_freturnx, st_getfieldx, st_iconstx, st_ifCondx, st_in1, st_in2, st_in3, kb_Slips_canBothFail_0, og_23_3, oo_47, og_23_1, og_34_3, oa_23, oa_34, oa_47]
  refine ifb (fun z => ?_) (fun z => ?_)
  · rw [z, Bool.false_or] at K
    simp only [isO_c, ax0, ex_cons, am_get, upz_at, true_and, and_true, Nat.reduceAdd, Nat.reduceLeDiff, Nat.reduceEqDiff, Nat.reduceSub, Int32.reduceOfInt, Int32.reduceAdd, Int32.reduceMul, Int32.reduceSub, ↓reduceIte, Int32.reduceLT, Int32.reduceLE, Int32.reduceToNatClampNeg, Nat.reduceMod, Nat.reduceLT, List.length_cons, List.length_nil, eq_self, true_or, or_true, and_self, implies_true, not_true_eq_false, not_false_eq_true, false_implies, true_implies, forall_const, st_aloadx, st_freturnx, st_getfieldx, st_iconstx, st_ifCondx, st_in2, jx_Slips_canBothFail_35, kb_Slips_canBothFail_35, og_23_1, og_34_3, oa_23, oa_34, h343, hobj]
    refine c_tellsSubject h1.cl ?_
    simp only [isO_c, ax0, ex_cons, am_get, upz_at, true_and, and_true, Nat.reduceAdd, Nat.reduceLeDiff, Nat.reduceEqDiff, Nat.reduceSub, Int32.reduceOfInt, Int32.reduceAdd, Int32.reduceMul, Int32.reduceSub, ↓reduceIte, Int32.reduceLT, Int32.reduceLE, Int32.reduceToNatClampNeg, Nat.reduceMod, Nat.reduceLT, List.length_cons, List.length_nil, eq_self, true_or, or_true, and_self, implies_true, not_true_eq_false, not_false_eq_true, false_implies, true_implies, forall_const, st_aloadx, st_freturnx, st_getfieldx, st_iconstx, st_ifCondx, st_in2, jx_Slips_canBothFail_35, kb_Slips_canBothFail_35, og_23_1, og_34_3, oa_23, oa_34]
    refine ifnb (fun z2 => ?_) (fun z2 => ?_)
    · have z2' : (X.1.2.2.2 && (clR R1).2.1) = true := z2
      rw [z2', Bool.true_and] at K
      simp only [isO_c, ax0, ex_cons, am_get, upz_at, true_and, and_true, Nat.reduceAdd, Nat.reduceLeDiff, Nat.reduceEqDiff, Nat.reduceSub, Int32.reduceOfInt, Int32.reduceAdd, Int32.reduceMul, Int32.reduceSub, ↓reduceIte, Int32.reduceLT, Int32.reduceLE, Int32.reduceToNatClampNeg, Nat.reduceMod, Nat.reduceLT, List.length_cons, List.length_nil, eq_self, true_or, or_true, and_self, implies_true, not_true_eq_false, not_false_eq_true, false_implies, true_implies, forall_const, st_aloadx, st_freturnx, st_getfieldx, st_in1, st_in2, st_in3, jx_Slips_canBothFail_51, kb_Slips_canBothFail_51, og_23_3, oo_47, og_23_1, og_34_3, oa_23, oa_34, oa_47]
      refine c_clear (Or.inl rfl) (fun F3 J3 t3 q3 => ?_)
      have z3 : hsR R1 = true := by rw [Bool.and_eq_true] at z2'; exact z2'.2
      obtain ⟨hw, a', b', c', fs, fb, g1, g2, g3, g4, g5, g6, g7, g8, g9, _⟩ := h1
      have hb' : b' = b := by
        have e1 := hobj F J V
        rw [ov_hi (by omega), g5] at e1
        injection e1 with e1
        injection e1 with _ e1
        simp at e1
        exact e1.2.1
      subst hb'
      simp only [isO_c, ax0, ex_cons, am_get, upz_at, true_and, and_true, Nat.reduceAdd, Nat.reduceLeDiff, Nat.reduceEqDiff, Nat.reduceSub, Int32.reduceOfInt, Int32.reduceAdd, Int32.reduceMul, Int32.reduceSub, ↓reduceIte, Int32.reduceLT, Int32.reduceLE, Int32.reduceToNatClampNeg, Nat.reduceMod, Nat.reduceLT, List.length_cons, List.length_nil, eq_self, true_or, or_true, and_self, implies_true, not_true_eq_false, not_false_eq_true, false_implies, true_implies, forall_const, st_aloadx, st_freturnx, st_getfieldx, st_in1, st_in2, st_in3, jx_Slips_canBothFail_51, kb_Slips_canBothFail_51, og_23_3, oo_47, og_23_1, og_34_3, oa_23, oa_34, oa_47, hobj, gf6]
      refine c_bar (Or.inl rfl) t3 (set := suR R1) ⟨fb, by rw [ov_hi (by omega)]; exact g8, g9 z3⟩ (by unfold isTh; omega) (fun J4 t4 q4 => ?_)
      have cf4 := (cf2.tr (q3.cf (Or.inl rfl))).tr (q4.cf (Or.inl rfl))
      have h343' : F3 34 3 = b2i X.1.2.2.2 := (hD.cf cf4).2.2.1
      simp only [isO_c, ax0, ex_cons, am_get, upz_at, true_and, and_true, Nat.reduceAdd, Nat.reduceLeDiff, Nat.reduceEqDiff, Nat.reduceSub, Int32.reduceOfInt, Int32.reduceAdd, Int32.reduceMul, Int32.reduceSub, ↓reduceIte, Int32.reduceLT, Int32.reduceLE, Int32.reduceToNatClampNeg, Nat.reduceMod, Nat.reduceLT, List.length_cons, List.length_nil, eq_self, true_or, or_true, and_self, implies_true, not_true_eq_false, not_false_eq_true, false_implies, true_implies, forall_const, st_aloadx, st_freturnx, st_getfieldx, st_in1, st_in2, st_in3, jx_Slips_canBothFail_51, kb_Slips_canBothFail_51, og_23_3, oo_47, og_23_1, og_34_3, oa_23, oa_34, oa_47, h343']
      have t4 : TT F3 J4 47 (tnZ tE (clR R1) 1) 0 := t4
      refine c_canFail (Or.inl rfl) hb t4 h2.cl (clR_ok _) ?_
      simp only [isO_c, ax0, ex_cons, am_get, upz_at, true_and, and_true, Nat.reduceAdd, Nat.reduceLeDiff, Nat.reduceEqDiff, Nat.reduceSub, Int32.reduceOfInt, Int32.reduceAdd, Int32.reduceMul, Int32.reduceSub, ↓reduceIte, Int32.reduceLT, Int32.reduceLE, Int32.reduceToNatClampNeg, Nat.reduceMod, Nat.reduceLT, List.length_cons, List.length_nil, eq_self, true_or, or_true, and_self, implies_true, not_true_eq_false, not_false_eq_true, false_implies, true_implies, forall_const, st_aloadx, st_freturnx, st_getfieldx, st_in1, st_in2, st_in3, jx_Slips_canBothFail_51, kb_Slips_canBothFail_51, og_23_3, oo_47, og_23_1, og_34_3, oa_23, oa_34, oa_47, b2i_01]
      exact K F3 J4 cf4
    · have z2' : (X.1.2.2.2 && (clR R1).2.1) = false := z2
      rw [z2', Bool.false_and] at K
      exact K F2 J2 cf2
  · rw [z, Bool.true_or] at K
    exact K F2 J2 cf2
set_option maxRecDepth 20000 in
theorem cp_square (hb : HB h) {X : kT} (hD : DK h F V 34 X) {x y : Int32} (K : ∀ F' J', Cf F F' → Q (some (.int (aSquare X.1 x y))) (ov h F' J' V)) : am_cl (d + 6) 36 [.ref 23, .int x, .int y] (ov h F J V) Q := by
  unfold aSquare at K
  simp only [isO_c, ax0, ex_cons, am_get, upz_at, true_and, and_true, Nat.reduceAdd, Nat.reduceLeDiff, Nat.reduceEqDiff, Nat.reduceSub, Int32.reduceOfInt, Int32.reduceAdd, Int32.reduceMul, Int32.reduceSub, ↓reduceIte, Int32.reduceLT, Int32.reduceLE, Int32.reduceToNatClampNeg, Nat.reduceMod, Nat.reduceLT, List.length_cons, List.length_nil, eq_self, true_or, or_true, and_self, implies_true, not_true_eq_false, not_false_eq_true, false_implies, true_implies, forall_const, st_aloadx, st_astorex, st_astore_1x, st_getfieldx, st_goto_wx, st_ifnonnullx, st_ifnonnull_1x, st_ifnullx, st_ifnull_1x, st_iloadx, st_in2, am_put, am_nlg, kb_Slips_square_0, og_23_1, oo_34, oa_23, oa_34, cx_Slips_square]
  refine c_slipAt hD ?_
  rcases spV_slip hD (x := x) with ⟨a1, a2⟩ | ⟨a1, p1, a2, a3, a4⟩
  · rw [a1, Bool.false_and, if_neg Bool.false_ne_true] at K
    rw [a2]
    simp only [isO_c, ax0, ex_cons, am_get, upz_at, true_and, and_true, Nat.reduceAdd, Nat.reduceLeDiff, Nat.reduceEqDiff, Nat.reduceSub, Int32.reduceOfInt, Int32.reduceAdd, Int32.reduceMul, Int32.reduceSub, ↓reduceIte, Int32.reduceLT, Int32.reduceLE, Int32.reduceToNatClampNeg, Nat.reduceMod, Nat.reduceLT, List.length_cons, List.length_nil, eq_self, true_or, or_true, and_self, implies_true, not_true_eq_false, not_false_eq_true, false_implies, true_implies, forall_const, st_aloadx, st_astorex, st_astore_1x, st_getfieldx, st_goto_wx, st_ifnonnullx, st_ifnonnull_1x, st_ifnullx, st_ifnull_1x, st_iloadx, st_in2, am_put, am_nlg, kb_Slips_square_0, og_23_1, oo_34, oa_23, oa_34]
    refine c_slipAt hD ?_
    rcases spV_slip hD (x := y) with ⟨b1, b2⟩ | ⟨b1, p2, b2, b3, b4⟩
    · rw [b2]
      simp only [isO_c, ax0, ex_cons, am_get, upz_at, true_and, and_true, Nat.reduceAdd, Nat.reduceLeDiff, Nat.reduceEqDiff, Nat.reduceSub, Int32.reduceOfInt, Int32.reduceAdd, Int32.reduceMul, Int32.reduceSub, ↓reduceIte, Int32.reduceLT, Int32.reduceLE, Int32.reduceToNatClampNeg, Nat.reduceMod, Nat.reduceLT, List.length_cons, List.length_nil, eq_self, true_or, or_true, and_self, implies_true, not_true_eq_false, not_false_eq_true, false_implies, true_implies, forall_const, st_aloadx, st_astorex, st_astore_1x, st_getfieldx, st_goto_wx, st_iconstx, st_ifnonnullx, st_ifnonnull_1x, st_ifnullx, st_ifnull_1x, st_iloadx, st_in2, st_ireturnx, am_put, am_nlg, kb_Slips_square_0, og_23_1, oo_34, jx_Slips_square_28, kb_Slips_square_28, oa_23, oa_34]
      exact K F J Cf.rf
    · rw [b2]
      simp only [isO_c, ax0, ex_cons, am_get, upz_at, true_and, and_true, Nat.reduceAdd, Nat.reduceLeDiff, Nat.reduceEqDiff, Nat.reduceSub, Int32.reduceOfInt, Int32.reduceAdd, Int32.reduceMul, Int32.reduceSub, ↓reduceIte, Int32.reduceLT, Int32.reduceLE, Int32.reduceToNatClampNeg, Nat.reduceMod, Nat.reduceLT, List.length_cons, List.length_nil, eq_self, true_or, or_true, and_self, implies_true, not_true_eq_false, not_false_eq_true, false_implies, true_implies, forall_const, st_aloadx, st_astorex, st_astore_1x, st_getfieldx, st_goto_wx, st_iconstx, st_ifnonnullx, st_ifnonnull_1x, st_ifnullx, st_ifnull_1x, st_iloadx, st_in2, st_ireturnx, am_put, am_nlg, kb_Slips_square_0, og_23_1, oo_34, jx_Slips_square_28, kb_Slips_square_28, oa_23, oa_34]
      exact K F J Cf.rf
  · rw [a1, Bool.true_and] at K
    rw [a2]
    simp only [isO_c, ax0, ex_cons, am_get, upz_at, true_and, and_true, Nat.reduceAdd, Nat.reduceLeDiff, Nat.reduceEqDiff, Nat.reduceSub, Int32.reduceOfInt, Int32.reduceAdd, Int32.reduceMul, Int32.reduceSub, ↓reduceIte, Int32.reduceLT, Int32.reduceLE, Int32.reduceToNatClampNeg, Nat.reduceMod, Nat.reduceLT, List.length_cons, List.length_nil, eq_self, true_or, or_true, and_self, implies_true, not_true_eq_false, not_false_eq_true, false_implies, true_implies, forall_const, st_aloadx, st_astorex, st_astore_1x, st_getfieldx, st_goto_wx, st_ifnonnullx, st_ifnonnull_1x, st_ifnullx, st_ifnull_1x, st_iloadx, st_in2, am_put, am_nlg, kb_Slips_square_0, og_23_1, oo_34, oa_23, oa_34]
    refine c_slipAt hD ?_
    rcases spV_slip hD (x := y) with ⟨b1, b2⟩ | ⟨b1, p2, b2, b3, b4⟩
    · rw [b1, if_neg Bool.false_ne_true] at K
      rw [b2]
      simp only [isO_c, ax0, ex_cons, am_get, upz_at, true_and, and_true, Nat.reduceAdd, Nat.reduceLeDiff, Nat.reduceEqDiff, Nat.reduceSub, Int32.reduceOfInt, Int32.reduceAdd, Int32.reduceMul, Int32.reduceSub, ↓reduceIte, Int32.reduceLT, Int32.reduceLE, Int32.reduceToNatClampNeg, Nat.reduceMod, Nat.reduceLT, List.length_cons, List.length_nil, eq_self, true_or, or_true, and_self, implies_true, not_true_eq_false, not_false_eq_true, false_implies, true_implies, forall_const, st_aloadx, st_astorex, st_astore_1x, st_getfieldx, st_goto_wx, st_iconstx, st_ifnonnullx, st_ifnonnull_1x, st_ifnullx, st_ifnull_1x, st_iloadx, st_in2, st_ireturnx, am_put, am_nlg, kb_Slips_square_0, og_23_1, oo_34, jx_Slips_square_28, kb_Slips_square_28, oa_23, oa_34]
      exact K F J Cf.rf
    · rw [b1, if_pos rfl] at K
      rw [b2]
      have h343 : F 34 3 = b2i X.1.2.2.2 := hD.2.2.1
      have hC1 : csD X.1 x.toNatClampNeg = clR (X.1.2.1 x.toNatClampNeg) := rfl
      have hC2 : csD X.1 y.toNatClampNeg = clR (X.1.2.1 y.toNatClampNeg) := rfl
      rw [hC1, hC2] at K
      generalize X.1.2.1 x.toNatClampNeg = R1 at a3 K
      generalize X.1.2.1 y.toNatClampNeg = R2 at b3 K
      generalize hex : X.1.2.2.2 = ex at *
      unfold sqZ at K
      rw [ei_a (saR_le R2) (clR_ok R2) (clR_w b3.1)] at K
      have fin : ∀ F1 J1 (f6 f7 : Bool) v9, f6 = leZ (clR R2) (clR R1) ex → f7 = leZ (clR R1) (clR R2) ex → TT F1 J1 47 (tellz tE (clR R1) ex) (plC 0 (clR R1)) → Cf F F1 → am_W kc_Slips_square (am_cl (d + 5)) Q 113 [.ref 23, .int x, .int y, .ref p1, .ref p2, .int (b2i ex), .int (b2i f6), am_dum, am_dum, v9] [.int (b2i f7)] (ov h F1 J1 V) := by
        intro F1 J1 f6 f7 v9 e6 e7 t1 cf1
        simp only [isO_c, ax0, ex_cons, am_get, upz_at, true_and, and_true, Nat.reduceAdd, Nat.reduceLeDiff, Nat.reduceEqDiff, Nat.reduceSub, Int32.reduceOfInt, Int32.reduceAdd, Int32.reduceMul, Int32.reduceSub, ↓reduceIte, Int32.reduceLT, Int32.reduceLE, Int32.reduceToNatClampNeg, Nat.reduceMod, Nat.reduceLT, List.length_cons, List.length_nil, eq_self, true_or, or_true, and_self, implies_true, not_true_eq_false, not_false_eq_true, false_implies, true_implies, forall_const, st_aloadx, st_getfieldx, st_iconstx, st_ifCondx, st_iloadx, st_in3, st_ireturnx, st_istorex, am_put, am_nlg, jx_Slips_square_113, kb_Slips_square_113, og_23_3, oo_47, oo_23, oa_23, oa_47]
        refine c_canHold (Or.inl rfl) hb t1 b3.cl (clR_ok _) ?_
        simp only [isO_c, ax0, ex_cons, am_get, upz_at, true_and, and_true, Nat.reduceAdd, Nat.reduceLeDiff, Nat.reduceEqDiff, Nat.reduceSub, Int32.reduceOfInt, Int32.reduceAdd, Int32.reduceMul, Int32.reduceSub, ↓reduceIte, Int32.reduceLT, Int32.reduceLE, Int32.reduceToNatClampNeg, Nat.reduceMod, Nat.reduceLT, List.length_cons, List.length_nil, eq_self, true_or, or_true, and_self, implies_true, not_true_eq_false, not_false_eq_true, false_implies, true_implies, forall_const, st_aloadx, st_getfieldx, st_iconstx, st_ifCondx, st_iloadx, st_in3, st_ireturnx, st_istorex, am_put, am_nlg, jx_Slips_square_113, kb_Slips_square_113, og_23_3, oo_47, oo_23, oa_23, oa_47]
        refine c_canBothFail hb (hD.cf cf1) a3 b3 (fun F2 J2 cf2 => ?_)
        rw [hex]
        have K := K F2 J2 (cf1.tr cf2)
        rw [← e6, ← e7] at K
        have ech : chZ (tellz tE (clR R1) ex) (clR R2) ex = !qz (tellz (tellz tE (clR R1) ex) (clR R2) ex) (fun _ => false) := rfl
        rw [ech]
        generalize qz (tellz (tellz tE (clR R1) ex) (clR R2) ex) (fun _ => false) = nb at K
        generalize bfZ (clR R1) (clR R2) ex = bf at K
        cases f6 <;> cases f7 <;> cases nb <;> cases bf <;> simp only [isO_c, ax0, ex_cons, am_get, upz_at, true_and, and_true, Nat.reduceAdd, Nat.reduceLeDiff, Nat.reduceEqDiff, Nat.reduceSub, Int32.reduceOfInt, Int32.reduceAdd, Int32.reduceMul, Int32.reduceSub, ↓reduceIte, Int32.reduceLT, Int32.reduceLE, Int32.reduceToNatClampNeg, Nat.reduceMod, Nat.reduceLT, List.length_cons, List.length_nil, eq_self, true_or, or_true, and_self, implies_true, not_true_eq_false, not_false_eq_true, false_implies, true_implies, forall_const, st_aloadx, st_getfieldx, st_gotox, st_goto_wx, st_iconstx, st_ifCondx, st_iloadx, st_in3, st_ireturnx, st_istorex, am_put, am_nlg, jx_Slips_square_113, kb_Slips_square_113, og_23_3, oo_47, oo_23, jx_Slips_square_149, kb_Slips_square_149, jx_Slips_square_163, kb_Slips_square_163, jx_Slips_square_165, kb_Slips_square_165, jx_Slips_square_166, kb_Slips_square_166, jx_Slips_square_173, kb_Slips_square_173, jx_Slips_square_182, kb_Slips_square_182, jx_Slips_square_191, kb_Slips_square_191, jx_Slips_square_192, kb_Slips_square_192, oa_23, oa_47, b2i_t, b2i_f, Bool.not_true, Bool.not_false] <;> exact K
      simp only [isO_c, ax0, ex_cons, am_get, upz_at, true_and, and_true, Nat.reduceAdd, Nat.reduceLeDiff, Nat.reduceEqDiff, Nat.reduceSub, Int32.reduceOfInt, Int32.reduceAdd, Int32.reduceMul, Int32.reduceSub, ↓reduceIte, Int32.reduceLT, Int32.reduceLE, Int32.reduceToNatClampNeg, Nat.reduceMod, Nat.reduceLT, List.length_cons, List.length_nil, eq_self, true_or, or_true, and_self, implies_true, not_true_eq_false, not_false_eq_true, false_implies, true_implies, forall_const, st_aloadx, st_astorex, st_astore_1x, st_getfieldx, st_gotox, st_goto_wx, st_iconstx, st_ifCondx, st_ifnonnullx, st_ifnonnull_1x, st_ifnullx, st_ifnull_1x, st_iloadx, st_in1, st_in2, st_in3, st_istorex, am_put, am_nlg, kb_Slips_square_0, og_23_1, oo_34, jx_Slips_square_30, kb_Slips_square_30, og_34_3, og_23_3, oo_47, oa_23, oa_34, oa_47, h343]
      refine c_clear (Or.inl rfl) (fun F1 J1 t1 q1 => ?_)
      simp only [isO_c, ax0, ex_cons, am_get, upz_at, true_and, and_true, Nat.reduceAdd, Nat.reduceLeDiff, Nat.reduceEqDiff, Nat.reduceSub, Int32.reduceOfInt, Int32.reduceAdd, Int32.reduceMul, Int32.reduceSub, ↓reduceIte, Int32.reduceLT, Int32.reduceLE, Int32.reduceToNatClampNeg, Nat.reduceMod, Nat.reduceLT, List.length_cons, List.length_nil, eq_self, true_or, or_true, and_self, implies_true, not_true_eq_false, not_false_eq_true, false_implies, true_implies, forall_const, st_aloadx, st_getfieldx, st_gotox, st_iconstx, st_ifCondx, st_iloadx, st_in1, st_in3, st_istorex, am_put, am_nlg, jx_Slips_square_30, kb_Slips_square_30, og_23_1, og_34_3, og_23_3, oo_47, oa_23, oa_34, oa_47]
      refine c_grantClaim (Or.inl rfl) t1 (by decide) b3.cl (clR_ok _) (fun F2 J2 t2 q2 => ?_)
      simp only [isO_c, ax0, ex_cons, am_get, upz_at, true_and, and_true, Nat.reduceAdd, Nat.reduceLeDiff, Nat.reduceEqDiff, Nat.reduceSub, Int32.reduceOfInt, Int32.reduceAdd, Int32.reduceMul, Int32.reduceSub, ↓reduceIte, Int32.reduceLT, Int32.reduceLE, Int32.reduceToNatClampNeg, Nat.reduceMod, Nat.reduceLT, List.length_cons, List.length_nil, eq_self, true_or, or_true, and_self, implies_true, not_true_eq_false, not_false_eq_true, false_implies, true_implies, forall_const, st_aloadx, st_getfieldx, st_gotox, st_iconstx, st_ifCondx, st_iloadx, st_in1, st_in3, st_istorex, am_put, am_nlg, jx_Slips_square_30, kb_Slips_square_30, og_23_1, og_34_3, og_23_3, oo_47, oa_23, oa_34, oa_47]
      refine c_canFail (Or.inl rfl) hb t2 a3.cl (clR_ok _) ?_
      have cf2 := (q1.cf (Or.inl rfl)).tr (q2.cf (Or.inl rfl))
      have s75 : ∀ f6 : Bool, f6 = leZ (clR R2) (clR R1) ex → am_W kc_Slips_square (am_cl (d + 5)) Q 75 [.ref 23, .int x, .int y, .ref p1, .ref p2, .int (b2i ex), am_dum, am_dum, am_dum, am_dum] [.int (b2i f6)] (ov h F2 J2 V) := by
        intro f6 e6
        simp only [isO_c, ax0, ex_cons, am_get, upz_at, true_and, and_true, Nat.reduceAdd, Nat.reduceLeDiff, Nat.reduceEqDiff, Nat.reduceSub, Int32.reduceOfInt, Int32.reduceAdd, Int32.reduceMul, Int32.reduceSub, ↓reduceIte, Int32.reduceLT, Int32.reduceLE, Int32.reduceToNatClampNeg, Nat.reduceMod, Nat.reduceLT, List.length_cons, List.length_nil, eq_self, true_or, or_true, and_self, implies_true, not_true_eq_false, not_false_eq_true, false_implies, true_implies, forall_const, st_aloadx, st_getfieldx, st_gotox, st_iconstx, st_ifCondx, st_iloadx, st_in1, st_in3, st_istorex, am_put, am_nlg, jx_Slips_square_75, kb_Slips_square_75, og_23_3, oo_47, oa_23, oa_47]
        refine c_clear (Or.inl rfl) (fun F3 J3 t3 q3 => ?_)
        simp only [isO_c, ax0, ex_cons, am_get, upz_at, true_and, and_true, Nat.reduceAdd, Nat.reduceLeDiff, Nat.reduceEqDiff, Nat.reduceSub, Int32.reduceOfInt, Int32.reduceAdd, Int32.reduceMul, Int32.reduceSub, ↓reduceIte, Int32.reduceLT, Int32.reduceLE, Int32.reduceToNatClampNeg, Nat.reduceMod, Nat.reduceLT, List.length_cons, List.length_nil, eq_self, true_or, or_true, and_self, implies_true, not_true_eq_false, not_false_eq_true, false_implies, true_implies, forall_const, st_aloadx, st_getfieldx, st_gotox, st_iconstx, st_ifCondx, st_iloadx, st_in1, st_in3, st_istorex, am_put, am_nlg, jx_Slips_square_75, kb_Slips_square_75, og_23_3, oo_47, oa_23, oa_47]
        refine c_grantClaim (Or.inl rfl) t3 (by decide) a3.cl (clR_ok _) (fun F4 J4 t4 q4 => ?_)
        have cf4 := (cf2.tr (q3.cf (Or.inl rfl))).tr (q4.cf (Or.inl rfl))
        simp only [isO_c, ax0, ex_cons, am_get, upz_at, true_and, and_true, Nat.reduceAdd, Nat.reduceLeDiff, Nat.reduceEqDiff, Nat.reduceSub, Int32.reduceOfInt, Int32.reduceAdd, Int32.reduceMul, Int32.reduceSub, ↓reduceIte, Int32.reduceLT, Int32.reduceLE, Int32.reduceToNatClampNeg, Nat.reduceMod, Nat.reduceLT, List.length_cons, List.length_nil, eq_self, true_or, or_true, and_self, implies_true, not_true_eq_false, not_false_eq_true, false_implies, true_implies, forall_const, st_aloadx, st_getfieldx, st_gotox, st_iconstx, st_ifCondx, st_iloadx, st_in1, st_in3, st_istorex, am_put, am_nlg, jx_Slips_square_75, kb_Slips_square_75, og_23_3, oo_47, oa_23, oa_47]
        refine c_canFail (Or.inl rfl) hb t4 b3.cl (clR_ok _) ?_
        simp only [isO_c, ax0, ex_cons, am_get, upz_at, true_and, and_true, Nat.reduceAdd, Nat.reduceLeDiff, Nat.reduceEqDiff, Nat.reduceSub, Int32.reduceOfInt, Int32.reduceAdd, Int32.reduceMul, Int32.reduceSub, ↓reduceIte, Int32.reduceLT, Int32.reduceLE, Int32.reduceToNatClampNeg, Nat.reduceMod, Nat.reduceLT, List.length_cons, List.length_nil, eq_self, true_or, or_true, and_self, implies_true, not_true_eq_false, not_false_eq_true, false_implies, true_implies, forall_const, st_aloadx, st_getfieldx, st_gotox, st_goto_wx, st_iconstx, st_ifCondx, st_iloadx, st_in1, st_in3, st_istorex, am_put, am_nlg, jx_Slips_square_75, kb_Slips_square_75, og_23_3, oo_47, jx_Slips_square_112, kb_Slips_square_112, oa_23, oa_47]
        refine ifnb (fun z => ?_) (fun z => ?_)
        · rw [Bool.not_eq_true'] at z
          exact fin F4 J4 f6 false _ e6 z.symm t4 cf4
        · rw [Bool.not_eq_false'] at z
          exact fin F4 J4 f6 true _ e6 z.symm t4 cf4
      simp only [isO_c, ax0, ex_cons, am_get, upz_at, true_and, and_true, Nat.reduceAdd, Nat.reduceLeDiff, Nat.reduceEqDiff, Nat.reduceSub, Int32.reduceOfInt, Int32.reduceAdd, Int32.reduceMul, Int32.reduceSub, ↓reduceIte, Int32.reduceLT, Int32.reduceLE, Int32.reduceToNatClampNeg, Nat.reduceMod, Nat.reduceLT, List.length_cons, List.length_nil, eq_self, true_or, or_true, and_self, implies_true, not_true_eq_false, not_false_eq_true, false_implies, true_implies, forall_const, st_aloadx, st_getfieldx, st_gotox, st_goto_wx, st_iconstx, st_ifCondx, st_iloadx, st_in1, st_in3, st_istorex, am_put, am_nlg, jx_Slips_square_30, kb_Slips_square_30, og_23_1, og_34_3, og_23_3, oo_47, jx_Slips_square_74, kb_Slips_square_74, oa_23, oa_34, oa_47]
      refine ifnb (fun z => ?_) (fun z => ?_)
      · rw [Bool.not_eq_true'] at z
        exact s75 false z.symm
      · rw [Bool.not_eq_false'] at z
        exact s75 true z.symm
end CSQ
