/-! ===== the class: writeDown ===== -/
theorem wd21 {nm : Nat} (h : nm < 4) : pwd (21 + nm) [] = [] ++ [119 + nm] := (by decide +kernel : ∀ j : Fin 4, pwd (21 + j.val) [] = [] ++ [119 + j.val]) ⟨nm, h⟩
section CDM
variable {d : Nat} {h : am_H} {F : Nat → Nat → Int32} {J : Nat → Nat → Int64} {V : Nat → Nat → Value} {Q : am_Q}
set_option maxRecDepth 20000 in
theorem c_writeDown (hs : HS h) (hh : 108 ≤ h.2.1) {R : rT} (hR : okR R) (hP : RPr F R) (K : ∀ F', Wf F F' → Q (some (.ref h.2.1)) (ov (am_new h (aI 1 (am_ar (txR R).length (fun i => nI ((txR R).getD i 0)))) (txR R).length) F' J V)) : am_cl (d + 54) 122 [.ref 24] (ov h F J V) Q := by
  have hb := txR_b hR
  obtain ⟨p5, p6, p7, cnt, c5, c48, pt⟩ := hP
  have hwf := hR.1
  have hw2 := hwf.2.2.1.1
  have hws := hR.2.1
  have hfm := hwf.1
  have g5 : ∀ {F' : Nat → Nat → Int32}, Wf F F' → F' 24 = F 24 := fun w => w 24 (by decide) (by decide)
  have g26 : ∀ {F' : Nat → Nat → Int32}, Wf F F' → F' 26 5 = nI cnt := fun w => by rw [w 26 (by decide) (by decide)]; exact c5
  have fin : ∀ F9, Wf F F9 → WX F9 (txR R) → am_W kc_Reader_writeDown (am_cl (d + 53)) Q 213 [.ref 24] [] (ov h F9 J V) := by
    intro F9 f9 W9
    simp only [isO_c, ax0, ex_cons, am_get, upz_at, true_and, and_true, Nat.reduceAdd, Nat.reduceLeDiff, Nat.reduceEqDiff, Nat.reduceSub, Int32.reduceOfInt, Int32.reduceAdd, Int32.reduceMul, Int32.reduceSub, ↓reduceIte, Int32.reduceLT, Int32.reduceLE, Int32.reduceToNatClampNeg, Nat.reduceMod, Nat.reduceLT, List.length_cons, List.length_nil, eq_self, true_or, or_true, and_self, implies_true, not_true_eq_false, not_false_eq_true, false_implies, true_implies, forall_const, st_aloadx, st_areturnx, st_areturn_1x, st_getfieldx, st_in1, jx_Reader_writeDown_213, kb_Reader_writeDown_213, og_24_12, oo_32, oa_24, oa_32]
    refine c_wcopy hh W9 hb ?_
    simp only [isO_c, ax0, ex_cons, am_get, upz_at, true_and, and_true, Nat.reduceAdd, Nat.reduceLeDiff, Nat.reduceEqDiff, Nat.reduceSub, Int32.reduceOfInt, Int32.reduceAdd, Int32.reduceMul, Int32.reduceSub, ↓reduceIte, Int32.reduceLT, Int32.reduceLE, Int32.reduceToNatClampNeg, Nat.reduceMod, Nat.reduceLT, List.length_cons, List.length_nil, eq_self, true_or, or_true, and_self, implies_true, not_true_eq_false, not_false_eq_true, false_implies, true_implies, forall_const, st_aloadx, st_areturnx, st_areturn_1x, st_getfieldx, st_in1, jx_Reader_writeDown_213, kb_Reader_writeDown_213, og_24_12, oo_32, oa_24, oa_32]
    exact K F9 f9
  have ge5 : (tx5 R).length ≤ (txR R).length := tx_ge _ _ _
  have ge4 : (tx4 R).length ≤ (tx5 R).length := by unfold tx5; split; exact pwd_ge _ _; exact Nat.le_refl _
  have ge3 : (tx3 R).length ≤ (tx4 R).length := pwd_ge _ _
  have ge2 : (tx2 R).length ≤ (tx3 R).length := by unfold tx3; split; exact tx_ge _ _ _; exact Nat.le_refl _
  simp only [isO_c, ax0, ex_cons, am_get, upz_at, true_and, and_true, Nat.reduceAdd, Nat.reduceLeDiff, Nat.reduceEqDiff, Nat.reduceSub, Int32.reduceOfInt, Int32.reduceAdd, Int32.reduceMul, Int32.reduceSub, ↓reduceIte, Int32.reduceLT, Int32.reduceLE, Int32.reduceToNatClampNeg, Nat.reduceMod, Nat.reduceLT, List.length_cons, List.length_nil, eq_self, true_or, or_true, and_self, implies_true, not_true_eq_false, not_false_eq_true, false_implies, true_implies, forall_const, st_aloadx, st_getfieldx, st_gotox, st_i2cx, st_iaddx, st_iconstx, st_ifCondx, st_if_icmpx, st_in1, st_in2, st_ldcx, kb_Reader_writeDown_0, og_24_12, oo_32, og_24_5, og_24_6, og_24_7, oa_24, oa_32, cx_Reader_writeDown]
  simp only [isO_c, ax0, ex_cons, am_get, upz_at, true_and, and_true, Nat.reduceAdd, Nat.reduceLeDiff, Nat.reduceEqDiff, Nat.reduceSub, Int32.reduceOfInt, Int32.reduceAdd, Int32.reduceMul, Int32.reduceSub, ↓reduceIte, Int32.reduceLT, Int32.reduceLE, Int32.reduceToNatClampNeg, Nat.reduceMod, Nat.reduceLT, List.length_cons, List.length_nil, eq_self, true_or, or_true, and_self, implies_true, not_true_eq_false, not_false_eq_true, false_implies, true_implies, forall_const, st_aloadx, st_iconstx, st_putfieldx, st_return_x, cx_Writer_clear, kb_Writer_clear_0, op_32_1, oa_32, os_32]
  have W0 : WX (upz F 32 (upz (F 32) 1 0)) [] := ⟨by rw [upz_eq, upz_eq]; rfl, fun i hi => absurd hi (Nat.not_lt_zero i), by decide, fun i hi => absurd hi (Nat.not_lt_zero i)⟩
  have f0 : Wf F (upz F 32 (upz (F 32) 1 0)) := fun x x1 _ => upz_ne _ _ x1
  generalize upz F 32 (upz (F 32) 1 0) = F0 at W0 f0
  unfold isF at hfm
  by_cases z10 : R.1 = 10
  · have hnm := hwf.2.2.2.2 z10
    have e5 : F0 24 5 = 6 := by rw [g5 f0, p5]; unfold fmR; rw [if_pos z10]; rfl
    have e6 : F0 24 6 = nI R.2.2.1 := by rw [g5 f0, p6]; unfold nmI; rw [if_pos z10]
    rw [if_neg (by omega)] at pt
    obtain ⟨i1, q8, q9, qT, qi⟩ := pt
    have t2 : tx2 R = [119 + R.2.2.1] := by unfold tx2 tx1; rw [if_neg (by omega), if_pos z10, wd21 hnm]; rfl
    have t3 : tx3 R = tx2 R := by unfold tx3; rw [if_neg (by omega)]
    have t4 : tx4 R = pwd 10 (tx3 R) := by unfold tx4; rw [if_pos z10]
    simp only [isO_c, ax0, ex_cons, am_get, upz_at, true_and, and_true, Nat.reduceAdd, Nat.reduceLeDiff, Nat.reduceEqDiff, Nat.reduceSub, Int32.reduceOfInt, Int32.reduceAdd, Int32.reduceMul, Int32.reduceSub, ↓reduceIte, Int32.reduceLT, Int32.reduceLE, Int32.reduceToNatClampNeg, Nat.reduceMod, Nat.reduceLT, List.length_cons, List.length_nil, eq_self, true_or, or_true, and_self, implies_true, not_true_eq_false, not_false_eq_true, false_implies, true_implies, forall_const, st_aloadx, st_getfieldx, st_gotox, st_i2cx, st_iaddx, st_iconstx, st_ifCondx, st_if_icmpx, st_in1, st_in2, st_ldcx, kb_Reader_writeDown_0, og_24_12, oo_32, og_24_5, og_24_6, og_24_7, oa_24, oa_32, e5, e6, show (119 : Int32) + nI R.2.2.1 = nI (119 + R.2.2.1) from nk_add 119 _, i2c_nI (show 119 + R.2.2.1 < 128 by omega)]
    refine c_putSign W0 (by decide) (show 119 + R.2.2.1 < 128 by omega) (fun F1 f1 W1 => ?_)
    rw [show ([] : List Nat) ++ [119 + R.2.2.1] = tx3 R by rw [t3, t2]; rfl] at W1
    have f01 := f0.tr f1
    have e7 : F1 24 7 = b2i R.2.1 := by rw [g5 f01]; exact p7
    have tail : ∀ F2 (a : Nat), Wf F F2 → a = (if R.2.1 then 10 else 9) → WX F2 (tx3 R) → am_W kc_Reader_writeDown (am_cl (d + 53)) Q 49 [.ref 24] [.ref a, .ref 32] (ov h F2 J V) := by
      intro F2 a f2 ea W2
      have ew : blk (tx3 R) ++ sgA a = tx5 R := by
        unfold tx5
        rw [ea, t4, if_neg (show ¬ R.1 = 9 by omega)]
        cases R.2.1
        · exact sgA_pwd (by decide) (by decide) (by decide) _
        · exact sg10 _
      have ha3 : 3 ≤ a ∧ a < 23 := by rw [ea]; split <;> decide
      simp only [isO_c, ax0, ex_cons, am_get, upz_at, true_and, and_true, Nat.reduceAdd, Nat.reduceLeDiff, Nat.reduceEqDiff, Nat.reduceSub, Int32.reduceOfInt, Int32.reduceAdd, Int32.reduceMul, Int32.reduceSub, ↓reduceIte, Int32.reduceLT, Int32.reduceLE, Int32.reduceToNatClampNeg, Nat.reduceMod, Nat.reduceLT, List.length_cons, List.length_nil, eq_self, true_or, or_true, and_self, implies_true, not_true_eq_false, not_false_eq_true, false_implies, true_implies, forall_const, st_aloadx, st_getfieldx, st_gotox, st_iconstx, st_ifCondx, st_in2, jx_Reader_writeDown_49, kb_Reader_writeDown_49, oo_32, og_24_12, og_24_11, og_24_8, og_24_7, oa_24, oa_32]
      refine c_putWord hs ha3.1 ha3.2 W2 (by rw [ew]; omega) (fun F3 f3 W3 => ?_)
      rw [ew] at W3
      have f03 := f2.tr f3
      have r7 : F3 24 7 = b2i R.2.1 := by rw [g5 f03]; exact p7
      have r8 : F3 24 8 = nI i1 := by rw [g5 f03]; exact q8
      have last : ∀ kp : Bool, kp = !R.2.1 → am_W kc_Reader_writeDown (am_cl (d + 53)) Q 76 [.ref 24] [.int (b2i kp), .int (nI i1), .ref 26, .ref 32] (ov h F3 J V) := by
        intro kp ek
        have et : txT R.2.2.2.2 (kp && bgT R.2.2.2.2) (tx5 R) = txR R := by
          unfold txR gdR
          rw [ek, decide_eq_true (Or.inl z10), Bool.and_true]
        simp only [isO_c, ax0, ex_cons, am_get, upz_at, true_and, and_true, Nat.reduceAdd, Nat.reduceLeDiff, Nat.reduceEqDiff, Nat.reduceSub, Int32.reduceOfInt, Int32.reduceAdd, Int32.reduceMul, Int32.reduceSub, ↓reduceIte, Int32.reduceLT, Int32.reduceLE, Int32.reduceToNatClampNeg, Nat.reduceMod, Nat.reduceLT, List.length_cons, List.length_nil, eq_self, true_or, or_true, and_self, implies_true, not_true_eq_false, not_false_eq_true, false_implies, true_implies, forall_const, st_gotox, st_in4, jx_Reader_writeDown_76, kb_Reader_writeDown_76, oo_32, oa_32]
        refine c_putTerm hs hw2 (by rw [if_neg (by omega)] at hws; omega) (qT.wf f03) qi (g26 f03) c48 W3 (by rw [et]; omega) (fun F4 f4 W4 => ?_)
        rw [et] at W4
        simp only [isO_c, ax0, ex_cons, am_get, upz_at, true_and, and_true, Nat.reduceAdd, Nat.reduceLeDiff, Nat.reduceEqDiff, Nat.reduceSub, Int32.reduceOfInt, Int32.reduceAdd, Int32.reduceMul, Int32.reduceSub, ↓reduceIte, Int32.reduceLT, Int32.reduceLE, Int32.reduceToNatClampNeg, Nat.reduceMod, Nat.reduceLT, List.length_cons, List.length_nil, eq_self, true_or, or_true, and_self, implies_true, not_true_eq_false, not_false_eq_true, false_implies, true_implies, forall_const, st_gotox, st_in4, jx_Reader_writeDown_76, kb_Reader_writeDown_76, oo_32, oa_32]
        exact fin F4 (f03.tr f4) W4
      simp only [isO_c, ax0, ex_cons, am_get, upz_at, true_and, and_true, Nat.reduceAdd, Nat.reduceLeDiff, Nat.reduceEqDiff, Nat.reduceSub, Int32.reduceOfInt, Int32.reduceAdd, Int32.reduceMul, Int32.reduceSub, ↓reduceIte, Int32.reduceLT, Int32.reduceLE, Int32.reduceToNatClampNeg, Nat.reduceMod, Nat.reduceLT, List.length_cons, List.length_nil, eq_self, true_or, or_true, and_self, implies_true, not_true_eq_false, not_false_eq_true, false_implies, true_implies, forall_const, st_aloadx, st_getfieldx, st_gotox, st_goto_wx, st_iconstx, st_ifCondx, st_in2, jx_Reader_writeDown_49, kb_Reader_writeDown_49, oo_32, og_24_12, og_24_11, og_24_8, og_24_7, jx_Reader_writeDown_75, kb_Reader_writeDown_75, oa_24, oa_32, r7, r8]
      refine ifnb (fun u => last false (by rw [u]; rfl)) (fun u => last true (by rw [u]; rfl))
    simp only [isO_c, ax0, ex_cons, am_get, upz_at, true_and, and_true, Nat.reduceAdd, Nat.reduceLeDiff, Nat.reduceEqDiff, Nat.reduceSub, Int32.reduceOfInt, Int32.reduceAdd, Int32.reduceMul, Int32.reduceSub, ↓reduceIte, Int32.reduceLT, Int32.reduceLE, Int32.reduceToNatClampNeg, Nat.reduceMod, Nat.reduceLT, List.length_cons, List.length_nil, eq_self, true_or, or_true, and_self, implies_true, not_true_eq_false, not_false_eq_true, false_implies, true_implies, forall_const, st_aloadx, st_getfieldx, st_gotox, st_goto_wx, st_i2cx, st_iaddx, st_iconstx, st_ifCondx, st_if_icmpx, st_in1, st_in2, st_ldcx, kb_Reader_writeDown_0, og_24_12, oo_32, og_24_5, og_24_6, og_24_7, jx_Reader_writeDown_47, kb_Reader_writeDown_47, oa_24, oa_32, e7]
    refine ifb (fun u => tail F1 9 f01 (by rw [u]; rfl) W1) (fun u => tail F1 10 f01 (by rw [u]; rfl) W1)
  · by_cases z9 : R.1 = 9
    · have e5 : F0 24 5 = 5 := by rw [g5 f0, p5]; unfold fmR; rw [if_neg z10, if_pos z9]; rfl
      have e7 : F0 24 7 = b2i R.2.1 := by rw [g5 f0]; exact p7
      rw [if_neg (by omega)] at pt
      obtain ⟨i1, q8, q9, qT, qi⟩ := pt
      have t5 : tx5 R = blk [] ++ sgA (if R.2.1 then 20 else 19) := by
        unfold tx5 tx4 tx3 tx2 tx1
        rw [if_pos z9, if_neg z10, if_neg (show ¬ R.1 < 9 by omega), if_neg (show ¬ R.1 = 5 by omega), if_neg z10, z9]
        cases R.2.1
        · exact (sg19 []).symm
        · exact (sg20 []).symm
      have eg : gdR R = false := by unfold gdR; rw [decide_eq_false (by omega), Bool.and_false]
      have et : txT R.2.2.2.2 (false && bgT R.2.2.2.2) (tx5 R) = txR R := by unfold txR; rw [eg]
      have tail : ∀ (a : Nat), a = (if R.2.1 then 20 else 19) → am_W kc_Reader_writeDown (am_cl (d + 53)) Q 108 [.ref 24] [.ref a, .ref 32] (ov h F0 J V) := by
        intro a ea
        have ha3 : 3 ≤ a ∧ a < 23 := by rw [ea]; split <;> decide
        rw [← ea] at t5
        simp only [isO_c, ax0, ex_cons, am_get, upz_at, true_and, and_true, Nat.reduceAdd, Nat.reduceLeDiff, Nat.reduceEqDiff, Nat.reduceSub, Int32.reduceOfInt, Int32.reduceAdd, Int32.reduceMul, Int32.reduceSub, ↓reduceIte, Int32.reduceLT, Int32.reduceLE, Int32.reduceToNatClampNeg, Nat.reduceMod, Nat.reduceLT, List.length_cons, List.length_nil, eq_self, true_or, or_true, and_self, implies_true, not_true_eq_false, not_false_eq_true, false_implies, true_implies, forall_const, st_aloadx, st_getfieldx, st_gotox, st_iconstx, st_in2, st_in4, jx_Reader_writeDown_108, kb_Reader_writeDown_108, oo_32, og_24_12, og_24_11, og_24_8, oa_24, oa_32]
        refine c_putWord hs ha3.1 ha3.2 W0 (by rw [← t5]; omega) (fun F3 f3 W3 => ?_)
        rw [← t5] at W3
        have f03 := f0.tr f3
        have r8 : F3 24 8 = nI i1 := by rw [g5 f03]; exact q8
        simp only [isO_c, ax0, ex_cons, am_get, upz_at, true_and, and_true, Nat.reduceAdd, Nat.reduceLeDiff, Nat.reduceEqDiff, Nat.reduceSub, Int32.reduceOfInt, Int32.reduceAdd, Int32.reduceMul, Int32.reduceSub, ↓reduceIte, Int32.reduceLT, Int32.reduceLE, Int32.reduceToNatClampNeg, Nat.reduceMod, Nat.reduceLT, List.length_cons, List.length_nil, eq_self, true_or, or_true, and_self, implies_true, not_true_eq_false, not_false_eq_true, false_implies, true_implies, forall_const, st_aloadx, st_getfieldx, st_gotox, st_iconstx, st_in2, st_in4, jx_Reader_writeDown_108, kb_Reader_writeDown_108, oo_32, og_24_12, og_24_11, og_24_8, oa_24, oa_32, r8]
        refine c_putTerm (kp := false) hs hw2 (by rw [if_neg (by omega)] at hws; omega) (qT.wf f03) qi (g26 f03) c48 W3 (by rw [et]; omega) (fun F4 f4 W4 => ?_)
        rw [et] at W4
        simp only [isO_c, ax0, ex_cons, am_get, upz_at, true_and, and_true, Nat.reduceAdd, Nat.reduceLeDiff, Nat.reduceEqDiff, Nat.reduceSub, Int32.reduceOfInt, Int32.reduceAdd, Int32.reduceMul, Int32.reduceSub, ↓reduceIte, Int32.reduceLT, Int32.reduceLE, Int32.reduceToNatClampNeg, Nat.reduceMod, Nat.reduceLT, List.length_cons, List.length_nil, eq_self, true_or, or_true, and_self, implies_true, not_true_eq_false, not_false_eq_true, false_implies, true_implies, forall_const, st_aloadx, st_getfieldx, st_gotox, st_iconstx, st_in2, st_in4, jx_Reader_writeDown_108, kb_Reader_writeDown_108, oo_32, og_24_12, og_24_11, og_24_8, oa_24, oa_32]
        exact fin F4 (f03.tr f4) W4
      simp only [isO_c, ax0, ex_cons, am_get, upz_at, true_and, and_true, Nat.reduceAdd, Nat.reduceLeDiff, Nat.reduceEqDiff, Nat.reduceSub, Int32.reduceOfInt, Int32.reduceAdd, Int32.reduceMul, Int32.reduceSub, ↓reduceIte, Int32.reduceLT, Int32.reduceLE, Int32.reduceToNatClampNeg, Nat.reduceMod, Nat.reduceLT, List.length_cons, List.length_nil, eq_self, true_or, or_true, and_self, implies_true, not_true_eq_false, not_false_eq_true, false_implies, true_implies, forall_const, st_aloadx, st_getfieldx, st_gotox, st_goto_wx, st_i2cx, st_iaddx, st_iconstx, st_ifCondx, st_if_icmpx, st_in1, st_in2, st_ldcx, kb_Reader_writeDown_0, og_24_12, oo_32, og_24_5, og_24_6, og_24_7, jx_Reader_writeDown_82, kb_Reader_writeDown_82, jx_Reader_writeDown_106, kb_Reader_writeDown_106, oa_24, oa_32, e5, e7, show ¬ (5 : Int32) = 6 by decide]
      refine ifb (fun u => tail 19 (by rw [u]; rfl)) (fun u => tail 20 (by rw [u]; rfl))
    · have z5 : 1 ≤ R.1 ∧ R.1 ≤ 5 := by omega
      have fm : fmR R = R.1 - 1 := by unfold fmR; rw [if_neg z10, if_neg z9]
      have e5 : F0 24 5 = nI (R.1 - 1) := by rw [g5 f0, p5, fm]
      rw [if_pos (by omega)] at pt
      obtain ⟨i1, i2, q8, q9, qT1, qT2, qi1, qi2⟩ := pt
      have hw1 := (hwf.2.1 (by omega)).1
      rw [if_pos (show R.1 < 9 by omega)] at hws
      have t3 : tx3 R = txT R.2.2.2.1 (false && bgT R.2.2.2.1) (tx2 R) := by unfold tx3; rw [if_pos (by omega)]; rfl
      have t4 : tx4 R = pwd 7 (tx3 R) := by unfold tx4; rw [if_neg z10]
      -- behind the leading words
      have lead : ∀ (a : Nat), 3 ≤ a → a < 23 → blk [] ++ sgA a = tx2 R → am_kk (am_ex (am_cl (d + 53)) (am_W kc_Reader_writeDown (am_cl (d + 53)) Q) Q [(.invokeinterface 171 10, 2), (.aload 0, 0), (.getfield 5, 12), (.aload 0, 0), (.getfield 5, 11), (.aload 0, 0), (.getfield 5, 8), (.iconst 0, 0), (.invokeinterface 172 10, 4), (.aload 0, 0), (.getfield 5, 12), (.aload 0, 0), (.getfield 5, 7), (.ifCond .eq 0, 173), (.ldc 7, 0), (.goto 0, 175)]) [.ref 24] (some (.ref a)) [.ref 32] (ov h F0 J V) := by
        intro a ha1 ha2 ea
        simp only [isO_c, ax0, ex_cons, am_get, upz_at, true_and, and_true, Nat.reduceAdd, Nat.reduceLeDiff, Nat.reduceEqDiff, Nat.reduceSub, Int32.reduceOfInt, Int32.reduceAdd, Int32.reduceMul, Int32.reduceSub, ↓reduceIte, Int32.reduceLT, Int32.reduceLE, Int32.reduceToNatClampNeg, Nat.reduceMod, Nat.reduceLT, List.length_cons, List.length_nil, eq_self, true_or, or_true, and_self, implies_true, not_true_eq_false, not_false_eq_true, false_implies, true_implies, forall_const, st_aloadx, st_getfieldx, st_gotox, st_iconstx, st_ifCondx, st_in1, st_in2, st_in4, st_ldcx, jx_Reader_writeDown_130, kb_Reader_writeDown_130, og_24_12, oo_24, oo_32, og_24_11, og_24_8, og_24_7, oa_24, oa_32]
        refine c_putWord hs ha1 ha2 W0 (by rw [ea]; omega) (fun F1 f1 W1 => ?_)
        rw [ea] at W1
        have f01 := f0.tr f1
        have r8 : F1 24 8 = nI i1 := by rw [g5 f01]; exact q8
        simp only [isO_c, ax0, ex_cons, am_get, upz_at, true_and, and_true, Nat.reduceAdd, Nat.reduceLeDiff, Nat.reduceEqDiff, Nat.reduceSub, Int32.reduceOfInt, Int32.reduceAdd, Int32.reduceMul, Int32.reduceSub, ↓reduceIte, Int32.reduceLT, Int32.reduceLE, Int32.reduceToNatClampNeg, Nat.reduceMod, Nat.reduceLT, List.length_cons, List.length_nil, eq_self, true_or, or_true, and_self, implies_true, not_true_eq_false, not_false_eq_true, false_implies, true_implies, forall_const, st_aloadx, st_getfieldx, st_gotox, st_iconstx, st_ifCondx, st_in1, st_in2, st_in4, st_ldcx, jx_Reader_writeDown_130, kb_Reader_writeDown_130, og_24_12, oo_24, oo_32, og_24_11, og_24_8, og_24_7, oa_24, oa_32, r8]
        refine c_putTerm (kp := false) hs hw1 (by omega) (qT1.wf f01) qi1 (g26 f01) c48 W1 (by rw [← t3]; omega) (fun F2 f2 W2 => ?_)
        rw [← t3] at W2
        have f02 := f01.tr f2
        have r7 : F2 24 7 = b2i R.2.1 := by rw [g5 f02]; exact p7
        have tail : ∀ (a : Nat), a = (if R.2.1 then 7 else 6) → am_W kc_Reader_writeDown (am_cl (d + 53)) Q 175 [.ref 24] [.ref a, .ref 32] (ov h F2 J V) := by
          intro a ea
          have ew : blk (tx3 R) ++ sgA a = tx5 R := by
            unfold tx5
            rw [ea, t4, if_neg z9]
            cases R.2.1
            · exact sgA_pwd (by decide) (by decide) (by decide) _
            · exact sg7 _
          have ha3 : 3 ≤ a ∧ a < 23 := by rw [ea]; split <;> decide
          simp only [isO_c, ax0, ex_cons, am_get, upz_at, true_and, and_true, Nat.reduceAdd, Nat.reduceLeDiff, Nat.reduceEqDiff, Nat.reduceSub, Int32.reduceOfInt, Int32.reduceAdd, Int32.reduceMul, Int32.reduceSub, ↓reduceIte, Int32.reduceLT, Int32.reduceLE, Int32.reduceToNatClampNeg, Nat.reduceMod, Nat.reduceLT, List.length_cons, List.length_nil, eq_self, true_or, or_true, and_self, implies_true, not_true_eq_false, not_false_eq_true, false_implies, true_implies, forall_const, st_aloadx, st_getfieldx, st_gotox, st_iconstx, st_ifCondx, st_if_icmpx, st_in2, jx_Reader_writeDown_175, kb_Reader_writeDown_175, oo_32, og_24_12, og_24_11, og_24_9, og_24_5, og_24_7, oa_24, oa_32]
          refine c_putWord hs ha3.1 ha3.2 W2 (by rw [ew]; omega) (fun F3 f3 W3 => ?_)
          rw [ew] at W3
          have f03 := f02.tr f3
          have s5 : F3 24 5 = nI (R.1 - 1) := by rw [g5 f03, p5, fm]
          have s7 : F3 24 7 = b2i R.2.1 := by rw [g5 f03]; exact p7
          have s9 : F3 24 9 = nI i2 := by rw [g5 f03]; exact q9
          have last : ∀ kp : Bool, kp = gdR R → am_W kc_Reader_writeDown (am_cl (d + 53)) Q 210 [.ref 24] [.int (b2i kp), .int (nI i2), .ref 26, .ref 32] (ov h F3 J V) := by
            intro kp ek
            have et : txT R.2.2.2.2 (kp && bgT R.2.2.2.2) (tx5 R) = txR R := by unfold txR; rw [ek]
            simp only [isO_c, ax0, ex_cons, am_get, upz_at, true_and, and_true, Nat.reduceAdd, Nat.reduceLeDiff, Nat.reduceEqDiff, Nat.reduceSub, Int32.reduceOfInt, Int32.reduceAdd, Int32.reduceMul, Int32.reduceSub, ↓reduceIte, Int32.reduceLT, Int32.reduceLE, Int32.reduceToNatClampNeg, Nat.reduceMod, Nat.reduceLT, List.length_cons, List.length_nil, eq_self, true_or, or_true, and_self, implies_true, not_true_eq_false, not_false_eq_true, false_implies, true_implies, forall_const, st_goto_wx, st_in4, jx_Reader_writeDown_210, kb_Reader_writeDown_210, oo_32, oa_32]
            refine c_putTerm hs hw2 (by omega) (qT2.wf f03) qi2 (g26 f03) c48 W3 (by rw [et]; omega) (fun F4 f4 W4 => ?_)
            rw [et] at W4
            simp only [isO_c, ax0, ex_cons, am_get, upz_at, true_and, and_true, Nat.reduceAdd, Nat.reduceLeDiff, Nat.reduceEqDiff, Nat.reduceSub, Int32.reduceOfInt, Int32.reduceAdd, Int32.reduceMul, Int32.reduceSub, ↓reduceIte, Int32.reduceLT, Int32.reduceLE, Int32.reduceToNatClampNeg, Nat.reduceMod, Nat.reduceLT, List.length_cons, List.length_nil, eq_self, true_or, or_true, and_self, implies_true, not_true_eq_false, not_false_eq_true, false_implies, true_implies, forall_const, st_goto_wx, st_in4, jx_Reader_writeDown_210, kb_Reader_writeDown_210, oo_32, oa_32]
            exact fin F4 (f03.tr f4) W4
          simp only [isO_c, ax0, ex_cons, am_get, upz_at, true_and, and_true, Nat.reduceAdd, Nat.reduceLeDiff, Nat.reduceEqDiff, Nat.reduceSub, Int32.reduceOfInt, Int32.reduceAdd, Int32.reduceMul, Int32.reduceSub, ↓reduceIte, Int32.reduceLT, Int32.reduceLE, Int32.reduceToNatClampNeg, Nat.reduceMod, Nat.reduceLT, List.length_cons, List.length_nil, eq_self, true_or, or_true, and_self, implies_true, not_true_eq_false, not_false_eq_true, false_implies, true_implies, forall_const, st_aloadx, st_getfieldx, st_gotox, st_goto_wx, st_iconstx, st_ifCondx, st_if_icmpx, st_in2, jx_Reader_writeDown_175, kb_Reader_writeDown_175, oo_32, og_24_12, og_24_11, og_24_9, og_24_5, og_24_7, jx_Reader_writeDown_209, kb_Reader_writeDown_209, oa_24, oa_32, s5, s7, s9, show (nI (R.1 - 1) = (2 : Int32)) = (R.1 - 1 = 2) from nk_eq (b := 2) (by omega) (by decide)]
          refine ⟨fun u => last false ?_, fun u => ?_⟩
          · unfold gdR
            rw [decide_eq_false (by omega), Bool.and_false]
          · have u := Classical.not_not.mp u
            have eg : gdR R = !R.2.1 := by unfold gdR; rw [decide_eq_true (by omega), Bool.and_true]
            refine ifnb (fun v => last false (by rw [eg, v]; rfl)) (fun v => last true (by rw [eg, v]; rfl))
        simp only [isO_c, ax0, ex_cons, am_get, upz_at, true_and, and_true, Nat.reduceAdd, Nat.reduceLeDiff, Nat.reduceEqDiff, Nat.reduceSub, Int32.reduceOfInt, Int32.reduceAdd, Int32.reduceMul, Int32.reduceSub, ↓reduceIte, Int32.reduceLT, Int32.reduceLE, Int32.reduceToNatClampNeg, Nat.reduceMod, Nat.reduceLT, List.length_cons, List.length_nil, eq_self, true_or, or_true, and_self, implies_true, not_true_eq_false, not_false_eq_true, false_implies, true_implies, forall_const, st_aloadx, st_getfieldx, st_gotox, st_goto_wx, st_iconstx, st_ifCondx, st_in1, st_in2, st_in4, st_ldcx, jx_Reader_writeDown_130, kb_Reader_writeDown_130, og_24_12, oo_24, oo_32, og_24_11, og_24_8, og_24_7, jx_Reader_writeDown_173, kb_Reader_writeDown_173, oa_24, oa_32, r7]
        refine ifb (fun u => tail 6 (by rw [u]; rfl)) (fun u => tail 7 (by rw [u]; rfl))
      simp only [isO_c, ax0, ex_cons, am_get, upz_at, true_and, and_true, Nat.reduceAdd, Nat.reduceLeDiff, Nat.reduceEqDiff, Nat.reduceSub, Int32.reduceOfInt, Int32.reduceAdd, Int32.reduceMul, Int32.reduceSub, ↓reduceIte, Int32.reduceLT, Int32.reduceLE, Int32.reduceToNatClampNeg, Nat.reduceMod, Nat.reduceLT, List.length_cons, List.length_nil, eq_self, true_or, or_true, and_self, implies_true, not_true_eq_false, not_false_eq_true, false_implies, true_implies, forall_const, st_aloadx, st_getfieldx, st_gotox, st_i2cx, st_iaddx, st_iconstx, st_ifCondx, st_if_icmpx, st_in1, st_in2, st_in4, st_ldcx, kb_Reader_writeDown_0, og_24_12, oo_32, og_24_5, og_24_6, og_24_7, jx_Reader_writeDown_82, kb_Reader_writeDown_82, jx_Reader_writeDown_130, kb_Reader_writeDown_130, oo_24, og_24_11, og_24_8, oa_24, oa_32, e5, show (nI (R.1 - 1) = (6 : Int32)) = (R.1 - 1 = 6) from nk_eq (b := 6) (by omega) (by decide), show (nI (R.1 - 1) = (5 : Int32)) = (R.1 - 1 = 5) from nk_eq (b := 5) (by omega) (by decide), show ¬ R.1 - 1 = 6 by omega, show ¬ R.1 - 1 = 5 by omega]
      have t2 : ∀ f, R.1 = f → f ≠ 5 → f ≠ 10 → tx2 R = pwd f [] := fun f ef n5 n10 => by unfold tx2 tx1; rw [if_neg (by omega), if_neg (by omega), ef]
      simp only [isO_c, ax0, ex_cons, am_get, upz_at, true_and, and_true, Nat.reduceAdd, Nat.reduceLeDiff, Nat.reduceEqDiff, Nat.reduceSub, Int32.reduceOfInt, Int32.reduceAdd, Int32.reduceMul, Int32.reduceSub, ↓reduceIte, Int32.reduceLT, Int32.reduceLE, Int32.reduceToNatClampNeg, Nat.reduceMod, Nat.reduceLT, List.length_cons, List.length_nil, eq_self, true_or, or_true, and_self, implies_true, not_true_eq_false, not_false_eq_true, false_implies, true_implies, forall_const, st_aloadx, st_getfieldx, st_lookupswitchx, kb_Reader_leadingWords_0, og_24_5, oa_24, cx_Reader_leadingWords, e5, am_sw]
      rcases (show R.1 = 1 ∨ R.1 = 2 ∨ R.1 = 3 ∨ R.1 = 4 ∨ R.1 = 5 by omega) with e | e | e | e | e
      · rw [e]
        refine ⟨fun _ => ?_, fun u => absurd rfl u⟩
        simp only [show Int.toNat 36 = 36 from rfl, isO_c, ax0, ex_cons, am_get, upz_at, true_and, and_true, Nat.reduceAdd, Nat.reduceLeDiff, Nat.reduceEqDiff, Nat.reduceSub, Int32.reduceOfInt, Int32.reduceAdd, Int32.reduceMul, Int32.reduceSub, ↓reduceIte, Int32.reduceLT, Int32.reduceLE, Int32.reduceToNatClampNeg, Nat.reduceMod, Nat.reduceLT, List.length_cons, List.length_nil, eq_self, true_or, or_true, and_self, implies_true, not_true_eq_false, not_false_eq_true, false_implies, true_implies, forall_const, st_areturnx, st_areturn_1x, st_ldcx, jx_Reader_leadingWords_36, kb_Reader_leadingWords_36]
        exact lead 5 (by decide) (by decide) (by rw [t2 1 e (by decide) (by decide)]; exact sgA_pwd (by decide) (by decide) (by decide) _)
      · rw [e]
        refine ⟨fun u => absurd u (by decide), fun _ => ⟨fun _ => ?_, fun u => absurd rfl u⟩⟩
        simp only [show Int.toNat 39 = 39 from rfl, isO_c, ax0, ex_cons, am_get, upz_at, true_and, and_true, Nat.reduceAdd, Nat.reduceLeDiff, Nat.reduceEqDiff, Nat.reduceSub, Int32.reduceOfInt, Int32.reduceAdd, Int32.reduceMul, Int32.reduceSub, ↓reduceIte, Int32.reduceLT, Int32.reduceLE, Int32.reduceToNatClampNeg, Nat.reduceMod, Nat.reduceLT, List.length_cons, List.length_nil, eq_self, true_or, or_true, and_self, implies_true, not_true_eq_false, not_false_eq_true, false_implies, true_implies, forall_const, st_areturnx, st_areturn_1x, st_ldcx, jx_Reader_leadingWords_39, kb_Reader_leadingWords_39]
        exact lead 11 (by decide) (by decide) (by rw [t2 2 e (by decide) (by decide)]; exact sgA_pwd (by decide) (by decide) (by decide) _)
      · rw [e]
        refine ⟨fun u => absurd u (by decide), fun _ => ⟨fun u => absurd u (by decide), fun _ => ⟨fun _ => ?_, fun u => absurd rfl u⟩⟩⟩
        simp only [show Int.toNat 42 = 42 from rfl, isO_c, ax0, ex_cons, am_get, upz_at, true_and, and_true, Nat.reduceAdd, Nat.reduceLeDiff, Nat.reduceEqDiff, Nat.reduceSub, Int32.reduceOfInt, Int32.reduceAdd, Int32.reduceMul, Int32.reduceSub, ↓reduceIte, Int32.reduceLT, Int32.reduceLE, Int32.reduceToNatClampNeg, Nat.reduceMod, Nat.reduceLT, List.length_cons, List.length_nil, eq_self, true_or, or_true, and_self, implies_true, not_true_eq_false, not_false_eq_true, false_implies, true_implies, forall_const, st_areturnx, st_areturn_1x, st_ldcx, jx_Reader_leadingWords_42, kb_Reader_leadingWords_42]
        exact lead 17 (by decide) (by decide) (by rw [t2 3 e (by decide) (by decide)]; exact sgA_pwd (by decide) (by decide) (by decide) _)
      · rw [e]
        refine ⟨fun u => absurd u (by decide), fun _ => ⟨fun u => absurd u (by decide), fun _ => ⟨fun u => absurd u (by decide), fun _ => ⟨fun _ => ?_, fun u => absurd rfl u⟩⟩⟩⟩
        simp only [show Int.toNat 45 = 45 from rfl, isO_c, ax0, ex_cons, am_get, upz_at, true_and, and_true, Nat.reduceAdd, Nat.reduceLeDiff, Nat.reduceEqDiff, Nat.reduceSub, Int32.reduceOfInt, Int32.reduceAdd, Int32.reduceMul, Int32.reduceSub, ↓reduceIte, Int32.reduceLT, Int32.reduceLE, Int32.reduceToNatClampNeg, Nat.reduceMod, Nat.reduceLT, List.length_cons, List.length_nil, eq_self, true_or, or_true, and_self, implies_true, not_true_eq_false, not_false_eq_true, false_implies, true_implies, forall_const, st_areturnx, st_areturn_1x, st_ldcx, jx_Reader_leadingWords_45, kb_Reader_leadingWords_45]
        exact lead 15 (by decide) (by decide) (by rw [t2 4 e (by decide) (by decide)]; exact sgA_pwd (by decide) (by decide) (by decide) _)
      · rw [e]
        refine ⟨fun u => absurd u (by decide), fun _ => ⟨fun u => absurd u (by decide), fun _ => ⟨fun u => absurd u (by decide), fun _ => ⟨fun u => absurd u (by decide), fun _ => ?_⟩⟩⟩⟩
        simp only [isO_c, ax0, ex_cons, am_get, upz_at, true_and, and_true, Nat.reduceAdd, Nat.reduceLeDiff, Nat.reduceEqDiff, Nat.reduceSub, Int32.reduceOfInt, Int32.reduceAdd, Int32.reduceMul, Int32.reduceSub, ↓reduceIte, Int32.reduceLT, Int32.reduceLE, Int32.reduceToNatClampNeg, Nat.reduceMod, Nat.reduceLT, List.length_cons, List.length_nil, eq_self, true_or, or_true, and_self, implies_true, not_true_eq_false, not_false_eq_true, false_implies, true_implies, forall_const, st_areturnx, st_areturn_1x, st_ldcx, jx_Reader_leadingWords_48, kb_Reader_leadingWords_48]
        refine lead 13 (by decide) (by decide) ?_
        unfold tx2 tx1
        rw [if_pos e, if_neg z10, e]
        exact sg13 []
end CDM
