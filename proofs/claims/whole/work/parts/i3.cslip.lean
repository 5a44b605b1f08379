/-! ===== the class: slip and question ===== -/
/-- a heap that grew by a sentence at most -/
def Nw (h h' : am_H) : Prop := (∀ x, x < h.2.1 → h'.1 x = h.1 x) ∧ h.2.1 ≤ h'.2.1 ∧ h'.2.1 ≤ h.2.1 + 4 ∧ h'.2.2 ≤ h.2.2 + 528
theorem Nw.rf {h : am_H} : Nw h h := ⟨fun _ _ => rfl, Nat.le_refl _, Nat.le_add_right _ _, Nat.le_add_right _ _⟩
theorem Nw.hk {h h' : am_H} (n : Nw h h') : Hk h h' := ⟨fun x _ x2 _ => n.1 x x2, n.2.1⟩
theorem ns_nw {h : am_H} {E : am_E} {l : List Nat} {fs fb : Nat → Int64} (hl : l.length ≤ 511) : Nw h (nsH h E l fs fb) := ⟨fun x hx => ns_lo hx, by rw [ns_c]; omega, by rw [ns_c]; omega, by rw [ns_s]; omega⟩
theorem DK.add {h : am_H} {F : Nat → Nat → Int32} {V : Nat → Nat → Value} {X : kT} (hD : DK h F V 34 X) {p : Nat} {R : rT} (hs : SR h p R) (hn : X.1.1 < 12) : DK h (upz F 34 (upz (F 34) 1 (nI (X.1.1 + 1)))) (upz V 35 (upz (V 35) X.1.1 (.ref p))) 34 ((X.1.1 + 1, upz X.1.2.1 X.1.1 R, X.1.2.2), X.2) := by
  obtain ⟨⟨d1, d2, d3⟩, d4, d5, ⟨d6, d7, d8⟩, d9, d10⟩ := hD
  have e37 : (upz F 34 (upz (F 34) 1 (nI (X.1.1 + 1)))) (34 + 3) = F (34 + 3) := upz_ne _ _ (by decide)
  have e36 : (upz V 35 (upz (V 35) X.1.1 (.ref p))) (34 + 2) = V (34 + 2) := upz_ne _ _ (by decide)
  refine ⟨⟨by rw [upz_eq, upz_eq], hn, fun i hi => ?_⟩, ?_, by rw [upz_eq, upz_ne _ _ (by decide)]; exact d5, ⟨by rw [upz_eq, upz_ne _ _ (by decide)]; exact d6, d7, ?_⟩, ?_, ?_⟩
  · have hi : i < X.1.1 + 1 := hi
    rw [show (34 + 1 : Nat) = 35 from rfl, upz_eq]
    show ∃ p, _ ∧ SR h p (upz X.1.2.1 X.1.1 R i)
    by_cases e : i = X.1.1
    · subst e; rw [upz_eq, upz_eq]; exact ⟨p, rfl, hs⟩
    · rw [upz_ne _ _ e, upz_ne _ _ e]; exact d3 i (by omega)
  · rw [upz_ne _ _ (by decide)]
    show if X.1.2.2.1 = true then ∃ p, V 34 2 = .ref p ∧ SR h p (upz X.1.2.1 X.1.1 R 12) else V 34 2 = .null
    rw [upz_ne _ _ (by omega)]
    exact d4
  · rw [e37, e36]; exact d8
  · intro i hi
    rw [e36]
    refine ⟨?_, (d9 i hi).2⟩
    rw [show (34 + 1 : Nat) = 35 from rfl, upz_eq]
    by_cases e : i = X.1.1
    · subst e; rw [upz_eq]; exact Or.inr ⟨p, R, rfl, hs⟩
    · rw [upz_ne _ _ e]; exact (d9 i hi).1
  · rw [e37]; exact d10
theorem CB.rd {h : am_H} {F F' : Nat → Nat → Int32} {V : Nat → Nat → Value} {A : aT} (hA : CB h F V A) (r : Rg F F') (h1 : F' 24 1 = 0) {f : Int32} (h2 : F' 24 2 = f) : CB h F' V (wRd A f) := by
  obtain ⟨_, _, _, _, g5, g6, g7⟩ := id hA
  refine hA.lo (fun a a1 a2 => r a (by omega)) rfl rfl ⟨by rw [h1]; rfl, Nat.zero_le _, fun i hi => absurd hi (Nat.not_lt_zero i)⟩ h2 ?_ ?_ ?_
  · rw [r 23 (by decide)]; exact g5
  · intro i hi; rw [r 81 (by decide)]; exact g6 i hi
  · rw [r 23 (by decide), r 80 (by decide)]; exact g7
theorem CB.tp {h : am_H} {F F' : Nat → Nat → Int32} {V : Nat → Nat → Value} {A : aT} (hA : CB h F V A) (r : Rg F F') (h1 : F' 24 1 = 0) (h2 : F' 24 2 = F 24 2) : CB h F' V (wTp A (0, (aTp A).2)) := by
  obtain ⟨_, _, _, g4, g5, g6, g7⟩ := id hA
  refine hA.lo (fun a a1 a2 => r a (by omega)) rfl rfl ⟨by rw [h1]; rfl, Nat.zero_le _, fun i hi => absurd hi (Nat.not_lt_zero i)⟩ (h2.trans g4) ?_ ?_ ?_
  · rw [r 23 (by decide)]; exact g5
  · intro i hi; rw [r 81 (by decide)]; exact g6 i hi
  · rw [r 23 (by decide), r 80 (by decide)]; exact g7
theorem Rg.cx {F F' : Nat → Nat → Int32} (r : Rg F F') : Cx false false F F' := Cx.kp (fun a ha _ _ => r a (by omega))
def rdB (A : aT) : Bool := (rdT (aTp A).2 (aTp A).1).isRight
def xSb (A : aT) : Bool := !decide ((aD A).1 = 12) && rdB A
section CSL
variable {d : Nat} {h : am_H} {F : Nat → Nat → Int32} {J : Nat → Nat → Int64} {V : Nat → Nat → Value} {Q : am_Q}
set_option maxRecDepth 20000 in
theorem co_question (hs : HS h) (hp : HP h) (hh : 108 ≤ h.2.1) {A : aT} (hA : CB h F V A) (hb : byT (aTp A).2 (aTp A).1) (K : ∀ h' F' J' V', Nw h h' → Cx false (rdB A) F F' → Vx V V' → CB h' F' V' (xQuest A).1 → Q (some (.int (xQuest A).2)) (ov h' F' J' V')) : am_cl (d + 56) 12 [.ref 23] (ov h F J V) Q := by
  obtain ⟨t1, t2, t3⟩ := hA.2.2.1
  unfold xQuest rdB at K
  simp only [isO_c, ax0, ex_cons, am_get, upz_at, true_and, and_true, Nat.reduceAdd, Nat.reduceLeDiff, Nat.reduceEqDiff, Nat.reduceSub, Int32.reduceOfInt, Int32.reduceAdd, Int32.reduceMul, Int32.reduceSub, ↓reduceIte, Int32.reduceLT, Int32.reduceLE, Int32.reduceToNatClampNeg, Nat.reduceMod, Nat.reduceLT, List.length_cons, List.length_nil, eq_self, true_or, or_true, and_self, implies_true, not_true_eq_false, not_false_eq_true, false_implies, true_implies, forall_const, st_aloadx, st_astorex, st_astore_1x, st_getfieldx, st_iconstx, st_ifnonnullx, st_ifnonnull_1x, st_in1, st_in2, st_ireturnx, am_put, am_nlg, kb_Slips_question_0, og_23_0, oo_24, oo_23, oa_23, oa_24, cx_Slips_question]
  refine c_read hs hp hh (t := (aTp A).2) (n := (aTp A).1) ⟨t1, t2, t3⟩ hb (fun F1 e er r1 g1 g2 => ?_) (fun F1 J1 R fs fb er r1 g1 g2 j1 oR sr => ?_)
  · rw [er] at K
    simp only [isO_c, ax0, ex_cons, am_get, upz_at, true_and, and_true, Nat.reduceAdd, Nat.reduceLeDiff, Nat.reduceEqDiff, Nat.reduceSub, Int32.reduceOfInt, Int32.reduceAdd, Int32.reduceMul, Int32.reduceSub, ↓reduceIte, Int32.reduceLT, Int32.reduceLE, Int32.reduceToNatClampNeg, Nat.reduceMod, Nat.reduceLT, List.length_cons, List.length_nil, eq_self, true_or, or_true, and_self, implies_true, not_true_eq_false, not_false_eq_true, false_implies, true_implies, forall_const, st_aloadx, st_astorex, st_astore_1x, st_getfieldx, st_iconstx, st_ifnonnullx, st_ifnonnull_1x, st_in1, st_in2, st_ireturnx, am_put, am_nlg, kb_Slips_question_0, og_23_0, oo_24, oo_23, oa_23, oa_24]
    refine c_refuse (hA.rd r1 g1 g2) (j := 4) (Or.inr (Or.inr (Or.inr (Or.inr ⟨rfl, rfl⟩)))) (fun F2 c m => ?_)
    simp only [isO_c, ax0, ex_cons, am_get, upz_at, true_and, and_true, Nat.reduceAdd, Nat.reduceLeDiff, Nat.reduceEqDiff, Nat.reduceSub, Int32.reduceOfInt, Int32.reduceAdd, Int32.reduceMul, Int32.reduceSub, ↓reduceIte, Int32.reduceLT, Int32.reduceLE, Int32.reduceToNatClampNeg, Nat.reduceMod, Nat.reduceLT, List.length_cons, List.length_nil, eq_self, true_or, or_true, and_self, implies_true, not_true_eq_false, not_false_eq_true, false_implies, true_implies, forall_const, st_aloadx, st_astorex, st_astore_1x, st_getfieldx, st_iconstx, st_ifnonnullx, st_ifnonnull_1x, st_in1, st_in2, st_ireturnx, am_put, am_nlg, kb_Slips_question_0, og_23_0, oo_24, oo_23, oa_23, oa_24]
    exact K h F2 J V Nw.rf (r1.cx.tr c) Vx.rf m
  · rw [er] at K
    have nw := ns_nw (h := h) (E := oS h.2.1 R) (fs := fs) (fb := fb) (txR_b oR)
    simp only [isO_c, ax0, ex_cons, am_get, upz_at, true_and, and_true, Nat.reduceAdd, Nat.reduceLeDiff, Nat.reduceEqDiff, Nat.reduceSub, Int32.reduceOfInt, Int32.reduceAdd, Int32.reduceMul, Int32.reduceSub, ↓reduceIte, Int32.reduceLT, Int32.reduceLE, Int32.reduceToNatClampNeg, Nat.reduceMod, Nat.reduceLT, List.length_cons, List.length_nil, eq_self, true_or, or_true, and_self, implies_true, not_true_eq_false, not_false_eq_true, false_implies, true_implies, forall_const, st_aloadx, st_astorex, st_astore_1x, st_getfieldx, st_iconstx, st_ifnonnullx, st_ifnonnull_1x, st_in1, st_in2, st_ireturnx, am_put, am_nlg, kb_Slips_question_0, og_23_0, oo_24, oo_23, jx_Slips_question_19, kb_Slips_question_19, oa_23, oa_24]
    refine c_ask ((hA.hk nw.hk).rd r1 g1 g2) sr (fun F2 V2 c v m => ?_)
    simp only [isO_c, ax0, ex_cons, am_get, upz_at, true_and, and_true, Nat.reduceAdd, Nat.reduceLeDiff, Nat.reduceEqDiff, Nat.reduceSub, Int32.reduceOfInt, Int32.reduceAdd, Int32.reduceMul, Int32.reduceSub, ↓reduceIte, Int32.reduceLT, Int32.reduceLE, Int32.reduceToNatClampNeg, Nat.reduceMod, Nat.reduceLT, List.length_cons, List.length_nil, eq_self, true_or, or_true, and_self, implies_true, not_true_eq_false, not_false_eq_true, false_implies, true_implies, forall_const, st_aloadx, st_in2, st_ireturnx, jx_Slips_question_19, kb_Slips_question_19, oo_23, oa_23]
    exact K _ F2 J1 V2 nw (r1.cx.tr c) v m
set_option maxRecDepth 20000 in
theorem co_slip (hs : HS h) (hp : HP h) (hh : 108 ≤ h.2.1) {A : aT} (hA : CB h F V A) (hb : byT (aTp A).2 (aTp A).1) (K : ∀ h' F' J' V', Nw h h' → Cx (xSb A) false F F' → Vx V V' → CB h' F' V' (xSlip A).1 → Q (some (.int (xSlip A).2)) (ov h' F' J' V')) : am_cl (d + 56) 11 [.ref 23] (ov h F J V) Q := by
  obtain ⟨t1, t2, t3⟩ := hA.2.2.1
  have hn : (aD A).1 ≤ 12 := hA.1.1.2.1
  have f34 : F 34 1 = nI (aD A).1 := hA.1.1.1
  unfold xSlip xSb rdB at K
  simp only [isO_c, ax0, ex_cons, am_get, upz_at, true_and, and_true, Nat.reduceAdd, Nat.reduceLeDiff, Nat.reduceEqDiff, Nat.reduceSub, Int32.reduceOfInt, Int32.reduceAdd, Int32.reduceMul, Int32.reduceSub, ↓reduceIte, Int32.reduceLT, Int32.reduceLE, Int32.reduceToNatClampNeg, Nat.reduceMod, Nat.reduceLT, List.length_cons, List.length_nil, eq_self, true_or, or_true, and_self, implies_true, not_true_eq_false, not_false_eq_true, false_implies, true_implies, forall_const, st_aloadx, st_getfieldx, st_iconstx, st_if_icmpx, st_in2, st_ireturnx, st_putfieldx, kb_Slips_slip_0, og_23_1, og_34_1, og_23_0, op_24_1, oo_23, oa_23, oa_24, oa_34, os_24, cx_Slips_slip, f34, show (nI (aD A).1 < (12 : Int32)) = ((aD A).1 < 12) from nk_lt (b := 12) (by omega) (by decide)]
  refine ⟨fun z => ?_, fun z => ?_⟩
  · have n12 : ¬ (aD A).1 = 12 := by omega
    rw [if_neg n12, decide_eq_false n12] at K
    simp only [isO_c, ax0, ex_cons, am_get, upz_at, true_and, and_true, Nat.reduceAdd, Nat.reduceLeDiff, Nat.reduceEqDiff, Nat.reduceSub, Int32.reduceOfInt, Int32.reduceAdd, Int32.reduceMul, Int32.reduceSub, ↓reduceIte, Int32.reduceLT, Int32.reduceLE, Int32.reduceToNatClampNeg, Nat.reduceMod, Nat.reduceLT, List.length_cons, List.length_nil, eq_self, true_or, or_true, and_self, implies_true, not_true_eq_false, not_false_eq_true, false_implies, true_implies, forall_const, st_aloadx, st_astorex, st_astore_1x, st_getfieldx, st_iconstx, st_ifnonnullx, st_ifnonnull_1x, st_in1, st_in2, st_ireturnx, am_put, am_nlg, jx_Slips_slip_27, kb_Slips_slip_27, og_23_0, oo_24, oo_23, oa_23, oa_24]
    refine c_read hs hp hh (t := (aTp A).2) (n := (aTp A).1) ⟨t1, t2, t3⟩ hb (fun F1 e er r1 g1 g2 => ?_) (fun F1 J1 R fs fb er r1 g1 g2 j1 oR sr => ?_)
    · rw [er] at K
      simp only [isO_c, ax0, ex_cons, am_get, upz_at, true_and, and_true, Nat.reduceAdd, Nat.reduceLeDiff, Nat.reduceEqDiff, Nat.reduceSub, Int32.reduceOfInt, Int32.reduceAdd, Int32.reduceMul, Int32.reduceSub, ↓reduceIte, Int32.reduceLT, Int32.reduceLE, Int32.reduceToNatClampNeg, Nat.reduceMod, Nat.reduceLT, List.length_cons, List.length_nil, eq_self, true_or, or_true, and_self, implies_true, not_true_eq_false, not_false_eq_true, false_implies, true_implies, forall_const, st_aloadx, st_astorex, st_astore_1x, st_getfieldx, st_iconstx, st_ifnonnullx, st_ifnonnull_1x, st_in1, st_in2, st_ireturnx, am_put, am_nlg, jx_Slips_slip_27, kb_Slips_slip_27, og_23_0, oo_24, oo_23, oa_23, oa_24]
      refine c_refuse (hA.rd r1 g1 g2) (j := 4) (Or.inr (Or.inr (Or.inr (Or.inr ⟨rfl, rfl⟩)))) (fun F2 c m => ?_)
      simp only [isO_c, ax0, ex_cons, am_get, upz_at, true_and, and_true, Nat.reduceAdd, Nat.reduceLeDiff, Nat.reduceEqDiff, Nat.reduceSub, Int32.reduceOfInt, Int32.reduceAdd, Int32.reduceMul, Int32.reduceSub, ↓reduceIte, Int32.reduceLT, Int32.reduceLE, Int32.reduceToNatClampNeg, Nat.reduceMod, Nat.reduceLT, List.length_cons, List.length_nil, eq_self, true_or, or_true, and_self, implies_true, not_true_eq_false, not_false_eq_true, false_implies, true_implies, forall_const, st_aloadx, st_astorex, st_astore_1x, st_getfieldx, st_iconstx, st_ifnonnullx, st_ifnonnull_1x, st_in1, st_in2, st_ireturnx, am_put, am_nlg, jx_Slips_slip_27, kb_Slips_slip_27, og_23_0, oo_24, oo_23, oa_23, oa_24]
      exact K h F2 J V Nw.rf (r1.cx.tr c) Vx.rf m
    · rw [er] at K
      have nw := ns_nw (h := h) (E := oS h.2.1 R) (fs := fs) (fb := fb) (txR_b oR)
      have f1 : F1 34 1 = nI (aD A).1 := by rw [r1 34 (by decide)]; exact f34
      have mA := (hA.hk nw.hk).rd r1 g1 g2
      have iO := sr.isO F1 J1 V
      generalize nsH h (oS h.2.1 R) (txR R) fs fb = h1 at nw mA sr iO
      simp only [isO_c, ax0, ex_cons, am_get, upz_at, true_and, and_true, Nat.reduceAdd, Nat.reduceLeDiff, Nat.reduceEqDiff, Nat.reduceSub, Int32.reduceOfInt, Int32.reduceAdd, Int32.reduceMul, Int32.reduceSub, ↓reduceIte, Int32.reduceLT, Int32.reduceLE, Int32.reduceToNatClampNeg, Nat.reduceMod, Nat.reduceLT, List.length_cons, List.length_nil, eq_self, true_or, or_true, and_self, implies_true, not_true_eq_false, not_false_eq_true, false_implies, true_implies, forall_const, st_aastorex, st_aastore_1x, st_aloadx, st_astorex, st_astore_1x, st_getfieldx, st_iaddx, st_iconstx, st_ifnonnullx, st_ifnonnull_1x, st_iloadx, st_in1, st_in2, st_ireturnx, st_istorex, st_putfieldx, am_put, am_nlg, jx_Slips_slip_27, kb_Slips_slip_27, og_23_0, oo_24, oo_23, jx_Slips_slip_46, kb_Slips_slip_46, og_23_1, og_34_1, og_34_0, op_34_1, oa_23, oa_24, oa_34, os_34, oa_35, ow_35, os_35, f1, nk_neg (show (aD A).1 < 2147483648 by omega), nk_cl (show (aD A).1 < 2147483648 by omega), oa_35, or_35, os_35, ow_35, nk_succ, osFy (a := 34) (b := 35) (by decide) (by decide) (by decide)]
      refine ⟨by omega, iO, ?_⟩
      have mB : CB h1 (upz F1 34 (upz (F1 34) 1 (nI ((aD A).1 + 1)))) (upz V 35 (upz (V 35) (aD A).1 (.ref h.2.1))) (wD (wRd A (-1)) ((aD A).1 + 1, upz (aD A).2.1 (aD A).1 R, (aD A).2.2)) := mA.dk (mA.1.add sr z) (fun a q => upz_ne _ _ (by omega)) (Vx.rf.up (by decide) _)
      refine c_forget mB (fun F2 c2 m2 => ?_)
      simp only [isO_c, ax0, ex_cons, am_get, upz_at, true_and, and_true, Nat.reduceAdd, Nat.reduceLeDiff, Nat.reduceEqDiff, Nat.reduceSub, Int32.reduceOfInt, Int32.reduceAdd, Int32.reduceMul, Int32.reduceSub, ↓reduceIte, Int32.reduceLT, Int32.reduceLE, Int32.reduceToNatClampNeg, Nat.reduceMod, Nat.reduceLT, List.length_cons, List.length_nil, eq_self, true_or, or_true, and_self, implies_true, not_true_eq_false, not_false_eq_true, false_implies, true_implies, forall_const, st_aastorex, st_aastore_1x, st_aloadx, st_getfieldx, st_iaddx, st_iconstx, st_iloadx, st_in1, st_in2, st_ireturnx, st_istorex, st_putfieldx, am_put, am_nlg, jx_Slips_slip_46, kb_Slips_slip_46, og_23_1, og_34_1, og_34_0, op_34_1, oo_23, oa_23, oa_34, os_34, oa_35, ow_35, os_35]
      refine c_grant m2 (fun F3 c3 m3 => ?_)
      simp only [isO_c, ax0, ex_cons, am_get, upz_at, true_and, and_true, Nat.reduceAdd, Nat.reduceLeDiff, Nat.reduceEqDiff, Nat.reduceSub, Int32.reduceOfInt, Int32.reduceAdd, Int32.reduceMul, Int32.reduceSub, ↓reduceIte, Int32.reduceLT, Int32.reduceLE, Int32.reduceToNatClampNeg, Nat.reduceMod, Nat.reduceLT, List.length_cons, List.length_nil, eq_self, true_or, or_true, and_self, implies_true, not_true_eq_false, not_false_eq_true, false_implies, true_implies, forall_const, st_aastorex, st_aastore_1x, st_aloadx, st_getfieldx, st_iaddx, st_iconstx, st_iloadx, st_in1, st_in2, st_ireturnx, st_istorex, st_putfieldx, am_put, am_nlg, jx_Slips_slip_46, kb_Slips_slip_46, og_23_1, og_34_1, og_34_0, op_34_1, oo_23, oa_23, oa_34, os_34, oa_35, ow_35, os_35]
      exact K h1 F3 J1 _ nw (((r1.cx.up (Or.inl (by decide)) _).tr c2).tr c3) (Vx.rf.up (by decide) _) m3
  · have n12 : (aD A).1 = 12 := by omega
    rw [if_pos n12, decide_eq_true n12] at K
    have r1 : Rg F (upz F 24 (upz (F 24) 1 0)) := Rg.rf.up 1 _
    refine c_refuse (hA.tp r1 rfl rfl) (j := 3) (Or.inr (Or.inr (Or.inr (Or.inl ⟨rfl, rfl⟩)))) (fun F2 c m => ?_)
    simp only [isO_c, ax0, ex_cons, am_get, upz_at, true_and, and_true, Nat.reduceAdd, Nat.reduceLeDiff, Nat.reduceEqDiff, Nat.reduceSub, Int32.reduceOfInt, Int32.reduceAdd, Int32.reduceMul, Int32.reduceSub, ↓reduceIte, Int32.reduceLT, Int32.reduceLE, Int32.reduceToNatClampNeg, Nat.reduceMod, Nat.reduceLT, List.length_cons, List.length_nil, eq_self, true_or, or_true, and_self, implies_true, not_true_eq_false, not_false_eq_true, false_implies, true_implies, forall_const, st_aloadx, st_getfieldx, st_iconstx, st_if_icmpx, st_in2, st_ireturnx, st_putfieldx, kb_Slips_slip_0, og_23_1, og_34_1, og_23_0, op_24_1, oo_23, oa_23, oa_24, oa_34, os_24]
    exact K h F2 J V Nw.rf (r1.cx.tr c) Vx.rf m
end CSL
