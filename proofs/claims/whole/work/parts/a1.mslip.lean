/-! ===== the model: slip, question ===== -/
def wRd (A : aT) (f : Int32) : aT := (A.1, A.2.1, (0, A.2.2.1.2), (f, aSt A, aRf A), A.2.2.2.2)
def xSlip (A : aT) : aT × Int32 := if (aD A).1 = 12 then xRf (wTp A (0, (aTp A).2)) (-5) 5 else match rdT (aTp A).2 (aTp A).1 with
  | .inl e => xRf (wRd A (nI e)) (-6) 6
  | .inr R => xGd (wD (wRd A (-1)) ((aD A).1 + 1, upz (aD A).2.1 (aD A).1 R, (aD A).2.2)) (nI (aD A).1)
def xQuest (A : aT) : aT × Int32 := match rdT (aTp A).2 (aTp A).1 with
  | .inl e => xRf (wRd A (nI e)) (-6) 6
  | .inr R => xGd (wD (wRd A (-1)) ((aD A).1, upz (aD A).2.1 12 R, true, (aD A).2.2.2)) 0
/-- the state behind reads, all but what is kept -/
theorem MS.rd {F F' : Nat → Nat → Int32} {A : aT} (hA : MS F A) (p : Pn F F') (h8 : F' 82 8 = 0) {f : Int32} (h9 : F' 82 9 = f) {X : kT} (hX : MX (F' 84) X) : MS F' (wX (wRd A f) X) := by
  obtain ⟨h1, h2, h3, h4, h5, h6, h7, h8'⟩ := hA
  refine ⟨hX, ?_, ⟨h8, Nat.zero_le _, fun i hi => absurd hi (Nat.not_lt_zero i)⟩, h9, ?_, ?_, ?_, ?_⟩
  · rw [p.2.1 85 (by decide), p.2.1 86 (by decide)]; exact h2
  · rw [p.2.2 0 (by decide)]; exact h5
  · rw [p.2.1 83 (by decide)]; exact h6
  · rw [p.2.1 107 (by decide)]; exact h7.cg (fun i hi => p.2.2 i (by omega))
  · rw [p.2.1 87 (by decide)]; exact h8'
section MSL
variable {d : Nat} {h : am_H} {F : Nat → Nat → Int32} {J : Nat → Nat → Int64} {V : Nat → Nat → Value} {Q : am_Q}
set_option maxRecDepth 20000 in
theorem mo_slip {A : aT} (hA : MS F A) (K : ∀ F', Lo F F' → MS F' (xSlip A).1 → Q (some (.int (xSlip A).2)) (ov h F' J V)) : am_cl (d + 35) 204 [.ref 82] (ov h F J V) Q := by
  have hX := hA.1
  have hD := hX.1
  have hd12 : A.1.1.1 ≤ 12 := hD.2.1
  have hb12 : A.1.2.1 ≤ 12 := hX.2.2.1
  unfold xSlip at K
  simp only [ax0, ex_cons, am_get, upz_at, true_and, and_true, Nat.reduceAdd, Nat.reduceLeDiff, Nat.reduceEqDiff, Nat.reduceSub, Int32.reduceOfInt, Int32.reduceAdd, Int32.reduceMul, Int32.reduceSub, ↓reduceIte, Int32.reduceLT, Int32.reduceLE, Int32.reduceToNatClampNeg, Nat.reduceMod, Nat.reduceLT, List.length_cons, List.length_nil, eq_self, true_or, or_true, and_self, implies_true, not_true_eq_false, not_false_eq_true, false_implies, true_implies, forall_const, st_aloadx, st_getfieldx, st_ialoadx, st_iconstx, st_if_icmpx, st_in1, st_in2, st_ireturnx, st_putfieldx, kb_Model_slip_0, oo_82, op_82_8, cx_Model_slips, kb_Model_slips_0, og_82_2, oa_82, os_82, oa_84, or_84, cx_Model_slip, hD.1, show (nI A.1.1.1 = (12 : Int32)) = (A.1.1.1 = 12) from nk_eq (b := 12) (by omega) (by decide)]
  refine And.intro (fun q => ?_) (fun q => ?_)
  · rw [if_neg q] at K
    simp only [ax0, ex_cons, am_get, upz_at, true_and, and_true, Nat.reduceAdd, Nat.reduceLeDiff, Nat.reduceEqDiff, Nat.reduceSub, Int32.reduceOfInt, Int32.reduceAdd, Int32.reduceMul, Int32.reduceSub, ↓reduceIte, Int32.reduceLT, Int32.reduceLE, Int32.reduceToNatClampNeg, Nat.reduceMod, Nat.reduceLT, List.length_cons, List.length_nil, eq_self, true_or, or_true, and_self, implies_true, not_true_eq_false, not_false_eq_true, false_implies, true_implies, forall_const, st_aloadx, st_getfieldx, st_ialoadx, st_iconstx, st_ifCondx, st_in1, st_in2, st_ireturnx, jx_Model_slip_21, kb_Model_slip_21, oo_82, cx_Model_slips, kb_Model_slips_0, og_82_2, oa_82, oa_84, or_84, hD.1]
    refine m_reads (n := (aTp A).1) (t := (aTp A).2) hA.2.2.1.2.1 hA.2.2.1.1 hA.2.2.1.2.2 hA.2.2.2.2.2.2.2 (s := A.1.1.1) (by omega) (fun F1 p1 h8 r1 => ?_)
    cases e : rdT (aTp A).2 (aTp A).1 with
    | inl e1 =>
      rw [e] at K r1
      have hX1 : MX (F1 84) A.1 := by rw [r1.2]; exact hX
      have hM := hA.rd p1 h8 r1.1 hX1
      simp only [ax0, ex_cons, am_get, upz_at, true_and, and_true, Nat.reduceAdd, Nat.reduceLeDiff, Nat.reduceEqDiff, Nat.reduceSub, Int32.reduceOfInt, Int32.reduceAdd, Int32.reduceMul, Int32.reduceSub, ↓reduceIte, Int32.reduceLT, Int32.reduceLE, Int32.reduceToNatClampNeg, Nat.reduceMod, Nat.reduceLT, List.length_cons, List.length_nil, eq_self, true_or, or_true, and_self, implies_true, not_true_eq_false, not_false_eq_true, false_implies, true_implies, forall_const, st_aloadx, st_iconstx, st_ifCondx, st_in1, st_in2, st_ireturnx, jx_Model_slip_21, kb_Model_slip_21, oo_82, oa_82, show isR (Sum.inl e1) = false from rfl, b2i_f]
      exact m_refuses hM rfl (by decide) (fun F' l m => K F' (Lo.tr p1.1 l) m)
    | inr R =>
      rw [e] at K r1
      obtain ⟨r2, r3, r4⟩ := r1
      have h94 : F1 84 2694 = nI A.1.1.1 := by rw [r4 2694 (by omega)]; exact hD.1
      simp only [ax0, ex_cons, am_get, upz_at, true_and, and_true, Nat.reduceAdd, Nat.reduceLeDiff, Nat.reduceEqDiff, Nat.reduceSub, Int32.reduceOfInt, Int32.reduceAdd, Int32.reduceMul, Int32.reduceSub, ↓reduceIte, Int32.reduceLT, Int32.reduceLE, Int32.reduceToNatClampNeg, Nat.reduceMod, Nat.reduceLT, List.length_cons, List.length_nil, eq_self, true_or, or_true, and_self, implies_true, not_true_eq_false, not_false_eq_true, false_implies, true_implies, forall_const, st_aloadx, st_dup2x, st_dup2_1x, st_getfieldx, st_iaddx, st_ialoadx, st_iastorex, st_iconstx, st_ifCondx, st_in1, st_in2, st_ireturnx, st_isubx, jx_Model_slip_21, kb_Model_slip_21, oo_82, jx_Model_slip_39, kb_Model_slip_39, og_82_2, cx_Model_slips, kb_Model_slips_0, oa_82, oa_84, or_84, ow_84, os_84, show isR (Sum.inr R) = true from rfl, b2i_t, h94, nk_succ, nk_sub1]
      have hX1 : MX (upz (F1 84) 2694 (nI (A.1.1.1 + 1))) ((A.1.1.1 + 1, upz A.1.1.2.1 A.1.1.1 R, A.1.1.2.2), A.1.2) := by
        refine ⟨⟨?_, ?_, ?_, ?_, fun j hj => ?_, fun z => ?_⟩, ?_, hX.2.2.1, fun j hj => ?_⟩
        · rw [upz_eq]
        · show A.1.1.1 + 1 ≤ 12; omega
        · rw [upz_ne _ _ (by decide), r4 2695 (by omega)]; exact hD.2.2.1
        · rw [upz_ne _ _ (by decide), r4 2697 (by omega)]; exact hD.2.2.2.1
        · have hj : j < A.1.1.1 + 1 := hj
          show mR _ j (upz A.1.1.2.1 A.1.1.1 R j)
          by_cases z : j = A.1.1.1
          · rw [z, upz_eq]
            exact r3.cg (fun l q1 q2 => upz_ne _ _ (by omega))
          · rw [upz_ne _ _ z]
            exact (hD.2.2.2.2.1 j (by omega)).cg (fun l q1 q2 => by rw [upz_ne _ _ (by omega)]; exact r4 l (by omega))
        · show mR _ 12 (upz A.1.1.2.1 A.1.1.1 R 12)
          rw [upz_ne _ _ (by omega)]
          exact (hD.2.2.2.2.2 z).cg (fun l q1 q2 => by rw [upz_ne _ _ (by omega)]; exact r4 l (by omega))
        · rw [upz_ne _ _ (by decide), r4 2696 (by omega)]; exact hX.2.1
        · have hj : j < A.1.2.1 := hj
          exact (hX.2.2.2 j hj).cg (fun l q1 q2 => by rw [upz_ne _ _ (by omega)]; exact r4 l (by omega))
      have hM := hA.rd (f := -1) (F' := upz F1 84 (upz (F1 84) 2694 (nI (A.1.1.1 + 1)))) (p1.tr pn_84) (by rw [upz_ne _ _ (by decide)]; exact h8) (by rw [upz_ne _ _ (by decide)]; exact r2) (by rw [upz_eq]; exact hX1)
      exact m_good hM (fun F' l m => K F' (Lo.tr (Lo.up p1.1 (by decide) _) l) m)
  · rw [if_pos (Classical.not_not.mp q)] at K
    have hM := hA.tp (n := 0) (m := F 88) (t := (0, (aTp A).2)) ⟨rfl, Nat.zero_le _, fun i hi => absurd hi (Nat.not_lt_zero i)⟩
    rw [upz_self] at hM
    exact m_refuses hM rfl (by decide) (fun F' l m => K F' (Lo.tr (Lo.rf.up (by decide) _) l) m)
set_option maxRecDepth 20000 in
theorem mo_question {A : aT} (hA : MS F A) (K : ∀ F', Lo F F' → MS F' (xQuest A).1 → Q (some (.int (xQuest A).2)) (ov h F' J V)) : am_cl (d + 35) 205 [.ref 82] (ov h F J V) Q := by
  have hX := hA.1
  have hD := hX.1
  have hd12 : A.1.1.1 ≤ 12 := hD.2.1
  have hb12 : A.1.2.1 ≤ 12 := hX.2.2.1
  unfold xQuest at K
  simp only [ax0, ex_cons, am_get, upz_at, true_and, and_true, Nat.reduceAdd, Nat.reduceLeDiff, Nat.reduceEqDiff, Nat.reduceSub, Int32.reduceOfInt, Int32.reduceAdd, Int32.reduceMul, Int32.reduceSub, ↓reduceIte, Int32.reduceLT, Int32.reduceLE, Int32.reduceToNatClampNeg, Nat.reduceMod, Nat.reduceLT, List.length_cons, List.length_nil, eq_self, true_or, or_true, and_self, implies_true, not_true_eq_false, not_false_eq_true, false_implies, true_implies, forall_const, st_aloadx, st_iconstx, st_ifCondx, st_in2, st_ireturnx, kb_Model_question_0, oo_82, oa_82, cx_Model_question]
  refine m_reads (n := (aTp A).1) (t := (aTp A).2) hA.2.2.1.2.1 hA.2.2.1.1 hA.2.2.1.2.2 hA.2.2.2.2.2.2.2 (s := 12) (by decide) (fun F1 p1 h8 r1 => ?_)
  cases e : rdT (aTp A).2 (aTp A).1 with
  | inl e1 =>
    rw [e] at K r1
    have hX1 : MX (F1 84) A.1 := by rw [r1.2]; exact hX
    have hM := hA.rd p1 h8 r1.1 hX1
    simp only [ax0, ex_cons, am_get, upz_at, true_and, and_true, Nat.reduceAdd, Nat.reduceLeDiff, Nat.reduceEqDiff, Nat.reduceSub, Int32.reduceOfInt, Int32.reduceAdd, Int32.reduceMul, Int32.reduceSub, ↓reduceIte, Int32.reduceLT, Int32.reduceLE, Int32.reduceToNatClampNeg, Nat.reduceMod, Nat.reduceLT, List.length_cons, List.length_nil, eq_self, true_or, or_true, and_self, implies_true, not_true_eq_false, not_false_eq_true, false_implies, true_implies, forall_const, st_aloadx, st_iconstx, st_ifCondx, st_in2, st_ireturnx, kb_Model_question_0, oo_82, oa_82, show isR (Sum.inl e1) = false from rfl, b2i_f]
    exact m_refuses hM rfl (by decide) (fun F' l m => K F' (Lo.tr p1.1 l) m)
  | inr R =>
    rw [e] at K r1
    obtain ⟨r2, r3, r4⟩ := r1
    simp only [ax0, ex_cons, am_get, upz_at, true_and, and_true, Nat.reduceAdd, Nat.reduceLeDiff, Nat.reduceEqDiff, Nat.reduceSub, Int32.reduceOfInt, Int32.reduceAdd, Int32.reduceMul, Int32.reduceSub, ↓reduceIte, Int32.reduceLT, Int32.reduceLE, Int32.reduceToNatClampNeg, Nat.reduceMod, Nat.reduceLT, List.length_cons, List.length_nil, eq_self, true_or, or_true, and_self, implies_true, not_true_eq_false, not_false_eq_true, false_implies, true_implies, forall_const, st_aloadx, st_getfieldx, st_iastorex, st_iconstx, st_ifCondx, st_in2, st_ireturnx, kb_Model_question_0, oo_82, jx_Model_question_16, kb_Model_question_16, og_82_2, oa_82, oa_84, ow_84, os_84, show isR (Sum.inr R) = true from rfl, b2i_t]
    have hX1 : MX (upz (F1 84) 2695 1) ((A.1.1.1, upz A.1.1.2.1 12 R, true, A.1.1.2.2.2), A.1.2) := by
      refine ⟨⟨?_, hD.2.1, ?_, ?_, fun j hj => ?_, fun z => ?_⟩, ?_, hX.2.2.1, fun j hj => ?_⟩
      · rw [upz_ne _ _ (by decide), r4 2694 (by omega)]; exact hD.1
      · rw [upz_eq]; rfl
      · rw [upz_ne _ _ (by decide), r4 2697 (by omega)]; exact hD.2.2.2.1
      · have hj : j < A.1.1.1 := hj
        show mR _ j (upz A.1.1.2.1 12 R j)
        rw [upz_ne _ _ (by omega)]
        exact (hD.2.2.2.2.1 j hj).cg (fun l q1 q2 => by rw [upz_ne _ _ (by omega)]; exact r4 l (by omega))
      · show mR _ 12 (upz A.1.1.2.1 12 R 12)
        rw [upz_eq]
        exact r3.cg (fun l q1 q2 => upz_ne _ _ (by omega))
      · rw [upz_ne _ _ (by decide), r4 2696 (by omega)]; exact hX.2.1
      · have hj : j < A.1.2.1 := hj
        exact (hX.2.2.2 j hj).cg (fun l q1 q2 => by rw [upz_ne _ _ (by omega)]; exact r4 l (by omega))
    have hM := hA.rd (f := -1) (F' := upz F1 84 (upz (F1 84) 2695 1)) (p1.tr pn_84) (by rw [upz_ne _ _ (by decide)]; exact h8) (by rw [upz_ne _ _ (by decide)]; exact r2) (by rw [upz_eq]; exact hX1)
    exact m_good hM (fun F' l m => K F' (Lo.tr (Lo.up p1.1 (by decide) _) l) m)
end MSL
