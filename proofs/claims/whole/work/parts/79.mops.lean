/-! ===== the model: write, take, existence, end, feed, fault, status, count ===== -/
theorem mR.mv {k k' : Nat → Int32} {s t : Nat} {R : rT} (h : mR k s R) (e : ∀ j, j < 183 → k' (183 * t + j) = k (183 * s + j)) : mR k' t R := by
  obtain ⟨h1, ⟨a1, a2, a3, a4, a5, a6⟩, ⟨c1, c2, c3, c4, c5, c6⟩⟩ := h
  have e0 : k' (183 * t) = k (183 * s) := e 0 (by decide)
  have hl := h1.2.2.2.1
  refine ⟨h1, ⟨by rw [e0]; exact a1, by rw [e 1 (by decide)]; exact a2, by rw [e 2 (by decide)]; exact a3, by rw [e 3 (by decide)]; exact a4, by rw [e 4 (by decide)]; exact a5, fun i hi => ?_⟩, ⟨by rw [e 165 (by decide)]; exact c1, c2, by rw [e 166 (by decide)]; exact c3, fun q => ?_, fun r hr => ?_, fun r hr => ?_⟩⟩
  · rw [List.length_append] at hi
    rw [Nat.add_assoc, e (5 + i) (by omega), ← Nat.add_assoc]
    exact a6 i (by rw [List.length_append]; exact hi)
  · rw [e 2 (by decide)]; exact c4 q
  · rw [bI_congr hr (y := fun i => k (183 * s + 167 + i)) (fun j hj => ?_)]
    · exact c5 r hr
    · rw [Nat.add_assoc, e (167 + j) (by omega), ← Nat.add_assoc]
  · rw [bI_congr hr (y := fun i => k (183 * s + 175 + i)) (fun j hj => ?_)]
    · exact c6 r hr
    · rw [Nat.add_assoc, e (175 + j) (by omega), ← Nat.add_assoc]
def sRw (D : dT) (i : Nat) (R : rT) : dT := (D.1, upz D.2.1 i R, D.2.2)
def xWrite (A : aT) (x : Int32) : aT × Int32 := if slB (aD A).1 x then (if (aD A).2.2.1 then xGd (wD A (sRw (aD A) x.toNatClampNeg ((aD A).2.1 12))) 0 else xRf A (-3) 3) else xRf A (-2) 2
def xTake (A : aT) (x : Int32) : aT × Int32 := if slB (aD A).1 x then xGd (wD A ((aD A).1, upz (aD A).2.1 12 ((aD A).2.1 x.toNatClampNeg), true, (aD A).2.2.2)) 0 else xRf A (-2) 2
def xExist (A : aT) (x : Int32) : aT × Int32 := if lieB x 0 1 then xGd (wD A ((aD A).1, (aD A).2.1, (aD A).2.2.1, decide (x = 1))) (b2i (aD A).2.2.2) else xRf A (-1) 1
def xEnd (A : aT) (x : Int32) : aT × Int32 := if lieB x 0 (nI (aTp A).1) then (wTp A (x.toNatClampNeg, (aTp A).2), x) else (A, -1)
def fdB (x : Int32) (i : Nat) : Int32 := (x >>> (nI (24 - 8 * i) &&& 31)).toInt8.toInt32
def fdF (a b c d e : Int32) (k : Nat) : Int32 := fdB (if k / 4 = 0 then a else if k / 4 = 1 then b else if k / 4 = 2 then c else if k / 4 = 3 then d else e) (k % 4)
def xFeed (A : aT) (a b c d e : Int32) : aT × Int32 := if (aTp A).1 ≤ 380 then (wTp A ((aTp A).1 + 20, ovr (aTp A).2 (fun k => fdF a b c d e (k - (aTp A).1)) (aTp A).1 20), nI ((aTp A).1 + 20)) else (A, -1)
def aCount (A : aT) (x : Int32) : Int32 := if x = 0 then nI (aD A).1 else if x = 1 then b2i (aD A).2.2.1 else if x = 2 then nI (aB A).1 else if x = 3 then b2i (aD A).2.2.2 else if x = 4 then nI (aTp A).1 else if x = 5 then aRf A 1 else if x = 6 then aRf A 2 else if x = 7 then aRf A 3 else if x = 8 then aRf A 5 else if x = 9 then aRf A 6 else -1
def aBound (A : aT) (x : Int32) : Int32 := if lieB x (-1) (nI (aB A).1 - 1) then (if x = -1 then nI (aB A).1 else b2i ((aB A).2 x.toNatClampNeg).2) else -1
section MOA
variable {d : Nat} {h : am_H} {F : Nat → Nat → Int32} {J : Nat → Nat → Int64} {V : Nat → Nat → Value} {Q : am_Q}
set_option maxRecDepth 20000 in
theorem m_copies {s t : Nat} (hs : s < 14) (ht : t < 14) (hne : s ≠ t) (K : Q none (ov h (upz F 84 (ovr (F 84) (fun j => F 84 (183 * s + (j - 183 * t))) (183 * t) 183)) J V)) : am_cl (d + 1) 207 [.ref 82, .int (nI s), .int (nI t)] (ov h F J V) Q := by
  simp only [ax0, ex_cons, am_get, upz_at, true_and, and_true, Nat.reduceAdd, Nat.reduceLeDiff, Nat.reduceEqDiff, Nat.reduceSub, Int32.reduceOfInt, Int32.reduceAdd, Int32.reduceMul, Int32.reduceSub, ↓reduceIte, Int32.reduceLT, Int32.reduceLE, Int32.reduceToNatClampNeg, Nat.reduceMod, Nat.reduceLT, List.length_cons, List.length_nil, eq_self, true_or, or_true, and_self, implies_true, not_true_eq_false, not_false_eq_true, false_implies, true_implies, forall_const, st_goto_wx, st_iconstx, st_istorex, st_return_x, am_put, am_nlg, cx_Model_copies, kb_Model_copies_0, jx_Model_copies_39, kb_Model_copies_39]
  have e0 : ov h F J V = ov h (upz F 84 (ovr (F 84) (fun j => F 84 (183 * s + (j - 183 * t))) (183 * t) 0)) J V := by rw [upz_ovr0]
  rw [e0]
  refine am_iter 183 (fun k => [.ref 82, .int (nI s), .int (nI t), .int (nI k)]) (fun k => ov h (upz F 84 (ovr (F 84) (fun j => F 84 (183 * s + (j - 183 * t))) (183 * t) k)) J V) (fun _ => True) (fun k hk hI go => ?_) (fun hI => ?_) 0 (by omega) trivial
  · rw [jx_Model_copies_2]
    have go := go trivial
    have e := ovr_S (F 84) (fun j => F 84 (183 * s + (j - 183 * t))) (183 * t) k rfl
    rw [← e, show 183 * t + k - 183 * t = k by omega] at go
    simp only [ax0, ex_cons, am_get, upz_at, true_and, and_true, Nat.reduceAdd, Nat.reduceLeDiff, Nat.reduceEqDiff, Nat.reduceSub, Int32.reduceOfInt, Int32.reduceAdd, Int32.reduceMul, Int32.reduceSub, ↓reduceIte, Int32.reduceLT, Int32.reduceLE, Int32.reduceToNatClampNeg, Nat.reduceMod, Nat.reduceLT, List.length_cons, List.length_nil, eq_self, true_or, or_true, and_self, implies_true, not_true_eq_false, not_false_eq_true, false_implies, true_implies, forall_const, st_aloadx, st_getfieldx, st_gotox, st_iaddx, st_ialoadx, st_iastorex, st_iconstx, st_if_icmpx, st_iincx, st_iloadx, st_imulx, am_put, am_nlg, kb_Model_copies_2, og_82_2, oa_82, oa_84, or_84, ow_84, os_84, show (183 : Int32) * nI (s) = nI (183 * (s)) from nk_mul (183) (s), show (183 : Int32) * nI (t) = nI (183 * (t)) from nk_mul (183) (t), nk_add, nk_neg (show 183 * s + k < 2147483648 by omega), nk_cl (show 183 * s + k < 2147483648 by omega), nk_neg (show 183 * t + k < 2147483648 by omega), nk_cl (show 183 * t + k < 2147483648 by omega), show ((183 : Int32) ≤ nI (k)) = (183 ≤ k) from nk_le (a := 183) (b := k) (by omega) (by omega), show ¬ 183 ≤ k by omega, nk_succ, show 183 * s + k < 2698 by omega, show 183 * t + k < 2698 by omega, upz_upd, ovr_out (show ¬ (183 * t ≤ 183 * s + k ∧ 183 * s + k < 183 * t + k) by omega)]
    exact go
  · rw [jx_Model_copies_2]
    simp only [ax0, ex_cons, am_get, upz_at, true_and, and_true, Nat.reduceAdd, Nat.reduceLeDiff, Nat.reduceEqDiff, Nat.reduceSub, Int32.reduceOfInt, Int32.reduceAdd, Int32.reduceMul, Int32.reduceSub, ↓reduceIte, Int32.reduceLT, Int32.reduceLE, Int32.reduceToNatClampNeg, Nat.reduceMod, Nat.reduceLT, List.length_cons, List.length_nil, eq_self, true_or, or_true, and_self, implies_true, not_true_eq_false, not_false_eq_true, false_implies, true_implies, forall_const, st_aloadx, st_getfieldx, st_gotox, st_iaddx, st_ialoadx, st_iastorex, st_iconstx, st_if_icmpx, st_iincx, st_iloadx, st_imulx, st_return_x, am_put, am_nlg, kb_Model_copies_2, og_82_2, jx_Model_copies_39, kb_Model_copies_39, oa_82, oa_84, or_84, ow_84, os_84, show ((183 : Int32) ≤ nI (183)) = (183 ≤ 183) from nk_le (a := 183) (b := 183) (by omega) (by omega)]
    exact K

theorem cp_at {k : Nat → Int32} {s t : Nat} {j : Nat} (hj : j < 183) : ovr k (fun j => k (183 * s + (j - 183 * t))) (183 * t) 183 (183 * t + j) = k (183 * s + j) := by
  rw [ovr_in (by omega) (by omega), show 183 * t + j - 183 * t = j by omega]
set_option maxRecDepth 20000 in
theorem mo_write {A : aT} (hA : MS F A) {x : Int32} (K : ∀ F', Lo F F' → MS F' (xWrite A x).1 → Q (some (.int (xWrite A x).2)) (ov h F' J V)) : am_cl (d + 3) 208 [.ref 82, .int x] (ov h F J V) Q := by
  have hX := hA.1
  have hD := hX.1
  unfold xWrite at K
  simp only [ax0, ex_cons, am_get, upz_at, true_and, and_true, Nat.reduceAdd, Nat.reduceLeDiff, Nat.reduceEqDiff, Nat.reduceSub, Int32.reduceOfInt, Int32.reduceAdd, Int32.reduceMul, Int32.reduceSub, ↓reduceIte, Int32.reduceLT, Int32.reduceLE, Int32.reduceToNatClampNeg, Nat.reduceMod, Nat.reduceLT, List.length_cons, List.length_nil, eq_self, true_or, or_true, and_self, implies_true, not_true_eq_false, not_false_eq_true, false_implies, true_implies, forall_const, st_aloadx, st_iconstx, st_ifCondx, st_iloadx, st_in2, st_ireturnx, kb_Model_write_0, oo_82, oa_82, cx_Model_write]
  refine m_isSlip hD.1 ?_
  simp only [ax0, ex_cons, am_get, upz_at, true_and, and_true, Nat.reduceAdd, Nat.reduceLeDiff, Nat.reduceEqDiff, Nat.reduceSub, Int32.reduceOfInt, Int32.reduceAdd, Int32.reduceMul, Int32.reduceSub, ↓reduceIte, Int32.reduceLT, Int32.reduceLE, Int32.reduceToNatClampNeg, Nat.reduceMod, Nat.reduceLT, List.length_cons, List.length_nil, eq_self, true_or, or_true, and_self, implies_true, not_true_eq_false, not_false_eq_true, false_implies, true_implies, forall_const, st_aloadx, st_iconstx, st_ifCondx, st_iloadx, st_in2, st_ireturnx, kb_Model_write_0, oo_82, oa_82]
  refine ifnb (fun e => ?_) (fun e => ?_)
  · have e : slB (aD A).1 x = true := e
    rw [e, if_pos rfl] at K
    simp only [ax0, ex_cons, am_get, upz_at, true_and, and_true, Nat.reduceAdd, Nat.reduceLeDiff, Nat.reduceEqDiff, Nat.reduceSub, Int32.reduceOfInt, Int32.reduceAdd, Int32.reduceMul, Int32.reduceSub, ↓reduceIte, Int32.reduceLT, Int32.reduceLE, Int32.reduceToNatClampNeg, Nat.reduceMod, Nat.reduceLT, List.length_cons, List.length_nil, eq_self, true_or, or_true, and_self, implies_true, not_true_eq_false, not_false_eq_true, false_implies, true_implies, forall_const, st_aloadx, st_iconstx, st_ifCondx, st_in1, st_in2, st_ireturnx, jx_Model_write_15, kb_Model_write_15, oo_82, oa_82]
    refine m_isAsked hD.2.2.1 ?_
    simp only [ax0, ex_cons, am_get, upz_at, true_and, and_true, Nat.reduceAdd, Nat.reduceLeDiff, Nat.reduceEqDiff, Nat.reduceSub, Int32.reduceOfInt, Int32.reduceAdd, Int32.reduceMul, Int32.reduceSub, ↓reduceIte, Int32.reduceLT, Int32.reduceLE, Int32.reduceToNatClampNeg, Nat.reduceMod, Nat.reduceLT, List.length_cons, List.length_nil, eq_self, true_or, or_true, and_self, implies_true, not_true_eq_false, not_false_eq_true, false_implies, true_implies, forall_const, st_aloadx, st_iconstx, st_ifCondx, st_in1, st_in2, st_ireturnx, jx_Model_write_15, kb_Model_write_15, oo_82, oa_82]
    refine ifnb (fun e2 => ?_) (fun e2 => ?_)
    · have e2 : (aD A).2.2.1 = true := e2
      rw [e2, if_pos rfl] at K
      obtain ⟨i, ei, hi, ci⟩ := slB_nI hD.2.1 e
      subst ei
      rw [ci] at K
      have h12 := hD.2.1
      simp only [ax0, ex_cons, am_get, upz_at, true_and, and_true, Nat.reduceAdd, Nat.reduceLeDiff, Nat.reduceEqDiff, Nat.reduceSub, Int32.reduceOfInt, Int32.reduceAdd, Int32.reduceMul, Int32.reduceSub, ↓reduceIte, Int32.reduceLT, Int32.reduceLE, Int32.reduceToNatClampNeg, Nat.reduceMod, Nat.reduceLT, List.length_cons, List.length_nil, eq_self, true_or, or_true, and_self, implies_true, not_true_eq_false, not_false_eq_true, false_implies, true_implies, forall_const, st_aloadx, st_iconstx, st_iloadx, st_in2, st_in3, st_ireturnx, jx_Model_write_29, kb_Model_write_29, oo_82, oa_82]
      refine m_copies (s := 12) (t := i) (by decide) (by omega) (by omega) ?_
      simp only [ax0, ex_cons, am_get, upz_at, true_and, and_true, Nat.reduceAdd, Nat.reduceLeDiff, Nat.reduceEqDiff, Nat.reduceSub, Int32.reduceOfInt, Int32.reduceAdd, Int32.reduceMul, Int32.reduceSub, ↓reduceIte, Int32.reduceLT, Int32.reduceLE, Int32.reduceToNatClampNeg, Nat.reduceMod, Nat.reduceLT, List.length_cons, List.length_nil, eq_self, true_or, or_true, and_self, implies_true, not_true_eq_false, not_false_eq_true, false_implies, true_implies, forall_const, st_aloadx, st_iconstx, st_iloadx, st_in2, st_in3, st_ireturnx, jx_Model_write_29, kb_Model_write_29, oo_82, oa_82]
      refine m_good (hA.w84 (X := (sRw (aD A) i ((aD A).2.1 12), A.1.2)) ⟨⟨?_, h12, ?_, ?_, fun j hj => ?_, fun q => ?_⟩, ⟨?_, hX.2.2.1, fun j hj => ?_⟩⟩) (fun F' l m => K F' ((Lo.rf.up (by decide) _).tr l) m)
      · rw [ovr_out (by omega)]; exact hD.1
      · rw [ovr_out (by omega)]; exact hD.2.2.1
      · rw [ovr_out (by omega)]; exact hD.2.2.2.1
      · show mR _ j (upz (aD A).2.1 i ((aD A).2.1 12) j)
        by_cases q : j = i
        · subst q
          rw [upz_eq]
          exact (hD.2.2.2.2.2 e2).mv (fun l hl => cp_at hl)
        · rw [upz_ne _ _ q]
          exact (hD.2.2.2.2.1 j hj).cg (fun l q1 q2 => ovr_out (by omega))
      · show mR _ 12 (upz (aD A).2.1 i ((aD A).2.1 12) 12)
        rw [upz_ne _ _ (by omega)]
        exact (hD.2.2.2.2.2 e2).cg (fun l q1 q2 => ovr_out (by omega))
      · rw [ovr_out (by omega)]; exact hX.2.1
      · exact (hX.2.2.2 j hj).cg (fun l q1 q2 => ovr_out (by omega))
    · have e2 : (aD A).2.2.1 = false := e2
      rw [e2, if_neg Bool.false_ne_true] at K
      exact m_refuses hA rfl (by decide) K
  · have e : slB (aD A).1 x = false := e
    rw [e, if_neg Bool.false_ne_true] at K
    exact m_refuses hA rfl (by decide) K
set_option maxRecDepth 20000 in
theorem mo_take {A : aT} (hA : MS F A) {x : Int32} (K : ∀ F', Lo F F' → MS F' (xTake A x).1 → Q (some (.int (xTake A x).2)) (ov h F' J V)) : am_cl (d + 3) 209 [.ref 82, .int x] (ov h F J V) Q := by
  have hX := hA.1
  have hD := hX.1
  unfold xTake at K
  simp only [ax0, ex_cons, am_get, upz_at, true_and, and_true, Nat.reduceAdd, Nat.reduceLeDiff, Nat.reduceEqDiff, Nat.reduceSub, Int32.reduceOfInt, Int32.reduceAdd, Int32.reduceMul, Int32.reduceSub, ↓reduceIte, Int32.reduceLT, Int32.reduceLE, Int32.reduceToNatClampNeg, Nat.reduceMod, Nat.reduceLT, List.length_cons, List.length_nil, eq_self, true_or, or_true, and_self, implies_true, not_true_eq_false, not_false_eq_true, false_implies, true_implies, forall_const, st_aloadx, st_iconstx, st_ifCondx, st_iloadx, st_in2, st_ireturnx, kb_Model_take_0, oo_82, oa_82, cx_Model_take]
  refine m_isSlip hD.1 ?_
  simp only [ax0, ex_cons, am_get, upz_at, true_and, and_true, Nat.reduceAdd, Nat.reduceLeDiff, Nat.reduceEqDiff, Nat.reduceSub, Int32.reduceOfInt, Int32.reduceAdd, Int32.reduceMul, Int32.reduceSub, ↓reduceIte, Int32.reduceLT, Int32.reduceLE, Int32.reduceToNatClampNeg, Nat.reduceMod, Nat.reduceLT, List.length_cons, List.length_nil, eq_self, true_or, or_true, and_self, implies_true, not_true_eq_false, not_false_eq_true, false_implies, true_implies, forall_const, st_aloadx, st_iconstx, st_ifCondx, st_iloadx, st_in2, st_ireturnx, kb_Model_take_0, oo_82, oa_82]
  refine ifnb (fun e => ?_) (fun e => ?_)
  · have e : slB (aD A).1 x = true := e
    rw [e, if_pos rfl] at K
    obtain ⟨i, ei, hi, ci⟩ := slB_nI hD.2.1 e
    subst ei
    rw [ci] at K
    have h12 := hD.2.1
    simp only [ax0, ex_cons, am_get, upz_at, true_and, and_true, Nat.reduceAdd, Nat.reduceLeDiff, Nat.reduceEqDiff, Nat.reduceSub, Int32.reduceOfInt, Int32.reduceAdd, Int32.reduceMul, Int32.reduceSub, ↓reduceIte, Int32.reduceLT, Int32.reduceLE, Int32.reduceToNatClampNeg, Nat.reduceMod, Nat.reduceLT, List.length_cons, List.length_nil, eq_self, true_or, or_true, and_self, implies_true, not_true_eq_false, not_false_eq_true, false_implies, true_implies, forall_const, st_aloadx, st_getfieldx, st_iastorex, st_iconstx, st_iloadx, st_in2, st_in3, st_ireturnx, jx_Model_take_15, kb_Model_take_15, oo_82, og_82_2, oa_82, oa_84, ow_84, os_84]
    refine m_copies (s := i) (t := 12) (by omega) (by decide) (by omega) ?_
    simp only [ax0, ex_cons, am_get, upz_at, true_and, and_true, Nat.reduceAdd, Nat.reduceLeDiff, Nat.reduceEqDiff, Nat.reduceSub, Int32.reduceOfInt, Int32.reduceAdd, Int32.reduceMul, Int32.reduceSub, ↓reduceIte, Int32.reduceLT, Int32.reduceLE, Int32.reduceToNatClampNeg, Nat.reduceMod, Nat.reduceLT, List.length_cons, List.length_nil, eq_self, true_or, or_true, and_self, implies_true, not_true_eq_false, not_false_eq_true, false_implies, true_implies, forall_const, st_aloadx, st_getfieldx, st_iastorex, st_iconstx, st_iloadx, st_in2, st_in3, st_ireturnx, jx_Model_take_15, kb_Model_take_15, oo_82, og_82_2, oa_82, oa_84, ow_84, os_84, upz_upd]
    refine m_good (hA.w84 (X := (((aD A).1, upz (aD A).2.1 12 ((aD A).2.1 i), true, (aD A).2.2.2), A.1.2)) ⟨⟨?_, h12, ?_, ?_, fun j hj => ?_, fun q => ?_⟩, ⟨?_, hX.2.2.1, fun j hj => ?_⟩⟩) (fun F' l m => K F' ((Lo.rf.up (by decide) _).tr l) m)
    · rw [upz_ne _ _ (by decide), ovr_out (by omega)]; exact hD.1
    · rw [upz_eq]; rfl
    · rw [upz_ne _ _ (by decide), ovr_out (by omega)]; exact hD.2.2.2.1
    · show mR _ j (upz (aD A).2.1 12 ((aD A).2.1 i) j)
      have hj : j < A.1.1.1 := hj
      rw [upz_ne _ _ (by omega)]
      exact (hD.2.2.2.2.1 j hj).cg (fun l q1 q2 => by rw [upz_ne _ _ (by omega)]; exact ovr_out (by omega))
    · show mR _ 12 (upz (aD A).2.1 12 ((aD A).2.1 i) 12)
      rw [upz_eq]
      exact (hD.2.2.2.2.1 i hi).mv (fun l hl => by rw [upz_ne _ _ (by omega)]; exact cp_at (t := 12) hl)
    · rw [upz_ne _ _ (by decide), ovr_out (by omega)]; exact hX.2.1
    · have hj : j < A.1.2.1 := hj
      have := hX.2.2.1
      exact (hX.2.2.2 j hj).cg (fun l q1 q2 => by rw [upz_ne _ _ (by omega)]; exact ovr_out (by omega))
  · have e : slB (aD A).1 x = false := e
    rw [e, if_neg Bool.false_ne_true] at K
    exact m_refuses hA rfl (by decide) K
theorem lie1 {a : Int32} (h : lieB a 0 1 = true) : a = 0 ∨ a = 1 := by
  obtain ⟨k, e, hk, _⟩ := lieB_nI (m := 1) (by decide) h
  rcases (show k = 0 ∨ k = 1 by omega) with q | q <;> subst q
  · exact Or.inl e
  · exact Or.inr e
set_option maxRecDepth 20000 in
theorem mo_existence {A : aT} (hA : MS F A) {x : Int32} (K : ∀ F', Lo F F' → MS F' (xExist A x).1 → Q (some (.int (xExist A x).2)) (ov h F' J V)) : am_cl (d + 2) 210 [.ref 82, .int x] (ov h F J V) Q := by
  have hX := hA.1
  have hD := hX.1
  unfold xExist at K
  simp only [ax0, ex_cons, am_get, upz_at, true_and, and_true, Nat.reduceAdd, Nat.reduceLeDiff, Nat.reduceEqDiff, Nat.reduceSub, Int32.reduceOfInt, Int32.reduceAdd, Int32.reduceMul, Int32.reduceSub, ↓reduceIte, Int32.reduceLT, Int32.reduceLE, Int32.reduceToNatClampNeg, Nat.reduceMod, Nat.reduceLT, List.length_cons, List.length_nil, eq_self, true_or, or_true, and_self, implies_true, not_true_eq_false, not_false_eq_true, false_implies, true_implies, forall_const, st_aloadx, st_iconstx, st_ifCondx, st_iloadx, st_in2, st_st3, st_ireturnx, kb_Model_existence_0, oo_82, oa_82, cx_Model_existence]
  refine m_lies ?_
  simp only [ax0, ex_cons, am_get, upz_at, true_and, and_true, Nat.reduceAdd, Nat.reduceLeDiff, Nat.reduceEqDiff, Nat.reduceSub, Int32.reduceOfInt, Int32.reduceAdd, Int32.reduceMul, Int32.reduceSub, ↓reduceIte, Int32.reduceLT, Int32.reduceLE, Int32.reduceToNatClampNeg, Nat.reduceMod, Nat.reduceLT, List.length_cons, List.length_nil, eq_self, true_or, or_true, and_self, implies_true, not_true_eq_false, not_false_eq_true, false_implies, true_implies, forall_const, st_aloadx, st_iconstx, st_ifCondx, st_iloadx, st_in2, st_st3, st_ireturnx, kb_Model_existence_0, oo_82, oa_82]
  refine ifnb (fun e => ?_) (fun e => ?_)
  · rw [e, if_pos rfl] at K
    simp only [ax0, ex_cons, am_get, upz_at, true_and, and_true, Nat.reduceAdd, Nat.reduceLeDiff, Nat.reduceEqDiff, Nat.reduceSub, Int32.reduceOfInt, Int32.reduceAdd, Int32.reduceMul, Int32.reduceSub, ↓reduceIte, Int32.reduceLT, Int32.reduceLE, Int32.reduceToNatClampNeg, Nat.reduceMod, Nat.reduceLT, List.length_cons, List.length_nil, eq_self, true_or, or_true, and_self, implies_true, not_true_eq_false, not_false_eq_true, false_implies, true_implies, forall_const, st_aloadx, st_getfieldx, st_ialoadx, st_iastorex, st_iconstx, st_iloadx, st_in2, st_ireturnx, st_istorex, am_put, am_nlg, jx_Model_existence_15, kb_Model_existence_15, og_82_2, oo_82, oa_82, oa_84, or_84, ow_84, os_84, hD.2.2.2.1]
    have h12 := hD.2.1
    have hb := hX.2.2.1
    refine m_good (hA.w84 (X := (((aD A).1, (aD A).2.1, (aD A).2.2.1, decide (x = 1)), A.1.2)) ⟨⟨?_, hD.2.1, ?_, ?_, fun j hj => ?_, fun q => ?_⟩, ⟨?_, hX.2.2.1, fun j hj => ?_⟩⟩) (fun F' l m => K F' ((Lo.rf.up (by decide) _).tr l) m)
    · rw [upz_ne _ _ (by decide)]; exact hD.1
    · rw [upz_ne _ _ (by decide)]; exact hD.2.2.1
    · rw [upz_eq]
      rcases lie1 e with q | q <;> subst q <;> rfl
    · have hj : j < A.1.1.1 := hj
      exact (hD.2.2.2.2.1 j hj).cg (fun l q1 q2 => upz_ne _ _ (by omega))
    · exact (hD.2.2.2.2.2 q).cg (fun l q1 q2 => upz_ne _ _ (by omega))
    · rw [upz_ne _ _ (by decide)]; exact hX.2.1
    · have hj : j < A.1.2.1 := hj
      exact (hX.2.2.2 j hj).cg (fun l q1 q2 => upz_ne _ _ (by omega))
  · rw [e, if_neg Bool.false_ne_true] at K
    exact m_refuses hA rfl (by decide) K
theorem MS.tp {F : Nat → Nat → Int32} {A : aT} (h : MS F A) {n : Int32} {m : Nat → Int32} {t : Nat × (Nat → Int32)} (ht : MSt n m t) : MS (upz (upz F 88 m) 82 (upz (F 82) 8 n)) (wTp A t) := by
  obtain ⟨h1, h2, h3, h4, h5, h6, h7, h8⟩ := h
  refine ⟨?_, ?_, ?_, ?_, ?_, ?_, ?_, ?_⟩
  · rw [upz_ne _ _ (by decide), upz_ne _ _ (by decide)]; exact h1
  · rw [upz_ne _ _ (by decide), upz_ne _ _ (by decide), upz_ne _ _ (by decide), upz_ne _ _ (by decide)]; exact h2
  · rw [upz_eq, upz_eq, upz_ne _ _ (by decide), upz_eq]; exact ht
  · rw [upz_eq, upz_ne _ _ (by decide)]; exact h4
  · rw [upz_eq, upz_ne _ _ (by decide)]; exact h5
  · rw [upz_ne _ _ (by decide), upz_ne _ _ (by decide)]; exact h6
  · rw [upz_eq, upz_ne _ _ (by decide), upz_ne _ _ (by decide)]; exact h7.cg (fun i hi => upz_ne _ _ (by omega))
  · rw [upz_ne _ _ (by decide), upz_ne _ _ (by decide)]; exact h8
set_option maxRecDepth 20000 in
theorem mo_end {A : aT} (hA : MS F A) {x : Int32} (K : ∀ F', Lo F F' → MS F' (xEnd A x).1 → Q (some (.int (xEnd A x).2)) (ov h F' J V)) : am_cl (d + 2) 188 [.ref 82, .int x] (ov h F J V) Q := by
  obtain ⟨t1, t2, t3⟩ := hA.2.2.1
  unfold xEnd at K
  simp only [ax0, ex_cons, am_get, upz_at, true_and, and_true, Nat.reduceAdd, Nat.reduceLeDiff, Nat.reduceEqDiff, Nat.reduceSub, Int32.reduceOfInt, Int32.reduceAdd, Int32.reduceMul, Int32.reduceSub, ↓reduceIte, Int32.reduceLT, Int32.reduceLE, Int32.reduceToNatClampNeg, Nat.reduceMod, Nat.reduceLT, List.length_cons, List.length_nil, eq_self, true_or, or_true, and_self, implies_true, not_true_eq_false, not_false_eq_true, false_implies, true_implies, forall_const, st_aloadx, st_getfieldx, st_iconstx, st_ifCondx, st_iloadx, st_st3, st_ireturnx, kb_Model_end_0, og_82_8, oa_82, cx_Model_end, t1]
  refine m_lies ?_
  simp only [ax0, ex_cons, am_get, upz_at, true_and, and_true, Nat.reduceAdd, Nat.reduceLeDiff, Nat.reduceEqDiff, Nat.reduceSub, Int32.reduceOfInt, Int32.reduceAdd, Int32.reduceMul, Int32.reduceSub, ↓reduceIte, Int32.reduceLT, Int32.reduceLE, Int32.reduceToNatClampNeg, Nat.reduceMod, Nat.reduceLT, List.length_cons, List.length_nil, eq_self, true_or, or_true, and_self, implies_true, not_true_eq_false, not_false_eq_true, false_implies, true_implies, forall_const, st_aloadx, st_getfieldx, st_iconstx, st_ifCondx, st_iloadx, st_st3, st_ireturnx, kb_Model_end_0, og_82_8, oa_82]
  refine ifnb (fun e => ?_) (fun e => ?_)
  · have e : lieB x 0 (nI (aTp A).1) = true := e
    rw [e, if_pos rfl] at K
    have t2 : (aTp A).1 ≤ 400 := t2
    obtain ⟨k, ek, hk, ck⟩ := lieB_nI (m := (aTp A).1) (by omega) e
    subst ek
    rw [ck] at K
    simp only [ax0, ex_cons, am_get, upz_at, true_and, and_true, Nat.reduceAdd, Nat.reduceLeDiff, Nat.reduceEqDiff, Nat.reduceSub, Int32.reduceOfInt, Int32.reduceAdd, Int32.reduceMul, Int32.reduceSub, ↓reduceIte, Int32.reduceLT, Int32.reduceLE, Int32.reduceToNatClampNeg, Nat.reduceMod, Nat.reduceLT, List.length_cons, List.length_nil, eq_self, true_or, or_true, and_self, implies_true, not_true_eq_false, not_false_eq_true, false_implies, true_implies, forall_const, st_aloadx, st_iloadx, st_ireturnx, st_putfieldx, jx_Model_end_14, kb_Model_end_14, op_82_8, oa_82, os_82]
    have K := K (upz (upz F 88 (F 88)) 82 (upz (F 82) 8 (nI k))) ((Lo.rf.up (by decide) _).up (by decide) _) (hA.tp (t := (k, (aTp A).2)) ⟨rfl, by show k ≤ 400; omega, fun i hi => t3 i (Nat.lt_of_lt_of_le hi hk)⟩)
    rw [upz_self] at K
    exact K
  · have e : lieB x 0 (nI (aTp A).1) = false := e
    rw [e, if_neg Bool.false_ne_true] at K
    exact K F Lo.rf hA
set_option maxRecDepth 20000 in
theorem mo_fault {A : aT} (hA : MS F A) (K : ∀ F', Lo F F' → MS F' A → Q (some (.int (aFt A))) (ov h F' J V)) : am_cl (d + 2) 206 [.ref 82] (ov h F J V) Q := by
  simp only [ax0, ex_cons, am_get, upz_at, true_and, and_true, Nat.reduceAdd, Nat.reduceLeDiff, Nat.reduceEqDiff, Nat.reduceSub, Int32.reduceOfInt, Int32.reduceAdd, Int32.reduceMul, Int32.reduceSub, ↓reduceIte, Int32.reduceLT, Int32.reduceLE, Int32.reduceToNatClampNeg, Nat.reduceMod, Nat.reduceLT, List.length_cons, List.length_nil, eq_self, true_or, or_true, and_self, implies_true, not_true_eq_false, not_false_eq_true, false_implies, true_implies, forall_const, st_aloadx, st_getfieldx, st_ireturnx, cx_Model_fault, kb_Model_fault_0, og_82_9, oa_82, hA.2.2.2.1]
  exact K F Lo.rf hA
set_option maxRecDepth 20000 in
theorem mo_status {A : aT} (hA : MS F A) (K : ∀ F', Lo F F' → MS F' A → Q (some (.int (aSt A))) (ov h F' J V)) : am_cl (d + 2) 290 [.ref 82] (ov h F J V) Q := by
  simp only [ax0, ex_cons, am_get, upz_at, true_and, and_true, Nat.reduceAdd, Nat.reduceLeDiff, Nat.reduceEqDiff, Nat.reduceSub, Int32.reduceOfInt, Int32.reduceAdd, Int32.reduceMul, Int32.reduceSub, ↓reduceIte, Int32.reduceLT, Int32.reduceLE, Int32.reduceToNatClampNeg, Nat.reduceMod, Nat.reduceLT, List.length_cons, List.length_nil, eq_self, true_or, or_true, and_self, implies_true, not_true_eq_false, not_false_eq_true, false_implies, true_implies, forall_const, st_aloadx, st_getfieldx, st_ireturnx, cx_Model_status, kb_Model_status_0, og_82_0, oa_82, hA.2.2.2.2.1]
  exact K F Lo.rf hA
end MOA
