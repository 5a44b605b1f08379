/-! ===== the model: pair ===== -/
theorem isNu_mk {k u v n : Nat} (hk : k < 4) (hu : u < 8) (hv : v < 8) (hne : u ≠ v) (e : n = 64 * k + 8 * u + v) : n < 256 ∧ isNu n = true := by
  have h1 : n / 8 % 8 = u := by omega
  have h2 : n % 8 = v := by omega
  refine ⟨by omega, ?_⟩
  unfold isNu
  rw [h1, h2, decide_eq_false hne]
  rfl
theorem nuR_num {R : rT} (hR : wfR R) {n : Nat} (h : nuR R = some n) : n < 256 ∧ isNu n = true := by
  obtain ⟨w1, w2, ⟨w3, w4⟩, w5, w6⟩ := hR
  unfold nuR at h
  by_cases q : R.1 < 9 ∧ (rC1 R).length = 1 ∧ (rC2 R).length = 1 ∧ (rC1 R).getD 0 0 ≠ (rC2 R).getD 0 0
  · rw [if_pos q] at h
    obtain ⟨hc9, hA, hB, hne⟩ := q
    have ec1 : rC1 R = cdT R.2.2.2.1 := by unfold rC1; rw [if_pos hc9]
    obtain ⟨a, ea, ha⟩ := cdT_one (w2 hc9).1 (by rw [← ec1]; exact hA)
    obtain ⟨b, eb, hb⟩ := cdT_one w3 hB
    have c1 : rC1 R = [a] := by rw [ec1, ea]; rfl
    have c2 : rC2 R = [b] := by unfold rC2; rw [eb]; rfl
    rw [c1, c2] at hne
    rw [c1, c2] at h
    have hne : a ≠ b := hne
    have h : (if R.1 = 1 then 8 * a + b else if R.1 = 2 then 64 + 8 * a + b else if R.1 = 3 then (if R.2.1 then 192 else 128) + 8 * a + b else 8 * b + a) = n := Option.some.inj h
    clear w1 w2 w3 w4 w5 w6
    repeat' split at h
    all_goals (first | exact isNu_mk (k := 0) (by decide) ha hb hne (by omega) | exact isNu_mk (k := 1) (by decide) ha hb hne (by omega) | exact isNu_mk (k := 3) (by decide) ha hb hne (by omega) | exact isNu_mk (k := 2) (by decide) ha hb hne (by omega) | exact isNu_mk (k := 0) (by decide) hb ha (Ne.symm hne) (by omega))
  · rw [if_neg q] at h
    cases h
theorem oI_n : (oI none = -1) = True := eq_true rfl
theorem oI_s (n : Nat) : oI (some n) = nI n := rfl
def aPr (D : dT) (x y : Int32) (g : Nat → Nat → Int32) : Int32 := match nuR (D.2.1 x.toNatClampNeg) with
  | none => -1
  | some a => match nuR (D.2.1 y.toNatClampNeg) with
    | none => -1
    | some b => if fgN a b = -1 then -1 else g a b
def gPr (ex : Bool) (w : Int32) (a b : Nat) : Int32 := if w = 0 then fgN a b else if w = 1 then nI (mdN a b) else if w = 2 then ccN a b ex else if w = 3 then nI (otN b (mdN a b)) else nI (otN a (mdN a b))
def aPair (D : dT) (x y w : Int32) : Int32 := if slB D.1 x && slB D.1 y && lieB w 0 4 then aPr D x y (gPr D.2.2.2 w) else -1
section MPL
variable {d : Nat} {h : am_H} {F : Nat → Nat → Int32} {J : Nat → Nat → Int64} {V : Nat → Nat → Value} {Q : am_Q}
set_option maxRecDepth 20000 in
theorem mp_pair {D : dT} (hD : MK (F 84) D) {x y w : Int32} (K : ∀ F', Pm F F' → Q (some (.int (aPair D x y w))) (ov h F' J V)) : am_cl (d + 7) 269 [.ref 82, .int x, .int y, .int w] (ov h F J V) Q := by
  have no : aPair D x y w = -1 → am_W kc_Model_pair (am_cl (d + 6)) Q 25 [.ref 82, .int x, .int y, .int w, am_dum, am_dum, am_dum] [] (ov h F J V) := fun e => by
    rw [e] at K
    simp only [ax0, ex_cons, am_get, upz_at, true_and, and_true, Nat.reduceAdd, Nat.reduceLeDiff, Nat.reduceEqDiff, Nat.reduceSub, Int32.reduceOfInt, Int32.reduceAdd, Int32.reduceMul, Int32.reduceSub, ↓reduceIte, Int32.reduceLT, Int32.reduceLE, Int32.reduceToNatClampNeg, Nat.reduceMod, Nat.reduceLT, List.length_cons, List.length_nil, eq_self, true_or, or_true, and_self, implies_true, not_true_eq_false, not_false_eq_true, false_implies, true_implies, forall_const, st_iconst, st_ireturn, jx_Model_pair_25, kb_Model_pair_25]
    exact K F Pm.rf
  simp only [ax0, ex_cons, am_get, upz_at, true_and, and_true, Nat.reduceAdd, Nat.reduceLeDiff, Nat.reduceEqDiff, Nat.reduceSub, Int32.reduceOfInt, Int32.reduceAdd, Int32.reduceMul, Int32.reduceSub, ↓reduceIte, Int32.reduceLT, Int32.reduceLE, Int32.reduceToNatClampNeg, Nat.reduceMod, Nat.reduceLT, List.length_cons, List.length_nil, eq_self, true_or, or_true, and_self, implies_true, not_true_eq_false, not_false_eq_true, false_implies, true_implies, forall_const, st_aload, st_goto_w, st_iconst, st_ifCond, st_iload, st_in2, st_st3, kb_Model_pair_0, oo_82, oa_82, cx_Model_pair]
  refine m_isSlip hD.1 ?_
  simp only [ax0, ex_cons, am_get, upz_at, true_and, and_true, Nat.reduceAdd, Nat.reduceLeDiff, Nat.reduceEqDiff, Nat.reduceSub, Int32.reduceOfInt, Int32.reduceAdd, Int32.reduceMul, Int32.reduceSub, ↓reduceIte, Int32.reduceLT, Int32.reduceLE, Int32.reduceToNatClampNeg, Nat.reduceMod, Nat.reduceLT, List.length_cons, List.length_nil, eq_self, true_or, or_true, and_self, implies_true, not_true_eq_false, not_false_eq_true, false_implies, true_implies, forall_const, st_aload, st_goto_w, st_iconst, st_ifCond, st_iload, st_in2, st_st3, kb_Model_pair_0, oo_82, oa_82]
  refine ifb (fun e => no (by unfold aPair slB; rw [e, Bool.false_and, Bool.false_and]; exact if_neg Bool.false_ne_true)) (fun e => ?_)
  refine m_isSlip hD.1 ?_
  simp only [ax0, ex_cons, am_get, upz_at, true_and, and_true, Nat.reduceAdd, Nat.reduceLeDiff, Nat.reduceEqDiff, Nat.reduceSub, Int32.reduceOfInt, Int32.reduceAdd, Int32.reduceMul, Int32.reduceSub, ↓reduceIte, Int32.reduceLT, Int32.reduceLE, Int32.reduceToNatClampNeg, Nat.reduceMod, Nat.reduceLT, List.length_cons, List.length_nil, eq_self, true_or, or_true, and_self, implies_true, not_true_eq_false, not_false_eq_true, false_implies, true_implies, forall_const, st_aload, st_goto_w, st_iconst, st_ifCond, st_iload, st_in2, st_st3, kb_Model_pair_0, oo_82, oa_82]
  refine ifb (fun e2 => no (by unfold aPair slB; rw [e2, Bool.and_false, Bool.false_and]; exact if_neg Bool.false_ne_true)) (fun e2 => ?_)
  refine m_lies ?_
  simp only [ax0, ex_cons, am_get, upz_at, true_and, and_true, Nat.reduceAdd, Nat.reduceLeDiff, Nat.reduceEqDiff, Nat.reduceSub, Int32.reduceOfInt, Int32.reduceAdd, Int32.reduceMul, Int32.reduceSub, ↓reduceIte, Int32.reduceLT, Int32.reduceLE, Int32.reduceToNatClampNeg, Nat.reduceMod, Nat.reduceLT, List.length_cons, List.length_nil, eq_self, true_or, or_true, and_self, implies_true, not_true_eq_false, not_false_eq_true, false_implies, true_implies, forall_const, st_aload, st_goto_w, st_iconst, st_ifCond, st_iload, st_in2, st_st3, kb_Model_pair_0, oo_82, oa_82]
  refine ifnb (fun e5 => ?_) (fun e5 => no (by unfold aPair slB; rw [e5, Bool.and_false]; exact if_neg Bool.false_ne_true))
  obtain ⟨s1, a1, a2, a3⟩ := slB_nI hD.2.1 e
  obtain ⟨s2, b1, b2, b3⟩ := slB_nI hD.2.1 e2
  have e0 : aPair D x y w = aPr D x y (gPr D.2.2.2 w) := by unfold aPair slB; rw [e, e2, e5]; exact if_pos rfl
  rw [e0] at K
  unfold aPr at K
  rw [a3, b3] at K
  rw [a1, b1]
  have hn := hD.2.1
  have hm1 := hD.2.2.2.2.1 s1 a2
  have hm2 := hD.2.2.2.2.1 s2 b2
  simp only [ax0, ex_cons, am_get, upz_at, true_and, and_true, Nat.reduceAdd, Nat.reduceLeDiff, Nat.reduceEqDiff, Nat.reduceSub, Int32.reduceOfInt, Int32.reduceAdd, Int32.reduceMul, Int32.reduceSub, ↓reduceIte, Int32.reduceLT, Int32.reduceLE, Int32.reduceToNatClampNeg, Nat.reduceMod, Nat.reduceLT, List.length_cons, List.length_nil, eq_self, true_or, or_true, and_self, implies_true, not_true_eq_false, not_false_eq_true, false_implies, true_implies, forall_const, st_aload, st_goto_w, st_iconst, st_if_icmp, st_iload, st_in2, st_st2, st_istore, am_put, am_nlg, jx_Model_pair_27, kb_Model_pair_27, oo_82, oa_82]
  refine m_numberOf (s := s1) (by omega) hm1.1 hm1.2.1 ?_
  simp only [ax0, ex_cons, am_get, upz_at, true_and, and_true, Nat.reduceAdd, Nat.reduceLeDiff, Nat.reduceEqDiff, Nat.reduceSub, Int32.reduceOfInt, Int32.reduceAdd, Int32.reduceMul, Int32.reduceSub, ↓reduceIte, Int32.reduceLT, Int32.reduceLE, Int32.reduceToNatClampNeg, Nat.reduceMod, Nat.reduceLT, List.length_cons, List.length_nil, eq_self, true_or, or_true, and_self, implies_true, not_true_eq_false, not_false_eq_true, false_implies, true_implies, forall_const, st_aload, st_goto_w, st_iconst, st_if_icmp, st_iload, st_in2, st_st2, st_istore, am_put, am_nlg, jx_Model_pair_27, kb_Model_pair_27, oo_82, oa_82]
  refine m_numberOf (s := s2) (by omega) hm2.1 hm2.2.1 ?_
  cases e3 : nuR (D.2.1 s1) with
  | none =>
    simp only [e3] at K
    simp only [ax0, ex_cons, am_get, upz_at, true_and, and_true, Nat.reduceAdd, Nat.reduceLeDiff, Nat.reduceEqDiff, Nat.reduceSub, Int32.reduceOfInt, Int32.reduceAdd, Int32.reduceMul, Int32.reduceSub, ↓reduceIte, Int32.reduceLT, Int32.reduceLE, Int32.reduceToNatClampNeg, Nat.reduceMod, Nat.reduceLT, List.length_cons, List.length_nil, eq_self, true_or, or_true, and_self, implies_true, not_true_eq_false, not_false_eq_true, false_implies, true_implies, forall_const, st_aload, st_goto_w, st_iconst, st_if_icmp, st_iload, st_in2, st_st2, st_ireturn, st_istore, am_put, am_nlg, jx_Model_pair_27, kb_Model_pair_27, oo_82, jx_Model_pair_64, kb_Model_pair_64, oa_82, oI_n]
    exact K F Pm.rf
  | some a =>
    obtain ⟨ha, na⟩ := nuR_num hm1.1 e3
    cases e4 : nuR (D.2.1 s2) with
    | none =>
      simp only [e3, e4] at K
      simp only [ax0, ex_cons, am_get, upz_at, true_and, and_true, Nat.reduceAdd, Nat.reduceLeDiff, Nat.reduceEqDiff, Nat.reduceSub, Int32.reduceOfInt, Int32.reduceAdd, Int32.reduceMul, Int32.reduceSub, ↓reduceIte, Int32.reduceLT, Int32.reduceLE, Int32.reduceToNatClampNeg, Nat.reduceMod, Nat.reduceLT, List.length_cons, List.length_nil, eq_self, true_or, or_true, and_self, implies_true, not_true_eq_false, not_false_eq_true, false_implies, true_implies, forall_const, st_aload, st_goto_w, st_iconst, st_if_icmp, st_iload, st_in2, st_st2, st_ireturn, st_istore, am_put, am_nlg, jx_Model_pair_27, kb_Model_pair_27, oo_82, jx_Model_pair_64, kb_Model_pair_64, oa_82, oI_n, oI_s, nI_neg1 (show a < 2147483648 by omega)]
      exact K F Pm.rf
    | some b =>
      obtain ⟨hb, nb⟩ := nuR_num hm2.1 e4
      simp only [e3, e4] at K
      simp only [ax0, ex_cons, am_get, upz_at, true_and, and_true, Nat.reduceAdd, Nat.reduceLeDiff, Nat.reduceEqDiff, Nat.reduceSub, Int32.reduceOfInt, Int32.reduceAdd, Int32.reduceMul, Int32.reduceSub, ↓reduceIte, Int32.reduceLT, Int32.reduceLE, Int32.reduceToNatClampNeg, Nat.reduceMod, Nat.reduceLT, List.length_cons, List.length_nil, eq_self, true_or, or_true, and_self, implies_true, not_true_eq_false, not_false_eq_true, false_implies, true_implies, forall_const, st_aload, st_goto_w, st_iconst, st_if_icmp, st_iload, st_in2, st_st2, st_istore, am_put, am_nlg, jx_Model_pair_27, kb_Model_pair_27, oo_82, oa_82, oI_s, nI_neg1 (show a < 2147483648 by omega), nI_neg1 (show b < 2147483648 by omega)]
      refine m_figure ha hb na nb ?_
      simp only [ax0, ex_cons, am_get, upz_at, true_and, and_true, Nat.reduceAdd, Nat.reduceLeDiff, Nat.reduceEqDiff, Nat.reduceSub, Int32.reduceOfInt, Int32.reduceAdd, Int32.reduceMul, Int32.reduceSub, ↓reduceIte, Int32.reduceLT, Int32.reduceLE, Int32.reduceToNatClampNeg, Nat.reduceMod, Nat.reduceLT, List.length_cons, List.length_nil, eq_self, true_or, or_true, and_self, implies_true, not_true_eq_false, not_false_eq_true, false_implies, true_implies, forall_const, st_aload, st_goto_w, st_iconst, st_if_icmp, st_iload, st_in2, st_st2, st_istore, am_put, am_nlg, jx_Model_pair_27, kb_Model_pair_27, oo_82, oa_82]
      refine ⟨fun q => ?_, fun q => ?_⟩
      · rw [if_neg q] at K
        unfold gPr at K
        simp only [ax0, ex_cons, am_get, upz_at, true_and, and_true, Nat.reduceAdd, Nat.reduceLeDiff, Nat.reduceEqDiff, Nat.reduceSub, Int32.reduceOfInt, Int32.reduceAdd, Int32.reduceMul, Int32.reduceSub, ↓reduceIte, Int32.reduceLT, Int32.reduceLE, Int32.reduceToNatClampNeg, Nat.reduceMod, Nat.reduceLT, List.length_cons, List.length_nil, eq_self, true_or, or_true, and_self, implies_true, not_true_eq_false, not_false_eq_true, false_implies, true_implies, forall_const, st_goto, st_ifCond, st_iload, st_st2, st_istore, am_put, am_nlg, jx_Model_pair_66, kb_Model_pair_66]
        refine m_middle ha hb na nb ?_
        simp only [ax0, ex_cons, am_get, upz_at, true_and, and_true, Nat.reduceAdd, Nat.reduceLeDiff, Nat.reduceEqDiff, Nat.reduceSub, Int32.reduceOfInt, Int32.reduceAdd, Int32.reduceMul, Int32.reduceSub, ↓reduceIte, Int32.reduceLT, Int32.reduceLE, Int32.reduceToNatClampNeg, Nat.reduceMod, Nat.reduceLT, List.length_cons, List.length_nil, eq_self, true_or, or_true, and_self, implies_true, not_true_eq_false, not_false_eq_true, false_implies, true_implies, forall_const, st_goto, st_ifCond, st_iload, st_st2, st_istore, am_put, am_nlg, jx_Model_pair_66, kb_Model_pair_66]
        refine ⟨fun q0 => ?_, fun q0 => ?_⟩
        · rw [if_neg q0] at K
          simp only [ax0, ex_cons, am_get, upz_at, true_and, and_true, Nat.reduceAdd, Nat.reduceLeDiff, Nat.reduceEqDiff, Nat.reduceSub, Int32.reduceOfInt, Int32.reduceAdd, Int32.reduceMul, Int32.reduceSub, ↓reduceIte, Int32.reduceLT, Int32.reduceLE, Int32.reduceToNatClampNeg, Nat.reduceMod, Nat.reduceLT, List.length_cons, List.length_nil, eq_self, true_or, or_true, and_self, implies_true, not_true_eq_false, not_false_eq_true, false_implies, true_implies, forall_const, st_goto, st_iconst, st_if_icmp, st_iload, st_ireturn, jx_Model_pair_89, kb_Model_pair_89, jx_Model_pair_137, kb_Model_pair_137]
          refine ⟨fun q1 => ?_, fun q1 => ?_⟩
          · rw [if_neg q1] at K
            simp only [ax0, ex_cons, am_get, upz_at, true_and, and_true, Nat.reduceAdd, Nat.reduceLeDiff, Nat.reduceEqDiff, Nat.reduceSub, Int32.reduceOfInt, Int32.reduceAdd, Int32.reduceMul, Int32.reduceSub, ↓reduceIte, Int32.reduceLT, Int32.reduceLE, Int32.reduceToNatClampNeg, Nat.reduceMod, Nat.reduceLT, List.length_cons, List.length_nil, eq_self, true_or, or_true, and_self, implies_true, not_true_eq_false, not_false_eq_true, false_implies, true_implies, forall_const, st_aload, st_goto, st_iconst, st_if_icmp, st_iload, st_in3, jx_Model_pair_99, kb_Model_pair_99, oo_82, oa_82]
            refine ⟨fun q2 => ?_, fun q2 => ?_⟩
            · rw [if_neg q2] at K
              simp only [ax0, ex_cons, am_get, upz_at, true_and, and_true, Nat.reduceAdd, Nat.reduceLeDiff, Nat.reduceEqDiff, Nat.reduceSub, Int32.reduceOfInt, Int32.reduceAdd, Int32.reduceMul, Int32.reduceSub, ↓reduceIte, Int32.reduceLT, Int32.reduceLE, Int32.reduceToNatClampNeg, Nat.reduceMod, Nat.reduceLT, List.length_cons, List.length_nil, eq_self, true_or, or_true, and_self, implies_true, not_true_eq_false, not_false_eq_true, false_implies, true_implies, forall_const, st_goto, st_iconst, st_if_icmp, st_iload, st_st2, jx_Model_pair_115, kb_Model_pair_115]
              refine ⟨fun q3 => ?_, fun q3 => ?_⟩
              · rw [if_neg q3] at K
                simp only [ax0, ex_cons, am_get, upz_at, true_and, and_true, Nat.reduceAdd, Nat.reduceLeDiff, Nat.reduceEqDiff, Nat.reduceSub, Int32.reduceOfInt, Int32.reduceAdd, Int32.reduceMul, Int32.reduceSub, ↓reduceIte, Int32.reduceLT, Int32.reduceLE, Int32.reduceToNatClampNeg, Nat.reduceMod, Nat.reduceLT, List.length_cons, List.length_nil, eq_self, true_or, or_true, and_self, implies_true, not_true_eq_false, not_false_eq_true, false_implies, true_implies, forall_const, st_goto_w, st_iload, st_st2, jx_Model_pair_130, kb_Model_pair_130]
                refine m_otherOf ha (mdN_lt a b) ?_
                simp only [ax0, ex_cons, am_get, upz_at, true_and, and_true, Nat.reduceAdd, Nat.reduceLeDiff, Nat.reduceEqDiff, Nat.reduceSub, Int32.reduceOfInt, Int32.reduceAdd, Int32.reduceMul, Int32.reduceSub, ↓reduceIte, Int32.reduceLT, Int32.reduceLE, Int32.reduceToNatClampNeg, Nat.reduceMod, Nat.reduceLT, List.length_cons, List.length_nil, eq_self, true_or, or_true, and_self, implies_true, not_true_eq_false, not_false_eq_true, false_implies, true_implies, forall_const, st_goto_w, st_iload, st_st2, st_ireturn, jx_Model_pair_130, kb_Model_pair_130, jx_Model_pair_137, kb_Model_pair_137]
                exact K F Pm.rf
              · rw [if_pos (Decidable.not_not.mp q3)] at K
                refine m_otherOf hb (mdN_lt a b) ?_
                simp only [ax0, ex_cons, am_get, upz_at, true_and, and_true, Nat.reduceAdd, Nat.reduceLeDiff, Nat.reduceEqDiff, Nat.reduceSub, Int32.reduceOfInt, Int32.reduceAdd, Int32.reduceMul, Int32.reduceSub, ↓reduceIte, Int32.reduceLT, Int32.reduceLE, Int32.reduceToNatClampNeg, Nat.reduceMod, Nat.reduceLT, List.length_cons, List.length_nil, eq_self, true_or, or_true, and_self, implies_true, not_true_eq_false, not_false_eq_true, false_implies, true_implies, forall_const, st_goto, st_iconst, st_if_icmp, st_iload, st_st2, st_ireturn, jx_Model_pair_115, kb_Model_pair_115, jx_Model_pair_137, kb_Model_pair_137]
                exact K F Pm.rf
            · rw [if_pos (Decidable.not_not.mp q2)] at K
              refine m_concludes hD ha hb na nb (fun F1 h1 => ?_)
              simp only [ax0, ex_cons, am_get, upz_at, true_and, and_true, Nat.reduceAdd, Nat.reduceLeDiff, Nat.reduceEqDiff, Nat.reduceSub, Int32.reduceOfInt, Int32.reduceAdd, Int32.reduceMul, Int32.reduceSub, ↓reduceIte, Int32.reduceLT, Int32.reduceLE, Int32.reduceToNatClampNeg, Nat.reduceMod, Nat.reduceLT, List.length_cons, List.length_nil, eq_self, true_or, or_true, and_self, implies_true, not_true_eq_false, not_false_eq_true, false_implies, true_implies, forall_const, st_aload, st_goto, st_iconst, st_if_icmp, st_iload, st_in3, st_ireturn, jx_Model_pair_99, kb_Model_pair_99, oo_82, jx_Model_pair_137, kb_Model_pair_137, oa_82]
              exact K F1 h1
          · rw [if_pos (Decidable.not_not.mp q1)] at K
            exact K F Pm.rf
        · rw [if_pos (Decidable.not_not.mp q0)] at K
          refine m_figure ha hb na nb ?_
          simp only [ax0, ex_cons, am_get, upz_at, true_and, and_true, Nat.reduceAdd, Nat.reduceLeDiff, Nat.reduceEqDiff, Nat.reduceSub, Int32.reduceOfInt, Int32.reduceAdd, Int32.reduceMul, Int32.reduceSub, ↓reduceIte, Int32.reduceLT, Int32.reduceLE, Int32.reduceToNatClampNeg, Nat.reduceMod, Nat.reduceLT, List.length_cons, List.length_nil, eq_self, true_or, or_true, and_self, implies_true, not_true_eq_false, not_false_eq_true, false_implies, true_implies, forall_const, st_goto, st_ifCond, st_iload, st_st2, st_ireturn, st_istore, am_put, am_nlg, jx_Model_pair_66, kb_Model_pair_66, jx_Model_pair_137, kb_Model_pair_137]
          exact K F Pm.rf
      · rw [if_pos (Decidable.not_not.mp q)] at K
        simp only [ax0, ex_cons, am_get, upz_at, true_and, and_true, Nat.reduceAdd, Nat.reduceLeDiff, Nat.reduceEqDiff, Nat.reduceSub, Int32.reduceOfInt, Int32.reduceAdd, Int32.reduceMul, Int32.reduceSub, ↓reduceIte, Int32.reduceLT, Int32.reduceLE, Int32.reduceToNatClampNeg, Nat.reduceMod, Nat.reduceLT, List.length_cons, List.length_nil, eq_self, true_or, or_true, and_self, implies_true, not_true_eq_false, not_false_eq_true, false_implies, true_implies, forall_const, st_iconst, st_ireturn, jx_Model_pair_64, kb_Model_pair_64]
        exact K F Pm.rf
end MPL
