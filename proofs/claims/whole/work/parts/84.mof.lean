/-! ===== the model: of, has ===== -/
def slD (D : dT) (x : Int32) : Option Nat := if x = -1 then (if D.2.2.1 then some 12 else none) else if slB D.1 x then some x.toNatClampNeg else none
theorem slD_ok {k : Nat → Int32} {D : dT} (hD : MK k D) {x : Int32} {s : Nat} (h : slD D x = some s) : s ≤ 12 ∧ mR k s (D.2.1 s) := by
  unfold slD at h
  by_cases q : x = -1
  · rw [if_pos q] at h
    cases e : D.2.2.1
    · rw [e] at h; cases h
    · rw [e] at h; cases h; exact ⟨Nat.le_refl _, hD.2.2.2.2.2 e⟩
  · rw [if_neg q] at h
    cases e : slB D.1 x
    · rw [e] at h; cases h
    · rw [e] at h
      obtain ⟨i, ei, hi, ci⟩ := slB_nI hD.2.1 e
      rw [ci] at h
      cases h
      have := hD.2.1
      exact ⟨by omega, hD.2.2.2.2.1 _ hi⟩
def ofR (R : rT) (w : Int32) : Int32 := if w = 0 then nI (saR R) else if w = 4 then (if R.1 = 10 then nI R.2.2.1 else -1) else if w = 5 then nI (cn (seR R) 256) else match nuR R with
  | none => -1
  | some n => if w = 1 then nI (n / 64) else if w = 2 then nI (n / 8 % 8) else nI (n % 8)
def aOf (D : dT) (x w : Int32) : Int32 := match slD D x with
  | none => -1
  | some s => if lieB w 0 5 then ofR (D.2.1 s) w else -1
def aHas (D : dT) (x r : Int32) : Int32 := match slD D x with
  | none => -1
  | some s => if lieB r 0 255 then b2i (seR (D.2.1 s) r.toNatClampNeg) else -1
section MOF
variable {d : Nat} {h : am_H} {F : Nat → Nat → Int32} {J : Nat → Nat → Int64} {V : Nat → Nat → Value} {Q : am_Q}
set_option maxRecDepth 20000 in
theorem m_slotOf {D : dT} (hD : MK (F 84) D) {x : Int32} (K : Q (some (.int (oI (slD D x)))) (ov h F J V)) : am_cl (d + 3) 184 [.ref 82, .int x] (ov h F J V) Q := by
  unfold slD at K
  simp only [ax0, ex_cons, am_get, upz_at, true_and, and_true, Nat.reduceAdd, Nat.reduceLeDiff, Nat.reduceEqDiff, Nat.reduceSub, Int32.reduceOfInt, Int32.reduceAdd, Int32.reduceMul, Int32.reduceSub, ↓reduceIte, Int32.reduceLT, Int32.reduceLE, Int32.reduceToNatClampNeg, Nat.reduceMod, Nat.reduceLT, List.length_cons, List.length_nil, eq_self, true_or, or_true, and_self, implies_true, not_true_eq_false, not_false_eq_true, false_implies, true_implies, forall_const, st_aloadx, st_gotox, st_iconstx, st_ifCondx, st_if_icmpx, st_iloadx, st_in1, st_in2, kb_Model_slotOf_0, oo_82, jx_Model_slotOf_17, kb_Model_slotOf_17, jx_Model_slotOf_21, kb_Model_slotOf_21, oa_82, cx_Model_slotOf]
  refine And.intro (fun q => ?_) (fun q => ?_)
  · rw [if_neg q] at K
    refine m_isSlip hD.1 ?_
    simp only [ax0, ex_cons, am_get, upz_at, true_and, and_true, Nat.reduceAdd, Nat.reduceLeDiff, Nat.reduceEqDiff, Nat.reduceSub, Int32.reduceOfInt, Int32.reduceAdd, Int32.reduceMul, Int32.reduceSub, ↓reduceIte, Int32.reduceLT, Int32.reduceLE, Int32.reduceToNatClampNeg, Nat.reduceMod, Nat.reduceLT, List.length_cons, List.length_nil, eq_self, true_or, or_true, and_self, implies_true, not_true_eq_false, not_false_eq_true, false_implies, true_implies, forall_const, st_aloadx, st_gotox, st_goto_wx, st_iconstx, st_ifCondx, st_iloadx, st_in2, st_ireturnx, jx_Model_slotOf_21, kb_Model_slotOf_21, oo_82, jx_Model_slotOf_33, kb_Model_slotOf_33, jx_Model_slotOf_34, kb_Model_slotOf_34, oa_82]
    refine ifb (fun e => ?_) (fun e => ?_)
    · have e : slB D.1 x = false := e
      rw [e] at K; exact K
    · have e : slB D.1 x = true := e
      obtain ⟨i, ei, hi, ci⟩ := slB_nI hD.2.1 e
      rw [e, if_pos rfl, ci, oI_s, ← ei] at K
      exact K
  · rw [if_pos (Classical.not_not.mp q)] at K
    refine m_isAsked hD.2.2.1 ?_
    simp only [ax0, ex_cons, am_get, upz_at, true_and, and_true, Nat.reduceAdd, Nat.reduceLeDiff, Nat.reduceEqDiff, Nat.reduceSub, Int32.reduceOfInt, Int32.reduceAdd, Int32.reduceMul, Int32.reduceSub, ↓reduceIte, Int32.reduceLT, Int32.reduceLE, Int32.reduceToNatClampNeg, Nat.reduceMod, Nat.reduceLT, List.length_cons, List.length_nil, eq_self, true_or, or_true, and_self, implies_true, not_true_eq_false, not_false_eq_true, false_implies, true_implies, forall_const, st_aloadx, st_gotox, st_iconstx, st_ifCondx, st_if_icmpx, st_iloadx, st_in1, st_ireturnx, kb_Model_slotOf_0, oo_82, jx_Model_slotOf_17, kb_Model_slotOf_17, jx_Model_slotOf_34, kb_Model_slotOf_34, oa_82]
    refine ifb (fun e => ?_) (fun e => ?_)
    · rw [e] at K; exact K
    · rw [e] at K; exact K
set_option maxRecDepth 20000 in
theorem mp_of {D : dT} (hD : MK (F 84) D) {x w : Int32} (K : Q (some (.int (aOf D x w))) (ov h F J V)) : am_cl (d + 4) 216 [.ref 82, .int x, .int w] (ov h F J V) Q := by
  unfold aOf at K
  simp only [ax0, ex_cons, am_get, upz_at, true_and, and_true, Nat.reduceAdd, Nat.reduceLeDiff, Nat.reduceEqDiff, Nat.reduceSub, Int32.reduceOfInt, Int32.reduceAdd, Int32.reduceMul, Int32.reduceSub, ↓reduceIte, Int32.reduceLT, Int32.reduceLE, Int32.reduceToNatClampNeg, Nat.reduceMod, Nat.reduceLT, List.length_cons, List.length_nil, eq_self, true_or, or_true, and_self, implies_true, not_true_eq_false, not_false_eq_true, false_implies, true_implies, forall_const, st_aloadx, st_goto_wx, st_iconstx, st_ifCondx, st_if_icmpx, st_iloadx, st_in2, st_st3, st_istorex, am_put, am_nlg, kb_Model_of_0, oo_82, oa_82, cx_Model_of]
  refine m_slotOf hD ?_
  cases hs : slD D x with
  | none =>
    rw [hs] at K
    simp only [ax0, ex_cons, am_get, upz_at, true_and, and_true, Nat.reduceAdd, Nat.reduceLeDiff, Nat.reduceEqDiff, Nat.reduceSub, Int32.reduceOfInt, Int32.reduceAdd, Int32.reduceMul, Int32.reduceSub, ↓reduceIte, Int32.reduceLT, Int32.reduceLE, Int32.reduceToNatClampNeg, Nat.reduceMod, Nat.reduceLT, List.length_cons, List.length_nil, eq_self, true_or, or_true, and_self, implies_true, not_true_eq_false, not_false_eq_true, false_implies, true_implies, forall_const, st_aloadx, st_goto_wx, st_iconstx, st_ifCondx, st_if_icmpx, st_iloadx, st_in2, st_st3, st_ireturnx, st_istorex, am_put, am_nlg, kb_Model_of_0, oo_82, jx_Model_of_20, kb_Model_of_20, oa_82, oI_n]
    exact K
  | some s =>
    rw [hs] at K
    dsimp only at K
    obtain ⟨s12, hm⟩ := slD_ok hD hs
    simp only [ax0, ex_cons, am_get, upz_at, true_and, and_true, Nat.reduceAdd, Nat.reduceLeDiff, Nat.reduceEqDiff, Nat.reduceSub, Int32.reduceOfInt, Int32.reduceAdd, Int32.reduceMul, Int32.reduceSub, ↓reduceIte, Int32.reduceLT, Int32.reduceLE, Int32.reduceToNatClampNeg, Nat.reduceMod, Nat.reduceLT, List.length_cons, List.length_nil, eq_self, true_or, or_true, and_self, implies_true, not_true_eq_false, not_false_eq_true, false_implies, true_implies, forall_const, st_aloadx, st_goto_wx, st_iconstx, st_ifCondx, st_if_icmpx, st_iloadx, st_in2, st_st3, st_ireturnx, st_istorex, am_put, am_nlg, kb_Model_of_0, oo_82, jx_Model_of_20, kb_Model_of_20, oa_82, oI_s, nI_neg1 (show s < 2147483648 by omega)]
    refine m_lies ?_
    simp only [ax0, ex_cons, am_get, upz_at, true_and, and_true, Nat.reduceAdd, Nat.reduceLeDiff, Nat.reduceEqDiff, Nat.reduceSub, Int32.reduceOfInt, Int32.reduceAdd, Int32.reduceMul, Int32.reduceSub, ↓reduceIte, Int32.reduceLT, Int32.reduceLE, Int32.reduceToNatClampNeg, Nat.reduceMod, Nat.reduceLT, List.length_cons, List.length_nil, eq_self, true_or, or_true, and_self, implies_true, not_true_eq_false, not_false_eq_true, false_implies, true_implies, forall_const, st_aloadx, st_goto_wx, st_iconstx, st_ifCondx, st_if_icmpx, st_iloadx, st_in2, st_st3, st_ireturnx, st_istorex, am_put, am_nlg, kb_Model_of_0, oo_82, jx_Model_of_20, kb_Model_of_20, oa_82]
    refine ifnb (fun e => ?_) (fun e => ?_)
    · rw [e, if_pos rfl] at K
      unfold ofR at K
      simp only [ax0, ex_cons, am_get, upz_at, true_and, and_true, Nat.reduceAdd, Nat.reduceLeDiff, Nat.reduceEqDiff, Nat.reduceSub, Int32.reduceOfInt, Int32.reduceAdd, Int32.reduceMul, Int32.reduceSub, ↓reduceIte, Int32.reduceLT, Int32.reduceLE, Int32.reduceToNatClampNeg, Nat.reduceMod, Nat.reduceLT, List.length_cons, List.length_nil, eq_self, true_or, or_true, and_self, implies_true, not_true_eq_false, not_false_eq_true, false_implies, true_implies, forall_const, st_aloadx, st_iconstx, st_ifCondx, st_iloadx, st_in2, st_in3, st_ireturnx, st_istorex, am_put, am_nlg, jx_Model_of_22, kb_Model_of_22, oo_82, oa_82]
      refine m_numberOf (s := s) (by omega) hm.1 hm.2.1 ?_
      simp only [ax0, ex_cons, am_get, upz_at, true_and, and_true, Nat.reduceAdd, Nat.reduceLeDiff, Nat.reduceEqDiff, Nat.reduceSub, Int32.reduceOfInt, Int32.reduceAdd, Int32.reduceMul, Int32.reduceSub, ↓reduceIte, Int32.reduceLT, Int32.reduceLE, Int32.reduceToNatClampNeg, Nat.reduceMod, Nat.reduceLT, List.length_cons, List.length_nil, eq_self, true_or, or_true, and_self, implies_true, not_true_eq_false, not_false_eq_true, false_implies, true_implies, forall_const, st_aloadx, st_iconstx, st_ifCondx, st_iloadx, st_in2, st_in3, st_ireturnx, st_istorex, am_put, am_nlg, jx_Model_of_22, kb_Model_of_22, oo_82, oa_82]
      refine And.intro (fun q => ?_) (fun q => ?_)
      · rw [if_neg q] at K
        simp only [ax0, ex_cons, am_get, upz_at, true_and, and_true, Nat.reduceAdd, Nat.reduceLeDiff, Nat.reduceEqDiff, Nat.reduceSub, Int32.reduceOfInt, Int32.reduceAdd, Int32.reduceMul, Int32.reduceSub, ↓reduceIte, Int32.reduceLT, Int32.reduceLE, Int32.reduceToNatClampNeg, Nat.reduceMod, Nat.reduceLT, List.length_cons, List.length_nil, eq_self, true_or, or_true, and_self, implies_true, not_true_eq_false, not_false_eq_true, false_implies, true_implies, forall_const, st_aloadx, st_goto_wx, st_iconstx, st_if_icmpx, st_iloadx, st_in3, st_ireturnx, st_istorex, am_put, am_nlg, jx_Model_of_42, kb_Model_of_42, oo_82, jx_Model_of_54, kb_Model_of_54, oa_82]
        refine And.intro (fun q => ?_) (fun q => ?_)
        · rw [if_neg q] at K
          refine And.intro (fun q => ?_) (fun q => ?_)
          · rw [if_neg q] at K
            cases hn : nuR (D.2.1 s) with
            | none =>
              rw [hn] at K
              simp only [ax0, ex_cons, am_get, upz_at, true_and, and_true, Nat.reduceAdd, Nat.reduceLeDiff, Nat.reduceEqDiff, Nat.reduceSub, Int32.reduceOfInt, Int32.reduceAdd, Int32.reduceMul, Int32.reduceSub, ↓reduceIte, Int32.reduceLT, Int32.reduceLE, Int32.reduceToNatClampNeg, Nat.reduceMod, Nat.reduceLT, List.length_cons, List.length_nil, eq_self, true_or, or_true, and_self, implies_true, not_true_eq_false, not_false_eq_true, false_implies, true_implies, forall_const, st_gotox, st_iconstx, st_if_icmpx, st_iloadx, st_ireturnx, jx_Model_of_100, kb_Model_of_100, jx_Model_of_144, kb_Model_of_144, oI_n]
              exact K
            | some n =>
              rw [hn] at K
              dsimp only at K
              obtain ⟨n1, n2⟩ := nuR_num hm.1 hn
              simp only [ax0, ex_cons, am_get, upz_at, true_and, and_true, Nat.reduceAdd, Nat.reduceLeDiff, Nat.reduceEqDiff, Nat.reduceSub, Int32.reduceOfInt, Int32.reduceAdd, Int32.reduceMul, Int32.reduceSub, ↓reduceIte, Int32.reduceLT, Int32.reduceLE, Int32.reduceToNatClampNeg, Nat.reduceMod, Nat.reduceLT, List.length_cons, List.length_nil, eq_self, true_or, or_true, and_self, implies_true, not_true_eq_false, not_false_eq_true, false_implies, true_implies, forall_const, st_gotox, st_goto_wx, st_iconstx, st_idivx, st_if_icmpx, st_iloadx, st_iremx, st_ireturnx, jx_Model_of_100, kb_Model_of_100, jx_Model_of_110, kb_Model_of_110, jx_Model_of_123, kb_Model_of_123, jx_Model_of_139, kb_Model_of_139, jx_Model_of_144, kb_Model_of_144, oI_s, nI_neg1 (show n < 2147483648 by omega), show ((64 : Int32) = 0) = False from ax_f (by decide), show nI (n) / (64 : Int32) = nI ((n) / 64) from nk_div (a := n) (b := 64) (by omega) (by decide) (by decide), show nI (n) - nI ((n) / 64) * (64 : Int32) = nI ((n) % 64) from nk_rm (a := n) (b := 64) (by omega) (by decide) (by decide), show ((8 : Int32) = 0) = False from ax_f (by decide), show nI (n) / (8 : Int32) = nI ((n) / 8) from nk_div (a := n) (b := 8) (by omega) (by decide) (by decide), show nI (n) - nI ((n) / 8) * (8 : Int32) = nI ((n) % 8) from nk_rm (a := n) (b := 8) (by omega) (by decide) (by decide), show ((8 : Int32) = 0) = False from ax_f (by decide), show nI (n / 8) / (8 : Int32) = nI ((n / 8) / 8) from nk_div (a := n / 8) (b := 8) (by omega) (by decide) (by decide), show nI (n / 8) - nI ((n / 8) / 8) * (8 : Int32) = nI ((n / 8) % 8) from nk_rm (a := n / 8) (b := 8) (by omega) (by decide) (by decide)]
              refine And.intro (fun q => ?_) (fun q => ?_)
              · rw [if_neg q] at K
                refine And.intro (fun q => ?_) (fun q => ?_)
                · rw [if_neg q] at K; exact K
                · rw [if_pos (Classical.not_not.mp q)] at K; exact K
              · rw [if_pos (Classical.not_not.mp q)] at K; exact K
          · rw [if_pos (Classical.not_not.mp q)] at K
            refine am_iter 8 (fun k => [.ref 82, .int x, .int w, .int (nI s), .int (oI (nuR (D.2.1 s))), .int (nI (cn (seR (D.2.1 s)) (32 * k))), .int (nI k)]) (fun _ => ov h F J V) (fun _ => True) (fun k hk _ go => ?_) (fun _ => ?_) 0 (by omega) trivial
            · rw [jx_Model_of_65]
              simp only [ax0, ex_cons, am_get, upz_at, true_and, and_true, Nat.reduceAdd, Nat.reduceLeDiff, Nat.reduceEqDiff, Nat.reduceSub, Int32.reduceOfInt, Int32.reduceAdd, Int32.reduceMul, Int32.reduceSub, ↓reduceIte, Int32.reduceLT, Int32.reduceLE, Int32.reduceToNatClampNeg, Nat.reduceMod, Nat.reduceLT, List.length_cons, List.length_nil, eq_self, true_or, or_true, and_self, implies_true, not_true_eq_false, not_false_eq_true, false_implies, true_implies, forall_const, st_aloadx, st_gotox, st_iaddx, st_iconstx, st_if_icmpx, st_iincx, st_iloadx, st_in3, st_st1, st_istorex, am_put, am_nlg, kb_Model_of_65, oo_82, oa_82, show ((8 : Int32) ≤ nI (k)) = (8 ≤ k) from nk_le (a := 8) (b := k) (by omega) (by omega), show ¬ 8 ≤ k by omega, show (167 : Int32) + nI k = nI (167 + k) from nk_add 167 k]
              refine m_part (s := s) (f := 167 + k) (by omega) ?_
              simp only [ax0, ex_cons, am_get, upz_at, true_and, and_true, Nat.reduceAdd, Nat.reduceLeDiff, Nat.reduceEqDiff, Nat.reduceSub, Int32.reduceOfInt, Int32.reduceAdd, Int32.reduceMul, Int32.reduceSub, ↓reduceIte, Int32.reduceLT, Int32.reduceLE, Int32.reduceToNatClampNeg, Nat.reduceMod, Nat.reduceLT, List.length_cons, List.length_nil, eq_self, true_or, or_true, and_self, implies_true, not_true_eq_false, not_false_eq_true, false_implies, true_implies, forall_const, st_aloadx, st_gotox, st_iaddx, st_iconstx, st_if_icmpx, st_iincx, st_iloadx, st_in3, st_st1, st_istorex, am_put, am_nlg, kb_Model_of_65, oo_82, oa_82]
              refine m_ones ?_
              have go := go trivial
              rw [show 32 * (k + 1) = 32 * k + 32 by omega, cn_add] at go
              have ec : cn (fun i => seR (D.2.1 s) (32 * k + i)) 32 = cn (fun i => (F 84 (183 * s + (167 + k))).toBitVec.getLsbD i) 32 := cn_congr (fun i hi => by
                have := hm.2.2.2.2.2.2.1 (32 * k + i) (by omega)
                unfold bI at this
                rw [show (32 * k + i) / 32 = k by omega, show (32 * k + i) % 32 = i by omega] at this
                dsimp only at this
                rw [Nat.add_assoc] at this
                exact this.symm)
              rw [ec] at go
              simp only [ax0, ex_cons, am_get, upz_at, true_and, and_true, Nat.reduceAdd, Nat.reduceLeDiff, Nat.reduceEqDiff, Nat.reduceSub, Int32.reduceOfInt, Int32.reduceAdd, Int32.reduceMul, Int32.reduceSub, ↓reduceIte, Int32.reduceLT, Int32.reduceLE, Int32.reduceToNatClampNeg, Nat.reduceMod, Nat.reduceLT, List.length_cons, List.length_nil, eq_self, true_or, or_true, and_self, implies_true, not_true_eq_false, not_false_eq_true, false_implies, true_implies, forall_const, st_aloadx, st_gotox, st_iaddx, st_iconstx, st_if_icmpx, st_iincx, st_iloadx, st_in3, st_st1, st_istorex, am_put, am_nlg, kb_Model_of_65, oo_82, oa_82, nk_add, nk_succ]
              exact go
            · rw [jx_Model_of_65]
              simp only [ax0, ex_cons, am_get, upz_at, true_and, and_true, Nat.reduceAdd, Nat.reduceLeDiff, Nat.reduceEqDiff, Nat.reduceSub, Int32.reduceOfInt, Int32.reduceAdd, Int32.reduceMul, Int32.reduceSub, ↓reduceIte, Int32.reduceLT, Int32.reduceLE, Int32.reduceToNatClampNeg, Nat.reduceMod, Nat.reduceLT, List.length_cons, List.length_nil, eq_self, true_or, or_true, and_self, implies_true, not_true_eq_false, not_false_eq_true, false_implies, true_implies, forall_const, st_aloadx, st_gotox, st_iaddx, st_iconstx, st_if_icmpx, st_iincx, st_iloadx, st_in3, st_st1, st_ireturnx, st_istorex, am_put, am_nlg, kb_Model_of_65, oo_82, jx_Model_of_97, kb_Model_of_97, oa_82, show ((8 : Int32) ≤ nI (8)) = (8 ≤ 8) from nk_le (a := 8) (b := 8) (by omega) (by omega)]
              exact K
        · rw [if_pos (Classical.not_not.mp q)] at K
          refine m_part (s := s) (f := 2) (by omega) ?_
          rw [hm.2.1.2.2.1]
          simp only [ax0, ex_cons, am_get, upz_at, true_and, and_true, Nat.reduceAdd, Nat.reduceLeDiff, Nat.reduceEqDiff, Nat.reduceSub, Int32.reduceOfInt, Int32.reduceAdd, Int32.reduceMul, Int32.reduceSub, ↓reduceIte, Int32.reduceLT, Int32.reduceLE, Int32.reduceToNatClampNeg, Nat.reduceMod, Nat.reduceLT, List.length_cons, List.length_nil, eq_self, true_or, or_true, and_self, implies_true, not_true_eq_false, not_false_eq_true, false_implies, true_implies, forall_const, st_aloadx, st_iconstx, st_if_icmpx, st_iloadx, st_in3, st_ireturnx, jx_Model_of_42, kb_Model_of_42, oo_82, oa_82]
          exact K
      · rw [if_pos (Classical.not_not.mp q)] at K
        refine m_part (s := s) (f := 165) (by omega) ?_
        rw [hm.2.2.1]
        simp only [ax0, ex_cons, am_get, upz_at, true_and, and_true, Nat.reduceAdd, Nat.reduceLeDiff, Nat.reduceEqDiff, Nat.reduceSub, Int32.reduceOfInt, Int32.reduceAdd, Int32.reduceMul, Int32.reduceSub, ↓reduceIte, Int32.reduceLT, Int32.reduceLE, Int32.reduceToNatClampNeg, Nat.reduceMod, Nat.reduceLT, List.length_cons, List.length_nil, eq_self, true_or, or_true, and_self, implies_true, not_true_eq_false, not_false_eq_true, false_implies, true_implies, forall_const, st_aloadx, st_iconstx, st_ifCondx, st_iloadx, st_in2, st_in3, st_ireturnx, st_istorex, am_put, am_nlg, jx_Model_of_22, kb_Model_of_22, oo_82, oa_82]
        exact K
    · rw [e, if_neg Bool.false_ne_true] at K
      exact K
set_option maxRecDepth 20000 in
theorem mp_has {D : dT} (hD : MK (F 84) D) {x r : Int32} (K : Q (some (.int (aHas D x r))) (ov h F J V)) : am_cl (d + 4) 217 [.ref 82, .int x, .int r] (ov h F J V) Q := by
  unfold aHas at K
  simp only [ax0, ex_cons, am_get, upz_at, true_and, and_true, Nat.reduceAdd, Nat.reduceLeDiff, Nat.reduceEqDiff, Nat.reduceSub, Int32.reduceOfInt, Int32.reduceAdd, Int32.reduceMul, Int32.reduceSub, ↓reduceIte, Int32.reduceLT, Int32.reduceLE, Int32.reduceToNatClampNeg, Nat.reduceMod, Nat.reduceLT, List.length_cons, List.length_nil, eq_self, true_or, or_true, and_self, implies_true, not_true_eq_false, not_false_eq_true, false_implies, true_implies, forall_const, st_aloadx, st_goto_wx, st_iconstx, st_ifCondx, st_if_icmpx, st_iloadx, st_in2, st_st3, st_istorex, am_put, am_nlg, kb_Model_has_0, oo_82, oa_82, cx_Model_has]
  refine m_slotOf hD ?_
  cases hs : slD D x with
  | none =>
    rw [hs] at K
    simp only [ax0, ex_cons, am_get, upz_at, true_and, and_true, Nat.reduceAdd, Nat.reduceLeDiff, Nat.reduceEqDiff, Nat.reduceSub, Int32.reduceOfInt, Int32.reduceAdd, Int32.reduceMul, Int32.reduceSub, ↓reduceIte, Int32.reduceLT, Int32.reduceLE, Int32.reduceToNatClampNeg, Nat.reduceMod, Nat.reduceLT, List.length_cons, List.length_nil, eq_self, true_or, or_true, and_self, implies_true, not_true_eq_false, not_false_eq_true, false_implies, true_implies, forall_const, st_aloadx, st_gotox, st_goto_wx, st_iconstx, st_ifCondx, st_if_icmpx, st_iloadx, st_in2, st_st3, st_ireturnx, st_istorex, am_put, am_nlg, kb_Model_has_0, oo_82, jx_Model_has_22, kb_Model_has_22, jx_Model_has_46, kb_Model_has_46, oa_82, oI_n]
    exact K
  | some s =>
    rw [hs] at K
    dsimp only at K
    obtain ⟨s12, hm⟩ := slD_ok hD hs
    simp only [ax0, ex_cons, am_get, upz_at, true_and, and_true, Nat.reduceAdd, Nat.reduceLeDiff, Nat.reduceEqDiff, Nat.reduceSub, Int32.reduceOfInt, Int32.reduceAdd, Int32.reduceMul, Int32.reduceSub, ↓reduceIte, Int32.reduceLT, Int32.reduceLE, Int32.reduceToNatClampNeg, Nat.reduceMod, Nat.reduceLT, List.length_cons, List.length_nil, eq_self, true_or, or_true, and_self, implies_true, not_true_eq_false, not_false_eq_true, false_implies, true_implies, forall_const, st_aloadx, st_gotox, st_goto_wx, st_iconstx, st_ifCondx, st_if_icmpx, st_iloadx, st_in2, st_st3, st_istorex, am_put, am_nlg, kb_Model_has_0, oo_82, jx_Model_has_22, kb_Model_has_22, oa_82, oI_s, nI_neg1 (show s < 2147483648 by omega)]
    refine m_lies ?_
    simp only [ax0, ex_cons, am_get, upz_at, true_and, and_true, Nat.reduceAdd, Nat.reduceLeDiff, Nat.reduceEqDiff, Nat.reduceSub, Int32.reduceOfInt, Int32.reduceAdd, Int32.reduceMul, Int32.reduceSub, ↓reduceIte, Int32.reduceLT, Int32.reduceLE, Int32.reduceToNatClampNeg, Nat.reduceMod, Nat.reduceLT, List.length_cons, List.length_nil, eq_self, true_or, or_true, and_self, implies_true, not_true_eq_false, not_false_eq_true, false_implies, true_implies, forall_const, st_aloadx, st_gotox, st_goto_wx, st_iconstx, st_ifCondx, st_if_icmpx, st_iloadx, st_in2, st_st3, st_istorex, am_put, am_nlg, kb_Model_has_0, oo_82, jx_Model_has_22, kb_Model_has_22, oa_82]
    refine ifnb (fun e => ?_) (fun e => ?_)
    · rw [e, if_pos rfl] at K
      obtain ⟨k, ek, hk, ck⟩ := lieB_nI (m := 255) (by decide) e
      subst ek
      rw [ck] at K
      simp only [ax0, ex_cons, am_get, upz_at, true_and, and_true, Nat.reduceAdd, Nat.reduceLeDiff, Nat.reduceEqDiff, Nat.reduceSub, Int32.reduceOfInt, Int32.reduceAdd, Int32.reduceMul, Int32.reduceSub, ↓reduceIte, Int32.reduceLT, Int32.reduceLE, Int32.reduceToNatClampNeg, Nat.reduceMod, Nat.reduceLT, List.length_cons, List.length_nil, eq_self, true_or, or_true, and_self, implies_true, not_true_eq_false, not_false_eq_true, false_implies, true_implies, forall_const, st_aloadx, st_goto_wx, st_iaddx, st_iandx, st_iconstx, st_idivx, st_iloadx, st_in3, st_iremx, st_ishrx, jx_Model_has_26, kb_Model_has_26, oo_82, oa_82, show ((32 : Int32) = 0) = False from ax_f (by decide), show nI (k) / (32 : Int32) = nI ((k) / 32) from nk_div (a := k) (b := 32) (by omega) (by decide) (by decide), show nI (k) - nI ((k) / 32) * (32 : Int32) = nI ((k) % 32) from nk_rm (a := k) (b := 32) (by omega) (by decide) (by decide), show (167 : Int32) + nI (k / 32) = nI (167 + k / 32) from nk_add 167 (k / 32)]
      refine m_part (s := s) (f := 167 + k / 32) (by omega) ?_
      simp only [ax0, ex_cons, am_get, upz_at, true_and, and_true, Nat.reduceAdd, Nat.reduceLeDiff, Nat.reduceEqDiff, Nat.reduceSub, Int32.reduceOfInt, Int32.reduceAdd, Int32.reduceMul, Int32.reduceSub, ↓reduceIte, Int32.reduceLT, Int32.reduceLE, Int32.reduceToNatClampNeg, Nat.reduceMod, Nat.reduceLT, List.length_cons, List.length_nil, eq_self, true_or, or_true, and_self, implies_true, not_true_eq_false, not_false_eq_true, false_implies, true_implies, forall_const, st_aloadx, st_goto_wx, st_iaddx, st_iandx, st_iconstx, st_idivx, st_iloadx, st_in3, st_iremx, st_ireturnx, st_ishrx, jx_Model_has_26, kb_Model_has_26, oo_82, jx_Model_has_46, kb_Model_has_46, oa_82, show ((32 : Int32) = 0) = False from ax_f (by decide), show nI (k) / (32 : Int32) = nI ((k) / 32) from nk_div (a := k) (b := 32) (by omega) (by decide) (by decide), show nI (k) - nI ((k) / 32) * (32 : Int32) = nI ((k) % 32) from nk_rm (a := k) (b := 32) (by omega) (by decide) (by decide), i32_bit (F 84 (183 * s + (167 + k / 32))) (show k % 32 < 32 by omega)]
      have := hm.2.2.2.2.2.2.1 k (by omega)
      unfold bI at this
      dsimp only at this
      rw [Nat.add_assoc] at this
      rw [this]
      exact K
    · rw [e, if_neg Bool.false_ne_true] at K
      simp only [ax0, ex_cons, am_get, upz_at, true_and, and_true, Nat.reduceAdd, Nat.reduceLeDiff, Nat.reduceEqDiff, Nat.reduceSub, Int32.reduceOfInt, Int32.reduceAdd, Int32.reduceMul, Int32.reduceSub, ↓reduceIte, Int32.reduceLT, Int32.reduceLE, Int32.reduceToNatClampNeg, Nat.reduceMod, Nat.reduceLT, List.length_cons, List.length_nil, eq_self, true_or, or_true, and_self, implies_true, not_true_eq_false, not_false_eq_true, false_implies, true_implies, forall_const, st_ireturnx, jx_Model_has_46, kb_Model_has_46]
      exact K
end MOF
