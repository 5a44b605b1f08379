/-! ===== the model: words of the tape ===== -/
theorem mtW_s {t : Nat → Int32} {p w i : Nat} : (List.range (i + 1)).all (fun i => decide (nI (wdL.getD (stW w + i) 0) = t (p + i))) = ((List.range i).all (fun i => decide (nI (wdL.getD (stW w + i) 0) = t (p + i))) && decide (nI (wdL.getD (stW w + i) 0) = t (p + i))) := by
  rw [List.range_succ, List.all_append]
  simp only [List.all_cons, List.all_nil, Bool.and_true]
theorem st_nx : ∀ w : Fin 24, 0 < w.val → stW (w.val + 1) = stW w.val + (lnW w.val + 1) := by decide
section MWD
variable {d : Nat} {h : am_H} {F : Nat → Nat → Int32} {J : Nat → Nat → Int64} {V : Nat → Nat → Value} {Q : am_Q}
set_option maxRecDepth 20000 in
theorem m_isSmall {h : am_H} {b : Int32} (K : Q (some (.int (b2i (sml b)))) h) : am_cl (d + 1) 189 [.int b] h Q := by
  unfold sml at K
  simp only [ax0, ex_cons, am_get, upz_at, true_and, and_true, Nat.reduceAdd, Nat.reduceLeDiff, Nat.reduceEqDiff, Nat.reduceSub, Int32.reduceOfInt, Int32.reduceAdd, Int32.reduceMul, Int32.reduceSub, ↓reduceIte, Int32.reduceLT, Int32.reduceLE, Int32.reduceToNatClampNeg, Nat.reduceMod, Nat.reduceLT, List.length_cons, List.length_nil, eq_self, true_or, or_true, and_self, implies_true, not_true_eq_false, not_false_eq_true, false_implies, true_implies, forall_const, st_freturnx, st_gotox, st_goto_wx, st_iconstx, st_if_icmpx, st_iloadx, kb_Model_isSmall_0, jx_Model_isSmall_16, kb_Model_isSmall_16, jx_Model_isSmall_17, kb_Model_isSmall_17, cx_Model_isSmall]
  refine And.intro (fun q => ?_) (fun q => ?_)
  · rw [decide_eq_true q] at K; exact K
  · rw [decide_eq_false q] at K
    refine And.intro (fun q2 => ?_) (fun q2 => ?_)
    · rw [decide_eq_true q2] at K; exact K
    · rw [decide_eq_false q2] at K; exact K
set_option maxRecDepth 20000 in
theorem m_isDigit {h : am_H} {b : Int32} (K : Q (some (.int (b2i (dgt b)))) h) : am_cl (d + 1) 190 [.int b] h Q := by
  unfold dgt at K
  simp only [ax0, ex_cons, am_get, upz_at, true_and, and_true, Nat.reduceAdd, Nat.reduceLeDiff, Nat.reduceEqDiff, Nat.reduceSub, Int32.reduceOfInt, Int32.reduceAdd, Int32.reduceMul, Int32.reduceSub, ↓reduceIte, Int32.reduceLT, Int32.reduceLE, Int32.reduceToNatClampNeg, Nat.reduceMod, Nat.reduceLT, List.length_cons, List.length_nil, eq_self, true_or, or_true, and_self, implies_true, not_true_eq_false, not_false_eq_true, false_implies, true_implies, forall_const, st_freturnx, st_gotox, st_goto_wx, st_iconstx, st_if_icmpx, st_iloadx, kb_Model_isDigit_0, jx_Model_isDigit_16, kb_Model_isDigit_16, jx_Model_isDigit_17, kb_Model_isDigit_17, cx_Model_isDigit]
  refine And.intro (fun q => ?_) (fun q => ?_)
  · rw [decide_eq_true q] at K; exact K
  · rw [decide_eq_false q] at K
    refine And.intro (fun q2 => ?_) (fun q2 => ?_)
    · rw [decide_eq_true q2] at K; exact K
    · rw [decide_eq_false q2] at K; exact K
def stX (w : Nat) : Nat := if w = 25 then 74 else stW w
theorem stX_n : ∀ w : Fin 25, 0 < w.val → stX (w.val + 1) = stW w.val + (lnW w.val + 1) ∧ stX w.val = stW w.val := by decide
theorem all_f {q : Nat → Bool} {n i : Nat} (hi : i ≤ n) (h : (List.range i).all q = false) : (List.range n).all q = false := by
  cases e : (List.range n).all q with
  | false => rfl
  | true =>
    have h2 : (List.range i).all q = true := rg_all.mpr (fun j hj => rg_all.mp e j (by omega))
    rw [h2] at h; cases h
set_option maxRecDepth 20000 in
theorem m_wordOf (wd : WD F) {p e : Nat} (hp : p < e) (he : e ≤ 400) {t : Nat → Int32} (ht : ∀ i, p ≤ i → i < e → F 88 i = t i) (K : Q (some (.int (nI (wcF t p (e - p) 24 1)))) (ov h F J V)) : am_cl (d + 1) 191 [.ref 82, .int (nI p), .int (nI e)] (ov h F J V) Q := by
  simp only [ax0, ex_cons, am_get, upz_at, true_and, and_true, Nat.reduceAdd, Nat.reduceLeDiff, Nat.reduceEqDiff, Nat.reduceSub, Int32.reduceOfInt, Int32.reduceAdd, Int32.reduceMul, Int32.reduceSub, ↓reduceIte, Int32.reduceLT, Int32.reduceLE, Int32.reduceToNatClampNeg, Nat.reduceMod, Nat.reduceLT, List.length_cons, List.length_nil, eq_self, true_or, or_true, and_self, implies_true, not_true_eq_false, not_false_eq_true, false_implies, true_implies, forall_const, st_gotox, st_goto_wx, st_iaddx, st_iconstx, st_ifCondx, st_if_icmpx, st_iincx, st_iloadx, st_ireturnx, st_istorex, st_isubx, am_put, am_nlg, cx_Model_wordOf, kb_Model_wordOf_0, jx_Model_wordOf_39, kb_Model_wordOf_39, jx_Model_wordOf_51, kb_Model_wordOf_51, jx_Model_wordOf_52, kb_Model_wordOf_52, jx_Model_wordOf_95, kb_Model_wordOf_95, jx_Model_wordOf_96, kb_Model_wordOf_96, jx_Model_wordOf_104, kb_Model_wordOf_104, jx_Model_wordOf_111, kb_Model_wordOf_111, jx_Model_wordOf_126, kb_Model_wordOf_126]
  generalize ho : wcF t p (e - p) 24 1 = o at K
  have key : ∀ j w v5 v6 v7, w + j = 25 → 0 < w → o = wcF t p (e - p) j w → am_W kc_Model_wordOf (am_cl d) Q 5 [.ref 82, .int (nI p), .int (nI e), .int (nI w), .int (nI (stX w)), v5, v6, v7] [] (ov h F J V) := by
    intro j
    induction j with
    | zero =>
      intro w v5 v6 v7 ew w0 eq
      have ew : w = 25 := ew
      subst ew
      rw [eq] at K
      rw [jx_Model_wordOf_5]
      simp only [ax0, ex_cons, am_get, upz_at, true_and, and_true, Nat.reduceAdd, Nat.reduceLeDiff, Nat.reduceEqDiff, Nat.reduceSub, Int32.reduceOfInt, Int32.reduceAdd, Int32.reduceMul, Int32.reduceSub, ↓reduceIte, Int32.reduceLT, Int32.reduceLE, Int32.reduceToNatClampNeg, Nat.reduceMod, Nat.reduceLT, List.length_cons, List.length_nil, eq_self, true_or, or_true, and_self, implies_true, not_true_eq_false, not_false_eq_true, false_implies, true_implies, forall_const, st_aloadx, st_arraylengthx, st_getfieldx, st_goto_wx, st_iconstx, st_if_icmpx, st_iloadx, st_ireturnx, st_istorex, am_put, am_nlg, kb_Model_wordOf_5, og_82_5, jx_Model_wordOf_126, kb_Model_wordOf_126, oa_82, oa_87, ol_87, show stX 25 = 74 from rfl, (nk_le (by omega) (by omega) : (nI (74) ≤ nI (74)) = (74 ≤ 74)), Nat.le_refl]
      exact K
    | succ j ih =>
      intro w v5 v6 v7 ew w0 eq
      obtain ⟨a1, a2, a3, a4, a5, a6, a7⟩ := sp_dec ⟨w, by omega⟩ w0
      dsimp only at a1 a2 a3 a5 a6 a7
      obtain ⟨x1, x2⟩ := stX_n ⟨w, by omega⟩ w0
      dsimp only at x1 x2
      have hln := lnW_le w
      unfold wcF at eq
      have nx : ∀ v6 v7, (decide (lnW w = e - p) && mtW t p w) = false → am_W kc_Model_wordOf (am_cl d) Q 111 [.ref 82, .int (nI p), .int (nI e), .int (nI w), .int (nI (stW w)), .int (nI (lnW w)), v6, v7] [] (ov h F J V) := by
        intro v6 v7 hf
        rw [hf, if_neg Bool.false_ne_true] at eq
        simp only [ax0, ex_cons, am_get, upz_at, true_and, and_true, Nat.reduceAdd, Nat.reduceLeDiff, Nat.reduceEqDiff, Nat.reduceSub, Int32.reduceOfInt, Int32.reduceAdd, Int32.reduceMul, Int32.reduceSub, ↓reduceIte, Int32.reduceLT, Int32.reduceLE, Int32.reduceToNatClampNeg, Nat.reduceMod, Nat.reduceLT, List.length_cons, List.length_nil, eq_self, true_or, or_true, and_self, implies_true, not_true_eq_false, not_false_eq_true, false_implies, true_implies, forall_const, st_gotox, st_iaddx, st_iconstx, st_iincx, st_iloadx, st_istorex, am_put, am_nlg, jx_Model_wordOf_111, kb_Model_wordOf_111, nk_succ, show nI (stW w) + nI (lnW w + 1) = nI (stW w + (lnW w + 1)) from nk_add _ _]
        have := ih (w + 1) (.int (nI (lnW w))) v6 v7 (by omega) (by omega) eq
        rw [x1] at this
        exact this
      have cmp : ∀ j' i (b : Bool), i + j' = lnW w → (b = (decide (lnW w = e - p) && (List.range i).all (fun i => decide (nI (wdL.getD (stW w + i) 0) = t (p + i))))) → am_W kc_Model_wordOf (am_cl d) Q 57 [.ref 82, .int (nI p), .int (nI e), .int (nI w), .int (nI (stW w)), .int (nI (lnW w)), .int (b2i b), .int (nI i)] [] (ov h F J V) := by
        intro j'
        induction j' with
        | zero =>
          intro i b ei hb
          have ei : i = lnW w := ei
          subst ei
          have hb : b = (decide (lnW w = e - p) && mtW t p w) := hb
          rw [jx_Model_wordOf_57]
          simp only [ax0, ex_cons, am_get, upz_at, true_and, and_true, Nat.reduceAdd, Nat.reduceLeDiff, Nat.reduceEqDiff, Nat.reduceSub, Int32.reduceOfInt, Int32.reduceAdd, Int32.reduceMul, Int32.reduceSub, ↓reduceIte, Int32.reduceLT, Int32.reduceLE, Int32.reduceToNatClampNeg, Nat.reduceMod, Nat.reduceLT, List.length_cons, List.length_nil, eq_self, true_or, or_true, and_self, implies_true, not_true_eq_false, not_false_eq_true, false_implies, true_implies, forall_const, st_aloadx, st_baloadx, st_getfieldx, st_gotox, st_iaddx, st_iconstx, st_ifCondx, st_if_icmpx, st_iloadx, st_ireturnx, kb_Model_wordOf_57, og_82_5, og_82_6, jx_Model_wordOf_104, kb_Model_wordOf_104, oa_82, oa_87, or_87, oa_88, or_88, (nk_le (by omega) (by omega) : (nI (lnW w) ≤ nI (lnW w)) = (lnW w ≤ lnW w)), Nat.le_refl]
          refine ifb (fun q => ?_) (fun q => ?_)
          · exact nx _ _ (by rw [← hb]; exact q)
          · rw [← hb, q, if_pos rfl] at eq
            rw [eq] at K
            exact K
        | succ j' ih' =>
          intro i b ei hb
          rw [jx_Model_wordOf_57]
          simp only [ax0, ex_cons, am_get, upz_at, true_and, and_true, Nat.reduceAdd, Nat.reduceLeDiff, Nat.reduceEqDiff, Nat.reduceSub, Int32.reduceOfInt, Int32.reduceAdd, Int32.reduceMul, Int32.reduceSub, ↓reduceIte, Int32.reduceLT, Int32.reduceLE, Int32.reduceToNatClampNeg, Nat.reduceMod, Nat.reduceLT, List.length_cons, List.length_nil, eq_self, true_or, or_true, and_self, implies_true, not_true_eq_false, not_false_eq_true, false_implies, true_implies, forall_const, st_aloadx, st_baloadx, st_getfieldx, st_gotox, st_iaddx, st_iconstx, st_ifCondx, st_if_icmpx, st_iloadx, st_ireturnx, kb_Model_wordOf_57, og_82_5, og_82_6, jx_Model_wordOf_104, kb_Model_wordOf_104, oa_82, oa_87, or_87, oa_88, or_88, (nk_le (by omega) (by omega) : (nI (lnW w) ≤ nI (i)) = (lnW w ≤ i)), show ¬ lnW w ≤ i by omega]
          refine ifb (fun q => ?_) (fun q => ?_)
          · rw [q] at hb ⊢
            simp only [ax0, ex_cons, am_get, upz_at, true_and, and_true, Nat.reduceAdd, Nat.reduceLeDiff, Nat.reduceEqDiff, Nat.reduceSub, Int32.reduceOfInt, Int32.reduceAdd, Int32.reduceMul, Int32.reduceSub, ↓reduceIte, Int32.reduceLT, Int32.reduceLE, Int32.reduceToNatClampNeg, Nat.reduceMod, Nat.reduceLT, List.length_cons, List.length_nil, eq_self, true_or, or_true, and_self, implies_true, not_true_eq_false, not_false_eq_true, false_implies, true_implies, forall_const, st_ifCondx, st_iloadx, st_ireturnx, jx_Model_wordOf_104, kb_Model_wordOf_104, b2i_f]
            refine nx _ _ ?_
            cases e1 : decide (lnW w = e - p)
            · rfl
            · rw [e1, Bool.true_and] at hb
              rw [Bool.true_and]
              exact all_f (by omega) hb.symm
          · rw [q] at hb
            have e1 : lnW w = e - p := by
              have := hb.symm
              rw [Bool.and_eq_true] at this
              exact of_decide_eq_true this.1
            have hw1 := wd (stW w + i) (by omega)
            have ht1 := ht (p + i) (by omega) (by omega)
            simp only [ax0, ex_cons, am_get, upz_at, true_and, and_true, Nat.reduceAdd, Nat.reduceLeDiff, Nat.reduceEqDiff, Nat.reduceSub, Int32.reduceOfInt, Int32.reduceAdd, Int32.reduceMul, Int32.reduceSub, ↓reduceIte, Int32.reduceLT, Int32.reduceLE, Int32.reduceToNatClampNeg, Nat.reduceMod, Nat.reduceLT, List.length_cons, List.length_nil, eq_self, true_or, or_true, and_self, implies_true, not_true_eq_false, not_false_eq_true, false_implies, true_implies, forall_const, st_aloadx, st_baloadx, st_getfieldx, st_gotox, st_goto_wx, st_iaddx, st_iconstx, st_ifCondx, st_if_icmpx, st_iloadx, kb_Model_wordOf_57, og_82_5, og_82_6, jx_Model_wordOf_95, kb_Model_wordOf_95, oa_82, oa_87, or_87, oa_88, or_88, show nI (stW w) + nI i = nI (stW w + i) from nk_add _ _, show nI p + nI i = nI (p + i) from nk_add _ _, nk_neg (show stW w + i < 2147483648 by omega), nk_cl (show stW w + i < 2147483648 by omega), nk_neg (show p + i < 2147483648 by omega), nk_cl (show p + i < 2147483648 by omega), show stW w + i < 74 by omega, show p + i < 400 by omega, hw1, ht1]
            refine And.intro (fun q2 => ?_) (fun q2 => ?_)
            · simp only [ax0, ex_cons, am_get, upz_at, true_and, and_true, Nat.reduceAdd, Nat.reduceLeDiff, Nat.reduceEqDiff, Nat.reduceSub, Int32.reduceOfInt, Int32.reduceAdd, Int32.reduceMul, Int32.reduceSub, ↓reduceIte, Int32.reduceLT, Int32.reduceLE, Int32.reduceToNatClampNeg, Nat.reduceMod, Nat.reduceLT, List.length_cons, List.length_nil, eq_self, true_or, or_true, and_self, implies_true, not_true_eq_false, not_false_eq_true, false_implies, true_implies, forall_const, st_gotox, st_iincx, st_istorex, am_put, am_nlg, jx_Model_wordOf_96, kb_Model_wordOf_96, nk_succ]
              exact ih' (i + 1) false (by omega) (by rw [mtW_s, ← Bool.and_assoc, ← hb, decide_eq_false q2]; rfl)
            · simp only [ax0, ex_cons, am_get, upz_at, true_and, and_true, Nat.reduceAdd, Nat.reduceLeDiff, Nat.reduceEqDiff, Nat.reduceSub, Int32.reduceOfInt, Int32.reduceAdd, Int32.reduceMul, Int32.reduceSub, ↓reduceIte, Int32.reduceLT, Int32.reduceLE, Int32.reduceToNatClampNeg, Nat.reduceMod, Nat.reduceLT, List.length_cons, List.length_nil, eq_self, true_or, or_true, and_self, implies_true, not_true_eq_false, not_false_eq_true, false_implies, true_implies, forall_const, st_gotox, st_iincx, st_istorex, am_put, am_nlg, jx_Model_wordOf_96, kb_Model_wordOf_96, nk_succ]
              exact ih' (i + 1) true (by omega) (by rw [mtW_s, ← Bool.and_assoc, ← hb, decide_eq_true (Classical.not_not.mp q2)]; rfl)
      have scan : ∀ j' i v6 v7, i + j' = lnW w → am_W kc_Model_wordOf (am_cl d) Q 18 [.ref 82, .int (nI p), .int (nI e), .int (nI w), .int (nI (stW w)), .int (nI i), v6, v7] [] (ov h F J V) := by
        intro j'
        induction j' with
        | zero =>
          intro i v6 v7 ei
          have ei : i = lnW w := ei
          subst ei
          have hw1 := wd (stW w + lnW w) a1
          rw [a5] at hw1
          rw [jx_Model_wordOf_18]
          simp only [ax0, ex_cons, am_get, upz_at, true_and, and_true, Nat.reduceAdd, Nat.reduceLeDiff, Nat.reduceEqDiff, Nat.reduceSub, Int32.reduceOfInt, Int32.reduceAdd, Int32.reduceMul, Int32.reduceSub, ↓reduceIte, Int32.reduceLT, Int32.reduceLE, Int32.reduceToNatClampNeg, Nat.reduceMod, Nat.reduceLT, List.length_cons, List.length_nil, eq_self, true_or, or_true, and_self, implies_true, not_true_eq_false, not_false_eq_true, false_implies, true_implies, forall_const, st_aloadx, st_baloadx, st_getfieldx, st_gotox, st_goto_wx, st_iaddx, st_iconstx, st_if_icmpx, st_iincx, st_iloadx, st_isubx, am_put, am_nlg, kb_Model_wordOf_18, og_82_5, jx_Model_wordOf_39, kb_Model_wordOf_39, jx_Model_wordOf_51, kb_Model_wordOf_51, oa_82, oa_87, or_87, show nI (stW w) + nI (lnW w) = nI (stW w + lnW w) from nk_add _ _, nk_neg (show stW w + lnW w < 2147483648 by omega), nk_cl (show stW w + lnW w < 2147483648 by omega), a1, show F 87 (stW w + lnW w) = 32 from hw1, show nI e - nI p = nI (e - p) from nk_sub (by omega), show (nI (lnW w) = nI (e - p)) = (lnW w = e - p) from nk_eq (by omega) (by omega)]
          refine And.intro (fun q => ?_) (fun q => ?_)
          · simp only [ax0, ex_cons, am_get, upz_at, true_and, and_true, Nat.reduceAdd, Nat.reduceLeDiff, Nat.reduceEqDiff, Nat.reduceSub, Int32.reduceOfInt, Int32.reduceAdd, Int32.reduceMul, Int32.reduceSub, ↓reduceIte, Int32.reduceLT, Int32.reduceLE, Int32.reduceToNatClampNeg, Nat.reduceMod, Nat.reduceLT, List.length_cons, List.length_nil, eq_self, true_or, or_true, and_self, implies_true, not_true_eq_false, not_false_eq_true, false_implies, true_implies, forall_const, st_goto_wx, st_iconstx, st_istorex, am_put, am_nlg, jx_Model_wordOf_52, kb_Model_wordOf_52]
            exact cmp (lnW w) 0 false (by omega) (by rw [decide_eq_false q]; rfl)
          · simp only [ax0, ex_cons, am_get, upz_at, true_and, and_true, Nat.reduceAdd, Nat.reduceLeDiff, Nat.reduceEqDiff, Nat.reduceSub, Int32.reduceOfInt, Int32.reduceAdd, Int32.reduceMul, Int32.reduceSub, ↓reduceIte, Int32.reduceLT, Int32.reduceLE, Int32.reduceToNatClampNeg, Nat.reduceMod, Nat.reduceLT, List.length_cons, List.length_nil, eq_self, true_or, or_true, and_self, implies_true, not_true_eq_false, not_false_eq_true, false_implies, true_implies, forall_const, st_goto_wx, st_iconstx, st_istorex, am_put, am_nlg, jx_Model_wordOf_52, kb_Model_wordOf_52]
            exact cmp (lnW w) 0 true (by omega) (by rw [decide_eq_true (Classical.not_not.mp q)]; rfl)
        | succ j' ih' =>
          intro i v6 v7 ei
          obtain ⟨b1, b2, b3⟩ := a7 ⟨i, by omega⟩ (by show i < lnW w; omega)
          dsimp only at b1 b2 b3
          have hw1 := wd (stW w + i) (by omega)
          rw [jx_Model_wordOf_18]
          simp only [ax0, ex_cons, am_get, upz_at, true_and, and_true, Nat.reduceAdd, Nat.reduceLeDiff, Nat.reduceEqDiff, Nat.reduceSub, Int32.reduceOfInt, Int32.reduceAdd, Int32.reduceMul, Int32.reduceSub, ↓reduceIte, Int32.reduceLT, Int32.reduceLE, Int32.reduceToNatClampNeg, Nat.reduceMod, Nat.reduceLT, List.length_cons, List.length_nil, eq_self, true_or, or_true, and_self, implies_true, not_true_eq_false, not_false_eq_true, false_implies, true_implies, forall_const, st_aloadx, st_baloadx, st_getfieldx, st_gotox, st_iaddx, st_iconstx, st_if_icmpx, st_iincx, st_iloadx, am_put, am_nlg, kb_Model_wordOf_18, og_82_5, oa_82, oa_87, or_87, show nI (stW w) + nI i = nI (stW w + i) from nk_add _ _, nk_neg (show stW w + i < 2147483648 by omega), nk_cl (show stW w + i < 2147483648 by omega), show stW w + i < 74 by omega, hw1, show (nI (wdL.getD (stW w + i) 0) = (32 : Int32)) = (wdL.getD (stW w + i) 0 = 32) from nk_eq (b := 32) (by omega) (by decide), b1, nk_succ]
          exact ih' (i + 1) v6 v7 (by omega)
      rw [x2, jx_Model_wordOf_5]
      simp only [ax0, ex_cons, am_get, upz_at, true_and, and_true, Nat.reduceAdd, Nat.reduceLeDiff, Nat.reduceEqDiff, Nat.reduceSub, Int32.reduceOfInt, Int32.reduceAdd, Int32.reduceMul, Int32.reduceSub, ↓reduceIte, Int32.reduceLT, Int32.reduceLE, Int32.reduceToNatClampNeg, Nat.reduceMod, Nat.reduceLT, List.length_cons, List.length_nil, eq_self, true_or, or_true, and_self, implies_true, not_true_eq_false, not_false_eq_true, false_implies, true_implies, forall_const, st_aloadx, st_arraylengthx, st_getfieldx, st_goto_wx, st_iconstx, st_if_icmpx, st_iloadx, st_istorex, am_put, am_nlg, kb_Model_wordOf_5, og_82_5, oa_82, oa_87, ol_87, (nk_le (by omega) (by omega) : (nI (74) ≤ nI (stW w)) = (74 ≤ stW w)), show ¬ 74 ≤ stW w by omega]
      exact scan (lnW w) 0 _ _ (by omega)
  exact key 24 1 _ _ _ rfl (by decide) ho.symm
end MWD
