/-! ===== the model: figure, middle, otherOf ===== -/
def fg (s p t r : Nat) : Int32 := if s = r then (if p = t then -1 else 1) else if s = t then (if p = r then -1 else 3) else if p = r then 2 else if p = t then 4 else -1
def gx (X S T : Int32) : Int32 := if X = 0 then -1 else if X &&& (X - 1) = 0 then (if X = S then (if X = T then 3 else 1) else if X = T then 4 else 2) else -1
def fx (s p t r : Nat) : Int32 := (nI (2 ^ s) ||| nI (2 ^ p)) &&& (nI (2 ^ t) ||| nI (2 ^ r))
theorem fg_dec : ∀ s p t r : Fin 8, s ≠ p → t ≠ r → gx (fx s.val p.val t.val r.val) (nI (2 ^ s.val)) (nI (2 ^ t.val)) = fg s.val p.val t.val r.val := by decide +kernel
theorem fg_gx {s p t r : Nat} (hs : s < 8) (hp : p < 8) (ht : t < 8) (hr : r < 8) (h1 : s ≠ p) (h2 : t ≠ r) : gx (fx s p t r) (nI (2 ^ s)) (nI (2 ^ t)) = fg s p t r :=
  fg_dec ⟨s, hs⟩ ⟨p, hp⟩ ⟨t, ht⟩ ⟨r, hr⟩ (fun e => h1 (congrArg Fin.val e)) (fun e => h2 (congrArg Fin.val e))
def fgN (a b : Nat) : Int32 := fg (a / 8 % 8) (a % 8) (b / 8 % 8) (b % 8)
theorem fg_or (s p t r : Nat) : fg s p t r = -1 ∨ fg s p t r = 1 ∨ fg s p t r = 2 ∨ fg s p t r = 3 ∨ fg s p t r = 4 := by
  unfold fg
  repeat' split
  all_goals decide
def mdN (a b : Nat) : Nat := if fgN a b = 1 ∨ fgN a b = 3 then a / 8 % 8 else a % 8
def otN (n k : Nat) : Nat := if n / 8 % 8 = k then n % 8 else n / 8 % 8
theorem mdN_lt (a b : Nat) : mdN a b < 8 := by unfold mdN; split <;> omega
theorem otN_lt (a b : Nat) : otN a b < 8 := by unfold otN; split <;> omega
theorem isNu_ne {n : Nat} (h : isNu n = true) : n / 8 % 8 ≠ n % 8 := by
  unfold isNu at h
  intro e
  rw [decide_eq_true e] at h
  exact absurd h (by decide)
section MPK
variable {d : Nat} {h : am_H} {F : Nat → Nat → Int32} {J : Nat → Nat → Int64} {V : Nat → Nat → Value} {Q : am_Q}
set_option maxRecDepth 20000 in
theorem m_subject {h : am_H} {n : Nat} (hn : n < 256) (K : Q (some (.int (nI (n / 8 % 8)))) h) : am_cl (d + 1) 263 [.int (nI n)] h Q := by
  simp only [ax0, ex_cons, am_get, upz_at, true_and, and_true, Nat.reduceAdd, Nat.reduceLeDiff, Nat.reduceEqDiff, Nat.reduceSub, Int32.reduceOfInt, Int32.reduceAdd, Int32.reduceMul, Int32.reduceSub, ↓reduceIte, Int32.reduceLT, Int32.reduceLE, Int32.reduceToNatClampNeg, Nat.reduceMod, Nat.reduceLT, List.length_cons, List.length_nil, eq_self, true_or, or_true, and_self, implies_true, not_true_eq_false, not_false_eq_true, false_implies, true_implies, forall_const, st_iconst, st_idiv, st_iload, st_irem, st_ireturn, cx_Model_subject, kb_Model_subject_0, show ((8 : Int32) = 0) = False from ax_f (by decide), show nI (n) / (8 : Int32) = nI ((n) / 8) from nk_div (a := n) (b := 8) (by omega) (by decide) (by decide), show nI (n) - nI ((n) / 8) * (8 : Int32) = nI ((n) % 8) from nk_rm (a := n) (b := 8) (by omega) (by decide) (by decide), show ((8 : Int32) = 0) = False from ax_f (by decide), show nI (n / 8) / (8 : Int32) = nI ((n / 8) / 8) from nk_div (a := n / 8) (b := 8) (by omega) (by decide) (by decide), show nI (n / 8) - nI ((n / 8) / 8) * (8 : Int32) = nI ((n / 8) % 8) from nk_rm (a := n / 8) (b := 8) (by omega) (by decide) (by decide)]
  exact K
set_option maxRecDepth 20000 in
theorem m_predicate {h : am_H} {n : Nat} (hn : n < 256) (K : Q (some (.int (nI (n % 8)))) h) : am_cl (d + 1) 264 [.int (nI n)] h Q := by
  simp only [ax0, ex_cons, am_get, upz_at, true_and, and_true, Nat.reduceAdd, Nat.reduceLeDiff, Nat.reduceEqDiff, Nat.reduceSub, Int32.reduceOfInt, Int32.reduceAdd, Int32.reduceMul, Int32.reduceSub, ↓reduceIte, Int32.reduceLT, Int32.reduceLE, Int32.reduceToNatClampNeg, Nat.reduceMod, Nat.reduceLT, List.length_cons, List.length_nil, eq_self, true_or, or_true, and_self, implies_true, not_true_eq_false, not_false_eq_true, false_implies, true_implies, forall_const, st_iconst, st_iload, st_irem, st_ireturn, cx_Model_predicate, kb_Model_predicate_0, show ((8 : Int32) = 0) = False from ax_f (by decide), show nI (n) / (8 : Int32) = nI ((n) / 8) from nk_div (a := n) (b := 8) (by omega) (by decide) (by decide), show nI (n) - nI ((n) / 8) * (8 : Int32) = nI ((n) % 8) from nk_rm (a := n) (b := 8) (by omega) (by decide) (by decide)]
  exact K
set_option maxRecDepth 20000 in
theorem m_otherOf {h : am_H} {n k : Nat} (hn : n < 256) (hk : k < 8) (K : Q (some (.int (nI (otN n k)))) h) : am_cl (d + 2) 267 [.int (nI n), .int (nI k)] h Q := by
  unfold otN at K
  simp only [ax0, ex_cons, am_get, upz_at, true_and, and_true, Nat.reduceAdd, Nat.reduceLeDiff, Nat.reduceEqDiff, Nat.reduceSub, Int32.reduceOfInt, Int32.reduceAdd, Int32.reduceMul, Int32.reduceSub, ↓reduceIte, Int32.reduceLT, Int32.reduceLE, Int32.reduceToNatClampNeg, Nat.reduceMod, Nat.reduceLT, List.length_cons, List.length_nil, eq_self, true_or, or_true, and_self, implies_true, not_true_eq_false, not_false_eq_true, false_implies, true_implies, forall_const, st_goto, st_goto_w, st_iconst, st_idiv, st_if_icmp, st_iload, st_st1, st_irem, st_ireturn, cx_Model_otherOf, kb_Model_otherOf_0, jx_Model_otherOf_15, kb_Model_otherOf_15, jx_Model_otherOf_19, kb_Model_otherOf_19, cx_Model_subject, kb_Model_subject_0, cx_Model_predicate, kb_Model_predicate_0, show ((8 : Int32) = 0) = False from ax_f (by decide), show nI (n) / (8 : Int32) = nI ((n) / 8) from nk_div (a := n) (b := 8) (by omega) (by decide) (by decide), show nI (n) - nI ((n) / 8) * (8 : Int32) = nI ((n) % 8) from nk_rm (a := n) (b := 8) (by omega) (by decide) (by decide), show ((8 : Int32) = 0) = False from ax_f (by decide), show nI (n / 8) / (8 : Int32) = nI ((n / 8) / 8) from nk_div (a := n / 8) (b := 8) (by omega) (by decide) (by decide), show nI (n / 8) - nI ((n / 8) / 8) * (8 : Int32) = nI ((n / 8) % 8) from nk_rm (a := n / 8) (b := 8) (by omega) (by decide) (by decide), nk_eq (show n / 8 % 8 < 2147483648 by omega) (show k < 2147483648 by omega)]
  refine ⟨fun q => ?_, fun q => ?_⟩
  · rw [if_neg q] at K; exact K
  · rw [if_pos (Decidable.not_not.mp q)] at K; exact K
set_option maxRecDepth 20000 in
theorem m_figure {h : am_H} {a b : Nat} (ha : a < 256) (hb : b < 256) (na : isNu a = true) (nb : isNu b = true) (K : Q (some (.int (fgN a b))) h) : am_cl (d + 2) 265 [.int (nI a), .int (nI b)] h Q := by
  simp only [ax0, ex_cons, am_get, upz_at, true_and, and_true, Nat.reduceAdd, Nat.reduceLeDiff, Nat.reduceEqDiff, Nat.reduceSub, Int32.reduceOfInt, Int32.reduceAdd, Int32.reduceMul, Int32.reduceSub, ↓reduceIte, Int32.reduceLT, Int32.reduceLE, Int32.reduceToNatClampNeg, Nat.reduceMod, Nat.reduceLT, List.length_cons, List.length_nil, eq_self, true_or, or_true, and_self, implies_true, not_true_eq_false, not_false_eq_true, false_implies, true_implies, forall_const, st_goto, st_goto_w, st_iand, st_iconst, st_idiv, st_ifCond, st_if_icmp, st_iload, st_st1, st_ior, st_irem, st_ireturn, st_ishl, st_istore, st_isub, am_put, am_nlg, cx_Model_figure, kb_Model_figure_0, jx_Model_figure_40, kb_Model_figure_40, jx_Model_figure_42, kb_Model_figure_42, jx_Model_figure_56, kb_Model_figure_56, jx_Model_figure_57, kb_Model_figure_57, jx_Model_figure_72, kb_Model_figure_72, jx_Model_figure_73, kb_Model_figure_73, jx_Model_figure_88, kb_Model_figure_88, jx_Model_figure_101, kb_Model_figure_101, jx_Model_figure_109, kb_Model_figure_109, jx_Model_figure_110, kb_Model_figure_110, cx_Model_subject, kb_Model_subject_0, cx_Model_predicate, kb_Model_predicate_0, show ((8 : Int32) = 0) = False from ax_f (by decide), show nI (a) / (8 : Int32) = nI ((a) / 8) from nk_div (a := a) (b := 8) (by omega) (by decide) (by decide), show nI (a) - nI ((a) / 8) * (8 : Int32) = nI ((a) % 8) from nk_rm (a := a) (b := 8) (by omega) (by decide) (by decide), show ((8 : Int32) = 0) = False from ax_f (by decide), show nI (a / 8) / (8 : Int32) = nI ((a / 8) / 8) from nk_div (a := a / 8) (b := 8) (by omega) (by decide) (by decide), show nI (a / 8) - nI ((a / 8) / 8) * (8 : Int32) = nI ((a / 8) % 8) from nk_rm (a := a / 8) (b := 8) (by omega) (by decide) (by decide), show ((8 : Int32) = 0) = False from ax_f (by decide), show nI (b) / (8 : Int32) = nI ((b) / 8) from nk_div (a := b) (b := 8) (by omega) (by decide) (by decide), show nI (b) - nI ((b) / 8) * (8 : Int32) = nI ((b) % 8) from nk_rm (a := b) (b := 8) (by omega) (by decide) (by decide), show ((8 : Int32) = 0) = False from ax_f (by decide), show nI (b / 8) / (8 : Int32) = nI ((b / 8) / 8) from nk_div (a := b / 8) (b := 8) (by omega) (by decide) (by decide), show nI (b / 8) - nI ((b / 8) / 8) * (8 : Int32) = nI ((b / 8) % 8) from nk_rm (a := b / 8) (b := 8) (by omega) (by decide) (by decide), nk_1shl (show a / 8 % 8 < 32 by omega), nk_1shl (show a % 8 < 32 by omega), nk_1shl (show b / 8 % 8 < 32 by omega), nk_1shl (show b % 8 < 32 by omega)]
  unfold fgN at K
  rw [← fg_gx (by omega) (by omega) (by omega) (by omega) (isNu_ne na) (isNu_ne nb)] at K
  unfold fx at K
  revert K
  generalize ((nI (2 ^ (a / 8 % 8)) ||| nI (2 ^ (a % 8))) &&& (nI (2 ^ (b / 8 % 8)) ||| nI (2 ^ (b % 8)))) = X
  generalize nI (2 ^ (a / 8 % 8)) = S
  generalize nI (2 ^ (b / 8 % 8)) = T
  intro K
  unfold gx at K
  repeat' (first | refine And.intro (fun q => ?_) (fun q => ?_))
  all_goals (repeat' split at K)
  all_goals (first | exact K | contradiction)
set_option maxRecDepth 20000 in
theorem m_middle {h : am_H} {a b : Nat} (ha : a < 256) (hb : b < 256) (na : isNu a = true) (nb : isNu b = true) (K : Q (some (.int (nI (mdN a b)))) h) : am_cl (d + 3) 266 [.int (nI a), .int (nI b)] h Q := by
  simp only [ax0, ex_cons, am_get, upz_at, true_and, and_true, Nat.reduceAdd, Nat.reduceLeDiff, Nat.reduceEqDiff, Nat.reduceSub, Int32.reduceOfInt, Int32.reduceAdd, Int32.reduceMul, Int32.reduceSub, ↓reduceIte, Int32.reduceLT, Int32.reduceLE, Int32.reduceToNatClampNeg, Nat.reduceMod, Nat.reduceLT, List.length_cons, List.length_nil, eq_self, true_or, or_true, and_self, implies_true, not_true_eq_false, not_false_eq_true, false_implies, true_implies, forall_const, st_goto, st_iconst, st_if_icmp, st_iload, st_st1, st_st2, st_irem, kb_Model_middle_0, cx_Model_middle]
  refine m_figure ha hb na nb ?_
  unfold mdN at K
  have ef : (fgN a b - fgN a b / 2 * 2 = 1) = (fgN a b = 1 ∨ fgN a b = 3) := by
    rcases fg_or (a / 8 % 8) (a % 8) (b / 8 % 8) (b % 8) with e | e | e | e | e <;> (unfold fgN; rw [e]; exact propext (by decide))
  simp only [ax0, ex_cons, am_get, upz_at, true_and, and_true, Nat.reduceAdd, Nat.reduceLeDiff, Nat.reduceEqDiff, Nat.reduceSub, Int32.reduceOfInt, Int32.reduceAdd, Int32.reduceMul, Int32.reduceSub, ↓reduceIte, Int32.reduceLT, Int32.reduceLE, Int32.reduceToNatClampNeg, Nat.reduceMod, Nat.reduceLT, List.length_cons, List.length_nil, eq_self, true_or, or_true, and_self, implies_true, not_true_eq_false, not_false_eq_true, false_implies, true_implies, forall_const, st_goto, st_goto_w, st_iconst, st_idiv, st_if_icmp, st_iload, st_st1, st_st2, st_irem, st_ireturn, cx_Model_middle, kb_Model_middle_0, jx_Model_middle_18, kb_Model_middle_18, jx_Model_middle_22, kb_Model_middle_22, cx_Model_subject, kb_Model_subject_0, cx_Model_predicate, kb_Model_predicate_0, show ((8 : Int32) = 0) = False from ax_f (by decide), show nI (a) / (8 : Int32) = nI ((a) / 8) from nk_div (a := a) (b := 8) (by omega) (by decide) (by decide), show nI (a) - nI ((a) / 8) * (8 : Int32) = nI ((a) % 8) from nk_rm (a := a) (b := 8) (by omega) (by decide) (by decide), show ((8 : Int32) = 0) = False from ax_f (by decide), show nI (a / 8) / (8 : Int32) = nI ((a / 8) / 8) from nk_div (a := a / 8) (b := 8) (by omega) (by decide) (by decide), show nI (a / 8) - nI ((a / 8) / 8) * (8 : Int32) = nI ((a / 8) % 8) from nk_rm (a := a / 8) (b := 8) (by omega) (by decide) (by decide), ef]
  refine ⟨fun q => ?_, fun q => ?_⟩
  · rw [if_neg q] at K; exact K
  · rw [if_pos (Decidable.not_not.mp q)] at K; exact K
def ccF (T : tT) (ex : Bool) (k : Nat) : Nat → Nat → Int32
  | 0, _ => -1
  | j + 1, m => if fN T ex (64 * m + k) then nI m else ccF T ex k j (m + 1)
def ccT (a b : Nat) (ex : Bool) : tT := tellz (tellz tE (clR (rS a)) ex) (clR (rS b)) ex
def ccK (a b : Nat) : Nat := 8 * otN b (mdN a b) + otN a (mdN a b)
def ccN (a b : Nat) (ex : Bool) : Int32 := ccF (ccT a b ex) ex (ccK a b) 4 0
theorem ccT_len (a b : Nat) (ex : Bool) : (ccT a b ex).2.1.length ≤ 4 := by
  have h1 := tellz_len tE (clR (rS a)) ex
  have h2 := tellz_len (tellz tE (clR (rS a)) ex) (clR (rS b)) ex
  have h3 : tE.2.1.length = 0 := rfl
  unfold ccT
  omega
set_option maxRecDepth 20000 in
theorem m_concludes {D : dT} (hD : MK (F 84) D) {a b : Nat} (ha : a < 256) (hb : b < 256) (na : isNu a = true) (nb : isNu b = true) (K : ∀ F', Pm F F' → Q (some (.int (ccN a b D.2.2.2))) (ov h F' J V)) : am_cl (d + 6) 268 [.ref 82, .int (nI a), .int (nI b)] (ov h F J V) Q := by
  simp only [ax0, ex_cons, am_get, upz_at, true_and, and_true, Nat.reduceAdd, Nat.reduceLeDiff, Nat.reduceEqDiff, Nat.reduceSub, Int32.reduceOfInt, Int32.reduceAdd, Int32.reduceMul, Int32.reduceSub, ↓reduceIte, Int32.reduceLT, Int32.reduceLE, Int32.reduceToNatClampNeg, Nat.reduceMod, Nat.reduceLT, List.length_cons, List.length_nil, eq_self, true_or, or_true, and_self, implies_true, not_true_eq_false, not_false_eq_true, false_implies, true_implies, forall_const, st_aload, st_goto_w, st_iconst, st_iload, st_in1, st_in2, st_in3, st_st2, st_istore, am_put, am_nlg, kb_Model_concludes_0, oo_82, oa_82, cx_Model_concludes]
  refine m_middle ha hb na nb ?_
  simp only [ax0, ex_cons, am_get, upz_at, true_and, and_true, Nat.reduceAdd, Nat.reduceLeDiff, Nat.reduceEqDiff, Nat.reduceSub, Int32.reduceOfInt, Int32.reduceAdd, Int32.reduceMul, Int32.reduceSub, ↓reduceIte, Int32.reduceLT, Int32.reduceLE, Int32.reduceToNatClampNeg, Nat.reduceMod, Nat.reduceLT, List.length_cons, List.length_nil, eq_self, true_or, or_true, and_self, implies_true, not_true_eq_false, not_false_eq_true, false_implies, true_implies, forall_const, st_aload, st_goto_w, st_iconst, st_iload, st_in1, st_in2, st_in3, st_st2, st_istore, am_put, am_nlg, kb_Model_concludes_0, oo_82, oa_82]
  refine m_empties (fun F1 g1 g2 => ?_)
  simp only [ax0, ex_cons, am_get, upz_at, true_and, and_true, Nat.reduceAdd, Nat.reduceLeDiff, Nat.reduceEqDiff, Nat.reduceSub, Int32.reduceOfInt, Int32.reduceAdd, Int32.reduceMul, Int32.reduceSub, ↓reduceIte, Int32.reduceLT, Int32.reduceLE, Int32.reduceToNatClampNeg, Nat.reduceMod, Nat.reduceLT, List.length_cons, List.length_nil, eq_self, true_or, or_true, and_self, implies_true, not_true_eq_false, not_false_eq_true, false_implies, true_implies, forall_const, st_aload, st_goto_w, st_iconst, st_iload, st_in1, st_in2, st_in3, st_st2, st_istore, am_put, am_nlg, kb_Model_concludes_0, oo_82, oa_82]
  refine m_simple ha (fun F2 g3 g4 => ?_)
  have g1 := g1.s13 g4
  have hP2 := g2.pm.tr g4.pm
  have hD2 := hD.pm hP2
  simp only [ax0, ex_cons, am_get, upz_at, true_and, and_true, Nat.reduceAdd, Nat.reduceLeDiff, Nat.reduceEqDiff, Nat.reduceSub, Int32.reduceOfInt, Int32.reduceAdd, Int32.reduceMul, Int32.reduceSub, ↓reduceIte, Int32.reduceLT, Int32.reduceLE, Int32.reduceToNatClampNeg, Nat.reduceMod, Nat.reduceLT, List.length_cons, List.length_nil, eq_self, true_or, or_true, and_self, implies_true, not_true_eq_false, not_false_eq_true, false_implies, true_implies, forall_const, st_aload, st_goto_w, st_iconst, st_iload, st_in1, st_in2, st_in3, st_st2, st_istore, am_put, am_nlg, kb_Model_concludes_0, oo_82, oa_82]
  refine m_isTold hD2.2.2.2.1 ?_
  simp only [ax0, ex_cons, am_get, upz_at, true_and, and_true, Nat.reduceAdd, Nat.reduceLeDiff, Nat.reduceEqDiff, Nat.reduceSub, Int32.reduceOfInt, Int32.reduceAdd, Int32.reduceMul, Int32.reduceSub, ↓reduceIte, Int32.reduceLT, Int32.reduceLE, Int32.reduceToNatClampNeg, Nat.reduceMod, Nat.reduceLT, List.length_cons, List.length_nil, eq_self, true_or, or_true, and_self, implies_true, not_true_eq_false, not_false_eq_true, false_implies, true_implies, forall_const, st_aload, st_goto_w, st_iconst, st_iload, st_in1, st_in2, st_in3, st_st2, st_istore, am_put, am_nlg, kb_Model_concludes_0, oo_82, oa_82]
  refine m_tellsOf (s := 13) g1 (by decide) (by decide) g3 (fun F3 g5 g6 => ?_)
  simp only [ax0, ex_cons, am_get, upz_at, true_and, and_true, Nat.reduceAdd, Nat.reduceLeDiff, Nat.reduceEqDiff, Nat.reduceSub, Int32.reduceOfInt, Int32.reduceAdd, Int32.reduceMul, Int32.reduceSub, ↓reduceIte, Int32.reduceLT, Int32.reduceLE, Int32.reduceToNatClampNeg, Nat.reduceMod, Nat.reduceLT, List.length_cons, List.length_nil, eq_self, true_or, or_true, and_self, implies_true, not_true_eq_false, not_false_eq_true, false_implies, true_implies, forall_const, st_aload, st_goto_w, st_iconst, st_iload, st_in1, st_in2, st_in3, st_st2, st_istore, am_put, am_nlg, kb_Model_concludes_0, oo_82, oa_82]
  refine m_simple hb (fun F4 g7 g8 => ?_)
  have g5 := g5.s13 g8
  have hP4 := (hP2.tr g6.pm).tr g8.pm
  have hD4 := hD.pm hP4
  simp only [ax0, ex_cons, am_get, upz_at, true_and, and_true, Nat.reduceAdd, Nat.reduceLeDiff, Nat.reduceEqDiff, Nat.reduceSub, Int32.reduceOfInt, Int32.reduceAdd, Int32.reduceMul, Int32.reduceSub, ↓reduceIte, Int32.reduceLT, Int32.reduceLE, Int32.reduceToNatClampNeg, Nat.reduceMod, Nat.reduceLT, List.length_cons, List.length_nil, eq_self, true_or, or_true, and_self, implies_true, not_true_eq_false, not_false_eq_true, false_implies, true_implies, forall_const, st_aload, st_goto_w, st_iconst, st_iload, st_in1, st_in2, st_in3, st_st2, st_istore, am_put, am_nlg, kb_Model_concludes_0, oo_82, oa_82]
  refine m_isTold hD4.2.2.2.1 ?_
  simp only [ax0, ex_cons, am_get, upz_at, true_and, and_true, Nat.reduceAdd, Nat.reduceLeDiff, Nat.reduceEqDiff, Nat.reduceSub, Int32.reduceOfInt, Int32.reduceAdd, Int32.reduceMul, Int32.reduceSub, ↓reduceIte, Int32.reduceLT, Int32.reduceLE, Int32.reduceToNatClampNeg, Nat.reduceMod, Nat.reduceLT, List.length_cons, List.length_nil, eq_self, true_or, or_true, and_self, implies_true, not_true_eq_false, not_false_eq_true, false_implies, true_implies, forall_const, st_aload, st_goto_w, st_iconst, st_iload, st_in1, st_in2, st_in3, st_st2, st_istore, am_put, am_nlg, kb_Model_concludes_0, oo_82, oa_82]
  refine m_tellsOf (s := 13) g5 (by have h1 := tellz_len tE (clR (rS a)) D.2.2.2; have h3 : tE.2.1.length = 0 := rfl; omega) (by decide) g7 (fun F5 g9 g10 => ?_)
  have hP5 := hP4.tr g10.pm
  have hD5 := hD.pm hP5
  simp only [ax0, ex_cons, am_get, upz_at, true_and, and_true, Nat.reduceAdd, Nat.reduceLeDiff, Nat.reduceEqDiff, Nat.reduceSub, Int32.reduceOfInt, Int32.reduceAdd, Int32.reduceMul, Int32.reduceSub, ↓reduceIte, Int32.reduceLT, Int32.reduceLE, Int32.reduceToNatClampNeg, Nat.reduceMod, Nat.reduceLT, List.length_cons, List.length_nil, eq_self, true_or, or_true, and_self, implies_true, not_true_eq_false, not_false_eq_true, false_implies, true_implies, forall_const, st_aload, st_goto_w, st_iconst, st_iload, st_in1, st_in2, st_in3, st_st2, st_istore, am_put, am_nlg, kb_Model_concludes_0, oo_82, oa_82]
  have hm := mdN_lt a b
  have ho1 := otN_lt b (mdN a b)
  have ho2 := otN_lt a (mdN a b)
  have key : ∀ j m F1, m + j = 4 → MT F1 (ccT a b D.2.2.2) → MK (F1 84) D → Pm F F1 → (∀ F', Pm F F' → Q (some (.int (ccF (ccT a b D.2.2.2) D.2.2.2 (ccK a b) j m))) (ov h F' J V)) → am_W kc_Model_concludes (am_cl (d + 5)) Q 43 [.ref 82, .int (nI a), .int (nI b), .int (nI (mdN a b)), .int (nI m)] [] (ov h F1 J V) := by
    intro j
    induction j with
    | zero =>
      intro m F1 em r1 r2 r3 K2
      have em : m = 4 := em
      subst em
      rw [jx_Model_concludes_43]
      simp only [ax0, ex_cons, am_get, upz_at, true_and, and_true, Nat.reduceAdd, Nat.reduceLeDiff, Nat.reduceEqDiff, Nat.reduceSub, Int32.reduceOfInt, Int32.reduceAdd, Int32.reduceMul, Int32.reduceSub, ↓reduceIte, Int32.reduceLT, Int32.reduceLE, Int32.reduceToNatClampNeg, Nat.reduceMod, Nat.reduceLT, List.length_cons, List.length_nil, eq_self, true_or, or_true, and_self, implies_true, not_true_eq_false, not_false_eq_true, false_implies, true_implies, forall_const, st_aload, st_iadd, st_iconst, st_ifCond, st_if_icmp, st_iload, st_imul, st_in2, st_st2, st_ireturn, kb_Model_concludes_43, oo_82, jx_Model_concludes_85, kb_Model_concludes_85, oa_82, show ((4 : Int32) ≤ nI (4)) = (4 ≤ 4) from nk_le (a := 4) (b := 4) (by omega) (by omega)]
      exact K2 F1 r3
    | succ j ih =>
      intro m F1 em r1 r2 r3 K2
      rw [jx_Model_concludes_43]
      simp only [ax0, ex_cons, am_get, upz_at, true_and, and_true, Nat.reduceAdd, Nat.reduceLeDiff, Nat.reduceEqDiff, Nat.reduceSub, Int32.reduceOfInt, Int32.reduceAdd, Int32.reduceMul, Int32.reduceSub, ↓reduceIte, Int32.reduceLT, Int32.reduceLE, Int32.reduceToNatClampNeg, Nat.reduceMod, Nat.reduceLT, List.length_cons, List.length_nil, eq_self, true_or, or_true, and_self, implies_true, not_true_eq_false, not_false_eq_true, false_implies, true_implies, forall_const, st_aload, st_iadd, st_iconst, st_ifCond, st_if_icmp, st_iload, st_imul, st_in2, st_st2, st_ireturn, kb_Model_concludes_43, oo_82, oa_82, show ((4 : Int32) ≤ nI (m)) = (4 ≤ m) from nk_le (a := 4) (b := m) (by omega) (by omega), show ¬ 4 ≤ m by omega, show (64 : Int32) * nI (m) = nI (64 * (m)) from nk_mul (64) (m)]
      refine m_otherOf hb hm ?_
      simp only [ax0, ex_cons, am_get, upz_at, true_and, and_true, Nat.reduceAdd, Nat.reduceLeDiff, Nat.reduceEqDiff, Nat.reduceSub, Int32.reduceOfInt, Int32.reduceAdd, Int32.reduceMul, Int32.reduceSub, ↓reduceIte, Int32.reduceLT, Int32.reduceLE, Int32.reduceToNatClampNeg, Nat.reduceMod, Nat.reduceLT, List.length_cons, List.length_nil, eq_self, true_or, or_true, and_self, implies_true, not_true_eq_false, not_false_eq_true, false_implies, true_implies, forall_const, st_aload, st_iadd, st_iconst, st_ifCond, st_if_icmp, st_iload, st_imul, st_in2, st_st2, st_ireturn, kb_Model_concludes_43, oo_82, oa_82, show (8 : Int32) * nI (otN b (mdN a b)) = nI (8 * (otN b (mdN a b))) from nk_mul (8) (otN b (mdN a b)), nk_add (64 * m) (8 * otN b (mdN a b))]
      refine m_otherOf ha hm ?_
      have ek : 64 * m + 8 * otN b (mdN a b) + otN a (mdN a b) = 64 * m + ccK a b := by unfold ccK; omega
      simp only [ax0, ex_cons, am_get, upz_at, true_and, and_true, Nat.reduceAdd, Nat.reduceLeDiff, Nat.reduceEqDiff, Nat.reduceSub, Int32.reduceOfInt, Int32.reduceAdd, Int32.reduceMul, Int32.reduceSub, ↓reduceIte, Int32.reduceLT, Int32.reduceLE, Int32.reduceToNatClampNeg, Nat.reduceMod, Nat.reduceLT, List.length_cons, List.length_nil, eq_self, true_or, or_true, and_self, implies_true, not_true_eq_false, not_false_eq_true, false_implies, true_implies, forall_const, st_aload, st_iadd, st_iconst, st_ifCond, st_if_icmp, st_iload, st_imul, st_in2, st_st2, st_ireturn, kb_Model_concludes_43, oo_82, oa_82, nk_add (64 * m + 8 * otN b (mdN a b)) (otN a (mdN a b)), ek]
      have hck : ccK a b < 64 := by unfold ccK; omega
      refine m_fN r2 r1 (by have := ccT_len a b D.2.2.2; omega) (by omega) (fun F2 q1 q2 q3 => ?_)
      unfold ccF at K2
      simp only [ax0, ex_cons, am_get, upz_at, true_and, and_true, Nat.reduceAdd, Nat.reduceLeDiff, Nat.reduceEqDiff, Nat.reduceSub, Int32.reduceOfInt, Int32.reduceAdd, Int32.reduceMul, Int32.reduceSub, ↓reduceIte, Int32.reduceLT, Int32.reduceLE, Int32.reduceToNatClampNeg, Nat.reduceMod, Nat.reduceLT, List.length_cons, List.length_nil, eq_self, true_or, or_true, and_self, implies_true, not_true_eq_false, not_false_eq_true, false_implies, true_implies, forall_const, st_aload, st_iadd, st_iconst, st_ifCond, st_if_icmp, st_iload, st_imul, st_in2, st_st2, st_ireturn, kb_Model_concludes_43, oo_82, oa_82]
      refine ifb (fun e => ?_) (fun e => ?_)
      · rw [e] at K2
        simp only [ax0, ex_cons, am_get, upz_at, true_and, and_true, Nat.reduceAdd, Nat.reduceLeDiff, Nat.reduceEqDiff, Nat.reduceSub, Int32.reduceOfInt, Int32.reduceAdd, Int32.reduceMul, Int32.reduceSub, ↓reduceIte, Int32.reduceLT, Int32.reduceLE, Int32.reduceToNatClampNeg, Nat.reduceMod, Nat.reduceLT, List.length_cons, List.length_nil, eq_self, true_or, or_true, and_self, implies_true, not_true_eq_false, not_false_eq_true, false_implies, true_implies, forall_const, st_goto, st_iinc, am_put, am_nlg, jx_Model_concludes_79, kb_Model_concludes_79, nk_succ]
        exact ih (m + 1) F2 (by omega) q1 q2 (r3.tr q3) K2
      · rw [e] at K2
        exact K2 F2 (r3.tr q3)
  exact key 4 0 F5 (by decide) g9 hD5 hP5 K
end MPK
