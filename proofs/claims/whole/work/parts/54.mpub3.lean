/-! ===== the model: says, between, all, name ===== -/
/-- whether the simple sentence of a number follows -/
def fN (T : tT) (ex : Bool) (n : Nat) : Bool := fo T (clR (rS n)) ex
def isNu (n : Nat) : Bool := !decide (n / 8 % 8 = n % 8)
theorem MT.s13 {F F' : Nat → Nat → Int32} {T : tT} (hT : MT F T) (s : S13 F F') : MT F' T := by
  unfold MT at hT ⊢
  rw [s.1 97 (by decide) (by decide), s.1 82 (by decide) (by decide), s.1 98 (by decide) (by decide), s.1 99 (by decide) (by decide)]
  exact hT
section MPD
variable {d : Nat} {h : am_H} {F : Nat → Nat → Int32} {J : Nat → Nat → Int64} {V : Nat → Nat → Value} {Q : am_Q}
/-- followsNumber over a desk -/
theorem m_fN {D : dT} {T : tT} (hD : MK (F 84) D) (hT : MT F T) (hw : T.2.1.length ≤ 40) {n : Nat} (hn : n < 256) (K : ∀ F', MT F' T → MK (F' 84) D → Pm F F' → Q (some (.int (b2i (fN T D.2.2.2 n)))) (ov h F' J V)) : am_cl (d + 5) 250 [.ref 82, .int (nI n)] (ov h F J V) Q :=
  m_followsNumber hT hw hD.2.2.2.1 hn (fun F' h1 h2 f => K _ (h1.s100 f) (hD.pm (h2.pm.s100 f)) (h2.pm.s100 f))
set_option maxRecDepth 20000 in
theorem m_isNumber {h : am_H} {n : Nat} (hn : n < 256) (K : Q (some (.int (b2i (isNu n)))) h) : am_cl (d + 1) 247 [.int (nI n)] h Q := by
  simp only [ax0, ex_cons, am_get, upz_at, true_and, and_true, Nat.reduceAdd, Nat.reduceLeDiff, Nat.reduceEqDiff, Nat.reduceSub, Int32.reduceOfInt, Int32.reduceAdd, Int32.reduceMul, Int32.reduceSub, ↓reduceIte, Int32.reduceLT, Int32.reduceLE, Int32.reduceToNatClampNeg, Nat.reduceMod, Nat.reduceLT, List.length_cons, List.length_nil, eq_self, true_or, or_true, and_self, implies_true, not_true_eq_false, not_false_eq_true, false_implies, true_implies, forall_const, st_freturn, st_goto, st_goto_w, st_iconst, st_idiv, st_if_icmp, st_iload, st_irem, cx_Model_isNumber, kb_Model_isNumber_0, jx_Model_isNumber_18, kb_Model_isNumber_18, jx_Model_isNumber_19, kb_Model_isNumber_19, show ((8 : Int32) = 0) = False from ax_f (by decide), show nI (n) / (8 : Int32) = nI (n / 8) from nk_div (a := n) (b := 8) (by omega) (by decide) (by decide), show nI (n) - nI (n / 8) * (8 : Int32) = nI (n % 8) from nk_rm (a := n) (b := 8) (by omega) (by decide) (by decide), show ((8 : Int32) = 0) = False from ax_f (by decide), show nI (n / 8) / (8 : Int32) = nI (n / 8 / 8) from nk_div (a := n / 8) (b := 8) (by omega) (by decide) (by decide), show nI (n / 8) - nI (n / 8 / 8) * (8 : Int32) = nI (n / 8 % 8) from nk_rm (a := n / 8) (b := 8) (by omega) (by decide) (by decide), nk_eq (show n / 8 % 8 < 2147483648 by omega) (show n % 8 < 2147483648 by omega)]
  unfold isNu at K
  refine ⟨fun e => ?_, fun e => ?_⟩
  · rw [decide_eq_true e] at K; exact K
  · rw [decide_eq_false e] at K; exact K
def kiB (a b : Int32) : Bool := lieB a 0 7 && lieB b 0 7 && !decide (a = b)
def nuI (m a b : Int32) : Nat := 64 * m.toNatClampNeg + 8 * a.toNatClampNeg + b.toNatClampNeg
def aSays (D : dT) (a m s p : Int32) : Int32 := if hpB D.1 a && lieB m 0 3 && kiB s p then b2i (fN (hzD D a.toNatClampNeg) D.2.2.2 (nuI m s p)) else -1
theorem lie3 {a : Int32} (h : lieB a 0 3 = true) : ∃ k, a = nI k ∧ k ≤ 3 ∧ a.toNatClampNeg = k := lieB_nI (m := 3) (by decide) h
theorem lie7 {a : Int32} (h : lieB a 0 7 = true) : ∃ k, a = nI k ∧ k ≤ 7 ∧ a.toNatClampNeg = k := lieB_nI (m := 7) (by decide) h
set_option maxRecDepth 20000 in
theorem mp_says {D : dT} (hD : MK (F 84) D) {a m s p : Int32} (K : ∀ F', Pm F F' → Q (some (.int (aSays D a m s p))) (ov h F' J V)) : am_cl (d + 6) 252 [.ref 82, .int a, .int m, .int s, .int p] (ov h F J V) Q := by
  have no : aSays D a m s p = -1 → am_W kc_Model_says (am_cl (d + 5)) Q 38 [.ref 82, .int a, .int m, .int s, .int p] [] (ov h F J V) := fun e => by
    rw [e] at K
    simp only [ax0, ex_cons, am_get, upz_at, true_and, and_true, Nat.reduceAdd, Nat.reduceLeDiff, Nat.reduceEqDiff, Nat.reduceSub, Int32.reduceOfInt, Int32.reduceAdd, Int32.reduceMul, Int32.reduceSub, ↓reduceIte, Int32.reduceLT, Int32.reduceLE, Int32.reduceToNatClampNeg, Nat.reduceMod, Nat.reduceLT, List.length_cons, List.length_nil, eq_self, true_or, or_true, and_self, implies_true, not_true_eq_false, not_false_eq_true, false_implies, true_implies, forall_const, st_iconst, st_ireturn, jx_Model_says_38, kb_Model_says_38]
    exact K F Pm.rf
  simp only [ax0, ex_cons, am_get, upz_at, true_and, and_true, Nat.reduceAdd, Nat.reduceLeDiff, Nat.reduceEqDiff, Nat.reduceSub, Int32.reduceOfInt, Int32.reduceAdd, Int32.reduceMul, Int32.reduceSub, ↓reduceIte, Int32.reduceLT, Int32.reduceLE, Int32.reduceToNatClampNeg, Nat.reduceMod, Nat.reduceLT, List.length_cons, List.length_nil, eq_self, true_or, or_true, and_self, implies_true, not_true_eq_false, not_false_eq_true, false_implies, true_implies, forall_const, st_aload, st_goto_w, st_iconst, st_ifCond, st_if_icmp, st_iload, st_in2, st_st1, st_st3, kb_Model_says_0, oo_82, oa_82, cx_Model_says]
  refine m_isHeap hD.1 hD.2.1 ?_
  simp only [ax0, ex_cons, am_get, upz_at, true_and, and_true, Nat.reduceAdd, Nat.reduceLeDiff, Nat.reduceEqDiff, Nat.reduceSub, Int32.reduceOfInt, Int32.reduceAdd, Int32.reduceMul, Int32.reduceSub, ↓reduceIte, Int32.reduceLT, Int32.reduceLE, Int32.reduceToNatClampNeg, Nat.reduceMod, Nat.reduceLT, List.length_cons, List.length_nil, eq_self, true_or, or_true, and_self, implies_true, not_true_eq_false, not_false_eq_true, false_implies, true_implies, forall_const, st_aload, st_goto_w, st_iconst, st_ifCond, st_if_icmp, st_iload, st_in2, st_st1, st_st3, kb_Model_says_0, oo_82, oa_82]
  refine ifb (fun e => no (by unfold aSays; rw [e]; rfl)) (fun e => ?_)
  refine m_lies ?_
  simp only [ax0, ex_cons, am_get, upz_at, true_and, and_true, Nat.reduceAdd, Nat.reduceLeDiff, Nat.reduceEqDiff, Nat.reduceSub, Int32.reduceOfInt, Int32.reduceAdd, Int32.reduceMul, Int32.reduceSub, ↓reduceIte, Int32.reduceLT, Int32.reduceLE, Int32.reduceToNatClampNeg, Nat.reduceMod, Nat.reduceLT, List.length_cons, List.length_nil, eq_self, true_or, or_true, and_self, implies_true, not_true_eq_false, not_false_eq_true, false_implies, true_implies, forall_const, st_aload, st_goto_w, st_iconst, st_ifCond, st_if_icmp, st_iload, st_in2, st_st1, st_st3, kb_Model_says_0, oo_82, oa_82]
  refine ifb (fun e5 => no (by unfold aSays; rw [e5, Bool.and_false]; rfl)) (fun e5 => ?_)
  refine m_isKind ?_
  simp only [ax0, ex_cons, am_get, upz_at, true_and, and_true, Nat.reduceAdd, Nat.reduceLeDiff, Nat.reduceEqDiff, Nat.reduceSub, Int32.reduceOfInt, Int32.reduceAdd, Int32.reduceMul, Int32.reduceSub, ↓reduceIte, Int32.reduceLT, Int32.reduceLE, Int32.reduceToNatClampNeg, Nat.reduceMod, Nat.reduceLT, List.length_cons, List.length_nil, eq_self, true_or, or_true, and_self, implies_true, not_true_eq_false, not_false_eq_true, false_implies, true_implies, forall_const, st_aload, st_goto_w, st_iconst, st_ifCond, st_if_icmp, st_iload, st_in2, st_st1, st_st3, kb_Model_says_0, oo_82, oa_82]
  refine ifb (fun e6 => no (by unfold aSays kiB; rw [e6, Bool.false_and, Bool.false_and, Bool.and_false]; rfl)) (fun e6 => ?_)
  refine m_isKind ?_
  simp only [ax0, ex_cons, am_get, upz_at, true_and, and_true, Nat.reduceAdd, Nat.reduceLeDiff, Nat.reduceEqDiff, Nat.reduceSub, Int32.reduceOfInt, Int32.reduceAdd, Int32.reduceMul, Int32.reduceSub, ↓reduceIte, Int32.reduceLT, Int32.reduceLE, Int32.reduceToNatClampNeg, Nat.reduceMod, Nat.reduceLT, List.length_cons, List.length_nil, eq_self, true_or, or_true, and_self, implies_true, not_true_eq_false, not_false_eq_true, false_implies, true_implies, forall_const, st_aload, st_goto_w, st_iconst, st_ifCond, st_if_icmp, st_iload, st_in2, st_st1, st_st3, kb_Model_says_0, oo_82, oa_82]
  refine ifb (fun e7 => no (by unfold aSays kiB; rw [e7, Bool.and_false, Bool.false_and, Bool.and_false]; rfl)) (fun e7 => ?_)
  refine ⟨fun e8 => ?_, fun e8 => no (by unfold aSays kiB; rw [decide_eq_true (Decidable.not_not.mp e8), Bool.not_true, Bool.and_false, Bool.and_false]; rfl)⟩
  obtain ⟨hp, a1, a2, a3⟩ := hpB_nI hD.2.1 e
  obtain ⟨m', b1, b2, b3⟩ := lie3 e5
  obtain ⟨s', c1, c2, c3⟩ := lie7 e6
  obtain ⟨p', d1, d2, d3⟩ := lie7 e7
  have ea : aSays D a m s p = b2i (fN (hzD D hp) D.2.2.2 (64 * m' + 8 * s' + p')) := by unfold aSays kiB nuI; rw [e, e5, e6, e7, decide_eq_false e8, a3, b3, c3, d3]; rfl
  rw [ea] at K
  rw [a1, b1, c1, d1]
  simp only [ax0, ex_cons, am_get, upz_at, true_and, and_true, Nat.reduceAdd, Nat.reduceLeDiff, Nat.reduceEqDiff, Nat.reduceSub, Int32.reduceOfInt, Int32.reduceAdd, Int32.reduceMul, Int32.reduceSub, ↓reduceIte, Int32.reduceLT, Int32.reduceLE, Int32.reduceToNatClampNeg, Nat.reduceMod, Nat.reduceLT, List.length_cons, List.length_nil, eq_self, true_or, or_true, and_self, implies_true, not_true_eq_false, not_false_eq_true, false_implies, true_implies, forall_const, st_aload, st_goto, st_iadd, st_iconst, st_ifCond, st_iload, st_imul, st_in2, jx_Model_says_40, kb_Model_says_40, oo_82, oa_82]
  refine m_heapsD hD a2 (fun F1 h1 h2 h3 => ?_)
  simp only [ax0, ex_cons, am_get, upz_at, true_and, and_true, Nat.reduceAdd, Nat.reduceLeDiff, Nat.reduceEqDiff, Nat.reduceSub, Int32.reduceOfInt, Int32.reduceAdd, Int32.reduceMul, Int32.reduceSub, ↓reduceIte, Int32.reduceLT, Int32.reduceLE, Int32.reduceToNatClampNeg, Nat.reduceMod, Nat.reduceLT, List.length_cons, List.length_nil, eq_self, true_or, or_true, and_self, implies_true, not_true_eq_false, not_false_eq_true, false_implies, true_implies, forall_const, st_aload, st_goto, st_iadd, st_iconst, st_ifCond, st_iload, st_imul, st_in2, jx_Model_says_40, kb_Model_says_40, oo_82, oa_82, show (64 : Int32) * nI (m') = nI (64 * (m')) from nk_mul (64) (m'), show (8 : Int32) * nI (s') = nI (8 * (s')) from nk_mul (8) (s'), nk_add]
  refine m_fN h2 h1 (by have := hzD_len D hp; omega) (by omega) (fun F2 h4 h5 h6 => ?_)
  have K1 := K _ (h3.pm.tr h6)
  simp only [ax0, ex_cons, am_get, upz_at, true_and, and_true, Nat.reduceAdd, Nat.reduceLeDiff, Nat.reduceEqDiff, Nat.reduceSub, Int32.reduceOfInt, Int32.reduceAdd, Int32.reduceMul, Int32.reduceSub, ↓reduceIte, Int32.reduceLT, Int32.reduceLE, Int32.reduceToNatClampNeg, Nat.reduceMod, Nat.reduceLT, List.length_cons, List.length_nil, eq_self, true_or, or_true, and_self, implies_true, not_true_eq_false, not_false_eq_true, false_implies, true_implies, forall_const, st_aload, st_goto, st_goto_w, st_iadd, st_iconst, st_ifCond, st_iload, st_imul, st_in2, st_ireturn, jx_Model_says_40, kb_Model_says_40, oo_82, jx_Model_says_68, kb_Model_says_68, jx_Model_says_69, kb_Model_says_69, oa_82]
  refine ifb (fun e => ?_) (fun e => ?_) <;> rw [e] at K1 <;> exact K1
def aAll (D : dT) (a m : Int32) : Int32 := if hpB D.1 a && lieB m 0 3 then nI (cn (fun k => isNu (64 * m.toNatClampNeg + k) && fN (hzD D a.toNatClampNeg) D.2.2.2 (64 * m.toNatClampNeg + k)) 64) else -1
set_option maxRecDepth 20000 in
theorem mp_all {D : dT} (hD : MK (F 84) D) {a m : Int32} (K : ∀ F', Pm F F' → Q (some (.int (aAll D a m))) (ov h F' J V)) : am_cl (d + 6) 253 [.ref 82, .int a, .int m] (ov h F J V) Q := by
  have no : aAll D a m = -1 → am_W kc_Model_all (am_cl (d + 5)) Q 17 [.ref 82, .int a, .int m, am_dum, am_dum] [] (ov h F J V) := fun e => by
    rw [e] at K
    simp only [ax0, ex_cons, am_get, upz_at, true_and, and_true, Nat.reduceAdd, Nat.reduceLeDiff, Nat.reduceEqDiff, Nat.reduceSub, Int32.reduceOfInt, Int32.reduceAdd, Int32.reduceMul, Int32.reduceSub, ↓reduceIte, Int32.reduceLT, Int32.reduceLE, Int32.reduceToNatClampNeg, Nat.reduceMod, Nat.reduceLT, List.length_cons, List.length_nil, eq_self, true_or, or_true, and_self, implies_true, not_true_eq_false, not_false_eq_true, false_implies, true_implies, forall_const, st_iconst, st_ireturn, jx_Model_all_17, kb_Model_all_17]
    exact K F Pm.rf
  simp only [ax0, ex_cons, am_get, upz_at, true_and, and_true, Nat.reduceAdd, Nat.reduceLeDiff, Nat.reduceEqDiff, Nat.reduceSub, Int32.reduceOfInt, Int32.reduceAdd, Int32.reduceMul, Int32.reduceSub, ↓reduceIte, Int32.reduceLT, Int32.reduceLE, Int32.reduceToNatClampNeg, Nat.reduceMod, Nat.reduceLT, List.length_cons, List.length_nil, eq_self, true_or, or_true, and_self, implies_true, not_true_eq_false, not_false_eq_true, false_implies, true_implies, forall_const, st_aload, st_goto_w, st_iconst, st_ifCond, st_iload, st_in2, st_st3, kb_Model_all_0, oo_82, oa_82, cx_Model_all]
  refine m_isHeap hD.1 hD.2.1 ?_
  simp only [ax0, ex_cons, am_get, upz_at, true_and, and_true, Nat.reduceAdd, Nat.reduceLeDiff, Nat.reduceEqDiff, Nat.reduceSub, Int32.reduceOfInt, Int32.reduceAdd, Int32.reduceMul, Int32.reduceSub, ↓reduceIte, Int32.reduceLT, Int32.reduceLE, Int32.reduceToNatClampNeg, Nat.reduceMod, Nat.reduceLT, List.length_cons, List.length_nil, eq_self, true_or, or_true, and_self, implies_true, not_true_eq_false, not_false_eq_true, false_implies, true_implies, forall_const, st_aload, st_goto_w, st_iconst, st_ifCond, st_iload, st_in2, st_st3, kb_Model_all_0, oo_82, oa_82]
  refine ifb (fun e => no (by unfold aAll; rw [e]; rfl)) (fun e => ?_)
  refine m_lies ?_
  simp only [ax0, ex_cons, am_get, upz_at, true_and, and_true, Nat.reduceAdd, Nat.reduceLeDiff, Nat.reduceEqDiff, Nat.reduceSub, Int32.reduceOfInt, Int32.reduceAdd, Int32.reduceMul, Int32.reduceSub, ↓reduceIte, Int32.reduceLT, Int32.reduceLE, Int32.reduceToNatClampNeg, Nat.reduceMod, Nat.reduceLT, List.length_cons, List.length_nil, eq_self, true_or, or_true, and_self, implies_true, not_true_eq_false, not_false_eq_true, false_implies, true_implies, forall_const, st_aload, st_goto_w, st_iconst, st_ifCond, st_iload, st_in2, st_st3, kb_Model_all_0, oo_82, oa_82]
  refine ifnb (fun e5 => ?_) (fun e5 => no (by unfold aAll; rw [e5, Bool.and_false]; rfl))
  obtain ⟨hp, a1, a2, a3⟩ := hpB_nI hD.2.1 e
  obtain ⟨m', b1, b2, b3⟩ := lie3 e5
  have ea : aAll D a m = nI (cn (fun k => isNu (64 * m' + k) && fN (hzD D hp) D.2.2.2 (64 * m' + k)) 64) := by unfold aAll; rw [e, e5, a3, b3]; rfl
  rw [ea] at K
  rw [a1, b1]
  simp only [ax0, ex_cons, am_get, upz_at, true_and, and_true, Nat.reduceAdd, Nat.reduceLeDiff, Nat.reduceEqDiff, Nat.reduceSub, Int32.reduceOfInt, Int32.reduceAdd, Int32.reduceMul, Int32.reduceSub, ↓reduceIte, Int32.reduceLT, Int32.reduceLE, Int32.reduceToNatClampNeg, Nat.reduceMod, Nat.reduceLT, List.length_cons, List.length_nil, eq_self, true_or, or_true, and_self, implies_true, not_true_eq_false, not_false_eq_true, false_implies, true_implies, forall_const, st_aload, st_goto_w, st_iconst, st_iload, st_imul, st_in2, st_istore, am_put, am_nlg, jx_Model_all_19, kb_Model_all_19, oo_82, oa_82]
  refine m_heapsD hD a2 (fun F1 h1 h2 h3 => ?_)
  simp only [ax0, ex_cons, am_get, upz_at, true_and, and_true, Nat.reduceAdd, Nat.reduceLeDiff, Nat.reduceEqDiff, Nat.reduceSub, Int32.reduceOfInt, Int32.reduceAdd, Int32.reduceMul, Int32.reduceSub, ↓reduceIte, Int32.reduceLT, Int32.reduceLE, Int32.reduceToNatClampNeg, Nat.reduceMod, Nat.reduceLT, List.length_cons, List.length_nil, eq_self, true_or, or_true, and_self, implies_true, not_true_eq_false, not_false_eq_true, false_implies, true_implies, forall_const, st_aload, st_goto_w, st_iconst, st_iload, st_imul, st_in2, st_istore, am_put, am_nlg, jx_Model_all_19, kb_Model_all_19, oo_82, oa_82, show (64 : Int32) * nI (m') = nI (64 * (m')) from nk_mul (64) (m')]
  have key : ∀ j k F1, k + j = 64 → MT F1 (hzD D hp) → MK (F1 84) D → Pm F F1 → am_W kc_Model_all (am_cl (d + 5)) Q 32 [.ref 82, .int (nI hp), .int (nI m'), .int (nI (cn (fun k => isNu (64 * m' + k) && fN (hzD D hp) D.2.2.2 (64 * m' + k)) k)), .int (nI (64 * m' + k))] [] (ov h F1 J V) := by
    intro j
    induction j with
    | zero =>
      intro k F1 ek g1 g2 g3
      have ek : k = 64 := ek
      subst ek
      rw [jx_Model_all_32]
      simp only [ax0, ex_cons, am_get, upz_at, true_and, and_true, Nat.reduceAdd, Nat.reduceLeDiff, Nat.reduceEqDiff, Nat.reduceSub, Int32.reduceOfInt, Int32.reduceAdd, Int32.reduceMul, Int32.reduceSub, ↓reduceIte, Int32.reduceLT, Int32.reduceLE, Int32.reduceToNatClampNeg, Nat.reduceMod, Nat.reduceLT, List.length_cons, List.length_nil, eq_self, true_or, or_true, and_self, implies_true, not_true_eq_false, not_false_eq_true, false_implies, true_implies, forall_const, st_aload, st_goto, st_iadd, st_iconst, st_ifCond, st_if_icmp, st_iload, st_imul, st_in2, st_st1, st_ireturn, kb_Model_all_32, oo_82, jx_Model_all_75, kb_Model_all_75, oa_82, show (64 : Int32) * nI (m') = nI (64 * (m')) from nk_mul (64) (m'), show nI (64 * m') + (64 : Int32) = nI (64 * m' + 64) from nk_add (64 * m') (64), (nk_le (by omega) (by omega) : (nI (64 * m' + 64) ≤ nI (64 * m' + 64)) = (64 * m' + 64 ≤ 64 * m' + 64)), Nat.le_refl]
      exact K F1 g3
    | succ j ih =>
      intro k F1 ek g1 g2 g3
      rw [jx_Model_all_32]
      simp only [ax0, ex_cons, am_get, upz_at, true_and, and_true, Nat.reduceAdd, Nat.reduceLeDiff, Nat.reduceEqDiff, Nat.reduceSub, Int32.reduceOfInt, Int32.reduceAdd, Int32.reduceMul, Int32.reduceSub, ↓reduceIte, Int32.reduceLT, Int32.reduceLE, Int32.reduceToNatClampNeg, Nat.reduceMod, Nat.reduceLT, List.length_cons, List.length_nil, eq_self, true_or, or_true, and_self, implies_true, not_true_eq_false, not_false_eq_true, false_implies, true_implies, forall_const, st_aload, st_goto, st_iadd, st_iconst, st_ifCond, st_if_icmp, st_iload, st_imul, st_in2, st_st1, kb_Model_all_32, oo_82, oa_82, show (64 : Int32) * nI (m') = nI (64 * (m')) from nk_mul (64) (m'), show nI (64 * m') + (64 : Int32) = nI (64 * m' + 64) from nk_add (64 * m') (64), (nk_le (by omega) (by omega) : (nI (64 * m' + 64) ≤ nI (64 * m' + k)) = (64 * m' + 64 ≤ 64 * m' + k)), show ¬ 64 * m' + 64 ≤ 64 * m' + k by omega]
      refine m_isNumber (by omega) ?_
      simp only [ax0, ex_cons, am_get, upz_at, true_and, and_true, Nat.reduceAdd, Nat.reduceLeDiff, Nat.reduceEqDiff, Nat.reduceSub, Int32.reduceOfInt, Int32.reduceAdd, Int32.reduceMul, Int32.reduceSub, ↓reduceIte, Int32.reduceLT, Int32.reduceLE, Int32.reduceToNatClampNeg, Nat.reduceMod, Nat.reduceLT, List.length_cons, List.length_nil, eq_self, true_or, or_true, and_self, implies_true, not_true_eq_false, not_false_eq_true, false_implies, true_implies, forall_const, st_aload, st_goto, st_iadd, st_iconst, st_ifCond, st_if_icmp, st_iload, st_imul, st_in2, st_st1, kb_Model_all_32, oo_82, oa_82]
      refine ifb (fun e8 => ?_) (fun e8 => ?_)
      · have go := ih (k + 1) F1 (by omega) g1 g2 g3
        unfold cn at go
        rw [e8, Bool.false_and] at go
        simp only [ax0, ex_cons, am_get, upz_at, true_and, and_true, Nat.reduceAdd, Nat.reduceLeDiff, Nat.reduceEqDiff, Nat.reduceSub, Int32.reduceOfInt, Int32.reduceAdd, Int32.reduceMul, Int32.reduceSub, ↓reduceIte, Int32.reduceLT, Int32.reduceLE, Int32.reduceToNatClampNeg, Nat.reduceMod, Nat.reduceLT, List.length_cons, List.length_nil, eq_self, true_or, or_true, and_self, implies_true, not_true_eq_false, not_false_eq_true, false_implies, true_implies, forall_const, st_goto, st_goto_w, st_iadd, st_iconst, st_iinc, st_istore, am_put, am_nlg, jx_Model_all_66, kb_Model_all_66, jx_Model_all_67, kb_Model_all_67, nk_succ]
        rw [show nI (cn (fun k => isNu (64 * m' + k) && fN (hzD D hp) D.2.2.2 (64 * m' + k)) k) + (0 : Int32) = nI (cn (fun k => isNu (64 * m' + k) && fN (hzD D hp) D.2.2.2 (64 * m' + k)) k) from Int32.add_zero _]
        exact go
      · refine m_fN g2 g1 (by have := hzD_len D hp; omega) (by omega) (fun F2 h4 h5 h6 => ?_)
        have go := ih (k + 1) F2 (by omega) h4 h5 (g3.tr h6)
        unfold cn at go
        rw [e8, Bool.true_and] at go
        simp only [ax0, ex_cons, am_get, upz_at, true_and, and_true, Nat.reduceAdd, Nat.reduceLeDiff, Nat.reduceEqDiff, Nat.reduceSub, Int32.reduceOfInt, Int32.reduceAdd, Int32.reduceMul, Int32.reduceSub, ↓reduceIte, Int32.reduceLT, Int32.reduceLE, Int32.reduceToNatClampNeg, Nat.reduceMod, Nat.reduceLT, List.length_cons, List.length_nil, eq_self, true_or, or_true, and_self, implies_true, not_true_eq_false, not_false_eq_true, false_implies, true_implies, forall_const, st_aload, st_goto, st_goto_w, st_iadd, st_iconst, st_ifCond, st_if_icmp, st_iinc, st_iload, st_imul, st_in2, st_st1, st_istore, am_put, am_nlg, kb_Model_all_32, oo_82, jx_Model_all_66, kb_Model_all_66, jx_Model_all_67, kb_Model_all_67, oa_82, nk_succ]
        refine ifb (fun e => ?_) (fun e => ?_)
        · rw [e] at go
          rw [show nI (cn (fun k => isNu (64 * m' + k) && fN (hzD D hp) D.2.2.2 (64 * m' + k)) k) + (0 : Int32) = nI (cn (fun k => isNu (64 * m' + k) && fN (hzD D hp) D.2.2.2 (64 * m' + k)) k) from Int32.add_zero _]
          exact go
        · rw [e] at go; exact go
  exact key 64 0 F1 rfl h1 h2 h3.pm
end MPD
