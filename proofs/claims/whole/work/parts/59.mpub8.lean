/-! ===== the model: calm, quarrel, hint ===== -/
/-- the slips that are left -/
def cpl (n out : Nat) : Nat := 2 ^ n - (out + 1)
theorem nk_cpl {n out : Nat} (hn : n ≤ 12) (ho : out < 2 ^ n) : nI (2 ^ n - 1) &&& (nI out ^^^ -1) = nI (cpl n out) := by
  apply Int32.toBitVec_inj.mp
  apply BitVec.eq_of_getLsbD_eq
  intro i hi
  unfold cpl
  rw [Int32.toBitVec_and, BitVec.getLsbD_and, i32_not hi, nk_bv, nk_bv, nk_bv, BitVec.getLsbD_ofNat, BitVec.getLsbD_ofNat, BitVec.getLsbD_ofNat, Nat.testBit_two_pow_sub_one, Nat.testBit_two_pow_sub_succ ho]
  simp [hi]
def caP (D : dT) (out : Nat) : Bool := !qz (hzD D (cpl D.1 out)) (fun _ => false)
def onI (x : Int32) : Int32 := nI (cn (fun i => x.toBitVec.getLsbD i) 32)
def caO (s : Option Nat × Nat) (what : Int32) : Int32 := if what = 0 then onI (oI s.1) else if what = 1 then nI s.2 else oI s.1
def aCalm (D : dT) (what : Int32) : Int32 := if lieB what 0 2 then caO (mnF (caP D) (2 ^ D.1)) what else -1
/-- least quarrelling, by the first k slips -/
def lqF (D : dT) (hp : Nat) : Nat → Bool
  | 0 => qz (hzD D hp) (fun _ => false)
  | k + 1 => lqF D hp k && (!hp.testBit k || !qz (hzD D (clr hp k)) (fun _ => false))
def lq (D : dT) (hp : Nat) : Bool := lqF D hp D.1
def cq (D : dT) (k : Nat) : Nat := cn (fun i => decide (0 < i) && lq D i) k
def qrF (D : dT) (i : Int32) : Nat → Nat → Int32
  | 0, k => if i = -1 then nI (cq D k) else -1
  | j + 1, k => if lq D k && decide (nI (cq D k) = i) then nI k else qrF D i j (k + 1)
def aQuarrel (D : dT) (i : Int32) : Int32 := if i < -1 then -1 else qrF D i (2 ^ D.1 - 1) 1
def hiP (D : dT) (hp n : Nat) : Bool := !qz (tellz (hzD D hp) (clR (rS n)) D.2.2.2) (fun _ => false) && fo (tellz (hzD D hp) (clR (rS n)) D.2.2.2) (csD D 12) D.2.2.2
def htF (D : dT) (hp : Nat) : Nat → Nat → Int32
  | 0, _ => -1
  | j + 1, k => if isNu k && !decide (nI k = oI (nuR (D.2.1 12))) && hiP D hp k then nI k else htF D hp j (k + 1)
def aHint (D : dT) (a : Int32) : Int32 := if hpB D.1 a && D.2.2.1 then htF D a.toNatClampNeg 256 0 else -1
section MPI
variable {d : Nat} {h : am_H} {F : Nat → Nat → Int32} {J : Nat → Nat → Int64} {V : Nat → Nat → Value} {Q : am_Q}
set_option maxRecDepth 20000 in
theorem mp_calm {D : dT} (hD : MK (F 84) D) {x : Int32} (K : ∀ F', Pm F F' → Q (some (.int (aCalm D x))) (ov h F' J V)) : am_cl (d + 5) 246 [.ref 82, .int x] (ov h F J V) Q := by
  simp only [ax0, ex_cons, am_get, upz_at, true_and, and_true, Nat.reduceAdd, Nat.reduceLeDiff, Nat.reduceEqDiff, Nat.reduceSub, Int32.reduceOfInt, Int32.reduceAdd, Int32.reduceMul, Int32.reduceSub, ↓reduceIte, Int32.reduceLT, Int32.reduceLE, Int32.reduceToNatClampNeg, Nat.reduceMod, Nat.reduceLT, List.length_cons, List.length_nil, eq_self, true_or, or_true, and_self, implies_true, not_true_eq_false, not_false_eq_true, false_implies, true_implies, forall_const, st_iconst, st_ifCond, st_iload, st_st3, st_ireturn, kb_Model_calm_0, cx_Model_calm]
  refine m_lies ?_
  simp only [ax0, ex_cons, am_get, upz_at, true_and, and_true, Nat.reduceAdd, Nat.reduceLeDiff, Nat.reduceEqDiff, Nat.reduceSub, Int32.reduceOfInt, Int32.reduceAdd, Int32.reduceMul, Int32.reduceSub, ↓reduceIte, Int32.reduceLT, Int32.reduceLE, Int32.reduceToNatClampNeg, Nat.reduceMod, Nat.reduceLT, List.length_cons, List.length_nil, eq_self, true_or, or_true, and_self, implies_true, not_true_eq_false, not_false_eq_true, false_implies, true_implies, forall_const, st_iconst, st_ifCond, st_iload, st_st3, st_ireturn, kb_Model_calm_0]
  refine ifnb (fun e => ?_) (fun e => ?_)
  · have ea : aCalm D x = caO (mnF (caP D) (2 ^ D.1)) x := by unfold aCalm; rw [e]; rfl
    rw [ea] at K
    have hn := hD.2.1
    have h12 : 2 ^ D.1 ≤ 4096 := (Nat.pow_le_pow_right (by decide) hn : 2 ^ D.1 ≤ 2 ^ 12)
    have h0 : 0 < 2 ^ D.1 := Nat.pow_pos (by decide)
    simp only [ax0, ex_cons, am_get, upz_at, true_and, and_true, Nat.reduceAdd, Nat.reduceLeDiff, Nat.reduceEqDiff, Nat.reduceSub, Int32.reduceOfInt, Int32.reduceAdd, Int32.reduceMul, Int32.reduceSub, ↓reduceIte, Int32.reduceLT, Int32.reduceLE, Int32.reduceToNatClampNeg, Nat.reduceMod, Nat.reduceLT, List.length_cons, List.length_nil, eq_self, true_or, or_true, and_self, implies_true, not_true_eq_false, not_false_eq_true, false_implies, true_implies, forall_const, st_aload, st_getfield, st_goto_w, st_iaload, st_iconst, st_in1, st_ireturn, st_ishl, st_istore, st_isub, am_put, am_nlg, jx_Model_calm_11, kb_Model_calm_11, oo_82, cx_Model_slips, kb_Model_slips_0, og_82_2, oa_82, oa_84, or_84, hD.1, nk_1shl (show D.1 < 32 by omega), show nI (2 ^ D.1) - (1 : Int32) = nI (2 ^ D.1 - 1) from nk_sub (b := 1) h0]
    have key : ∀ j k F1, k + j = 2 ^ D.1 → MK (F1 84) D → St F F1 → am_W kc_Model_calm (am_cl (d + 4)) Q 28 [.ref 82, .int x, .int (nI (2 ^ D.1 - 1)), .int (oI (mnF (caP D) k).1), .int (nI (mnF (caP D) k).2), .int (nI k)] [] (ov h F1 J V) := by
      intro j
      induction j with
      | zero =>
        intro k F1 ek g1 g2
        have ek : k = 2 ^ D.1 := ek
        rw [← ek] at K
        have K1 := K F1 g2.pm
        rw [jx_Model_calm_28]
        simp only [ax0, ex_cons, am_get, upz_at, true_and, and_true, Nat.reduceAdd, Nat.reduceLeDiff, Nat.reduceEqDiff, Nat.reduceSub, Int32.reduceOfInt, Int32.reduceAdd, Int32.reduceMul, Int32.reduceSub, ↓reduceIte, Int32.reduceLT, Int32.reduceLE, Int32.reduceToNatClampNeg, Nat.reduceMod, Nat.reduceLT, List.length_cons, List.length_nil, eq_self, true_or, or_true, and_self, implies_true, not_true_eq_false, not_false_eq_true, false_implies, true_implies, forall_const, st_goto_w, st_iconst, st_if_icmp, st_iload, st_st1, kb_Model_calm_28, nk_lt (show 2 ^ D.1 - 1 < 2147483648 by omega) (show k < 2147483648 by omega), show 2 ^ D.1 - 1 < k by omega]
        unfold caO at K1
        simp only [ax0, ex_cons, am_get, upz_at, true_and, and_true, Nat.reduceAdd, Nat.reduceLeDiff, Nat.reduceEqDiff, Nat.reduceSub, Int32.reduceOfInt, Int32.reduceAdd, Int32.reduceMul, Int32.reduceSub, ↓reduceIte, Int32.reduceLT, Int32.reduceLE, Int32.reduceToNatClampNeg, Nat.reduceMod, Nat.reduceLT, List.length_cons, List.length_nil, eq_self, true_or, or_true, and_self, implies_true, not_true_eq_false, not_false_eq_true, false_implies, true_implies, forall_const, st_goto, st_ifCond, st_iload, st_st1, jx_Model_calm_99, kb_Model_calm_99]
        refine ⟨fun q => ?_, fun q => ?_⟩
        · rw [if_neg q] at K1
          simp only [ax0, ex_cons, am_get, upz_at, true_and, and_true, Nat.reduceAdd, Nat.reduceLeDiff, Nat.reduceEqDiff, Nat.reduceSub, Int32.reduceOfInt, Int32.reduceAdd, Int32.reduceMul, Int32.reduceSub, ↓reduceIte, Int32.reduceLT, Int32.reduceLE, Int32.reduceToNatClampNeg, Nat.reduceMod, Nat.reduceLT, List.length_cons, List.length_nil, eq_self, true_or, or_true, and_self, implies_true, not_true_eq_false, not_false_eq_true, false_implies, true_implies, forall_const, st_goto, st_iconst, st_if_icmp, st_iload, jx_Model_calm_110, kb_Model_calm_110]
          refine ⟨fun q => ?_, fun q => ?_⟩
          · rw [if_neg q] at K1
            simp only [ax0, ex_cons, am_get, upz_at, true_and, and_true, Nat.reduceAdd, Nat.reduceLeDiff, Nat.reduceEqDiff, Nat.reduceSub, Int32.reduceOfInt, Int32.reduceAdd, Int32.reduceMul, Int32.reduceSub, ↓reduceIte, Int32.reduceLT, Int32.reduceLE, Int32.reduceToNatClampNeg, Nat.reduceMod, Nat.reduceLT, List.length_cons, List.length_nil, eq_self, true_or, or_true, and_self, implies_true, not_true_eq_false, not_false_eq_true, false_implies, true_implies, forall_const, st_goto_w, st_iload, st_ireturn, jx_Model_calm_120, kb_Model_calm_120, jx_Model_calm_121, kb_Model_calm_121]
            exact K1
          · rw [if_pos (Decidable.not_not.mp q)] at K1
            simp only [ax0, ex_cons, am_get, upz_at, true_and, and_true, Nat.reduceAdd, Nat.reduceLeDiff, Nat.reduceEqDiff, Nat.reduceSub, Int32.reduceOfInt, Int32.reduceAdd, Int32.reduceMul, Int32.reduceSub, ↓reduceIte, Int32.reduceLT, Int32.reduceLE, Int32.reduceToNatClampNeg, Nat.reduceMod, Nat.reduceLT, List.length_cons, List.length_nil, eq_self, true_or, or_true, and_self, implies_true, not_true_eq_false, not_false_eq_true, false_implies, true_implies, forall_const, st_ireturn, jx_Model_calm_121, kb_Model_calm_121]
            exact K1
        · rw [if_pos (Decidable.not_not.mp q)] at K1
          refine m_ones ?_
          simp only [ax0, ex_cons, am_get, upz_at, true_and, and_true, Nat.reduceAdd, Nat.reduceLeDiff, Nat.reduceEqDiff, Nat.reduceSub, Int32.reduceOfInt, Int32.reduceAdd, Int32.reduceMul, Int32.reduceSub, ↓reduceIte, Int32.reduceLT, Int32.reduceLE, Int32.reduceToNatClampNeg, Nat.reduceMod, Nat.reduceLT, List.length_cons, List.length_nil, eq_self, true_or, or_true, and_self, implies_true, not_true_eq_false, not_false_eq_true, false_implies, true_implies, forall_const, st_goto, st_ifCond, st_iload, st_st1, st_ireturn, jx_Model_calm_99, kb_Model_calm_99, jx_Model_calm_121, kb_Model_calm_121]
          exact K1
      | succ j ih =>
        intro k F1 ek g1 g2
        have hk : k < 2 ^ D.1 := by omega
        have go := fun F2 a b => ih (k + 1) F2 (by omega) a b
        rw [jx_Model_calm_28]
        simp only [ax0, ex_cons, am_get, upz_at, true_and, and_true, Nat.reduceAdd, Nat.reduceLeDiff, Nat.reduceEqDiff, Nat.reduceSub, Int32.reduceOfInt, Int32.reduceAdd, Int32.reduceMul, Int32.reduceSub, ↓reduceIte, Int32.reduceLT, Int32.reduceLE, Int32.reduceToNatClampNeg, Nat.reduceMod, Nat.reduceLT, List.length_cons, List.length_nil, eq_self, true_or, or_true, and_self, implies_true, not_true_eq_false, not_false_eq_true, false_implies, true_implies, forall_const, st_goto_w, st_iconst, st_if_icmp, st_iload, st_st1, kb_Model_calm_28, nk_lt (show 2 ^ D.1 - 1 < 2147483648 by omega) (show k < 2147483648 by omega), show ¬ 2 ^ D.1 - 1 < k by omega]
        have body : ∀ (best : Option Nat) (n : Nat), (mnF (caP D) k).1 = best → (mnF (caP D) k).2 = n → (∀ b, best = some b → ¬ pop b < pop k) → am_W kc_Model_calm (am_cl (d + 4)) Q 51 [.ref 82, .int x, .int (nI (2 ^ D.1 - 1)), .int (oI best), .int (nI n), .int (nI k)] [] (ov h F1 J V) := by
          intro best n e1 e2 hge
          simp only [ax0, ex_cons, am_get, upz_at, true_and, and_true, Nat.reduceAdd, Nat.reduceLeDiff, Nat.reduceEqDiff, Nat.reduceSub, Int32.reduceOfInt, Int32.reduceAdd, Int32.reduceMul, Int32.reduceSub, ↓reduceIte, Int32.reduceLT, Int32.reduceLE, Int32.reduceToNatClampNeg, Nat.reduceMod, Nat.reduceLT, List.length_cons, List.length_nil, eq_self, true_or, or_true, and_self, implies_true, not_true_eq_false, not_false_eq_true, false_implies, true_implies, forall_const, st_aload, st_goto, st_iand, st_iconst, st_ifCond, st_iload, st_in2, st_ixor, jx_Model_calm_51, kb_Model_calm_51, oo_82, oa_82, nk_cpl hn hk]
          refine m_isQuarrelling g1 (by unfold cpl; omega) (fun F2 q1 q2 => ?_)
          simp only [ax0, ex_cons, am_get, upz_at, true_and, and_true, Nat.reduceAdd, Nat.reduceLeDiff, Nat.reduceEqDiff, Nat.reduceSub, Int32.reduceOfInt, Int32.reduceAdd, Int32.reduceMul, Int32.reduceSub, ↓reduceIte, Int32.reduceLT, Int32.reduceLE, Int32.reduceToNatClampNeg, Nat.reduceMod, Nat.reduceLT, List.length_cons, List.length_nil, eq_self, true_or, or_true, and_self, implies_true, not_true_eq_false, not_false_eq_true, false_implies, true_implies, forall_const, st_aload, st_goto, st_iand, st_iconst, st_ifCond, st_iload, st_in2, st_ixor, jx_Model_calm_51, kb_Model_calm_51, oo_82, oa_82]
          have g := go F2 q1 (g2.tr q2)
          refine ifb (fun e5 => ?_) (fun e5 => ?_)
          · have hs : caP D k = true := by unfold caP; rw [e5]; rfl
            cases best with
            | none =>
              rw [mn_n1 e1 hs] at g
              simp only [ax0, ex_cons, am_get, upz_at, true_and, and_true, Nat.reduceAdd, Nat.reduceLeDiff, Nat.reduceEqDiff, Nat.reduceSub, Int32.reduceOfInt, Int32.reduceAdd, Int32.reduceMul, Int32.reduceSub, ↓reduceIte, Int32.reduceLT, Int32.reduceLE, Int32.reduceToNatClampNeg, Nat.reduceMod, Nat.reduceLT, List.length_cons, List.length_nil, eq_self, true_or, or_true, and_self, implies_true, not_true_eq_false, not_false_eq_true, false_implies, true_implies, forall_const, st_goto, st_goto_w, st_iconst, st_if_icmp, st_iinc, st_iload, st_st1, st_istore, am_put, am_nlg, jx_Model_calm_67, kb_Model_calm_67, jx_Model_calm_84, kb_Model_calm_84, jx_Model_calm_90, kb_Model_calm_90, jx_Model_calm_93, kb_Model_calm_93, oI_none, nk_succ]
              exact g
            | some b =>
              have hb := mnF_lt (caP D) k b e1
              have hb2 := hge b rfl
              simp only [ax0, ex_cons, am_get, upz_at, true_and, and_true, Nat.reduceAdd, Nat.reduceLeDiff, Nat.reduceEqDiff, Nat.reduceSub, Int32.reduceOfInt, Int32.reduceAdd, Int32.reduceMul, Int32.reduceSub, ↓reduceIte, Int32.reduceLT, Int32.reduceLE, Int32.reduceToNatClampNeg, Nat.reduceMod, Nat.reduceLT, List.length_cons, List.length_nil, eq_self, true_or, or_true, and_self, implies_true, not_true_eq_false, not_false_eq_true, false_implies, true_implies, forall_const, st_goto_w, st_iconst, st_if_icmp, st_iload, st_st1, jx_Model_calm_67, kb_Model_calm_67, oI_some, nI_neg1 (show b < 2147483648 by omega)]
              refine m_ones ?_
              rw [pop_nI]
              simp only [ax0, ex_cons, am_get, upz_at, true_and, and_true, Nat.reduceAdd, Nat.reduceLeDiff, Nat.reduceEqDiff, Nat.reduceSub, Int32.reduceOfInt, Int32.reduceAdd, Int32.reduceMul, Int32.reduceSub, ↓reduceIte, Int32.reduceLT, Int32.reduceLE, Int32.reduceToNatClampNeg, Nat.reduceMod, Nat.reduceLT, List.length_cons, List.length_nil, eq_self, true_or, or_true, and_self, implies_true, not_true_eq_false, not_false_eq_true, false_implies, true_implies, forall_const, st_goto_w, st_iconst, st_if_icmp, st_iload, st_st1, jx_Model_calm_67, kb_Model_calm_67]
              refine m_ones ?_
              rw [pop_nI]
              have p1 := pop_le k
              have p2 := pop_le b
              simp only [ax0, ex_cons, am_get, upz_at, true_and, and_true, Nat.reduceAdd, Nat.reduceLeDiff, Nat.reduceEqDiff, Nat.reduceSub, Int32.reduceOfInt, Int32.reduceAdd, Int32.reduceMul, Int32.reduceSub, ↓reduceIte, Int32.reduceLT, Int32.reduceLE, Int32.reduceToNatClampNeg, Nat.reduceMod, Nat.reduceLT, List.length_cons, List.length_nil, eq_self, true_or, or_true, and_self, implies_true, not_true_eq_false, not_false_eq_true, false_implies, true_implies, forall_const, st_goto_w, st_iconst, st_if_icmp, st_iload, st_st1, jx_Model_calm_67, kb_Model_calm_67, (nk_le (by omega) (by omega) : (nI (pop b) ≤ nI (pop k)) = (pop b ≤ pop k))]
              refine ⟨fun q => ?_, fun q => ?_⟩
              · rw [mn_eq e1 hb2 hs (by omega), e2] at g
                simp only [ax0, ex_cons, am_get, upz_at, true_and, and_true, Nat.reduceAdd, Nat.reduceLeDiff, Nat.reduceEqDiff, Nat.reduceSub, Int32.reduceOfInt, Int32.reduceAdd, Int32.reduceMul, Int32.reduceSub, ↓reduceIte, Int32.reduceLT, Int32.reduceLE, Int32.reduceToNatClampNeg, Nat.reduceMod, Nat.reduceLT, List.length_cons, List.length_nil, eq_self, true_or, or_true, and_self, implies_true, not_true_eq_false, not_false_eq_true, false_implies, true_implies, forall_const, st_goto, st_goto_w, st_iinc, am_put, am_nlg, jx_Model_calm_90, kb_Model_calm_90, jx_Model_calm_93, kb_Model_calm_93, nk_succ]
                exact g
              · rw [mn_lt e1 hb2 hs (by omega)] at g
                simp only [ax0, ex_cons, am_get, upz_at, true_and, and_true, Nat.reduceAdd, Nat.reduceLeDiff, Nat.reduceEqDiff, Nat.reduceSub, Int32.reduceOfInt, Int32.reduceAdd, Int32.reduceMul, Int32.reduceSub, ↓reduceIte, Int32.reduceLT, Int32.reduceLE, Int32.reduceToNatClampNeg, Nat.reduceMod, Nat.reduceLT, List.length_cons, List.length_nil, eq_self, true_or, or_true, and_self, implies_true, not_true_eq_false, not_false_eq_true, false_implies, true_implies, forall_const, st_goto, st_goto_w, st_iconst, st_iinc, st_iload, st_istore, am_put, am_nlg, jx_Model_calm_84, kb_Model_calm_84, jx_Model_calm_90, kb_Model_calm_90, jx_Model_calm_93, kb_Model_calm_93, nk_succ]
                exact g
          · have hs : caP D k = false := by unfold caP; rw [e5]; rfl
            rw [mn_no hs, e1, e2] at g
            simp only [ax0, ex_cons, am_get, upz_at, true_and, and_true, Nat.reduceAdd, Nat.reduceLeDiff, Nat.reduceEqDiff, Nat.reduceSub, Int32.reduceOfInt, Int32.reduceAdd, Int32.reduceMul, Int32.reduceSub, ↓reduceIte, Int32.reduceLT, Int32.reduceLE, Int32.reduceToNatClampNeg, Nat.reduceMod, Nat.reduceLT, List.length_cons, List.length_nil, eq_self, true_or, or_true, and_self, implies_true, not_true_eq_false, not_false_eq_true, false_implies, true_implies, forall_const, st_goto, st_iinc, am_put, am_nlg, jx_Model_calm_93, kb_Model_calm_93, nk_succ]
            exact g
        cases hm : (mnF (caP D) k).1 with
        | none =>
          simp only [oI_none, eq_self, true_implies, not_true_eq_false, false_implies, and_true]
          exact body none _ hm rfl (fun b q => by cases q)
        | some b =>
          have hb := mnF_lt (caP D) k b hm
          simp only [oI_some, nI_neg1 (show b < 2147483648 by omega), false_implies, not_false_eq_true, true_implies, true_and]
          refine m_ones ?_
          rw [pop_nI]
          simp only [ax0, ex_cons, am_get, upz_at, true_and, and_true, Nat.reduceAdd, Nat.reduceLeDiff, Nat.reduceEqDiff, Nat.reduceSub, Int32.reduceOfInt, Int32.reduceAdd, Int32.reduceMul, Int32.reduceSub, ↓reduceIte, Int32.reduceLT, Int32.reduceLE, Int32.reduceToNatClampNeg, Nat.reduceMod, Nat.reduceLT, List.length_cons, List.length_nil, eq_self, true_or, or_true, and_self, implies_true, not_true_eq_false, not_false_eq_true, false_implies, true_implies, forall_const, st_goto_w, st_iconst, st_if_icmp, st_iload, st_st1, kb_Model_calm_28]
          refine m_ones ?_
          rw [pop_nI]
          have p1 := pop_le k
          have p2 := pop_le b
          simp only [ax0, ex_cons, am_get, upz_at, true_and, and_true, Nat.reduceAdd, Nat.reduceLeDiff, Nat.reduceEqDiff, Nat.reduceSub, Int32.reduceOfInt, Int32.reduceAdd, Int32.reduceMul, Int32.reduceSub, ↓reduceIte, Int32.reduceLT, Int32.reduceLE, Int32.reduceToNatClampNeg, Nat.reduceMod, Nat.reduceLT, List.length_cons, List.length_nil, eq_self, true_or, or_true, and_self, implies_true, not_true_eq_false, not_false_eq_true, false_implies, true_implies, forall_const, st_goto_w, st_iconst, st_if_icmp, st_iload, st_st1, kb_Model_calm_28, nk_lt (show pop b < 2147483648 by omega) (show pop k < 2147483648 by omega)]
          refine ⟨fun q => ?_, fun q => body (some b) _ hm rfl (fun b' e => by cases e; omega)⟩
          have g := go F1 g1 g2
          rw [mn_gt hm q, hm] at g
          simp only [ax0, ex_cons, am_get, upz_at, true_and, and_true, Nat.reduceAdd, Nat.reduceLeDiff, Nat.reduceEqDiff, Nat.reduceSub, Int32.reduceOfInt, Int32.reduceAdd, Int32.reduceMul, Int32.reduceSub, ↓reduceIte, Int32.reduceLT, Int32.reduceLE, Int32.reduceToNatClampNeg, Nat.reduceMod, Nat.reduceLT, List.length_cons, List.length_nil, eq_self, true_or, or_true, and_self, implies_true, not_true_eq_false, not_false_eq_true, false_implies, true_implies, forall_const, st_goto, st_iinc, am_put, am_nlg, jx_Model_calm_93, kb_Model_calm_93, nk_succ]
          exact g
    exact key (2 ^ D.1) 0 F (by omega) hD St.rf
  · have ea : aCalm D x = -1 := by unfold aCalm; rw [e]; rfl
    rw [ea] at K
    exact K F Pm.rf
end MPI
