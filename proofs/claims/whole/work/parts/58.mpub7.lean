/-! ===== the model: least, calm ===== -/
def pop (x : Nat) : Nat := cn (fun i => x.testBit i) 32
theorem pop_le (x : Nat) : pop x ≤ 32 := cn_le _ _
theorem pop_nI (x : Nat) : cn (fun i => (nI x).toBitVec.getLsbD i) 32 = pop x := cn_congr (fun i hi => by
  rw [nk_bv, BitVec.getLsbD_ofNat, decide_eq_true hi, Bool.true_and])
def mnF (p : Nat → Bool) : Nat → Option Nat × Nat
  | 0 => (none, 0)
  | k + 1 => match (mnF p k).1 with
    | none => if p k then (some k, 1) else mnF p k
    | some b => if pop b < pop k then mnF p k else if p k then (if pop k < pop b then (some k, 1) else (some b, (mnF p k).2 + 1)) else mnF p k
theorem mn_S (p : Nat → Bool) (k : Nat) : mnF p (k + 1) = (match (mnF p k).1 with
    | none => if p k then (some k, 1) else mnF p k
    | some b => if pop b < pop k then mnF p k else if p k then (if pop k < pop b then (some k, 1) else (some b, (mnF p k).2 + 1)) else mnF p k) := rfl
theorem mn_no {p : Nat → Bool} {k : Nat} (h : p k = false) : mnF p (k + 1) = mnF p k := by
  rw [mn_S, h]
  cases (mnF p k).1 with
  | none => rfl
  | some b => dsimp only; split <;> rfl
theorem mn_n1 {p : Nat → Bool} {k : Nat} (e : (mnF p k).1 = none) (h : p k = true) : mnF p (k + 1) = (some k, 1) := by
  rw [mn_S, e, h]; rfl
theorem mn_gt {p : Nat → Bool} {k b : Nat} (e : (mnF p k).1 = some b) (h : pop b < pop k) : mnF p (k + 1) = mnF p k := by
  rw [mn_S, e]
  exact if_pos h
theorem mn_lt {p : Nat → Bool} {k b : Nat} (e : (mnF p k).1 = some b) (h : ¬ pop b < pop k) (hp : p k = true) (h2 : pop k < pop b) : mnF p (k + 1) = (some k, 1) := by
  rw [mn_S, e]
  dsimp only
  rw [if_neg h, hp, if_pos rfl, if_pos h2]
theorem mn_eq {p : Nat → Bool} {k b : Nat} (e : (mnF p k).1 = some b) (h : ¬ pop b < pop k) (hp : p k = true) (h2 : ¬ pop k < pop b) : mnF p (k + 1) = (some b, (mnF p k).2 + 1) := by
  rw [mn_S, e]
  dsimp only
  rw [if_neg h, hp, if_pos rfl, if_neg h2]
theorem mnF_lt (p : Nat → Bool) : ∀ k b, (mnF p k).1 = some b → b < k
  | 0, b, h => by cases h
  | k + 1, b, h => by
    by_cases hp : p k = true
    · cases hm : (mnF p k).1 with
      | none => rw [mn_n1 hm hp] at h; cases h; omega
      | some b' =>
        have ih := mnF_lt p k b' hm
        by_cases h1 : pop b' < pop k
        · rw [mn_gt hm h1, hm] at h; cases h; omega
        · by_cases h2 : pop k < pop b'
          · rw [mn_lt hm h1 hp h2] at h; cases h; omega
          · rw [mn_eq hm h1 hp h2] at h; cases h; omega
    · rw [mn_no (by simpa using hp)] at h
      have := mnF_lt p k b h
      omega
def suP (D : dT) (hp : Nat) : Bool := !qz (hzD D hp) (fun _ => false) && fo (hzD D hp) (csD D 12) D.2.2.2
def leO (s : Option Nat × Nat) (what : Int32) : Int32 := if what = 1 then nI s.2 else match s.1 with
  | none => -1
  | some b => if what = 0 then nI (pop b) else nI b
def aLeast (D : dT) (what : Int32) : Int32 := if lieB what 0 2 && D.2.2.1 then leO (mnF (suP D) (2 ^ D.1)) what else -1
theorem oI_none : oI none = -1 := rfl
theorem oI_some (b : Nat) : oI (some b) = nI b := rfl
theorem nI_neg1 {b : Nat} (h : b < 2147483648) : (nI b = -1) = False := by
  refine propext ⟨fun q => ?_, False.elim⟩
  have := congrArg Int32.toInt q
  rw [nk_toInt h, show (-1 : Int32).toInt = -1 from by decide] at this
  omega
section MPH
variable {d : Nat} {h : am_H} {F : Nat → Nat → Int32} {J : Nat → Nat → Int64} {V : Nat → Nat → Value} {Q : am_Q}
set_option maxRecDepth 20000 in
theorem m_isQuarrelling {D : dT} (hD : MK (F 84) D) {hp : Nat} (hhp : hp < 2 ^ D.1) (K : ∀ F', MK (F' 84) D → St F F' → Q (some (.int (b2i (qz (hzD D hp) (fun _ => false))))) (ov h F' J V)) : am_cl (d + 4) 244 [.ref 82, .int (nI hp)] (ov h F J V) Q := by
  simp only [ax0, ex_cons, am_get, upz_at, true_and, and_true, Nat.reduceAdd, Nat.reduceLeDiff, Nat.reduceEqDiff, Nat.reduceSub, Int32.reduceOfInt, Int32.reduceAdd, Int32.reduceMul, Int32.reduceSub, ↓reduceIte, Int32.reduceLT, Int32.reduceLE, Int32.reduceToNatClampNeg, Nat.reduceMod, Nat.reduceLT, List.length_cons, List.length_nil, eq_self, true_or, or_true, and_self, implies_true, not_true_eq_false, not_false_eq_true, false_implies, true_implies, forall_const, st_aload, st_freturn, st_iload, st_in1, st_in2, cx_Model_isQuarrelling, kb_Model_isQuarrelling_0, oo_82, oa_82]
  refine m_heapsD hD hhp (fun F1 h1 h2 h3 => ?_)
  simp only [ax0, ex_cons, am_get, upz_at, true_and, and_true, Nat.reduceAdd, Nat.reduceLeDiff, Nat.reduceEqDiff, Nat.reduceSub, Int32.reduceOfInt, Int32.reduceAdd, Int32.reduceMul, Int32.reduceSub, ↓reduceIte, Int32.reduceLT, Int32.reduceLE, Int32.reduceToNatClampNeg, Nat.reduceMod, Nat.reduceLT, List.length_cons, List.length_nil, eq_self, true_or, or_true, and_self, implies_true, not_true_eq_false, not_false_eq_true, false_implies, true_implies, forall_const, st_aload, st_freturn, st_iload, st_in1, st_in2, kb_Model_isQuarrelling_0, oo_82, oa_82]
  refine m_isQuarrel h1 (by have := hzD_len D hp; omega) (fun f => ?_)
  simp only [ax0, ex_cons, am_get, upz_at, true_and, and_true, Nat.reduceAdd, Nat.reduceLeDiff, Nat.reduceEqDiff, Nat.reduceSub, Int32.reduceOfInt, Int32.reduceAdd, Int32.reduceMul, Int32.reduceSub, ↓reduceIte, Int32.reduceLT, Int32.reduceLE, Int32.reduceToNatClampNeg, Nat.reduceMod, Nat.reduceLT, List.length_cons, List.length_nil, eq_self, true_or, or_true, and_self, implies_true, not_true_eq_false, not_false_eq_true, false_implies, true_implies, forall_const, st_aload, st_freturn, st_iload, st_in1, st_in2, kb_Model_isQuarrelling_0, oo_82, oa_82, b2i_01]
  exact K _ h2 (h3.s100 f)
set_option maxRecDepth 20000 in
theorem mp_least {D : dT} (hD : MK (F 84) D) {x : Int32} (K : ∀ F', Pm F F' → Q (some (.int (aLeast D x))) (ov h F' J V)) : am_cl (d + 5) 243 [.ref 82, .int x] (ov h F J V) Q := by
  have no : aLeast D x = -1 → am_W kc_Model_least (am_cl (d + 4)) Q 16 [.ref 82, .int x, am_dum, am_dum, am_dum] [] (ov h F J V) := fun e => by
    rw [e] at K
    simp only [ax0, ex_cons, am_get, upz_at, true_and, and_true, Nat.reduceAdd, Nat.reduceLeDiff, Nat.reduceEqDiff, Nat.reduceSub, Int32.reduceOfInt, Int32.reduceAdd, Int32.reduceMul, Int32.reduceSub, ↓reduceIte, Int32.reduceLT, Int32.reduceLE, Int32.reduceToNatClampNeg, Nat.reduceMod, Nat.reduceLT, List.length_cons, List.length_nil, eq_self, true_or, or_true, and_self, implies_true, not_true_eq_false, not_false_eq_true, false_implies, true_implies, forall_const, st_iconst, st_ireturn, jx_Model_least_16, kb_Model_least_16]
    exact K F Pm.rf
  simp only [ax0, ex_cons, am_get, upz_at, true_and, and_true, Nat.reduceAdd, Nat.reduceLeDiff, Nat.reduceEqDiff, Nat.reduceSub, Int32.reduceOfInt, Int32.reduceAdd, Int32.reduceMul, Int32.reduceSub, ↓reduceIte, Int32.reduceLT, Int32.reduceLE, Int32.reduceToNatClampNeg, Nat.reduceMod, Nat.reduceLT, List.length_cons, List.length_nil, eq_self, true_or, or_true, and_self, implies_true, not_true_eq_false, not_false_eq_true, false_implies, true_implies, forall_const, st_aload, st_goto_w, st_iconst, st_ifCond, st_iload, st_in1, st_st3, kb_Model_least_0, oo_82, oa_82, cx_Model_least]
  refine m_lies ?_
  simp only [ax0, ex_cons, am_get, upz_at, true_and, and_true, Nat.reduceAdd, Nat.reduceLeDiff, Nat.reduceEqDiff, Nat.reduceSub, Int32.reduceOfInt, Int32.reduceAdd, Int32.reduceMul, Int32.reduceSub, ↓reduceIte, Int32.reduceLT, Int32.reduceLE, Int32.reduceToNatClampNeg, Nat.reduceMod, Nat.reduceLT, List.length_cons, List.length_nil, eq_self, true_or, or_true, and_self, implies_true, not_true_eq_false, not_false_eq_true, false_implies, true_implies, forall_const, st_aload, st_goto_w, st_iconst, st_ifCond, st_iload, st_in1, st_st3, kb_Model_least_0, oo_82, oa_82]
  refine ifb (fun e => no (by unfold aLeast; rw [e]; rfl)) (fun e => ?_)
  refine m_isAsked hD.2.2.1 ?_
  simp only [ax0, ex_cons, am_get, upz_at, true_and, and_true, Nat.reduceAdd, Nat.reduceLeDiff, Nat.reduceEqDiff, Nat.reduceSub, Int32.reduceOfInt, Int32.reduceAdd, Int32.reduceMul, Int32.reduceSub, ↓reduceIte, Int32.reduceLT, Int32.reduceLE, Int32.reduceToNatClampNeg, Nat.reduceMod, Nat.reduceLT, List.length_cons, List.length_nil, eq_self, true_or, or_true, and_self, implies_true, not_true_eq_false, not_false_eq_true, false_implies, true_implies, forall_const, st_aload, st_goto_w, st_iconst, st_ifCond, st_iload, st_in1, st_st3, kb_Model_least_0, oo_82, oa_82]
  refine ifnb (fun e4 => ?_) (fun e4 => no (by unfold aLeast; rw [e4, Bool.and_false]; rfl))
  have ea : aLeast D x = leO (mnF (suP D) (2 ^ D.1)) x := by unfold aLeast; rw [e, e4]; rfl
  rw [ea] at K
  have hn := hD.2.1
  have h12 : 2 ^ D.1 ≤ 4096 := (Nat.pow_le_pow_right (by decide) hn : 2 ^ D.1 ≤ 2 ^ 12)
  simp only [ax0, ex_cons, am_get, upz_at, true_and, and_true, Nat.reduceAdd, Nat.reduceLeDiff, Nat.reduceEqDiff, Nat.reduceSub, Int32.reduceOfInt, Int32.reduceAdd, Int32.reduceMul, Int32.reduceSub, ↓reduceIte, Int32.reduceLT, Int32.reduceLE, Int32.reduceToNatClampNeg, Nat.reduceMod, Nat.reduceLT, List.length_cons, List.length_nil, eq_self, true_or, or_true, and_self, implies_true, not_true_eq_false, not_false_eq_true, false_implies, true_implies, forall_const, st_goto_w, st_iconst, st_istore, am_put, am_nlg, jx_Model_least_18, kb_Model_least_18]
  have key : ∀ j k F1, k + j = 2 ^ D.1 → MK (F1 84) D → St F F1 → am_W kc_Model_least (am_cl (d + 4)) Q 25 [.ref 82, .int x, .int (oI (mnF (suP D) k).1), .int (nI (mnF (suP D) k).2), .int (nI k)] [] (ov h F1 J V) := by
    intro j
    induction j with
    | zero =>
      intro k F1 ek g1 g2
      have ek : k = 2 ^ D.1 := ek
      rw [← ek] at K
      have K1 := K F1 g2.pm
      have hlt := mnF_lt (suP D) k
      rw [jx_Model_least_25]
      simp only [ax0, ex_cons, am_get, upz_at, true_and, and_true, Nat.reduceAdd, Nat.reduceLeDiff, Nat.reduceEqDiff, Nat.reduceSub, Int32.reduceOfInt, Int32.reduceAdd, Int32.reduceMul, Int32.reduceSub, ↓reduceIte, Int32.reduceLT, Int32.reduceLE, Int32.reduceToNatClampNeg, Nat.reduceMod, Nat.reduceLT, List.length_cons, List.length_nil, eq_self, true_or, or_true, and_self, implies_true, not_true_eq_false, not_false_eq_true, false_implies, true_implies, forall_const, st_aload, st_getfield, st_goto, st_iaload, st_iconst, st_if_icmp, st_iload, st_in1, st_st1, st_ireturn, st_ishl, kb_Model_least_25, oo_82, cx_Model_slips, kb_Model_slips_0, og_82_2, oa_82, oa_84, or_84, g1.1, nk_1shl (show D.1 < 32 by omega), ek, (nk_le (by omega) (by omega) : (nI (2 ^ D.1) ≤ nI (2 ^ D.1)) = (2 ^ D.1 ≤ 2 ^ D.1)), Nat.le_refl]
      rw [← ek]
      unfold leO at K1
      simp only [ax0, ex_cons, am_get, upz_at, true_and, and_true, Nat.reduceAdd, Nat.reduceLeDiff, Nat.reduceEqDiff, Nat.reduceSub, Int32.reduceOfInt, Int32.reduceAdd, Int32.reduceMul, Int32.reduceSub, ↓reduceIte, Int32.reduceLT, Int32.reduceLE, Int32.reduceToNatClampNeg, Nat.reduceMod, Nat.reduceLT, List.length_cons, List.length_nil, eq_self, true_or, or_true, and_self, implies_true, not_true_eq_false, not_false_eq_true, false_implies, true_implies, forall_const, st_goto, st_iconst, st_if_icmp, st_iload, jx_Model_least_116, kb_Model_least_116]
      refine ⟨fun q => ?_, fun q => ?_⟩
      · rw [if_neg q] at K1
        cases hm : (mnF (suP D) k).1 with
        | none =>
          rw [hm] at K1
          simp only [ax0, ex_cons, am_get, upz_at, true_and, and_true, Nat.reduceAdd, Nat.reduceLeDiff, Nat.reduceEqDiff, Nat.reduceSub, Int32.reduceOfInt, Int32.reduceAdd, Int32.reduceMul, Int32.reduceSub, ↓reduceIte, Int32.reduceLT, Int32.reduceLE, Int32.reduceToNatClampNeg, Nat.reduceMod, Nat.reduceLT, List.length_cons, List.length_nil, eq_self, true_or, or_true, and_self, implies_true, not_true_eq_false, not_false_eq_true, false_implies, true_implies, forall_const, st_goto, st_iconst, st_if_icmp, st_iload, st_ireturn, jx_Model_least_125, kb_Model_least_125, jx_Model_least_146, kb_Model_least_146, oI_none]
          exact K1
        | some b =>
          rw [hm] at K1
          have hb := hlt b hm
          simp only [ax0, ex_cons, am_get, upz_at, true_and, and_true, Nat.reduceAdd, Nat.reduceLeDiff, Nat.reduceEqDiff, Nat.reduceSub, Int32.reduceOfInt, Int32.reduceAdd, Int32.reduceMul, Int32.reduceSub, ↓reduceIte, Int32.reduceLT, Int32.reduceLE, Int32.reduceToNatClampNeg, Nat.reduceMod, Nat.reduceLT, List.length_cons, List.length_nil, eq_self, true_or, or_true, and_self, implies_true, not_true_eq_false, not_false_eq_true, false_implies, true_implies, forall_const, st_goto, st_iconst, st_ifCond, st_if_icmp, st_iload, st_st1, jx_Model_least_125, kb_Model_least_125, jx_Model_least_134, kb_Model_least_134, oI_some, nI_neg1 (show b < 2147483648 by omega)]
          refine ⟨fun q => ?_, fun q => ?_⟩
          · dsimp only at K1
            rw [if_neg q] at K1
            simp only [ax0, ex_cons, am_get, upz_at, true_and, and_true, Nat.reduceAdd, Nat.reduceLeDiff, Nat.reduceEqDiff, Nat.reduceSub, Int32.reduceOfInt, Int32.reduceAdd, Int32.reduceMul, Int32.reduceSub, ↓reduceIte, Int32.reduceLT, Int32.reduceLE, Int32.reduceToNatClampNeg, Nat.reduceMod, Nat.reduceLT, List.length_cons, List.length_nil, eq_self, true_or, or_true, and_self, implies_true, not_true_eq_false, not_false_eq_true, false_implies, true_implies, forall_const, st_goto_w, st_iload, st_ireturn, jx_Model_least_145, kb_Model_least_145, jx_Model_least_146, kb_Model_least_146]
            exact K1
          · dsimp only at K1
            rw [if_pos (Decidable.not_not.mp q)] at K1
            refine m_ones ?_
            rw [pop_nI]
            simp only [ax0, ex_cons, am_get, upz_at, true_and, and_true, Nat.reduceAdd, Nat.reduceLeDiff, Nat.reduceEqDiff, Nat.reduceSub, Int32.reduceOfInt, Int32.reduceAdd, Int32.reduceMul, Int32.reduceSub, ↓reduceIte, Int32.reduceLT, Int32.reduceLE, Int32.reduceToNatClampNeg, Nat.reduceMod, Nat.reduceLT, List.length_cons, List.length_nil, eq_self, true_or, or_true, and_self, implies_true, not_true_eq_false, not_false_eq_true, false_implies, true_implies, forall_const, st_goto, st_ifCond, st_iload, st_st1, st_ireturn, jx_Model_least_134, kb_Model_least_134, jx_Model_least_146, kb_Model_least_146]
            exact K1
      · rw [if_pos (Decidable.not_not.mp q)] at K1
        simp only [ax0, ex_cons, am_get, upz_at, true_and, and_true, Nat.reduceAdd, Nat.reduceLeDiff, Nat.reduceEqDiff, Nat.reduceSub, Int32.reduceOfInt, Int32.reduceAdd, Int32.reduceMul, Int32.reduceSub, ↓reduceIte, Int32.reduceLT, Int32.reduceLE, Int32.reduceToNatClampNeg, Nat.reduceMod, Nat.reduceLT, List.length_cons, List.length_nil, eq_self, true_or, or_true, and_self, implies_true, not_true_eq_false, not_false_eq_true, false_implies, true_implies, forall_const, st_ireturn, jx_Model_least_146, kb_Model_least_146]
        exact K1
    | succ j ih =>
      intro k F1 ek g1 g2
      have hk : k < 2 ^ D.1 := by omega
      have go := fun F2 a b => ih (k + 1) F2 (by omega) a b
      rw [jx_Model_least_25]
      simp only [ax0, ex_cons, am_get, upz_at, true_and, and_true, Nat.reduceAdd, Nat.reduceLeDiff, Nat.reduceEqDiff, Nat.reduceSub, Int32.reduceOfInt, Int32.reduceAdd, Int32.reduceMul, Int32.reduceSub, ↓reduceIte, Int32.reduceLT, Int32.reduceLE, Int32.reduceToNatClampNeg, Nat.reduceMod, Nat.reduceLT, List.length_cons, List.length_nil, eq_self, true_or, or_true, and_self, implies_true, not_true_eq_false, not_false_eq_true, false_implies, true_implies, forall_const, st_aload, st_getfield, st_goto, st_iaload, st_iconst, st_if_icmp, st_iload, st_in1, st_st1, st_ireturn, st_ishl, kb_Model_least_25, oo_82, cx_Model_slips, kb_Model_slips_0, og_82_2, oa_82, oa_84, or_84, g1.1, nk_1shl (show D.1 < 32 by omega), (nk_le (by omega) (by omega) : (nI (2 ^ D.1) ≤ nI (k)) = (2 ^ D.1 ≤ k)), show ¬ 2 ^ D.1 ≤ k by omega]
      have body : ∀ (best : Option Nat) (n : Nat), (mnF (suP D) k).1 = best → (mnF (suP D) k).2 = n → (∀ b, best = some b → ¬ pop b < pop k) → am_W kc_Model_least (am_cl (d + 4)) Q 56 [.ref 82, .int x, .int (oI best), .int (nI n), .int (nI k)] [] (ov h F1 J V) := by
        intro best n e1 e2 hge
        have h110 : ∀ F2, MK (F2 84) D → St F F2 → suP D k = false → am_W kc_Model_least (am_cl (d + 4)) Q 110 [.ref 82, .int x, .int (oI best), .int (nI n), .int (nI k)] [] (ov h F2 J V) := by
          intro F2 q1 q2 hs
          have g := go F2 q1 q2
          have em : mnF (suP D) (k + 1) = mnF (suP D) k := mn_no hs
          rw [em, e1, e2] at g
          simp only [ax0, ex_cons, am_get, upz_at, true_and, and_true, Nat.reduceAdd, Nat.reduceLeDiff, Nat.reduceEqDiff, Nat.reduceSub, Int32.reduceOfInt, Int32.reduceAdd, Int32.reduceMul, Int32.reduceSub, ↓reduceIte, Int32.reduceLT, Int32.reduceLE, Int32.reduceToNatClampNeg, Nat.reduceMod, Nat.reduceLT, List.length_cons, List.length_nil, eq_self, true_or, or_true, and_self, implies_true, not_true_eq_false, not_false_eq_true, false_implies, true_implies, forall_const, st_goto, st_iinc, am_put, am_nlg, jx_Model_least_110, kb_Model_least_110, nk_succ]
          exact g
        simp only [ax0, ex_cons, am_get, upz_at, true_and, and_true, Nat.reduceAdd, Nat.reduceLeDiff, Nat.reduceEqDiff, Nat.reduceSub, Int32.reduceOfInt, Int32.reduceAdd, Int32.reduceMul, Int32.reduceSub, ↓reduceIte, Int32.reduceLT, Int32.reduceLE, Int32.reduceToNatClampNeg, Nat.reduceMod, Nat.reduceLT, List.length_cons, List.length_nil, eq_self, true_or, or_true, and_self, implies_true, not_true_eq_false, not_false_eq_true, false_implies, true_implies, forall_const, st_aload, st_goto, st_iconst, st_ifCond, st_iload, st_in1, st_in2, st_in3, jx_Model_least_56, kb_Model_least_56, oo_82, oa_82]
        refine m_heapsD g1 hk (fun F2 h1 h2 h3 => ?_)
        simp only [ax0, ex_cons, am_get, upz_at, true_and, and_true, Nat.reduceAdd, Nat.reduceLeDiff, Nat.reduceEqDiff, Nat.reduceSub, Int32.reduceOfInt, Int32.reduceAdd, Int32.reduceMul, Int32.reduceSub, ↓reduceIte, Int32.reduceLT, Int32.reduceLE, Int32.reduceToNatClampNeg, Nat.reduceMod, Nat.reduceLT, List.length_cons, List.length_nil, eq_self, true_or, or_true, and_self, implies_true, not_true_eq_false, not_false_eq_true, false_implies, true_implies, forall_const, st_aload, st_goto, st_iconst, st_ifCond, st_iload, st_in1, st_in2, st_in3, jx_Model_least_56, kb_Model_least_56, oo_82, oa_82]
        have hl := hzD_len D k
        refine m_isQuarrel h1 (by omega) (fun f => ?_)
        simp only [ax0, ex_cons, am_get, upz_at, true_and, and_true, Nat.reduceAdd, Nat.reduceLeDiff, Nat.reduceEqDiff, Nat.reduceSub, Int32.reduceOfInt, Int32.reduceAdd, Int32.reduceMul, Int32.reduceSub, ↓reduceIte, Int32.reduceLT, Int32.reduceLE, Int32.reduceToNatClampNeg, Nat.reduceMod, Nat.reduceLT, List.length_cons, List.length_nil, eq_self, true_or, or_true, and_self, implies_true, not_true_eq_false, not_false_eq_true, false_implies, true_implies, forall_const, st_aload, st_goto, st_iconst, st_ifCond, st_iload, st_in1, st_in2, st_in3, jx_Model_least_56, kb_Model_least_56, oo_82, oa_82]
        refine ifnb (fun e5 => h110 _ h2 ((g2.tr h3).s100 f) (by unfold suP; rw [e5]; rfl)) (fun e5 => ?_)
        refine m_isTold h2.2.2.2.1 ?_
        simp only [ax0, ex_cons, am_get, upz_at, true_and, and_true, Nat.reduceAdd, Nat.reduceLeDiff, Nat.reduceEqDiff, Nat.reduceSub, Int32.reduceOfInt, Int32.reduceAdd, Int32.reduceMul, Int32.reduceSub, ↓reduceIte, Int32.reduceLT, Int32.reduceLE, Int32.reduceToNatClampNeg, Nat.reduceMod, Nat.reduceLT, List.length_cons, List.length_nil, eq_self, true_or, or_true, and_self, implies_true, not_true_eq_false, not_false_eq_true, false_implies, true_implies, forall_const, st_aload, st_goto, st_iconst, st_ifCond, st_iload, st_in1, st_in2, st_in3, jx_Model_least_56, kb_Model_least_56, oo_82, oa_82]
        refine m_followsOf (s := 12) (h1.s100 f) (by omega) (by decide) (h2.2.2.2.2.2 e4).2.2 (fun f2 => ?_)
        rw [upz_upd]
        simp only [ax0, ex_cons, am_get, upz_at, true_and, and_true, Nat.reduceAdd, Nat.reduceLeDiff, Nat.reduceEqDiff, Nat.reduceSub, Int32.reduceOfInt, Int32.reduceAdd, Int32.reduceMul, Int32.reduceSub, ↓reduceIte, Int32.reduceLT, Int32.reduceLE, Int32.reduceToNatClampNeg, Nat.reduceMod, Nat.reduceLT, List.length_cons, List.length_nil, eq_self, true_or, or_true, and_self, implies_true, not_true_eq_false, not_false_eq_true, false_implies, true_implies, forall_const, st_aload, st_goto, st_iconst, st_ifCond, st_iload, st_in1, st_in2, st_in3, jx_Model_least_56, kb_Model_least_56, oo_82, oa_82]
        refine ifnb (fun e6 => ?_) (fun e6 => h110 _ h2 ((g2.tr h3).s100 f2) (by unfold suP csD; rw [e5, e6]; rfl))
        have hs : suP D k = true := by unfold suP csD; rw [e5, e6]; rfl
        have g := go (upz F2 100 f2) h2 ((g2.tr h3).s100 f2)
        cases best with
        | none =>
          have em : mnF (suP D) (k + 1) = (some k, 1) := mn_n1 e1 hs
          rw [em] at g
          simp only [ax0, ex_cons, am_get, upz_at, true_and, and_true, Nat.reduceAdd, Nat.reduceLeDiff, Nat.reduceEqDiff, Nat.reduceSub, Int32.reduceOfInt, Int32.reduceAdd, Int32.reduceMul, Int32.reduceSub, ↓reduceIte, Int32.reduceLT, Int32.reduceLE, Int32.reduceToNatClampNeg, Nat.reduceMod, Nat.reduceLT, List.length_cons, List.length_nil, eq_self, true_or, or_true, and_self, implies_true, not_true_eq_false, not_false_eq_true, false_implies, true_implies, forall_const, st_goto, st_goto_w, st_iconst, st_if_icmp, st_iinc, st_iload, st_st1, st_istore, am_put, am_nlg, jx_Model_least_85, kb_Model_least_85, jx_Model_least_102, kb_Model_least_102, jx_Model_least_107, kb_Model_least_107, jx_Model_least_110, kb_Model_least_110, oI_none, nk_succ]
          exact g
        | some b =>
          have hb := mnF_lt (suP D) k b e1
          have hb2 := hge b rfl
          simp only [ax0, ex_cons, am_get, upz_at, true_and, and_true, Nat.reduceAdd, Nat.reduceLeDiff, Nat.reduceEqDiff, Nat.reduceSub, Int32.reduceOfInt, Int32.reduceAdd, Int32.reduceMul, Int32.reduceSub, ↓reduceIte, Int32.reduceLT, Int32.reduceLE, Int32.reduceToNatClampNeg, Nat.reduceMod, Nat.reduceLT, List.length_cons, List.length_nil, eq_self, true_or, or_true, and_self, implies_true, not_true_eq_false, not_false_eq_true, false_implies, true_implies, forall_const, st_goto_w, st_iconst, st_if_icmp, st_iload, st_st1, jx_Model_least_85, kb_Model_least_85, oI_some, nI_neg1 (show b < 2147483648 by omega)]
          refine m_ones ?_
          rw [pop_nI]
          simp only [ax0, ex_cons, am_get, upz_at, true_and, and_true, Nat.reduceAdd, Nat.reduceLeDiff, Nat.reduceEqDiff, Nat.reduceSub, Int32.reduceOfInt, Int32.reduceAdd, Int32.reduceMul, Int32.reduceSub, ↓reduceIte, Int32.reduceLT, Int32.reduceLE, Int32.reduceToNatClampNeg, Nat.reduceMod, Nat.reduceLT, List.length_cons, List.length_nil, eq_self, true_or, or_true, and_self, implies_true, not_true_eq_false, not_false_eq_true, false_implies, true_implies, forall_const, st_goto_w, st_iconst, st_if_icmp, st_iload, st_st1, jx_Model_least_85, kb_Model_least_85]
          refine m_ones ?_
          rw [pop_nI]
          have p1 := pop_le k
          have p2 := pop_le b
          simp only [ax0, ex_cons, am_get, upz_at, true_and, and_true, Nat.reduceAdd, Nat.reduceLeDiff, Nat.reduceEqDiff, Nat.reduceSub, Int32.reduceOfInt, Int32.reduceAdd, Int32.reduceMul, Int32.reduceSub, ↓reduceIte, Int32.reduceLT, Int32.reduceLE, Int32.reduceToNatClampNeg, Nat.reduceMod, Nat.reduceLT, List.length_cons, List.length_nil, eq_self, true_or, or_true, and_self, implies_true, not_true_eq_false, not_false_eq_true, false_implies, true_implies, forall_const, st_goto_w, st_iconst, st_if_icmp, st_iload, st_st1, jx_Model_least_85, kb_Model_least_85, (nk_le (by omega) (by omega) : (nI (pop b) ≤ nI (pop k)) = (pop b ≤ pop k))]
          refine ⟨fun q => ?_, fun q => ?_⟩
          · have em : mnF (suP D) (k + 1) = (some b, n + 1) := by rw [mn_eq e1 hb2 hs (by omega), e2]
            rw [em] at g
            simp only [ax0, ex_cons, am_get, upz_at, true_and, and_true, Nat.reduceAdd, Nat.reduceLeDiff, Nat.reduceEqDiff, Nat.reduceSub, Int32.reduceOfInt, Int32.reduceAdd, Int32.reduceMul, Int32.reduceSub, ↓reduceIte, Int32.reduceLT, Int32.reduceLE, Int32.reduceToNatClampNeg, Nat.reduceMod, Nat.reduceLT, List.length_cons, List.length_nil, eq_self, true_or, or_true, and_self, implies_true, not_true_eq_false, not_false_eq_true, false_implies, true_implies, forall_const, st_goto, st_goto_w, st_iinc, am_put, am_nlg, jx_Model_least_107, kb_Model_least_107, jx_Model_least_110, kb_Model_least_110, nk_succ]
            exact g
          · have em : mnF (suP D) (k + 1) = (some k, 1) := mn_lt e1 hb2 hs (by omega)
            rw [em] at g
            simp only [ax0, ex_cons, am_get, upz_at, true_and, and_true, Nat.reduceAdd, Nat.reduceLeDiff, Nat.reduceEqDiff, Nat.reduceSub, Int32.reduceOfInt, Int32.reduceAdd, Int32.reduceMul, Int32.reduceSub, ↓reduceIte, Int32.reduceLT, Int32.reduceLE, Int32.reduceToNatClampNeg, Nat.reduceMod, Nat.reduceLT, List.length_cons, List.length_nil, eq_self, true_or, or_true, and_self, implies_true, not_true_eq_false, not_false_eq_true, false_implies, true_implies, forall_const, st_goto, st_goto_w, st_iconst, st_iinc, st_iload, st_istore, am_put, am_nlg, jx_Model_least_102, kb_Model_least_102, jx_Model_least_107, kb_Model_least_107, jx_Model_least_110, kb_Model_least_110, nk_succ]
            exact g
      cases hm : (mnF (suP D) k).1 with
      | none =>
        simp only [oI_none, eq_self, true_implies, not_true_eq_false, false_implies, and_true]
        exact body none _ hm rfl (fun b q => by cases q)
      | some b =>
        have hb := mnF_lt (suP D) k b hm
        simp only [oI_some, nI_neg1 (show b < 2147483648 by omega), false_implies, not_false_eq_true, true_implies, true_and]
        refine m_ones ?_
        rw [pop_nI]
        simp only [ax0, ex_cons, am_get, upz_at, true_and, and_true, Nat.reduceAdd, Nat.reduceLeDiff, Nat.reduceEqDiff, Nat.reduceSub, Int32.reduceOfInt, Int32.reduceAdd, Int32.reduceMul, Int32.reduceSub, ↓reduceIte, Int32.reduceLT, Int32.reduceLE, Int32.reduceToNatClampNeg, Nat.reduceMod, Nat.reduceLT, List.length_cons, List.length_nil, eq_self, true_or, or_true, and_self, implies_true, not_true_eq_false, not_false_eq_true, false_implies, true_implies, forall_const, st_aload, st_goto, st_iconst, st_if_icmp, st_iload, st_in1, st_st1, st_ishl, kb_Model_least_25, oo_82, oa_82]
        refine m_ones ?_
        rw [pop_nI]
        have p1 := pop_le k
        have p2 := pop_le b
        simp only [ax0, ex_cons, am_get, upz_at, true_and, and_true, Nat.reduceAdd, Nat.reduceLeDiff, Nat.reduceEqDiff, Nat.reduceSub, Int32.reduceOfInt, Int32.reduceAdd, Int32.reduceMul, Int32.reduceSub, ↓reduceIte, Int32.reduceLT, Int32.reduceLE, Int32.reduceToNatClampNeg, Nat.reduceMod, Nat.reduceLT, List.length_cons, List.length_nil, eq_self, true_or, or_true, and_self, implies_true, not_true_eq_false, not_false_eq_true, false_implies, true_implies, forall_const, st_aload, st_goto, st_iconst, st_if_icmp, st_iload, st_in1, st_st1, st_ishl, kb_Model_least_25, oo_82, oa_82, (nk_le (by omega) (by omega) : (nI (pop k) ≤ nI (pop b)) = (pop k ≤ pop b))]
        refine ⟨fun q => body (some b) _ hm rfl (fun b' e => by cases e; omega), fun q => ?_⟩
        have g := go F1 g1 g2
        have em : mnF (suP D) (k + 1) = mnF (suP D) k := mn_gt hm (by omega)
        rw [em, hm] at g
        simp only [ax0, ex_cons, am_get, upz_at, true_and, and_true, Nat.reduceAdd, Nat.reduceLeDiff, Nat.reduceEqDiff, Nat.reduceSub, Int32.reduceOfInt, Int32.reduceAdd, Int32.reduceMul, Int32.reduceSub, ↓reduceIte, Int32.reduceLT, Int32.reduceLE, Int32.reduceToNatClampNeg, Nat.reduceMod, Nat.reduceLT, List.length_cons, List.length_nil, eq_self, true_or, or_true, and_self, implies_true, not_true_eq_false, not_false_eq_true, false_implies, true_implies, forall_const, st_goto, st_iinc, am_put, am_nlg, jx_Model_least_110, kb_Model_least_110, nk_succ]
        exact g
  exact key (2 ^ D.1) 0 F (by omega) hD St.rf
end MPH
