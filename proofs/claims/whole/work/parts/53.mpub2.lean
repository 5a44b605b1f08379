/-! ===== the model: open, idle, says, all, between ===== -/
theorem i32_bit (x : Int32) {k : Nat} (hk : k < 32) : x >>> (nI k &&& 31) &&& 1 = b2i (x.toBitVec.getLsbD k) := by
  apply Int32.toBitVec_inj.mp
  have e : ((nI k &&& 31).toBitVec.smod 32).toNat = k := nk_sm hk
  have h1 : (x >>> (nI k &&& 31)).toBitVec = x.toBitVec.sshiftRight k := by
    rw [Int32.toBitVec_shiftRight]
    show x.toBitVec.sshiftRight ((nI k &&& 31).toBitVec.smod 32).toNat = _
    rw [e]
  rw [Int32.toBitVec_and, h1]
  apply BitVec.eq_of_getLsbD_eq
  intro i hi
  rw [BitVec.getLsbD_and, BitVec.getLsbD_sshiftRight]
  have one : (1 : Int32).toBitVec.getLsbD i = decide (i = 0) := by
    show (1#32).getLsbD i = _
    rw [BitVec.getLsbD_one]
    simp [hi]
  have zero : (0 : Int32).toBitVec.getLsbD i = false := by
    show (0#32).getLsbD i = _
    simp
  rw [one]
  by_cases q : i = 0
  · subst q
    cases hb : x.toBitVec.getLsbD k <;> simp [b2i, hk, hb] <;> rfl
  · cases hb : x.toBitVec.getLsbD k
    · rw [b2i_f, zero]; simp [q]
    · rw [b2i_t, one]; simp [q]
def cn (p : Nat → Bool) : Nat → Nat
  | 0 => 0
  | k + 1 => cn p k + (if p k then 1 else 0)
theorem cn_le (p : Nat → Bool) : ∀ n, cn p n ≤ n
  | 0 => Nat.le_refl _
  | k + 1 => by unfold cn; have := cn_le p k; split <;> omega
theorem cn_add (p : Nat → Bool) (a : Nat) : ∀ b, cn p (a + b) = cn p a + cn (fun i => p (a + i)) b
  | 0 => rfl
  | b + 1 => by
    show cn p (a + b) + _ = cn p a + (cn (fun i => p (a + i)) b + _)
    rw [cn_add p a b, Nat.add_assoc]
    rfl
theorem cn_congr {p q : Nat → Bool} : ∀ {n : Nat}, (∀ i, i < n → p i = q i) → cn p n = cn q n
  | 0, _ => rfl
  | n + 1, h => by unfold cn; rw [cn_congr (fun i hi => h i (by omega)), h n (by omega)]
theorem nk_addb (a : Nat) (b : Bool) : nI a + b2i b = nI (a + (if b then 1 else 0)) := by
  cases b
  · exact Int32.add_zero _
  · exact nk_succ a
def clr (hp k : Nat) : Nat := if hp.testBit k then hp ^^^ 2 ^ k else hp
theorem clr_bit (hp k j : Nat) : (clr hp k).testBit j = (hp.testBit j && !decide (j = k)) := by
  unfold clr
  by_cases h : hp.testBit k = true
  · rw [if_pos h, Nat.testBit_xor, Nat.testBit_two_pow]
    by_cases q : j = k
    · subst q; simp [h]
    · simp [q, Ne.symm q]
  · rw [if_neg h]
    by_cases q : j = k
    · subst q; simp at h; simp [h]
    · simp [q]
theorem clr_le (hp k : Nat) : clr hp k ≤ hp := by
  have e : hp &&& clr hp k = clr hp k := by
    apply Nat.eq_of_testBit_eq
    intro i
    rw [Nat.testBit_and, clr_bit]
    cases hp.testBit i <;> simp
  rw [← e]
  exact Nat.and_le_left
theorem nk_clr {hp k : Nat} (h : hp < 4096) (hk : k < 12) : nI hp &&& (nI (2 ^ k) ^^^ -1) = nI (clr hp k) := by
  apply Int32.toBitVec_inj.mp
  apply BitVec.eq_of_getLsbD_eq
  intro i hi
  rw [Int32.toBitVec_and, BitVec.getLsbD_and, i32_not hi, nk_bv, nk_bv, nk_bv, BitVec.getLsbD_ofNat, BitVec.getLsbD_ofNat, BitVec.getLsbD_ofNat, Nat.testBit_two_pow, clr_bit]
  simp [hi, eq_comm]
section MPC
variable {d : Nat} {h : am_H} {F : Nat → Nat → Int32} {J : Nat → Nat → Int64} {V : Nat → Nat → Value} {Q : am_Q}
set_option maxRecDepth 20000 in
theorem m_ones {h : am_H} {x : Int32} (K : Q (some (.int (nI (cn (fun i => x.toBitVec.getLsbD i) 32)))) h) : am_cl (d + 1) 178 [.int x] h Q := by
  simp only [ax0, ex_cons, am_get, upz_at, true_and, and_true, Nat.reduceAdd, Nat.reduceLeDiff, Nat.reduceEqDiff, Nat.reduceSub, Int32.reduceOfInt, Int32.reduceAdd, Int32.reduceMul, Int32.reduceSub, ↓reduceIte, Int32.reduceLT, Int32.reduceLE, Int32.reduceToNatClampNeg, Nat.reduceMod, Nat.reduceLT, List.length_cons, List.length_nil, eq_self, true_or, or_true, and_self, implies_true, not_true_eq_false, not_false_eq_true, false_implies, true_implies, forall_const, st_goto_w, st_iconst, st_iload, st_ireturn, st_istore, am_put, am_nlg, cx_Model_ones, kb_Model_ones_0, jx_Model_ones_24, kb_Model_ones_24]
  refine am_iter 32 (fun k => [.int x, .int (nI (cn (fun i => x.toBitVec.getLsbD i) k)), .int (nI k)]) (fun _ => h) (fun _ => True) (fun k hk _ go => ?_) (fun _ => ?_) 0 (by omega) trivial
  · rw [jx_Model_ones_4]
    simp only [ax0, ex_cons, am_get, upz_at, true_and, and_true, Nat.reduceAdd, Nat.reduceLeDiff, Nat.reduceEqDiff, Nat.reduceSub, Int32.reduceOfInt, Int32.reduceAdd, Int32.reduceMul, Int32.reduceSub, ↓reduceIte, Int32.reduceLT, Int32.reduceLE, Int32.reduceToNatClampNeg, Nat.reduceMod, Nat.reduceLT, List.length_cons, List.length_nil, eq_self, true_or, or_true, and_self, implies_true, not_true_eq_false, not_false_eq_true, false_implies, true_implies, forall_const, st_goto, st_iadd, st_iand, st_iconst, st_if_icmp, st_iinc, st_iload, st_ishr, st_istore, am_put, am_nlg, kb_Model_ones_4, show ((32 : Int32) ≤ nI (k)) = (32 ≤ k) from nk_le (a := 32) (b := k) (by omega) (by omega), show ¬ 32 ≤ k by omega, i32_bit x hk, nk_addb, nk_succ]
    exact go trivial
  · rw [jx_Model_ones_4]
    simp only [ax0, ex_cons, am_get, upz_at, true_and, and_true, Nat.reduceAdd, Nat.reduceLeDiff, Nat.reduceEqDiff, Nat.reduceSub, Int32.reduceOfInt, Int32.reduceAdd, Int32.reduceMul, Int32.reduceSub, ↓reduceIte, Int32.reduceLT, Int32.reduceLE, Int32.reduceToNatClampNeg, Nat.reduceMod, Nat.reduceLT, List.length_cons, List.length_nil, eq_self, true_or, or_true, and_self, implies_true, not_true_eq_false, not_false_eq_true, false_implies, true_implies, forall_const, st_goto, st_iadd, st_iand, st_iconst, st_if_icmp, st_iinc, st_iload, st_ireturn, st_ishr, st_istore, am_put, am_nlg, kb_Model_ones_4, jx_Model_ones_24, kb_Model_ones_24, show ((32 : Int32) ≤ nI (32)) = (32 ≤ 32) from nk_le (a := 32) (b := 32) (by omega) (by omega)]
    exact K
def aOpen (D : dT) (a : Int32) : Int32 := if hpB D.1 a then nI (cn (fun r => !(hzD D a.toNatClampNeg).1 r) 256) else -1
set_option maxRecDepth 20000 in
theorem mp_open {D : dT} (hD : MK (F 84) D) {a : Int32} (K : ∀ F', Pm F F' → Q (some (.int (aOpen D a))) (ov h F' J V)) : am_cl (d + 4) 241 [.ref 82, .int a] (ov h F J V) Q := by
  simp only [ax0, ex_cons, am_get, upz_at, true_and, and_true, Nat.reduceAdd, Nat.reduceLeDiff, Nat.reduceEqDiff, Nat.reduceSub, Int32.reduceOfInt, Int32.reduceAdd, Int32.reduceMul, Int32.reduceSub, ↓reduceIte, Int32.reduceLT, Int32.reduceLE, Int32.reduceToNatClampNeg, Nat.reduceMod, Nat.reduceLT, List.length_cons, List.length_nil, eq_self, true_or, or_true, and_self, implies_true, not_true_eq_false, not_false_eq_true, false_implies, true_implies, forall_const, st_aload, st_goto_w, st_iconst, st_ifCond, st_iload, st_in2, st_ireturn, st_istore, am_put, am_nlg, cx_Model_open, kb_Model_open_0, oo_82, jx_Model_open_10, kb_Model_open_10, jx_Model_open_45, kb_Model_open_45, oa_82]
  refine m_isHeap hD.1 hD.2.1 ?_
  simp only [ax0, ex_cons, am_get, upz_at, true_and, and_true, Nat.reduceAdd, Nat.reduceLeDiff, Nat.reduceEqDiff, Nat.reduceSub, Int32.reduceOfInt, Int32.reduceAdd, Int32.reduceMul, Int32.reduceSub, ↓reduceIte, Int32.reduceLT, Int32.reduceLE, Int32.reduceToNatClampNeg, Nat.reduceMod, Nat.reduceLT, List.length_cons, List.length_nil, eq_self, true_or, or_true, and_self, implies_true, not_true_eq_false, not_false_eq_true, false_implies, true_implies, forall_const, st_aload, st_iconst, st_ifCond, st_iload, st_in2, st_ireturn, kb_Model_open_0, oo_82, oa_82]
  refine ifnb (fun e => ?_) (fun e => ?_)
  · obtain ⟨hp, e1, e2, e3⟩ := hpB_nI hD.2.1 e
    have ea : aOpen D a = nI (cn (fun r => !(hzD D hp).1 r) 256) := by unfold aOpen; rw [e, if_pos rfl, e3]
    rw [ea] at K
    rw [e1]
    simp only [ax0, ex_cons, am_get, upz_at, true_and, and_true, Nat.reduceAdd, Nat.reduceLeDiff, Nat.reduceEqDiff, Nat.reduceSub, Int32.reduceOfInt, Int32.reduceAdd, Int32.reduceMul, Int32.reduceSub, ↓reduceIte, Int32.reduceLT, Int32.reduceLE, Int32.reduceToNatClampNeg, Nat.reduceMod, Nat.reduceLT, List.length_cons, List.length_nil, eq_self, true_or, or_true, and_self, implies_true, not_true_eq_false, not_false_eq_true, false_implies, true_implies, forall_const, st_aload, st_goto_w, st_iconst, st_iload, st_in2, st_istore, am_put, am_nlg, jx_Model_open_10, kb_Model_open_10, oo_82, oa_82]
    refine m_heapsD hD e2 (fun F1 h1 h2 h3 => ?_)
    simp only [ax0, ex_cons, am_get, upz_at, true_and, and_true, Nat.reduceAdd, Nat.reduceLeDiff, Nat.reduceEqDiff, Nat.reduceSub, Int32.reduceOfInt, Int32.reduceAdd, Int32.reduceMul, Int32.reduceSub, ↓reduceIte, Int32.reduceLT, Int32.reduceLE, Int32.reduceToNatClampNeg, Nat.reduceMod, Nat.reduceLT, List.length_cons, List.length_nil, eq_self, true_or, or_true, and_self, implies_true, not_true_eq_false, not_false_eq_true, false_implies, true_implies, forall_const, st_aload, st_goto_w, st_iconst, st_iload, st_in2, st_istore, am_put, am_nlg, jx_Model_open_10, kb_Model_open_10, oo_82, oa_82]
    refine am_iter 8 (fun k => [.ref 82, .int (nI hp), .int (nI (cn (fun r => !bI (F1 97) r) (32 * k))), .int (nI k)]) (fun _ => ov h F1 J V) (fun _ => True) (fun k hk _ go => ?_) (fun _ => ?_) 0 (by omega) trivial
    · rw [jx_Model_open_19]
      simp only [ax0, ex_cons, am_get, upz_at, true_and, and_true, Nat.reduceAdd, Nat.reduceLeDiff, Nat.reduceEqDiff, Nat.reduceSub, Int32.reduceOfInt, Int32.reduceAdd, Int32.reduceMul, Int32.reduceSub, ↓reduceIte, Int32.reduceLT, Int32.reduceLE, Int32.reduceToNatClampNeg, Nat.reduceMod, Nat.reduceLT, List.length_cons, List.length_nil, eq_self, true_or, or_true, and_self, implies_true, not_true_eq_false, not_false_eq_true, false_implies, true_implies, forall_const, st_aload, st_getfield, st_goto, st_iadd, st_iaload, st_iconst, st_if_icmp, st_iinc, st_iload, st_st1, st_istore, st_ixor, am_put, am_nlg, kb_Model_open_19, og_82_28, oa_82, oa_97, or_97, show ((8 : Int32) ≤ nI (k)) = (8 ≤ k) from nk_le (a := 8) (b := k) (by omega) (by omega), show ¬ 8 ≤ k by omega, nk_neg (show k < 2147483648 by omega), nk_cl (show k < 2147483648 by omega), hk]
      refine m_ones ?_
      have go := go trivial
      rw [show 32 * (k + 1) = 32 * k + 32 by omega, cn_add] at go
      have ec : cn (fun i => !bI (F1 97) (32 * k + i)) 32 = cn (fun i => (F1 97 k ^^^ -1).toBitVec.getLsbD i) 32 := cn_congr (fun i hi => by
        rw [i32_not hi]
        unfold bI
        rw [show (32 * k + i) / 32 = k by omega, show (32 * k + i) % 32 = i by omega])
      rw [ec] at go
      simp only [ax0, ex_cons, am_get, upz_at, true_and, and_true, Nat.reduceAdd, Nat.reduceLeDiff, Nat.reduceEqDiff, Nat.reduceSub, Int32.reduceOfInt, Int32.reduceAdd, Int32.reduceMul, Int32.reduceSub, ↓reduceIte, Int32.reduceLT, Int32.reduceLE, Int32.reduceToNatClampNeg, Nat.reduceMod, Nat.reduceLT, List.length_cons, List.length_nil, eq_self, true_or, or_true, and_self, implies_true, not_true_eq_false, not_false_eq_true, false_implies, true_implies, forall_const, st_aload, st_getfield, st_goto, st_iadd, st_iaload, st_iconst, st_if_icmp, st_iinc, st_iload, st_st1, st_istore, st_ixor, am_put, am_nlg, kb_Model_open_19, og_82_28, oa_82, oa_97, or_97, nk_add, nk_succ]
      exact go
    · rw [jx_Model_open_19]
      simp only [ax0, ex_cons, am_get, upz_at, true_and, and_true, Nat.reduceAdd, Nat.reduceLeDiff, Nat.reduceEqDiff, Nat.reduceSub, Int32.reduceOfInt, Int32.reduceAdd, Int32.reduceMul, Int32.reduceSub, ↓reduceIte, Int32.reduceLT, Int32.reduceLE, Int32.reduceToNatClampNeg, Nat.reduceMod, Nat.reduceLT, List.length_cons, List.length_nil, eq_self, true_or, or_true, and_self, implies_true, not_true_eq_false, not_false_eq_true, false_implies, true_implies, forall_const, st_aload, st_getfield, st_goto, st_iadd, st_iaload, st_iconst, st_if_icmp, st_iinc, st_iload, st_st1, st_ireturn, st_istore, st_ixor, am_put, am_nlg, kb_Model_open_19, og_82_28, jx_Model_open_45, kb_Model_open_45, oa_82, oa_97, or_97, show ((8 : Int32) ≤ nI (8)) = (8 ≤ 8) from nk_le (a := 8) (b := 8) (by omega) (by omega)]
      rw [show cn (fun r => !bI (F1 97) r) (32 * 8) = cn (fun r => !(hzD D hp).1 r) 256 from cn_congr (fun i hi => by rw [h1.1 i hi])]
      exact K F1 h3.pm
  · have ea : aOpen D a = -1 := by unfold aOpen; rw [e]; rfl
    rw [ea] at K
    exact K F Pm.rf
def idl (D : dT) (hp : Nat) : Nat → Nat
  | 0 => 0
  | k + 1 => if hp.testBit k && fo (hzD D (clr hp k)) (csD D k) D.2.2.2 then idl D hp k ||| 2 ^ k else idl D hp k
def aIdle (D : dT) (a : Int32) : Int32 := if hpB D.1 a then nI (idl D a.toNatClampNeg D.1) else -1
set_option maxRecDepth 20000 in
theorem mp_idle {D : dT} (hD : MK (F 84) D) {a : Int32} (K : ∀ F', Pm F F' → Q (some (.int (aIdle D a))) (ov h F' J V)) : am_cl (d + 5) 242 [.ref 82, .int a] (ov h F J V) Q := by
  simp only [ax0, ex_cons, am_get, upz_at, true_and, and_true, Nat.reduceAdd, Nat.reduceLeDiff, Nat.reduceEqDiff, Nat.reduceSub, Int32.reduceOfInt, Int32.reduceAdd, Int32.reduceMul, Int32.reduceSub, ↓reduceIte, Int32.reduceLT, Int32.reduceLE, Int32.reduceToNatClampNeg, Nat.reduceMod, Nat.reduceLT, List.length_cons, List.length_nil, eq_self, true_or, or_true, and_self, implies_true, not_true_eq_false, not_false_eq_true, false_implies, true_implies, forall_const, st_aload, st_goto, st_goto_w, st_iand, st_iconst, st_ifCond, st_iinc, st_iload, st_in1, st_in2, st_in3, st_ior, st_ireturn, st_ishl, st_istore, st_ixor, am_put, am_nlg, cx_Model_idle, kb_Model_idle_0, oo_82, jx_Model_idle_10, kb_Model_idle_10, jx_Model_idle_33, kb_Model_idle_33, jx_Model_idle_63, kb_Model_idle_63, jx_Model_idle_64, kb_Model_idle_64, jx_Model_idle_66, kb_Model_idle_66, jx_Model_idle_72, kb_Model_idle_72, oa_82]
  refine m_isHeap hD.1 hD.2.1 ?_
  simp only [ax0, ex_cons, am_get, upz_at, true_and, and_true, Nat.reduceAdd, Nat.reduceLeDiff, Nat.reduceEqDiff, Nat.reduceSub, Int32.reduceOfInt, Int32.reduceAdd, Int32.reduceMul, Int32.reduceSub, ↓reduceIte, Int32.reduceLT, Int32.reduceLE, Int32.reduceToNatClampNeg, Nat.reduceMod, Nat.reduceLT, List.length_cons, List.length_nil, eq_self, true_or, or_true, and_self, implies_true, not_true_eq_false, not_false_eq_true, false_implies, true_implies, forall_const, st_aload, st_iconst, st_ifCond, st_iload, st_in2, st_ireturn, kb_Model_idle_0, oo_82, oa_82]
  refine ifnb (fun e => ?_) (fun e => ?_)
  · obtain ⟨hp, e1, e2, e3⟩ := hpB_nI hD.2.1 e
    have ea : aIdle D a = nI (idl D hp D.1) := by unfold aIdle; rw [e, if_pos rfl, e3]
    rw [ea] at K
    rw [e1]
    simp only [ax0, ex_cons, am_get, upz_at, true_and, and_true, Nat.reduceAdd, Nat.reduceLeDiff, Nat.reduceEqDiff, Nat.reduceSub, Int32.reduceOfInt, Int32.reduceAdd, Int32.reduceMul, Int32.reduceSub, ↓reduceIte, Int32.reduceLT, Int32.reduceLE, Int32.reduceToNatClampNeg, Nat.reduceMod, Nat.reduceLT, List.length_cons, List.length_nil, eq_self, true_or, or_true, and_self, implies_true, not_true_eq_false, not_false_eq_true, false_implies, true_implies, forall_const, st_goto_w, st_iconst, st_istore, am_put, am_nlg, jx_Model_idle_10, kb_Model_idle_10]
    have h4 := hp_4096 hD.2.1 e2
    have hn := hD.2.1
    have key : ∀ j k F1, k + j = D.1 → MK (F1 84) D → Pm F F1 → am_W kc_Model_idle (am_cl (d + 4)) Q 14 [.ref 82, .int (nI hp), .int (nI (idl D hp k)), .int (nI k)] [] (ov h F1 J V) := by
      intro j
      induction j with
      | zero =>
        intro k F1 ek g1 g2
        have ek : k = D.1 := ek
        subst ek
        rw [jx_Model_idle_14]
        simp only [ax0, ex_cons, am_get, upz_at, true_and, and_true, Nat.reduceAdd, Nat.reduceLeDiff, Nat.reduceEqDiff, Nat.reduceSub, Int32.reduceOfInt, Int32.reduceAdd, Int32.reduceMul, Int32.reduceSub, ↓reduceIte, Int32.reduceLT, Int32.reduceLE, Int32.reduceToNatClampNeg, Nat.reduceMod, Nat.reduceLT, List.length_cons, List.length_nil, eq_self, true_or, or_true, and_self, implies_true, not_true_eq_false, not_false_eq_true, false_implies, true_implies, forall_const, st_aload, st_getfield, st_goto, st_iaload, st_iand, st_iconst, st_ifCond, st_if_icmp, st_iload, st_in1, st_ireturn, st_ishr, kb_Model_idle_14, oo_82, jx_Model_idle_72, kb_Model_idle_72, cx_Model_slips, kb_Model_slips_0, og_82_2, oa_82, oa_84, or_84, g1.1, (nk_le (by omega) (by omega) : (nI (D.1) ≤ nI (D.1)) = (D.1 ≤ D.1)), Nat.le_refl]
        exact K F1 g2
      | succ j ih =>
        intro k F1 ek g1 g2
        rw [jx_Model_idle_14]
        simp only [ax0, ex_cons, am_get, upz_at, true_and, and_true, Nat.reduceAdd, Nat.reduceLeDiff, Nat.reduceEqDiff, Nat.reduceSub, Int32.reduceOfInt, Int32.reduceAdd, Int32.reduceMul, Int32.reduceSub, ↓reduceIte, Int32.reduceLT, Int32.reduceLE, Int32.reduceToNatClampNeg, Nat.reduceMod, Nat.reduceLT, List.length_cons, List.length_nil, eq_self, true_or, or_true, and_self, implies_true, not_true_eq_false, not_false_eq_true, false_implies, true_implies, forall_const, st_aload, st_getfield, st_goto, st_iaload, st_iand, st_iconst, st_ifCond, st_if_icmp, st_iload, st_in1, st_ireturn, st_ishr, kb_Model_idle_14, oo_82, cx_Model_slips, kb_Model_slips_0, og_82_2, oa_82, oa_84, or_84, g1.1, (nk_le (by omega) (by omega) : (nI (D.1) ≤ nI (k)) = (D.1 ≤ k)), show ¬ D.1 ≤ k by omega, nk_bit (show hp < 2147483648 by omega) (show k < 32 by omega)]
        refine ifnb (fun e => ?_) (fun e => ?_)
        · simp only [ax0, ex_cons, am_get, upz_at, true_and, and_true, Nat.reduceAdd, Nat.reduceLeDiff, Nat.reduceEqDiff, Nat.reduceSub, Int32.reduceOfInt, Int32.reduceAdd, Int32.reduceMul, Int32.reduceSub, ↓reduceIte, Int32.reduceLT, Int32.reduceLE, Int32.reduceToNatClampNeg, Nat.reduceMod, Nat.reduceLT, List.length_cons, List.length_nil, eq_self, true_or, or_true, and_self, implies_true, not_true_eq_false, not_false_eq_true, false_implies, true_implies, forall_const, st_aload, st_goto, st_iand, st_iconst, st_ifCond, st_iload, st_in1, st_in2, st_in3, st_ishl, st_ixor, jx_Model_idle_33, kb_Model_idle_33, oo_82, oa_82, nk_1shl (show k < 32 by omega), nk_clr h4 (show k < 12 by omega)]
          refine m_heapsD g1 (Nat.lt_of_le_of_lt (clr_le hp k) e2) (fun F2 h1 h2 h3 => ?_)
          simp only [ax0, ex_cons, am_get, upz_at, true_and, and_true, Nat.reduceAdd, Nat.reduceLeDiff, Nat.reduceEqDiff, Nat.reduceSub, Int32.reduceOfInt, Int32.reduceAdd, Int32.reduceMul, Int32.reduceSub, ↓reduceIte, Int32.reduceLT, Int32.reduceLE, Int32.reduceToNatClampNeg, Nat.reduceMod, Nat.reduceLT, List.length_cons, List.length_nil, eq_self, true_or, or_true, and_self, implies_true, not_true_eq_false, not_false_eq_true, false_implies, true_implies, forall_const, st_aload, st_goto, st_iand, st_iconst, st_ifCond, st_iload, st_in1, st_in2, st_in3, st_ishl, st_ixor, jx_Model_idle_33, kb_Model_idle_33, oo_82, oa_82]
          refine m_isTold h2.2.2.2.1 ?_
          simp only [ax0, ex_cons, am_get, upz_at, true_and, and_true, Nat.reduceAdd, Nat.reduceLeDiff, Nat.reduceEqDiff, Nat.reduceSub, Int32.reduceOfInt, Int32.reduceAdd, Int32.reduceMul, Int32.reduceSub, ↓reduceIte, Int32.reduceLT, Int32.reduceLE, Int32.reduceToNatClampNeg, Nat.reduceMod, Nat.reduceLT, List.length_cons, List.length_nil, eq_self, true_or, or_true, and_self, implies_true, not_true_eq_false, not_false_eq_true, false_implies, true_implies, forall_const, st_aload, st_goto, st_iand, st_iconst, st_ifCond, st_iload, st_in1, st_in2, st_in3, st_ishl, st_ixor, jx_Model_idle_33, kb_Model_idle_33, oo_82, oa_82]
          refine m_followsOf (s := k) h1 (by have := hzD_len D (clr hp k); omega) (by omega) (h2.2.2.2.2.1 k (by omega)).2.2 (fun f => ?_)
          have go := ih (k + 1) (upz F2 100 f) (by omega) h2 (g2.tr (h3.pm.s100 f))
          unfold idl csD at go
          rw [e, Bool.true_and] at go
          simp only [ax0, ex_cons, am_get, upz_at, true_and, and_true, Nat.reduceAdd, Nat.reduceLeDiff, Nat.reduceEqDiff, Nat.reduceSub, Int32.reduceOfInt, Int32.reduceAdd, Int32.reduceMul, Int32.reduceSub, ↓reduceIte, Int32.reduceLT, Int32.reduceLE, Int32.reduceToNatClampNeg, Nat.reduceMod, Nat.reduceLT, List.length_cons, List.length_nil, eq_self, true_or, or_true, and_self, implies_true, not_true_eq_false, not_false_eq_true, false_implies, true_implies, forall_const, st_aload, st_goto, st_goto_w, st_iand, st_iconst, st_ifCond, st_iinc, st_iload, st_in1, st_in2, st_in3, st_ior, st_ishl, st_istore, st_ixor, am_put, am_nlg, jx_Model_idle_33, kb_Model_idle_33, oo_82, jx_Model_idle_63, kb_Model_idle_63, jx_Model_idle_64, kb_Model_idle_64, jx_Model_idle_66, kb_Model_idle_66, oa_82, nk_1shl (show k < 32 by omega), nk_succ]
          refine ifb (fun e5 => ?_) (fun e5 => ?_)
          · rw [e5] at go
            rw [show nI (idl D hp k) ||| (0 : Int32) = nI (idl D hp k) from Int32.or_zero]
            exact go
          · rw [e5] at go
            rw [nk_or]
            exact go
        · have go := ih (k + 1) F1 (by omega) g1 g2
          unfold idl at go
          rw [e, Bool.false_and] at go
          simp only [ax0, ex_cons, am_get, upz_at, true_and, and_true, Nat.reduceAdd, Nat.reduceLeDiff, Nat.reduceEqDiff, Nat.reduceSub, Int32.reduceOfInt, Int32.reduceAdd, Int32.reduceMul, Int32.reduceSub, ↓reduceIte, Int32.reduceLT, Int32.reduceLE, Int32.reduceToNatClampNeg, Nat.reduceMod, Nat.reduceLT, List.length_cons, List.length_nil, eq_self, true_or, or_true, and_self, implies_true, not_true_eq_false, not_false_eq_true, false_implies, true_implies, forall_const, st_goto, st_iinc, am_put, am_nlg, jx_Model_idle_66, kb_Model_idle_66, nk_succ]
          exact go
    exact key D.1 0 F (by omega) hD Pm.rf
  · have ea : aIdle D a = -1 := by unfold aIdle; rw [e]; rfl
    rw [ea] at K
    exact K F Pm.rf
end MPC
