/-! ===== the class: which wants a region meets; masks ===== -/
theorem lsb1 {x : Int64} {s : Nat} (hs : s < 64) : ((x.toUInt64 >>> ((nI s).toInt64.toUInt64 &&& Int64.toUInt64 63)).toInt64 &&& Int64.ofInt 1).toInt32 = b2i (x.toBitVec.getLsbD s) := by
  have e2 : ((nI s).toInt64.toUInt64 &&& Int64.toUInt64 63) = UInt64.ofNat s := (by decide +kernel : ∀ r : Fin 64, ((nI r.val).toInt64.toUInt64 &&& Int64.toUInt64 63) = UInt64.ofNat r.val) ⟨s, hs⟩
  have hb : ∀ i, i < 64 → ((x.toUInt64 >>> ((nI s).toInt64.toUInt64 &&& Int64.toUInt64 63)).toInt64 &&& Int64.ofInt 1).toBitVec.getLsbD i = (x.toBitVec.getLsbD (s + i) && decide (i = 0)) := fun i hi => by
    rw [← tnJ_bit, tnJ_and, Nat.testBit_and, tnJ_shr _ e2 (by omega), ← Nat.shiftRight_eq_div_pow, Nat.testBit_shiftRight, tnJ_bit]
    congr 1
    show (1 : Nat).testBit i = _
    have : (1 : Nat) = 2 ^ 0 := rfl
    rw [this]
    by_cases e : i = 0
    · subst e; rfl
    · rw [Nat.testBit_two_pow_of_ne (by omega), decide_eq_false e]
  generalize ((x.toUInt64 >>> ((nI s).toInt64.toUInt64 &&& Int64.toUInt64 63)).toInt64 &&& Int64.ofInt 1) = y at hb
  have h0 := hb 0 (by decide)
  rw [Nat.add_zero, decide_eq_true rfl, Bool.and_true] at h0
  cases e : x.toBitVec.getLsbD s
  · have : y = 0 := i64_zero.mpr (fun i hi => by
      rw [hb i hi]
      by_cases z : i = 0
      · subst z; rw [Nat.add_zero, e]; rfl
      · rw [decide_eq_false z, Bool.and_false])
    rw [this]; rfl
  · have : y = 1 := by
      apply Int64.toBitVec_inj.mp
      apply BitVec.eq_of_getLsbD_eq
      intro i hi
      rw [hb i hi]
      have e1 : (1 : Int64).toBitVec = 1#64 := rfl
      rw [e1, BitVec.getLsbD_one]
      by_cases z : i = 0
      · subst z; rw [Nat.add_zero, e]; rfl
      · rw [decide_eq_false z, Bool.and_false]; simp [z]
    rw [this]; rfl
theorem zshl (y : Int32) : (0 : Int32) <<< y = 0 := by
  apply Int32.toBitVec_inj.mp
  rw [Int32.toBitVec_shiftLeft]
  simp
theorem orb {a k : Nat} (hk : k < 32) (b : Bool) : nI a ||| b2i b <<< (nI k &&& 31) = nI (if b then a ||| 2 ^ k else a) := by
  cases b
  · show nI a ||| (0 : Int32) <<< (nI k &&& 31) = nI a
    rw [zshl, Int32.or_zero]
  · show nI a ||| (1 : Int32) <<< (nI k &&& 31) = nI (a ||| 2 ^ k)
    rw [nk_1shl hk, nk_or]
theorem pop16 : ∀ P : Fin 16, pop P.val = pcn P.val := by decide
theorem r64 {r : Nat} (hr : r < 256) : nI r >>> (6 &&& 31) = nI (r / 64) ∧ nI r &&& 63 = nI (r % 64) := (by decide +kernel : ∀ r : Fin 256, nI r.val >>> (6 &&& 31) = nI (r.val / 64) ∧ nI r.val &&& 63 = nI (r.val % 64)) ⟨r, hr⟩
section CWM
variable {d : Nat} {h : am_H} {F : Nat → Nat → Int32} {J : Nat → Nat → Int64} {V : Nat → Nat → Value} {Q : am_Q}
set_option maxRecDepth 20000 in
theorem c_countWants {T : tT} {P : Nat} (hT : TT F J 47 T P) (K : Q (some (.int (nI (wN T P)))) (ov h F J V)) : am_cl (d + 2) 154 [.ref 47] (ov h F J V) Q := by
  obtain ⟨t1, t2, t3, t4, t5, t6, t7, t8⟩ := hT
  simp only [isO_c, ax0, ex_cons, am_get, upz_at, true_and, and_true, Nat.reduceAdd, Nat.reduceLeDiff, Nat.reduceEqDiff, Nat.reduceSub, Int32.reduceOfInt, Int32.reduceAdd, Int32.reduceMul, Int32.reduceSub, ↓reduceIte, Int32.reduceLT, Int32.reduceLE, Int32.reduceToNatClampNeg, Nat.reduceMod, Nat.reduceLT, List.length_cons, List.length_nil, eq_self, true_or, or_true, and_self, implies_true, not_true_eq_false, not_false_eq_true, false_implies, true_implies, forall_const, st_aloadx, st_getfieldx, st_iaddx, st_st1, st_ireturnx, kb_Theory_countWants_0, og_47_2, og_47_4, oa_47, cx_Theory_countWants, t2, t6]
  refine c_bitCountI (show P < 4096 by omega) ?_
  rw [show pop P = pcn P from pop16 ⟨P, t7⟩]
  simp only [isO_c, ax0, ex_cons, am_get, upz_at, true_and, and_true, Nat.reduceAdd, Nat.reduceLeDiff, Nat.reduceEqDiff, Nat.reduceSub, Int32.reduceOfInt, Int32.reduceAdd, Int32.reduceMul, Int32.reduceSub, ↓reduceIte, Int32.reduceLT, Int32.reduceLE, Int32.reduceToNatClampNeg, Nat.reduceMod, Nat.reduceLT, List.length_cons, List.length_nil, eq_self, true_or, or_true, and_self, implies_true, not_true_eq_false, not_false_eq_true, false_implies, true_implies, forall_const, st_aloadx, st_getfieldx, st_iaddx, st_st1, st_ireturnx, kb_Theory_countWants_0, og_47_2, og_47_4, oa_47, nk_add]
  exact K
set_option maxRecDepth 20000 in
theorem c_wantsMet {T : tT} {P : Nat} (hT : TT F J 47 T P) {r : Nat} (hr : r < 256) (K : Q (some (.int (nI (if T.1 r then 0 else nbt T P r 4)))) (ov h F J V)) : am_cl (d + 2) 155 [.ref 47, .int (nI r)] (ov h F J V) Q := by
  obtain ⟨t1, t2, t3, t4, t5, t6, t7, t8⟩ := hT
  obtain ⟨q1, q2⟩ := r64 hr
  simp only [isO_c, ax0, ex_cons, am_get, upz_at, true_and, and_true, Nat.reduceAdd, Nat.reduceLeDiff, Nat.reduceEqDiff, Nat.reduceSub, Int32.reduceOfInt, Int32.reduceAdd, Int32.reduceMul, Int32.reduceSub, ↓reduceIte, Int32.reduceLT, Int32.reduceLE, Int32.reduceToNatClampNeg, Nat.reduceMod, Nat.reduceLT, List.length_cons, List.length_nil, eq_self, true_or, or_true, and_self, implies_true, not_true_eq_false, not_false_eq_true, false_implies, true_implies, forall_const, st_aloadx, st_getfieldx, st_iconstx, st_ifCondx, st_iloadx, st_st2, st_ireturnx, kb_Theory_wantsMet_0, og_47_0, oa_47, oa_48, cx_Theory_wantsMet]
  refine c_isIn (a := 48) (f := J 48) oa_48 hr ?_
  rw [show bJ (J 48) r = !T.1 r from t1 r hr]
  cases e : T.1 r
  · rw [e, if_neg Bool.false_ne_true] at K
    simp only [isO_c, ax0, ex_cons, am_get, upz_at, true_and, and_true, Nat.reduceAdd, Nat.reduceLeDiff, Nat.reduceEqDiff, Nat.reduceSub, Int32.reduceOfInt, Int32.reduceAdd, Int32.reduceMul, Int32.reduceSub, ↓reduceIte, Int32.reduceLT, Int32.reduceLE, Int32.reduceToNatClampNeg, Nat.reduceMod, Nat.reduceLT, List.length_cons, List.length_nil, eq_self, true_or, or_true, and_self, implies_true, not_true_eq_false, not_false_eq_true, false_implies, true_implies, forall_const, st_aloadx, st_getfieldx, st_goto_wx, st_iandx, st_iconstx, st_ifCondx, st_iloadx, st_st2, st_ireturnx, st_ishrx, st_istorex, am_put, am_nlg, kb_Theory_wantsMet_0, og_47_0, jx_Theory_wantsMet_13, kb_Theory_wantsMet_13, oa_47, oa_48, show b2i (!false) = (1 : Int32) from rfl, q1, q2]
    have nm : ∀ j k, k + j = 4 → am_W kc_Theory_wantsMet (am_cl (d + 1)) Q 77 [.ref 47, .int (nI r), .int (nI (r / 64)), .int (nI (r % 64)), .int (nI (nbt T P r k)), .int (nI (T.2.1.length + cn (bP P) k)), .int (nI k)] [] (ov h F J V) := by
      intro j
      induction j with
      | zero =>
        intro k ek
        have ek : k = 4 := ek
        subst ek
        rw [jx_Theory_wantsMet_77]
        simp only [isO_c, ax0, ex_cons, am_get, upz_at, true_and, and_true, Nat.reduceAdd, Nat.reduceLeDiff, Nat.reduceEqDiff, Nat.reduceSub, Int32.reduceOfInt, Int32.reduceAdd, Int32.reduceMul, Int32.reduceSub, ↓reduceIte, Int32.reduceLT, Int32.reduceLE, Int32.reduceToNatClampNeg, Nat.reduceMod, Nat.reduceLT, List.length_cons, List.length_nil, eq_self, true_or, or_true, and_self, implies_true, not_true_eq_false, not_false_eq_true, false_implies, true_implies, forall_const, st_aloadx, st_bipushx, st_getfieldx, st_goto_wx, st_iaddx, st_iandx, st_iconstx, st_ifCondx, st_if_icmpx, st_iincx, st_iloadx, st_imulx, st_iorx, st_ireturnx, st_ishlx, st_istorex, st_l2ix, st_laloadx, st_landx, st_lushrx, am_put, am_nlg, kb_Theory_wantsMet_77, og_47_4, og_47_3, jx_Theory_wantsMet_128, kb_Theory_wantsMet_128, oa_47, oa_50, or_50, show ((4 : Int32) ≤ nI (4)) = (4 ≤ 4) from nk_le (a := 4) (b := 4) (by omega) (by omega), Nat.le_refl]
        exact K
      | succ j ih =>
        intro k ek
        have ih := ih (k + 1) (by omega)
        have hc : cn (bP P) k ≤ k := cn_le _ _
        have hb : (J 50 (k * 4 + r / 64)).toBitVec.getLsbD (r % 64) = T.2.2 k r := by
          have := t5 k (by omega) r hr
          unfold bJ at this
          rw [Nat.mul_comm k 4]
          exact this
        rw [jx_Theory_wantsMet_77]
        simp only [isO_c, ax0, ex_cons, am_get, upz_at, true_and, and_true, Nat.reduceAdd, Nat.reduceLeDiff, Nat.reduceEqDiff, Nat.reduceSub, Int32.reduceOfInt, Int32.reduceAdd, Int32.reduceMul, Int32.reduceSub, ↓reduceIte, Int32.reduceLT, Int32.reduceLE, Int32.reduceToNatClampNeg, Nat.reduceMod, Nat.reduceLT, List.length_cons, List.length_nil, eq_self, true_or, or_true, and_self, implies_true, not_true_eq_false, not_false_eq_true, false_implies, true_implies, forall_const, st_aloadx, st_bipushx, st_getfieldx, st_gotox, st_goto_wx, st_iaddx, st_iandx, st_iconstx, st_ifCondx, st_if_icmpx, st_iincx, st_iloadx, st_imulx, st_iorx, st_ishlx, st_istorex, st_l2ix, st_laloadx, st_landx, st_lushrx, am_put, am_nlg, kb_Theory_wantsMet_77, og_47_4, og_47_3, jx_Theory_wantsMet_122, kb_Theory_wantsMet_122, oa_47, oa_50, or_50, show ((4 : Int32) ≤ nI (k)) = (4 ≤ k) from nk_le (a := 4) (b := k) (by omega) (by omega), show ¬ 4 ≤ k by omega, t6, nk_1shl (show k < 32 by omega), bit_and (show k < 32 by omega), show nI k * (4 : Int32) = nI (k * 4) from nk_mul k 4, show nI (k * 4) + nI (r / 64) = nI (k * 4 + r / 64) from nk_add _ _, nk_neg (show k * 4 + r / 64 < 2147483648 by omega), nk_cl (show k * 4 + r / 64 < 2147483648 by omega), show k * 4 + r / 64 < 16 by omega, lsb1 (show r % 64 < 64 by omega), hb, orb (show T.2.1.length + cn (bP P) k < 32 by omega), nk_succ]
        refine ⟨fun w => ?_, fun w => ?_⟩
        · have w : bP P k = false := w
          unfold nbt at ih
          rw [cn_f w, w, Bool.false_and, if_neg Bool.false_ne_true] at ih
          exact ih
        · rw [Bool.not_eq_false] at w
          have w : bP P k = true := w
          unfold nbt at ih
          rw [cn_t w, w, Bool.true_and] at ih
          exact ih
    have th : ∀ j k v6, k + j = T.2.1.length → am_W kc_Theory_wantsMet (am_cl (d + 1)) Q 29 [.ref 47, .int (nI r), .int (nI (r / 64)), .int (nI (r % 64)), .int (nI (bt (thB T r) k)), .int (nI k), v6] [] (ov h F J V) := by
      intro j
      induction j with
      | zero =>
        intro k v6 ek
        have ek : k = T.2.1.length := ek
        subst ek
        rw [jx_Theory_wantsMet_29]
        simp only [isO_c, ax0, ex_cons, am_get, upz_at, true_and, and_true, Nat.reduceAdd, Nat.reduceLeDiff, Nat.reduceEqDiff, Nat.reduceSub, Int32.reduceOfInt, Int32.reduceAdd, Int32.reduceMul, Int32.reduceSub, ↓reduceIte, Int32.reduceLT, Int32.reduceLE, Int32.reduceToNatClampNeg, Nat.reduceMod, Nat.reduceLT, List.length_cons, List.length_nil, eq_self, true_or, or_true, and_self, implies_true, not_true_eq_false, not_false_eq_true, false_implies, true_implies, forall_const, st_aloadx, st_bipushx, st_getfieldx, st_gotox, st_goto_wx, st_iaddx, st_iconstx, st_if_icmpx, st_iincx, st_iloadx, st_imulx, st_iorx, st_ishlx, st_istorex, st_l2ix, st_laloadx, st_landx, st_lushrx, am_put, am_nlg, kb_Theory_wantsMet_29, og_47_2, og_47_1, jx_Theory_wantsMet_68, kb_Theory_wantsMet_68, oa_47, oa_49, or_49, t2, (nk_le (by omega) (by omega) : (nI (T.2.1.length) ≤ nI (T.2.1.length)) = (T.2.1.length ≤ T.2.1.length)), Nat.le_refl]
        exact nm 4 0 rfl
      | succ j ih =>
        intro k v6 ek
        have ih := ih (k + 1) v6 (by omega)
        have hb : (J 49 (k * 4 + r / 64)).toBitVec.getLsbD (r % 64) = thB T r k := by
          have := t4 k (by omega) r hr
          unfold bJ at this
          rw [Nat.mul_comm k 4]
          exact this
        rw [jx_Theory_wantsMet_29]
        simp only [isO_c, ax0, ex_cons, am_get, upz_at, true_and, and_true, Nat.reduceAdd, Nat.reduceLeDiff, Nat.reduceEqDiff, Nat.reduceSub, Int32.reduceOfInt, Int32.reduceAdd, Int32.reduceMul, Int32.reduceSub, ↓reduceIte, Int32.reduceLT, Int32.reduceLE, Int32.reduceToNatClampNeg, Nat.reduceMod, Nat.reduceLT, List.length_cons, List.length_nil, eq_self, true_or, or_true, and_self, implies_true, not_true_eq_false, not_false_eq_true, false_implies, true_implies, forall_const, st_aloadx, st_bipushx, st_getfieldx, st_gotox, st_iaddx, st_iconstx, st_if_icmpx, st_iincx, st_iloadx, st_imulx, st_iorx, st_ishlx, st_istorex, st_l2ix, st_laloadx, st_landx, st_lushrx, am_put, am_nlg, kb_Theory_wantsMet_29, og_47_2, og_47_1, oa_47, oa_49, or_49, t2, (nk_le (by omega) (by omega) : (nI (T.2.1.length) ≤ nI (k)) = (T.2.1.length ≤ k)), show ¬ T.2.1.length ≤ k by omega, show nI k * (4 : Int32) = nI (k * 4) from nk_mul k 4, show nI (k * 4) + nI (r / 64) = nI (k * 4 + r / 64) from nk_add _ _, nk_neg (show k * 4 + r / 64 < 2147483648 by omega), nk_cl (show k * 4 + r / 64 < 2147483648 by omega), show k * 4 + r / 64 < 52 by omega, lsb1 (show r % 64 < 64 by omega), hb, orb (show k < 32 by omega), nk_succ]
        exact ih
    exact th T.2.1.length 0 _ (by omega)
  · rw [e, if_pos rfl] at K
    simp only [isO_c, ax0, ex_cons, am_get, upz_at, true_and, and_true, Nat.reduceAdd, Nat.reduceLeDiff, Nat.reduceEqDiff, Nat.reduceSub, Int32.reduceOfInt, Int32.reduceAdd, Int32.reduceMul, Int32.reduceSub, ↓reduceIte, Int32.reduceLT, Int32.reduceLE, Int32.reduceToNatClampNeg, Nat.reduceMod, Nat.reduceLT, List.length_cons, List.length_nil, eq_self, true_or, or_true, and_self, implies_true, not_true_eq_false, not_false_eq_true, false_implies, true_implies, forall_const, st_aloadx, st_getfieldx, st_iconstx, st_ifCondx, st_iloadx, st_st2, st_ireturnx, kb_Theory_wantsMet_0, og_47_0, oa_47, oa_48, show b2i (!true) = (0 : Int32) from rfl]
    exact K
end CWM
/-! the masks that are noted -/
theorem andn_0 {a b : Nat} : andn a b = 0 ↔ ∀ k, a.testBit k = true → b.testBit k = true := by
  constructor
  · intro h k hk
    have : (andn a b).testBit k = false := by rw [h, Nat.zero_testBit]
    rw [andn_bit, hk] at this
    cases e : b.testBit k
    · rw [e] at this; cases this
    · rfl
  · intro h
    apply Nat.eq_of_testBit_eq
    intro k
    rw [andn_bit, Nat.zero_testBit]
    cases e : a.testBit k
    · rfl
    · rw [h k e]; rfl
theorem andn_tr {a b c : Nat} (h1 : andn a b = 0) (h2 : andn b c = 0) : andn a c = 0 := andn_0.mpr (fun k hk => andn_0.mp h2 k (andn_0.mp h1 k hk))
def MkS (n : Nat) (f : Nat → Int32) (T : tT) (P g : Nat) : Prop := n ≤ g ∧ (∀ j, j < n → ∃ x, x ∈ msA T P ∧ f j = nI x) ∧ ∀ r, r < g → cm T P r ≠ 0 → ∃ j x, j < n ∧ x ∈ msA T P ∧ f j = nI x ∧ andn (cm T P r) x = 0
theorem msA_lt {T : tT} {P x : Nat} (hw : wN1 T P ≤ 13) (h : x ∈ msA T P) : x < 8192 := by
  obtain ⟨r, _, e⟩ := msA_mem.mp h
  rw [← e]
  exact Nat.lt_of_lt_of_le cm_lt (Nat.pow_le_pow_right (by decide) hw : 2 ^ wN1 T P ≤ 2 ^ 13)
section CNM
variable {d : Nat} {h : am_H} {F : Nat → Nat → Int32} {J : Nat → Nat → Int64} {V : Nat → Nat → Value} {Q : am_Q}
set_option maxRecDepth 20000 in
theorem c_noteMask {T : tT} {P g n : Nat} (hw : wN1 T P ≤ 13) (hg : g < 256) (h4 : F 55 4 = nI n) (hM : MkS n (F 58) T P g) (K : ∀ F' n', (∀ x, x ≠ 55 → x ≠ 58 → F' x = F x) → (∀ i, i ≠ 4 → F' 55 i = F 55 i) → F' 55 4 = nI n' → MkS n' (F' 58) T P (g + 1) → Q none (ov h F' J V)) : am_cl (d + 1) 80 [.ref 55, .int (nI (cm T P g))] (ov h F J V) Q := by
  obtain ⟨m1, m2, m3⟩ := hM
  have mg : cm T P g ∈ msA T P := msA_mem.mpr ⟨g, hg, rfl⟩
  have lg := msA_lt hw mg
  simp only [isO_c, ax0, ex_cons, am_get, upz_at, true_and, and_true, Nat.reduceAdd, Nat.reduceLeDiff, Nat.reduceEqDiff, Nat.reduceSub, Int32.reduceOfInt, Int32.reduceAdd, Int32.reduceMul, Int32.reduceSub, ↓reduceIte, Int32.reduceLT, Int32.reduceLE, Int32.reduceToNatClampNeg, Nat.reduceMod, Nat.reduceLT, List.length_cons, List.length_nil, eq_self, true_or, or_true, and_self, implies_true, not_true_eq_false, not_false_eq_true, false_implies, true_implies, forall_const, st_goto_wx, st_iconstx, st_ifCondx, st_iloadx, st_istorex, st_return_x, am_put, am_nlg, kb_Denial_noteMask_0, jx_Denial_noteMask_5, kb_Denial_noteMask_5, cx_Denial_noteMask, show (nI (cm T P g) = (0 : Int32)) = (cm T P g = 0) from nk_eq (b := 0) (by omega) (by decide)]
  have key : ∀ j i s f1, i + j = n → s ≤ i → (∀ k, s ≤ k → f1 k = F 58 k) → (∀ k, k < s → ∃ x, x ∈ msA T P ∧ f1 k = nI x) → (∀ k, k < i → (∃ k', k' < s ∧ f1 k' = F 58 k) ∨ ∃ x, F 58 k = nI x ∧ x ∈ msA T P ∧ andn x (cm T P g) = 0) → am_W kc_Denial_noteMask (am_cl d) Q 9 [.ref 55, .int (nI (cm T P g)), .int (nI s), .int (nI i)] [] (ov h (upz F 58 f1) J V) := by
    intro j
    induction j with
    | zero =>
      intro i s f1 ei hs a1 a2 a3
      have ei : i = n := ei
      have f4 : upz F 58 f1 55 4 = nI n := by rw [upz_ne _ _ (by decide)]; exact h4
      rw [jx_Denial_noteMask_9]
      simp only [isO_c, ax0, ex_cons, am_get, upz_at, true_and, and_true, Nat.reduceAdd, Nat.reduceLeDiff, Nat.reduceEqDiff, Nat.reduceSub, Int32.reduceOfInt, Int32.reduceAdd, Int32.reduceMul, Int32.reduceSub, ↓reduceIte, Int32.reduceLT, Int32.reduceLE, Int32.reduceToNatClampNeg, Nat.reduceMod, Nat.reduceLT, List.length_cons, List.length_nil, eq_self, true_or, or_true, and_self, implies_true, not_true_eq_false, not_false_eq_true, false_implies, true_implies, forall_const, st_aloadx, st_getfieldx, st_goto_wx, st_ialoadx, st_iandx, st_iastorex, st_iconstx, st_ifCondx, st_if_icmpx, st_iincx, st_iloadx, st_ixorx, st_putfieldx, st_return_x, am_put, am_nlg, kb_Denial_noteMask_9, og_55_4, og_55_3, jx_Denial_noteMask_65, kb_Denial_noteMask_65, jx_Denial_noteMask_82, kb_Denial_noteMask_82, op_55_4, oa_55, os_55, oa_58, or_58, ow_58, os_58, h4, (nk_le (by omega) (by omega) : (nI (n) ≤ nI (i)) = (n ≤ i)), show n ≤ i by omega, show ((256 : Int32) ≤ nI (s)) = (256 ≤ s) from nk_le (a := 256) (b := s) (by omega) (by omega), show ¬ 256 ≤ s by omega, nk_neg (show s < 2147483648 by omega), nk_cl (show s < 2147483648 by omega), show s < 256 by omega, upz_eq, upz_upd, nk_succ]
      refine K _ (s + 1) (fun x x1 x2 => by rw [upz_ne _ _ x1, upz_ne _ _ x2]) (fun i hi => by rw [upz_eq, upz_ne _ _ hi]) (by rw [upz_eq, upz_eq]) ?_
      rw [upz_ne _ _ (by decide), upz_eq]
      refine ⟨by omega, fun k hk => ?_, fun r hr hn => ?_⟩
      · by_cases e : k = s
        · rw [e, upz_eq]; exact ⟨_, mg, rfl⟩
        · rw [upz_ne _ _ e]; exact a2 k (by omega)
      · by_cases e : r = g
        · refine ⟨s, cm T P g, by omega, mg, by rw [upz_eq], ?_⟩
          rw [e]; exact andn_0.mpr (fun k hk => hk)
        · obtain ⟨k, x, k1, k2, k3, k4⟩ := m3 r (by omega) hn
          rcases a3 k (by omega) with ⟨k', b1, b2⟩ | ⟨y, b1, b2, b3⟩
          · exact ⟨k', x, by omega, k2, by rw [upz_ne _ _ (by omega), b2]; exact k3, k4⟩
          · have exy : y = x := by
              have ly := msA_lt hw b2
              have lx := msA_lt hw k2
              rw [b1, nk_eq (by omega) (by omega)] at k3
              exact k3
            rw [exy] at b3
            exact ⟨s, cm T P g, by omega, mg, by rw [upz_eq], andn_tr k4 b3⟩
    | succ j ih =>
      intro i s f1 ei hs a1 a2 a3
      have f4 : upz F 58 f1 55 4 = nI n := by rw [upz_ne _ _ (by decide)]; exact h4
      obtain ⟨x, x1, x2⟩ := m2 i (by omega)
      have lx := msA_lt hw x1
      have fi : f1 i = nI x := by rw [a1 i hs]; exact x2
      have l1 := andn_le (cm T P g) x
      have l2 := andn_le x (cm T P g)
      rw [jx_Denial_noteMask_9]
      simp only [isO_c, ax0, ex_cons, am_get, upz_at, true_and, and_true, Nat.reduceAdd, Nat.reduceLeDiff, Nat.reduceEqDiff, Nat.reduceSub, Int32.reduceOfInt, Int32.reduceAdd, Int32.reduceMul, Int32.reduceSub, ↓reduceIte, Int32.reduceLT, Int32.reduceLE, Int32.reduceToNatClampNeg, Nat.reduceMod, Nat.reduceLT, List.length_cons, List.length_nil, eq_self, true_or, or_true, and_self, implies_true, not_true_eq_false, not_false_eq_true, false_implies, true_implies, forall_const, st_aloadx, st_getfieldx, st_gotox, st_goto_wx, st_ialoadx, st_iandx, st_iastorex, st_iconstx, st_ifCondx, st_if_icmpx, st_iincx, st_iloadx, st_ixorx, st_return_x, am_put, am_nlg, kb_Denial_noteMask_9, og_55_4, og_55_3, jx_Denial_noteMask_31, kb_Denial_noteMask_31, jx_Denial_noteMask_59, kb_Denial_noteMask_59, oa_55, oa_58, or_58, ow_58, os_58, h4, (nk_le (by omega) (by omega) : (nI (n) ≤ nI (i)) = (n ≤ i)), show ¬ n ≤ i by omega, nk_neg (show i < 2147483648 by omega), nk_cl (show i < 2147483648 by omega), show i < 256 by omega, upz_eq, fi, nk_andn, show (nI (andn (cm T P g) x) = (0 : Int32)) = (andn (cm T P g) x = 0) from nk_eq (b := 0) (by omega) (by decide), show (nI (andn x (cm T P g)) = (0 : Int32)) = (andn x (cm T P g) = 0) from nk_eq (b := 0) (by omega) (by decide), nk_neg (show s < 2147483648 by omega), nk_cl (show s < 2147483648 by omega), show s < 256 by omega, upz_upd, nk_succ]
      refine ⟨fun w => ⟨fun y => ?_, fun y => ?_⟩, fun w => ?_⟩
      · refine ih (i + 1) s f1 (by omega) (by omega) a1 a2 (fun k hk => ?_)
        by_cases e : k = i
        · rw [e]; exact Or.inr ⟨x, x2, x1, y⟩
        · exact a3 k (by omega)
      · refine ih (i + 1) (s + 1) _ (by omega) (by omega) (fun k hk => by rw [upz_ne _ _ (by omega)]; exact a1 k (by omega)) (fun k hk => ?_) (fun k hk => ?_)
        · by_cases e : k = s
          · rw [e, upz_eq]; exact ⟨x, x1, rfl⟩
          · rw [upz_ne _ _ e]; exact a2 k (by omega)
        · by_cases e : k = i
          · rw [e]; exact Or.inl ⟨s, by omega, by rw [upz_eq, x2]⟩
          · rcases a3 k (by omega) with ⟨k', b1, b2⟩ | b
            · exact Or.inl ⟨k', by omega, by rw [upz_ne _ _ (by omega)]; exact b2⟩
            · exact Or.inr b
      · have w := Classical.not_not.mp w
        refine K _ n (fun x x1 x2 => upz_ne _ _ x2) (fun i hi => by rw [upz_ne _ _ (by decide)]) f4 ?_
        rw [upz_eq]
        refine ⟨by omega, fun k hk => ?_, fun r hr hn => ?_⟩
        · by_cases e : k < s
          · exact a2 k e
          · rw [a1 k (by omega)]; exact m2 k hk
        · by_cases e : r = g
          · exact ⟨i, x, by omega, x1, fi, by rw [e]; exact w⟩
          · obtain ⟨k, z, k1, k2, k3, k4⟩ := m3 r (by omega) hn
            by_cases ki : k < i
            · rcases a3 k ki with ⟨k', b1, b2⟩ | ⟨y, b1, b2, b3⟩
              · exact ⟨k', z, by omega, k2, by rw [b2]; exact k3, k4⟩
              · have eyz : y = z := by
                  have ly := msA_lt hw b2
                  have lz := msA_lt hw k2
                  rw [b1, nk_eq (by omega) (by omega)] at k3
                  exact k3
                rw [eyz] at b3
                exact ⟨i, x, by omega, x1, fi, andn_tr (andn_tr k4 b3) w⟩
            · exact ⟨k, z, k1, k2, by rw [a1 k (by omega)]; exact k3, k4⟩
  refine ⟨fun w => ?_, fun w => ?_⟩
  · have := key n 0 0 (F 58) (by omega) (Nat.le_refl _) (fun _ _ => rfl) (fun k hk => absurd hk (Nat.not_lt_zero k)) (fun k hk => absurd hk (Nat.not_lt_zero k))
    rw [upz_self] at this
    exact this
  · have w := Classical.not_not.mp w
    refine K F n (fun _ _ _ => rfl) (fun _ _ => rfl) h4 ⟨by omega, m2, fun r hr hn => ?_⟩
    by_cases e : r = g
    · rw [e] at hn; exact absurd w hn
    · exact m3 r (by omega) hn
end CNM
