/-! ===== the model: laysMeets ===== -/
def bt (p : Nat → Bool) : Nat → Nat
  | 0 => 0
  | k + 1 => if p k then bt p k ||| 2 ^ k else bt p k
theorem bt_lt (p : Nat → Bool) : ∀ n, bt p n < 2 ^ n
  | 0 => Nat.one_pos
  | n + 1 => by
    have := bt_lt p n
    unfold bt
    split
    · exact Nat.or_lt_two_pow (Nat.lt_of_lt_of_le this (Nat.pow_le_pow_right (by decide) (by omega))) (Nat.pow_lt_pow_right (by decide) (by omega))
    · exact Nat.lt_of_lt_of_le this (Nat.pow_le_pow_right (by decide) (by omega))
theorem bt_bit (p : Nat → Bool) : ∀ n i, (bt p n).testBit i = (decide (i < n) && p i)
  | 0, i => by show (0 : Nat).testBit i = _; rw [Nat.zero_testBit]; simp
  | n + 1, i => by
    have ih := bt_bit p n i
    unfold bt
    by_cases q : i = n
    · subst q
      rw [decide_eq_true (by omega), Bool.true_and]
      cases e : p i
      · rw [if_neg Bool.false_ne_true, ih, decide_eq_false (by omega)]; rfl
      · rw [if_pos rfl, Nat.testBit_or, Nat.testBit_two_pow_self, Bool.or_true]
    · have e1 : decide (i < n + 1) = decide (i < n) := by congr 1; exact propext ⟨fun z => by omega, fun z => by omega⟩
      rw [e1, ← ih]
      split
      · rw [Nat.testBit_or, Nat.testBit_two_pow_of_ne (by omega), Bool.or_false]
      · rfl
theorem and_pow {x : Int32} {m : Nat} (hm : m < 32) : (x &&& nI (2 ^ m) = 0) = (x.toBitVec.getLsbD m = false) := by
  refine propext ⟨fun q => ?_, fun q => ?_⟩
  · have := i32_zero.mp q m hm
    rw [Int32.toBitVec_and, BitVec.getLsbD_and, nk_tb hm, Nat.testBit_two_pow_self, Bool.and_true] at this
    exact this
  · rw [i32_zero]
    intro i hi
    rw [Int32.toBitVec_and, BitVec.getLsbD_and, nk_tb hi]
    by_cases e : i = m
    · subst e; rw [q]; rfl
    · rw [Nat.testBit_two_pow_of_ne (by omega), Bool.and_false]
def wP (T : tT) (r i : Nat) : Bool := if i < T.2.1.length then T.2.1.getD i (fun _ => false) r else T.2.2 (i - T.2.1.length) r
def mkM (T : tT) (r : Nat) : Nat := if T.1 r then 0 else bt (wP T r) (T.2.1.length + 4)
def okL (T : tT) (r : Nat) (l : List Nat) : Bool := !decide (mkM T r = 0) && l.all (fun q => !decide (andn (mkM T r) (mkM T q) = 0))
def lsM (T : tT) : Nat → List Nat
  | 0 => []
  | r + 1 => if okL T r (lsM T r) then lsM T r ++ [r] else lsM T r
theorem lsM_lt (T : tT) : ∀ n, (lsM T n).length ≤ n ∧ ∀ x ∈ lsM T n, x < n
  | 0 => ⟨Nat.le_refl _, fun x hx => (List.not_mem_nil hx).elim⟩
  | n + 1 => by
    obtain ⟨h1, h2⟩ := lsM_lt T n
    unfold lsM
    split
    · refine ⟨by rw [List.length_append]; show _ + 1 ≤ _; omega, fun x hx => ?_⟩
      rcases List.mem_append.mp hx with e | e
      · have := h2 x e; omega
      · rw [List.mem_singleton.mp e]; omega
    · exact ⟨by omega, fun x hx => by have := h2 x hx; omega⟩
theorem mkM_lt {T : tT} (hT : T.2.1.length ≤ 25) (r : Nat) : mkM T r < 1073741824 := by
  unfold mkM
  split
  · decide
  · exact Nat.lt_of_lt_of_le (bt_lt _ _) (Nat.pow_le_pow_right (by decide) (show T.2.1.length + 4 ≤ 30 by omega))
def Pz (F F' : Nat → Nat → Int32) : Prop := (∀ a, a ≠ 82 → a ≠ 101 → a ≠ 102 → F' a = F a) ∧ ∀ i, i ≠ 37 → i ≠ 39 → F' 82 i = F 82 i
theorem Pz.rf {F : Nat → Nat → Int32} : Pz F F := ⟨fun _ _ _ _ => rfl, fun _ _ _ => rfl⟩
theorem Pz.tr {F F1 F2 : Nat → Nat → Int32} (a : Pz F F1) (b : Pz F1 F2) : Pz F F2 := ⟨fun i h1 h2 h3 => (b.1 i h1 h2 h3).trans (a.1 i h1 h2 h3), fun i h1 h2 => (b.2 i h1 h2).trans (a.2 i h1 h2)⟩
theorem Pz.s101 {F : Nat → Nat → Int32} (f : Nat → Int32) : Pz F (upz F 101 f) := ⟨fun a _ h2 _ => upz_ne _ _ h2, fun i _ _ => by rw [upz_ne _ _ (by decide)]⟩
theorem MT.pz {F F' : Nat → Nat → Int32} {T : tT} (h : MT F T) (p : Pz F F') : MT F' T := by
  obtain ⟨h1, h2, h3, h4⟩ := h
  refine ⟨?_, ?_, ?_, ?_⟩
  · rw [p.1 97 (by decide) (by decide) (by decide)]; exact h1
  · rw [p.2 31 (by decide) (by decide)]; exact h2
  · rw [p.1 98 (by decide) (by decide) (by decide)]; exact h3
  · rw [p.1 99 (by decide) (by decide) (by decide)]; exact h4
section MME
variable {d : Nat} {h : am_H} {F : Nat → Nat → Int32} {J : Nat → Nat → Int64} {V : Nat → Nat → Value} {Q : am_Q}
set_option maxRecDepth 20000 in
theorem m_lmThere {T : tT} (hT : MT F T) (hl : T.2.1.length ≤ 25) {r : Nat} (hr : r < 256) {v5 : Value} (K : am_W kc_Model_laysMeets (am_cl d) Q 109 [.ref 82, .int (nI r), .int (nI (r / 32)), .int (nI (2 ^ (r % 32))), .int (nI T.2.1.length), v5] [] (ov h (upz F 101 (upz (F 101) r (nI (bt (wP T r) T.2.1.length)))) J V)) : ∀ j k, k + j = T.2.1.length → am_W kc_Model_laysMeets (am_cl d) Q 64 [.ref 82, .int (nI r), .int (nI (r / 32)), .int (nI (2 ^ (r % 32))), .int (nI k), v5] [] (ov h (upz F 101 (upz (F 101) r (nI (bt (wP T r) k)))) J V) := by
  have h31 := hT.2.1
  intro j
  induction j with
  | zero =>
    intro k ek
    have ek : k = T.2.1.length := ek
    subst ek
    rw [jx_Model_laysMeets_64]
    simp only [ax0, ex_cons, am_get, upz_at, true_and, and_true, Nat.reduceAdd, Nat.reduceLeDiff, Nat.reduceEqDiff, Nat.reduceSub, Int32.reduceOfInt, Int32.reduceAdd, Int32.reduceMul, Int32.reduceSub, ↓reduceIte, Int32.reduceLT, Int32.reduceLE, Int32.reduceToNatClampNeg, Nat.reduceMod, Nat.reduceLT, List.length_cons, List.length_nil, eq_self, true_or, or_true, and_self, implies_true, not_true_eq_false, not_false_eq_true, false_implies, true_implies, forall_const, st_aloadx, st_dup2x, st_dup2_1x, st_getfieldx, st_goto_wx, st_iaddx, st_ialoadx, st_iandx, st_iastorex, st_iconstx, st_ifCondx, st_if_icmpx, st_iloadx, st_imulx, st_iorx, st_ishlx, kb_Model_laysMeets_64, og_82_31, og_82_29, og_82_33, oa_82, oa_98, or_98, ow_98, os_98, oa_101, or_101, ow_101, os_101, h31, (nk_le (by omega) (by omega) : (nI (T.2.1.length) ≤ nI (T.2.1.length)) = (T.2.1.length ≤ T.2.1.length)), Nat.le_refl]
    exact K
  | succ j ih =>
    intro k ek
    have e1 : (F 98 (8 * k + r / 32)).toBitVec.getLsbD (r % 32) = wP T r k := by
      have := hT.2.2.1 k (by omega) r hr
      unfold bI at this
      unfold wP
      rw [if_pos (by omega)]
      exact this
    have ih := ih (k + 1) (by omega)
    unfold bt at ih
    rw [jx_Model_laysMeets_64]
    simp only [ax0, ex_cons, am_get, upz_at, true_and, and_true, Nat.reduceAdd, Nat.reduceLeDiff, Nat.reduceEqDiff, Nat.reduceSub, Int32.reduceOfInt, Int32.reduceAdd, Int32.reduceMul, Int32.reduceSub, ↓reduceIte, Int32.reduceLT, Int32.reduceLE, Int32.reduceToNatClampNeg, Nat.reduceMod, Nat.reduceLT, List.length_cons, List.length_nil, eq_self, true_or, or_true, and_self, implies_true, not_true_eq_false, not_false_eq_true, false_implies, true_implies, forall_const, st_aloadx, st_dup2x, st_dup2_1x, st_getfieldx, st_gotox, st_goto_wx, st_iaddx, st_ialoadx, st_iandx, st_iastorex, st_iconstx, st_ifCondx, st_if_icmpx, st_iincx, st_iloadx, st_imulx, st_iorx, st_ishlx, am_put, am_nlg, kb_Model_laysMeets_64, og_82_31, og_82_29, og_82_33, jx_Model_laysMeets_103, kb_Model_laysMeets_103, oa_82, oa_98, or_98, ow_98, os_98, oa_101, or_101, ow_101, os_101, h31, (nk_le (by omega) (by omega) : (nI (T.2.1.length) ≤ nI (k)) = (T.2.1.length ≤ k)), show ¬ T.2.1.length ≤ k by omega, show (8 : Int32) * nI (k) = nI (8 * (k)) from nk_mul (8) (k), show nI (8 * k) + nI (r / 32) = nI (8 * k + r / 32) from nk_add _ _, nk_neg (show 8 * k + r / 32 < 2147483648 by omega), nk_cl (show 8 * k + r / 32 < 2147483648 by omega), nk_neg (show r < 2147483648 by omega), nk_cl (show r < 2147483648 by omega), show 8 * k + r / 32 < 320 by omega, hr, and_pow (show r % 32 < 32 by omega), e1, nk_1shl (show k < 32 by omega), nk_or, upz_upd, nk_succ]
    refine And.intro (fun q => ?_) (fun q => ?_)
    · rw [q, if_neg Bool.false_ne_true] at ih; exact ih
    · rw [Bool.not_eq_false] at q
      rw [q, if_pos rfl] at ih; exact ih
set_option maxRecDepth 20000 in
theorem m_lmNames {T : tT} (hT : MT F T) (hl : T.2.1.length ≤ 25) {r : Nat} (hr : r < 256) {v5 : Value} (K : am_W kc_Model_laysMeets (am_cl d) Q 159 [.ref 82, .int (nI r), .int (nI (r / 32)), .int (nI (2 ^ (r % 32))), .int (nI 4), v5] [] (ov h (upz F 101 (upz (F 101) r (nI (bt (wP T r) (T.2.1.length + 4))))) J V)) : ∀ j k, k + j = 4 → am_W kc_Model_laysMeets (am_cl d) Q 112 [.ref 82, .int (nI r), .int (nI (r / 32)), .int (nI (2 ^ (r % 32))), .int (nI k), v5] [] (ov h (upz F 101 (upz (F 101) r (nI (bt (wP T r) (T.2.1.length + k))))) J V) := by
  have h31 := hT.2.1
  intro j
  induction j with
  | zero =>
    intro k ek
    have ek : k = 4 := ek
    subst ek
    rw [jx_Model_laysMeets_112]
    simp only [ax0, ex_cons, am_get, upz_at, true_and, and_true, Nat.reduceAdd, Nat.reduceLeDiff, Nat.reduceEqDiff, Nat.reduceSub, Int32.reduceOfInt, Int32.reduceAdd, Int32.reduceMul, Int32.reduceSub, ↓reduceIte, Int32.reduceLT, Int32.reduceLE, Int32.reduceToNatClampNeg, Nat.reduceMod, Nat.reduceLT, List.length_cons, List.length_nil, eq_self, true_or, or_true, and_self, implies_true, not_true_eq_false, not_false_eq_true, false_implies, true_implies, forall_const, st_aloadx, st_dup2x, st_dup2_1x, st_getfieldx, st_goto_wx, st_iaddx, st_ialoadx, st_iandx, st_iastorex, st_iconstx, st_ifCondx, st_if_icmpx, st_iloadx, st_imulx, st_iorx, st_ishlx, kb_Model_laysMeets_112, og_82_30, og_82_33, og_82_31, oa_82, oa_99, or_99, ow_99, os_99, oa_101, or_101, ow_101, os_101, show ((4 : Int32) ≤ nI (4)) = (4 ≤ 4) from nk_le (a := 4) (b := 4) (by omega) (by omega)]
    exact K
  | succ j ih =>
    intro k ek
    have e1 : (F 99 (8 * k + r / 32)).toBitVec.getLsbD (r % 32) = wP T r (T.2.1.length + k) := by
      have := hT.2.2.2 k (by omega) r hr
      unfold bI at this
      unfold wP
      rw [if_neg (by omega), Nat.add_sub_cancel_left]
      exact this
    have ih := ih (k + 1) (by omega)
    rw [← Nat.add_assoc] at ih
    unfold bt at ih
    rw [jx_Model_laysMeets_112]
    simp only [ax0, ex_cons, am_get, upz_at, true_and, and_true, Nat.reduceAdd, Nat.reduceLeDiff, Nat.reduceEqDiff, Nat.reduceSub, Int32.reduceOfInt, Int32.reduceAdd, Int32.reduceMul, Int32.reduceSub, ↓reduceIte, Int32.reduceLT, Int32.reduceLE, Int32.reduceToNatClampNeg, Nat.reduceMod, Nat.reduceLT, List.length_cons, List.length_nil, eq_self, true_or, or_true, and_self, implies_true, not_true_eq_false, not_false_eq_true, false_implies, true_implies, forall_const, st_aloadx, st_dup2x, st_dup2_1x, st_getfieldx, st_gotox, st_goto_wx, st_iaddx, st_ialoadx, st_iandx, st_iastorex, st_iconstx, st_ifCondx, st_if_icmpx, st_iincx, st_iloadx, st_imulx, st_iorx, st_ishlx, am_put, am_nlg, kb_Model_laysMeets_112, og_82_30, og_82_33, og_82_31, jx_Model_laysMeets_153, kb_Model_laysMeets_153, oa_82, oa_99, or_99, ow_99, os_99, oa_101, or_101, ow_101, os_101, show ((4 : Int32) ≤ nI (k)) = (4 ≤ k) from nk_le (a := 4) (b := k) (by omega) (by omega), show ¬ 4 ≤ k by omega, show (8 : Int32) * nI (k) = nI (8 * (k)) from nk_mul (8) (k), show nI (8 * k) + nI (r / 32) = nI (8 * k + r / 32) from nk_add _ _, nk_neg (show 8 * k + r / 32 < 2147483648 by omega), nk_cl (show 8 * k + r / 32 < 2147483648 by omega), nk_neg (show r < 2147483648 by omega), nk_cl (show r < 2147483648 by omega), show 8 * k + r / 32 < 32 by omega, hr, and_pow (show r % 32 < 32 by omega), e1, h31, show nI T.2.1.length + nI k = nI (T.2.1.length + k) from nk_add _ _, nk_1shl (show T.2.1.length + k < 32 by omega), nk_or, upz_upd, nk_succ]
    refine And.intro (fun q => ?_) (fun q => ?_)
    · rw [q, if_neg Bool.false_ne_true] at ih; exact ih
    · rw [Bool.not_eq_false] at q
      rw [q, if_pos rfl] at ih; exact ih
set_option maxRecDepth 20000 in
theorem m_lmDom {T : tT} (hl : T.2.1.length ≤ 25) {r : Nat} (hr : r < 256) {l : List Nat} (hll : l.length ≤ 256) (hlt : ∀ i, i < l.length → l.getD i 0 < 256) (h37 : F 82 37 = nI l.length) (h102 : ∀ i, i < l.length → F 102 i = nI (l.getD i 0)) (h101 : ∀ i, i < l.length → F 101 (l.getD i 0) = nI (mkM T (l.getD i 0))) (hr1 : F 101 r = nI (mkM T r)) {v2 v3 : Value}
    (K : ∀ v5, am_W kc_Model_laysMeets (am_cl d) Q 229 [.ref 82, .int (nI r), v2, v3, .int (b2i (okL T r l)), v5] [] (ov h F J V)) : ∀ j k (b : Bool) z3, v3 = .int z3 → k + j = l.length → b = (!decide (mkM T r = 0) && (List.range k).all (fun i => !decide (andn (mkM T r) (mkM T (l.getD i 0)) = 0))) → am_W kc_Model_laysMeets (am_cl d) Q 178 [.ref 82, .int (nI r), v2, v3, .int (b2i b), .int (nI k)] [] (ov h F J V) := by
  have eL : okL T r l = (!decide (mkM T r = 0) && (List.range l.length).all (fun i => !decide (andn (mkM T r) (mkM T (l.getD i 0)) = 0))) := by
    unfold okL
    congr 1
    rw [Bool.eq_iff_iff, List.all_eq_true, rg_all]
    constructor
    · intro g i hi
      refine g _ ?_
      rw [List.getD_eq_getElem?_getD, List.getElem?_eq_getElem hi]
      exact List.getElem_mem _
    · intro g x hx
      obtain ⟨i, hi, e⟩ := List.getElem_of_mem hx
      have := g i hi
      rw [List.getD_eq_getElem?_getD, List.getElem?_eq_getElem hi] at this
      rw [← e]; exact this
  intro j
  induction j with
  | zero =>
    intro k b z3 e3 ek hb
    have ek : k = l.length := ek
    subst ek
    rw [jx_Model_laysMeets_178]
    simp only [ax0, ex_cons, am_get, upz_at, true_and, and_true, Nat.reduceAdd, Nat.reduceLeDiff, Nat.reduceEqDiff, Nat.reduceSub, Int32.reduceOfInt, Int32.reduceAdd, Int32.reduceMul, Int32.reduceSub, ↓reduceIte, Int32.reduceLT, Int32.reduceLE, Int32.reduceToNatClampNeg, Nat.reduceMod, Nat.reduceLT, List.length_cons, List.length_nil, eq_self, true_or, or_true, and_self, implies_true, not_true_eq_false, not_false_eq_true, false_implies, true_implies, forall_const, st_aloadx, st_getfieldx, st_gotox, st_ialoadx, st_iandx, st_iconstx, st_ifCondx, st_if_icmpx, st_iloadx, st_ixorx, kb_Model_laysMeets_178, og_82_37, og_82_33, og_82_34, oa_82, oa_101, or_101, oa_102, or_102, h37, (nk_le (by omega) (by omega) : (nI (l.length) ≤ nI (l.length)) = (l.length ≤ l.length)), Nat.le_refl]
    rw [hb, ← eL]
    exact K _
  | succ j ih =>
    intro k b z3 e3 ek hb
    subst e3
    rw [jx_Model_laysMeets_178]
    simp only [ax0, ex_cons, am_get, upz_at, true_and, and_true, Nat.reduceAdd, Nat.reduceLeDiff, Nat.reduceEqDiff, Nat.reduceSub, Int32.reduceOfInt, Int32.reduceAdd, Int32.reduceMul, Int32.reduceSub, ↓reduceIte, Int32.reduceLT, Int32.reduceLE, Int32.reduceToNatClampNeg, Nat.reduceMod, Nat.reduceLT, List.length_cons, List.length_nil, eq_self, true_or, or_true, and_self, implies_true, not_true_eq_false, not_false_eq_true, false_implies, true_implies, forall_const, st_aloadx, st_getfieldx, st_gotox, st_ialoadx, st_iandx, st_iconstx, st_ifCondx, st_if_icmpx, st_iloadx, st_ixorx, kb_Model_laysMeets_178, og_82_37, og_82_33, og_82_34, oa_82, oa_101, or_101, oa_102, or_102, h37, (nk_le (by omega) (by omega) : (nI (l.length) ≤ nI (k)) = (l.length ≤ k)), show ¬ l.length ≤ k by omega]
    refine ifb (fun q => ?_) (fun q => ?_)
    · have : okL T r l = false := by
        rw [eL]
        rw [q] at hb
        cases e : decide (mkM T r = 0)
        · rw [e, Bool.not_false, Bool.true_and] at hb
          rw [Bool.not_false, Bool.true_and]
          exact all_f (by omega) hb.symm
        · rfl
      rw [this] at K
      rw [q]
      exact K _
    · rw [q] at hb
      have a1 := h102 k (by omega)
      have a2 := hlt k (by omega)
      have a3 := h101 k (by omega)
      have hm := mkM_lt hl r
      have hle := andn_le (mkM T r) (mkM T (l.getD k 0))
      simp only [ax0, ex_cons, am_get, upz_at, true_and, and_true, Nat.reduceAdd, Nat.reduceLeDiff, Nat.reduceEqDiff, Nat.reduceSub, Int32.reduceOfInt, Int32.reduceAdd, Int32.reduceMul, Int32.reduceSub, ↓reduceIte, Int32.reduceLT, Int32.reduceLE, Int32.reduceToNatClampNeg, Nat.reduceMod, Nat.reduceLT, List.length_cons, List.length_nil, eq_self, true_or, or_true, and_self, implies_true, not_true_eq_false, not_false_eq_true, false_implies, true_implies, forall_const, st_aloadx, st_getfieldx, st_gotox, st_goto_wx, st_ialoadx, st_iandx, st_iconstx, st_ifCondx, st_if_icmpx, st_iloadx, st_ixorx, kb_Model_laysMeets_178, og_82_37, og_82_33, og_82_34, jx_Model_laysMeets_220, kb_Model_laysMeets_220, oa_82, oa_101, or_101, oa_102, or_102, nk_neg (show r < 2147483648 by omega), nk_cl (show r < 2147483648 by omega), nk_neg (show k < 2147483648 by omega), nk_cl (show k < 2147483648 by omega), nk_neg (show l.getD k 0 < 2147483648 by omega), nk_cl (show l.getD k 0 < 2147483648 by omega), hr, hr1, show k < 256 by omega, a1, a2, a3, nk_andn, show (nI (andn (mkM T r) (mkM T (l.getD k 0))) = (0 : Int32)) = (andn (mkM T r) (mkM T (l.getD k 0)) = 0) from nk_eq (b := 0) (by omega) (by decide)]
      refine And.intro (fun q2 => ?_) (fun q2 => ?_)
      · simp only [ax0, ex_cons, am_get, upz_at, true_and, and_true, Nat.reduceAdd, Nat.reduceLeDiff, Nat.reduceEqDiff, Nat.reduceSub, Int32.reduceOfInt, Int32.reduceAdd, Int32.reduceMul, Int32.reduceSub, ↓reduceIte, Int32.reduceLT, Int32.reduceLE, Int32.reduceToNatClampNeg, Nat.reduceMod, Nat.reduceLT, List.length_cons, List.length_nil, eq_self, true_or, or_true, and_self, implies_true, not_true_eq_false, not_false_eq_true, false_implies, true_implies, forall_const, st_gotox, st_iincx, st_istorex, am_put, am_nlg, jx_Model_laysMeets_221, kb_Model_laysMeets_221, nk_succ]
        exact ih (k + 1) false z3 rfl (by omega) (by rw [List.range_succ, List.all_append, ← Bool.and_assoc, ← hb]; simp only [List.all_cons, List.all_nil, Bool.and_true, Bool.true_and]; rw [decide_eq_true q2]; rfl)
      · simp only [ax0, ex_cons, am_get, upz_at, true_and, and_true, Nat.reduceAdd, Nat.reduceLeDiff, Nat.reduceEqDiff, Nat.reduceSub, Int32.reduceOfInt, Int32.reduceAdd, Int32.reduceMul, Int32.reduceSub, ↓reduceIte, Int32.reduceLT, Int32.reduceLE, Int32.reduceToNatClampNeg, Nat.reduceMod, Nat.reduceLT, List.length_cons, List.length_nil, eq_self, true_or, or_true, and_self, implies_true, not_true_eq_false, not_false_eq_true, false_implies, true_implies, forall_const, st_gotox, st_iincx, st_istorex, am_put, am_nlg, jx_Model_laysMeets_221, kb_Model_laysMeets_221, nk_succ]
        exact ih (k + 1) true z3 rfl (by omega) (by rw [List.range_succ, List.all_append, ← Bool.and_assoc, ← hb]; simp only [List.all_cons, List.all_nil, Bool.and_true, Bool.true_and]; rw [decide_eq_false q2]; rfl)
set_option maxRecDepth 20000 in
theorem m_laysMeets {T : tT} (hT : MT F T) (hl : T.2.1.length ≤ 25) (K : ∀ F', Pz F F' → F' 82 39 = nI (2 ^ (T.2.1.length + 4) - 1) → RG F' (lsM T 256) (mkM T) → Q none (ov h F' J V)) : am_cl (d + 1) 258 [.ref 82] (ov h F J V) Q := by
  have h31 := hT.2.1
  simp only [ax0, ex_cons, am_get, upz_at, true_and, and_true, Nat.reduceAdd, Nat.reduceLeDiff, Nat.reduceEqDiff, Nat.reduceSub, Int32.reduceOfInt, Int32.reduceAdd, Int32.reduceMul, Int32.reduceSub, ↓reduceIte, Int32.reduceLT, Int32.reduceLE, Int32.reduceToNatClampNeg, Nat.reduceMod, Nat.reduceLT, List.length_cons, List.length_nil, eq_self, true_or, or_true, and_self, implies_true, not_true_eq_false, not_false_eq_true, false_implies, true_implies, forall_const, st_aloadx, st_getfieldx, st_goto_wx, st_iaddx, st_iconstx, st_ishlx, st_istorex, st_isubx, st_putfieldx, am_put, am_nlg, kb_Model_laysMeets_0, og_82_31, op_82_39, op_82_37, oa_82, os_82, cx_Model_laysMeets, h31, show nI T.2.1.length + (4 : Int32) = nI (T.2.1.length + 4) from nk_add _ 4, nk_1shl (show T.2.1.length + 4 < 32 by omega), nk_sb (show 1 ≤ 2 ^ (T.2.1.length + 4) from Nat.one_le_two_pow), upz_upd, upz_eq]
  have key : ∀ j r F1 v2 v3 v4 v5, r + j = 256 → Pz F F1 → F1 82 39 = nI (2 ^ (T.2.1.length + 4) - 1) → F1 82 37 = nI (lsM T r).length → (∀ i, i < (lsM T r).length → F1 102 i = nI ((lsM T r).getD i 0)) → (∀ q, q < r → F1 101 q = nI (mkM T q)) → am_W kc_Model_laysMeets (am_cl d) Q 21 [.ref 82, .int (nI r), v2, v3, v4, v5] [] (ov h F1 J V) := by
    intro j
    induction j with
    | zero =>
      intro r F1 v2 v3 v4 v5 er p1 g39 g37 g102 g101
      have er : r = 256 := er
      subst er
      rw [jx_Model_laysMeets_21]
      simp only [ax0, ex_cons, am_get, upz_at, true_and, and_true, Nat.reduceAdd, Nat.reduceLeDiff, Nat.reduceEqDiff, Nat.reduceSub, Int32.reduceOfInt, Int32.reduceAdd, Int32.reduceMul, Int32.reduceSub, ↓reduceIte, Int32.reduceLT, Int32.reduceLE, Int32.reduceToNatClampNeg, Nat.reduceMod, Nat.reduceLT, List.length_cons, List.length_nil, eq_self, true_or, or_true, and_self, implies_true, not_true_eq_false, not_false_eq_true, false_implies, true_implies, forall_const, st_aloadx, st_getfieldx, st_gotox, st_ialoadx, st_iandx, st_iastorex, st_iconstx, st_idivx, st_ifCondx, st_if_icmpx, st_iloadx, st_iremx, st_ishlx, st_istorex, st_return_x, am_put, am_nlg, kb_Model_laysMeets_21, og_82_33, og_82_28, jx_Model_laysMeets_263, kb_Model_laysMeets_263, oa_82, oa_97, or_97, ow_97, os_97, oa_101, or_101, ow_101, os_101, show ((256 : Int32) ≤ nI (256)) = (256 ≤ 256) from nk_le (a := 256) (b := 256) (by omega) (by omega)]
      obtain ⟨o1, o2⟩ := lsM_lt T 256
      refine K F1 p1 g39 ⟨g37, o1, fun i hi => ⟨g102 i hi, ?_⟩, fun q hq => ⟨g101 q hq, mkM_lt hl q⟩⟩
      rw [List.getD_eq_getElem?_getD, List.getElem?_eq_getElem hi]
      exact o2 _ (List.getElem_mem _)
    | succ j ih =>
      intro r F1 v2 v3 v4 v5 er p1 g39 g37 g102 g101
      have hT1 := hT.pz p1
      obtain ⟨o1, o2⟩ := lsM_lt T r
      have e97 : (F1 97 (r / 32)).toBitVec.getLsbD (r % 32) = T.1 r := hT1.1 r (by omega)
      have ih := fun F2 a b c e => ih (r + 1) F2 a b c e (by omega)
      unfold lsM at ih
      rw [jx_Model_laysMeets_21]
      simp only [ax0, ex_cons, am_get, upz_at, true_and, and_true, Nat.reduceAdd, Nat.reduceLeDiff, Nat.reduceEqDiff, Nat.reduceSub, Int32.reduceOfInt, Int32.reduceAdd, Int32.reduceMul, Int32.reduceSub, ↓reduceIte, Int32.reduceLT, Int32.reduceLE, Int32.reduceToNatClampNeg, Nat.reduceMod, Nat.reduceLT, List.length_cons, List.length_nil, eq_self, true_or, or_true, and_self, implies_true, not_true_eq_false, not_false_eq_true, false_implies, true_implies, forall_const, st_aloadx, st_getfieldx, st_gotox, st_ialoadx, st_iandx, st_iastorex, st_iconstx, st_idivx, st_ifCondx, st_if_icmpx, st_iloadx, st_iremx, st_ishlx, st_istorex, am_put, am_nlg, kb_Model_laysMeets_21, og_82_33, og_82_28, oa_82, oa_97, or_97, ow_97, os_97, oa_101, or_101, ow_101, os_101, show ((256 : Int32) ≤ nI (r)) = (256 ≤ r) from nk_le (a := 256) (b := r) (by omega) (by omega), show ¬ 256 ≤ r by omega, nk_neg (show r < 2147483648 by omega), nk_cl (show r < 2147483648 by omega), show r < 256 by omega, show ((32 : Int32) = 0) = False from ax_f (by decide), show nI (r) / (32 : Int32) = nI ((r) / 32) from nk_div (a := r) (b := 32) (by omega) (by decide) (by decide), show nI (r) - nI ((r) / 32) * (32 : Int32) = nI ((r) % 32) from nk_rm (a := r) (b := 32) (by omega) (by decide) (by decide), nk_1shl (show r % 32 < 32 by omega), nk_neg (show r / 32 < 2147483648 by omega), nk_cl (show r / 32 < 2147483648 by omega), show r / 32 < 8 by omega, and_pow (show r % 32 < 32 by omega), e97]
      have lt : ∀ i, i < (lsM T r).length → (lsM T r).getD i 0 < r := fun i hi => by
        rw [List.getD_eq_getElem?_getD, List.getElem?_eq_getElem hi]
        exact o2 _ (List.getElem_mem _)
      refine And.intro (fun q => ?_) (fun q => ?_)
      · simp only [ax0, ex_cons, am_get, upz_at, true_and, and_true, Nat.reduceAdd, Nat.reduceLeDiff, Nat.reduceEqDiff, Nat.reduceSub, Int32.reduceOfInt, Int32.reduceAdd, Int32.reduceMul, Int32.reduceSub, ↓reduceIte, Int32.reduceLT, Int32.reduceLE, Int32.reduceToNatClampNeg, Nat.reduceMod, Nat.reduceLT, List.length_cons, List.length_nil, eq_self, true_or, or_true, and_self, implies_true, not_true_eq_false, not_false_eq_true, false_implies, true_implies, forall_const, st_goto_wx, st_iconstx, st_istorex, am_put, am_nlg, jx_Model_laysMeets_61, kb_Model_laysMeets_61]
        refine m_lmThere hT1 hl (by omega) ?_ T.2.1.length 0 (by omega)
        simp only [ax0, ex_cons, am_get, upz_at, true_and, and_true, Nat.reduceAdd, Nat.reduceLeDiff, Nat.reduceEqDiff, Nat.reduceSub, Int32.reduceOfInt, Int32.reduceAdd, Int32.reduceMul, Int32.reduceSub, ↓reduceIte, Int32.reduceLT, Int32.reduceLE, Int32.reduceToNatClampNeg, Nat.reduceMod, Nat.reduceLT, List.length_cons, List.length_nil, eq_self, true_or, or_true, and_self, implies_true, not_true_eq_false, not_false_eq_true, false_implies, true_implies, forall_const, st_goto_wx, st_iconstx, st_istorex, am_put, am_nlg, jx_Model_laysMeets_109, kb_Model_laysMeets_109]
        refine m_lmNames hT1 hl (by omega) ?_ 4 0 (by decide)
        have em : mkM T r = bt (wP T r) (T.2.1.length + 4) := by unfold mkM; rw [q, if_neg Bool.false_ne_true]
        rw [← em]
        have hm := mkM_lt hl r
        simp only [ax0, ex_cons, am_get, upz_at, true_and, and_true, Nat.reduceAdd, Nat.reduceLeDiff, Nat.reduceEqDiff, Nat.reduceSub, Int32.reduceOfInt, Int32.reduceAdd, Int32.reduceMul, Int32.reduceSub, ↓reduceIte, Int32.reduceLT, Int32.reduceLE, Int32.reduceToNatClampNeg, Nat.reduceMod, Nat.reduceLT, List.length_cons, List.length_nil, eq_self, true_or, or_true, and_self, implies_true, not_true_eq_false, not_false_eq_true, false_implies, true_implies, forall_const, st_aloadx, st_getfieldx, st_gotox, st_goto_wx, st_ialoadx, st_iconstx, st_ifCondx, st_iloadx, jx_Model_laysMeets_159, kb_Model_laysMeets_159, og_82_33, jx_Model_laysMeets_172, kb_Model_laysMeets_172, oa_82, oa_101, or_101, nk_neg (show r < 2147483648 by omega), nk_cl (show r < 2147483648 by omega), show r < 256 by omega, show (nI (mkM T r) = (0 : Int32)) = (mkM T r = 0) from nk_eq (b := 0) (by omega) (by decide)]
        generalize eF : upz F1 101 (upz (F1 101) r (nI (mkM T r))) = F2
        have p2 : Pz F F2 := by rw [← eF]; exact p1.tr (Pz.s101 _)
        have z39 : F2 82 39 = nI (2 ^ (T.2.1.length + 4) - 1) := by rw [← eF, upz_ne _ _ (by decide)]; exact g39
        have z37 : F2 82 37 = nI (lsM T r).length := by rw [← eF, upz_ne _ _ (by decide)]; exact g37
        have z102 : ∀ i, i < (lsM T r).length → F2 102 i = nI ((lsM T r).getD i 0) := fun i hi => by rw [← eF, upz_ne _ _ (by decide)]; exact g102 i hi
        have z101 : ∀ q, q < r + 1 → F2 101 q = nI (mkM T q) := fun q hq => by
          rw [← eF, upz_eq]
          by_cases z : q = r
          · rw [z, upz_eq]
          · rw [upz_ne _ _ z]; exact g101 q (by omega)
        clear eF
        have fin : ∀ v2 v3 v5, am_W kc_Model_laysMeets (am_cl d) Q 229 [.ref 82, .int (nI r), v2, v3, .int (b2i (okL T r (lsM T r))), v5] [] (ov h F2 J V) := by
          intro v2 v3 v5
          simp only [ax0, ex_cons, am_get, upz_at, true_and, and_true, Nat.reduceAdd, Nat.reduceLeDiff, Nat.reduceEqDiff, Nat.reduceSub, Int32.reduceOfInt, Int32.reduceAdd, Int32.reduceMul, Int32.reduceSub, ↓reduceIte, Int32.reduceLT, Int32.reduceLE, Int32.reduceToNatClampNeg, Nat.reduceMod, Nat.reduceLT, List.length_cons, List.length_nil, eq_self, true_or, or_true, and_self, implies_true, not_true_eq_false, not_false_eq_true, false_implies, true_implies, forall_const, st_gotox, st_ifCondx, st_iincx, st_iloadx, am_put, am_nlg, jx_Model_laysMeets_229, kb_Model_laysMeets_229, jx_Model_laysMeets_257, kb_Model_laysMeets_257, nk_succ]
          refine ifnb (fun e => ?_) (fun e => ?_)
          · rw [e, if_pos rfl] at ih
            simp only [ax0, ex_cons, am_get, upz_at, true_and, and_true, Nat.reduceAdd, Nat.reduceLeDiff, Nat.reduceEqDiff, Nat.reduceSub, Int32.reduceOfInt, Int32.reduceAdd, Int32.reduceMul, Int32.reduceSub, ↓reduceIte, Int32.reduceLT, Int32.reduceLE, Int32.reduceToNatClampNeg, Nat.reduceMod, Nat.reduceLT, List.length_cons, List.length_nil, eq_self, true_or, or_true, and_self, implies_true, not_true_eq_false, not_false_eq_true, false_implies, true_implies, forall_const, st_aloadx, st_dupx, st_dup_1x, st_getfieldx, st_gotox, st_goto_wx, st_iaddx, st_iastorex, st_iconstx, st_iincx, st_iloadx, st_putfieldx, am_put, am_nlg, jx_Model_laysMeets_237, kb_Model_laysMeets_237, og_82_34, og_82_37, op_82_37, jx_Model_laysMeets_257, kb_Model_laysMeets_257, oa_82, os_82, oa_102, ow_102, os_102, z37, nk_neg (show (lsM T r).length < 2147483648 by omega), nk_cl (show (lsM T r).length < 2147483648 by omega), show (lsM T r).length < 256 by omega, nk_succ, upz_ne F2 _ (show (82 : Nat) ≠ 102 by decide)]
            refine ih _ _ _ _ _ (p2.tr ⟨fun a h1 h2 h3 => by rw [upz_ne _ _ h1, upz_ne _ _ h3], fun i h1 h2 => by rw [upz_eq, upz_ne _ _ h1]⟩) ?_ ?_ (fun i hi => ?_) (fun q hq => ?_)
            · rw [upz_eq, upz_ne _ _ (by decide)]; exact z39
            · rw [upz_eq, upz_eq, List.length_append]; rfl
            · rw [List.length_append] at hi
              have hi : i < (lsM T r).length + 1 := hi
              rw [upz_ne _ _ (by decide), upz_eq, gD_app]
              by_cases z : i = (lsM T r).length
              · rw [if_pos z, z, upz_eq]
              · rw [if_neg z, upz_ne _ _ z]; exact z102 i (by omega)
            · rw [upz_ne _ _ (by decide), upz_ne _ _ (by decide)]; exact z101 q hq
          · rw [e, if_neg Bool.false_ne_true] at ih
            exact ih F2 _ _ _ _ p2 z39 z37 z102 z101
        have dom := m_lmDom (F := F2) (d := d) (h := h) (J := J) (V := V) (Q := Q) hl (r := r) (by omega) (l := lsM T r) (by omega) (fun i hi => by have := lt i hi; omega) z37 z102 (fun i hi => z101 _ (by have := lt i hi; omega)) (z101 r (by omega)) (v2 := .int (nI (r / 32))) (v3 := .int (nI (2 ^ (r % 32)))) (fun v5 => fin _ _ v5) (lsM T r).length 0
        refine And.intro (fun q2 => ?_) (fun q2 => ?_)
        · simp only [ax0, ex_cons, am_get, upz_at, true_and, and_true, Nat.reduceAdd, Nat.reduceLeDiff, Nat.reduceEqDiff, Nat.reduceSub, Int32.reduceOfInt, Int32.reduceAdd, Int32.reduceMul, Int32.reduceSub, ↓reduceIte, Int32.reduceLT, Int32.reduceLE, Int32.reduceToNatClampNeg, Nat.reduceMod, Nat.reduceLT, List.length_cons, List.length_nil, eq_self, true_or, or_true, and_self, implies_true, not_true_eq_false, not_false_eq_true, false_implies, true_implies, forall_const, st_goto_wx, st_iconstx, st_istorex, am_put, am_nlg, jx_Model_laysMeets_173, kb_Model_laysMeets_173]
          exact dom false _ rfl (by omega) (by rw [decide_eq_true q2]; rfl)
        · simp only [ax0, ex_cons, am_get, upz_at, true_and, and_true, Nat.reduceAdd, Nat.reduceLeDiff, Nat.reduceEqDiff, Nat.reduceSub, Int32.reduceOfInt, Int32.reduceAdd, Int32.reduceMul, Int32.reduceSub, ↓reduceIte, Int32.reduceLT, Int32.reduceLE, Int32.reduceToNatClampNeg, Nat.reduceMod, Nat.reduceLT, List.length_cons, List.length_nil, eq_self, true_or, or_true, and_self, implies_true, not_true_eq_false, not_false_eq_true, false_implies, true_implies, forall_const, st_goto_wx, st_iconstx, st_istorex, am_put, am_nlg, jx_Model_laysMeets_173, kb_Model_laysMeets_173]
          exact dom true _ rfl (by omega) (by rw [decide_eq_false q2]; rfl)
      · rw [Bool.not_eq_false] at q
        have em : mkM T r = 0 := by unfold mkM; rw [q, if_pos rfl]
        have eo : okL T r (lsM T r) = false := by unfold okL; rw [decide_eq_true em]; rfl
        rw [eo, if_neg Bool.false_ne_true] at ih
        simp only [ax0, ex_cons, am_get, upz_at, true_and, and_true, Nat.reduceAdd, Nat.reduceLeDiff, Nat.reduceEqDiff, Nat.reduceSub, Int32.reduceOfInt, Int32.reduceAdd, Int32.reduceMul, Int32.reduceSub, ↓reduceIte, Int32.reduceLT, Int32.reduceLE, Int32.reduceToNatClampNeg, Nat.reduceMod, Nat.reduceLT, List.length_cons, List.length_nil, eq_self, true_or, or_true, and_self, implies_true, not_true_eq_false, not_false_eq_true, false_implies, true_implies, forall_const, st_gotox, st_iincx, am_put, am_nlg, jx_Model_laysMeets_257, kb_Model_laysMeets_257, nk_succ]
        refine ih _ _ _ _ _ (p1.tr (Pz.s101 _)) ?_ ?_ (fun i hi => ?_) (fun q hq => ?_)
        · rw [upz_ne _ _ (by decide)]; exact g39
        · rw [upz_ne _ _ (by decide)]; exact g37
        · rw [upz_ne _ _ (by decide)]; exact g102 i hi
        · rw [upz_eq]
          by_cases z : q = r
          · rw [z, upz_eq, em]; rfl
          · rw [upz_ne _ _ z]; exact g101 q (by omega)
  refine key 256 0 _ _ _ _ _ rfl ⟨fun a h1 _ _ => upz_ne _ _ h1, fun i h1 h2 => by rw [upz_eq, upz_ne _ _ h1, upz_ne _ _ h2]⟩ ?_ ?_ (fun i hi => absurd hi (Nat.not_lt_zero i)) (fun q hq => absurd hq (Nat.not_lt_zero q))
  · rw [upz_eq, upz_ne _ _ (by decide), upz_eq]
  · rw [upz_eq, upz_eq]; rfl
end MME
