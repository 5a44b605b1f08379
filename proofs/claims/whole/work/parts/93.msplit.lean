/-! ===== the model: splits ===== -/
/-- tokens as the model has them -/
def TKr (F : Nat → Nat → Int32) (n : Nat) (L : List (Nat × Nat)) : Prop := F 82 13 = nI L.length ∧ ∀ k, k ≤ L.length → F 90 k = nI (cdL L k) ∧ F 92 k = nI (plL n L k)
/-- splits changes the token rows alone -/
def Ps (F F' : Nat → Nat → Int32) : Prop := (∀ a, a ≠ 82 → a ≠ 90 → a ≠ 91 → a ≠ 92 → F' a = F a) ∧ ∀ i, i ≠ 13 → F' 82 i = F 82 i
theorem Ps.rf {F : Nat → Nat → Int32} : Ps F F := ⟨fun _ _ _ _ _ => rfl, fun _ _ => rfl⟩
theorem Ps.tr {F F1 F2 : Nat → Nat → Int32} (a : Ps F F1) (b : Ps F1 F2) : Ps F F2 := ⟨fun i h1 h2 h3 h4 => (b.1 i h1 h2 h3 h4).trans (a.1 i h1 h2 h3 h4), fun i hi => (b.2 i hi).trans (a.2 i hi)⟩
theorem cdL_app {l r : List (Nat × Nat)} {k : Nat} (h : k < l.length) : cdL (l ++ r) k = cdL l k := by
  unfold cdL
  rw [List.getD_eq_getElem?_getD, List.getD_eq_getElem?_getD, List.getElem?_append_left h]
theorem plL_app {n : Nat} {l r : List (Nat × Nat)} {k : Nat} (h : k < l.length) : plL n (l ++ r) k = plL n l k := by
  unfold plL
  rw [List.getD_eq_getElem?_getD, List.getD_eq_getElem?_getD, List.getElem?_append_left h]
theorem cdL_one {l : List (Nat × Nat)} {x : Nat × Nat} : cdL (l ++ [x]) l.length = x.2 := by
  unfold cdL
  rw [List.getD_eq_getElem?_getD, List.getElem?_append_right (Nat.le_refl _), Nat.sub_self]; rfl
theorem plL_one {n : Nat} {l : List (Nat × Nat)} {x : Nat × Nat} : plL n (l ++ [x]) l.length = x.1 := by
  unfold plL
  rw [List.getD_eq_getElem?_getD, List.getElem?_append_right (Nat.le_refl _), Nat.sub_self]; rfl
/-- tokens so far -/
def TKs (F : Nat → Nat → Int32) (n : Nat) (l : List (Nat × Nat)) : Prop := F 82 13 = nI l.length ∧ ∀ k, k < l.length → F 90 k = nI (cdL l k) ∧ F 92 k = nI (plL n l k)
section MSP
variable {d : Nat} {h : am_H} {F : Nat → Nat → Int32} {J : Nat → Nat → Int64} {V : Nat → Nat → Value} {Q : am_Q}
set_option maxRecDepth 20000 in
theorem m_runS {n : Nat} (hn : n ≤ 400) {t : Nat → Int32} (ht : ∀ i, i < n → F 88 i = t i) {v2 v5 : Value} {b : Int32} : ∀ f q, n - q ≤ f → q ≤ n → am_W kc_Model_splits (am_cl (d + 2)) Q 68 [.ref 82, .int (nI n), v2, .int b, .int (nI (rnF sml t n f q)), v5] [] (ov h F J V) → am_W kc_Model_splits (am_cl (d + 2)) Q 43 [.ref 82, .int (nI n), v2, .int b, .int (nI q), v5] [] (ov h F J V) := by
  intro f
  induction f with
  | zero =>
    intro q hf hq K
    rw [jx_Model_splits_43]
    simp only [ax0, ex_cons, am_get, upz_at, true_and, and_true, Nat.reduceAdd, Nat.reduceLeDiff, Nat.reduceEqDiff, Nat.reduceSub, Int32.reduceOfInt, Int32.reduceAdd, Int32.reduceMul, Int32.reduceSub, ↓reduceIte, Int32.reduceLT, Int32.reduceLE, Int32.reduceToNatClampNeg, Nat.reduceMod, Nat.reduceLT, List.length_cons, List.length_nil, eq_self, true_or, or_true, and_self, implies_true, not_true_eq_false, not_false_eq_true, false_implies, true_implies, forall_const, st_aloadx, st_baloadx, st_getfieldx, st_gotox, st_ifCondx, st_if_icmpx, st_iincx, st_iloadx, st_st1, am_put, am_nlg, kb_Model_splits_43, og_82_6, oa_82, oa_88, or_88, (nk_le (by omega) (by omega) : (nI (n) ≤ nI (q)) = (n ≤ q)), show n ≤ q by omega]
    exact K
  | succ f ih =>
    intro q hf hq K
    unfold rnF at K
    rw [jx_Model_splits_43]
    by_cases g : n ≤ q
    · rw [decide_eq_false (by omega), Bool.false_and, if_neg Bool.false_ne_true] at K
      simp only [ax0, ex_cons, am_get, upz_at, true_and, and_true, Nat.reduceAdd, Nat.reduceLeDiff, Nat.reduceEqDiff, Nat.reduceSub, Int32.reduceOfInt, Int32.reduceAdd, Int32.reduceMul, Int32.reduceSub, ↓reduceIte, Int32.reduceLT, Int32.reduceLE, Int32.reduceToNatClampNeg, Nat.reduceMod, Nat.reduceLT, List.length_cons, List.length_nil, eq_self, true_or, or_true, and_self, implies_true, not_true_eq_false, not_false_eq_true, false_implies, true_implies, forall_const, st_aloadx, st_baloadx, st_getfieldx, st_gotox, st_ifCondx, st_if_icmpx, st_iincx, st_iloadx, st_st1, am_put, am_nlg, kb_Model_splits_43, og_82_6, oa_82, oa_88, or_88, (nk_le (by omega) (by omega) : (nI (n) ≤ nI (q)) = (n ≤ q)), g]
      exact K
    · rw [decide_eq_true (by omega), Bool.true_and] at K
      simp only [ax0, ex_cons, am_get, upz_at, true_and, and_true, Nat.reduceAdd, Nat.reduceLeDiff, Nat.reduceEqDiff, Nat.reduceSub, Int32.reduceOfInt, Int32.reduceAdd, Int32.reduceMul, Int32.reduceSub, ↓reduceIte, Int32.reduceLT, Int32.reduceLE, Int32.reduceToNatClampNeg, Nat.reduceMod, Nat.reduceLT, List.length_cons, List.length_nil, eq_self, true_or, or_true, and_self, implies_true, not_true_eq_false, not_false_eq_true, false_implies, true_implies, forall_const, st_aloadx, st_baloadx, st_getfieldx, st_gotox, st_ifCondx, st_if_icmpx, st_iincx, st_iloadx, st_st1, am_put, am_nlg, kb_Model_splits_43, og_82_6, oa_82, oa_88, or_88, (nk_le (by omega) (by omega) : (nI (n) ≤ nI (q)) = (n ≤ q)), g, nk_neg (show q < 2147483648 by omega), nk_cl (show q < 2147483648 by omega), show q < 400 by omega, ht q (by omega)]
      refine m_isSmall ?_
      simp only [ax0, ex_cons, am_get, upz_at, true_and, and_true, Nat.reduceAdd, Nat.reduceLeDiff, Nat.reduceEqDiff, Nat.reduceSub, Int32.reduceOfInt, Int32.reduceAdd, Int32.reduceMul, Int32.reduceSub, ↓reduceIte, Int32.reduceLT, Int32.reduceLE, Int32.reduceToNatClampNeg, Nat.reduceMod, Nat.reduceLT, List.length_cons, List.length_nil, eq_self, true_or, or_true, and_self, implies_true, not_true_eq_false, not_false_eq_true, false_implies, true_implies, forall_const, st_aloadx, st_baloadx, st_getfieldx, st_gotox, st_ifCondx, st_if_icmpx, st_iincx, st_iloadx, st_st1, am_put, am_nlg, kb_Model_splits_43, og_82_6, oa_82, oa_88, or_88, nk_succ]
      refine ifb (fun e => ?_) (fun e => ?_)
      · rw [e, if_neg Bool.false_ne_true] at K; exact K
      · rw [e, if_pos rfl] at K
        exact ih (q + 1) (by omega) (by omega) K
set_option maxRecDepth 20000 in
theorem m_runD {n : Nat} (hn : n ≤ 400) {t : Nat → Int32} (ht : ∀ i, i < n → F 88 i = t i) {v2 v5 : Value} {b : Int32} : ∀ f q, n - q ≤ f → q ≤ n → am_W kc_Model_splits (am_cl (d + 2)) Q 100 [.ref 82, .int (nI n), v2, .int b, .int (nI (rnF dgt t n f q)), v5] [] (ov h F J V) → am_W kc_Model_splits (am_cl (d + 2)) Q 75 [.ref 82, .int (nI n), v2, .int b, .int (nI q), v5] [] (ov h F J V) := by
  intro f
  induction f with
  | zero =>
    intro q hf hq K
    rw [jx_Model_splits_75]
    simp only [ax0, ex_cons, am_get, upz_at, true_and, and_true, Nat.reduceAdd, Nat.reduceLeDiff, Nat.reduceEqDiff, Nat.reduceSub, Int32.reduceOfInt, Int32.reduceAdd, Int32.reduceMul, Int32.reduceSub, ↓reduceIte, Int32.reduceLT, Int32.reduceLE, Int32.reduceToNatClampNeg, Nat.reduceMod, Nat.reduceLT, List.length_cons, List.length_nil, eq_self, true_or, or_true, and_self, implies_true, not_true_eq_false, not_false_eq_true, false_implies, true_implies, forall_const, st_aloadx, st_baloadx, st_getfieldx, st_gotox, st_ifCondx, st_if_icmpx, st_iincx, st_iloadx, st_st1, am_put, am_nlg, kb_Model_splits_75, og_82_6, oa_82, oa_88, or_88, (nk_le (by omega) (by omega) : (nI (n) ≤ nI (q)) = (n ≤ q)), show n ≤ q by omega]
    exact K
  | succ f ih =>
    intro q hf hq K
    unfold rnF at K
    rw [jx_Model_splits_75]
    by_cases g : n ≤ q
    · rw [decide_eq_false (by omega), Bool.false_and, if_neg Bool.false_ne_true] at K
      simp only [ax0, ex_cons, am_get, upz_at, true_and, and_true, Nat.reduceAdd, Nat.reduceLeDiff, Nat.reduceEqDiff, Nat.reduceSub, Int32.reduceOfInt, Int32.reduceAdd, Int32.reduceMul, Int32.reduceSub, ↓reduceIte, Int32.reduceLT, Int32.reduceLE, Int32.reduceToNatClampNeg, Nat.reduceMod, Nat.reduceLT, List.length_cons, List.length_nil, eq_self, true_or, or_true, and_self, implies_true, not_true_eq_false, not_false_eq_true, false_implies, true_implies, forall_const, st_aloadx, st_baloadx, st_getfieldx, st_gotox, st_ifCondx, st_if_icmpx, st_iincx, st_iloadx, st_st1, am_put, am_nlg, kb_Model_splits_75, og_82_6, oa_82, oa_88, or_88, (nk_le (by omega) (by omega) : (nI (n) ≤ nI (q)) = (n ≤ q)), g]
      exact K
    · rw [decide_eq_true (by omega), Bool.true_and] at K
      simp only [ax0, ex_cons, am_get, upz_at, true_and, and_true, Nat.reduceAdd, Nat.reduceLeDiff, Nat.reduceEqDiff, Nat.reduceSub, Int32.reduceOfInt, Int32.reduceAdd, Int32.reduceMul, Int32.reduceSub, ↓reduceIte, Int32.reduceLT, Int32.reduceLE, Int32.reduceToNatClampNeg, Nat.reduceMod, Nat.reduceLT, List.length_cons, List.length_nil, eq_self, true_or, or_true, and_self, implies_true, not_true_eq_false, not_false_eq_true, false_implies, true_implies, forall_const, st_aloadx, st_baloadx, st_getfieldx, st_gotox, st_ifCondx, st_if_icmpx, st_iincx, st_iloadx, st_st1, am_put, am_nlg, kb_Model_splits_75, og_82_6, oa_82, oa_88, or_88, (nk_le (by omega) (by omega) : (nI (n) ≤ nI (q)) = (n ≤ q)), g, nk_neg (show q < 2147483648 by omega), nk_cl (show q < 2147483648 by omega), show q < 400 by omega, ht q (by omega)]
      refine m_isDigit ?_
      simp only [ax0, ex_cons, am_get, upz_at, true_and, and_true, Nat.reduceAdd, Nat.reduceLeDiff, Nat.reduceEqDiff, Nat.reduceSub, Int32.reduceOfInt, Int32.reduceAdd, Int32.reduceMul, Int32.reduceSub, ↓reduceIte, Int32.reduceLT, Int32.reduceLE, Int32.reduceToNatClampNeg, Nat.reduceMod, Nat.reduceLT, List.length_cons, List.length_nil, eq_self, true_or, or_true, and_self, implies_true, not_true_eq_false, not_false_eq_true, false_implies, true_implies, forall_const, st_aloadx, st_baloadx, st_getfieldx, st_gotox, st_ifCondx, st_if_icmpx, st_iincx, st_iloadx, st_st1, am_put, am_nlg, kb_Model_splits_75, og_82_6, oa_82, oa_88, or_88, nk_succ]
      refine ifb (fun e => ?_) (fun e => ?_)
      · rw [e, if_neg Bool.false_ne_true] at K; exact K
      · rw [e, if_pos rfl] at K
        exact ih (q + 1) (by omega) (by omega) K
theorem sml_dgt {b : Int32} (h : sml b = true) : dgt b = false := by
  unfold sml at h
  unfold dgt
  rw [Bool.and_eq_true, Bool.not_eq_true', decide_eq_false_iff_not, Bool.not_eq_true', decide_eq_false_iff_not] at h
  rw [Bool.and_eq_false_iff]
  right
  rw [Bool.not_eq_false', decide_eq_true_iff]
  have h1 := h.1
  rw [Int32.lt_iff_toInt_lt] at h1 ⊢
  have e1 : (97 : Int32).toInt = 97 := by decide
  have e2 : (57 : Int32).toInt = 57 := by decide
  rw [e1] at h1
  rw [e2]
  omega
set_option maxRecDepth 20000 in
theorem m_vals {n p e : Nat} {b : Int32} (he : e ≤ 400) {m : Nat} (hm : m ≤ 400) (h13 : F 82 13 = nI m) (K : ∀ f v5, am_W kc_Model_splits (am_cl (d + 2)) Q 247 [.ref 82, .int (nI n), .int (nI p), .int b, .int (nI e), v5] [] (ov h (upz F 91 f) J V)) : ∀ j i f, i + j = e → am_W kc_Model_splits (am_cl (d + 2)) Q 169 [.ref 82, .int (nI n), .int (nI p), .int b, .int (nI e), .int (nI i)] [] (ov h (upz F 91 f) J V) := by
  intro j
  induction j with
  | zero =>
    intro i f hi
    rw [jx_Model_splits_169]
    simp only [ax0, ex_cons, am_get, upz_at, true_and, and_true, Nat.reduceAdd, Nat.reduceLeDiff, Nat.reduceEqDiff, Nat.reduceSub, Int32.reduceOfInt, Int32.reduceAdd, Int32.reduceMul, Int32.reduceSub, ↓reduceIte, Int32.reduceLT, Int32.reduceLE, Int32.reduceToNatClampNeg, Nat.reduceMod, Nat.reduceLT, List.length_cons, List.length_nil, eq_self, true_or, or_true, and_self, implies_true, not_true_eq_false, not_false_eq_true, false_implies, true_implies, forall_const, st_aloadx, st_getfieldx, st_gotox, st_ialoadx, st_iconstx, st_ifCondx, st_if_icmpx, st_iloadx, st_st1, kb_Model_splits_169, og_82_11, og_82_13, oa_82, oa_91, or_91, (nk_le (by omega) (by omega) : (nI (e) ≤ nI (i)) = (e ≤ i)), show e ≤ i by omega]
    exact K f _
  | succ j ih =>
    intro i f hi
    rw [jx_Model_splits_169]
    simp only [ax0, ex_cons, am_get, upz_at, true_and, and_true, Nat.reduceAdd, Nat.reduceLeDiff, Nat.reduceEqDiff, Nat.reduceSub, Int32.reduceOfInt, Int32.reduceAdd, Int32.reduceMul, Int32.reduceSub, ↓reduceIte, Int32.reduceLT, Int32.reduceLE, Int32.reduceToNatClampNeg, Nat.reduceMod, Nat.reduceLT, List.length_cons, List.length_nil, eq_self, true_or, or_true, and_self, implies_true, not_true_eq_false, not_false_eq_true, false_implies, true_implies, forall_const, st_aloadx, st_getfieldx, st_gotox, st_ialoadx, st_iconstx, st_ifCondx, st_if_icmpx, st_iloadx, st_st1, kb_Model_splits_169, og_82_11, og_82_13, oa_82, oa_91, or_91, (nk_le (by omega) (by omega) : (nI (e) ≤ nI (i)) = (e ≤ i)), show ¬ e ≤ i by omega]
    refine m_isDigit ?_
    simp only [ax0, ex_cons, am_get, upz_at, true_and, and_true, Nat.reduceAdd, Nat.reduceLeDiff, Nat.reduceEqDiff, Nat.reduceSub, Int32.reduceOfInt, Int32.reduceAdd, Int32.reduceMul, Int32.reduceSub, ↓reduceIte, Int32.reduceLT, Int32.reduceLE, Int32.reduceToNatClampNeg, Nat.reduceMod, Nat.reduceLT, List.length_cons, List.length_nil, eq_self, true_or, or_true, and_self, implies_true, not_true_eq_false, not_false_eq_true, false_implies, true_implies, forall_const, st_aloadx, st_baloadx, st_getfieldx, st_gotox, st_goto_wx, st_iaddx, st_ialoadx, st_iconstx, st_ifCondx, st_if_icmpx, st_iloadx, st_imulx, st_st1, st_isubx, kb_Model_splits_169, og_82_11, og_82_13, jx_Model_splits_217, kb_Model_splits_217, og_82_6, oa_82, oa_88, or_88, oa_91, or_91, h13, nk_neg (show m < 2147483648 by omega), nk_cl (show m < 2147483648 by omega), show m < 401 by omega]
    refine ifb (fun q => ?_) (fun q => ?_)
    · exact K f _
    · refine And.intro (fun q2 => ?_) (fun q2 => ?_)
      · simp only [ax0, ex_cons, am_get, upz_at, true_and, and_true, Nat.reduceAdd, Nat.reduceLeDiff, Nat.reduceEqDiff, Nat.reduceSub, Int32.reduceOfInt, Int32.reduceAdd, Int32.reduceMul, Int32.reduceSub, ↓reduceIte, Int32.reduceLT, Int32.reduceLE, Int32.reduceToNatClampNeg, Nat.reduceMod, Nat.reduceLT, List.length_cons, List.length_nil, eq_self, true_or, or_true, and_self, implies_true, not_true_eq_false, not_false_eq_true, false_implies, true_implies, forall_const, st_aloadx, st_baloadx, st_getfieldx, st_goto_wx, st_iaddx, st_ialoadx, st_iconstx, st_iloadx, st_imulx, st_isubx, jx_Model_splits_217, kb_Model_splits_217, og_82_11, og_82_13, og_82_6, oa_82, oa_88, or_88, oa_91, or_91, h13, nk_neg (show m < 2147483648 by omega), nk_cl (show m < 2147483648 by omega), nk_neg (show i < 2147483648 by omega), nk_cl (show i < 2147483648 by omega), show m < 401 by omega, show i < 400 by omega]
        simp only [ax0, ex_cons, am_get, upz_at, true_and, and_true, Nat.reduceAdd, Nat.reduceLeDiff, Nat.reduceEqDiff, Nat.reduceSub, Int32.reduceOfInt, Int32.reduceAdd, Int32.reduceMul, Int32.reduceSub, ↓reduceIte, Int32.reduceLT, Int32.reduceLE, Int32.reduceToNatClampNeg, Nat.reduceMod, Nat.reduceLT, List.length_cons, List.length_nil, eq_self, true_or, or_true, and_self, implies_true, not_true_eq_false, not_false_eq_true, false_implies, true_implies, forall_const, st_gotox, st_iastorex, st_iincx, am_put, am_nlg, jx_Model_splits_240, kb_Model_splits_240, oa_91, ow_91, os_91, nk_neg (show m < 2147483648 by omega), nk_cl (show m < 2147483648 by omega), show m < 401 by omega, upz_upd, nk_succ]
        exact ih (i + 1) _ (by omega)
      · simp only [ax0, ex_cons, am_get, upz_at, true_and, and_true, Nat.reduceAdd, Nat.reduceLeDiff, Nat.reduceEqDiff, Nat.reduceSub, Int32.reduceOfInt, Int32.reduceAdd, Int32.reduceMul, Int32.reduceSub, ↓reduceIte, Int32.reduceLT, Int32.reduceLE, Int32.reduceToNatClampNeg, Nat.reduceMod, Nat.reduceLT, List.length_cons, List.length_nil, eq_self, true_or, or_true, and_self, implies_true, not_true_eq_false, not_false_eq_true, false_implies, true_implies, forall_const, st_gotox, st_iastorex, st_iincx, am_put, am_nlg, jx_Model_splits_240, kb_Model_splits_240, oa_91, ow_91, os_91, nk_neg (show m < 2147483648 by omega), nk_cl (show m < 2147483648 by omega), show m < 401 by omega, upz_upd, nk_succ]
        exact ih (i + 1) _ (by omega)
theorem nk_and255 (b : Int32) : (100 : Int32) + (b &&& 255) = nI (100 + (b &&& 255).toNatClampNeg) := by
  have h1 : (b &&& 255).toInt = (b.toBitVec &&& 255#32).toInt := by
    show (b &&& 255).toBitVec.toInt = _
    rw [Int32.toBitVec_and]; rfl
  have h2 : (b.toBitVec &&& 255#32).toNat < 256 := by
    rw [BitVec.toNat_and]
    exact Nat.lt_of_le_of_lt Nat.and_le_right (by decide)
  have h3 : (b.toBitVec &&& 255#32).toInt = ((b.toBitVec &&& 255#32).toNat : Int) := BitVec.toInt_eq_toNat_of_lt (by omega)
  have h4 : ¬ (b &&& 255) < 0 := by
    rw [Int32.lt_iff_toInt_lt, Int32.toInt_zero, h1, h3]
    omega
  rw [← nk_add 100]
  show (100 : Int32) + (b &&& 255) = nI 100 + nI (b &&& 255).toNatClampNeg
  rw [← (nk_of h4).1]
  rfl
set_option maxRecDepth 20000 in
theorem m_splits {n : Nat} (hn : n ≤ 400) {t : Nat → Int32} (ht : ∀ i, i < n → F 88 i = t i) (wd : WD F) (K : ∀ F', TKr F' n (tkA t n) → Ps F F' → Q none (ov h F' J V)) : am_cl (d + 3) 192 [.ref 82, .int (nI n)] (ov h F J V) Q := by
  simp only [ax0, ex_cons, am_get, upz_at, true_and, and_true, Nat.reduceAdd, Nat.reduceLeDiff, Nat.reduceEqDiff, Nat.reduceSub, Int32.reduceOfInt, Int32.reduceAdd, Int32.reduceMul, Int32.reduceSub, ↓reduceIte, Int32.reduceLT, Int32.reduceLE, Int32.reduceToNatClampNeg, Nat.reduceMod, Nat.reduceLT, List.length_cons, List.length_nil, eq_self, true_or, or_true, and_self, implies_true, not_true_eq_false, not_false_eq_true, false_implies, true_implies, forall_const, st_aloadx, st_goto_wx, st_iconstx, st_istorex, st_putfieldx, am_put, am_nlg, kb_Model_splits_0, op_82_13, oa_82, os_82, cx_Model_splits]
  have key : ∀ f p l F1 v3 v4 v5, n - p ≤ f → p ≤ n → l.length ≤ p → TKs F1 n l → Ps F F1 → tkA t n = l ++ tkL t n f p → am_W kc_Model_splits (am_cl (d + 2)) Q 7 [.ref 82, .int (nI n), .int (nI p), v3, v4, v5] [] (ov h F1 J V) := by
    have fin : ∀ p l F1 v3 v4 v5, n ≤ p → p ≤ n → l.length ≤ p → TKs F1 n l → Ps F F1 → tkA t n = l → am_W kc_Model_splits (am_cl (d + 2)) Q 7 [.ref 82, .int (nI n), .int (nI p), v3, v4, v5] [] (ov h F1 J V) := by
      intro p l F1 v3 v4 v5 g hp hl hT hP hA
      rw [jx_Model_splits_7]
      simp only [ax0, ex_cons, am_get, upz_at, true_and, and_true, Nat.reduceAdd, Nat.reduceLeDiff, Nat.reduceEqDiff, Nat.reduceSub, Int32.reduceOfInt, Int32.reduceAdd, Int32.reduceMul, Int32.reduceSub, ↓reduceIte, Int32.reduceLT, Int32.reduceLE, Int32.reduceToNatClampNeg, Nat.reduceMod, Nat.reduceLT, List.length_cons, List.length_nil, eq_self, true_or, or_true, and_self, implies_true, not_true_eq_false, not_false_eq_true, false_implies, true_implies, forall_const, st_aloadx, st_baloadx, st_getfieldx, st_gotox, st_iastorex, st_iconstx, st_if_icmpx, st_iincx, st_iloadx, st_istorex, st_return_x, am_put, am_nlg, kb_Model_splits_7, og_82_6, jx_Model_splits_263, kb_Model_splits_263, og_82_12, og_82_13, og_82_10, og_82_11, oa_82, oa_88, or_88, ow_88, os_88, oa_90, or_90, ow_90, os_90, oa_91, or_91, ow_91, os_91, oa_92, or_92, ow_92, os_92, (nk_le (by omega) (by omega) : (nI (n) ≤ nI (p)) = (n ≤ p)), g, hT.1, nk_neg (show l.length < 2147483648 by omega), nk_cl (show l.length < 2147483648 by omega), show l.length < 401 by omega]
      rw [hA] at K
      refine K _ ⟨?_, fun k hk => ⟨?_, ?_⟩⟩ (hP.tr ⟨fun a h1 h2 h3 h4 => ?_, fun i hi => ?_⟩)
      · rw [upz_ne _ _ (by decide), upz_ne _ _ (by decide), upz_ne _ _ (by decide)]; exact hT.1
      · rw [upz_ne _ _ (by decide), upz_eq]
        by_cases q : k = l.length
        · rw [q, upz_eq, cd_out (Nat.le_refl _)]; rfl
        · rw [upz_ne _ _ q, (hT.2 k (by omega)).1]
      · rw [upz_ne _ _ (by decide), upz_ne _ _ (by decide), upz_eq]
        by_cases q : k = l.length
        · rw [q, upz_eq, pl_out (Nat.le_refl _)]
        · rw [upz_ne _ _ q, (hT.2 k (by omega)).2]
      · rw [upz_ne _ _ h3, upz_ne _ _ h2, upz_ne _ _ h4]
      · rw [upz_ne _ _ (by decide), upz_ne _ _ (by decide), upz_ne _ _ (by decide)]
    intro f
    induction f with
    | zero =>
      intro p l F1 v3 v4 v5 hf hp hl hT hP hA
      exact fin p l F1 v3 v4 v5 (by omega) hp hl hT hP (by rw [hA]; exact List.append_nil _)
    | succ f ih =>
      intro p l F1 v3 v4 v5 hf hp hl hT hP hA
      unfold tkL at hA
      by_cases g : n ≤ p
      · rw [if_pos g, List.append_nil] at hA
        exact fin p l F1 v3 v4 v5 g hp hl hT hP hA
      rw [if_neg g] at hA
      have h88 : ∀ i, i < n → F1 88 i = t i := fun i hi => by rw [hP.1 88 (by decide) (by decide) (by decide) (by decide)]; exact ht i hi
      have wd1 : WD F1 := fun i hi => by rw [hP.1 87 (by decide) (by decide) (by decide) (by decide)]; exact wd i hi
      rw [jx_Model_splits_7]
      simp only [ax0, ex_cons, am_get, upz_at, true_and, and_true, Nat.reduceAdd, Nat.reduceLeDiff, Nat.reduceEqDiff, Nat.reduceSub, Int32.reduceOfInt, Int32.reduceAdd, Int32.reduceMul, Int32.reduceSub, ↓reduceIte, Int32.reduceLT, Int32.reduceLE, Int32.reduceToNatClampNeg, Nat.reduceMod, Nat.reduceLT, List.length_cons, List.length_nil, eq_self, true_or, or_true, and_self, implies_true, not_true_eq_false, not_false_eq_true, false_implies, true_implies, forall_const, st_aloadx, st_baloadx, st_getfieldx, st_gotox, st_iconstx, st_if_icmpx, st_iincx, st_iloadx, st_istorex, am_put, am_nlg, kb_Model_splits_7, og_82_6, oa_82, oa_88, or_88, (nk_le (by omega) (by omega) : (nI (n) ≤ nI (p)) = (n ≤ p)), g, nk_neg (show p < 2147483648 by omega), nk_cl (show p < 2147483648 by omega), show p < 400 by omega, h88 p (by omega)]
      refine And.intro (fun q => ?_) (fun q => ?_)
      · rw [if_neg q] at hA
        have te1 := teP_gt t n p
        have te2 := teP_le (t := t) (n := n) (p := p) (by omega)
        -- from 100 on
        have s100 : ∀ v5, am_W kc_Model_splits (am_cl (d + 2)) Q 100 [.ref 82, .int (nI n), .int (nI p), .int (t p), .int (nI (teP t n p)), v5] [] (ov h F1 J V) := by
          intro v5
          have s165 : ∀ F2 v5, F2 = upz (upz F1 92 (upz (F1 92) l.length (nI p))) 91 (upz (F1 91) l.length 0) → am_W kc_Model_splits (am_cl (d + 2)) Q 165 [.ref 82, .int (nI n), .int (nI p), .int (t p), .int (nI (teP t n p)), v5] [.int (nI (tcP t n p)), .int (nI l.length), .ref 90] (ov h F2 J V) := by
            intro F2 v5 e2
            have z90 : F2 90 = F1 90 := by rw [e2, upz_ne _ _ (by decide), upz_ne _ _ (by decide)]
            simp only [ax0, ex_cons, am_get, upz_at, true_and, and_true, Nat.reduceAdd, Nat.reduceLeDiff, Nat.reduceEqDiff, Nat.reduceSub, Int32.reduceOfInt, Int32.reduceAdd, Int32.reduceMul, Int32.reduceSub, ↓reduceIte, Int32.reduceLT, Int32.reduceLE, Int32.reduceToNatClampNeg, Nat.reduceMod, Nat.reduceLT, List.length_cons, List.length_nil, eq_self, true_or, or_true, and_self, implies_true, not_true_eq_false, not_false_eq_true, false_implies, true_implies, forall_const, st_goto_wx, st_iastorex, st_iloadx, st_istorex, am_put, am_nlg, jx_Model_splits_165, kb_Model_splits_165, oa_90, ow_90, os_90, nk_neg (show l.length < 2147483648 by omega), nk_cl (show l.length < 2147483648 by omega), show l.length < 401 by omega, z90]
            generalize e3 : upz F2 90 (upz (F1 90) l.length (nI (tcP t n p))) = F3
            have z13 : F3 82 = F1 82 := by rw [← e3, e2, upz_ne _ _ (by decide), upz_ne _ _ (by decide), upz_ne _ _ (by decide)]
            have e0 : ov h F3 J V = ov h (upz F3 91 (F3 91)) J V := by rw [upz_self]
            rw [e0]
            refine m_vals (p := p) (e := teP t n p) (by omega) (m := l.length) (by omega) (by rw [z13]; exact hT.1) (fun fv v5 => ?_) (teP t n p - p) p (F3 91) (by omega)
            simp only [ax0, ex_cons, am_get, upz_at, true_and, and_true, Nat.reduceAdd, Nat.reduceLeDiff, Nat.reduceEqDiff, Nat.reduceSub, Int32.reduceOfInt, Int32.reduceAdd, Int32.reduceMul, Int32.reduceSub, ↓reduceIte, Int32.reduceLT, Int32.reduceLE, Int32.reduceToNatClampNeg, Nat.reduceMod, Nat.reduceLT, List.length_cons, List.length_nil, eq_self, true_or, or_true, and_self, implies_true, not_true_eq_false, not_false_eq_true, false_implies, true_implies, forall_const, st_aloadx, st_dupx, st_dup_1x, st_getfieldx, st_gotox, st_iaddx, st_iconstx, st_iloadx, st_istorex, st_putfieldx, am_put, am_nlg, jx_Model_splits_247, kb_Model_splits_247, og_82_13, op_82_13, oa_82, os_82, z13, hT.1, nk_succ]
            refine ih (teP t n p) (l ++ [(p, tcP t n p)]) _ _ _ _ (by omega) te2 (by rw [List.length_append, List.length_cons, List.length_nil]; omega) ⟨?_, fun k hk => ?_⟩ (hP.tr ⟨fun a h1 h2 h3 h4 => ?_, fun i hi => ?_⟩) (by rw [hA, List.append_assoc]; rfl)
            · rw [upz_eq, upz_eq, List.length_append]; rfl
            · rw [List.length_append] at hk
              have hk : k < l.length + 1 := hk
              have w90 : F3 90 = upz (F1 90) l.length (nI (tcP t n p)) := by rw [← e3, upz_eq]
              have w92 : F3 92 = upz (F1 92) l.length (nI p) := by rw [← e3, upz_ne _ _ (show (92 : Nat) ≠ 90 by decide), e2, upz_ne _ _ (show (92 : Nat) ≠ 91 by decide), upz_eq]
              rw [upz_ne _ _ (show (90 : Nat) ≠ 82 by decide), upz_ne _ _ (show (90 : Nat) ≠ 91 by decide), upz_ne _ _ (show (92 : Nat) ≠ 82 by decide), upz_ne _ _ (show (92 : Nat) ≠ 91 by decide), w90, w92]
              by_cases q2 : k = l.length
              · rw [q2, upz_eq, upz_eq, cdL_one, plL_one]; exact ⟨rfl, rfl⟩
              · rw [upz_ne _ _ q2, upz_ne _ _ q2, cdL_app (by omega), plL_app (by omega)]
                exact hT.2 k (by omega)
            · rw [upz_ne _ _ h1, upz_ne _ _ h3, ← e3, upz_ne _ _ h2, e2, upz_ne _ _ h3, upz_ne _ _ h4]
            · rw [upz_eq, upz_ne _ _ hi]
          simp only [ax0, ex_cons, am_get, upz_at, true_and, and_true, Nat.reduceAdd, Nat.reduceLeDiff, Nat.reduceEqDiff, Nat.reduceSub, Int32.reduceOfInt, Int32.reduceAdd, Int32.reduceMul, Int32.reduceSub, ↓reduceIte, Int32.reduceLT, Int32.reduceLE, Int32.reduceToNatClampNeg, Nat.reduceMod, Nat.reduceLT, List.length_cons, List.length_nil, eq_self, true_or, or_true, and_self, implies_true, not_true_eq_false, not_false_eq_true, false_implies, true_implies, forall_const, st_aloadx, st_getfieldx, st_gotox, st_iastorex, st_iconstx, st_ifCondx, st_iloadx, st_in3, st_st1, jx_Model_splits_100, kb_Model_splits_100, og_82_12, og_82_13, og_82_11, og_82_10, oo_82, oa_82, oa_90, ow_90, os_90, oa_91, ow_91, os_91, oa_92, ow_92, os_92, hT.1, nk_neg (show l.length < 2147483648 by omega), nk_cl (show l.length < 2147483648 by omega), show l.length < 401 by omega]
          refine m_isSmall ?_
          simp only [ax0, ex_cons, am_get, upz_at, true_and, and_true, Nat.reduceAdd, Nat.reduceLeDiff, Nat.reduceEqDiff, Nat.reduceSub, Int32.reduceOfInt, Int32.reduceAdd, Int32.reduceMul, Int32.reduceSub, ↓reduceIte, Int32.reduceLT, Int32.reduceLE, Int32.reduceToNatClampNeg, Nat.reduceMod, Nat.reduceLT, List.length_cons, List.length_nil, eq_self, true_or, or_true, and_self, implies_true, not_true_eq_false, not_false_eq_true, false_implies, true_implies, forall_const, st_aloadx, st_getfieldx, st_gotox, st_iastorex, st_iconstx, st_ifCondx, st_iloadx, st_in3, st_st1, jx_Model_splits_100, kb_Model_splits_100, og_82_12, og_82_13, og_82_11, og_82_10, oo_82, oa_82, oa_90, ow_90, os_90, oa_91, ow_91, os_91, oa_92, ow_92, os_92]
          refine ifb (fun q2 => ?_) (fun q2 => ?_)
          · simp only [ax0, ex_cons, am_get, upz_at, true_and, and_true, Nat.reduceAdd, Nat.reduceLeDiff, Nat.reduceEqDiff, Nat.reduceSub, Int32.reduceOfInt, Int32.reduceAdd, Int32.reduceMul, Int32.reduceSub, ↓reduceIte, Int32.reduceLT, Int32.reduceLE, Int32.reduceToNatClampNeg, Nat.reduceMod, Nat.reduceLT, List.length_cons, List.length_nil, eq_self, true_or, or_true, and_self, implies_true, not_true_eq_false, not_false_eq_true, false_implies, true_implies, forall_const, st_gotox, st_iconstx, st_ifCondx, st_iloadx, st_st1, jx_Model_splits_145, kb_Model_splits_145]
            refine m_isDigit ?_
            simp only [ax0, ex_cons, am_get, upz_at, true_and, and_true, Nat.reduceAdd, Nat.reduceLeDiff, Nat.reduceEqDiff, Nat.reduceSub, Int32.reduceOfInt, Int32.reduceAdd, Int32.reduceMul, Int32.reduceSub, ↓reduceIte, Int32.reduceLT, Int32.reduceLE, Int32.reduceToNatClampNeg, Nat.reduceMod, Nat.reduceLT, List.length_cons, List.length_nil, eq_self, true_or, or_true, and_self, implies_true, not_true_eq_false, not_false_eq_true, false_implies, true_implies, forall_const, st_gotox, st_goto_wx, st_iaddx, st_iandx, st_iconstx, st_ifCondx, st_iloadx, st_st1, jx_Model_splits_145, kb_Model_splits_145, jx_Model_splits_157, kb_Model_splits_157]
            refine ifb (fun q3 => ?_) (fun q3 => ?_)
            · rw [nk_and255]
              have := s165 _ v5 rfl
              unfold tcP at this
              rw [q2, if_neg Bool.false_ne_true, q3, if_neg Bool.false_ne_true] at this
              exact this
            · have := s165 _ v5 rfl
              unfold tcP at this
              rw [q2, if_neg Bool.false_ne_true, q3, if_pos rfl] at this
              exact this
          · refine m_wordOf (t := t) (p := p) (e := teP t n p) ?_ te1 (by omega) (fun i h1 h2 => ?_) ?_
            · intro i hi
              rw [upz_ne _ _ (by decide), upz_ne _ _ (by decide)]; exact wd1 i hi
            · rw [upz_ne _ _ (by decide), upz_ne _ _ (by decide)]; exact h88 i (by omega)
            · simp only [ax0, ex_cons, am_get, upz_at, true_and, and_true, Nat.reduceAdd, Nat.reduceLeDiff, Nat.reduceEqDiff, Nat.reduceSub, Int32.reduceOfInt, Int32.reduceAdd, Int32.reduceMul, Int32.reduceSub, ↓reduceIte, Int32.reduceLT, Int32.reduceLE, Int32.reduceToNatClampNeg, Nat.reduceMod, Nat.reduceLT, List.length_cons, List.length_nil, eq_self, true_or, or_true, and_self, implies_true, not_true_eq_false, not_false_eq_true, false_implies, true_implies, forall_const, st_aloadx, st_getfieldx, st_gotox, st_iastorex, st_iconstx, st_ifCondx, st_iloadx, st_in3, st_st1, jx_Model_splits_100, kb_Model_splits_100, og_82_12, og_82_13, og_82_11, og_82_10, oo_82, oa_82, oa_90, ow_90, os_90, oa_91, ow_91, os_91, oa_92, ow_92, os_92]
              have := s165 _ v5 rfl
              unfold tcP at this
              rw [q2, if_pos rfl] at this
              exact this
        simp only [ax0, ex_cons, am_get, upz_at, true_and, and_true, Nat.reduceAdd, Nat.reduceLeDiff, Nat.reduceEqDiff, Nat.reduceSub, Int32.reduceOfInt, Int32.reduceAdd, Int32.reduceMul, Int32.reduceSub, ↓reduceIte, Int32.reduceLT, Int32.reduceLE, Int32.reduceToNatClampNeg, Nat.reduceMod, Nat.reduceLT, List.length_cons, List.length_nil, eq_self, true_or, or_true, and_self, implies_true, not_true_eq_false, not_false_eq_true, false_implies, true_implies, forall_const, st_goto_wx, st_iaddx, st_iconstx, st_ifCondx, st_iloadx, st_st1, st_istorex, am_put, am_nlg, jx_Model_splits_31, kb_Model_splits_31, nk_succ]
        refine m_isSmall ?_
        simp only [ax0, ex_cons, am_get, upz_at, true_and, and_true, Nat.reduceAdd, Nat.reduceLeDiff, Nat.reduceEqDiff, Nat.reduceSub, Int32.reduceOfInt, Int32.reduceAdd, Int32.reduceMul, Int32.reduceSub, ↓reduceIte, Int32.reduceLT, Int32.reduceLE, Int32.reduceToNatClampNeg, Nat.reduceMod, Nat.reduceLT, List.length_cons, List.length_nil, eq_self, true_or, or_true, and_self, implies_true, not_true_eq_false, not_false_eq_true, false_implies, true_implies, forall_const, st_goto_wx, st_iaddx, st_iconstx, st_ifCondx, st_iloadx, st_st1, st_istorex, am_put, am_nlg, jx_Model_splits_31, kb_Model_splits_31]
        refine ifb (fun q2 => ?_) (fun q2 => ?_)
        · simp only [ax0, ex_cons, am_get, upz_at, true_and, and_true, Nat.reduceAdd, Nat.reduceLeDiff, Nat.reduceEqDiff, Nat.reduceSub, Int32.reduceOfInt, Int32.reduceAdd, Int32.reduceMul, Int32.reduceSub, ↓reduceIte, Int32.reduceLT, Int32.reduceLE, Int32.reduceToNatClampNeg, Nat.reduceMod, Nat.reduceLT, List.length_cons, List.length_nil, eq_self, true_or, or_true, and_self, implies_true, not_true_eq_false, not_false_eq_true, false_implies, true_implies, forall_const, st_goto_wx, st_ifCondx, st_iloadx, st_st1, jx_Model_splits_68, kb_Model_splits_68]
          refine m_isDigit ?_
          simp only [ax0, ex_cons, am_get, upz_at, true_and, and_true, Nat.reduceAdd, Nat.reduceLeDiff, Nat.reduceEqDiff, Nat.reduceSub, Int32.reduceOfInt, Int32.reduceAdd, Int32.reduceMul, Int32.reduceSub, ↓reduceIte, Int32.reduceLT, Int32.reduceLE, Int32.reduceToNatClampNeg, Nat.reduceMod, Nat.reduceLT, List.length_cons, List.length_nil, eq_self, true_or, or_true, and_self, implies_true, not_true_eq_false, not_false_eq_true, false_implies, true_implies, forall_const, st_goto_wx, st_ifCondx, st_iloadx, st_st1, jx_Model_splits_68, kb_Model_splits_68]
          refine ifb (fun q3 => ?_) (fun q3 => ?_)
          · have e4 : teP t n p = p + 1 := by unfold teP; rw [q2, if_neg Bool.false_ne_true, q3, if_neg Bool.false_ne_true]
            rw [e4] at s100
            exact s100 _
          · have e4 : teP t n p = rnF dgt t n (n - (p + 1)) (p + 1) := by unfold teP rn; rw [q2, if_neg Bool.false_ne_true, q3, if_pos rfl]
            rw [e4] at s100
            exact m_runD hn h88 (n - (p + 1)) (p + 1) (Nat.le_refl _) (by omega) (s100 _)
        · refine m_runS hn h88 (n - (p + 1)) (p + 1) (Nat.le_refl _) (by omega) ?_
          have e4 : teP t n p = rnF sml t n (n - (p + 1)) (p + 1) := by unfold teP rn; rw [q2, if_pos rfl]
          rw [e4] at s100
          simp only [ax0, ex_cons, am_get, upz_at, true_and, and_true, Nat.reduceAdd, Nat.reduceLeDiff, Nat.reduceEqDiff, Nat.reduceSub, Int32.reduceOfInt, Int32.reduceAdd, Int32.reduceMul, Int32.reduceSub, ↓reduceIte, Int32.reduceLT, Int32.reduceLE, Int32.reduceToNatClampNeg, Nat.reduceMod, Nat.reduceLT, List.length_cons, List.length_nil, eq_self, true_or, or_true, and_self, implies_true, not_true_eq_false, not_false_eq_true, false_implies, true_implies, forall_const, st_goto_wx, st_ifCondx, st_iloadx, st_st1, jx_Model_splits_68, kb_Model_splits_68]
          refine m_isDigit ?_
          rw [sml_dgt q2]
          simp only [ax0, ex_cons, am_get, upz_at, true_and, and_true, Nat.reduceAdd, Nat.reduceLeDiff, Nat.reduceEqDiff, Nat.reduceSub, Int32.reduceOfInt, Int32.reduceAdd, Int32.reduceMul, Int32.reduceSub, ↓reduceIte, Int32.reduceLT, Int32.reduceLE, Int32.reduceToNatClampNeg, Nat.reduceMod, Nat.reduceLT, List.length_cons, List.length_nil, eq_self, true_or, or_true, and_self, implies_true, not_true_eq_false, not_false_eq_true, false_implies, true_implies, forall_const, st_goto_wx, st_ifCondx, st_iloadx, st_st1, jx_Model_splits_68, kb_Model_splits_68, b2i_f]
          exact s100 _
      · rw [if_pos (Classical.not_not.mp q)] at hA
        simp only [nk_succ]
        exact ih (p + 1) l F1 _ v4 v5 (by omega) (by omega) (by omega) hT hP hA
  exact key n 0 [] _ _ _ _ (by omega) (by omega) (by decide) ⟨by rw [upz_eq, upz_eq]; rfl, fun k hk => absurd hk (Nat.not_lt_zero k)⟩ ⟨fun a h1 _ _ _ => upz_ne _ _ h1, fun i hi => by rw [upz_eq, upz_ne _ _ hi]⟩ rfl
end MSP
