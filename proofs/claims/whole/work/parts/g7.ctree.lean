/-! ===== the class: trees ===== -/
def TN (F : Nat → Nat → Int32) : eT → Nat → Nat → Prop
  | .var j, k, i => F 27 i = nI j ∧ F 28 i = -1 ∧ F 30 i = nI k
  | .neg a, k, i => TN F a (k + 1) i
  | .add a b, k, i => F 27 i = 8 ∧ F 30 i = nI k ∧ ∃ l r, l < i ∧ r < i ∧ F 28 i = nI l ∧ F 29 i = nI r ∧ TN F a 0 l ∧ TN F b 0 r
  | .sub a b, k, i => F 27 i = 9 ∧ F 30 i = nI k ∧ ∃ l r, l < i ∧ r < i ∧ F 28 i = nI l ∧ F 29 i = nI r ∧ TN F a 0 l ∧ TN F b 0 r
  | _, _, _ => False
theorem TN.cg {F F' : Nat → Nat → Int32} (t : eT) : ∀ {k i : Nat}, (∀ a, 27 ≤ a → a ≤ 30 → ∀ j, j ≤ i → F' a j = F a j) → TN F t k i → TN F' t k i := by
  induction t with
  | var j =>
    intro k i e h
    exact ⟨by rw [e 27 (by decide) (by decide) i (Nat.le_refl _)]; exact h.1, by rw [e 28 (by decide) (by decide) i (Nat.le_refl _)]; exact h.2.1, by rw [e 30 (by decide) (by decide) i (Nat.le_refl _)]; exact h.2.2⟩
  | neg a ih => intro k i e h; exact ih e h
  | add a b iha ihb =>
    intro k i e h
    obtain ⟨h1, h2, l, r, h3, h4, h5, h6, h7, h8⟩ := h
    exact ⟨by rw [e 27 (by decide) (by decide) i (Nat.le_refl _)]; exact h1, by rw [e 30 (by decide) (by decide) i (Nat.le_refl _)]; exact h2, l, r, h3, h4, by rw [e 28 (by decide) (by decide) i (Nat.le_refl _)]; exact h5, by rw [e 29 (by decide) (by decide) i (Nat.le_refl _)]; exact h6, iha (fun a a1 a2 j hj => e a a1 a2 j (by omega)) h7, ihb (fun a a1 a2 j hj => e a a1 a2 j (by omega)) h8⟩
  | sub a b iha ihb =>
    intro k i e h
    obtain ⟨h1, h2, l, r, h3, h4, h5, h6, h7, h8⟩ := h
    exact ⟨by rw [e 27 (by decide) (by decide) i (Nat.le_refl _)]; exact h1, by rw [e 30 (by decide) (by decide) i (Nat.le_refl _)]; exact h2, l, r, h3, h4, by rw [e 28 (by decide) (by decide) i (Nat.le_refl _)]; exact h5, by rw [e 29 (by decide) (by decide) i (Nat.le_refl _)]; exact h6, iha (fun a a1 a2 j hj => e a a1 a2 j (by omega)) h7, ihb (fun a a1 a2 j hj => e a a1 a2 j (by omega)) h8⟩
  | num _ => intro k i e h; exact h
  | mulL _ _ _ => intro k i e h; exact h
  | mulR _ _ _ => intro k i e h; exact h
theorem TN.ng {F : Nat → Nat → Int32} {t : eT} : ∀ (m : Nat) {k i : Nat}, TN F t (k + m) i → TN F (ngT m t) k i
  | 0, k, i, h => h
  | m + 1, k, i, h => by
    show TN F (ngT m t) (k + 1) i
    exact TN.ng m (by rw [show k + 1 + m = k + (m + 1) by omega]; exact h)
theorem TN.neg {F F' : Nat → Nat → Int32} {m i : Nat} (e : ∀ a, 27 ≤ a → a ≤ 29 → F' a = F a) (e30 : ∀ j, j ≠ i → F' 30 j = F 30 j) (ei : F' 30 i = F 30 i + nI m) (t : eT) : ∀ {k : Nat}, TN F t k i → TN F' t (k + m) i := by
  have lo : ∀ a, 27 ≤ a → a ≤ 30 → ∀ j, j < i → F' a j = F a j := fun a a1 a2 j hj => by
    by_cases z : a = 30
    · rw [z]; exact e30 j (by omega)
    · rw [e a a1 (by omega)]
  induction t with
  | var j =>
    intro k h
    exact ⟨by rw [e 27 (by decide) (by decide)]; exact h.1, by rw [e 28 (by decide) (by decide)]; exact h.2.1, by rw [ei, h.2.2, nk_add]⟩
  | neg a ih =>
    intro k h
    have := ih h
    show TN F' a (k + m + 1) i
    rw [show k + m + 1 = k + 1 + m by omega]
    exact this
  | add a b iha ihb =>
    intro k h
    obtain ⟨h1, h2, l, r, h3, h4, h5, h6, h7, h8⟩ := h
    exact ⟨by rw [e 27 (by decide) (by decide)]; exact h1, by rw [ei, h2, nk_add], l, r, h3, h4, by rw [e 28 (by decide) (by decide)]; exact h5, by rw [e 29 (by decide) (by decide)]; exact h6, h7.cg a (fun a a1 a2 j hj => lo a a1 a2 j (by omega)), h8.cg b (fun a a1 a2 j hj => lo a a1 a2 j (by omega))⟩
  | sub a b iha ihb =>
    intro k h
    obtain ⟨h1, h2, l, r, h3, h4, h5, h6, h7, h8⟩ := h
    exact ⟨by rw [e 27 (by decide) (by decide)]; exact h1, by rw [ei, h2, nk_add], l, r, h3, h4, by rw [e 28 (by decide) (by decide)]; exact h5, by rw [e 29 (by decide) (by decide)]; exact h6, h7.cg a (fun a a1 a2 j hj => lo a a1 a2 j (by omega)), h8.cg b (fun a a1 a2 j hj => lo a a1 a2 j (by omega))⟩
  | num _ => intro k h; exact h
  | mulL _ _ _ => intro k h; exact h
  | mulR _ _ _ => intro k h; exact h
/-- what reading a term may change: nodes from c0 on, the token, the number of kinds -/
def Tf (c0 : Nat) (F F' : Nat → Nat → Int32) : Prop := (∀ x, x < 24 ∨ x = 25 ∨ 30 < x → F' x = F x) ∧ (∀ i, i ≠ 3 → i ≠ 4 → i ≠ 10 → F' 24 i = F 24 i) ∧ ∀ a, 27 ≤ a → a ≤ 30 → ∀ i, i < c0 → F' a i = F a i
theorem Tf.rf {c0 : Nat} {F : Nat → Nat → Int32} : Tf c0 F F := ⟨fun _ _ => rfl, fun _ _ _ _ => rfl, fun _ _ _ _ _ => rfl⟩
theorem Tf.tr {c0 c1 : Nat} {F F1 F2 : Nat → Nat → Int32} (a : Tf c0 F F1) (b : Tf c1 F1 F2) (hc : c0 ≤ c1) : Tf c0 F F2 := ⟨fun x hx => (b.1 x hx).trans (a.1 x hx), fun i h1 h2 h3 => (b.2.1 i h1 h2 h3).trans (a.2.1 i h1 h2 h3), fun x h1 h2 i hi => (b.2.2 x h1 h2 i (by omega)).trans (a.2.2 x h1 h2 i hi)⟩
theorem Rs.tf {F F' : Nat → Nat → Int32} (s : Rs F F') (c0 : Nat) : Tf c0 F F' := ⟨fun x hx => s.1 x (by omega), fun i h1 h2 _ => s.2 i h1 h2, fun a a1 a2 i _ => by rw [s.1 a (by omega)]⟩
theorem RT.tf {t : Nat → Int32} {n c0 : Nat} {F F' : Nat → Nat → Int32} (h : RT t n F) (s : Tf c0 F F') : RT t n F' := ⟨by rw [s.2.1 1 (by decide) (by decide) (by decide)]; exact h.1, h.2.1, by rw [s.1 25 (by decide)]; exact h.2.2⟩
section CTE
variable {d : Nat} {h : am_H} {F : Nat → Nat → Int32} {J : Nat → Nat → Int64} {V : Nat → Nat → Value} {Q : am_Q}
set_option maxRecDepth 20000 in
theorem c_hasNode {x : Int32} {cnt : Nat} (h5 : F 26 5 = nI cnt) (K : Q (some (.int (b2i (!decide (x < 0) && decide (x < nI cnt))))) (ov h F J V)) : am_cl (d + 1) 157 [.ref 26, .int x] (ov h F J V) Q := by
  simp only [isO_c, ax0, ex_cons, am_get, upz_at, true_and, and_true, Nat.reduceAdd, Nat.reduceLeDiff, Nat.reduceEqDiff, Nat.reduceSub, Int32.reduceOfInt, Int32.reduceAdd, Int32.reduceMul, Int32.reduceSub, ↓reduceIte, Int32.reduceLT, Int32.reduceLE, Int32.reduceToNatClampNeg, Nat.reduceMod, Nat.reduceLT, List.length_cons, List.length_nil, eq_self, true_or, or_true, and_self, implies_true, not_true_eq_false, not_false_eq_true, false_implies, true_implies, forall_const, st_aloadx, st_freturnx, st_getfieldx, st_gotox, st_goto_wx, st_iconstx, st_ifCondx, st_if_icmpx, st_iloadx, kb_Tree_hasNode_0, og_26_5, jx_Tree_hasNode_16, kb_Tree_hasNode_16, jx_Tree_hasNode_17, kb_Tree_hasNode_17, oa_26, cx_Tree_hasNode, h5]
  refine ⟨fun w => ?_, fun w => ⟨fun y => ?_, fun y => ?_⟩⟩
  · rw [decide_eq_true w] at K; exact K
  · rw [decide_eq_false w, decide_eq_false (Int32.not_lt.mpr y)] at K; exact K
  · rw [decide_eq_false w, decide_eq_true (Int32.not_le.mp y)] at K; exact K
set_option maxRecDepth 20000 in
theorem c_hasNode1 (K : Q (some (.int 0)) (ov h F J V)) : am_cl (d + 1) 157 [.ref 26, .int (-1)] (ov h F J V) Q := by
  simp only [isO_c, ax0, ex_cons, am_get, upz_at, true_and, and_true, Nat.reduceAdd, Nat.reduceLeDiff, Nat.reduceEqDiff, Nat.reduceSub, Int32.reduceOfInt, Int32.reduceAdd, Int32.reduceMul, Int32.reduceSub, ↓reduceIte, Int32.reduceLT, Int32.reduceLE, Int32.reduceToNatClampNeg, Nat.reduceMod, Nat.reduceLT, List.length_cons, List.length_nil, eq_self, true_or, or_true, and_self, implies_true, not_true_eq_false, not_false_eq_true, false_implies, true_implies, forall_const, st_aloadx, st_freturnx, st_getfieldx, st_gotox, st_goto_wx, st_iconstx, st_ifCondx, st_if_icmpx, st_iloadx, kb_Tree_hasNode_0, og_26_5, jx_Tree_hasNode_16, kb_Tree_hasNode_16, jx_Tree_hasNode_17, kb_Tree_hasNode_17, oa_26, cx_Tree_hasNode]
  exact K
theorem c_hasNodeN {i cnt : Nat} (h5 : F 26 5 = nI cnt) (hi : i < cnt) (hc : cnt ≤ 48) (K : Q (some (.int 1)) (ov h F J V)) : am_cl (d + 1) 157 [.ref 26, .int (nI i)] (ov h F J V) Q := by
  refine c_hasNode h5 ?_
  rw [decide_eq_false (show ¬ nI i < 0 by rw [nk_neg (by omega)]; exact id), decide_eq_true (show nI i < nI cnt by rw [nk_lt (by omega) (by omega)]; exact hi)]
  exact K
set_option maxRecDepth 20000 in
theorem c_make {s l r : Int32} {cnt : Nat} (h5 : F 26 5 = nI cnt) (hc : cnt < 48) (K : ∀ F', (∀ x, x ≠ 26 → x ≠ 27 → x ≠ 28 → x ≠ 29 → x ≠ 30 → F' x = F x) → F' 26 5 = nI (cnt + 1) → F' 27 = upz (F 27) cnt s → F' 28 = upz (F 28) cnt l → F' 29 = upz (F 29) cnt r → F' 30 = upz (F 30) cnt 0 → Q (some (.int (nI cnt))) (ov h F' J V)) : am_cl (d + 1) 160 [.ref 26, .int s, .int l, .int r] (ov h F J V) Q := by
  simp only [isO_c, ax0, ex_cons, am_get, upz_at, true_and, and_true, Nat.reduceAdd, Nat.reduceLeDiff, Nat.reduceEqDiff, Nat.reduceSub, Int32.reduceOfInt, Int32.reduceAdd, Int32.reduceMul, Int32.reduceSub, ↓reduceIte, Int32.reduceLT, Int32.reduceLE, Int32.reduceToNatClampNeg, Nat.reduceMod, Nat.reduceLT, List.length_cons, List.length_nil, eq_self, true_or, or_true, and_self, implies_true, not_true_eq_false, not_false_eq_true, false_implies, true_implies, forall_const, st_aloadx, st_dupx, st_dup_1x, st_getfieldx, st_iaddx, st_iastorex, st_iconstx, st_if_icmpx, st_iloadx, st_ireturnx, st_istorex, st_putfieldx, am_put, am_nlg, kb_Tree_make_0, og_26_5, jx_Tree_make_11, kb_Tree_make_11, og_26_0, og_26_1, og_26_2, og_26_3, op_26_5, oa_26, os_26, oa_27, ow_27, os_27, oa_28, ow_28, os_28, oa_29, ow_29, os_29, oa_30, ow_30, os_30, cx_Tree_make, h5, show (nI cnt < (48 : Int32)) = (cnt < 48) from nk_lt (b := 48) (by omega) (by decide), hc, nk_neg (show cnt < 2147483648 by omega), nk_cl (show cnt < 2147483648 by omega), nk_succ]
  refine K _ (fun x x1 x2 x3 x4 x5 => ?_) ?_ ?_ ?_ ?_ ?_
  · rw [upz_ne _ _ x1, upz_ne _ _ x5, upz_ne _ _ x4, upz_ne _ _ x3, upz_ne _ _ x2]
  · rw [upz_eq, upz_eq]
  · rw [upz_ne _ _ (by decide), upz_ne _ _ (by decide), upz_ne _ _ (by decide), upz_ne _ _ (by decide), upz_eq]
  · rw [upz_ne _ _ (by decide), upz_ne _ _ (by decide), upz_ne _ _ (by decide), upz_eq]
  · rw [upz_ne _ _ (by decide), upz_ne _ _ (by decide), upz_eq]
  · rw [upz_ne _ _ (by decide), upz_eq]
set_option maxRecDepth 20000 in
theorem c_join0 {s : Int32} {i : Nat} (K : Q (some (.int (-1))) (ov h F J V)) : am_cl (d + 2) 159 [.ref 26, .int s, .int (nI i), .int (-1)] (ov h F J V) Q := by
  simp only [isO_c, ax0, ex_cons, am_get, upz_at, true_and, and_true, Nat.reduceAdd, Nat.reduceLeDiff, Nat.reduceEqDiff, Nat.reduceSub, Int32.reduceOfInt, Int32.reduceAdd, Int32.reduceMul, Int32.reduceSub, ↓reduceIte, Int32.reduceLT, Int32.reduceLE, Int32.reduceToNatClampNeg, Nat.reduceMod, Nat.reduceLT, List.length_cons, List.length_nil, eq_self, true_or, or_true, and_self, implies_true, not_true_eq_false, not_false_eq_true, false_implies, true_implies, forall_const, st_aloadx, st_gotox, st_ifCondx, st_iloadx, st_in2, st_in4, kb_Tree_join_0, oo_26, oa_26, cx_Tree_join]
  simp only [isO_c, ax0, ex_cons, am_get, upz_at, true_and, and_true, Nat.reduceAdd, Nat.reduceLeDiff, Nat.reduceEqDiff, Nat.reduceSub, Int32.reduceOfInt, Int32.reduceAdd, Int32.reduceMul, Int32.reduceSub, ↓reduceIte, Int32.reduceLT, Int32.reduceLE, Int32.reduceToNatClampNeg, Nat.reduceMod, Nat.reduceLT, List.length_cons, List.length_nil, eq_self, true_or, or_true, and_self, implies_true, not_true_eq_false, not_false_eq_true, false_implies, true_implies, forall_const, st_aloadx, st_freturnx, st_getfieldx, st_gotox, st_goto_wx, st_iconstx, st_ifCondx, st_if_icmpx, st_iloadx, kb_Tree_hasNode_0, og_26_5, jx_Tree_hasNode_16, kb_Tree_hasNode_16, jx_Tree_hasNode_17, kb_Tree_hasNode_17, oa_26, cx_Tree_hasNode]
  have z : am_W kc_Tree_join (am_cl (d + 1)) Q 26 [.ref 26, .int s, .int (nI i), .int (-1)] [] (ov h F J V) := by
    simp only [isO_c, ax0, ex_cons, am_get, upz_at, true_and, and_true, Nat.reduceAdd, Nat.reduceLeDiff, Nat.reduceEqDiff, Nat.reduceSub, Int32.reduceOfInt, Int32.reduceAdd, Int32.reduceMul, Int32.reduceSub, ↓reduceIte, Int32.reduceLT, Int32.reduceLE, Int32.reduceToNatClampNeg, Nat.reduceMod, Nat.reduceLT, List.length_cons, List.length_nil, eq_self, true_or, or_true, and_self, implies_true, not_true_eq_false, not_false_eq_true, false_implies, true_implies, forall_const, st_goto_wx, st_iconstx, st_ireturnx, jx_Tree_join_26, kb_Tree_join_26, jx_Tree_join_27, kb_Tree_join_27]
    exact K
  refine ⟨fun w => ?_, fun w => ⟨fun y => ?_, fun y => ?_⟩⟩
  · exact z
  · exact z
  · simp only [isO_c, ax0, ex_cons, am_get, upz_at, true_and, and_true, Nat.reduceAdd, Nat.reduceLeDiff, Nat.reduceEqDiff, Nat.reduceSub, Int32.reduceOfInt, Int32.reduceAdd, Int32.reduceMul, Int32.reduceSub, ↓reduceIte, Int32.reduceLT, Int32.reduceLE, Int32.reduceToNatClampNeg, Nat.reduceMod, Nat.reduceLT, List.length_cons, List.length_nil, eq_self, true_or, or_true, and_self, implies_true, not_true_eq_false, not_false_eq_true, false_implies, true_implies, forall_const, st_aloadx, st_gotox, st_ifCondx, st_iloadx, st_in2, st_in4, kb_Tree_join_0, oo_26, oa_26]
    refine c_hasNode1 ?_
    simp only [isO_c, ax0, ex_cons, am_get, upz_at, true_and, and_true, Nat.reduceAdd, Nat.reduceLeDiff, Nat.reduceEqDiff, Nat.reduceSub, Int32.reduceOfInt, Int32.reduceAdd, Int32.reduceMul, Int32.reduceSub, ↓reduceIte, Int32.reduceLT, Int32.reduceLE, Int32.reduceToNatClampNeg, Nat.reduceMod, Nat.reduceLT, List.length_cons, List.length_nil, eq_self, true_or, or_true, and_self, implies_true, not_true_eq_false, not_false_eq_true, false_implies, true_implies, forall_const, st_aloadx, st_gotox, st_ifCondx, st_iloadx, st_in2, st_in4, kb_Tree_join_0, oo_26, oa_26]
    exact z
set_option maxRecDepth 20000 in
theorem c_tjoin {s : Int32} {l r cnt : Nat} (h5 : F 26 5 = nI cnt) (hc : cnt < 48) (hl : l < cnt) (hr : r < cnt) (K : ∀ F', (∀ x, x ≠ 26 → x ≠ 27 → x ≠ 28 → x ≠ 29 → x ≠ 30 → F' x = F x) → F' 26 5 = nI (cnt + 1) → F' 27 = upz (F 27) cnt s → F' 28 = upz (F 28) cnt (nI l) → F' 29 = upz (F 29) cnt (nI r) → F' 30 = upz (F 30) cnt 0 → Q (some (.int (nI cnt))) (ov h F' J V)) : am_cl (d + 2) 159 [.ref 26, .int s, .int (nI l), .int (nI r)] (ov h F J V) Q := by
  simp only [isO_c, ax0, ex_cons, am_get, upz_at, true_and, and_true, Nat.reduceAdd, Nat.reduceLeDiff, Nat.reduceEqDiff, Nat.reduceSub, Int32.reduceOfInt, Int32.reduceAdd, Int32.reduceMul, Int32.reduceSub, ↓reduceIte, Int32.reduceLT, Int32.reduceLE, Int32.reduceToNatClampNeg, Nat.reduceMod, Nat.reduceLT, List.length_cons, List.length_nil, eq_self, true_or, or_true, and_self, implies_true, not_true_eq_false, not_false_eq_true, false_implies, true_implies, forall_const, st_aloadx, st_gotox, st_ifCondx, st_iloadx, st_in2, st_in4, kb_Tree_join_0, oo_26, oa_26, cx_Tree_join]
  refine c_hasNodeN h5 hl (by omega) ?_
  simp only [isO_c, ax0, ex_cons, am_get, upz_at, true_and, and_true, Nat.reduceAdd, Nat.reduceLeDiff, Nat.reduceEqDiff, Nat.reduceSub, Int32.reduceOfInt, Int32.reduceAdd, Int32.reduceMul, Int32.reduceSub, ↓reduceIte, Int32.reduceLT, Int32.reduceLE, Int32.reduceToNatClampNeg, Nat.reduceMod, Nat.reduceLT, List.length_cons, List.length_nil, eq_self, true_or, or_true, and_self, implies_true, not_true_eq_false, not_false_eq_true, false_implies, true_implies, forall_const, st_aloadx, st_gotox, st_ifCondx, st_iloadx, st_in2, st_in4, kb_Tree_join_0, oo_26, oa_26]
  refine c_hasNodeN h5 hr (by omega) ?_
  simp only [isO_c, ax0, ex_cons, am_get, upz_at, true_and, and_true, Nat.reduceAdd, Nat.reduceLeDiff, Nat.reduceEqDiff, Nat.reduceSub, Int32.reduceOfInt, Int32.reduceAdd, Int32.reduceMul, Int32.reduceSub, ↓reduceIte, Int32.reduceLT, Int32.reduceLE, Int32.reduceToNatClampNeg, Nat.reduceMod, Nat.reduceLT, List.length_cons, List.length_nil, eq_self, true_or, or_true, and_self, implies_true, not_true_eq_false, not_false_eq_true, false_implies, true_implies, forall_const, st_aloadx, st_gotox, st_ifCondx, st_iloadx, st_in2, st_in4, kb_Tree_join_0, oo_26, oa_26]
  refine c_make h5 hc (fun F' a1 a2 a3 a4 a5 a6 => ?_)
  simp only [isO_c, ax0, ex_cons, am_get, upz_at, true_and, and_true, Nat.reduceAdd, Nat.reduceLeDiff, Nat.reduceEqDiff, Nat.reduceSub, Int32.reduceOfInt, Int32.reduceAdd, Int32.reduceMul, Int32.reduceSub, ↓reduceIte, Int32.reduceLT, Int32.reduceLE, Int32.reduceToNatClampNeg, Nat.reduceMod, Nat.reduceLT, List.length_cons, List.length_nil, eq_self, true_or, or_true, and_self, implies_true, not_true_eq_false, not_false_eq_true, false_implies, true_implies, forall_const, st_aloadx, st_gotox, st_ifCondx, st_iloadx, st_in2, st_in4, st_ireturnx, kb_Tree_join_0, oo_26, jx_Tree_join_27, kb_Tree_join_27, oa_26]
  exact K F' a1 a2 a3 a4 a5 a6
set_option maxRecDepth 20000 in
theorem c_negate1 {v : Int32} (K : Q none (ov h F J V)) : am_cl (d + 2) 161 [.ref 26, .int (-1), .int v] (ov h F J V) Q := by
  simp only [isO_c, ax0, ex_cons, am_get, upz_at, true_and, and_true, Nat.reduceAdd, Nat.reduceLeDiff, Nat.reduceEqDiff, Nat.reduceSub, Int32.reduceOfInt, Int32.reduceAdd, Int32.reduceMul, Int32.reduceSub, ↓reduceIte, Int32.reduceLT, Int32.reduceLE, Int32.reduceToNatClampNeg, Nat.reduceMod, Nat.reduceLT, List.length_cons, List.length_nil, eq_self, true_or, or_true, and_self, implies_true, not_true_eq_false, not_false_eq_true, false_implies, true_implies, forall_const, st_aloadx, st_dup2x, st_dup2_1x, st_getfieldx, st_goto_wx, st_iaddx, st_ialoadx, st_iastorex, st_ifCondx, st_iloadx, st_in2, kb_Tree_negate_0, oo_26, og_26_3, oa_26, oa_30, or_30, ow_30, os_30, cx_Tree_negate]
  refine c_hasNode1 ?_
  simp only [isO_c, ax0, ex_cons, am_get, upz_at, true_and, and_true, Nat.reduceAdd, Nat.reduceLeDiff, Nat.reduceEqDiff, Nat.reduceSub, Int32.reduceOfInt, Int32.reduceAdd, Int32.reduceMul, Int32.reduceSub, ↓reduceIte, Int32.reduceLT, Int32.reduceLE, Int32.reduceToNatClampNeg, Nat.reduceMod, Nat.reduceLT, List.length_cons, List.length_nil, eq_self, true_or, or_true, and_self, implies_true, not_true_eq_false, not_false_eq_true, false_implies, true_implies, forall_const, st_aloadx, st_dup2x, st_dup2_1x, st_getfieldx, st_goto_wx, st_iaddx, st_ialoadx, st_iastorex, st_ifCondx, st_iloadx, st_in2, st_return_x, kb_Tree_negate_0, oo_26, og_26_3, jx_Tree_negate_18, kb_Tree_negate_18, oa_26, oa_30, or_30, ow_30, os_30]
  exact K
set_option maxRecDepth 20000 in
theorem c_negate {i cnt : Nat} {v : Int32} (h5 : F 26 5 = nI cnt) (hi : i < cnt) (hc : cnt ≤ 48) (K : Q none (ov h (upz F 30 (upz (F 30) i (F 30 i + v))) J V)) : am_cl (d + 2) 161 [.ref 26, .int (nI i), .int v] (ov h F J V) Q := by
  simp only [isO_c, ax0, ex_cons, am_get, upz_at, true_and, and_true, Nat.reduceAdd, Nat.reduceLeDiff, Nat.reduceEqDiff, Nat.reduceSub, Int32.reduceOfInt, Int32.reduceAdd, Int32.reduceMul, Int32.reduceSub, ↓reduceIte, Int32.reduceLT, Int32.reduceLE, Int32.reduceToNatClampNeg, Nat.reduceMod, Nat.reduceLT, List.length_cons, List.length_nil, eq_self, true_or, or_true, and_self, implies_true, not_true_eq_false, not_false_eq_true, false_implies, true_implies, forall_const, st_aloadx, st_dup2x, st_dup2_1x, st_getfieldx, st_goto_wx, st_iaddx, st_ialoadx, st_iastorex, st_ifCondx, st_iloadx, st_in2, kb_Tree_negate_0, oo_26, og_26_3, oa_26, oa_30, or_30, ow_30, os_30, cx_Tree_negate]
  refine c_hasNodeN h5 hi hc ?_
  simp only [isO_c, ax0, ex_cons, am_get, upz_at, true_and, and_true, Nat.reduceAdd, Nat.reduceLeDiff, Nat.reduceEqDiff, Nat.reduceSub, Int32.reduceOfInt, Int32.reduceAdd, Int32.reduceMul, Int32.reduceSub, ↓reduceIte, Int32.reduceLT, Int32.reduceLE, Int32.reduceToNatClampNeg, Nat.reduceMod, Nat.reduceLT, List.length_cons, List.length_nil, eq_self, true_or, or_true, and_self, implies_true, not_true_eq_false, not_false_eq_true, false_implies, true_implies, forall_const, st_aloadx, st_dup2x, st_dup2_1x, st_getfieldx, st_goto_wx, st_iaddx, st_ialoadx, st_iastorex, st_ifCondx, st_iloadx, st_in2, st_return_x, kb_Tree_negate_0, oo_26, og_26_3, jx_Tree_negate_18, kb_Tree_negate_18, oa_26, oa_30, or_30, ow_30, os_30, nk_neg (show i < 2147483648 by omega), nk_cl (show i < 2147483648 by omega), show i < 48 by omega]
  exact K
end CTE
