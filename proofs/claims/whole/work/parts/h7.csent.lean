/-! ===== the class: a fresh sentence; kinds of nodes ===== -/
def kdT : eT → Int32
  | .var j => nI j
  | _ => -1
/-- a heap with a sentence more -/
def nsH (h : am_H) (E : am_E) (l : List Nat) (fs fb : Nat → Int64) : am_H := am_new (am_new (am_new (am_new h E 9) (aI 1 (am_ar l.length (fun i => nI (l.getD i 0)))) l.length) (aJ (am_ar 4 fs)) 4) (aJ (am_ar 4 fb)) 4
theorem nw_hd (h : am_H) (E : am_E) (n : Nat) : (am_new h E n).1 h.2.1 = E := if_pos rfl
theorem nw_lo {h : am_H} {E : am_E} {n x : Nat} (hx : x < h.2.1) : (am_new h E n).1 x = h.1 x := if_neg (by omega)
theorem nw_c (h : am_H) (E : am_E) (n : Nat) : (am_new h E n).2.1 = h.2.1 + 1 := rfl
theorem nw_set {h : am_H} {E E' : am_E} {n x : Nat} (hx : x < h.2.1) : am_set (am_new h E n) x E' = am_new (am_set h x E') E n := by
  refine Prod.ext (funext fun y => ?_) rfl
  show (if y = x then E' else if y = h.2.1 then E else h.1 y) = if y = h.2.1 then E else if y = x then E' else h.1 y
  by_cases z : y = x
  · rw [if_pos z, if_neg (show ¬ y = h.2.1 by omega), if_pos z]
  · rw [if_neg z]
    by_cases w : y = h.2.1
    · rw [if_pos w, if_pos w]
    · rw [if_neg w, if_neg w, if_neg z]
theorem ns_c (h : am_H) (E : am_E) (l : List Nat) (fs fb : Nat → Int64) : (nsH h E l fs fb).2.1 = h.2.1 + 4 := rfl
theorem ns_s (h : am_H) (E : am_E) (l : List Nat) (fs fb : Nat → Int64) : (nsH h E l fs fb).2.2 = h.2.2 + 9 + l.length + 4 + 4 := rfl
theorem ns_0 (h : am_H) (E : am_E) (l : List Nat) (fs fb : Nat → Int64) : (nsH h E l fs fb).1 h.2.1 = E := by
  unfold nsH
  rw [nw_lo (by simp only [nw_c]; omega), nw_lo (by simp only [nw_c]; omega), nw_lo (by simp only [nw_c]; omega), nw_hd]
theorem ns_1 (h : am_H) (E : am_E) (l : List Nat) (fs fb : Nat → Int64) : (nsH h E l fs fb).1 (h.2.1 + 1) = aI 1 (am_ar l.length (fun i => nI (l.getD i 0))) := by
  unfold nsH
  rw [nw_lo (by simp only [nw_c]; omega), nw_lo (by simp only [nw_c]; omega)]
  exact if_pos rfl
theorem ns_2 (h : am_H) (E : am_E) (l : List Nat) (fs fb : Nat → Int64) : (nsH h E l fs fb).1 (h.2.1 + 2) = aJ (am_ar 4 fs) := by
  unfold nsH
  rw [nw_lo (by simp only [nw_c]; omega)]
  exact if_pos rfl
theorem ns_3 (h : am_H) (E : am_E) (l : List Nat) (fs fb : Nat → Int64) : (nsH h E l fs fb).1 (h.2.1 + 3) = aJ (am_ar 4 fb) := if_pos rfl
theorem ns_lo {h : am_H} {E : am_E} {l : List Nat} {fs fb : Nat → Int64} {x : Nat} (hx : x < h.2.1) : (nsH h E l fs fb).1 x = h.1 x := by
  unfold nsH
  rw [nw_lo (by simp only [nw_c]; omega), nw_lo (by simp only [nw_c]; omega), nw_lo (by simp only [nw_c]; omega), nw_lo hx]
theorem ns_S0 (h : am_H) (E E' : am_E) (l : List Nat) (fs fb : Nat → Int64) : am_set (nsH h E l fs fb) h.2.1 E' = nsH h E' l fs fb := by
  unfold nsH
  rw [nw_set (by simp only [nw_c]; omega), nw_set (by simp only [nw_c]; omega), nw_set (by simp only [nw_c]; omega), set_new]
theorem ns_S2 (h : am_H) (E : am_E) (l : List Nat) (fs fs' fb : Nat → Int64) : am_set (nsH h E l fs fb) (h.2.1 + 2) (aJ (am_ar 4 fs')) = nsH h E l fs' fb := by
  unfold nsH
  rw [nw_set (by simp only [nw_c]; omega)]
  rw [show h.2.1 + 2 = (am_new (am_new h E 9) (aI 1 (am_ar l.length (fun i => nI (l.getD i 0)))) l.length).2.1 from rfl, set_new]
theorem ns_S3 (h : am_H) (E : am_E) (l : List Nat) (fs fb fb' : Nat → Int64) : am_set (nsH h E l fs fb) (h.2.1 + 3) (aJ (am_ar 4 fb')) = nsH h E l fs fb' := by
  unfold nsH
  rw [show h.2.1 + 3 = (am_new (am_new (am_new h E 9) (aI 1 (am_ar l.length (fun i => nI (l.getD i 0)))) l.length) (aJ (am_ar 4 fs)) 4).2.1 from rfl, set_new]
theorem pf6r {v0 v1 v2 v3 v4 v5 v6 v7 v8 x : Value} {K : am_E → Prop} : am_pf 6 6 x K (aO 6 [v0, v1, v2, v3, v4, v5, v6, v7, v8]) = K (aO 6 [v0, v1, v2, v3, v4, v5, x, v7, v8]) ∧ am_pf 6 7 x K (aO 6 [v0, v1, v2, v3, v4, v5, v6, v7, v8]) = K (aO 6 [v0, v1, v2, v3, v4, v5, v6, x, v8]) ∧ am_pf 6 8 x K (aO 6 [v0, v1, v2, v3, v4, v5, v6, v7, v8]) = K (aO 6 [v0, v1, v2, v3, v4, v5, v6, v7, x]) := by
  refine ⟨?_, ?_, ?_⟩ <;> exact propext ⟨fun z => z.2.2, fun z => ⟨rfl, by simp, z⟩⟩
section CSN
variable {d : Nat} {h : am_H} {F : Nat → Nat → Int32} {J : Nat → Nat → Int64} {V : Nat → Nat → Value} {Q : am_Q}
set_option maxRecDepth 20000 in
theorem c_kindAt1 (K : Q (some (.int (-1))) (ov h F J V)) : am_cl (d + 2) 162 [.ref 26, .int (-1)] (ov h F J V) Q := by
  simp only [isO_c, ax0, ex_cons, am_get, upz_at, true_and, and_true, Nat.reduceAdd, Nat.reduceLeDiff, Nat.reduceEqDiff, Nat.reduceSub, Int32.reduceOfInt, Int32.reduceAdd, Int32.reduceMul, Int32.reduceSub, ↓reduceIte, Int32.reduceLT, Int32.reduceLE, Int32.reduceToNatClampNeg, Nat.reduceMod, Nat.reduceLT, List.length_cons, List.length_nil, eq_self, true_or, or_true, and_self, implies_true, not_true_eq_false, not_false_eq_true, false_implies, true_implies, forall_const, st_aloadx, st_getfieldx, st_gotox, st_ialoadx, st_iconstx, st_ifCondx, st_if_icmpx, st_iloadx, st_in2, kb_Tree_kindAt_0, oo_26, og_26_3, og_26_0, oa_26, oa_27, or_27, oa_30, or_30, cx_Tree_kindAt]
  refine c_hasNode1 ?_
  simp only [isO_c, ax0, ex_cons, am_get, upz_at, true_and, and_true, Nat.reduceAdd, Nat.reduceLeDiff, Nat.reduceEqDiff, Nat.reduceSub, Int32.reduceOfInt, Int32.reduceAdd, Int32.reduceMul, Int32.reduceSub, ↓reduceIte, Int32.reduceLT, Int32.reduceLE, Int32.reduceToNatClampNeg, Nat.reduceMod, Nat.reduceLT, List.length_cons, List.length_nil, eq_self, true_or, or_true, and_self, implies_true, not_true_eq_false, not_false_eq_true, false_implies, true_implies, forall_const, st_aloadx, st_getfieldx, st_gotox, st_goto_wx, st_ialoadx, st_iconstx, st_ifCondx, st_if_icmpx, st_iloadx, st_in2, st_ireturnx, kb_Tree_kindAt_0, oo_26, og_26_3, og_26_0, jx_Tree_kindAt_37, kb_Tree_kindAt_37, jx_Tree_kindAt_38, kb_Tree_kindAt_38, oa_26, oa_27, or_27, oa_30, or_30]
  exact K
theorem nj_ge {j : Nat} (h : j < 8) : ¬ (8 : Int32) ≤ nI j := fun z => by
  have : 8 ≤ j := (nk_le (a := 8) (b := j) (by decide) (by omega)).mp z
  omega
set_option maxRecDepth 20000 in
theorem c_kindAtN {t : eT} {i cnt : Nat} (hw : wfT t) (hk : wsT t ≤ 1000) (hT : TN F t 0 i) (hi : i < cnt) (h5 : F 26 5 = nI cnt) (hc : cnt ≤ 48) (K : Q (some (.int (kdT t))) (ov h F J V)) : am_cl (d + 2) 162 [.ref 26, .int (nI i)] (ov h F J V) Q := by
  simp only [isO_c, ax0, ex_cons, am_get, upz_at, true_and, and_true, Nat.reduceAdd, Nat.reduceLeDiff, Nat.reduceEqDiff, Nat.reduceSub, Int32.reduceOfInt, Int32.reduceAdd, Int32.reduceMul, Int32.reduceSub, ↓reduceIte, Int32.reduceLT, Int32.reduceLE, Int32.reduceToNatClampNeg, Nat.reduceMod, Nat.reduceLT, List.length_cons, List.length_nil, eq_self, true_or, or_true, and_self, implies_true, not_true_eq_false, not_false_eq_true, false_implies, true_implies, forall_const, st_aloadx, st_getfieldx, st_gotox, st_ialoadx, st_iconstx, st_ifCondx, st_if_icmpx, st_iloadx, st_in2, kb_Tree_kindAt_0, oo_26, og_26_3, og_26_0, oa_26, oa_27, or_27, oa_30, or_30, cx_Tree_kindAt]
  refine c_hasNodeN h5 hi hc ?_
  cases t with
  | var j =>
    have hw : j < 8 := hw
    simp only [isO_c, ax0, ex_cons, am_get, upz_at, true_and, and_true, Nat.reduceAdd, Nat.reduceLeDiff, Nat.reduceEqDiff, Nat.reduceSub, Int32.reduceOfInt, Int32.reduceAdd, Int32.reduceMul, Int32.reduceSub, ↓reduceIte, Int32.reduceLT, Int32.reduceLE, Int32.reduceToNatClampNeg, Nat.reduceMod, Nat.reduceLT, List.length_cons, List.length_nil, eq_self, true_or, or_true, and_self, implies_true, not_true_eq_false, not_false_eq_true, false_implies, true_implies, forall_const, st_aloadx, st_getfieldx, st_gotox, st_ialoadx, st_iconstx, st_ifCondx, st_if_icmpx, st_iloadx, st_in2, kb_Tree_kindAt_0, oo_26, og_26_3, og_26_0, oa_26, oa_27, or_27, oa_30, or_30, nk_neg (show i < 2147483648 by omega), nk_cl (show i < 2147483648 by omega), show i < 48 by omega, hT.1, hT.2.2, show nI 0 = (0 : Int32) from rfl, nj_ge hw]
    simp only [isO_c, ax0, ex_cons, am_get, upz_at, true_and, and_true, Nat.reduceAdd, Nat.reduceLeDiff, Nat.reduceEqDiff, Nat.reduceSub, Int32.reduceOfInt, Int32.reduceAdd, Int32.reduceMul, Int32.reduceSub, ↓reduceIte, Int32.reduceLT, Int32.reduceLE, Int32.reduceToNatClampNeg, Nat.reduceMod, Nat.reduceLT, List.length_cons, List.length_nil, eq_self, true_or, or_true, and_self, implies_true, not_true_eq_false, not_false_eq_true, false_implies, true_implies, forall_const, st_ireturnx, jx_Tree_kindAt_38, kb_Tree_kindAt_38]
    exact K
  | neg a =>
    have hk : 4 + wsT a ≤ 1000 := hk
    obtain ⟨m, m1, m2, m3⟩ := TN.pos a (k := 1) hw (Nat.le_refl _) (by omega) hT
    simp only [isO_c, ax0, ex_cons, am_get, upz_at, true_and, and_true, Nat.reduceAdd, Nat.reduceLeDiff, Nat.reduceEqDiff, Nat.reduceSub, Int32.reduceOfInt, Int32.reduceAdd, Int32.reduceMul, Int32.reduceSub, ↓reduceIte, Int32.reduceLT, Int32.reduceLE, Int32.reduceToNatClampNeg, Nat.reduceMod, Nat.reduceLT, List.length_cons, List.length_nil, eq_self, true_or, or_true, and_self, implies_true, not_true_eq_false, not_false_eq_true, false_implies, true_implies, forall_const, st_aloadx, st_getfieldx, st_gotox, st_goto_wx, st_ialoadx, st_iconstx, st_ifCondx, st_if_icmpx, st_iloadx, st_in2, st_ireturnx, kb_Tree_kindAt_0, oo_26, og_26_3, og_26_0, jx_Tree_kindAt_37, kb_Tree_kindAt_37, jx_Tree_kindAt_38, kb_Tree_kindAt_38, oa_26, oa_27, or_27, oa_30, or_30, nk_neg (show i < 2147483648 by omega), nk_cl (show i < 2147483648 by omega), show i < 48 by omega, m3, show ¬ nI m = (0 : Int32) from nk_ne0 (by omega) (by omega)]
    exact K
  | add a b =>
    simp only [isO_c, ax0, ex_cons, am_get, upz_at, true_and, and_true, Nat.reduceAdd, Nat.reduceLeDiff, Nat.reduceEqDiff, Nat.reduceSub, Int32.reduceOfInt, Int32.reduceAdd, Int32.reduceMul, Int32.reduceSub, ↓reduceIte, Int32.reduceLT, Int32.reduceLE, Int32.reduceToNatClampNeg, Nat.reduceMod, Nat.reduceLT, List.length_cons, List.length_nil, eq_self, true_or, or_true, and_self, implies_true, not_true_eq_false, not_false_eq_true, false_implies, true_implies, forall_const, st_aloadx, st_getfieldx, st_gotox, st_goto_wx, st_ialoadx, st_iconstx, st_ifCondx, st_if_icmpx, st_iloadx, st_in2, st_ireturnx, kb_Tree_kindAt_0, oo_26, og_26_3, og_26_0, jx_Tree_kindAt_37, kb_Tree_kindAt_37, jx_Tree_kindAt_38, kb_Tree_kindAt_38, oa_26, oa_27, or_27, oa_30, or_30, nk_neg (show i < 2147483648 by omega), nk_cl (show i < 2147483648 by omega), show i < 48 by omega, hT.1, hT.2.1, show nI 0 = (0 : Int32) from rfl, show (8 : Int32) ≤ 8 from by decide]
    exact K
  | sub a b =>
    simp only [isO_c, ax0, ex_cons, am_get, upz_at, true_and, and_true, Nat.reduceAdd, Nat.reduceLeDiff, Nat.reduceEqDiff, Nat.reduceSub, Int32.reduceOfInt, Int32.reduceAdd, Int32.reduceMul, Int32.reduceSub, ↓reduceIte, Int32.reduceLT, Int32.reduceLE, Int32.reduceToNatClampNeg, Nat.reduceMod, Nat.reduceLT, List.length_cons, List.length_nil, eq_self, true_or, or_true, and_self, implies_true, not_true_eq_false, not_false_eq_true, false_implies, true_implies, forall_const, st_aloadx, st_getfieldx, st_gotox, st_goto_wx, st_ialoadx, st_iconstx, st_ifCondx, st_if_icmpx, st_iloadx, st_in2, st_ireturnx, kb_Tree_kindAt_0, oo_26, og_26_3, og_26_0, jx_Tree_kindAt_37, kb_Tree_kindAt_37, jx_Tree_kindAt_38, kb_Tree_kindAt_38, oa_26, oa_27, or_27, oa_30, or_30, nk_neg (show i < 2147483648 by omega), nk_cl (show i < 2147483648 by omega), show i < 48 by omega, hT.1, hT.2.1, show nI 0 = (0 : Int32) from rfl, show (8 : Int32) ≤ 9 from by decide]
    exact K
  | num _ => exact hw.elim
  | mulL _ _ => exact hw.elim
  | mulR _ _ => exact hw.elim
set_option maxRecDepth 20000 in
theorem c_sInit {l : List Nat} (hh : 108 ≤ h.2.1) (K : Q none (ov (nsH h (aO 6 [.int 0, .int (-1), .int 0, .int (-1), .int (-1), .int (-1), .ref (h.2.1 + 2), .ref (h.2.1 + 3), .ref (h.2.1 + 1)]) l (fun _ => 0) (fun _ => 0)) F J V)) : am_cl (d + 1) 124 [.ref h.2.1, .ref (h.2.1 + 1)] (ov (am_new (am_new h (.inl (6, am_dflt 6)) 9) (aI 1 (am_ar l.length (fun i => nI (l.getD i 0)))) l.length) F J V) Q := by
  have r2 : ∀ E T n, (ov (am_new (am_new h E 9) T n) F J V).1 h.2.1 = E := fun E T n => by rw [ov_hi (by omega), nw_lo (by simp only [nw_c]; omega), nw_hd]
  have s2 : ∀ E E' T n, am_set (ov (am_new (am_new h E 9) T n) F J V) h.2.1 E' = ov (am_new (am_new h E' 9) T n) F J V := fun E E' T n => by rw [ov_setH (by omega), nw_set (by simp only [nw_c]; omega), set_new]
  have r3 : ∀ E T n U m, (ov (am_new (am_new (am_new h E 9) T n) U m) F J V).1 h.2.1 = E := fun E T n U m => by rw [ov_hi (by omega), nw_lo (by simp only [nw_c]; omega), nw_lo (by simp only [nw_c]; omega), nw_hd]
  have s3 : ∀ E E' T n U m, am_set (ov (am_new (am_new (am_new h E 9) T n) U m) F J V) h.2.1 E' = ov (am_new (am_new (am_new h E' 9) T n) U m) F J V := fun E E' T n U m => by rw [ov_setH (by omega), nw_set (by simp only [nw_c]; omega), nw_set (by simp only [nw_c]; omega), set_new]
  have r4 : ∀ E T n U m W k, (ov (am_new (am_new (am_new (am_new h E 9) T n) U m) W k) F J V).1 h.2.1 = E := fun E T n U m W k => by rw [ov_hi (by omega), nw_lo (by simp only [nw_c]; omega), nw_lo (by simp only [nw_c]; omega), nw_lo (by simp only [nw_c]; omega), nw_hd]
  have s4 : ∀ E E' T n U m W k, am_set (ov (am_new (am_new (am_new (am_new h E 9) T n) U m) W k) F J V) h.2.1 E' = ov (am_new (am_new (am_new (am_new h E' 9) T n) U m) W k) F J V := fun E E' T n U m W k => by rw [ov_setH (by omega), nw_set (by simp only [nw_c]; omega), nw_set (by simp only [nw_c]; omega), nw_set (by simp only [nw_c]; omega), set_new]
  have d6 : (Sum.inl (6, am_dflt 6) : am_E) = aO 6 [.int 0, .int 0, .int 0, .int 0, .int 0, .int 0, .null, .null, .null] := rfl
  have n2 : ∀ E T n U m, am_new (ov (am_new (am_new h E 9) T n) F J V) U m = ov (am_new (am_new (am_new h E 9) T n) U m) F J V := fun E T n U m => ov_new (by simp only [nw_c]; omega)
  have n3 : ∀ E T n U m W k, am_new (ov (am_new (am_new (am_new h E 9) T n) U m) F J V) W k = ov (am_new (am_new (am_new (am_new h E 9) T n) U m) W k) F J V := fun E T n U m W k => ov_new (by simp only [nw_c]; omega)
  have c2 : ∀ E T n, (ov (am_new (am_new h E 9) T n) F J V).2.1 = h.2.1 + 2 := fun _ _ _ => rfl
  have c3 : ∀ E T n U m, (ov (am_new (am_new (am_new h E 9) T n) U m) F J V).2.1 = h.2.1 + 3 := fun _ _ _ _ _ => rfl
  have h23 : 23 ≤ h.2.1 := by omega
  rw [d6]
  simp only [isO_c, ax0, ex_cons, am_get, upz_at, true_and, and_true, Nat.reduceAdd, Nat.reduceLeDiff, Nat.reduceEqDiff, Nat.reduceSub, Int32.reduceOfInt, Int32.reduceAdd, Int32.reduceMul, Int32.reduceSub, ↓reduceIte, Int32.reduceLT, Int32.reduceLE, Int32.reduceToNatClampNeg, Nat.reduceMod, Nat.reduceLT, List.length_cons, List.length_nil, eq_self, true_or, or_true, and_self, implies_true, not_true_eq_false, not_false_eq_true, false_implies, true_implies, forall_const, st_aloadx, st_iconstx, st_invokedynamicx, st_invokedynamic_1x, st_monitorenterx, st_newarrayx, st_newarray_1, st_putfieldx, st_return_x, kb_Sentence_init_0, cx_Sentence_init, r2, s2, r3, s3, r4, s4, n2, n3, c2, c3, pf6, pf6r, h23, am_ar_repl]
  exact K
end CSN
