/-! ===== the constructors without others inside ===== -/
theorem st_newI {call : am_C} {J : Nat → am_K} {Q : am_Q} {x : Nat} {ls : List Value} {h : am_H} {K : am_K} {n : Int32} {st : List Value} : am_st call J Q (.newarray .int) x ls (.int n :: st) h K = (¬ n < 0 ∧ n.toNatClampNeg ≤ 65536 ∧ K ls (.ref h.2.1 :: st) (am_new h (aI 2 (List.replicate n.toNatClampNeg 0)) n.toNatClampNeg)) := (st_newarray_1 (t := .int) (by decide)).trans (oq_t (by decide))
theorem st_newZ {call : am_C} {J : Nat → am_K} {Q : am_Q} {x : Nat} {ls : List Value} {h : am_H} {K : am_K} {n : Int32} {st : List Value} : am_st call J Q (.newarray .boolean) x ls (.int n :: st) h K = (¬ n < 0 ∧ n.toNatClampNeg ≤ 65536 ∧ K ls (.ref h.2.1 :: st) (am_new h (aI 0 (List.replicate n.toNatClampNeg 0)) n.toNatClampNeg)) := (st_newarray_1 (t := .boolean) (by decide)).trans (oq_t (by decide))
section CIO
variable {d : Nat} {h : am_H} {Q : am_Q}
set_option maxRecDepth 20000 in
theorem c_fwInit {a : Nat} (K : Q none h) : am_cl (d + 1) 97 [.ref a] h Q := by
  simp only [isO_c, ax0, ex_cons, am_get, upz_at, true_and, and_true, Nat.reduceAdd, Nat.reduceLeDiff, Nat.reduceEqDiff, Nat.reduceSub, Int32.reduceOfInt, Int32.reduceAdd, Int32.reduceMul, Int32.reduceSub, ↓reduceIte, Int32.reduceLT, Int32.reduceLE, Int32.reduceToNatClampNeg, Nat.reduceMod, Nat.reduceLT, List.length_cons, List.length_nil, eq_self, true_or, or_true, and_self, implies_true, not_true_eq_false, not_false_eq_true, false_implies, true_implies, forall_const, st_aloadx, st_monitorenterx, st_return_x, kb_Fewest_init_0, cx_Fewest_init]
  exact K
set_option maxRecDepth 20000 in
theorem c_trInit {a : Nat} (h1 : h.1 a = aO 9 [.null, .null, .null, .null, .null, .int 0]) (h2 : 23 ≤ a) (h3 : a < h.2.1) (K : Q none (nwL (am_set h a (aO 9 [.ref h.2.1, .ref (h.2.1 + 1), .ref (h.2.1 + 2), .ref (h.2.1 + 3), .ref (h.2.1 + 4), .int 0])) [(aI 2 (am_ar 48 (fun _ => 0)), 48), (aI 2 (am_ar 48 (fun _ => 0)), 48), (aI 2 (am_ar 48 (fun _ => 0)), 48), (aI 2 (am_ar 48 (fun _ => 0)), 48), (aJ (am_ar 192 (fun _ => 0)), 192)])) : am_cl (d + 1) 156 [.ref a] h Q := by
  have b : h = nwL (am_set h a (aO 9 [.null, .null, .null, .null, .null, .int 0])) [] := (am_set_self h h1).symm
  have r : ∀ E l, (nwL (am_set h a E) l).1 a = E := fun E l => by rw [nwL_lo (h := am_set h a E) l h3]; exact am_set_eq _ _ _
  have s : ∀ E E' l, am_set (nwL (am_set h a E) l) a E' = nwL (am_set h a E') l := fun E E' l => by rw [nwL_set (h := am_set h a E) l h3, am_set_set]
  have c : ∀ E l, (nwL (am_set h a E) l).2.1 = h.2.1 + l.length := fun E l => by rw [nwL_c]; rfl
  rw [b]
  simp only [isO_c, ax0, ex_cons, am_get, upz_at, true_and, and_true, Nat.reduceAdd, Nat.reduceLeDiff, Nat.reduceEqDiff, Nat.reduceSub, Int32.reduceOfInt, Int32.reduceAdd, Int32.reduceMul, Int32.reduceSub, ↓reduceIte, Int32.reduceLT, Int32.reduceLE, Int32.reduceToNatClampNeg, Nat.reduceMod, Nat.reduceLT, List.length_cons, List.length_nil, eq_self, true_or, or_true, and_self, implies_true, not_true_eq_false, not_false_eq_true, false_implies, true_implies, forall_const, st_aloadx, st_iconstx, st_invokedynamicx, st_invokedynamic_1x, st_monitorenterx, st_newarrayx, st_newarray_1, st_return_x, kb_Tree_init_0, cx_Tree_init, r, s, c, nwL_snoc, pfG, List.set_cons_zero, List.set_cons_succ, h2, am_ar_repl, List.nil_append, List.cons_append, Nat.add_zero, st_newI, st_newB, st_newZ]
  exact K
set_option maxRecDepth 20000 in
theorem c_wrInit {a : Nat} (h1 : h.1 a = aO 10 [.null, .int 0]) (h2 : 23 ≤ a) (h3 : a < h.2.1) (K : Q none (nwL (am_set h a (aO 10 [.ref h.2.1, .int 0])) [(aI 1 (am_ar 512 (fun _ => 0)), 512)])) : am_cl (d + 1) 166 [.ref a] h Q := by
  have b : h = nwL (am_set h a (aO 10 [.null, .int 0])) [] := (am_set_self h h1).symm
  have r : ∀ E l, (nwL (am_set h a E) l).1 a = E := fun E l => by rw [nwL_lo (h := am_set h a E) l h3]; exact am_set_eq _ _ _
  have s : ∀ E E' l, am_set (nwL (am_set h a E) l) a E' = nwL (am_set h a E') l := fun E E' l => by rw [nwL_set (h := am_set h a E) l h3, am_set_set]
  have c : ∀ E l, (nwL (am_set h a E) l).2.1 = h.2.1 + l.length := fun E l => by rw [nwL_c]; rfl
  rw [b]
  simp only [isO_c, ax0, ex_cons, am_get, upz_at, true_and, and_true, Nat.reduceAdd, Nat.reduceLeDiff, Nat.reduceEqDiff, Nat.reduceSub, Int32.reduceOfInt, Int32.reduceAdd, Int32.reduceMul, Int32.reduceSub, ↓reduceIte, Int32.reduceLT, Int32.reduceLE, Int32.reduceToNatClampNeg, Nat.reduceMod, Nat.reduceLT, List.length_cons, List.length_nil, eq_self, true_or, or_true, and_self, implies_true, not_true_eq_false, not_false_eq_true, false_implies, true_implies, forall_const, st_aloadx, st_iconstx, st_invokedynamicx, st_invokedynamic_1x, st_monitorenterx, st_newarrayx, st_newarray_1, st_return_x, kb_Writer_init_0, cx_Writer_init, r, s, c, nwL_snoc, pfG, List.set_cons_zero, List.set_cons_succ, h2, am_ar_repl, List.nil_append, List.cons_append, Nat.add_zero, st_newI, st_newB, st_newZ]
  exact K
set_option maxRecDepth 20000 in
theorem c_dkInit {a : Nat} (h1 : h.1 a = aO 2 [.null, .int 0, .null, .int 0, .null, .null, .int 0, .int 0]) (h2 : 23 ≤ a) (h3 : a < h.2.1) (K : Q none (nwL (am_set h a (aO 2 [.ref h.2.1, .int 0, .null, .int 0, .ref (h.2.1 + 1), .ref (h.2.1 + 2), .int 0, .int 0])) [(aR 6 (am_ar 12 (fun _ => .null)), 12), (aR 6 (am_ar 12 (fun _ => .null)), 12), (aI 0 (am_ar 12 (fun _ => 0)), 12)])) : am_cl (d + 1) 91 [.ref a] h Q := by
  have b : h = nwL (am_set h a (aO 2 [.null, .int 0, .null, .int 0, .null, .null, .int 0, .int 0])) [] := (am_set_self h h1).symm
  have r : ∀ E l, (nwL (am_set h a E) l).1 a = E := fun E l => by rw [nwL_lo (h := am_set h a E) l h3]; exact am_set_eq _ _ _
  have s : ∀ E E' l, am_set (nwL (am_set h a E) l) a E' = nwL (am_set h a E') l := fun E E' l => by rw [nwL_set (h := am_set h a E) l h3, am_set_set]
  have c : ∀ E l, (nwL (am_set h a E) l).2.1 = h.2.1 + l.length := fun E l => by rw [nwL_c]; rfl
  rw [b]
  simp only [isO_c, ax0, ex_cons, am_get, upz_at, true_and, and_true, Nat.reduceAdd, Nat.reduceLeDiff, Nat.reduceEqDiff, Nat.reduceSub, Int32.reduceOfInt, Int32.reduceAdd, Int32.reduceMul, Int32.reduceSub, ↓reduceIte, Int32.reduceLT, Int32.reduceLE, Int32.reduceToNatClampNeg, Nat.reduceMod, Nat.reduceLT, List.length_cons, List.length_nil, eq_self, true_or, or_true, and_self, implies_true, not_true_eq_false, not_false_eq_true, false_implies, true_implies, forall_const, st_aloadx, st_anewarrayx, st_iconstx, st_invokedynamicx, st_invokedynamic_1x, st_monitorenterx, st_newarrayx, st_newarray_1, st_return_x, kb_Desk_init_0, cx_Desk_init, r, s, c, nwL_snoc, pfG, List.set_cons_zero, List.set_cons_succ, h2, am_ar_repl, List.nil_append, List.cons_append, Nat.add_zero, st_newI, st_newB, st_newZ]
  exact K
set_option maxRecDepth 20000 in
theorem c_dnInit {a : Nat} (h1 : h.1 a = aO 0 [.null, .int 0, .null, .null, .int 0, .null, .null, .int 0]) (h2 : 23 ≤ a) (h3 : a < h.2.1) (K : Q none (nwL (am_set h a (aO 0 [.ref h.2.1, .int 0, .ref (h.2.1 + 1), .ref (h.2.1 + 2), .int 0, .ref (h.2.1 + 3), .ref (h.2.1 + 4), .int 0])) [(aI 2 (am_ar 13 (fun _ => 0)), 13), (aI 2 (am_ar 256 (fun _ => 0)), 256), (aI 2 (am_ar 256 (fun _ => 0)), 256), (aI 1 (am_ar 2 (fun _ => 0)), 2), (aI 2 (am_ar 13 (fun _ => 0)), 13)])) : am_cl (d + 1) 77 [.ref a] h Q := by
  have b : h = nwL (am_set h a (aO 0 [.null, .int 0, .null, .null, .int 0, .null, .null, .int 0])) [] := (am_set_self h h1).symm
  have r : ∀ E l, (nwL (am_set h a E) l).1 a = E := fun E l => by rw [nwL_lo (h := am_set h a E) l h3]; exact am_set_eq _ _ _
  have s : ∀ E E' l, am_set (nwL (am_set h a E) l) a E' = nwL (am_set h a E') l := fun E E' l => by rw [nwL_set (h := am_set h a E) l h3, am_set_set]
  have c : ∀ E l, (nwL (am_set h a E) l).2.1 = h.2.1 + l.length := fun E l => by rw [nwL_c]; rfl
  rw [b]
  simp only [isO_c, ax0, ex_cons, am_get, upz_at, true_and, and_true, Nat.reduceAdd, Nat.reduceLeDiff, Nat.reduceEqDiff, Nat.reduceSub, Int32.reduceOfInt, Int32.reduceAdd, Int32.reduceMul, Int32.reduceSub, ↓reduceIte, Int32.reduceLT, Int32.reduceLE, Int32.reduceToNatClampNeg, Nat.reduceMod, Nat.reduceLT, List.length_cons, List.length_nil, eq_self, true_or, or_true, and_self, implies_true, not_true_eq_false, not_false_eq_true, false_implies, true_implies, forall_const, st_aloadx, st_iconstx, st_invokedynamicx, st_invokedynamic_1x, st_monitorenterx, st_newarrayx, st_newarray_1, st_return_x, kb_Denial_init_0, cx_Denial_init, r, s, c, nwL_snoc, pfG, List.set_cons_zero, List.set_cons_succ, h2, am_ar_repl, List.nil_append, List.cons_append, Nat.add_zero, st_newI, st_newB, st_newZ]
  exact K
set_option maxRecDepth 20000 in
theorem c_dvInit {a : Nat} (h1 : h.1 a = aO 1 [.int 0, .null, .null, .null, .null, .int 0, .int 0]) (h2 : 23 ≤ a) (h3 : a < h.2.1) (K : Q none (nwL (am_set h a (aO 1 [.int 0, .ref h.2.1, .ref (h.2.1 + 1), .ref (h.2.1 + 2), .ref (h.2.1 + 3), .int 0, .int 0])) [(aI 2 (am_ar 256 (fun _ => 0)), 256), (aI 2 (am_ar 256 (fun _ => 0)), 256), (aI 2 (am_ar 256 (fun _ => 0)), 256), (aI 2 (am_ar 256 (fun _ => 0)), 256)])) : am_cl (d + 1) 84 [.ref a] h Q := by
  have b : h = nwL (am_set h a (aO 1 [.int 0, .null, .null, .null, .null, .int 0, .int 0])) [] := (am_set_self h h1).symm
  have r : ∀ E l, (nwL (am_set h a E) l).1 a = E := fun E l => by rw [nwL_lo (h := am_set h a E) l h3]; exact am_set_eq _ _ _
  have s : ∀ E E' l, am_set (nwL (am_set h a E) l) a E' = nwL (am_set h a E') l := fun E E' l => by rw [nwL_set (h := am_set h a E) l h3, am_set_set]
  have c : ∀ E l, (nwL (am_set h a E) l).2.1 = h.2.1 + l.length := fun E l => by rw [nwL_c]; rfl
  rw [b]
  simp only [isO_c, ax0, ex_cons, am_get, upz_at, true_and, and_true, Nat.reduceAdd, Nat.reduceLeDiff, Nat.reduceEqDiff, Nat.reduceSub, Int32.reduceOfInt, Int32.reduceAdd, Int32.reduceMul, Int32.reduceSub, ↓reduceIte, Int32.reduceLT, Int32.reduceLE, Int32.reduceToNatClampNeg, Nat.reduceMod, Nat.reduceLT, List.length_cons, List.length_nil, eq_self, true_or, or_true, and_self, implies_true, not_true_eq_false, not_false_eq_true, false_implies, true_implies, forall_const, st_aloadx, st_iconstx, st_invokedynamicx, st_invokedynamic_1x, st_monitorenterx, st_newarrayx, st_newarray_1, st_return_x, kb_Derivation_init_0, cx_Derivation_init, r, s, c, nwL_snoc, pfG, List.set_cons_zero, List.set_cons_succ, h2, am_ar_repl, List.nil_append, List.cons_append, Nat.add_zero, st_newI, st_newB, st_newZ]
  exact K
end CIO
