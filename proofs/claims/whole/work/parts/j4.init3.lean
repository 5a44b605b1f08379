/-! ===== the constructors with others inside ===== -/
theorem df_3 : (Sum.inl (3, am_dflt 3) : am_E) = aO 3 [.int 0, .int 0, .int 0, .int 0] := rfl
theorem df_6 : (Sum.inl (6, am_dflt 6) : am_E) = aO 6 [.int 0, .int 0, .int 0, .int 0, .int 0, .int 0, .null, .null, .null] := rfl
theorem df_8 : (Sum.inl (8, am_dflt 8) : am_E) = aO 8 [.null, .null, .int 0, .null, .int 0] := rfl
theorem df_9 : (Sum.inl (9, am_dflt 9) : am_E) = aO 9 [.null, .null, .null, .null, .null, .int 0] := rfl
theorem df_10 : (Sum.inl (10, am_dflt 10) : am_E) = aO 10 [.null, .int 0] := rfl
section CIP
variable {d : Nat} {h : am_H} {Q : am_Q}
set_option maxRecDepth 20000 in
theorem c_seInit {a t : Nat} (h1 : h.1 a = aO 6 [.int 0, .int 0, .int 0, .int 0, .int 0, .int 0, .null, .null, .null]) (h2 : 23 ≤ a) (h3 : a < h.2.1) (K : Q none (nwL (am_set h a (aO 6 [.int 0, .int (-1), .int 0, .int (-1), .int (-1), .int (-1), .ref h.2.1, .ref (h.2.1 + 1), .ref t])) [(aJ (am_ar 4 (fun _ => 0)), 4), (aJ (am_ar 4 (fun _ => 0)), 4)])) : am_cl (d + 1) 124 [.ref a, .ref t] h Q := by
  have b : h = nwL (am_set h a (aO 6 [.int 0, .int 0, .int 0, .int 0, .int 0, .int 0, .null, .null, .null])) [] := (am_set_self h h1).symm
  have r : ∀ E l, (nwL (am_set h a E) l).1 a = E := fun E l => by rw [nwL_lo (h := am_set h a E) l h3]; exact am_set_eq _ _ _
  have s : ∀ E E' l, am_set (nwL (am_set h a E) l) a E' = nwL (am_set h a E') l := fun E E' l => by rw [nwL_set (h := am_set h a E) l h3, am_set_set]
  have c : ∀ E l, (nwL (am_set h a E) l).2.1 = h.2.1 + l.length := fun E l => by rw [nwL_c]; rfl
  rw [b]
  simp only [isO_c, ax0, ex_cons, am_get, upz_at, true_and, and_true, Nat.reduceAdd, Nat.reduceLeDiff, Nat.reduceEqDiff, Nat.reduceSub, Int32.reduceOfInt, Int32.reduceAdd, Int32.reduceMul, Int32.reduceSub, ↓reduceIte, Int32.reduceLT, Int32.reduceLE, Int32.reduceToNatClampNeg, Nat.reduceMod, Nat.reduceLT, List.length_cons, List.length_nil, eq_self, true_or, or_true, and_self, implies_true, not_true_eq_false, not_false_eq_true, false_implies, true_implies, forall_const, st_aloadx, st_iconstx, st_invokedynamicx, st_invokedynamic_1x, st_monitorenterx, st_newarrayx, st_newarray_1, st_putfieldx, st_return_x, kb_Sentence_init_0, cx_Sentence_init, r, s, c, nwL_snoc, pfG, List.set_cons_zero, List.set_cons_succ, h2, am_ar_repl, List.nil_append, List.cons_append, Nat.add_zero, st_newI, st_newB, st_newZ]
  exact K
set_option maxRecDepth 20000 in
theorem c_quInit {a : Nat} (h1 : h.1 a = aO 4 [.int 0, .null, .int 0, .int 0, .null]) (h2 : 23 ≤ a) (h3 : a < h.2.1) (K : Q none (nwL (am_set h a (aO 4 [.int 0, .ref h.2.1, .int 1, .int 0, .ref (h.2.1 + 1)])) [(aI 1 (am_ar 1 (fun _ => 0)), 1), (aO 3 [.int 0, .int 0, .int 0, .int 0], 4)])) : am_cl (d + 2) 101 [.ref a] h Q := by
  have b : h = nwL (am_set h a (aO 4 [.int 0, .null, .int 0, .int 0, .null])) [] := (am_set_self h h1).symm
  have r : ∀ E l, (nwL (am_set h a E) l).1 a = E := fun E l => by rw [nwL_lo (h := am_set h a E) l h3]; exact am_set_eq _ _ _
  have s : ∀ E E' l, am_set (nwL (am_set h a E) l) a E' = nwL (am_set h a E') l := fun E E' l => by rw [nwL_set (h := am_set h a E) l h3, am_set_set]
  have c : ∀ E l, (nwL (am_set h a E) l).2.1 = h.2.1 + l.length := fun E l => by rw [nwL_c]; rfl
  rw [b]
  simp only [isO_c, ax0, ex_cons, am_get, upz_at, true_and, and_true, Nat.reduceAdd, Nat.reduceLeDiff, Nat.reduceEqDiff, Nat.reduceSub, Int32.reduceOfInt, Int32.reduceAdd, Int32.reduceMul, Int32.reduceSub, ↓reduceIte, Int32.reduceLT, Int32.reduceLE, Int32.reduceToNatClampNeg, Nat.reduceMod, Nat.reduceLT, List.length_cons, List.length_nil, eq_self, true_or, or_true, and_self, implies_true, not_true_eq_false, not_false_eq_true, false_implies, true_implies, forall_const, st_aloadx, st_dupx, st_dup_1x, st_iconstx, st_invokedynamicx, st_invokedynamic_1x, st_sp1, st_monitorenterx, st_newx, st_newarrayx, st_newarray_1, st_putfieldx, st_return_x, kb_Quarrels_init_0, cx_Quarrels_init, r, s, c, nwL_snoc, pfG, List.set_cons_zero, List.set_cons_succ, h2, am_ar_repl, List.nil_append, List.cons_append, Nat.add_zero, st_newI, st_newB, st_newZ, df_3]
  refine c_fwInit ?_
  simp only [isO_c, ax0, ex_cons, am_get, upz_at, true_and, and_true, Nat.reduceAdd, Nat.reduceLeDiff, Nat.reduceEqDiff, Nat.reduceSub, Int32.reduceOfInt, Int32.reduceAdd, Int32.reduceMul, Int32.reduceSub, ↓reduceIte, Int32.reduceLT, Int32.reduceLE, Int32.reduceToNatClampNeg, Nat.reduceMod, Nat.reduceLT, List.length_cons, List.length_nil, eq_self, true_or, or_true, and_self, implies_true, not_true_eq_false, not_false_eq_true, false_implies, true_implies, forall_const, st_aloadx, st_dupx, st_dup_1x, st_iconstx, st_invokedynamicx, st_invokedynamic_1x, st_sp1, st_monitorenterx, st_newx, st_newarrayx, st_newarray_1, st_putfieldx, st_return_x, kb_Quarrels_init_0, r, s, c, nwL_snoc, pfG, List.set_cons_zero, List.set_cons_succ, h2, am_ar_repl, List.nil_append, List.cons_append, Nat.add_zero, st_newI, st_newB, st_newZ]
  exact K
end CIP
