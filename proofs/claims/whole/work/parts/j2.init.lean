/-! ===== the constructors: rows that are made one behind the other ===== -/
def nwL (h : am_H) (l : List (am_E × Nat)) : am_H := l.foldl (fun h p => am_new h p.1 p.2) h
theorem nwL_snoc (h : am_H) (l : List (am_E × Nat)) (T : am_E) (n : Nat) : am_new (nwL h l) T n = nwL h (l ++ [(T, n)]) := by
  unfold nwL
  rw [List.foldl_append]
  rfl
theorem nwL_c : ∀ (l : List (am_E × Nat)) (h : am_H), (nwL h l).2.1 = h.2.1 + l.length
  | [], h => rfl
  | p :: l, h => by
    show (nwL (am_new h p.1 p.2) l).2.1 = h.2.1 + (l.length + 1)
    rw [nwL_c l, nw_c]
    omega
theorem nwL_lo : ∀ (l : List (am_E × Nat)) {h : am_H} {a : Nat}, a < h.2.1 → (nwL h l).1 a = h.1 a
  | [], h, a, _ => rfl
  | p :: l, h, a, ha => by
    show (nwL (am_new h p.1 p.2) l).1 a = h.1 a
    rw [nwL_lo l (by rw [nw_c]; omega), nw_lo ha]
theorem nwL_set : ∀ (l : List (am_E × Nat)) {h : am_H} {a : Nat} {E : am_E}, a < h.2.1 → am_set (nwL h l) a E = nwL (am_set h a E) l
  | [], h, a, E, _ => rfl
  | p :: l, h, a, E, ha => by
    show am_set (nwL (am_new h p.1 p.2) l) a E = nwL (am_new (am_set h a E) p.1 p.2) l
    rw [nwL_set l (by rw [nw_c]; omega), nw_set ha]
theorem nwL_app (h : am_H) (l m : List (am_E × Nat)) : nwL (nwL h l) m = nwL h (l ++ m) := by
  unfold nwL
  rw [List.foldl_append]
theorem nwL_rdI : ∀ (l : List (am_E × Nat)) (h : am_H) (i : Nat), i < l.length → (nwL h l).1 (h.2.1 + i) = (l.getD i (am_bad, 0)).1
  | p :: l, h, 0, _ => by
    show (nwL (am_new h p.1 p.2) l).1 h.2.1 = p.1
    rw [nwL_lo l (by rw [nw_c]; omega)]
    exact nw_hd _ _ _
  | p :: l, h, i + 1, hi => by
    have hi : i + 1 < l.length + 1 := hi
    show (nwL (am_new h p.1 p.2) l).1 (h.2.1 + (i + 1)) = (l.getD i (am_bad, 0)).1
    rw [show h.2.1 + (i + 1) = (am_new h p.1 p.2).2.1 + i by rw [nw_c]; omega]
    exact nwL_rdI l _ i (by omega)
theorem nwL_setI : ∀ (l : List (am_E × Nat)) (h : am_H) (i : Nat) (E : am_E), i < l.length → am_set (nwL h l) (h.2.1 + i) E = nwL h (l.set i (E, (l.getD i (am_bad, 0)).2))
  | p :: l, h, 0, E, _ => by
    show am_set (nwL (am_new h p.1 p.2) l) h.2.1 E = nwL (am_new h E p.2) l
    rw [nwL_set l (by rw [nw_c]; omega), set_new]
  | p :: l, h, i + 1, E, hi => by
    have hi : i + 1 < l.length + 1 := hi
    show am_set (nwL (am_new h p.1 p.2) l) (h.2.1 + (i + 1)) E = nwL (am_new h p.1 p.2) (l.set i (E, (l.getD i (am_bad, 0)).2))
    rw [show h.2.1 + (i + 1) = (am_new h p.1 p.2).2.1 + i by rw [nw_c]; omega]
    exact nwL_setI l _ i E (by omega)
theorem pfG {c k : Nat} {v : Value} {K : am_E → Prop} {fs : List Value} : am_pf c k v K (aO c fs) = (k < fs.length ∧ K (aO c (fs.set k v))) := propext ⟨fun z => z.2, fun z => ⟨rfl, z⟩⟩
section CIN
variable {d : Nat} {h : am_H} {Q : am_Q}
set_option maxRecDepth 20000 in
theorem c_thInit {a : Nat} (h1 : h.1 a = aO 8 [.null, .null, .int 0, .null, .int 0]) (h2 : 23 ≤ a) (h3 : a < h.2.1) (K : Q none (nwL (am_set h a (aO 8 [.ref h.2.1, .ref (h.2.1 + 1), .int 0, .ref (h.2.1 + 2), .int 0])) [(aJ (am_ar 4 (fun _ => 0)), 4), (aJ (am_ar 52 (fun _ => 0)), 52), (aJ (am_ar 16 (fun _ => 0)), 16)])) : am_cl (d + 1) 138 [.ref a] h Q := by
  have b : h = nwL (am_set h a (aO 8 [.null, .null, .int 0, .null, .int 0])) [] := (am_set_self h h1).symm
  have r : ∀ E l, (nwL (am_set h a E) l).1 a = E := fun E l => by rw [nwL_lo (h := am_set h a E) l h3]; exact am_set_eq _ _ _
  have s : ∀ E E' l, am_set (nwL (am_set h a E) l) a E' = nwL (am_set h a E') l := fun E E' l => by rw [nwL_set (h := am_set h a E) l h3, am_set_set]
  have c : ∀ E l, (nwL (am_set h a E) l).2.1 = h.2.1 + l.length := fun E l => by rw [nwL_c]; rfl
  rw [b]
  simp only [isO_c, ax0, ex_cons, am_get, upz_at, true_and, and_true, Nat.reduceAdd, Nat.reduceLeDiff, Nat.reduceEqDiff, Nat.reduceSub, Int32.reduceOfInt, Int32.reduceAdd, Int32.reduceMul, Int32.reduceSub, ↓reduceIte, Int32.reduceLT, Int32.reduceLE, Int32.reduceToNatClampNeg, Nat.reduceMod, Nat.reduceLT, List.length_cons, List.length_nil, eq_self, true_or, or_true, and_self, implies_true, not_true_eq_false, not_false_eq_true, false_implies, true_implies, forall_const, st_aloadx, st_iconstx, st_invokedynamicx, st_invokedynamic_1x, st_monitorenterx, st_newarrayx, st_newarray_1, st_return_x, kb_Theory_init_0, cx_Theory_init, r, s, c, nwL_snoc, pfG, List.set_cons_zero, List.set_cons_succ, h2, am_ar_repl, List.nil_append, List.cons_append, Nat.add_zero]
  exact K
end CIN
