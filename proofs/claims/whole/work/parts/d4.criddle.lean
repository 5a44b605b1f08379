/-! ===== the class: riddle ===== -/
theorem rzT_cg {f g : Nat → Nat} : ∀ {m : Nat}, (∀ i, i < m → f i = g i) → rzT f m = rzT g m
  | 0, _ => rfl
  | m + 1, e => by
    show tellz (rzT f m) (clR (rS (f m))) false = tellz (rzT g m) (clR (rS (g m))) false
    rw [rzT_cg (fun i hi => e i (by omega)), e m (by omega)]
/-- what the riddle's loop keeps -/
def Ry (F F' : Nat → Nat → Int32) : Prop := (∀ a, a ≠ 23 → a ≠ 80 → a ≠ 47 → a ≠ 51 → a ≠ 67 → a ≠ 71 → F' a = F a) ∧ ∀ i, i ≠ 11 → F' 23 i = F 23 i
theorem Ry.tr {F F1 F2 : Nat → Nat → Int32} (a : Ry F F1) (b : Ry F1 F2) : Ry F F2 := ⟨fun x h1 h2 h3 h4 h5 h6 => (b.1 x h1 h2 h3 h4 h5 h6).trans (a.1 x h1 h2 h3 h4 h5 h6), fun i hi => (b.2 i hi).trans (a.2 i hi)⟩
theorem Cf.ry {F F' : Nat → Nat → Int32} (c : Cf F F') : Ry F F' := ⟨fun a _ _ h3 h4 h5 h6 => c a h3 h4 h5 h6, fun i _ => by rw [c 23 (by decide) (by decide) (by decide) (by decide)]⟩
def Ri (F : Nat → Nat → Int32) (J : Nat → Nat → Int64) (k : Nat) (y : yT) : Prop := F 23 11 = nI y.1 ∧ y.1 ≤ k ∧ (∀ i, i < y.1 → F 80 i = nI (y.2 i)) ∧ ∃ P, TT F J 47 (rzT y.2 y.1) P ∧ (rzT y.2 y.1).2.1.length + pcn P ≤ y.1
section CRI
variable {d : Nat} {h : am_H} {F : Nat → Nat → Int32} {J : Nat → Nat → Int64} {V : Nat → Nat → Value} {Q : am_Q}
set_option maxRecDepth 20000 in
theorem c_rdStep (hb : HB h) (hpt : HP h) {x : Int32} {s n k : Nat} {y : yT} (hs : s < 1000003) (hk : k < n) (hn : n ≤ 12) (hR : Ri F J k y) {v5 v6 v7 : Value} (K : ∀ F' J' v5 v6 v7, Ry F F' → Ri F' J' (k + 1) (rdSt (s, y)).2 → am_W kc_Slips_riddle (am_cl (d + 5)) Q 44 [.ref 23, .int x, .int (nI n), .int (nI (rdSt (s, y)).1), .int (nI (k + 1)), v5, v6, v7] [] (ov h F' J' V)) : am_W kc_Slips_riddle (am_cl (d + 5)) Q 44 [.ref 23, .int x, .int (nI n), .int (nI s), .int (nI k), v5, v6, v7] [] (ov h F J V) := by
  have l1 := drN_lt s
  have l2 := drN_lt (drN s)
  have l3 := drN_lt (drN (drN s))
  have z4 : ¬ (4 : Int32) = 0 := by decide
  have z8 : ¬ (8 : Int32) = 0 := by decide
  have z7 : ¬ (7 : Int32) = 0 := by decide
  have e4 : nI (drN s) - nI (drN s) / (4 : Int32) * 4 = nI (drN s % 4) := nk_rem (b := 4) (by omega) (by omega) (by decide)
  have e8 : nI (drN (drN s)) - nI (drN (drN s)) / (8 : Int32) * 8 = nI (drN (drN s) % 8) := nk_rem (b := 8) (by omega) (by omega) (by decide)
  have e7 : nI (drN (drN (drN s))) - nI (drN (drN (drN s))) / (7 : Int32) * 7 = nI (drN (drN (drN s)) % 7) := nk_rem (b := 7) (by omega) (by omega) (by decide)
  obtain ⟨y1, y2, y3, P, t0, p0⟩ := hR
  rw [jx_Slips_riddle_44]
  simp only [isO_c, ax0, ex_cons, am_get, upz_at, true_and, and_true, Nat.reduceAdd, Nat.reduceLeDiff, Nat.reduceEqDiff, Nat.reduceSub, Int32.reduceOfInt, Int32.reduceAdd, Int32.reduceMul, Int32.reduceSub, ↓reduceIte, Int32.reduceLT, Int32.reduceLE, Int32.reduceToNatClampNeg, Nat.reduceMod, Nat.reduceLT, List.length_cons, List.length_nil, eq_self, true_or, or_true, and_self, implies_true, not_true_eq_false, not_false_eq_true, false_implies, true_implies, forall_const, st_goto_wx, st_iconstx, st_if_icmpx, st_iincx, st_iloadx, st_st1, st_iremx, st_istorex, am_put, am_nlg, kb_Slips_riddle_44, (nk_le (by omega) (by omega) : (nI (n) ≤ nI (k)) = (n ≤ k)), show ¬ n ≤ k by omega]
  refine c_nextState hs ?_
  simp only [isO_c, ax0, ex_cons, am_get, upz_at, true_and, and_true, Nat.reduceAdd, Nat.reduceLeDiff, Nat.reduceEqDiff, Nat.reduceSub, Int32.reduceOfInt, Int32.reduceAdd, Int32.reduceMul, Int32.reduceSub, ↓reduceIte, Int32.reduceLT, Int32.reduceLE, Int32.reduceToNatClampNeg, Nat.reduceMod, Nat.reduceLT, List.length_cons, List.length_nil, eq_self, true_or, or_true, and_self, implies_true, not_true_eq_false, not_false_eq_true, false_implies, true_implies, forall_const, st_goto_wx, st_iconstx, st_if_icmpx, st_iincx, st_iloadx, st_st1, st_iremx, st_istorex, am_put, am_nlg, kb_Slips_riddle_44, e4, z4]
  refine c_nextState l1 ?_
  simp only [isO_c, ax0, ex_cons, am_get, upz_at, true_and, and_true, Nat.reduceAdd, Nat.reduceLeDiff, Nat.reduceEqDiff, Nat.reduceSub, Int32.reduceOfInt, Int32.reduceAdd, Int32.reduceMul, Int32.reduceSub, ↓reduceIte, Int32.reduceLT, Int32.reduceLE, Int32.reduceToNatClampNeg, Nat.reduceMod, Nat.reduceLT, List.length_cons, List.length_nil, eq_self, true_or, or_true, and_self, implies_true, not_true_eq_false, not_false_eq_true, false_implies, true_implies, forall_const, st_goto_wx, st_iconstx, st_if_icmpx, st_iincx, st_iloadx, st_st1, st_iremx, st_istorex, am_put, am_nlg, kb_Slips_riddle_44, e8, z8]
  refine c_nextState l2 ?_
  have body : ∀ v, v < 8 → 64 * (drN s % 4) + 8 * (drN (drN s) % 8) + v = rdNum s → am_W kc_Slips_riddle (am_cl (d + 5)) Q 92 [.ref 23, .int x, .int (nI n), .int (nI (drN (drN (drN s)))), .int (nI k), .int (nI (drN s % 4)), .int (nI (drN (drN s) % 8)), .int (nI v)] [] (ov h F J V) := by
    intro v hv ev
    simp only [isO_c, ax0, ex_cons, am_get, upz_at, true_and, and_true, Nat.reduceAdd, Nat.reduceLeDiff, Nat.reduceEqDiff, Nat.reduceSub, Int32.reduceOfInt, Int32.reduceAdd, Int32.reduceMul, Int32.reduceSub, ↓reduceIte, Int32.reduceLT, Int32.reduceLE, Int32.reduceToNatClampNeg, Nat.reduceMod, Nat.reduceLT, List.length_cons, List.length_nil, eq_self, true_or, or_true, and_self, implies_true, not_true_eq_false, not_false_eq_true, false_implies, true_implies, forall_const, st_aloadx, st_dupx, st_dup_1x, st_getfieldx, st_goto_wx, st_iaddx, st_iastorex, st_iconstx, st_ifCondx, st_iloadx, st_in3, st_in4, st_st3, st_putfieldx, jx_Slips_riddle_92, kb_Slips_riddle_92, og_23_4, oo_51, og_23_3, oo_47, og_23_10, og_23_11, op_23_11, oa_23, oa_47, oa_51, os_23, oa_80, ow_80, os_80]
    refine c_setSimple (Or.inl rfl) hpt (by omega) (by omega) hv (fun F1 J1 c1 _ _ _ q1 => ?_)
    rw [ev] at c1
    simp only [isO_c, ax0, ex_cons, am_get, upz_at, true_and, and_true, Nat.reduceAdd, Nat.reduceLeDiff, Nat.reduceEqDiff, Nat.reduceSub, Int32.reduceOfInt, Int32.reduceAdd, Int32.reduceMul, Int32.reduceSub, ↓reduceIte, Int32.reduceLT, Int32.reduceLE, Int32.reduceToNatClampNeg, Nat.reduceMod, Nat.reduceLT, List.length_cons, List.length_nil, eq_self, true_or, or_true, and_self, implies_true, not_true_eq_false, not_false_eq_true, false_implies, true_implies, forall_const, st_aloadx, st_dupx, st_dup_1x, st_getfieldx, st_goto_wx, st_iaddx, st_iastorex, st_iconstx, st_ifCondx, st_iloadx, st_in3, st_in4, st_st3, st_putfieldx, jx_Slips_riddle_92, kb_Slips_riddle_92, og_23_4, oo_51, og_23_3, oo_47, og_23_10, og_23_11, op_23_11, oa_23, oa_47, oa_51, os_23, oa_80, ow_80, os_80]
    refine c_canHold (Or.inl rfl) hb (t0.si (Or.inl rfl) (Or.inl rfl) q1) c1 (clR_ok _) (ex := false) ?_
    have ez : chZ (rzT y.2 y.1) (clR (rS (rdNum s))) false = !qz (tellz (rzT y.2 y.1) (clR (rS (rdNum s))) false) (fun _ => false) := rfl
    rw [ez]
    have K := K
    unfold rdSt at K
    dsimp only at K
    have c01 := q1.cf (Or.inl rfl)
    cases zq : qz (tellz (rzT y.2 y.1) (clR (rS (rdNum s))) false) (fun _ => false)
    · rw [zq, if_neg Bool.false_ne_true] at K
      simp only [isO_c, ax0, ex_cons, am_get, upz_at, true_and, and_true, Nat.reduceAdd, Nat.reduceLeDiff, Nat.reduceEqDiff, Nat.reduceSub, Int32.reduceOfInt, Int32.reduceAdd, Int32.reduceMul, Int32.reduceSub, ↓reduceIte, Int32.reduceLT, Int32.reduceLE, Int32.reduceToNatClampNeg, Nat.reduceMod, Nat.reduceLT, List.length_cons, List.length_nil, eq_self, true_or, or_true, and_self, implies_true, not_true_eq_false, not_false_eq_true, false_implies, true_implies, forall_const, st_aloadx, st_dupx, st_dup_1x, st_getfieldx, st_goto_wx, st_iaddx, st_iastorex, st_iconstx, st_ifCondx, st_iloadx, st_in3, st_in4, st_st3, st_putfieldx, jx_Slips_riddle_92, kb_Slips_riddle_92, og_23_4, oo_51, og_23_3, oo_47, og_23_10, og_23_11, op_23_11, oa_23, oa_47, oa_51, os_23, oa_80, ow_80, os_80, Bool.not_false, show b2i true = (1 : Int32) from rfl]
      refine c_grantClaim (Or.inl rfl) (ex := false) (t0.si (Or.inl rfl) (Or.inl rfl) q1) (by omega) c1 (clR_ok _) (fun F2 J2 t2 q2 => ?_)
      have c02 := c01.tr (q2.cf (Or.inl rfl))
      have y1' : F2 23 11 = nI y.1 := by rw [c02 23 (by decide) (by decide) (by decide) (by decide)]; exact y1
      have y3' : ∀ i, i < y.1 → F2 80 i = nI (y.2 i) := fun i hi => by rw [c02 80 (by decide) (by decide) (by decide) (by decide)]; exact y3 i hi
      have en : (64 : Int32) * nI (drN s % 4) + 8 * nI (drN (drN s) % 8) + nI v = nI (rdNum s) := by
        rw [show (64 : Int32) * nI (drN s % 4) = nI (64 * (drN s % 4)) from nk_mul 64 _, show (8 : Int32) * nI (drN (drN s) % 8) = nI (8 * (drN (drN s) % 8)) from nk_mul 8 _, nk_add, nk_add, ev]
      have hy : y.1 < 12 := by omega
      simp only [isO_c, ax0, ex_cons, am_get, upz_at, true_and, and_true, Nat.reduceAdd, Nat.reduceLeDiff, Nat.reduceEqDiff, Nat.reduceSub, Int32.reduceOfInt, Int32.reduceAdd, Int32.reduceMul, Int32.reduceSub, ↓reduceIte, Int32.reduceLT, Int32.reduceLE, Int32.reduceToNatClampNeg, Nat.reduceMod, Nat.reduceLT, List.length_cons, List.length_nil, eq_self, true_or, or_true, and_self, implies_true, not_true_eq_false, not_false_eq_true, false_implies, true_implies, forall_const, st_aloadx, st_dupx, st_dup_1x, st_getfieldx, st_gotox, st_goto_wx, st_iaddx, st_iastorex, st_iconstx, st_ifCondx, st_iincx, st_iloadx, st_imulx, st_in3, st_in4, st_st3, st_ireturnx, st_putfieldx, am_put, am_nlg, jx_Slips_riddle_92, kb_Slips_riddle_92, og_23_4, oo_51, og_23_3, oo_47, og_23_10, og_23_11, op_23_11, jx_Slips_riddle_160, kb_Slips_riddle_160, cx_Slips_numberOf, kb_Slips_numberOf_0, oa_23, oa_47, oa_51, os_23, oa_80, ow_80, os_80, y1', en, nk_neg (show y.1 < 2147483648 by omega), nk_cl (show y.1 < 2147483648 by omega), hy, oa_80, or_80, os_80, ow_80, nk_succ]
      refine K _ _ _ _ _ (c02.ry.tr ⟨fun a h1 h2 _ _ _ _ => by rw [upz_ne _ _ h1, upz_ne _ _ h2], fun i hi => by rw [upz_eq, upz_ne _ _ hi]⟩) ⟨by rw [upz_eq, upz_eq], by show y.1 + 1 ≤ k + 1; omega, fun i hi => ?_, plC P (clR (rS (rdNum s))), ?_, ?_⟩
      · have hi : i < y.1 + 1 := hi
        rw [upz_ne _ _ (by decide), upz_eq]
        show _ = nI (upz y.2 y.1 (rdNum s) i)
        by_cases e : i = y.1
        · subst e; rw [upz_eq, upz_eq]
        · rw [upz_ne _ _ e, upz_ne _ _ e]; exact y3' i (by omega)
      · have er : rzT (upz y.2 y.1 (rdNum s)) (y.1 + 1) = tellz (rzT y.2 y.1) (clR (rS (rdNum s))) false := by
          show tellz (rzT (upz y.2 y.1 (rdNum s)) y.1) (clR (rS (upz y.2 y.1 (rdNum s) y.1))) false = _
          rw [upz_eq, rzT_cg (fun i hi => upz_ne _ _ (show i ≠ y.1 by omega))]
        rw [er]
        exact t2.th (by rw [upz_ne _ _ (by decide), upz_ne _ _ (by decide)]) rfl rfl rfl
      · have er : rzT (upz y.2 y.1 (rdNum s)) (y.1 + 1) = tellz (rzT y.2 y.1) (clR (rS (rdNum s))) false := by
          show tellz (rzT (upz y.2 y.1 (rdNum s)) y.1) (clR (rS (upz y.2 y.1 (rdNum s) y.1))) false = _
          rw [upz_eq, rzT_cg (fun i hi => upz_ne _ _ (show i ≠ y.1 by omega))]
        rw [er]
        have := gr_sz (T := rzT y.2 y.1) (P := P) (C := clR (rS (rdNum s))) (clR_ok _) false
        show _ ≤ y.1 + 1
        omega
    · rw [zq, if_pos rfl] at K
      simp only [isO_c, ax0, ex_cons, am_get, upz_at, true_and, and_true, Nat.reduceAdd, Nat.reduceLeDiff, Nat.reduceEqDiff, Nat.reduceSub, Int32.reduceOfInt, Int32.reduceAdd, Int32.reduceMul, Int32.reduceSub, ↓reduceIte, Int32.reduceLT, Int32.reduceLE, Int32.reduceToNatClampNeg, Nat.reduceMod, Nat.reduceLT, List.length_cons, List.length_nil, eq_self, true_or, or_true, and_self, implies_true, not_true_eq_false, not_false_eq_true, false_implies, true_implies, forall_const, st_aloadx, st_dupx, st_dup_1x, st_getfieldx, st_gotox, st_goto_wx, st_iaddx, st_iastorex, st_iconstx, st_ifCondx, st_iincx, st_iloadx, st_in3, st_in4, st_st3, st_putfieldx, am_put, am_nlg, jx_Slips_riddle_92, kb_Slips_riddle_92, og_23_4, oo_51, og_23_3, oo_47, og_23_10, og_23_11, op_23_11, jx_Slips_riddle_160, kb_Slips_riddle_160, oa_23, oa_47, oa_51, os_23, oa_80, ow_80, os_80, Bool.not_true, show b2i false = (0 : Int32) from rfl, nk_succ]
      refine K _ _ _ _ _ c01.ry ⟨by rw [c01 23 (by decide) (by decide) (by decide) (by decide)]; exact y1, by omega, fun i hi => by rw [c01 80 (by decide) (by decide) (by decide) (by decide)]; exact y3 i hi, P, t0.si (Or.inl rfl) (Or.inl rfl) q1, p0⟩
  have lt : (nI (drN (drN (drN s)) % 7) < nI (drN (drN s) % 8)) = (drN (drN (drN s)) % 7 < drN (drN s) % 8) := nk_lt (by omega) (by omega)
  simp only [isO_c, ax0, ex_cons, am_get, upz_at, true_and, and_true, Nat.reduceAdd, Nat.reduceLeDiff, Nat.reduceEqDiff, Nat.reduceSub, Int32.reduceOfInt, Int32.reduceAdd, Int32.reduceMul, Int32.reduceSub, ↓reduceIte, Int32.reduceLT, Int32.reduceLE, Int32.reduceToNatClampNeg, Nat.reduceMod, Nat.reduceLT, List.length_cons, List.length_nil, eq_self, true_or, or_true, and_self, implies_true, not_true_eq_false, not_false_eq_true, false_implies, true_implies, forall_const, st_goto_wx, st_iconstx, st_if_icmpx, st_iincx, st_iloadx, st_st1, st_iremx, st_istorex, am_put, am_nlg, kb_Slips_riddle_44, e7, z7, lt]
  by_cases z : drN (drN (drN s)) % 7 < drN (drN s) % 8
  · simp only [z, not_true_eq_false, not_false_eq_true, true_implies, false_implies, and_true, true_and]
    exact body _ (by omega) (by unfold rdNum; rw [if_pos z])
  · simp only [z, not_true_eq_false, not_false_eq_true, true_implies, false_implies, and_true, true_and, nk_succ]
    exact body _ (by omega) (by unfold rdNum; rw [if_neg z])
end CRI
