/-! ===== the class: whether a term begins with "not"; a whole term is written ===== -/
theorem TN.pos {F : Nat → Nat → Int32} (t : eT) : ∀ {k i : Nat}, wfT t → 1 ≤ k → 4 * k + wsT t ≤ 1000 → TN F t k i → ∃ m, 1 ≤ m ∧ m ≤ 250 ∧ F 30 i = nI m := by
  induction t with
  | var j => intro k i hw h1 hk hT; exact ⟨k, h1, by omega, hT.2.2⟩
  | neg a ih =>
    intro k i hw h1 hk hT
    have hk : 4 * k + (4 + wsT a) ≤ 1000 := hk
    exact ih hw (by omega) (by omega) hT
  | add a b iha ihb => intro k i hw h1 hk hT; exact ⟨k, h1, by omega, hT.2.1⟩
  | sub a b iha ihb => intro k i hw h1 hk hT; exact ⟨k, h1, by omega, hT.2.1⟩
  | num _ => intro k i hw; exact hw.elim
  | mulL _ _ _ => intro k i hw; exact hw.elim
  | mulR _ _ _ => intro k i hw; exact hw.elim
theorem nj_8 {j : Nat} (h : j < 8) : ¬ nI j = (8 : Int32) := fun z => by
  have : j = 8 := (nk_eq (a := j) (b := 8) (by omega) (by decide)).mp z
  omega
theorem nj_9 {j : Nat} (h : j < 8) : ¬ nI j = (9 : Int32) := fun z => by
  have : j = 9 := (nk_eq (a := j) (b := 9) (by omega) (by decide)).mp z
  omega
theorem bg_ng {t : eT} (k : Nat) : bgT (ngT (k + 1) t) = true := rfl
theorem TN.isA {F : Nat → Nat → Int32} {a : eT} {l : Nat} (hw : wfT a) (hk : wsT a ≤ 1000) (hT : TN F a 0 l) : (F 27 l = 8 ∧ F 30 l = 0) ↔ isAdd a = true := by
  cases a with
  | var j =>
    have hw : j < 8 := hw
    refine ⟨fun z => ?_, fun z => by cases z⟩
    exfalso
    have := z.1
    rw [hT.1] at this
    exact nj_8 hw this
  | neg b =>
    have hk : 4 + wsT b ≤ 1000 := hk
    refine ⟨fun z => ?_, fun z => by cases z⟩
    exfalso
    obtain ⟨m, m1, m2, m3⟩ := TN.pos b (k := 1) hw (Nat.le_refl _) (by omega) hT
    rw [m3] at z
    exact absurd z.2 (nk_ne0 (by omega) (by omega))
  | add b c => exact ⟨fun _ => rfl, fun _ => ⟨hT.1, hT.2.1⟩⟩
  | sub b c =>
    refine ⟨fun z => ?_, fun z => by cases z⟩
    rw [hT.1] at z
    exact absurd z.1 (by decide)
  | num _ => exact hw.elim
  | mulL _ _ => exact hw.elim
  | mulR _ _ => exact hw.elim
section CBG
variable {d : Nat} {h : am_H} {F : Nat → Nat → Int32} {J : Nat → Nat → Int64} {V : Nat → Nat → Value} {Q : am_Q}
set_option maxRecDepth 20000 in
theorem c_bgLoop {cnt : Nat} (h5 : F 26 5 = nI cnt) (hc : cnt ≤ 48) {v1 : Int32} (t : eT) : ∀ (k i c : Nat) (v4 v5 : Value), wfT t → 4 * k + wsT t ≤ 1000 → TN F t k i → i < cnt → c + i ≤ 47 → Q (some (.int (b2i (bgT (ngT k t))))) (ov h F J V) → am_W kc_Tree_beginsWithNot (am_cl (d + 1)) Q 4 [.ref 26, .int v1, .int (nI i), .int (nI c), v4, v5] [] (ov h F J V) := by
  have pos : ∀ (k i c m : Nat) (v4 v5 : Value), F 30 i = nI m → 1 ≤ m → m ≤ 250 → i < cnt → c + i ≤ 47 → Q (some (.int 1)) (ov h F J V) → am_W kc_Tree_beginsWithNot (am_cl (d + 1)) Q 4 [.ref 26, .int v1, .int (nI i), .int (nI c), v4, v5] [] (ov h F J V) := by
    intro k i c m v4 v5 e m1 m2 hi hci K
    rw [jx_Tree_beginsWithNot_4]
    simp only [isO_c, ax0, ex_cons, am_get, upz_at, true_and, and_true, Nat.reduceAdd, Nat.reduceLeDiff, Nat.reduceEqDiff, Nat.reduceSub, Int32.reduceOfInt, Int32.reduceAdd, Int32.reduceMul, Int32.reduceSub, ↓reduceIte, Int32.reduceLT, Int32.reduceLE, Int32.reduceToNatClampNeg, Nat.reduceMod, Nat.reduceLT, List.length_cons, List.length_nil, eq_self, true_or, or_true, and_self, implies_true, not_true_eq_false, not_false_eq_true, false_implies, true_implies, forall_const, st_aloadx, st_freturnx, st_getfieldx, st_ialoadx, st_iconstx, st_ifCondx, st_if_icmpx, st_iloadx, st_in2, kb_Tree_beginsWithNot_4, oo_26, og_26_3, oa_26, oa_30, or_30, show ((48 : Int32) ≤ nI (c)) = (48 ≤ c) from nk_le (a := 48) (b := c) (by omega) (by omega), show ¬ 48 ≤ c by omega]
    refine c_hasNodeN h5 hi hc ?_
    simp only [isO_c, ax0, ex_cons, am_get, upz_at, true_and, and_true, Nat.reduceAdd, Nat.reduceLeDiff, Nat.reduceEqDiff, Nat.reduceSub, Int32.reduceOfInt, Int32.reduceAdd, Int32.reduceMul, Int32.reduceSub, ↓reduceIte, Int32.reduceLT, Int32.reduceLE, Int32.reduceToNatClampNeg, Nat.reduceMod, Nat.reduceLT, List.length_cons, List.length_nil, eq_self, true_or, or_true, and_self, implies_true, not_true_eq_false, not_false_eq_true, false_implies, true_implies, forall_const, st_aloadx, st_freturnx, st_getfieldx, st_ialoadx, st_iconstx, st_ifCondx, st_if_icmpx, st_iloadx, st_in2, kb_Tree_beginsWithNot_4, oo_26, og_26_3, oa_26, oa_30, or_30, nk_neg (show i < 2147483648 by omega), nk_cl (show i < 2147483648 by omega), show i < 48 by omega, e, show (nI m ≤ (0 : Int32)) = (m ≤ 0) from nk_le (b := 0) (by omega) (by decide), show ¬ m ≤ 0 by omega]
    exact K
  induction t with
  | var j =>
    intro k i c v4 v5 hw hk hT hi hci K
    have hw : j < 8 := hw
    have hk : 4 * k + 2 ≤ 1000 := hk
    obtain ⟨t1, t2, t3⟩ := hT
    cases k with
    | succ k => exact pos (k + 1) i c (k + 1) v4 v5 t3 (by omega) (by omega) hi hci K
    | zero =>
      rw [jx_Tree_beginsWithNot_4]
      simp only [isO_c, ax0, ex_cons, am_get, upz_at, true_and, and_true, Nat.reduceAdd, Nat.reduceLeDiff, Nat.reduceEqDiff, Nat.reduceSub, Int32.reduceOfInt, Int32.reduceAdd, Int32.reduceMul, Int32.reduceSub, ↓reduceIte, Int32.reduceLT, Int32.reduceLE, Int32.reduceToNatClampNeg, Nat.reduceMod, Nat.reduceLT, List.length_cons, List.length_nil, eq_self, true_or, or_true, and_self, implies_true, not_true_eq_false, not_false_eq_true, false_implies, true_implies, forall_const, st_aloadx, st_freturnx, st_getfieldx, st_ialoadx, st_iconstx, st_ifCondx, st_if_icmpx, st_iloadx, st_in2, kb_Tree_beginsWithNot_4, oo_26, og_26_3, oa_26, oa_30, or_30, show ((48 : Int32) ≤ nI (c)) = (48 ≤ c) from nk_le (a := 48) (b := c) (by omega) (by omega), show ¬ 48 ≤ c by omega]
      refine c_hasNodeN h5 hi hc ?_
      simp only [isO_c, ax0, ex_cons, am_get, upz_at, true_and, and_true, Nat.reduceAdd, Nat.reduceLeDiff, Nat.reduceEqDiff, Nat.reduceSub, Int32.reduceOfInt, Int32.reduceAdd, Int32.reduceMul, Int32.reduceSub, ↓reduceIte, Int32.reduceLT, Int32.reduceLE, Int32.reduceToNatClampNeg, Nat.reduceMod, Nat.reduceLT, List.length_cons, List.length_nil, eq_self, true_or, or_true, and_self, implies_true, not_true_eq_false, not_false_eq_true, false_implies, true_implies, forall_const, st_aloadx, st_freturnx, st_getfieldx, st_gotox, st_ialoadx, st_iconstx, st_ifCondx, st_if_icmpx, st_iloadx, st_in2, st_istorex, am_put, am_nlg, kb_Tree_beginsWithNot_4, oo_26, og_26_3, jx_Tree_beginsWithNot_29, kb_Tree_beginsWithNot_29, og_26_1, og_26_0, oa_26, oa_27, or_27, oa_28, or_28, oa_30, or_30, nk_neg (show i < 2147483648 by omega), nk_cl (show i < 2147483648 by omega), show i < 48 by omega, t3, show nI 0 = (0 : Int32) from rfl, t1, t2, nj_9 hw]
      simp only [isO_c, ax0, ex_cons, am_get, upz_at, true_and, and_true, Nat.reduceAdd, Nat.reduceLeDiff, Nat.reduceEqDiff, Nat.reduceSub, Int32.reduceOfInt, Int32.reduceAdd, Int32.reduceMul, Int32.reduceSub, ↓reduceIte, Int32.reduceLT, Int32.reduceLE, Int32.reduceToNatClampNeg, Nat.reduceMod, Nat.reduceLT, List.length_cons, List.length_nil, eq_self, true_or, or_true, and_self, implies_true, not_true_eq_false, not_false_eq_true, false_implies, true_implies, forall_const, st_freturnx, st_gotox, st_goto_wx, st_iconstx, st_ifCondx, st_iincx, st_iloadx, st_istorex, am_put, am_nlg, jx_Tree_beginsWithNot_83, kb_Tree_beginsWithNot_83, jx_Tree_beginsWithNot_84, kb_Tree_beginsWithNot_84, jx_Tree_beginsWithNot_93, kb_Tree_beginsWithNot_93, nk_succ]
      rw [jx_Tree_beginsWithNot_4]
      by_cases z : 48 ≤ c + 1
      · simp only [isO_c, ax0, ex_cons, am_get, upz_at, true_and, and_true, Nat.reduceAdd, Nat.reduceLeDiff, Nat.reduceEqDiff, Nat.reduceSub, Int32.reduceOfInt, Int32.reduceAdd, Int32.reduceMul, Int32.reduceSub, ↓reduceIte, Int32.reduceLT, Int32.reduceLE, Int32.reduceToNatClampNeg, Nat.reduceMod, Nat.reduceLT, List.length_cons, List.length_nil, eq_self, true_or, or_true, and_self, implies_true, not_true_eq_false, not_false_eq_true, false_implies, true_implies, forall_const, st_aloadx, st_freturnx, st_getfieldx, st_ialoadx, st_iconstx, st_ifCondx, st_if_icmpx, st_iloadx, st_in2, kb_Tree_beginsWithNot_4, oo_26, og_26_3, jx_Tree_beginsWithNot_102, kb_Tree_beginsWithNot_102, oa_26, oa_30, or_30, show ((48 : Int32) ≤ nI (c + 1)) = (48 ≤ c + 1) from nk_le (a := 48) (b := c + 1) (by omega) (by omega), z]
        exact K
      · simp only [isO_c, ax0, ex_cons, am_get, upz_at, true_and, and_true, Nat.reduceAdd, Nat.reduceLeDiff, Nat.reduceEqDiff, Nat.reduceSub, Int32.reduceOfInt, Int32.reduceAdd, Int32.reduceMul, Int32.reduceSub, ↓reduceIte, Int32.reduceLT, Int32.reduceLE, Int32.reduceToNatClampNeg, Nat.reduceMod, Nat.reduceLT, List.length_cons, List.length_nil, eq_self, true_or, or_true, and_self, implies_true, not_true_eq_false, not_false_eq_true, false_implies, true_implies, forall_const, st_aloadx, st_freturnx, st_getfieldx, st_ialoadx, st_iconstx, st_ifCondx, st_if_icmpx, st_iloadx, st_in2, kb_Tree_beginsWithNot_4, oo_26, og_26_3, oa_26, oa_30, or_30, show ((48 : Int32) ≤ nI (c + 1)) = (48 ≤ c + 1) from nk_le (a := 48) (b := c + 1) (by omega) (by omega), z]
        refine c_hasNode1 ?_
        simp only [isO_c, ax0, ex_cons, am_get, upz_at, true_and, and_true, Nat.reduceAdd, Nat.reduceLeDiff, Nat.reduceEqDiff, Nat.reduceSub, Int32.reduceOfInt, Int32.reduceAdd, Int32.reduceMul, Int32.reduceSub, ↓reduceIte, Int32.reduceLT, Int32.reduceLE, Int32.reduceToNatClampNeg, Nat.reduceMod, Nat.reduceLT, List.length_cons, List.length_nil, eq_self, true_or, or_true, and_self, implies_true, not_true_eq_false, not_false_eq_true, false_implies, true_implies, forall_const, st_aloadx, st_freturnx, st_getfieldx, st_ialoadx, st_iconstx, st_ifCondx, st_if_icmpx, st_iloadx, st_in2, kb_Tree_beginsWithNot_4, oo_26, og_26_3, jx_Tree_beginsWithNot_102, kb_Tree_beginsWithNot_102, oa_26, oa_30, or_30]
        exact K
  | neg a ih =>
    intro k i c v4 v5 hw hk hT hi hci K
    have hk : 4 * k + (4 + wsT a) ≤ 1000 := hk
    rw [ng_neg] at K
    exact ih (k + 1) i c v4 v5 hw (by omega) hT hi hci K
  | add a b iha ihb =>
    intro k i c v4 v5 hw hk hT hi hci K
    have hk : 4 * k + (wsT a + wsT b + 3) ≤ 1000 := hk
    obtain ⟨t1, t3, l, r, t4, t5, t6, t7, t8, t9⟩ := hT
    cases k with
    | succ k => exact pos (k + 1) i c (k + 1) v4 v5 t3 (by omega) (by omega) hi hci K
    | zero =>
      rw [jx_Tree_beginsWithNot_4]
      simp only [isO_c, ax0, ex_cons, am_get, upz_at, true_and, and_true, Nat.reduceAdd, Nat.reduceLeDiff, Nat.reduceEqDiff, Nat.reduceSub, Int32.reduceOfInt, Int32.reduceAdd, Int32.reduceMul, Int32.reduceSub, ↓reduceIte, Int32.reduceLT, Int32.reduceLE, Int32.reduceToNatClampNeg, Nat.reduceMod, Nat.reduceLT, List.length_cons, List.length_nil, eq_self, true_or, or_true, and_self, implies_true, not_true_eq_false, not_false_eq_true, false_implies, true_implies, forall_const, st_aloadx, st_freturnx, st_getfieldx, st_ialoadx, st_iconstx, st_ifCondx, st_if_icmpx, st_iloadx, st_in2, kb_Tree_beginsWithNot_4, oo_26, og_26_3, oa_26, oa_30, or_30, show ((48 : Int32) ≤ nI (c)) = (48 ≤ c) from nk_le (a := 48) (b := c) (by omega) (by omega), show ¬ 48 ≤ c by omega]
      refine c_hasNodeN h5 hi hc ?_
      simp only [isO_c, ax0, ex_cons, am_get, upz_at, true_and, and_true, Nat.reduceAdd, Nat.reduceLeDiff, Nat.reduceEqDiff, Nat.reduceSub, Int32.reduceOfInt, Int32.reduceAdd, Int32.reduceMul, Int32.reduceSub, ↓reduceIte, Int32.reduceLT, Int32.reduceLE, Int32.reduceToNatClampNeg, Nat.reduceMod, Nat.reduceLT, List.length_cons, List.length_nil, eq_self, true_or, or_true, and_self, implies_true, not_true_eq_false, not_false_eq_true, false_implies, true_implies, forall_const, st_aloadx, st_freturnx, st_getfieldx, st_gotox, st_ialoadx, st_iconstx, st_ifCondx, st_if_icmpx, st_iloadx, st_in2, st_istorex, am_put, am_nlg, kb_Tree_beginsWithNot_4, oo_26, og_26_3, jx_Tree_beginsWithNot_29, kb_Tree_beginsWithNot_29, og_26_1, og_26_0, oa_26, oa_27, or_27, oa_28, or_28, oa_30, or_30, nk_neg (show i < 2147483648 by omega), nk_cl (show i < 2147483648 by omega), show i < 48 by omega, t3, show nI 0 = (0 : Int32) from rfl, t1, t6, show ¬ (8 : Int32) = 9 by decide]
      simp only [isO_c, ax0, ex_cons, am_get, upz_at, true_and, and_true, Nat.reduceAdd, Nat.reduceLeDiff, Nat.reduceEqDiff, Nat.reduceSub, Int32.reduceOfInt, Int32.reduceAdd, Int32.reduceMul, Int32.reduceSub, ↓reduceIte, Int32.reduceLT, Int32.reduceLE, Int32.reduceToNatClampNeg, Nat.reduceMod, Nat.reduceLT, List.length_cons, List.length_nil, eq_self, true_or, or_true, and_self, implies_true, not_true_eq_false, not_false_eq_true, false_implies, true_implies, forall_const, st_freturnx, st_gotox, st_goto_wx, st_iconstx, st_ifCondx, st_iincx, st_iloadx, st_istorex, am_put, am_nlg, jx_Tree_beginsWithNot_83, kb_Tree_beginsWithNot_83, jx_Tree_beginsWithNot_84, kb_Tree_beginsWithNot_84, jx_Tree_beginsWithNot_93, kb_Tree_beginsWithNot_93, nk_succ]
      exact iha 0 l (c + 1) _ _ hw.1 (by omega) t8 (by omega) (by omega) K
  | sub a b iha ihb =>
    intro k i c v4 v5 hw hk hT hi hci K
    have hk : 4 * k + (wsT a + wsT b + 8) ≤ 1000 := hk
    obtain ⟨t1, t3, l, r, t4, t5, t6, t7, t8, t9⟩ := hT
    cases k with
    | succ k => exact pos (k + 1) i c (k + 1) v4 v5 t3 (by omega) (by omega) hi hci K
    | zero =>
      have ia := TN.isA hw.1 (by omega) t8
      have K : Q (some (.int (b2i (!isAdd a && bgT a)))) (ov h F J V) := K
      have nx : isAdd a = false → am_W kc_Tree_beginsWithNot (am_cl (d + 1)) Q 83 [.ref 26, .int v1, .int (nI i), .int (nI c), .int (nI l), v5] [] (ov h F J V) := fun z => by
        rw [z, Bool.not_false, Bool.true_and] at K
        simp only [isO_c, ax0, ex_cons, am_get, upz_at, true_and, and_true, Nat.reduceAdd, Nat.reduceLeDiff, Nat.reduceEqDiff, Nat.reduceSub, Int32.reduceOfInt, Int32.reduceAdd, Int32.reduceMul, Int32.reduceSub, ↓reduceIte, Int32.reduceLT, Int32.reduceLE, Int32.reduceToNatClampNeg, Nat.reduceMod, Nat.reduceLT, List.length_cons, List.length_nil, eq_self, true_or, or_true, and_self, implies_true, not_true_eq_false, not_false_eq_true, false_implies, true_implies, forall_const, st_freturnx, st_gotox, st_goto_wx, st_iconstx, st_ifCondx, st_iincx, st_iloadx, st_istorex, am_put, am_nlg, jx_Tree_beginsWithNot_83, kb_Tree_beginsWithNot_83, jx_Tree_beginsWithNot_84, kb_Tree_beginsWithNot_84, jx_Tree_beginsWithNot_93, kb_Tree_beginsWithNot_93, nk_succ]
        exact iha 0 l (c + 1) _ _ hw.1 (by omega) t8 (by omega) (by omega) K
      have no : ¬ (F 27 l = 8 ∧ F 30 l = 0) → isAdd a = false := fun z => by
        cases e : isAdd a
        · rfl
        · exact absurd (ia.mpr e) z
      rw [jx_Tree_beginsWithNot_4]
      simp only [isO_c, ax0, ex_cons, am_get, upz_at, true_and, and_true, Nat.reduceAdd, Nat.reduceLeDiff, Nat.reduceEqDiff, Nat.reduceSub, Int32.reduceOfInt, Int32.reduceAdd, Int32.reduceMul, Int32.reduceSub, ↓reduceIte, Int32.reduceLT, Int32.reduceLE, Int32.reduceToNatClampNeg, Nat.reduceMod, Nat.reduceLT, List.length_cons, List.length_nil, eq_self, true_or, or_true, and_self, implies_true, not_true_eq_false, not_false_eq_true, false_implies, true_implies, forall_const, st_aloadx, st_freturnx, st_getfieldx, st_ialoadx, st_iconstx, st_ifCondx, st_if_icmpx, st_iloadx, st_in2, kb_Tree_beginsWithNot_4, oo_26, og_26_3, oa_26, oa_30, or_30, show ((48 : Int32) ≤ nI (c)) = (48 ≤ c) from nk_le (a := 48) (b := c) (by omega) (by omega), show ¬ 48 ≤ c by omega]
      refine c_hasNodeN h5 hi hc ?_
      simp only [isO_c, ax0, ex_cons, am_get, upz_at, true_and, and_true, Nat.reduceAdd, Nat.reduceLeDiff, Nat.reduceEqDiff, Nat.reduceSub, Int32.reduceOfInt, Int32.reduceAdd, Int32.reduceMul, Int32.reduceSub, ↓reduceIte, Int32.reduceLT, Int32.reduceLE, Int32.reduceToNatClampNeg, Nat.reduceMod, Nat.reduceLT, List.length_cons, List.length_nil, eq_self, true_or, or_true, and_self, implies_true, not_true_eq_false, not_false_eq_true, false_implies, true_implies, forall_const, st_aloadx, st_freturnx, st_getfieldx, st_gotox, st_ialoadx, st_iconstx, st_ifCondx, st_if_icmpx, st_iloadx, st_in2, st_istorex, am_put, am_nlg, kb_Tree_beginsWithNot_4, oo_26, og_26_3, jx_Tree_beginsWithNot_29, kb_Tree_beginsWithNot_29, og_26_1, og_26_0, oa_26, oa_27, or_27, oa_28, or_28, oa_30, or_30, nk_neg (show i < 2147483648 by omega), nk_cl (show i < 2147483648 by omega), show i < 48 by omega, t3, show nI 0 = (0 : Int32) from rfl, t1, t6]
      refine c_hasNodeN h5 (show l < cnt by omega) hc ?_
      simp only [isO_c, ax0, ex_cons, am_get, upz_at, true_and, and_true, Nat.reduceAdd, Nat.reduceLeDiff, Nat.reduceEqDiff, Nat.reduceSub, Int32.reduceOfInt, Int32.reduceAdd, Int32.reduceMul, Int32.reduceSub, ↓reduceIte, Int32.reduceLT, Int32.reduceLE, Int32.reduceToNatClampNeg, Nat.reduceMod, Nat.reduceLT, List.length_cons, List.length_nil, eq_self, true_or, or_true, and_self, implies_true, not_true_eq_false, not_false_eq_true, false_implies, true_implies, forall_const, st_aloadx, st_getfieldx, st_gotox, st_ialoadx, st_iconstx, st_ifCondx, st_if_icmpx, st_iloadx, st_in2, st_istorex, am_put, am_nlg, jx_Tree_beginsWithNot_29, kb_Tree_beginsWithNot_29, og_26_1, og_26_0, oo_26, og_26_3, oa_26, oa_27, or_27, oa_28, or_28, oa_30, or_30, nk_neg (show l < 2147483648 by omega), nk_cl (show l < 2147483648 by omega), show l < 48 by omega]
      refine ⟨fun z => nx (no (fun u => z u.1)), fun z => ⟨fun y => nx (no (fun u => y u.2)), fun y => ?_⟩⟩
      have z := Classical.not_not.mp z
      have y := Classical.not_not.mp y
      rw [ia.mp ⟨z, y⟩] at K
      simp only [isO_c, ax0, ex_cons, am_get, upz_at, true_and, and_true, Nat.reduceAdd, Nat.reduceLeDiff, Nat.reduceEqDiff, Nat.reduceSub, Int32.reduceOfInt, Int32.reduceAdd, Int32.reduceMul, Int32.reduceSub, ↓reduceIte, Int32.reduceLT, Int32.reduceLE, Int32.reduceToNatClampNeg, Nat.reduceMod, Nat.reduceLT, List.length_cons, List.length_nil, eq_self, true_or, or_true, and_self, implies_true, not_true_eq_false, not_false_eq_true, false_implies, true_implies, forall_const, st_freturnx, st_iconstx, st_ifCondx, st_iloadx, st_istorex, am_put, am_nlg, jx_Tree_beginsWithNot_84, kb_Tree_beginsWithNot_84]
      exact K
  | num _ => intro k i c v4 v5 hw; exact hw.elim
  | mulL _ _ _ => intro k i c v4 v5 hw; exact hw.elim
  | mulR _ _ _ => intro k i c v4 v5 hw; exact hw.elim
set_option maxRecDepth 20000 in
theorem c_putTerm (hs : HS h) {t : eT} {i cnt : Nat} {kp : Bool} {l : List Nat} (hw : wfT t) (hk : wsT t ≤ 1000) (hT : TN F t 0 i) (hi : i < cnt) (h5 : F 26 5 = nI cnt) (hc : cnt ≤ 48) (hW : WX F l) (hl : (txT t (kp && bgT t) l).length ≤ 512) (K : ∀ F', Wf F F' → WX F' (txT t (kp && bgT t) l) → Q none (ov h F' J V)) : am_cl (d + 53) 172 [.ref 32, .ref 26, .int (nI i), .int (b2i kp)] (ov h F J V) Q := by
  have e0 : brT 0 t false false = false := by unfold brT; simp
  have mid : ∀ wr : Bool, wr = (kp && bgT t) → am_W kc_Writer_putTerm (am_cl (d + 52)) Q 17 [.ref 32, .ref 26, .int (nI i), .int (b2i kp), am_dum] [.int (b2i wr)] (ov h F J V) := by
    intro wr ew
    rw [← ew] at hl K
    cases wr
    · simp only [isO_c, ax0, ex_cons, am_get, upz_at, true_and, and_true, Nat.reduceAdd, Nat.reduceLeDiff, Nat.reduceEqDiff, Nat.reduceSub, Int32.reduceOfInt, Int32.reduceAdd, Int32.reduceMul, Int32.reduceSub, ↓reduceIte, Int32.reduceLT, Int32.reduceLE, Int32.reduceToNatClampNeg, Nat.reduceMod, Nat.reduceLT, List.length_cons, List.length_nil, eq_self, true_or, or_true, and_self, implies_true, not_true_eq_false, not_false_eq_true, false_implies, true_implies, forall_const, st_aloadx, st_goto_wx, st_iconstx, st_ifCondx, st_iloadx, st_in2, st_in6, st_istorex, st_ldcx, am_put, am_nlg, jx_Writer_putTerm_17, kb_Writer_putTerm_17, oo_32, jx_Writer_putTerm_30, kb_Writer_putTerm_30, oa_32, show b2i false = (0 : Int32) from rfl]
      refine c_putNode hs t 0 i 0 cnt (d + 52) false false l F _ hw (by omega) hT hi h5 hc (by omega) (by omega) hW (by rw [e0]; exact hl) (fun F1 f1 W1 => ?_)
      rw [e0] at W1
      simp only [isO_c, ax0, ex_cons, am_get, upz_at, true_and, and_true, Nat.reduceAdd, Nat.reduceLeDiff, Nat.reduceEqDiff, Nat.reduceSub, Int32.reduceOfInt, Int32.reduceAdd, Int32.reduceMul, Int32.reduceSub, ↓reduceIte, Int32.reduceLT, Int32.reduceLE, Int32.reduceToNatClampNeg, Nat.reduceMod, Nat.reduceLT, List.length_cons, List.length_nil, eq_self, true_or, or_true, and_self, implies_true, not_true_eq_false, not_false_eq_true, false_implies, true_implies, forall_const, st_aloadx, st_goto_wx, st_iconstx, st_ifCondx, st_iloadx, st_in2, st_in6, st_return_x, jx_Writer_putTerm_30, kb_Writer_putTerm_30, oo_32, jx_Writer_putTerm_50, kb_Writer_putTerm_50, oa_32]
      exact K F1 f1 W1
    · rw [tx_true hw] at hl K
      rw [List.length_append] at hl
      have hl : (txT t false (blk l ++ [40])).length + 1 ≤ 512 := hl
      have ge := tx_ge t false (blk l ++ [40])
      simp only [isO_c, ax0, ex_cons, am_get, upz_at, true_and, and_true, Nat.reduceAdd, Nat.reduceLeDiff, Nat.reduceEqDiff, Nat.reduceSub, Int32.reduceOfInt, Int32.reduceAdd, Int32.reduceMul, Int32.reduceSub, ↓reduceIte, Int32.reduceLT, Int32.reduceLE, Int32.reduceToNatClampNeg, Nat.reduceMod, Nat.reduceLT, List.length_cons, List.length_nil, eq_self, true_or, or_true, and_self, implies_true, not_true_eq_false, not_false_eq_true, false_implies, true_implies, forall_const, st_aloadx, st_goto_wx, st_ifCondx, st_iloadx, st_in2, st_istorex, st_ldcx, am_put, am_nlg, jx_Writer_putTerm_17, kb_Writer_putTerm_17, oo_32, oa_32, show b2i true = (1 : Int32) from rfl]
      refine c_putWord (a := 3) hs (by decide) (by decide) hW (by show (blk l ++ [40]).length ≤ 512; omega) (fun F1 f1 W1 => ?_)
      simp only [isO_c, ax0, ex_cons, am_get, upz_at, true_and, and_true, Nat.reduceAdd, Nat.reduceLeDiff, Nat.reduceEqDiff, Nat.reduceSub, Int32.reduceOfInt, Int32.reduceAdd, Int32.reduceMul, Int32.reduceSub, ↓reduceIte, Int32.reduceLT, Int32.reduceLE, Int32.reduceToNatClampNeg, Nat.reduceMod, Nat.reduceLT, List.length_cons, List.length_nil, eq_self, true_or, or_true, and_self, implies_true, not_true_eq_false, not_false_eq_true, false_implies, true_implies, forall_const, st_aloadx, st_goto_wx, st_iconstx, st_ifCondx, st_iloadx, st_in2, st_in6, st_istorex, st_ldcx, am_put, am_nlg, jx_Writer_putTerm_17, kb_Writer_putTerm_17, oo_32, jx_Writer_putTerm_30, kb_Writer_putTerm_30, oa_32]
      refine c_putNode hs t 0 i 0 cnt (d + 52) false false (blk l ++ [40]) F1 _ hw (by omega) (hT.wf f1) hi (by rw [f1 26 (by decide) (by decide)]; exact h5) hc (by omega) (by omega) W1 (by rw [e0]; show (txT t false (blk l ++ [40])).length ≤ 512; omega) (fun F2 f2 W2 => ?_)
      rw [e0] at W2
      simp only [isO_c, ax0, ex_cons, am_get, upz_at, true_and, and_true, Nat.reduceAdd, Nat.reduceLeDiff, Nat.reduceEqDiff, Nat.reduceSub, Int32.reduceOfInt, Int32.reduceAdd, Int32.reduceMul, Int32.reduceSub, ↓reduceIte, Int32.reduceLT, Int32.reduceLE, Int32.reduceToNatClampNeg, Nat.reduceMod, Nat.reduceLT, List.length_cons, List.length_nil, eq_self, true_or, or_true, and_self, implies_true, not_true_eq_false, not_false_eq_true, false_implies, true_implies, forall_const, st_aloadx, st_goto_wx, st_iconstx, st_ifCondx, st_iloadx, st_in2, st_in6, st_return_x, jx_Writer_putTerm_30, kb_Writer_putTerm_30, oo_32, jx_Writer_putTerm_50, kb_Writer_putTerm_50, oa_32]
      refine c_putSign (c := 41) (l := txT t false (blk l ++ [40])) W2 (by omega) (by decide) (fun F3 f3 W3 => ?_)
      simp only [isO_c, ax0, ex_cons, am_get, upz_at, true_and, and_true, Nat.reduceAdd, Nat.reduceLeDiff, Nat.reduceEqDiff, Nat.reduceSub, Int32.reduceOfInt, Int32.reduceAdd, Int32.reduceMul, Int32.reduceSub, ↓reduceIte, Int32.reduceLT, Int32.reduceLE, Int32.reduceToNatClampNeg, Nat.reduceMod, Nat.reduceLT, List.length_cons, List.length_nil, eq_self, true_or, or_true, and_self, implies_true, not_true_eq_false, not_false_eq_true, false_implies, true_implies, forall_const, st_aloadx, st_goto_wx, st_iconstx, st_ifCondx, st_iloadx, st_in2, st_in6, st_return_x, jx_Writer_putTerm_30, kb_Writer_putTerm_30, oo_32, jx_Writer_putTerm_50, kb_Writer_putTerm_50, oa_32]
      exact K F3 ((f1.tr f2).tr f3) W3
  simp only [isO_c, ax0, ex_cons, am_get, upz_at, true_and, and_true, Nat.reduceAdd, Nat.reduceLeDiff, Nat.reduceEqDiff, Nat.reduceSub, Int32.reduceOfInt, Int32.reduceAdd, Int32.reduceMul, Int32.reduceSub, ↓reduceIte, Int32.reduceLT, Int32.reduceLE, Int32.reduceToNatClampNeg, Nat.reduceMod, Nat.reduceLT, List.length_cons, List.length_nil, eq_self, true_or, or_true, and_self, implies_true, not_true_eq_false, not_false_eq_true, false_implies, true_implies, forall_const, st_aloadx, st_gotox, st_iconstx, st_ifCondx, st_iloadx, st_in2, kb_Writer_putTerm_0, oo_26, oa_26, cx_Writer_putTerm]
  cases kp
  · simp only [isO_c, ax0, ex_cons, am_get, upz_at, true_and, and_true, Nat.reduceAdd, Nat.reduceLeDiff, Nat.reduceEqDiff, Nat.reduceSub, Int32.reduceOfInt, Int32.reduceAdd, Int32.reduceMul, Int32.reduceSub, ↓reduceIte, Int32.reduceLT, Int32.reduceLE, Int32.reduceToNatClampNeg, Nat.reduceMod, Nat.reduceLT, List.length_cons, List.length_nil, eq_self, true_or, or_true, and_self, implies_true, not_true_eq_false, not_false_eq_true, false_implies, true_implies, forall_const, st_aloadx, st_gotox, st_goto_wx, st_iconstx, st_ifCondx, st_iloadx, st_in2, kb_Writer_putTerm_0, oo_26, jx_Writer_putTerm_16, kb_Writer_putTerm_16, oa_26, show b2i false = (0 : Int32) from rfl]
    exact mid false rfl
  · simp only [isO_c, ax0, ex_cons, am_get, upz_at, true_and, and_true, Nat.reduceAdd, Nat.reduceLeDiff, Nat.reduceEqDiff, Nat.reduceSub, Int32.reduceOfInt, Int32.reduceAdd, Int32.reduceMul, Int32.reduceSub, ↓reduceIte, Int32.reduceLT, Int32.reduceLE, Int32.reduceToNatClampNeg, Nat.reduceMod, Nat.reduceLT, List.length_cons, List.length_nil, eq_self, true_or, or_true, and_self, implies_true, not_true_eq_false, not_false_eq_true, false_implies, true_implies, forall_const, st_aloadx, st_gotox, st_iconstx, st_ifCondx, st_iloadx, st_in2, kb_Writer_putTerm_0, oo_26, oa_26, show b2i true = (1 : Int32) from rfl]
    simp only [isO_c, ax0, ex_cons, am_get, upz_at, true_and, and_true, Nat.reduceAdd, Nat.reduceLeDiff, Nat.reduceEqDiff, Nat.reduceSub, Int32.reduceOfInt, Int32.reduceAdd, Int32.reduceMul, Int32.reduceSub, ↓reduceIte, Int32.reduceLT, Int32.reduceLE, Int32.reduceToNatClampNeg, Nat.reduceMod, Nat.reduceLT, List.length_cons, List.length_nil, eq_self, true_or, or_true, and_self, implies_true, not_true_eq_false, not_false_eq_true, false_implies, true_implies, forall_const, st_goto_wx, st_iconstx, st_iloadx, st_istorex, am_put, am_nlg, kb_Tree_beginsWithNot_0, cx_Tree_beginsWithNot]
    refine c_bgLoop h5 hc t 0 i 0 _ _ hw (by omega) hT hi (by omega) ?_
    simp only [isO_c, ax0, ex_cons, am_get, upz_at, true_and, and_true, Nat.reduceAdd, Nat.reduceLeDiff, Nat.reduceEqDiff, Nat.reduceSub, Int32.reduceOfInt, Int32.reduceAdd, Int32.reduceMul, Int32.reduceSub, ↓reduceIte, Int32.reduceLT, Int32.reduceLE, Int32.reduceToNatClampNeg, Nat.reduceMod, Nat.reduceLT, List.length_cons, List.length_nil, eq_self, true_or, or_true, and_self, implies_true, not_true_eq_false, not_false_eq_true, false_implies, true_implies, forall_const, st_aloadx, st_gotox, st_goto_wx, st_iconstx, st_ifCondx, st_iloadx, st_in2, kb_Writer_putTerm_0, oo_26, jx_Writer_putTerm_16, kb_Writer_putTerm_16, oa_26]
    refine ifb (fun z => ?_) (fun z => ?_)
    · exact mid false (by rw [show bgT t = false from z]; rfl)
    · exact mid true (by rw [show bgT t = true from z]; rfl)
end CBG
