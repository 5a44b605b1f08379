/-! ===== the class: derived, by, derive ===== -/
/-- what the class holds of the derivation, if it holds it -/
def DVf (F : Nat → Nat → Int32) (D : dT) : Prop := F 75 0 = 0 ∨ F 75 0 = 1 ∧ DvD D.2.2.2 F (rdD D)
/-- what may differ behind derived, by, derive -/
def Cd (F F' : Nat → Nat → Int32) : Prop := ∀ x, x ≠ 47 → x ≠ 51 → x ≠ 67 → x ≠ 71 → x ≠ 65 → x ≠ 66 → x ≠ 75 → x ≠ 76 → x ≠ 77 → x ≠ 78 → x ≠ 79 → F' x = F x
theorem Cd.rf {F : Nat → Nat → Int32} : Cd F F := fun _ _ _ _ _ _ _ _ _ _ _ _ => rfl
section CDY
variable {d : Nat} {h : am_H} {F : Nat → Nat → Int32} {J : Nat → Nat → Int64} {V : Nat → Nat → Value} {Q : am_Q}
set_option maxRecDepth 20000 in
theorem c_fillI {v : Int32} (K : ∀ f, (∀ i, i < 256 → f i = v) → Q none (ov h (upz F 76 f) J V)) : am_cl (d + 1) 5 [.ref 76, .int v] (ov h F J V) Q := by
  simp only [isO_c, ax0, ex_cons, am_get, upz_at, true_and, and_true, Nat.reduceAdd, Nat.reduceLeDiff, Nat.reduceEqDiff, Nat.reduceSub, Int32.reduceOfInt, Int32.reduceAdd, Int32.reduceMul, Int32.reduceSub, ↓reduceIte, Int32.reduceLT, Int32.reduceLE, Int32.reduceToNatClampNeg, Nat.reduceMod, Nat.reduceLT, List.length_cons, List.length_nil, eq_self, true_or, or_true, and_self, implies_true, not_true_eq_false, not_false_eq_true, false_implies, true_implies, forall_const, st_aloadx, st_arraylengthx, st_goto_wx, st_iconstx, st_istorex, am_put, am_nlg, kb_Arrays_fill_I_0, cx_Arrays_fill_I, oa_76, ol_76]
  have key : ∀ j k f, k + j = 256 → (∀ i, i < k → f i = v) → am_W kc_Arrays_fill_I (am_cl d) Q 5 [.ref 76, .int v, .int (nI k), .int (nI 256)] [] (ov h (upz F 76 f) J V) := by
    intro j
    induction j with
    | zero =>
      intro k f ek g
      have ek : k = 256 := ek
      subst ek
      rw [jx_Arrays_fill_I_5]
      simp only [isO_c, ax0, ex_cons, am_get, upz_at, true_and, and_true, Nat.reduceAdd, Nat.reduceLeDiff, Nat.reduceEqDiff, Nat.reduceSub, Int32.reduceOfInt, Int32.reduceAdd, Int32.reduceMul, Int32.reduceSub, ↓reduceIte, Int32.reduceLT, Int32.reduceLE, Int32.reduceToNatClampNeg, Nat.reduceMod, Nat.reduceLT, List.length_cons, List.length_nil, eq_self, true_or, or_true, and_self, implies_true, not_true_eq_false, not_false_eq_true, false_implies, true_implies, forall_const, st_aloadx, st_gotox, st_iastorex, st_if_icmpx, st_iincx, st_iloadx, st_return_x, am_put, am_nlg, kb_Arrays_fill_I_5, jx_Arrays_fill_I_20, kb_Arrays_fill_I_20, (nk_le (by omega) (by omega) : (nI (256) ≤ nI (256)) = (256 ≤ 256)), Nat.le_refl]
      exact K f g
    | succ j ih =>
      intro k f ek g
      rw [jx_Arrays_fill_I_5]
      simp only [isO_c, ax0, ex_cons, am_get, upz_at, true_and, and_true, Nat.reduceAdd, Nat.reduceLeDiff, Nat.reduceEqDiff, Nat.reduceSub, Int32.reduceOfInt, Int32.reduceAdd, Int32.reduceMul, Int32.reduceSub, ↓reduceIte, Int32.reduceLT, Int32.reduceLE, Int32.reduceToNatClampNeg, Nat.reduceMod, Nat.reduceLT, List.length_cons, List.length_nil, eq_self, true_or, or_true, and_self, implies_true, not_true_eq_false, not_false_eq_true, false_implies, true_implies, forall_const, st_aloadx, st_gotox, st_iastorex, st_if_icmpx, st_iincx, st_iloadx, am_put, am_nlg, kb_Arrays_fill_I_5, (nk_le (by omega) (by omega) : (nI (256) ≤ nI (k)) = (256 ≤ k)), show ¬ 256 ≤ k by omega, oa_76, ow_76, os_76, nk_neg (show k < 2147483648 by omega), nk_cl (show k < 2147483648 by omega), show k < 256 by omega, upz_eq, upz_upd, nk_succ]
      refine ih (k + 1) _ (by omega) (fun i hi => ?_)
      rw [upz_at]
      split
      · rfl
      · exact g i (by omega)
  have := key 256 0 (F 76) rfl (fun i hi => absurd hi (Nat.not_lt_zero i))
  rw [upz_self] at this
  exact this
set_option maxRecDepth 20000 in
theorem c_addGiven {o : Option Nat} (w1 : ∀ a, o = some a → a < 256 ∧ isNu a = true) (h5 : F 75 5 = nI (cn (pD (F 76)) 256)) (K : ∀ F', (∀ x, x ≠ 75 → x ≠ 76 → F' x = F x) → (∀ i, i ≠ 5 → F' 75 i = F 75 i) → (∀ x, x < 256 → F' 76 x = if o = some x ∧ F 76 x = -1 then 0 else F 76 x) → F' 75 5 = nI (cn (pD (F' 76)) 256) → Q none (ov h F' J V)) : am_cl (d + 3) 86 [.ref 75, .int (oI o)] (ov h F J V) Q := by
  cases o with
  | none =>
    simp only [isO_c, ax0, ex_cons, am_get, upz_at, true_and, and_true, Nat.reduceAdd, Nat.reduceLeDiff, Nat.reduceEqDiff, Nat.reduceSub, Int32.reduceOfInt, Int32.reduceAdd, Int32.reduceMul, Int32.reduceSub, ↓reduceIte, Int32.reduceLT, Int32.reduceLE, Int32.reduceToNatClampNeg, Nat.reduceMod, Nat.reduceLT, List.length_cons, List.length_nil, eq_self, true_or, or_true, and_self, implies_true, not_true_eq_false, not_false_eq_true, false_implies, true_implies, forall_const, st_aloadx, st_dupx, st_dup_1x, st_getfieldx, st_goto_wx, st_iaddx, st_ialoadx, st_iastorex, st_iconstx, st_ifCondx, st_if_icmpx, st_iloadx, st_st1, st_putfieldx, kb_Derivation_addGiven_0, og_75_1, og_75_5, op_75_5, oa_75, os_75, oa_76, or_76, ow_76, os_76, cx_Derivation_addGiven, oI_none]
    refine c_isSimple1 ?_
    simp only [isO_c, ax0, ex_cons, am_get, upz_at, true_and, and_true, Nat.reduceAdd, Nat.reduceLeDiff, Nat.reduceEqDiff, Nat.reduceSub, Int32.reduceOfInt, Int32.reduceAdd, Int32.reduceMul, Int32.reduceSub, ↓reduceIte, Int32.reduceLT, Int32.reduceLE, Int32.reduceToNatClampNeg, Nat.reduceMod, Nat.reduceLT, List.length_cons, List.length_nil, eq_self, true_or, or_true, and_self, implies_true, not_true_eq_false, not_false_eq_true, false_implies, true_implies, forall_const, st_aloadx, st_dupx, st_dup_1x, st_getfieldx, st_goto_wx, st_iaddx, st_ialoadx, st_iastorex, st_iconstx, st_ifCondx, st_if_icmpx, st_iloadx, st_st1, st_putfieldx, st_return_x, kb_Derivation_addGiven_0, og_75_1, og_75_5, op_75_5, jx_Derivation_addGiven_34, kb_Derivation_addGiven_34, oa_75, os_75, oa_76, or_76, ow_76, os_76]
    refine K F (fun _ _ _ => rfl) (fun _ _ => rfl) (fun x _ => ?_) h5
    rw [if_neg]
    rintro ⟨z, _⟩
    cases z
  | some a =>
    obtain ⟨a1, a2⟩ := w1 a rfl
    simp only [isO_c, ax0, ex_cons, am_get, upz_at, true_and, and_true, Nat.reduceAdd, Nat.reduceLeDiff, Nat.reduceEqDiff, Nat.reduceSub, Int32.reduceOfInt, Int32.reduceAdd, Int32.reduceMul, Int32.reduceSub, ↓reduceIte, Int32.reduceLT, Int32.reduceLE, Int32.reduceToNatClampNeg, Nat.reduceMod, Nat.reduceLT, List.length_cons, List.length_nil, eq_self, true_or, or_true, and_self, implies_true, not_true_eq_false, not_false_eq_true, false_implies, true_implies, forall_const, st_aloadx, st_dupx, st_dup_1x, st_getfieldx, st_goto_wx, st_iaddx, st_ialoadx, st_iastorex, st_iconstx, st_ifCondx, st_if_icmpx, st_iloadx, st_st1, st_putfieldx, kb_Derivation_addGiven_0, og_75_1, og_75_5, op_75_5, oa_75, os_75, oa_76, or_76, ow_76, os_76, cx_Derivation_addGiven, oI_some]
    refine c_isSimple a1 ?_
    rw [a2]
    simp only [isO_c, ax0, ex_cons, am_get, upz_at, true_and, and_true, Nat.reduceAdd, Nat.reduceLeDiff, Nat.reduceEqDiff, Nat.reduceSub, Int32.reduceOfInt, Int32.reduceAdd, Int32.reduceMul, Int32.reduceSub, ↓reduceIte, Int32.reduceLT, Int32.reduceLE, Int32.reduceToNatClampNeg, Nat.reduceMod, Nat.reduceLT, List.length_cons, List.length_nil, eq_self, true_or, or_true, and_self, implies_true, not_true_eq_false, not_false_eq_true, false_implies, true_implies, forall_const, st_aloadx, st_dupx, st_dup_1x, st_getfieldx, st_goto_wx, st_iaddx, st_ialoadx, st_iastorex, st_iconstx, st_ifCondx, st_if_icmpx, st_iloadx, st_st1, st_putfieldx, st_return_x, kb_Derivation_addGiven_0, og_75_1, og_75_5, op_75_5, jx_Derivation_addGiven_34, kb_Derivation_addGiven_34, oa_75, os_75, oa_76, or_76, ow_76, os_76, show b2i true = (1 : Int32) from rfl, nk_neg (show a < 2147483648 by omega), nk_cl (show a < 2147483648 by omega), a1]
    refine ⟨fun w => ?_, fun w => ?_⟩
    · refine K F (fun _ _ _ => rfl) (fun _ _ => rfl) (fun x _ => ?_) h5
      rw [if_neg]
      rintro ⟨z, z2⟩
      cases z
      exact w z2
    · have w := Classical.not_not.mp w
      refine K _ (fun x x1 x2 => by rw [upz_ne _ _ x1, upz_ne _ _ x2]) (fun i hi => by rw [upz_eq, upz_ne _ _ hi]) (fun x hx => ?_) ?_
      · rw [upz_ne _ _ (by decide), upz_eq]
        by_cases z : x = a
        · subst z
          rw [upz_eq, if_pos ⟨rfl, w⟩]
        · rw [upz_ne _ _ z, if_neg]
          rintro ⟨y, _⟩
          exact z (Option.some.inj y).symm
      · rw [upz_eq, upz_eq, upz_ne _ _ (by decide), upz_eq, h5, cn_up w (by decide), if_pos a1, nk_succ]
set_option maxRecDepth 20000 in
theorem c_findDerived (hb : HB h) (hpt : HP h) {X : kT} (hD : DK h F V 34 X) (hS : SYf F) (hV : DVf F X.1) (K : ∀ F' J', Cd F F' → SYf F' → F' 75 0 = 1 → DvD X.1.2.2.2 F' (rdD X.1) → Q none (ov h F' J' V)) : am_cl (d + 7) 50 [.ref 23] (ov h F J V) Q := by
  have h12 := hD.1.2.1
  rcases hV with z | ⟨z, g⟩
  · simp only [isO_c, ax0, ex_cons, am_get, upz_at, true_and, and_true, Nat.reduceAdd, Nat.reduceLeDiff, Nat.reduceEqDiff, Nat.reduceSub, Int32.reduceOfInt, Int32.reduceAdd, Int32.reduceMul, Int32.reduceSub, ↓reduceIte, Int32.reduceLT, Int32.reduceLE, Int32.reduceToNatClampNeg, Nat.reduceMod, Nat.reduceLT, List.length_cons, List.length_nil, eq_self, true_or, or_true, and_self, implies_true, not_true_eq_false, not_false_eq_true, false_implies, true_implies, forall_const, st_aloadx, st_getfieldx, st_goto_wx, st_iconstx, st_ifCondx, st_in1, st_istorex, st_return_x, am_put, am_nlg, kb_Slips_findDerived_0, og_23_9, og_75_0, jx_Slips_findDerived_11, kb_Slips_findDerived_11, oo_75, oa_23, oa_75, cx_Slips_findDerived, z]
    simp only [isO_c, ax0, ex_cons, am_get, upz_at, true_and, and_true, Nat.reduceAdd, Nat.reduceLeDiff, Nat.reduceEqDiff, Nat.reduceSub, Int32.reduceOfInt, Int32.reduceAdd, Int32.reduceMul, Int32.reduceSub, ↓reduceIte, Int32.reduceLT, Int32.reduceLE, Int32.reduceToNatClampNeg, Nat.reduceMod, Nat.reduceLT, List.length_cons, List.length_nil, eq_self, true_or, or_true, and_self, implies_true, not_true_eq_false, not_false_eq_true, false_implies, true_implies, forall_const, st_aloadx, st_getfieldx, st_iconstx, st_st2, st_putfieldx, st_putstaticx, st_return_x, kb_Derivation_start_0, og_75_1, op_75_5, op_75_6, op_75_0, oa_75, os_75, oa_76, cx_Derivation_start]
    refine c_fillI (fun f hf => ?_)
    simp only [isO_c, ax0, ex_cons, am_get, upz_at, true_and, and_true, Nat.reduceAdd, Nat.reduceLeDiff, Nat.reduceEqDiff, Nat.reduceSub, Int32.reduceOfInt, Int32.reduceAdd, Int32.reduceMul, Int32.reduceSub, ↓reduceIte, Int32.reduceLT, Int32.reduceLE, Int32.reduceToNatClampNeg, Nat.reduceMod, Nat.reduceLT, List.length_cons, List.length_nil, eq_self, true_or, or_true, and_self, implies_true, not_true_eq_false, not_false_eq_true, false_implies, true_implies, forall_const, st_aloadx, st_getfieldx, st_iconstx, st_st2, st_putfieldx, st_putstaticx, st_return_x, kb_Derivation_start_0, og_75_1, op_75_5, op_75_6, op_75_0, oa_75, os_75, oa_76, upz_upd, upz_eq]
    simp only [isO_c, ax0, ex_cons, am_get, upz_at, true_and, and_true, Nat.reduceAdd, Nat.reduceLeDiff, Nat.reduceEqDiff, Nat.reduceSub, Int32.reduceOfInt, Int32.reduceAdd, Int32.reduceMul, Int32.reduceSub, ↓reduceIte, Int32.reduceLT, Int32.reduceLE, Int32.reduceToNatClampNeg, Nat.reduceMod, Nat.reduceLT, List.length_cons, List.length_nil, eq_self, true_or, or_true, and_self, implies_true, not_true_eq_false, not_false_eq_true, false_implies, true_implies, forall_const, st_aloadx, st_getfieldx, st_goto_wx, st_iconstx, st_in1, st_istorex, am_put, am_nlg, jx_Slips_findDerived_11, kb_Slips_findDerived_11, og_23_9, oo_75, oa_23, oa_75]
    generalize eF : upz (upz F 76 f) 75 _ = F0
    have o0 : ∀ x, x ≠ 75 → x ≠ 76 → F0 x = F x := fun x x1 x2 => by rw [← eF, upz_ne _ _ x1, upz_ne _ _ x2]
    have r0 : ∀ x, x < 256 → F0 76 x = -1 := fun x hx => by rw [← eF, upz_ne _ _ (by decide), upz_eq]; exact hf x hx
    have f5 : F0 75 5 = 0 := by rw [← eF, upz_eq]; simp only [upz_at, Nat.reduceEqDiff, ↓reduceIte]
    have f6 : F0 75 6 = 0 := by rw [← eF, upz_eq]; simp only [upz_at, Nat.reduceEqDiff, ↓reduceIte]
    have f0 : F0 75 0 = 1 := by rw [← eF, upz_eq]; simp only [upz_at, Nat.reduceEqDiff, ↓reduceIte]
    clear eF
    have c0 : cn (pD (F0 76)) 256 = 0 := by
      rcases Nat.eq_zero_or_pos (cn (pD (F0 76)) 256) with t | t
      · exact t
      · obtain ⟨k, k1, k2, _⟩ := cn_at t
        exact absurd (r0 k k1) (pD_t.mp k2)
    have fin : ∀ F1 v2, (∀ x, x ≠ 75 → x ≠ 76 → F1 x = F x) → (∀ i, i ≠ 5 → F1 75 i = F0 75 i) → (∀ x, x < 256 → F1 76 x = rd0 X.1 X.1.1 x) → F1 75 5 = nI (cn (pD (F1 76)) 256) → am_W kc_Slips_findDerived (am_cl (d + 6)) Q 62 [.ref 23, .int (nI X.1.1), v2] [] (ov h F1 J V) := by
      intro F1 v2 o1 o2 r1 s1
      have D1 : DK h F1 V 34 X := hD.cg (fun i _ => by rw [o1 34 (by decide) (by decide)]) (o1 37 (by decide) (by decide)) rfl rfl rfl
      have S1 : SYf F1 := by
        unfold SYf at hS ⊢
        rw [o1 65 (by decide) (by decide), o1 66 (by decide) (by decide)]
        exact hS
      simp only [isO_c, ax0, ex_cons, am_get, upz_at, true_and, and_true, Nat.reduceAdd, Nat.reduceLeDiff, Nat.reduceEqDiff, Nat.reduceSub, Int32.reduceOfInt, Int32.reduceAdd, Int32.reduceMul, Int32.reduceSub, ↓reduceIte, Int32.reduceLT, Int32.reduceLE, Int32.reduceToNatClampNeg, Nat.reduceMod, Nat.reduceLT, List.length_cons, List.length_nil, eq_self, true_or, or_true, and_self, implies_true, not_true_eq_false, not_false_eq_true, false_implies, true_implies, forall_const, st_aloadx, st_getfieldx, st_in2, st_return_x, jx_Slips_findDerived_62, kb_Slips_findDerived_62, og_23_8, og_23_1, og_34_3, oo_65, og_23_9, oo_75, oa_23, oa_34, oa_65, oa_75, D1.2.2.1]
      refine c_learn hb hpt S1 (fun F2 J2 l2 y2 t2 => ?_)
      have e75 : F2 75 = F1 75 := l2.1 75 (by decide) (by decide) (by decide) (by decide) (by decide) (by decide)
      have e76 : F2 76 = F1 76 := l2.1 76 (by decide) (by decide) (by decide) (by decide) (by decide) (by decide)
      simp only [isO_c, ax0, ex_cons, am_get, upz_at, true_and, and_true, Nat.reduceAdd, Nat.reduceLeDiff, Nat.reduceEqDiff, Nat.reduceSub, Int32.reduceOfInt, Int32.reduceAdd, Int32.reduceMul, Int32.reduceSub, ↓reduceIte, Int32.reduceLT, Int32.reduceLE, Int32.reduceToNatClampNeg, Nat.reduceMod, Nat.reduceLT, List.length_cons, List.length_nil, eq_self, true_or, or_true, and_self, implies_true, not_true_eq_false, not_false_eq_true, false_implies, true_implies, forall_const, st_aloadx, st_getfieldx, st_in2, st_return_x, jx_Slips_findDerived_62, kb_Slips_findDerived_62, og_23_8, og_23_1, og_34_3, oo_65, og_23_9, oo_75, oa_23, oa_34, oa_65, oa_75]
      have hI : RInv X.1.2.2.2 (F2 76) 0 := by
        rw [e76]
        refine ⟨fun x hx => ?_, fun x hx e => ?_, fun a b x k1 k2 _ _ _ _ l1 => absurd l1 (Nat.not_lt_zero _)⟩
        · rw [r1 x hx]
          unfold rd0
          split
          · exact Or.inr ⟨0, Nat.le_refl _, rfl⟩
          · exact Or.inl rfl
        · rw [r1 x hx] at e
          unfold rd0 at e
          cases q : hasN X.1 X.1.1 x
          · rw [q, if_neg Bool.false_ne_true] at e; exact absurd rfl e
          · exact hasN_nu (fun i hi => by obtain ⟨p, _, hs⟩ := hD.1.2.2 i hi; exact hs.1) X.1.1 (Nat.le_refl _) x q
      refine c_run t2 (r0 := rd0 X.1 X.1.1) (by rw [e76]; exact r1) hI (by rw [e75, e76]; exact s1) (by rw [e75, o2 6 (by decide)]; exact f6) (fun F3 w3 v3 => ?_)
      simp only [isO_c, ax0, ex_cons, am_get, upz_at, true_and, and_true, Nat.reduceAdd, Nat.reduceLeDiff, Nat.reduceEqDiff, Nat.reduceSub, Int32.reduceOfInt, Int32.reduceAdd, Int32.reduceMul, Int32.reduceSub, ↓reduceIte, Int32.reduceLT, Int32.reduceLE, Int32.reduceToNatClampNeg, Nat.reduceMod, Nat.reduceLT, List.length_cons, List.length_nil, eq_self, true_or, or_true, and_self, implies_true, not_true_eq_false, not_false_eq_true, false_implies, true_implies, forall_const, st_aloadx, st_getfieldx, st_in2, st_return_x, jx_Slips_findDerived_62, kb_Slips_findDerived_62, og_23_8, og_23_1, og_34_3, oo_65, og_23_9, oo_75, oa_23, oa_34, oa_65, oa_75]
      refine K F3 J2 (fun x x1 x2 x3 x4 x5 x6 x7 x8 x9 x10 x11 => ?_) ?_ ?_ v3
      · rw [w3.1 x x5 x7 x8 x9 x10 x11, l2.1 x x1 x2 x3 x4 x5 x6]; exact o1 x x7 x8
      · unfold SYf at y2 ⊢
        rw [w3.2.1, w3.2.2.1, w3.1 66 (by decide) (by decide) (by decide) (by decide) (by decide) (by decide)]
        exact y2
      · rw [w3.2.2.2, e75, o2 0 (by decide)]; exact f0
    have key : ∀ j k F1 v2, k + j = X.1.1 → (∀ x, x ≠ 75 → x ≠ 76 → F1 x = F x) → (∀ i, i ≠ 5 → F1 75 i = F0 75 i) → (∀ x, x < 256 → F1 76 x = rd0 X.1 k x) → F1 75 5 = nI (cn (pD (F1 76)) 256) → am_W kc_Slips_findDerived (am_cl (d + 6)) Q 20 [.ref 23, .int (nI k), v2] [] (ov h F1 J V) := by
      intro j
      induction j with
      | zero =>
        intro k F1 v2 ek o1 o2 r1 s1
        have ek : k = X.1.1 := ek
        have f34 : F1 34 1 = nI X.1.1 := by rw [o1 34 (by decide) (by decide)]; exact hD.1.1
        rw [← ek] at fin f34
        rw [jx_Slips_findDerived_20]
        simp only [isO_c, ax0, ex_cons, am_get, upz_at, true_and, and_true, Nat.reduceAdd, Nat.reduceLeDiff, Nat.reduceEqDiff, Nat.reduceSub, Int32.reduceOfInt, Int32.reduceAdd, Int32.reduceMul, Int32.reduceSub, ↓reduceIte, Int32.reduceLT, Int32.reduceLE, Int32.reduceToNatClampNeg, Nat.reduceMod, Nat.reduceLT, List.length_cons, List.length_nil, eq_self, true_or, or_true, and_self, implies_true, not_true_eq_false, not_false_eq_true, false_implies, true_implies, forall_const, st_aaloadx, st_aloadx, st_astorex, st_astore_1x, st_getfieldx, st_goto_wx, st_if_icmpx, st_ifnullx, st_ifnull_1x, st_iloadx, st_in1, st_in2, am_put, am_nlg, kb_Slips_findDerived_20, og_23_1, og_34_1, og_34_0, og_23_9, oo_75, oa_23, oa_34, oa_75, oa_35, or_35, f34, (nk_le (by omega) (by omega) : (nI (k) ≤ nI (k)) = (k ≤ k)), Nat.le_refl]
        exact fin F1 _ o1 o2 (by rw [← ek] at *; exact r1) s1
      | succ j ih =>
        intro k F1 v2 ek o1 o2 r1 s1
        have f34 : F1 34 1 = nI X.1.1 := by rw [o1 34 (by decide) (by decide)]; exact hD.1.1
        obtain ⟨p, p1, p2⟩ := hD.1.2.2 k (by omega)
        have p1 : V 35 k = .ref p := p1
        obtain ⟨_, _, _, ob⟩ := p2.obj
        rw [jx_Slips_findDerived_20]
        simp only [isO_c, ax0, ex_cons, am_get, upz_at, true_and, and_true, Nat.reduceAdd, Nat.reduceLeDiff, Nat.reduceEqDiff, Nat.reduceSub, Int32.reduceOfInt, Int32.reduceAdd, Int32.reduceMul, Int32.reduceSub, ↓reduceIte, Int32.reduceLT, Int32.reduceLE, Int32.reduceToNatClampNeg, Nat.reduceMod, Nat.reduceLT, List.length_cons, List.length_nil, eq_self, true_or, or_true, and_self, implies_true, not_true_eq_false, not_false_eq_true, false_implies, true_implies, forall_const, st_aaloadx, st_aloadx, st_astorex, st_astore_1x, st_getfieldx, st_goto_wx, st_if_icmpx, st_ifnullx, st_ifnull_1x, st_iloadx, st_in1, st_in2, am_put, am_nlg, kb_Slips_findDerived_20, og_23_1, og_34_1, og_34_0, og_23_9, oo_75, oa_23, oa_34, oa_75, oa_35, or_35, oa_35, or_35, f34, (nk_le (by omega) (by omega) : (nI (X.1.1) ≤ nI (k)) = (X.1.1 ≤ k)), show ¬ X.1.1 ≤ k by omega, nk_neg (show k < 2147483648 by omega), nk_cl (show k < 2147483648 by omega), show k < 12 by omega, p1, ob]
        refine c_number p2 ?_
        simp only [isO_c, ax0, ex_cons, am_get, upz_at, true_and, and_true, Nat.reduceAdd, Nat.reduceLeDiff, Nat.reduceEqDiff, Nat.reduceSub, Int32.reduceOfInt, Int32.reduceAdd, Int32.reduceMul, Int32.reduceSub, ↓reduceIte, Int32.reduceLT, Int32.reduceLE, Int32.reduceToNatClampNeg, Nat.reduceMod, Nat.reduceLT, List.length_cons, List.length_nil, eq_self, true_or, or_true, and_self, implies_true, not_true_eq_false, not_false_eq_true, false_implies, true_implies, forall_const, st_aaloadx, st_aloadx, st_astorex, st_astore_1x, st_getfieldx, st_goto_wx, st_if_icmpx, st_ifnullx, st_ifnull_1x, st_iloadx, st_in1, st_in2, am_put, am_nlg, kb_Slips_findDerived_20, og_23_1, og_34_1, og_34_0, og_23_9, oo_75, oa_23, oa_34, oa_75, oa_35, or_35]
        refine c_addGiven (fun a z => nuR_num p2.1 z) s1 (fun F2 a1 a2 a3 a4 => ?_)
        simp only [isO_c, ax0, ex_cons, am_get, upz_at, true_and, and_true, Nat.reduceAdd, Nat.reduceLeDiff, Nat.reduceEqDiff, Nat.reduceSub, Int32.reduceOfInt, Int32.reduceAdd, Int32.reduceMul, Int32.reduceSub, ↓reduceIte, Int32.reduceLT, Int32.reduceLE, Int32.reduceToNatClampNeg, Nat.reduceMod, Nat.reduceLT, List.length_cons, List.length_nil, eq_self, true_or, or_true, and_self, implies_true, not_true_eq_false, not_false_eq_true, false_implies, true_implies, forall_const, st_aaloadx, st_aloadx, st_astorex, st_astore_1x, st_getfieldx, st_gotox, st_goto_wx, st_if_icmpx, st_ifnullx, st_ifnull_1x, st_iincx, st_iloadx, st_in1, st_in2, am_put, am_nlg, kb_Slips_findDerived_20, og_23_1, og_34_1, og_34_0, og_23_9, oo_75, jx_Slips_findDerived_56, kb_Slips_findDerived_56, oa_23, oa_34, oa_75, oa_35, or_35, nk_succ]
        refine ih (k + 1) F2 _ (by omega) (fun x x1 x2 => (a1 x x1 x2).trans (o1 x x1 x2)) (fun i hi => (a2 i hi).trans (o2 i hi)) (fun x hx => ?_) a4
        rw [a3 x hx, r1 x hx]
        unfold rd0
        show _ = if (hasN X.1 k x || decide (nuR (X.1.2.1 k) = some x)) = true then 0 else -1
        cases q : hasN X.1 k x
        · rw [if_neg Bool.false_ne_true, Bool.false_or]
          by_cases y : nuR (X.1.2.1 k) = some x
          · rw [if_pos ⟨y, rfl⟩, if_pos (decide_eq_true y)]
          · rw [if_neg (fun t => y t.1), if_neg (fun t => y (of_decide_eq_true t))]
        · rw [if_pos rfl, Bool.true_or, if_pos rfl, if_neg]
          rintro ⟨_, t⟩
          exact absurd t (by decide)
    exact key X.1.1 0 F0 _ (by omega) o0 (fun _ _ => rfl) (fun x hx => r0 x hx) (by rw [f5, c0]; rfl)
  · simp only [isO_c, ax0, ex_cons, am_get, upz_at, true_and, and_true, Nat.reduceAdd, Nat.reduceLeDiff, Nat.reduceEqDiff, Nat.reduceSub, Int32.reduceOfInt, Int32.reduceAdd, Int32.reduceMul, Int32.reduceSub, ↓reduceIte, Int32.reduceLT, Int32.reduceLE, Int32.reduceToNatClampNeg, Nat.reduceMod, Nat.reduceLT, List.length_cons, List.length_nil, eq_self, true_or, or_true, and_self, implies_true, not_true_eq_false, not_false_eq_true, false_implies, true_implies, forall_const, st_aloadx, st_getfieldx, st_ifCondx, st_return_x, kb_Slips_findDerived_0, og_23_9, og_75_0, oa_23, oa_75, cx_Slips_findDerived, z]
    exact K F J Cd.rf hS z g
set_option maxRecDepth 20000 in
theorem cp_derived (hb : HB h) (hpt : HP h) {X : kT} (hD : DK h F V 34 X) (hS : SYf F) (hV : DVf F X.1) {m s p : Int32} (K : ∀ F' J', Cd F F' → SYf F' → DVf F' X.1 → Q (some (.int (aDerived X.1 m s p))) (ov h F' J' V)) : am_cl (d + 8) 47 [.ref 23, .int m, .int s, .int p] (ov h F J V) Q := by
  unfold aDerived at K
  have es : siB m s p = (lieB m 0 3 && kiB s p) := by unfold siB kiB; simp [Bool.and_assoc]
  simp only [isO_c, ax0, ex_cons, am_get, upz_at, true_and, and_true, Nat.reduceAdd, Nat.reduceLeDiff, Nat.reduceEqDiff, Nat.reduceSub, Int32.reduceOfInt, Int32.reduceAdd, Int32.reduceMul, Int32.reduceSub, ↓reduceIte, Int32.reduceLT, Int32.reduceLE, Int32.reduceToNatClampNeg, Nat.reduceMod, Nat.reduceLT, List.length_cons, List.length_nil, eq_self, true_or, or_true, and_self, implies_true, not_true_eq_false, not_false_eq_true, false_implies, true_implies, forall_const, st_goto_wx, st_ifCondx, st_iloadx, st_st1, st_st2, kb_Slips_derived_0, cx_Slips_derived]
  refine c_isMood ?_
  simp only [isO_c, ax0, ex_cons, am_get, upz_at, true_and, and_true, Nat.reduceAdd, Nat.reduceLeDiff, Nat.reduceEqDiff, Nat.reduceSub, Int32.reduceOfInt, Int32.reduceAdd, Int32.reduceMul, Int32.reduceSub, ↓reduceIte, Int32.reduceLT, Int32.reduceLE, Int32.reduceToNatClampNeg, Nat.reduceMod, Nat.reduceLT, List.length_cons, List.length_nil, eq_self, true_or, or_true, and_self, implies_true, not_true_eq_false, not_false_eq_true, false_implies, true_implies, forall_const, st_goto_wx, st_iconstx, st_ifCondx, st_iloadx, st_st1, st_st2, st_ireturnx, kb_Slips_derived_0, jx_Slips_derived_15, kb_Slips_derived_15]
  refine ifb (fun e => ?_) (fun e => ?_)
  · rw [es, e, Bool.false_and, if_neg Bool.false_ne_true] at K
    exact K F J Cd.rf hS hV
  refine c_areTwoKinds ?_
  simp only [isO_c, ax0, ex_cons, am_get, upz_at, true_and, and_true, Nat.reduceAdd, Nat.reduceLeDiff, Nat.reduceEqDiff, Nat.reduceSub, Int32.reduceOfInt, Int32.reduceAdd, Int32.reduceMul, Int32.reduceSub, ↓reduceIte, Int32.reduceLT, Int32.reduceLE, Int32.reduceToNatClampNeg, Nat.reduceMod, Nat.reduceLT, List.length_cons, List.length_nil, eq_self, true_or, or_true, and_self, implies_true, not_true_eq_false, not_false_eq_true, false_implies, true_implies, forall_const, st_goto_wx, st_iconstx, st_ifCondx, st_iloadx, st_st1, st_st2, st_ireturnx, kb_Slips_derived_0, jx_Slips_derived_15, kb_Slips_derived_15]
  refine ifnb (fun e2 => ?_) (fun e2 => ?_)
  · have e3 : siB m s p = true := by rw [es, e, e2]; rfl
    rw [e3, if_pos rfl] at K
    obtain ⟨a, b, c, m1, s1, p1, ha, hb2, hc, en⟩ := siB_nI e3
    rw [en] at K
    have e5 : (64 : Int32) * nI a + (8 : Int32) * nI b + nI c = nI (64 * a + 8 * b + c) := by
      rw [show (64 : Int32) * nI a = nI (64 * a) from nk_mul 64 a, show (8 : Int32) * nI b = nI (8 * b) from nk_mul 8 b, nk_add, nk_add]
    have hl : 64 * a + 8 * b + c < 256 := by omega
    generalize 64 * a + 8 * b + c = n at e5 hl K
    subst m1; subst s1; subst p1
    simp only [isO_c, ax0, ex_cons, am_get, upz_at, true_and, and_true, Nat.reduceAdd, Nat.reduceLeDiff, Nat.reduceEqDiff, Nat.reduceSub, Int32.reduceOfInt, Int32.reduceAdd, Int32.reduceMul, Int32.reduceSub, ↓reduceIte, Int32.reduceLT, Int32.reduceLE, Int32.reduceToNatClampNeg, Nat.reduceMod, Nat.reduceLT, List.length_cons, List.length_nil, eq_self, true_or, or_true, and_self, implies_true, not_true_eq_false, not_false_eq_true, false_implies, true_implies, forall_const, st_aloadx, st_getfieldx, st_ialoadx, st_iloadx, st_in1, st_st3, st_ireturnx, jx_Slips_derived_17, kb_Slips_derived_17, oo_23, og_23_9, og_75_1, oa_23, oa_75, oa_76, or_76]
    refine c_findDerived hb hpt hD hS hV (fun F1 J1 c1 y1 z1 g1 => ?_)
    simp only [isO_c, ax0, ex_cons, am_get, upz_at, true_and, and_true, Nat.reduceAdd, Nat.reduceLeDiff, Nat.reduceEqDiff, Nat.reduceSub, Int32.reduceOfInt, Int32.reduceAdd, Int32.reduceMul, Int32.reduceSub, ↓reduceIte, Int32.reduceLT, Int32.reduceLE, Int32.reduceToNatClampNeg, Nat.reduceMod, Nat.reduceLT, List.length_cons, List.length_nil, eq_self, true_or, or_true, and_self, implies_true, not_true_eq_false, not_false_eq_true, false_implies, true_implies, forall_const, st_aloadx, st_getfieldx, st_ialoadx, st_iloadx, st_in1, st_st3, st_ireturnx, jx_Slips_derived_17, kb_Slips_derived_17, oo_23, og_23_9, og_75_1, oa_23, oa_75, oa_76, or_76]
    simp only [isO_c, ax0, ex_cons, am_get, upz_at, true_and, and_true, Nat.reduceAdd, Nat.reduceLeDiff, Nat.reduceEqDiff, Nat.reduceSub, Int32.reduceOfInt, Int32.reduceAdd, Int32.reduceMul, Int32.reduceSub, ↓reduceIte, Int32.reduceLT, Int32.reduceLE, Int32.reduceToNatClampNeg, Nat.reduceMod, Nat.reduceLT, List.length_cons, List.length_nil, eq_self, true_or, or_true, and_self, implies_true, not_true_eq_false, not_false_eq_true, false_implies, true_implies, forall_const, st_iaddx, st_iconstx, st_iloadx, st_imulx, st_ireturnx, cx_Slips_numberOf, kb_Slips_numberOf_0, e5]
    simp only [isO_c, ax0, ex_cons, am_get, upz_at, true_and, and_true, Nat.reduceAdd, Nat.reduceLeDiff, Nat.reduceEqDiff, Nat.reduceSub, Int32.reduceOfInt, Int32.reduceAdd, Int32.reduceMul, Int32.reduceSub, ↓reduceIte, Int32.reduceLT, Int32.reduceLE, Int32.reduceToNatClampNeg, Nat.reduceMod, Nat.reduceLT, List.length_cons, List.length_nil, eq_self, true_or, or_true, and_self, implies_true, not_true_eq_false, not_false_eq_true, false_implies, true_implies, forall_const, st_aloadx, st_getfieldx, st_ialoadx, st_iloadx, st_in1, st_st3, st_ireturnx, jx_Slips_derived_17, kb_Slips_derived_17, oo_23, og_23_9, og_75_1, oa_23, oa_75, oa_76, or_76, nk_neg (show n < 2147483648 by omega), nk_cl (show n < 2147483648 by omega), hl, g1.1 n hl]
    exact K F1 J1 c1 y1 (Or.inr ⟨z1, g1⟩)
  · rw [es, e, e2, Bool.and_false, if_neg Bool.false_ne_true] at K
    exact K F J Cd.rf hS hV
set_option maxRecDepth 20000 in
theorem cp_by (hb : HB h) (hpt : HP h) {X : kT} (hD : DK h F V 34 X) (hS : SYf F) (hV : DVf F X.1) {m s p w : Int32} (K : ∀ F' J', Cd F F' → SYf F' → DVf F' X.1 → Q (some (.int (aBy X.1 m s p w))) (ov h F' J' V)) : am_cl (d + 8) 48 [.ref 23, .int m, .int s, .int p, .int w] (ov h F J V) Q := by
  unfold aBy at K
  have es : siB m s p = (lieB m 0 3 && kiB s p) := by unfold siB kiB; simp [Bool.and_assoc]
  simp only [isO_c, ax0, ex_cons, am_get, upz_at, true_and, and_true, Nat.reduceAdd, Nat.reduceLeDiff, Nat.reduceEqDiff, Nat.reduceSub, Int32.reduceOfInt, Int32.reduceAdd, Int32.reduceMul, Int32.reduceSub, ↓reduceIte, Int32.reduceLT, Int32.reduceLE, Int32.reduceToNatClampNeg, Nat.reduceMod, Nat.reduceLT, List.length_cons, List.length_nil, eq_self, true_or, or_true, and_self, implies_true, not_true_eq_false, not_false_eq_true, false_implies, true_implies, forall_const, st_goto_wx, st_ifCondx, st_iloadx, st_st1, st_st2, kb_Slips_by_0, cx_Slips_by]
  refine c_isMood ?_
  simp only [isO_c, ax0, ex_cons, am_get, upz_at, true_and, and_true, Nat.reduceAdd, Nat.reduceLeDiff, Nat.reduceEqDiff, Nat.reduceSub, Int32.reduceOfInt, Int32.reduceAdd, Int32.reduceMul, Int32.reduceSub, ↓reduceIte, Int32.reduceLT, Int32.reduceLE, Int32.reduceToNatClampNeg, Nat.reduceMod, Nat.reduceLT, List.length_cons, List.length_nil, eq_self, true_or, or_true, and_self, implies_true, not_true_eq_false, not_false_eq_true, false_implies, true_implies, forall_const, st_goto_wx, st_iconstx, st_ifCondx, st_iloadx, st_st1, st_st2, st_ireturnx, kb_Slips_by_0, jx_Slips_by_15, kb_Slips_by_15]
  refine ifb (fun e => ?_) (fun e => ?_)
  · rw [es, e, Bool.false_and, Bool.false_and, if_neg Bool.false_ne_true] at K
    exact K F J Cd.rf hS hV
  refine c_areTwoKinds ?_
  simp only [isO_c, ax0, ex_cons, am_get, upz_at, true_and, and_true, Nat.reduceAdd, Nat.reduceLeDiff, Nat.reduceEqDiff, Nat.reduceSub, Int32.reduceOfInt, Int32.reduceAdd, Int32.reduceMul, Int32.reduceSub, ↓reduceIte, Int32.reduceLT, Int32.reduceLE, Int32.reduceToNatClampNeg, Nat.reduceMod, Nat.reduceLT, List.length_cons, List.length_nil, eq_self, true_or, or_true, and_self, implies_true, not_true_eq_false, not_false_eq_true, false_implies, true_implies, forall_const, st_goto_wx, st_iconstx, st_ifCondx, st_iloadx, st_st1, st_st2, st_ireturnx, kb_Slips_by_0, jx_Slips_by_15, kb_Slips_by_15]
  refine ifnb (fun e2 => ?_) (fun e2 => ?_)
  · have e3 : siB m s p = true := by rw [es, e, e2]; rfl
    rw [e3, Bool.true_and] at K
    obtain ⟨a, b, c, m1, s1, p1, ha, hb2, hc, en⟩ := siB_nI e3
    rw [en] at K
    have e5 : (64 : Int32) * nI a + (8 : Int32) * nI b + nI c = nI (64 * a + 8 * b + c) := by
      rw [show (64 : Int32) * nI a = nI (64 * a) from nk_mul 64 a, show (8 : Int32) * nI b = nI (8 * b) from nk_mul 8 b, nk_add, nk_add]
    have hl : 64 * a + 8 * b + c < 256 := by omega
    generalize 64 * a + 8 * b + c = n at e5 hl K
    subst m1; subst s1; subst p1
    simp only [isO_c, ax0, ex_cons, am_get, upz_at, true_and, and_true, Nat.reduceAdd, Nat.reduceLeDiff, Nat.reduceEqDiff, Nat.reduceSub, Int32.reduceOfInt, Int32.reduceAdd, Int32.reduceMul, Int32.reduceSub, ↓reduceIte, Int32.reduceLT, Int32.reduceLE, Int32.reduceToNatClampNeg, Nat.reduceMod, Nat.reduceLT, List.length_cons, List.length_nil, eq_self, true_or, or_true, and_self, implies_true, not_true_eq_false, not_false_eq_true, false_implies, true_implies, forall_const, st_aloadx, st_getfieldx, st_ialoadx, st_iconstx, st_if_icmpx, st_iloadx, st_in1, st_st3, st_ireturnx, st_istorex, am_put, am_nlg, jx_Slips_by_17, kb_Slips_by_17, oo_23, og_23_9, og_75_1, oa_23, oa_75, oa_76, or_76]
    refine c_findDerived hb hpt hD hS hV (fun F1 J1 c1 y1 z1 g1 => ?_)
    have K := K F1 J1 c1 y1 (Or.inr ⟨z1, g1⟩)
    simp only [isO_c, ax0, ex_cons, am_get, upz_at, true_and, and_true, Nat.reduceAdd, Nat.reduceLeDiff, Nat.reduceEqDiff, Nat.reduceSub, Int32.reduceOfInt, Int32.reduceAdd, Int32.reduceMul, Int32.reduceSub, ↓reduceIte, Int32.reduceLT, Int32.reduceLE, Int32.reduceToNatClampNeg, Nat.reduceMod, Nat.reduceLT, List.length_cons, List.length_nil, eq_self, true_or, or_true, and_self, implies_true, not_true_eq_false, not_false_eq_true, false_implies, true_implies, forall_const, st_aloadx, st_getfieldx, st_ialoadx, st_iconstx, st_if_icmpx, st_iloadx, st_in1, st_st3, st_ireturnx, st_istorex, am_put, am_nlg, jx_Slips_by_17, kb_Slips_by_17, oo_23, og_23_9, og_75_1, oa_23, oa_75, oa_76, or_76]
    simp only [isO_c, ax0, ex_cons, am_get, upz_at, true_and, and_true, Nat.reduceAdd, Nat.reduceLeDiff, Nat.reduceEqDiff, Nat.reduceSub, Int32.reduceOfInt, Int32.reduceAdd, Int32.reduceMul, Int32.reduceSub, ↓reduceIte, Int32.reduceLT, Int32.reduceLE, Int32.reduceToNatClampNeg, Nat.reduceMod, Nat.reduceLT, List.length_cons, List.length_nil, eq_self, true_or, or_true, and_self, implies_true, not_true_eq_false, not_false_eq_true, false_implies, true_implies, forall_const, st_iaddx, st_iconstx, st_iloadx, st_imulx, st_ireturnx, cx_Slips_numberOf, kb_Slips_numberOf_0, e5]
    simp only [isO_c, ax0, ex_cons, am_get, upz_at, true_and, and_true, Nat.reduceAdd, Nat.reduceLeDiff, Nat.reduceEqDiff, Nat.reduceSub, Int32.reduceOfInt, Int32.reduceAdd, Int32.reduceMul, Int32.reduceSub, ↓reduceIte, Int32.reduceLT, Int32.reduceLE, Int32.reduceToNatClampNeg, Nat.reduceMod, Nat.reduceLT, List.length_cons, List.length_nil, eq_self, true_or, or_true, and_self, implies_true, not_true_eq_false, not_false_eq_true, false_implies, true_implies, forall_const, st_aloadx, st_getfieldx, st_gotox, st_ialoadx, st_iconstx, st_ifCondx, st_if_icmpx, st_iloadx, st_in1, st_st3, st_ireturnx, st_istorex, am_put, am_nlg, jx_Slips_by_17, kb_Slips_by_17, oo_23, og_23_9, og_75_1, jx_Slips_by_45, kb_Slips_by_45, og_75_2, oa_23, oa_75, oa_76, or_76, oa_77, or_77, nk_neg (show n < 2147483648 by omega), nk_cl (show n < 2147483648 by omega), hl, g1.1 n hl]
    refine ⟨fun q => ?_, fun q => ?_⟩
    · have q : ¬ (rdD X.1).1 n < 1 := Int32.not_lt.mpr q
      obtain ⟨a', b', k1, k2, k3⟩ := g1.2.2.2 n hl q
      rw [if_neg q, k3] at K
      simp only [isO_c, ax0, ex_cons, am_get, upz_at, true_and, and_true, Nat.reduceAdd, Nat.reduceLeDiff, Nat.reduceEqDiff, Nat.reduceSub, Int32.reduceOfInt, Int32.reduceAdd, Int32.reduceMul, Int32.reduceSub, ↓reduceIte, Int32.reduceLT, Int32.reduceLE, Int32.reduceToNatClampNeg, Nat.reduceMod, Nat.reduceLT, List.length_cons, List.length_nil, eq_self, true_or, or_true, and_self, implies_true, not_true_eq_false, not_false_eq_true, false_implies, true_implies, forall_const, st_aloadx, st_getfieldx, st_gotox, st_goto_wx, st_ialoadx, st_iconstx, st_ifCondx, st_if_icmpx, st_iloadx, st_ireturnx, jx_Slips_by_45, kb_Slips_by_45, og_23_9, og_75_2, jx_Slips_by_63, kb_Slips_by_63, og_75_3, jx_Slips_by_82, kb_Slips_by_82, jx_Slips_by_83, kb_Slips_by_83, oa_23, oa_75, oa_77, or_77, oa_78, or_78, oa_77, or_77, oa_78, or_78, nk_neg (show n < 2147483648 by omega), nk_cl (show n < 2147483648 by omega), hl, k1, k2]
      refine ⟨fun w0 => ⟨fun w1 => ?_, fun w1 => ?_⟩, fun w0 => ?_⟩
      · have e : lieB w 0 1 = false := by
          cases z : lieB w 0 1
          · rfl
          · obtain ⟨c, ec, hc, _⟩ := lieB_nI (m := 1) (by decide) z
            rcases (show c = 0 ∨ c = 1 by omega) with t | t <;> subst t
            · exact absurd ec w0
            · exact absurd ec w1
        rw [e, if_neg Bool.false_ne_true] at K
        exact K
      · have w1 := Classical.not_not.mp w1
        subst w1
        exact K
      · have w0 := Classical.not_not.mp w0
        subst w0
        exact K
    · rw [if_pos (Int32.not_le.mp q), ite_self] at K
      exact K
  · rw [es, e, e2, Bool.and_false, Bool.false_and, if_neg Bool.false_ne_true] at K
    exact K F J Cd.rf hS hV
set_option maxRecDepth 20000 in
theorem cp_derive (hb : HB h) (hpt : HP h) {X : kT} (hD : DK h F V 34 X) (hS : SYf F) (hV : DVf F X.1) {w : Int32} (K : ∀ F' J', Cd F F' → SYf F' → DVf F' X.1 → Q (some (.int (aDerive X.1 w))) (ov h F' J' V)) : am_cl (d + 8) 49 [.ref 23, .int w] (ov h F J V) Q := by
  unfold aDerive at K
  simp only [isO_c, ax0, ex_cons, am_get, upz_at, true_and, and_true, Nat.reduceAdd, Nat.reduceLeDiff, Nat.reduceEqDiff, Nat.reduceSub, Int32.reduceOfInt, Int32.reduceAdd, Int32.reduceMul, Int32.reduceSub, ↓reduceIte, Int32.reduceLT, Int32.reduceLE, Int32.reduceToNatClampNeg, Nat.reduceMod, Nat.reduceLT, List.length_cons, List.length_nil, eq_self, true_or, or_true, and_self, implies_true, not_true_eq_false, not_false_eq_true, false_implies, true_implies, forall_const, st_aloadx, st_getfieldx, st_gotox, st_ifCondx, st_iloadx, st_in1, kb_Slips_derive_0, oo_23, og_23_9, og_75_5, oa_23, oa_75, cx_Slips_derive]
  refine c_findDerived hb hpt hD hS hV (fun F1 J1 c1 y1 z1 g1 => ?_)
  have K := K F1 J1 c1 y1 (Or.inr ⟨z1, g1⟩)
  simp only [isO_c, ax0, ex_cons, am_get, upz_at, true_and, and_true, Nat.reduceAdd, Nat.reduceLeDiff, Nat.reduceEqDiff, Nat.reduceSub, Int32.reduceOfInt, Int32.reduceAdd, Int32.reduceMul, Int32.reduceSub, ↓reduceIte, Int32.reduceLT, Int32.reduceLE, Int32.reduceToNatClampNeg, Nat.reduceMod, Nat.reduceLT, List.length_cons, List.length_nil, eq_self, true_or, or_true, and_self, implies_true, not_true_eq_false, not_false_eq_true, false_implies, true_implies, forall_const, st_aloadx, st_getfieldx, st_gotox, st_goto_wx, st_iconstx, st_ifCondx, st_if_icmpx, st_iloadx, st_in1, st_ireturnx, kb_Slips_derive_0, oo_23, og_23_9, og_75_5, jx_Slips_derive_18, kb_Slips_derive_18, og_75_6, jx_Slips_derive_33, kb_Slips_derive_33, jx_Slips_derive_34, kb_Slips_derive_34, oa_23, oa_75, g1.2.1, g1.2.2.1]
  refine ⟨fun w0 => ⟨fun w1 => ?_, fun w1 => ?_⟩, fun w0 => ?_⟩
  · have e : lieB w 0 1 = false := by
      cases z : lieB w 0 1
      · rfl
      · obtain ⟨c, ec, hc, _⟩ := lieB_nI (m := 1) (by decide) z
        rcases (show c = 0 ∨ c = 1 by omega) with t | t <;> subst t
        · exact absurd ec w0
        · exact absurd ec w1
    rw [e, if_neg Bool.false_ne_true] at K
    exact K
  · have w1 := Classical.not_not.mp w1
    subst w1
    exact K
  · have w0 := Classical.not_not.mp w0
    subst w0
    exact K
end CDY
