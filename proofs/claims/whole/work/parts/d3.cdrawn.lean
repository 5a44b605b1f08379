/-! ===== the class: drawn ===== -/
theorem CYr.ok {n : Int32} {f : Nat → Int32} {y : yT} (h : CYr n f (some y)) : n = nI y.1 ∧ y.1 ≤ 12 ∧ ∀ i, i < y.1 → f i = nI (y.2 i) ∧ y.2 i < 256 ∧ isNu (y.2 i) = true := h
section CDR
variable {d : Nat} {h : am_H} {F : Nat → Nat → Int32} {J : Nat → Nat → Int64} {V : Nat → Nat → Value} {Q : am_Q}
set_option maxRecDepth 20000 in
theorem c_nextState {hp : am_H} {s : Nat} (hs : s < 1000003) (K : Q (some (.int (nI (drN s)))) hp) : am_cl (d + 1) 56 [.int (nI s)] hp Q := by
  have e1 : nI s * (1103 : Int32) + 12345 = nI (1103 * s + 12345) := by
    rw [Int32.mul_comm]
    rw [show (1103 : Int32) * nI s = nI (1103 * s) from nk_mul 1103 s]
    exact nk_add (1103 * s) 12345
  have e3 : nI (1103 * s + 12345) - nI (1103 * s + 12345) / (1000003 : Int32) * 1000003 = nI (drN s) := nk_rem (b := 1000003) (by omega) (by omega) (by decide)
  simp only [isO_c, ax0, ex_cons, am_get, upz_at, true_and, and_true, Nat.reduceAdd, Nat.reduceLeDiff, Nat.reduceEqDiff, Nat.reduceSub, Int32.reduceOfInt, Int32.reduceAdd, Int32.reduceMul, Int32.reduceSub, ↓reduceIte, Int32.reduceLT, Int32.reduceLE, Int32.reduceToNatClampNeg, Nat.reduceMod, Nat.reduceLT, List.length_cons, List.length_nil, eq_self, true_or, or_true, and_self, implies_true, not_true_eq_false, not_false_eq_true, false_implies, true_implies, forall_const, st_iaddx, st_iconstx, st_iloadx, st_imulx, st_iremx, st_ireturnx, cx_Slips_nextState, kb_Slips_nextState_0, e1, e3]
  exact ⟨by decide, K⟩
set_option maxRecDepth 20000 in
theorem c_countInRiddle (hb : HB h) (hpt : HP h) {y : yT} (hy : CYr (F 23 11) (F 80) (some y)) {m : Nat} (hm : m < 4) (K : ∀ F' J', Cf F F' → Q (some (.int (nI (riC y m)))) (ov h F' J' V)) : am_cl (d + 7) 58 [.ref 23, .int (nI m)] (ov h F J V) Q := by
  obtain ⟨y1, y2, y3⟩ := hy.ok
  simp only [isO_c, ax0, ex_cons, am_get, upz_at, true_and, and_true, Nat.reduceAdd, Nat.reduceLeDiff, Nat.reduceEqDiff, Nat.reduceSub, Int32.reduceOfInt, Int32.reduceAdd, Int32.reduceMul, Int32.reduceSub, ↓reduceIte, Int32.reduceLT, Int32.reduceLE, Int32.reduceToNatClampNeg, Nat.reduceMod, Nat.reduceLT, List.length_cons, List.length_nil, eq_self, true_or, or_true, and_self, implies_true, not_true_eq_false, not_false_eq_true, false_implies, true_implies, forall_const, st_aloadx, st_getfieldx, st_goto_wx, st_iconstx, st_in1, st_istorex, am_put, am_nlg, kb_Slips_countInRiddle_0, og_23_3, oo_47, oa_23, oa_47, cx_Slips_countInRiddle]
  refine c_clear (Or.inl rfl) (fun F1 J1 t1 q1 => ?_)
  simp only [isO_c, ax0, ex_cons, am_get, upz_at, true_and, and_true, Nat.reduceAdd, Nat.reduceLeDiff, Nat.reduceEqDiff, Nat.reduceSub, Int32.reduceOfInt, Int32.reduceAdd, Int32.reduceMul, Int32.reduceSub, ↓reduceIte, Int32.reduceLT, Int32.reduceLE, Int32.reduceToNatClampNeg, Nat.reduceMod, Nat.reduceLT, List.length_cons, List.length_nil, eq_self, true_or, or_true, and_self, implies_true, not_true_eq_false, not_false_eq_true, false_implies, true_implies, forall_const, st_aloadx, st_getfieldx, st_goto_wx, st_iconstx, st_in1, st_istorex, am_put, am_nlg, kb_Slips_countInRiddle_0, og_23_3, oo_47, oa_23, oa_47]
  have key : ∀ j k F2 J2 P, k + j = y.1 → TT F2 J2 47 (rzT y.2 k) P → (rzT y.2 k).2.1.length + pcn P ≤ k → Cf F F2 → am_W kc_Slips_countInRiddle (am_cl (d + 6)) Q 9 [.ref 23, .int (nI m), .int (nI k)] [] (ov h F2 J2 V) := by
    intro j
    induction j with
    | zero =>
      intro k F2 J2 P ek t2 s2 q2
      have ek : k = y.1 := ek
      subst ek
      have h23 : F2 23 11 = nI y.1 := by rw [q2 23 (by decide) (by decide) (by decide) (by decide)]; exact y1
      rw [jx_Slips_countInRiddle_9]
      simp only [isO_c, ax0, ex_cons, am_get, upz_at, true_and, and_true, Nat.reduceAdd, Nat.reduceLeDiff, Nat.reduceEqDiff, Nat.reduceSub, Int32.reduceOfInt, Int32.reduceAdd, Int32.reduceMul, Int32.reduceSub, ↓reduceIte, Int32.reduceLT, Int32.reduceLE, Int32.reduceToNatClampNeg, Nat.reduceMod, Nat.reduceLT, List.length_cons, List.length_nil, eq_self, true_or, or_true, and_self, implies_true, not_true_eq_false, not_false_eq_true, false_implies, true_implies, forall_const, st_aloadx, st_getfieldx, st_gotox, st_ialoadx, st_iconstx, st_if_icmpx, st_iincx, st_iloadx, st_in2, st_in3, st_ireturnx, am_put, am_nlg, kb_Slips_countInRiddle_9, og_23_11, og_23_4, og_23_10, og_23_3, oo_47, jx_Slips_countInRiddle_48, kb_Slips_countInRiddle_48, oo_23, oa_23, oa_47, oa_80, or_80, h23, (nk_le (by omega) (by omega) : (nI (y.1) ≤ nI (y.1)) = (y.1 ≤ y.1)), Nat.le_refl]
      refine c_countFollowing hb hpt t2 hm (ex := false) (fun F3 J3 c3 => ?_)
      simp only [isO_c, ax0, ex_cons, am_get, upz_at, true_and, and_true, Nat.reduceAdd, Nat.reduceLeDiff, Nat.reduceEqDiff, Nat.reduceSub, Int32.reduceOfInt, Int32.reduceAdd, Int32.reduceMul, Int32.reduceSub, ↓reduceIte, Int32.reduceLT, Int32.reduceLE, Int32.reduceToNatClampNeg, Nat.reduceMod, Nat.reduceLT, List.length_cons, List.length_nil, eq_self, true_or, or_true, and_self, implies_true, not_true_eq_false, not_false_eq_true, false_implies, true_implies, forall_const, st_aloadx, st_iconstx, st_iloadx, st_in3, st_ireturnx, jx_Slips_countInRiddle_48, kb_Slips_countInRiddle_48, oo_23, oa_23]
      exact K F3 J3 (q2.tr c3)
    | succ j ih =>
      intro k F2 J2 P ek t2 s2 q2
      have h23 : F2 23 11 = nI y.1 := by rw [q2 23 (by decide) (by decide) (by decide) (by decide)]; exact y1
      obtain ⟨g1, g2, g3⟩ := y3 k (by omega)
      have h80 : F2 80 k = nI (y.2 k) := by rw [q2 80 (by decide) (by decide) (by decide) (by decide)]; exact g1
      rw [jx_Slips_countInRiddle_9]
      simp only [isO_c, ax0, ex_cons, am_get, upz_at, true_and, and_true, Nat.reduceAdd, Nat.reduceLeDiff, Nat.reduceEqDiff, Nat.reduceSub, Int32.reduceOfInt, Int32.reduceAdd, Int32.reduceMul, Int32.reduceSub, ↓reduceIte, Int32.reduceLT, Int32.reduceLE, Int32.reduceToNatClampNeg, Nat.reduceMod, Nat.reduceLT, List.length_cons, List.length_nil, eq_self, true_or, or_true, and_self, implies_true, not_true_eq_false, not_false_eq_true, false_implies, true_implies, forall_const, st_aloadx, st_getfieldx, st_gotox, st_ialoadx, st_iconstx, st_if_icmpx, st_iincx, st_iloadx, st_in2, st_in3, am_put, am_nlg, kb_Slips_countInRiddle_9, og_23_11, og_23_4, og_23_10, oo_51, og_23_3, oo_47, oa_23, oa_47, oa_51, oa_80, or_80, oa_80, or_80, h23, (nk_le (by omega) (by omega) : (nI (y.1) ≤ nI (k)) = (y.1 ≤ k)), show ¬ y.1 ≤ k by omega, nk_neg (show k < 2147483648 by omega), nk_cl (show k < 2147483648 by omega), show k < 12 by omega, h80]
      refine c_setNumber (Or.inl rfl) hpt g2 (fun F3 J3 l3 q3 => ?_)
      simp only [isO_c, ax0, ex_cons, am_get, upz_at, true_and, and_true, Nat.reduceAdd, Nat.reduceLeDiff, Nat.reduceEqDiff, Nat.reduceSub, Int32.reduceOfInt, Int32.reduceAdd, Int32.reduceMul, Int32.reduceSub, ↓reduceIte, Int32.reduceLT, Int32.reduceLE, Int32.reduceToNatClampNeg, Nat.reduceMod, Nat.reduceLT, List.length_cons, List.length_nil, eq_self, true_or, or_true, and_self, implies_true, not_true_eq_false, not_false_eq_true, false_implies, true_implies, forall_const, st_aloadx, st_getfieldx, st_gotox, st_ialoadx, st_iconstx, st_if_icmpx, st_iincx, st_iloadx, st_in2, st_in3, am_put, am_nlg, kb_Slips_countInRiddle_9, og_23_11, og_23_4, og_23_10, oo_51, og_23_3, oo_47, oa_23, oa_47, oa_51, oa_80, or_80]
      refine c_grantClaim (Or.inl rfl) (ex := false) (t2.si (Or.inl rfl) (Or.inl rfl) q3) (by omega) l3 (clR_ok _) (fun F4 J4 t4 q4 => ?_)
      simp only [isO_c, ax0, ex_cons, am_get, upz_at, true_and, and_true, Nat.reduceAdd, Nat.reduceLeDiff, Nat.reduceEqDiff, Nat.reduceSub, Int32.reduceOfInt, Int32.reduceAdd, Int32.reduceMul, Int32.reduceSub, ↓reduceIte, Int32.reduceLT, Int32.reduceLE, Int32.reduceToNatClampNeg, Nat.reduceMod, Nat.reduceLT, List.length_cons, List.length_nil, eq_self, true_or, or_true, and_self, implies_true, not_true_eq_false, not_false_eq_true, false_implies, true_implies, forall_const, st_aloadx, st_getfieldx, st_gotox, st_ialoadx, st_iconstx, st_if_icmpx, st_iincx, st_iloadx, st_in2, st_in3, am_put, am_nlg, kb_Slips_countInRiddle_9, og_23_11, og_23_4, og_23_10, oo_51, og_23_3, oo_47, oa_23, oa_47, oa_51, oa_80, or_80, nk_succ]
      refine ih (k + 1) F4 J4 _ (by omega) t4 ?_ ((q2.tr (q3.cf (Or.inl rfl))).tr (q4.cf (Or.inl rfl)))
      have := gr_sz (T := rzT y.2 k) (P := P) (C := clR (rS (y.2 k))) (clR_ok _) false
      show (tellz (rzT y.2 k) (clR (rS (y.2 k))) false).2.1.length + _ ≤ k + 1
      omega
  exact key y.1 0 F1 J1 0 (by omega) t1 (by show tE.2.1.length + pcn 0 ≤ 0; decide) (q1.cf (Or.inl rfl))
set_option maxRecDepth 20000 in
theorem co_drawn (hb : HB h) (hpt : HP h) {A : aT} (hA : CB h F V A) {i w : Int32} (K : ∀ F' J', Cf F F' → Q (some (.int (aDrawn A i w))) (ov h F' J' V)) : am_cl (d + 8) 57 [.ref 23, .int i, .int w] (ov h F J V) Q := by
  have hy := hA.2.2.2.2.2.2
  unfold aDrawn at K
  cases ey : A.2.2.2.2 with
  | none =>
    rw [ey] at K hy
    have hy : F 23 11 = -1 := hy
    simp only [isO_c, ax0, ex_cons, am_get, upz_at, true_and, and_true, Nat.reduceAdd, Nat.reduceLeDiff, Nat.reduceEqDiff, Nat.reduceSub, Int32.reduceOfInt, Int32.reduceAdd, Int32.reduceMul, Int32.reduceSub, ↓reduceIte, Int32.reduceLT, Int32.reduceLE, Int32.reduceToNatClampNeg, Nat.reduceMod, Nat.reduceLT, List.length_cons, List.length_nil, eq_self, true_or, or_true, and_self, implies_true, not_true_eq_false, not_false_eq_true, false_implies, true_implies, forall_const, st_aloadx, st_getfieldx, st_iconstx, st_if_icmpx, st_ireturnx, kb_Slips_drawn_0, og_23_11, oa_23, cx_Slips_drawn, hy]
    exact K F J Cf.rf
  | some y =>
    rw [ey] at K hy
    obtain ⟨y1, y2, y3⟩ := hy.ok
    dsimp only at K
    have n1 : ¬ nI y.1 = -1 := fun e => by rw [nI_neg1 (show y.1 < 2147483648 by omega)] at e; exact e
    by_cases ei : i = -1
    · subst ei
      rw [if_pos rfl, bd_m1 y2, Bool.and_true, if_pos rfl] at K
      by_cases w0 : w = 0
      · subst w0
        rw [show lieB 0 0 1 = true from rfl, if_pos rfl, if_pos rfl] at K
        simp only [isO_c, ax0, ex_cons, am_get, upz_at, true_and, and_true, Nat.reduceAdd, Nat.reduceLeDiff, Nat.reduceEqDiff, Nat.reduceSub, Int32.reduceOfInt, Int32.reduceAdd, Int32.reduceMul, Int32.reduceSub, ↓reduceIte, Int32.reduceLT, Int32.reduceLE, Int32.reduceToNatClampNeg, Nat.reduceMod, Nat.reduceLT, List.length_cons, List.length_nil, eq_self, true_or, or_true, and_self, implies_true, not_true_eq_false, not_false_eq_true, false_implies, true_implies, forall_const, st_aloadx, st_getfieldx, st_gotox, st_goto_wx, st_iconstx, st_ifCondx, st_if_icmpx, st_iloadx, st_in2, st_ireturnx, kb_Slips_drawn_0, og_23_11, jx_Slips_drawn_10, kb_Slips_drawn_10, jx_Slips_drawn_24, kb_Slips_drawn_24, oo_23, oa_23, cx_Slips_drawn, y1, n1]
        refine c_countInRiddle hb hpt hy (m := 0) (by decide) (fun F1 J1 c1 => ?_)
        simp only [isO_c, ax0, ex_cons, am_get, upz_at, true_and, and_true, Nat.reduceAdd, Nat.reduceLeDiff, Nat.reduceEqDiff, Nat.reduceSub, Int32.reduceOfInt, Int32.reduceAdd, Int32.reduceMul, Int32.reduceSub, ↓reduceIte, Int32.reduceLT, Int32.reduceLE, Int32.reduceToNatClampNeg, Nat.reduceMod, Nat.reduceLT, List.length_cons, List.length_nil, eq_self, true_or, or_true, and_self, implies_true, not_true_eq_false, not_false_eq_true, false_implies, true_implies, forall_const, st_aloadx, st_gotox, st_iloadx, st_in2, st_ireturnx, jx_Slips_drawn_24, kb_Slips_drawn_24, oo_23, jx_Slips_drawn_33, kb_Slips_drawn_33, oa_23]
        exact K F1 J1 c1
      by_cases w1 : w = 1
      · subst w1
        rw [show lieB 1 0 1 = true from rfl, if_pos rfl, if_neg (by decide)] at K
        simp only [isO_c, ax0, ex_cons, am_get, upz_at, true_and, and_true, Nat.reduceAdd, Nat.reduceLeDiff, Nat.reduceEqDiff, Nat.reduceSub, Int32.reduceOfInt, Int32.reduceAdd, Int32.reduceMul, Int32.reduceSub, ↓reduceIte, Int32.reduceLT, Int32.reduceLE, Int32.reduceToNatClampNeg, Nat.reduceMod, Nat.reduceLT, List.length_cons, List.length_nil, eq_self, true_or, or_true, and_self, implies_true, not_true_eq_false, not_false_eq_true, false_implies, true_implies, forall_const, st_aloadx, st_getfieldx, st_gotox, st_goto_wx, st_iconstx, st_ifCondx, st_if_icmpx, st_iloadx, st_in2, st_ireturnx, kb_Slips_drawn_0, og_23_11, jx_Slips_drawn_10, kb_Slips_drawn_10, jx_Slips_drawn_24, kb_Slips_drawn_24, oo_23, oa_23, cx_Slips_drawn, y1, n1]
        refine c_countInRiddle hb hpt hy (m := 1) (by decide) (fun F1 J1 c1 => ?_)
        simp only [isO_c, ax0, ex_cons, am_get, upz_at, true_and, and_true, Nat.reduceAdd, Nat.reduceLeDiff, Nat.reduceEqDiff, Nat.reduceSub, Int32.reduceOfInt, Int32.reduceAdd, Int32.reduceMul, Int32.reduceSub, ↓reduceIte, Int32.reduceLT, Int32.reduceLE, Int32.reduceToNatClampNeg, Nat.reduceMod, Nat.reduceLT, List.length_cons, List.length_nil, eq_self, true_or, or_true, and_self, implies_true, not_true_eq_false, not_false_eq_true, false_implies, true_implies, forall_const, st_aloadx, st_gotox, st_iloadx, st_in2, st_ireturnx, jx_Slips_drawn_24, kb_Slips_drawn_24, oo_23, jx_Slips_drawn_33, kb_Slips_drawn_33, oa_23]
        exact K F1 J1 c1
      · have e : lieB w 0 1 = false := by
          cases z : lieB w 0 1
          · rfl
          · rcases lie1 z with q | q
            · exact absurd q w0
            · exact absurd q w1
        rw [e, if_neg Bool.false_ne_true] at K
        simp only [isO_c, ax0, ex_cons, am_get, upz_at, true_and, and_true, Nat.reduceAdd, Nat.reduceLeDiff, Nat.reduceEqDiff, Nat.reduceSub, Int32.reduceOfInt, Int32.reduceAdd, Int32.reduceMul, Int32.reduceSub, ↓reduceIte, Int32.reduceLT, Int32.reduceLE, Int32.reduceToNatClampNeg, Nat.reduceMod, Nat.reduceLT, List.length_cons, List.length_nil, eq_self, true_or, or_true, and_self, implies_true, not_true_eq_false, not_false_eq_true, false_implies, true_implies, forall_const, st_aloadx, st_getfieldx, st_goto_wx, st_iconstx, st_ifCondx, st_if_icmpx, st_iloadx, st_ireturnx, kb_Slips_drawn_0, og_23_11, jx_Slips_drawn_10, kb_Slips_drawn_10, jx_Slips_drawn_32, kb_Slips_drawn_32, jx_Slips_drawn_33, kb_Slips_drawn_33, oa_23, cx_Slips_drawn, y1, n1, w0, w1]
        exact K F J Cf.rf
    · rw [if_neg ei, if_neg ei, bd_eq y2 ei] at K
      simp only [isO_c, ax0, ex_cons, am_get, upz_at, true_and, and_true, Nat.reduceAdd, Nat.reduceLeDiff, Nat.reduceEqDiff, Nat.reduceSub, Int32.reduceOfInt, Int32.reduceAdd, Int32.reduceMul, Int32.reduceSub, ↓reduceIte, Int32.reduceLT, Int32.reduceLE, Int32.reduceToNatClampNeg, Nat.reduceMod, Nat.reduceLT, List.length_cons, List.length_nil, eq_self, true_or, or_true, and_self, implies_true, not_true_eq_false, not_false_eq_true, false_implies, true_implies, forall_const, st_aloadx, st_getfieldx, st_goto_wx, st_iconstx, st_ifCondx, st_if_icmpx, st_iloadx, st_ireturnx, kb_Slips_drawn_0, og_23_11, jx_Slips_drawn_10, kb_Slips_drawn_10, jx_Slips_drawn_34, kb_Slips_drawn_34, jx_Slips_drawn_46, kb_Slips_drawn_46, oa_23, cx_Slips_drawn, y1, n1, ei]
      refine ⟨fun q => ?_, fun q => ⟨fun r => ?_, fun r => ?_⟩⟩
      · rw [slB_eq y2, decide_eq_true q, Bool.not_true, Bool.false_and, Bool.and_false, if_neg Bool.false_ne_true] at K
        exact K F J Cf.rf
      · have e : slB y.1 i = true := by rw [slB_eq y2, decide_eq_false q, decide_eq_false (Int32.not_le.mpr r)]; rfl
        obtain ⟨k, ek, hk, ck⟩ := slB_nI y2 e
        obtain ⟨g1, g2, g3⟩ := y3 k hk
        rw [e, Bool.and_true, ck] at K
        simp only [isO_c, ax0, ex_cons, am_get, upz_at, true_and, and_true, Nat.reduceAdd, Nat.reduceLeDiff, Nat.reduceEqDiff, Nat.reduceSub, Int32.reduceOfInt, Int32.reduceAdd, Int32.reduceMul, Int32.reduceSub, ↓reduceIte, Int32.reduceLT, Int32.reduceLE, Int32.reduceToNatClampNeg, Nat.reduceMod, Nat.reduceLT, List.length_cons, List.length_nil, eq_self, true_or, or_true, and_self, implies_true, not_true_eq_false, not_false_eq_true, false_implies, true_implies, forall_const, st_aloadx, st_getfieldx, st_ialoadx, st_iloadx, st_istorex, st_lookupswitchx, am_put, am_nlg, jx_Slips_drawn_48, kb_Slips_drawn_48, og_23_10, oa_23, oa_80, or_80, oa_80, or_80, ck, g1, am_sw]
        refine ⟨⟨q, by omega⟩, fun q0 => ?_, fun q0 => ⟨fun q1 => ?_, fun q1 => ⟨fun q2 => ?_, fun q2 => ?_⟩⟩⟩
        · subst q0
          simp only [show Int.toNat 84 = 84 from rfl, isO_c, ax0, ex_cons, am_get, upz_at, true_and, and_true, Nat.reduceAdd, Nat.reduceLeDiff, Nat.reduceEqDiff, Nat.reduceSub, Int32.reduceOfInt, Int32.reduceAdd, Int32.reduceMul, Int32.reduceSub, ↓reduceIte, Int32.reduceLT, Int32.reduceLE, Int32.reduceToNatClampNeg, Nat.reduceMod, Nat.reduceLT, List.length_cons, List.length_nil, eq_self, true_or, or_true, and_self, implies_true, not_true_eq_false, not_false_eq_true, false_implies, true_implies, forall_const, st_iloadx, st_st1, st_ireturnx, jx_Slips_drawn_84, kb_Slips_drawn_84]
          refine c_moodOf g2 ?_
          simp only [isO_c, ax0, ex_cons, am_get, upz_at, true_and, and_true, Nat.reduceAdd, Nat.reduceLeDiff, Nat.reduceEqDiff, Nat.reduceSub, Int32.reduceOfInt, Int32.reduceAdd, Int32.reduceMul, Int32.reduceSub, ↓reduceIte, Int32.reduceLT, Int32.reduceLE, Int32.reduceToNatClampNeg, Nat.reduceMod, Nat.reduceLT, List.length_cons, List.length_nil, eq_self, true_or, or_true, and_self, implies_true, not_true_eq_false, not_false_eq_true, false_implies, true_implies, forall_const, st_iloadx, st_st1, st_ireturnx, jx_Slips_drawn_84, kb_Slips_drawn_84]
          exact K F J Cf.rf
        · subst q1
          simp only [show Int.toNat 89 = 89 from rfl, isO_c, ax0, ex_cons, am_get, upz_at, true_and, and_true, Nat.reduceAdd, Nat.reduceLeDiff, Nat.reduceEqDiff, Nat.reduceSub, Int32.reduceOfInt, Int32.reduceAdd, Int32.reduceMul, Int32.reduceSub, ↓reduceIte, Int32.reduceLT, Int32.reduceLE, Int32.reduceToNatClampNeg, Nat.reduceMod, Nat.reduceLT, List.length_cons, List.length_nil, eq_self, true_or, or_true, and_self, implies_true, not_true_eq_false, not_false_eq_true, false_implies, true_implies, forall_const, st_iloadx, st_st1, st_ireturnx, jx_Slips_drawn_89, kb_Slips_drawn_89]
          refine c_subjectOf g2 ?_
          simp only [isO_c, ax0, ex_cons, am_get, upz_at, true_and, and_true, Nat.reduceAdd, Nat.reduceLeDiff, Nat.reduceEqDiff, Nat.reduceSub, Int32.reduceOfInt, Int32.reduceAdd, Int32.reduceMul, Int32.reduceSub, ↓reduceIte, Int32.reduceLT, Int32.reduceLE, Int32.reduceToNatClampNeg, Nat.reduceMod, Nat.reduceLT, List.length_cons, List.length_nil, eq_self, true_or, or_true, and_self, implies_true, not_true_eq_false, not_false_eq_true, false_implies, true_implies, forall_const, st_iloadx, st_st1, st_ireturnx, jx_Slips_drawn_89, kb_Slips_drawn_89]
          exact K F J Cf.rf
        · subst q2
          simp only [show Int.toNat 94 = 94 from rfl, isO_c, ax0, ex_cons, am_get, upz_at, true_and, and_true, Nat.reduceAdd, Nat.reduceLeDiff, Nat.reduceEqDiff, Nat.reduceSub, Int32.reduceOfInt, Int32.reduceAdd, Int32.reduceMul, Int32.reduceSub, ↓reduceIte, Int32.reduceLT, Int32.reduceLE, Int32.reduceToNatClampNeg, Nat.reduceMod, Nat.reduceLT, List.length_cons, List.length_nil, eq_self, true_or, or_true, and_self, implies_true, not_true_eq_false, not_false_eq_true, false_implies, true_implies, forall_const, st_iloadx, st_st1, st_ireturnx, jx_Slips_drawn_94, kb_Slips_drawn_94]
          refine c_predicateOf g2 ?_
          simp only [isO_c, ax0, ex_cons, am_get, upz_at, true_and, and_true, Nat.reduceAdd, Nat.reduceLeDiff, Nat.reduceEqDiff, Nat.reduceSub, Int32.reduceOfInt, Int32.reduceAdd, Int32.reduceMul, Int32.reduceSub, ↓reduceIte, Int32.reduceLT, Int32.reduceLE, Int32.reduceToNatClampNeg, Nat.reduceMod, Nat.reduceLT, List.length_cons, List.length_nil, eq_self, true_or, or_true, and_self, implies_true, not_true_eq_false, not_false_eq_true, false_implies, true_implies, forall_const, st_iloadx, st_st1, st_ireturnx, jx_Slips_drawn_94, kb_Slips_drawn_94]
          exact K F J Cf.rf
        · have e2 : lieB w 0 2 = false := by
            cases z : lieB w 0 2
            · rfl
            · obtain ⟨c, ec, hc, _⟩ := lieB_nI (m := 2) (by decide) z
              rcases (show c = 0 ∨ c = 1 ∨ c = 2 by omega) with t | t | t <;> subst t
              · exact absurd ec q0
              · exact absurd ec q1
              · exact absurd ec q2
          rw [e2, if_neg Bool.false_ne_true] at K
          simp only [isO_c, ax0, ex_cons, am_get, upz_at, true_and, and_true, Nat.reduceAdd, Nat.reduceLeDiff, Nat.reduceEqDiff, Nat.reduceSub, Int32.reduceOfInt, Int32.reduceAdd, Int32.reduceMul, Int32.reduceSub, ↓reduceIte, Int32.reduceLT, Int32.reduceLE, Int32.reduceToNatClampNeg, Nat.reduceMod, Nat.reduceLT, List.length_cons, List.length_nil, eq_self, true_or, or_true, and_self, implies_true, not_true_eq_false, not_false_eq_true, false_implies, true_implies, forall_const, st_iconstx, st_ireturnx, jx_Slips_drawn_99, kb_Slips_drawn_99]
          exact K F J Cf.rf
      · rw [slB_eq y2, decide_eq_true (Int32.not_lt.mp r), Bool.not_true, Bool.and_false, Bool.and_false, if_neg Bool.false_ne_true] at K
        exact K F J Cf.rf
end CDR
