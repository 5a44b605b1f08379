/-! ===== the model: feed, count, bound, image, back ===== -/
theorem lie_m1 {x : Int32} {n : Nat} (hn : n ≤ 1000) (h : lieB x (-1) (nI n - 1) = true) (hx : ¬ x = -1) : ∃ k, x = nI k ∧ k < n ∧ x.toNatClampNeg = k := by
  unfold lieB at h
  rw [Bool.and_eq_true, Bool.not_eq_true', Bool.not_eq_true', decide_eq_false_iff_not, decide_eq_false_iff_not] at h
  obtain ⟨h1, h2⟩ := h
  have e1 : (-1 : Int32).toInt = -1 := by decide
  have p1 : ¬ x < 0 := by
    intro q
    rw [Int32.lt_iff_toInt_lt] at q h1
    rw [e1] at h1
    rw [Int32.toInt_zero] at q
    apply hx
    rw [← Int32.toInt_inj, e1]
    omega
  obtain ⟨q1, q2⟩ := nk_of p1
  cases n with
  | zero =>
    exfalso
    apply h2
    rw [show nI 0 - 1 = (-1 : Int32) from rfl, Int32.lt_iff_toInt_lt, e1]
    rw [Int32.lt_iff_toInt_lt, Int32.toInt_zero] at p1
    omega
  | succ n =>
    rw [nk_sub1, q1, nk_lt (by omega) q2] at h2
    exact ⟨x.toNatClampNeg, q1, by omega, rfl⟩
section MOB
variable {d : Nat} {h : am_H} {F : Nat → Nat → Int32} {J : Nat → Nat → Int64} {V : Nat → Nat → Value} {Q : am_Q}
set_option maxRecDepth 20000 in
theorem mo_feed {A : aT} (hA : MS F A) {a b c x e : Int32} (K : ∀ F', Lo F F' → MS F' (xFeed A a b c x e).1 → Q (some (.int (xFeed A a b c x e).2)) (ov h F' J V)) : am_cl (d + 1) 187 [.ref 82, .int a, .int b, .int c, .int x, .int e] (ov h F J V) Q := by
  obtain ⟨t1, t2, t3⟩ := hA.2.2.1
  unfold xFeed at K
  have t1 : F 82 8 = nI (aTp A).1 := t1
  have t2 : (aTp A).1 ≤ 400 := t2
  generalize hn : (aTp A).1 = n at *
  simp only [ax0, ex_cons, am_get, upz_at, true_and, and_true, Nat.reduceAdd, Nat.reduceLeDiff, Nat.reduceEqDiff, Nat.reduceSub, Int32.reduceOfInt, Int32.reduceAdd, Int32.reduceMul, Int32.reduceSub, ↓reduceIte, Int32.reduceLT, Int32.reduceLE, Int32.reduceToNatClampNeg, Nat.reduceMod, Nat.reduceLT, List.length_cons, List.length_nil, eq_self, true_or, or_true, and_self, implies_true, not_true_eq_false, not_false_eq_true, false_implies, true_implies, forall_const, st_aloadx, st_getfieldx, st_iaddx, st_iconstx, st_if_icmpx, st_ireturnx, kb_Model_feed_0, og_82_8, oa_82, cx_Model_feed, t1, show nI n + (20 : Int32) = nI (n + 20) from nk_add n 20, show (nI (n + 20) ≤ (400 : Int32)) = (n + 20 ≤ 400) from nk_le (b := 400) (by omega) (by omega)]
  refine And.intro (fun q => ?_) (fun q => ?_)
  · rw [if_pos (show n ≤ 380 by omega)] at K
    simp only [ax0, ex_cons, am_get, upz_at, true_and, and_true, Nat.reduceAdd, Nat.reduceLeDiff, Nat.reduceEqDiff, Nat.reduceSub, Int32.reduceOfInt, Int32.reduceAdd, Int32.reduceMul, Int32.reduceSub, ↓reduceIte, Int32.reduceLT, Int32.reduceLE, Int32.reduceToNatClampNeg, Nat.reduceMod, Nat.reduceLT, List.length_cons, List.length_nil, eq_self, true_or, or_true, and_self, implies_true, not_true_eq_false, not_false_eq_true, false_implies, true_implies, forall_const, st_aloadx, st_getfieldx, st_goto_wx, st_iastorex, st_iconstx, st_iloadx, st_istorex, am_put, am_nlg, jx_Model_feed_15, kb_Model_feed_15, og_82_7, oa_82, oa_89, ow_89, os_89, upz_upd]
    generalize hG : upz F 89 _ = G
    have g0 : G 89 0 = a := by subst hG; rw [upz_eq]; simp only [upz_at, Nat.reduceEqDiff, ↓reduceIte]
    have g1 : G 89 1 = b := by subst hG; rw [upz_eq]; simp only [upz_at, Nat.reduceEqDiff, ↓reduceIte]
    have g2 : G 89 2 = c := by subst hG; rw [upz_eq]; simp only [upz_at, Nat.reduceEqDiff, ↓reduceIte]
    have g3 : G 89 3 = x := by subst hG; rw [upz_eq]; simp only [upz_at, Nat.reduceEqDiff, ↓reduceIte]
    have g4 : G 89 4 = e := by subst hG; rw [upz_eq]; simp only [upz_at, Nat.reduceEqDiff, ↓reduceIte]
    have g5 : G 82 = F 82 := by subst hG; exact upz_ne _ _ (by decide)
    have g6 : G 88 = F 88 := by subst hG; exact upz_ne _ _ (by decide)
    have gA : MS G A := by
      subst hG
      exact hA.pm ⟨fun i hi => upz_ne _ _ (by omega), fun i hi => upz_ne _ _ (by omega), fun i hi => by rw [upz_ne _ _ (by decide)], fun i hi => by rw [upz_ne _ _ (by decide)]⟩
    have gL : Lo F G := by subst hG; exact Lo.rf.up (by decide) _
    have e0 : ov h G J V = ov h (upz G 88 (ovr (G 88) (fun k => fdF a b c x e (k - n)) n 0)) J V := by rw [upz_ovr0]
    rw [e0]
    refine am_iter 20 (fun k => [.ref 82, .int a, .int b, .int c, .int x, .int e, .int (nI k)]) (fun k => ov h (upz G 88 (ovr (G 88) (fun k => fdF a b c x e (k - n)) n k)) J V) (fun _ => True) (fun k hk hI go => ?_) (fun hI => ?_) 0 (by omega) trivial
    · rw [jx_Model_feed_55]
      have go := go trivial
      have ee := ovr_S (G 88) (fun k => fdF a b c x e (k - n)) n k rfl
      rw [← ee, show n + k - n = k by omega] at go
      have hx : G 89 (k / 4) = (if k / 4 = 0 then a else if k / 4 = 1 then b else if k / 4 = 2 then c else if k / 4 = 3 then x else e) := by
        rcases (show k / 4 = 0 ∨ k / 4 = 1 ∨ k / 4 = 2 ∨ k / 4 = 3 ∨ k / 4 = 4 by omega) with q | q | q | q | q <;> rw [q]
        · exact g0
        · exact g1
        · exact g2
        · exact g3
        · exact g4
      have ht : (fdF a b c x e k).toInt8.toInt32 = fdF a b c x e k := by unfold fdF fdB; simp
      simp only [ax0, ex_cons, am_get, upz_at, true_and, and_true, Nat.reduceAdd, Nat.reduceLeDiff, Nat.reduceEqDiff, Nat.reduceSub, Int32.reduceOfInt, Int32.reduceAdd, Int32.reduceMul, Int32.reduceSub, ↓reduceIte, Int32.reduceLT, Int32.reduceLE, Int32.reduceToNatClampNeg, Nat.reduceMod, Nat.reduceLT, List.length_cons, List.length_nil, eq_self, true_or, or_true, and_self, implies_true, not_true_eq_false, not_false_eq_true, false_implies, true_implies, forall_const, st_aloadx, st_bastorex, st_getfieldx, st_gotox, st_i2bx, st_iaddx, st_ialoadx, st_iconstx, st_idivx, st_if_icmpx, st_iincx, st_iloadx, st_imulx, st_iremx, st_ishrx, st_isubx, am_put, am_nlg, kb_Model_feed_55, og_82_6, og_82_8, og_82_7, oa_82, oa_88, or_88, ow_88, os_88, oa_89, or_89, ow_89, os_89, show ((20 : Int32) ≤ nI (k)) = (20 ≤ k) from nk_le (a := 20) (b := k) (by omega) (by omega), show ¬ 20 ≤ k by omega, g5, t1, nk_add, show ((4 : Int32) = 0) = False from ax_f (by decide), show nI (k) / (4 : Int32) = nI ((k) / 4) from nk_div (a := k) (b := 4) (by omega) (by decide) (by decide), show nI (k) - nI ((k) / 4) * (4 : Int32) = nI ((k) % 4) from nk_rm (a := k) (b := 4) (by omega) (by decide) (by decide), nk_neg (show n + k < 2147483648 by omega), nk_cl (show n + k < 2147483648 by omega), nk_neg (show k / 4 < 2147483648 by omega), nk_cl (show k / 4 < 2147483648 by omega), show n + k < 400 by omega, show k / 4 < 5 by omega, show (8 : Int32) * nI (k % 4) = nI (8 * (k % 4)) from nk_mul (8) (k % 4), show (24 : Int32) - nI (8 * (k % 4)) = nI (24 - 8 * (k % 4)) from nk_sub (a := 24) (by omega), hx, nk_succ, upz_upd]
      rw [show (((if k / 4 = 0 then a else if k / 4 = 1 then b else if k / 4 = 2 then c else if k / 4 = 3 then x else e) >>> (nI (24 - 8 * (k % 4)) &&& 31)).toInt8.toInt32) = fdF a b c x e k from rfl, ht]
      exact go
    · rw [jx_Model_feed_55]
      simp only [ax0, ex_cons, am_get, upz_at, true_and, and_true, Nat.reduceAdd, Nat.reduceLeDiff, Nat.reduceEqDiff, Nat.reduceSub, Int32.reduceOfInt, Int32.reduceAdd, Int32.reduceMul, Int32.reduceSub, ↓reduceIte, Int32.reduceLT, Int32.reduceLE, Int32.reduceToNatClampNeg, Nat.reduceMod, Nat.reduceLT, List.length_cons, List.length_nil, eq_self, true_or, or_true, and_self, implies_true, not_true_eq_false, not_false_eq_true, false_implies, true_implies, forall_const, st_aloadx, st_bastorex, st_dupx, st_dup_1x, st_getfieldx, st_gotox, st_i2bx, st_iaddx, st_ialoadx, st_iconstx, st_idivx, st_if_icmpx, st_iincx, st_iloadx, st_imulx, st_iremx, st_ireturnx, st_ishrx, st_isubx, st_putfieldx, am_put, am_nlg, kb_Model_feed_55, og_82_6, og_82_8, og_82_7, jx_Model_feed_101, kb_Model_feed_101, op_82_8, oa_82, os_82, oa_88, or_88, ow_88, os_88, oa_89, or_89, ow_89, os_89, show ((20 : Int32) ≤ nI (20)) = (20 ≤ 20) from nk_le (a := 20) (b := 20) (by omega) (by omega), g5, t1, show nI n + (20 : Int32) = nI (n + 20) from nk_add n 20]
      have K := K (upz (upz G 88 (ovr (G 88) (fun k => fdF a b c x e (k - n)) n 20)) 82 (upz (G 82) 8 (nI (n + 20)))) ((gL.up (by decide) _).up (by decide) _) (gA.tp (t := (n + 20, ovr (aTp A).2 (fun k => fdF a b c x e (k - n)) n 20)) ⟨rfl, by show n + 20 ≤ 400; omega, fun i hi => ?_⟩)
      · rw [g5] at K
        exact K
      · have hi : i < n + 20 := hi
        show ovr (G 88) (fun k => fdF a b c x e (k - n)) n 20 i = ovr (aTp A).2 (fun k => fdF a b c x e (k - n)) n 20 i
        by_cases q1 : n ≤ i
        · rw [ovr_in q1 hi, ovr_in q1 hi]
        · rw [ovr_out (by omega), ovr_out (by omega), g6]
          exact t3 i (by omega)
  · rw [if_neg (show ¬ n ≤ 380 by omega)] at K
    exact K F Lo.rf hA
set_option maxRecDepth 20000 in
theorem mo_count {A : aT} (hA : MS F A) {x : Int32} (K : ∀ F', Lo F F' → MS F' A → Q (some (.int (aCount A x))) (ov h F' J V)) : am_cl (d + 2) 289 [.ref 82, .int x] (ov h F J V) Q := by
  replace K := K F Lo.rf hA
  obtain ⟨h1, h2, h3, h4, h5, h6, h7, h8⟩ := hA
  unfold aCount at K
  simp only [ax0, ex_cons, am_get, upz_at, true_and, and_true, Nat.reduceAdd, Nat.reduceLeDiff, Nat.reduceEqDiff, Nat.reduceSub, Int32.reduceOfInt, Int32.reduceAdd, Int32.reduceMul, Int32.reduceSub, ↓reduceIte, Int32.reduceLT, Int32.reduceLE, Int32.reduceToNatClampNeg, Nat.reduceMod, Nat.reduceLT, List.length_cons, List.length_nil, eq_self, true_or, or_true, and_self, implies_true, not_true_eq_false, not_false_eq_true, false_implies, true_implies, forall_const, st_iloadx, st_lookupswitchx, kb_Model_count_0, cx_Model_count, am_sw]
  refine And.intro (fun q => ?_) (fun q => ?_)
  · rw [if_pos q] at K
    subst q
    simp only [show Int.toNat 56 = 56 from rfl, ax0, ex_cons, am_get, upz_at, true_and, and_true, Nat.reduceAdd, Nat.reduceLeDiff, Nat.reduceEqDiff, Nat.reduceSub, Int32.reduceOfInt, Int32.reduceAdd, Int32.reduceMul, Int32.reduceSub, ↓reduceIte, Int32.reduceLT, Int32.reduceLE, Int32.reduceToNatClampNeg, Nat.reduceMod, Nat.reduceLT, List.length_cons, List.length_nil, eq_self, true_or, or_true, and_self, implies_true, not_true_eq_false, not_false_eq_true, false_implies, true_implies, forall_const, st_aloadx, st_getfieldx, st_ialoadx, st_iconstx, st_in1, st_ireturnx, jx_Model_count_56, kb_Model_count_56, oo_82, cx_Model_slips, kb_Model_slips_0, og_82_2, oa_82, oa_84, or_84, h1.1.1]
    exact K
  rw [if_neg q] at K
  refine And.intro (fun q => ?_) (fun q => ?_)
  · rw [if_pos q] at K
    subst q
    simp only [show Int.toNat 61 = 61 from rfl, ax0, ex_cons, am_get, upz_at, true_and, and_true, Nat.reduceAdd, Nat.reduceLeDiff, Nat.reduceEqDiff, Nat.reduceSub, Int32.reduceOfInt, Int32.reduceAdd, Int32.reduceMul, Int32.reduceSub, ↓reduceIte, Int32.reduceLT, Int32.reduceLE, Int32.reduceToNatClampNeg, Nat.reduceMod, Nat.reduceLT, List.length_cons, List.length_nil, eq_self, true_or, or_true, and_self, implies_true, not_true_eq_false, not_false_eq_true, false_implies, true_implies, forall_const, st_aloadx, st_getfieldx, st_ialoadx, st_iconstx, st_ireturnx, jx_Model_count_61, kb_Model_count_61, og_82_2, cx_Model_slips, kb_Model_slips_0, oa_82, oa_84, or_84, h1.1.2.2.1]
    exact K
  rw [if_neg q] at K
  refine And.intro (fun q => ?_) (fun q => ?_)
  · rw [if_pos q] at K
    subst q
    simp only [show Int.toNat 70 = 70 from rfl, ax0, ex_cons, am_get, upz_at, true_and, and_true, Nat.reduceAdd, Nat.reduceLeDiff, Nat.reduceEqDiff, Nat.reduceSub, Int32.reduceOfInt, Int32.reduceAdd, Int32.reduceMul, Int32.reduceSub, ↓reduceIte, Int32.reduceLT, Int32.reduceLE, Int32.reduceToNatClampNeg, Nat.reduceMod, Nat.reduceLT, List.length_cons, List.length_nil, eq_self, true_or, or_true, and_self, implies_true, not_true_eq_false, not_false_eq_true, false_implies, true_implies, forall_const, st_aloadx, st_getfieldx, st_ialoadx, st_iconstx, st_ireturnx, jx_Model_count_70, kb_Model_count_70, og_82_2, cx_Model_slips, kb_Model_slips_0, oa_82, oa_84, or_84, h1.2.1]
    exact K
  rw [if_neg q] at K
  refine And.intro (fun q => ?_) (fun q => ?_)
  · rw [if_pos q] at K
    subst q
    simp only [show Int.toNat 79 = 79 from rfl, ax0, ex_cons, am_get, upz_at, true_and, and_true, Nat.reduceAdd, Nat.reduceLeDiff, Nat.reduceEqDiff, Nat.reduceSub, Int32.reduceOfInt, Int32.reduceAdd, Int32.reduceMul, Int32.reduceSub, ↓reduceIte, Int32.reduceLT, Int32.reduceLE, Int32.reduceToNatClampNeg, Nat.reduceMod, Nat.reduceLT, List.length_cons, List.length_nil, eq_self, true_or, or_true, and_self, implies_true, not_true_eq_false, not_false_eq_true, false_implies, true_implies, forall_const, st_aloadx, st_getfieldx, st_ialoadx, st_iconstx, st_ireturnx, jx_Model_count_79, kb_Model_count_79, og_82_2, cx_Model_slips, kb_Model_slips_0, oa_82, oa_84, or_84, h1.1.2.2.2.1]
    exact K
  rw [if_neg q] at K
  refine And.intro (fun q => ?_) (fun q => ?_)
  · rw [if_pos q] at K
    subst q
    simp only [show Int.toNat 88 = 88 from rfl, ax0, ex_cons, am_get, upz_at, true_and, and_true, Nat.reduceAdd, Nat.reduceLeDiff, Nat.reduceEqDiff, Nat.reduceSub, Int32.reduceOfInt, Int32.reduceAdd, Int32.reduceMul, Int32.reduceSub, ↓reduceIte, Int32.reduceLT, Int32.reduceLE, Int32.reduceToNatClampNeg, Nat.reduceMod, Nat.reduceLT, List.length_cons, List.length_nil, eq_self, true_or, or_true, and_self, implies_true, not_true_eq_false, not_false_eq_true, false_implies, true_implies, forall_const, st_aloadx, st_getfieldx, st_ialoadx, st_iconstx, st_ireturnx, jx_Model_count_88, kb_Model_count_88, og_82_8, cx_Model_slips, kb_Model_slips_0, og_82_2, oa_82, oa_84, or_84, h3.1]
    exact K
  rw [if_neg q] at K
  refine And.intro (fun q => ?_) (fun q => ?_)
  · rw [if_pos q] at K
    subst q
    simp only [show Int.toNat 93 = 93 from rfl, ax0, ex_cons, am_get, upz_at, true_and, and_true, Nat.reduceAdd, Nat.reduceLeDiff, Nat.reduceEqDiff, Nat.reduceSub, Int32.reduceOfInt, Int32.reduceAdd, Int32.reduceMul, Int32.reduceSub, ↓reduceIte, Int32.reduceLT, Int32.reduceLE, Int32.reduceToNatClampNeg, Nat.reduceMod, Nat.reduceLT, List.length_cons, List.length_nil, eq_self, true_or, or_true, and_self, implies_true, not_true_eq_false, not_false_eq_true, false_implies, true_implies, forall_const, st_aloadx, st_getfieldx, st_ialoadx, st_iconstx, st_iloadx, st_ireturnx, st_isubx, jx_Model_count_93, kb_Model_count_93, og_82_1, cx_Model_slips, kb_Model_slips_0, og_82_2, oa_82, oa_83, or_83, oa_84, or_84, h6 1 (by decide)]
    exact K
  rw [if_neg q] at K
  refine And.intro (fun q => ?_) (fun q => ?_)
  · rw [if_pos q] at K
    subst q
    simp only [show Int.toNat 93 = 93 from rfl, ax0, ex_cons, am_get, upz_at, true_and, and_true, Nat.reduceAdd, Nat.reduceLeDiff, Nat.reduceEqDiff, Nat.reduceSub, Int32.reduceOfInt, Int32.reduceAdd, Int32.reduceMul, Int32.reduceSub, ↓reduceIte, Int32.reduceLT, Int32.reduceLE, Int32.reduceToNatClampNeg, Nat.reduceMod, Nat.reduceLT, List.length_cons, List.length_nil, eq_self, true_or, or_true, and_self, implies_true, not_true_eq_false, not_false_eq_true, false_implies, true_implies, forall_const, st_aloadx, st_getfieldx, st_ialoadx, st_iconstx, st_iloadx, st_ireturnx, st_isubx, jx_Model_count_93, kb_Model_count_93, og_82_1, cx_Model_slips, kb_Model_slips_0, og_82_2, oa_82, oa_83, or_83, oa_84, or_84, h6 2 (by decide)]
    exact K
  rw [if_neg q] at K
  refine And.intro (fun q => ?_) (fun q => ?_)
  · rw [if_pos q] at K
    subst q
    simp only [show Int.toNat 93 = 93 from rfl, ax0, ex_cons, am_get, upz_at, true_and, and_true, Nat.reduceAdd, Nat.reduceLeDiff, Nat.reduceEqDiff, Nat.reduceSub, Int32.reduceOfInt, Int32.reduceAdd, Int32.reduceMul, Int32.reduceSub, ↓reduceIte, Int32.reduceLT, Int32.reduceLE, Int32.reduceToNatClampNeg, Nat.reduceMod, Nat.reduceLT, List.length_cons, List.length_nil, eq_self, true_or, or_true, and_self, implies_true, not_true_eq_false, not_false_eq_true, false_implies, true_implies, forall_const, st_aloadx, st_getfieldx, st_ialoadx, st_iconstx, st_iloadx, st_ireturnx, st_isubx, jx_Model_count_93, kb_Model_count_93, og_82_1, cx_Model_slips, kb_Model_slips_0, og_82_2, oa_82, oa_83, or_83, oa_84, or_84, h6 3 (by decide)]
    exact K
  rw [if_neg q] at K
  refine And.intro (fun q => ?_) (fun q => ?_)
  · rw [if_pos q] at K
    subst q
    simp only [show Int.toNat 102 = 102 from rfl, ax0, ex_cons, am_get, upz_at, true_and, and_true, Nat.reduceAdd, Nat.reduceLeDiff, Nat.reduceEqDiff, Nat.reduceSub, Int32.reduceOfInt, Int32.reduceAdd, Int32.reduceMul, Int32.reduceSub, ↓reduceIte, Int32.reduceLT, Int32.reduceLE, Int32.reduceToNatClampNeg, Nat.reduceMod, Nat.reduceLT, List.length_cons, List.length_nil, eq_self, true_or, or_true, and_self, implies_true, not_true_eq_false, not_false_eq_true, false_implies, true_implies, forall_const, st_aloadx, st_getfieldx, st_ialoadx, st_iconstx, st_ireturnx, jx_Model_count_102, kb_Model_count_102, og_82_1, cx_Model_slips, kb_Model_slips_0, og_82_2, oa_82, oa_83, or_83, oa_84, or_84, h6 5 (by decide)]
    exact K
  rw [if_neg q] at K
  refine And.intro (fun q => ?_) (fun q => ?_)
  · rw [if_pos q] at K
    subst q
    simp only [show Int.toNat 109 = 109 from rfl, ax0, ex_cons, am_get, upz_at, true_and, and_true, Nat.reduceAdd, Nat.reduceLeDiff, Nat.reduceEqDiff, Nat.reduceSub, Int32.reduceOfInt, Int32.reduceAdd, Int32.reduceMul, Int32.reduceSub, ↓reduceIte, Int32.reduceLT, Int32.reduceLE, Int32.reduceToNatClampNeg, Nat.reduceMod, Nat.reduceLT, List.length_cons, List.length_nil, eq_self, true_or, or_true, and_self, implies_true, not_true_eq_false, not_false_eq_true, false_implies, true_implies, forall_const, st_aloadx, st_getfieldx, st_ialoadx, st_iconstx, st_ireturnx, jx_Model_count_109, kb_Model_count_109, og_82_1, cx_Model_slips, kb_Model_slips_0, og_82_2, oa_82, oa_83, or_83, oa_84, or_84, h6 6 (by decide)]
    exact K
  rw [if_neg q] at K
  simp only [ax0, ex_cons, am_get, upz_at, true_and, and_true, Nat.reduceAdd, Nat.reduceLeDiff, Nat.reduceEqDiff, Nat.reduceSub, Int32.reduceOfInt, Int32.reduceAdd, Int32.reduceMul, Int32.reduceSub, ↓reduceIte, Int32.reduceLT, Int32.reduceLE, Int32.reduceToNatClampNeg, Nat.reduceMod, Nat.reduceLT, List.length_cons, List.length_nil, eq_self, true_or, or_true, and_self, implies_true, not_true_eq_false, not_false_eq_true, false_implies, true_implies, forall_const, st_iconstx, st_ireturnx, jx_Model_count_117, kb_Model_count_117]
  exact K
set_option maxRecDepth 20000 in
theorem mo_bound {A : aT} (hA : MS F A) {x : Int32} (K : ∀ F', Lo F F' → MS F' A → Q (some (.int (aBound A x))) (ov h F' J V)) : am_cl (d + 2) 283 [.ref 82, .int x] (ov h F J V) Q := by
  replace K := K F Lo.rf hA
  have hB := hA.1.2
  unfold aBound at K
  simp only [ax0, ex_cons, am_get, upz_at, true_and, and_true, Nat.reduceAdd, Nat.reduceLeDiff, Nat.reduceEqDiff, Nat.reduceSub, Int32.reduceOfInt, Int32.reduceAdd, Int32.reduceMul, Int32.reduceSub, ↓reduceIte, Int32.reduceLT, Int32.reduceLE, Int32.reduceToNatClampNeg, Nat.reduceMod, Nat.reduceLT, List.length_cons, List.length_nil, eq_self, true_or, or_true, and_self, implies_true, not_true_eq_false, not_false_eq_true, false_implies, true_implies, forall_const, st_aloadx, st_getfieldx, st_ialoadx, st_iconstx, st_ifCondx, st_iloadx, st_st3, st_ireturnx, st_isubx, kb_Model_bound_0, og_82_2, oa_82, oa_84, or_84, cx_Model_bound, hB.1]
  refine m_lies ?_
  simp only [ax0, ex_cons, am_get, upz_at, true_and, and_true, Nat.reduceAdd, Nat.reduceLeDiff, Nat.reduceEqDiff, Nat.reduceSub, Int32.reduceOfInt, Int32.reduceAdd, Int32.reduceMul, Int32.reduceSub, ↓reduceIte, Int32.reduceLT, Int32.reduceLE, Int32.reduceToNatClampNeg, Nat.reduceMod, Nat.reduceLT, List.length_cons, List.length_nil, eq_self, true_or, or_true, and_self, implies_true, not_true_eq_false, not_false_eq_true, false_implies, true_implies, forall_const, st_aloadx, st_getfieldx, st_ialoadx, st_iconstx, st_ifCondx, st_iloadx, st_st3, st_ireturnx, st_isubx, kb_Model_bound_0, og_82_2, oa_82, oa_84, or_84]
  refine ifnb (fun e => ?_) (fun e => ?_)
  · have e : lieB x (-1) (nI (aB A).1 - 1) = true := e
    rw [e, if_pos rfl] at K
    have hb : (aB A).1 ≤ 12 := hB.2.1
    simp only [ax0, ex_cons, am_get, upz_at, true_and, and_true, Nat.reduceAdd, Nat.reduceLeDiff, Nat.reduceEqDiff, Nat.reduceSub, Int32.reduceOfInt, Int32.reduceAdd, Int32.reduceMul, Int32.reduceSub, ↓reduceIte, Int32.reduceLT, Int32.reduceLE, Int32.reduceToNatClampNeg, Nat.reduceMod, Nat.reduceLT, List.length_cons, List.length_nil, eq_self, true_or, or_true, and_self, implies_true, not_true_eq_false, not_false_eq_true, false_implies, true_implies, forall_const, st_aloadx, st_getfieldx, st_gotox, st_goto_wx, st_iaddx, st_ialoadx, st_iconstx, st_if_icmpx, st_iloadx, st_imulx, st_ireturnx, jx_Model_bound_20, kb_Model_bound_20, og_82_2, jx_Model_bound_36, kb_Model_bound_36, jx_Model_bound_51, kb_Model_bound_51, oa_82, oa_84, or_84, hB.1]
    refine And.intro (fun q => ?_) (fun q => ?_)
    · obtain ⟨k, ek, hk, ck⟩ := lie_m1 (by omega) e q
      rw [if_neg q, ck] at K
      subst ek
      simp only [ax0, ex_cons, am_get, upz_at, true_and, and_true, Nat.reduceAdd, Nat.reduceLeDiff, Nat.reduceEqDiff, Nat.reduceSub, Int32.reduceOfInt, Int32.reduceAdd, Int32.reduceMul, Int32.reduceSub, ↓reduceIte, Int32.reduceLT, Int32.reduceLE, Int32.reduceToNatClampNeg, Nat.reduceMod, Nat.reduceLT, List.length_cons, List.length_nil, eq_self, true_or, or_true, and_self, implies_true, not_true_eq_false, not_false_eq_true, false_implies, true_implies, forall_const, st_aloadx, st_getfieldx, st_goto_wx, st_iaddx, st_ialoadx, st_iconstx, st_iloadx, st_imulx, st_ireturnx, jx_Model_bound_36, kb_Model_bound_36, og_82_2, jx_Model_bound_51, kb_Model_bound_51, oa_82, oa_84, or_84, show (11 : Int32) * nI (k) = nI (11 * (k)) from nk_mul (11) (k), show (2562 : Int32) + nI (11 * k) = nI (2562 + 11 * k) from nk_add 2562 (11 * k), show nI (2562 + 11 * k) + (2 : Int32) = nI (2562 + 11 * k + 2) from nk_add (2562 + 11 * k) (2), nk_neg (show 2562 + 11 * k + 2 < 2147483648 by omega), nk_cl (show 2562 + 11 * k + 2 < 2147483648 by omega), show 2562 + 11 * k + 2 < 2698 by omega, (hB.2.2 k hk).2.2.2.1]
      exact K
    · rw [if_pos (Classical.not_not.mp q)] at K
      exact K
  · have e : lieB x (-1) (nI (aB A).1 - 1) = false := e
    rw [e, if_neg Bool.false_ne_true] at K
    exact K
def xImage (A : aT) (x : Int32) : aT × Int32 := if lieB x 0 1 then xGd (A.1, upz A.2.1 x.toNatClampNeg (some A.1), A.2.2) 0 else xRf A (-1) 1
def xBack (A : aT) (x : Int32) : aT × Int32 := if lieB x 0 1 then (match A.2.1 x.toNatClampNeg with
  | some X => xGd (wX A X) 0
  | none => xRf A (-2) 2) else xRf A (-1) 1
theorem lie1n {a : Int32} (h : lieB a 0 1 = true) : ∃ k, a = nI k ∧ k < 2 ∧ a.toNatClampNeg = k := by
  obtain ⟨k, e, hk, c⟩ := lieB_nI (m := 1) (by decide) h
  exact ⟨k, e, by omega, c⟩
set_option maxRecDepth 20000 in
theorem mo_image {A : aT} (hA : MS F A) {x : Int32} (K : ∀ F', Lo F F' → MS F' (xImage A x).1 → Q (some (.int (xImage A x).2)) (ov h F' J V)) : am_cl (d + 2) 179 [.ref 82, .int x] (ov h F J V) Q := by
  unfold xImage at K
  simp only [ax0, ex_cons, am_get, upz_at, true_and, and_true, Nat.reduceAdd, Nat.reduceLeDiff, Nat.reduceEqDiff, Nat.reduceSub, Int32.reduceOfInt, Int32.reduceAdd, Int32.reduceMul, Int32.reduceSub, ↓reduceIte, Int32.reduceLT, Int32.reduceLE, Int32.reduceToNatClampNeg, Nat.reduceMod, Nat.reduceLT, List.length_cons, List.length_nil, eq_self, true_or, or_true, and_self, implies_true, not_true_eq_false, not_false_eq_true, false_implies, true_implies, forall_const, st_aloadx, st_iconstx, st_ifCondx, st_iloadx, st_in2, st_st3, st_ireturnx, kb_Model_image_0, oo_82, oa_82, cx_Model_image]
  refine m_lies ?_
  simp only [ax0, ex_cons, am_get, upz_at, true_and, and_true, Nat.reduceAdd, Nat.reduceLeDiff, Nat.reduceEqDiff, Nat.reduceSub, Int32.reduceOfInt, Int32.reduceAdd, Int32.reduceMul, Int32.reduceSub, ↓reduceIte, Int32.reduceLT, Int32.reduceLE, Int32.reduceToNatClampNeg, Nat.reduceMod, Nat.reduceLT, List.length_cons, List.length_nil, eq_self, true_or, or_true, and_self, implies_true, not_true_eq_false, not_false_eq_true, false_implies, true_implies, forall_const, st_aloadx, st_iconstx, st_ifCondx, st_iloadx, st_in2, st_st3, st_ireturnx, kb_Model_image_0, oo_82, oa_82]
  refine ifnb (fun e => ?_) (fun e => ?_)
  · rw [e, if_pos rfl] at K
    obtain ⟨i, ei, hi, ci⟩ := lie1n e
    subst ei
    rw [ci] at K
    simp only [ax0, ex_cons, am_get, upz_at, true_and, and_true, Nat.reduceAdd, Nat.reduceLeDiff, Nat.reduceEqDiff, Nat.reduceSub, Int32.reduceOfInt, Int32.reduceAdd, Int32.reduceMul, Int32.reduceSub, ↓reduceIte, Int32.reduceLT, Int32.reduceLE, Int32.reduceToNatClampNeg, Nat.reduceMod, Nat.reduceLT, List.length_cons, List.length_nil, eq_self, true_or, or_true, and_self, implies_true, not_true_eq_false, not_false_eq_true, false_implies, true_implies, forall_const, st_goto_wx, st_iconstx, st_istorex, am_put, am_nlg, jx_Model_image_15, kb_Model_image_15]
    have e0 : ov h F J V = ov h (upz F 85 (ovr (F 85) (fun j => F 84 (j - 2698 * i)) (2698 * i) 0)) J V := by rw [upz_ovr0]
    rw [e0]
    refine am_iter 2698 (fun k => [.ref 82, .int (nI i), .int (nI k)]) (fun k => ov h (upz F 85 (ovr (F 85) (fun j => F 84 (j - 2698 * i)) (2698 * i) k)) J V) (fun _ => True) (fun k hk hI go => ?_) (fun hI => ?_) 0 (by omega) trivial
    · rw [jx_Model_image_17]
      have go := go trivial
      have ee := ovr_S (F 85) (fun j => F 84 (j - 2698 * i)) (2698 * i) k rfl
      rw [← ee, show 2698 * i + k - 2698 * i = k by omega] at go
      simp only [ax0, ex_cons, am_get, upz_at, true_and, and_true, Nat.reduceAdd, Nat.reduceLeDiff, Nat.reduceEqDiff, Nat.reduceSub, Int32.reduceOfInt, Int32.reduceAdd, Int32.reduceMul, Int32.reduceSub, ↓reduceIte, Int32.reduceLT, Int32.reduceLE, Int32.reduceToNatClampNeg, Nat.reduceMod, Nat.reduceLT, List.length_cons, List.length_nil, eq_self, true_or, or_true, and_self, implies_true, not_true_eq_false, not_false_eq_true, false_implies, true_implies, forall_const, st_aloadx, st_getfieldx, st_gotox, st_iaddx, st_ialoadx, st_iastorex, st_iconstx, st_if_icmpx, st_iincx, st_iloadx, st_imulx, am_put, am_nlg, kb_Model_image_17, og_82_3, og_82_2, oa_82, oa_84, or_84, ow_84, os_84, oa_85, or_85, ow_85, os_85, show (2698 : Int32) * nI (i) = nI (2698 * (i)) from nk_mul (2698) (i), show nI (2698 * i) + nI k = nI (2698 * i + k) from nk_add _ _, nk_neg (show 2698 * i + k < 2147483648 by omega), nk_cl (show 2698 * i + k < 2147483648 by omega), nk_neg (show k < 2147483648 by omega), nk_cl (show k < 2147483648 by omega), show ((2698 : Int32) ≤ nI (k)) = (2698 ≤ k) from nk_le (a := 2698) (b := k) (by omega) (by omega), show ¬ 2698 ≤ k by omega, nk_succ, hk, show 2698 * i + k < 5396 by omega, upz_upd]
      exact go
    · rw [jx_Model_image_17]
      simp only [ax0, ex_cons, am_get, upz_at, true_and, and_true, Nat.reduceAdd, Nat.reduceLeDiff, Nat.reduceEqDiff, Nat.reduceSub, Int32.reduceOfInt, Int32.reduceAdd, Int32.reduceMul, Int32.reduceSub, ↓reduceIte, Int32.reduceLT, Int32.reduceLE, Int32.reduceToNatClampNeg, Nat.reduceMod, Nat.reduceLT, List.length_cons, List.length_nil, eq_self, true_or, or_true, and_self, implies_true, not_true_eq_false, not_false_eq_true, false_implies, true_implies, forall_const, st_aloadx, st_bastorex, st_getfieldx, st_gotox, st_iaddx, st_ialoadx, st_iastorex, st_iconstx, st_if_icmpx, st_iincx, st_iloadx, st_imulx, st_in2, st_ireturnx, am_put, am_nlg, kb_Model_image_17, og_82_3, og_82_2, jx_Model_image_48, kb_Model_image_48, og_82_4, oo_82, oa_82, oa_84, or_84, ow_84, os_84, oa_85, or_85, ow_85, os_85, oa_86, or_86, ow_86, os_86, show ((2698 : Int32) ≤ nI (2698)) = (2698 ≤ 2698) from nk_le (a := 2698) (b := 2698) (by omega) (by omega), nk_neg (show i < 2147483648 by omega), nk_cl (show i < 2147483648 by omega), hi]
      obtain ⟨h1, h2, h3, h4, h5, h6, h7, h8⟩ := hA
      refine m_good (A := (A.1, upz A.2.1 i (some A.1), A.2.2)) ⟨?_, fun j hj => ⟨?_, fun X hX => ?_⟩, ?_, ?_, ?_, ?_, ?_, ?_⟩ (fun F' l m => K F' (((Lo.rf.up (by decide) _).up (by decide) _).tr l) m)
      · rw [upz_ne _ _ (by decide), upz_ne _ _ (by decide)]; exact h1
      · rw [upz_eq]
        show _ = b2i (upz A.2.1 i (some A.1) j).isSome
        by_cases q : j = i
        · subst q; rw [upz_eq, upz_eq]; rfl
        · rw [upz_ne _ _ q, upz_ne _ _ q]
          first
            | exact (h2 j hj).1
            | (rw [upz_ne _ _ (by decide)]; exact (h2 j hj).1)
      · rw [upz_ne _ _ (by decide), upz_eq]
        have hX : upz A.2.1 i (some A.1) j = some X := hX
        by_cases q : j = i
        · subst q
          rw [upz_eq] at hX
          cases hX
          exact h1.cgB (fun l hl _ => by rw [ovr_in (by omega) (by omega), show 2698 * j + l - 2698 * j = l by omega])
        · rw [upz_ne _ _ q] at hX
          exact ((h2 j hj).2 X hX).cgB (fun l hl _ => ovr_out (by omega))
      · rw [upz_ne _ _ (by decide), upz_ne _ _ (by decide), upz_ne _ _ (by decide), upz_ne _ _ (by decide)]; exact h3
      · rw [upz_ne _ _ (by decide), upz_ne _ _ (by decide)]; exact h4
      · rw [upz_ne _ _ (by decide), upz_ne _ _ (by decide)]; exact h5
      · rw [upz_ne _ _ (by decide), upz_ne _ _ (by decide)]; exact h6
      · rw [upz_ne _ _ (by decide), upz_ne _ _ (by decide), upz_ne _ _ (by decide), upz_ne _ _ (by decide)]; exact h7
      · rw [upz_ne _ _ (by decide), upz_ne _ _ (by decide)]; exact h8
  · rw [e, if_neg Bool.false_ne_true] at K
    exact m_refuses hA rfl (by decide) K
set_option maxRecDepth 20000 in
theorem mo_back {A : aT} (hA : MS F A) {x : Int32} (K : ∀ F', Lo F F' → MS F' (xBack A x).1 → Q (some (.int (xBack A x).2)) (ov h F' J V)) : am_cl (d + 2) 180 [.ref 82, .int x] (ov h F J V) Q := by
  unfold xBack at K
  simp only [ax0, ex_cons, am_get, upz_at, true_and, and_true, Nat.reduceAdd, Nat.reduceLeDiff, Nat.reduceEqDiff, Nat.reduceSub, Int32.reduceOfInt, Int32.reduceAdd, Int32.reduceMul, Int32.reduceSub, ↓reduceIte, Int32.reduceLT, Int32.reduceLE, Int32.reduceToNatClampNeg, Nat.reduceMod, Nat.reduceLT, List.length_cons, List.length_nil, eq_self, true_or, or_true, and_self, implies_true, not_true_eq_false, not_false_eq_true, false_implies, true_implies, forall_const, st_aloadx, st_iconstx, st_ifCondx, st_iloadx, st_in2, st_st3, st_ireturnx, kb_Model_back_0, oo_82, oa_82, cx_Model_back]
  refine m_lies ?_
  simp only [ax0, ex_cons, am_get, upz_at, true_and, and_true, Nat.reduceAdd, Nat.reduceLeDiff, Nat.reduceEqDiff, Nat.reduceSub, Int32.reduceOfInt, Int32.reduceAdd, Int32.reduceMul, Int32.reduceSub, ↓reduceIte, Int32.reduceLT, Int32.reduceLE, Int32.reduceToNatClampNeg, Nat.reduceMod, Nat.reduceLT, List.length_cons, List.length_nil, eq_self, true_or, or_true, and_self, implies_true, not_true_eq_false, not_false_eq_true, false_implies, true_implies, forall_const, st_aloadx, st_iconstx, st_ifCondx, st_iloadx, st_in2, st_st3, st_ireturnx, kb_Model_back_0, oo_82, oa_82]
  refine ifnb (fun e => ?_) (fun e => ?_)
  · rw [e, if_pos rfl] at K
    obtain ⟨i, ei, hi, ci⟩ := lie1n e
    subst ei
    rw [ci] at K
    have hI := hA.2.1 i hi
    simp only [ax0, ex_cons, am_get, upz_at, true_and, and_true, Nat.reduceAdd, Nat.reduceLeDiff, Nat.reduceEqDiff, Nat.reduceSub, Int32.reduceOfInt, Int32.reduceAdd, Int32.reduceMul, Int32.reduceSub, ↓reduceIte, Int32.reduceLT, Int32.reduceLE, Int32.reduceToNatClampNeg, Nat.reduceMod, Nat.reduceLT, List.length_cons, List.length_nil, eq_self, true_or, or_true, and_self, implies_true, not_true_eq_false, not_false_eq_true, false_implies, true_implies, forall_const, st_aloadx, st_baloadx, st_getfieldx, st_iconstx, st_ifCondx, st_iloadx, st_in2, st_ireturnx, jx_Model_back_15, kb_Model_back_15, og_82_4, oo_82, oa_82, oa_86, or_86, nk_neg (show i < 2147483648 by omega), nk_cl (show i < 2147483648 by omega), hi, hI.1]
    cases hX : A.2.1 i with
    | none =>
      rw [hX] at K
      simp only [ax0, ex_cons, am_get, upz_at, true_and, and_true, Nat.reduceAdd, Nat.reduceLeDiff, Nat.reduceEqDiff, Nat.reduceSub, Int32.reduceOfInt, Int32.reduceAdd, Int32.reduceMul, Int32.reduceSub, ↓reduceIte, Int32.reduceLT, Int32.reduceLE, Int32.reduceToNatClampNeg, Nat.reduceMod, Nat.reduceLT, List.length_cons, List.length_nil, eq_self, true_or, or_true, and_self, implies_true, not_true_eq_false, not_false_eq_true, false_implies, true_implies, forall_const, st_aloadx, st_baloadx, st_getfieldx, st_iconstx, st_ifCondx, st_iloadx, st_in2, st_ireturnx, jx_Model_back_15, kb_Model_back_15, og_82_4, oo_82, oa_82, oa_86, or_86, show b2i (none : Option kT).isSome = 0 from rfl]
      exact m_refuses hA rfl (by decide) K
    | some X =>
      rw [hX] at K
      simp only [ax0, ex_cons, am_get, upz_at, true_and, and_true, Nat.reduceAdd, Nat.reduceLeDiff, Nat.reduceEqDiff, Nat.reduceSub, Int32.reduceOfInt, Int32.reduceAdd, Int32.reduceMul, Int32.reduceSub, ↓reduceIte, Int32.reduceLT, Int32.reduceLE, Int32.reduceToNatClampNeg, Nat.reduceMod, Nat.reduceLT, List.length_cons, List.length_nil, eq_self, true_or, or_true, and_self, implies_true, not_true_eq_false, not_false_eq_true, false_implies, true_implies, forall_const, st_aloadx, st_baloadx, st_getfieldx, st_goto_wx, st_iconstx, st_ifCondx, st_iloadx, st_in2, st_ireturnx, st_istorex, am_put, am_nlg, jx_Model_back_15, kb_Model_back_15, og_82_4, oo_82, jx_Model_back_31, kb_Model_back_31, oa_82, oa_86, or_86, show b2i (some X).isSome = 1 from rfl]
      have e0 : ov h F J V = ov h (upz F 84 (ovr (F 84) (fun j => F 85 (2698 * i + j)) 0 0)) J V := by rw [upz_ovr0]
      rw [e0]
      refine am_iter 2698 (fun k => [.ref 82, .int (nI i), .int (nI k)]) (fun k => ov h (upz F 84 (ovr (F 84) (fun j => F 85 (2698 * i + j)) 0 k)) J V) (fun _ => True) (fun k hk hI go => ?_) (fun _ => ?_) 0 (by omega) trivial
      · rw [jx_Model_back_33]
        have go := go trivial
        have ee := ovr_S (F 84) (fun j => F 85 (2698 * i + j)) 0 k rfl
        rw [Nat.zero_add] at ee
        rw [← ee] at go
        simp only [ax0, ex_cons, am_get, upz_at, true_and, and_true, Nat.reduceAdd, Nat.reduceLeDiff, Nat.reduceEqDiff, Nat.reduceSub, Int32.reduceOfInt, Int32.reduceAdd, Int32.reduceMul, Int32.reduceSub, ↓reduceIte, Int32.reduceLT, Int32.reduceLE, Int32.reduceToNatClampNeg, Nat.reduceMod, Nat.reduceLT, List.length_cons, List.length_nil, eq_self, true_or, or_true, and_self, implies_true, not_true_eq_false, not_false_eq_true, false_implies, true_implies, forall_const, st_aloadx, st_getfieldx, st_gotox, st_iaddx, st_ialoadx, st_iastorex, st_iconstx, st_if_icmpx, st_iincx, st_iloadx, st_imulx, am_put, am_nlg, kb_Model_back_33, og_82_2, og_82_3, oa_82, oa_84, or_84, ow_84, os_84, oa_85, or_85, ow_85, os_85, show (2698 : Int32) * nI (i) = nI (2698 * (i)) from nk_mul (2698) (i), show nI (2698 * i) + nI k = nI (2698 * i + k) from nk_add _ _, nk_neg (show 2698 * i + k < 2147483648 by omega), nk_cl (show 2698 * i + k < 2147483648 by omega), nk_neg (show k < 2147483648 by omega), nk_cl (show k < 2147483648 by omega), show ((2698 : Int32) ≤ nI (k)) = (2698 ≤ k) from nk_le (a := 2698) (b := k) (by omega) (by omega), show ¬ 2698 ≤ k by omega, nk_succ, hk, show 2698 * i + k < 5396 by omega, upz_upd]
        exact go
      · rw [jx_Model_back_33]
        simp only [ax0, ex_cons, am_get, upz_at, true_and, and_true, Nat.reduceAdd, Nat.reduceLeDiff, Nat.reduceEqDiff, Nat.reduceSub, Int32.reduceOfInt, Int32.reduceAdd, Int32.reduceMul, Int32.reduceSub, ↓reduceIte, Int32.reduceLT, Int32.reduceLE, Int32.reduceToNatClampNeg, Nat.reduceMod, Nat.reduceLT, List.length_cons, List.length_nil, eq_self, true_or, or_true, and_self, implies_true, not_true_eq_false, not_false_eq_true, false_implies, true_implies, forall_const, st_aloadx, st_getfieldx, st_gotox, st_iaddx, st_ialoadx, st_iastorex, st_iconstx, st_if_icmpx, st_iincx, st_iloadx, st_imulx, st_in2, st_ireturnx, am_put, am_nlg, kb_Model_back_33, og_82_2, og_82_3, jx_Model_back_64, kb_Model_back_64, oo_82, oa_82, oa_84, or_84, ow_84, os_84, oa_85, or_85, ow_85, os_85, show ((2698 : Int32) ≤ nI (2698)) = (2698 ≤ 2698) from nk_le (a := 2698) (b := 2698) (by omega) (by omega)]
        exact m_good (hA.w84 (X := X) ((hI.2 X hX).cgB (fun l hl _ => ovr_in (g := fun j => F 85 (2698 * i + j)) (by omega) (by omega)))) (fun F' l m => K F' ((Lo.rf.up (by decide) _).tr l) m)
  · rw [e, if_neg Bool.false_ne_true] at K
    exact m_refuses hA rfl (by decide) K
end MOB
