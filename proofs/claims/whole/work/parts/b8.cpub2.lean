/-! ===== the class: says, all, between ===== -/
theorem lt_le {x : Int32} (n : Nat) (hn : n < 2147483647) : (nI (n + 1) ≤ x) = (nI n < x) := by
  rw [Int32.le_iff_toInt_le, Int32.lt_iff_toInt_lt, nk_toInt (by omega), nk_toInt (by omega)]
  exact propext ⟨fun h => by omega, fun h => by omega⟩
theorem TT.th {F F' : Nat → Nat → Int32} {J J' : Nat → Nat → Int64} {th : Nat} {T : tT} {P : Nat} (h : TT F J th T P) (e1 : F' th = F th) (e2 : J' (th + 1) = J (th + 1)) (e3 : J' (th + 2) = J (th + 2)) (e4 : J' (th + 3) = J (th + 3)) : TT F' J' th T P := by
  obtain ⟨t1, t2, t3, t4, t5, t6, t7, t8⟩ := h
  exact ⟨by rw [e2]; exact t1, by rw [e1]; exact t2, t3, by rw [e3]; exact t4, by rw [e4]; exact t5, by rw [e1]; exact t6, t7, t8⟩
section CPC
variable {d : Nat} {h : am_H} {F : Nat → Nat → Int32} {J : Nat → Nat → Int64} {V : Nat → Nat → Value} {Q : am_Q}
set_option maxRecDepth 20000 in
theorem c_isMood {hp : am_H} {m : Int32} (K : Q (some (.int (b2i (lieB m 0 3)))) hp) : am_cl (d + 1) 65 [.int m] hp Q := by
  unfold lieB at K
  simp only [isO_c, ax0, ex_cons, am_get, upz_at, true_and, and_true, Nat.reduceAdd, Nat.reduceLeDiff, Nat.reduceEqDiff, Nat.reduceSub, Int32.reduceOfInt, Int32.reduceAdd, Int32.reduceMul, Int32.reduceSub, ↓reduceIte, Int32.reduceLT, Int32.reduceLE, Int32.reduceToNatClampNeg, Nat.reduceMod, Nat.reduceLT, List.length_cons, List.length_nil, eq_self, true_or, or_true, and_self, implies_true, not_true_eq_false, not_false_eq_true, false_implies, true_implies, forall_const, st_freturnx, st_gotox, st_goto_wx, st_iconstx, st_ifCondx, st_if_icmpx, st_iloadx, kb_Slips_isMood_0, jx_Slips_isMood_13, kb_Slips_isMood_13, jx_Slips_isMood_14, kb_Slips_isMood_14, cx_Slips_isMood, show ((4 : Int32) ≤ m) = ((3 : Int32) < m) from lt_le 3 (by decide)]
  refine And.intro (fun q => ?_) (fun q => ?_)
  · rw [decide_eq_true q] at K; exact K
  · rw [decide_eq_false q] at K
    refine And.intro (fun q => ?_) (fun q => ?_)
    · rw [decide_eq_true q] at K; exact K
    · rw [decide_eq_false q] at K; exact K
set_option maxRecDepth 20000 in
theorem c_areTwoKinds {hp : am_H} {a b : Int32} (K : Q (some (.int (b2i (kiB a b)))) hp) : am_cl (d + 1) 66 [.int a, .int b] hp Q := by
  unfold kiB lieB at K
  simp only [isO_c, ax0, ex_cons, am_get, upz_at, true_and, and_true, Nat.reduceAdd, Nat.reduceLeDiff, Nat.reduceEqDiff, Nat.reduceSub, Int32.reduceOfInt, Int32.reduceAdd, Int32.reduceMul, Int32.reduceSub, ↓reduceIte, Int32.reduceLT, Int32.reduceLE, Int32.reduceToNatClampNeg, Nat.reduceMod, Nat.reduceLT, List.length_cons, List.length_nil, eq_self, true_or, or_true, and_self, implies_true, not_true_eq_false, not_false_eq_true, false_implies, true_implies, forall_const, st_freturnx, st_gotox, st_goto_wx, st_iconstx, st_ifCondx, st_if_icmpx, st_iloadx, kb_Slips_areTwoKinds_0, jx_Slips_areTwoKinds_29, kb_Slips_areTwoKinds_29, jx_Slips_areTwoKinds_30, kb_Slips_areTwoKinds_30, cx_Slips_areTwoKinds, show ((8 : Int32) ≤ a) = ((7 : Int32) < a) from lt_le 7 (by decide), show ((8 : Int32) ≤ b) = ((7 : Int32) < b) from lt_le 7 (by decide)]
  refine And.intro (fun q => ?_) (fun q => ?_)
  · rw [decide_eq_true q] at K; exact K
  rw [decide_eq_false q] at K
  refine And.intro (fun q => ?_) (fun q => ?_)
  · rw [decide_eq_true q] at K; exact K
  rw [decide_eq_false q] at K
  refine And.intro (fun q => ?_) (fun q => ?_)
  · rw [decide_eq_true q] at K; exact K
  rw [decide_eq_false q] at K
  refine And.intro (fun q => ?_) (fun q => ?_)
  · rw [decide_eq_true q] at K; exact K
  rw [decide_eq_false q] at K
  refine And.intro (fun q => ?_) (fun q => ?_)
  · rw [decide_eq_true q] at K; exact K
  · rw [decide_eq_false q] at K; exact K
set_option maxRecDepth 20000 in
theorem c_isSimple {hp : am_H} {n : Nat} (hn : n < 256) (K : Q (some (.int (b2i (isNu n)))) hp) : am_cl (d + 2) 71 [.int (nI n)] hp Q := by
  unfold isNu at K
  simp only [isO_c, ax0, ex_cons, am_get, upz_at, true_and, and_true, Nat.reduceAdd, Nat.reduceLeDiff, Nat.reduceEqDiff, Nat.reduceSub, Int32.reduceOfInt, Int32.reduceAdd, Int32.reduceMul, Int32.reduceSub, ↓reduceIte, Int32.reduceLT, Int32.reduceLE, Int32.reduceToNatClampNeg, Nat.reduceMod, Nat.reduceLT, List.length_cons, List.length_nil, eq_self, true_or, or_true, and_self, implies_true, not_true_eq_false, not_false_eq_true, false_implies, true_implies, forall_const, st_gotox, st_iconstx, st_ifCondx, st_if_icmpx, st_iloadx, st_st1, kb_Slips_isSimple_0, cx_Slips_isSimple, nk_neg (show n < 2147483648 by omega), nk_cl (show n < 2147483648 by omega), show ((256 : Int32) ≤ nI (n)) = (256 ≤ n) from nk_le (a := 256) (b := n) (by omega) (by omega), show ¬ 256 ≤ n by omega]
  refine c_subjectOf hn ?_
  simp only [isO_c, ax0, ex_cons, am_get, upz_at, true_and, and_true, Nat.reduceAdd, Nat.reduceLeDiff, Nat.reduceEqDiff, Nat.reduceSub, Int32.reduceOfInt, Int32.reduceAdd, Int32.reduceMul, Int32.reduceSub, ↓reduceIte, Int32.reduceLT, Int32.reduceLE, Int32.reduceToNatClampNeg, Nat.reduceMod, Nat.reduceLT, List.length_cons, List.length_nil, eq_self, true_or, or_true, and_self, implies_true, not_true_eq_false, not_false_eq_true, false_implies, true_implies, forall_const, st_gotox, st_iconstx, st_ifCondx, st_if_icmpx, st_iloadx, st_st1, kb_Slips_isSimple_0]
  refine c_predicateOf hn ?_
  simp only [isO_c, ax0, ex_cons, am_get, upz_at, true_and, and_true, Nat.reduceAdd, Nat.reduceLeDiff, Nat.reduceEqDiff, Nat.reduceSub, Int32.reduceOfInt, Int32.reduceAdd, Int32.reduceMul, Int32.reduceSub, ↓reduceIte, Int32.reduceLT, Int32.reduceLE, Int32.reduceToNatClampNeg, Nat.reduceMod, Nat.reduceLT, List.length_cons, List.length_nil, eq_self, true_or, or_true, and_self, implies_true, not_true_eq_false, not_false_eq_true, false_implies, true_implies, forall_const, st_freturnx, st_gotox, st_goto_wx, st_iconstx, st_ifCondx, st_if_icmpx, st_iloadx, st_st1, kb_Slips_isSimple_0, jx_Slips_isSimple_26, kb_Slips_isSimple_26, jx_Slips_isSimple_27, kb_Slips_isSimple_27, show (nI (n / 8 % 8) = nI (n % 8)) = (n / 8 % 8 = n % 8) from nk_eq (by omega) (by omega)]
  refine And.intro (fun q => ?_) (fun q => ?_)
  · rw [decide_eq_true q] at K; exact K
  · rw [decide_eq_false q] at K; exact K
set_option maxRecDepth 20000 in
theorem c_simpleFollows (hb : HB h) (hp : HP h) {T : tT} {P : Nat} (hT : TT F J 47 T P) {m u v : Nat} (hm : m < 4) (hu : u < 8) (hv : v < 8) {ex : Bool} (K : ∀ F' J', TT F' J' 47 T P → Cf F F' → Q (some (.int (b2i (fN T ex (64 * m + 8 * u + v))))) (ov h F' J' V)) : am_cl (d + 5) 41 [.ref 23, .int (nI m), .int (nI u), .int (nI v), .int (b2i ex)] (ov h F J V) Q := by
  simp only [isO_c, ax0, ex_cons, am_get, upz_at, true_and, and_true, Nat.reduceAdd, Nat.reduceLeDiff, Nat.reduceEqDiff, Nat.reduceSub, Int32.reduceOfInt, Int32.reduceAdd, Int32.reduceMul, Int32.reduceSub, ↓reduceIte, Int32.reduceLT, Int32.reduceLE, Int32.reduceToNatClampNeg, Nat.reduceMod, Nat.reduceLT, List.length_cons, List.length_nil, eq_self, true_or, or_true, and_self, implies_true, not_true_eq_false, not_false_eq_true, false_implies, true_implies, forall_const, st_aloadx, st_getfieldx, st_gotox, st_iconstx, st_ifCondx, st_iloadx, st_in3, st_in4, kb_Slips_simpleFollows_0, og_23_4, oo_51, og_23_3, oa_23, oa_51, cx_Slips_simpleFollows]
  refine c_setSimple (Or.inl rfl) hp hm hu hv (fun F1 J1 c1 _ _ _ s1 => ?_)
  have t1 := hT.si (Or.inl rfl) (Or.inl rfl) s1
  simp only [isO_c, ax0, ex_cons, am_get, upz_at, true_and, and_true, Nat.reduceAdd, Nat.reduceLeDiff, Nat.reduceEqDiff, Nat.reduceSub, Int32.reduceOfInt, Int32.reduceAdd, Int32.reduceMul, Int32.reduceSub, ↓reduceIte, Int32.reduceLT, Int32.reduceLE, Int32.reduceToNatClampNeg, Nat.reduceMod, Nat.reduceLT, List.length_cons, List.length_nil, eq_self, true_or, or_true, and_self, implies_true, not_true_eq_false, not_false_eq_true, false_implies, true_implies, forall_const, st_aloadx, st_getfieldx, st_gotox, st_iconstx, st_ifCondx, st_iloadx, st_in3, st_in4, kb_Slips_simpleFollows_0, og_23_4, og_23_3, oo_47, oa_23, oa_47]
  refine c_canFail (Or.inl rfl) hb t1 c1 (clR_ok _) ?_
  have K := K F1 J1 t1 (s1.cf (Or.inl rfl))
  unfold fN at K
  simp only [isO_c, ax0, ex_cons, am_get, upz_at, true_and, and_true, Nat.reduceAdd, Nat.reduceLeDiff, Nat.reduceEqDiff, Nat.reduceSub, Int32.reduceOfInt, Int32.reduceAdd, Int32.reduceMul, Int32.reduceSub, ↓reduceIte, Int32.reduceLT, Int32.reduceLE, Int32.reduceToNatClampNeg, Nat.reduceMod, Nat.reduceLT, List.length_cons, List.length_nil, eq_self, true_or, or_true, and_self, implies_true, not_true_eq_false, not_false_eq_true, false_implies, true_implies, forall_const, st_aloadx, st_freturnx, st_getfieldx, st_gotox, st_goto_wx, st_iconstx, st_ifCondx, st_iloadx, st_in3, st_in4, kb_Slips_simpleFollows_0, og_23_4, og_23_3, oo_47, jx_Slips_simpleFollows_30, kb_Slips_simpleFollows_30, jx_Slips_simpleFollows_31, kb_Slips_simpleFollows_31, oa_23, oa_47]
  refine ifnb (fun z => ?_) (fun z => ?_)
  · rw [Bool.not_eq_true'] at z
    rw [z] at K; exact K
  · rw [Bool.not_eq_false'] at z
    rw [z] at K; exact K
set_option maxRecDepth 20000 in
theorem c_countFollowing (hb : HB h) (hp : HP h) {T : tT} {P : Nat} (hT : TT F J 47 T P) {m : Nat} (hm : m < 4) {ex : Bool} (K : ∀ F' J', Cf F F' → Q (some (.int (nI (cn (fun k => isNu (64 * m + k) && fN T ex (64 * m + k)) 64)))) (ov h F' J' V)) : am_cl (d + 6) 40 [.ref 23, .int (nI m), .int (b2i ex)] (ov h F J V) Q := by
  simp only [isO_c, ax0, ex_cons, am_get, upz_at, true_and, and_true, Nat.reduceAdd, Nat.reduceLeDiff, Nat.reduceEqDiff, Nat.reduceSub, Int32.reduceOfInt, Int32.reduceAdd, Int32.reduceMul, Int32.reduceSub, ↓reduceIte, Int32.reduceLT, Int32.reduceLE, Int32.reduceToNatClampNeg, Nat.reduceMod, Nat.reduceLT, List.length_cons, List.length_nil, eq_self, true_or, or_true, and_self, implies_true, not_true_eq_false, not_false_eq_true, false_implies, true_implies, forall_const, st_goto_wx, st_iconstx, st_istorex, am_put, am_nlg, kb_Slips_countFollowing_0, cx_Slips_countFollowing]
  have key : ∀ j s F1 J1 v5, s + j = 8 → TT F1 J1 47 T P → Cf F F1 → am_W kc_Slips_countFollowing (am_cl (d + 5)) Q 5 [.ref 23, .int (nI m), .int (b2i ex), .int (nI (cn (fun k => isNu (64 * m + k) && fN T ex (64 * m + k)) (8 * s))), .int (nI s), v5] [] (ov h F1 J1 V) := by
    intro j
    induction j with
    | zero =>
      intro s F1 J1 v5 es t1 c1
      have es : s = 8 := es
      subst es
      rw [jx_Slips_countFollowing_5]
      simp only [isO_c, ax0, ex_cons, am_get, upz_at, true_and, and_true, Nat.reduceAdd, Nat.reduceLeDiff, Nat.reduceEqDiff, Nat.reduceSub, Int32.reduceOfInt, Int32.reduceAdd, Int32.reduceMul, Int32.reduceSub, ↓reduceIte, Int32.reduceLT, Int32.reduceLE, Int32.reduceToNatClampNeg, Nat.reduceMod, Nat.reduceLT, List.length_cons, List.length_nil, eq_self, true_or, or_true, and_self, implies_true, not_true_eq_false, not_false_eq_true, false_implies, true_implies, forall_const, st_goto_wx, st_iconstx, st_if_icmpx, st_iloadx, st_ireturnx, st_istorex, am_put, am_nlg, kb_Slips_countFollowing_5, jx_Slips_countFollowing_57, kb_Slips_countFollowing_57, show ((8 : Int32) ≤ nI (8)) = (8 ≤ 8) from nk_le (a := 8) (b := 8) (by omega) (by omega)]
      exact K F1 J1 c1
    | succ j ih =>
      intro s F1 J1 v5 es t1 c1
      rw [jx_Slips_countFollowing_5]
      simp only [isO_c, ax0, ex_cons, am_get, upz_at, true_and, and_true, Nat.reduceAdd, Nat.reduceLeDiff, Nat.reduceEqDiff, Nat.reduceSub, Int32.reduceOfInt, Int32.reduceAdd, Int32.reduceMul, Int32.reduceSub, ↓reduceIte, Int32.reduceLT, Int32.reduceLE, Int32.reduceToNatClampNeg, Nat.reduceMod, Nat.reduceLT, List.length_cons, List.length_nil, eq_self, true_or, or_true, and_self, implies_true, not_true_eq_false, not_false_eq_true, false_implies, true_implies, forall_const, st_goto_wx, st_iconstx, st_if_icmpx, st_iloadx, st_istorex, am_put, am_nlg, kb_Slips_countFollowing_5, show ((8 : Int32) ≤ nI (s)) = (8 ≤ s) from nk_le (a := 8) (b := s) (by omega) (by omega), show ¬ 8 ≤ s by omega]
      have inn : ∀ j' p F2 J2, p + j' = 8 → TT F2 J2 47 T P → Cf F F2 → am_W kc_Slips_countFollowing (am_cl (d + 5)) Q 15 [.ref 23, .int (nI m), .int (b2i ex), .int (nI (cn (fun k => isNu (64 * m + k) && fN T ex (64 * m + k)) (8 * s + p))), .int (nI s), .int (nI p)] [] (ov h F2 J2 V) := by
        intro j'
        induction j' with
        | zero =>
          intro p F2 J2 ep t2 c2
          have ep : p = 8 := ep
          subst ep
          rw [jx_Slips_countFollowing_15]
          simp only [isO_c, ax0, ex_cons, am_get, upz_at, true_and, and_true, Nat.reduceAdd, Nat.reduceLeDiff, Nat.reduceEqDiff, Nat.reduceSub, Int32.reduceOfInt, Int32.reduceAdd, Int32.reduceMul, Int32.reduceSub, ↓reduceIte, Int32.reduceLT, Int32.reduceLE, Int32.reduceToNatClampNeg, Nat.reduceMod, Nat.reduceLT, List.length_cons, List.length_nil, eq_self, true_or, or_true, and_self, implies_true, not_true_eq_false, not_false_eq_true, false_implies, true_implies, forall_const, st_aloadx, st_gotox, st_goto_wx, st_iconstx, st_ifCondx, st_if_icmpx, st_iincx, st_iloadx, st_in5, am_put, am_nlg, kb_Slips_countFollowing_15, oo_23, jx_Slips_countFollowing_51, kb_Slips_countFollowing_51, oa_23, show ((8 : Int32) ≤ nI (8)) = (8 ≤ 8) from nk_le (a := 8) (b := 8) (by omega) (by omega), nk_succ]
          exact ih (s + 1) F2 J2 _ (by omega) t2 c2
        | succ j' ih' =>
          intro p F2 J2 ep t2 c2
          have e1 : isNu (64 * m + (8 * s + p)) = !decide (s = p) := by
            unfold isNu
            rw [show (64 * m + (8 * s + p)) / 8 % 8 = s by omega, show (64 * m + (8 * s + p)) % 8 = p by omega]
          have ih' := fun F3 J3 => ih' (p + 1) F3 J3 (by omega)
          rw [← Nat.add_assoc] at ih'
          unfold cn at ih'
          rw [e1, ← Nat.add_assoc] at ih'
          rw [jx_Slips_countFollowing_15]
          simp only [isO_c, ax0, ex_cons, am_get, upz_at, true_and, and_true, Nat.reduceAdd, Nat.reduceLeDiff, Nat.reduceEqDiff, Nat.reduceSub, Int32.reduceOfInt, Int32.reduceAdd, Int32.reduceMul, Int32.reduceSub, ↓reduceIte, Int32.reduceLT, Int32.reduceLE, Int32.reduceToNatClampNeg, Nat.reduceMod, Nat.reduceLT, List.length_cons, List.length_nil, eq_self, true_or, or_true, and_self, implies_true, not_true_eq_false, not_false_eq_true, false_implies, true_implies, forall_const, st_aloadx, st_gotox, st_goto_wx, st_iconstx, st_ifCondx, st_if_icmpx, st_iincx, st_iloadx, st_in5, am_put, am_nlg, kb_Slips_countFollowing_15, oo_23, jx_Slips_countFollowing_45, kb_Slips_countFollowing_45, oa_23, show ((8 : Int32) ≤ nI (p)) = (8 ≤ p) from nk_le (a := 8) (b := p) (by omega) (by omega), show ¬ 8 ≤ p by omega, show (nI s = nI p) = (s = p) from nk_eq (by omega) (by omega), nk_succ]
          refine And.intro (fun q => ?_) (fun q => ?_)
          · rw [decide_eq_true q, Bool.not_true, Bool.false_and, if_neg Bool.false_ne_true, Nat.add_zero] at ih'
            exact ih' F2 J2 t2 c2
          · rw [decide_eq_false q, Bool.not_false, Bool.true_and] at ih'
            refine c_simpleFollows hb hp t2 hm (by omega) (by omega) (fun F3 J3 t3 c3 => ?_)
            simp only [isO_c, ax0, ex_cons, am_get, upz_at, true_and, and_true, Nat.reduceAdd, Nat.reduceLeDiff, Nat.reduceEqDiff, Nat.reduceSub, Int32.reduceOfInt, Int32.reduceAdd, Int32.reduceMul, Int32.reduceSub, ↓reduceIte, Int32.reduceLT, Int32.reduceLE, Int32.reduceToNatClampNeg, Nat.reduceMod, Nat.reduceLT, List.length_cons, List.length_nil, eq_self, true_or, or_true, and_self, implies_true, not_true_eq_false, not_false_eq_true, false_implies, true_implies, forall_const, st_aloadx, st_gotox, st_goto_wx, st_iconstx, st_ifCondx, st_if_icmpx, st_iincx, st_iloadx, st_in5, am_put, am_nlg, kb_Slips_countFollowing_15, oo_23, jx_Slips_countFollowing_45, kb_Slips_countFollowing_45, oa_23, nk_succ]
            refine ifb (fun z => ?_) (fun z => ?_)
            · rw [z, if_neg Bool.false_ne_true, Nat.add_zero] at ih'
              exact ih' F3 J3 t3 (c2.tr c3)
            · rw [z, if_pos rfl] at ih'
              exact ih' F3 J3 t3 (c2.tr c3)
      exact inn 8 0 F1 J1 (by decide) t1 c1
  exact key 8 0 F J _ (by decide) hT Cf.rf
set_option maxRecDepth 20000 in
theorem cp_says (hb : HB h) (hpt : HP h) {X : kT} (hD : DK h F V 34 X) {x m u v : Int32} (K : ∀ F' J', Cf F F' → Q (some (.int (aSays X.1 x m u v))) (ov h F' J' V)) : am_cl (d + 6) 38 [.ref 23, .int x, .int m, .int u, .int v] (ov h F J V) Q := by
  unfold aSays at K
  simp only [isO_c, ax0, ex_cons, am_get, upz_at, true_and, and_true, Nat.reduceAdd, Nat.reduceLeDiff, Nat.reduceEqDiff, Nat.reduceSub, Int32.reduceOfInt, Int32.reduceAdd, Int32.reduceMul, Int32.reduceSub, ↓reduceIte, Int32.reduceLT, Int32.reduceLE, Int32.reduceToNatClampNeg, Nat.reduceMod, Nat.reduceLT, List.length_cons, List.length_nil, eq_self, true_or, or_true, and_self, implies_true, not_true_eq_false, not_false_eq_true, false_implies, true_implies, forall_const, st_aloadx, st_getfieldx, st_goto_wx, st_ifCondx, st_iloadx, st_in2, st_st1, st_st2, kb_Slips_says_0, og_23_1, oo_34, oa_23, oa_34, cx_Slips_says]
  refine c_hasHeap hD ?_
  simp only [isO_c, ax0, ex_cons, am_get, upz_at, true_and, and_true, Nat.reduceAdd, Nat.reduceLeDiff, Nat.reduceEqDiff, Nat.reduceSub, Int32.reduceOfInt, Int32.reduceAdd, Int32.reduceMul, Int32.reduceSub, ↓reduceIte, Int32.reduceLT, Int32.reduceLE, Int32.reduceToNatClampNeg, Nat.reduceMod, Nat.reduceLT, List.length_cons, List.length_nil, eq_self, true_or, or_true, and_self, implies_true, not_true_eq_false, not_false_eq_true, false_implies, true_implies, forall_const, st_aloadx, st_getfieldx, st_goto_wx, st_iconstx, st_ifCondx, st_iloadx, st_in2, st_st1, st_st2, st_ireturnx, kb_Slips_says_0, og_23_1, oo_34, jx_Slips_says_27, kb_Slips_says_27, oa_23, oa_34]
  refine ifb (fun e => ?_) (fun e => ?_)
  · rw [e] at K; exact K F J Cf.rf
  rw [e, Bool.true_and] at K
  refine c_isMood ?_
  simp only [isO_c, ax0, ex_cons, am_get, upz_at, true_and, and_true, Nat.reduceAdd, Nat.reduceLeDiff, Nat.reduceEqDiff, Nat.reduceSub, Int32.reduceOfInt, Int32.reduceAdd, Int32.reduceMul, Int32.reduceSub, ↓reduceIte, Int32.reduceLT, Int32.reduceLE, Int32.reduceToNatClampNeg, Nat.reduceMod, Nat.reduceLT, List.length_cons, List.length_nil, eq_self, true_or, or_true, and_self, implies_true, not_true_eq_false, not_false_eq_true, false_implies, true_implies, forall_const, st_aloadx, st_getfieldx, st_goto_wx, st_iconstx, st_ifCondx, st_iloadx, st_in2, st_st1, st_st2, st_ireturnx, kb_Slips_says_0, og_23_1, oo_34, jx_Slips_says_27, kb_Slips_says_27, oa_23, oa_34]
  refine ifb (fun e2 => ?_) (fun e2 => ?_)
  · rw [e2] at K; exact K F J Cf.rf
  rw [e2, Bool.true_and] at K
  refine c_areTwoKinds ?_
  simp only [isO_c, ax0, ex_cons, am_get, upz_at, true_and, and_true, Nat.reduceAdd, Nat.reduceLeDiff, Nat.reduceEqDiff, Nat.reduceSub, Int32.reduceOfInt, Int32.reduceAdd, Int32.reduceMul, Int32.reduceSub, ↓reduceIte, Int32.reduceLT, Int32.reduceLE, Int32.reduceToNatClampNeg, Nat.reduceMod, Nat.reduceLT, List.length_cons, List.length_nil, eq_self, true_or, or_true, and_self, implies_true, not_true_eq_false, not_false_eq_true, false_implies, true_implies, forall_const, st_aloadx, st_getfieldx, st_goto_wx, st_iconstx, st_ifCondx, st_iloadx, st_in2, st_st1, st_st2, st_ireturnx, kb_Slips_says_0, og_23_1, oo_34, jx_Slips_says_27, kb_Slips_says_27, oa_23, oa_34]
  refine ifnb (fun e3 => ?_) (fun e3 => ?_)
  · rw [e3, if_pos rfl] at K
    obtain ⟨hp, a1, a2, a3⟩ := hpB_nI hD.1.2.1 e
    obtain ⟨k1, b1, b2, b3⟩ := lie3 e2
    unfold kiB at e3
    rw [Bool.and_eq_true, Bool.and_eq_true] at e3
    obtain ⟨k2, c1, c2, c3⟩ := lie7 e3.1.1
    obtain ⟨k3, f1, f2, f3⟩ := lie7 e3.1.2
    subst a1; subst b1; subst c1; subst f1
    unfold nuI at K
    rw [a3, b3, c3, f3] at K
    simp only [isO_c, ax0, ex_cons, am_get, upz_at, true_and, and_true, Nat.reduceAdd, Nat.reduceLeDiff, Nat.reduceEqDiff, Nat.reduceSub, Int32.reduceOfInt, Int32.reduceAdd, Int32.reduceMul, Int32.reduceSub, ↓reduceIte, Int32.reduceLT, Int32.reduceLE, Int32.reduceToNatClampNeg, Nat.reduceMod, Nat.reduceLT, List.length_cons, List.length_nil, eq_self, true_or, or_true, and_self, implies_true, not_true_eq_false, not_false_eq_true, false_implies, true_implies, forall_const, st_aloadx, st_getfieldx, st_gotox, st_iconstx, st_ifCondx, st_iloadx, st_in2, st_in5, jx_Slips_says_29, kb_Slips_says_29, oo_23, og_23_1, og_34_3, oa_23, oa_34]
    refine c_assume hD a2 (fun F1 J1 P t1 s1 q1 => ?_)
    have cf1 := q1.cf (Or.inl rfl)
    have h343 : F1 34 3 = b2i X.1.2.2.2 := (hD.cf cf1).2.2.1
    simp only [isO_c, ax0, ex_cons, am_get, upz_at, true_and, and_true, Nat.reduceAdd, Nat.reduceLeDiff, Nat.reduceEqDiff, Nat.reduceSub, Int32.reduceOfInt, Int32.reduceAdd, Int32.reduceMul, Int32.reduceSub, ↓reduceIte, Int32.reduceLT, Int32.reduceLE, Int32.reduceToNatClampNeg, Nat.reduceMod, Nat.reduceLT, List.length_cons, List.length_nil, eq_self, true_or, or_true, and_self, implies_true, not_true_eq_false, not_false_eq_true, false_implies, true_implies, forall_const, st_aloadx, st_getfieldx, st_gotox, st_iconstx, st_ifCondx, st_iloadx, st_in2, st_in5, jx_Slips_says_29, kb_Slips_says_29, oo_23, og_23_1, og_34_3, oa_23, oa_34, h343]
    refine c_simpleFollows hb hpt t1 (by omega) (by omega) (by omega) (fun F2 J2 t2 cf2 => ?_)
    have K := K F2 J2 (cf1.tr cf2)
    simp only [isO_c, ax0, ex_cons, am_get, upz_at, true_and, and_true, Nat.reduceAdd, Nat.reduceLeDiff, Nat.reduceEqDiff, Nat.reduceSub, Int32.reduceOfInt, Int32.reduceAdd, Int32.reduceMul, Int32.reduceSub, ↓reduceIte, Int32.reduceLT, Int32.reduceLE, Int32.reduceToNatClampNeg, Nat.reduceMod, Nat.reduceLT, List.length_cons, List.length_nil, eq_self, true_or, or_true, and_self, implies_true, not_true_eq_false, not_false_eq_true, false_implies, true_implies, forall_const, st_aloadx, st_getfieldx, st_gotox, st_goto_wx, st_iconstx, st_ifCondx, st_iloadx, st_in2, st_in5, st_ireturnx, jx_Slips_says_29, kb_Slips_says_29, oo_23, og_23_1, og_34_3, jx_Slips_says_56, kb_Slips_says_56, jx_Slips_says_57, kb_Slips_says_57, oa_23, oa_34]
    refine ifb (fun z => ?_) (fun z => ?_)
    · rw [z] at K; exact K
    · rw [z] at K; exact K
  · rw [e3, if_neg Bool.false_ne_true] at K
    exact K F J Cf.rf
set_option maxRecDepth 20000 in
theorem cp_all (hb : HB h) (hpt : HP h) {X : kT} (hD : DK h F V 34 X) {x m : Int32} (K : ∀ F' J', Cf F F' → Q (some (.int (aAll X.1 x m))) (ov h F' J' V)) : am_cl (d + 7) 39 [.ref 23, .int x, .int m] (ov h F J V) Q := by
  unfold aAll at K
  simp only [isO_c, ax0, ex_cons, am_get, upz_at, true_and, and_true, Nat.reduceAdd, Nat.reduceLeDiff, Nat.reduceEqDiff, Nat.reduceSub, Int32.reduceOfInt, Int32.reduceAdd, Int32.reduceMul, Int32.reduceSub, ↓reduceIte, Int32.reduceLT, Int32.reduceLE, Int32.reduceToNatClampNeg, Nat.reduceMod, Nat.reduceLT, List.length_cons, List.length_nil, eq_self, true_or, or_true, and_self, implies_true, not_true_eq_false, not_false_eq_true, false_implies, true_implies, forall_const, st_aloadx, st_getfieldx, st_goto_wx, st_ifCondx, st_iloadx, st_in2, st_st1, kb_Slips_all_0, og_23_1, oo_34, oa_23, oa_34, cx_Slips_all]
  refine c_hasHeap hD ?_
  simp only [isO_c, ax0, ex_cons, am_get, upz_at, true_and, and_true, Nat.reduceAdd, Nat.reduceLeDiff, Nat.reduceEqDiff, Nat.reduceSub, Int32.reduceOfInt, Int32.reduceAdd, Int32.reduceMul, Int32.reduceSub, ↓reduceIte, Int32.reduceLT, Int32.reduceLE, Int32.reduceToNatClampNeg, Nat.reduceMod, Nat.reduceLT, List.length_cons, List.length_nil, eq_self, true_or, or_true, and_self, implies_true, not_true_eq_false, not_false_eq_true, false_implies, true_implies, forall_const, st_aloadx, st_getfieldx, st_goto_wx, st_iconstx, st_ifCondx, st_iloadx, st_in2, st_st1, st_ireturnx, kb_Slips_all_0, og_23_1, oo_34, jx_Slips_all_18, kb_Slips_all_18, oa_23, oa_34]
  refine ifb (fun e => ?_) (fun e => ?_)
  · rw [e] at K; exact K F J Cf.rf
  rw [e, Bool.true_and] at K
  refine c_isMood ?_
  simp only [isO_c, ax0, ex_cons, am_get, upz_at, true_and, and_true, Nat.reduceAdd, Nat.reduceLeDiff, Nat.reduceEqDiff, Nat.reduceSub, Int32.reduceOfInt, Int32.reduceAdd, Int32.reduceMul, Int32.reduceSub, ↓reduceIte, Int32.reduceLT, Int32.reduceLE, Int32.reduceToNatClampNeg, Nat.reduceMod, Nat.reduceLT, List.length_cons, List.length_nil, eq_self, true_or, or_true, and_self, implies_true, not_true_eq_false, not_false_eq_true, false_implies, true_implies, forall_const, st_aloadx, st_getfieldx, st_goto_wx, st_iconstx, st_ifCondx, st_iloadx, st_in2, st_st1, st_ireturnx, kb_Slips_all_0, og_23_1, oo_34, jx_Slips_all_18, kb_Slips_all_18, oa_23, oa_34]
  refine ifnb (fun e2 => ?_) (fun e2 => ?_)
  · rw [e2, if_pos rfl] at K
    obtain ⟨hp, a1, a2, a3⟩ := hpB_nI hD.1.2.1 e
    obtain ⟨k1, b1, b2, b3⟩ := lie3 e2
    subst a1; subst b1
    rw [a3, b3] at K
    simp only [isO_c, ax0, ex_cons, am_get, upz_at, true_and, and_true, Nat.reduceAdd, Nat.reduceLeDiff, Nat.reduceEqDiff, Nat.reduceSub, Int32.reduceOfInt, Int32.reduceAdd, Int32.reduceMul, Int32.reduceSub, ↓reduceIte, Int32.reduceLT, Int32.reduceLE, Int32.reduceToNatClampNeg, Nat.reduceMod, Nat.reduceLT, List.length_cons, List.length_nil, eq_self, true_or, or_true, and_self, implies_true, not_true_eq_false, not_false_eq_true, false_implies, true_implies, forall_const, st_aloadx, st_getfieldx, st_iloadx, st_in2, st_in3, st_ireturnx, jx_Slips_all_20, kb_Slips_all_20, oo_23, og_23_1, og_34_3, oa_23, oa_34]
    refine c_assume hD a2 (fun F1 J1 P t1 s1 q1 => ?_)
    have cf1 := q1.cf (Or.inl rfl)
    have h343 : F1 34 3 = b2i X.1.2.2.2 := (hD.cf cf1).2.2.1
    simp only [isO_c, ax0, ex_cons, am_get, upz_at, true_and, and_true, Nat.reduceAdd, Nat.reduceLeDiff, Nat.reduceEqDiff, Nat.reduceSub, Int32.reduceOfInt, Int32.reduceAdd, Int32.reduceMul, Int32.reduceSub, ↓reduceIte, Int32.reduceLT, Int32.reduceLE, Int32.reduceToNatClampNeg, Nat.reduceMod, Nat.reduceLT, List.length_cons, List.length_nil, eq_self, true_or, or_true, and_self, implies_true, not_true_eq_false, not_false_eq_true, false_implies, true_implies, forall_const, st_aloadx, st_getfieldx, st_iloadx, st_in2, st_in3, st_ireturnx, jx_Slips_all_20, kb_Slips_all_20, oo_23, og_23_1, og_34_3, oa_23, oa_34, h343]
    refine c_countFollowing hb hpt t1 (by omega) (fun F2 J2 cf2 => ?_)
    simp only [isO_c, ax0, ex_cons, am_get, upz_at, true_and, and_true, Nat.reduceAdd, Nat.reduceLeDiff, Nat.reduceEqDiff, Nat.reduceSub, Int32.reduceOfInt, Int32.reduceAdd, Int32.reduceMul, Int32.reduceSub, ↓reduceIte, Int32.reduceLT, Int32.reduceLE, Int32.reduceToNatClampNeg, Nat.reduceMod, Nat.reduceLT, List.length_cons, List.length_nil, eq_self, true_or, or_true, and_self, implies_true, not_true_eq_false, not_false_eq_true, false_implies, true_implies, forall_const, st_aloadx, st_getfieldx, st_iloadx, st_in2, st_in3, st_ireturnx, jx_Slips_all_20, kb_Slips_all_20, oo_23, og_23_1, og_34_3, oa_23, oa_34]
    exact K F2 J2 (cf1.tr cf2)
  · rw [e2, if_neg Bool.false_ne_true] at K
    exact K F J Cf.rf
set_option maxRecDepth 20000 in
theorem cp_between (hb : HB h) (hpt : HP h) {X : kT} (hD : DK h F V 34 X) {x u v : Int32} (K : ∀ F' J', Cf F F' → Q (some (.int (aBetween X.1 x u v))) (ov h F' J' V)) : am_cl (d + 6) 35 [.ref 23, .int x, .int u, .int v] (ov h F J V) Q := by
  unfold aBetween at K
  simp only [isO_c, ax0, ex_cons, am_get, upz_at, true_and, and_true, Nat.reduceAdd, Nat.reduceLeDiff, Nat.reduceEqDiff, Nat.reduceSub, Int32.reduceOfInt, Int32.reduceAdd, Int32.reduceMul, Int32.reduceSub, ↓reduceIte, Int32.reduceLT, Int32.reduceLE, Int32.reduceToNatClampNeg, Nat.reduceMod, Nat.reduceLT, List.length_cons, List.length_nil, eq_self, true_or, or_true, and_self, implies_true, not_true_eq_false, not_false_eq_true, false_implies, true_implies, forall_const, st_aloadx, st_getfieldx, st_goto_wx, st_ifCondx, st_iloadx, st_in2, st_st2, kb_Slips_between_0, og_23_1, oo_34, oa_23, oa_34, cx_Slips_between]
  refine c_hasHeap hD ?_
  simp only [isO_c, ax0, ex_cons, am_get, upz_at, true_and, and_true, Nat.reduceAdd, Nat.reduceLeDiff, Nat.reduceEqDiff, Nat.reduceSub, Int32.reduceOfInt, Int32.reduceAdd, Int32.reduceMul, Int32.reduceSub, ↓reduceIte, Int32.reduceLT, Int32.reduceLE, Int32.reduceToNatClampNeg, Nat.reduceMod, Nat.reduceLT, List.length_cons, List.length_nil, eq_self, true_or, or_true, and_self, implies_true, not_true_eq_false, not_false_eq_true, false_implies, true_implies, forall_const, st_aloadx, st_getfieldx, st_goto_wx, st_iconstx, st_ifCondx, st_iloadx, st_in2, st_st2, st_ireturnx, kb_Slips_between_0, og_23_1, oo_34, jx_Slips_between_19, kb_Slips_between_19, oa_23, oa_34]
  refine ifb (fun e => ?_) (fun e => ?_)
  · rw [e] at K; exact K F J Cf.rf
  rw [e, Bool.true_and] at K
  refine c_areTwoKinds ?_
  simp only [isO_c, ax0, ex_cons, am_get, upz_at, true_and, and_true, Nat.reduceAdd, Nat.reduceLeDiff, Nat.reduceEqDiff, Nat.reduceSub, Int32.reduceOfInt, Int32.reduceAdd, Int32.reduceMul, Int32.reduceSub, ↓reduceIte, Int32.reduceLT, Int32.reduceLE, Int32.reduceToNatClampNeg, Nat.reduceMod, Nat.reduceLT, List.length_cons, List.length_nil, eq_self, true_or, or_true, and_self, implies_true, not_true_eq_false, not_false_eq_true, false_implies, true_implies, forall_const, st_aloadx, st_getfieldx, st_goto_wx, st_iconstx, st_ifCondx, st_iloadx, st_in2, st_st2, st_ireturnx, kb_Slips_between_0, og_23_1, oo_34, jx_Slips_between_19, kb_Slips_between_19, oa_23, oa_34]
  refine ifnb (fun e3 => ?_) (fun e3 => ?_)
  · rw [e3, if_pos rfl] at K
    obtain ⟨hp, a1, a2, a3⟩ := hpB_nI hD.1.2.1 e
    unfold kiB at e3
    rw [Bool.and_eq_true, Bool.and_eq_true] at e3
    obtain ⟨k2, c1, c2, c3⟩ := lie7 e3.1.1
    obtain ⟨k3, f1, f2, f3⟩ := lie7 e3.1.2
    subst a1; subst c1; subst f1
    rw [a3, c3, f3] at K
    simp only [isO_c, ax0, ex_cons, am_get, upz_at, true_and, and_true, Nat.reduceAdd, Nat.reduceLeDiff, Nat.reduceEqDiff, Nat.reduceSub, Int32.reduceOfInt, Int32.reduceAdd, Int32.reduceMul, Int32.reduceSub, ↓reduceIte, Int32.reduceLT, Int32.reduceLE, Int32.reduceToNatClampNeg, Nat.reduceMod, Nat.reduceLT, List.length_cons, List.length_nil, eq_self, true_or, or_true, and_self, implies_true, not_true_eq_false, not_false_eq_true, false_implies, true_implies, forall_const, st_aloadx, st_goto_wx, st_iconstx, st_iloadx, st_in2, st_istorex, am_put, am_nlg, jx_Slips_between_21, kb_Slips_between_21, oo_23, oa_23]
    refine c_assume hD a2 (fun F1 J1 P t1 s1 q1 => ?_)
    have cf1 := q1.cf (Or.inl rfl)
    simp only [isO_c, ax0, ex_cons, am_get, upz_at, true_and, and_true, Nat.reduceAdd, Nat.reduceLeDiff, Nat.reduceEqDiff, Nat.reduceSub, Int32.reduceOfInt, Int32.reduceAdd, Int32.reduceMul, Int32.reduceSub, ↓reduceIte, Int32.reduceLT, Int32.reduceLE, Int32.reduceToNatClampNeg, Nat.reduceMod, Nat.reduceLT, List.length_cons, List.length_nil, eq_self, true_or, or_true, and_self, implies_true, not_true_eq_false, not_false_eq_true, false_implies, true_implies, forall_const, st_aloadx, st_goto_wx, st_iconstx, st_iloadx, st_in2, st_istorex, am_put, am_nlg, jx_Slips_between_21, kb_Slips_between_21, oo_23, oa_23]
    have key : ∀ j m F2 J2, m + j = 4 → TT F2 J2 47 (hzD X.1 hp) P → Cf F F2 → am_W kc_Slips_between (am_cl (d + 5)) Q 32 [.ref 23, .int (nI hp), .int (nI k2), .int (nI k3), .int (nI (btF (hzD X.1 hp) X.1.2.2.2 k2 k3 m)), .int (nI m)] [] (ov h F2 J2 V) := by
      intro j
      induction j with
      | zero =>
        intro m F2 J2 em t2 cf2
        have em : m = 4 := em
        subst em
        have h343 : F2 34 3 = b2i X.1.2.2.2 := (hD.cf cf2).2.2.1
        unfold btZ at K
        have last : ∀ F3 J3 (bits : Nat), TT F3 J3 47 (hzD X.1 hp) P → Cf F F3 → bits = btF (hzD X.1 hp) X.1.2.2.2 k2 k3 4 ||| (if fN (hzD X.1 hp) X.1.2.2.2 (8 * k3 + k2) then 16 else 0) → ∀ v5, am_W kc_Slips_between (am_cl (d + 5)) Q 95 [.ref 23, .int (nI hp), .int (nI k2), .int (nI k3), .int (nI bits), v5] [] (ov h F3 J3 V) := by
          intro F3 J3 bits t3 cf3 eb v5
          have h343 : F3 34 3 = b2i X.1.2.2.2 := (hD.cf cf3).2.2.1
          simp only [isO_c, ax0, ex_cons, am_get, upz_at, true_and, and_true, Nat.reduceAdd, Nat.reduceLeDiff, Nat.reduceEqDiff, Nat.reduceSub, Int32.reduceOfInt, Int32.reduceAdd, Int32.reduceMul, Int32.reduceSub, ↓reduceIte, Int32.reduceLT, Int32.reduceLE, Int32.reduceToNatClampNeg, Nat.reduceMod, Nat.reduceLT, List.length_cons, List.length_nil, eq_self, true_or, or_true, and_self, implies_true, not_true_eq_false, not_false_eq_true, false_implies, true_implies, forall_const, st_aloadx, st_getfieldx, st_goto_wx, st_iconstx, st_ifCondx, st_iloadx, st_in5, st_iorx, st_istorex, am_put, am_nlg, jx_Slips_between_95, kb_Slips_between_95, og_23_1, og_34_3, oo_23, oa_23, oa_34, h343]
          refine c_simpleFollows hb hpt t3 (m := 3) (by decide) (by omega) (by omega) (fun F4 J4 t4 cf4 => ?_)
          have K := K F4 J4 (cf3.tr cf4)
          rw [← eb, show 192 + 8 * k3 + k2 = 64 * 3 + 8 * k3 + k2 by omega] at K
          simp only [isO_c, ax0, ex_cons, am_get, upz_at, true_and, and_true, Nat.reduceAdd, Nat.reduceLeDiff, Nat.reduceEqDiff, Nat.reduceSub, Int32.reduceOfInt, Int32.reduceAdd, Int32.reduceMul, Int32.reduceSub, ↓reduceIte, Int32.reduceLT, Int32.reduceLE, Int32.reduceToNatClampNeg, Nat.reduceMod, Nat.reduceLT, List.length_cons, List.length_nil, eq_self, true_or, or_true, and_self, implies_true, not_true_eq_false, not_false_eq_true, false_implies, true_implies, forall_const, st_aloadx, st_getfieldx, st_goto_wx, st_iconstx, st_ifCondx, st_iloadx, st_in5, st_iorx, st_ireturnx, st_istorex, am_put, am_nlg, jx_Slips_between_95, kb_Slips_between_95, og_23_1, og_34_3, oo_23, jx_Slips_between_119, kb_Slips_between_119, oa_23, oa_34, show nI bits ||| (32 : Int32) = nI (bits ||| 32) from nk_or bits 32]
          refine ifb (fun z => ?_) (fun z => ?_)
          · rw [z, if_neg Bool.false_ne_true, Nat.or_zero] at K; exact K
          · rw [z, if_pos rfl] at K; exact K
        rw [jx_Slips_between_32]
        simp only [isO_c, ax0, ex_cons, am_get, upz_at, true_and, and_true, Nat.reduceAdd, Nat.reduceLeDiff, Nat.reduceEqDiff, Nat.reduceSub, Int32.reduceOfInt, Int32.reduceAdd, Int32.reduceMul, Int32.reduceSub, ↓reduceIte, Int32.reduceLT, Int32.reduceLE, Int32.reduceToNatClampNeg, Nat.reduceMod, Nat.reduceLT, List.length_cons, List.length_nil, eq_self, true_or, or_true, and_self, implies_true, not_true_eq_false, not_false_eq_true, false_implies, true_implies, forall_const, st_aloadx, st_getfieldx, st_goto_wx, st_iconstx, st_ifCondx, st_if_icmpx, st_iloadx, st_in5, st_iorx, st_ishlx, st_istorex, am_put, am_nlg, kb_Slips_between_32, og_23_1, og_34_3, oo_23, jx_Slips_between_71, kb_Slips_between_71, oa_23, oa_34, show ((4 : Int32) ≤ nI (4)) = (4 ≤ 4) from nk_le (a := 4) (b := 4) (by omega) (by omega), h343]
        refine c_simpleFollows hb hpt t2 (m := 0) (by decide) (by omega) (by omega) (fun F3 J3 t3 cf3 => ?_)
        rw [show 64 * 0 + 8 * k3 + k2 = 8 * k3 + k2 by omega]
        simp only [isO_c, ax0, ex_cons, am_get, upz_at, true_and, and_true, Nat.reduceAdd, Nat.reduceLeDiff, Nat.reduceEqDiff, Nat.reduceSub, Int32.reduceOfInt, Int32.reduceAdd, Int32.reduceMul, Int32.reduceSub, ↓reduceIte, Int32.reduceLT, Int32.reduceLE, Int32.reduceToNatClampNeg, Nat.reduceMod, Nat.reduceLT, List.length_cons, List.length_nil, eq_self, true_or, or_true, and_self, implies_true, not_true_eq_false, not_false_eq_true, false_implies, true_implies, forall_const, st_aloadx, st_getfieldx, st_goto_wx, st_iconstx, st_ifCondx, st_iloadx, st_in5, st_iorx, st_istorex, am_put, am_nlg, jx_Slips_between_71, kb_Slips_between_71, og_23_1, og_34_3, oo_23, oa_23, oa_34, show nI (btF (hzD X.1 hp) X.1.2.2.2 k2 k3 4) ||| (16 : Int32) = nI (btF (hzD X.1 hp) X.1.2.2.2 k2 k3 4 ||| 16) from nk_or _ 16]
        refine ifb (fun z => ?_) (fun z => ?_)
        · exact last F3 J3 _ t3 (cf2.tr cf3) (by rw [z, if_neg Bool.false_ne_true, Nat.or_zero]) _
        · exact last F3 J3 _ t3 (cf2.tr cf3) (by rw [z, if_pos rfl]) _
      | succ j ih =>
        intro m F2 J2 em t2 cf2
        have h343 : F2 34 3 = b2i X.1.2.2.2 := (hD.cf cf2).2.2.1
        have ih := fun F3 J3 => ih (m + 1) F3 J3 (by omega)
        unfold btF at ih
        rw [jx_Slips_between_32]
        simp only [isO_c, ax0, ex_cons, am_get, upz_at, true_and, and_true, Nat.reduceAdd, Nat.reduceLeDiff, Nat.reduceEqDiff, Nat.reduceSub, Int32.reduceOfInt, Int32.reduceAdd, Int32.reduceMul, Int32.reduceSub, ↓reduceIte, Int32.reduceLT, Int32.reduceLE, Int32.reduceToNatClampNeg, Nat.reduceMod, Nat.reduceLT, List.length_cons, List.length_nil, eq_self, true_or, or_true, and_self, implies_true, not_true_eq_false, not_false_eq_true, false_implies, true_implies, forall_const, st_aloadx, st_getfieldx, st_goto_wx, st_iconstx, st_ifCondx, st_if_icmpx, st_iloadx, st_in5, st_iorx, st_ishlx, st_istorex, am_put, am_nlg, kb_Slips_between_32, og_23_1, og_34_3, oo_23, oa_23, oa_34, show ((4 : Int32) ≤ nI (m)) = (4 ≤ m) from nk_le (a := 4) (b := m) (by omega) (by omega), show ¬ 4 ≤ m by omega, h343]
        refine c_simpleFollows hb hpt t2 (by omega) (by omega) (by omega) (fun F3 J3 t3 cf3 => ?_)
        simp only [isO_c, ax0, ex_cons, am_get, upz_at, true_and, and_true, Nat.reduceAdd, Nat.reduceLeDiff, Nat.reduceEqDiff, Nat.reduceSub, Int32.reduceOfInt, Int32.reduceAdd, Int32.reduceMul, Int32.reduceSub, ↓reduceIte, Int32.reduceLT, Int32.reduceLE, Int32.reduceToNatClampNeg, Nat.reduceMod, Nat.reduceLT, List.length_cons, List.length_nil, eq_self, true_or, or_true, and_self, implies_true, not_true_eq_false, not_false_eq_true, false_implies, true_implies, forall_const, st_aloadx, st_getfieldx, st_gotox, st_goto_wx, st_iconstx, st_ifCondx, st_if_icmpx, st_iincx, st_iloadx, st_in5, st_iorx, st_ishlx, st_istorex, am_put, am_nlg, kb_Slips_between_32, og_23_1, og_34_3, oo_23, jx_Slips_between_65, kb_Slips_between_65, oa_23, oa_34, nk_1shl (show m < 32 by omega), nk_or, nk_succ]
        refine ifb (fun z => ?_) (fun z => ?_)
        · rw [z, if_neg Bool.false_ne_true] at ih
          exact ih F3 J3 t3 (cf2.tr cf3)
        · rw [z, if_pos rfl] at ih
          exact ih F3 J3 t3 (cf2.tr cf3)
    exact key 4 0 F1 J1 (by decide) t1 cf1
  · rw [e3, if_neg Bool.false_ne_true] at K
    exact K F J Cf.rf
end CPC
