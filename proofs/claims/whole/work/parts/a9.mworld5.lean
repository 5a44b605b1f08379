/-! ===== the model: world as a whole ===== -/
section MWY
variable {d : Nat} {h : am_H} {F : Nat → Nat → Int32} {J : Nat → Nat → Int64} {V : Nat → Nat → Value} {Q : am_Q}
set_option maxRecDepth 20000 in
theorem m_woStep {D : dT} {hp : Nat} {x : Int32} {best : Int32} {way : Nat} (hway : way < 2) {bo : Option (List Nat)} (hB : BW F best bo) {T : tT} (hT : MT F T) (hl : T.2.1.length ≤ 25) (K : ∀ F' b' v5 v6, Pm F F' → BW F' b' (stW2 bo (wlO T)) → am_W kc_Model_world (am_cl (d + 32)) Q 182 [.ref 82, .int (nI hp), .int x, .int b', .int (nI way), v5, v6] [] (ov h F' J V)) {v5 v6 : Value} : qz T (fun _ => false) = false → am_W kc_Model_world (am_cl (d + 32)) Q 61 [.ref 82, .int (nI hp), .int x, .int best, .int (nI way), v5, v6] [] (ov h F J V) := by
  intro q
  simp only [ax0, ex_cons, am_get, upz_at, true_and, and_true, Nat.reduceAdd, Nat.reduceLeDiff, Nat.reduceEqDiff, Nat.reduceSub, Int32.reduceOfInt, Int32.reduceAdd, Int32.reduceMul, Int32.reduceSub, ↓reduceIte, Int32.reduceLT, Int32.reduceLE, Int32.reduceToNatClampNeg, Nat.reduceMod, Nat.reduceLT, List.length_cons, List.length_nil, eq_self, true_or, or_true, and_self, implies_true, not_true_eq_false, not_false_eq_true, false_implies, true_implies, forall_const, st_aloadx, st_goto_wx, st_iconstx, st_in1, st_istorex, am_put, am_nlg, jx_Model_world_61, kb_Model_world_61, oo_82, oa_82]
  refine m_laysWorld hT hl q (fun F1 l p1 r1 w1 => ?_)
  have eo : wlO T = some l := by unfold wlO; rw [q, if_neg Bool.false_ne_true, wlN_eq r1]
  rw [eo] at K
  have hB1 : BW F1 best bo := by
    cases bo with
    | none => exact hB
    | some b => exact ⟨hB.1, hB.2.1, fun i hi => by rw [p1.1 104 (by decide) (by decide) (by decide) (by decide)]; exact hB.2.2 i hi⟩
  have hl29 := w1.2.1
  have copy : ∀ lessv v6, (∀ F' b' v5 v6, Pm F F' → BW F' b' (some l) → am_W kc_Model_world (am_cl (d + 32)) Q 182 [.ref 82, .int (nI hp), .int x, .int b', .int (nI way), v5, v6] [] (ov h F' J V)) → am_W kc_Model_world (am_cl (d + 32)) Q 145 [.ref 82, .int (nI hp), .int x, .int best, .int (nI way), .int lessv, .int v6] [] (ov h F1 J V) := by
    intro lessv v6 K2
    have := m_woCopy (F := F1) (d := d + 32) (h := h) (J := J) (V := V) (Q := Q) (hp := nI hp) (x := x) (way := way) (lessv := lessv) (bestv := best) w1 (fun f v6 hf => K2 (upz F1 104 f) (nI l.length) (.int lessv) v6 (p1.pm.s104 f) ⟨rfl, hl29, fun i hi => ⟨by rw [upz_eq]; exact hf i hi, (w1.2.2 i hi).2⟩⟩)
    simp only [ax0, ex_cons, am_get, upz_at, true_and, and_true, Nat.reduceAdd, Nat.reduceLeDiff, Nat.reduceEqDiff, Nat.reduceSub, Int32.reduceOfInt, Int32.reduceAdd, Int32.reduceMul, Int32.reduceSub, ↓reduceIte, Int32.reduceLT, Int32.reduceLE, Int32.reduceToNatClampNeg, Nat.reduceMod, Nat.reduceLT, List.length_cons, List.length_nil, eq_self, true_or, or_true, and_self, implies_true, not_true_eq_false, not_false_eq_true, false_implies, true_implies, forall_const, st_aloadx, st_getfieldx, st_goto_wx, st_iconstx, st_istorex, am_put, am_nlg, jx_Model_world_145, kb_Model_world_145, og_82_38, oa_82] at this ⊢
    exact this
  simp only [ax0, ex_cons, am_get, upz_at, true_and, and_true, Nat.reduceAdd, Nat.reduceLeDiff, Nat.reduceEqDiff, Nat.reduceSub, Int32.reduceOfInt, Int32.reduceAdd, Int32.reduceMul, Int32.reduceSub, ↓reduceIte, Int32.reduceLT, Int32.reduceLE, Int32.reduceToNatClampNeg, Nat.reduceMod, Nat.reduceLT, List.length_cons, List.length_nil, eq_self, true_or, or_true, and_self, implies_true, not_true_eq_false, not_false_eq_true, false_implies, true_implies, forall_const, st_aloadx, st_goto_wx, st_iconstx, st_in1, st_istorex, am_put, am_nlg, jx_Model_world_61, kb_Model_world_61, oo_82, oa_82]
  cases bo with
  | none =>
    have hB1 : best = -1 := hB1
    subst hB1
    have e1 : stW2 none (some l) = some l := rfl
    rw [e1] at K
    rw [jx_Model_world_71]
    by_cases g : 0 < l.length
    · simp only [ax0, ex_cons, am_get, upz_at, true_and, and_true, Nat.reduceAdd, Nat.reduceLeDiff, Nat.reduceEqDiff, Nat.reduceSub, Int32.reduceOfInt, Int32.reduceAdd, Int32.reduceMul, Int32.reduceSub, ↓reduceIte, Int32.reduceLT, Int32.reduceLE, Int32.reduceToNatClampNeg, Nat.reduceMod, Nat.reduceLT, List.length_cons, List.length_nil, eq_self, true_or, or_true, and_self, implies_true, not_true_eq_false, not_false_eq_true, false_implies, true_implies, forall_const, st_aloadx, st_getfieldx, st_gotox, st_ialoadx, st_iconstx, st_ifCondx, st_if_icmpx, st_iincx, st_iloadx, st_istorex, st_isubx, am_put, am_nlg, kb_Model_world_71, og_82_38, og_82_35, og_82_36, jx_Model_world_116, kb_Model_world_116, oa_82, oa_103, or_103, oa_104, or_104, w1.1, show (nI l.length ≤ (0 : Int32)) = (l.length ≤ 0) from nk_le (b := 0) (by omega) (by decide), show ¬ l.length ≤ 0 by omega, show ((-1 : Int32) = nI l.length) = False from ax_f (fun z => by have := nI_neg1 (show l.length < 2147483648 by omega); rw [← z] at this; exact absurd rfl (of_eq_false this))]
      exact copy 0 0 K
    · simp only [ax0, ex_cons, am_get, upz_at, true_and, and_true, Nat.reduceAdd, Nat.reduceLeDiff, Nat.reduceEqDiff, Nat.reduceSub, Int32.reduceOfInt, Int32.reduceAdd, Int32.reduceMul, Int32.reduceSub, ↓reduceIte, Int32.reduceLT, Int32.reduceLE, Int32.reduceToNatClampNeg, Nat.reduceMod, Nat.reduceLT, List.length_cons, List.length_nil, eq_self, true_or, or_true, and_self, implies_true, not_true_eq_false, not_false_eq_true, false_implies, true_implies, forall_const, st_aloadx, st_getfieldx, st_gotox, st_ialoadx, st_iconstx, st_ifCondx, st_if_icmpx, st_iincx, st_iloadx, st_istorex, st_isubx, am_put, am_nlg, kb_Model_world_71, og_82_38, og_82_35, og_82_36, jx_Model_world_116, kb_Model_world_116, oa_82, oa_103, or_103, oa_104, or_104, w1.1, show (nI l.length ≤ (0 : Int32)) = (l.length ≤ 0) from nk_le (b := 0) (by omega) (by decide), show l.length ≤ 0 by omega]
      exact copy 0 0 K
  | some b =>
    obtain ⟨b1, b2, b3⟩ := hB1
    subst b1
    have e1 : stW2 (some b) (some l) = if l.length < b.length ∨ (l.length = b.length ∧ lxB l b = true) then some l else some b := rfl
    rw [e1] at K
    have keep : ∀ v5 v6, ¬ (l.length < b.length ∨ (l.length = b.length ∧ lxB l b = true)) → am_W kc_Model_world (am_cl (d + 32)) Q 182 [.ref 82, .int (nI hp), .int x, .int (nI b.length), .int (nI way), v5, v6] [] (ov h F1 J V) := by
      intro v5 v6 z
      rw [if_neg z] at K
      exact K F1 _ v5 v6 p1.pm ⟨rfl, b2, b3⟩
    by_cases g : l.length = b.length
    · refine m_woLess w1 ⟨rfl, b2, b3⟩ g (fun v6 => ?_)
      have hlt := lsV_lt g (fun i hi => (w1.2.2 i hi).2) (fun i hi => (b3 i hi).2)
      simp only [ax0, ex_cons, am_get, upz_at, true_and, and_true, Nat.reduceAdd, Nat.reduceLeDiff, Nat.reduceEqDiff, Nat.reduceSub, Int32.reduceOfInt, Int32.reduceAdd, Int32.reduceMul, Int32.reduceSub, ↓reduceIte, Int32.reduceLT, Int32.reduceLE, Int32.reduceToNatClampNeg, Nat.reduceMod, Nat.reduceLT, List.length_cons, List.length_nil, eq_self, true_or, or_true, and_self, implies_true, not_true_eq_false, not_false_eq_true, false_implies, true_implies, forall_const, st_aloadx, st_getfieldx, st_gotox, st_iconstx, st_ifCondx, st_if_icmpx, st_iloadx, jx_Model_world_116, kb_Model_world_116, og_82_38, oa_82, nI_neg1 (show b.length < 2147483648 by omega), w1.1, g, show (nI b.length < nI b.length) = (b.length < b.length) from nk_lt (by omega) (by omega), Nat.lt_irrefl]
      refine And.intro (fun z => ?_) (fun z => ?_)
      · rw [g] at hlt
        have z2 : lxB l b = true := by rw [← hlt]; exact z
        rw [if_pos (Or.inr ⟨g, z2⟩)] at K
        exact copy _ _ K
      · refine keep _ _ ?_
        rintro (w | ⟨_, w⟩)
        · omega
        · rw [g] at hlt
          rw [← hlt] at w
          exact z w
    · have ne : ¬ nI b.length = nI l.length := by rw [nk_eq (by omega) (by omega)]; omega
      have fin : ∀ v6, am_W kc_Model_world (am_cl (d + 32)) Q 116 [.ref 82, .int (nI hp), .int x, .int (nI b.length), .int (nI way), .int 0, .int v6] [] (ov h F1 J V) := by
        intro v6
        simp only [ax0, ex_cons, am_get, upz_at, true_and, and_true, Nat.reduceAdd, Nat.reduceLeDiff, Nat.reduceEqDiff, Nat.reduceSub, Int32.reduceOfInt, Int32.reduceAdd, Int32.reduceMul, Int32.reduceSub, ↓reduceIte, Int32.reduceLT, Int32.reduceLE, Int32.reduceToNatClampNeg, Nat.reduceMod, Nat.reduceLT, List.length_cons, List.length_nil, eq_self, true_or, or_true, and_self, implies_true, not_true_eq_false, not_false_eq_true, false_implies, true_implies, forall_const, st_aloadx, st_getfieldx, st_gotox, st_iconstx, st_ifCondx, st_if_icmpx, st_iloadx, jx_Model_world_116, kb_Model_world_116, og_82_38, oa_82, nI_neg1 (show b.length < 2147483648 by omega), w1.1, show (nI b.length < nI l.length) = (b.length < l.length) from nk_lt (by omega) (by omega), show (nI l.length = nI b.length) = (l.length = b.length) from nk_eq (by omega) (by omega), g]
        refine And.intro (fun z => ?_) (fun z => ?_)
        · exact keep _ _ (by omega)
        · rw [if_pos (Or.inl (by omega))] at K
          exact copy _ _ K
      rw [jx_Model_world_71]
      by_cases g2 : 0 < l.length
      · simp only [ax0, ex_cons, am_get, upz_at, true_and, and_true, Nat.reduceAdd, Nat.reduceLeDiff, Nat.reduceEqDiff, Nat.reduceSub, Int32.reduceOfInt, Int32.reduceAdd, Int32.reduceMul, Int32.reduceSub, ↓reduceIte, Int32.reduceLT, Int32.reduceLE, Int32.reduceToNatClampNeg, Nat.reduceMod, Nat.reduceLT, List.length_cons, List.length_nil, eq_self, true_or, or_true, and_self, implies_true, not_true_eq_false, not_false_eq_true, false_implies, true_implies, forall_const, st_aloadx, st_getfieldx, st_gotox, st_ialoadx, st_ifCondx, st_if_icmpx, st_iincx, st_iloadx, st_istorex, st_isubx, am_put, am_nlg, kb_Model_world_71, og_82_38, og_82_35, og_82_36, oa_82, oa_103, or_103, oa_104, or_104, w1.1, show (nI l.length ≤ (0 : Int32)) = (l.length ≤ 0) from nk_le (b := 0) (by omega) (by decide), show ¬ l.length ≤ 0 by omega, ne]
        exact fin 0
      · simp only [ax0, ex_cons, am_get, upz_at, true_and, and_true, Nat.reduceAdd, Nat.reduceLeDiff, Nat.reduceEqDiff, Nat.reduceSub, Int32.reduceOfInt, Int32.reduceAdd, Int32.reduceMul, Int32.reduceSub, ↓reduceIte, Int32.reduceLT, Int32.reduceLE, Int32.reduceToNatClampNeg, Nat.reduceMod, Nat.reduceLT, List.length_cons, List.length_nil, eq_self, true_or, or_true, and_self, implies_true, not_true_eq_false, not_false_eq_true, false_implies, true_implies, forall_const, st_aloadx, st_getfieldx, st_gotox, st_ialoadx, st_ifCondx, st_if_icmpx, st_iincx, st_iloadx, st_istorex, st_isubx, am_put, am_nlg, kb_Model_world_71, og_82_38, og_82_35, og_82_36, oa_82, oa_103, or_103, oa_104, or_104, w1.1, show (nI l.length ≤ (0 : Int32)) = (l.length ≤ 0) from nk_le (b := 0) (by omega) (by decide), show l.length ≤ 0 by omega]
        exact fin 0
set_option maxRecDepth 20000 in
theorem mp_world {D : dT} (hD : MK (F 84) D) {x i : Int32} (K : ∀ F', Pm F F' → Q (some (.int (aWorld D x i))) (ov h F' J V)) : am_cl (d + 33) 261 [.ref 82, .int x, .int i] (ov h F J V) Q := by
  unfold aWorld at K
  simp only [ax0, ex_cons, am_get, upz_at, true_and, and_true, Nat.reduceAdd, Nat.reduceLeDiff, Nat.reduceEqDiff, Nat.reduceSub, Int32.reduceOfInt, Int32.reduceAdd, Int32.reduceMul, Int32.reduceSub, ↓reduceIte, Int32.reduceLT, Int32.reduceLE, Int32.reduceToNatClampNeg, Nat.reduceMod, Nat.reduceLT, List.length_cons, List.length_nil, eq_self, true_or, or_true, and_self, implies_true, not_true_eq_false, not_false_eq_true, false_implies, true_implies, forall_const, st_aloadx, st_goto_wx, st_iconstx, st_ifCondx, st_if_icmpx, st_iloadx, st_in1, st_in2, kb_Model_world_0, oo_82, oa_82, cx_Model_world]
  refine m_isHeap hD.1 hD.2.1 ?_
  simp only [ax0, ex_cons, am_get, upz_at, true_and, and_true, Nat.reduceAdd, Nat.reduceLeDiff, Nat.reduceEqDiff, Nat.reduceSub, Int32.reduceOfInt, Int32.reduceAdd, Int32.reduceMul, Int32.reduceSub, ↓reduceIte, Int32.reduceLT, Int32.reduceLE, Int32.reduceToNatClampNeg, Nat.reduceMod, Nat.reduceLT, List.length_cons, List.length_nil, eq_self, true_or, or_true, and_self, implies_true, not_true_eq_false, not_false_eq_true, false_implies, true_implies, forall_const, st_aloadx, st_goto_wx, st_iconstx, st_ifCondx, st_if_icmpx, st_iloadx, st_in1, st_in2, st_ireturnx, kb_Model_world_0, oo_82, jx_Model_world_20, kb_Model_world_20, oa_82]
  refine ifb (fun e => ?_) (fun e => ?_)
  · rw [e, Bool.false_and, Bool.false_and, if_neg Bool.false_ne_true] at K
    exact K F Pm.rf
  rw [e, Bool.true_and] at K
  refine m_isAsked hD.2.2.1 ?_
  simp only [ax0, ex_cons, am_get, upz_at, true_and, and_true, Nat.reduceAdd, Nat.reduceLeDiff, Nat.reduceEqDiff, Nat.reduceSub, Int32.reduceOfInt, Int32.reduceAdd, Int32.reduceMul, Int32.reduceSub, ↓reduceIte, Int32.reduceLT, Int32.reduceLE, Int32.reduceToNatClampNeg, Nat.reduceMod, Nat.reduceLT, List.length_cons, List.length_nil, eq_self, true_or, or_true, and_self, implies_true, not_true_eq_false, not_false_eq_true, false_implies, true_implies, forall_const, st_aloadx, st_goto_wx, st_iconstx, st_ifCondx, st_if_icmpx, st_iloadx, st_in1, st_in2, st_ireturnx, kb_Model_world_0, oo_82, jx_Model_world_20, kb_Model_world_20, oa_82]
  refine ifb (fun e2 => ?_) (fun e2 => ?_)
  · rw [e2, Bool.false_and, if_neg Bool.false_ne_true] at K
    exact K F Pm.rf
  rw [e2, Bool.true_and] at K
  refine And.intro (fun q => ?_) (fun q => ?_)
  · rw [decide_eq_false (Int32.not_lt.mpr q), Bool.not_false, if_pos rfl] at K
    obtain ⟨hp, e1, e3, e4⟩ := hpB_nI hD.2.1 e
    subst e1
    rw [e4] at K
    have h12 := hD.2.2.2.2.2 e2
    simp only [ax0, ex_cons, am_get, upz_at, true_and, and_true, Nat.reduceAdd, Nat.reduceLeDiff, Nat.reduceEqDiff, Nat.reduceSub, Int32.reduceOfInt, Int32.reduceAdd, Int32.reduceMul, Int32.reduceSub, ↓reduceIte, Int32.reduceLT, Int32.reduceLE, Int32.reduceToNatClampNeg, Nat.reduceMod, Nat.reduceLT, List.length_cons, List.length_nil, eq_self, true_or, or_true, and_self, implies_true, not_true_eq_false, not_false_eq_true, false_implies, true_implies, forall_const, st_goto_wx, st_iconstx, st_istorex, am_put, am_nlg, jx_Model_world_22, kb_Model_world_22]
    have hw2 : owZ (csD D 12) D.2.2.2 ≤ 2 := by unfold owZ; split <;> omega
    have key : ∀ j w F1 best v5 v6, w + j = owZ (csD D 12) D.2.2.2 → Pm F F1 → BW F1 best (bestW D hp w) → am_W kc_Model_world (am_cl (d + 32)) Q 27 [.ref 82, .int (nI hp), .int i, .int best, .int (nI w), v5, v6] [] (ov h F1 J V) := by
      intro j
      induction j with
      | zero =>
        intro w F1 best v5 v6 ew p1 hB
        have ew : w = owZ (csD D 12) D.2.2.2 := ew
        have hD1 := hD.pm p1
        rw [← ew] at K
        have K := K F1 p1
        rw [jx_Model_world_27]
        simp only [ax0, ex_cons, am_get, upz_at, true_and, and_true, Nat.reduceAdd, Nat.reduceLeDiff, Nat.reduceEqDiff, Nat.reduceSub, Int32.reduceOfInt, Int32.reduceAdd, Int32.reduceMul, Int32.reduceSub, ↓reduceIte, Int32.reduceLT, Int32.reduceLE, Int32.reduceToNatClampNeg, Nat.reduceMod, Nat.reduceLT, List.length_cons, List.length_nil, eq_self, true_or, or_true, and_self, implies_true, not_true_eq_false, not_false_eq_true, false_implies, true_implies, forall_const, st_aloadx, st_gotox, st_iconstx, st_ifCondx, st_if_icmpx, st_iloadx, st_in1, st_in2, st_in3, kb_Model_world_27, oo_82, oa_82]
        refine m_otherwise hD1.2.2.2.1 (s := 12) (by decide) (hD1.2.2.2.2.2 e2).2.2 ?_
        have ew2 : owZ (clR (D.2.1 12)) D.2.2.2 = w := ew.symm
        rw [ew2]
        simp only [ax0, ex_cons, am_get, upz_at, true_and, and_true, Nat.reduceAdd, Nat.reduceLeDiff, Nat.reduceEqDiff, Nat.reduceSub, Int32.reduceOfInt, Int32.reduceAdd, Int32.reduceMul, Int32.reduceSub, ↓reduceIte, Int32.reduceLT, Int32.reduceLE, Int32.reduceToNatClampNeg, Nat.reduceMod, Nat.reduceLT, List.length_cons, List.length_nil, eq_self, true_or, or_true, and_self, implies_true, not_true_eq_false, not_false_eq_true, false_implies, true_implies, forall_const, st_aloadx, st_gotox, st_iconstx, st_ifCondx, st_if_icmpx, st_iloadx, st_in1, st_in2, st_in3, kb_Model_world_27, oo_82, oa_82, (nk_le (by omega) (by omega) : (nI (w) ≤ nI (w)) = (w ≤ w)), Nat.le_refl]
        simp only [ax0, ex_cons, am_get, upz_at, true_and, and_true, Nat.reduceAdd, Nat.reduceLeDiff, Nat.reduceEqDiff, Nat.reduceSub, Int32.reduceOfInt, Int32.reduceAdd, Int32.reduceMul, Int32.reduceSub, ↓reduceIte, Int32.reduceLT, Int32.reduceLE, Int32.reduceToNatClampNeg, Nat.reduceMod, Nat.reduceLT, List.length_cons, List.length_nil, eq_self, true_or, or_true, and_self, implies_true, not_true_eq_false, not_false_eq_true, false_implies, true_implies, forall_const, st_aloadx, st_getfieldx, st_gotox, st_goto_wx, st_ialoadx, st_iconstx, st_if_icmpx, st_iloadx, st_ireturnx, jx_Model_world_188, kb_Model_world_188, jx_Model_world_197, kb_Model_world_197, og_82_36, jx_Model_world_211, kb_Model_world_211, jx_Model_world_212, kb_Model_world_212, oa_82, oa_104, or_104]
        unfold woO at K
        cases eb : bestW D hp w with
        | none =>
          rw [eb] at K hB
          have hB : best = -1 := hB
          subst hB
          refine And.intro (fun z => ?_) (fun z => ?_)
          · refine And.intro (fun z2 => ?_) (fun z2 => ?_)
            · exact K
            · exfalso
              apply z
              rw [← Int32.toInt_inj]
              rw [Int32.le_iff_toInt_le] at q z2
              have e1 : (-1 : Int32).toInt = -1 := by decide
              rw [e1] at q z2 ⊢
              omega
          · exact K
        | some l =>
          rw [eb] at K hB
          obtain ⟨b1, b2, b3⟩ := hB
          subst b1
          dsimp only at K
          refine And.intro (fun z => ?_) (fun z => ?_)
          · rw [if_neg z] at K
            have p1 : ¬ i < 0 := by
              intro z3
              have e1 : (-1 : Int32).toInt = -1 := by decide
              rw [Int32.lt_iff_toInt_lt, Int32.toInt_zero] at z3
              rw [Int32.le_iff_toInt_le, e1] at q
              apply z
              rw [← Int32.toInt_inj, e1]
              omega
            obtain ⟨f1, f2⟩ := nk_of p1
            generalize i.toNatClampNeg = k at f1 f2 K
            subst f1
            have hlt : (nI k < nI l.length) = (k < l.length) := nk_lt f2 (by omega)
            simp only [(nk_le (by omega) (by omega) : (nI (l.length) ≤ nI (k)) = (l.length ≤ k))]
            refine And.intro (fun z2 => ?_) (fun z2 => ?_)
            · rw [if_neg (by rw [hlt]; omega)] at K
              exact K
            · rw [if_pos (by rw [hlt]; omega)] at K
              simp only [ax0, ex_cons, am_get, upz_at, true_and, and_true, Nat.reduceAdd, Nat.reduceLeDiff, Nat.reduceEqDiff, Nat.reduceSub, Int32.reduceOfInt, Int32.reduceAdd, Int32.reduceMul, Int32.reduceSub, ↓reduceIte, Int32.reduceLT, Int32.reduceLE, Int32.reduceToNatClampNeg, Nat.reduceMod, Nat.reduceLT, List.length_cons, List.length_nil, eq_self, true_or, or_true, and_self, implies_true, not_true_eq_false, not_false_eq_true, false_implies, true_implies, forall_const, st_aloadx, st_getfieldx, st_gotox, st_ialoadx, st_if_icmpx, st_iloadx, st_ireturnx, jx_Model_world_197, kb_Model_world_197, og_82_36, jx_Model_world_212, kb_Model_world_212, oa_82, oa_104, or_104, nk_neg (show k < 2147483648 by omega), nk_cl (show k < 2147483648 by omega), show k < 40 by omega, (b3 k (by omega)).1]
              exact K
          · rw [if_pos (Classical.not_not.mp z)] at K
            exact K
      | succ j ih =>
        intro w F1 best v5 v6 ew p1 hB
        have hD1 := hD.pm p1
        rw [jx_Model_world_27]
        simp only [ax0, ex_cons, am_get, upz_at, true_and, and_true, Nat.reduceAdd, Nat.reduceLeDiff, Nat.reduceEqDiff, Nat.reduceSub, Int32.reduceOfInt, Int32.reduceAdd, Int32.reduceMul, Int32.reduceSub, ↓reduceIte, Int32.reduceLT, Int32.reduceLE, Int32.reduceToNatClampNeg, Nat.reduceMod, Nat.reduceLT, List.length_cons, List.length_nil, eq_self, true_or, or_true, and_self, implies_true, not_true_eq_false, not_false_eq_true, false_implies, true_implies, forall_const, st_aloadx, st_gotox, st_iconstx, st_ifCondx, st_if_icmpx, st_iloadx, st_in1, st_in2, st_in3, kb_Model_world_27, oo_82, oa_82]
        refine m_otherwise hD1.2.2.2.1 (s := 12) (by decide) (hD1.2.2.2.2.2 e2).2.2 ?_
        simp only [ax0, ex_cons, am_get, upz_at, true_and, and_true, Nat.reduceAdd, Nat.reduceLeDiff, Nat.reduceEqDiff, Nat.reduceSub, Int32.reduceOfInt, Int32.reduceAdd, Int32.reduceMul, Int32.reduceSub, ↓reduceIte, Int32.reduceLT, Int32.reduceLE, Int32.reduceToNatClampNeg, Nat.reduceMod, Nat.reduceLT, List.length_cons, List.length_nil, eq_self, true_or, or_true, and_self, implies_true, not_true_eq_false, not_false_eq_true, false_implies, true_implies, forall_const, st_aloadx, st_gotox, st_iconstx, st_ifCondx, st_if_icmpx, st_iloadx, st_in1, st_in2, st_in3, kb_Model_world_27, oo_82, oa_82, show (nI (owZ (clR (D.2.1 12)) D.2.2.2) ≤ nI w) = (owZ (csD D 12) D.2.2.2 ≤ w) from nk_le (by show owZ (csD D 12) D.2.2.2 < _; omega) (by omega), show ¬ owZ (csD D 12) D.2.2.2 ≤ w by omega]
        refine m_heapsD hD1 e3 (fun F2 t2 k2 s2 => ?_)
        simp only [ax0, ex_cons, am_get, upz_at, true_and, and_true, Nat.reduceAdd, Nat.reduceLeDiff, Nat.reduceEqDiff, Nat.reduceSub, Int32.reduceOfInt, Int32.reduceAdd, Int32.reduceMul, Int32.reduceSub, ↓reduceIte, Int32.reduceLT, Int32.reduceLE, Int32.reduceToNatClampNeg, Nat.reduceMod, Nat.reduceLT, List.length_cons, List.length_nil, eq_self, true_or, or_true, and_self, implies_true, not_true_eq_false, not_false_eq_true, false_implies, true_implies, forall_const, st_aloadx, st_gotox, st_iconstx, st_ifCondx, st_if_icmpx, st_iloadx, st_in1, st_in2, st_in3, kb_Model_world_27, oo_82, oa_82]
        have hh := hzD_len D hp
        refine m_tellsNot t2 (by omega) (s := 12) (by decide) (C := csD D 12) (k2.2.2.2.2.2 e2).2.2 (way := w) (by omega) (fun F3 t3 s3 => ?_)
        simp only [ax0, ex_cons, am_get, upz_at, true_and, and_true, Nat.reduceAdd, Nat.reduceLeDiff, Nat.reduceEqDiff, Nat.reduceSub, Int32.reduceOfInt, Int32.reduceAdd, Int32.reduceMul, Int32.reduceSub, ↓reduceIte, Int32.reduceLT, Int32.reduceLE, Int32.reduceToNatClampNeg, Nat.reduceMod, Nat.reduceLT, List.length_cons, List.length_nil, eq_self, true_or, or_true, and_self, implies_true, not_true_eq_false, not_false_eq_true, false_implies, true_implies, forall_const, st_aloadx, st_gotox, st_iconstx, st_ifCondx, st_if_icmpx, st_iloadx, st_in1, st_in2, st_in3, kb_Model_world_27, oo_82, oa_82]
        have hl25 : (tnZ (hzD D hp) (csD D 12) w).2.1.length ≤ 25 := by have := tnZ_len (hzD D hp) (csD D 12) w; omega
        refine m_isQuarrel t3 (by omega) (fun f => ?_)
        have p4 : Pm F (upz F3 100 f) := (p1.tr (s2.pm.tr s3.pm)).s100 f
        have t4 := t3.s100 f
        have hB4 : BW (upz F3 100 f) best (bestW D hp w) := by
          cases eb : bestW D hp w with
          | none => rw [eb] at hB; exact hB
          | some l =>
            rw [eb] at hB
            refine ⟨hB.1, hB.2.1, fun i hi => ?_⟩
            rw [upz_ne _ _ (by decide), s3.1 104 (by decide) (by decide) (by decide) (by decide) (by decide), s2.1 104 (by decide) (by decide) (by decide) (by decide) (by decide)]
            exact hB.2.2 i hi
        generalize upz F3 100 f = F4 at p4 t4 hB4 ⊢
        have ih := fun F' b' v5 v6 => ih (w + 1) F' b' v5 v6 (by omega)
        unfold bestW at ih
        simp only [ax0, ex_cons, am_get, upz_at, true_and, and_true, Nat.reduceAdd, Nat.reduceLeDiff, Nat.reduceEqDiff, Nat.reduceSub, Int32.reduceOfInt, Int32.reduceAdd, Int32.reduceMul, Int32.reduceSub, ↓reduceIte, Int32.reduceLT, Int32.reduceLE, Int32.reduceToNatClampNeg, Nat.reduceMod, Nat.reduceLT, List.length_cons, List.length_nil, eq_self, true_or, or_true, and_self, implies_true, not_true_eq_false, not_false_eq_true, false_implies, true_implies, forall_const, st_aloadx, st_gotox, st_iconstx, st_ifCondx, st_if_icmpx, st_iloadx, st_in1, st_in2, st_in3, kb_Model_world_27, oo_82, oa_82]
        refine ifb (fun qz0 => ?_) (fun qz1 => ?_)
        · refine m_woStep (D := D) (by omega) hB4 t4 hl25 (fun F5 b5 v5 v6 p5 hB5 => ?_) qz0
          simp only [ax0, ex_cons, am_get, upz_at, true_and, and_true, Nat.reduceAdd, Nat.reduceLeDiff, Nat.reduceEqDiff, Nat.reduceSub, Int32.reduceOfInt, Int32.reduceAdd, Int32.reduceMul, Int32.reduceSub, ↓reduceIte, Int32.reduceLT, Int32.reduceLE, Int32.reduceToNatClampNeg, Nat.reduceMod, Nat.reduceLT, List.length_cons, List.length_nil, eq_self, true_or, or_true, and_self, implies_true, not_true_eq_false, not_false_eq_true, false_implies, true_implies, forall_const, st_gotox, st_iincx, am_put, am_nlg, jx_Model_world_182, kb_Model_world_182, nk_succ]
          exact ih F5 b5 v5 v6 (p4.tr p5) hB5
        · simp only [ax0, ex_cons, am_get, upz_at, true_and, and_true, Nat.reduceAdd, Nat.reduceLeDiff, Nat.reduceEqDiff, Nat.reduceSub, Int32.reduceOfInt, Int32.reduceAdd, Int32.reduceMul, Int32.reduceSub, ↓reduceIte, Int32.reduceLT, Int32.reduceLE, Int32.reduceToNatClampNeg, Nat.reduceMod, Nat.reduceLT, List.length_cons, List.length_nil, eq_self, true_or, or_true, and_self, implies_true, not_true_eq_false, not_false_eq_true, false_implies, true_implies, forall_const, st_gotox, st_iincx, am_put, am_nlg, jx_Model_world_182, kb_Model_world_182, nk_succ]
          have eo : wlO (tnZ (hzD D hp) (csD D 12) w) = none := by unfold wlO; rw [qz1, if_pos rfl]
          rw [eo] at ih
          exact ih F4 best v5 v6 p4 hB4
    exact key (owZ (csD D 12) D.2.2.2) 0 F (-1) _ _ (Nat.zero_add _) Pm.rf rfl
  · rw [decide_eq_true (Int32.not_le.mp q), Bool.not_true, if_neg Bool.false_ne_true] at K
    exact K F Pm.rf
end MWY
