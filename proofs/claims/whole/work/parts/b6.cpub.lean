/-! ===== the class: quarrels, follows, denied, idle ===== -/
/-- theories and simple sentences alone may differ -/
def Cf (F F' : Nat → Nat → Int32) : Prop := ∀ x, x ≠ 47 → x ≠ 51 → x ≠ 67 → x ≠ 71 → F' x = F x
theorem Cf.rf {F : Nat → Nat → Int32} : Cf F F := fun _ _ _ _ _ => rfl
theorem Cf.tr {F F1 F2 : Nat → Nat → Int32} (a : Cf F F1) (b : Cf F1 F2) : Cf F F2 := fun x h1 h2 h3 h4 => (b x h1 h2 h3 h4).trans (a x h1 h2 h3 h4)
theorem Tth.cf {th : Nat} (hth : th = 47 ∨ th = 67) {F F' : Nat → Nat → Int32} {J J' : Nat → Nat → Int64} (a : Tth th F F' J J') : Cf F F' := fun x h1 _ h3 _ => a.1 x (by omega)
theorem DK.cf {h : am_H} {F F' : Nat → Nat → Int32} {V : Nat → Nat → Value} {X : kT} (hD : DK h F V 34 X) (c : Cf F F') : DK h F' V 34 X := by
  obtain ⟨⟨d1, d2, d3⟩, d4, d5, ⟨d6, d7, d8⟩, d9, d10⟩ := hD
  have e34 := c 34 (by decide) (by decide) (by decide) (by decide)
  have e37 : F' (34 + 3) = F (34 + 3) := c 37 (by decide) (by decide) (by decide) (by decide)
  exact ⟨⟨by rw [e34]; exact d1, d2, d3⟩, d4, by rw [e34]; exact d5, ⟨by rw [e34]; exact d6, d7, fun i hi => ⟨(d8 i hi).1, by rw [e37]; exact (d8 i hi).2⟩⟩, d9, fun i hi => by rw [e37]; exact d10 i hi⟩
theorem DK.asked {h : am_H} {F : Nat → Nat → Int32} {V : Nat → Nat → Value} {X : kT} (hD : DK h F V 34 X) : (X.1.2.2.1 = false ∧ V 34 2 = .null) ∨ (X.1.2.2.1 = true ∧ ∃ p, V 34 2 = .ref p ∧ SR h p (X.1.2.1 12)) := by
  have := hD.2.1
  cases e : X.1.2.2.1
  · rw [e, if_neg Bool.false_ne_true] at this; exact Or.inl ⟨rfl, this⟩
  · rw [e, if_pos rfl] at this; exact Or.inr ⟨rfl, this⟩
section CPB
variable {d : Nat} {h : am_H} {F : Nat → Nat → Int32} {J : Nat → Nat → Int64} {V : Nat → Nat → Value} {Q : am_Q}
set_option maxRecDepth 20000 in
theorem cp_quarrels (hb : HB h) {X : kT} (hD : DK h F V 34 X) {x : Int32} (K : ∀ F' J', Cf F F' → Q (some (.int (aQuarrels X.1 x))) (ov h F' J' V)) : am_cl (d + 4) 21 [.ref 23, .int x] (ov h F J V) Q := by
  unfold aQuarrels at K
  simp only [isO_c, ax0, ex_cons, am_get, upz_at, true_and, and_true, Nat.reduceAdd, Nat.reduceLeDiff, Nat.reduceEqDiff, Nat.reduceSub, Int32.reduceOfInt, Int32.reduceAdd, Int32.reduceMul, Int32.reduceSub, ↓reduceIte, Int32.reduceLT, Int32.reduceLE, Int32.reduceToNatClampNeg, Nat.reduceMod, Nat.reduceLT, List.length_cons, List.length_nil, eq_self, true_or, or_true, and_self, implies_true, not_true_eq_false, not_false_eq_true, false_implies, true_implies, forall_const, st_aloadx, st_getfieldx, st_iconstx, st_ifCondx, st_iloadx, st_in2, st_ireturnx, kb_Slips_quarrels_0, og_23_1, oo_34, oa_23, oa_34, cx_Slips_quarrels]
  refine c_hasHeap hD ?_
  simp only [isO_c, ax0, ex_cons, am_get, upz_at, true_and, and_true, Nat.reduceAdd, Nat.reduceLeDiff, Nat.reduceEqDiff, Nat.reduceSub, Int32.reduceOfInt, Int32.reduceAdd, Int32.reduceMul, Int32.reduceSub, ↓reduceIte, Int32.reduceLT, Int32.reduceLE, Int32.reduceToNatClampNeg, Nat.reduceMod, Nat.reduceLT, List.length_cons, List.length_nil, eq_self, true_or, or_true, and_self, implies_true, not_true_eq_false, not_false_eq_true, false_implies, true_implies, forall_const, st_aloadx, st_getfieldx, st_iconstx, st_ifCondx, st_iloadx, st_in2, st_ireturnx, kb_Slips_quarrels_0, og_23_1, oo_34, oa_23, oa_34]
  refine ifnb (fun e => ?_) (fun e => ?_)
  · rw [e, if_pos rfl] at K
    obtain ⟨hp, e1, e2, e3⟩ := hpB_nI hD.1.2.1 e
    subst e1
    rw [e3] at K
    simp only [isO_c, ax0, ex_cons, am_get, upz_at, true_and, and_true, Nat.reduceAdd, Nat.reduceLeDiff, Nat.reduceEqDiff, Nat.reduceSub, Int32.reduceOfInt, Int32.reduceAdd, Int32.reduceMul, Int32.reduceSub, ↓reduceIte, Int32.reduceLT, Int32.reduceLE, Int32.reduceToNatClampNeg, Nat.reduceMod, Nat.reduceLT, List.length_cons, List.length_nil, eq_self, true_or, or_true, and_self, implies_true, not_true_eq_false, not_false_eq_true, false_implies, true_implies, forall_const, st_aloadx, st_getfieldx, st_gotox, st_iconstx, st_ifCondx, st_iloadx, st_in1, st_in2, jx_Slips_quarrels_13, kb_Slips_quarrels_13, oo_23, og_23_3, oo_47, oa_23, oa_47]
    refine c_assume hD e2 (fun F1 J1 P t1 s1 q1 => ?_)
    simp only [isO_c, ax0, ex_cons, am_get, upz_at, true_and, and_true, Nat.reduceAdd, Nat.reduceLeDiff, Nat.reduceEqDiff, Nat.reduceSub, Int32.reduceOfInt, Int32.reduceAdd, Int32.reduceMul, Int32.reduceSub, ↓reduceIte, Int32.reduceLT, Int32.reduceLE, Int32.reduceToNatClampNeg, Nat.reduceMod, Nat.reduceLT, List.length_cons, List.length_nil, eq_self, true_or, or_true, and_self, implies_true, not_true_eq_false, not_false_eq_true, false_implies, true_implies, forall_const, st_aloadx, st_getfieldx, st_gotox, st_iconstx, st_ifCondx, st_iloadx, st_in1, st_in2, jx_Slips_quarrels_13, kb_Slips_quarrels_13, oo_23, og_23_3, oo_47, oa_23, oa_47]
    refine c_fits (Or.inl rfl) hb t1 ?_
    have K := K F1 J1 (q1.cf (Or.inl rfl))
    simp only [isO_c, ax0, ex_cons, am_get, upz_at, true_and, and_true, Nat.reduceAdd, Nat.reduceLeDiff, Nat.reduceEqDiff, Nat.reduceSub, Int32.reduceOfInt, Int32.reduceAdd, Int32.reduceMul, Int32.reduceSub, ↓reduceIte, Int32.reduceLT, Int32.reduceLE, Int32.reduceToNatClampNeg, Nat.reduceMod, Nat.reduceLT, List.length_cons, List.length_nil, eq_self, true_or, or_true, and_self, implies_true, not_true_eq_false, not_false_eq_true, false_implies, true_implies, forall_const, st_aloadx, st_getfieldx, st_gotox, st_goto_wx, st_iconstx, st_ifCondx, st_iloadx, st_in1, st_in2, st_ireturnx, jx_Slips_quarrels_13, kb_Slips_quarrels_13, oo_23, og_23_3, oo_47, jx_Slips_quarrels_32, kb_Slips_quarrels_32, jx_Slips_quarrels_33, kb_Slips_quarrels_33, oa_23, oa_47]
    unfold fw
    refine ifb (fun z => ?_) (fun z => ?_)
    · rw [Bool.not_eq_false'] at z
      rw [z] at K; exact K
    · rw [Bool.not_eq_true'] at z
      rw [z] at K; exact K
  · rw [e, if_neg Bool.false_ne_true] at K
    exact K F J Cf.rf
set_option maxRecDepth 20000 in
theorem cp_follows (hb : HB h) {X : kT} (hD : DK h F V 34 X) {x : Int32} (K : ∀ F' J', Cf F F' → Q (some (.int (aFollows X.1 x))) (ov h F' J' V)) : am_cl (d + 5) 22 [.ref 23, .int x] (ov h F J V) Q := by
  unfold aFollows at K
  rcases hD.asked with ⟨ea, ev⟩ | ⟨ea, p, ev, hs⟩
  · rw [ea, Bool.and_false, if_neg Bool.false_ne_true] at K
    simp only [isO_c, ax0, ex_cons, am_get, upz_at, true_and, and_true, Nat.reduceAdd, Nat.reduceLeDiff, Nat.reduceEqDiff, Nat.reduceSub, Int32.reduceOfInt, Int32.reduceAdd, Int32.reduceMul, Int32.reduceSub, ↓reduceIte, Int32.reduceLT, Int32.reduceLE, Int32.reduceToNatClampNeg, Nat.reduceMod, Nat.reduceLT, List.length_cons, List.length_nil, eq_self, true_or, or_true, and_self, implies_true, not_true_eq_false, not_false_eq_true, false_implies, true_implies, forall_const, st_aloadx, st_astorex, st_astore_1x, st_getfieldx, st_goto_wx, st_iconstx, st_ifCondx, st_ifnullx, st_ifnull_1x, st_iloadx, st_in2, st_ireturnx, am_put, am_nlg, kb_Slips_follows_0, og_23_1, og_34_2, oo_34, jx_Slips_follows_23, kb_Slips_follows_23, oa_23, oa_34, cx_Slips_follows, ev]
    exact K F J Cf.rf
  · rw [ea, Bool.and_true] at K
    simp only [isO_c, ax0, ex_cons, am_get, upz_at, true_and, and_true, Nat.reduceAdd, Nat.reduceLeDiff, Nat.reduceEqDiff, Nat.reduceSub, Int32.reduceOfInt, Int32.reduceAdd, Int32.reduceMul, Int32.reduceSub, ↓reduceIte, Int32.reduceLT, Int32.reduceLE, Int32.reduceToNatClampNeg, Nat.reduceMod, Nat.reduceLT, List.length_cons, List.length_nil, eq_self, true_or, or_true, and_self, implies_true, not_true_eq_false, not_false_eq_true, false_implies, true_implies, forall_const, st_aloadx, st_astorex, st_astore_1x, st_getfieldx, st_goto_wx, st_iconstx, st_ifCondx, st_ifnullx, st_ifnull_1x, st_iloadx, st_in2, st_ireturnx, am_put, am_nlg, kb_Slips_follows_0, og_23_1, og_34_2, oo_34, jx_Slips_follows_23, kb_Slips_follows_23, oa_23, oa_34, cx_Slips_follows, ev]
    refine c_hasHeap hD ?_
    simp only [isO_c, ax0, ex_cons, am_get, upz_at, true_and, and_true, Nat.reduceAdd, Nat.reduceLeDiff, Nat.reduceEqDiff, Nat.reduceSub, Int32.reduceOfInt, Int32.reduceAdd, Int32.reduceMul, Int32.reduceSub, ↓reduceIte, Int32.reduceLT, Int32.reduceLE, Int32.reduceToNatClampNeg, Nat.reduceMod, Nat.reduceLT, List.length_cons, List.length_nil, eq_self, true_or, or_true, and_self, implies_true, not_true_eq_false, not_false_eq_true, false_implies, true_implies, forall_const, st_aloadx, st_astorex, st_astore_1x, st_getfieldx, st_goto_wx, st_iconstx, st_ifCondx, st_ifnullx, st_ifnull_1x, st_iloadx, st_in2, st_ireturnx, am_put, am_nlg, kb_Slips_follows_0, og_23_1, og_34_2, oo_34, jx_Slips_follows_23, kb_Slips_follows_23, oa_23, oa_34]
    refine ifnb (fun e => ?_) (fun e => ?_)
    · rw [e, if_pos rfl] at K
      obtain ⟨hp, e1, e2, e3⟩ := hpB_nI hD.1.2.1 e
      subst e1
      rw [e3] at K
      simp only [isO_c, ax0, ex_cons, am_get, upz_at, true_and, and_true, Nat.reduceAdd, Nat.reduceLeDiff, Nat.reduceEqDiff, Nat.reduceSub, Int32.reduceOfInt, Int32.reduceAdd, Int32.reduceMul, Int32.reduceSub, ↓reduceIte, Int32.reduceLT, Int32.reduceLE, Int32.reduceToNatClampNeg, Nat.reduceMod, Nat.reduceLT, List.length_cons, List.length_nil, eq_self, true_or, or_true, and_self, implies_true, not_true_eq_false, not_false_eq_true, false_implies, true_implies, forall_const, st_aloadx, st_getfieldx, st_gotox, st_iconstx, st_ifCondx, st_iloadx, st_in2, st_in3, jx_Slips_follows_25, kb_Slips_follows_25, oo_23, og_23_3, og_23_1, og_34_3, oo_47, oa_23, oa_34, oa_47]
      refine c_assume hD e2 (fun F1 J1 P t1 s1 q1 => ?_)
      have K := K F1 J1 (q1.cf (Or.inl rfl))
      have h343 : F1 34 3 = b2i X.1.2.2.2 := (hD.cf (q1.cf (Or.inl rfl))).2.2.1
      simp only [isO_c, ax0, ex_cons, am_get, upz_at, true_and, and_true, Nat.reduceAdd, Nat.reduceLeDiff, Nat.reduceEqDiff, Nat.reduceSub, Int32.reduceOfInt, Int32.reduceAdd, Int32.reduceMul, Int32.reduceSub, ↓reduceIte, Int32.reduceLT, Int32.reduceLE, Int32.reduceToNatClampNeg, Nat.reduceMod, Nat.reduceLT, List.length_cons, List.length_nil, eq_self, true_or, or_true, and_self, implies_true, not_true_eq_false, not_false_eq_true, false_implies, true_implies, forall_const, st_aloadx, st_getfieldx, st_gotox, st_iconstx, st_ifCondx, st_iloadx, st_in2, st_in3, jx_Slips_follows_25, kb_Slips_follows_25, oo_23, og_23_3, og_23_1, og_34_3, oo_47, oa_23, oa_34, oa_47, h343]
      refine c_canFail (Or.inl rfl) hb t1 hs.cl (clR_ok _) ?_
      simp only [isO_c, ax0, ex_cons, am_get, upz_at, true_and, and_true, Nat.reduceAdd, Nat.reduceLeDiff, Nat.reduceEqDiff, Nat.reduceSub, Int32.reduceOfInt, Int32.reduceAdd, Int32.reduceMul, Int32.reduceSub, ↓reduceIte, Int32.reduceLT, Int32.reduceLE, Int32.reduceToNatClampNeg, Nat.reduceMod, Nat.reduceLT, List.length_cons, List.length_nil, eq_self, true_or, or_true, and_self, implies_true, not_true_eq_false, not_false_eq_true, false_implies, true_implies, forall_const, st_aloadx, st_getfieldx, st_gotox, st_goto_wx, st_iconstx, st_ifCondx, st_iloadx, st_in2, st_in3, st_ireturnx, jx_Slips_follows_25, kb_Slips_follows_25, oo_23, og_23_3, og_23_1, og_34_3, oo_47, jx_Slips_follows_52, kb_Slips_follows_52, jx_Slips_follows_53, kb_Slips_follows_53, oa_23, oa_34, oa_47]
      refine ifb (fun z => ?_) (fun z => ?_)
      · rw [Bool.not_eq_false'] at z
        rw [show fo (hzD X.1 hp) (csD X.1 12) X.1.2.2.2 = true from z] at K; exact K
      · rw [Bool.not_eq_true'] at z
        rw [show fo (hzD X.1 hp) (csD X.1 12) X.1.2.2.2 = false from z] at K; exact K
    · rw [e, if_neg Bool.false_ne_true] at K
      exact K F J Cf.rf
set_option maxRecDepth 20000 in
theorem cp_denied (hb : HB h) {X : kT} (hD : DK h F V 34 X) {x : Int32} (K : ∀ F' J', Cf F F' → Q (some (.int (aDenied X.1 x))) (ov h F' J' V)) : am_cl (d + 5) 23 [.ref 23, .int x] (ov h F J V) Q := by
  unfold aDenied at K
  rcases hD.asked with ⟨ea, ev⟩ | ⟨ea, p, ev, hs⟩
  · rw [ea, Bool.and_false, if_neg Bool.false_ne_true] at K
    simp only [isO_c, ax0, ex_cons, am_get, upz_at, true_and, and_true, Nat.reduceAdd, Nat.reduceLeDiff, Nat.reduceEqDiff, Nat.reduceSub, Int32.reduceOfInt, Int32.reduceAdd, Int32.reduceMul, Int32.reduceSub, ↓reduceIte, Int32.reduceLT, Int32.reduceLE, Int32.reduceToNatClampNeg, Nat.reduceMod, Nat.reduceLT, List.length_cons, List.length_nil, eq_self, true_or, or_true, and_self, implies_true, not_true_eq_false, not_false_eq_true, false_implies, true_implies, forall_const, st_aloadx, st_astorex, st_astore_1x, st_getfieldx, st_goto_wx, st_iconstx, st_ifCondx, st_ifnullx, st_ifnull_1x, st_iloadx, st_in2, st_ireturnx, am_put, am_nlg, kb_Slips_denied_0, og_23_1, og_34_2, oo_34, jx_Slips_denied_23, kb_Slips_denied_23, oa_23, oa_34, cx_Slips_denied, ev]
    exact K F J Cf.rf
  · rw [ea, Bool.and_true] at K
    simp only [isO_c, ax0, ex_cons, am_get, upz_at, true_and, and_true, Nat.reduceAdd, Nat.reduceLeDiff, Nat.reduceEqDiff, Nat.reduceSub, Int32.reduceOfInt, Int32.reduceAdd, Int32.reduceMul, Int32.reduceSub, ↓reduceIte, Int32.reduceLT, Int32.reduceLE, Int32.reduceToNatClampNeg, Nat.reduceMod, Nat.reduceLT, List.length_cons, List.length_nil, eq_self, true_or, or_true, and_self, implies_true, not_true_eq_false, not_false_eq_true, false_implies, true_implies, forall_const, st_aloadx, st_astorex, st_astore_1x, st_getfieldx, st_goto_wx, st_iconstx, st_ifCondx, st_ifnullx, st_ifnull_1x, st_iloadx, st_in2, st_ireturnx, am_put, am_nlg, kb_Slips_denied_0, og_23_1, og_34_2, oo_34, jx_Slips_denied_23, kb_Slips_denied_23, oa_23, oa_34, cx_Slips_denied, ev]
    refine c_hasHeap hD ?_
    simp only [isO_c, ax0, ex_cons, am_get, upz_at, true_and, and_true, Nat.reduceAdd, Nat.reduceLeDiff, Nat.reduceEqDiff, Nat.reduceSub, Int32.reduceOfInt, Int32.reduceAdd, Int32.reduceMul, Int32.reduceSub, ↓reduceIte, Int32.reduceLT, Int32.reduceLE, Int32.reduceToNatClampNeg, Nat.reduceMod, Nat.reduceLT, List.length_cons, List.length_nil, eq_self, true_or, or_true, and_self, implies_true, not_true_eq_false, not_false_eq_true, false_implies, true_implies, forall_const, st_aloadx, st_astorex, st_astore_1x, st_getfieldx, st_goto_wx, st_iconstx, st_ifCondx, st_ifnullx, st_ifnull_1x, st_iloadx, st_in2, st_ireturnx, am_put, am_nlg, kb_Slips_denied_0, og_23_1, og_34_2, oo_34, jx_Slips_denied_23, kb_Slips_denied_23, oa_23, oa_34]
    refine ifnb (fun e => ?_) (fun e => ?_)
    · rw [e, if_pos rfl] at K
      obtain ⟨hp, e1, e2, e3⟩ := hpB_nI hD.1.2.1 e
      subst e1
      rw [e3] at K
      simp only [isO_c, ax0, ex_cons, am_get, upz_at, true_and, and_true, Nat.reduceAdd, Nat.reduceLeDiff, Nat.reduceEqDiff, Nat.reduceSub, Int32.reduceOfInt, Int32.reduceAdd, Int32.reduceMul, Int32.reduceSub, ↓reduceIte, Int32.reduceLT, Int32.reduceLE, Int32.reduceToNatClampNeg, Nat.reduceMod, Nat.reduceLT, List.length_cons, List.length_nil, eq_self, true_or, or_true, and_self, implies_true, not_true_eq_false, not_false_eq_true, false_implies, true_implies, forall_const, st_aloadx, st_getfieldx, st_gotox, st_iconstx, st_ifCondx, st_iloadx, st_in2, st_in3, jx_Slips_denied_25, kb_Slips_denied_25, oo_23, og_23_3, og_23_1, og_34_3, oo_47, oa_23, oa_34, oa_47]
      refine c_assume hD e2 (fun F1 J1 P t1 s1 q1 => ?_)
      have K := K F1 J1 (q1.cf (Or.inl rfl))
      have h343 : F1 34 3 = b2i X.1.2.2.2 := (hD.cf (q1.cf (Or.inl rfl))).2.2.1
      simp only [isO_c, ax0, ex_cons, am_get, upz_at, true_and, and_true, Nat.reduceAdd, Nat.reduceLeDiff, Nat.reduceEqDiff, Nat.reduceSub, Int32.reduceOfInt, Int32.reduceAdd, Int32.reduceMul, Int32.reduceSub, ↓reduceIte, Int32.reduceLT, Int32.reduceLE, Int32.reduceToNatClampNeg, Nat.reduceMod, Nat.reduceLT, List.length_cons, List.length_nil, eq_self, true_or, or_true, and_self, implies_true, not_true_eq_false, not_false_eq_true, false_implies, true_implies, forall_const, st_aloadx, st_getfieldx, st_gotox, st_iconstx, st_ifCondx, st_iloadx, st_in2, st_in3, jx_Slips_denied_25, kb_Slips_denied_25, oo_23, og_23_3, og_23_1, og_34_3, oo_47, oa_23, oa_34, oa_47, h343]
      refine c_canHold (Or.inl rfl) hb t1 hs.cl (clR_ok _) ?_
      unfold chZ
      simp only [isO_c, ax0, ex_cons, am_get, upz_at, true_and, and_true, Nat.reduceAdd, Nat.reduceLeDiff, Nat.reduceEqDiff, Nat.reduceSub, Int32.reduceOfInt, Int32.reduceAdd, Int32.reduceMul, Int32.reduceSub, ↓reduceIte, Int32.reduceLT, Int32.reduceLE, Int32.reduceToNatClampNeg, Nat.reduceMod, Nat.reduceLT, List.length_cons, List.length_nil, eq_self, true_or, or_true, and_self, implies_true, not_true_eq_false, not_false_eq_true, false_implies, true_implies, forall_const, st_aloadx, st_getfieldx, st_gotox, st_goto_wx, st_iconstx, st_ifCondx, st_iloadx, st_in2, st_in3, st_ireturnx, jx_Slips_denied_25, kb_Slips_denied_25, oo_23, og_23_3, og_23_1, og_34_3, oo_47, jx_Slips_denied_52, kb_Slips_denied_52, jx_Slips_denied_53, kb_Slips_denied_53, oa_23, oa_34, oa_47]
      refine ifb (fun z => ?_) (fun z => ?_)
      · rw [Bool.not_eq_false'] at z
        rw [show qz (tellz (hzD X.1 hp) (csD X.1 12) X.1.2.2.2) (fun _ => false) = true from z] at K; exact K
      · rw [Bool.not_eq_true'] at z
        rw [show qz (tellz (hzD X.1 hp) (csD X.1 12) X.1.2.2.2) (fun _ => false) = false from z] at K; exact K
    · rw [e, if_neg Bool.false_ne_true] at K
      exact K F J Cf.rf
set_option maxRecDepth 20000 in
theorem cp_idle (hb : HB h) {X : kT} (hD : DK h F V 34 X) {x : Int32} (K : ∀ F' J', Cf F F' → Q (some (.int (aIdle X.1 x))) (ov h F' J' V)) : am_cl (d + 5) 25 [.ref 23, .int x] (ov h F J V) Q := by
  unfold aIdle at K
  simp only [isO_c, ax0, ex_cons, am_get, upz_at, true_and, and_true, Nat.reduceAdd, Nat.reduceLeDiff, Nat.reduceEqDiff, Nat.reduceSub, Int32.reduceOfInt, Int32.reduceAdd, Int32.reduceMul, Int32.reduceSub, ↓reduceIte, Int32.reduceLT, Int32.reduceLE, Int32.reduceToNatClampNeg, Nat.reduceMod, Nat.reduceLT, List.length_cons, List.length_nil, eq_self, true_or, or_true, and_self, implies_true, not_true_eq_false, not_false_eq_true, false_implies, true_implies, forall_const, st_aloadx, st_getfieldx, st_iconstx, st_ifCondx, st_iloadx, st_in2, st_ireturnx, kb_Slips_idle_0, og_23_1, oo_34, oa_23, oa_34, cx_Slips_idle]
  refine c_hasHeap hD ?_
  simp only [isO_c, ax0, ex_cons, am_get, upz_at, true_and, and_true, Nat.reduceAdd, Nat.reduceLeDiff, Nat.reduceEqDiff, Nat.reduceSub, Int32.reduceOfInt, Int32.reduceAdd, Int32.reduceMul, Int32.reduceSub, ↓reduceIte, Int32.reduceLT, Int32.reduceLE, Int32.reduceToNatClampNeg, Nat.reduceMod, Nat.reduceLT, List.length_cons, List.length_nil, eq_self, true_or, or_true, and_self, implies_true, not_true_eq_false, not_false_eq_true, false_implies, true_implies, forall_const, st_aloadx, st_getfieldx, st_iconstx, st_ifCondx, st_iloadx, st_in2, st_ireturnx, kb_Slips_idle_0, og_23_1, oo_34, oa_23, oa_34]
  refine ifnb (fun e => ?_) (fun e => ?_)
  · rw [e, if_pos rfl] at K
    obtain ⟨hp, e1, e2, e3⟩ := hpB_nI hD.1.2.1 e
    subst e1
    rw [e3] at K
    have h12 := hD.1.2.1
    have hp4 := hp_4096 h12 e2
    simp only [isO_c, ax0, ex_cons, am_get, upz_at, true_and, and_true, Nat.reduceAdd, Nat.reduceLeDiff, Nat.reduceEqDiff, Nat.reduceSub, Int32.reduceOfInt, Int32.reduceAdd, Int32.reduceMul, Int32.reduceSub, ↓reduceIte, Int32.reduceLT, Int32.reduceLE, Int32.reduceToNatClampNeg, Nat.reduceMod, Nat.reduceLT, List.length_cons, List.length_nil, eq_self, true_or, or_true, and_self, implies_true, not_true_eq_false, not_false_eq_true, false_implies, true_implies, forall_const, st_goto_wx, st_iconstx, st_istorex, am_put, am_nlg, jx_Slips_idle_13, kb_Slips_idle_13]
    have key : ∀ j k F1 J1 v4 v5, k + j = X.1.1 → Cf F F1 → am_W kc_Slips_idle (am_cl (d + 4)) Q 17 [.ref 23, .int (nI hp), .int (nI (idl X.1 hp k)), .int (nI k), v4, v5] [] (ov h F1 J1 V) := by
      intro j
      induction j with
      | zero =>
        intro k F1 J1 v4 v5 ek c1
        have ek : k = X.1.1 := ek
        subst ek
        have hD1 := hD.cf c1
        rw [jx_Slips_idle_17]
        simp only [isO_c, ax0, ex_cons, am_get, upz_at, true_and, and_true, Nat.reduceAdd, Nat.reduceLeDiff, Nat.reduceEqDiff, Nat.reduceSub, Int32.reduceOfInt, Int32.reduceAdd, Int32.reduceMul, Int32.reduceSub, ↓reduceIte, Int32.reduceLT, Int32.reduceLE, Int32.reduceToNatClampNeg, Nat.reduceMod, Nat.reduceLT, List.length_cons, List.length_nil, eq_self, true_or, or_true, and_self, implies_true, not_true_eq_false, not_false_eq_true, false_implies, true_implies, forall_const, st_aaloadx, st_aloadx, st_astorex, st_astore_1x, st_getfieldx, st_gotox, st_iandx, st_iconstx, st_ifCondx, st_if_icmpx, st_ifnonnullx, st_ifnonnull_1x, st_iloadx, st_ireturnx, st_ishlx, st_istorex, am_put, am_nlg, kb_Slips_idle_17, og_23_1, og_34_1, og_34_0, jx_Slips_idle_99, kb_Slips_idle_99, oa_23, oa_34, oa_35, or_35, hD1.1.1, (nk_le (by omega) (by omega) : (nI (X.1.1) ≤ nI (X.1.1)) = (X.1.1 ≤ X.1.1)), Nat.le_refl]
        exact K F1 J1 c1
      | succ j ih =>
        intro k F1 J1 v4 v5 ek c1
        have hD1 := hD.cf c1
        obtain ⟨p, hp1, hp2⟩ := hD1.1.2.2 k (by omega)
        have hp1 : V 35 k = .ref p := hp1
        have ih := fun F2 J2 v4 v5 => ih (k + 1) F2 J2 v4 v5 (by omega)
        unfold idl at ih
        rw [jx_Slips_idle_17]
        simp only [isO_c, ax0, ex_cons, am_get, upz_at, true_and, and_true, Nat.reduceAdd, Nat.reduceLeDiff, Nat.reduceEqDiff, Nat.reduceSub, Int32.reduceOfInt, Int32.reduceAdd, Int32.reduceMul, Int32.reduceSub, ↓reduceIte, Int32.reduceLT, Int32.reduceLE, Int32.reduceToNatClampNeg, Nat.reduceMod, Nat.reduceLT, List.length_cons, List.length_nil, eq_self, true_or, or_true, and_self, implies_true, not_true_eq_false, not_false_eq_true, false_implies, true_implies, forall_const, st_aaloadx, st_aloadx, st_astorex, st_astore_1x, st_getfieldx, st_gotox, st_iandx, st_iconstx, st_ifCondx, st_if_icmpx, st_ifnonnullx, st_ifnonnull_1x, st_iincx, st_iloadx, st_ishlx, st_istorex, am_put, am_nlg, kb_Slips_idle_17, og_23_1, og_34_1, og_34_0, jx_Slips_idle_93, kb_Slips_idle_93, oa_23, oa_34, oa_35, or_35, oa_35, or_35, hD1.1.1, (nk_le (by omega) (by omega) : (nI (X.1.1) ≤ nI (k)) = (X.1.1 ≤ k)), show ¬ X.1.1 ≤ k by omega, nk_neg (show k < 2147483648 by omega), nk_cl (show k < 2147483648 by omega), show k < 12 by omega, hp1, nk_1shl (show k < 32 by omega), bit_and (show k < 32 by omega), nk_succ]
        refine And.intro (fun z => ?_) (fun z => ?_)
        · rw [z, Bool.false_and, if_neg Bool.false_ne_true] at ih
          exact ih F1 J1 _ _ c1
        · rw [Bool.not_eq_false] at z
          rw [z, Bool.true_and] at ih
          simp only [isO_c, ax0, ex_cons, am_get, upz_at, true_and, and_true, Nat.reduceAdd, Nat.reduceLeDiff, Nat.reduceEqDiff, Nat.reduceSub, Int32.reduceOfInt, Int32.reduceAdd, Int32.reduceMul, Int32.reduceSub, ↓reduceIte, Int32.reduceLT, Int32.reduceLE, Int32.reduceToNatClampNeg, Nat.reduceMod, Nat.reduceLT, List.length_cons, List.length_nil, eq_self, true_or, or_true, and_self, implies_true, not_true_eq_false, not_false_eq_true, false_implies, true_implies, forall_const, st_aloadx, st_getfieldx, st_goto_wx, st_iandx, st_iconstx, st_ifCondx, st_iloadx, st_in2, st_in3, st_iorx, st_istorex, st_ixorx, am_put, am_nlg, jx_Slips_idle_59, kb_Slips_idle_59, oo_23, og_23_3, og_23_1, og_34_3, oo_47, oa_23, oa_34, oa_47, nk_clr hp4 (show k < 12 by omega)]
          refine c_assume hD1 (hp := clr hp k) (by have := clr_le hp k; omega) (fun F2 J2 P t2 s2 q2 => ?_)
          have c2 := c1.tr (q2.cf (Or.inl rfl))
          have h343 : F2 34 3 = b2i X.1.2.2.2 := (hD.cf c2).2.2.1
          simp only [isO_c, ax0, ex_cons, am_get, upz_at, true_and, and_true, Nat.reduceAdd, Nat.reduceLeDiff, Nat.reduceEqDiff, Nat.reduceSub, Int32.reduceOfInt, Int32.reduceAdd, Int32.reduceMul, Int32.reduceSub, ↓reduceIte, Int32.reduceLT, Int32.reduceLE, Int32.reduceToNatClampNeg, Nat.reduceMod, Nat.reduceLT, List.length_cons, List.length_nil, eq_self, true_or, or_true, and_self, implies_true, not_true_eq_false, not_false_eq_true, false_implies, true_implies, forall_const, st_aloadx, st_getfieldx, st_goto_wx, st_iandx, st_iconstx, st_ifCondx, st_iloadx, st_in2, st_in3, st_iorx, st_istorex, st_ixorx, am_put, am_nlg, jx_Slips_idle_59, kb_Slips_idle_59, oo_23, og_23_3, og_23_1, og_34_3, oo_47, oa_23, oa_34, oa_47, h343]
          refine c_canFail (Or.inl rfl) hb t2 hp2.cl (clR_ok _) ?_
          simp only [isO_c, ax0, ex_cons, am_get, upz_at, true_and, and_true, Nat.reduceAdd, Nat.reduceLeDiff, Nat.reduceEqDiff, Nat.reduceSub, Int32.reduceOfInt, Int32.reduceAdd, Int32.reduceMul, Int32.reduceSub, ↓reduceIte, Int32.reduceLT, Int32.reduceLE, Int32.reduceToNatClampNeg, Nat.reduceMod, Nat.reduceLT, List.length_cons, List.length_nil, eq_self, true_or, or_true, and_self, implies_true, not_true_eq_false, not_false_eq_true, false_implies, true_implies, forall_const, st_aloadx, st_getfieldx, st_gotox, st_goto_wx, st_iandx, st_iconstx, st_ifCondx, st_iincx, st_iloadx, st_in2, st_in3, st_iorx, st_istorex, st_ixorx, am_put, am_nlg, jx_Slips_idle_59, kb_Slips_idle_59, oo_23, og_23_3, og_23_1, og_34_3, oo_47, jx_Slips_idle_93, kb_Slips_idle_93, oa_23, oa_34, oa_47, nk_or, nk_succ]
          refine ifnb (fun w => ?_) (fun w => ?_)
          · rw [Bool.not_eq_true'] at w
            rw [show fo (hzD X.1 (clr hp k)) (csD X.1 k) X.1.2.2.2 = false from w, if_neg Bool.false_ne_true] at ih
            exact ih F2 J2 _ _ c2
          · rw [Bool.not_eq_false'] at w
            rw [show fo (hzD X.1 (clr hp k)) (csD X.1 k) X.1.2.2.2 = true from w, if_pos rfl] at ih
            exact ih F2 J2 _ _ c2
    exact key X.1.1 0 F J _ _ (by omega) Cf.rf
  · rw [e, if_neg Bool.false_ne_true] at K
    exact K F J Cf.rf
end CPB
