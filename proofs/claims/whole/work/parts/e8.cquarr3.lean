/-! ===== the class: quarrels are found; quarrel, calm ===== -/
def CQg (F : Nat → Nat → Int32) (D : dT) (L : Nat) (g : Nat → Int32) : Prop := 2 ^ D.1 ≤ L ∧ (∀ i, i < 2 ^ D.1 → g i = nI (mkQ D i)) ∧ F 61 2 = nI (2 ^ D.1) ∧ F 61 3 = nI (cq D (2 ^ D.1)) ∧ FW (F 63) (mnF (caP D) (2 ^ D.1))
/-- what the class holds of the quarrels, if it holds it -/
def CQf (e h : am_H) (F : Nat → Nat → Int32) (V : Nat → Nat → Value) (D : dT) (q : Nat) : Prop := V 61 1 = .ref q ∧ ∃ L g, Mq e h F 62 1 q L g ∧ (F 61 0 = 0 ∨ F 61 0 = 1 ∧ CQg F D L g)
def Ch (F F' : Nat → Nat → Int32) : Prop := ∀ x, x ≠ 47 → x ≠ 51 → x ≠ 67 → x ≠ 71 → x ≠ 61 → x ≠ 62 → x ≠ 63 → F' x = F x
theorem Ch.rf {F : Nat → Nat → Int32} : Ch F F := fun _ _ _ _ _ _ _ _ => rfl
theorem Ch.tr {F F1 F2 : Nat → Nat → Int32} (a : Ch F F1) (b : Ch F1 F2) : Ch F F2 := fun x h1 h2 h3 h4 h5 h6 h7 => (b x h1 h2 h3 h4 h5 h6 h7).trans (a x h1 h2 h3 h4 h5 h6 h7)
theorem Cf.ch {F F' : Nat → Nat → Int32} (a : Cf F F') : Ch F F' := fun x h1 h2 h3 h4 _ _ _ => a x h1 h2 h3 h4
theorem DK.ch {h : am_H} {F F' : Nat → Nat → Int32} {V V' : Nat → Nat → Value} {X : kT} (hD : DK h F V 34 X) (c : Ch F F') (v : ∀ x, x ≠ 61 → V' x = V x) : DK h F' V' 34 X := hD.cg (fun i _ => by rw [c 34 (by decide) (by decide) (by decide) (by decide) (by decide) (by decide) (by decide)]) (c 37 (by decide) (by decide) (by decide) (by decide) (by decide) (by decide) (by decide)) (v 34 (by decide)) (v 35 (by decide)) (v 36 (by decide))
section CQR
variable {d : Nat} {h : am_H} {F : Nat → Nat → Int32} {J : Nat → Nat → Int64} {V : Nat → Nat → Value} {Q : am_Q}
set_option maxRecDepth 20000 in
theorem c_findQuarrels {e : am_H} (ke : Hk e h) (e2 : e.2 = h.2) (hh : 108 ≤ h.2.1) (hb : HB h) {X : kT} (hD : DK e F V 34 X) {q : Nat} (hQ : CQf e h F V X.1 q) (K : ∀ e' h' F' J' V' q', Gw q' e h e' h' → (q' = q ∨ q' = h.2.1) → h'.2.1 ≤ h.2.1 + 1 → h'.2.2 ≤ h.2.2 + 4096 → (∀ x, x ≠ 61 → V' x = V x) → Ch F F' → F' 61 0 = 1 → CQf e' h' F' V' X.1 q' → Q none (ov h' F' J' V')) : am_cl (d + 4) 32 [.ref 23] (ov h F J V) Q := by
  have hc : rwC 62 1 := Or.inl ⟨rfl, rfl⟩
  have h12 := hD.1.2.1
  have hN4 : 2 ^ X.1.1 ≤ 4096 := Nat.pow_le_pow_right (by decide) h12
  have hN0 : 0 < 2 ^ X.1.1 := Nat.two_pow_pos _
  obtain ⟨hv, L, g, m, z | ⟨z, hg⟩⟩ := id hQ
  · simp only [isO_c, ax0, ex_cons, am_get, upz_at, true_and, and_true, Nat.reduceAdd, Nat.reduceLeDiff, Nat.reduceEqDiff, Nat.reduceSub, Int32.reduceOfInt, Int32.reduceAdd, Int32.reduceMul, Int32.reduceSub, ↓reduceIte, Int32.reduceLT, Int32.reduceLE, Int32.reduceToNatClampNeg, Nat.reduceMod, Nat.reduceLT, List.length_cons, List.length_nil, eq_self, true_or, or_true, and_self, implies_true, not_true_eq_false, not_false_eq_true, false_implies, true_implies, forall_const, st_aloadx, st_getfieldx, st_goto_wx, st_iconstx, st_ifCondx, st_iloadx, st_in1, st_in2, st_ishlx, st_istorex, st_isubx, st_return_x, am_put, am_nlg, kb_Slips_findQuarrels_0, og_23_6, og_61_0, jx_Slips_findQuarrels_11, kb_Slips_findQuarrels_11, og_23_1, og_34_1, oo_61, oo_23, og_23_3, oo_47, oa_23, oa_34, oa_47, oa_61, cx_Slips_findQuarrels, z, hD.1.1, nk_1shl (show X.1.1 < 32 by omega)]
    refine c_qStart ke e2 hh hv m hN4 (fun e1 h1 F1 V1 q1 L1 w1 w2 w3 w4 w5 w6 w7 w8 w9 w10 w11 w12 => ?_)
    simp only [isO_c, ax0, ex_cons, am_get, upz_at, true_and, and_true, Nat.reduceAdd, Nat.reduceLeDiff, Nat.reduceEqDiff, Nat.reduceSub, Int32.reduceOfInt, Int32.reduceAdd, Int32.reduceMul, Int32.reduceSub, ↓reduceIte, Int32.reduceLT, Int32.reduceLE, Int32.reduceToNatClampNeg, Nat.reduceMod, Nat.reduceLT, List.length_cons, List.length_nil, eq_self, true_or, or_true, and_self, implies_true, not_true_eq_false, not_false_eq_true, false_implies, true_implies, forall_const, st_aloadx, st_getfieldx, st_goto_wx, st_iconstx, st_ifCondx, st_iloadx, st_in1, st_in2, st_ishlx, st_istorex, st_isubx, am_put, am_nlg, jx_Slips_findQuarrels_11, kb_Slips_findQuarrels_11, og_23_1, og_34_1, og_23_6, oo_61, oo_23, og_23_3, oo_47, oa_23, oa_34, oa_47, oa_61, show nI (2 ^ X.1.1) - (1 : Int32) = nI (2 ^ X.1.1 - 1) from nk_sub (b := 1) hN0]
    have c1 : Ch F F1 := fun x _ _ _ _ h5 h6 _ => w12 x h5 h6
    have D1 : DK e1 F1 V1 34 X := (hD.hk w1.1).ch c1 w6
    have hb1 : HB h1 := w1.hb (w7.q23 hc) hh hb
    have fin : ∀ h3 F3 J3 g3 v2, Hq q1 h1 h3 → Mq e1 h3 F3 62 1 q1 L1 g3 → (∀ i, i < 2 ^ X.1.1 → g3 i = nI (mkQ X.1 i)) → F3 61 0 = 1 → F3 61 2 = nI (2 ^ X.1.1) → F3 61 3 = nI (cq X.1 (2 ^ X.1.1)) → Ch F1 F3 → am_W kc_Slips_findQuarrels (am_cl (d + 3)) Q 90 [.ref 23, .int (nI (2 ^ X.1.1)), v2] [] (ov h3 F3 J3 V1) := by
      intro h3 F3 J3 g3 v2 x1 x2 x3 x4 x5 x6 x7
      simp only [isO_c, ax0, ex_cons, am_get, upz_at, true_and, and_true, Nat.reduceAdd, Nat.reduceLeDiff, Nat.reduceEqDiff, Nat.reduceSub, Int32.reduceOfInt, Int32.reduceAdd, Int32.reduceMul, Int32.reduceSub, ↓reduceIte, Int32.reduceLT, Int32.reduceLE, Int32.reduceToNatClampNeg, Nat.reduceMod, Nat.reduceLT, List.length_cons, List.length_nil, eq_self, true_or, or_true, and_self, implies_true, not_true_eq_false, not_false_eq_true, false_implies, true_implies, forall_const, st_aloadx, st_getfieldx, st_in1, st_return_x, jx_Slips_findQuarrels_90, kb_Slips_findQuarrels_90, og_23_6, oo_61, oa_23, oa_61]
      refine c_findLeftOut h12 w5 x2 x5 w8 x3 (fun F4 y1 y2 => ?_)
      simp only [isO_c, ax0, ex_cons, am_get, upz_at, true_and, and_true, Nat.reduceAdd, Nat.reduceLeDiff, Nat.reduceEqDiff, Nat.reduceSub, Int32.reduceOfInt, Int32.reduceAdd, Int32.reduceMul, Int32.reduceSub, ↓reduceIte, Int32.reduceLT, Int32.reduceLE, Int32.reduceToNatClampNeg, Nat.reduceMod, Nat.reduceLT, List.length_cons, List.length_nil, eq_self, true_or, or_true, and_self, implies_true, not_true_eq_false, not_false_eq_true, false_implies, true_implies, forall_const, st_aloadx, st_getfieldx, st_in1, st_return_x, jx_Slips_findQuarrels_90, kb_Slips_findQuarrels_90, og_23_6, oo_61, oa_23, oa_61]
      have e61 : F4 61 = F3 61 := y2 61 (by decide)
      refine K e1 h3 F4 J3 V1 q1 (w1.hq x1 (w7.jk hc)) w2 (by rw [x1.1]; exact w3) (by rw [x1.1]; exact w4) w6 ((c1.tr x7).tr (fun x _ _ _ _ _ _ h7 => y2 x h7)) (by rw [e61]; exact x4) ⟨w5, L1, g3, x2.cg (y2 62 (by decide)), Or.inr ⟨by rw [e61]; exact x4, w8, x3, by rw [e61]; exact x5, by rw [e61]; exact x6, y1⟩⟩
    refine c_assume (D1.hk w1.2.1) (by omega) (fun F2 J2 P t2 l2 q2 => ?_)
    have c2 := q2.cf (Or.inl rfl)
    have f61 : F2 61 = F1 61 := c2 61 (by decide) (by decide) (by decide) (by decide)
    have m2 : Mq e1 h1 F2 62 1 q1 L1 (fun _ => 0) := w7.cg (c2 62 (by decide) (by decide) (by decide) (by decide))
    simp only [isO_c, ax0, ex_cons, am_get, upz_at, true_and, and_true, Nat.reduceAdd, Nat.reduceLeDiff, Nat.reduceEqDiff, Nat.reduceSub, Int32.reduceOfInt, Int32.reduceAdd, Int32.reduceMul, Int32.reduceSub, ↓reduceIte, Int32.reduceLT, Int32.reduceLE, Int32.reduceToNatClampNeg, Nat.reduceMod, Nat.reduceLT, List.length_cons, List.length_nil, eq_self, true_or, or_true, and_self, implies_true, not_true_eq_false, not_false_eq_true, false_implies, true_implies, forall_const, st_aloadx, st_getfieldx, st_goto_wx, st_iconstx, st_ifCondx, st_iloadx, st_in1, st_in2, st_ishlx, st_istorex, st_isubx, am_put, am_nlg, jx_Slips_findQuarrels_11, kb_Slips_findQuarrels_11, og_23_1, og_34_1, og_23_6, oo_61, oo_23, og_23_3, oo_47, oa_23, oa_34, oa_47, oa_61]
    refine c_fits (Or.inl rfl) hb1 t2 ?_
    unfold fw
    cases y : qz (hzD X.1 (2 ^ X.1.1 - 1)) (fun _ => false)
    · simp only [isO_c, ax0, ex_cons, am_get, upz_at, true_and, and_true, Nat.reduceAdd, Nat.reduceLeDiff, Nat.reduceEqDiff, Nat.reduceSub, Int32.reduceOfInt, Int32.reduceAdd, Int32.reduceMul, Int32.reduceSub, ↓reduceIte, Int32.reduceLT, Int32.reduceLE, Int32.reduceToNatClampNeg, Nat.reduceMod, Nat.reduceLT, List.length_cons, List.length_nil, eq_self, true_or, or_true, and_self, implies_true, not_true_eq_false, not_false_eq_true, false_implies, true_implies, forall_const, st_aloadx, st_getfieldx, st_goto_wx, st_iconstx, st_ifCondx, st_iloadx, st_in1, st_in2, st_ishlx, st_istorex, st_isubx, am_put, am_nlg, jx_Slips_findQuarrels_11, kb_Slips_findQuarrels_11, og_23_1, og_34_1, og_23_6, oo_61, oo_23, og_23_3, oo_47, oa_23, oa_34, oa_47, oa_61, Bool.not_false, show b2i true = (1 : Int32) from rfl]
      refine fin h1 F2 J2 _ _ Hq.rf m2 (fun i hi => by rw [mkQ_all y hi]; rfl) (by rw [f61]; exact w9) (by rw [f61]; exact w10) ?_ c2.ch
      rw [f61, w11, cq_calm (fun hp hh => mkQ_all y hh) _ (Nat.le_refl _)]
      rfl
    · simp only [isO_c, ax0, ex_cons, am_get, upz_at, true_and, and_true, Nat.reduceAdd, Nat.reduceLeDiff, Nat.reduceEqDiff, Nat.reduceSub, Int32.reduceOfInt, Int32.reduceAdd, Int32.reduceMul, Int32.reduceSub, ↓reduceIte, Int32.reduceLT, Int32.reduceLE, Int32.reduceToNatClampNeg, Nat.reduceMod, Nat.reduceLT, List.length_cons, List.length_nil, eq_self, true_or, or_true, and_self, implies_true, not_true_eq_false, not_false_eq_true, false_implies, true_implies, forall_const, st_aloadx, st_getfieldx, st_goto_wx, st_iconstx, st_ifCondx, st_iloadx, st_in1, st_in2, st_ishlx, st_istorex, st_isubx, am_put, am_nlg, jx_Slips_findQuarrels_11, kb_Slips_findQuarrels_11, og_23_1, og_34_1, og_23_6, oo_61, oo_23, og_23_3, oo_47, oa_23, oa_34, oa_47, oa_61, Bool.not_true, show b2i false = (0 : Int32) from rfl]
      have key : ∀ j k h3 F3 J3 g3, 0 < k → k + j = 2 ^ X.1.1 → Hq q1 h1 h3 → Mq e1 h3 F3 62 1 q1 L1 g3 → (∀ i, i < k → g3 i = nI (mkQ X.1 i)) → F3 61 0 = 1 → F3 61 2 = nI (2 ^ X.1.1) → F3 61 3 = nI (cq X.1 k) → Ch F1 F3 → (∀ i, k ≤ i → g3 i = 0) → am_W kc_Slips_findQuarrels (am_cl (d + 3)) Q 48 [.ref 23, .int (nI (2 ^ X.1.1)), .int (nI k)] [] (ov h3 F3 J3 V1) := by
        intro j
        induction j with
        | zero =>
          intro k h3 F3 J3 g3 hk ek x1 x2 x3 x4 x5 x6 x7 x8
          have ek : k = 2 ^ X.1.1 := ek
          rw [jx_Slips_findQuarrels_48]
          simp only [isO_c, ax0, ex_cons, am_get, upz_at, true_and, and_true, Nat.reduceAdd, Nat.reduceLeDiff, Nat.reduceEqDiff, Nat.reduceSub, Int32.reduceOfInt, Int32.reduceAdd, Int32.reduceMul, Int32.reduceSub, ↓reduceIte, Int32.reduceLT, Int32.reduceLE, Int32.reduceToNatClampNeg, Nat.reduceMod, Nat.reduceLT, List.length_cons, List.length_nil, eq_self, true_or, or_true, and_self, implies_true, not_true_eq_false, not_false_eq_true, false_implies, true_implies, forall_const, st_aloadx, st_getfieldx, st_goto_wx, st_ifCondx, st_if_icmpx, st_iloadx, st_in1, st_in2, st_in3, kb_Slips_findQuarrels_48, og_23_6, oo_61, oo_23, og_23_3, oo_47, oa_23, oa_47, oa_61, (nk_le (by omega) (by omega) : (nI (2 ^ X.1.1) ≤ nI (k)) = (2 ^ X.1.1 ≤ k)), show 2 ^ X.1.1 ≤ k by omega]
          exact fin h3 F3 J3 g3 _ x1 x2 (fun i hi => x3 i (by omega)) x4 x5 (by rw [x6, ek]) x7
        | succ j ih =>
          intro k h3 F3 J3 g3 hk ek x1 x2 x3 x4 x5 x6 x7 x8
          have ih := ih (k + 1)
          rw [cq_S hk] at ih
          rw [jx_Slips_findQuarrels_48]
          simp only [isO_c, ax0, ex_cons, am_get, upz_at, true_and, and_true, Nat.reduceAdd, Nat.reduceLeDiff, Nat.reduceEqDiff, Nat.reduceSub, Int32.reduceOfInt, Int32.reduceAdd, Int32.reduceMul, Int32.reduceSub, ↓reduceIte, Int32.reduceLT, Int32.reduceLE, Int32.reduceToNatClampNeg, Nat.reduceMod, Nat.reduceLT, List.length_cons, List.length_nil, eq_self, true_or, or_true, and_self, implies_true, not_true_eq_false, not_false_eq_true, false_implies, true_implies, forall_const, st_aloadx, st_getfieldx, st_goto_wx, st_ifCondx, st_if_icmpx, st_iloadx, st_in1, st_in2, st_in3, kb_Slips_findQuarrels_48, og_23_6, oo_61, oo_23, og_23_3, oo_47, oa_23, oa_47, oa_61, (nk_le (by omega) (by omega) : (nI (2 ^ X.1.1) ≤ nI (k)) = (2 ^ X.1.1 ≤ k)), show ¬ 2 ^ X.1.1 ≤ k by omega]
          refine c_markByPart w5 x2 x5 w8 hN4 (show k < 2 ^ X.1.1 by omega) (fun h4 F4 y1 y2 y3 y4 => ?_) (fun y1 => ?_)
          · obtain ⟨i, i1, i2, i3⟩ := y1
            have mk1 : mkQ X.1 k = 1 := mkQ_part (by omega) i2 (fun w => i3 (by rw [x3 _ (clr_lt i2), w]; rfl))
            have lq0 : lq X.1 k = false := by
              cases w : lq X.1 k
              · rfl
              · rw [mkQ_2.mpr w] at mk1; cases mk1
            rw [lq0, if_neg Bool.false_ne_true] at ih
            have f61 : F4 61 = F3 61 := y3 61 (by decide)
            simp only [isO_c, ax0, ex_cons, am_get, upz_at, true_and, and_true, Nat.reduceAdd, Nat.reduceLeDiff, Nat.reduceEqDiff, Nat.reduceSub, Int32.reduceOfInt, Int32.reduceAdd, Int32.reduceMul, Int32.reduceSub, ↓reduceIte, Int32.reduceLT, Int32.reduceLE, Int32.reduceToNatClampNeg, Nat.reduceMod, Nat.reduceLT, List.length_cons, List.length_nil, eq_self, true_or, or_true, and_self, implies_true, not_true_eq_false, not_false_eq_true, false_implies, true_implies, forall_const, st_aloadx, st_getfieldx, st_gotox, st_goto_wx, st_ifCondx, st_if_icmpx, st_iincx, st_iloadx, st_in1, st_in2, st_in3, am_put, am_nlg, kb_Slips_findQuarrels_48, og_23_6, oo_61, oo_23, og_23_3, oo_47, jx_Slips_findQuarrels_84, kb_Slips_findQuarrels_84, oa_23, oa_47, oa_61, nk_succ]
            refine ih h4 F4 J3 _ (by omega) (by omega) (x1.tr y2) y4 (fun i hi => ?_) (by rw [f61]; exact x4) (by rw [f61]; exact x5) (by rw [f61]; exact x6) (x7.tr (fun x _ _ _ _ _ h6 _ => y3 x h6)) (fun i hi => by rw [upz_ne _ _ (by omega)]; exact x8 i (by omega))
            by_cases w : i = k
            · rw [w, upz_eq, mk1]; rfl
            · rw [upz_ne _ _ w]; exact x3 i (by omega)
          · obtain ⟨mk1, lq1⟩ := mkQ_none (D := X.1) (hp := k) (fun i hi hb => by
              have := y1 i (by omega) hb
              rw [x3 _ (clr_lt hb)] at this
              have l := mkQ_le (D := X.1) (hp := clr k i)
              have this : nI (mkQ X.1 (clr k i)) = nI 0 := this
              rw [nk_eq (by omega) (by decide)] at this
              exact this)
            simp only [isO_c, ax0, ex_cons, am_get, upz_at, true_and, and_true, Nat.reduceAdd, Nat.reduceLeDiff, Nat.reduceEqDiff, Nat.reduceSub, Int32.reduceOfInt, Int32.reduceAdd, Int32.reduceMul, Int32.reduceSub, ↓reduceIte, Int32.reduceLT, Int32.reduceLE, Int32.reduceToNatClampNeg, Nat.reduceMod, Nat.reduceLT, List.length_cons, List.length_nil, eq_self, true_or, or_true, and_self, implies_true, not_true_eq_false, not_false_eq_true, false_implies, true_implies, forall_const, st_aloadx, st_getfieldx, st_goto_wx, st_ifCondx, st_if_icmpx, st_iloadx, st_in1, st_in2, st_in3, kb_Slips_findQuarrels_48, og_23_6, oo_61, oo_23, og_23_3, oo_47, oa_23, oa_47, oa_61]
            have D3 : DK h3 F3 V1 34 X := (D1.hk (w1.2.1.hq x1 (w7.jk hc))).ch x7 (fun _ _ => rfl)
            refine c_assume D3 (show k < 2 ^ X.1.1 by omega) (fun F4 J4 P4 t4 l4 q4 => ?_)
            have c4 := q4.cf (Or.inl rfl)
            have g61 : F4 61 = F3 61 := c4 61 (by decide) (by decide) (by decide) (by decide)
            have m4 : Mq e1 h3 F4 62 1 q1 L1 g3 := x2.cg (c4 62 (by decide) (by decide) (by decide) (by decide))
            simp only [isO_c, ax0, ex_cons, am_get, upz_at, true_and, and_true, Nat.reduceAdd, Nat.reduceLeDiff, Nat.reduceEqDiff, Nat.reduceSub, Int32.reduceOfInt, Int32.reduceAdd, Int32.reduceMul, Int32.reduceSub, ↓reduceIte, Int32.reduceLT, Int32.reduceLE, Int32.reduceToNatClampNeg, Nat.reduceMod, Nat.reduceLT, List.length_cons, List.length_nil, eq_self, true_or, or_true, and_self, implies_true, not_true_eq_false, not_false_eq_true, false_implies, true_implies, forall_const, st_aloadx, st_getfieldx, st_goto_wx, st_ifCondx, st_if_icmpx, st_iloadx, st_in1, st_in2, st_in3, kb_Slips_findQuarrels_48, og_23_6, oo_61, oo_23, og_23_3, oo_47, oa_23, oa_47, oa_61]
            refine c_fits (Or.inl rfl) (hb1.hq x1 (w7.q23 hc)) t4 ?_
            unfold fw
            simp only [isO_c, ax0, ex_cons, am_get, upz_at, true_and, and_true, Nat.reduceAdd, Nat.reduceLeDiff, Nat.reduceEqDiff, Nat.reduceSub, Int32.reduceOfInt, Int32.reduceAdd, Int32.reduceMul, Int32.reduceSub, ↓reduceIte, Int32.reduceLT, Int32.reduceLE, Int32.reduceToNatClampNeg, Nat.reduceMod, Nat.reduceLT, List.length_cons, List.length_nil, eq_self, true_or, or_true, and_self, implies_true, not_true_eq_false, not_false_eq_true, false_implies, true_implies, forall_const, st_aloadx, st_getfieldx, st_goto_wx, st_ifCondx, st_if_icmpx, st_iloadx, st_in1, st_in2, st_in3, kb_Slips_findQuarrels_48, og_23_6, oo_61, oo_23, og_23_3, oo_47, oa_23, oa_47, oa_61]
            refine c_mark w5 m4 (by rw [g61]; exact x5) w8 hN4 (show k < 2 ^ X.1.1 by omega) (fun h5 F5 y5 y6 y7 y8 y9 y10 => ?_) (fun y5 => ?_)
            · rw [Bool.not_eq_false'] at y5
              rw [y5, if_pos rfl] at mk1
              rw [lq1, y5, if_pos rfl] at ih
              simp only [isO_c, ax0, ex_cons, am_get, upz_at, true_and, and_true, Nat.reduceAdd, Nat.reduceLeDiff, Nat.reduceEqDiff, Nat.reduceSub, Int32.reduceOfInt, Int32.reduceAdd, Int32.reduceMul, Int32.reduceSub, ↓reduceIte, Int32.reduceLT, Int32.reduceLE, Int32.reduceToNatClampNeg, Nat.reduceMod, Nat.reduceLT, List.length_cons, List.length_nil, eq_self, true_or, or_true, and_self, implies_true, not_true_eq_false, not_false_eq_true, false_implies, true_implies, forall_const, st_aloadx, st_getfieldx, st_gotox, st_goto_wx, st_ifCondx, st_if_icmpx, st_iincx, st_iloadx, st_in1, st_in2, st_in3, am_put, am_nlg, kb_Slips_findQuarrels_48, og_23_6, oo_61, oo_23, og_23_3, oo_47, jx_Slips_findQuarrels_84, kb_Slips_findQuarrels_84, oa_23, oa_47, oa_61, nk_succ]
              refine ih h5 F5 J4 _ (by omega) (by omega) (x1.tr y6) y10 (fun i hi => ?_) (by rw [y8 0 (by decide), g61]; exact x4) (by rw [y8 2 (by decide), g61]; exact x5) (by rw [y9, g61, x6, nk_succ]) ((x7.tr c4.ch).tr (fun x _ _ _ _ h5 h6 _ => y7 x h5 h6)) (fun i hi => by rw [upz_ne _ _ (by omega)]; exact x8 i (by omega))
              by_cases w : i = k
              · rw [w, upz_eq, mk1]; rfl
              · rw [upz_ne _ _ w]; exact x3 i (by omega)
            · rw [Bool.not_eq_true'] at y5
              rw [y5, if_neg Bool.false_ne_true] at mk1
              rw [lq1, y5, if_neg Bool.false_ne_true] at ih
              simp only [isO_c, ax0, ex_cons, am_get, upz_at, true_and, and_true, Nat.reduceAdd, Nat.reduceLeDiff, Nat.reduceEqDiff, Nat.reduceSub, Int32.reduceOfInt, Int32.reduceAdd, Int32.reduceMul, Int32.reduceSub, ↓reduceIte, Int32.reduceLT, Int32.reduceLE, Int32.reduceToNatClampNeg, Nat.reduceMod, Nat.reduceLT, List.length_cons, List.length_nil, eq_self, true_or, or_true, and_self, implies_true, not_true_eq_false, not_false_eq_true, false_implies, true_implies, forall_const, st_aloadx, st_getfieldx, st_gotox, st_goto_wx, st_ifCondx, st_if_icmpx, st_iincx, st_iloadx, st_in1, st_in2, st_in3, am_put, am_nlg, kb_Slips_findQuarrels_48, og_23_6, oo_61, oo_23, og_23_3, oo_47, jx_Slips_findQuarrels_84, kb_Slips_findQuarrels_84, oa_23, oa_47, oa_61, nk_succ]
              refine ih h3 F4 J4 g3 (by omega) (by omega) x1 m4 (fun i hi => ?_) (by rw [g61]; exact x4) (by rw [g61]; exact x5) (by rw [g61]; exact x6) (x7.tr c4.ch) (fun i hi => x8 i (by omega))
              by_cases w : i = k
              · rw [w, x8 k (Nat.le_refl _), mk1]; rfl
              · exact x3 i (by omega)
      exact key (2 ^ X.1.1 - 1) 1 h1 F2 J2 (fun _ => 0) (by decide) (by omega) Hq.rf m2 (fun i hi => by rw [show i = 0 by omega, mkQ_z]; rfl) (by rw [f61]; exact w9) (by rw [f61]; exact w10) (by rw [f61, w11, cq_1]; rfl) c2.ch (fun _ _ => rfl)
  · simp only [isO_c, ax0, ex_cons, am_get, upz_at, true_and, and_true, Nat.reduceAdd, Nat.reduceLeDiff, Nat.reduceEqDiff, Nat.reduceSub, Int32.reduceOfInt, Int32.reduceAdd, Int32.reduceMul, Int32.reduceSub, ↓reduceIte, Int32.reduceLT, Int32.reduceLE, Int32.reduceToNatClampNeg, Nat.reduceMod, Nat.reduceLT, List.length_cons, List.length_nil, eq_self, true_or, or_true, and_self, implies_true, not_true_eq_false, not_false_eq_true, false_implies, true_implies, forall_const, st_aloadx, st_getfieldx, st_ifCondx, st_return_x, kb_Slips_findQuarrels_0, og_23_6, og_61_0, oa_23, oa_61, cx_Slips_findQuarrels, z]
    exact K e h F J V q (Gw.rf ke e2) (Or.inl rfl) (Nat.le_succ _) (Nat.le_add_right _ _) (fun _ _ => rfl) Ch.rf z hQ
set_option maxRecDepth 20000 in
theorem cp_quarrel {e : am_H} (ke : Hk e h) (e2 : e.2 = h.2) (hh : 108 ≤ h.2.1) (hb : HB h) {X : kT} (hD : DK e F V 34 X) {q : Nat} (hQ : CQf e h F V X.1 q) {x : Int32} (K : ∀ e' h' F' J' V' q', Gw q' e h e' h' → (q' = q ∨ q' = h.2.1) → h'.2.1 ≤ h.2.1 + 1 → h'.2.2 ≤ h.2.2 + 4096 → (∀ x, x ≠ 61 → V' x = V x) → Ch F F' → CQf e' h' F' V' X.1 q' → Q (some (.int (aQuarrel X.1 x))) (ov h' F' J' V')) : am_cl (d + 5) 30 [.ref 23, .int x] (ov h F J V) Q := by
  have h12 := hD.1.2.1
  have hN0 : 0 < 2 ^ X.1.1 := Nat.two_pow_pos _
  simp only [isO_c, ax0, ex_cons, am_get, upz_at, true_and, and_true, Nat.reduceAdd, Nat.reduceLeDiff, Nat.reduceEqDiff, Nat.reduceSub, Int32.reduceOfInt, Int32.reduceAdd, Int32.reduceMul, Int32.reduceSub, ↓reduceIte, Int32.reduceLT, Int32.reduceLE, Int32.reduceToNatClampNeg, Nat.reduceMod, Nat.reduceLT, List.length_cons, List.length_nil, eq_self, true_or, or_true, and_self, implies_true, not_true_eq_false, not_false_eq_true, false_implies, true_implies, forall_const, st_aloadx, st_getfieldx, st_gotox, st_iconstx, st_if_icmpx, st_iloadx, st_in1, kb_Slips_quarrel_0, oo_23, og_23_6, og_61_3, oa_23, oa_61, cx_Slips_quarrel]
  refine c_findQuarrels ke e2 hh hb hD hQ (fun e1 h1 F1 J1 V1 q1 w1 w2 w3 w4 w5 w6 w7 w8 => ?_)
  have K := K e1 h1 F1 J1 V1 q1 w1 w2 w3 w4 w5 w6 w8
  obtain ⟨v1, L, g, m, z | ⟨_, g1, g2, g3, g4, g5⟩⟩ := w8
  · rw [w7] at z; exact absurd z (by decide)
  simp only [isO_c, ax0, ex_cons, am_get, upz_at, true_and, and_true, Nat.reduceAdd, Nat.reduceLeDiff, Nat.reduceEqDiff, Nat.reduceSub, Int32.reduceOfInt, Int32.reduceAdd, Int32.reduceMul, Int32.reduceSub, ↓reduceIte, Int32.reduceLT, Int32.reduceLE, Int32.reduceToNatClampNeg, Nat.reduceMod, Nat.reduceLT, List.length_cons, List.length_nil, eq_self, true_or, or_true, and_self, implies_true, not_true_eq_false, not_false_eq_true, false_implies, true_implies, forall_const, st_aloadx, st_getfieldx, st_gotox, st_goto_wx, st_iconstx, st_if_icmpx, st_iloadx, st_in1, st_in2, st_ireturnx, kb_Slips_quarrel_0, oo_23, og_23_6, og_61_3, jx_Slips_quarrel_19, kb_Slips_quarrel_19, oo_61, jx_Slips_quarrel_27, kb_Slips_quarrel_27, oa_23, oa_61, g4]
  refine And.intro (fun w => ?_) (fun w => ?_)
  · refine c_leastAt h12 v1 m g3 g4 g1 g2 w ?_
    simp only [isO_c, ax0, ex_cons, am_get, upz_at, true_and, and_true, Nat.reduceAdd, Nat.reduceLeDiff, Nat.reduceEqDiff, Nat.reduceSub, Int32.reduceOfInt, Int32.reduceAdd, Int32.reduceMul, Int32.reduceSub, ↓reduceIte, Int32.reduceLT, Int32.reduceLE, Int32.reduceToNatClampNeg, Nat.reduceMod, Nat.reduceLT, List.length_cons, List.length_nil, eq_self, true_or, or_true, and_self, implies_true, not_true_eq_false, not_false_eq_true, false_implies, true_implies, forall_const, st_aloadx, st_getfieldx, st_goto_wx, st_iloadx, st_in2, st_ireturnx, jx_Slips_quarrel_19, kb_Slips_quarrel_19, og_23_6, oo_61, jx_Slips_quarrel_27, kb_Slips_quarrel_27, oa_23, oa_61]
    exact K
  · have w := Classical.not_not.mp w
    subst w
    have e1 : ∀ j k, k + j = 2 ^ X.1.1 → qrF X.1 (-1) j k = nI (cq X.1 (2 ^ X.1.1)) := by
      intro j
      induction j with
      | zero => intro k ek; show (if (-1 : Int32) = -1 then nI (cq X.1 k) else -1) = _; rw [if_pos rfl, show k = 2 ^ X.1.1 from ek]
      | succ j ih =>
        intro k ek
        have c1 : cq X.1 k ≤ k := cq_le
        have hN4 : 2 ^ X.1.1 ≤ 4096 := Nat.pow_le_pow_right (by decide) h12
        show (if lq X.1 k && decide (nI (cq X.1 k) = -1) then nI k else qrF X.1 (-1) j (k + 1)) = _
        rw [decide_eq_false (by rw [nI_neg1 (by omega)]; exact id), Bool.and_false, if_neg Bool.false_ne_true]
        exact ih (k + 1) (by omega)
    have e3 : aQuarrel X.1 (-1) = nI (cq X.1 (2 ^ X.1.1)) := by
      unfold aQuarrel
      rw [if_neg (by decide)]
      exact e1 _ _ (by omega)
    rw [e3] at K
    exact K
set_option maxRecDepth 20000 in
theorem cp_calm {e : am_H} (ke : Hk e h) (e2 : e.2 = h.2) (hh : 108 ≤ h.2.1) (hb : HB h) {X : kT} (hD : DK e F V 34 X) {q : Nat} (hQ : CQf e h F V X.1 q) {x : Int32} (K : ∀ e' h' F' J' V' q', Gw q' e h e' h' → (q' = q ∨ q' = h.2.1) → h'.2.1 ≤ h.2.1 + 1 → h'.2.2 ≤ h.2.2 + 4096 → (∀ x, x ≠ 61 → V' x = V x) → Ch F F' → CQf e' h' F' V' X.1 q' → Q (some (.int (aCalm X.1 x))) (ov h' F' J' V')) : am_cl (d + 5) 31 [.ref 23, .int x] (ov h F J V) Q := by
  simp only [isO_c, ax0, ex_cons, am_get, upz_at, true_and, and_true, Nat.reduceAdd, Nat.reduceLeDiff, Nat.reduceEqDiff, Nat.reduceSub, Int32.reduceOfInt, Int32.reduceAdd, Int32.reduceMul, Int32.reduceSub, ↓reduceIte, Int32.reduceLT, Int32.reduceLE, Int32.reduceToNatClampNeg, Nat.reduceMod, Nat.reduceLT, List.length_cons, List.length_nil, eq_self, true_or, or_true, and_self, implies_true, not_true_eq_false, not_false_eq_true, false_implies, true_implies, forall_const, st_aloadx, st_getfieldx, st_iloadx, st_in1, st_in2, st_ireturnx, kb_Slips_calm_0, oo_23, og_23_6, og_61_4, oa_23, oa_61, cx_Slips_calm]
  refine c_findQuarrels ke e2 hh hb hD hQ (fun e1 h1 F1 J1 V1 q1 w1 w2 w3 w4 w5 w6 w7 w8 => ?_)
  have K := K e1 h1 F1 J1 V1 q1 w1 w2 w3 w4 w5 w6 w8
  obtain ⟨v1, L, g, m, z | ⟨_, g1, g2, g3, g4, g5⟩⟩ := w8
  · rw [w7] at z; exact absurd z (by decide)
  simp only [isO_c, ax0, ex_cons, am_get, upz_at, true_and, and_true, Nat.reduceAdd, Nat.reduceLeDiff, Nat.reduceEqDiff, Nat.reduceSub, Int32.reduceOfInt, Int32.reduceAdd, Int32.reduceMul, Int32.reduceSub, ↓reduceIte, Int32.reduceLT, Int32.reduceLE, Int32.reduceToNatClampNeg, Nat.reduceMod, Nat.reduceLT, List.length_cons, List.length_nil, eq_self, true_or, or_true, and_self, implies_true, not_true_eq_false, not_false_eq_true, false_implies, true_implies, forall_const, st_aloadx, st_getfieldx, st_iloadx, st_in1, st_in2, st_ireturnx, kb_Slips_calm_0, oo_23, og_23_6, og_61_4, oo_63, oa_23, oa_61, oa_63]
  refine c_fwTell (Or.inl rfl) g5 ?_
  simp only [isO_c, ax0, ex_cons, am_get, upz_at, true_and, and_true, Nat.reduceAdd, Nat.reduceLeDiff, Nat.reduceEqDiff, Nat.reduceSub, Int32.reduceOfInt, Int32.reduceAdd, Int32.reduceMul, Int32.reduceSub, ↓reduceIte, Int32.reduceLT, Int32.reduceLE, Int32.reduceToNatClampNeg, Nat.reduceMod, Nat.reduceLT, List.length_cons, List.length_nil, eq_self, true_or, or_true, and_self, implies_true, not_true_eq_false, not_false_eq_true, false_implies, true_implies, forall_const, st_aloadx, st_getfieldx, st_iloadx, st_in1, st_in2, st_ireturnx, kb_Slips_calm_0, oo_23, og_23_6, og_61_4, oo_63, oa_23, oa_61, oa_63]
  unfold aCalm at K
  rw [caO_leO]
  exact K
end CQR
