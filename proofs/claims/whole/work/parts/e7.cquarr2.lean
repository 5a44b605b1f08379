/-! ===== the class: what must be left out; the i-th least quarrel ===== -/
theorem mnF_1 {p : Nat → Bool} : ∀ {n : Nat}, (mnF p n).1 = none → ∀ k, k < n → p k = false
  | 0, _, k, hk => absurd hk (Nat.not_lt_zero k)
  | n + 1, h, k, hk => by
    cases e : (mnF p n).1 with
    | none =>
      have ih := mnF_1 e
      have pn : p n = false := by
        cases z : p n
        · rfl
        · rw [mn_n1 e z] at h; cases h
      by_cases w : k = n
      · rw [w]; exact pn
      · exact ih k (by omega)
    | some b =>
      exfalso
      by_cases w : pop b < pop n
      · rw [mn_gt e w, e] at h; cases h
      · cases z : p n
        · rw [mn_no z, e] at h; cases h
        · by_cases y : pop n < pop b
          · rw [mn_lt e w z y] at h; cases h
          · rw [mn_eq e w z y] at h; cases h
theorem caP_full {D : dT} : caP D (2 ^ D.1 - 1) = true := by
  have h0 : 0 < 2 ^ D.1 := Nat.two_pow_pos _
  unfold caP cpl
  rw [show 2 ^ D.1 - (2 ^ D.1 - 1 + 1) = 0 by omega]
  unfold hzD
  rw [hz_0, qz_tE]
  rfl
theorem caO_leO {D : dT} (x : Int32) : leO (mnF (caP D) (2 ^ D.1)) x = caO (mnF (caP D) (2 ^ D.1)) x := by
  have h0 : 0 < 2 ^ D.1 := Nat.two_pow_pos _
  cases e : (mnF (caP D) (2 ^ D.1)).1 with
  | none =>
    have := mnF_1 e (2 ^ D.1 - 1) (by omega)
    rw [caP_full] at this; cases this
  | some b =>
    unfold leO caO
    rw [e]
    dsimp only
    rw [oI_some]
    unfold onI
    rw [pop_nI]
    by_cases x0 : x = 0
    · subst x0; rfl
    · by_cases x1 : x = 1
      · subst x1; rfl
      · rw [if_neg x1, if_neg x0, if_neg x0, if_neg x1]
theorem caP_mk {D : dT} {k : Nat} : (mkQ D (cpl D.1 k) = 0) ↔ caP D k = true := by
  rw [mkQ_0]
  unfold caP
  rw [Bool.not_eq_true']
theorem cq_mono {D : dT} {a b : Nat} (h : a ≤ b) : cq D a ≤ cq D b := by
  unfold cq
  rw [show b = a + (b - a) by omega, cn_add]
  omega
theorem qrF_none {D : dT} {k N : Nat} (hk : k < 2147483648) (h : cq D N ≤ k) (hN : N ≤ 4096) : ∀ j m, 0 < m → m + j = N → qrF D (nI k) j m = -1
  | 0, m, _, _ => by
    show (if nI k = -1 then _ else (-1 : Int32)) = -1
    rw [if_neg (by rw [nI_neg1 hk]; exact id)]
  | j + 1, m, hm, e => by
    show (if lq D m && decide (nI (cq D m) = nI k) then _ else qrF D (nI k) j (m + 1)) = -1
    have c1 : cq D m ≤ m := cq_le
    cases z : lq D m
    · rw [Bool.false_and, if_neg Bool.false_ne_true]
      exact qrF_none hk h hN j (m + 1) (by omega) (by omega)
    · have c2 := cq_S (D := D) hm
      rw [z, if_pos rfl] at c2
      have c3 := cq_mono (D := D) (show m + 1 ≤ N by omega)
      rw [Bool.true_and, decide_eq_false (by rw [nk_eq (by omega) hk]; omega), if_neg Bool.false_ne_true]
      exact qrF_none hk h hN j (m + 1) (by omega) (by omega)
section CQL
variable {d : Nat} {h : am_H} {F : Nat → Nat → Int32} {J : Nat → Nat → Int64} {V : Nat → Nat → Value} {Q : am_Q}
set_option maxRecDepth 20000 in
theorem c_flIn {e : am_H} {q L s : Nat} {g : Nat → Int32} {D : dT} (h12 : D.1 ≤ 12) (hv : V 61 1 = .ref q) (m : Mq e h F 62 1 q L g) (h2 : F 61 2 = nI (2 ^ D.1)) (hN : 2 ^ D.1 ≤ L) (hg : ∀ i, i < 2 ^ D.1 → g i = nI (mkQ D i)) (hs : s < 4096) (K : ∀ F', FW (F' 63) (fwF (caP D) s (2 ^ D.1)) → (∀ x, x ≠ 63 → F' x = F x) → am_W kc_Quarrels_findLeftOut (am_cl (d + 1)) Q 74 [.ref 61, .int (nI s), .int (nI (2 ^ D.1))] [] (ov h F' J V)) : ∀ j k F1, k + j = 2 ^ D.1 → FW (F1 63) (fwF (caP D) s k) → (∀ x, x ≠ 63 → F1 x = F x) → am_W kc_Quarrels_findLeftOut (am_cl (d + 1)) Q 27 [.ref 61, .int (nI s), .int (nI k)] [] (ov h F1 J V) := by
  have hc : rwC 62 1 := Or.inl ⟨rfl, rfl⟩
  have hL := m.1
  have hN4 : 2 ^ D.1 ≤ 4096 := Nat.pow_le_pow_right (by decide) h12
  have hN0 : 0 < 2 ^ D.1 := Nat.two_pow_pos _
  intro j
  induction j with
  | zero =>
    intro k F1 ek w1 c1
    have ek : k = 2 ^ D.1 := ek
    have f61 : F1 61 2 = nI (2 ^ D.1) := by rw [c1 61 (by decide)]; exact h2
    rw [← ek] at K
    rw [ek] at w1
    rw [jx_Quarrels_findLeftOut_27]
    simp only [isO_c, ax0, ex_cons, am_get, upz_at, true_and, and_true, Nat.reduceAdd, Nat.reduceLeDiff, Nat.reduceEqDiff, Nat.reduceSub, Int32.reduceOfInt, Int32.reduceAdd, Int32.reduceMul, Int32.reduceSub, ↓reduceIte, Int32.reduceLT, Int32.reduceLE, Int32.reduceToNatClampNeg, Nat.reduceMod, Nat.reduceLT, List.length_cons, List.length_nil, eq_self, true_or, or_true, and_self, implies_true, not_true_eq_false, not_false_eq_true, false_implies, true_implies, forall_const, st_aloadx, st_baloadx, st_getfieldx, st_goto_wx, st_iconstx, st_ifCondx, st_if_icmpx, st_iloadx, st_in3, st_st1, st_isubx, kb_Quarrels_findLeftOut_27, og_61_2, og_61_1, og_61_4, oo_63, oa_61, oa_63, f61, (nk_le (by omega) (by omega) : (nI (2 ^ D.1) ≤ nI (k)) = (2 ^ D.1 ≤ k)), show 2 ^ D.1 ≤ k by omega]
    exact K F1 (by rw [ek]; exact w1) c1
  | succ j ih =>
    intro k F1 ek w1 c1
    have ih := ih (k + 1)
    rw [fwF_A] at ih
    have f61 : F1 61 2 = nI (2 ^ D.1) := by rw [c1 61 (by decide)]; exact h2
    have m1 : Mq e h F1 62 1 q L g := m.cg (c1 62 (by decide))
    have e1 : nI (2 ^ D.1) - (1 : Int32) = nI (2 ^ D.1 - 1) := nk_sub (b := 1) hN0
    have e2 : nI (2 ^ D.1 - 1) - nI k = nI (cpl D.1 k) := by
      rw [nk_sub (by omega)]
      unfold cpl
      congr 1
      omega
    have hcp : cpl D.1 k < 2 ^ D.1 := by unfold cpl; omega
    rw [jx_Quarrels_findLeftOut_27]
    simp only [isO_c, ax0, ex_cons, am_get, upz_at, true_and, and_true, Nat.reduceAdd, Nat.reduceLeDiff, Nat.reduceEqDiff, Nat.reduceSub, Int32.reduceOfInt, Int32.reduceAdd, Int32.reduceMul, Int32.reduceSub, ↓reduceIte, Int32.reduceLT, Int32.reduceLE, Int32.reduceToNatClampNeg, Nat.reduceMod, Nat.reduceLT, List.length_cons, List.length_nil, eq_self, true_or, or_true, and_self, implies_true, not_true_eq_false, not_false_eq_true, false_implies, true_implies, forall_const, st_aloadx, st_baloadx, st_getfieldx, st_goto_wx, st_iconstx, st_ifCondx, st_if_icmpx, st_iloadx, st_in3, st_st1, st_isubx, kb_Quarrels_findLeftOut_27, og_61_2, og_61_1, og_61_4, oo_63, oa_61, oa_63, f61, (nk_le (by omega) (by omega) : (nI (2 ^ D.1) ≤ nI (k)) = (2 ^ D.1 ≤ k)), show ¬ 2 ^ D.1 ≤ k by omega]
    refine c_bitCountI (show k < 4096 by omega) ?_
    simp only [isO_c, ax0, ex_cons, am_get, upz_at, true_and, and_true, Nat.reduceAdd, Nat.reduceLeDiff, Nat.reduceEqDiff, Nat.reduceSub, Int32.reduceOfInt, Int32.reduceAdd, Int32.reduceMul, Int32.reduceSub, ↓reduceIte, Int32.reduceLT, Int32.reduceLE, Int32.reduceToNatClampNeg, Nat.reduceMod, Nat.reduceLT, List.length_cons, List.length_nil, eq_self, true_or, or_true, and_self, implies_true, not_true_eq_false, not_false_eq_true, false_implies, true_implies, forall_const, st_aloadx, st_baloadx, st_getfieldx, st_gotox, st_goto_wx, st_iconstx, st_ifCondx, st_if_icmpx, st_iincx, st_iloadx, st_in3, st_st1, st_isubx, am_put, am_nlg, kb_Quarrels_findLeftOut_27, og_61_2, og_61_1, og_61_4, oo_63, jx_Quarrels_findLeftOut_68, kb_Quarrels_findLeftOut_68, oa_61, oa_63, f61, hv, e1, e2, nk_succ]
    refine And.intro (fun w => ?_) (fun w => ?_)
    · have w : ¬ pop k = s := fun z => w (by rw [z])
      rw [decide_eq_false w, Bool.false_and, if_neg Bool.false_ne_true] at ih
      exact ih F1 (by omega) w1 c1
    · have w : pop k = s := by
        have w := Classical.not_not.mp w
        have w := congrArg Int32.toInt w
        have := pop_le k
        rw [nk_toInt (by omega), nk_toInt (by omega)] at w
        omega
      rw [decide_eq_true w, Bool.true_and] at ih
      have hm := mkQ_le (D := D) (hp := cpl D.1 k)
      simp only [isO_c, ax0, ex_cons, am_get, upz_at, true_and, and_true, Nat.reduceAdd, Nat.reduceLeDiff, Nat.reduceEqDiff, Nat.reduceSub, Int32.reduceOfInt, Int32.reduceAdd, Int32.reduceMul, Int32.reduceSub, ↓reduceIte, Int32.reduceLT, Int32.reduceLE, Int32.reduceToNatClampNeg, Nat.reduceMod, Nat.reduceLT, List.length_cons, List.length_nil, eq_self, true_or, or_true, and_self, implies_true, not_true_eq_false, not_false_eq_true, false_implies, true_implies, forall_const, st_aloadx, st_baloadx, st_getfieldx, st_gotox, st_goto_wx, st_iconstx, st_ifCondx, st_if_icmpx, st_iincx, st_iloadx, st_in3, st_st1, st_isubx, am_put, am_nlg, kb_Quarrels_findLeftOut_27, og_61_2, og_61_1, og_61_4, oo_63, jx_Quarrels_findLeftOut_68, kb_Quarrels_findLeftOut_68, oa_61, oa_63, m1.get hc, oq_rB (show 1 < 2 by decide), nk_neg (show cpl D.1 k < 2147483648 by omega), nk_cl (show cpl D.1 k < 2147483648 by omega), show cpl D.1 k < L by omega, hg _ hcp, nk_succ]
      cases z : caP D k
      · rw [z, if_neg Bool.false_ne_true] at ih
        have y : ¬ nI (mkQ D (cpl D.1 k)) = 0 := nk_ne0 (by omega) (by
          rcases Nat.eq_zero_or_pos (mkQ D (cpl D.1 k)) with t | t
          · rw [caP_mk.mp t] at z; cases z
          · exact t)
        refine ⟨fun _ => ih F1 (by omega) w1 c1, fun t => absurd y t⟩
      · rw [z, if_pos rfl] at ih
        have y : nI (mkQ D (cpl D.1 k)) = 0 := by rw [caP_mk.mpr z]; rfl
        refine ⟨fun t => absurd y t, fun _ => ?_⟩
        rw [← w]
        have hl := fwF_le (p := caP D) (s := s) k
        refine c_fwNote (Or.inl rfl) (o := fwF (caP D) s k) w1 (by omega) (fun F3 o3 f3 w3 => ?_)
        simp only [isO_c, ax0, ex_cons, am_get, upz_at, true_and, and_true, Nat.reduceAdd, Nat.reduceLeDiff, Nat.reduceEqDiff, Nat.reduceSub, Int32.reduceOfInt, Int32.reduceAdd, Int32.reduceMul, Int32.reduceSub, ↓reduceIte, Int32.reduceLT, Int32.reduceLE, Int32.reduceToNatClampNeg, Nat.reduceMod, Nat.reduceLT, List.length_cons, List.length_nil, eq_self, true_or, or_true, and_self, implies_true, not_true_eq_false, not_false_eq_true, false_implies, true_implies, forall_const, st_aloadx, st_baloadx, st_getfieldx, st_gotox, st_goto_wx, st_iconstx, st_ifCondx, st_if_icmpx, st_iincx, st_iloadx, st_in3, st_st1, st_isubx, am_put, am_nlg, kb_Quarrels_findLeftOut_27, og_61_2, og_61_1, og_61_4, oo_63, jx_Quarrels_findLeftOut_68, kb_Quarrels_findLeftOut_68, oa_61, oa_63, nk_succ]
        rw [w]
        exact ih F3 (by omega) w3 (fun x hx => (o3 x hx).trans (c1 x hx))
set_option maxRecDepth 20000 in
theorem c_findLeftOut {e : am_H} {q L : Nat} {g : Nat → Int32} {D : dT} (h12 : D.1 ≤ 12) (hv : V 61 1 = .ref q) (m : Mq e h F 62 1 q L g) (h2 : F 61 2 = nI (2 ^ D.1)) (hN : 2 ^ D.1 ≤ L) (hg : ∀ i, i < 2 ^ D.1 → g i = nI (mkQ D i)) (K : ∀ F', FW (F' 63) (mnF (caP D) (2 ^ D.1)) → (∀ x, x ≠ 63 → F' x = F x) → Q none (ov h F' J V)) : am_cl (d + 2) 106 [.ref 61] (ov h F J V) Q := by
  have hN4 : 2 ^ D.1 ≤ 4096 := Nat.pow_le_pow_right (by decide) h12
  simp only [isO_c, ax0, ex_cons, am_get, upz_at, true_and, and_true, Nat.reduceAdd, Nat.reduceLeDiff, Nat.reduceEqDiff, Nat.reduceSub, Int32.reduceOfInt, Int32.reduceAdd, Int32.reduceMul, Int32.reduceSub, ↓reduceIte, Int32.reduceLT, Int32.reduceLE, Int32.reduceToNatClampNeg, Nat.reduceMod, Nat.reduceLT, List.length_cons, List.length_nil, eq_self, true_or, or_true, and_self, implies_true, not_true_eq_false, not_false_eq_true, false_implies, true_implies, forall_const, st_aloadx, st_getfieldx, st_goto_wx, st_iconstx, st_in1, st_istorex, am_put, am_nlg, kb_Quarrels_findLeftOut_0, og_61_4, oo_63, oa_61, oa_63, cx_Quarrels_findLeftOut]
  refine c_fwClear (Or.inl rfl) (fun F0 o0 f0 w0 => ?_)
  simp only [isO_c, ax0, ex_cons, am_get, upz_at, true_and, and_true, Nat.reduceAdd, Nat.reduceLeDiff, Nat.reduceEqDiff, Nat.reduceSub, Int32.reduceOfInt, Int32.reduceAdd, Int32.reduceMul, Int32.reduceSub, ↓reduceIte, Int32.reduceLT, Int32.reduceLE, Int32.reduceToNatClampNeg, Nat.reduceMod, Nat.reduceLT, List.length_cons, List.length_nil, eq_self, true_or, or_true, and_self, implies_true, not_true_eq_false, not_false_eq_true, false_implies, true_implies, forall_const, st_aloadx, st_getfieldx, st_goto_wx, st_iconstx, st_in1, st_istorex, am_put, am_nlg, kb_Quarrels_findLeftOut_0, og_61_4, oo_63, oa_61, oa_63]
  have key : ∀ j s F1 v2, s + j = 13 → ((∀ k, k < 2 ^ D.1 → caP D k = true → s ≤ pop k) ∧ FW (F1 63) (none, 0) ∨ FW (F1 63) (mnF (caP D) (2 ^ D.1)) ∧ (mnF (caP D) (2 ^ D.1)).2 ≠ 0) → (∀ x, x ≠ 63 → F1 x = F x) → am_W kc_Quarrels_findLeftOut (am_cl (d + 1)) Q 9 [.ref 61, .int (nI s), v2] [] (ov h F1 J V) := by
    intro j
    induction j with
    | zero =>
      intro s F1 v2 es o1 c1
      have es : s = 13 := es
      have lt : ((12 : Int32) < nI s) = (12 < s) := nk_lt (a := 12) (by omega) (by omega)
      rw [jx_Quarrels_findLeftOut_9]
      simp only [isO_c, ax0, ex_cons, am_get, upz_at, true_and, and_true, Nat.reduceAdd, Nat.reduceLeDiff, Nat.reduceEqDiff, Nat.reduceSub, Int32.reduceOfInt, Int32.reduceAdd, Int32.reduceMul, Int32.reduceSub, ↓reduceIte, Int32.reduceLT, Int32.reduceLE, Int32.reduceToNatClampNeg, Nat.reduceMod, Nat.reduceLT, List.length_cons, List.length_nil, eq_self, true_or, or_true, and_self, implies_true, not_true_eq_false, not_false_eq_true, false_implies, true_implies, forall_const, st_aloadx, st_getfieldx, st_goto_wx, st_iconstx, st_ifCondx, st_if_icmpx, st_iloadx, st_istorex, st_return_x, am_put, am_nlg, kb_Quarrels_findLeftOut_9, og_61_4, og_63_2, jx_Quarrels_findLeftOut_80, kb_Quarrels_findLeftOut_80, oa_61, oa_63, lt, show 12 < s by omega]
      refine K F1 ?_ c1
      rcases o1 with ⟨a1, a2⟩ | ⟨a1, _⟩
      · rw [mnF_none (fun k hk => ?_)]
        · exact a2
        · cases z : caP D k
          · rfl
          · have := a1 k hk z
            have := pop_n hk h12
            omega
      · exact a1
    | succ j ih =>
      intro s F1 v2 es o1 c1
      have lt : ((12 : Int32) < nI s) = (12 < s) := nk_lt (a := 12) (by omega) (by omega)
      have f61 : F1 61 2 = nI (2 ^ D.1) := by rw [c1 61 (by decide)]; exact h2
      rw [jx_Quarrels_findLeftOut_9]
      rcases o1 with ⟨a1, a2⟩ | ⟨a1, a3⟩
      · have e2 : F1 63 2 = 0 := a2.1
        simp only [isO_c, ax0, ex_cons, am_get, upz_at, true_and, and_true, Nat.reduceAdd, Nat.reduceLeDiff, Nat.reduceEqDiff, Nat.reduceSub, Int32.reduceOfInt, Int32.reduceAdd, Int32.reduceMul, Int32.reduceSub, ↓reduceIte, Int32.reduceLT, Int32.reduceLE, Int32.reduceToNatClampNeg, Nat.reduceMod, Nat.reduceLT, List.length_cons, List.length_nil, eq_self, true_or, or_true, and_self, implies_true, not_true_eq_false, not_false_eq_true, false_implies, true_implies, forall_const, st_aloadx, st_getfieldx, st_goto_wx, st_iconstx, st_ifCondx, st_if_icmpx, st_iloadx, st_istorex, am_put, am_nlg, kb_Quarrels_findLeftOut_9, og_61_4, og_63_2, oa_61, oa_63, lt, show ¬ 12 < s by omega, e2]
        refine c_flIn h12 hv (m.cg (c1 62 (by decide))) f61 hN hg (by omega) (fun F2 w2 c2 => ?_) (2 ^ D.1) 0 F1 (by omega) a2 (fun _ _ => rfl)
        simp only [isO_c, ax0, ex_cons, am_get, upz_at, true_and, and_true, Nat.reduceAdd, Nat.reduceLeDiff, Nat.reduceEqDiff, Nat.reduceSub, Int32.reduceOfInt, Int32.reduceAdd, Int32.reduceMul, Int32.reduceSub, ↓reduceIte, Int32.reduceLT, Int32.reduceLE, Int32.reduceToNatClampNeg, Nat.reduceMod, Nat.reduceLT, List.length_cons, List.length_nil, eq_self, true_or, or_true, and_self, implies_true, not_true_eq_false, not_false_eq_true, false_implies, true_implies, forall_const, st_gotox, st_iincx, am_put, am_nlg, jx_Quarrels_findLeftOut_74, kb_Quarrels_findLeftOut_74, nk_succ]
        refine ih (s + 1) F2 _ (by omega) ?_ (fun x hx => (c2 x hx).trans (c1 x hx))
        by_cases z : (fwF (caP D) s (2 ^ D.1)).2 = 0
        · obtain ⟨b1, b2⟩ := fwF_none z
          rw [b1] at w2
          refine Or.inl ⟨fun k hk t => ?_, w2⟩
          have := a1 k hk t
          by_cases y : pop k = s
          · rw [b2 k hk y] at t; cases t
          · omega
        · rw [← fwF_hit a1 z] at w2 z
          exact Or.inr ⟨w2, z⟩
      · have hl : (mnF (caP D) (2 ^ D.1)).2 ≤ 4096 := a1.2.1
        have e2 : F1 63 2 = nI (mnF (caP D) (2 ^ D.1)).2 := a1.1
        have e3 : ¬ nI (mnF (caP D) (2 ^ D.1)).2 = 0 := nk_ne0 (by omega) (by omega)
        simp only [isO_c, ax0, ex_cons, am_get, upz_at, true_and, and_true, Nat.reduceAdd, Nat.reduceLeDiff, Nat.reduceEqDiff, Nat.reduceSub, Int32.reduceOfInt, Int32.reduceAdd, Int32.reduceMul, Int32.reduceSub, ↓reduceIte, Int32.reduceLT, Int32.reduceLE, Int32.reduceToNatClampNeg, Nat.reduceMod, Nat.reduceLT, List.length_cons, List.length_nil, eq_self, true_or, or_true, and_self, implies_true, not_true_eq_false, not_false_eq_true, false_implies, true_implies, forall_const, st_aloadx, st_getfieldx, st_goto_wx, st_iconstx, st_ifCondx, st_if_icmpx, st_iloadx, st_istorex, st_return_x, am_put, am_nlg, kb_Quarrels_findLeftOut_9, og_61_4, og_63_2, jx_Quarrels_findLeftOut_80, kb_Quarrels_findLeftOut_80, oa_61, oa_63, lt, show ¬ 12 < s by omega, e2, e3]
        exact K F1 a1 c1
  exact key 13 0 F0 _ rfl (Or.inl ⟨fun k _ _ => Nat.zero_le _, w0⟩) o0
set_option maxRecDepth 20000 in
theorem c_leastAt {e : am_H} {q L : Nat} {g : Nat → Int32} {D : dT} (h12 : D.1 ≤ 12) (hv : V 61 1 = .ref q) (m : Mq e h F 62 1 q L g) (h2 : F 61 2 = nI (2 ^ D.1)) (h3 : F 61 3 = nI (cq D (2 ^ D.1))) (hN : 2 ^ D.1 ≤ L) (hg : ∀ i, i < 2 ^ D.1 → g i = nI (mkQ D i)) {x : Int32} (hx : x ≠ -1) (K : Q (some (.int (aQuarrel D x))) (ov h F J V)) : am_cl (d + 1) 105 [.ref 61, .int x] (ov h F J V) Q := by
  have hc : rwC 62 1 := Or.inl ⟨rfl, rfl⟩
  have hL := m.1
  have hN4 : 2 ^ D.1 ≤ 4096 := Nat.pow_le_pow_right (by decide) h12
  have hN0 : 0 < 2 ^ D.1 := Nat.two_pow_pos _
  have hcq : cq D (2 ^ D.1) ≤ 2 ^ D.1 := cq_le
  unfold aQuarrel at K
  simp only [isO_c, ax0, ex_cons, am_get, upz_at, true_and, and_true, Nat.reduceAdd, Nat.reduceLeDiff, Nat.reduceEqDiff, Nat.reduceSub, Int32.reduceOfInt, Int32.reduceAdd, Int32.reduceMul, Int32.reduceSub, ↓reduceIte, Int32.reduceLT, Int32.reduceLE, Int32.reduceToNatClampNeg, Nat.reduceMod, Nat.reduceLT, List.length_cons, List.length_nil, eq_self, true_or, or_true, and_self, implies_true, not_true_eq_false, not_false_eq_true, false_implies, true_implies, forall_const, st_aloadx, st_getfieldx, st_goto_wx, st_iconstx, st_ifCondx, st_if_icmpx, st_iloadx, st_ireturnx, st_istorex, am_put, am_nlg, kb_Quarrels_leastAt_0, og_61_3, jx_Quarrels_leastAt_12, kb_Quarrels_leastAt_12, jx_Quarrels_leastAt_14, kb_Quarrels_leastAt_14, oa_61, cx_Quarrels_leastAt, h3]
  refine ⟨fun w => ?_, fun w => ⟨fun y => ?_, fun y => ?_⟩⟩
  · have z : x < -1 := by
      rw [Int32.lt_iff_toInt_lt, Int32.toInt_zero] at w
      have h1 : x.toInt ≠ -1 := fun e => hx (Int32.toInt_inj.mp (e.trans (show (-1 : Int) = (-1 : Int32).toInt by decide)))
      rw [Int32.lt_iff_toInt_lt, show (-1 : Int32).toInt = -1 by decide]
      omega
    rw [if_pos z] at K
    exact K
  · obtain ⟨e1, e2⟩ := nk_of w
    generalize x.toNatClampNeg = k at e1 e2
    subst e1
    rw [if_neg (by
      rw [Int32.lt_iff_toInt_lt, nk_toInt e2, show (-1 : Int32).toInt = -1 by decide]
      omega)] at K
    have key : ∀ j n, 0 < n → n + j = 2 ^ D.1 → Q (some (.int (qrF D (nI k) j n))) (ov h F J V) → am_W kc_Quarrels_leastAt (am_cl d) Q 18 [.ref 61, .int (nI k), .int (nI (cq D n)), .int (nI n)] [] (ov h F J V) := by
      intro j
      induction j with
      | zero =>
        intro n hn en K1
        have en : n = 2 ^ D.1 := en
        have K1 : Q (some (.int (if nI k = -1 then nI (cq D n) else -1))) (ov h F J V) := K1
        rw [if_neg (by rw [nI_neg1 e2]; exact id)] at K1
        rw [jx_Quarrels_leastAt_18]
        simp only [isO_c, ax0, ex_cons, am_get, upz_at, true_and, and_true, Nat.reduceAdd, Nat.reduceLeDiff, Nat.reduceEqDiff, Nat.reduceSub, Int32.reduceOfInt, Int32.reduceAdd, Int32.reduceMul, Int32.reduceSub, ↓reduceIte, Int32.reduceLT, Int32.reduceLE, Int32.reduceToNatClampNeg, Nat.reduceMod, Nat.reduceLT, List.length_cons, List.length_nil, eq_self, true_or, or_true, and_self, implies_true, not_true_eq_false, not_false_eq_true, false_implies, true_implies, forall_const, st_aloadx, st_baloadx, st_getfieldx, st_iconstx, st_if_icmpx, st_iloadx, st_ireturnx, kb_Quarrels_leastAt_18, og_61_2, og_61_1, jx_Quarrels_leastAt_52, kb_Quarrels_leastAt_52, oa_61, h2, (nk_le (by omega) (by omega) : (nI (2 ^ D.1) ≤ nI (n)) = (2 ^ D.1 ≤ n)), show 2 ^ D.1 ≤ n by omega]
        exact K1
      | succ j ih =>
        intro n hn en K1
        have K1 : Q (some (.int (if lq D n && decide (nI (cq D n) = nI k) then nI n else qrF D (nI k) j (n + 1)))) (ov h F J V) := K1
        have ih := ih (n + 1) (by omega) (by omega)
        rw [cq_S hn] at ih
        have hm := mkQ_le (D := D) (hp := n)
        have e3 : (nI (mkQ D n) = 2) = (mkQ D n = 2) := nk_eq (b := 2) (by omega) (by decide)
        rw [jx_Quarrels_leastAt_18]
        simp only [isO_c, ax0, ex_cons, am_get, upz_at, true_and, and_true, Nat.reduceAdd, Nat.reduceLeDiff, Nat.reduceEqDiff, Nat.reduceSub, Int32.reduceOfInt, Int32.reduceAdd, Int32.reduceMul, Int32.reduceSub, ↓reduceIte, Int32.reduceLT, Int32.reduceLE, Int32.reduceToNatClampNeg, Nat.reduceMod, Nat.reduceLT, List.length_cons, List.length_nil, eq_self, true_or, or_true, and_self, implies_true, not_true_eq_false, not_false_eq_true, false_implies, true_implies, forall_const, st_aloadx, st_baloadx, st_getfieldx, st_gotox, st_goto_wx, st_iconstx, st_if_icmpx, st_iincx, st_iloadx, st_ireturnx, am_put, am_nlg, kb_Quarrels_leastAt_18, og_61_2, og_61_1, jx_Quarrels_leastAt_43, kb_Quarrels_leastAt_43, jx_Quarrels_leastAt_46, kb_Quarrels_leastAt_46, oa_61, h2, (nk_le (by omega) (by omega) : (nI (2 ^ D.1) ≤ nI (n)) = (2 ^ D.1 ≤ n)), show ¬ 2 ^ D.1 ≤ n by omega, hv, m.get hc, oq_rB (show 1 < 2 by decide), nk_neg (show n < 2147483648 by omega), nk_cl (show n < 2147483648 by omega), show n < L by omega, hg n (by omega), e3, mkQ_2, nk_succ]
        refine ⟨fun w => ?_, fun w => ⟨fun y => ?_, fun y => ?_⟩⟩
        · rw [Bool.not_eq_true] at w
          rw [w, Bool.false_and, if_neg Bool.false_ne_true] at K1
          rw [w, if_neg Bool.false_ne_true] at ih
          exact ih K1
        · have w := Classical.not_not.mp w
          rw [w, Bool.true_and, decide_eq_false y, if_neg Bool.false_ne_true] at K1
          rw [w, if_pos rfl] at ih
          exact ih K1
        · have w := Classical.not_not.mp w
          rw [w, Bool.true_and, decide_eq_true (Classical.not_not.mp y), if_pos rfl] at K1
          exact K1
    have k1 := key (2 ^ D.1 - 1) 1 (by decide) (by omega) K
    rw [cq_1] at k1
    show am_W kc_Quarrels_leastAt (am_cl d) Q 18 [.ref 61, .int (nI k), .int (nI 0), .int (nI 0)] [] (ov h F J V)
    rw [jx_Quarrels_leastAt_18]
    simp only [isO_c, ax0, ex_cons, am_get, upz_at, true_and, and_true, Nat.reduceAdd, Nat.reduceLeDiff, Nat.reduceEqDiff, Nat.reduceSub, Int32.reduceOfInt, Int32.reduceAdd, Int32.reduceMul, Int32.reduceSub, ↓reduceIte, Int32.reduceLT, Int32.reduceLE, Int32.reduceToNatClampNeg, Nat.reduceMod, Nat.reduceLT, List.length_cons, List.length_nil, eq_self, true_or, or_true, and_self, implies_true, not_true_eq_false, not_false_eq_true, false_implies, true_implies, forall_const, st_aloadx, st_baloadx, st_getfieldx, st_gotox, st_iconstx, st_if_icmpx, st_iincx, st_iloadx, st_ireturnx, am_put, am_nlg, kb_Quarrels_leastAt_18, og_61_2, og_61_1, jx_Quarrels_leastAt_46, kb_Quarrels_leastAt_46, oa_61, h2, (nk_le (by omega) (by omega) : (nI (2 ^ D.1) ≤ nI (0)) = (2 ^ D.1 ≤ 0)), show ¬ 2 ^ D.1 ≤ 0 by omega, hv, m.get hc, oq_rB (show 1 < 2 by decide), nk_neg (show 0 < 2147483648 by omega), nk_cl (show 0 < 2147483648 by omega), show 0 < L by omega, hg 0 (by omega), mkQ_z, show ¬ nI 0 = (2 : Int32) by decide, nk_succ]
    exact k1
  · obtain ⟨e1, e2⟩ := nk_of w
    generalize x.toNatClampNeg = k at e1 e2
    subst e1
    rw [if_neg (by
      rw [Int32.lt_iff_toInt_lt, nk_toInt e2, show (-1 : Int32).toInt = -1 by decide]
      omega)] at K
    rw [nk_lt e2 (by omega)] at y
    rw [qrF_none e2 (by omega) hN4 (2 ^ D.1 - 1) 1 (by decide) (by omega)] at K
    exact K
end CQL
