/-! ===== the class: a round of derivation, the two loops ===== -/
def RInv (ex : Bool) (r : Nat → Int32) (n : Nat) : Prop := (∀ x, x < 256 → r x = -1 ∨ ∃ k, k ≤ n ∧ r x = nI k) ∧ nuV r ∧ ∀ a b x k1 k2, x < 256 → a < 256 → b < 256 → r a = nI k1 → k1 < n → r b = nI k2 → k2 < n → cdd ex a b = nI x → ¬ r x = -1
def Dv (F F1 : Nat → Nat → Int32) : Prop := (∀ x, x ≠ 65 → x ≠ 75 → x ≠ 76 → x ≠ 77 → x ≠ 78 → x ≠ 79 → F1 x = F x) ∧ F1 65 7 = F 65 7 ∧ F1 65 8 = F 65 8 ∧ ∀ i, i ≠ 5 → F1 75 i = F 75 i
theorem Dv.tr {F F1 F2 : Nat → Nat → Int32} (a : Dv F F1) (b : Dv F1 F2) : Dv F F2 := ⟨fun x h1 h2 h3 h4 h5 h6 => (b.1 x h1 h2 h3 h4 h5 h6).trans (a.1 x h1 h2 h3 h4 h5 h6), b.2.1.trans a.2.1, b.2.2.1.trans a.2.2.1, fun i hi => (b.2.2.2 i hi).trans (a.2.2.2 i hi)⟩
def LI (ex : Bool) (n : Nat) (F F1 : Nat → Nat → Int32) (i j : Nat) : Prop := (∀ x, x < 256 → ¬ F 76 x = -1 → F1 76 x = F 76 x ∧ F1 77 x = F 77 x ∧ F1 78 x = F 78 x) ∧ (∀ x, x < 256 → F 76 x = -1 → F1 76 x = -1 ∨ F1 76 x = nI (n + 1) ∧ ∃ a b, F1 77 x = nI a ∧ F1 78 x = nI b ∧ prD ex (F 76) a b x ∧ ∀ a' b', prD ex (F 76) a' b' x → a < a' ∨ a = a' ∧ b ≤ b') ∧ (∀ a b x, prD ex (F 76) a b x → cn (pD (F 76)) a < i ∨ cn (pD (F 76)) a = i ∧ cn (pD (F 76)) b < j → ¬ F1 76 x = -1) ∧ F1 75 5 = nI (cn (pD (F1 76)) 256) ∧ Dv F F1 ∧ lsD (pD (F 76)) (F1 79)
theorem cn_up {r : Nat → Int32} {n : Nat} {rd : Int32} (h : r n = -1) (hr : ¬ rd = -1) : ∀ k, cn (pD (upz r n rd)) k = cn (pD r) k + (if n < k then 1 else 0)
  | 0 => by rw [if_neg (Nat.not_lt_zero n)]; rfl
  | k + 1 => by
    have ih := cn_up h hr k
    by_cases z : k = n
    · subst z
      rw [cn_t (p := pD (upz r k rd)) (pD_t.mpr (by rw [upz_eq]; exact hr)), ih, if_neg (Nat.lt_irrefl k), if_pos (Nat.lt_succ_self k), cn_f (p := pD r) (by unfold pD; rw [h]; rfl)]
    · have e : pD (upz r n rd) k = pD r k := by unfold pD; rw [upz_ne _ _ z]
      show cn (pD (upz r n rd)) k + (if pD (upz r n rd) k then 1 else 0) = cn (pD r) k + (if pD r k then 1 else 0) + _
      rw [e, ih]
      by_cases y : n < k
      · rw [if_pos y, if_pos (show n < k + 1 by omega)]; omega
      · rw [if_neg y, if_neg (show ¬ n < k + 1 by omega)]; omega
section CDW
variable {d : Nat} {h : am_H} {F : Nat → Nat → Int32} {J : Nat → Nat → Int64} {V : Nat → Nat → Value} {Q : am_Q}
set_option maxRecDepth 20000 in
theorem c_drIn {ex : Bool} {n i : Nat} (hn : n < 1000) (hI : RInv ex (F 76) n) (ht : ∀ k, k < 64 → F 66 k = tcV ex k) (hi : i < cn (pD (F 76)) 256) (K : ∀ F' v6 v7 v8, LI ex n F F' (i + 1) 0 → am_W kc_Derivation_deriveRound (am_cl (d + 3)) Q 106 [.ref 75, .int (nI (n + 1)), .ref 65, .int (nI (cn (pD (F 76)) 256)), .int (nI i), .int (nI (cn (pD (F 76)) 256)), v6, v7, v8] [] (ov h F' J V)) : ∀ m j F1 v6 v7 v8, j + m = cn (pD (F 76)) 256 → LI ex n F F1 i j → am_W kc_Derivation_deriveRound (am_cl (d + 3)) Q 17 [.ref 75, .int (nI (n + 1)), .ref 65, .int (nI (cn (pD (F 76)) 256)), .int (nI i), .int (nI j), v6, v7, v8] [] (ov h F1 J V) := by
  have hc : cn (pD (F 76)) 256 ≤ 256 := cn_le _ _
  obtain ⟨a, a1, a2, a3⟩ := cn_at hi
  have pa := pD_t.mp a2
  have na := hI.2.1 a a1 pa
  intro m
  induction m with
  | zero =>
    intro j F1 v6 v7 v8 ej l1
    have ej : j = cn (pD (F 76)) 256 := ej
    have K := K F1 v6 v7 v8
    rw [← ej] at K hc ⊢
    rw [jx_Derivation_deriveRound_17]
    simp only [isO_c, ax0, ex_cons, am_get, upz_at, true_and, and_true, Nat.reduceAdd, Nat.reduceLeDiff, Nat.reduceEqDiff, Nat.reduceSub, Int32.reduceOfInt, Int32.reduceAdd, Int32.reduceMul, Int32.reduceSub, ↓reduceIte, Int32.reduceLT, Int32.reduceLE, Int32.reduceToNatClampNeg, Nat.reduceMod, Nat.reduceLT, List.length_cons, List.length_nil, eq_self, true_or, or_true, and_self, implies_true, not_true_eq_false, not_false_eq_true, false_implies, true_implies, forall_const, st_aloadx, st_getfieldx, st_goto_wx, st_ialoadx, st_iconstx, st_if_icmpx, st_iloadx, st_istorex, st_isubx, am_put, am_nlg, kb_Derivation_deriveRound_17, og_75_4, og_75_1, oa_75, oa_76, or_76, oa_79, or_79, (nk_le (by omega) (by omega) : (nI (j) ≤ nI (j)) = (j ≤ j)), Nat.le_refl]
    refine K ?_
    obtain ⟨l1, l2, l3, l4⟩ := l1
    refine ⟨l1, l2, fun a' b' x p q => l3 a' b' x p ?_, l4⟩
    have pb := cn_lt (p := pD (F 76)) (pD_t.mpr p.2.2.2.2.1) p.2.2.1
    omega
  | succ m ih =>
    intro j F1 v6 v7 v8 ej l1
    obtain ⟨b, b1, b2, b3⟩ := cn_at (p := pD (F 76)) (n := 256) (i := j) (by omega)
    have pb := pD_t.mp b2
    have nb := hI.2.1 b b1 pb
    obtain ⟨g1, g2, g3, g4, g5, g6⟩ := id l1
    have ea : F1 79 i = nI a := by rw [← a3]; exact g6 a a1 a2
    have eb : F1 79 j = nI b := by rw [← b3]; exact g6 b b1 b2
    have ra : F1 76 a = F 76 a := (g1 a a1 pa).1
    have rb : F1 76 b = F 76 b := (g1 b b1 pb).1
    have en : nI (n + 1) - (1 : Int32) = nI n := nk_sub (b := 1) (by omega)
    -- one pair more
    have nx : (∀ x, prD ex (F 76) a b x → ¬ F1 76 x = -1) → LI ex n F F1 i (j + 1) := fun w => by
      refine ⟨g1, g2, fun a' b' x p q => ?_, g4, g5, g6⟩
      by_cases z : cn (pD (F 76)) a' = i ∧ cn (pD (F 76)) b' = j
      · have e1 : a' = a := by
          rcases Nat.lt_trichotomy a' a with t | t | t
          · have := cn_lt (p := pD (F 76)) (pD_t.mpr p.2.2.2.1) t; omega
          · exact t
          · have := cn_lt (p := pD (F 76)) a2 t; omega
        have e2 : b' = b := by
          rcases Nat.lt_trichotomy b' b with t | t | t
          · have := cn_lt (p := pD (F 76)) (pD_t.mpr p.2.2.2.2.1) t; omega
          · exact t
          · have := cn_lt (p := pD (F 76)) b2 t; omega
        rw [e1, e2] at p
        exact w x p
      · exact g3 a' b' x p (by omega)
    have go : ∀ v6 v7 v8, LI ex n F F1 i (j + 1) → am_W kc_Derivation_deriveRound (am_cl (d + 3)) Q 100 [.ref 75, .int (nI (n + 1)), .ref 65, .int (nI (cn (pD (F 76)) 256)), .int (nI i), .int (nI j), v6, v7, v8] [] (ov h F1 J V) := by
      intro v6 v7 v8 w
      simp only [isO_c, ax0, ex_cons, am_get, upz_at, true_and, and_true, Nat.reduceAdd, Nat.reduceLeDiff, Nat.reduceEqDiff, Nat.reduceSub, Int32.reduceOfInt, Int32.reduceAdd, Int32.reduceMul, Int32.reduceSub, ↓reduceIte, Int32.reduceLT, Int32.reduceLE, Int32.reduceToNatClampNeg, Nat.reduceMod, Nat.reduceLT, List.length_cons, List.length_nil, eq_self, true_or, or_true, and_self, implies_true, not_true_eq_false, not_false_eq_true, false_implies, true_implies, forall_const, st_gotox, st_iincx, am_put, am_nlg, jx_Derivation_deriveRound_100, kb_Derivation_deriveRound_100, nk_succ]
      exact ih (j + 1) F1 v6 v7 v8 (by omega) w
    have new : am_W kc_Derivation_deriveRound (am_cl (d + 3)) Q 72 [.ref 75, .int (nI (n + 1)), .ref 65, .int (nI (cn (pD (F 76)) 256)), .int (nI i), .int (nI j), .int (nI a), .int (nI b), v8] [.int 1] (ov h F1 J V) := by
      simp only [isO_c, ax0, ex_cons, am_get, upz_at, true_and, and_true, Nat.reduceAdd, Nat.reduceLeDiff, Nat.reduceEqDiff, Nat.reduceSub, Int32.reduceOfInt, Int32.reduceAdd, Int32.reduceMul, Int32.reduceSub, ↓reduceIte, Int32.reduceLT, Int32.reduceLE, Int32.reduceToNatClampNeg, Nat.reduceMod, Nat.reduceLT, List.length_cons, List.length_nil, eq_self, true_or, or_true, and_self, implies_true, not_true_eq_false, not_false_eq_true, false_implies, true_implies, forall_const, st_aloadx, st_goto_wx, st_ifCondx, st_iloadx, st_in3, st_in5, st_istorex, am_put, am_nlg, jx_Derivation_deriveRound_72, kb_Derivation_deriveRound_72, oo_65, oo_75, oa_65, oa_75]
      refine c_join a1 b1 na nb (fun w => ?_) (fun F2 w s1 s2 => ?_)
      · simp only [isO_c, ax0, ex_cons, am_get, upz_at, true_and, and_true, Nat.reduceAdd, Nat.reduceLeDiff, Nat.reduceEqDiff, Nat.reduceSub, Int32.reduceOfInt, Int32.reduceAdd, Int32.reduceMul, Int32.reduceSub, ↓reduceIte, Int32.reduceLT, Int32.reduceLE, Int32.reduceToNatClampNeg, Nat.reduceMod, Nat.reduceLT, List.length_cons, List.length_nil, eq_self, true_or, or_true, and_self, implies_true, not_true_eq_false, not_false_eq_true, false_implies, true_implies, forall_const, st_aloadx, st_goto_wx, st_ifCondx, st_iloadx, st_in3, st_in5, st_istorex, am_put, am_nlg, jx_Derivation_deriveRound_72, kb_Derivation_deriveRound_72, oo_65, oo_75, oa_65, oa_75]
        refine go _ _ _ (nx (fun x p => ?_))
        have := p.2.2.2.2.2
        unfold cdd at this
        rw [if_pos w] at this
        have z := nI_neg1 (b := x) (by have := p.1; omega)
        exact absurd this.symm (by rw [z]; exact id)
      · have f76 : F2 76 = F1 76 := s1.1 76 (by decide)
        have f77 : F2 77 = F1 77 := s1.1 77 (by decide)
        have f78 : F2 78 = F1 78 := s1.1 78 (by decide)
        have f79 : F2 79 = F1 79 := s1.1 79 (by decide)
        have f75 : F2 75 = F1 75 := s1.1 75 (by decide)
        have dv2 : Dv F F2 := g5.tr ⟨fun x h1 _ _ _ _ _ => s1.1 x h1, s1.2.1, s1.2.2, fun i _ => by rw [f75]⟩
        have t2 : ∀ k, k < 64 → F2 66 k = tcV ex k := fun k hk => by rw [dv2.1 66 (by decide) (by decide) (by decide) (by decide) (by decide) (by decide)]; exact ht k hk
        simp only [isO_c, ax0, ex_cons, am_get, upz_at, true_and, and_true, Nat.reduceAdd, Nat.reduceLeDiff, Nat.reduceEqDiff, Nat.reduceSub, Int32.reduceOfInt, Int32.reduceAdd, Int32.reduceMul, Int32.reduceSub, ↓reduceIte, Int32.reduceLT, Int32.reduceLE, Int32.reduceToNatClampNeg, Nat.reduceMod, Nat.reduceLT, List.length_cons, List.length_nil, eq_self, true_or, or_true, and_self, implies_true, not_true_eq_false, not_false_eq_true, false_implies, true_implies, forall_const, st_aloadx, st_goto_wx, st_ifCondx, st_iloadx, st_in3, st_in5, st_istorex, am_put, am_nlg, jx_Derivation_deriveRound_72, kb_Derivation_deriveRound_72, oo_65, oo_75, oa_65, oa_75]
        refine c_addConclusion a1 b1 na nb w s2 t2 (fun w2 => ?_) (fun F3 x x1 x2 x3 x4 y1 y2 y3 y4 y5 y6 => ?_)
        · simp only [isO_c, ax0, ex_cons, am_get, upz_at, true_and, and_true, Nat.reduceAdd, Nat.reduceLeDiff, Nat.reduceEqDiff, Nat.reduceSub, Int32.reduceOfInt, Int32.reduceAdd, Int32.reduceMul, Int32.reduceSub, ↓reduceIte, Int32.reduceLT, Int32.reduceLE, Int32.reduceToNatClampNeg, Nat.reduceMod, Nat.reduceLT, List.length_cons, List.length_nil, eq_self, true_or, or_true, and_self, implies_true, not_true_eq_false, not_false_eq_true, false_implies, true_implies, forall_const, st_aloadx, st_gotox, st_goto_wx, st_ifCondx, st_iincx, st_iloadx, st_in3, st_in5, st_istorex, am_put, am_nlg, jx_Derivation_deriveRound_72, kb_Derivation_deriveRound_72, oo_65, oo_75, jx_Derivation_deriveRound_100, kb_Derivation_deriveRound_100, oa_65, oa_75, nk_succ]
          refine ih (j + 1) F2 _ _ _ (by omega) ?_
          have l2 := nx (fun x p => by rw [← f76]; exact w2 x p.1 p.2.2.2.2.2)
          obtain ⟨q1, q2, q3, q4, _, q6⟩ := l2
          refine ⟨?_, ?_, ?_, ?_, dv2, ?_⟩
          · rw [f76, f77, f78]; exact q1
          · rw [f76, f77, f78]; exact q2
          · rw [f76]; exact q3
          · rw [f75, f76]; exact q4
          · rw [f79]; exact q6
        · rw [f76] at x4 y1
          rw [f77] at y2
          rw [f78] at y3
          have rx : F 76 x = -1 := Classical.byContradiction fun z => z (by rw [← (g1 x x1 z).1]; exact x4)
          have px : prD ex (F 76) a b x := ⟨x1, a1, b1, pa, pb, x3⟩
          have h1n : ¬ nI (n + 1) = -1 := by rw [nI_neg1 (by omega)]; exact id
          simp only [isO_c, ax0, ex_cons, am_get, upz_at, true_and, and_true, Nat.reduceAdd, Nat.reduceLeDiff, Nat.reduceEqDiff, Nat.reduceSub, Int32.reduceOfInt, Int32.reduceAdd, Int32.reduceMul, Int32.reduceSub, ↓reduceIte, Int32.reduceLT, Int32.reduceLE, Int32.reduceToNatClampNeg, Nat.reduceMod, Nat.reduceLT, List.length_cons, List.length_nil, eq_self, true_or, or_true, and_self, implies_true, not_true_eq_false, not_false_eq_true, false_implies, true_implies, forall_const, st_aloadx, st_gotox, st_goto_wx, st_ifCondx, st_iincx, st_iloadx, st_in3, st_in5, st_istorex, am_put, am_nlg, jx_Derivation_deriveRound_72, kb_Derivation_deriveRound_72, oo_65, oo_75, jx_Derivation_deriveRound_100, kb_Derivation_deriveRound_100, oa_65, oa_75, nk_succ]
          refine ih (j + 1) F3 _ _ _ (by omega) ⟨fun z z1 z2 => ?_, fun z z1 z2 => ?_, fun a' b' z p q => ?_, ?_, ?_, ?_⟩
          · have ne : z ≠ x := fun e => z2 (by rw [e]; exact rx)
            rw [y1, y2, y3, upz_ne _ _ ne, upz_ne _ _ ne, upz_ne _ _ ne]
            exact g1 z z1 z2
          · by_cases e : z = x
            · subst e
              rw [y1, y2, y3, upz_eq, upz_eq, upz_eq]
              refine Or.inr ⟨rfl, a, b, rfl, rfl, px, fun a' b' p => ?_⟩
              have nd := fun q => g3 a' b' z p q x4
              have pa' := pD_t.mpr p.2.2.2.1
              have pb' := pD_t.mpr p.2.2.2.2.1
              rcases Nat.lt_trichotomy a a' with t | t | t
              · exact Or.inl t
              · subst t
                refine Or.inr ⟨rfl, ?_⟩
                rcases Nat.lt_or_ge b' b with t | t
                · have := cn_lt (p := pD (F 76)) pb' t
                  exact absurd (Or.inr ⟨a3, by omega⟩) nd
                · exact t
              · have := cn_lt (p := pD (F 76)) pa' t
                exact absurd (Or.inl (by omega)) nd
            · rw [y1, y2, y3, upz_ne _ _ e, upz_ne _ _ e, upz_ne _ _ e]
              exact g2 z z1 z2
          · rw [y1]
            by_cases e : z = x
            · rw [e, upz_eq]; exact h1n
            · rw [upz_ne _ _ e]
              by_cases y : cn (pD (F 76)) a' = i ∧ cn (pD (F 76)) b' = j
              · exfalso
                have e1 : a' = a := by
                  rcases Nat.lt_trichotomy a' a with t | t | t
                  · have := cn_lt (p := pD (F 76)) (pD_t.mpr p.2.2.2.1) t; omega
                  · exact t
                  · have := cn_lt (p := pD (F 76)) a2 t; omega
                have e2 : b' = b := by
                  rcases Nat.lt_trichotomy b' b with t | t | t
                  · have := cn_lt (p := pD (F 76)) (pD_t.mpr p.2.2.2.2.1) t; omega
                  · exact t
                  · have := cn_lt (p := pD (F 76)) b2 t; omega
                have := p.2.2.2.2.2
                rw [e1, e2, x3, nk_eq (by omega) (by have := p.1; omega)] at this
                exact e this.symm
              · exact g3 a' b' z p (by omega)
          · rw [y4, f75, g4, y1, cn_up x4 h1n, if_pos x1, nk_succ]
          · exact dv2.tr ⟨fun z h1 h2 h3 h4 h5 h6 => y6 z h2 h3 h4 h5, by rw [y6 65 (by decide) (by decide) (by decide) (by decide)], by rw [y6 65 (by decide) (by decide) (by decide) (by decide)], y5⟩
          · rw [y6 79 (by decide) (by decide) (by decide) (by decide), f79]; exact g6
    rw [jx_Derivation_deriveRound_17]
    simp only [isO_c, ax0, ex_cons, am_get, upz_at, true_and, and_true, Nat.reduceAdd, Nat.reduceLeDiff, Nat.reduceEqDiff, Nat.reduceSub, Int32.reduceOfInt, Int32.reduceAdd, Int32.reduceMul, Int32.reduceSub, ↓reduceIte, Int32.reduceLT, Int32.reduceLE, Int32.reduceToNatClampNeg, Nat.reduceMod, Nat.reduceLT, List.length_cons, List.length_nil, eq_self, true_or, or_true, and_self, implies_true, not_true_eq_false, not_false_eq_true, false_implies, true_implies, forall_const, st_aloadx, st_getfieldx, st_gotox, st_goto_wx, st_ialoadx, st_iconstx, st_if_icmpx, st_iloadx, st_istorex, st_isubx, am_put, am_nlg, kb_Derivation_deriveRound_17, og_75_4, og_75_1, jx_Derivation_deriveRound_67, kb_Derivation_deriveRound_67, jx_Derivation_deriveRound_71, kb_Derivation_deriveRound_71, oa_75, oa_76, or_76, oa_79, or_79, (nk_le (by omega) (by omega) : (nI (cn (pD (F 76)) 256) ≤ nI (j)) = (cn (pD (F 76)) 256 ≤ j)), show ¬ cn (pD (F 76)) 256 ≤ j by omega, nk_neg (show i < 2147483648 by omega), nk_cl (show i < 2147483648 by omega), nk_neg (show j < 2147483648 by omega), nk_cl (show j < 2147483648 by omega), show i < 256 by omega, show j < 256 by omega, ea, eb, nk_neg (show a < 2147483648 by omega), nk_cl (show a < 2147483648 by omega), nk_neg (show b < 2147483648 by omega), nk_cl (show b < 2147483648 by omega), a1, b1, ra, rb, en]
    refine ⟨fun _ => new, fun w1 => ⟨fun w2 => ?_, fun _ => new⟩⟩
    simp only [isO_c, ax0, ex_cons, am_get, upz_at, true_and, and_true, Nat.reduceAdd, Nat.reduceLeDiff, Nat.reduceEqDiff, Nat.reduceSub, Int32.reduceOfInt, Int32.reduceAdd, Int32.reduceMul, Int32.reduceSub, ↓reduceIte, Int32.reduceLT, Int32.reduceLE, Int32.reduceToNatClampNeg, Nat.reduceMod, Nat.reduceLT, List.length_cons, List.length_nil, eq_self, true_or, or_true, and_self, implies_true, not_true_eq_false, not_false_eq_true, false_implies, true_implies, forall_const, st_aloadx, st_goto_wx, st_ifCondx, st_iloadx, st_in3, st_in5, st_istorex, am_put, am_nlg, jx_Derivation_deriveRound_72, kb_Derivation_deriveRound_72, oo_65, oo_75, oa_65, oa_75]
    refine go _ _ _ (nx (fun x p => ?_))
    have lt : ∀ z, z < 256 → ¬ F 76 z = -1 → ¬ F 76 z = nI n → ∃ k, k < n ∧ F 76 z = nI k := fun z z1 z2 z3 => by
      rcases hI.1 z z1 with e | ⟨k, k1, k2⟩
      · exact absurd e z2
      · refine ⟨k, ?_, k2⟩
        rcases Nat.lt_or_ge k n with t | t
        · exact t
        · exact absurd (by rw [k2, show k = n by omega]) z3
    obtain ⟨k1, h1, h2⟩ := lt a a1 pa w1
    obtain ⟨k2, h3, h4⟩ := lt b b1 pb w2
    have nz := hI.2.2 a b x k1 k2 p.1 a1 b1 h2 h1 h4 h3 p.2.2.2.2.2
    rw [(g1 x p.1 nz).1]
    exact nz
set_option maxRecDepth 20000 in
theorem c_deriveRound {ex : Bool} {n : Nat} (hn : n < 1000) (hI : RInv ex (F 76) n) (ht : ∀ k, k < 64 → F 66 k = tcV ex k) (h5 : F 75 5 = nI (cn (pD (F 76)) 256)) (K : ∀ F', LI ex n F F' (cn (pD (F 76)) 256) 0 → Q none (ov h F' J V)) : am_cl (d + 4) 88 [.ref 75, .int (nI (n + 1)), .ref 65] (ov h F J V) Q := by
  have hc : cn (pD (F 76)) 256 ≤ 256 := cn_le _ _
  simp only [isO_c, ax0, ex_cons, am_get, upz_at, true_and, and_true, Nat.reduceAdd, Nat.reduceLeDiff, Nat.reduceEqDiff, Nat.reduceSub, Int32.reduceOfInt, Int32.reduceAdd, Int32.reduceMul, Int32.reduceSub, ↓reduceIte, Int32.reduceLT, Int32.reduceLE, Int32.reduceToNatClampNeg, Nat.reduceMod, Nat.reduceLT, List.length_cons, List.length_nil, eq_self, true_or, or_true, and_self, implies_true, not_true_eq_false, not_false_eq_true, false_implies, true_implies, forall_const, st_aloadx, st_goto_wx, st_iconstx, st_in1, st_istorex, am_put, am_nlg, kb_Derivation_deriveRound_0, oo_75, oa_75, cx_Derivation_deriveRound]
  refine c_listAhead (fun F0 o0 l0 => ?_)
  simp only [isO_c, ax0, ex_cons, am_get, upz_at, true_and, and_true, Nat.reduceAdd, Nat.reduceLeDiff, Nat.reduceEqDiff, Nat.reduceSub, Int32.reduceOfInt, Int32.reduceAdd, Int32.reduceMul, Int32.reduceSub, ↓reduceIte, Int32.reduceLT, Int32.reduceLE, Int32.reduceToNatClampNeg, Nat.reduceMod, Nat.reduceLT, List.length_cons, List.length_nil, eq_self, true_or, or_true, and_self, implies_true, not_true_eq_false, not_false_eq_true, false_implies, true_implies, forall_const, st_aloadx, st_goto_wx, st_iconstx, st_in1, st_istorex, am_put, am_nlg, kb_Derivation_deriveRound_0, oo_75, oa_75]
  have key : ∀ m i F1 v5 v6 v7 v8, i + m = cn (pD (F 76)) 256 → LI ex n F F1 i 0 → am_W kc_Derivation_deriveRound (am_cl (d + 3)) Q 8 [.ref 75, .int (nI (n + 1)), .ref 65, .int (nI (cn (pD (F 76)) 256)), .int (nI i), v5, v6, v7, v8] [] (ov h F1 J V) := by
    intro m
    induction m with
    | zero =>
      intro i F1 v5 v6 v7 v8 ei l1
      have ei : i = cn (pD (F 76)) 256 := ei
      have K := K F1
      rw [← ei] at K hc ⊢
      rw [jx_Derivation_deriveRound_8]
      simp only [isO_c, ax0, ex_cons, am_get, upz_at, true_and, and_true, Nat.reduceAdd, Nat.reduceLeDiff, Nat.reduceEqDiff, Nat.reduceSub, Int32.reduceOfInt, Int32.reduceAdd, Int32.reduceMul, Int32.reduceSub, ↓reduceIte, Int32.reduceLT, Int32.reduceLE, Int32.reduceToNatClampNeg, Nat.reduceMod, Nat.reduceLT, List.length_cons, List.length_nil, eq_self, true_or, or_true, and_self, implies_true, not_true_eq_false, not_false_eq_true, false_implies, true_implies, forall_const, st_goto_wx, st_iconstx, st_if_icmpx, st_iloadx, st_istorex, st_return_x, am_put, am_nlg, kb_Derivation_deriveRound_8, jx_Derivation_deriveRound_112, kb_Derivation_deriveRound_112, (nk_le (by omega) (by omega) : (nI (i) ≤ nI (i)) = (i ≤ i)), Nat.le_refl]
      exact K l1
    | succ m ih =>
      intro i F1 v5 v6 v7 v8 ei l1
      rw [jx_Derivation_deriveRound_8]
      simp only [isO_c, ax0, ex_cons, am_get, upz_at, true_and, and_true, Nat.reduceAdd, Nat.reduceLeDiff, Nat.reduceEqDiff, Nat.reduceSub, Int32.reduceOfInt, Int32.reduceAdd, Int32.reduceMul, Int32.reduceSub, ↓reduceIte, Int32.reduceLT, Int32.reduceLE, Int32.reduceToNatClampNeg, Nat.reduceMod, Nat.reduceLT, List.length_cons, List.length_nil, eq_self, true_or, or_true, and_self, implies_true, not_true_eq_false, not_false_eq_true, false_implies, true_implies, forall_const, st_goto_wx, st_iconstx, st_if_icmpx, st_iloadx, st_istorex, am_put, am_nlg, kb_Derivation_deriveRound_8, (nk_le (by omega) (by omega) : (nI (cn (pD (F 76)) 256) ≤ nI (i)) = (cn (pD (F 76)) 256 ≤ i)), show ¬ cn (pD (F 76)) 256 ≤ i by omega]
      refine c_drIn hn hI ht (show i < cn (pD (F 76)) 256 by omega) (fun F2 v6 v7 v8 l2 => ?_) (cn (pD (F 76)) 256) 0 F1 _ _ _ (by omega) l1
      simp only [isO_c, ax0, ex_cons, am_get, upz_at, true_and, and_true, Nat.reduceAdd, Nat.reduceLeDiff, Nat.reduceEqDiff, Nat.reduceSub, Int32.reduceOfInt, Int32.reduceAdd, Int32.reduceMul, Int32.reduceSub, ↓reduceIte, Int32.reduceLT, Int32.reduceLE, Int32.reduceToNatClampNeg, Nat.reduceMod, Nat.reduceLT, List.length_cons, List.length_nil, eq_self, true_or, or_true, and_self, implies_true, not_true_eq_false, not_false_eq_true, false_implies, true_implies, forall_const, st_gotox, st_iincx, am_put, am_nlg, jx_Derivation_deriveRound_106, kb_Derivation_deriveRound_106, nk_succ]
      exact ih (i + 1) F2 _ _ _ _ (by omega) l2
  refine key (cn (pD (F 76)) 256) 0 F0 _ _ _ _ (by omega) ⟨fun x _ _ => ?_, fun x _ e => Or.inl ?_, fun a b x _ q => ?_, ?_, ⟨fun x _ _ _ _ _ h6 => o0 x h6, ?_, ?_, fun i _ => ?_⟩, l0⟩
  · rw [o0 76 (by decide), o0 77 (by decide), o0 78 (by decide)]; exact ⟨rfl, rfl, rfl⟩
  · rw [o0 76 (by decide)]; exact e
  · omega
  · rw [o0 75 (by decide), o0 76 (by decide)]; exact h5
  · rw [o0 65 (by decide)]
  · rw [o0 65 (by decide)]
  · rw [o0 75 (by decide)]
end CDW
