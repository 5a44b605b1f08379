/-! ===== the class: all sizes in turn ===== -/
theorem cn_zero {f : Nat → Bool} : ∀ (a b : Nat), (∀ i, a ≤ i → f i = false) → cn f (a + b) ≤ a
  | a, 0, _ => cn_le _ _
  | a, b + 1, h => by
    have ih := cn_zero a b h
    show cn f (a + b) + (if f (a + b) then 1 else 0) ≤ a
    rw [h (a + b) (by omega), if_neg Bool.false_ne_true]
    omega
theorem pop_n {k n : Nat} (hk : k < 2 ^ n) (hn : n ≤ 12) : pop k ≤ n := by
  unfold pop
  have := cn_zero (f := fun i => k.testBit i) n (32 - n) (fun i hi => Nat.testBit_lt_two_pow (Nat.lt_of_lt_of_le hk (Nat.pow_le_pow_right (by decide) hi)))
  rwa [show n + (32 - n) = 32 by omega] at this
section CSW
variable {d : Nat} {h : am_H} {F : Nat → Nat → Int32} {J : Nat → Nat → Int64} {V : Nat → Nat → Value} {Q : am_Q}
set_option maxRecDepth 20000 in
theorem c_fsOut (hb : HB h) {X : kT} (hD : DK h F V 34 X) {p : Nat} (hs : SR h p (X.1.2.1 12)) (K : ∀ F' J', FW (F' 64) (mnF (suP X.1) (2 ^ X.1.1)) → Cg F F' → F' 64 0 = F 64 0 → Q none (ov h F' J' V)) : ∀ j s F1 J1 v4, s + j = X.1.1 + 1 → ((∀ k, k < 2 ^ X.1.1 → suP X.1 k = true → s ≤ pop k) ∧ FW (F1 64) (none, 0) ∨ FW (F1 64) (mnF (suP X.1) (2 ^ X.1.1)) ∧ (mnF (suP X.1) (2 ^ X.1.1)).2 ≠ 0) → Cg F F1 → F1 64 0 = F 64 0 → am_W kc_Slips_findSufficing (am_cl (d + 5)) Q 53 [.ref 23, .ref p, .int (nI (2 ^ X.1.1)), .int (nI s), v4] [] (ov h F1 J1 V) := by
  have h12 := hD.1.2.1
  have hN : 2 ^ X.1.1 ≤ 4096 := Nat.pow_le_pow_right (by decide) h12
  intro j
  induction j with
  | zero =>
    intro s F1 J1 v4 es o1 c1 f1
    have es : s = X.1.1 + 1 := es
    have d1 : F1 34 1 = nI X.1.1 := (hD.cgg c1).1.1
    have lt : (nI X.1.1 < nI s) = (X.1.1 < s) := nk_lt (by omega) (by omega)
    rw [jx_Slips_findSufficing_53]
    simp only [isO_c, ax0, ex_cons, am_get, upz_at, true_and, and_true, Nat.reduceAdd, Nat.reduceLeDiff, Nat.reduceEqDiff, Nat.reduceSub, Int32.reduceOfInt, Int32.reduceAdd, Int32.reduceMul, Int32.reduceSub, ↓reduceIte, Int32.reduceLT, Int32.reduceLE, Int32.reduceToNatClampNeg, Nat.reduceMod, Nat.reduceLT, List.length_cons, List.length_nil, eq_self, true_or, or_true, and_self, implies_true, not_true_eq_false, not_false_eq_true, false_implies, true_implies, forall_const, st_aloadx, st_getfieldx, st_goto_wx, st_iconstx, st_ifCondx, st_if_icmpx, st_iloadx, st_istorex, st_return_x, am_put, am_nlg, kb_Slips_findSufficing_53, og_23_1, og_34_1, og_23_7, og_64_2, jx_Slips_findSufficing_124, kb_Slips_findSufficing_124, oa_23, oa_34, oa_64, d1, lt, show X.1.1 < s by omega]
    refine K F1 J1 ?_ c1 f1
    rcases o1 with ⟨a1, a2⟩ | ⟨a1, _⟩
    · rw [mnF_none (fun k hk => ?_)]
      · exact a2
      · cases z : suP X.1 k
        · rfl
        · have := a1 k hk z
          have := pop_n hk h12
          omega
    · exact a1
  | succ j ih =>
    intro s F1 J1 v4 es o1 c1 f1
    have d1 : F1 34 1 = nI X.1.1 := (hD.cgg c1).1.1
    have lt : (nI X.1.1 < nI s) = (X.1.1 < s) := nk_lt (by omega) (by omega)
    rw [jx_Slips_findSufficing_53]
    rcases o1 with ⟨a1, a2⟩ | ⟨a1, a3⟩
    · have e2 : F1 64 2 = 0 := a2.1
      simp only [isO_c, ax0, ex_cons, am_get, upz_at, true_and, and_true, Nat.reduceAdd, Nat.reduceLeDiff, Nat.reduceEqDiff, Nat.reduceSub, Int32.reduceOfInt, Int32.reduceAdd, Int32.reduceMul, Int32.reduceSub, ↓reduceIte, Int32.reduceLT, Int32.reduceLE, Int32.reduceToNatClampNeg, Nat.reduceMod, Nat.reduceLT, List.length_cons, List.length_nil, eq_self, true_or, or_true, and_self, implies_true, not_true_eq_false, not_false_eq_true, false_implies, true_implies, forall_const, st_aloadx, st_getfieldx, st_goto_wx, st_iconstx, st_ifCondx, st_if_icmpx, st_iloadx, st_istorex, am_put, am_nlg, kb_Slips_findSufficing_53, og_23_1, og_34_1, og_23_7, og_64_2, oa_23, oa_34, oa_64, d1, lt, show ¬ X.1.1 < s by omega, e2]
      refine c_fsIn hb (hD.cgg c1) (by omega) hs (fun F2 J2 w2 c2 f2 => ?_) (2 ^ X.1.1) 0 F1 J1 (by omega) a2 (fun _ _ _ _ _ _ => rfl) rfl
      simp only [isO_c, ax0, ex_cons, am_get, upz_at, true_and, and_true, Nat.reduceAdd, Nat.reduceLeDiff, Nat.reduceEqDiff, Nat.reduceSub, Int32.reduceOfInt, Int32.reduceAdd, Int32.reduceMul, Int32.reduceSub, ↓reduceIte, Int32.reduceLT, Int32.reduceLE, Int32.reduceToNatClampNeg, Nat.reduceMod, Nat.reduceLT, List.length_cons, List.length_nil, eq_self, true_or, or_true, and_self, implies_true, not_true_eq_false, not_false_eq_true, false_implies, true_implies, forall_const, st_gotox, st_iincx, am_put, am_nlg, jx_Slips_findSufficing_118, kb_Slips_findSufficing_118, nk_succ]
      refine ih (s + 1) F2 J2 _ (by omega) ?_ (c1.tr c2) (f2.trans f1)
      by_cases z : (fwF (suP X.1) s (2 ^ X.1.1)).2 = 0
      · obtain ⟨b1, b2⟩ := fwF_none z
        rw [b1] at w2
        refine Or.inl ⟨fun k hk q => ?_, w2⟩
        have := a1 k hk q
        by_cases e : pop k = s
        · rw [b2 k hk e] at q; cases q
        · omega
      · rw [← fwF_hit a1 z] at w2 z
        exact Or.inr ⟨w2, z⟩
    · have hl : (mnF (suP X.1) (2 ^ X.1.1)).2 ≤ 4096 := a1.2.1
      have e2 : F1 64 2 = nI (mnF (suP X.1) (2 ^ X.1.1)).2 := a1.1
      have e3 : ¬ nI (mnF (suP X.1) (2 ^ X.1.1)).2 = 0 := nk_ne0 (by omega) (by omega)
      simp only [isO_c, ax0, ex_cons, am_get, upz_at, true_and, and_true, Nat.reduceAdd, Nat.reduceLeDiff, Nat.reduceEqDiff, Nat.reduceSub, Int32.reduceOfInt, Int32.reduceAdd, Int32.reduceMul, Int32.reduceSub, ↓reduceIte, Int32.reduceLT, Int32.reduceLE, Int32.reduceToNatClampNeg, Nat.reduceMod, Nat.reduceLT, List.length_cons, List.length_nil, eq_self, true_or, or_true, and_self, implies_true, not_true_eq_false, not_false_eq_true, false_implies, true_implies, forall_const, st_aloadx, st_getfieldx, st_goto_wx, st_iconstx, st_ifCondx, st_if_icmpx, st_iloadx, st_istorex, st_return_x, am_put, am_nlg, kb_Slips_findSufficing_53, og_23_1, og_34_1, og_23_7, og_64_2, jx_Slips_findSufficing_124, kb_Slips_findSufficing_124, oa_23, oa_34, oa_64, d1, lt, show ¬ X.1.1 < s by omega, e2, e3]
      exact K F1 J1 a1 c1 f1
end CSW
