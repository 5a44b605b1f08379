/-! ===== the class: the heaps of one size that suffice ===== -/
def Cg (F F' : Nat → Nat → Int32) : Prop := ∀ x, x ≠ 47 → x ≠ 51 → x ≠ 67 → x ≠ 71 → x ≠ 64 → F' x = F x
theorem Cg.tr {F F1 F2 : Nat → Nat → Int32} (a : Cg F F1) (b : Cg F1 F2) : Cg F F2 := fun x h1 h2 h3 h4 h5 => (b x h1 h2 h3 h4 h5).trans (a x h1 h2 h3 h4 h5)
theorem Cf.cg {F F' : Nat → Nat → Int32} (a : Cf F F') : Cg F F' := fun x h1 h2 h3 h4 _ => a x h1 h2 h3 h4
theorem DK.cgg {h : am_H} {F F' : Nat → Nat → Int32} {V : Nat → Nat → Value} {X : kT} (hD : DK h F V 34 X) (c : Cg F F') : DK h F' V 34 X := hD.cg (fun i _ => by rw [c 34 (by decide) (by decide) (by decide) (by decide) (by decide)]) (c 37 (by decide) (by decide) (by decide) (by decide) (by decide)) rfl rfl rfl
theorem fwF_A {p : Nat → Bool} {s k : Nat} : fwF p s (k + 1) = (if decide (pop k = s) && p k then fwA (fwF p s k) k else fwF p s k) := rfl
theorem fwF_le {p : Nat → Bool} {s : Nat} : ∀ k, (fwF p s k).2 ≤ k
  | 0 => Nat.le_refl _
  | k + 1 => by
    have ih := fwF_le (p := p) (s := s) k
    rw [fwF_S]
    split
    · cases z : (fwF p s k).1
      · show 1 ≤ k + 1; omega
      · show (fwF p s k).2 + 1 ≤ k + 1; omega
    · omega
section CSV
variable {d : Nat} {h : am_H} {F : Nat → Nat → Int32} {J : Nat → Nat → Int64} {V : Nat → Nat → Value} {Q : am_Q}
set_option maxRecDepth 20000 in
theorem c_fsIn (hb : HB h) {X : kT} (hD : DK h F V 34 X) {p s : Nat} (hss : s < 4096) (hs : SR h p (X.1.2.1 12)) (K : ∀ F' J', FW (F' 64) (fwF (suP X.1) s (2 ^ X.1.1)) → Cg F F' → F' 64 0 = F 64 0 → am_W kc_Slips_findSufficing (am_cl (d + 5)) Q 118 [.ref 23, .ref p, .int (nI (2 ^ X.1.1)), .int (nI s), .int (nI (2 ^ X.1.1))] [] (ov h F' J' V)) : ∀ j k F1 J1, k + j = 2 ^ X.1.1 → FW (F1 64) (fwF (suP X.1) s k) → Cg F F1 → F1 64 0 = F 64 0 → am_W kc_Slips_findSufficing (am_cl (d + 5)) Q 77 [.ref 23, .ref p, .int (nI (2 ^ X.1.1)), .int (nI s), .int (nI k)] [] (ov h F1 J1 V) := by
  have hN : 2 ^ X.1.1 ≤ 4096 := Nat.pow_le_pow_right (by decide) hD.1.2.1
  generalize hNN : 2 ^ X.1.1 = N at *
  intro j
  induction j with
  | zero =>
    intro k F1 J1 ek w1 c1 f1
    have ek : k = N := ek
    subst ek
    rw [jx_Slips_findSufficing_77]
    simp only [isO_c, ax0, ex_cons, am_get, upz_at, true_and, and_true, Nat.reduceAdd, Nat.reduceLeDiff, Nat.reduceEqDiff, Nat.reduceSub, Int32.reduceOfInt, Int32.reduceAdd, Int32.reduceMul, Int32.reduceSub, ↓reduceIte, Int32.reduceLT, Int32.reduceLE, Int32.reduceToNatClampNeg, Nat.reduceMod, Nat.reduceLT, List.length_cons, List.length_nil, eq_self, true_or, or_true, and_self, implies_true, not_true_eq_false, not_false_eq_true, false_implies, true_implies, forall_const, st_aloadx, st_getfieldx, st_goto_wx, st_ifCondx, st_if_icmpx, st_iloadx, st_in3, st_st1, kb_Slips_findSufficing_77, oo_23, og_23_7, oo_64, oa_23, oa_64, (nk_le (by omega) (by omega) : (nI (k) ≤ nI (k)) = (k ≤ k)), Nat.le_refl]
    exact K F1 J1 w1 c1 f1
  | succ j ih =>
    intro k F1 J1 ek w1 c1 f1
    have ih := ih (k + 1)
    rw [fwF_A] at ih
    rw [jx_Slips_findSufficing_77]
    simp only [isO_c, ax0, ex_cons, am_get, upz_at, true_and, and_true, Nat.reduceAdd, Nat.reduceLeDiff, Nat.reduceEqDiff, Nat.reduceSub, Int32.reduceOfInt, Int32.reduceAdd, Int32.reduceMul, Int32.reduceSub, ↓reduceIte, Int32.reduceLT, Int32.reduceLE, Int32.reduceToNatClampNeg, Nat.reduceMod, Nat.reduceLT, List.length_cons, List.length_nil, eq_self, true_or, or_true, and_self, implies_true, not_true_eq_false, not_false_eq_true, false_implies, true_implies, forall_const, st_aloadx, st_getfieldx, st_goto_wx, st_ifCondx, st_if_icmpx, st_iloadx, st_in3, st_st1, kb_Slips_findSufficing_77, oo_23, og_23_7, oo_64, oa_23, oa_64, (nk_le (by omega) (by omega) : (nI (N) ≤ nI (k)) = (N ≤ k)), show ¬ N ≤ k by omega]
    refine c_bitCountI (show k < 4096 by omega) ?_
    simp only [isO_c, ax0, ex_cons, am_get, upz_at, true_and, and_true, Nat.reduceAdd, Nat.reduceLeDiff, Nat.reduceEqDiff, Nat.reduceSub, Int32.reduceOfInt, Int32.reduceAdd, Int32.reduceMul, Int32.reduceSub, ↓reduceIte, Int32.reduceLT, Int32.reduceLE, Int32.reduceToNatClampNeg, Nat.reduceMod, Nat.reduceLT, List.length_cons, List.length_nil, eq_self, true_or, or_true, and_self, implies_true, not_true_eq_false, not_false_eq_true, false_implies, true_implies, forall_const, st_aloadx, st_getfieldx, st_gotox, st_goto_wx, st_ifCondx, st_if_icmpx, st_iincx, st_iloadx, st_in3, st_st1, am_put, am_nlg, kb_Slips_findSufficing_77, oo_23, og_23_7, oo_64, jx_Slips_findSufficing_112, kb_Slips_findSufficing_112, oa_23, oa_64, nk_succ]
    refine And.intro (fun q => ?_) (fun q => ?_)
    · have q : ¬ pop k = s := fun e => q (by rw [e])
      rw [decide_eq_false q, Bool.false_and, if_neg Bool.false_ne_true] at ih
      exact ih F1 J1 (by omega) w1 c1 f1
    · have q : pop k = s := by
        have q := Classical.not_not.mp q
        have q := congrArg Int32.toInt q
        have := pop_le k
        rw [nk_toInt (by omega), nk_toInt (by omega)] at q
        omega
      rw [decide_eq_true q, Bool.true_and] at ih
      refine c_suffices hb (hD.cgg c1) (by rw [hNN]; omega) hs (fun F2 J2 c2 => ?_)
      have w2 : F2 64 = F1 64 := c2 64 (by decide) (by decide) (by decide) (by decide)
      cases z : suP X.1 k
      · rw [z, if_neg Bool.false_ne_true] at ih
        simp only [isO_c, ax0, ex_cons, am_get, upz_at, true_and, and_true, Nat.reduceAdd, Nat.reduceLeDiff, Nat.reduceEqDiff, Nat.reduceSub, Int32.reduceOfInt, Int32.reduceAdd, Int32.reduceMul, Int32.reduceSub, ↓reduceIte, Int32.reduceLT, Int32.reduceLE, Int32.reduceToNatClampNeg, Nat.reduceMod, Nat.reduceLT, List.length_cons, List.length_nil, eq_self, true_or, or_true, and_self, implies_true, not_true_eq_false, not_false_eq_true, false_implies, true_implies, forall_const, st_aloadx, st_getfieldx, st_gotox, st_goto_wx, st_ifCondx, st_if_icmpx, st_iincx, st_iloadx, st_in3, st_st1, am_put, am_nlg, kb_Slips_findSufficing_77, oo_23, og_23_7, oo_64, jx_Slips_findSufficing_112, kb_Slips_findSufficing_112, oa_23, oa_64, show b2i false = (0 : Int32) from rfl, nk_succ]
        exact ih F2 J2 (by omega) (by rw [w2]; exact w1) (c1.tr c2.cg) (by rw [w2]; exact f1)
      · rw [z, if_pos rfl] at ih
        simp only [isO_c, ax0, ex_cons, am_get, upz_at, true_and, and_true, Nat.reduceAdd, Nat.reduceLeDiff, Nat.reduceEqDiff, Nat.reduceSub, Int32.reduceOfInt, Int32.reduceAdd, Int32.reduceMul, Int32.reduceSub, ↓reduceIte, Int32.reduceLT, Int32.reduceLE, Int32.reduceToNatClampNeg, Nat.reduceMod, Nat.reduceLT, List.length_cons, List.length_nil, eq_self, true_or, or_true, and_self, implies_true, not_true_eq_false, not_false_eq_true, false_implies, true_implies, forall_const, st_aloadx, st_getfieldx, st_goto_wx, st_ifCondx, st_if_icmpx, st_iloadx, st_in3, st_st1, kb_Slips_findSufficing_77, oo_23, og_23_7, oo_64, oa_23, oa_64, show b2i true = (1 : Int32) from rfl]
        rw [← q]
        have hl := fwF_le (p := suP X.1) (s := s) k
        refine c_fwNote (Or.inr rfl) (o := fwF (suP X.1) s k) (by rw [w2]; exact w1) (by omega) (fun F3 o3 f3 w3 => ?_)
        simp only [isO_c, ax0, ex_cons, am_get, upz_at, true_and, and_true, Nat.reduceAdd, Nat.reduceLeDiff, Nat.reduceEqDiff, Nat.reduceSub, Int32.reduceOfInt, Int32.reduceAdd, Int32.reduceMul, Int32.reduceSub, ↓reduceIte, Int32.reduceLT, Int32.reduceLE, Int32.reduceToNatClampNeg, Nat.reduceMod, Nat.reduceLT, List.length_cons, List.length_nil, eq_self, true_or, or_true, and_self, implies_true, not_true_eq_false, not_false_eq_true, false_implies, true_implies, forall_const, st_aloadx, st_getfieldx, st_gotox, st_goto_wx, st_ifCondx, st_if_icmpx, st_iincx, st_iloadx, st_in3, st_st1, am_put, am_nlg, kb_Slips_findSufficing_77, oo_23, og_23_7, oo_64, jx_Slips_findSufficing_112, kb_Slips_findSufficing_112, oa_23, oa_64, nk_succ]
        rw [q]
        exact ih F3 J2 (by omega) w3 ((c1.tr c2.cg).tr (fun x _ _ _ _ h5 => o3 x h5)) (by rw [f3, w2]; exact f1)
end CSV
