/-! ===== the model: derives, the rounds ===== -/
def rdW (ex : Bool) : Nat → Nat → (Nat → Int32) → (Nat → Int32) × Nat
  | 0, n, r => (r, n)
  | j + 1, n, r => if (swA ex (nI (n + 1)) 256 0 (r, false)).2 then rdW ex j (n + 1) (swA ex (nI (n + 1)) 256 0 (r, false)).1 else ((swA ex (nI (n + 1)) 256 0 (r, false)).1, n)
section MPV
variable {d : Nat} {h : am_H} {F : Nat → Nat → Int32} {J : Nat → Nat → Int64} {V : Nat → Nat → Value} {Q : am_Q}
set_option maxRecDepth 20000 in
theorem m_rdW {ex : Bool} (ht : ∀ k, k < 64 → F 106 k = tbV ex k) : ∀ j n F1 v3 v4 v5, cnM (F1 105) 256 < j → n + j ≤ 1000 → Pm F F1 → F1 106 = F 106 → nuV (F1 105) → (∀ F', Pm F F' → F' 106 = F 106 → nuV (F' 105) → F' 105 = (rdW ex j n (F1 105)).1 → Q (some (.int (nI (rdW ex j n (F1 105)).2))) (ov h F' J V)) → am_W kc_Model_derives (am_cl (d + 6)) Q 137 [.ref 82, .int (nI n), .int (b2i true), v3, v4, v5] [] (ov h F1 J V) := by
  intro j
  induction j with
  | zero => intro n F1 v3 v4 v5 c; exact absurd c (Nat.not_lt_zero _)
  | succ j ih =>
    intro n F1 v3 v4 v5 c hn g1 g2 g3 K
    unfold rdW at K
    have hr : ¬ nI (n + 1) = -1 := by rw [nI_neg1 (show n + 1 < 2147483648 by omega)]; exact not_false
    obtain ⟨s1, s2⟩ := swA_cn (ex := ex) hr 256 0 (F1 105, false) (by decide) g3
    rw [jx_Model_derives_137]
    simp only [ax0, ex_cons, am_get, upz_at, true_and, and_true, Nat.reduceAdd, Nat.reduceLeDiff, Nat.reduceEqDiff, Nat.reduceSub, Int32.reduceOfInt, Int32.reduceAdd, Int32.reduceMul, Int32.reduceSub, ↓reduceIte, Int32.reduceLT, Int32.reduceLE, Int32.reduceToNatClampNeg, Nat.reduceMod, Nat.reduceLT, List.length_cons, List.length_nil, eq_self, true_or, or_true, and_self, implies_true, not_true_eq_false, not_false_eq_true, false_implies, true_implies, forall_const, st_goto_w, st_iconst, st_ifCond, st_iinc, st_iload, st_istore, am_put, am_nlg, kb_Model_derives_137, b2i_t, nk_succ]
    refine m_swA ht 256 0 F1 (F1 105, false) v4 v5 (by decide) g1 g2 rfl g3 (fun F2 v4 v5 q1 q2 q3 q4 => ?_)
    revert K s1 s2 q3 q4
    generalize swA ex (nI (n + 1)) 256 0 (F1 105, false) = S
    intro K s1 s2 q3 q4
    simp only [ax0, ex_cons, am_get, upz_at, true_and, and_true, Nat.reduceAdd, Nat.reduceLeDiff, Nat.reduceEqDiff, Nat.reduceSub, Int32.reduceOfInt, Int32.reduceAdd, Int32.reduceMul, Int32.reduceSub, ↓reduceIte, Int32.reduceLT, Int32.reduceLE, Int32.reduceToNatClampNeg, Nat.reduceMod, Nat.reduceLT, List.length_cons, List.length_nil, eq_self, true_or, or_true, and_self, implies_true, not_true_eq_false, not_false_eq_true, false_implies, true_implies, forall_const, st_goto, jx_Model_derives_266, kb_Model_derives_266]
    cases e : S.2 with
    | true =>
      rw [e, if_pos rfl, ← q3] at K
      have hc : cnM (F2 105) 256 < j := by
        rcases s2 with z | ⟨_, z⟩
        · rw [z] at e; cases e
        · rw [q3]; exact Nat.lt_of_lt_of_le z (Nat.le_of_lt_succ c)
      exact ih (n + 1) F2 _ v4 v5 hc (by omega) q1 q2 (by rw [q3]; exact s1) K
    | false =>
      rw [e, if_neg Bool.false_ne_true] at K
      rw [jx_Model_derives_137]
      simp only [ax0, ex_cons, am_get, upz_at, true_and, and_true, Nat.reduceAdd, Nat.reduceLeDiff, Nat.reduceEqDiff, Nat.reduceSub, Int32.reduceOfInt, Int32.reduceAdd, Int32.reduceMul, Int32.reduceSub, ↓reduceIte, Int32.reduceLT, Int32.reduceLE, Int32.reduceToNatClampNeg, Nat.reduceMod, Nat.reduceLT, List.length_cons, List.length_nil, eq_self, true_or, or_true, and_self, implies_true, not_true_eq_false, not_false_eq_true, false_implies, true_implies, forall_const, st_goto_w, st_iconst, st_ifCond, st_iinc, st_iload, st_ireturn, st_istore, st_isub, am_put, am_nlg, kb_Model_derives_137, jx_Model_derives_269, kb_Model_derives_269, b2i_f, show nI (n + 1) - 1 = nI n from nk_sub (b := 1) (by omega)]
      exact K F2 q1 q2 (by rw [q3]; exact s1) q3
end MPV
