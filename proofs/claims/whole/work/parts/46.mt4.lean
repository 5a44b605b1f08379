/-! ===== the model: heaps ===== -/
def tellz (T : tT) (C : cT) (ex : Bool) : tT := if ex && C.2.1 then tz (tz T C.1 C.2.2.2.1 C.2.2.1 true) 1 C.2.2.2.2 0 true else tz T C.1 C.2.2.2.1 C.2.2.1 true
theorem tz_len (T : tT) (how : Nat) (set : Nat → Bool) (who : Nat) (so : Bool) : (tz T how set who so).2.1.length ≤ T.2.1.length + 1 := by
  unfold tz
  split
  · exact Nat.le_succ _
  · split
    · exact Nat.le_succ _
    · simp
theorem tellz_len (T : tT) (C : cT) (ex : Bool) : (tellz T C ex).2.1.length ≤ T.2.1.length + 2 := by
  unfold tellz
  split
  · exact Nat.le_trans (tz_len _ _ _ _ _) (by have := tz_len T C.1 C.2.2.2.1 C.2.2.1 true; omega)
  · have := tz_len T C.1 C.2.2.2.1 C.2.2.1 true; omega
def hz (cs : Nat → cT) (ex : Bool) (hp : Nat) : Nat → tT
  | 0 => tE
  | k + 1 => if hp.testBit k then tellz (hz cs ex hp k) (cs k) ex else hz cs ex hp k
theorem hz_len (cs : Nat → cT) (ex : Bool) (hp : Nat) : ∀ k, (hz cs ex hp k).2.1.length ≤ 2 * k
  | 0 => Nat.le_refl _
  | k + 1 => by
    unfold hz
    have := hz_len cs ex hp k
    split
    · have := tellz_len (hz cs ex hp k) (cs k) ex; omega
    · omega
section MT4
variable {d : Nat} {h : am_H} {F : Nat → Nat → Int32} {J : Nat → Nat → Int64} {V : Nat → Nat → Value} {Q : am_Q}
set_option maxRecDepth 20000 in
theorem m_tellsOf {T : tT} (hT : MT F T) (hw : T.2.1.length + 2 ≤ 40) {s : Nat} (hs : s < 14) {C : cT} (hC : CR (F 84) s C) {ex : Bool} (K : ∀ F', MT F' (tellz T C ex) → St F F' → Q none (ov h F' J V)) : am_cl (d + 2) 229 [.ref 82, .int (nI s), .int (b2i ex)] (ov h F J V) Q := by
  obtain ⟨said, hsub, who, set, sub⟩ := C
  obtain ⟨c1, c2, c3, c4, c5, c6⟩ := hC
  dsimp only at c1 c2 c3 c4 c5 c6
  have fin : ∀ F1, MT F1 (tz T said set who true) → St F F1 → am_ex (am_cl (d + 1)) (am_W kc_Model_tellsOf (am_cl (d + 1)) Q) Q (kb_Model_tellsOf_0.drop 22) [.ref 82, .int (nI s), .int (b2i ex), .int (nI (183 * s))] [] (ov h F1 J V) := by
    intro F1 h1 h2
    simp only [ax0, ex_cons, am_get, upz_at, true_and, and_true, Nat.reduceAdd, Nat.reduceLeDiff, Nat.reduceEqDiff, Nat.reduceSub, Int32.reduceOfInt, ↓reduceIte, Int32.reduceLT, Int32.reduceLE, Int32.reduceToNatClampNeg, Nat.reduceMod, Nat.reduceLT, List.length_cons, List.length_nil, eq_self, true_or, or_true, and_self, implies_true, not_true_eq_false, not_false_eq_true, false_implies, true_implies, forall_const, st_aload, st_getfield, st_goto_w, st_iadd, st_iaload, st_iconst, st_ifCond, st_if_icmp, st_iload, st_imul, st_in5, st_istore, am_put, am_nlg, kb_Model_tellsOf_0, og_82_2, oo_82, oa_82, oa_84, or_84, List.drop_succ_cons, List.drop_zero]
    have h84 := h2.k
    refine ifb (fun e => ?_) (fun e => ?_)
    · subst e
      simp only [ax0, ex_cons, am_get, upz_at, true_and, and_true, Nat.reduceAdd, Nat.reduceLeDiff, Nat.reduceEqDiff, Nat.reduceSub, Int32.reduceOfInt, ↓reduceIte, Int32.reduceLT, Int32.reduceLE, Int32.reduceToNatClampNeg, Nat.reduceMod, Nat.reduceLT, List.length_cons, List.length_nil, eq_self, true_or, or_true, and_self, implies_true, not_true_eq_false, not_false_eq_true, false_implies, true_implies, forall_const, st_return_, jx_Model_tellsOf_69, kb_Model_tellsOf_69]
      exact K F1 h1 h2
    · subst e
      simp only [ax0, ex_cons, am_get, upz_at, true_and, and_true, Nat.reduceAdd, Nat.reduceLeDiff, Nat.reduceEqDiff, Nat.reduceSub, Int32.reduceOfInt, ↓reduceIte, Int32.reduceLT, Int32.reduceLE, Int32.reduceToNatClampNeg, Nat.reduceMod, Nat.reduceLT, List.length_cons, List.length_nil, eq_self, true_or, or_true, and_self, implies_true, not_true_eq_false, not_false_eq_true, false_implies, true_implies, forall_const, st_aload, st_getfield, st_goto_w, st_iadd, st_iaload, st_iconst, st_ifCond, st_if_icmp, st_iload, st_imul, st_in5, st_istore, am_put, am_nlg, kb_Model_tellsOf_0, og_82_2, oo_82, oa_82, oa_84, or_84, show nI (183 * s) + (165 : Int32) = nI (183 * s + 165) from nk_add (183 * s) (165), show nI (183 * s) + (167 : Int32) = nI (183 * s + 167) from nk_add (183 * s) (167), show nI (183 * s + 167) + (8 : Int32) = nI (183 * s + 167 + 8) from nk_add (183 * s + 167) (8), show nI (183 * s + 165) + (1 : Int32) = nI (183 * s + 165 + 1) from nk_add (183 * s + 165) (1), nk_neg (show 183 * s + 165 + 1 < 2147483648 by omega), nk_cl (show 183 * s + 165 + 1 < 2147483648 by omega), show 183 * s + 165 + 1 < 2698 by omega, h84, show F 84 (183 * s + 165 + 1) = b2i hsub from c3]
      refine ifnb1 (fun e => ?_) (fun e => ?_)
      · subst e
        simp only [ax0, ex_cons, am_get, upz_at, true_and, and_true, Nat.reduceAdd, Nat.reduceLeDiff, Nat.reduceEqDiff, Nat.reduceSub, Int32.reduceOfInt, ↓reduceIte, Int32.reduceLT, Int32.reduceLE, Int32.reduceToNatClampNeg, Nat.reduceMod, Nat.reduceLT, List.length_cons, List.length_nil, eq_self, true_or, or_true, and_self, implies_true, not_true_eq_false, not_false_eq_true, false_implies, true_implies, forall_const, st_return_, jx_Model_tellsOf_69, kb_Model_tellsOf_69]
        exact K F1 h1 h2
      · subst e
        refine m_tells1 (T := tz T said set who true) (how := 1) (so := true) h1 (by have := tz_len T said set who true; omega) (by omega) (w := 0) (set := sub) (fun r hr => by rw [h84]; exact c6 r hr) (Or.inr ⟨rfl, rfl⟩) (fun F2 h3 h4 => ?_)
        simp only [ax0, ex_cons, am_get, upz_at, true_and, and_true, Nat.reduceAdd, Nat.reduceLeDiff, Nat.reduceEqDiff, Nat.reduceSub, Int32.reduceOfInt, ↓reduceIte, Int32.reduceLT, Int32.reduceLE, Int32.reduceToNatClampNeg, Nat.reduceMod, Nat.reduceLT, List.length_cons, List.length_nil, eq_self, true_or, or_true, and_self, implies_true, not_true_eq_false, not_false_eq_true, false_implies, true_implies, forall_const, st_aload, st_getfield, st_goto_w, st_iadd, st_iaload, st_iconst, st_ifCond, st_if_icmp, st_iload, st_imul, st_in5, st_istore, st_return_, am_put, am_nlg, kb_Model_tellsOf_0, og_82_2, oo_82, jx_Model_tellsOf_69, kb_Model_tellsOf_69, oa_82, oa_84, or_84]
        exact K F2 h3 (h2.tr h4)
  simp only [ax0, ex_cons, am_get, upz_at, true_and, and_true, Nat.reduceAdd, Nat.reduceLeDiff, Nat.reduceEqDiff, Nat.reduceSub, Int32.reduceOfInt, ↓reduceIte, Int32.reduceLT, Int32.reduceLE, Int32.reduceToNatClampNeg, Nat.reduceMod, Nat.reduceLT, List.length_cons, List.length_nil, eq_self, true_or, or_true, and_self, implies_true, not_true_eq_false, not_false_eq_true, false_implies, true_implies, forall_const, st_aload, st_getfield, st_goto_w, st_iadd, st_iaload, st_iconst, st_ifCond, st_if_icmp, st_iload, st_imul, st_in5, st_istore, am_put, am_nlg, kb_Model_tellsOf_0, og_82_2, oo_82, oa_82, oa_84, or_84, cx_Model_tellsOf, show (183 : Int32) * nI (s) = nI (183 * (s)) from nk_mul (183) (s), show nI (183 * s) + (165 : Int32) = nI (183 * s + 165) from nk_add (183 * s) (165), show nI (183 * s) + (167 : Int32) = nI (183 * s + 167) from nk_add (183 * s) (167), show nI (183 * s) + (2 : Int32) = nI (183 * s + 2) from nk_add (183 * s) (2), nk_neg (show 183 * s + 165 < 2147483648 by omega), nk_cl (show 183 * s + 165 < 2147483648 by omega), nk_neg (show 183 * s + 2 < 2147483648 by omega), nk_cl (show 183 * s + 2 < 2147483648 by omega), show 183 * s + 165 < 2698 by omega, show 183 * s + 2 < 2698 by omega, c1]
  rcases (show said = 0 ∨ said = 1 ∨ said = 2 by omega) with e | e | e <;> subst e
  · exact m_tells0 (T := T) (how := 0) (so := true) hT (by omega) (w := who) (set := set) (fun r hr => c5 r hr) (Or.inl ⟨rfl, rfl⟩) (fun F1 h1 h2 => fin F1 h1 h2)
  · exact m_tells1 (T := T) (how := 1) (so := true) hT (by omega) (by omega) (w := who) (set := set) (fun r hr => c5 r hr) (Or.inr ⟨rfl, rfl⟩) (fun F1 h1 h2 => fin F1 h1 h2)
  · obtain ⟨c7, c8⟩ := c4 rfl
    rw [c7]
    exact m_tells2 (T := T) (so := true) hT (by omega) c8 (set := set) (fun r hr => c5 r hr) (fun F1 h1 h2 => fin F1 h1 h2)
set_option maxRecDepth 20000 in
theorem m_isTold {ex : Bool} (he : F 84 2697 = b2i ex) (K : Q (some (.int (b2i ex))) (ov h F J V)) : am_cl (d + 1) 230 [.ref 82] (ov h F J V) Q := by
  simp only [ax0, ex_cons, am_get, upz_at, true_and, and_true, Nat.reduceAdd, Nat.reduceLeDiff, Nat.reduceEqDiff, Nat.reduceSub, Int32.reduceOfInt, ↓reduceIte, Int32.reduceLT, Int32.reduceLE, Int32.reduceToNatClampNeg, Nat.reduceMod, Nat.reduceLT, List.length_cons, List.length_nil, eq_self, true_or, or_true, and_self, implies_true, not_true_eq_false, not_false_eq_true, false_implies, true_implies, forall_const, st_aload, st_freturn, st_getfield, st_goto, st_goto_w, st_iaload, st_iconst, st_if_icmp, cx_Model_isTold, kb_Model_isTold_0, og_82_2, jx_Model_isTold_16, kb_Model_isTold_16, jx_Model_isTold_17, kb_Model_isTold_17, oa_82, oa_84, or_84, he]
  refine ifnb1 (fun e => ?_) (fun e => ?_) <;> subst e <;> exact K
set_option maxRecDepth 20000 in
theorem m_heaps {cs : Nat → cT} {ex : Bool} (he : F 84 2697 = b2i ex) {hp : Nat} (hhp : hp < 4096) (hC : ∀ k, k < 12 → hp.testBit k = true → CR (F 84) k (cs k)) (K : ∀ F', MT F' (hz cs ex hp 12) → St F F' → Q none (ov h F' J V)) : am_cl (d + 3) 231 [.ref 82, .int (nI hp)] (ov h F J V) Q := by
  simp only [ax0, ex_cons, am_get, upz_at, true_and, and_true, Nat.reduceAdd, Nat.reduceLeDiff, Nat.reduceEqDiff, Nat.reduceSub, Int32.reduceOfInt, ↓reduceIte, Int32.reduceLT, Int32.reduceLE, Int32.reduceToNatClampNeg, Nat.reduceMod, Nat.reduceLT, List.length_cons, List.length_nil, eq_self, true_or, or_true, and_self, implies_true, not_true_eq_false, not_false_eq_true, false_implies, true_implies, forall_const, st_aload, st_goto, st_goto_w, st_iconst, st_iinc, st_in1, st_istore, st_return_, am_put, am_nlg, cx_Model_heaps, kb_Model_heaps_0, oo_82, jx_Model_heaps_30, kb_Model_heaps_30, jx_Model_heaps_36, kb_Model_heaps_36, oa_82]
  refine m_empties (fun F0 h1 h2 => ?_)
  simp only [ax0, ex_cons, am_get, upz_at, true_and, and_true, Nat.reduceAdd, Nat.reduceLeDiff, Nat.reduceEqDiff, Nat.reduceSub, Int32.reduceOfInt, ↓reduceIte, Int32.reduceLT, Int32.reduceLE, Int32.reduceToNatClampNeg, Nat.reduceMod, Nat.reduceLT, List.length_cons, List.length_nil, eq_self, true_or, or_true, and_self, implies_true, not_true_eq_false, not_false_eq_true, false_implies, true_implies, forall_const, st_aload, st_goto_w, st_iconst, st_in1, st_istore, am_put, am_nlg, kb_Model_heaps_0, oo_82, oa_82]
  have key : ∀ j k F1, k + j = 12 → MT F1 (hz cs ex hp k) → St F F1 → am_W kc_Model_heaps (am_cl (d + 2)) Q 6 [.ref 82, .int (nI hp), .int (nI k)] [] (ov h F1 J V) := by
    intro j
    induction j with
    | zero =>
      intro k F1 e g1 g2
      have e' : k = 12 := e
      subst e'
      rw [jx_Model_heaps_6]
      simp only [ax0, ex_cons, am_get, upz_at, true_and, and_true, Nat.reduceAdd, Nat.reduceLeDiff, Nat.reduceEqDiff, Nat.reduceSub, Int32.reduceOfInt, ↓reduceIte, Int32.reduceLT, Int32.reduceLE, Int32.reduceToNatClampNeg, Nat.reduceMod, Nat.reduceLT, List.length_cons, List.length_nil, eq_self, true_or, or_true, and_self, implies_true, not_true_eq_false, not_false_eq_true, false_implies, true_implies, forall_const, st_aload, st_goto_w, st_iand, st_iconst, st_if_icmp, st_iload, st_in1, st_in3, st_ishr, st_return_, kb_Model_heaps_6, oo_82, jx_Model_heaps_36, kb_Model_heaps_36, oa_82, show ((12 : Int32) ≤ nI (12)) = (12 ≤ 12) from nk_le (a := 12) (b := 12) (by omega) (by omega)]
      exact K F1 g1 g2
    | succ j ih =>
      intro k F1 e g1 g2
      rw [jx_Model_heaps_6]
      simp only [ax0, ex_cons, am_get, upz_at, true_and, and_true, Nat.reduceAdd, Nat.reduceLeDiff, Nat.reduceEqDiff, Nat.reduceSub, Int32.reduceOfInt, ↓reduceIte, Int32.reduceLT, Int32.reduceLE, Int32.reduceToNatClampNeg, Nat.reduceMod, Nat.reduceLT, List.length_cons, List.length_nil, eq_self, true_or, or_true, and_self, implies_true, not_true_eq_false, not_false_eq_true, false_implies, true_implies, forall_const, st_aload, st_goto, st_goto_w, st_iand, st_iconst, st_if_icmp, st_iinc, st_iload, st_in1, st_in3, st_ishr, am_put, am_nlg, kb_Model_heaps_6, oo_82, jx_Model_heaps_30, kb_Model_heaps_30, oa_82, show ((12 : Int32) ≤ nI (k)) = (12 ≤ k) from nk_le (a := 12) (b := k) (by omega) (by omega), show ¬ 12 ≤ k by omega, nk_bit (show hp < 2147483648 by omega) (show k < 32 by omega), nk_succ]
      refine ifnb1 (fun e2 => ?_) (fun e2 => ?_)
      · refine ih (k + 1) F1 (by omega) ?_ g2
        unfold hz
        rw [e2]
        exact g1
      · refine m_isTold (ex := ex) (by rw [g2.k]; exact he) ?_
        simp only [ax0, ex_cons, am_get, upz_at, true_and, and_true, Nat.reduceAdd, Nat.reduceLeDiff, Nat.reduceEqDiff, Nat.reduceSub, Int32.reduceOfInt, ↓reduceIte, Int32.reduceLT, Int32.reduceLE, Int32.reduceToNatClampNeg, Nat.reduceMod, Nat.reduceLT, List.length_cons, List.length_nil, eq_self, true_or, or_true, and_self, implies_true, not_true_eq_false, not_false_eq_true, false_implies, true_implies, forall_const, st_aload, st_goto_w, st_iand, st_iconst, st_if_icmp, st_iload, st_in1, st_in3, st_ishr, kb_Model_heaps_6, oo_82, oa_82]
        refine m_tellsOf g1 (by have := hz_len cs ex hp k; omega) (by omega) (C := cs k) (by rw [g2.k]; exact hC k (by omega) e2) (fun F2 g3 g4 => ?_)
        simp only [ax0, ex_cons, am_get, upz_at, true_and, and_true, Nat.reduceAdd, Nat.reduceLeDiff, Nat.reduceEqDiff, Nat.reduceSub, Int32.reduceOfInt, ↓reduceIte, Int32.reduceLT, Int32.reduceLE, Int32.reduceToNatClampNeg, Nat.reduceMod, Nat.reduceLT, List.length_cons, List.length_nil, eq_self, true_or, or_true, and_self, implies_true, not_true_eq_false, not_false_eq_true, false_implies, true_implies, forall_const, st_aload, st_goto, st_goto_w, st_iand, st_iconst, st_if_icmp, st_iinc, st_iload, st_in1, st_in3, st_ishr, am_put, am_nlg, kb_Model_heaps_6, oo_82, jx_Model_heaps_30, kb_Model_heaps_30, oa_82, nk_succ]
        refine ih (k + 1) F2 (by omega) ?_ (g2.tr g4)
        unfold hz
        rw [e2, if_pos rfl]
        exact g3
  exact key 12 0 F0 rfl h1 h2
end MT4
