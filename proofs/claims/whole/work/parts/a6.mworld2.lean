/-! ===== the model: laysWorld, the row ===== -/
theorem mem_pab {pre : List Nat} {a b r : Nat} : r ∈ pre ++ [a] ++ [b] ↔ r ∈ pre ∨ r = a ∨ r = b := by
  rw [List.mem_append, List.mem_append, List.mem_singleton, List.mem_singleton, or_assoc]
theorem mem_pba {pre : List Nat} {a b r : Nat} (h : r ∈ pre ++ [a] ++ [b]) : r ∈ pre ++ [b] ++ [a] := by
  rw [mem_pab] at h ⊢
  rcases h with y | y | y
  · exact Or.inl y
  · exact Or.inr (Or.inr y)
  · exact Or.inr (Or.inl y)
theorem mem_paa {pre : List Nat} {a r : Nat} (h : r ∈ pre ++ [a] ++ [a]) : r ∈ pre ++ [a] := by
  rw [mem_pab] at h
  rcases h with y | y | y
  · exact List.mem_append_left _ y
  · exact List.mem_append_right _ (List.mem_singleton.mpr y)
  · exact List.mem_append_right _ (List.mem_singleton.mpr y)
section MWO
variable {d : Nat} {h : am_H} {F : Nat → Nat → Int32} {J : Nat → Nat → Int64} {V : Nat → Nat → Value} {Q : am_Q}
set_option maxRecDepth 20000 in
theorem m_lwRow {T : tT} (hl : T.2.1.length ≤ 25) {N : Nat} (hN : N ≤ 29) (hmin : ∀ M, M < N → ¬ exW T [] M) (hex : exW T [] N) (K : ∀ F' l, Py F F' → IsR T l → WRow F' l → Q none (ov h F' J V)) :
    ∀ j (pre : List Nat) i F1, pre.length + j = N → i ≤ (lsM T 256).length → Py F F1 → RG F1 (lsM T 256) (mkM T) → F1 82 38 = nI N → (∀ r ∈ pre, ffT T r) → exW T pre j → (0 < j → ¬ exW T pre (j - 1)) → (0 < j → ∀ i', i' < i → ¬ exW T (pre ++ [(lsM T 256).getD i' 0]) (j - 1)) → (∀ p, p < pre.length → F1 103 p = nI (pre.getD p 0) ∧ exW T (pre.take (p + 1)) (N - (p + 1)) ∧ ∀ r, r < pre.getD p 0 → ffT T r → ¬ exW T (pre.take p ++ [r]) (N - (p + 1))) →
    am_W kc_Model_laysWorld (am_cl (d + 31)) Q 47 [.ref 82, .int (nI (lfT T pre)), .int (nI i), .int (nI pre.length)] [] (ov h F1 J V) := by
  intro j
  induction j with
  | zero =>
    intro pre i F1 ep hi p1 rg h38 hf he hm hu hr
    have ep : pre.length = N := ep
    rw [jx_Model_laysWorld_47]
    simp only [ax0, ex_cons, am_get, upz_at, true_and, and_true, Nat.reduceAdd, Nat.reduceLeDiff, Nat.reduceEqDiff, Nat.reduceSub, Int32.reduceOfInt, Int32.reduceAdd, Int32.reduceMul, Int32.reduceSub, ↓reduceIte, Int32.reduceLT, Int32.reduceLE, Int32.reduceToNatClampNeg, Nat.reduceMod, Nat.reduceLT, List.length_cons, List.length_nil, eq_self, true_or, or_true, and_self, implies_true, not_true_eq_false, not_false_eq_true, false_implies, true_implies, forall_const, st_aloadx, st_getfieldx, st_goto_wx, st_if_icmpx, st_iloadx, st_return_x, kb_Model_laysWorld_47, og_82_38, jx_Model_laysWorld_131, kb_Model_laysWorld_131, oa_82, h38, ep, (nk_le (by omega) (by omega) : (nI (N) ≤ nI (N)) = (N ≤ N)), Nat.le_refl]
    refine K F1 pre p1 ⟨by rw [ep]; exact hex, by rw [ep]; exact hmin, fun p hp => ?_⟩ ⟨by rw [ep]; exact h38, by omega, fun p hp => ⟨(hr p hp).1, (hf _ (gD_mem hp)).1⟩⟩
    rw [ep]
    exact ⟨hf _ (gD_mem hp), (hr p hp).2⟩
  | succ j ih =>
    intro pre i F1 ep hi p1 rg h38 hf he hm hu hr
    have hm := hm (by omega)
    have hu := hu (by omega)
    rw [show j + 1 - 1 = j by omega] at hm hu
    obtain ⟨j0, hj0, s1, s2, s3, s4⟩ := gr_step (fun r hr => (hf r hr).2) he hm
    have hij : i ≤ j0 := by
      refine Nat.le_of_not_lt fun z => hu j0 z s1
    have rg0 := rg
    obtain ⟨g1, g2, g3, g4⟩ := rg
    have hlf : ∀ pre, lfT T pre < 1073741824 := fun pre => Nat.lt_of_le_of_lt (lf_le T pre) (by
      have : 2 ^ (T.2.1.length + 4) ≤ 2 ^ 29 := Nat.pow_le_pow_right (by decide) (by omega)
      have : 0 < 2 ^ (T.2.1.length + 4) := Nat.two_pow_pos _
      have : (2 : Nat) ^ 29 = 536870912 := by decide
      omega)
    rw [jx_Model_laysWorld_47]
    simp only [ax0, ex_cons, am_get, upz_at, true_and, and_true, Nat.reduceAdd, Nat.reduceLeDiff, Nat.reduceEqDiff, Nat.reduceSub, Int32.reduceOfInt, Int32.reduceAdd, Int32.reduceMul, Int32.reduceSub, ↓reduceIte, Int32.reduceLT, Int32.reduceLE, Int32.reduceToNatClampNeg, Nat.reduceMod, Nat.reduceLT, List.length_cons, List.length_nil, eq_self, true_or, or_true, and_self, implies_true, not_true_eq_false, not_false_eq_true, false_implies, true_implies, forall_const, st_aloadx, st_getfieldx, st_goto_wx, st_if_icmpx, st_iloadx, kb_Model_laysWorld_47, og_82_38, oa_82, h38, (nk_le (by omega) (by omega) : (nI (N) ≤ nI (pre.length)) = (N ≤ pre.length)), show ¬ N ≤ pre.length by omega]
    have loop : ∀ m i, i + m = j0 → am_W kc_Model_laysWorld (am_cl (d + 31)) Q 55 [.ref 82, .int (nI (lfT T pre)), .int (nI i), .int (nI pre.length)] [] (ov h F1 J V) := by
      intro m
      induction m with
      | zero =>
        intro i ei
        have ei : i = j0 := ei
        subst ei
        obtain ⟨a1, a2⟩ := g3 i hj0
        obtain ⟨b1, b2⟩ := g4 _ a2
        rw [jx_Model_laysWorld_55]
        simp only [ax0, ex_cons, am_get, upz_at, true_and, and_true, Nat.reduceAdd, Nat.reduceLeDiff, Nat.reduceEqDiff, Nat.reduceSub, Int32.reduceOfInt, Int32.reduceAdd, Int32.reduceMul, Int32.reduceSub, ↓reduceIte, Int32.reduceLT, Int32.reduceLE, Int32.reduceToNatClampNeg, Nat.reduceMod, Nat.reduceLT, List.length_cons, List.length_nil, eq_self, true_or, or_true, and_self, implies_true, not_true_eq_false, not_false_eq_true, false_implies, true_implies, forall_const, st_aloadx, st_getfieldx, st_gotox, st_iaddx, st_ialoadx, st_iandx, st_iconstx, st_ifCondx, st_iincx, st_iloadx, st_in4, st_isubx, st_ixorx, am_put, am_nlg, kb_Model_laysWorld_55, og_82_33, og_82_34, og_82_38, oo_82, oa_82, oa_101, or_101, oa_102, or_102, nk_neg (show i < 2147483648 by omega), nk_cl (show i < 2147483648 by omega), nk_neg (show (lsM T 256).getD i 0 < 2147483648 by omega), nk_cl (show (lsM T 256).getD i 0 < 2147483648 by omega), show i < 256 by omega, a1, a2, b1, nk_andn, h38, show nI N - nI pre.length = nI (N - pre.length) from nk_sub (by omega), nk_sb (show 1 ≤ N - pre.length by omega), nk_succ]
        rw [show N - pre.length - 1 = j by omega, ← lf_app, show d + 31 = (d + 30 - j) + j + 1 by omega]
        refine m_canMeet rg0 j (d := d + 30 - j) (by omega) (hlf _) (by omega) ?_
        rw [show (d + 30 - j) + j + 1 = d + 31 by omega, cvb_t.mpr s3]
        simp only [ax0, ex_cons, am_get, upz_at, true_and, and_true, Nat.reduceAdd, Nat.reduceLeDiff, Nat.reduceEqDiff, Nat.reduceSub, Int32.reduceOfInt, Int32.reduceAdd, Int32.reduceMul, Int32.reduceSub, ↓reduceIte, Int32.reduceLT, Int32.reduceLE, Int32.reduceToNatClampNeg, Nat.reduceMod, Nat.reduceLT, List.length_cons, List.length_nil, eq_self, true_or, or_true, and_self, implies_true, not_true_eq_false, not_false_eq_true, false_implies, true_implies, forall_const, st_aloadx, st_getfieldx, st_gotox, st_iaddx, st_ialoadx, st_iandx, st_iconstx, st_ifCondx, st_iincx, st_iloadx, st_in4, st_isubx, st_ixorx, am_put, am_nlg, kb_Model_laysWorld_55, og_82_33, og_82_34, og_82_38, oo_82, oa_82, oa_101, or_101, oa_102, or_102, b2i_t]
        simp only [ax0, ex_cons, am_get, upz_at, true_and, and_true, Nat.reduceAdd, Nat.reduceLeDiff, Nat.reduceEqDiff, Nat.reduceSub, Int32.reduceOfInt, Int32.reduceAdd, Int32.reduceMul, Int32.reduceSub, ↓reduceIte, Int32.reduceLT, Int32.reduceLE, Int32.reduceToNatClampNeg, Nat.reduceMod, Nat.reduceLT, List.length_cons, List.length_nil, eq_self, true_or, or_true, and_self, implies_true, not_true_eq_false, not_false_eq_true, false_implies, true_implies, forall_const, st_aloadx, st_getfieldx, st_gotox, st_ialoadx, st_iandx, st_iastorex, st_iconstx, st_iincx, st_iloadx, st_istorex, st_ixorx, am_put, am_nlg, jx_Model_laysWorld_94, kb_Model_laysWorld_94, og_82_35, og_82_34, og_82_33, oa_82, oa_101, or_101, ow_101, os_101, oa_102, or_102, ow_102, os_102, oa_103, or_103, ow_103, os_103, nk_neg (show i < 2147483648 by omega), nk_cl (show i < 2147483648 by omega), nk_neg (show (lsM T 256).getD i 0 < 2147483648 by omega), nk_cl (show (lsM T 256).getD i 0 < 2147483648 by omega), nk_neg (show pre.length < 2147483648 by omega), nk_cl (show pre.length < 2147483648 by omega), show i < 256 by omega, show pre.length < 40 by omega, a1, a2, b1, nk_andn, nk_succ]
        rw [← lf_app]
        have e1 : (pre ++ [(lsM T 256).getD i 0]).length = pre.length + 1 := by rw [List.length_append]; rfl
        have := ih (pre ++ [(lsM T 256).getD i 0]) (i + 1) (upz F1 103 (upz (F1 103) pre.length (nI ((lsM T 256).getD i 0)))) (by omega) (by omega) (p1.tr ⟨fun a _ _ _ h4 => upz_ne _ _ h4, fun i _ _ _ => by rw [upz_ne _ _ (by decide)]⟩) ?_ (by rw [upz_ne _ _ (by decide)]; exact h38) (fun r hr => ?_) s1 (fun hj => ?_) (fun hj i' hi' => ?_) (fun p hp => ?_)
        · rw [e1] at this; exact this
        · exact ⟨by rw [upz_ne _ _ (by decide)]; exact g1, g2, fun i hi => by rw [upz_ne _ _ (by decide)]; exact g3 i hi, fun r hr => by rw [upz_ne _ _ (by decide)]; exact g4 r hr⟩
        · rcases List.mem_append.mp hr with y | y
          · exact hf r y
          · rw [List.mem_singleton.mp y]; exact ls_ff (gD_mem hj0)
        · intro z
          have := exW_pop (ls_ff (gD_mem hj0)) z
          rw [show j - 1 + 1 = j by omega] at this
          exact hm this
        · intro z
          by_cases w : i' = i
          · subst w
            have : exW T (pre ++ [(lsM T 256).getD i' 0]) (j - 1) := exW_sub z (fun r hr => mem_paa hr)
            have := exW_pop (ls_ff (gD_mem hj0)) this
            rw [show j - 1 + 1 = j by omega] at this
            exact hm this
          · have hlt := ls_inc T 256 i' i (by omega) hj0
            have hfi := ls_ff (gD_mem (l := lsM T 256) (i := i') (by omega))
            refine s2 _ hlt hfi ?_
            have : exW T (pre ++ [(lsM T 256).getD i' 0] ++ [(lsM T 256).getD i 0]) (j - 1) := exW_sub z (fun r hr => mem_pba hr)
            have := exW_pop (ls_ff (gD_mem hj0)) this
            rw [show j - 1 + 1 = j by omega] at this
            exact this
        · rw [e1] at hp
          by_cases w : p = pre.length
          · subst w
            have e2 : (pre ++ [(lsM T 256).getD i 0]).getD pre.length 0 = (lsM T 256).getD i 0 := by rw [gD_app, if_pos rfl]
            have e3 : (pre ++ [(lsM T 256).getD i 0]).take (pre.length + 1) = pre ++ [(lsM T 256).getD i 0] := List.take_of_length_le (by omega)
            have e4 : (pre ++ [(lsM T 256).getD i 0]).take pre.length = pre := by rw [List.take_append_of_le_length (Nat.le_refl _), List.take_length]
            rw [e2, e3, e4, upz_eq, upz_eq, show N - (pre.length + 1) = j by omega]
            exact ⟨rfl, s1, s2⟩
          · have e2 : (pre ++ [(lsM T 256).getD i 0]).getD p 0 = pre.getD p 0 := by rw [gD_app, if_neg w]
            have e3 : (pre ++ [(lsM T 256).getD i 0]).take (p + 1) = pre.take (p + 1) := List.take_append_of_le_length (by omega)
            have e4 : (pre ++ [(lsM T 256).getD i 0]).take p = pre.take p := List.take_append_of_le_length (by omega)
            rw [e2, e3, e4, upz_eq, upz_ne _ _ w]
            exact hr p (by omega)
      | succ m ihm =>
        intro i ei
        have hi2 : i < (lsM T 256).length := by omega
        obtain ⟨a1, a2⟩ := g3 i hi2
        obtain ⟨b1, b2⟩ := g4 _ a2
        rw [jx_Model_laysWorld_55]
        simp only [ax0, ex_cons, am_get, upz_at, true_and, and_true, Nat.reduceAdd, Nat.reduceLeDiff, Nat.reduceEqDiff, Nat.reduceSub, Int32.reduceOfInt, Int32.reduceAdd, Int32.reduceMul, Int32.reduceSub, ↓reduceIte, Int32.reduceLT, Int32.reduceLE, Int32.reduceToNatClampNeg, Nat.reduceMod, Nat.reduceLT, List.length_cons, List.length_nil, eq_self, true_or, or_true, and_self, implies_true, not_true_eq_false, not_false_eq_true, false_implies, true_implies, forall_const, st_aloadx, st_getfieldx, st_gotox, st_iaddx, st_ialoadx, st_iandx, st_iconstx, st_ifCondx, st_iincx, st_iloadx, st_in4, st_isubx, st_ixorx, am_put, am_nlg, kb_Model_laysWorld_55, og_82_33, og_82_34, og_82_38, oo_82, oa_82, oa_101, or_101, oa_102, or_102, nk_neg (show i < 2147483648 by omega), nk_cl (show i < 2147483648 by omega), nk_neg (show (lsM T 256).getD i 0 < 2147483648 by omega), nk_cl (show (lsM T 256).getD i 0 < 2147483648 by omega), show i < 256 by omega, a1, a2, b1, nk_andn, h38, show nI N - nI pre.length = nI (N - pre.length) from nk_sub (by omega), nk_sb (show 1 ≤ N - pre.length by omega), nk_succ]
        rw [show N - pre.length - 1 = j by omega, ← lf_app, show d + 31 = (d + 30 - j) + j + 1 by omega]
        refine m_canMeet rg0 j (d := d + 30 - j) (by omega) (hlf _) (by omega) ?_
        rw [show (d + 30 - j) + j + 1 = d + 31 by omega, cvb_f.mpr (s4 i (by omega))]
        simp only [ax0, ex_cons, am_get, upz_at, true_and, and_true, Nat.reduceAdd, Nat.reduceLeDiff, Nat.reduceEqDiff, Nat.reduceSub, Int32.reduceOfInt, Int32.reduceAdd, Int32.reduceMul, Int32.reduceSub, ↓reduceIte, Int32.reduceLT, Int32.reduceLE, Int32.reduceToNatClampNeg, Nat.reduceMod, Nat.reduceLT, List.length_cons, List.length_nil, eq_self, true_or, or_true, and_self, implies_true, not_true_eq_false, not_false_eq_true, false_implies, true_implies, forall_const, st_aloadx, st_getfieldx, st_gotox, st_iaddx, st_ialoadx, st_iandx, st_iconstx, st_ifCondx, st_iincx, st_iloadx, st_in4, st_isubx, st_ixorx, am_put, am_nlg, kb_Model_laysWorld_55, og_82_33, og_82_34, og_82_38, oo_82, oa_82, oa_101, or_101, oa_102, or_102, b2i_f, nk_succ]
        exact ihm (i + 1) (by omega)
    exact loop (j0 - i) i (by omega)
end MWO
