/-! ===== the model: telling ===== -/
def St (F F' : Nat → Nat → Int32) : Prop := (∀ a, a ≠ 82 → a ≠ 97 → a ≠ 98 → a ≠ 99 → a ≠ 100 → F' a = F a) ∧ ∀ i, i ≠ 31 → F' 82 i = F 82 i
theorem St.rf {F : Nat → Nat → Int32} : St F F := ⟨fun _ _ _ _ _ _ => rfl, fun _ _ => rfl⟩
theorem St.tr {F F1 F2 : Nat → Nat → Int32} (h : St F F1) (g : St F1 F2) : St F F2 := ⟨fun a h1 h2 h3 h4 h5 => (g.1 a h1 h2 h3 h4 h5).trans (h.1 a h1 h2 h3 h4 h5), fun i hi => (g.2 i hi).trans (h.2 i hi)⟩
theorem St.k {F F1 : Nat → Nat → Int32} (h : St F F1) : F1 84 = F 84 := h.1 84 (by decide) (by decide) (by decide) (by decide) (by decide)
theorem St.s100 {F F1 : Nat → Nat → Int32} (h : St F F1) (f : Nat → Int32) : St F (upz F1 100 f) := ⟨fun a h1 h2 h3 h4 h5 => by rw [upz_ne _ _ h5]; exact h.1 a h1 h2 h3 h4 h5, fun i hi => by rw [upz_ne _ _ (by decide)]; exact h.2 i hi⟩
def tz (T : tT) (how : Nat) (set : Nat → Bool) (who : Nat) (so : Bool) : tT := if how = 2 then (T.1, T.2.1, fun n r => if n = who then T.2.2 n r && (if so then set r else !set r) else T.2.2 n r) else if decide (how = 0) = so then (fun r => T.1 r || set r, T.2.1, T.2.2) else (T.1, T.2.1 ++ [set], T.2.2)
theorem bI_at {x y : Nat → Int32} {r : Nat} {b : Bool} (hr : r < 256) (h : ∀ k, k < 8 → x k = y k) (e : bI y r = b) : bI x r = b := (bI_congr hr h).trans e
section MT3
variable {d : Nat} {h : am_H} {F : Nat → Nat → Int32} {J : Nat → Nat → Int64} {V : Nat → Nat → Value} {Q : am_Q}
set_option maxRecDepth 20000 in
theorem m_empties (K : ∀ F', MT F' tE → St F F' → Q none (ov h F' J V)) : am_cl (d + 1) 227 [.ref 82] (ov h F J V) Q := by
  simp only [ax0, ex_cons, am_get, upz_at, true_and, and_true, Nat.reduceAdd, Nat.reduceLeDiff, Nat.reduceEqDiff, Nat.reduceSub, Int32.reduceOfInt, ↓reduceIte, Int32.reduceLT, Int32.reduceLE, Int32.reduceToNatClampNeg, Nat.reduceMod, Nat.reduceLT, List.length_cons, List.length_nil, eq_self, true_or, or_true, and_self, implies_true, not_true_eq_false, not_false_eq_true, false_implies, true_implies, forall_const, st_aload, st_goto_w, st_iconst, st_istore, st_putfield, st_return_, am_put, am_nlg, cx_Model_empties, kb_Model_empties_0, op_82_31, jx_Model_empties_26, kb_Model_empties_26, jx_Model_empties_47, kb_Model_empties_47, oa_82, os_82, upz_at]
  generalize hG : upz F 82 (upz (F 82) 31 0) = G
  have hSt : St F G := by
    subst hG
    exact ⟨fun a h1 _ _ _ _ => upz_ne _ _ h1, fun i hi => by rw [upz_eq, upz_ne _ _ hi]⟩
  have h31 : G 82 31 = 0 := by subst hG; rw [upz_eq, upz_eq]
  have e0 : ov h G J V = ov h (upz G 97 (ovr (G 97) (fun _ => 0) 0 0)) J V := by rw [upz_ovr0]
  rw [e0]
  refine am_iter 8 (fun k => [.ref 82, .int (nI k)]) (fun k => ov h (upz G 97 (ovr (G 97) (fun _ => 0) 0 k)) J V) (fun _ => True) (fun k hk hI go => ?_) (fun hI => ?_) 0 (by omega) trivial
  · rw [jx_Model_empties_7]
    simp only [ax0, ex_cons, am_get, upz_at, true_and, and_true, Nat.reduceAdd, Nat.reduceLeDiff, Nat.reduceEqDiff, Nat.reduceSub, Int32.reduceOfInt, ↓reduceIte, Int32.reduceLT, Int32.reduceLE, Int32.reduceToNatClampNeg, Nat.reduceMod, Nat.reduceLT, List.length_cons, List.length_nil, eq_self, true_or, or_true, and_self, implies_true, not_true_eq_false, not_false_eq_true, false_implies, true_implies, forall_const, st_aload, st_getfield, st_goto, st_iastore, st_iconst, st_if_icmp, st_iinc, st_iload, am_put, am_nlg, kb_Model_empties_7, og_82_28, oa_82, oa_97, ow_97, os_97, nk_neg (show k < 2147483648 by omega), nk_cl (show k < 2147483648 by omega), show ((8 : Int32) ≤ nI (k)) = (8 ≤ k) from nk_le (a := 8) (b := k) (by omega) (by omega), show ¬ 8 ≤ k by omega, hk, nk_succ, upz_upd]
    have e := ovr_S (G 97) (fun _ => (0 : Int32)) 0 k rfl
    rw [Nat.zero_add] at e
    rw [e]
    exact go trivial
  · rw [jx_Model_empties_7]
    simp only [ax0, ex_cons, am_get, upz_at, true_and, and_true, Nat.reduceAdd, Nat.reduceLeDiff, Nat.reduceEqDiff, Nat.reduceSub, Int32.reduceOfInt, ↓reduceIte, Int32.reduceLT, Int32.reduceLE, Int32.reduceToNatClampNeg, Nat.reduceMod, Nat.reduceLT, List.length_cons, List.length_nil, eq_self, true_or, or_true, and_self, implies_true, not_true_eq_false, not_false_eq_true, false_implies, true_implies, forall_const, st_aload, st_getfield, st_goto, st_goto_w, st_iastore, st_iconst, st_if_icmp, st_iinc, st_iload, st_istore, am_put, am_nlg, kb_Model_empties_7, og_82_28, jx_Model_empties_26, kb_Model_empties_26, oa_82, oa_97, ow_97, os_97, show ((8 : Int32) ≤ nI (8)) = (8 ≤ 8) from nk_le (a := 8) (b := 8) (by omega) (by omega)]
    generalize hG2 : upz G 97 (ovr (G 97) (fun _ => 0) 0 8) = G2
    have hSt2 : St F G2 := hSt.tr (by
      subst hG2
      exact ⟨fun a _ h2 _ _ _ => upz_ne _ _ h2, fun i hi => by rw [upz_ne _ _ (by decide)]⟩)
    have h97 : ∀ r, r < 256 → bI (G2 97) r = false := fun r hr => by
      subst hG2
      rw [upz_eq]
      exact bI_at hr (fun k hk => ovr_in (g := fun _ => (0 : Int32)) (by omega) (by omega)) (bI_zero r)
    have h31' : G2 82 31 = 0 := by subst hG2; rw [upz_ne _ _ (by decide)]; exact h31
    have e1 : ov h G2 J V = ov h (upz G2 99 (ovr (G2 99) (fun _ => -1) 0 0)) J V := by rw [upz_ovr0]
    rw [e1]
    refine am_iter 32 (fun k => [.ref 82, .int (nI k)]) (fun k => ov h (upz G2 99 (ovr (G2 99) (fun _ => -1) 0 k)) J V) (fun _ => True) (fun k hk hI go => ?_) (fun hI => ?_) 0 (by omega) trivial
    · rw [jx_Model_empties_28]
      simp only [ax0, ex_cons, am_get, upz_at, true_and, and_true, Nat.reduceAdd, Nat.reduceLeDiff, Nat.reduceEqDiff, Nat.reduceSub, Int32.reduceOfInt, ↓reduceIte, Int32.reduceLT, Int32.reduceLE, Int32.reduceToNatClampNeg, Nat.reduceMod, Nat.reduceLT, List.length_cons, List.length_nil, eq_self, true_or, or_true, and_self, implies_true, not_true_eq_false, not_false_eq_true, false_implies, true_implies, forall_const, st_aload, st_getfield, st_goto, st_iastore, st_iconst, st_if_icmp, st_iinc, st_iload, am_put, am_nlg, kb_Model_empties_28, og_82_30, oa_82, oa_99, ow_99, os_99, nk_neg (show k < 2147483648 by omega), nk_cl (show k < 2147483648 by omega), show ((32 : Int32) ≤ nI (k)) = (32 ≤ k) from nk_le (a := 32) (b := k) (by omega) (by omega), show ¬ 32 ≤ k by omega, hk, nk_succ, upz_upd]
      have e := ovr_S (G2 99) (fun _ => (-1 : Int32)) 0 k rfl
      rw [Nat.zero_add] at e
      rw [e]
      exact go trivial
    · rw [jx_Model_empties_28]
      simp only [ax0, ex_cons, am_get, upz_at, true_and, and_true, Nat.reduceAdd, Nat.reduceLeDiff, Nat.reduceEqDiff, Nat.reduceSub, Int32.reduceOfInt, ↓reduceIte, Int32.reduceLT, Int32.reduceLE, Int32.reduceToNatClampNeg, Nat.reduceMod, Nat.reduceLT, List.length_cons, List.length_nil, eq_self, true_or, or_true, and_self, implies_true, not_true_eq_false, not_false_eq_true, false_implies, true_implies, forall_const, st_aload, st_getfield, st_goto, st_iastore, st_iconst, st_if_icmp, st_iinc, st_iload, st_return_, am_put, am_nlg, kb_Model_empties_28, og_82_30, jx_Model_empties_47, kb_Model_empties_47, oa_82, oa_99, ow_99, os_99, show ((32 : Int32) ≤ nI (32)) = (32 ≤ 32) from nk_le (a := 32) (b := 32) (by omega) (by omega)]
      refine K _ ⟨fun r hr => ?_, ?_, fun i hi => absurd hi (Nat.not_lt_zero _), fun n hn r hr => ?_⟩ (hSt2.tr ⟨fun a _ _ _ h4 _ => upz_ne _ _ h4, fun i hi => by rw [upz_ne _ _ (by decide)]⟩)
      · rw [upz_ne _ _ (by decide)]; exact h97 r hr
      · rw [upz_ne _ _ (by decide)]; exact h31'
      · rw [upz_eq]
        exact bI_at (y := fun _ => -1) hr (fun k hk => ovr_in (by omega) (by omega)) (bI_ones r)
set_option maxRecDepth 20000 in
theorem m_tells2 {T : tT} (hT : MT F T) {a : Nat} (ha : a + 8 ≤ 2698) {w : Nat} (hw : w < 4) {so : Bool} {set : Nat → Bool} (hs : ∀ r, r < 256 → bI (fun k => F 84 (a + k)) r = set r) (K : ∀ F', MT F' (tz T 2 set w so) → St F F' → Q none (ov h F' J V)) : am_cl (d + 1) 228 [.ref 82, .int 2, .int (nI a), .int (nI w), .int (b2i so)] (ov h F J V) Q := by
  simp only [ax0, ex_cons, am_get, upz_at, true_and, and_true, Nat.reduceAdd, Nat.reduceLeDiff, Nat.reduceEqDiff, Nat.reduceSub, Int32.reduceOfInt, ↓reduceIte, Int32.reduceLT, Int32.reduceLE, Int32.reduceToNatClampNeg, Nat.reduceMod, Nat.reduceLT, List.length_cons, List.length_nil, eq_self, true_or, or_true, and_self, implies_true, not_true_eq_false, not_false_eq_true, false_implies, true_implies, forall_const, st_aload, st_dup, st_dup_1, st_getfield, st_goto, st_goto_w, st_iadd, st_iaload, st_iand, st_iastore, st_iconst, st_ifCond, st_if_icmp, st_iinc, st_iload, st_istore, st_ixor, st_putfield, st_return_, am_put, am_nlg, cx_Model_tells, kb_Model_tells_0, jx_Model_tells_45, kb_Model_tells_45, og_82_2, jx_Model_tells_56, kb_Model_tells_56, jx_Model_tells_64, kb_Model_tells_64, jx_Model_tells_67, kb_Model_tells_67, jx_Model_tells_75, kb_Model_tells_75, jx_Model_tells_76, kb_Model_tells_76, jx_Model_tells_116, kb_Model_tells_116, jx_Model_tells_119, kb_Model_tells_119, jx_Model_tells_159, kb_Model_tells_159, og_82_31, op_82_31, jx_Model_tells_169, kb_Model_tells_169, oa_82, os_82, oa_84, or_84, ow_84, os_84]
  have e0 : ov h F J V = ov h (upz F 99 (ovr (F 99) (fun i => F 99 i &&& (if so then F 84 (a + (i - 8 * w)) else F 84 (a + (i - 8 * w)) ^^^ -1)) (8 * w) 0)) J V := by rw [upz_ovr0]
  rw [e0]
  refine am_iter 8 (fun k => [.ref 82, .int 2, .int (nI a), .int (nI w), .int (b2i so), .int (nI k)]) (fun k => ov h (upz F 99 (ovr (F 99) (fun i => F 99 i &&& (if so then F 84 (a + (i - 8 * w)) else F 84 (a + (i - 8 * w)) ^^^ -1)) (8 * w) k)) J V) (fun _ => True) (fun k hk hI go => ?_) (fun hI => ?_) 0 (by omega) trivial
  · rw [jx_Model_tells_8]
    have go := go trivial
    have e := ovr_S (F 99) (fun i => F 99 i &&& (if so then F 84 (a + (i - 8 * w)) else F 84 (a + (i - 8 * w)) ^^^ -1)) (8 * w) k rfl
    rw [← e, show 8 * w + k - 8 * w = k by omega] at go
    cases so
    · simp only [ax0, ex_cons, am_get, upz_at, true_and, and_true, Nat.reduceAdd, Nat.reduceLeDiff, Nat.reduceEqDiff, Nat.reduceSub, Int32.reduceOfInt, ↓reduceIte, Int32.reduceLT, Int32.reduceLE, Int32.reduceToNatClampNeg, Nat.reduceMod, Nat.reduceLT, List.length_cons, List.length_nil, eq_self, true_or, or_true, and_self, implies_true, not_true_eq_false, not_false_eq_true, false_implies, true_implies, forall_const, st_aload, st_dup2, st_dup2_1, st_getfield, st_goto, st_goto_w, st_iadd, st_iaload, st_iand, st_iastore, st_iconst, st_ifCond, st_if_icmp, st_iinc, st_iload, st_imul, st_ixor, am_put, am_nlg, kb_Model_tells_8, og_82_30, og_82_2, jx_Model_tells_45, kb_Model_tells_45, jx_Model_tells_56, kb_Model_tells_56, oa_82, oa_84, or_84, ow_84, os_84, oa_99, or_99, ow_99, os_99, show (8 : Int32) * nI (w) = nI (8 * (w)) from nk_mul (8) (w), nk_neg (show 8 * w + k < 2147483648 by omega), nk_cl (show 8 * w + k < 2147483648 by omega), nk_neg (show a + k < 2147483648 by omega), nk_cl (show a + k < 2147483648 by omega), show ((8 : Int32) ≤ nI (k)) = (8 ≤ k) from nk_le (a := 8) (b := k) (by omega) (by omega), show ¬ 8 ≤ k by omega, nk_succ, nk_add, b2i_f, show 8 * w + k < 32 by omega, show a + k < 2698 by omega, upz_upd, ovr_out (show ¬ (8 * w ≤ 8 * w + k ∧ 8 * w + k < 8 * w + k) by omega)]
      exact go
    · simp only [ax0, ex_cons, am_get, upz_at, true_and, and_true, Nat.reduceAdd, Nat.reduceLeDiff, Nat.reduceEqDiff, Nat.reduceSub, Int32.reduceOfInt, ↓reduceIte, Int32.reduceLT, Int32.reduceLE, Int32.reduceToNatClampNeg, Nat.reduceMod, Nat.reduceLT, List.length_cons, List.length_nil, eq_self, true_or, or_true, and_self, implies_true, not_true_eq_false, not_false_eq_true, false_implies, true_implies, forall_const, st_aload, st_dup2, st_dup2_1, st_getfield, st_goto, st_goto_w, st_iadd, st_iaload, st_iand, st_iastore, st_iconst, st_ifCond, st_if_icmp, st_iinc, st_iload, st_imul, st_ixor, am_put, am_nlg, kb_Model_tells_8, og_82_30, og_82_2, jx_Model_tells_45, kb_Model_tells_45, jx_Model_tells_56, kb_Model_tells_56, oa_82, oa_84, or_84, ow_84, os_84, oa_99, or_99, ow_99, os_99, show (8 : Int32) * nI (w) = nI (8 * (w)) from nk_mul (8) (w), nk_neg (show 8 * w + k < 2147483648 by omega), nk_cl (show 8 * w + k < 2147483648 by omega), nk_neg (show a + k < 2147483648 by omega), nk_cl (show a + k < 2147483648 by omega), show ((8 : Int32) ≤ nI (k)) = (8 ≤ k) from nk_le (a := 8) (b := k) (by omega) (by omega), show ¬ 8 ≤ k by omega, nk_succ, nk_add, b2i_t, show 8 * w + k < 32 by omega, show a + k < 2698 by omega, upz_upd, ovr_out (show ¬ (8 * w ≤ 8 * w + k ∧ 8 * w + k < 8 * w + k) by omega)]
      exact go
  · rw [jx_Model_tells_8]
    simp only [ax0, ex_cons, am_get, upz_at, true_and, and_true, Nat.reduceAdd, Nat.reduceLeDiff, Nat.reduceEqDiff, Nat.reduceSub, Int32.reduceOfInt, ↓reduceIte, Int32.reduceLT, Int32.reduceLE, Int32.reduceToNatClampNeg, Nat.reduceMod, Nat.reduceLT, List.length_cons, List.length_nil, eq_self, true_or, or_true, and_self, implies_true, not_true_eq_false, not_false_eq_true, false_implies, true_implies, forall_const, st_aload, st_dup2, st_dup2_1, st_getfield, st_goto, st_iadd, st_iaload, st_iconst, st_ifCond, st_if_icmp, st_iload, st_imul, st_return_, kb_Model_tells_8, og_82_30, og_82_2, jx_Model_tells_64, kb_Model_tells_64, jx_Model_tells_169, kb_Model_tells_169, oa_82, oa_84, or_84, oa_99, or_99, show ((8 : Int32) ≤ nI (8)) = (8 ≤ 8) from nk_le (a := 8) (b := 8) (by omega) (by omega)]
    obtain ⟨t1, t2, t3, t4⟩ := hT
    refine K _ ⟨fun r hr => ?_, ?_, fun i hi r hr => ?_, fun n hn r hr => ?_⟩ ⟨fun a _ _ _ h4 _ => upz_ne _ _ h4, fun i hi => by rw [upz_ne _ _ (by decide)]⟩
    · rw [upz_ne _ _ (by decide)]; exact t1 r hr
    · rw [upz_ne _ _ (by decide)]; exact t2
    · rw [upz_ne _ _ (by decide)]; exact t3 i hi r hr
    · rw [upz_eq]
      show _ = if n = w then T.2.2 n r && (if so then set r else !set r) else T.2.2 n r
      by_cases e : n = w
      · subst e
        rw [if_pos rfl]
        refine bI_at (y := fun k => F 99 (8 * n + k) &&& (if so then F 84 (a + k) else F 84 (a + k) ^^^ -1)) hr (fun k hk => ?_) ?_
        · rw [ovr_in (by omega) (by omega), show 8 * n + k - 8 * n = k by omega]
        · cases so
          · show bI (fun k => F 99 (8 * n + k) &&& (F 84 (a + k) ^^^ -1)) r = _
            rw [bI_and (fun k => F 99 (8 * n + k)) (fun k => F 84 (a + k) ^^^ -1), bI_not (fun k => F 84 (a + k)), t4 n hn r hr, hs r hr]
            rfl
          · show bI (fun k => F 99 (8 * n + k) &&& F 84 (a + k)) r = _
            rw [bI_and (fun k => F 99 (8 * n + k)) (fun k => F 84 (a + k)), t4 n hn r hr, hs r hr]
            rfl
      · rw [if_neg e]
        exact bI_at hr (fun k hk => ovr_out (by omega)) (t4 n hn r hr)
set_option maxRecDepth 20000 in
theorem m_tells0 {T : tT} (hT : MT F T) {a : Nat} (ha : a + 8 ≤ 2698) {w : Nat} {who : Int32} {set : Nat → Bool} (hs : ∀ r, r < 256 → bI (fun k => F 84 (a + k)) r = set r) {how : Nat} {so : Bool} (hhow : (how = 0 ∧ so = true) ∨ (how = 1 ∧ so = false)) (K : ∀ F', MT F' (tz T how set w so) → St F F' → Q none (ov h F' J V)) : am_cl (d + 1) 228 [.ref 82, .int (nI how), .int (nI a), .int who, .int (b2i so)] (ov h F J V) Q := by
  have ht : tz T how set w so = (fun r => T.1 r || set r, T.2.1, T.2.2) := by rcases hhow with ⟨e1, e2⟩ | ⟨e1, e2⟩ <;> subst e1 <;> subst e2 <;> rfl
  rw [ht] at K
  have key : am_W kc_Model_tells (am_cl d) Q 84 [.ref 82, .int (nI how), .int (nI a), .int who, .int (b2i so), .int (nI 0)] [] (ov h F J V) := by
    have e0 : ov h F J V = ov h (upz F 97 (ovr (F 97) (fun i => F 97 i ||| F 84 (a + i)) 0 0)) J V := by rw [upz_ovr0]
    rw [e0]
    refine am_iter 8 (fun k => [.ref 82, .int (nI how), .int (nI a), .int who, .int (b2i so), .int (nI k)]) (fun k => ov h (upz F 97 (ovr (F 97) (fun i => F 97 i ||| F 84 (a + i)) 0 k)) J V) (fun _ => True) (fun k hk hI go => ?_) (fun hI => ?_) 0 (by omega) trivial
    · rw [jx_Model_tells_84]
      have go := go trivial
      have e := ovr_S (F 97) (fun i => F 97 i ||| F 84 (a + i)) 0 k rfl
      rw [Nat.zero_add] at e
      rw [← e] at go
      simp only [ax0, ex_cons, am_get, upz_at, true_and, and_true, Nat.reduceAdd, Nat.reduceLeDiff, Nat.reduceEqDiff, Nat.reduceSub, Int32.reduceOfInt, ↓reduceIte, Int32.reduceLT, Int32.reduceLE, Int32.reduceToNatClampNeg, Nat.reduceMod, Nat.reduceLT, List.length_cons, List.length_nil, eq_self, true_or, or_true, and_self, implies_true, not_true_eq_false, not_false_eq_true, false_implies, true_implies, forall_const, st_aload, st_dup2, st_dup2_1, st_getfield, st_goto, st_iadd, st_iaload, st_iastore, st_iconst, st_if_icmp, st_iinc, st_iload, st_ior, am_put, am_nlg, kb_Model_tells_84, og_82_28, og_82_2, oa_82, oa_84, or_84, ow_84, os_84, oa_97, or_97, ow_97, os_97, nk_neg (show k < 2147483648 by omega), nk_cl (show k < 2147483648 by omega), nk_neg (show a + k < 2147483648 by omega), nk_cl (show a + k < 2147483648 by omega), show ((8 : Int32) ≤ nI (k)) = (8 ≤ k) from nk_le (a := 8) (b := k) (by omega) (by omega), show ¬ 8 ≤ k by omega, hk, nk_succ, nk_add, show a + k < 2698 by omega, upz_upd, ovr_out (show ¬ (0 ≤ k ∧ k < 0 + k) by omega)]
      exact go
    · rw [jx_Model_tells_84]
      simp only [ax0, ex_cons, am_get, upz_at, true_and, and_true, Nat.reduceAdd, Nat.reduceLeDiff, Nat.reduceEqDiff, Nat.reduceSub, Int32.reduceOfInt, ↓reduceIte, Int32.reduceLT, Int32.reduceLE, Int32.reduceToNatClampNeg, Nat.reduceMod, Nat.reduceLT, List.length_cons, List.length_nil, eq_self, true_or, or_true, and_self, implies_true, not_true_eq_false, not_false_eq_true, false_implies, true_implies, forall_const, st_aload, st_dup2, st_dup2_1, st_getfield, st_goto, st_iadd, st_iaload, st_iastore, st_iconst, st_if_icmp, st_iinc, st_iload, st_ior, st_return_, am_put, am_nlg, kb_Model_tells_84, og_82_28, og_82_2, jx_Model_tells_116, kb_Model_tells_116, jx_Model_tells_169, kb_Model_tells_169, oa_82, oa_84, or_84, ow_84, os_84, oa_97, or_97, ow_97, os_97, show ((8 : Int32) ≤ nI (8)) = (8 ≤ 8) from nk_le (a := 8) (b := 8) (by omega) (by omega)]
      obtain ⟨t1, t2, t3, t4⟩ := hT
      refine K _ ⟨fun r hr => ?_, ?_, fun i hi r hr => ?_, fun n hn r hr => ?_⟩ ⟨fun a _ h2 _ _ _ => upz_ne _ _ h2, fun i hi => by rw [upz_ne _ _ (by decide)]⟩
      · rw [upz_eq]
        refine bI_at (y := fun i => F 97 i ||| F 84 (a + i)) hr (fun k hk => ovr_in (by omega) (by omega)) ?_
        rw [bI_or (F 97) (fun i => F 84 (a + i)), t1 r hr, hs r hr]
      · rw [upz_ne _ _ (by decide)]; exact t2
      · rw [upz_ne _ _ (by decide)]; exact t3 i hi r hr
      · rw [upz_ne _ _ (by decide)]; exact t4 n hn r hr
  rcases hhow with ⟨e1, e2⟩ | ⟨e1, e2⟩ <;> subst e1 <;> subst e2
  · show am_cl (d + 1) 228 [.ref 82, .int 0, .int (nI a), .int who, .int 1] (ov h F J V) Q
    simp only [ax0, ex_cons, am_get, upz_at, true_and, and_true, Nat.reduceAdd, Nat.reduceLeDiff, Nat.reduceEqDiff, Nat.reduceSub, Int32.reduceOfInt, ↓reduceIte, Int32.reduceLT, Int32.reduceLE, Int32.reduceToNatClampNeg, Nat.reduceMod, Nat.reduceLT, List.length_cons, List.length_nil, eq_self, true_or, or_true, and_self, implies_true, not_true_eq_false, not_false_eq_true, false_implies, true_implies, forall_const, st_aload, st_dup, st_dup_1, st_getfield, st_goto, st_goto_w, st_iadd, st_iaload, st_iand, st_iastore, st_iconst, st_ifCond, st_if_icmp, st_iinc, st_iload, st_istore, st_ixor, st_putfield, st_return_, am_put, am_nlg, cx_Model_tells, kb_Model_tells_0, jx_Model_tells_45, kb_Model_tells_45, og_82_2, jx_Model_tells_56, kb_Model_tells_56, jx_Model_tells_64, kb_Model_tells_64, jx_Model_tells_67, kb_Model_tells_67, jx_Model_tells_75, kb_Model_tells_75, jx_Model_tells_76, kb_Model_tells_76, jx_Model_tells_116, kb_Model_tells_116, jx_Model_tells_119, kb_Model_tells_119, jx_Model_tells_159, kb_Model_tells_159, og_82_31, op_82_31, jx_Model_tells_169, kb_Model_tells_169, oa_82, os_82, oa_84, or_84, ow_84, os_84]
    exact key
  · show am_cl (d + 1) 228 [.ref 82, .int 1, .int (nI a), .int who, .int 0] (ov h F J V) Q
    simp only [ax0, ex_cons, am_get, upz_at, true_and, and_true, Nat.reduceAdd, Nat.reduceLeDiff, Nat.reduceEqDiff, Nat.reduceSub, Int32.reduceOfInt, ↓reduceIte, Int32.reduceLT, Int32.reduceLE, Int32.reduceToNatClampNeg, Nat.reduceMod, Nat.reduceLT, List.length_cons, List.length_nil, eq_self, true_or, or_true, and_self, implies_true, not_true_eq_false, not_false_eq_true, false_implies, true_implies, forall_const, st_aload, st_dup, st_dup_1, st_getfield, st_goto, st_goto_w, st_iadd, st_iaload, st_iand, st_iastore, st_iconst, st_ifCond, st_if_icmp, st_iinc, st_iload, st_istore, st_ixor, st_putfield, st_return_, am_put, am_nlg, cx_Model_tells, kb_Model_tells_0, jx_Model_tells_45, kb_Model_tells_45, og_82_2, jx_Model_tells_56, kb_Model_tells_56, jx_Model_tells_64, kb_Model_tells_64, jx_Model_tells_67, kb_Model_tells_67, jx_Model_tells_75, kb_Model_tells_75, jx_Model_tells_76, kb_Model_tells_76, jx_Model_tells_116, kb_Model_tells_116, jx_Model_tells_119, kb_Model_tells_119, jx_Model_tells_159, kb_Model_tells_159, og_82_31, op_82_31, jx_Model_tells_169, kb_Model_tells_169, oa_82, os_82, oa_84, or_84, ow_84, os_84]
    exact key
set_option maxRecDepth 20000 in
theorem m_tells1 {T : tT} (hT : MT F T) (hw : T.2.1.length < 40) {a : Nat} (ha : a + 8 ≤ 2698) {w : Nat} {who : Int32} {set : Nat → Bool} (hs : ∀ r, r < 256 → bI (fun k => F 84 (a + k)) r = set r) {how : Nat} {so : Bool} (hhow : (how = 0 ∧ so = false) ∨ (how = 1 ∧ so = true)) (K : ∀ F', MT F' (tz T how set w so) → St F F' → Q none (ov h F' J V)) : am_cl (d + 1) 228 [.ref 82, .int (nI how), .int (nI a), .int who, .int (b2i so)] (ov h F J V) Q := by
  have ht : tz T how set w so = (T.1, T.2.1 ++ [set], T.2.2) := by rcases hhow with ⟨e1, e2⟩ | ⟨e1, e2⟩ <;> subst e1 <;> subst e2 <;> rfl
  rw [ht] at K
  obtain ⟨t1, t2, t3, t4⟩ := hT
  have key : am_W kc_Model_tells (am_cl d) Q 122 [.ref 82, .int (nI how), .int (nI a), .int who, .int (b2i so), .int (nI 0)] [] (ov h F J V) := by
    generalize hn : T.2.1.length = n at *
    have e0 : ov h F J V = ov h (upz F 98 (ovr (F 98) (fun i => F 84 (a + (i - 8 * n))) (8 * n) 0)) J V := by rw [upz_ovr0]
    rw [e0]
    refine am_iter 8 (fun k => [.ref 82, .int (nI how), .int (nI a), .int who, .int (b2i so), .int (nI k)]) (fun k => ov h (upz F 98 (ovr (F 98) (fun i => F 84 (a + (i - 8 * n))) (8 * n) k)) J V) (fun _ => True) (fun k hk hI go => ?_) (fun hI => ?_) 0 (by omega) trivial
    · rw [jx_Model_tells_122]
      have go := go trivial
      have e := ovr_S (F 98) (fun i => F 84 (a + (i - 8 * n))) (8 * n) k rfl
      rw [← e, show 8 * n + k - 8 * n = k by omega] at go
      simp only [ax0, ex_cons, am_get, upz_at, true_and, and_true, Nat.reduceAdd, Nat.reduceLeDiff, Nat.reduceEqDiff, Nat.reduceSub, Int32.reduceOfInt, ↓reduceIte, Int32.reduceLT, Int32.reduceLE, Int32.reduceToNatClampNeg, Nat.reduceMod, Nat.reduceLT, List.length_cons, List.length_nil, eq_self, true_or, or_true, and_self, implies_true, not_true_eq_false, not_false_eq_true, false_implies, true_implies, forall_const, st_aload, st_getfield, st_goto, st_iadd, st_iaload, st_iastore, st_iconst, st_if_icmp, st_iinc, st_iload, st_imul, am_put, am_nlg, kb_Model_tells_122, og_82_29, og_82_31, og_82_2, oa_82, oa_84, or_84, ow_84, os_84, oa_98, or_98, ow_98, os_98, t2, show (8 : Int32) * nI (n) = nI (8 * (n)) from nk_mul (8) (n), nk_neg (show 8 * n + k < 2147483648 by omega), nk_cl (show 8 * n + k < 2147483648 by omega), nk_neg (show a + k < 2147483648 by omega), nk_cl (show a + k < 2147483648 by omega), show ((8 : Int32) ≤ nI (k)) = (8 ≤ k) from nk_le (a := 8) (b := k) (by omega) (by omega), show ¬ 8 ≤ k by omega, nk_succ, nk_add, show 8 * n + k < 320 by omega, show a + k < 2698 by omega, upz_upd]
      exact go
    · rw [jx_Model_tells_122]
      simp only [ax0, ex_cons, am_get, upz_at, true_and, and_true, Nat.reduceAdd, Nat.reduceLeDiff, Nat.reduceEqDiff, Nat.reduceSub, Int32.reduceOfInt, ↓reduceIte, Int32.reduceLT, Int32.reduceLE, Int32.reduceToNatClampNeg, Nat.reduceMod, Nat.reduceLT, List.length_cons, List.length_nil, eq_self, true_or, or_true, and_self, implies_true, not_true_eq_false, not_false_eq_true, false_implies, true_implies, forall_const, st_aload, st_dup, st_dup_1, st_getfield, st_goto, st_goto_w, st_iadd, st_iaload, st_iastore, st_iconst, st_if_icmp, st_iinc, st_iload, st_imul, st_putfield, st_return_, am_put, am_nlg, kb_Model_tells_122, og_82_29, og_82_31, og_82_2, jx_Model_tells_159, kb_Model_tells_159, op_82_31, jx_Model_tells_169, kb_Model_tells_169, oa_82, os_82, oa_84, or_84, ow_84, os_84, oa_98, or_98, ow_98, os_98, show ((8 : Int32) ≤ nI (8)) = (8 ≤ 8) from nk_le (a := 8) (b := 8) (by omega) (by omega), t2, nk_succ]
      refine K _ ⟨fun r hr => ?_, ?_, fun i hi r hr => ?_, fun m hm r hr => ?_⟩ ⟨fun a h1 _ h3 _ _ => by rw [upz_ne _ _ h1, upz_ne _ _ h3], fun i hi => by rw [upz_eq, upz_ne _ _ hi]⟩
      · rw [upz_ne _ _ (by decide), upz_ne _ _ (by decide)]; exact t1 r hr
      · rw [upz_eq, upz_eq]; simp [hn]
      · rw [upz_ne _ _ (by decide), upz_eq]
        have hi' : i < n + 1 := by simpa [hn] using hi
        by_cases e : i = n
        · subst e
          rw [show (T.2.1 ++ [set]).getD i (fun _ => false) = set by
            rw [List.getD_eq_getElem?_getD, List.getElem?_append_right (by omega), hn, Nat.sub_self]; rfl]
          refine bI_at (y := fun k => F 84 (a + k)) hr (fun k hk => ?_) (hs r hr)
          rw [ovr_in (by omega) (by omega), show 8 * i + k - 8 * i = k by omega]
        · rw [show (T.2.1 ++ [set]).getD i (fun _ => false) = T.2.1.getD i (fun _ => false) by
            rw [List.getD_eq_getElem?_getD, List.getD_eq_getElem?_getD, List.getElem?_append_left (by omega)]]
          exact bI_at hr (fun k hk => ovr_out (by omega)) (t3 i (by omega) r hr)
      · rw [upz_ne _ _ (by decide), upz_ne _ _ (by decide)]; exact t4 m hm r hr
  rcases hhow with ⟨e1, e2⟩ | ⟨e1, e2⟩ <;> subst e1 <;> subst e2
  · show am_cl (d + 1) 228 [.ref 82, .int 0, .int (nI a), .int who, .int 0] (ov h F J V) Q
    simp only [ax0, ex_cons, am_get, upz_at, true_and, and_true, Nat.reduceAdd, Nat.reduceLeDiff, Nat.reduceEqDiff, Nat.reduceSub, Int32.reduceOfInt, ↓reduceIte, Int32.reduceLT, Int32.reduceLE, Int32.reduceToNatClampNeg, Nat.reduceMod, Nat.reduceLT, List.length_cons, List.length_nil, eq_self, true_or, or_true, and_self, implies_true, not_true_eq_false, not_false_eq_true, false_implies, true_implies, forall_const, st_aload, st_dup, st_dup_1, st_getfield, st_goto, st_goto_w, st_iadd, st_iaload, st_iand, st_iastore, st_iconst, st_ifCond, st_if_icmp, st_iinc, st_iload, st_istore, st_ixor, st_putfield, st_return_, am_put, am_nlg, cx_Model_tells, kb_Model_tells_0, jx_Model_tells_45, kb_Model_tells_45, og_82_2, jx_Model_tells_56, kb_Model_tells_56, jx_Model_tells_64, kb_Model_tells_64, jx_Model_tells_67, kb_Model_tells_67, jx_Model_tells_75, kb_Model_tells_75, jx_Model_tells_76, kb_Model_tells_76, jx_Model_tells_116, kb_Model_tells_116, jx_Model_tells_119, kb_Model_tells_119, jx_Model_tells_159, kb_Model_tells_159, og_82_31, op_82_31, jx_Model_tells_169, kb_Model_tells_169, oa_82, os_82, oa_84, or_84, ow_84, os_84]
    exact key
  · show am_cl (d + 1) 228 [.ref 82, .int 1, .int (nI a), .int who, .int 1] (ov h F J V) Q
    simp only [ax0, ex_cons, am_get, upz_at, true_and, and_true, Nat.reduceAdd, Nat.reduceLeDiff, Nat.reduceEqDiff, Nat.reduceSub, Int32.reduceOfInt, ↓reduceIte, Int32.reduceLT, Int32.reduceLE, Int32.reduceToNatClampNeg, Nat.reduceMod, Nat.reduceLT, List.length_cons, List.length_nil, eq_self, true_or, or_true, and_self, implies_true, not_true_eq_false, not_false_eq_true, false_implies, true_implies, forall_const, st_aload, st_dup, st_dup_1, st_getfield, st_goto, st_goto_w, st_iadd, st_iaload, st_iand, st_iastore, st_iconst, st_ifCond, st_if_icmp, st_iinc, st_iload, st_istore, st_ixor, st_putfield, st_return_, am_put, am_nlg, cx_Model_tells, kb_Model_tells_0, jx_Model_tells_45, kb_Model_tells_45, og_82_2, jx_Model_tells_56, kb_Model_tells_56, jx_Model_tells_64, kb_Model_tells_64, jx_Model_tells_67, kb_Model_tells_67, jx_Model_tells_75, kb_Model_tells_75, jx_Model_tells_76, kb_Model_tells_76, jx_Model_tells_116, kb_Model_tells_116, jx_Model_tells_119, kb_Model_tells_119, jx_Model_tells_159, kb_Model_tells_159, og_82_31, op_82_31, jx_Model_tells_169, kb_Model_tells_169, oa_82, os_82, oa_84, or_84, ow_84, os_84]
    exact key
end MT3
