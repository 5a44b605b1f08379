/-! ===== the class: feed ===== -/
section CFD
variable {d : Nat} {h : am_H} {F : Nat → Nat → Int32} {J : Nat → Nat → Int64} {V : Nat → Nat → Value} {Q : am_Q}
set_option maxRecDepth 20000 in
theorem c_apStep {m i : Nat} {x c c' : Int32} (h1 : F 24 1 = nI m) (hm : m < 400) (hc : c = 24 ∧ c' = 16 ∧ i = 0 ∨ c = 16 ∧ c' = 8 ∧ i = 1 ∨ c = 8 ∧ c' = 0 ∧ i = 2 ∨ c = 0 ∧ c' = -8 ∧ i = 3) (K : am_W kc_Reader_append (am_cl d) Q 3 [.ref 24, .int x, .int c'] [] (ov h (upz (upz F 25 (upz (F 25) m (fdB x i))) 24 (upz (F 24) 1 (nI (m + 1)))) J V)) : am_W kc_Reader_append (am_cl d) Q 3 [.ref 24, .int x, .int c] [] (ov h F J V) := by
  have ht : (fdB x i).toInt8.toInt32 = fdB x i := by unfold fdB; simp
  rw [jx_Reader_append_3]
  rcases hc with ⟨e1, e2, e3⟩ | ⟨e1, e2, e3⟩ | ⟨e1, e2, e3⟩ | ⟨e1, e2, e3⟩ <;> subst e1 <;> subst e2 <;> subst e3 <;> simp only [isO_c, ax0, ex_cons, am_get, upz_at, true_and, and_true, Nat.reduceAdd, Nat.reduceLeDiff, Nat.reduceEqDiff, Nat.reduceSub, Int32.reduceOfInt, Int32.reduceAdd, Int32.reduceMul, Int32.reduceSub, ↓reduceIte, Int32.reduceLT, Int32.reduceLE, Int32.reduceToNatClampNeg, Nat.reduceMod, Nat.reduceLT, List.length_cons, List.length_nil, eq_self, true_or, or_true, and_self, implies_true, not_true_eq_false, not_false_eq_true, false_implies, true_implies, forall_const, st_aloadx, st_bastorex, st_dupx, st_dup_1x, st_getfieldx, st_gotox, st_goto_wx, st_i2bx, st_iaddx, st_iconstx, st_ifCondx, st_if_icmpx, st_iincx, st_iloadx, st_ishrx, st_putfieldx, am_put, am_nlg, kb_Reader_append_3, og_24_1, og_24_0, op_24_1, jx_Reader_append_40, kb_Reader_append_40, oa_24, os_24, oa_25, ow_25, os_25, h1, oa_25, or_25, os_25, ow_25, show ((400 : Int32) ≤ nI (m)) = (400 ≤ m) from nk_le (a := 400) (b := m) (by omega) (by omega), show ¬ 400 ≤ m by omega, nk_neg (show m < 2147483648 by omega), nk_cl (show m < 2147483648 by omega), hm, show nI m + (1 : Int32) = nI (m + 1) from nk_add m 1] <;> (rw [← ht] at K; exact K)
set_option maxRecDepth 20000 in
theorem c_append {n : Nat} {x : Int32} (h1 : F 24 1 = nI n) (hn : n + 4 ≤ 400) (K : ∀ F', (∀ a, a ≠ 24 → a ≠ 25 → F' a = F a) → (∀ i, i ≠ 1 → F' 24 i = F 24 i) → F' 24 1 = nI (n + 4) → (∀ i, F' 25 i = if n ≤ i ∧ i < n + 4 then fdB x (i - n) else F 25 i) → Q none (ov h F' J V)) : am_cl (d + 1) 108 [.ref 24, .int x] (ov h F J V) Q := by
  simp only [isO_c, ax0, ex_cons, am_get, upz_at, true_and, and_true, Nat.reduceAdd, Nat.reduceLeDiff, Nat.reduceEqDiff, Nat.reduceSub, Int32.reduceOfInt, Int32.reduceAdd, Int32.reduceMul, Int32.reduceSub, ↓reduceIte, Int32.reduceLT, Int32.reduceLE, Int32.reduceToNatClampNeg, Nat.reduceMod, Nat.reduceLT, List.length_cons, List.length_nil, eq_self, true_or, or_true, and_self, implies_true, not_true_eq_false, not_false_eq_true, false_implies, true_implies, forall_const, st_goto_wx, st_iconstx, st_istorex, am_put, am_nlg, kb_Reader_append_0, cx_Reader_append]
  refine c_apStep h1 (by omega) (Or.inl ⟨rfl, rfl, rfl⟩) ?_
  refine c_apStep (m := n + 1) (by rw [upz_eq, upz_eq]) (by omega) (Or.inr (Or.inl ⟨rfl, rfl, rfl⟩)) ?_
  refine c_apStep (m := n + 2) (by rw [upz_eq, upz_eq]) (by omega) (Or.inr (Or.inr (Or.inl ⟨rfl, rfl, rfl⟩))) ?_
  refine c_apStep (m := n + 3) (by rw [upz_eq, upz_eq]) (by omega) (Or.inr (Or.inr (Or.inr ⟨rfl, rfl, rfl⟩))) ?_
  rw [jx_Reader_append_3]
  simp only [isO_c, ax0, ex_cons, am_get, upz_at, true_and, and_true, Nat.reduceAdd, Nat.reduceLeDiff, Nat.reduceEqDiff, Nat.reduceSub, Int32.reduceOfInt, Int32.reduceAdd, Int32.reduceMul, Int32.reduceSub, ↓reduceIte, Int32.reduceLT, Int32.reduceLE, Int32.reduceToNatClampNeg, Nat.reduceMod, Nat.reduceLT, List.length_cons, List.length_nil, eq_self, true_or, or_true, and_self, implies_true, not_true_eq_false, not_false_eq_true, false_implies, true_implies, forall_const, st_aloadx, st_bastorex, st_dupx, st_dup_1x, st_getfieldx, st_goto_wx, st_i2bx, st_iaddx, st_iconstx, st_ifCondx, st_if_icmpx, st_iloadx, st_ishrx, st_putfieldx, st_return_x, kb_Reader_append_3, og_24_1, og_24_0, op_24_1, jx_Reader_append_46, kb_Reader_append_46, oa_24, os_24, oa_25, ow_25, os_25]
  refine K _ (fun a q1 q2 => ?_) (fun i q => ?_) ?_ (fun i => ?_)
  · simp only [upz_at, q1, q2, ↓reduceIte]
  · simp only [upz_at, q, ↓reduceIte]
  · simp only [upz_at, ↓reduceIte]
  · simp only [upz_at, ↓reduceIte, Nat.reduceEqDiff]
    by_cases a3 : i = n + 3
    · subst a3; rw [if_pos rfl, if_pos ⟨by omega, by omega⟩, show n + 3 - n = 3 by omega]
    rw [if_neg a3]
    by_cases a2 : i = n + 2
    · subst a2; rw [if_pos rfl, if_pos ⟨by omega, by omega⟩, show n + 2 - n = 2 by omega]
    rw [if_neg a2]
    by_cases a1 : i = n + 1
    · subst a1; rw [if_pos rfl, if_pos ⟨by omega, by omega⟩, show n + 1 - n = 1 by omega]
    rw [if_neg a1]
    by_cases a0 : i = n
    · subst a0; rw [if_pos rfl, if_pos ⟨by omega, by omega⟩, show i - i = 0 by omega]
    rw [if_neg a0, if_neg (by omega)]
set_option maxRecDepth 20000 in
theorem co_feed {A : aT} (hA : CB h F V A) {a b c x e : Int32} (K : ∀ F', Cx false false F F' → CB h F' V (xFeed A a b c x e).1 → Q (some (.int (xFeed A a b c x e).2)) (ov h F' J V)) : am_cl (d + 2) 9 [.ref 23, .int a, .int b, .int c, .int x, .int e] (ov h F J V) Q := by
  obtain ⟨t1, t2, t3⟩ := hA.2.2.1
  unfold xFeed at K
  have t1 : F 24 1 = nI (aTp A).1 := t1
  have t2 : (aTp A).1 ≤ 400 := t2
  have t3 : ∀ i, i < (aTp A).1 → F 25 i = (aTp A).2 i := t3
  generalize hn : (aTp A).1 = n at *
  simp only [isO_c, ax0, ex_cons, am_get, upz_at, true_and, and_true, Nat.reduceAdd, Nat.reduceLeDiff, Nat.reduceEqDiff, Nat.reduceSub, Int32.reduceOfInt, Int32.reduceAdd, Int32.reduceMul, Int32.reduceSub, ↓reduceIte, Int32.reduceLT, Int32.reduceLE, Int32.reduceToNatClampNeg, Nat.reduceMod, Nat.reduceLT, List.length_cons, List.length_nil, eq_self, true_or, or_true, and_self, implies_true, not_true_eq_false, not_false_eq_true, false_implies, true_implies, forall_const, st_aloadx, st_getfieldx, st_iaddx, st_iconstx, st_if_icmpx, st_ireturnx, kb_Slips_feed_0, og_23_0, og_24_1, oa_23, oa_24, cx_Slips_feed, t1, show nI n + (20 : Int32) = nI (n + 20) from nk_add n 20, show (nI (n + 20) ≤ (400 : Int32)) = (n + 20 ≤ 400) from nk_le (b := 400) (by omega) (by omega)]
  refine And.intro (fun q => ?_) (fun q => ?_)
  · rw [if_pos (show n ≤ 380 by omega)] at K
    simp only [isO_c, ax0, ex_cons, am_get, upz_at, true_and, and_true, Nat.reduceAdd, Nat.reduceLeDiff, Nat.reduceEqDiff, Nat.reduceSub, Int32.reduceOfInt, Int32.reduceAdd, Int32.reduceMul, Int32.reduceSub, ↓reduceIte, Int32.reduceLT, Int32.reduceLE, Int32.reduceToNatClampNeg, Nat.reduceMod, Nat.reduceLT, List.length_cons, List.length_nil, eq_self, true_or, or_true, and_self, implies_true, not_true_eq_false, not_false_eq_true, false_implies, true_implies, forall_const, st_aloadx, st_getfieldx, st_iloadx, st_in2, st_ireturnx, jx_Slips_feed_18, kb_Slips_feed_18, og_23_0, oo_24, og_24_1, oa_23, oa_24]
    refine c_append t1 (by omega) (fun F1 o1 s1 n1 w1 => ?_)
    simp only [isO_c, ax0, ex_cons, am_get, upz_at, true_and, and_true, Nat.reduceAdd, Nat.reduceLeDiff, Nat.reduceEqDiff, Nat.reduceSub, Int32.reduceOfInt, Int32.reduceAdd, Int32.reduceMul, Int32.reduceSub, ↓reduceIte, Int32.reduceLT, Int32.reduceLE, Int32.reduceToNatClampNeg, Nat.reduceMod, Nat.reduceLT, List.length_cons, List.length_nil, eq_self, true_or, or_true, and_self, implies_true, not_true_eq_false, not_false_eq_true, false_implies, true_implies, forall_const, st_aloadx, st_getfieldx, st_iloadx, st_in2, st_ireturnx, jx_Slips_feed_18, kb_Slips_feed_18, og_23_0, oo_24, og_24_1, oa_23, oa_24]
    refine c_append n1 (by omega) (fun F2 o2 s2 n2 w2 => ?_)
    simp only [isO_c, ax0, ex_cons, am_get, upz_at, true_and, and_true, Nat.reduceAdd, Nat.reduceLeDiff, Nat.reduceEqDiff, Nat.reduceSub, Int32.reduceOfInt, Int32.reduceAdd, Int32.reduceMul, Int32.reduceSub, ↓reduceIte, Int32.reduceLT, Int32.reduceLE, Int32.reduceToNatClampNeg, Nat.reduceMod, Nat.reduceLT, List.length_cons, List.length_nil, eq_self, true_or, or_true, and_self, implies_true, not_true_eq_false, not_false_eq_true, false_implies, true_implies, forall_const, st_aloadx, st_getfieldx, st_iloadx, st_in2, st_ireturnx, jx_Slips_feed_18, kb_Slips_feed_18, og_23_0, oo_24, og_24_1, oa_23, oa_24]
    refine c_append n2 (by omega) (fun F3 o3 s3 n3 w3 => ?_)
    simp only [isO_c, ax0, ex_cons, am_get, upz_at, true_and, and_true, Nat.reduceAdd, Nat.reduceLeDiff, Nat.reduceEqDiff, Nat.reduceSub, Int32.reduceOfInt, Int32.reduceAdd, Int32.reduceMul, Int32.reduceSub, ↓reduceIte, Int32.reduceLT, Int32.reduceLE, Int32.reduceToNatClampNeg, Nat.reduceMod, Nat.reduceLT, List.length_cons, List.length_nil, eq_self, true_or, or_true, and_self, implies_true, not_true_eq_false, not_false_eq_true, false_implies, true_implies, forall_const, st_aloadx, st_getfieldx, st_iloadx, st_in2, st_ireturnx, jx_Slips_feed_18, kb_Slips_feed_18, og_23_0, oo_24, og_24_1, oa_23, oa_24]
    refine c_append n3 (by omega) (fun F4 o4 s4 n4 w4 => ?_)
    simp only [isO_c, ax0, ex_cons, am_get, upz_at, true_and, and_true, Nat.reduceAdd, Nat.reduceLeDiff, Nat.reduceEqDiff, Nat.reduceSub, Int32.reduceOfInt, Int32.reduceAdd, Int32.reduceMul, Int32.reduceSub, ↓reduceIte, Int32.reduceLT, Int32.reduceLE, Int32.reduceToNatClampNeg, Nat.reduceMod, Nat.reduceLT, List.length_cons, List.length_nil, eq_self, true_or, or_true, and_self, implies_true, not_true_eq_false, not_false_eq_true, false_implies, true_implies, forall_const, st_aloadx, st_getfieldx, st_iloadx, st_in2, st_ireturnx, jx_Slips_feed_18, kb_Slips_feed_18, og_23_0, oo_24, og_24_1, oa_23, oa_24]
    refine c_append n4 (by omega) (fun F5 o5 s5 n5 w5 => ?_)
    simp only [isO_c, ax0, ex_cons, am_get, upz_at, true_and, and_true, Nat.reduceAdd, Nat.reduceLeDiff, Nat.reduceEqDiff, Nat.reduceSub, Int32.reduceOfInt, Int32.reduceAdd, Int32.reduceMul, Int32.reduceSub, ↓reduceIte, Int32.reduceLT, Int32.reduceLE, Int32.reduceToNatClampNeg, Nat.reduceMod, Nat.reduceLT, List.length_cons, List.length_nil, eq_self, true_or, or_true, and_self, implies_true, not_true_eq_false, not_false_eq_true, false_implies, true_implies, forall_const, st_aloadx, st_getfieldx, st_iloadx, st_in2, st_ireturnx, jx_Slips_feed_18, kb_Slips_feed_18, og_23_0, oo_24, og_24_1, oa_23, oa_24, n5]
    have oo : ∀ y, y ≠ 24 → y ≠ 25 → F5 y = F y := fun y q1 q2 => by rw [o5 y q1 q2, o4 y q1 q2, o3 y q1 q2, o2 y q1 q2, o1 y q1 q2]
    obtain ⟨_, _, _, h4, h5, h6, h7⟩ := id hA
    refine K F5 (Cx.kp (fun y q1 _ _ => oo y (by omega) (by omega))) (hA.lo (fun y q1 q2 => oo y (by omega) (by omega)) rfl rfl ?_ ?_ ?_ ?_ ?_)
    · refine ⟨n5, by show n + 20 ≤ 400; omega, fun i hi => ?_⟩
      have hi : i < n + 20 := hi
      show F5 25 i = ovr (aTp A).2 (fun k => fdF a b c x e (k - n)) n 20 i
      rw [w5 i, w4 i, w3 i, w2 i, w1 i]
      unfold ovr fdF
      by_cases z : i < n
      · rw [if_neg (by omega), if_neg (by omega), if_neg (by omega), if_neg (by omega), if_neg (by omega), if_neg (by omega)]
        exact t3 i z
      obtain ⟨k, hk⟩ : ∃ k, i = n + k := ⟨i - n, by omega⟩
      subst hk
      have hk : k < 20 := by omega
      rw [show (if n ≤ n + k ∧ n + k < n + 20 then fdB (if (n + k - n) / 4 = 0 then a else if (n + k - n) / 4 = 1 then b else if (n + k - n) / 4 = 2 then c else if (n + k - n) / 4 = 3 then x else e) ((n + k - n) % 4) else (aTp A).2 (n + k)) = _ from if_pos ⟨by omega, by omega⟩, show n + k - n = k by omega]
      clear w1 w2 w3 w4 w5 t3 K
      rcases (show k / 4 = 0 ∨ k / 4 = 1 ∨ k / 4 = 2 ∨ k / 4 = 3 ∨ k / 4 = 4 by omega) with z | z | z | z | z <;> rw [z]
      · rw [if_neg (by omega), if_neg (by omega), if_neg (by omega), if_neg (by omega), if_pos ⟨by omega, by omega⟩, if_pos rfl, show k % 4 = k by omega]
      · rw [if_neg (by omega), if_neg (by omega), if_neg (by omega), if_pos ⟨by omega, by omega⟩, if_neg (by decide), if_pos rfl, show n + k - (n + 4) = k % 4 by omega]
      · rw [if_neg (by omega), if_neg (by omega), if_pos ⟨by omega, by omega⟩, if_neg (by decide), if_neg (by decide), if_pos rfl, show n + k - (n + 4 + 4) = k % 4 by omega]
      · rw [if_neg (by omega), if_pos ⟨by omega, by omega⟩, if_neg (by decide), if_neg (by decide), if_neg (by decide), if_pos rfl, show n + k - (n + 4 + 4 + 4) = k % 4 by omega]
      · rw [if_pos ⟨by omega, by omega⟩, if_neg (by decide), if_neg (by decide), if_neg (by decide), if_neg (by decide), show n + k - (n + 4 + 4 + 4 + 4) = k % 4 by omega]
    · rw [s5 2 (by decide), s4 2 (by decide), s3 2 (by decide), s2 2 (by decide), s1 2 (by decide)]; exact h4
    · rw [oo 23 (by decide) (by decide)]; exact h5
    · rw [oo 81 (by decide) (by decide)]; exact h6
    · rw [oo 23 (by decide) (by decide), oo 80 (by decide) (by decide)]; exact h7
  · rw [if_neg (show ¬ n ≤ 380 by omega)] at K
    exact K F Cx.rf hA
end CFD
