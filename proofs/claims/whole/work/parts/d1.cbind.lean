/-! ===== the class: bind, posit ===== -/
theorem CB.cf {h : am_H} {F F' : Nat → Nat → Int32} {V : Nat → Nat → Value} {A : aT} (hA : CB h F V A) (c : Cf F F') : CB h F' V A := by
  obtain ⟨h1, h2, h3, h4, h5, h6, h7⟩ := id hA
  refine hA.lo (fun a q1 q2 => c a (by omega) (by omega) (by omega) (by omega)) rfl rfl ?_ ?_ ?_ ?_ ?_
  · rw [c 24 (by decide) (by decide) (by decide) (by decide), c 25 (by decide) (by decide) (by decide) (by decide)]; exact h3
  · rw [c 24 (by decide) (by decide) (by decide) (by decide)]; exact h4
  · rw [c 23 (by decide) (by decide) (by decide) (by decide)]; exact h5
  · rw [c 81 (by decide) (by decide) (by decide) (by decide)]; exact h6
  · rw [c 23 (by decide) (by decide) (by decide) (by decide), c 80 (by decide) (by decide) (by decide) (by decide)]; exact h7
theorem Cf.cx {F F' : Nat → Nat → Int32} (c : Cf F F') : Cx false false F F' := Cx.kp (fun a q q1 q2 => c a (by omega) (by omega) q1 q2)
section CBD
variable {d : Nat} {h : am_H} {F : Nat → Nat → Int32} {J : Nat → Nat → Int64} {V : Nat → Nat → Value} {Q : am_Q}
set_option maxRecDepth 20000 in
theorem c_bind {X : kT} (hD : DK h F V 34 X) {n : Nat} (en : X.2.1 = n) (hn : n < 12) {p : Nat} {R : rT} (hs : SR h p R) {so : Bool} (K : ∀ F' V', (∀ a, a ≠ 34 → a ≠ 37 → F' a = F a) → (∀ a, a ≠ 36 → V' a = V a) → DK h F' V' 34 (X.1, (n + 1, upz X.2.2 n (R, so))) → Q none (ov h F' J V')) : am_cl (d + 1) 95 [.ref 34, .ref p, .int (b2i so)] (ov h F J V) Q := by
  obtain ⟨⟨d1, d2, d3⟩, d4, d5, ⟨d6, d7, d8⟩, d9, d10⟩ := hD
  rw [en] at d6 d8
  have K := K (upz (upz F 37 (upz (F 37) n (b2i so))) 34 (upz (F 34) 6 (nI (n + 1)))) (upz V 36 (upz (V 36) n (.ref p))) (fun a q1 q2 => by rw [upz_ne _ _ q1, upz_ne _ _ q2]) (fun a q => upz_ne _ _ q) ⟨⟨?_, d2, fun i hi => ?_⟩, ?_, ?_, ⟨?_, by show n + 1 ≤ 12; omega, fun i hi => ?_⟩, fun i hi => ⟨?_, ?_⟩, fun i hi => ?_⟩
  · cases so
    · simp only [isO_c, ax0, ex_cons, am_get, upz_at, true_and, and_true, Nat.reduceAdd, Nat.reduceLeDiff, Nat.reduceEqDiff, Nat.reduceSub, Int32.reduceOfInt, Int32.reduceAdd, Int32.reduceMul, Int32.reduceSub, ↓reduceIte, Int32.reduceLT, Int32.reduceLE, Int32.reduceToNatClampNeg, Nat.reduceMod, Nat.reduceLT, List.length_cons, List.length_nil, eq_self, true_or, or_true, and_self, implies_true, not_true_eq_false, not_false_eq_true, false_implies, true_implies, forall_const, st_aastorex, st_aastore_1x, st_aloadx, st_bastorex, st_dupx, st_dup_1x, st_getfieldx, st_goto_wx, st_iaddx, st_iconstx, st_if_icmpx, st_iloadx, st_putfieldx, st_return_x, cx_Desk_bind, kb_Desk_bind_0, og_34_6, og_34_4, og_34_5, op_34_6, jx_Desk_bind_39, kb_Desk_bind_39, oa_34, os_34, oa_36, ow_36, os_36, oa_37, ow_37, os_37, d6, show ((12 : Int32) ≤ nI (n)) = (12 ≤ n) from nk_le (a := 12) (b := n) (by omega) (by omega), show ¬ 12 ≤ n by omega, nk_neg (show n < 2147483648 by omega), nk_cl (show n < 2147483648 by omega), hn, oa_36, or_36, os_36, ow_36, oa_37, or_37, os_37, ow_37, osFy (a := 37) (b := 36) (by decide) (by decide) (by decide), osFy (a := 34) (b := 36) (by decide) (by decide) (by decide), show nI n + (1 : Int32) = nI (n + 1) from nk_add n 1]
      refine ⟨hs.isO _ _ _, ?_⟩
      rw [show b2i false &&& 1 = b2i false from rfl]
      exact K
    · simp only [isO_c, ax0, ex_cons, am_get, upz_at, true_and, and_true, Nat.reduceAdd, Nat.reduceLeDiff, Nat.reduceEqDiff, Nat.reduceSub, Int32.reduceOfInt, Int32.reduceAdd, Int32.reduceMul, Int32.reduceSub, ↓reduceIte, Int32.reduceLT, Int32.reduceLE, Int32.reduceToNatClampNeg, Nat.reduceMod, Nat.reduceLT, List.length_cons, List.length_nil, eq_self, true_or, or_true, and_self, implies_true, not_true_eq_false, not_false_eq_true, false_implies, true_implies, forall_const, st_aastorex, st_aastore_1x, st_aloadx, st_bastorex, st_dupx, st_dup_1x, st_getfieldx, st_goto_wx, st_iaddx, st_iconstx, st_if_icmpx, st_iloadx, st_putfieldx, st_return_x, cx_Desk_bind, kb_Desk_bind_0, og_34_6, og_34_4, og_34_5, op_34_6, jx_Desk_bind_39, kb_Desk_bind_39, oa_34, os_34, oa_36, ow_36, os_36, oa_37, ow_37, os_37, d6, show ((12 : Int32) ≤ nI (n)) = (12 ≤ n) from nk_le (a := 12) (b := n) (by omega) (by omega), show ¬ 12 ≤ n by omega, nk_neg (show n < 2147483648 by omega), nk_cl (show n < 2147483648 by omega), hn, oa_36, or_36, os_36, ow_36, oa_37, or_37, os_37, ow_37, osFy (a := 37) (b := 36) (by decide) (by decide) (by decide), osFy (a := 34) (b := 36) (by decide) (by decide) (by decide), show nI n + (1 : Int32) = nI (n + 1) from nk_add n 1]
      refine ⟨hs.isO _ _ _, ?_⟩
      rw [show b2i true &&& 1 = b2i true from rfl]
      exact K
  · rw [upz_eq, upz_ne _ _ (by decide)]; exact d1
  · rw [upz_ne _ _ (by decide)]; exact d3 i hi
  · rw [upz_ne _ _ (by decide)]; exact d4
  · rw [upz_eq, upz_ne _ _ (by decide)]; exact d5
  · rw [upz_eq, upz_eq]
  · have hi : i < n + 1 := hi
    rw [show (34 + 2 : Nat) = 36 from rfl, show (34 + 3 : Nat) = 37 from rfl, upz_eq, upz_ne _ _ (show (37 : Nat) ≠ 34 by decide), upz_eq]
    show (∃ p', _ ∧ SR h p' (upz X.2.2 n (R, so) i).1) ∧ _ = b2i (upz X.2.2 n (R, so) i).2
    by_cases e : i = n
    · subst e; rw [upz_eq, upz_eq, upz_eq]; exact ⟨⟨p, rfl, hs⟩, rfl⟩
    · rw [upz_ne _ _ e, upz_ne _ _ e, upz_ne _ _ e]; exact d8 i (by omega)
  · rw [upz_ne _ _ (by decide)]; exact (d9 i hi).1
  · rw [show (34 + 2 : Nat) = 36 from rfl, upz_eq]
    by_cases e : i = n
    · subst e; rw [upz_eq]; exact Or.inr ⟨p, R, rfl, hs⟩
    · rw [upz_ne _ _ e]; exact (d9 i hi).2
  · rw [show (34 + 3 : Nat) = 37 from rfl, upz_ne _ _ (show (37 : Nat) ≠ 34 by decide), upz_eq]
    by_cases e : i = n
    · subst e; rw [upz_eq]; exact b2i_01 so
    · rw [upz_ne _ _ e]; exact d10 i hi
theorem DK.none {X : kT} (hD : DK h F V 34 X) : DK h (upz F 34 (upz (F 34) 6 0)) V 34 (X.1, (0, X.2.2)) := by
  obtain ⟨⟨d1, d2, d3⟩, d4, d5, ⟨d6, d7, d8⟩, d9, d10⟩ := hD
  refine ⟨⟨?_, d2, d3⟩, d4, ?_, ⟨?_, Nat.zero_le _, fun i hi => absurd hi (Nat.not_lt_zero i)⟩, d9, ?_⟩
  · rw [upz_eq, upz_ne _ _ (by decide)]; exact d1
  · rw [upz_eq, upz_ne _ _ (by decide)]; exact d5
  · rw [upz_eq, upz_eq]; rfl
  · rw [upz_ne _ _ (by decide)]; exact d10
set_option maxRecDepth 20000 in
theorem co_posit (hb : HB h) {A : aT} (hA : CB h F V A) (K : ∀ F' J' V', Cx false false F F' → Vz V V' → CB h F' V' (xPosit A).1 → Q (some (.int (xPosit A).2)) (ov h F' J' V')) : am_cl (d + 5) 51 [.ref 23] (ov h F J V) Q := by
  unfold xPosit at K
  rcases hA.1.asked with ⟨ea, ev⟩ | ⟨ea, p, ev, hs⟩
  · rw [show (aD A).2.2.1 = false from ea, Bool.false_and, if_neg Bool.false_ne_true] at K
    simp only [isO_c, ax0, ex_cons, am_get, upz_at, true_and, and_true, Nat.reduceAdd, Nat.reduceLeDiff, Nat.reduceEqDiff, Nat.reduceSub, Int32.reduceOfInt, Int32.reduceAdd, Int32.reduceMul, Int32.reduceSub, ↓reduceIte, Int32.reduceLT, Int32.reduceLE, Int32.reduceToNatClampNeg, Nat.reduceMod, Nat.reduceLT, List.length_cons, List.length_nil, eq_self, true_or, or_true, and_self, implies_true, not_true_eq_false, not_false_eq_true, false_implies, true_implies, forall_const, st_aloadx, st_astorex, st_astore_1x, st_getfieldx, st_iconstx, st_ifnonnullx, st_ifnonnull_1x, st_in2, st_ireturnx, am_put, am_nlg, kb_Slips_posit_0, og_23_1, og_34_2, oo_23, oa_23, oa_34, cx_Slips_posit, ev]
    refine c_refuse hA (j := 2) (Or.inr (Or.inr (Or.inl ⟨rfl, rfl⟩))) (fun F' c m => ?_)
    simp only [isO_c, ax0, ex_cons, am_get, upz_at, true_and, and_true, Nat.reduceAdd, Nat.reduceLeDiff, Nat.reduceEqDiff, Nat.reduceSub, Int32.reduceOfInt, Int32.reduceAdd, Int32.reduceMul, Int32.reduceSub, ↓reduceIte, Int32.reduceLT, Int32.reduceLE, Int32.reduceToNatClampNeg, Nat.reduceMod, Nat.reduceLT, List.length_cons, List.length_nil, eq_self, true_or, or_true, and_self, implies_true, not_true_eq_false, not_false_eq_true, false_implies, true_implies, forall_const, st_aloadx, st_astorex, st_astore_1x, st_getfieldx, st_iconstx, st_ifnonnullx, st_ifnonnull_1x, st_in2, st_ireturnx, am_put, am_nlg, kb_Slips_posit_0, og_23_1, og_34_2, oo_23, oa_23, oa_34]
    exact K F' J V c Vz.rf m
  · rw [show (aD A).2.2.1 = true from ea, Bool.true_and] at K
    simp only [isO_c, ax0, ex_cons, am_get, upz_at, true_and, and_true, Nat.reduceAdd, Nat.reduceLeDiff, Nat.reduceEqDiff, Nat.reduceSub, Int32.reduceOfInt, Int32.reduceAdd, Int32.reduceMul, Int32.reduceSub, ↓reduceIte, Int32.reduceLT, Int32.reduceLE, Int32.reduceToNatClampNeg, Nat.reduceMod, Nat.reduceLT, List.length_cons, List.length_nil, eq_self, true_or, or_true, and_self, implies_true, not_true_eq_false, not_false_eq_true, false_implies, true_implies, forall_const, st_aloadx, st_astorex, st_astore_1x, st_getfieldx, st_iconstx, st_ifCondx, st_ifnonnullx, st_ifnonnull_1x, st_in1, st_in2, st_in3, st_ireturnx, am_put, am_nlg, kb_Slips_posit_0, og_23_1, og_34_2, oo_23, jx_Slips_posit_19, kb_Slips_posit_19, og_23_3, oo_47, oa_23, oa_34, oa_47, cx_Slips_posit, ev]
    refine c_clear (Or.inl rfl) (fun F1 J1 t1 q1 => ?_)
    have cf1 := q1.cf (Or.inl rfl)
    have hA1 := hA.cf cf1
    simp only [isO_c, ax0, ex_cons, am_get, upz_at, true_and, and_true, Nat.reduceAdd, Nat.reduceLeDiff, Nat.reduceEqDiff, Nat.reduceSub, Int32.reduceOfInt, Int32.reduceAdd, Int32.reduceMul, Int32.reduceSub, ↓reduceIte, Int32.reduceLT, Int32.reduceLE, Int32.reduceToNatClampNeg, Nat.reduceMod, Nat.reduceLT, List.length_cons, List.length_nil, eq_self, true_or, or_true, and_self, implies_true, not_true_eq_false, not_false_eq_true, false_implies, true_implies, forall_const, st_aloadx, st_getfieldx, st_iconstx, st_ifCondx, st_in1, st_in2, st_in3, st_ireturnx, jx_Slips_posit_19, kb_Slips_posit_19, og_23_3, oo_47, oo_23, oa_23, oa_47]
    refine c_canHold (Or.inl rfl) hb t1 hs.cl (clR_ok _) (ex := false) ?_
    have ez : chZ tE (clR (A.1.1.2.1 12)) false = !qz (tellz tE (csD (aD A) 12) false) (fun _ => false) := rfl
    rw [ez]
    cases z : qz (tellz tE (csD (aD A) 12) false) (fun _ => false)
    · rw [z, if_pos (by decide)] at K
      simp only [isO_c, ax0, ex_cons, am_get, upz_at, true_and, and_true, Nat.reduceAdd, Nat.reduceLeDiff, Nat.reduceEqDiff, Nat.reduceSub, Int32.reduceOfInt, Int32.reduceAdd, Int32.reduceMul, Int32.reduceSub, ↓reduceIte, Int32.reduceLT, Int32.reduceLE, Int32.reduceToNatClampNeg, Nat.reduceMod, Nat.reduceLT, List.length_cons, List.length_nil, eq_self, true_or, or_true, and_self, implies_true, not_true_eq_false, not_false_eq_true, false_implies, true_implies, forall_const, st_aloadx, st_getfieldx, st_iconstx, st_ifCondx, st_in1, st_in2, st_in3, st_ireturnx, st_putfieldx, jx_Slips_posit_19, kb_Slips_posit_19, og_23_3, oo_47, oo_23, jx_Slips_posit_45, kb_Slips_posit_45, og_23_1, op_34_6, oo_34, oa_23, oa_34, oa_47, os_34, Bool.not_false, show b2i true = (1 : Int32) from rfl]
      refine c_bind (so := true) (n := 0) hA1.1.none rfl (by decide) hs (fun F2 V2 o2 v2 dk2 => ?_)
      simp only [isO_c, ax0, ex_cons, am_get, upz_at, true_and, and_true, Nat.reduceAdd, Nat.reduceLeDiff, Nat.reduceEqDiff, Nat.reduceSub, Int32.reduceOfInt, Int32.reduceAdd, Int32.reduceMul, Int32.reduceSub, ↓reduceIte, Int32.reduceLT, Int32.reduceLE, Int32.reduceToNatClampNeg, Nat.reduceMod, Nat.reduceLT, List.length_cons, List.length_nil, eq_self, true_or, or_true, and_self, implies_true, not_true_eq_false, not_false_eq_true, false_implies, true_implies, forall_const, st_aloadx, st_getfieldx, st_iconstx, st_in2, st_in3, st_ireturnx, st_putfieldx, jx_Slips_posit_45, kb_Slips_posit_45, og_23_1, op_34_6, oo_34, oo_23, oa_23, oa_34, os_34]
      refine c_grant (hA1.dk dk2 (fun a q => ?_) (fun a q => v2 a (by omega))) (fun F3 c3 m3 => ?_)
      · rw [o2 a (by omega) (by omega), upz_ne _ _ (by omega)]
      · simp only [isO_c, ax0, ex_cons, am_get, upz_at, true_and, and_true, Nat.reduceAdd, Nat.reduceLeDiff, Nat.reduceEqDiff, Nat.reduceSub, Int32.reduceOfInt, Int32.reduceAdd, Int32.reduceMul, Int32.reduceSub, ↓reduceIte, Int32.reduceLT, Int32.reduceLE, Int32.reduceToNatClampNeg, Nat.reduceMod, Nat.reduceLT, List.length_cons, List.length_nil, eq_self, true_or, or_true, and_self, implies_true, not_true_eq_false, not_false_eq_true, false_implies, true_implies, forall_const, st_aloadx, st_getfieldx, st_iconstx, st_in2, st_in3, st_ireturnx, st_putfieldx, jx_Slips_posit_45, kb_Slips_posit_45, og_23_1, op_34_6, oo_34, oo_23, oa_23, oa_34, os_34]
        refine K F3 J1 V2 (Cx.tr (Cx.tr cf1.cx (Cx.kp (fun a q _ _ => ?_))) c3) (fun a q => v2 a (by omega)) m3
        rw [o2 a (by omega) (by omega), upz_ne _ _ (by omega)]
    · rw [z, if_neg (by decide)] at K
      simp only [isO_c, ax0, ex_cons, am_get, upz_at, true_and, and_true, Nat.reduceAdd, Nat.reduceLeDiff, Nat.reduceEqDiff, Nat.reduceSub, Int32.reduceOfInt, Int32.reduceAdd, Int32.reduceMul, Int32.reduceSub, ↓reduceIte, Int32.reduceLT, Int32.reduceLE, Int32.reduceToNatClampNeg, Nat.reduceMod, Nat.reduceLT, List.length_cons, List.length_nil, eq_self, true_or, or_true, and_self, implies_true, not_true_eq_false, not_false_eq_true, false_implies, true_implies, forall_const, st_aloadx, st_getfieldx, st_iconstx, st_ifCondx, st_in1, st_in2, st_in3, st_ireturnx, jx_Slips_posit_19, kb_Slips_posit_19, og_23_3, oo_47, oo_23, oa_23, oa_47, Bool.not_true, show b2i false = (0 : Int32) from rfl]
      refine c_refuse hA1 (j := 2) (Or.inr (Or.inr (Or.inl ⟨rfl, rfl⟩))) (fun F' c m => ?_)
      simp only [isO_c, ax0, ex_cons, am_get, upz_at, true_and, and_true, Nat.reduceAdd, Nat.reduceLeDiff, Nat.reduceEqDiff, Nat.reduceSub, Int32.reduceOfInt, Int32.reduceAdd, Int32.reduceMul, Int32.reduceSub, ↓reduceIte, Int32.reduceLT, Int32.reduceLE, Int32.reduceToNatClampNeg, Nat.reduceMod, Nat.reduceLT, List.length_cons, List.length_nil, eq_self, true_or, or_true, and_self, implies_true, not_true_eq_false, not_false_eq_true, false_implies, true_implies, forall_const, st_aloadx, st_getfieldx, st_iconstx, st_ifCondx, st_in1, st_in2, st_in3, st_ireturnx, jx_Slips_posit_19, kb_Slips_posit_19, og_23_3, oo_47, oo_23, oa_23, oa_47]
      exact K F' J1 V (cf1.cx.tr c) Vz.rf m
end CBD
