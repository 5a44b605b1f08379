/-! ===== the class: riddle as a whole ===== -/
theorem CB.ry {h : am_H} {F F' : Nat → Nat → Int32} {V : Nat → Nat → Value} {A : aT} (hA : CB h F V A) (r : Ry F F') {o : Option yT} (ho : CYr (F' 23 11) (F' 80) o) : CB h F' V (A.1, A.2.1, A.2.2.1, A.2.2.2.1, o) := by
  obtain ⟨h1, h2, h3, h4, h5, h6, h7⟩ := id hA
  refine hA.lo (fun a q1 q2 => r.1 a (by omega) (by omega) (by omega) (by omega) (by omega) (by omega)) rfl rfl ?_ ?_ ?_ ?_ ho
  · rw [r.1 24 (by decide) (by decide) (by decide) (by decide) (by decide) (by decide), r.1 25 (by decide) (by decide) (by decide) (by decide) (by decide) (by decide)]; exact h3
  · rw [r.1 24 (by decide) (by decide) (by decide) (by decide) (by decide) (by decide)]; exact h4
  · rw [r.2 13 (by decide)]; exact h5
  · rw [r.1 81 (by decide) (by decide) (by decide) (by decide) (by decide) (by decide)]; exact h6
theorem Ry.cx {F F' : Nat → Nat → Int32} (r : Ry F F') : Cx false false F F' := Cx.kp (fun a q q1 q2 => r.1 a (by omega) (by omega) (by omega) (by omega) q1 q2)
section CRJ
variable {d : Nat} {h : am_H} {F : Nat → Nat → Int32} {J : Nat → Nat → Int64} {V : Nat → Nat → Value} {Q : am_Q}
set_option maxRecDepth 20000 in
theorem c_rdLoop (hb : HB h) (hpt : HP h) {x : Int32} {s n : Nat} (hs : s < 1000003) (hn : n ≤ 12) (K : ∀ F' J' v4 v5 v6 v7, Ry F F' → Ri F' J' n (rdIt s n).2 → am_W kc_Slips_riddle (am_cl (d + 5)) Q 166 [.ref 23, .int x, .int (nI n), v4, .int (nI n), v5, v6, v7] [] (ov h F' J' V)) : ∀ j k F1 J1 v5 v6 v7, k + j = n → Ry F F1 → Ri F1 J1 k (rdIt s k).2 → am_W kc_Slips_riddle (am_cl (d + 5)) Q 44 [.ref 23, .int x, .int (nI n), .int (nI (rdIt s k).1), .int (nI k), v5, v6, v7] [] (ov h F1 J1 V) := by
  intro j
  induction j with
  | zero =>
    intro k F1 J1 v5 v6 v7 ek r1 i1
    have ek : k = n := ek
    subst ek
    rw [jx_Slips_riddle_44]
    simp only [isO_c, ax0, ex_cons, am_get, upz_at, true_and, and_true, Nat.reduceAdd, Nat.reduceLeDiff, Nat.reduceEqDiff, Nat.reduceSub, Int32.reduceOfInt, Int32.reduceAdd, Int32.reduceMul, Int32.reduceSub, ↓reduceIte, Int32.reduceLT, Int32.reduceLE, Int32.reduceToNatClampNeg, Nat.reduceMod, Nat.reduceLT, List.length_cons, List.length_nil, eq_self, true_or, or_true, and_self, implies_true, not_true_eq_false, not_false_eq_true, false_implies, true_implies, forall_const, st_goto_wx, st_iconstx, st_if_icmpx, st_iincx, st_iloadx, st_st1, st_iremx, st_istorex, am_put, am_nlg, kb_Slips_riddle_44, (nk_le (by omega) (by omega) : (nI (k) ≤ nI (k)) = (k ≤ k)), Nat.le_refl]
    exact K F1 J1 _ _ _ _ r1 i1
  | succ j ih =>
    intro k F1 J1 v5 v6 v7 ek r1 i1
    exact c_rdStep hb hpt (rdIt_ok s hs k).1 (by omega) hn i1 (fun F2 J2 v5 v6 v7 r2 i2 => ih (k + 1) F2 J2 v5 v6 v7 (by omega) (r1.tr r2) i2)
set_option maxRecDepth 20000 in
theorem co_riddle (hb : HB h) (hpt : HP h) {A : aT} (hA : CB h F V A) {x n : Int32} (K : ∀ F' J', Cx false false F F' → CB h F' V (xRiddle A x n).1 → Q (some (.int (xRiddle A x n).2)) (ov h F' J' V)) : am_cl (d + 6) 55 [.ref 23, .int x, .int n] (ov h F J V) Q := by
  unfold xRiddle at K
  have rf : (lieB x 0 1000000 && lieB n 0 12) = false → am_W kc_Slips_riddle (am_cl (d + 5)) Q 21 [.ref 23, .int x, .int n, am_dum, am_dum, am_dum, am_dum, am_dum] [] (ov h F J V) := fun e => by
    rw [e, if_neg Bool.false_ne_true] at K
    simp only [isO_c, ax0, ex_cons, am_get, upz_at, true_and, and_true, Nat.reduceAdd, Nat.reduceLeDiff, Nat.reduceEqDiff, Nat.reduceSub, Int32.reduceOfInt, Int32.reduceAdd, Int32.reduceMul, Int32.reduceSub, ↓reduceIte, Int32.reduceLT, Int32.reduceLE, Int32.reduceToNatClampNeg, Nat.reduceMod, Nat.reduceLT, List.length_cons, List.length_nil, eq_self, true_or, or_true, and_self, implies_true, not_true_eq_false, not_false_eq_true, false_implies, true_implies, forall_const, st_aloadx, st_iconstx, st_in2, st_ireturnx, jx_Slips_riddle_21, kb_Slips_riddle_21, oo_23, oa_23]
    refine c_refuse hA (j := 0) (Or.inl ⟨rfl, rfl⟩) (fun F' c m => ?_)
    simp only [isO_c, ax0, ex_cons, am_get, upz_at, true_and, and_true, Nat.reduceAdd, Nat.reduceLeDiff, Nat.reduceEqDiff, Nat.reduceSub, Int32.reduceOfInt, Int32.reduceAdd, Int32.reduceMul, Int32.reduceSub, ↓reduceIte, Int32.reduceLT, Int32.reduceLE, Int32.reduceToNatClampNeg, Nat.reduceMod, Nat.reduceLT, List.length_cons, List.length_nil, eq_self, true_or, or_true, and_self, implies_true, not_true_eq_false, not_false_eq_true, false_implies, true_implies, forall_const, st_aloadx, st_iconstx, st_in2, st_ireturnx, jx_Slips_riddle_21, kb_Slips_riddle_21, oo_23, oa_23]
    exact K F' J c m
  have go : (lieB x 0 1000000 && lieB n 0 12) = true → am_W kc_Slips_riddle (am_cl (d + 5)) Q 27 [.ref 23, .int x, .int n, am_dum, am_dum, am_dum, am_dum, am_dum] [] (ov h F J V) := fun e => by
    rw [e, if_pos rfl] at K
    rw [Bool.and_eq_true] at e
    obtain ⟨s, es, hs, cs⟩ := lieB_nI (m := 1000000) (by decide) e.1
    obtain ⟨k, ek, hk, ck⟩ := lieB_nI (m := 12) (by decide) e.2
    rw [cs, ck] at K
    subst es
    subst ek
    simp only [isO_c, ax0, ex_cons, am_get, upz_at, true_and, and_true, Nat.reduceAdd, Nat.reduceLeDiff, Nat.reduceEqDiff, Nat.reduceSub, Int32.reduceOfInt, Int32.reduceAdd, Int32.reduceMul, Int32.reduceSub, ↓reduceIte, Int32.reduceLT, Int32.reduceLE, Int32.reduceToNatClampNeg, Nat.reduceMod, Nat.reduceLT, List.length_cons, List.length_nil, eq_self, true_or, or_true, and_self, implies_true, not_true_eq_false, not_false_eq_true, false_implies, true_implies, forall_const, st_aloadx, st_getfieldx, st_goto_wx, st_iconstx, st_iloadx, st_in1, st_istorex, st_putfieldx, am_put, am_nlg, jx_Slips_riddle_27, kb_Slips_riddle_27, op_23_11, og_23_3, oo_47, oa_23, oa_47, os_23]
    refine c_clear (Or.inl rfl) (fun F1 J1 t1 q1 => ?_)
    simp only [isO_c, ax0, ex_cons, am_get, upz_at, true_and, and_true, Nat.reduceAdd, Nat.reduceLeDiff, Nat.reduceEqDiff, Nat.reduceSub, Int32.reduceOfInt, Int32.reduceAdd, Int32.reduceMul, Int32.reduceSub, ↓reduceIte, Int32.reduceLT, Int32.reduceLE, Int32.reduceToNatClampNeg, Nat.reduceMod, Nat.reduceLT, List.length_cons, List.length_nil, eq_self, true_or, or_true, and_self, implies_true, not_true_eq_false, not_false_eq_true, false_implies, true_implies, forall_const, st_aloadx, st_getfieldx, st_goto_wx, st_iconstx, st_iloadx, st_in1, st_istorex, st_putfieldx, am_put, am_nlg, jx_Slips_riddle_27, kb_Slips_riddle_27, op_23_11, og_23_3, oo_47, oa_23, oa_47, os_23]
    have c1 := q1.cf (Or.inl rfl)
    obtain ⟨o1, o2, o3⟩ := rdIt_ok s (by omega) k
    refine c_rdLoop (F := F) (s := s) hb hpt (by omega) hk (fun F2 J2 v4 v5 v6 v7 r2 i2 => ?_) k 0 F1 J1 _ _ _ (by omega) ⟨fun a h1 h2 h3 h4 h5 h6 => ?_, fun i hi => ?_⟩ ⟨?_, Nat.le_refl _, fun i hi => absurd hi (Nat.not_lt_zero i), 0, t1, ?_⟩
    · obtain ⟨y1, y2, y3, _⟩ := i2
      simp only [isO_c, ax0, ex_cons, am_get, upz_at, true_and, and_true, Nat.reduceAdd, Nat.reduceLeDiff, Nat.reduceEqDiff, Nat.reduceSub, Int32.reduceOfInt, Int32.reduceAdd, Int32.reduceMul, Int32.reduceSub, ↓reduceIte, Int32.reduceLT, Int32.reduceLE, Int32.reduceToNatClampNeg, Nat.reduceMod, Nat.reduceLT, List.length_cons, List.length_nil, eq_self, true_or, or_true, and_self, implies_true, not_true_eq_false, not_false_eq_true, false_implies, true_implies, forall_const, st_aloadx, st_getfieldx, st_in2, st_ireturnx, jx_Slips_riddle_166, kb_Slips_riddle_166, og_23_11, oo_23, oa_23, y1]
      refine c_grant (hA.ry r2 (o := some (rdIt s k).2) ⟨y1, by omega, fun i hi => ⟨y3 i hi, o3 i hi⟩⟩) (fun F3 c3 m3 => ?_)
      simp only [isO_c, ax0, ex_cons, am_get, upz_at, true_and, and_true, Nat.reduceAdd, Nat.reduceLeDiff, Nat.reduceEqDiff, Nat.reduceSub, Int32.reduceOfInt, Int32.reduceAdd, Int32.reduceMul, Int32.reduceSub, ↓reduceIte, Int32.reduceLT, Int32.reduceLE, Int32.reduceToNatClampNeg, Nat.reduceMod, Nat.reduceLT, List.length_cons, List.length_nil, eq_self, true_or, or_true, and_self, implies_true, not_true_eq_false, not_false_eq_true, false_implies, true_implies, forall_const, st_aloadx, st_getfieldx, st_in2, st_ireturnx, jx_Slips_riddle_166, kb_Slips_riddle_166, og_23_11, oo_23, oa_23]
      exact K F3 J2 (r2.cx.tr c3) m3
    · rw [c1 a h3 h4 h5 h6, upz_ne _ _ h1]
    · rw [c1 23 (by decide) (by decide) (by decide) (by decide), upz_eq, upz_ne _ _ hi]
    · rw [c1 23 (by decide) (by decide) (by decide) (by decide), upz_eq, upz_eq]; rfl
    · show tE.2.1.length + pcn 0 ≤ 0; decide
  simp only [isO_c, ax0, ex_cons, am_get, upz_at, true_and, and_true, Nat.reduceAdd, Nat.reduceLeDiff, Nat.reduceEqDiff, Nat.reduceSub, Int32.reduceOfInt, Int32.reduceAdd, Int32.reduceMul, Int32.reduceSub, ↓reduceIte, Int32.reduceLT, Int32.reduceLE, Int32.reduceToNatClampNeg, Nat.reduceMod, Nat.reduceLT, List.length_cons, List.length_nil, eq_self, true_or, or_true, and_self, implies_true, not_true_eq_false, not_false_eq_true, false_implies, true_implies, forall_const, st_goto_wx, st_iconstx, st_ifCondx, st_if_icmpx, st_iloadx, kb_Slips_riddle_0, cx_Slips_riddle]
  refine ⟨fun q => rf ?_, fun q => ⟨fun r => rf ?_, fun r => ⟨fun t => rf ?_, fun t => ⟨fun u => go ?_, fun u => rf ?_⟩⟩⟩⟩
  · unfold lieB; rw [decide_eq_true q]; rfl
  · unfold lieB; rw [decide_eq_true r, Bool.not_true, Bool.and_false]; rfl
  · unfold lieB; rw [decide_eq_true t, Bool.not_true, Bool.false_and, Bool.and_false]
  · unfold lieB; rw [decide_eq_false q, decide_eq_false r, decide_eq_false t, decide_eq_false (Int32.not_lt.mpr u)]; rfl
  · unfold lieB; rw [decide_eq_true (Int32.not_le.mp u), Bool.not_true, Bool.and_false, Bool.and_false]
end CRJ
