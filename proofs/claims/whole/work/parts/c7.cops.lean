/-! ===== the class: ask, write, take, existence ===== -/
def Vx (V V' : Nat → Nat → Value) : Prop := ∀ a, 38 ≤ a → V' a = V a
theorem Vx.rf {V : Nat → Nat → Value} : Vx V V := fun _ _ => rfl
theorem Vx.tr {V V1 V2 : Nat → Nat → Value} (h : Vx V V1) (g : Vx V1 V2) : Vx V V2 := fun a ha => (g a ha).trans (h a ha)
theorem Vx.up {V V1 : Nat → Nat → Value} (h : Vx V V1) {k : Nat} (hk : k < 38) (f : Nat → Value) : Vx V (upz V1 k f) := fun a ha => by rw [upz_ne _ _ (by omega)]; exact h a ha
theorem CB.dk {h : am_H} {F F' : Nat → Nat → Int32} {V V' : Nat → Nat → Value} {A : aT} {X : kT} (hA : CB h F V A) (hX : DK h F' V' 34 X) (e : ∀ a, a < 34 ∨ 38 ≤ a ∧ a ≤ 46 ∨ a = 80 ∨ a = 81 → F' a = F a) (v : Vx V V') : CB h F' V' (wX A X) := by
  obtain ⟨_, h2, h3, h4, h5, h6, h7⟩ := hA
  refine ⟨hX, h2.cg (fun a q1 q2 => e a (by omega)) (fun a q1 q2 => v a (by omega)), ?_, ?_, ?_, ?_, ?_⟩
  · rw [e 24 (by decide), e 25 (by decide)]; exact h3
  · rw [e 24 (by decide)]; exact h4
  · rw [e 23 (by decide)]; exact h5
  · rw [e 81 (by decide)]; exact h6
  · rw [e 23 (by decide), e 80 (by decide)]; exact h7
theorem DK.ask {h : am_H} {F : Nat → Nat → Int32} {V : Nat → Nat → Value} {X : kT} (hD : DK h F V 34 X) {p : Nat} {R : rT} (hs : SR h p R) : DK h F (upz V 34 (upz (V 34) 2 (.ref p))) 34 ((X.1.1, upz X.1.2.1 12 R, true, X.1.2.2.2), X.2) := by
  obtain ⟨⟨d1, d2, d3⟩, d4, d5, ⟨d6, d7, d8⟩, d9, d10⟩ := hD
  refine ⟨⟨d1, d2, fun i hi => ?_⟩, ?_, d5, ⟨d6, d7, ?_⟩, ?_, d10⟩
  · have hi : i < X.1.1 := hi
    rw [upz_ne _ _ (by decide)]
    show ∃ p, _ ∧ SR h p (upz X.1.2.1 12 R i)
    rw [upz_ne _ _ (by omega)]
    exact d3 i hi
  · rw [if_pos rfl, upz_eq, upz_eq]
    refine ⟨p, rfl, ?_⟩
    show SR h p (upz X.1.2.1 12 R 12)
    rw [upz_eq]
    exact hs
  · rw [upz_ne _ _ (by decide)]; exact d8
  · rw [upz_ne _ _ (by decide), upz_ne _ _ (by decide)]; exact d9
theorem DK.put {h : am_H} {F : Nat → Nat → Int32} {V : Nat → Nat → Value} {X : kT} (hD : DK h F V 34 X) {p k : Nat} {R : rT} (hs : SR h p R) (hk : k < X.1.1) : DK h F (upz V 35 (upz (V 35) k (.ref p))) 34 (sRw X.1 k R, X.2) := by
  obtain ⟨⟨d1, d2, d3⟩, d4, d5, ⟨d6, d7, d8⟩, d9, d10⟩ := hD
  refine ⟨⟨d1, d2, fun i hi => ?_⟩, ?_, d5, ⟨d6, d7, ?_⟩, ?_, d10⟩
  · have hi : i < X.1.1 := hi
    rw [show (34 + 1 : Nat) = 35 from rfl, upz_eq]
    show ∃ p, _ ∧ SR h p (upz X.1.2.1 k R i)
    by_cases e : i = k
    · subst e; rw [upz_eq, upz_eq]; exact ⟨p, rfl, hs⟩
    · rw [upz_ne _ _ e, upz_ne _ _ e]; exact d3 i hi
  · rw [upz_ne _ _ (by decide)]
    show if X.1.2.2.1 = true then ∃ p, V 34 2 = .ref p ∧ SR h p (upz X.1.2.1 k R 12) else V 34 2 = .null
    rw [upz_ne _ _ (by omega)]
    exact d4
  · rw [upz_ne _ _ (by decide)]; exact d8
  · intro i hi
    refine ⟨?_, by rw [upz_ne _ _ (by decide)]; exact (d9 i hi).2⟩
    rw [show (34 + 1 : Nat) = 35 from rfl, upz_eq]
    by_cases e : i = k
    · subst e; rw [upz_eq]; exact Or.inr ⟨p, R, rfl, hs⟩
    · rw [upz_ne _ _ e]; exact (d9 i hi).1
theorem SR.isO {h : am_H} {p : Nat} {R : rT} (hs : SR h p R) (F : Nat → Nat → Int32) (J : Nat → Nat → Int64) (V : Nat → Nat → Value) : am_isO 6 ((ov h F J V).1 p) := by
  obtain ⟨a, b, c, fs, ho, _⟩ := hs.all
  rw [ho F J V]
  simp only [isO_c]
theorem os_64u {h : am_H} {F : Nat → Nat → Int32} {J : Nat → Nat → Int64} {V : Nat → Nat → Value} {f : Nat → Int32} {w : Nat → Value} : am_set (ov h F J (upz V 34 w)) 64 (oc 64 f (J 64) (V 64)) = ov h (upz F 64 f) J (upz V 34 w) := by
  have := ov_setF (h := h) (F := F) (J := J) (V := upz V 34 w) (a := 64) (f := f) (by decide) (by decide)
  rwa [upz_ne _ _ (by decide)] at this
theorem Cx.q64 {F : Nat → Nat → Int32} : Cx false true F (upz F 64 (upz (F 64) 0 0)) := fun a ha h1 h2 i => by
  by_cases e2 : a = 64
  · subst e2
    rw [upz_eq]
    by_cases e : i = 0
    · subst e; rw [upz_eq, if_pos ⟨rfl, Or.inr ⟨rfl, rfl⟩⟩]
    · rw [upz_ne _ _ e, if_neg (fun z => e z.1)]
  · rw [upz_ne _ _ e2, if_neg]
    rintro ⟨_, ⟨_, q⟩ | ⟨q, _⟩⟩
    · cases q
    · exact e2 q
section CSB
variable {d : Nat} {h : am_H} {F : Nat → Nat → Int32} {J : Nat → Nat → Int64} {V : Nat → Nat → Value} {Q : am_Q}
set_option maxRecDepth 20000 in
theorem c_ask {A : aT} (hA : CB h F V A) {p : Nat} {R : rT} (hs : SR h p R) (K : ∀ F' V', Cx false true F F' → Vx V V' → CB h F' V' (xGd (wD A ((aD A).1, upz (aD A).2.1 12 R, true, (aD A).2.2.2)) 0).1 → Q (some (.int 0)) (ov h F' J V')) : am_cl (d + 2) 14 [.ref 23, .ref p] (ov h F J V) Q := by
  simp only [isO_c, ax0, ex_cons, am_get, upz_at, true_and, and_true, Nat.reduceAdd, Nat.reduceLeDiff, Nat.reduceEqDiff, Nat.reduceSub, Int32.reduceOfInt, Int32.reduceAdd, Int32.reduceMul, Int32.reduceSub, ↓reduceIte, Int32.reduceLT, Int32.reduceLE, Int32.reduceToNatClampNeg, Nat.reduceMod, Nat.reduceLT, List.length_cons, List.length_nil, eq_self, true_or, or_true, and_self, implies_true, not_true_eq_false, not_false_eq_true, false_implies, true_implies, forall_const, st_aloadx, st_getfieldx, st_iconstx, st_invokedynamicx, st_invokedynamic_1x, st_in2, st_ireturnx, st_putstaticx, cx_Slips_ask, kb_Slips_ask_0, og_23_1, op_34_2, og_23_7, op_64_0, oo_23, oa_23, oa_34, oa_64, os_64, osV_34, os_64u]
  refine c_grant (A := wD A ((aD A).1, upz (aD A).2.1 12 R, true, (aD A).2.2.2)) (hA.dk ((hA.1.ask hs).cg (fun i _ => ?_) ?_ rfl rfl rfl) (fun a q => ?_) (Vx.rf.up (by decide) _)) (fun F' c m => ?_)
  · rw [upz_ne _ _ (by decide)]
  · rw [upz_ne _ _ (by decide)]
  · rw [upz_ne _ _ (by omega)]
  · simp only [isO_c, ax0, ex_cons, am_get, upz_at, true_and, and_true, Nat.reduceAdd, Nat.reduceLeDiff, Nat.reduceEqDiff, Nat.reduceSub, Int32.reduceOfInt, Int32.reduceAdd, Int32.reduceMul, Int32.reduceSub, ↓reduceIte, Int32.reduceLT, Int32.reduceLE, Int32.reduceToNatClampNeg, Nat.reduceMod, Nat.reduceLT, List.length_cons, List.length_nil, eq_self, true_or, or_true, and_self, implies_true, not_true_eq_false, not_false_eq_true, false_implies, true_implies, forall_const, st_aloadx, st_getfieldx, st_iconstx, st_invokedynamicx, st_invokedynamic_1x, st_in2, st_ireturnx, st_putstaticx, cx_Slips_ask, kb_Slips_ask_0, og_23_1, op_34_2, og_23_7, op_64_0, oo_23, oa_23, oa_34, oa_64, os_64, osV_34]
    exact K F' _ (Cx.q64.tr c) (Vx.rf.up (by decide) _) m
def xWb (A : aT) (x : Int32) : Bool := slB (aD A).1 x && (aD A).2.2.1
set_option maxRecDepth 20000 in
theorem co_write {A : aT} (hA : CB h F V A) {x : Int32} (K : ∀ F' V', Cx (xWb A x) false F F' → Vx V V' → CB h F' V' (xWrite A x).1 → Q (some (.int (xWrite A x).2)) (ov h F' J V')) : am_cl (d + 2) 15 [.ref 23, .int x] (ov h F J V) Q := by
  have hn : (aD A).1 ≤ 12 := hA.1.1.2.1
  have rf : slB (aD A).1 x = false → am_cl (d + 1) 64 [.ref 23, .int (-2)] (ov h F J V) (fun r h1 => am_kk (am_ex (am_cl (d + 1)) (am_W kc_Slips_write (am_cl (d + 1)) Q) Q [(Instr.ireturn, 0)]) [.ref 23, .int x] r [] h1) := fun e => by
    refine c_refuse hA (j := 1) (Or.inr (Or.inl ⟨rfl, rfl⟩)) (fun F' c m => ?_)
    have K := K F' V
    unfold xWrite xWb at K
    rw [e, if_neg Bool.false_ne_true] at K
    simp only [isO_c, ax0, ex_cons, am_get, upz_at, true_and, and_true, Nat.reduceAdd, Nat.reduceLeDiff, Nat.reduceEqDiff, Nat.reduceSub, Int32.reduceOfInt, Int32.reduceAdd, Int32.reduceMul, Int32.reduceSub, ↓reduceIte, Int32.reduceLT, Int32.reduceLE, Int32.reduceToNatClampNeg, Nat.reduceMod, Nat.reduceLT, List.length_cons, List.length_nil, eq_self, true_or, or_true, and_self, implies_true, not_true_eq_false, not_false_eq_true, false_implies, true_implies, forall_const, st_aloadx, st_iconstx, st_in2, st_ireturnx, jx_Slips_write_15, kb_Slips_write_15, oo_23, oa_23]
    exact K c Vx.rf m
  simp only [isO_c, ax0, ex_cons, am_get, upz_at, true_and, and_true, Nat.reduceAdd, Nat.reduceLeDiff, Nat.reduceEqDiff, Nat.reduceSub, Int32.reduceOfInt, Int32.reduceAdd, Int32.reduceMul, Int32.reduceSub, ↓reduceIte, Int32.reduceLT, Int32.reduceLE, Int32.reduceToNatClampNeg, Nat.reduceMod, Nat.reduceLT, List.length_cons, List.length_nil, eq_self, true_or, or_true, and_self, implies_true, not_true_eq_false, not_false_eq_true, false_implies, true_implies, forall_const, st_aloadx, st_getfieldx, st_goto_wx, st_iconstx, st_ifCondx, st_if_icmpx, st_iloadx, st_in2, st_ireturnx, kb_Slips_write_0, og_23_1, og_34_1, jx_Slips_write_15, kb_Slips_write_15, oo_23, oa_23, oa_34, cx_Slips_write, hA.1.1.1]
  refine ⟨fun q => rf ?_, fun q => ⟨fun r => ?_, fun r => rf ?_⟩⟩
  · rw [slB_eq hn, decide_eq_true q]; rfl
  · have e : slB (aD A).1 x = true := by rw [slB_eq hn, decide_eq_false q, decide_eq_false (Int32.not_le.mpr r)]; rfl
    obtain ⟨k, ek, hk, ck⟩ := slB_nI hn e
    rcases hA.1.asked with ⟨e1, e2⟩ | ⟨e1, p, e2, e3⟩
    · have e1 : (aD A).2.2.1 = false := e1
      simp only [isO_c, ax0, ex_cons, am_get, upz_at, true_and, and_true, Nat.reduceAdd, Nat.reduceLeDiff, Nat.reduceEqDiff, Nat.reduceSub, Int32.reduceOfInt, Int32.reduceAdd, Int32.reduceMul, Int32.reduceSub, ↓reduceIte, Int32.reduceLT, Int32.reduceLE, Int32.reduceToNatClampNeg, Nat.reduceMod, Nat.reduceLT, List.length_cons, List.length_nil, eq_self, true_or, or_true, and_self, implies_true, not_true_eq_false, not_false_eq_true, false_implies, true_implies, forall_const, st_aloadx, st_getfieldx, st_iconstx, st_ifnonnullx, st_ifnonnull_1x, st_in2, st_ireturnx, jx_Slips_write_22, kb_Slips_write_22, og_23_1, og_34_2, oo_23, oa_23, oa_34, e2]
      refine c_refuse hA (j := 2) (Or.inr (Or.inr (Or.inl ⟨rfl, rfl⟩))) (fun F' c m => ?_)
      have K := K F' V
      unfold xWrite xWb at K
      rw [e, if_pos rfl, e1, if_neg Bool.false_ne_true] at K
      simp only [isO_c, ax0, ex_cons, am_get, upz_at, true_and, and_true, Nat.reduceAdd, Nat.reduceLeDiff, Nat.reduceEqDiff, Nat.reduceSub, Int32.reduceOfInt, Int32.reduceAdd, Int32.reduceMul, Int32.reduceSub, ↓reduceIte, Int32.reduceLT, Int32.reduceLE, Int32.reduceToNatClampNeg, Nat.reduceMod, Nat.reduceLT, List.length_cons, List.length_nil, eq_self, true_or, or_true, and_self, implies_true, not_true_eq_false, not_false_eq_true, false_implies, true_implies, forall_const, st_aloadx, st_getfieldx, st_iconstx, st_ifnonnullx, st_ifnonnull_1x, st_in2, st_ireturnx, jx_Slips_write_22, kb_Slips_write_22, og_23_1, og_34_2, oo_23, oa_23, oa_34]
      exact K c Vx.rf m
    · have e1 : (aD A).2.2.1 = true := e1
      simp only [isO_c, ax0, ex_cons, am_get, upz_at, true_and, and_true, Nat.reduceAdd, Nat.reduceLeDiff, Nat.reduceEqDiff, Nat.reduceSub, Int32.reduceOfInt, Int32.reduceAdd, Int32.reduceMul, Int32.reduceSub, ↓reduceIte, Int32.reduceLT, Int32.reduceLE, Int32.reduceToNatClampNeg, Nat.reduceMod, Nat.reduceLT, List.length_cons, List.length_nil, eq_self, true_or, or_true, and_self, implies_true, not_true_eq_false, not_false_eq_true, false_implies, true_implies, forall_const, st_aastorex, st_aastore_1x, st_aloadx, st_getfieldx, st_iconstx, st_ifnonnullx, st_ifnonnull_1x, st_iloadx, st_in1, st_in2, st_ireturnx, jx_Slips_write_22, kb_Slips_write_22, og_23_1, og_34_2, oo_23, jx_Slips_write_39, kb_Slips_write_39, og_34_0, oa_23, oa_34, oa_35, ow_35, os_35, e2, oa_35, or_35, os_35, ow_35]
      rw [ck]
      refine ⟨⟨q, by omega⟩, e3.isO F J V, ?_⟩
      refine c_forget (A := wD A (sRw (aD A) k ((aD A).2.1 12))) (hA.dk (hA.1.put e3 hk) (fun a q => rfl) (Vx.rf.up (by decide) _)) (fun F' c m => ?_)
      simp only [isO_c, ax0, ex_cons, am_get, upz_at, true_and, and_true, Nat.reduceAdd, Nat.reduceLeDiff, Nat.reduceEqDiff, Nat.reduceSub, Int32.reduceOfInt, Int32.reduceAdd, Int32.reduceMul, Int32.reduceSub, ↓reduceIte, Int32.reduceLT, Int32.reduceLE, Int32.reduceToNatClampNeg, Nat.reduceMod, Nat.reduceLT, List.length_cons, List.length_nil, eq_self, true_or, or_true, and_self, implies_true, not_true_eq_false, not_false_eq_true, false_implies, true_implies, forall_const, st_aastorex, st_aastore_1x, st_aloadx, st_getfieldx, st_iconstx, st_iloadx, st_in1, st_in2, st_ireturnx, jx_Slips_write_39, kb_Slips_write_39, og_23_1, og_34_0, og_34_2, oo_23, oa_23, oa_34, oa_35, ow_35, os_35]
      refine c_grant m (fun F2 c2 m2 => ?_)
      have K := K F2 (upz V 35 (upz (V 35) k (.ref p)))
      unfold xWrite xWb at K
      rw [e, if_pos rfl, e1, if_pos rfl, ck] at K
      simp only [isO_c, ax0, ex_cons, am_get, upz_at, true_and, and_true, Nat.reduceAdd, Nat.reduceLeDiff, Nat.reduceEqDiff, Nat.reduceSub, Int32.reduceOfInt, Int32.reduceAdd, Int32.reduceMul, Int32.reduceSub, ↓reduceIte, Int32.reduceLT, Int32.reduceLE, Int32.reduceToNatClampNeg, Nat.reduceMod, Nat.reduceLT, List.length_cons, List.length_nil, eq_self, true_or, or_true, and_self, implies_true, not_true_eq_false, not_false_eq_true, false_implies, true_implies, forall_const, st_aastorex, st_aastore_1x, st_aloadx, st_getfieldx, st_iconstx, st_iloadx, st_in1, st_in2, st_ireturnx, jx_Slips_write_39, kb_Slips_write_39, og_23_1, og_34_0, og_34_2, oo_23, oa_23, oa_34, oa_35, ow_35, os_35]
      exact K (c.tr c2) (Vx.rf.up (by decide) _) m2
  · rw [slB_eq hn, decide_eq_false q, decide_eq_true (Int32.not_lt.mp r)]; rfl
set_option maxRecDepth 20000 in
theorem co_take {A : aT} (hA : CB h F V A) {x : Int32} (K : ∀ F' V', Cx false (slB (aD A).1 x) F F' → Vx V V' → CB h F' V' (xTake A x).1 → Q (some (.int (xTake A x).2)) (ov h F' J V')) : am_cl (d + 3) 16 [.ref 23, .int x] (ov h F J V) Q := by
  simp only [isO_c, ax0, ex_cons, am_get, upz_at, true_and, and_true, Nat.reduceAdd, Nat.reduceLeDiff, Nat.reduceEqDiff, Nat.reduceSub, Int32.reduceOfInt, Int32.reduceAdd, Int32.reduceMul, Int32.reduceSub, ↓reduceIte, Int32.reduceLT, Int32.reduceLE, Int32.reduceToNatClampNeg, Nat.reduceMod, Nat.reduceLT, List.length_cons, List.length_nil, eq_self, true_or, or_true, and_self, implies_true, not_true_eq_false, not_false_eq_true, false_implies, true_implies, forall_const, st_aloadx, st_astorex, st_astore_1x, st_getfieldx, st_iconstx, st_ifnonnullx, st_ifnonnull_1x, st_iloadx, st_in2, st_ireturnx, am_put, am_nlg, kb_Slips_take_0, og_23_1, oo_34, oo_23, oa_23, oa_34, cx_Slips_take]
  refine c_slipAt hA.1 ?_
  rcases spV_slip hA.1 (x := x) with ⟨a1, a2⟩ | ⟨a1, p1, a2, a3, a4⟩
  · have a1 : slB (aD A).1 x = false := a1
    rw [a2]
    simp only [isO_c, ax0, ex_cons, am_get, upz_at, true_and, and_true, Nat.reduceAdd, Nat.reduceLeDiff, Nat.reduceEqDiff, Nat.reduceSub, Int32.reduceOfInt, Int32.reduceAdd, Int32.reduceMul, Int32.reduceSub, ↓reduceIte, Int32.reduceLT, Int32.reduceLE, Int32.reduceToNatClampNeg, Nat.reduceMod, Nat.reduceLT, List.length_cons, List.length_nil, eq_self, true_or, or_true, and_self, implies_true, not_true_eq_false, not_false_eq_true, false_implies, true_implies, forall_const, st_aloadx, st_astorex, st_astore_1x, st_getfieldx, st_iconstx, st_ifnonnullx, st_ifnonnull_1x, st_iloadx, st_in2, st_ireturnx, am_put, am_nlg, kb_Slips_take_0, og_23_1, oo_34, oo_23, oa_23, oa_34]
    refine c_refuse hA (j := 1) (Or.inr (Or.inl ⟨rfl, rfl⟩)) (fun F' c m => ?_)
    have K := K F' V
    unfold xTake at K
    rw [a1, if_neg Bool.false_ne_true] at K
    simp only [isO_c, ax0, ex_cons, am_get, upz_at, true_and, and_true, Nat.reduceAdd, Nat.reduceLeDiff, Nat.reduceEqDiff, Nat.reduceSub, Int32.reduceOfInt, Int32.reduceAdd, Int32.reduceMul, Int32.reduceSub, ↓reduceIte, Int32.reduceLT, Int32.reduceLE, Int32.reduceToNatClampNeg, Nat.reduceMod, Nat.reduceLT, List.length_cons, List.length_nil, eq_self, true_or, or_true, and_self, implies_true, not_true_eq_false, not_false_eq_true, false_implies, true_implies, forall_const, st_aloadx, st_astorex, st_astore_1x, st_getfieldx, st_iconstx, st_ifnonnullx, st_ifnonnull_1x, st_iloadx, st_in2, st_ireturnx, am_put, am_nlg, kb_Slips_take_0, og_23_1, oo_34, oo_23, oa_23, oa_34]
    exact K c Vx.rf m
  · have a1 : slB (aD A).1 x = true := a1
    rw [a2]
    simp only [isO_c, ax0, ex_cons, am_get, upz_at, true_and, and_true, Nat.reduceAdd, Nat.reduceLeDiff, Nat.reduceEqDiff, Nat.reduceSub, Int32.reduceOfInt, Int32.reduceAdd, Int32.reduceMul, Int32.reduceSub, ↓reduceIte, Int32.reduceLT, Int32.reduceLE, Int32.reduceToNatClampNeg, Nat.reduceMod, Nat.reduceLT, List.length_cons, List.length_nil, eq_self, true_or, or_true, and_self, implies_true, not_true_eq_false, not_false_eq_true, false_implies, true_implies, forall_const, st_aloadx, st_astorex, st_astore_1x, st_getfieldx, st_iconstx, st_ifnonnullx, st_ifnonnull_1x, st_iloadx, st_in2, st_ireturnx, am_put, am_nlg, kb_Slips_take_0, og_23_1, oo_34, oo_23, jx_Slips_take_20, kb_Slips_take_20, oa_23, oa_34]
    refine c_ask hA a3 (fun F' V' c v m => ?_)
    have K := K F' V'
    unfold xTake at K
    rw [a1, if_pos rfl] at K
    simp only [isO_c, ax0, ex_cons, am_get, upz_at, true_and, and_true, Nat.reduceAdd, Nat.reduceLeDiff, Nat.reduceEqDiff, Nat.reduceSub, Int32.reduceOfInt, Int32.reduceAdd, Int32.reduceMul, Int32.reduceSub, ↓reduceIte, Int32.reduceLT, Int32.reduceLE, Int32.reduceToNatClampNeg, Nat.reduceMod, Nat.reduceLT, List.length_cons, List.length_nil, eq_self, true_or, or_true, and_self, implies_true, not_true_eq_false, not_false_eq_true, false_implies, true_implies, forall_const, st_aloadx, st_in2, st_ireturnx, jx_Slips_take_20, kb_Slips_take_20, oo_23, oa_23]
    exact K c v m
theorem DK.told {h : am_H} {F : Nat → Nat → Int32} {V : Nat → Nat → Value} {X : kT} (hD : DK h F V 34 X) {b : Bool} {v : Int32} (hv : v = b2i b) : DK h (upz F 34 (upz (F 34) 3 v)) V 34 ((X.1.1, X.1.2.1, X.1.2.2.1, b), X.2) := by
  obtain ⟨⟨d1, d2, d3⟩, d4, d5, ⟨d6, d7, d8⟩, d9, d10⟩ := hD
  refine ⟨⟨?_, d2, d3⟩, d4, ?_, ⟨?_, d7, ?_⟩, d9, ?_⟩
  · rw [upz_eq, upz_ne _ _ (by decide)]; exact d1
  · rw [upz_eq, upz_eq]; exact hv
  · rw [upz_eq, upz_ne _ _ (by decide)]; exact d6
  · rw [upz_ne _ _ (by decide)]; exact d8
  · rw [upz_ne _ _ (by decide)]; exact d10
def xEb (A : aT) (x : Int32) : Bool := lieB x 0 1 && (aD A).2.2.2 != decide (x = 1)
set_option maxRecDepth 20000 in
theorem co_existence {A : aT} (hA : CB h F V A) {x : Int32} (K : ∀ F', Cx (xEb A x) false F F' → CB h F' V (xExist A x).1 → Q (some (.int (xExist A x).2)) (ov h F' J V)) : am_cl (d + 2) 17 [.ref 23, .int x] (ov h F J V) Q := by
  have dk : ∀ {b : Bool} {v : Int32}, v = b2i b → CB h (upz F 34 (upz (F 34) 3 v)) V (wD A ((aD A).1, (aD A).2.1, (aD A).2.2.1, b)) := fun hv => hA.dk (hA.1.told hv) (fun a q => upz_ne _ _ (by omega)) Vx.rf
  have u34 : ∀ {f : Nat → Int32}, Cx false false F (upz F 34 f) := Cx.rf.up (by decide) _
  unfold xExist xEb at K
  by_cases e0 : x = 0
  · subst e0
    rw [show lieB 0 0 1 = true from rfl, if_pos rfl, show decide ((0 : Int32) = 1) = false from rfl] at K
    cases et : (aD A).2.2.2
    · have h3 : F 34 3 = 0 := hA.1.2.2.1.trans (by rw [show A.1.1.2.2.2 = false from et]; rfl)
      rw [et] at K
      simp only [isO_c, ax0, ex_cons, am_get, upz_at, true_and, and_true, Nat.reduceAdd, Nat.reduceLeDiff, Nat.reduceEqDiff, Nat.reduceSub, Int32.reduceOfInt, Int32.reduceAdd, Int32.reduceMul, Int32.reduceSub, ↓reduceIte, Int32.reduceLT, Int32.reduceLE, Int32.reduceToNatClampNeg, Nat.reduceMod, Nat.reduceLT, List.length_cons, List.length_nil, eq_self, true_or, or_true, and_self, implies_true, not_true_eq_false, not_false_eq_true, false_implies, true_implies, forall_const, st_aloadx, st_getfieldx, st_gotox, st_goto_wx, st_iconstx, st_ifCondx, st_if_icmpx, st_iloadx, st_in1, st_in2, st_ireturnx, st_istorex, st_putstaticx, am_put, am_nlg, cx_Slips_existence, kb_Slips_existence_0, oo_23, jx_Slips_existence_15, kb_Slips_existence_15, og_23_1, og_34_3, jx_Slips_existence_29, kb_Slips_existence_29, jx_Slips_existence_30, kb_Slips_existence_30, jx_Slips_existence_44, kb_Slips_existence_44, jx_Slips_existence_45, kb_Slips_existence_45, op_34_3, jx_Slips_existence_57, kb_Slips_existence_57, oa_23, oa_34, os_34, h3]
      refine c_grant (dk (b := false) rfl) (fun F' c m => ?_)
      simp only [isO_c, ax0, ex_cons, am_get, upz_at, true_and, and_true, Nat.reduceAdd, Nat.reduceLeDiff, Nat.reduceEqDiff, Nat.reduceSub, Int32.reduceOfInt, Int32.reduceAdd, Int32.reduceMul, Int32.reduceSub, ↓reduceIte, Int32.reduceLT, Int32.reduceLE, Int32.reduceToNatClampNeg, Nat.reduceMod, Nat.reduceLT, List.length_cons, List.length_nil, eq_self, true_or, or_true, and_self, implies_true, not_true_eq_false, not_false_eq_true, false_implies, true_implies, forall_const, st_aloadx, st_iloadx, st_in2, st_ireturnx, jx_Slips_existence_57, kb_Slips_existence_57, oo_23, oa_23]
      exact K F' (u34.tr c) m
    · have h3 : F 34 3 = 1 := hA.1.2.2.1.trans (by rw [show A.1.1.2.2.2 = true from et]; rfl)
      rw [et] at K
      simp only [isO_c, ax0, ex_cons, am_get, upz_at, true_and, and_true, Nat.reduceAdd, Nat.reduceLeDiff, Nat.reduceEqDiff, Nat.reduceSub, Int32.reduceOfInt, Int32.reduceAdd, Int32.reduceMul, Int32.reduceSub, ↓reduceIte, Int32.reduceLT, Int32.reduceLE, Int32.reduceToNatClampNeg, Nat.reduceMod, Nat.reduceLT, List.length_cons, List.length_nil, eq_self, true_or, or_true, and_self, implies_true, not_true_eq_false, not_false_eq_true, false_implies, true_implies, forall_const, st_aloadx, st_getfieldx, st_gotox, st_goto_wx, st_iconstx, st_ifCondx, st_if_icmpx, st_iloadx, st_in1, st_in2, st_ireturnx, st_istorex, st_putstaticx, am_put, am_nlg, cx_Slips_existence, kb_Slips_existence_0, oo_23, jx_Slips_existence_15, kb_Slips_existence_15, og_23_1, og_34_3, jx_Slips_existence_29, kb_Slips_existence_29, jx_Slips_existence_30, kb_Slips_existence_30, jx_Slips_existence_44, kb_Slips_existence_44, jx_Slips_existence_45, kb_Slips_existence_45, op_34_3, jx_Slips_existence_57, kb_Slips_existence_57, oa_23, oa_34, os_34, h3]
      refine c_forget (dk (b := false) rfl) (fun F' c m => ?_)
      simp only [isO_c, ax0, ex_cons, am_get, upz_at, true_and, and_true, Nat.reduceAdd, Nat.reduceLeDiff, Nat.reduceEqDiff, Nat.reduceSub, Int32.reduceOfInt, Int32.reduceAdd, Int32.reduceMul, Int32.reduceSub, ↓reduceIte, Int32.reduceLT, Int32.reduceLE, Int32.reduceToNatClampNeg, Nat.reduceMod, Nat.reduceLT, List.length_cons, List.length_nil, eq_self, true_or, or_true, and_self, implies_true, not_true_eq_false, not_false_eq_true, false_implies, true_implies, forall_const, st_aloadx, st_goto_wx, st_if_icmpx, st_iloadx, st_in1, st_in2, st_ireturnx, st_putstaticx, jx_Slips_existence_45, kb_Slips_existence_45, op_34_3, oo_23, jx_Slips_existence_57, kb_Slips_existence_57, oa_23, oa_34, os_34]
      refine c_grant m (fun F2 c2 m2 => ?_)
      simp only [isO_c, ax0, ex_cons, am_get, upz_at, true_and, and_true, Nat.reduceAdd, Nat.reduceLeDiff, Nat.reduceEqDiff, Nat.reduceSub, Int32.reduceOfInt, Int32.reduceAdd, Int32.reduceMul, Int32.reduceSub, ↓reduceIte, Int32.reduceLT, Int32.reduceLE, Int32.reduceToNatClampNeg, Nat.reduceMod, Nat.reduceLT, List.length_cons, List.length_nil, eq_self, true_or, or_true, and_self, implies_true, not_true_eq_false, not_false_eq_true, false_implies, true_implies, forall_const, st_aloadx, st_iloadx, st_in2, st_ireturnx, jx_Slips_existence_57, kb_Slips_existence_57, oo_23, oa_23]
      exact K F2 ((u34.tr c).tr c2) m2
  · by_cases e1 : x = 1
    · subst e1
      rw [show lieB 1 0 1 = true from rfl, if_pos rfl, show decide ((1 : Int32) = 1) = true from rfl] at K
      cases et : (aD A).2.2.2
      · have h3 : F 34 3 = 0 := hA.1.2.2.1.trans (by rw [show A.1.1.2.2.2 = false from et]; rfl)
        rw [et] at K
        simp only [isO_c, ax0, ex_cons, am_get, upz_at, true_and, and_true, Nat.reduceAdd, Nat.reduceLeDiff, Nat.reduceEqDiff, Nat.reduceSub, Int32.reduceOfInt, Int32.reduceAdd, Int32.reduceMul, Int32.reduceSub, ↓reduceIte, Int32.reduceLT, Int32.reduceLE, Int32.reduceToNatClampNeg, Nat.reduceMod, Nat.reduceLT, List.length_cons, List.length_nil, eq_self, true_or, or_true, and_self, implies_true, not_true_eq_false, not_false_eq_true, false_implies, true_implies, forall_const, st_aloadx, st_getfieldx, st_gotox, st_goto_wx, st_iconstx, st_ifCondx, st_if_icmpx, st_iloadx, st_in1, st_in2, st_ireturnx, st_istorex, st_putstaticx, am_put, am_nlg, cx_Slips_existence, kb_Slips_existence_0, oo_23, jx_Slips_existence_15, kb_Slips_existence_15, og_23_1, og_34_3, jx_Slips_existence_29, kb_Slips_existence_29, jx_Slips_existence_30, kb_Slips_existence_30, jx_Slips_existence_44, kb_Slips_existence_44, jx_Slips_existence_45, kb_Slips_existence_45, op_34_3, jx_Slips_existence_57, kb_Slips_existence_57, oa_23, oa_34, os_34, h3]
        refine c_forget (dk (b := true) rfl) (fun F' c m => ?_)
        simp only [isO_c, ax0, ex_cons, am_get, upz_at, true_and, and_true, Nat.reduceAdd, Nat.reduceLeDiff, Nat.reduceEqDiff, Nat.reduceSub, Int32.reduceOfInt, Int32.reduceAdd, Int32.reduceMul, Int32.reduceSub, ↓reduceIte, Int32.reduceLT, Int32.reduceLE, Int32.reduceToNatClampNeg, Nat.reduceMod, Nat.reduceLT, List.length_cons, List.length_nil, eq_self, true_or, or_true, and_self, implies_true, not_true_eq_false, not_false_eq_true, false_implies, true_implies, forall_const, st_aloadx, st_goto_wx, st_if_icmpx, st_iloadx, st_in1, st_in2, st_ireturnx, st_putstaticx, jx_Slips_existence_45, kb_Slips_existence_45, op_34_3, oo_23, jx_Slips_existence_57, kb_Slips_existence_57, oa_23, oa_34, os_34]
        refine c_grant m (fun F2 c2 m2 => ?_)
        simp only [isO_c, ax0, ex_cons, am_get, upz_at, true_and, and_true, Nat.reduceAdd, Nat.reduceLeDiff, Nat.reduceEqDiff, Nat.reduceSub, Int32.reduceOfInt, Int32.reduceAdd, Int32.reduceMul, Int32.reduceSub, ↓reduceIte, Int32.reduceLT, Int32.reduceLE, Int32.reduceToNatClampNeg, Nat.reduceMod, Nat.reduceLT, List.length_cons, List.length_nil, eq_self, true_or, or_true, and_self, implies_true, not_true_eq_false, not_false_eq_true, false_implies, true_implies, forall_const, st_aloadx, st_iloadx, st_in2, st_ireturnx, jx_Slips_existence_57, kb_Slips_existence_57, oo_23, oa_23]
        exact K F2 ((u34.tr c).tr c2) m2
      · have h3 : F 34 3 = 1 := hA.1.2.2.1.trans (by rw [show A.1.1.2.2.2 = true from et]; rfl)
        rw [et] at K
        simp only [isO_c, ax0, ex_cons, am_get, upz_at, true_and, and_true, Nat.reduceAdd, Nat.reduceLeDiff, Nat.reduceEqDiff, Nat.reduceSub, Int32.reduceOfInt, Int32.reduceAdd, Int32.reduceMul, Int32.reduceSub, ↓reduceIte, Int32.reduceLT, Int32.reduceLE, Int32.reduceToNatClampNeg, Nat.reduceMod, Nat.reduceLT, List.length_cons, List.length_nil, eq_self, true_or, or_true, and_self, implies_true, not_true_eq_false, not_false_eq_true, false_implies, true_implies, forall_const, st_aloadx, st_getfieldx, st_gotox, st_goto_wx, st_iconstx, st_ifCondx, st_if_icmpx, st_iloadx, st_in1, st_in2, st_ireturnx, st_istorex, st_putstaticx, am_put, am_nlg, cx_Slips_existence, kb_Slips_existence_0, oo_23, jx_Slips_existence_15, kb_Slips_existence_15, og_23_1, og_34_3, jx_Slips_existence_29, kb_Slips_existence_29, jx_Slips_existence_30, kb_Slips_existence_30, jx_Slips_existence_44, kb_Slips_existence_44, jx_Slips_existence_45, kb_Slips_existence_45, op_34_3, jx_Slips_existence_57, kb_Slips_existence_57, oa_23, oa_34, os_34, h3]
        refine c_grant (dk (b := true) rfl) (fun F' c m => ?_)
        simp only [isO_c, ax0, ex_cons, am_get, upz_at, true_and, and_true, Nat.reduceAdd, Nat.reduceLeDiff, Nat.reduceEqDiff, Nat.reduceSub, Int32.reduceOfInt, Int32.reduceAdd, Int32.reduceMul, Int32.reduceSub, ↓reduceIte, Int32.reduceLT, Int32.reduceLE, Int32.reduceToNatClampNeg, Nat.reduceMod, Nat.reduceLT, List.length_cons, List.length_nil, eq_self, true_or, or_true, and_self, implies_true, not_true_eq_false, not_false_eq_true, false_implies, true_implies, forall_const, st_aloadx, st_iloadx, st_in2, st_ireturnx, jx_Slips_existence_57, kb_Slips_existence_57, oo_23, oa_23]
        exact K F' (u34.tr c) m
    · have e : lieB x 0 1 = false := by
        cases z : lieB x 0 1
        · rfl
        · rcases lie1 z with q | q
          · exact absurd q e0
          · exact absurd q e1
      rw [e, if_neg Bool.false_ne_true] at K
      simp only [isO_c, ax0, ex_cons, am_get, upz_at, true_and, and_true, Nat.reduceAdd, Nat.reduceLeDiff, Nat.reduceEqDiff, Nat.reduceSub, Int32.reduceOfInt, Int32.reduceAdd, Int32.reduceMul, Int32.reduceSub, ↓reduceIte, Int32.reduceLT, Int32.reduceLE, Int32.reduceToNatClampNeg, Nat.reduceMod, Nat.reduceLT, List.length_cons, List.length_nil, eq_self, true_or, or_true, and_self, implies_true, not_true_eq_false, not_false_eq_true, false_implies, true_implies, forall_const, st_aloadx, st_iconstx, st_ifCondx, st_if_icmpx, st_iloadx, st_in2, st_ireturnx, kb_Slips_existence_0, oo_23, oa_23, cx_Slips_existence, e0, e1]
      refine c_refuse hA (j := 0) (Or.inl ⟨rfl, rfl⟩) (fun F' c m => ?_)
      simp only [isO_c, ax0, ex_cons, am_get, upz_at, true_and, and_true, Nat.reduceAdd, Nat.reduceLeDiff, Nat.reduceEqDiff, Nat.reduceSub, Int32.reduceOfInt, Int32.reduceAdd, Int32.reduceMul, Int32.reduceSub, ↓reduceIte, Int32.reduceLT, Int32.reduceLE, Int32.reduceToNatClampNeg, Nat.reduceMod, Nat.reduceLT, List.length_cons, List.length_nil, eq_self, true_or, or_true, and_self, implies_true, not_true_eq_false, not_false_eq_true, false_implies, true_implies, forall_const, st_aloadx, st_iconstx, st_ifCondx, st_if_icmpx, st_iloadx, st_in2, st_ireturnx, kb_Slips_existence_0, oo_23, oa_23]
      exact K F' c m
end CSB
