/-! ===== the model: the parser ===== -/
def RS (n : Nat) (L : List (Nat × Nat)) (F' : Nat → Nat → Int32) (ms : List Nat) : Nat ⊕ pT → Prop
  | .inl e => DE F' (plL n L e)
  | .inr x => LV F' x.2.1 x.2.2 (ms ++ cdT x.1)
def preP (n : Nat) (L : List (Nat × Nat)) (F : Nat → Nat → Int32) (dp k c : Nat) : Prop := dp ≤ 8 ∧ TKr F n L ∧ k ≤ L.length ∧ c ≤ 24
theorem preP.pp {n : Nat} {L : List (Nat × Nat)} {F F' : Nat → Nat → Int32} {dp k c dp' k' c' : Nat} (h : preP n L F dp k c) (p : Pp F F') (h1 : dp' ≤ 8) (h2 : k' ≤ L.length) (h3 : c' ≤ 24) : preP n L F' dp' k' c' := ⟨h1, h.2.1.pp p, h2, h3⟩
def S0 (h : am_H) (J : Nat → Nat → Int64) (V : Nat → Nat → Value) (n : Nat) (L : List (Nat × Nat)) (f : Nat) : Prop := ∀ (d dp k c : Nat) (ms : List Nat) (t : eT) (F : Nat → Nat → Int32) (Q : am_Q) (z : Nat ⊕ pT), preP n L F dp k c → LV F k c ms → 2 * ms.length ≤ ppL n L k → pG (cdL L) f 0 dp k c t = some z → (∀ F', RS n L F' ms z → Pp F F' → Q none (ov h F' J V)) → am_cl (d + 3 * (8 - dp) + 8) 199 [.ref 82, .int (nI dp)] (ov h F J V) Q
def S2 (h : am_H) (J : Nat → Nat → Int64) (V : Nat → Nat → Value) (n : Nat) (L : List (Nat × Nat)) (f : Nat) : Prop := ∀ (d dp k c : Nat) (ms : List Nat) (t : eT) (F : Nat → Nat → Int32) (Q : am_Q) (z : Nat ⊕ pT), preP n L F dp k c → LV F k c ms → 2 * ms.length ≤ ppL n L k → pG (cdL L) f 2 dp k c t = some z → (∀ F', RS n L F' ms z → Pp F F' → Q none (ov h F' J V)) → am_cl (d + 3 * (8 - dp) + 7) 200 [.ref 82, .int (nI dp)] (ov h F J V) Q
def S4 (h : am_H) (J : Nat → Nat → Int64) (V : Nat → Nat → Value) (n : Nat) (L : List (Nat × Nat)) (f : Nat) : Prop := ∀ (d dp k c : Nat) (ms : List Nat) (t : eT) (F : Nat → Nat → Int32) (Q : am_Q) (z : Nat ⊕ pT), preP n L F dp k c → LV F k c ms → 2 * ms.length ≤ ppL n L k → pG (cdL L) f 4 dp k c t = some z → (∀ F', RS n L F' ms z → Pp F F' → Q none (ov h F' J V)) → am_cl (d + 3 * (8 - dp) + 6) 201 [.ref 82, .int (nI dp)] (ov h F J V) Q
def S1 (h : am_H) (J : Nat → Nat → Int64) (V : Nat → Nat → Value) (n : Nat) (L : List (Nat × Nat)) (f : Nat) : Prop := ∀ (d dp k c : Nat) (ms : List Nat) (t : eT) (F : Nat → Nat → Int32) (Q : am_Q) (z : Nat ⊕ pT), preP n L F dp k c → wfT t → LV F k c (ms ++ cdT t) → 2 * ms.length + wsT t ≤ ppL n L k → pG (cdL L) f 1 dp k c t = some z → (∀ F', RS n L F' ms z → Pp F F' → Q none (ov h F' J V)) → am_W kc_Model_readsTerm (am_cl (d + 3 * (8 - dp) + 7)) Q 5 [.ref 82, .int (nI dp)] [] (ov h F J V)
def S3 (h : am_H) (J : Nat → Nat → Int64) (V : Nat → Nat → Value) (n : Nat) (L : List (Nat × Nat)) (f : Nat) : Prop := ∀ (d dp k c : Nat) (ms : List Nat) (t : eT) (F : Nat → Nat → Int32) (Q : am_Q) (z : Nat ⊕ pT), preP n L F dp k c → wfT t → LV F k c (ms ++ cdT t) → 2 * ms.length + wsT t ≤ ppL n L k → pG (cdL L) f 3 dp k c t = some z → (∀ F', RS n L F' ms z → Pp F F' → Q none (ov h F' J V)) → am_W kc_Model_readBoth (am_cl (d + 3 * (8 - dp) + 6)) Q 5 [.ref 82, .int (nI dp)] [] (ov h F J V)
section MPZ
variable {n : Nat} {L : List (Nat × Nat)} {h : am_H} {J : Nat → Nat → Int64} {V : Nat → Nat → Value}
set_option maxRecDepth 20000 in
theorem S0_s (hT : TK n L) {f : Nat} (s2 : S2 h J V n L f) (s1 : S1 h J V n L f) : S0 h J V n L (f + 1) := by
  intro d dp k c ms t F Q z pr hl hb hz K
  rw [pG0] at hz
  simp only [ax0, ex_cons, am_get, upz_at, true_and, and_true, Nat.reduceAdd, Nat.reduceLeDiff, Nat.reduceEqDiff, Nat.reduceSub, Int32.reduceOfInt, Int32.reduceAdd, Int32.reduceMul, Int32.reduceSub, ↓reduceIte, Int32.reduceLT, Int32.reduceLE, Int32.reduceToNatClampNeg, Nat.reduceMod, Nat.reduceLT, List.length_cons, List.length_nil, eq_self, true_or, or_true, and_self, implies_true, not_true_eq_false, not_false_eq_true, false_implies, true_implies, forall_const, st_aloadx, st_goto_wx, st_iloadx, st_in2, kb_Model_readsTerm_0, oo_82, oa_82, cx_Model_readsTerm]
  rcases thenP_ok hz with ⟨e, h1, h2⟩ | ⟨x, h1, h2⟩
  · subst h2
    refine s2 d dp k c ms t F _ _ pr hl hb h1 (fun F1 r1 p1 => ?_)
    have r1 : DE F1 (plL n L e) := r1
    simp only [ax0, ex_cons, am_get, upz_at, true_and, and_true, Nat.reduceAdd, Nat.reduceLeDiff, Nat.reduceEqDiff, Nat.reduceSub, Int32.reduceOfInt, Int32.reduceAdd, Int32.reduceMul, Int32.reduceSub, ↓reduceIte, Int32.reduceLT, Int32.reduceLE, Int32.reduceToNatClampNeg, Nat.reduceMod, Nat.reduceLT, List.length_cons, List.length_nil, eq_self, true_or, or_true, and_self, implies_true, not_true_eq_false, not_false_eq_true, false_implies, true_implies, forall_const, st_aloadx, st_goto_wx, st_iloadx, st_in2, kb_Model_readsTerm_0, oo_82, oa_82]
    rw [jx_Model_readsTerm_5]
    simp only [ax0, ex_cons, am_get, upz_at, true_and, and_true, Nat.reduceAdd, Nat.reduceLeDiff, Nat.reduceEqDiff, Nat.reduceSub, Int32.reduceOfInt, Int32.reduceAdd, Int32.reduceMul, Int32.reduceSub, ↓reduceIte, Int32.reduceLT, Int32.reduceLE, Int32.reduceToNatClampNeg, Nat.reduceMod, Nat.reduceLT, List.length_cons, List.length_nil, eq_self, true_or, or_true, and_self, implies_true, not_true_eq_false, not_false_eq_true, false_implies, true_implies, forall_const, st_aloadx, st_gotox, st_iconstx, st_ifCondx, st_iloadx, st_in2, kb_Model_readsTerm_5, oo_82, oa_82]
    refine m_takes0D r1 ?_
    simp only [ax0, ex_cons, am_get, upz_at, true_and, and_true, Nat.reduceAdd, Nat.reduceLeDiff, Nat.reduceEqDiff, Nat.reduceSub, Int32.reduceOfInt, Int32.reduceAdd, Int32.reduceMul, Int32.reduceSub, ↓reduceIte, Int32.reduceLT, Int32.reduceLE, Int32.reduceToNatClampNeg, Nat.reduceMod, Nat.reduceLT, List.length_cons, List.length_nil, eq_self, true_or, or_true, and_self, implies_true, not_true_eq_false, not_false_eq_true, false_implies, true_implies, forall_const, st_aloadx, st_gotox, st_iconstx, st_ifCondx, st_iloadx, st_in2, st_return_x, kb_Model_readsTerm_5, oo_82, jx_Model_readsTerm_28, kb_Model_readsTerm_28, oa_82]
    exact K F1 r1 p1
  · obtain ⟨a1, a2, a3, a4⟩ := pG_ok hT.2.2.1 f 2 dp k c t _ pr.2.2.1 pr.2.2.2 (fun q => by omega) (by omega) h1
    rw [if_neg (by omega)] at a4
    refine s2 d dp k c ms t F _ _ pr hl hb h1 (fun F1 r1 p1 => ?_)
    have r1 : LV F1 x.2.1 x.2.2 (ms ++ cdT x.1) := r1
    simp only [ax0, ex_cons, am_get, upz_at, true_and, and_true, Nat.reduceAdd, Nat.reduceLeDiff, Nat.reduceEqDiff, Nat.reduceSub, Int32.reduceOfInt, Int32.reduceAdd, Int32.reduceMul, Int32.reduceSub, ↓reduceIte, Int32.reduceLT, Int32.reduceLE, Int32.reduceToNatClampNeg, Nat.reduceMod, Nat.reduceLT, List.length_cons, List.length_nil, eq_self, true_or, or_true, and_self, implies_true, not_true_eq_false, not_false_eq_true, false_implies, true_implies, forall_const, st_aloadx, st_goto_wx, st_iloadx, st_in2, kb_Model_readsTerm_0, oo_82, oa_82]
    exact s1 d dp x.2.1 x.2.2 ms x.1 F1 Q z (pr.pp p1 pr.1 a2 a3) a1 r1 (by omega) h2 (fun F2 r2 p2 => K F2 r2 (p1.tr p2))
set_option maxRecDepth 20000 in
theorem S2_s (hT : TK n L) {f : Nat} (s4 : S4 h J V n L f) (s3 : S3 h J V n L f) : S2 h J V n L (f + 1) := by
  intro d dp k c ms t F Q z pr hl hb hz K
  rw [pG2] at hz
  simp only [ax0, ex_cons, am_get, upz_at, true_and, and_true, Nat.reduceAdd, Nat.reduceLeDiff, Nat.reduceEqDiff, Nat.reduceSub, Int32.reduceOfInt, Int32.reduceAdd, Int32.reduceMul, Int32.reduceSub, ↓reduceIte, Int32.reduceLT, Int32.reduceLE, Int32.reduceToNatClampNeg, Nat.reduceMod, Nat.reduceLT, List.length_cons, List.length_nil, eq_self, true_or, or_true, and_self, implies_true, not_true_eq_false, not_false_eq_true, false_implies, true_implies, forall_const, st_aloadx, st_goto_wx, st_iloadx, st_in2, kb_Model_readBoth_0, oo_82, oa_82, cx_Model_readBoth]
  rcases thenP_ok hz with ⟨e, h1, h2⟩ | ⟨x, h1, h2⟩
  · subst h2
    refine s4 d dp k c ms t F _ _ pr hl hb h1 (fun F1 r1 p1 => ?_)
    have r1 : DE F1 (plL n L e) := r1
    simp only [ax0, ex_cons, am_get, upz_at, true_and, and_true, Nat.reduceAdd, Nat.reduceLeDiff, Nat.reduceEqDiff, Nat.reduceSub, Int32.reduceOfInt, Int32.reduceAdd, Int32.reduceMul, Int32.reduceSub, ↓reduceIte, Int32.reduceLT, Int32.reduceLE, Int32.reduceToNatClampNeg, Nat.reduceMod, Nat.reduceLT, List.length_cons, List.length_nil, eq_self, true_or, or_true, and_self, implies_true, not_true_eq_false, not_false_eq_true, false_implies, true_implies, forall_const, st_aloadx, st_goto_wx, st_iloadx, st_in2, kb_Model_readBoth_0, oo_82, oa_82]
    rw [jx_Model_readBoth_5]
    simp only [ax0, ex_cons, am_get, upz_at, true_and, and_true, Nat.reduceAdd, Nat.reduceLeDiff, Nat.reduceEqDiff, Nat.reduceSub, Int32.reduceOfInt, Int32.reduceAdd, Int32.reduceMul, Int32.reduceSub, ↓reduceIte, Int32.reduceLT, Int32.reduceLE, Int32.reduceToNatClampNeg, Nat.reduceMod, Nat.reduceLT, List.length_cons, List.length_nil, eq_self, true_or, or_true, and_self, implies_true, not_true_eq_false, not_false_eq_true, false_implies, true_implies, forall_const, st_aloadx, st_gotox, st_iconstx, st_ifCondx, st_iloadx, st_in2, kb_Model_readBoth_5, oo_82, oa_82]
    refine m_takes0D r1 ?_
    simp only [ax0, ex_cons, am_get, upz_at, true_and, and_true, Nat.reduceAdd, Nat.reduceLeDiff, Nat.reduceEqDiff, Nat.reduceSub, Int32.reduceOfInt, Int32.reduceAdd, Int32.reduceMul, Int32.reduceSub, ↓reduceIte, Int32.reduceLT, Int32.reduceLE, Int32.reduceToNatClampNeg, Nat.reduceMod, Nat.reduceLT, List.length_cons, List.length_nil, eq_self, true_or, or_true, and_self, implies_true, not_true_eq_false, not_false_eq_true, false_implies, true_implies, forall_const, st_aloadx, st_gotox, st_iconstx, st_ifCondx, st_iloadx, st_in2, st_return_x, kb_Model_readBoth_5, oo_82, jx_Model_readBoth_34, kb_Model_readBoth_34, oa_82]
    exact K F1 r1 p1
  · obtain ⟨a1, a2, a3, a4⟩ := pG_ok hT.2.2.1 f 4 dp k c t _ pr.2.2.1 pr.2.2.2 (fun q => by omega) (by omega) h1
    rw [if_neg (by omega)] at a4
    refine s4 d dp k c ms t F _ _ pr hl hb h1 (fun F1 r1 p1 => ?_)
    have r1 : LV F1 x.2.1 x.2.2 (ms ++ cdT x.1) := r1
    simp only [ax0, ex_cons, am_get, upz_at, true_and, and_true, Nat.reduceAdd, Nat.reduceLeDiff, Nat.reduceEqDiff, Nat.reduceSub, Int32.reduceOfInt, Int32.reduceAdd, Int32.reduceMul, Int32.reduceSub, ↓reduceIte, Int32.reduceLT, Int32.reduceLE, Int32.reduceToNatClampNeg, Nat.reduceMod, Nat.reduceLT, List.length_cons, List.length_nil, eq_self, true_or, or_true, and_self, implies_true, not_true_eq_false, not_false_eq_true, false_implies, true_implies, forall_const, st_aloadx, st_goto_wx, st_iloadx, st_in2, kb_Model_readBoth_0, oo_82, oa_82]
    exact s3 d dp x.2.1 x.2.2 ms x.1 F1 Q z (pr.pp p1 pr.1 a2 a3) a1 r1 (by omega) h2 (fun F2 r2 p2 => K F2 r2 (p1.tr p2))
set_option maxRecDepth 20000 in
theorem S1_s (hT : TK n L) {f : Nat} (s2 : S2 h J V n L f) (s1 : S1 h J V n L f) : S1 h J V n L (f + 1) := by
  intro d dp k c ms t F Q z pr hw hl hb hz K
  rw [pG1] at hz
  have hws := ws_cd hw
  rw [jx_Model_readsTerm_5]
  simp only [ax0, ex_cons, am_get, upz_at, true_and, and_true, Nat.reduceAdd, Nat.reduceLeDiff, Nat.reduceEqDiff, Nat.reduceSub, Int32.reduceOfInt, Int32.reduceAdd, Int32.reduceMul, Int32.reduceSub, ↓reduceIte, Int32.reduceLT, Int32.reduceLE, Int32.reduceToNatClampNeg, Nat.reduceMod, Nat.reduceLT, List.length_cons, List.length_nil, eq_self, true_or, or_true, and_self, implies_true, not_true_eq_false, not_false_eq_true, false_implies, true_implies, forall_const, st_aloadx, st_gotox, st_iconstx, st_ifCondx, st_iloadx, st_in2, kb_Model_readsTerm_5, oo_82, oa_82]
  refine m_takes0L hT pr.2.1 pr.2.2.1 hl (w := 11) (by decide) (fun q => ?_) (fun q F1 l1 p1 => ?_)
  · rw [if_neg q] at hz
    cases hz
    simp only [ax0, ex_cons, am_get, upz_at, true_and, and_true, Nat.reduceAdd, Nat.reduceLeDiff, Nat.reduceEqDiff, Nat.reduceSub, Int32.reduceOfInt, Int32.reduceAdd, Int32.reduceMul, Int32.reduceSub, ↓reduceIte, Int32.reduceLT, Int32.reduceLE, Int32.reduceToNatClampNeg, Nat.reduceMod, Nat.reduceLT, List.length_cons, List.length_nil, eq_self, true_or, or_true, and_self, implies_true, not_true_eq_false, not_false_eq_true, false_implies, true_implies, forall_const, st_aloadx, st_gotox, st_iconstx, st_ifCondx, st_iloadx, st_in2, st_return_x, kb_Model_readsTerm_5, oo_82, jx_Model_readsTerm_28, kb_Model_readsTerm_28, oa_82]
    exact K F hl Pp.rf
  · rw [if_pos q] at hz
    have hk1 := tk_lt hT.2.2.1 (k := k) (by omega)
    have hwk := hT.2.2.1.1 k hk1
    have hw2 : wtC (cdL L k) = 3 := by rw [q]; decide
    simp only [ax0, ex_cons, am_get, upz_at, true_and, and_true, Nat.reduceAdd, Nat.reduceLeDiff, Nat.reduceEqDiff, Nat.reduceSub, Int32.reduceOfInt, Int32.reduceAdd, Int32.reduceMul, Int32.reduceSub, ↓reduceIte, Int32.reduceLT, Int32.reduceLE, Int32.reduceToNatClampNeg, Nat.reduceMod, Nat.reduceLT, List.length_cons, List.length_nil, eq_self, true_or, or_true, and_self, implies_true, not_true_eq_false, not_false_eq_true, false_implies, true_implies, forall_const, st_aloadx, st_gotox, st_iconstx, st_ifCondx, st_iloadx, st_in2, kb_Model_readsTerm_5, oo_82, oa_82]
    have pr1 := pr.pp (dp' := dp) (k' := k + 1) (c' := c) p1 pr.1 hk1 pr.2.2.2
    have hb1 : 2 * (ms ++ cdT t).length ≤ ppL n L (k + 1) := by rw [List.length_append]; omega
    rcases thenP_ok hz with ⟨e, h1, h2⟩ | ⟨x, h1, h2⟩
    · subst h2
      refine s2 d dp (k + 1) c (ms ++ cdT t) t F1 _ _ pr1 l1 hb1 h1 (fun F2 r2 p2 => ?_)
      have r2 : DE F2 (plL n L e) := r2
      simp only [ax0, ex_cons, am_get, upz_at, true_and, and_true, Nat.reduceAdd, Nat.reduceLeDiff, Nat.reduceEqDiff, Nat.reduceSub, Int32.reduceOfInt, Int32.reduceAdd, Int32.reduceMul, Int32.reduceSub, ↓reduceIte, Int32.reduceLT, Int32.reduceLE, Int32.reduceToNatClampNeg, Nat.reduceMod, Nat.reduceLT, List.length_cons, List.length_nil, eq_self, true_or, or_true, and_self, implies_true, not_true_eq_false, not_false_eq_true, false_implies, true_implies, forall_const, st_aloadx, st_gotox, st_iconstx, st_ifCondx, st_iloadx, st_in2, kb_Model_readsTerm_5, oo_82, oa_82]
      refine m_makesD r2 ?_
      simp only [ax0, ex_cons, am_get, upz_at, true_and, and_true, Nat.reduceAdd, Nat.reduceLeDiff, Nat.reduceEqDiff, Nat.reduceSub, Int32.reduceOfInt, Int32.reduceAdd, Int32.reduceMul, Int32.reduceSub, ↓reduceIte, Int32.reduceLT, Int32.reduceLE, Int32.reduceToNatClampNeg, Nat.reduceMod, Nat.reduceLT, List.length_cons, List.length_nil, eq_self, true_or, or_true, and_self, implies_true, not_true_eq_false, not_false_eq_true, false_implies, true_implies, forall_const, st_aloadx, st_gotox, st_iconstx, st_ifCondx, st_iloadx, st_in2, kb_Model_readsTerm_5, oo_82, oa_82]
      rw [jx_Model_readsTerm_5]
      simp only [ax0, ex_cons, am_get, upz_at, true_and, and_true, Nat.reduceAdd, Nat.reduceLeDiff, Nat.reduceEqDiff, Nat.reduceSub, Int32.reduceOfInt, Int32.reduceAdd, Int32.reduceMul, Int32.reduceSub, ↓reduceIte, Int32.reduceLT, Int32.reduceLE, Int32.reduceToNatClampNeg, Nat.reduceMod, Nat.reduceLT, List.length_cons, List.length_nil, eq_self, true_or, or_true, and_self, implies_true, not_true_eq_false, not_false_eq_true, false_implies, true_implies, forall_const, st_aloadx, st_gotox, st_iconstx, st_ifCondx, st_iloadx, st_in2, kb_Model_readsTerm_5, oo_82, oa_82]
      refine m_takes0D r2 ?_
      simp only [ax0, ex_cons, am_get, upz_at, true_and, and_true, Nat.reduceAdd, Nat.reduceLeDiff, Nat.reduceEqDiff, Nat.reduceSub, Int32.reduceOfInt, Int32.reduceAdd, Int32.reduceMul, Int32.reduceSub, ↓reduceIte, Int32.reduceLT, Int32.reduceLE, Int32.reduceToNatClampNeg, Nat.reduceMod, Nat.reduceLT, List.length_cons, List.length_nil, eq_self, true_or, or_true, and_self, implies_true, not_true_eq_false, not_false_eq_true, false_implies, true_implies, forall_const, st_aloadx, st_gotox, st_iconstx, st_ifCondx, st_iloadx, st_in2, st_return_x, kb_Model_readsTerm_5, oo_82, jx_Model_readsTerm_28, kb_Model_readsTerm_28, oa_82]
      exact K F2 r2 (p1.tr p2)
    · obtain ⟨a1, a2, a3, a4⟩ := pG_ok hT.2.2.1 f 2 dp (k + 1) c t _ hk1 pr.2.2.2 (fun q => by omega) (by omega) h1
      rw [if_neg (by omega)] at a4
      have hP := (hT.2.2.2 _ a2).1
      have hn := hT.1
      have hws2 := ws_cd a1
      refine s2 d dp (k + 1) c (ms ++ cdT t) t F1 _ _ pr1 l1 hb1 h1 (fun F2 r2 p2 => ?_)
      have r2 : LV F2 x.2.1 x.2.2 (ms ++ cdT t ++ cdT x.1) := r2
      simp only [ax0, ex_cons, am_get, upz_at, true_and, and_true, Nat.reduceAdd, Nat.reduceLeDiff, Nat.reduceEqDiff, Nat.reduceSub, Int32.reduceOfInt, Int32.reduceAdd, Int32.reduceMul, Int32.reduceSub, ↓reduceIte, Int32.reduceLT, Int32.reduceLE, Int32.reduceToNatClampNeg, Nat.reduceMod, Nat.reduceLT, List.length_cons, List.length_nil, eq_self, true_or, or_true, and_self, implies_true, not_true_eq_false, not_false_eq_true, false_implies, true_implies, forall_const, st_aloadx, st_gotox, st_iconstx, st_ifCondx, st_iloadx, st_in2, kb_Model_readsTerm_5, oo_82, oa_82]
      refine m_makesL (x := 10) r2 (by rw [List.length_append, List.length_append]; omega) (fun F3 r3 p3 => ?_)
      simp only [ax0, ex_cons, am_get, upz_at, true_and, and_true, Nat.reduceAdd, Nat.reduceLeDiff, Nat.reduceEqDiff, Nat.reduceSub, Int32.reduceOfInt, Int32.reduceAdd, Int32.reduceMul, Int32.reduceSub, ↓reduceIte, Int32.reduceLT, Int32.reduceLE, Int32.reduceToNatClampNeg, Nat.reduceMod, Nat.reduceLT, List.length_cons, List.length_nil, eq_self, true_or, or_true, and_self, implies_true, not_true_eq_false, not_false_eq_true, false_implies, true_implies, forall_const, st_aloadx, st_gotox, st_iconstx, st_ifCondx, st_iloadx, st_in2, kb_Model_readsTerm_5, oo_82, oa_82]
      have e3 : ms ++ cdT t ++ cdT x.1 ++ [10] = ms ++ cdT (.add t x.1) := by show _ = ms ++ (cdT t ++ cdT x.1 ++ [10]); simp
      rw [e3] at r3
      have l2 : wsT (.add t x.1) = wsT t + wsT x.1 + 3 := rfl
      exact s1 d dp x.2.1 x.2.2 ms (.add t x.1) F3 Q z (pr1.pp (p2.tr p3) pr.1 a2 a3) ⟨hw, a1⟩ r3 (by omega) h2 (fun F4 r4 p4 => K F4 r4 (((p1.tr p2).tr p3).tr p4))
set_option maxRecDepth 20000 in
theorem S3_s (hT : TK n L) {f : Nat} (s4 : S4 h J V n L f) (s3 : S3 h J V n L f) : S3 h J V n L (f + 1) := by
  intro d dp k c ms t F Q z pr hw hl hb hz K
  rw [pG3] at hz
  have hws := ws_cd hw
  rw [jx_Model_readBoth_5]
  simp only [ax0, ex_cons, am_get, upz_at, true_and, and_true, Nat.reduceAdd, Nat.reduceLeDiff, Nat.reduceEqDiff, Nat.reduceSub, Int32.reduceOfInt, Int32.reduceAdd, Int32.reduceMul, Int32.reduceSub, ↓reduceIte, Int32.reduceLT, Int32.reduceLE, Int32.reduceToNatClampNeg, Nat.reduceMod, Nat.reduceLT, List.length_cons, List.length_nil, eq_self, true_or, or_true, and_self, implies_true, not_true_eq_false, not_false_eq_true, false_implies, true_implies, forall_const, st_aloadx, st_gotox, st_iconstx, st_ifCondx, st_iloadx, st_in2, kb_Model_readBoth_5, oo_82, oa_82]
  refine m_takes0L hT pr.2.1 pr.2.2.1 hl (w := 12) (by decide) (fun q => ?_) (fun q F1 l1 p1 => ?_)
  · rw [if_neg q] at hz
    cases hz
    simp only [ax0, ex_cons, am_get, upz_at, true_and, and_true, Nat.reduceAdd, Nat.reduceLeDiff, Nat.reduceEqDiff, Nat.reduceSub, Int32.reduceOfInt, Int32.reduceAdd, Int32.reduceMul, Int32.reduceSub, ↓reduceIte, Int32.reduceLT, Int32.reduceLE, Int32.reduceToNatClampNeg, Nat.reduceMod, Nat.reduceLT, List.length_cons, List.length_nil, eq_self, true_or, or_true, and_self, implies_true, not_true_eq_false, not_false_eq_true, false_implies, true_implies, forall_const, st_aloadx, st_gotox, st_iconstx, st_ifCondx, st_iloadx, st_in2, st_return_x, kb_Model_readBoth_5, oo_82, jx_Model_readBoth_34, kb_Model_readBoth_34, oa_82]
    exact K F hl Pp.rf
  · rw [if_pos q] at hz
    have hk1 := tk_lt hT.2.2.1 (k := k) (by omega)
    have hwk := hT.2.2.1.1 k hk1
    have hw2 : wtC (cdL L k) = 4 := by rw [q]; decide
    have pr1 := pr.pp (dp' := dp) (k' := k + 1) (c' := c) p1 pr.1 hk1 pr.2.2.2
    simp only [ax0, ex_cons, am_get, upz_at, true_and, and_true, Nat.reduceAdd, Nat.reduceLeDiff, Nat.reduceEqDiff, Nat.reduceSub, Int32.reduceOfInt, Int32.reduceAdd, Int32.reduceMul, Int32.reduceSub, ↓reduceIte, Int32.reduceLT, Int32.reduceLE, Int32.reduceToNatClampNeg, Nat.reduceMod, Nat.reduceLT, List.length_cons, List.length_nil, eq_self, true_or, or_true, and_self, implies_true, not_true_eq_false, not_false_eq_true, false_implies, true_implies, forall_const, st_aloadx, st_gotox, st_iconstx, st_ifCondx, st_iloadx, st_in2, kb_Model_readBoth_5, oo_82, oa_82]
    refine m_mustL hT pr1.2.1 hk1 l1 (w := 7) (by decide) (fun q2 F2 l2 p2 => ?_) (fun q2 F2 l2 p2 => ?_)
    · rw [if_neg q2] at hz
      cases hz
      simp only [ax0, ex_cons, am_get, upz_at, true_and, and_true, Nat.reduceAdd, Nat.reduceLeDiff, Nat.reduceEqDiff, Nat.reduceSub, Int32.reduceOfInt, Int32.reduceAdd, Int32.reduceMul, Int32.reduceSub, ↓reduceIte, Int32.reduceLT, Int32.reduceLE, Int32.reduceToNatClampNeg, Nat.reduceMod, Nat.reduceLT, List.length_cons, List.length_nil, eq_self, true_or, or_true, and_self, implies_true, not_true_eq_false, not_false_eq_true, false_implies, true_implies, forall_const, st_aloadx, st_gotox, st_iconstx, st_ifCondx, st_iloadx, st_in2, kb_Model_readBoth_5, oo_82, oa_82]
      refine m_plainD l2 ?_
      simp only [ax0, ex_cons, am_get, upz_at, true_and, and_true, Nat.reduceAdd, Nat.reduceLeDiff, Nat.reduceEqDiff, Nat.reduceSub, Int32.reduceOfInt, Int32.reduceAdd, Int32.reduceMul, Int32.reduceSub, ↓reduceIte, Int32.reduceLT, Int32.reduceLE, Int32.reduceToNatClampNeg, Nat.reduceMod, Nat.reduceLT, List.length_cons, List.length_nil, eq_self, true_or, or_true, and_self, implies_true, not_true_eq_false, not_false_eq_true, false_implies, true_implies, forall_const, st_aloadx, st_gotox, st_iconstx, st_ifCondx, st_iloadx, st_in2, kb_Model_readBoth_5, oo_82, oa_82]
      refine m_makesD l2 ?_
      simp only [ax0, ex_cons, am_get, upz_at, true_and, and_true, Nat.reduceAdd, Nat.reduceLeDiff, Nat.reduceEqDiff, Nat.reduceSub, Int32.reduceOfInt, Int32.reduceAdd, Int32.reduceMul, Int32.reduceSub, ↓reduceIte, Int32.reduceLT, Int32.reduceLE, Int32.reduceToNatClampNeg, Nat.reduceMod, Nat.reduceLT, List.length_cons, List.length_nil, eq_self, true_or, or_true, and_self, implies_true, not_true_eq_false, not_false_eq_true, false_implies, true_implies, forall_const, st_aloadx, st_gotox, st_iconstx, st_ifCondx, st_iloadx, st_in2, kb_Model_readBoth_5, oo_82, oa_82]
      rw [jx_Model_readBoth_5]
      simp only [ax0, ex_cons, am_get, upz_at, true_and, and_true, Nat.reduceAdd, Nat.reduceLeDiff, Nat.reduceEqDiff, Nat.reduceSub, Int32.reduceOfInt, Int32.reduceAdd, Int32.reduceMul, Int32.reduceSub, ↓reduceIte, Int32.reduceLT, Int32.reduceLE, Int32.reduceToNatClampNeg, Nat.reduceMod, Nat.reduceLT, List.length_cons, List.length_nil, eq_self, true_or, or_true, and_self, implies_true, not_true_eq_false, not_false_eq_true, false_implies, true_implies, forall_const, st_aloadx, st_gotox, st_iconstx, st_ifCondx, st_iloadx, st_in2, kb_Model_readBoth_5, oo_82, oa_82]
      refine m_takes0D l2 ?_
      simp only [ax0, ex_cons, am_get, upz_at, true_and, and_true, Nat.reduceAdd, Nat.reduceLeDiff, Nat.reduceEqDiff, Nat.reduceSub, Int32.reduceOfInt, Int32.reduceAdd, Int32.reduceMul, Int32.reduceSub, ↓reduceIte, Int32.reduceLT, Int32.reduceLE, Int32.reduceToNatClampNeg, Nat.reduceMod, Nat.reduceLT, List.length_cons, List.length_nil, eq_self, true_or, or_true, and_self, implies_true, not_true_eq_false, not_false_eq_true, false_implies, true_implies, forall_const, st_aloadx, st_gotox, st_iconstx, st_ifCondx, st_iloadx, st_in2, st_return_x, kb_Model_readBoth_5, oo_82, jx_Model_readBoth_34, kb_Model_readBoth_34, oa_82]
      exact K F2 l2 (p1.tr p2)
    · rw [if_pos q2] at hz
      have hk2 := tk_lt hT.2.2.1 (k := k + 1) (by rw [q2]; decide)
      have hwk2 := hT.2.2.1.1 (k + 1) hk2
      have hw4 : wtC (cdL L (k + 1)) = 4 := by rw [q2]; decide
      have hwk2 : ppL n L (k + 1) + wtC (cdL L (k + 1)) ≤ ppL n L (k + 2) := hwk2
      have hk2 : k + 2 ≤ L.length := hk2
      have l2 : LV F2 (k + 2) c (ms ++ cdT t) := l2
      simp only [ax0, ex_cons, am_get, upz_at, true_and, and_true, Nat.reduceAdd, Nat.reduceLeDiff, Nat.reduceEqDiff, Nat.reduceSub, Int32.reduceOfInt, Int32.reduceAdd, Int32.reduceMul, Int32.reduceSub, ↓reduceIte, Int32.reduceLT, Int32.reduceLE, Int32.reduceToNatClampNeg, Nat.reduceMod, Nat.reduceLT, List.length_cons, List.length_nil, eq_self, true_or, or_true, and_self, implies_true, not_true_eq_false, not_false_eq_true, false_implies, true_implies, forall_const, st_aloadx, st_gotox, st_iconstx, st_ifCondx, st_iloadx, st_in2, kb_Model_readBoth_5, oo_82, oa_82]
      have pr2 := pr1.pp (dp' := dp) (k' := k + 2) (c' := c) p2 pr.1 hk2 pr.2.2.2
      have hb1 : 2 * (ms ++ cdT t).length ≤ ppL n L (k + 2) := by rw [List.length_append]; omega
      rcases thenP_ok hz with ⟨e, h1, h2⟩ | ⟨x, h1, h2⟩
      · subst h2
        refine s4 d dp (k + 2) c (ms ++ cdT t) t F2 _ _ pr2 l2 hb1 h1 (fun F3 r3 p3 => ?_)
        have r3 : DE F3 (plL n L e) := r3
        simp only [ax0, ex_cons, am_get, upz_at, true_and, and_true, Nat.reduceAdd, Nat.reduceLeDiff, Nat.reduceEqDiff, Nat.reduceSub, Int32.reduceOfInt, Int32.reduceAdd, Int32.reduceMul, Int32.reduceSub, ↓reduceIte, Int32.reduceLT, Int32.reduceLE, Int32.reduceToNatClampNeg, Nat.reduceMod, Nat.reduceLT, List.length_cons, List.length_nil, eq_self, true_or, or_true, and_self, implies_true, not_true_eq_false, not_false_eq_true, false_implies, true_implies, forall_const, st_aloadx, st_gotox, st_iconstx, st_ifCondx, st_iloadx, st_in2, kb_Model_readBoth_5, oo_82, oa_82]
        refine m_makesD r3 ?_
        simp only [ax0, ex_cons, am_get, upz_at, true_and, and_true, Nat.reduceAdd, Nat.reduceLeDiff, Nat.reduceEqDiff, Nat.reduceSub, Int32.reduceOfInt, Int32.reduceAdd, Int32.reduceMul, Int32.reduceSub, ↓reduceIte, Int32.reduceLT, Int32.reduceLE, Int32.reduceToNatClampNeg, Nat.reduceMod, Nat.reduceLT, List.length_cons, List.length_nil, eq_self, true_or, or_true, and_self, implies_true, not_true_eq_false, not_false_eq_true, false_implies, true_implies, forall_const, st_aloadx, st_gotox, st_iconstx, st_ifCondx, st_iloadx, st_in2, kb_Model_readBoth_5, oo_82, oa_82]
        rw [jx_Model_readBoth_5]
        simp only [ax0, ex_cons, am_get, upz_at, true_and, and_true, Nat.reduceAdd, Nat.reduceLeDiff, Nat.reduceEqDiff, Nat.reduceSub, Int32.reduceOfInt, Int32.reduceAdd, Int32.reduceMul, Int32.reduceSub, ↓reduceIte, Int32.reduceLT, Int32.reduceLE, Int32.reduceToNatClampNeg, Nat.reduceMod, Nat.reduceLT, List.length_cons, List.length_nil, eq_self, true_or, or_true, and_self, implies_true, not_true_eq_false, not_false_eq_true, false_implies, true_implies, forall_const, st_aloadx, st_gotox, st_iconstx, st_ifCondx, st_iloadx, st_in2, kb_Model_readBoth_5, oo_82, oa_82]
        refine m_takes0D r3 ?_
        simp only [ax0, ex_cons, am_get, upz_at, true_and, and_true, Nat.reduceAdd, Nat.reduceLeDiff, Nat.reduceEqDiff, Nat.reduceSub, Int32.reduceOfInt, Int32.reduceAdd, Int32.reduceMul, Int32.reduceSub, ↓reduceIte, Int32.reduceLT, Int32.reduceLE, Int32.reduceToNatClampNeg, Nat.reduceMod, Nat.reduceLT, List.length_cons, List.length_nil, eq_self, true_or, or_true, and_self, implies_true, not_true_eq_false, not_false_eq_true, false_implies, true_implies, forall_const, st_aloadx, st_gotox, st_iconstx, st_ifCondx, st_iloadx, st_in2, st_return_x, kb_Model_readBoth_5, oo_82, jx_Model_readBoth_34, kb_Model_readBoth_34, oa_82]
        exact K F3 r3 ((p1.tr p2).tr p3)
      · obtain ⟨a1, a2, a3, a4⟩ := pG_ok hT.2.2.1 f 4 dp (k + 2) c t _ hk2 pr.2.2.2 (fun q => by omega) (by omega) h1
        rw [if_neg (by omega)] at a4
        have hP := (hT.2.2.2 _ a2).1
        have hn := hT.1
        have hws2 := ws_cd a1
        refine s4 d dp (k + 2) c (ms ++ cdT t) t F2 _ _ pr2 l2 hb1 h1 (fun F3 r3 p3 => ?_)
        have r3 : LV F3 x.2.1 x.2.2 (ms ++ cdT t ++ cdT x.1) := r3
        simp only [ax0, ex_cons, am_get, upz_at, true_and, and_true, Nat.reduceAdd, Nat.reduceLeDiff, Nat.reduceEqDiff, Nat.reduceSub, Int32.reduceOfInt, Int32.reduceAdd, Int32.reduceMul, Int32.reduceSub, ↓reduceIte, Int32.reduceLT, Int32.reduceLE, Int32.reduceToNatClampNeg, Nat.reduceMod, Nat.reduceLT, List.length_cons, List.length_nil, eq_self, true_or, or_true, and_self, implies_true, not_true_eq_false, not_false_eq_true, false_implies, true_implies, forall_const, st_aloadx, st_gotox, st_iconstx, st_ifCondx, st_iloadx, st_in2, kb_Model_readBoth_5, oo_82, oa_82]
        refine m_makesL (x := 9) r3 (by rw [List.length_append, List.length_append]; omega) (fun F4 r4 p4 => ?_)
        simp only [ax0, ex_cons, am_get, upz_at, true_and, and_true, Nat.reduceAdd, Nat.reduceLeDiff, Nat.reduceEqDiff, Nat.reduceSub, Int32.reduceOfInt, Int32.reduceAdd, Int32.reduceMul, Int32.reduceSub, ↓reduceIte, Int32.reduceLT, Int32.reduceLE, Int32.reduceToNatClampNeg, Nat.reduceMod, Nat.reduceLT, List.length_cons, List.length_nil, eq_self, true_or, or_true, and_self, implies_true, not_true_eq_false, not_false_eq_true, false_implies, true_implies, forall_const, st_aloadx, st_gotox, st_iconstx, st_ifCondx, st_iloadx, st_in2, kb_Model_readBoth_5, oo_82, oa_82]
        have e3 : ms ++ cdT t ++ cdT x.1 ++ [9] = ms ++ cdT (.sub t x.1) := by show _ = ms ++ (cdT t ++ cdT x.1 ++ [9]); simp
        rw [e3] at r4
        have l2 : wsT (.sub t x.1) = wsT t + wsT x.1 + 8 := rfl
        exact s3 d dp x.2.1 x.2.2 ms (.sub t x.1) F4 Q z (pr2.pp (p3.tr p4) pr.1 a2 a3) ⟨hw, a1⟩ r4 (by omega) h2 (fun F5 r5 p5 => K F5 r5 ((((p1.tr p2).tr p3).tr p4).tr p5))
end MPZ
