/-! ===== the model: writesAll, letter ===== -/
section MLU
variable {d : Nat} {h : am_H} {F : Nat → Nat → Int32} {J : Nat → Nat → Int64} {V : Nat → Nat → Value} {Q : am_Q}
theorem isF_bd {f : Nat} (h : isF f) : 0 < f ∧ f ≤ 10 := by unfold isF at h; omega
set_option maxRecDepth 20000 in
theorem m_writesAll {s : Nat} (hs : s < 14) {R : rT} (hR : wfR R) (hg : RR (F 84) s R) (wd : WD F) (K : ∀ F', WTx F' (txR R) → Pv F F' → Q none (ov h F' J V)) : am_cl (d + 170) 225 [.ref 82, .int (nI s)] (ov h F J V) Q := by
  obtain ⟨w1, w2, w3, w4, w5⟩ := hR
  obtain ⟨g1, g2, g3, g4, g5, g6⟩ := hg
  have hR : wfR R := ⟨w1, w2, w3, w4, w5⟩
  obtain ⟨f0, f10⟩ := isF_bd w1
  have L2 := tx2_len R
  have L3 := tx3_len hR
  have L5 := tx5_len hR
  have c1 := g6.l
  have c2 := g6.r
  generalize hn1 : (rC1 R).length = n1 at *
  generalize hn2 : (rC2 R).length = n2 at *
  have hn2' : (cdT R.2.2.2.2).length = n2 := hn2
  have eqf : ∀ k : Nat, k < 2147483648 → (nI R.1 = nI k) = (R.1 = k) := fun k hk => nk_eq (by omega) hk
  have pv0 : Pv F (upz F 82 (upz (F 82) 27 0)) := ⟨fun a h1 _ _ => upz_ne _ _ h1, fun i hi => by rw [upz_eq, upz_ne _ _ hi]⟩
  have wl0 : WTx (upz F 82 (upz (F 82) 27 0)) [] := ⟨by rw [upz_eq, upz_eq]; rfl, fun i hi => absurd hi (Nat.not_lt_zero i), fun i hi => absurd hi (Nat.not_lt_zero i)⟩
  have s6 : ∀ F1 z, z = b2i (gdR R) → WTx F1 (tx5 R) → Pv F F1 → am_W kc_Model_writesAll (am_cl (d + 169)) Q 183 [.ref 82, .int (nI s), .int (nI (183 * s)), .int (nI R.1), .int (b2i R.2.1), .int (nI (183 * s + 5)), .int (nI (183 * s + 5 + n1)), .int (nI (183 * s + 5 + (n1 + n2)))] [.int z, .int (nI (183 * s + 5 + (n1 + n2))), .int (nI (183 * s + 5 + n1)), .ref 82] (ov h F1 J V) := by
    intro F1 z hz wl p
    subst hz
    simp only [ax0, ex_cons, am_get, upz_at, true_and, and_true, Nat.reduceAdd, Nat.reduceLeDiff, Nat.reduceEqDiff, Nat.reduceSub, Int32.reduceOfInt, Int32.reduceAdd, Int32.reduceMul, Int32.reduceSub, ↓reduceIte, Int32.reduceLT, Int32.reduceLE, Int32.reduceToNatClampNeg, Nat.reduceMod, Nat.reduceLT, List.length_cons, List.length_nil, eq_self, true_or, or_true, and_self, implies_true, not_true_eq_false, not_false_eq_true, false_implies, true_implies, forall_const, st_in4, st_return_x, jx_Model_writesAll_183, kb_Model_writesAll_183, oo_82, oa_82]
    have c2' : Rw (F1 84) (183 * s + 5 + n1) (cdT R.2.2.2.2) := by rw [p.k]; exact c2
    rw [← Nat.add_assoc (183 * s + 5) n1 n2, ← hn2', show d + 169 = (d + 165 - n2) + 4 + (cdT R.2.2.2.2).length by omega]
    have hlv := w3.2
    refine m_writesTerm w3.1 wl (p.wd wd) c2' (by omega) (by omega) (by omega) (g := gdR R) (fun F2 wl2 p2 => ?_)
    simp only [ax0, ex_cons, am_get, upz_at, true_and, and_true, Nat.reduceAdd, Nat.reduceLeDiff, Nat.reduceEqDiff, Nat.reduceSub, Int32.reduceOfInt, Int32.reduceAdd, Int32.reduceMul, Int32.reduceSub, ↓reduceIte, Int32.reduceLT, Int32.reduceLE, Int32.reduceToNatClampNeg, Nat.reduceMod, Nat.reduceLT, List.length_cons, List.length_nil, eq_self, true_or, or_true, and_self, implies_true, not_true_eq_false, not_false_eq_true, false_implies, true_implies, forall_const, st_in4, st_return_x, jx_Model_writesAll_183, kb_Model_writesAll_183, oo_82, oa_82]
    exact K F2 wl2 (p.tr p2)
  have s5 : ∀ F1, WTx F1 (tx5 R) → Pv F F1 → am_W kc_Model_writesAll (am_cl (d + 169)) Q 157 [.ref 82, .int (nI s), .int (nI (183 * s)), .int (nI R.1), .int (b2i R.2.1), .int (nI (183 * s + 5)), .int (nI (183 * s + 5 + n1)), .int (nI (183 * s + 5 + (n1 + n2)))] [] (ov h F1 J V) := by
    intro F1 wl p
    simp only [ax0, ex_cons, am_get, upz_at, true_and, and_true, Nat.reduceAdd, Nat.reduceLeDiff, Nat.reduceEqDiff, Nat.reduceSub, Int32.reduceOfInt, Int32.reduceAdd, Int32.reduceMul, Int32.reduceSub, ↓reduceIte, Int32.reduceLT, Int32.reduceLE, Int32.reduceToNatClampNeg, Nat.reduceMod, Nat.reduceLT, List.length_cons, List.length_nil, eq_self, true_or, or_true, and_self, implies_true, not_true_eq_false, not_false_eq_true, false_implies, true_implies, forall_const, st_aloadx, st_gotox, st_goto_wx, st_iconstx, st_ifCondx, st_if_icmpx, st_iloadx, jx_Model_writesAll_157, kb_Model_writesAll_157, jx_Model_writesAll_178, kb_Model_writesAll_178, jx_Model_writesAll_182, kb_Model_writesAll_182, show (nI R.1 = (10 : Int32)) = (R.1 = 10) from eqf 10 (by decide), show (nI R.1 = (3 : Int32)) = (R.1 = 3) from eqf 3 (by decide)]
    refine ifnb (fun e => ?_) (fun e => ?_)
    · exact s6 F1 0 (by unfold gdR; rw [e]; rfl) wl p
    · refine And.intro (fun q => ?_) (fun q => ?_)
      · exact s6 F1 1 (by unfold gdR; rw [e, decide_eq_true (Or.inl q)]; rfl) wl p
      · refine And.intro (fun q2 => ?_) (fun q2 => ?_)
        · exact s6 F1 0 (by unfold gdR; rw [e, decide_eq_false (fun z => z.elim q q2)]; rfl) wl p
        · exact s6 F1 1 (by unfold gdR; rw [e, decide_eq_true (Or.inr (Classical.not_not.mp q2))]; rfl) wl p
  have s4 : ∀ F1, WTx F1 (tx3 R) → Pv F F1 → am_W kc_Model_writesAll (am_cl (d + 169)) Q 119 [.ref 82, .int (nI s), .int (nI (183 * s)), .int (nI R.1), .int (b2i R.2.1), .int (nI (183 * s + 5)), .int (nI (183 * s + 5 + n1)), .int (nI (183 * s + 5 + (n1 + n2)))] [] (ov h F1 J V) := by
    intro F1 wl p
    have L4 : (tx4 R).length ≤ 15 + 4 * n1 + 168 := by
      have h4 := pwd_len (if R.1 = 10 then 10 else 7) (tx3 R)
      have h6 : lnW (if R.1 = 10 then 10 else 7) ≤ 3 := by split <;> decide
      unfold tx4; omega
    have s45 : ∀ F2, WTx F2 (tx4 R) → Pv F F2 → am_ex (am_cl (d + 169)) (am_W kc_Model_writesAll (am_cl (d + 169)) Q) Q (kb_Model_writesAll_133.drop 1) [.ref 82, .int (nI s), .int (nI (183 * s)), .int (nI R.1), .int (b2i R.2.1), .int (nI (183 * s + 5)), .int (nI (183 * s + 5 + n1)), .int (nI (183 * s + 5 + (n1 + n2)))] [] (ov h F2 J V) := by
      intro F2 wl2 p2
      simp only [ax0, ex_cons, am_get, upz_at, true_and, and_true, Nat.reduceAdd, Nat.reduceLeDiff, Nat.reduceEqDiff, Nat.reduceSub, Int32.reduceOfInt, Int32.reduceAdd, Int32.reduceMul, Int32.reduceSub, ↓reduceIte, Int32.reduceLT, Int32.reduceLE, Int32.reduceToNatClampNeg, Nat.reduceMod, Nat.reduceLT, List.length_cons, List.length_nil, eq_self, true_or, or_true, and_self, implies_true, not_true_eq_false, not_false_eq_true, false_implies, true_implies, forall_const, st_aloadx, st_gotox, st_goto_wx, st_iconstx, st_ifCondx, st_if_icmpx, st_iloadx, st_in2, jx_Model_writesAll_133, kb_Model_writesAll_133, oo_82, jx_Model_writesAll_152, kb_Model_writesAll_152, oa_82, List.drop_succ_cons, List.drop_zero, show (nI R.1 = (9 : Int32)) = (R.1 = 9) from eqf 9 (by decide)]
      refine ifb (fun e => ?_) (fun e => ?_)
      · have e5 : tx5 R = tx4 R := by unfold tx5; rw [e, if_neg Bool.false_ne_true]
        exact s5 F2 (by rw [e5]; exact wl2) p2
      · refine And.intro (fun q => ?_) (fun q => ?_)
        · have e5 : tx5 R = pwd 8 (tx4 R) := by unfold tx5; rw [e, if_pos rfl, if_neg q]
          simp only [ax0, ex_cons, am_get, upz_at, true_and, and_true, Nat.reduceAdd, Nat.reduceLeDiff, Nat.reduceEqDiff, Nat.reduceSub, Int32.reduceOfInt, Int32.reduceAdd, Int32.reduceMul, Int32.reduceSub, ↓reduceIte, Int32.reduceLT, Int32.reduceLE, Int32.reduceToNatClampNeg, Nat.reduceMod, Nat.reduceLT, List.length_cons, List.length_nil, eq_self, true_or, or_true, and_self, implies_true, not_true_eq_false, not_false_eq_true, false_implies, true_implies, forall_const, st_goto_wx, st_in2, jx_Model_writesAll_154, kb_Model_writesAll_154, oo_82, oa_82]
          refine m_writesWord (w := 8) wl2 (p2.wd wd) (by decide) (by decide) (by omega) (fun F3 wl3 p3 => ?_)
          simp only [ax0, ex_cons, am_get, upz_at, true_and, and_true, Nat.reduceAdd, Nat.reduceLeDiff, Nat.reduceEqDiff, Nat.reduceSub, Int32.reduceOfInt, Int32.reduceAdd, Int32.reduceMul, Int32.reduceSub, ↓reduceIte, Int32.reduceLT, Int32.reduceLE, Int32.reduceToNatClampNeg, Nat.reduceMod, Nat.reduceLT, List.length_cons, List.length_nil, eq_self, true_or, or_true, and_self, implies_true, not_true_eq_false, not_false_eq_true, false_implies, true_implies, forall_const, st_goto_wx, st_in2, jx_Model_writesAll_154, kb_Model_writesAll_154, oo_82, oa_82]
          exact s5 F3 (by rw [e5]; exact wl3) (p2.tr p3.pv)
        · have e5 : tx5 R = pwd 2 (tx4 R) := by unfold tx5; rw [e, if_pos rfl, if_pos (Classical.not_not.mp q)]
          simp only [ax0, ex_cons, am_get, upz_at, true_and, and_true, Nat.reduceAdd, Nat.reduceLeDiff, Nat.reduceEqDiff, Nat.reduceSub, Int32.reduceOfInt, Int32.reduceAdd, Int32.reduceMul, Int32.reduceSub, ↓reduceIte, Int32.reduceLT, Int32.reduceLE, Int32.reduceToNatClampNeg, Nat.reduceMod, Nat.reduceLT, List.length_cons, List.length_nil, eq_self, true_or, or_true, and_self, implies_true, not_true_eq_false, not_false_eq_true, false_implies, true_implies, forall_const, st_goto_wx, st_in2, jx_Model_writesAll_154, kb_Model_writesAll_154, oo_82, oa_82]
          refine m_writesWord (w := 2) wl2 (p2.wd wd) (by decide) (by decide) (by omega) (fun F3 wl3 p3 => ?_)
          simp only [ax0, ex_cons, am_get, upz_at, true_and, and_true, Nat.reduceAdd, Nat.reduceLeDiff, Nat.reduceEqDiff, Nat.reduceSub, Int32.reduceOfInt, Int32.reduceAdd, Int32.reduceMul, Int32.reduceSub, ↓reduceIte, Int32.reduceLT, Int32.reduceLE, Int32.reduceToNatClampNeg, Nat.reduceMod, Nat.reduceLT, List.length_cons, List.length_nil, eq_self, true_or, or_true, and_self, implies_true, not_true_eq_false, not_false_eq_true, false_implies, true_implies, forall_const, st_goto_wx, st_in2, jx_Model_writesAll_154, kb_Model_writesAll_154, oo_82, oa_82]
          exact s5 F3 (by rw [e5]; exact wl3) (p2.tr p3.pv)
    simp only [ax0, ex_cons, am_get, upz_at, true_and, and_true, Nat.reduceAdd, Nat.reduceLeDiff, Nat.reduceEqDiff, Nat.reduceSub, Int32.reduceOfInt, Int32.reduceAdd, Int32.reduceMul, Int32.reduceSub, ↓reduceIte, Int32.reduceLT, Int32.reduceLE, Int32.reduceToNatClampNeg, Nat.reduceMod, Nat.reduceLT, List.length_cons, List.length_nil, eq_self, true_or, or_true, and_self, implies_true, not_true_eq_false, not_false_eq_true, false_implies, true_implies, forall_const, st_aloadx, st_gotox, st_goto_wx, st_iconstx, st_if_icmpx, st_iloadx, jx_Model_writesAll_119, kb_Model_writesAll_119, jx_Model_writesAll_131, kb_Model_writesAll_131, show (nI R.1 = (10 : Int32)) = (R.1 = 10) from eqf 10 (by decide)]
    refine And.intro (fun q => ?_) (fun q => ?_)
    · have e5 : tx4 R = pwd 7 (tx3 R) := by unfold tx4; rw [if_neg q]
      rw [jx_Model_writesAll_133]
      simp only [st_in2, ex_cons, ax0, kb_Model_writesAll_133, oa_82, oo_82, true_and, Nat.reduceAdd, Nat.reduceLeDiff]
      refine m_writesWord (w := 7) wl (p.wd wd) (by decide) (by decide) (by omega) (fun F3 wl3 p3 => ?_)
      exact s45 F3 (by rw [e5]; exact wl3) (p.tr p3.pv)
    · have e5 : tx4 R = pwd 10 (tx3 R) := by unfold tx4; rw [if_pos (Classical.not_not.mp q)]
      rw [jx_Model_writesAll_133]
      simp only [st_in2, ex_cons, ax0, kb_Model_writesAll_133, oa_82, oo_82, true_and, Nat.reduceAdd, Nat.reduceLeDiff]
      refine m_writesWord (w := 10) wl (p.wd wd) (by decide) (by decide) (by omega) (fun F3 wl3 p3 => ?_)
      exact s45 F3 (by rw [e5]; exact wl3) (p.tr p3.pv)
  have s3 : ∀ F1, WTx F1 (tx2 R) → Pv F F1 → am_W kc_Model_writesAll (am_cl (d + 169)) Q 104 [.ref 82, .int (nI s), .int (nI (183 * s)), .int (nI R.1), .int (b2i R.2.1), .int (nI (183 * s + 5)), .int (nI (183 * s + 5 + n1)), .int (nI (183 * s + 5 + (n1 + n2)))] [] (ov h F1 J V) := by
    intro F1 wl p
    simp only [ax0, ex_cons, am_get, upz_at, true_and, and_true, Nat.reduceAdd, Nat.reduceLeDiff, Nat.reduceEqDiff, Nat.reduceSub, Int32.reduceOfInt, Int32.reduceAdd, Int32.reduceMul, Int32.reduceSub, ↓reduceIte, Int32.reduceLT, Int32.reduceLE, Int32.reduceToNatClampNeg, Nat.reduceMod, Nat.reduceLT, List.length_cons, List.length_nil, eq_self, true_or, or_true, and_self, implies_true, not_true_eq_false, not_false_eq_true, false_implies, true_implies, forall_const, st_aloadx, st_goto_wx, st_iconstx, st_if_icmpx, st_iloadx, st_in4, jx_Model_writesAll_104, kb_Model_writesAll_104, oo_82, oa_82, show ((9 : Int32) ≤ nI (R.1)) = (9 ≤ R.1) from nk_le (a := 9) (b := R.1) (by omega) (by omega)]
    refine And.intro (fun q => ?_) (fun q => ?_)
    · exact s4 F1 (by unfold tx3; rw [if_neg (by omega)]; exact wl) p
    · have q : R.1 < 9 := by omega
      have e1 : rC1 R = cdT R.2.2.2.1 := by unfold rC1; rw [if_pos q]
      have c1' : Rw (F1 84) (183 * s + 5) (cdT R.2.2.2.1) := by rw [p.k, ← e1]; exact c1
      rw [e1] at hn1
      have hlv := (w2 q).2
      rw [← hn1, show d + 169 = (d + 165 - n1) + 4 + (cdT R.2.2.2.1).length by omega]
      refine m_writesTerm (w2 q).1 wl (p.wd wd) c1' (by omega) (by omega) (by omega) (g := false) (fun F2 wl2 p2 => ?_)
      rw [show (d + 165 - n1) + 4 + (cdT R.2.2.2.1).length = d + 169 by omega, hn1]
      simp only [ax0, ex_cons, am_get, upz_at, true_and, and_true, Nat.reduceAdd, Nat.reduceLeDiff, Nat.reduceEqDiff, Nat.reduceSub, Int32.reduceOfInt, Int32.reduceAdd, Int32.reduceMul, Int32.reduceSub, ↓reduceIte, Int32.reduceLT, Int32.reduceLE, Int32.reduceToNatClampNeg, Nat.reduceMod, Nat.reduceLT, List.length_cons, List.length_nil, eq_self, true_or, or_true, and_self, implies_true, not_true_eq_false, not_false_eq_true, false_implies, true_implies, forall_const, st_aloadx, st_goto_wx, st_iconstx, st_if_icmpx, st_iloadx, st_in4, jx_Model_writesAll_104, kb_Model_writesAll_104, oo_82, oa_82]
      exact s4 F2 (by unfold tx3; rw [if_pos q]; exact wl2) (p.tr p2)
  have s1 : ∀ F1 w, w < 25 → 0 < w → tx1 R = pwd w [] → WTx F1 [] → Pv F F1 → am_W kc_Model_writesAll (am_cl (d + 169)) Q 90 [.ref 82, .int (nI s), .int (nI (183 * s)), .int (nI R.1), .int (b2i R.2.1), .int (nI (183 * s + 5)), .int (nI (183 * s + 5 + n1)), .int (nI (183 * s + 5 + (n1 + n2)))] [.int (nI w), .ref 82] (ov h F1 J V) := by
    intro F1 w hw hw0 e1 wl p
    simp only [ax0, ex_cons, am_get, upz_at, true_and, and_true, Nat.reduceAdd, Nat.reduceLeDiff, Nat.reduceEqDiff, Nat.reduceSub, Int32.reduceOfInt, Int32.reduceAdd, Int32.reduceMul, Int32.reduceSub, ↓reduceIte, Int32.reduceLT, Int32.reduceLE, Int32.reduceToNatClampNeg, Nat.reduceMod, Nat.reduceLT, List.length_cons, List.length_nil, eq_self, true_or, or_true, and_self, implies_true, not_true_eq_false, not_false_eq_true, false_implies, true_implies, forall_const, st_aloadx, st_goto_wx, st_iconstx, st_if_icmpx, st_iloadx, st_in2, jx_Model_writesAll_90, kb_Model_writesAll_90, oo_82, oa_82]
    refine m_writesWord (w := w) wl (p.wd wd) hw0 hw (by decide) (fun F2 wl2 p2 => ?_)
    rw [← e1] at wl2
    simp only [ax0, ex_cons, am_get, upz_at, true_and, and_true, Nat.reduceAdd, Nat.reduceLeDiff, Nat.reduceEqDiff, Nat.reduceSub, Int32.reduceOfInt, Int32.reduceAdd, Int32.reduceMul, Int32.reduceSub, ↓reduceIte, Int32.reduceLT, Int32.reduceLE, Int32.reduceToNatClampNeg, Nat.reduceMod, Nat.reduceLT, List.length_cons, List.length_nil, eq_self, true_or, or_true, and_self, implies_true, not_true_eq_false, not_false_eq_true, false_implies, true_implies, forall_const, st_aloadx, st_goto_wx, st_iconstx, st_if_icmpx, st_iloadx, st_in2, jx_Model_writesAll_90, kb_Model_writesAll_90, oo_82, oa_82, show (nI R.1 = (5 : Int32)) = (R.1 = 5) from eqf 5 (by decide)]
    refine And.intro (fun q => ?_) (fun q => ?_)
    · exact s3 F2 (by unfold tx2; rw [if_neg q]; exact wl2) (p.tr p2.pv)
    · refine m_writesWord (w := 6) wl2 ((p.tr p2.pv).wd wd) (by decide) (by decide) (by have h4 := pwd_len w []; have := lnW_le w; have h5 : ([] : List Nat).length = 0 := rfl; rw [e1]; omega) (fun F3 wl3 p3 => ?_)
      simp only [ax0, ex_cons, am_get, upz_at, true_and, and_true, Nat.reduceAdd, Nat.reduceLeDiff, Nat.reduceEqDiff, Nat.reduceSub, Int32.reduceOfInt, Int32.reduceAdd, Int32.reduceMul, Int32.reduceSub, ↓reduceIte, Int32.reduceLT, Int32.reduceLE, Int32.reduceToNatClampNeg, Nat.reduceMod, Nat.reduceLT, List.length_cons, List.length_nil, eq_self, true_or, or_true, and_self, implies_true, not_true_eq_false, not_false_eq_true, false_implies, true_implies, forall_const, st_aloadx, st_goto_wx, st_iconstx, st_if_icmpx, st_iloadx, st_in2, jx_Model_writesAll_90, kb_Model_writesAll_90, oo_82, oa_82]
      exact s3 F3 (by unfold tx2; rw [if_pos (Classical.not_not.mp q)]; exact wl3) ((p.tr p2.pv).tr p3.pv)
  have s0 : ∀ F1 z, z = b2i R.2.1 → WTx F1 [] → Pv F F1 → am_W kc_Model_writesAll (am_cl (d + 169)) Q 35 [.ref 82, .int (nI s), .int (nI (183 * s)), .int (nI R.1), am_dum, am_dum, am_dum, am_dum] [.int z] (ov h F1 J V) := by
    intro F1 z hz wl p
    subst hz
    simp only [ax0, ex_cons, am_get, upz_at, true_and, and_true, Nat.reduceAdd, Nat.reduceLeDiff, Nat.reduceEqDiff, Nat.reduceSub, Int32.reduceOfInt, Int32.reduceAdd, Int32.reduceMul, Int32.reduceSub, ↓reduceIte, Int32.reduceLT, Int32.reduceLE, Int32.reduceToNatClampNeg, Nat.reduceMod, Nat.reduceLT, List.length_cons, List.length_nil, eq_self, true_or, or_true, and_self, implies_true, not_true_eq_false, not_false_eq_true, false_implies, true_implies, forall_const, st_aloadx, st_getfieldx, st_gotox, st_goto_wx, st_iaddx, st_ialoadx, st_iconstx, st_if_icmpx, st_iloadx, st_istorex, am_put, am_nlg, jx_Model_writesAll_35, kb_Model_writesAll_35, og_82_2, jx_Model_writesAll_89, kb_Model_writesAll_89, oa_82, oa_84, or_84, show nI (183 * s) + (5 : Int32) = nI (183 * s + 5) from nk_add (183 * s) (5), show nI (183 * s) + (3 : Int32) = nI (183 * s + 3) from nk_add (183 * s) (3), show nI (183 * s) + (4 : Int32) = nI (183 * s + 4) from nk_add (183 * s) (4), show nI (183 * s) + (2 : Int32) = nI (183 * s + 2) from nk_add (183 * s) (2), nk_neg (show 183 * s + 3 < 2147483648 by omega), nk_cl (show 183 * s + 3 < 2147483648 by omega), nk_neg (show 183 * s + 4 < 2147483648 by omega), nk_cl (show 183 * s + 4 < 2147483648 by omega), nk_neg (show 183 * s + 2 < 2147483648 by omega), nk_cl (show 183 * s + 2 < 2147483648 by omega), show 183 * s + 3 < 2698 by omega, show 183 * s + 4 < 2698 by omega, show 183 * s + 2 < 2698 by omega, p.k, g3, g4, g5, show nI (183 * s + 5) + nI n1 = nI (183 * s + 5 + n1) from nk_add _ _, show nI (183 * s + 5) + nI (n1 + n2) = nI (183 * s + 5 + (n1 + n2)) from nk_add _ _, show (nI R.1 = (10 : Int32)) = (R.1 = 10) from eqf 10 (by decide)]
    refine And.intro (fun q => ?_) (fun q => ?_)
    · exact s1 F1 R.1 (by omega) f0 (by unfold tx1; rw [if_neg q]) wl p
    · have q := Classical.not_not.mp q
      have := w5 q
      rw [if_pos q, show (21 : Int32) + nI R.2.2.1 = nI (21 + R.2.2.1) from nk_add 21 _]
      exact s1 F1 (21 + R.2.2.1) (by omega) (by omega) (by unfold tx1; rw [if_pos q]) wl p
  simp only [ax0, ex_cons, am_get, upz_at, true_and, and_true, Nat.reduceAdd, Nat.reduceLeDiff, Nat.reduceEqDiff, Nat.reduceSub, Int32.reduceOfInt, Int32.reduceAdd, Int32.reduceMul, Int32.reduceSub, ↓reduceIte, Int32.reduceLT, Int32.reduceLE, Int32.reduceToNatClampNeg, Nat.reduceMod, Nat.reduceLT, List.length_cons, List.length_nil, eq_self, true_or, or_true, and_self, implies_true, not_true_eq_false, not_false_eq_true, false_implies, true_implies, forall_const, st_aloadx, st_getfieldx, st_gotox, st_goto_wx, st_iaddx, st_ialoadx, st_iconstx, st_if_icmpx, st_iloadx, st_imulx, st_istorex, st_putfieldx, am_put, am_nlg, kb_Model_writesAll_0, op_82_27, og_82_2, jx_Model_writesAll_34, kb_Model_writesAll_34, oa_82, os_82, oa_84, or_84, cx_Model_writesAll, show (183 : Int32) * nI (s) = nI (183 * (s)) from nk_mul (183) (s), show nI (183 * s) + (1 : Int32) = nI (183 * s + 1) from nk_add (183 * s) (1), nk_neg (show 183 * s < 2147483648 by omega), nk_cl (show 183 * s < 2147483648 by omega), nk_neg (show 183 * s + 1 < 2147483648 by omega), nk_cl (show 183 * s + 1 < 2147483648 by omega), show 183 * s < 2698 by omega, show 183 * s + 1 < 2698 by omega, g1, g2]
  refine ifnb1 (fun e => ?_) (fun e => ?_)
  · exact s0 _ 0 (by rw [e]; rfl) wl0 pv0
  · exact s0 _ 1 (by rw [e]; rfl) wl0 pv0
set_option maxRecDepth 20000 in
theorem mp_letter {D : dT} (hD : MK (F 84) D) (wd : WD F) {x i : Int32} (K : ∀ F', Pm F F' → Q (some (.int (aLetter D x i))) (ov h F' J V)) : am_cl (d + 171) 226 [.ref 82, .int x, .int i] (ov h F J V) Q := by
  unfold aLetter at K
  simp only [ax0, ex_cons, am_get, upz_at, true_and, and_true, Nat.reduceAdd, Nat.reduceLeDiff, Nat.reduceEqDiff, Nat.reduceSub, Int32.reduceOfInt, Int32.reduceAdd, Int32.reduceMul, Int32.reduceSub, ↓reduceIte, Int32.reduceLT, Int32.reduceLE, Int32.reduceToNatClampNeg, Nat.reduceMod, Nat.reduceLT, List.length_cons, List.length_nil, eq_self, true_or, or_true, and_self, implies_true, not_true_eq_false, not_false_eq_true, false_implies, true_implies, forall_const, st_aloadx, st_goto_wx, st_iconstx, st_if_icmpx, st_iloadx, st_in2, st_istorex, am_put, am_nlg, kb_Model_letter_0, oo_82, oa_82, cx_Model_letter]
  refine m_slotOf hD ?_
  cases hs : slD D x with
  | none =>
    rw [hs] at K
    simp only [ax0, ex_cons, am_get, upz_at, true_and, and_true, Nat.reduceAdd, Nat.reduceLeDiff, Nat.reduceEqDiff, Nat.reduceSub, Int32.reduceOfInt, Int32.reduceAdd, Int32.reduceMul, Int32.reduceSub, ↓reduceIte, Int32.reduceLT, Int32.reduceLE, Int32.reduceToNatClampNeg, Nat.reduceMod, Nat.reduceLT, List.length_cons, List.length_nil, eq_self, true_or, or_true, and_self, implies_true, not_true_eq_false, not_false_eq_true, false_implies, true_implies, forall_const, st_aloadx, st_goto_wx, st_iconstx, st_if_icmpx, st_iloadx, st_in2, st_ireturnx, st_istorex, am_put, am_nlg, kb_Model_letter_0, oo_82, jx_Model_letter_16, kb_Model_letter_16, oa_82, oI_n]
    exact K F Pm.rf
  | some s =>
    rw [hs] at K
    dsimp only at K
    obtain ⟨s12, hm⟩ := slD_ok hD hs
    simp only [ax0, ex_cons, am_get, upz_at, true_and, and_true, Nat.reduceAdd, Nat.reduceLeDiff, Nat.reduceEqDiff, Nat.reduceSub, Int32.reduceOfInt, Int32.reduceAdd, Int32.reduceMul, Int32.reduceSub, ↓reduceIte, Int32.reduceLT, Int32.reduceLE, Int32.reduceToNatClampNeg, Nat.reduceMod, Nat.reduceLT, List.length_cons, List.length_nil, eq_self, true_or, or_true, and_self, implies_true, not_true_eq_false, not_false_eq_true, false_implies, true_implies, forall_const, st_aloadx, st_goto_wx, st_iconstx, st_if_icmpx, st_iloadx, st_in2, st_ireturnx, st_istorex, am_put, am_nlg, kb_Model_letter_0, oo_82, jx_Model_letter_16, kb_Model_letter_16, oa_82, oI_s, nI_neg1 (show s < 2147483648 by omega)]
    refine And.intro (fun q => ?_) (fun q => ?_)
    · rw [if_neg (Int32.not_lt.mpr q)] at K
      simp only [ax0, ex_cons, am_get, upz_at, true_and, and_true, Nat.reduceAdd, Nat.reduceLeDiff, Nat.reduceEqDiff, Nat.reduceSub, Int32.reduceOfInt, Int32.reduceAdd, Int32.reduceMul, Int32.reduceSub, ↓reduceIte, Int32.reduceLT, Int32.reduceLE, Int32.reduceToNatClampNeg, Nat.reduceMod, Nat.reduceLT, List.length_cons, List.length_nil, eq_self, true_or, or_true, and_self, implies_true, not_true_eq_false, not_false_eq_true, false_implies, true_implies, forall_const, st_aloadx, st_getfieldx, st_gotox, st_iconstx, st_if_icmpx, st_iloadx, st_in2, jx_Model_letter_18, kb_Model_letter_18, oo_82, og_82_27, oa_82]
      refine m_writesAll (s := s) (by omega) hm.1 hm.2.1 wd (fun F1 w1 p1 => ?_)
      have K := K F1 p1.pm
      simp only [ax0, ex_cons, am_get, upz_at, true_and, and_true, Nat.reduceAdd, Nat.reduceLeDiff, Nat.reduceEqDiff, Nat.reduceSub, Int32.reduceOfInt, Int32.reduceAdd, Int32.reduceMul, Int32.reduceSub, ↓reduceIte, Int32.reduceLT, Int32.reduceLE, Int32.reduceToNatClampNeg, Nat.reduceMod, Nat.reduceLT, List.length_cons, List.length_nil, eq_self, true_or, or_true, and_self, implies_true, not_true_eq_false, not_false_eq_true, false_implies, true_implies, forall_const, st_aloadx, st_baloadx, st_getfieldx, st_gotox, st_goto_wx, st_iconstx, st_if_icmpx, st_iloadx, st_in2, st_ireturnx, jx_Model_letter_18, kb_Model_letter_18, oo_82, og_82_27, jx_Model_letter_35, kb_Model_letter_35, og_82_25, jx_Model_letter_52, kb_Model_letter_52, jx_Model_letter_53, kb_Model_letter_53, oa_82, oa_95, or_95, w1.1]
      refine And.intro (fun q2 => ?_) (fun q2 => ?_)
      · rw [if_neg q2] at K
        have p1 : ¬ i < 0 := by
          intro z
          have e1 : (-1 : Int32).toInt = -1 := by decide
          rw [Int32.lt_iff_toInt_lt, Int32.toInt_zero] at z
          rw [Int32.le_iff_toInt_le, e1] at q
          apply q2
          rw [← Int32.toInt_inj, e1]
          omega
        obtain ⟨e1, e2⟩ := nk_of p1
        generalize i.toNatClampNeg = k at *
        subst e1
        have hl : (txR (D.2.1 s)).length ≤ 1200 := by
          have h5 := tx5_len hm.1
          obtain ⟨w1, w2, w3, w4, w5⟩ := hm.1
          have h6 := txT_len (D.2.1 s).2.2.2.2 (gdR (D.2.1 s) && bgT (D.2.1 s).2.2.2.2) (tx5 (D.2.1 s)) w3.1
          have h7 : (if gdR (D.2.1 s) && bgT (D.2.1 s).2.2.2.2 && !isBin (D.2.1 s).2.2.2.2 then 3 else 0) ≤ 3 := by split <;> omega
          have h8 := w3.2
          have h9 : (rC2 (D.2.1 s)).length = (cdT (D.2.1 s).2.2.2.2).length := rfl
          unfold txR
          omega
        have hlt : (nI k < nI (txR (D.2.1 s)).length) = (k < (txR (D.2.1 s)).length) := nk_lt e2 (by omega)
        simp only [(nk_le (by omega) (by omega) : (nI ((txR (D.2.1 s)).length) ≤ nI (k)) = ((txR (D.2.1 s)).length ≤ k))]
        refine And.intro (fun q3 => ?_) (fun q3 => ?_)
        · rw [if_neg (by rw [hlt]; omega)] at K
          exact K
        · have q3 : k < (txR (D.2.1 s)).length := by omega
          rw [if_pos (by rw [hlt]; exact q3)] at K
          simp only [ax0, ex_cons, am_get, upz_at, true_and, and_true, Nat.reduceAdd, Nat.reduceLeDiff, Nat.reduceEqDiff, Nat.reduceSub, Int32.reduceOfInt, Int32.reduceAdd, Int32.reduceMul, Int32.reduceSub, ↓reduceIte, Int32.reduceLT, Int32.reduceLE, Int32.reduceToNatClampNeg, Nat.reduceMod, Nat.reduceLT, List.length_cons, List.length_nil, eq_self, true_or, or_true, and_self, implies_true, not_true_eq_false, not_false_eq_true, false_implies, true_implies, forall_const, st_aloadx, st_baloadx, st_getfieldx, st_gotox, st_if_icmpx, st_iloadx, st_ireturnx, jx_Model_letter_35, kb_Model_letter_35, og_82_27, og_82_25, jx_Model_letter_53, kb_Model_letter_53, oa_82, oa_95, or_95, nk_neg (show k < 2147483648 by omega), nk_cl (show k < 2147483648 by omega), show k < 1200 by omega, w1.2.1 k q3]
          exact K
      · rw [if_pos (Classical.not_not.mp q2)] at K
        exact K
    · rw [if_pos (Int32.not_le.mp q)] at K
      exact K F Pm.rf
end MLU
