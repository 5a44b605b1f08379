/-! ===== the model: reads, slip, question ===== -/
def rdT (t : Nat → Int32) (n : Nat) : Nat ⊕ rT := match psE (cdL (tkA t n)) (tkA t n).length with
  | .inl e => .inl (plL n (tkA t n) e)
  | .inr R => .inr R
/-- what reads leaves as it was -/
def Pn (F F' : Nat → Nat → Int32) : Prop := (∀ a, a < 82 → F' a = F a) ∧ (∀ a, a = 83 ∨ a = 85 ∨ a = 86 ∨ a = 87 ∨ a = 88 ∨ a = 107 → F' a = F a) ∧ ∀ i, i = 0 ∨ i = 43 ∨ i = 44 ∨ i = 45 → F' 82 i = F 82 i
theorem Pn.tr {F F1 F2 : Nat → Nat → Int32} (a : Pn F F1) (b : Pn F1 F2) : Pn F F2 := ⟨fun i hi => (b.1 i hi).trans (a.1 i hi), fun i hi => (b.2.1 i hi).trans (a.2.1 i hi), fun i hi => (b.2.2 i hi).trans (a.2.2 i hi)⟩
theorem Ps.pn {F F' : Nat → Nat → Int32} (p : Ps F F') : Pn F F' := ⟨fun a ha => p.1 a (by omega) (by omega) (by omega) (by omega), fun a ha => p.1 a (by omega) (by omega) (by omega) (by omega), fun i hi => p.2 i (by omega)⟩
theorem Pg.pn {F F' : Nat → Nat → Int32} (p : Pg F F') : Pn F F' := ⟨fun a ha => p.1 a (by omega) (by omega), fun a ha => p.1 a (by omega) (by omega), fun i hi => p.2 i (by omega) (by omega) (by omega)⟩
theorem pn_82 {F : Nat → Nat → Int32} {g : Nat → Int32} (h : ∀ i, i = 0 ∨ i = 43 ∨ i = 44 ∨ i = 45 → g i = F 82 i) : Pn F (upz F 82 g) := ⟨fun a ha => upz_ne _ _ (by omega), fun a ha => upz_ne _ _ (by omega), fun i hi => by rw [upz_eq]; exact h i hi⟩
theorem pn_84 {F : Nat → Nat → Int32} {g : Nat → Int32} : Pn F (upz F 84 g) := ⟨fun a ha => upz_ne _ _ (by omega), fun a ha => upz_ne _ _ (by omega), fun i hi => by rw [upz_ne _ _ (by decide)]⟩
theorem pn_94 {F : Nat → Nat → Int32} {g : Nat → Int32} : Pn F (upz F 94 g) := ⟨fun a ha => upz_ne _ _ (by omega), fun a ha => upz_ne _ _ (by omega), fun i hi => by rw [upz_ne _ _ (by decide)]⟩
def Rd2 (F F' : Nat → Nat → Int32) (s : Nat) : Nat ⊕ rT → Prop
  | .inl e => F' 82 9 = nI e ∧ F' 84 = F 84
  | .inr R => F' 82 9 = -1 ∧ mR (F' 84) s R ∧ ∀ i, ¬ (183 * s ≤ i ∧ i < 183 * s + 183) → F' 84 i = F 84 i
def isR (z : Nat ⊕ rT) : Bool := match z with
  | .inl _ => false
  | .inr _ => true
section MRX
variable {d : Nat} {h : am_H} {F : Nat → Nat → Int32} {J : Nat → Nat → Int64} {V : Nat → Nat → Value} {Q : am_Q}
set_option maxRecDepth 20000 in
theorem m_rowIn {s : Nat} (hs : s < 13) {R : rT} (hR : wfR R) {c k : Nat} (hl : LV F k c (rC1 R ++ rC2 R)) (h20 : F 82 20 = nI R.1) (h21 : F 82 21 = b2i R.2.1) (h22 : F 82 22 = (if R.1 = 10 then nI R.2.2.1 else -1)) (h23 : F 82 23 = nI (rC1 R).length) (K : ∀ F', (∀ a, a ≠ 84 → a ≠ 94 → F' a = F a) → mR (F' 84) s R → (∀ i, ¬ (183 * s ≤ i ∧ i < 183 * s + 183) → F' 84 i = F 84 i) → Q (some (.int 1)) (ov h F' J V)) : am_W kc_Model_reads (am_cl (d + 2)) Q 76 [.ref 82, .int (nI s), am_dum, am_dum] [] (ov h F J V) := by
  have hlen := hR.2.2.2.1
  have h18 := hl.2.2.1
  have hms := hl.2.2.2.2
  rw [List.length_append] at h18
  simp only [ax0, ex_cons, am_get, upz_at, true_and, and_true, Nat.reduceAdd, Nat.reduceLeDiff, Nat.reduceEqDiff, Nat.reduceSub, Int32.reduceOfInt, Int32.reduceAdd, Int32.reduceMul, Int32.reduceSub, ↓reduceIte, Int32.reduceLT, Int32.reduceLE, Int32.reduceToNatClampNeg, Nat.reduceMod, Nat.reduceLT, List.length_cons, List.length_nil, eq_self, true_or, or_true, and_self, implies_true, not_true_eq_false, not_false_eq_true, false_implies, true_implies, forall_const, st_aloadx, st_getfieldx, st_goto_wx, st_iaddx, st_iastorex, st_iconstx, st_iloadx, st_imulx, st_istorex, am_put, am_nlg, jx_Model_reads_76, kb_Model_reads_76, og_82_2, og_82_20, og_82_21, og_82_22, og_82_23, og_82_18, oa_82, oa_84, ow_84, os_84, show (183 : Int32) * nI (s) = nI (183 * (s)) from nk_mul (183) (s), show nI (183 * s) + (1 : Int32) = nI (183 * s + 1) from nk_add (183 * s) (1), show nI (183 * s) + (2 : Int32) = nI (183 * s + 2) from nk_add (183 * s) (2), show nI (183 * s) + (3 : Int32) = nI (183 * s + 3) from nk_add (183 * s) (3), show nI (183 * s) + (4 : Int32) = nI (183 * s + 4) from nk_add (183 * s) (4), nk_neg (show 183 * s < 2147483648 by omega), nk_cl (show 183 * s < 2147483648 by omega), nk_neg (show 183 * s + 1 < 2147483648 by omega), nk_cl (show 183 * s + 1 < 2147483648 by omega), nk_neg (show 183 * s + 2 < 2147483648 by omega), nk_cl (show 183 * s + 2 < 2147483648 by omega), nk_neg (show 183 * s + 3 < 2147483648 by omega), nk_cl (show 183 * s + 3 < 2147483648 by omega), nk_neg (show 183 * s + 4 < 2147483648 by omega), nk_cl (show 183 * s + 4 < 2147483648 by omega), show 183 * s < 2698 by omega, show 183 * s + 1 < 2698 by omega, show 183 * s + 2 < 2698 by omega, show 183 * s + 3 < 2698 by omega, show 183 * s + 4 < 2698 by omega, h20, h21, h22, h23, h18, upz_upd, upz_eq]
  generalize hg : upz (upz (upz (upz (upz (F 84) (183 * s) (nI R.1)) (183 * s + 1) (b2i R.2.1)) (183 * s + 2) (if R.1 = 10 then nI R.2.2.1 else -1)) (183 * s + 3) (nI (rC1 R).length)) (183 * s + 4) (nI ((rC1 R).length + (rC2 R).length)) = g
  have g0 : g (183 * s) = nI R.1 := by rw [← hg, upz_ne _ _ (by omega), upz_ne _ _ (by omega), upz_ne _ _ (by omega), upz_ne _ _ (by omega), upz_eq]
  have g1 : g (183 * s + 1) = b2i R.2.1 := by rw [← hg, upz_ne _ _ (by omega), upz_ne _ _ (by omega), upz_ne _ _ (by omega), upz_eq]
  have g2 : g (183 * s + 2) = (if R.1 = 10 then nI R.2.2.1 else -1) := by rw [← hg, upz_ne _ _ (by omega), upz_ne _ _ (by omega), upz_eq]
  have g3 : g (183 * s + 3) = nI (rC1 R).length := by rw [← hg, upz_ne _ _ (by omega), upz_eq]
  have g4 : g (183 * s + 4) = nI ((rC1 R).length + (rC2 R).length) := by rw [← hg, upz_eq]
  have g5 : ∀ i, ¬ (183 * s ≤ i ∧ i < 183 * s + 183) → g i = F 84 i := fun i hi => by rw [← hg, upz_ne _ _ (by omega), upz_ne _ _ (by omega), upz_ne _ _ (by omega), upz_ne _ _ (by omega), upz_ne _ _ (by omega)]
  clear hg
  have e0 : ov h (upz F 84 g) J V = ov h (upz F 84 (ovr g (fun j => F 93 (j - (183 * s + 5))) (183 * s + 5) 0)) J V := by rw [ovr_0]
  rw [e0]
  refine am_iter ((rC1 R).length + (rC2 R).length) (fun k => [.ref 82, .int (nI s), .int (nI (183 * s)), .int (nI k)]) (fun k => ov h (upz F 84 (ovr g (fun j => F 93 (j - (183 * s + 5))) (183 * s + 5) k)) J V) (fun _ => True) (fun k hk hI go => ?_) (fun hI => ?_) 0 (by omega) trivial
  · rw [jx_Model_reads_142]
    have go := go trivial
    have ee := ovr_S g (fun j => F 93 (j - (183 * s + 5))) (183 * s + 5) k rfl
    rw [← ee, show 183 * s + 5 + k - (183 * s + 5) = k by omega] at go
    simp only [ax0, ex_cons, am_get, upz_at, true_and, and_true, Nat.reduceAdd, Nat.reduceLeDiff, Nat.reduceEqDiff, Nat.reduceSub, Int32.reduceOfInt, Int32.reduceAdd, Int32.reduceMul, Int32.reduceSub, ↓reduceIte, Int32.reduceLT, Int32.reduceLE, Int32.reduceToNatClampNeg, Nat.reduceMod, Nat.reduceLT, List.length_cons, List.length_nil, eq_self, true_or, or_true, and_self, implies_true, not_true_eq_false, not_false_eq_true, false_implies, true_implies, forall_const, st_aloadx, st_getfieldx, st_gotox, st_iaddx, st_ialoadx, st_iastorex, st_iconstx, st_if_icmpx, st_iincx, st_iloadx, am_put, am_nlg, kb_Model_reads_142, og_82_18, og_82_2, og_82_17, oa_82, oa_84, or_84, ow_84, os_84, oa_93, or_93, ow_93, os_93, h18, (nk_le (by omega) (by omega) : (nI ((rC1 R).length + (rC2 R).length) ≤ nI (k)) = ((rC1 R).length + (rC2 R).length ≤ k)), show ¬ (rC1 R).length + (rC2 R).length ≤ k by omega, show nI (183 * s) + (5 : Int32) = nI (183 * s + 5) from nk_add (183 * s) (5), show nI (183 * s + 5) + nI k = nI (183 * s + 5 + k) from nk_add _ _, nk_neg (show 183 * s + 5 + k < 2147483648 by omega), nk_cl (show 183 * s + 5 + k < 2147483648 by omega), nk_neg (show k < 2147483648 by omega), nk_cl (show k < 2147483648 by omega), show 183 * s + 5 + k < 2698 by omega, show k < 260 by omega, upz_upd, nk_succ]
    exact go
  · rw [jx_Model_reads_142]
    simp only [ax0, ex_cons, am_get, upz_at, true_and, and_true, Nat.reduceAdd, Nat.reduceLeDiff, Nat.reduceEqDiff, Nat.reduceSub, Int32.reduceOfInt, Int32.reduceAdd, Int32.reduceMul, Int32.reduceSub, ↓reduceIte, Int32.reduceLT, Int32.reduceLE, Int32.reduceToNatClampNeg, Nat.reduceMod, Nat.reduceLT, List.length_cons, List.length_nil, eq_self, true_or, or_true, and_self, implies_true, not_true_eq_false, not_false_eq_true, false_implies, true_implies, forall_const, st_aloadx, st_freturnx, st_getfieldx, st_gotox, st_iaddx, st_ialoadx, st_iastorex, st_iconstx, st_if_icmpx, st_iincx, st_iloadx, st_in2, am_put, am_nlg, kb_Model_reads_142, og_82_18, og_82_2, og_82_17, jx_Model_reads_172, kb_Model_reads_172, oo_82, oa_82, oa_84, or_84, ow_84, os_84, oa_93, or_93, ow_93, os_93, h18, (nk_le (by omega) (by omega) : (nI ((rC1 R).length + (rC2 R).length) ≤ nI ((rC1 R).length + (rC2 R).length)) = ((rC1 R).length + (rC2 R).length ≤ (rC1 R).length + (rC2 R).length)), Nat.le_refl]
    refine m_laysSays (s := s) (by omega) hR ?_ (fun G f r1 r2 r3 => ?_)
    · rw [upz_eq]
      refine ⟨?_, ?_, ?_, ?_, ?_, fun i hi => ?_⟩
      · rw [ovr_out (by omega)]; exact g0
      · rw [ovr_out (by omega)]; exact g1
      · rw [ovr_out (by omega)]; exact g2
      · rw [ovr_out (by omega)]; exact g3
      · rw [ovr_out (by omega)]; exact g4
      · have hi2 := hi
        rw [List.length_append] at hi2
        rw [ovr_in (by omega) (by omega), show 183 * s + 5 + i - (183 * s + 5) = i by omega]
        have := hms i hi
        rw [Nat.zero_add] at this
        exact this
    · simp only [ax0, ex_cons, am_get, upz_at, true_and, and_true, Nat.reduceAdd, Nat.reduceLeDiff, Nat.reduceEqDiff, Nat.reduceSub, Int32.reduceOfInt, Int32.reduceAdd, Int32.reduceMul, Int32.reduceSub, ↓reduceIte, Int32.reduceLT, Int32.reduceLE, Int32.reduceToNatClampNeg, Nat.reduceMod, Nat.reduceLT, List.length_cons, List.length_nil, eq_self, true_or, or_true, and_self, implies_true, not_true_eq_false, not_false_eq_true, false_implies, true_implies, forall_const, st_aloadx, st_freturnx, st_iconstx, st_iloadx, st_in2, jx_Model_reads_172, kb_Model_reads_172, oo_82, oa_82]
      refine K _ (fun a q1 q2 => ?_) ?_ (fun i hi => ?_)
      · rw [upz_ne _ _ q2, upz_upd, upz_ne _ _ q1]
      · rw [upz_ne _ _ (by decide), upz_eq]; exact ⟨hR, r1, r2⟩
      · rw [upz_ne _ _ (by decide), upz_eq, r3 i (by omega), upz_eq, ovr_out (by omega)]; exact g5 i hi
set_option maxRecDepth 20000 in
theorem m_reads {n : Nat} (hn : n ≤ 400) {t : Nat → Int32} (h8 : F 82 8 = nI n) (ht : ∀ i, i < n → F 88 i = t i) (wd : WD F) {s : Nat} (hs : s < 13) (K : ∀ F', Pn F F' → F' 82 8 = 0 → Rd2 F F' s (rdT t n) → Q (some (.int (b2i (isR (rdT t n))))) (ov h F' J V)) : am_cl (d + 34) 203 [.ref 82, .int (nI s)] (ov h F J V) Q := by
  have hT := tkA_TK t hn
  have ok := psS_ok hT.2.2.1 (fun k hk => by have := (hT.2.2.2 k hk).1; omega)
  unfold rdT psE at K
  simp only [ax0, ex_cons, am_get, upz_at, true_and, and_true, Nat.reduceAdd, Nat.reduceLeDiff, Nat.reduceEqDiff, Nat.reduceSub, Int32.reduceOfInt, Int32.reduceAdd, Int32.reduceMul, Int32.reduceSub, ↓reduceIte, Int32.reduceLT, Int32.reduceLE, Int32.reduceToNatClampNeg, Nat.reduceMod, Nat.reduceLT, List.length_cons, List.length_nil, eq_self, true_or, or_true, and_self, implies_true, not_true_eq_false, not_false_eq_true, false_implies, true_implies, forall_const, st_aloadx, st_getfieldx, st_goto_wx, st_iconstx, st_ifCondx, st_if_icmpx, st_in1, st_in2, st_putfieldx, kb_Model_reads_0, og_82_8, oo_82, op_82_8, op_82_14, op_82_16, op_82_18, op_82_19, og_82_14, og_82_13, oa_82, os_82, cx_Model_reads, h8]
  refine m_splits hn ht wd (fun F1 r1 p1 => ?_)
  simp only [ax0, ex_cons, am_get, upz_at, true_and, and_true, Nat.reduceAdd, Nat.reduceLeDiff, Nat.reduceEqDiff, Nat.reduceSub, Int32.reduceOfInt, Int32.reduceAdd, Int32.reduceMul, Int32.reduceSub, ↓reduceIte, Int32.reduceLT, Int32.reduceLE, Int32.reduceToNatClampNeg, Nat.reduceMod, Nat.reduceLT, List.length_cons, List.length_nil, eq_self, true_or, or_true, and_self, implies_true, not_true_eq_false, not_false_eq_true, false_implies, true_implies, forall_const, st_aloadx, st_getfieldx, st_goto_wx, st_iconstx, st_ifCondx, st_if_icmpx, st_in1, st_in2, st_putfieldx, kb_Model_reads_0, og_82_8, oo_82, op_82_8, op_82_14, op_82_16, op_82_18, op_82_19, og_82_14, og_82_13, oa_82, os_82, upz_upd, upz_eq]
  generalize hL : tkA t n = L at *
  generalize eF : upz F1 82 _ = F2
  have l2 : LV F2 0 0 [] := by rw [← eF]; exact ⟨by rw [upz_eq]; rfl, by rw [upz_eq]; rfl, by rw [upz_eq]; rfl, by rw [upz_eq]; rfl, fun i hi => absurd hi (Nat.not_lt_zero i)⟩
  have r2 : TKr F2 n L := by rw [← eF]; exact ⟨by rw [upz_eq]; exact r1.1, fun k hk => by rw [upz_ne _ _ (by decide), upz_ne _ _ (by decide)]; exact r1.2 k hk⟩
  have p2 : Pn F F2 := by rw [← eF]; exact p1.pn.tr (pn_82 (fun i hi => by rw [upz_ne _ _ (by omega), upz_ne _ _ (by omega), upz_ne _ _ (by omega), upz_ne _ _ (by omega), upz_ne _ _ (by omega)]))
  have i8 : F2 82 8 = 0 := by rw [← eF, upz_eq]; rfl
  have i84 : F2 84 = F 84 := by rw [← eF, upz_ne _ _ (by decide), p1.1 84 (by decide) (by decide) (by decide) (by decide)]
  clear eF
  refine m_readSentence hT r2 l2 (fun F3 r3 p3 => ?_)
  have j8 : F3 82 8 = 0 := by rw [p3.2 8 (by decide) (by decide) (by decide)]; exact i8
  have j84 : F3 84 = F 84 := by rw [p3.1 84 (by decide) (by decide)]; exact i84
  have pn3 : Pn F F3 := p2.tr p3.pn
  have tk3 := r2.pg p3
  have dead : ∀ (F4 : Nat → Nat → Int32) e, DE F4 e → Pn F F4 → F4 82 8 = 0 → F4 84 = F 84 → (∀ F', Pn F F' → F' 82 8 = 0 → F' 82 9 = nI e ∧ F' 84 = F 84 → Q (some (.int 0)) (ov h F' J V)) → am_W kc_Model_reads (am_cl (d + 33)) Q 59 [.ref 82, .int (nI s), am_dum, am_dum] [] (ov h F4 J V) := by
    intro F4 e l4 p4 k8 k84 K2
    simp only [ax0, ex_cons, am_get, upz_at, true_and, and_true, Nat.reduceAdd, Nat.reduceLeDiff, Nat.reduceEqDiff, Nat.reduceSub, Int32.reduceOfInt, Int32.reduceAdd, Int32.reduceMul, Int32.reduceSub, ↓reduceIte, Int32.reduceLT, Int32.reduceLE, Int32.reduceToNatClampNeg, Nat.reduceMod, Nat.reduceLT, List.length_cons, List.length_nil, eq_self, true_or, or_true, and_self, implies_true, not_true_eq_false, not_false_eq_true, false_implies, true_implies, forall_const, st_aloadx, st_freturnx, st_getfieldx, st_iconstx, st_ifCondx, st_in1, st_putfieldx, jx_Model_reads_59, kb_Model_reads_59, og_82_16, op_82_9, oo_82, oa_82, os_82, l4.1]
    have l5 : DE (upz F4 82 (upz (F4 82) 9 (nI e))) e := ⟨by rw [upz_eq, upz_ne _ _ (by decide)]; exact l4.1, l4.2⟩
    refine m_fineD l5 ?_
    simp only [ax0, ex_cons, am_get, upz_at, true_and, and_true, Nat.reduceAdd, Nat.reduceLeDiff, Nat.reduceEqDiff, Nat.reduceSub, Int32.reduceOfInt, Int32.reduceAdd, Int32.reduceMul, Int32.reduceSub, ↓reduceIte, Int32.reduceLT, Int32.reduceLE, Int32.reduceToNatClampNeg, Nat.reduceMod, Nat.reduceLT, List.length_cons, List.length_nil, eq_self, true_or, or_true, and_self, implies_true, not_true_eq_false, not_false_eq_true, false_implies, true_implies, forall_const, st_aloadx, st_freturnx, st_getfieldx, st_iconstx, st_ifCondx, st_in1, st_putfieldx, jx_Model_reads_59, kb_Model_reads_59, og_82_16, op_82_9, oo_82, oa_82, os_82]
    exact K2 _ (p4.tr (pn_82 (fun i hi => upz_ne _ _ (by omega)))) (by rw [upz_eq, upz_ne _ _ (by decide)]; exact k8) ⟨by rw [upz_eq, upz_eq], by rw [upz_ne _ _ (by decide)]; exact k84⟩
  simp only [ax0, ex_cons, am_get, upz_at, true_and, and_true, Nat.reduceAdd, Nat.reduceLeDiff, Nat.reduceEqDiff, Nat.reduceSub, Int32.reduceOfInt, Int32.reduceAdd, Int32.reduceMul, Int32.reduceSub, ↓reduceIte, Int32.reduceLT, Int32.reduceLE, Int32.reduceToNatClampNeg, Nat.reduceMod, Nat.reduceLT, List.length_cons, List.length_nil, eq_self, true_or, or_true, and_self, implies_true, not_true_eq_false, not_false_eq_true, false_implies, true_implies, forall_const, st_aloadx, st_getfieldx, st_goto_wx, st_iconstx, st_ifCondx, st_if_icmpx, st_in1, st_in2, st_putfieldx, kb_Model_reads_0, og_82_8, oo_82, op_82_8, op_82_14, op_82_16, op_82_18, op_82_19, og_82_14, og_82_13, oa_82, os_82]
  cases e : psS (cdL L) L.length with
  | inl e1 =>
    rw [e] at r3 K
    have r3 : DE F3 (plL n L e1) := r3
    refine m_fineD r3 ?_
    simp only [ax0, ex_cons, am_get, upz_at, true_and, and_true, Nat.reduceAdd, Nat.reduceLeDiff, Nat.reduceEqDiff, Nat.reduceSub, Int32.reduceOfInt, Int32.reduceAdd, Int32.reduceMul, Int32.reduceSub, ↓reduceIte, Int32.reduceLT, Int32.reduceLE, Int32.reduceToNatClampNeg, Nat.reduceMod, Nat.reduceLT, List.length_cons, List.length_nil, eq_self, true_or, or_true, and_self, implies_true, not_true_eq_false, not_false_eq_true, false_implies, true_implies, forall_const, st_aloadx, st_getfieldx, st_goto_wx, st_iconstx, st_ifCondx, st_if_icmpx, st_in1, st_in2, st_putfieldx, kb_Model_reads_0, og_82_8, oo_82, op_82_8, op_82_14, op_82_16, op_82_18, op_82_19, og_82_14, og_82_13, oa_82, os_82]
    exact dead F3 _ r3 pn3 j8 j84 K
  | inr x =>
    rw [e] at r3 K ok
    obtain ⟨⟨c, l3⟩, f20, f21, f22, f23⟩ := r3
    obtain ⟨o1, o2, o3, o4⟩ := ok
    dsimp only at K
    refine m_fineL l3 ?_
    have hn2 := hT.2.1
    simp only [ax0, ex_cons, am_get, upz_at, true_and, and_true, Nat.reduceAdd, Nat.reduceLeDiff, Nat.reduceEqDiff, Nat.reduceSub, Int32.reduceOfInt, Int32.reduceAdd, Int32.reduceMul, Int32.reduceSub, ↓reduceIte, Int32.reduceLT, Int32.reduceLE, Int32.reduceToNatClampNeg, Nat.reduceMod, Nat.reduceLT, List.length_cons, List.length_nil, eq_self, true_or, or_true, and_self, implies_true, not_true_eq_false, not_false_eq_true, false_implies, true_implies, forall_const, st_aloadx, st_getfieldx, st_goto_wx, st_iconstx, st_ifCondx, st_if_icmpx, st_in1, st_in2, st_putfieldx, kb_Model_reads_0, og_82_8, oo_82, op_82_8, op_82_14, op_82_16, op_82_18, op_82_19, og_82_14, og_82_13, oa_82, os_82, l3.1, tk3.1, (nk_le (by omega) (by omega) : (nI (L.length) ≤ nI (x.2)) = (L.length ≤ x.2))]
    refine And.intro (fun q => ?_) (fun q => ?_)
    · rw [if_neg (by omega)] at K
      simp only [ax0, ex_cons, am_get, upz_at, true_and, and_true, Nat.reduceAdd, Nat.reduceLeDiff, Nat.reduceEqDiff, Nat.reduceSub, Int32.reduceOfInt, Int32.reduceAdd, Int32.reduceMul, Int32.reduceSub, ↓reduceIte, Int32.reduceLT, Int32.reduceLE, Int32.reduceToNatClampNeg, Nat.reduceMod, Nat.reduceLT, List.length_cons, List.length_nil, eq_self, true_or, or_true, and_self, implies_true, not_true_eq_false, not_false_eq_true, false_implies, true_implies, forall_const, st_aloadx, st_freturnx, st_getfieldx, st_iconstx, st_ifCondx, st_in1, st_putfieldx, jx_Model_reads_59, kb_Model_reads_59, og_82_16, op_82_9, oo_82, oa_82, os_82, l3.2.1]
      have l5 : LV (upz F3 82 (upz (F3 82) 9 (-1))) x.2 c (rC1 x.1 ++ rC2 x.1) := ⟨by rw [upz_eq, upz_ne _ _ (by decide)]; exact l3.1, by rw [upz_eq, upz_ne _ _ (by decide)]; exact l3.2.1, by rw [upz_eq, upz_ne _ _ (by decide)]; exact l3.2.2.1, by rw [upz_eq, upz_ne _ _ (by decide)]; exact l3.2.2.2.1, by rw [upz_ne _ _ (by decide)]; exact l3.2.2.2.2⟩
      refine m_fineL l5 ?_
      simp only [ax0, ex_cons, am_get, upz_at, true_and, and_true, Nat.reduceAdd, Nat.reduceLeDiff, Nat.reduceEqDiff, Nat.reduceSub, Int32.reduceOfInt, Int32.reduceAdd, Int32.reduceMul, Int32.reduceSub, ↓reduceIte, Int32.reduceLT, Int32.reduceLE, Int32.reduceToNatClampNeg, Nat.reduceMod, Nat.reduceLT, List.length_cons, List.length_nil, eq_self, true_or, or_true, and_self, implies_true, not_true_eq_false, not_false_eq_true, false_implies, true_implies, forall_const, st_aloadx, st_freturnx, st_getfieldx, st_iconstx, st_ifCondx, st_in1, st_putfieldx, jx_Model_reads_59, kb_Model_reads_59, og_82_16, op_82_9, oo_82, oa_82, os_82]
      refine m_rowIn hs o1 l5 (by rw [upz_eq, upz_ne _ _ (by decide)]; exact f20) (by rw [upz_eq, upz_ne _ _ (by decide)]; exact f21) (by rw [upz_eq, upz_ne _ _ (by decide)]; exact f22) (by rw [upz_eq, upz_ne _ _ (by decide)]; exact f23) (fun F5 q1 q2 q3 => ?_)
      refine K F5 (pn3.tr ⟨fun a ha => ?_, fun a ha => ?_, fun i hi => ?_⟩) ?_ ⟨?_, q2, fun i hi => ?_⟩
      · rw [q1 a (by omega) (by omega), upz_ne _ _ (by omega)]
      · rw [q1 a (by omega) (by omega), upz_ne _ _ (by omega)]
      · rw [q1 82 (by decide) (by decide), upz_eq, upz_ne _ _ (by omega)]
      · rw [q1 82 (by decide) (by decide), upz_eq, upz_ne _ _ (by decide)]; exact j8
      · rw [q1 82 (by decide) (by decide), upz_eq, upz_eq]
      · rw [q3 i hi, upz_ne _ _ (by decide), j84]
    · rw [if_pos (by omega)] at K
      refine m_faultsL hT tk3 o2 l3 (fun F4 l4 p4 => ?_)
      simp only [ax0, ex_cons, am_get, upz_at, true_and, and_true, Nat.reduceAdd, Nat.reduceLeDiff, Nat.reduceEqDiff, Nat.reduceSub, Int32.reduceOfInt, Int32.reduceAdd, Int32.reduceMul, Int32.reduceSub, ↓reduceIte, Int32.reduceLT, Int32.reduceLE, Int32.reduceToNatClampNeg, Nat.reduceMod, Nat.reduceLT, List.length_cons, List.length_nil, eq_self, true_or, or_true, and_self, implies_true, not_true_eq_false, not_false_eq_true, false_implies, true_implies, forall_const, st_aloadx, st_getfieldx, st_goto_wx, st_iconstx, st_ifCondx, st_if_icmpx, st_in1, st_in2, st_putfieldx, kb_Model_reads_0, og_82_8, oo_82, op_82_8, op_82_14, op_82_16, op_82_18, op_82_19, og_82_14, og_82_13, oa_82, os_82]
      exact dead F4 _ l4 (pn3.tr p4.pg.pn) (by rw [p4.2 8 (by decide) (by decide) (by decide) (by decide)]; exact j8) (by rw [p4.1 84 (by decide) (by decide)]; exact j84) K
end MRX
