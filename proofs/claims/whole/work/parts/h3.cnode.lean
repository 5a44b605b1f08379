/-! ===== the class: terms are written ===== -/
def ntx : Nat → List Nat → List Nat
  | 0, l => l
  | k + 1, l => pwd 8 (ntx k l)
theorem ntx_S : ∀ k l, ntx (k + 1) l = ntx k (pwd 8 l)
  | 0, _ => rfl
  | k + 1, l => by
    show pwd 8 (ntx (k + 1) l) = pwd 8 (ntx k (pwd 8 l))
    rw [ntx_S k l]
theorem tx_ng {t : eT} : ∀ k l, txT (ngT (k + 1) t) false l = txT t (isBin t) (ntx (k + 1) l)
  | 0, l => rfl
  | k + 1, l => by
    rw [ntx_S (k + 1) l]
    have := tx_ng (t := t) k (pwd 8 l)
    exact this
theorem tx_true {t : eT} (h : wfT t) (l : List Nat) : txT t true l = txT t false (blk l ++ [40]) ++ [41] := by
  cases t with
  | var i => rfl
  | neg a => rfl
  | sub a b => rfl
  | add a b => rfl
  | num _ => exact h.elim
  | mulL _ _ => exact h.elim
  | mulR _ _ => exact h.elim
theorem pwd_ge (w : Nat) (l : List Nat) : l.length ≤ (pwd w l).length := by
  unfold pwd
  rw [List.length_append]
  have := (blk_len l).2
  omega
theorem opB_ge (br : Bool) (l : List Nat) : l.length ≤ (opB br l).length := by
  unfold opB
  cases br
  · exact Nat.le_refl _
  · have := (blk_len l).2
    simp
    omega
theorem clB_ge (br : Bool) (l : List Nat) : l.length ≤ (clB br l).length := by rw [clB_len]; omega
theorem ntx_ge : ∀ k l, l.length ≤ (ntx k l).length
  | 0, _ => Nat.le_refl _
  | k + 1, l => Nat.le_trans (ntx_ge k l) (pwd_ge 8 _)
theorem tx_ge (t : eT) : ∀ br l, l.length ≤ (txT t br l).length := by
  induction t with
  | var i => intro br l; exact Nat.le_trans (opB_ge br l) (Nat.le_trans (pwd_ge _ _) (clB_ge br _))
  | neg a ih => intro br l; exact Nat.le_trans (opB_ge br l) (Nat.le_trans (pwd_ge 8 _) (Nat.le_trans (ih _ _) (clB_ge br _)))
  | sub a b iha ihb => intro br l; exact Nat.le_trans (opB_ge br l) (Nat.le_trans (iha _ _) (Nat.le_trans (pwd_ge 12 _) (Nat.le_trans (pwd_ge 7 _) (Nat.le_trans (ihb _ _) (clB_ge br _)))))
  | add a b iha ihb => intro br l; exact Nat.le_trans (opB_ge br l) (Nat.le_trans (iha _ _) (Nat.le_trans (pwd_ge 11 _) (Nat.le_trans (ihb _ _) (clB_ge br _))))
  | num _ => intro br l; exact Nat.le_refl _
  | mulL _ _ _ => intro br l; exact Nat.le_refl _
  | mulR _ _ _ => intro br l; exact Nat.le_refl _
theorem ng_neg {a : eT} : ∀ k, ngT k (.neg a) = ngT (k + 1) a
  | 0 => rfl
  | k + 1 => by
    show Int.Internal.Linear.Expr.neg (ngT k (.neg a)) = Int.Internal.Linear.Expr.neg (ngT (k + 1) a)
    rw [ng_neg k]
/-- whether brackets stand around -/
def brT (k : Nat) (t : eT) (ow ww : Bool) : Bool := decide (k = 0) && ((isAdd t && ow) || (isBin t && !isAdd t && ww))
/-- the text of a body behind its nots -/
theorem tx_body {t : eT} (hb : isBin t = true) (k : Nat) (ow ww : Bool) (l : List Nat) : txT (ngT k t) (brT k t ow ww) l = txT t (decide (0 < k) || (if isAdd t then ow else ww)) (ntx k l) := by
  cases k with
  | zero =>
    have : brT 0 t ow ww = (decide (0 < 0) || (if isAdd t then ow else ww)) := by
      unfold brT
      rw [hb]
      cases isAdd t <;> simp
    rw [this]
    rfl
  | succ k =>
    have : brT (k + 1) t ow ww = false := by unfold brT; rw [decide_eq_false (by omega)]; rfl
    rw [this, tx_ng, hb, decide_eq_true (by omega)]
    rfl
section CPN
variable {h : am_H} {J : Nat → Nat → Int64} {V : Nat → Nat → Value}
def PN (h : am_H) (J : Nat → Nat → Int64) (V : Nat → Nat → Value) (t : eT) : Prop := ∀ (k i dp cnt N : Nat) (ow ww : Bool) (l : List Nat) (F : Nat → Nat → Int32) (Q : am_Q), wfT t → 4 * k + wsT t ≤ 1000 → TN F t k i → i < cnt → F 26 5 = nI cnt → cnt ≤ 48 → dp + i ≤ 47 → i + 4 ≤ N → WX F l → (txT (ngT k t) (brT k t ow ww) l).length ≤ 512 → (∀ F', Wf F F' → WX F' (txT (ngT k t) (brT k t ow ww) l) → Q none (ov h F' J V)) → am_cl N 173 [.ref 32, .ref 26, .int (nI i), .int (b2i ow), .int (b2i ww), .int (nI dp)] (ov h F J V) Q
set_option maxRecDepth 20000 in
theorem c_nots {d : Nat} {F : Nat → Nat → Int32} {Q : am_Q} (hs : HS h) {k i dp : Nat} {ow ww : Bool} {l : List Nat} (hk : k < 1000) (hl : (ntx k l).length ≤ 512) {v8 v9 : Value} (K : ∀ F', Wf F F' → WX F' (ntx k l) → am_W kc_Writer_putNode (am_cl (d + 3)) Q 46 [.ref 32, .ref 26, .int (nI i), .int (b2i ow), .int (b2i ww), .int (nI dp), .int (nI k), .int (nI k), v8, v9] [] (ov h F' J V)) : ∀ j m F1, m + j = k → Wf F F1 → WX F1 (ntx m l) → am_W kc_Writer_putNode (am_cl (d + 3)) Q 27 [.ref 32, .ref 26, .int (nI i), .int (b2i ow), .int (b2i ww), .int (nI dp), .int (nI k), .int (nI m), v8, v9] [] (ov h F1 J V) := by
  have mono : ∀ a b, a ≤ b → (ntx a l).length ≤ (ntx b l).length := fun a b hab => by
    obtain ⟨c, rfl⟩ : ∃ c, b = a + c := ⟨b - a, by omega⟩
    clear hab
    induction c with
    | zero => exact Nat.le_refl _
    | succ c ih => exact Nat.le_trans ih (pwd_ge 8 _)
  intro j
  induction j with
  | zero =>
    intro m F1 em f1 W1
    have em : m = k := em
    subst em
    rw [jx_Writer_putNode_27]
    simp only [isO_c, ax0, ex_cons, am_get, upz_at, true_and, and_true, Nat.reduceAdd, Nat.reduceLeDiff, Nat.reduceEqDiff, Nat.reduceSub, Int32.reduceOfInt, Int32.reduceAdd, Int32.reduceMul, Int32.reduceSub, ↓reduceIte, Int32.reduceLT, Int32.reduceLE, Int32.reduceToNatClampNeg, Nat.reduceMod, Nat.reduceLT, List.length_cons, List.length_nil, eq_self, true_or, or_true, and_self, implies_true, not_true_eq_false, not_false_eq_true, false_implies, true_implies, forall_const, st_aloadx, st_gotox, st_if_icmpx, st_iincx, st_iloadx, st_in2, st_ldcx, am_put, am_nlg, kb_Writer_putNode_27, oo_32, oa_32, (nk_le (by omega) (by omega) : (nI (m) ≤ nI (m)) = (m ≤ m)), Nat.le_refl]
    exact K F1 f1 W1
  | succ j ih =>
    intro m F1 em f1 W1
    have := mono (m + 1) k (by omega)
    rw [jx_Writer_putNode_27]
    simp only [isO_c, ax0, ex_cons, am_get, upz_at, true_and, and_true, Nat.reduceAdd, Nat.reduceLeDiff, Nat.reduceEqDiff, Nat.reduceSub, Int32.reduceOfInt, Int32.reduceAdd, Int32.reduceMul, Int32.reduceSub, ↓reduceIte, Int32.reduceLT, Int32.reduceLE, Int32.reduceToNatClampNeg, Nat.reduceMod, Nat.reduceLT, List.length_cons, List.length_nil, eq_self, true_or, or_true, and_self, implies_true, not_true_eq_false, not_false_eq_true, false_implies, true_implies, forall_const, st_aloadx, st_gotox, st_if_icmpx, st_iincx, st_iloadx, st_in2, st_ldcx, am_put, am_nlg, kb_Writer_putNode_27, oo_32, oa_32, (nk_le (by omega) (by omega) : (nI (k) ≤ nI (m)) = (k ≤ m)), show ¬ k ≤ m by omega]
    refine c_putWord (a := 14) hs (by decide) (by decide) W1 (by rw [sgA_pwd (by decide) (by decide) (by decide)]; exact Nat.le_trans this hl) (fun F2 f2 W2 => ?_)
    rw [sgA_pwd (by decide) (by decide) (by decide)] at W2
    simp only [isO_c, ax0, ex_cons, am_get, upz_at, true_and, and_true, Nat.reduceAdd, Nat.reduceLeDiff, Nat.reduceEqDiff, Nat.reduceSub, Int32.reduceOfInt, Int32.reduceAdd, Int32.reduceMul, Int32.reduceSub, ↓reduceIte, Int32.reduceLT, Int32.reduceLE, Int32.reduceToNatClampNeg, Nat.reduceMod, Nat.reduceLT, List.length_cons, List.length_nil, eq_self, true_or, or_true, and_self, implies_true, not_true_eq_false, not_false_eq_true, false_implies, true_implies, forall_const, st_aloadx, st_gotox, st_if_icmpx, st_iincx, st_iloadx, st_in2, st_ldcx, am_put, am_nlg, kb_Writer_putNode_27, oo_32, oa_32, nk_succ]
    exact ih (m + 1) F2 (by omega) (f1.tr f2) W2
set_option maxRecDepth 20000 in
theorem c_var (hs : HS h) (j : Nat) : PN h J V (.var j) := by
  intro k i dp cnt N ow ww l F Q hw hk hT hi h5 hc hdp hN hW hl K
  have hw : j < 8 := hw
  have hk : 4 * k + 2 ≤ 1000 := hk
  obtain ⟨t1, t2, t3⟩ := hT
  obtain ⟨M, rfl⟩ : ∃ M, N = M + 4 := ⟨N - 4, by omega⟩
  have e1 : brT k (.var j) ow ww = false := by unfold brT; simp [isAdd, isBin]
  have e2 : txT (ngT k (.var j)) false l = pwd (13 + j) (ntx k l) := by
    cases k with
    | zero => rfl
    | succ k => rw [tx_ng]; rfl
  rw [e1, e2] at hl K
  have e3 : pwd (13 + j) (ntx k l) = blk (ntx k l) ++ [97 + j] := by
    unfold pwd
    rw [show wdS (13 + j) = [97 + j] from (by decide +kernel : ∀ j : Fin 8, wdS (13 + j.val) = [97 + j.val]) ⟨j, hw⟩]
  rw [e3] at hl K
  have hl2 := hl
  rw [List.length_append] at hl2
  have hl2 : (blk (ntx k l)).length + 1 ≤ 512 := hl2
  have bl := (blk_len (ntx k l)).2
  simp only [isO_c, ax0, ex_cons, am_get, upz_at, true_and, and_true, Nat.reduceAdd, Nat.reduceLeDiff, Nat.reduceEqDiff, Nat.reduceSub, Int32.reduceOfInt, Int32.reduceAdd, Int32.reduceMul, Int32.reduceSub, ↓reduceIte, Int32.reduceLT, Int32.reduceLE, Int32.reduceToNatClampNeg, Nat.reduceMod, Nat.reduceLT, List.length_cons, List.length_nil, eq_self, true_or, or_true, and_self, implies_true, not_true_eq_false, not_false_eq_true, false_implies, true_implies, forall_const, st_aloadx, st_goto_wx, st_iconstx, st_ifCondx, st_if_icmpx, st_iloadx, st_in2, kb_Writer_putNode_0, oo_26, oa_26, cx_Writer_putNode]
  refine c_hasNodeN h5 hi hc ?_
  simp only [isO_c, ax0, ex_cons, am_get, upz_at, true_and, and_true, Nat.reduceAdd, Nat.reduceLeDiff, Nat.reduceEqDiff, Nat.reduceSub, Int32.reduceOfInt, Int32.reduceAdd, Int32.reduceMul, Int32.reduceSub, ↓reduceIte, Int32.reduceLT, Int32.reduceLE, Int32.reduceToNatClampNeg, Nat.reduceMod, Nat.reduceLT, List.length_cons, List.length_nil, eq_self, true_or, or_true, and_self, implies_true, not_true_eq_false, not_false_eq_true, false_implies, true_implies, forall_const, st_aloadx, st_getfieldx, st_goto_wx, st_ialoadx, st_iconstx, st_ifCondx, st_if_icmpx, st_iloadx, st_in2, st_istorex, am_put, am_nlg, kb_Writer_putNode_0, oo_26, jx_Writer_putNode_16, kb_Writer_putNode_16, og_26_3, oa_26, oa_30, or_30, show (nI dp ≤ (48 : Int32)) = (dp ≤ 48) from nk_le (b := 48) (by omega) (by decide), show dp ≤ 48 by omega, nk_neg (show i < 2147483648 by omega), nk_cl (show i < 2147483648 by omega), show i < 48 by omega, t3]
  refine c_nots hs (k := k) (l := l) (by omega) (by omega) (fun F1 f1 W1 => ?_) k 0 F (by omega) Wf.rf hW
  have g1 : F1 27 i = nI j := by rw [f1 27 (by decide) (by decide)]; exact t1
  simp only [isO_c, ax0, ex_cons, am_get, upz_at, true_and, and_true, Nat.reduceAdd, Nat.reduceLeDiff, Nat.reduceEqDiff, Nat.reduceSub, Int32.reduceOfInt, Int32.reduceAdd, Int32.reduceMul, Int32.reduceSub, ↓reduceIte, Int32.reduceLT, Int32.reduceLE, Int32.reduceToNatClampNeg, Nat.reduceMod, Nat.reduceLT, List.length_cons, List.length_nil, eq_self, true_or, or_true, and_self, implies_true, not_true_eq_false, not_false_eq_true, false_implies, true_implies, forall_const, st_aloadx, st_getfieldx, st_i2cx, st_iaddx, st_ialoadx, st_iconstx, st_if_icmpx, st_iloadx, st_in1, st_in2, st_istorex, st_return_x, am_put, am_nlg, jx_Writer_putNode_46, kb_Writer_putNode_46, og_26_0, oo_32, oa_26, oa_32, oa_27, or_27, nk_neg (show i < 2147483648 by omega), nk_cl (show i < 2147483648 by omega), show i < 48 by omega, g1, show ((8 : Int32) ≤ nI (j)) = (8 ≤ j) from nk_le (a := 8) (b := j) (by omega) (by omega), show ¬ 8 ≤ j by omega]
  refine c_putBlank W1 (by omega) (fun F2 f2 W2 => ?_)
  simp only [isO_c, ax0, ex_cons, am_get, upz_at, true_and, and_true, Nat.reduceAdd, Nat.reduceLeDiff, Nat.reduceEqDiff, Nat.reduceSub, Int32.reduceOfInt, Int32.reduceAdd, Int32.reduceMul, Int32.reduceSub, ↓reduceIte, Int32.reduceLT, Int32.reduceLE, Int32.reduceToNatClampNeg, Nat.reduceMod, Nat.reduceLT, List.length_cons, List.length_nil, eq_self, true_or, or_true, and_self, implies_true, not_true_eq_false, not_false_eq_true, false_implies, true_implies, forall_const, st_aloadx, st_getfieldx, st_i2cx, st_iaddx, st_ialoadx, st_iconstx, st_if_icmpx, st_iloadx, st_in1, st_in2, st_istorex, st_return_x, am_put, am_nlg, jx_Writer_putNode_46, kb_Writer_putNode_46, og_26_0, oo_32, oa_26, oa_32, oa_27, or_27, show (97 : Int32) + nI j = nI (97 + j) from nk_add 97 j, i2c_nI (show 97 + j < 128 by omega)]
  refine c_putSign W2 (by omega) (show 97 + j < 128 by omega) (fun F3 f3 W3 => ?_)
  simp only [isO_c, ax0, ex_cons, am_get, upz_at, true_and, and_true, Nat.reduceAdd, Nat.reduceLeDiff, Nat.reduceEqDiff, Nat.reduceSub, Int32.reduceOfInt, Int32.reduceAdd, Int32.reduceMul, Int32.reduceSub, ↓reduceIte, Int32.reduceLT, Int32.reduceLE, Int32.reduceToNatClampNeg, Nat.reduceMod, Nat.reduceLT, List.length_cons, List.length_nil, eq_self, true_or, or_true, and_self, implies_true, not_true_eq_false, not_false_eq_true, false_implies, true_implies, forall_const, st_aloadx, st_getfieldx, st_i2cx, st_iaddx, st_ialoadx, st_iconstx, st_if_icmpx, st_iloadx, st_in1, st_in2, st_istorex, st_return_x, am_put, am_nlg, jx_Writer_putNode_46, kb_Writer_putNode_46, og_26_0, oo_32, oa_26, oa_32, oa_27, or_27]
  exact K F3 ((f1.tr f2).tr f3) W3
set_option maxRecDepth 20000 in
theorem c_bin (hs : HS h) {t a b : eT} {sv : Int32} {or_ : Bool} (ht : t = (if or_ then Int.Internal.Linear.Expr.add a b else Int.Internal.Linear.Expr.sub a b)) (hsv : sv = if or_ then 8 else 9) (iha : PN h J V a) (ihb : PN h J V b) : PN h J V t := by
  intro k i dp cnt N ow ww l F Q hw hk hT hi h5 hc hdp hN hW hl K
  have bt : isBin t = true := by rw [ht]; cases or_ <;> rfl
  have at_ : isAdd t = or_ := by rw [ht]; cases or_ <;> rfl
  rw [tx_body bt, at_] at hl K
  have hw2 : wfT a ∧ wfT b := by rw [ht] at hw; cases or_ <;> exact hw
  have hk2 : 4 * k + (wsT a + wsT b) ≤ 1000 := by
    rw [ht] at hk
    cases or_
    · have hk : 4 * k + (wsT a + wsT b + 8) ≤ 1000 := hk; omega
    · have hk : 4 * k + (wsT a + wsT b + 3) ≤ 1000 := hk; omega
  have hT2 : F 27 i = sv ∧ F 30 i = nI k ∧ ∃ l r, l < i ∧ r < i ∧ F 28 i = nI l ∧ F 29 i = nI r ∧ TN F a 0 l ∧ TN F b 0 r := by
    rw [ht] at hT
    rw [hsv]
    cases or_ <;> exact hT
  obtain ⟨t1, t3, li, ri, t4, t5, t6, t7, t8, t9⟩ := hT2
  obtain ⟨M, rfl⟩ : ∃ M, N = M + 4 := ⟨N - 4, by omega⟩
  have etx : ∀ br l, txT t br l = clB br (txT b (if or_ then isAdd b else isBin b) ((if or_ then fun x => pwd 11 x else fun x => pwd 7 (pwd 12 x)) (txT a (if or_ then false else isAdd a) (opB br l)))) := by
    intro br l
    rw [ht]
    cases or_ <;> rfl
  generalize hbr : (decide (0 < k) || (if or_ then ow else ww)) = br at hl K
  rw [etx] at hl K
  -- lengths
  have g1 := clB_ge br (txT b (if or_ then isAdd b else isBin b) ((if or_ then fun x => pwd 11 x else fun x => pwd 7 (pwd 12 x)) (txT a (if or_ then false else isAdd a) (opB br (ntx k l)))))
  have g2 := tx_ge b (if or_ then isAdd b else isBin b) ((if or_ then fun x => pwd 11 x else fun x => pwd 7 (pwd 12 x)) (txT a (if or_ then false else isAdd a) (opB br (ntx k l))))
  have g3 : (txT a (if or_ then false else isAdd a) (opB br (ntx k l))).length ≤ ((if or_ then fun x => pwd 11 x else fun x => pwd 7 (pwd 12 x)) (txT a (if or_ then false else isAdd a) (opB br (ntx k l)))).length := by
    cases or_
    · exact Nat.le_trans (pwd_ge 12 _) (pwd_ge 7 _)
    · exact pwd_ge 11 _
  have g4 := tx_ge a (if or_ then false else isAdd a) (opB br (ntx k l))
  have g5 := opB_ge br (ntx k l)
  simp only [isO_c, ax0, ex_cons, am_get, upz_at, true_and, and_true, Nat.reduceAdd, Nat.reduceLeDiff, Nat.reduceEqDiff, Nat.reduceSub, Int32.reduceOfInt, Int32.reduceAdd, Int32.reduceMul, Int32.reduceSub, ↓reduceIte, Int32.reduceLT, Int32.reduceLE, Int32.reduceToNatClampNeg, Nat.reduceMod, Nat.reduceLT, List.length_cons, List.length_nil, eq_self, true_or, or_true, and_self, implies_true, not_true_eq_false, not_false_eq_true, false_implies, true_implies, forall_const, st_aloadx, st_goto_wx, st_iconstx, st_ifCondx, st_if_icmpx, st_iloadx, st_in2, kb_Writer_putNode_0, oo_26, oa_26, cx_Writer_putNode]
  refine c_hasNodeN h5 hi hc ?_
  simp only [isO_c, ax0, ex_cons, am_get, upz_at, true_and, and_true, Nat.reduceAdd, Nat.reduceLeDiff, Nat.reduceEqDiff, Nat.reduceSub, Int32.reduceOfInt, Int32.reduceAdd, Int32.reduceMul, Int32.reduceSub, ↓reduceIte, Int32.reduceLT, Int32.reduceLE, Int32.reduceToNatClampNeg, Nat.reduceMod, Nat.reduceLT, List.length_cons, List.length_nil, eq_self, true_or, or_true, and_self, implies_true, not_true_eq_false, not_false_eq_true, false_implies, true_implies, forall_const, st_aloadx, st_getfieldx, st_goto_wx, st_ialoadx, st_iconstx, st_ifCondx, st_if_icmpx, st_iloadx, st_in2, st_istorex, am_put, am_nlg, kb_Writer_putNode_0, oo_26, jx_Writer_putNode_16, kb_Writer_putNode_16, og_26_3, oa_26, oa_30, or_30, show (nI dp ≤ (48 : Int32)) = (dp ≤ 48) from nk_le (b := 48) (by omega) (by decide), show dp ≤ 48 by omega, nk_neg (show i < 2147483648 by omega), nk_cl (show i < 2147483648 by omega), show i < 48 by omega, t3]
  refine c_nots hs (k := k) (l := l) (by omega) (by omega) (fun F1 f1 W1 => ?_) k 0 F (by omega) Wf.rf hW
  have q27 : F1 27 i = sv := by rw [f1 27 (by decide) (by decide)]; exact t1
  have n8 : ¬ sv < 8 := by rw [hsv]; cases or_ <;> decide
  -- behind the second
  have fin : ∀ F5, Wf F F5 → WX F5 (txT b (if or_ then isAdd b else isBin b) ((if or_ then fun x => pwd 11 x else fun x => pwd 7 (pwd 12 x)) (txT a (if or_ then false else isAdd a) (opB br (ntx k l))))) → am_kk (am_ex (am_cl (M + 3)) (am_W kc_Writer_putNode (am_cl (M + 3)) Q) Q [(.iload 9, 0), (.ifCond .eq 0, 209), (.aload 0, 0), (.iconst 41, 0), (.invokeinterface 169 10, 2), (.goto_w 0, 209)]) [.ref 32, .ref 26, .int (nI i), .int (b2i ow), .int (b2i ww), .int (nI dp), .int (nI k), .int sv, .int (b2i or_), .int (b2i br)] none [] (ov h F5 J V) := by
    intro F5 f5 W5
    cases br
    · simp only [isO_c, ax0, ex_cons, am_get, upz_at, true_and, and_true, Nat.reduceAdd, Nat.reduceLeDiff, Nat.reduceEqDiff, Nat.reduceSub, Int32.reduceOfInt, Int32.reduceAdd, Int32.reduceMul, Int32.reduceSub, ↓reduceIte, Int32.reduceLT, Int32.reduceLE, Int32.reduceToNatClampNeg, Nat.reduceMod, Nat.reduceLT, List.length_cons, List.length_nil, eq_self, true_or, or_true, and_self, implies_true, not_true_eq_false, not_false_eq_true, false_implies, true_implies, forall_const, st_aloadx, st_goto_wx, st_iaddx, st_iconstx, st_ifCondx, st_iloadx, st_in2, st_in6, st_return_x, jx_Writer_putNode_191, kb_Writer_putNode_191, oo_32, jx_Writer_putNode_209, kb_Writer_putNode_209, oa_32, show b2i false = (0 : Int32) from rfl]
      exact K F5 f5 W5
    · rw [clB_len] at hl
      rw [if_pos rfl] at hl
      simp only [isO_c, ax0, ex_cons, am_get, upz_at, true_and, and_true, Nat.reduceAdd, Nat.reduceLeDiff, Nat.reduceEqDiff, Nat.reduceSub, Int32.reduceOfInt, Int32.reduceAdd, Int32.reduceMul, Int32.reduceSub, ↓reduceIte, Int32.reduceLT, Int32.reduceLE, Int32.reduceToNatClampNeg, Nat.reduceMod, Nat.reduceLT, List.length_cons, List.length_nil, eq_self, true_or, or_true, and_self, implies_true, not_true_eq_false, not_false_eq_true, false_implies, true_implies, forall_const, st_aloadx, st_goto_wx, st_iaddx, st_iconstx, st_ifCondx, st_iloadx, st_in2, st_in6, st_return_x, jx_Writer_putNode_191, kb_Writer_putNode_191, oo_32, jx_Writer_putNode_209, kb_Writer_putNode_209, oa_32, show b2i true = (1 : Int32) from rfl]
      refine c_putSign (c := 41) W5 (by omega) (by decide) (fun F6 f6 W6 => ?_)
      simp only [isO_c, ax0, ex_cons, am_get, upz_at, true_and, and_true, Nat.reduceAdd, Nat.reduceLeDiff, Nat.reduceEqDiff, Nat.reduceSub, Int32.reduceOfInt, Int32.reduceAdd, Int32.reduceMul, Int32.reduceSub, ↓reduceIte, Int32.reduceLT, Int32.reduceLE, Int32.reduceToNatClampNeg, Nat.reduceMod, Nat.reduceLT, List.length_cons, List.length_nil, eq_self, true_or, or_true, and_self, implies_true, not_true_eq_false, not_false_eq_true, false_implies, true_implies, forall_const, st_aloadx, st_goto_wx, st_iaddx, st_iconstx, st_ifCondx, st_iloadx, st_in2, st_in6, st_return_x, jx_Writer_putNode_191, kb_Writer_putNode_191, oo_32, jx_Writer_putNode_209, kb_Writer_putNode_209, oa_32]
      exact K F6 (f5.tr f6) W6
  -- the second
  have sec : ∀ F4, Wf F F4 → WX F4 ((if or_ then fun x => pwd 11 x else fun x => pwd 7 (pwd 12 x)) (txT a (if or_ then false else isAdd a) (opB br (ntx k l)))) → am_kk (am_ex (am_cl (M + 3)) (am_W kc_Writer_putNode (am_cl (M + 3)) Q) Q [(.aload 0, 0), (.aload 1, 0), (.aload 1, 0), (.getfield 9, 2), (.iload 2, 0), (.iaload, 0), (.iconst 1, 0), (.iload 8, 0), (.ifCond .ne 0, 190), (.iconst 1, 0), (.goto 0, 191)]) [.ref 32, .ref 26, .int (nI i), .int (b2i ow), .int (b2i ww), .int (nI dp), .int (nI k), .int sv, .int (b2i or_), .int (b2i br)] none [] (ov h F4 J V) := by
    intro F4 f4 W4
    have r29 : F4 29 i = nI ri := by rw [f4 29 (by decide) (by decide)]; exact t7
    have r5 : F4 26 5 = nI cnt := by rw [f4 26 (by decide) (by decide)]; exact h5
    have go := ihb 0 ri (dp + 1) cnt (M + 3) true (!or_) ((if or_ then fun x => pwd 11 x else fun x => pwd 7 (pwd 12 x)) (txT a (if or_ then false else isAdd a) (opB br (ntx k l)))) F4
    have eb : txT (ngT 0 b) (brT 0 b true (!or_)) ((if or_ then fun x => pwd 11 x else fun x => pwd 7 (pwd 12 x)) (txT a (if or_ then false else isAdd a) (opB br (ntx k l)))) = txT b (if or_ then isAdd b else isBin b) ((if or_ then fun x => pwd 11 x else fun x => pwd 7 (pwd 12 x)) (txT a (if or_ then false else isAdd a) (opB br (ntx k l)))) := by
      have : brT 0 b true (!or_) = (if or_ then isAdd b else isBin b) := by
        unfold brT
        cases or_
        · cases b <;> rfl
        · cases b <;> rfl
      rw [this]; rfl
    rw [eb] at go
    cases or_
    · simp only [isO_c, ax0, ex_cons, am_get, upz_at, true_and, and_true, Nat.reduceAdd, Nat.reduceLeDiff, Nat.reduceEqDiff, Nat.reduceSub, Int32.reduceOfInt, Int32.reduceAdd, Int32.reduceMul, Int32.reduceSub, ↓reduceIte, Int32.reduceLT, Int32.reduceLE, Int32.reduceToNatClampNeg, Nat.reduceMod, Nat.reduceLT, List.length_cons, List.length_nil, eq_self, true_or, or_true, and_self, implies_true, not_true_eq_false, not_false_eq_true, false_implies, true_implies, forall_const, st_aloadx, st_getfieldx, st_gotox, st_goto_wx, st_ialoadx, st_iconstx, st_ifCondx, st_iloadx, st_in2, jx_Writer_putNode_169, kb_Writer_putNode_169, oo_32, og_26_2, jx_Writer_putNode_190, kb_Writer_putNode_190, oa_26, oa_32, oa_29, or_29, show b2i false = (0 : Int32) from rfl, nk_neg (show i < 2147483648 by omega), nk_cl (show i < 2147483648 by omega), show i < 48 by omega, r29]
      simp only [isO_c, ax0, ex_cons, am_get, upz_at, true_and, and_true, Nat.reduceAdd, Nat.reduceLeDiff, Nat.reduceEqDiff, Nat.reduceSub, Int32.reduceOfInt, Int32.reduceAdd, Int32.reduceMul, Int32.reduceSub, ↓reduceIte, Int32.reduceLT, Int32.reduceLE, Int32.reduceToNatClampNeg, Nat.reduceMod, Nat.reduceLT, List.length_cons, List.length_nil, eq_self, true_or, or_true, and_self, implies_true, not_true_eq_false, not_false_eq_true, false_implies, true_implies, forall_const, st_aloadx, st_goto_wx, st_iaddx, st_iconstx, st_ifCondx, st_iloadx, st_in2, st_in6, jx_Writer_putNode_191, kb_Writer_putNode_191, oo_32, oa_32, nk_succ]
      exact go _ hw2.2 (by omega) (t9.wf f4) (by omega) r5 hc (by omega) (by omega) W4 (by omega) (fun F5 f5 W5 => fin F5 (f4.tr f5) W5)
    · simp only [isO_c, ax0, ex_cons, am_get, upz_at, true_and, and_true, Nat.reduceAdd, Nat.reduceLeDiff, Nat.reduceEqDiff, Nat.reduceSub, Int32.reduceOfInt, Int32.reduceAdd, Int32.reduceMul, Int32.reduceSub, ↓reduceIte, Int32.reduceLT, Int32.reduceLE, Int32.reduceToNatClampNeg, Nat.reduceMod, Nat.reduceLT, List.length_cons, List.length_nil, eq_self, true_or, or_true, and_self, implies_true, not_true_eq_false, not_false_eq_true, false_implies, true_implies, forall_const, st_aloadx, st_getfieldx, st_gotox, st_goto_wx, st_ialoadx, st_iconstx, st_ifCondx, st_iloadx, st_in2, jx_Writer_putNode_169, kb_Writer_putNode_169, oo_32, og_26_2, jx_Writer_putNode_190, kb_Writer_putNode_190, oa_26, oa_32, oa_29, or_29, show b2i true = (1 : Int32) from rfl, nk_neg (show i < 2147483648 by omega), nk_cl (show i < 2147483648 by omega), show i < 48 by omega, r29]
      simp only [isO_c, ax0, ex_cons, am_get, upz_at, true_and, and_true, Nat.reduceAdd, Nat.reduceLeDiff, Nat.reduceEqDiff, Nat.reduceSub, Int32.reduceOfInt, Int32.reduceAdd, Int32.reduceMul, Int32.reduceSub, ↓reduceIte, Int32.reduceLT, Int32.reduceLE, Int32.reduceToNatClampNeg, Nat.reduceMod, Nat.reduceLT, List.length_cons, List.length_nil, eq_self, true_or, or_true, and_self, implies_true, not_true_eq_false, not_false_eq_true, false_implies, true_implies, forall_const, st_aloadx, st_goto_wx, st_iaddx, st_iconstx, st_ifCondx, st_iloadx, st_in2, st_in6, jx_Writer_putNode_191, kb_Writer_putNode_191, oo_32, oa_32, nk_succ]
      exact go _ hw2.2 (by omega) (t9.wf f4) (by omega) r5 hc (by omega) (by omega) W4 (by omega) (fun F5 f5 W5 => fin F5 (f4.tr f5) W5)
  -- the first
  have fst : ∀ F2, Wf F F2 → WX F2 (opB br (ntx k l)) → am_W kc_Writer_putNode (am_cl (M + 3)) Q 130 [.ref 32, .ref 26, .int (nI i), .int (b2i ow), .int (b2i ww), .int (nI dp), .int (nI k), .int sv, .int (b2i or_), .int (b2i br)] [] (ov h F2 J V) := by
    intro F2 f2 W2
    have r28 : F2 28 i = nI li := by rw [f2 28 (by decide) (by decide)]; exact t6
    have r5 : F2 26 5 = nI cnt := by rw [f2 26 (by decide) (by decide)]; exact h5
    have go := iha 0 li (dp + 1) cnt (M + 3) (!or_) false (opB br (ntx k l)) F2
    have ea : txT (ngT 0 a) (brT 0 a (!or_) false) (opB br (ntx k l)) = txT a (if or_ then false else isAdd a) (opB br (ntx k l)) := by
      have : brT 0 a (!or_) false = (if or_ then false else isAdd a) := by
        unfold brT
        cases or_
        · cases a <;> rfl
        · cases a <;> rfl
      rw [this]; rfl
    rw [ea] at go
    cases or_
    · have pw : ∀ F3, Wf F2 F3 → WX F3 (txT a (if false then false else isAdd a) (opB br (ntx k l))) → _ := fun F3 f3 W3 => sec F3 (f2.tr f3)
      simp only [isO_c, ax0, ex_cons, am_get, upz_at, true_and, and_true, Nat.reduceAdd, Nat.reduceLeDiff, Nat.reduceEqDiff, Nat.reduceSub, Int32.reduceOfInt, Int32.reduceAdd, Int32.reduceMul, Int32.reduceSub, ↓reduceIte, Int32.reduceLT, Int32.reduceLE, Int32.reduceToNatClampNeg, Nat.reduceMod, Nat.reduceLT, List.length_cons, List.length_nil, eq_self, true_or, or_true, and_self, implies_true, not_true_eq_false, not_false_eq_true, false_implies, true_implies, forall_const, st_aloadx, st_getfieldx, st_gotox, st_goto_wx, st_ialoadx, st_iconstx, st_ifCondx, st_iloadx, jx_Writer_putNode_130, kb_Writer_putNode_130, og_26_1, jx_Writer_putNode_147, kb_Writer_putNode_147, oa_26, oa_28, or_28, show b2i false = (0 : Int32) from rfl, nk_neg (show i < 2147483648 by omega), nk_cl (show i < 2147483648 by omega), show i < 48 by omega, r28]
      simp only [isO_c, ax0, ex_cons, am_get, upz_at, true_and, and_true, Nat.reduceAdd, Nat.reduceLeDiff, Nat.reduceEqDiff, Nat.reduceSub, Int32.reduceOfInt, Int32.reduceAdd, Int32.reduceMul, Int32.reduceSub, ↓reduceIte, Int32.reduceLT, Int32.reduceLE, Int32.reduceToNatClampNeg, Nat.reduceMod, Nat.reduceLT, List.length_cons, List.length_nil, eq_self, true_or, or_true, and_self, implies_true, not_true_eq_false, not_false_eq_true, false_implies, true_implies, forall_const, st_aloadx, st_gotox, st_iaddx, st_iconstx, st_ifCondx, st_iloadx, st_in6, st_ldcx, jx_Writer_putNode_148, kb_Writer_putNode_148, oo_32, oa_32, nk_succ]
      refine go _ hw2.1 (by omega) (t8.wf f2) (by omega) r5 hc (by omega) (by omega) W2 (by omega) (fun F3 f3 W3 => ?_)
      simp only [isO_c, ax0, ex_cons, am_get, upz_at, true_and, and_true, Nat.reduceAdd, Nat.reduceLeDiff, Nat.reduceEqDiff, Nat.reduceSub, Int32.reduceOfInt, Int32.reduceAdd, Int32.reduceMul, Int32.reduceSub, ↓reduceIte, Int32.reduceLT, Int32.reduceLE, Int32.reduceToNatClampNeg, Nat.reduceMod, Nat.reduceLT, List.length_cons, List.length_nil, eq_self, true_or, or_true, and_self, implies_true, not_true_eq_false, not_false_eq_true, false_implies, true_implies, forall_const, st_aloadx, st_gotox, st_goto_wx, st_iaddx, st_iconstx, st_ifCondx, st_iloadx, st_in6, st_ldcx, jx_Writer_putNode_148, kb_Writer_putNode_148, oo_32, jx_Writer_putNode_167, kb_Writer_putNode_167, oa_32]
      simp only [isO_c, ax0, ex_cons, am_get, upz_at, true_and, and_true, Nat.reduceAdd, Nat.reduceLeDiff, Nat.reduceEqDiff, Nat.reduceSub, Int32.reduceOfInt, Int32.reduceAdd, Int32.reduceMul, Int32.reduceSub, ↓reduceIte, Int32.reduceLT, Int32.reduceLE, Int32.reduceToNatClampNeg, Nat.reduceMod, Nat.reduceLT, List.length_cons, List.length_nil, eq_self, true_or, or_true, and_self, implies_true, not_true_eq_false, not_false_eq_true, false_implies, true_implies, forall_const, st_aloadx, st_getfieldx, st_gotox, st_ialoadx, st_iconstx, st_ifCondx, st_iloadx, st_in2, jx_Writer_putNode_169, kb_Writer_putNode_169, oo_32, og_26_2, oa_26, oa_32, oa_29, or_29]
      refine c_putWord (a := 22) hs (by decide) (by decide) W3 (by rw [sg22]; exact Nat.le_trans g2 (Nat.le_trans g1 hl)) (fun F4 f4 W4 => ?_)
      rw [sg22] at W4
      exact sec F4 ((f2.tr f3).tr f4) W4
    · simp only [isO_c, ax0, ex_cons, am_get, upz_at, true_and, and_true, Nat.reduceAdd, Nat.reduceLeDiff, Nat.reduceEqDiff, Nat.reduceSub, Int32.reduceOfInt, Int32.reduceAdd, Int32.reduceMul, Int32.reduceSub, ↓reduceIte, Int32.reduceLT, Int32.reduceLE, Int32.reduceToNatClampNeg, Nat.reduceMod, Nat.reduceLT, List.length_cons, List.length_nil, eq_self, true_or, or_true, and_self, implies_true, not_true_eq_false, not_false_eq_true, false_implies, true_implies, forall_const, st_aloadx, st_getfieldx, st_gotox, st_goto_wx, st_ialoadx, st_iconstx, st_ifCondx, st_iloadx, jx_Writer_putNode_130, kb_Writer_putNode_130, og_26_1, jx_Writer_putNode_147, kb_Writer_putNode_147, oa_26, oa_28, or_28, show b2i true = (1 : Int32) from rfl, nk_neg (show i < 2147483648 by omega), nk_cl (show i < 2147483648 by omega), show i < 48 by omega, r28]
      simp only [isO_c, ax0, ex_cons, am_get, upz_at, true_and, and_true, Nat.reduceAdd, Nat.reduceLeDiff, Nat.reduceEqDiff, Nat.reduceSub, Int32.reduceOfInt, Int32.reduceAdd, Int32.reduceMul, Int32.reduceSub, ↓reduceIte, Int32.reduceLT, Int32.reduceLE, Int32.reduceToNatClampNeg, Nat.reduceMod, Nat.reduceLT, List.length_cons, List.length_nil, eq_self, true_or, or_true, and_self, implies_true, not_true_eq_false, not_false_eq_true, false_implies, true_implies, forall_const, st_aloadx, st_gotox, st_iaddx, st_iconstx, st_ifCondx, st_iloadx, st_in6, st_ldcx, jx_Writer_putNode_148, kb_Writer_putNode_148, oo_32, oa_32, nk_succ]
      refine go _ hw2.1 (by omega) (t8.wf f2) (by omega) r5 hc (by omega) (by omega) W2 (by omega) (fun F3 f3 W3 => ?_)
      simp only [isO_c, ax0, ex_cons, am_get, upz_at, true_and, and_true, Nat.reduceAdd, Nat.reduceLeDiff, Nat.reduceEqDiff, Nat.reduceSub, Int32.reduceOfInt, Int32.reduceAdd, Int32.reduceMul, Int32.reduceSub, ↓reduceIte, Int32.reduceLT, Int32.reduceLE, Int32.reduceToNatClampNeg, Nat.reduceMod, Nat.reduceLT, List.length_cons, List.length_nil, eq_self, true_or, or_true, and_self, implies_true, not_true_eq_false, not_false_eq_true, false_implies, true_implies, forall_const, st_aloadx, st_gotox, st_goto_wx, st_iaddx, st_iconstx, st_ifCondx, st_iloadx, st_in6, st_ldcx, jx_Writer_putNode_148, kb_Writer_putNode_148, oo_32, jx_Writer_putNode_167, kb_Writer_putNode_167, oa_32]
      simp only [isO_c, ax0, ex_cons, am_get, upz_at, true_and, and_true, Nat.reduceAdd, Nat.reduceLeDiff, Nat.reduceEqDiff, Nat.reduceSub, Int32.reduceOfInt, Int32.reduceAdd, Int32.reduceMul, Int32.reduceSub, ↓reduceIte, Int32.reduceLT, Int32.reduceLE, Int32.reduceToNatClampNeg, Nat.reduceMod, Nat.reduceLT, List.length_cons, List.length_nil, eq_self, true_or, or_true, and_self, implies_true, not_true_eq_false, not_false_eq_true, false_implies, true_implies, forall_const, st_aloadx, st_getfieldx, st_gotox, st_ialoadx, st_iconstx, st_ifCondx, st_iloadx, st_in2, jx_Writer_putNode_169, kb_Writer_putNode_169, oo_32, og_26_2, oa_26, oa_32, oa_29, or_29]
      refine c_putWord (a := 16) hs (by decide) (by decide) W3 (by rw [sgA_pwd (by decide) (by decide) (by decide)]; exact Nat.le_trans g2 (Nat.le_trans g1 hl)) (fun F4 f4 W4 => ?_)
      rw [sgA_pwd (by decide) (by decide) (by decide)] at W4
      exact sec F4 ((f2.tr f3).tr f4) W4
  -- the bracket
  have bra : am_W kc_Writer_putNode (am_cl (M + 3)) Q 117 [.ref 32, .ref 26, .int (nI i), .int (b2i ow), .int (b2i ww), .int (nI dp), .int (nI k), .int sv, .int (b2i or_), am_dum] [.int (b2i br)] (ov h F1 J V) := by
    cases br
    · simp only [isO_c, ax0, ex_cons, am_get, upz_at, true_and, and_true, Nat.reduceAdd, Nat.reduceLeDiff, Nat.reduceEqDiff, Nat.reduceSub, Int32.reduceOfInt, Int32.reduceAdd, Int32.reduceMul, Int32.reduceSub, ↓reduceIte, Int32.reduceLT, Int32.reduceLE, Int32.reduceToNatClampNeg, Nat.reduceMod, Nat.reduceLT, List.length_cons, List.length_nil, eq_self, true_or, or_true, and_self, implies_true, not_true_eq_false, not_false_eq_true, false_implies, true_implies, forall_const, st_aloadx, st_goto_wx, st_ifCondx, st_iloadx, st_in2, st_istorex, st_ldcx, am_put, am_nlg, jx_Writer_putNode_117, kb_Writer_putNode_117, oo_32, oa_32, show b2i false = (0 : Int32) from rfl]
      exact fst F1 f1 W1
    · have e40 : opB true (ntx k l) = blk (ntx k l) ++ sgA 3 := rfl
      simp only [isO_c, ax0, ex_cons, am_get, upz_at, true_and, and_true, Nat.reduceAdd, Nat.reduceLeDiff, Nat.reduceEqDiff, Nat.reduceSub, Int32.reduceOfInt, Int32.reduceAdd, Int32.reduceMul, Int32.reduceSub, ↓reduceIte, Int32.reduceLT, Int32.reduceLE, Int32.reduceToNatClampNeg, Nat.reduceMod, Nat.reduceLT, List.length_cons, List.length_nil, eq_self, true_or, or_true, and_self, implies_true, not_true_eq_false, not_false_eq_true, false_implies, true_implies, forall_const, st_aloadx, st_goto_wx, st_ifCondx, st_iloadx, st_in2, st_istorex, st_ldcx, am_put, am_nlg, jx_Writer_putNode_117, kb_Writer_putNode_117, oo_32, oa_32, show b2i true = (1 : Int32) from rfl]
      refine c_putWord (a := 3) hs (by decide) (by decide) W1 (by rw [← e40]; omega) (fun F2 f2 W2 => ?_)
      simp only [isO_c, ax0, ex_cons, am_get, upz_at, true_and, and_true, Nat.reduceAdd, Nat.reduceLeDiff, Nat.reduceEqDiff, Nat.reduceSub, Int32.reduceOfInt, Int32.reduceAdd, Int32.reduceMul, Int32.reduceSub, ↓reduceIte, Int32.reduceLT, Int32.reduceLE, Int32.reduceToNatClampNeg, Nat.reduceMod, Nat.reduceLT, List.length_cons, List.length_nil, eq_self, true_or, or_true, and_self, implies_true, not_true_eq_false, not_false_eq_true, false_implies, true_implies, forall_const, st_aloadx, st_goto_wx, st_ifCondx, st_iloadx, st_in2, st_istorex, st_ldcx, am_put, am_nlg, jx_Writer_putNode_117, kb_Writer_putNode_117, oo_32, oa_32]
      exact fst F2 (f1.tr f2) (by rw [e40]; exact W2)
  have dec : am_W kc_Writer_putNode (am_cl (M + 3)) Q 88 [.ref 32, .ref 26, .int (nI i), .int (b2i ow), .int (b2i ww), .int (nI dp), .int (nI k), .int sv, am_dum, am_dum] [.int (b2i or_)] (ov h F1 J V) := by
    simp only [isO_c, ax0, ex_cons, am_get, upz_at, true_and, and_true, Nat.reduceAdd, Nat.reduceLeDiff, Nat.reduceEqDiff, Nat.reduceSub, Int32.reduceOfInt, Int32.reduceAdd, Int32.reduceMul, Int32.reduceSub, ↓reduceIte, Int32.reduceLT, Int32.reduceLE, Int32.reduceToNatClampNeg, Nat.reduceMod, Nat.reduceLT, List.length_cons, List.length_nil, eq_self, true_or, or_true, and_self, implies_true, not_true_eq_false, not_false_eq_true, false_implies, true_implies, forall_const, st_gotox, st_goto_wx, st_iconstx, st_ifCondx, st_iloadx, st_istorex, am_put, am_nlg, jx_Writer_putNode_88, kb_Writer_putNode_88, jx_Writer_putNode_112, kb_Writer_putNode_112, jx_Writer_putNode_116, kb_Writer_putNode_116, show ((0 : Int32) < nI k) = (0 < k) from nk_lt (a := 0) (by decide) (by omega)]
    rw [← hbr] at bra
    refine ⟨fun y => ?_, fun y => ?_⟩
    · rw [decide_eq_true y, Bool.true_or] at bra; exact bra
    · rw [decide_eq_false y, Bool.false_or] at bra
      cases or_
      · simp only [isO_c, ax0, ex_cons, am_get, upz_at, true_and, and_true, Nat.reduceAdd, Nat.reduceLeDiff, Nat.reduceEqDiff, Nat.reduceSub, Int32.reduceOfInt, Int32.reduceAdd, Int32.reduceMul, Int32.reduceSub, ↓reduceIte, Int32.reduceLT, Int32.reduceLE, Int32.reduceToNatClampNeg, Nat.reduceMod, Nat.reduceLT, List.length_cons, List.length_nil, eq_self, true_or, or_true, and_self, implies_true, not_true_eq_false, not_false_eq_true, false_implies, true_implies, forall_const, st_gotox, st_goto_wx, st_iconstx, st_ifCondx, st_iloadx, jx_Writer_putNode_107, kb_Writer_putNode_107, jx_Writer_putNode_112, kb_Writer_putNode_112, jx_Writer_putNode_116, kb_Writer_putNode_116, show b2i false = (0 : Int32) from rfl]
        refine ifb (fun u => ?_) (fun u => ?_)
        · rw [if_neg Bool.false_ne_true, u] at bra; rw [u]; exact bra
        · rw [if_neg Bool.false_ne_true, u] at bra; rw [u]; exact bra
      · simp only [isO_c, ax0, ex_cons, am_get, upz_at, true_and, and_true, Nat.reduceAdd, Nat.reduceLeDiff, Nat.reduceEqDiff, Nat.reduceSub, Int32.reduceOfInt, Int32.reduceAdd, Int32.reduceMul, Int32.reduceSub, ↓reduceIte, Int32.reduceLT, Int32.reduceLE, Int32.reduceToNatClampNeg, Nat.reduceMod, Nat.reduceLT, List.length_cons, List.length_nil, eq_self, true_or, or_true, and_self, implies_true, not_true_eq_false, not_false_eq_true, false_implies, true_implies, forall_const, st_gotox, st_goto_wx, st_iconstx, jx_Writer_putNode_112, kb_Writer_putNode_112, jx_Writer_putNode_116, kb_Writer_putNode_116, show b2i true = (1 : Int32) from rfl]
        refine ifb (fun u => ?_) (fun u => ?_)
        · rw [if_pos rfl, u] at bra; rw [u]; exact bra
        · rw [if_pos rfl, u] at bra; rw [u]; exact bra
  simp only [isO_c, ax0, ex_cons, am_get, upz_at, true_and, and_true, Nat.reduceAdd, Nat.reduceLeDiff, Nat.reduceEqDiff, Nat.reduceSub, Int32.reduceOfInt, Int32.reduceAdd, Int32.reduceMul, Int32.reduceSub, ↓reduceIte, Int32.reduceLT, Int32.reduceLE, Int32.reduceToNatClampNeg, Nat.reduceMod, Nat.reduceLT, List.length_cons, List.length_nil, eq_self, true_or, or_true, and_self, implies_true, not_true_eq_false, not_false_eq_true, false_implies, true_implies, forall_const, st_aloadx, st_getfieldx, st_gotox, st_goto_wx, st_i2cx, st_iaddx, st_ialoadx, st_iconstx, st_if_icmpx, st_iloadx, st_in1, st_in2, st_istorex, st_return_x, am_put, am_nlg, jx_Writer_putNode_46, kb_Writer_putNode_46, og_26_0, oo_32, jx_Writer_putNode_76, kb_Writer_putNode_76, jx_Writer_putNode_87, kb_Writer_putNode_87, oa_26, oa_32, oa_27, or_27, nk_neg (show i < 2147483648 by omega), nk_cl (show i < 2147483648 by omega), show i < 48 by omega, q27, show (8 : Int32) ≤ sv from Int32.not_lt.mp n8]
  cases or_
  · have e9 : sv = 9 := hsv
    refine ⟨fun _ => dec, fun u => absurd (by rw [e9]; decide) u⟩
  · have e8 : sv = 8 := hsv
    refine ⟨fun u => absurd e8 u, fun _ => dec⟩
theorem c_putNode (hs : HS h) (t : eT) : PN h J V t := by
  induction t with
  | var j => exact c_var hs j
  | neg a ih =>
    intro k i dp cnt N ow ww l F Q hw hk hT hi h5 hc hdp hN hW hl K
    have hk : 4 * k + (4 + wsT a) ≤ 1000 := hk
    have e1 : brT k (.neg a) ow ww = false := by unfold brT; simp [isAdd, isBin]
    have e2 : brT (k + 1) a ow ww = false := by unfold brT; rw [decide_eq_false (by omega)]; rfl
    rw [ng_neg, e1, ← e2] at hl K
    exact ih (k + 1) i dp cnt N ow ww l F Q hw (by omega) hT hi h5 hc hdp hN hW hl K
  | add a b iha ihb => exact c_bin hs (t := .add a b) (or_ := true) rfl rfl iha ihb
  | sub a b iha ihb => exact c_bin hs (t := .sub a b) (or_ := false) rfl rfl iha ihb
  | num _ => intro k i dp cnt N ow ww l F Q hw; exact hw.elim
  | mulL _ _ _ => intro k i dp cnt N ow ww l F Q hw; exact hw.elim
  | mulR _ _ _ => intro k i dp cnt N ow ww l F Q hw; exact hw.elim
end CPN
