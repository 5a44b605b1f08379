/-! ===== what is written: texts as lists of signs ===== -/
def spN (k : Nat) : Nat := (wdL.take k).count 32
def stW (w : Nat) : Nat := [0, 0, 4, 7, 12, 17, 22, 26, 30, 34, 40, 43, 46, 50, 52, 54, 56, 58, 60, 62, 64, 66, 68, 70, 72].getD w 0
def lnW (w : Nat) : Nat := [0, 3, 2, 4, 4, 4, 3, 3, 3, 5, 2, 2, 3, 1, 1, 1, 1, 1, 1, 1, 1, 1, 1, 1, 1].getD w 0
def wdS (w : Nat) : List Nat := (wdL.drop (stW w)).take (lnW w)
theorem sp_dec : ∀ w : Fin 25, 0 < w.val → stW w.val + lnW w.val < 74 ∧ 1 + spN (stW w.val) = w.val ∧ (∀ k : Fin 74, k.val < stW w.val → 1 + spN k.val < w.val) ∧ (∀ k : Fin 74, spN (k.val + 1) = spN k.val + (if wdL.getD k.val 0 = 32 then 1 else 0)) ∧ wdL.getD (stW w.val + lnW w.val) 0 = 32 ∧ (wdS w.val).length = lnW w.val ∧ (∀ k : Fin 5, k.val < lnW w.val → wdL.getD (stW w.val + k.val) 0 ≠ 32 ∧ wdL.getD (stW w.val + k.val) 0 < 128 ∧ (wdS w.val).getD k.val 0 = wdL.getD (stW w.val + k.val) 0) := by decide +kernel
theorem lnW_le (w : Nat) : lnW w ≤ 5 := by
  by_cases h : w < 25
  · exact (by decide : ∀ w : Fin 25, lnW w.val ≤ 5) ⟨w, h⟩
  · unfold lnW
    rw [List.getD_eq_getElem?_getD, List.getElem?_eq_none (by simp; omega)]
    decide
/-- a blank, where one must be -/
def blk (l : List Nat) : List Nat := if l.length = 0 ∨ l.getD (l.length - 1) 0 = 40 then l else l ++ [32]
def pwd (w : Nat) (l : List Nat) : List Nat := blk l ++ wdS w
def isBin : Int.Internal.Linear.Expr → Bool
  | .sub _ _ => true
  | .add _ _ => true
  | _ => false
def isAdd : Int.Internal.Linear.Expr → Bool
  | .add _ _ => true
  | _ => false
def opB (br : Bool) (l : List Nat) : List Nat := if br then blk l ++ [40] else l
def clB (br : Bool) (l : List Nat) : List Nat := if br then l ++ [41] else l
def txT : Int.Internal.Linear.Expr → Bool → List Nat → List Nat
  | .var i, br, l => clB br (pwd (13 + i) (opB br l))
  | .neg a, br, l => clB br (txT a (isBin a) (pwd 8 (opB br l)))
  | .sub a b, br, l => clB br (txT b (isBin b) (pwd 7 (pwd 12 (txT a (isAdd a) (opB br l)))))
  | .add a b, br, l => clB br (txT b (isAdd b) (pwd 11 (txT a false (opB br l))))
  | _, _, l => l
theorem blk_len (l : List Nat) : (blk l).length ≤ l.length + 1 ∧ l.length ≤ (blk l).length := by
  unfold blk; split <;> simp
theorem wdS_len (w : Nat) : (wdS w).length ≤ lnW w := by unfold wdS; rw [List.length_take]; exact Nat.min_le_left _ _
theorem pwd_len (w : Nat) (l : List Nat) : (pwd w l).length ≤ l.length + 1 + lnW w := by
  unfold pwd
  rw [List.length_append]
  have := blk_len l
  have := wdS_len w
  omega
theorem opB_len (br : Bool) (l : List Nat) : (opB br l).length ≤ l.length + (if br then 2 else 0) := by
  unfold opB
  cases br
  · exact Nat.le_refl _
  · have := blk_len l
    simp
    omega
theorem clB_len (br : Bool) (l : List Nat) : (clB br l).length = l.length + (if br then 1 else 0) := by
  unfold clB
  cases br
  · rfl
  · simp
theorem txT_len (t : Int.Internal.Linear.Expr) : ∀ br l, wfT t → (txT t br l).length + 7 ≤ l.length + 4 * (cdT t).length + 7 * lvT t + (if br && !isBin t then 3 else 0) := by
  induction t with
  | var i =>
    intro br l hw
    have hw : i < 8 := hw
    have h1 := pwd_len (13 + i) (opB br l)
    have h2 := opB_len br l
    have h3 : lnW (13 + i) = 1 := (by decide : ∀ i : Fin 8, lnW (13 + i.val) = 1) ⟨i, hw⟩
    show (clB br (pwd (13 + i) (opB br l))).length + 7 ≤ l.length + 4 * 1 + 7 * 1 + _
    rw [clB_len]
    cases br <;> simp [isBin] at * <;> omega
  | neg a ih =>
    intro br l hw
    have h0 := ih (isBin a) (pwd 8 (opB br l)) hw
    have h1 := pwd_len 8 (opB br l)
    have h2 := opB_len br l
    have h3 : lnW 8 = 3 := by decide
    have h7 : (if isBin a && !isBin a then 3 else 0) = 0 := by cases isBin a <;> rfl
    rw [h7] at h0
    have h8 : (cdT a ++ [8]).length = (cdT a).length + 1 := by simp
    cases br
    · show (clB false (txT a (isBin a) (pwd 8 (opB false l)))).length + 7 ≤ l.length + 4 * (cdT a ++ [8]).length + 7 * lvT a + 0
      rw [clB_len, h8, if_neg Bool.false_ne_true]
      rw [if_neg Bool.false_ne_true] at h2
      omega
    · show (clB true (txT a (isBin a) (pwd 8 (opB true l)))).length + 7 ≤ l.length + 4 * (cdT a ++ [8]).length + 7 * lvT a + 3
      rw [clB_len, h8, if_pos rfl]
      rw [if_pos rfl] at h2
      omega
  | sub a b iha ihb =>
    intro br l hw
    have h0 := iha (isAdd a) (opB br l) hw.1
    have h4 := ihb (isBin b) (pwd 7 (pwd 12 (txT a (isAdd a) (opB br l)))) hw.2
    have h1 := pwd_len 7 (pwd 12 (txT a (isAdd a) (opB br l)))
    have h5 := pwd_len 12 (txT a (isAdd a) (opB br l))
    have h2 := opB_len br l
    have h3 : lnW 7 = 3 := by decide
    have h6 : lnW 12 = 3 := by decide
    have h7 : (if isAdd a && !isBin a then 3 else 0) = 0 := by cases a <;> rfl
    have h8 : (if isBin b && !isBin b then 3 else 0) = 0 := by cases b <;> rfl
    rw [h7] at h0
    rw [h8] at h4
    have h9 : (cdT a ++ cdT b ++ [9]).length = (cdT a).length + (cdT b).length + 1 := by simp; omega
    have h10 : (if br && !isBin (.sub a b) then 3 else 0) = 0 := by cases br <;> rfl
    show (clB br (txT b (isBin b) (pwd 7 (pwd 12 (txT a (isAdd a) (opB br l)))))).length + 7 ≤ l.length + 4 * (cdT a ++ cdT b ++ [9]).length + 7 * (lvT a + lvT b) + _
    rw [clB_len, h9, h10]
    cases br
    · rw [if_neg Bool.false_ne_true]
      rw [if_neg Bool.false_ne_true] at h2
      omega
    · rw [if_pos rfl]
      rw [if_pos rfl] at h2
      omega
  | add a b iha ihb =>
    intro br l hw
    have h0 := iha false (opB br l) hw.1
    have h4 := ihb (isAdd b) (pwd 11 (txT a false (opB br l))) hw.2
    have h1 := pwd_len 11 (txT a false (opB br l))
    have h2 := opB_len br l
    have h3 : lnW 11 = 2 := by decide
    have h8 : (if isAdd b && !isBin b then 3 else 0) = 0 := by cases b <;> rfl
    have h7 : (if false && !isBin a then 3 else 0) = 0 := rfl
    rw [h7] at h0
    rw [h8] at h4
    have h9 : (cdT a ++ cdT b ++ [10]).length = (cdT a).length + (cdT b).length + 1 := by simp; omega
    have h10 : (if br && !isBin (.add a b) then 3 else 0) = 0 := by cases br <;> rfl
    show (clB br (txT b (isAdd b) (pwd 11 (txT a false (opB br l))))).length + 7 ≤ l.length + 4 * (cdT a ++ cdT b ++ [10]).length + 7 * (lvT a + lvT b) + _
    rw [clB_len, h9, h10]
    cases br
    · rw [if_neg Bool.false_ne_true]
      rw [if_neg Bool.false_ne_true] at h2
      omega
    · rw [if_pos rfl]
      rw [if_pos rfl] at h2
      omega
  | num _ => intro br l hw; exact hw.elim
  | mulL _ _ _ => intro br l hw; exact hw.elim
  | mulR _ _ _ => intro br l hw; exact hw.elim
/-- what the model has written -/
def WTx (F : Nat → Nat → Int32) (l : List Nat) : Prop := F 82 27 = nI l.length ∧ (∀ i, i < l.length → F 95 i = nI (l.getD i 0)) ∧ ∀ i, i < l.length → l.getD i 0 < 128
def Pw (F F' : Nat → Nat → Int32) : Prop := (∀ a, a ≠ 82 → a ≠ 95 → F' a = F a) ∧ ∀ i, i ≠ 27 → F' 82 i = F 82 i
theorem Pw.rf {F : Nat → Nat → Int32} : Pw F F := ⟨fun _ _ _ => rfl, fun _ _ => rfl⟩
theorem Pw.tr {F F1 F2 : Nat → Nat → Int32} (a : Pw F F1) (b : Pw F1 F2) : Pw F F2 := ⟨fun i h1 h2 => (b.1 i h1 h2).trans (a.1 i h1 h2), fun i hi => (b.2 i hi).trans (a.2 i hi)⟩
theorem gD_app {l : List Nat} {c i : Nat} : (l ++ [c]).getD i 0 = if i = l.length then c else l.getD i 0 := by
  rw [List.getD_eq_getElem?_getD, List.getD_eq_getElem?_getD]
  by_cases h : i < l.length
  · rw [List.getElem?_append_left h, if_neg (by omega)]
  · rw [List.getElem?_append_right (by omega)]
    by_cases q : i = l.length
    · subst q; simp
    · rw [if_neg q, List.getElem?_eq_none (by simp; omega), List.getElem?_eq_none (by omega)]
theorem nk_i2b {c : Nat} (h : c < 128) : (nI c).toInt8.toInt32 = nI c := (by decide : ∀ c : Fin 128, (nI c.val).toInt8.toInt32 = nI c.val) ⟨c, h⟩
theorem nk_i2c {c : Nat} (h : c < 128) : ((nI c).toUInt32 % 65536).toInt32 = nI c := (by decide +kernel : ∀ c : Fin 128, ((nI c.val).toUInt32 % 65536).toInt32 = nI c.val) ⟨c, h⟩
section MTX
variable {d : Nat} {h : am_H} {F : Nat → Nat → Int32} {J : Nat → Nat → Int64} {V : Nat → Nat → Value} {Q : am_Q}
set_option maxRecDepth 20000 in
theorem m_puts {l : List Nat} (hl : WTx F l) (hn : l.length < 1200) {c : Nat} (hc : c < 128) (K : ∀ F', WTx F' (l ++ [c]) → Pw F F' → Q none (ov h F' J V)) : am_cl (d + 1) 218 [.ref 82, .int (nI c)] (ov h F J V) Q := by
  obtain ⟨h1, h2, h3⟩ := hl
  simp only [ax0, ex_cons, am_get, upz_at, true_and, and_true, Nat.reduceAdd, Nat.reduceLeDiff, Nat.reduceEqDiff, Nat.reduceSub, Int32.reduceOfInt, Int32.reduceAdd, Int32.reduceMul, Int32.reduceSub, ↓reduceIte, Int32.reduceLT, Int32.reduceLE, Int32.reduceToNatClampNeg, Nat.reduceMod, Nat.reduceLT, List.length_cons, List.length_nil, eq_self, true_or, or_true, and_self, implies_true, not_true_eq_false, not_false_eq_true, false_implies, true_implies, forall_const, st_aloadx, st_bastorex, st_dupx, st_dup_1x, st_getfieldx, st_goto_wx, st_i2bx, st_iaddx, st_iconstx, st_if_icmpx, st_iloadx, st_putfieldx, st_return_x, cx_Model_puts, kb_Model_puts_0, og_82_27, og_82_25, jx_Model_puts_21, kb_Model_puts_21, op_82_27, oa_82, os_82, oa_95, ow_95, os_95, h1, show ((1200 : Int32) ≤ nI (l.length)) = (1200 ≤ l.length) from nk_le (a := 1200) (b := l.length) (by omega) (by omega), show ¬ 1200 ≤ l.length by omega, nk_neg (show l.length < 2147483648 by omega), nk_cl (show l.length < 2147483648 by omega), hn, nk_i2b hc, nk_succ, upz_ne F _ (show (82 : Nat) ≠ 95 by decide)]
  refine K _ ⟨?_, fun i hi => ?_, fun i hi => ?_⟩ ⟨fun a q1 q2 => by rw [upz_ne _ _ q1, upz_ne _ _ q2], fun i hi => by rw [upz_eq, upz_ne _ _ hi]⟩
  · rw [upz_eq, upz_eq, List.length_append]; rfl
  · rw [List.length_append] at hi
    have hi : i < l.length + 1 := hi
    rw [upz_ne _ _ (by decide), upz_eq, gD_app]
    by_cases q : i = l.length
    · rw [if_pos q, q, upz_eq]
    · rw [if_neg q, upz_ne _ _ q]; exact h2 i (by omega)
  · rw [List.length_append] at hi
    have hi : i < l.length + 1 := hi
    rw [gD_app]
    by_cases q : i = l.length
    · rw [if_pos q]; exact hc
    · rw [if_neg q]; exact h3 i (by omega)
set_option maxRecDepth 20000 in
theorem m_blank {l : List Nat} (hl : WTx F l) (hn : l.length < 1200) (K : ∀ F', WTx F' (blk l) → Pw F F' → Q none (ov h F' J V)) : am_cl (d + 2) 219 [.ref 82] (ov h F J V) Q := by
  have hl0 := hl
  obtain ⟨h1, h2, h3⟩ := hl
  unfold blk at K
  simp only [ax0, ex_cons, am_get, upz_at, true_and, and_true, Nat.reduceAdd, Nat.reduceLeDiff, Nat.reduceEqDiff, Nat.reduceSub, Int32.reduceOfInt, Int32.reduceAdd, Int32.reduceMul, Int32.reduceSub, ↓reduceIte, Int32.reduceLT, Int32.reduceLE, Int32.reduceToNatClampNeg, Nat.reduceMod, Nat.reduceLT, List.length_cons, List.length_nil, eq_self, true_or, or_true, and_self, implies_true, not_true_eq_false, not_false_eq_true, false_implies, true_implies, forall_const, st_aloadx, st_baloadx, st_getfieldx, st_goto_wx, st_iconstx, st_ifCondx, st_if_icmpx, st_in2, st_isubx, st_return_x, kb_Model_blank_0, og_82_27, og_82_25, oo_82, jx_Model_blank_29, kb_Model_blank_29, oa_82, oa_95, or_95, cx_Model_blank, h1, show (nI l.length ≤ (0 : Int32)) = (l.length ≤ 0) from nk_le (b := 0) (by omega) (by decide)]
  refine And.intro (fun q => ?_) (fun q => ?_)
  · rw [if_pos (Or.inl (by omega))] at K
    exact K F hl0 Pw.rf
  · have e : nI l.length - 1 = nI (l.length - 1) := nk_sub (b := 1) (by omega)
    simp only [ax0, ex_cons, am_get, upz_at, true_and, and_true, Nat.reduceAdd, Nat.reduceLeDiff, Nat.reduceEqDiff, Nat.reduceSub, Int32.reduceOfInt, Int32.reduceAdd, Int32.reduceMul, Int32.reduceSub, ↓reduceIte, Int32.reduceLT, Int32.reduceLE, Int32.reduceToNatClampNeg, Nat.reduceMod, Nat.reduceLT, List.length_cons, List.length_nil, eq_self, true_or, or_true, and_self, implies_true, not_true_eq_false, not_false_eq_true, false_implies, true_implies, forall_const, st_aloadx, st_baloadx, st_getfieldx, st_goto_wx, st_iconstx, st_ifCondx, st_if_icmpx, st_in2, st_isubx, st_return_x, kb_Model_blank_0, og_82_27, og_82_25, oo_82, jx_Model_blank_29, kb_Model_blank_29, oa_82, oa_95, or_95, e, nk_neg (show l.length - 1 < 2147483648 by omega), nk_cl (show l.length - 1 < 2147483648 by omega), show l.length - 1 < 1200 by omega, h2 (l.length - 1) (by omega), show (nI (l.getD (l.length - 1) 0) = (40 : Int32)) = (l.getD (l.length - 1) 0 = 40) from nk_eq (b := 40) (by have := h3 (l.length - 1) (by omega); omega) (by decide)]
    refine And.intro (fun q2 => ?_) (fun q2 => ?_)
    · rw [if_pos (Or.inr q2)] at K
      exact K F hl0 Pw.rf
    · rw [if_neg (fun z => z.elim (fun z => q (by omega)) q2)] at K
      refine m_puts (c := 32) hl0 hn (by decide) (fun F1 w1 p1 => ?_)
      simp only [ax0, ex_cons, am_get, upz_at, true_and, and_true, Nat.reduceAdd, Nat.reduceLeDiff, Nat.reduceEqDiff, Nat.reduceSub, Int32.reduceOfInt, Int32.reduceAdd, Int32.reduceMul, Int32.reduceSub, ↓reduceIte, Int32.reduceLT, Int32.reduceLE, Int32.reduceToNatClampNeg, Nat.reduceMod, Nat.reduceLT, List.length_cons, List.length_nil, eq_self, true_or, or_true, and_self, implies_true, not_true_eq_false, not_false_eq_true, false_implies, true_implies, forall_const, st_aloadx, st_baloadx, st_getfieldx, st_goto_wx, st_iconstx, st_ifCondx, st_if_icmpx, st_in2, st_isubx, st_return_x, kb_Model_blank_0, og_82_27, og_82_25, oo_82, jx_Model_blank_29, kb_Model_blank_29, oa_82, oa_95, or_95]
      exact K F1 w1 p1
set_option maxRecDepth 20000 in
theorem m_writesWord {l : List Nat} (hl : WTx F l) (hwd : ∀ i, i < 74 → F 87 i = nI (wdL.getD i 0)) {w : Nat} (hw0 : 0 < w) (hw : w < 25) (hn : l.length + 6 < 1200) (K : ∀ F', WTx F' (pwd w l) → Pw F F' → Q none (ov h F' J V)) : am_cl (d + 3) 220 [.ref 82, .int (nI w)] (ov h F J V) Q := by
  obtain ⟨a1, a2, a3, a4, a5, a6, a7⟩ := sp_dec ⟨w, hw⟩ hw0
  dsimp only at a1 a2 a3 a5 a6 a7
  have hln := lnW_le w
  simp only [ax0, ex_cons, am_get, upz_at, true_and, and_true, Nat.reduceAdd, Nat.reduceLeDiff, Nat.reduceEqDiff, Nat.reduceSub, Int32.reduceOfInt, Int32.reduceAdd, Int32.reduceMul, Int32.reduceSub, ↓reduceIte, Int32.reduceLT, Int32.reduceLE, Int32.reduceToNatClampNeg, Nat.reduceMod, Nat.reduceLT, List.length_cons, List.length_nil, eq_self, true_or, or_true, and_self, implies_true, not_true_eq_false, not_false_eq_true, false_implies, true_implies, forall_const, st_aloadx, st_goto_wx, st_iconstx, st_in1, st_istorex, am_put, am_nlg, kb_Model_writesWord_0, oo_82, oa_82, cx_Model_writesWord]
  refine m_blank hl (by omega) (fun F1 w1 p1 => ?_)
  have hbl := blk_len l
  have hwd1 : ∀ i, i < 74 → F1 87 i = nI (wdL.getD i 0) := fun i hi => by rw [p1.1 87 (by decide) (by decide)]; exact hwd i hi
  simp only [ax0, ex_cons, am_get, upz_at, true_and, and_true, Nat.reduceAdd, Nat.reduceLeDiff, Nat.reduceEqDiff, Nat.reduceSub, Int32.reduceOfInt, Int32.reduceAdd, Int32.reduceMul, Int32.reduceSub, ↓reduceIte, Int32.reduceLT, Int32.reduceLE, Int32.reduceToNatClampNeg, Nat.reduceMod, Nat.reduceLT, List.length_cons, List.length_nil, eq_self, true_or, or_true, and_self, implies_true, not_true_eq_false, not_false_eq_true, false_implies, true_implies, forall_const, st_aloadx, st_goto_wx, st_iconstx, st_in1, st_istorex, am_put, am_nlg, kb_Model_writesWord_0, oo_82, oa_82]
  have put : ∀ j i F2, i + j = lnW w → WTx F2 (blk l ++ (wdS w).take i) → Pw F F2 → am_W kc_Model_writesWord (am_cl (d + 2)) Q 38 [.ref 82, .int (nI w), .int (nI (stW w + i)), .int (nI w)] [] (ov h F2 J V) := by
    intro j
    induction j with
    | zero =>
      intro i F2 ei w2 p2
      have ei : i = lnW w := ei
      subst ei
      have hwd2 : F2 87 (stW w + lnW w) = 32 := by rw [p2.1 87 (by decide) (by decide), hwd _ a1, a5]; rfl
      rw [jx_Model_writesWord_38]
      simp only [ax0, ex_cons, am_get, upz_at, true_and, and_true, Nat.reduceAdd, Nat.reduceLeDiff, Nat.reduceEqDiff, Nat.reduceSub, Int32.reduceOfInt, Int32.reduceAdd, Int32.reduceMul, Int32.reduceSub, ↓reduceIte, Int32.reduceLT, Int32.reduceLE, Int32.reduceToNatClampNeg, Nat.reduceMod, Nat.reduceLT, List.length_cons, List.length_nil, eq_self, true_or, or_true, and_self, implies_true, not_true_eq_false, not_false_eq_true, false_implies, true_implies, forall_const, st_aloadx, st_baloadx, st_getfieldx, st_gotox, st_i2cx, st_iconstx, st_if_icmpx, st_iincx, st_iloadx, st_in2, st_return_x, am_put, am_nlg, kb_Model_writesWord_38, og_82_5, oo_82, jx_Model_writesWord_66, kb_Model_writesWord_66, oa_82, oa_87, or_87, nk_neg (show stW w + lnW w < 2147483648 by omega), nk_cl (show stW w + lnW w < 2147483648 by omega), a1, hwd2]
      refine K F2 ?_ p2
      unfold pwd
      rw [List.take_of_length_le (Nat.le_of_eq a6)] at w2
      exact w2
    | succ j ih =>
      intro i F2 ei w2 p2
      obtain ⟨b1, b2, b3⟩ := a7 ⟨i, by omega⟩ (by show i < lnW w; omega)
      dsimp only at b1 b2 b3
      have hwd2 : F2 87 (stW w + i) = nI (wdL.getD (stW w + i) 0) := by rw [p2.1 87 (by decide) (by decide), hwd _ (by omega)]
      generalize hc : wdL.getD (stW w + i) 0 = c at b1 b2 b3 hwd2
      rw [jx_Model_writesWord_38]
      simp only [ax0, ex_cons, am_get, upz_at, true_and, and_true, Nat.reduceAdd, Nat.reduceLeDiff, Nat.reduceEqDiff, Nat.reduceSub, Int32.reduceOfInt, Int32.reduceAdd, Int32.reduceMul, Int32.reduceSub, ↓reduceIte, Int32.reduceLT, Int32.reduceLE, Int32.reduceToNatClampNeg, Nat.reduceMod, Nat.reduceLT, List.length_cons, List.length_nil, eq_self, true_or, or_true, and_self, implies_true, not_true_eq_false, not_false_eq_true, false_implies, true_implies, forall_const, st_aloadx, st_baloadx, st_getfieldx, st_gotox, st_i2cx, st_iconstx, st_if_icmpx, st_iincx, st_iloadx, st_in2, st_return_x, am_put, am_nlg, kb_Model_writesWord_38, og_82_5, oo_82, jx_Model_writesWord_66, kb_Model_writesWord_66, oa_82, oa_87, or_87, nk_neg (show stW w + i < 2147483648 by omega), nk_cl (show stW w + i < 2147483648 by omega), show stW w + i < 74 by omega, hwd2, show (nI c = (32 : Int32)) = (c = 32) from nk_eq (b := 32) (by omega) (by decide), b1, nk_i2c b2]
      refine m_puts (c := c) w2 (by rw [List.length_append, List.length_take]; omega) b2 (fun F3 w3 p3 => ?_)
      simp only [ax0, ex_cons, am_get, upz_at, true_and, and_true, Nat.reduceAdd, Nat.reduceLeDiff, Nat.reduceEqDiff, Nat.reduceSub, Int32.reduceOfInt, Int32.reduceAdd, Int32.reduceMul, Int32.reduceSub, ↓reduceIte, Int32.reduceLT, Int32.reduceLE, Int32.reduceToNatClampNeg, Nat.reduceMod, Nat.reduceLT, List.length_cons, List.length_nil, eq_self, true_or, or_true, and_self, implies_true, not_true_eq_false, not_false_eq_true, false_implies, true_implies, forall_const, st_aloadx, st_baloadx, st_getfieldx, st_gotox, st_i2cx, st_iconstx, st_if_icmpx, st_iincx, st_iloadx, st_in2, am_put, am_nlg, kb_Model_writesWord_38, og_82_5, oo_82, oa_82, oa_87, or_87, nk_succ]
      refine ih (i + 1) F3 (by omega) ?_ (p2.tr p3)
      have e : (wdS w).take (i + 1) = (wdS w).take i ++ [c] := by
        rw [List.take_succ_eq_append_getElem (by omega)]
        congr 2
        rw [← b3, List.getD_eq_getElem?_getD, List.getElem?_eq_getElem (by omega)]
        rfl
      rw [e, ← List.append_assoc]
      exact w3
  have scan : ∀ j k, k + j = stW w → am_W kc_Model_writesWord (am_cl (d + 2)) Q 8 [.ref 82, .int (nI w), .int (nI k), .int (nI (1 + spN k))] [] (ov h F1 J V) := by
    intro j
    induction j with
    | zero =>
      intro k ek
      have ek : k = stW w := ek
      subst ek
      rw [jx_Model_writesWord_8, a2]
      simp only [ax0, ex_cons, am_get, upz_at, true_and, and_true, Nat.reduceAdd, Nat.reduceLeDiff, Nat.reduceEqDiff, Nat.reduceSub, Int32.reduceOfInt, Int32.reduceAdd, Int32.reduceMul, Int32.reduceSub, ↓reduceIte, Int32.reduceLT, Int32.reduceLE, Int32.reduceToNatClampNeg, Nat.reduceMod, Nat.reduceLT, List.length_cons, List.length_nil, eq_self, true_or, or_true, and_self, implies_true, not_true_eq_false, not_false_eq_true, false_implies, true_implies, forall_const, st_aloadx, st_baloadx, st_getfieldx, st_gotox, st_iconstx, st_if_icmpx, st_iloadx, kb_Model_writesWord_8, og_82_5, oa_82, oa_87, or_87, (nk_le (by omega) (by omega) : (nI (w) ≤ nI (w)) = (w ≤ w)), Nat.le_refl]
      exact put (lnW w) 0 F1 (by omega) (by rw [List.take_zero, List.append_nil]; exact w1) p1
    | succ j ih =>
      intro k ek
      have b1 := a3 ⟨k, by omega⟩ (by show k < stW w; omega)
      have b2 := a4 ⟨k, by omega⟩
      dsimp only at b1 b2
      have hwd2 := hwd1 k (by omega)
      have hc : wdL.getD k 0 < 2147483648 := by
        exact Nat.lt_trans ((by decide : ∀ k : Fin 74, wdL.getD k.val 0 < 128) ⟨k, by omega⟩) (by decide)
      have ih := ih (k + 1) (by omega)
      rw [b2] at ih
      rw [jx_Model_writesWord_8]
      simp only [ax0, ex_cons, am_get, upz_at, true_and, and_true, Nat.reduceAdd, Nat.reduceLeDiff, Nat.reduceEqDiff, Nat.reduceSub, Int32.reduceOfInt, Int32.reduceAdd, Int32.reduceMul, Int32.reduceSub, ↓reduceIte, Int32.reduceLT, Int32.reduceLE, Int32.reduceToNatClampNeg, Nat.reduceMod, Nat.reduceLT, List.length_cons, List.length_nil, eq_self, true_or, or_true, and_self, implies_true, not_true_eq_false, not_false_eq_true, false_implies, true_implies, forall_const, st_aloadx, st_baloadx, st_getfieldx, st_gotox, st_goto_wx, st_iconstx, st_if_icmpx, st_iloadx, kb_Model_writesWord_8, og_82_5, jx_Model_writesWord_29, kb_Model_writesWord_29, oa_82, oa_87, or_87, (nk_le (by omega) (by omega) : (nI (w) ≤ nI (1 + spN k)) = (w ≤ 1 + spN k)), show ¬ w ≤ 1 + spN k by omega, nk_neg (show k < 2147483648 by omega), nk_cl (show k < 2147483648 by omega), show k < 74 by omega, hwd2, show (nI (wdL.getD k 0) = (32 : Int32)) = (wdL.getD k 0 = 32) from nk_eq (b := 32) hc (by decide)]
      refine And.intro (fun q => ?_) (fun q => ?_)
      · rw [if_neg q] at ih
        simp only [ax0, ex_cons, am_get, upz_at, true_and, and_true, Nat.reduceAdd, Nat.reduceLeDiff, Nat.reduceEqDiff, Nat.reduceSub, Int32.reduceOfInt, Int32.reduceAdd, Int32.reduceMul, Int32.reduceSub, ↓reduceIte, Int32.reduceLT, Int32.reduceLE, Int32.reduceToNatClampNeg, Nat.reduceMod, Nat.reduceLT, List.length_cons, List.length_nil, eq_self, true_or, or_true, and_self, implies_true, not_true_eq_false, not_false_eq_true, false_implies, true_implies, forall_const, st_gotox, st_iaddx, st_iincx, st_istorex, am_put, am_nlg, jx_Model_writesWord_30, kb_Model_writesWord_30, nk_succ, Int32.add_zero]
        exact ih
      · rw [if_pos (Classical.not_not.mp q)] at ih
        simp only [ax0, ex_cons, am_get, upz_at, true_and, and_true, Nat.reduceAdd, Nat.reduceLeDiff, Nat.reduceEqDiff, Nat.reduceSub, Int32.reduceOfInt, Int32.reduceAdd, Int32.reduceMul, Int32.reduceSub, ↓reduceIte, Int32.reduceLT, Int32.reduceLE, Int32.reduceToNatClampNeg, Nat.reduceMod, Nat.reduceLT, List.length_cons, List.length_nil, eq_self, true_or, or_true, and_self, implies_true, not_true_eq_false, not_false_eq_true, false_implies, true_implies, forall_const, st_gotox, st_iaddx, st_iincx, st_istorex, am_put, am_nlg, jx_Model_writesWord_30, kb_Model_writesWord_30, nk_succ]
        exact ih
  exact scan (stW w) 0 (by omega)
end MTX
