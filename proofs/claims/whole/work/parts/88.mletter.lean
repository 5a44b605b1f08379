/-! ===== the model: begins, writesTerm, writesAll, letter ===== -/
def bgT : Int.Internal.Linear.Expr → Bool
  | .neg _ => true
  | .sub a _ => !isAdd a && bgT a
  | .add a _ => bgT a
  | _ => false
def tx1 (R : rT) : List Nat := pwd (if R.1 = 10 then 21 + R.2.2.1 else R.1) []
def tx2 (R : rT) : List Nat := if R.1 = 5 then pwd 6 (tx1 R) else tx1 R
def tx3 (R : rT) : List Nat := if R.1 < 9 then txT R.2.2.2.1 false (tx2 R) else tx2 R
def tx4 (R : rT) : List Nat := pwd (if R.1 = 10 then 10 else 7) (tx3 R)
def tx5 (R : rT) : List Nat := if R.2.1 then pwd (if R.1 = 9 then 2 else 8) (tx4 R) else tx4 R
def gdR (R : rT) : Bool := !R.2.1 && decide (R.1 = 10 ∨ R.1 = 3)
def txR (R : rT) : List Nat := txT R.2.2.2.2 (gdR R && bgT R.2.2.2.2) (tx5 R)
theorem tx2_len (R : rT) : (tx2 R).length ≤ 11 := by
  have h1 := pwd_len (if R.1 = 10 then 21 + R.2.2.1 else R.1) []
  have h2 := pwd_len 6 (tx1 R)
  have h3 : lnW 6 = 3 := by decide
  have h4 := lnW_le (if R.1 = 10 then 21 + R.2.2.1 else R.1)
  have h5 : ([] : List Nat).length = 0 := rfl
  have h6 : (tx1 R).length ≤ 6 := by unfold tx1; omega
  unfold tx2
  split <;> omega
theorem tx3_len {R : rT} (h : wfR R) : (tx3 R).length ≤ 11 + 4 * (rC1 R).length + 168 := by
  have h2 := tx2_len R
  unfold tx3 rC1
  split
  · rename_i q
    have := txT_len R.2.2.2.1 false (tx2 R) (h.2.1 q).1
    have h3 := (h.2.1 q).2
    have h7 : (if false && !isBin R.2.2.2.1 then 3 else 0) = 0 := rfl
    rw [h7] at this
    omega
  · omega
theorem tx5_len {R : rT} (h : wfR R) : (tx5 R).length ≤ 19 + 4 * (rC1 R).length + 168 := by
  have h3 := tx3_len h
  have h4 := pwd_len (if R.1 = 10 then 10 else 7) (tx3 R)
  have h5 := pwd_len (if R.1 = 9 then 2 else 8) (tx4 R)
  have h6 : lnW (if R.1 = 10 then 10 else 7) ≤ 3 := by split <;> decide
  have h7 : lnW (if R.1 = 9 then 2 else 8) ≤ 3 := by split <;> decide
  have h8 : (tx4 R).length ≤ 15 + 4 * (rC1 R).length + 168 := by unfold tx4; omega
  unfold tx5
  split <;> omega
def aLetter (D : dT) (x i : Int32) : Int32 := match slD D x with
  | none => -1
  | some s => if i < -1 then -1 else if i = -1 then nI (txR (D.2.1 s)).length else if i < nI (txR (D.2.1 s)).length then nI ((txR (D.2.1 s)).getD i.toNatClampNeg 0) else -1
section MLT
variable {d : Nat} {h : am_H} {F : Nat → Nat → Int32} {J : Nat → Nat → Int64} {V : Nat → Nat → Value} {Q : am_Q}
set_option maxRecDepth 20000 in
theorem m_bg {fr : Nat} {last : Int32} (t : Int.Internal.Linear.Expr) : ∀ (o : Nat) (v4 : Value), wfT t → Rw (F 84) (fr + o) (cdT t) → SPt (F 96) t o → fr + o + (cdT t).length ≤ 2698 → o + (cdT t).length ≤ 260 → Q (some (.int (b2i (bgT t)))) (ov h F J V) → am_W kc_Model_begins (am_cl d) Q 2 [.ref 82, .int (nI fr), .int last, .int (nI (o + (cdT t).length - 1)), v4] [] (ov h F J V) := by
  induction t with
  | var i0 =>
    intro o v4 hw hc sp b1 b2 K
    obtain ⟨i, hi⟩ : ∃ n : Nat, n = i0 := ⟨i0, rfl⟩
    subst hi
    have hw : i < 8 := hw
    have b1 : fr + o + 1 ≤ 2698 := b1
    have hci := hc.one
    rw [jx_Model_begins_2]
    show am_ex _ _ Q _ [.ref 82, .int (nI fr), .int last, .int (nI o), v4] [] _
    simp only [ax0, ex_cons, am_get, upz_at, true_and, and_true, Nat.reduceAdd, Nat.reduceLeDiff, Nat.reduceEqDiff, Nat.reduceSub, Int32.reduceOfInt, Int32.reduceAdd, Int32.reduceMul, Int32.reduceSub, ↓reduceIte, Int32.reduceLT, Int32.reduceLE, Int32.reduceToNatClampNeg, Nat.reduceMod, Nat.reduceLT, List.length_cons, List.length_nil, eq_self, true_or, or_true, and_self, implies_true, not_true_eq_false, not_false_eq_true, false_implies, true_implies, forall_const, st_aloadx, st_freturnx, st_getfieldx, st_gotox, st_goto_wx, st_iaddx, st_ialoadx, st_iconstx, st_if_icmpx, st_iloadx, st_istorex, st_isubx, am_put, am_nlg, kb_Model_begins_2, og_82_2, og_82_26, jx_Model_begins_62, kb_Model_begins_62, jx_Model_begins_79, kb_Model_begins_79, jx_Model_begins_80, kb_Model_begins_80, oa_82, oa_84, or_84, oa_96, or_96, show nI fr + nI o = nI (fr + o) from nk_add _ _, nk_neg (show fr + o < 2147483648 by omega), nk_cl (show fr + o < 2147483648 by omega), show fr + o < 2698 by omega, hci, show (nI i ≤ (8 : Int32)) = (i ≤ 8) from nk_le (b := 8) (by omega) (by decide), show i ≤ 8 by omega, show (nI i = (8 : Int32)) = (i = 8) from nk_eq (b := 8) (by omega) (by decide), show ¬ i = 8 by omega]
    exact K
  | neg a ih =>
    intro o v4 hw hc sp b1 b2 K
    have hc : Rw (F 84) (fr + o) (cdT a ++ [8]) := hc
    have h8 := hc.r.one
    rw [cl_neg] at b1 b2 ⊢
    rw [jx_Model_begins_2, show o + ((cdT a).length + 1) - 1 = o + (cdT a).length by omega]
    simp only [ax0, ex_cons, am_get, upz_at, true_and, and_true, Nat.reduceAdd, Nat.reduceLeDiff, Nat.reduceEqDiff, Nat.reduceSub, Int32.reduceOfInt, Int32.reduceAdd, Int32.reduceMul, Int32.reduceSub, ↓reduceIte, Int32.reduceLT, Int32.reduceLE, Int32.reduceToNatClampNeg, Nat.reduceMod, Nat.reduceLT, List.length_cons, List.length_nil, eq_self, true_or, or_true, and_self, implies_true, not_true_eq_false, not_false_eq_true, false_implies, true_implies, forall_const, st_aloadx, st_freturnx, st_getfieldx, st_gotox, st_iaddx, st_ialoadx, st_iconstx, st_if_icmpx, st_iloadx, st_istorex, st_isubx, am_put, am_nlg, kb_Model_begins_2, og_82_2, og_82_26, jx_Model_begins_62, kb_Model_begins_62, jx_Model_begins_80, kb_Model_begins_80, oa_82, oa_84, or_84, oa_96, or_96, show nI fr + nI (o + (cdT a).length) = nI (fr + (o + (cdT a).length)) from nk_add _ _, nk_neg (show fr + (o + (cdT a).length) < 2147483648 by omega), nk_cl (show fr + (o + (cdT a).length) < 2147483648 by omega), show fr + (o + (cdT a).length) < 2698 by omega, show F 84 (fr + (o + (cdT a).length)) = 8 by rw [← Nat.add_assoc]; exact h8]
    exact K
  | sub a b iha ihb =>
    intro o v4 hw hc sp b1 b2 K
    have hpa := cdT_pos (t := a) hw.1
    have hpb := cdT_pos (t := b) hw.2
    have hc : Rw (F 84) (fr + o) (cdT a ++ cdT b ++ [9]) := hc
    have h9 := hc.r.one
    rw [List.length_append, ← Nat.add_assoc] at h9
    have hla := Rw.last (t := a) hw.1 hc.l.l
    have slb := sp.2.1.last
    have hopa := opC_le a hw.1
    have K : Q (some (.int (b2i (!isAdd a && bgT a)))) (ov h F J V) := K
    rw [cl_sub] at b1 b2 ⊢
    rw [jx_Model_begins_2, show o + ((cdT a).length + (cdT b).length + 1) - 1 = o + (cdT a).length + (cdT b).length by omega]
    simp only [ax0, ex_cons, am_get, upz_at, true_and, and_true, Nat.reduceAdd, Nat.reduceLeDiff, Nat.reduceEqDiff, Nat.reduceSub, Int32.reduceOfInt, Int32.reduceAdd, Int32.reduceMul, Int32.reduceSub, ↓reduceIte, Int32.reduceLT, Int32.reduceLE, Int32.reduceToNatClampNeg, Nat.reduceMod, Nat.reduceLT, List.length_cons, List.length_nil, eq_self, true_or, or_true, and_self, implies_true, not_true_eq_false, not_false_eq_true, false_implies, true_implies, forall_const, st_aloadx, st_freturnx, st_getfieldx, st_gotox, st_iaddx, st_ialoadx, st_iconstx, st_if_icmpx, st_iloadx, st_istorex, st_isubx, am_put, am_nlg, kb_Model_begins_2, og_82_2, og_82_26, jx_Model_begins_56, kb_Model_begins_56, oa_82, oa_84, or_84, oa_96, or_96, show nI fr + nI (o + (cdT a).length + (cdT b).length) = nI (fr + (o + (cdT a).length + (cdT b).length)) from nk_add _ _, nk_neg (show fr + (o + (cdT a).length + (cdT b).length) < 2147483648 by omega), nk_cl (show fr + (o + (cdT a).length + (cdT b).length) < 2147483648 by omega), show fr + (o + (cdT a).length + (cdT b).length) < 2698 by omega, show F 84 (fr + (o + (cdT a).length + (cdT b).length)) = 9 by rw [← Nat.add_assoc, ← Nat.add_assoc]; exact h9, nk_sb (show 1 ≤ o + (cdT a).length + (cdT b).length by omega), nk_neg (show o + (cdT a).length + (cdT b).length - 1 < 2147483648 by omega), nk_cl (show o + (cdT a).length + (cdT b).length - 1 < 2147483648 by omega), show o + (cdT a).length + (cdT b).length - 1 < 260 by omega, slb, nk_sb (show 1 ≤ o + (cdT a).length by omega), show nI fr + nI (o + (cdT a).length - 1) = nI (fr + (o + (cdT a).length - 1)) from nk_add _ _, nk_neg (show fr + (o + (cdT a).length - 1) < 2147483648 by omega), nk_cl (show fr + (o + (cdT a).length - 1) < 2147483648 by omega), show fr + (o + (cdT a).length - 1) < 2698 by omega, show F 84 (fr + (o + (cdT a).length - 1)) = nI (opC a) by rw [show fr + (o + (cdT a).length - 1) = fr + o + (cdT a).length - 1 by omega]; exact hla, show (nI (opC a) = (10 : Int32)) = (opC a = 10) from nk_eq (b := 10) (by omega) (by decide), isAdd_op hw.1]
    refine And.intro (fun q => ?_) (fun q => ?_)
    · rw [Bool.not_eq_true] at q
      rw [q, Bool.not_false, Bool.true_and] at K
      exact iha o _ hw.1 hc.l.l sp.1 (by omega) (by omega) K
    · rw [Classical.not_not.mp q, Bool.not_true, Bool.false_and] at K
      exact K
  | add a b iha ihb =>
    intro o v4 hw hc sp b1 b2 K
    have hpa := cdT_pos (t := a) hw.1
    have hpb := cdT_pos (t := b) hw.2
    have hc : Rw (F 84) (fr + o) (cdT a ++ cdT b ++ [10]) := hc
    have h9 := hc.r.one
    rw [List.length_append, ← Nat.add_assoc] at h9
    have slb := sp.2.1.last
    have K : Q (some (.int (b2i (bgT a)))) (ov h F J V) := K
    rw [cl_add] at b1 b2 ⊢
    rw [jx_Model_begins_2, show o + ((cdT a).length + (cdT b).length + 1) - 1 = o + (cdT a).length + (cdT b).length by omega]
    simp only [ax0, ex_cons, am_get, upz_at, true_and, and_true, Nat.reduceAdd, Nat.reduceLeDiff, Nat.reduceEqDiff, Nat.reduceSub, Int32.reduceOfInt, Int32.reduceAdd, Int32.reduceMul, Int32.reduceSub, ↓reduceIte, Int32.reduceLT, Int32.reduceLE, Int32.reduceToNatClampNeg, Nat.reduceMod, Nat.reduceLT, List.length_cons, List.length_nil, eq_self, true_or, or_true, and_self, implies_true, not_true_eq_false, not_false_eq_true, false_implies, true_implies, forall_const, st_aloadx, st_freturnx, st_getfieldx, st_gotox, st_iaddx, st_ialoadx, st_iconstx, st_if_icmpx, st_iloadx, st_istorex, st_isubx, am_put, am_nlg, kb_Model_begins_2, og_82_2, og_82_26, jx_Model_begins_56, kb_Model_begins_56, oa_82, oa_84, or_84, oa_96, or_96, show nI fr + nI (o + (cdT a).length + (cdT b).length) = nI (fr + (o + (cdT a).length + (cdT b).length)) from nk_add _ _, nk_neg (show fr + (o + (cdT a).length + (cdT b).length) < 2147483648 by omega), nk_cl (show fr + (o + (cdT a).length + (cdT b).length) < 2147483648 by omega), show fr + (o + (cdT a).length + (cdT b).length) < 2698 by omega, show F 84 (fr + (o + (cdT a).length + (cdT b).length)) = 10 by rw [← Nat.add_assoc, ← Nat.add_assoc]; exact h9, nk_sb (show 1 ≤ o + (cdT a).length + (cdT b).length by omega), nk_neg (show o + (cdT a).length + (cdT b).length - 1 < 2147483648 by omega), nk_cl (show o + (cdT a).length + (cdT b).length - 1 < 2147483648 by omega), show o + (cdT a).length + (cdT b).length - 1 < 260 by omega, slb, nk_sb (show 1 ≤ o + (cdT a).length by omega)]
    exact iha o _ hw.1 hc.l.l sp.1 (by omega) (by omega) K
  | num _ => intro o v4 hw; exact hw.elim
  | mulL _ _ _ => intro o v4 hw; exact hw.elim
  | mulR _ _ _ => intro o v4 hw; exact hw.elim
/-- what writesTerm leaves -/
def Pv (F F' : Nat → Nat → Int32) : Prop := (∀ a, a ≠ 82 → a ≠ 95 → a ≠ 96 → F' a = F a) ∧ ∀ i, i ≠ 27 → F' 82 i = F 82 i
theorem Pv.tr {F F1 F2 : Nat → Nat → Int32} (a : Pv F F1) (b : Pv F1 F2) : Pv F F2 := ⟨fun i h1 h2 h3 => (b.1 i h1 h2 h3).trans (a.1 i h1 h2 h3), fun i hi => (b.2 i hi).trans (a.2 i hi)⟩
theorem Pw.pv {F F' : Nat → Nat → Int32} (p : Pw F F') : Pv F F' := ⟨fun i h1 h2 _ => p.1 i h1 h2, p.2⟩
theorem Pv.k {F F' : Nat → Nat → Int32} (p : Pv F F') : F' 84 = F 84 := p.1 84 (by decide) (by decide) (by decide)
theorem Pv.wd {F F' : Nat → Nat → Int32} (p : Pv F F') (h : WD F) : WD F' := fun i hi => by rw [p.1 87 (by decide) (by decide) (by decide)]; exact h i hi
theorem Pv.s96 {F : Nat → Nat → Int32} (f : Nat → Int32) : Pv F (upz F 96 f) := ⟨fun a _ _ h3 => upz_ne _ _ h3, fun i _ => by rw [upz_ne _ _ (by decide)]⟩
theorem Pv.pm {F F' : Nat → Nat → Int32} (p : Pv F F') : Pm F F' := ⟨fun a ha => p.1 a (by omega) (by omega) (by omega), fun a ha => p.1 a (by omega) (by omega) (by omega), fun i _ => by rw [p.k], fun i hi => p.2 i (by omega)⟩
set_option maxRecDepth 20000 in
theorem m_writesTerm {fr : Nat} {t : Int.Internal.Linear.Expr} {l : List Nat} (hw : wfT t) (wl : WTx F l) (wd : WD F) (hc : Rw (F 84) fr (cdT t)) (b1 : fr + (cdT t).length ≤ 2698) (b2 : (cdT t).length ≤ 160) (b3 : l.length + 4 * (cdT t).length + 7 * lvT t + 15 < 1200) {g : Bool} (K : ∀ F', WTx F' (txT t (g && bgT t) l) → Pv F F' → Q none (ov h F' J V)) : am_cl (d + 4 + (cdT t).length) 224 [.ref 82, .int (nI fr), .int (nI (fr + (cdT t).length)), .int (b2i g)] (ov h F J V) Q := by
  have hp := cdT_pos (t := t) hw
  have e1 : nI (fr + (cdT t).length) - nI fr - 1 = nI (0 + (cdT t).length - 1) := by rw [nk_subk, nk_sb (by omega), Nat.zero_add]
  rw [show d + 4 + (cdT t).length = d + 3 + (cdT t).length + 1 by omega]
  simp only [ax0, ex_cons, am_get, upz_at, true_and, and_true, Nat.reduceAdd, Nat.reduceLeDiff, Nat.reduceEqDiff, Nat.reduceSub, Int32.reduceOfInt, Int32.reduceAdd, Int32.reduceMul, Int32.reduceSub, ↓reduceIte, Int32.reduceLT, Int32.reduceLE, Int32.reduceToNatClampNeg, Nat.reduceMod, Nat.reduceLT, List.length_cons, List.length_nil, eq_self, true_or, or_true, and_self, implies_true, not_true_eq_false, not_false_eq_true, false_implies, true_implies, forall_const, st_aloadx, st_gotox, st_iconstx, st_ifCondx, st_iloadx, st_in3, st_isubx, kb_Model_writesTerm_0, oo_82, oa_82, cx_Model_writesTerm]
  rw [show d + 3 + (cdT t).length = d + 2 + (cdT t).length + 1 by omega]
  refine m_laysStarts hw hc b1 b2 (fun f sp => ?_)
  rw [show d + 2 + (cdT t).length + 1 = d + 3 + (cdT t).length by omega]
  have pf := Pv.s96 (F := F) f
  have wl1 : WTx (upz F 96 f) l := ⟨by rw [upz_ne _ _ (by decide)]; exact wl.1, fun i hi => by rw [upz_ne _ _ (by decide)]; exact wl.2.1 i hi, wl.2.2⟩
  have hc1 : Rw (upz F 96 f 84) (fr + 0) (cdT t) := by rw [pf.k]; exact hc
  have sp1 : SPt (upz F 96 f 96) t 0 := by rw [upz_eq]; exact sp
  have wd1 := pf.wd wd
  generalize upz F 96 f = F1 at pf wl1 hc1 sp1 wd1 ⊢
  have fin : ∀ z : Int32, z = b2i (g && bgT t) → am_W kc_Model_writesTerm (am_cl (d + 3 + (cdT t).length)) Q 35 [.ref 82, .int (nI fr), .int (nI (fr + (cdT t).length)), .int (b2i g)] [.int z, .int (nI (0 + (cdT t).length - 1)), .int (nI fr), .ref 82] (ov h F1 J V) := by
    intro z hz
    subst hz
    simp only [ax0, ex_cons, am_get, upz_at, true_and, and_true, Nat.reduceAdd, Nat.reduceLeDiff, Nat.reduceEqDiff, Nat.reduceSub, Int32.reduceOfInt, Int32.reduceAdd, Int32.reduceMul, Int32.reduceSub, ↓reduceIte, Int32.reduceLT, Int32.reduceLE, Int32.reduceToNatClampNeg, Nat.reduceMod, Nat.reduceLT, List.length_cons, List.length_nil, eq_self, true_or, or_true, and_self, implies_true, not_true_eq_false, not_false_eq_true, false_implies, true_implies, forall_const, st_in4, st_return_x, jx_Model_writesTerm_35, kb_Model_writesTerm_35, oo_82, oa_82]
    refine m_writes t (d := d) (o := 0) (br := g && bgT t) hw wl1 wd1 hc1 sp1 (by omega) (by omega) ?_ (fun F2 w2 p2 => ?_)
    · split <;> omega
    · simp only [ax0, ex_cons, am_get, upz_at, true_and, and_true, Nat.reduceAdd, Nat.reduceLeDiff, Nat.reduceEqDiff, Nat.reduceSub, Int32.reduceOfInt, Int32.reduceAdd, Int32.reduceMul, Int32.reduceSub, ↓reduceIte, Int32.reduceLT, Int32.reduceLE, Int32.reduceToNatClampNeg, Nat.reduceMod, Nat.reduceLT, List.length_cons, List.length_nil, eq_self, true_or, or_true, and_self, implies_true, not_true_eq_false, not_false_eq_true, false_implies, true_implies, forall_const, st_in4, st_return_x, jx_Model_writesTerm_35, kb_Model_writesTerm_35, oo_82, oa_82]
      exact K F2 w2 (pf.tr p2.pv)
  simp only [ax0, ex_cons, am_get, upz_at, true_and, and_true, Nat.reduceAdd, Nat.reduceLeDiff, Nat.reduceEqDiff, Nat.reduceSub, Int32.reduceOfInt, Int32.reduceAdd, Int32.reduceMul, Int32.reduceSub, ↓reduceIte, Int32.reduceLT, Int32.reduceLE, Int32.reduceToNatClampNeg, Nat.reduceMod, Nat.reduceLT, List.length_cons, List.length_nil, eq_self, true_or, or_true, and_self, implies_true, not_true_eq_false, not_false_eq_true, false_implies, true_implies, forall_const, st_aloadx, st_gotox, st_goto_wx, st_iconstx, st_ifCondx, st_iloadx, st_in3, st_isubx, kb_Model_writesTerm_0, oo_82, jx_Model_writesTerm_34, kb_Model_writesTerm_34, oa_82, e1]
  refine ifb (fun e => ?_) (fun e => ?_)
  · exact fin 0 (by rw [e]; rfl)
  · rw [show d + 3 + (cdT t).length = d + 2 + (cdT t).length + 1 by omega]
    simp only [ax0, ex_cons, am_get, upz_at, true_and, and_true, Nat.reduceAdd, Nat.reduceLeDiff, Nat.reduceEqDiff, Nat.reduceSub, Int32.reduceOfInt, Int32.reduceAdd, Int32.reduceMul, Int32.reduceSub, ↓reduceIte, Int32.reduceLT, Int32.reduceLE, Int32.reduceToNatClampNeg, Nat.reduceMod, Nat.reduceLT, List.length_cons, List.length_nil, eq_self, true_or, or_true, and_self, implies_true, not_true_eq_false, not_false_eq_true, false_implies, true_implies, forall_const, st_goto_wx, st_iloadx, st_istorex, am_put, am_nlg, kb_Model_begins_0, cx_Model_begins]
    refine m_bg t 0 _ hw hc1 sp1 (by omega) (by omega) ?_
    rw [show d + 2 + (cdT t).length + 1 = d + 3 + (cdT t).length by omega]
    simp only [ax0, ex_cons, am_get, upz_at, true_and, and_true, Nat.reduceAdd, Nat.reduceLeDiff, Nat.reduceEqDiff, Nat.reduceSub, Int32.reduceOfInt, Int32.reduceAdd, Int32.reduceMul, Int32.reduceSub, ↓reduceIte, Int32.reduceLT, Int32.reduceLE, Int32.reduceToNatClampNeg, Nat.reduceMod, Nat.reduceLT, List.length_cons, List.length_nil, eq_self, true_or, or_true, and_self, implies_true, not_true_eq_false, not_false_eq_true, false_implies, true_implies, forall_const, st_aloadx, st_gotox, st_goto_wx, st_iconstx, st_ifCondx, st_iloadx, st_in3, st_isubx, kb_Model_writesTerm_0, oo_82, jx_Model_writesTerm_34, kb_Model_writesTerm_34, oa_82]
    refine ifb (fun e2 => ?_) (fun e2 => ?_)
    · exact fin 0 (by rw [e, e2]; rfl)
    · exact fin 1 (by rw [e, e2]; rfl)
end MLT
