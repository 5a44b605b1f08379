/-! ===== the model: writes ===== -/
theorem Pw.k {F F' : Nat → Nat → Int32} (p : Pw F F') : F' 84 = F 84 := p.1 84 (by decide) (by decide)
theorem Pw.st {F F' : Nat → Nat → Int32} (p : Pw F F') : F' 96 = F 96 := p.1 96 (by decide) (by decide)
def WD (F : Nat → Nat → Int32) : Prop := ∀ i, i < 74 → F 87 i = nI (wdL.getD i 0)
theorem Pw.wd {F F' : Nat → Nat → Int32} (p : Pw F F') (h : WD F) : WD F' := fun i hi => by rw [p.1 87 (by decide) (by decide)]; exact h i hi
theorem isAdd_op {t : Int.Internal.Linear.Expr} (h : wfT t) : (opC t = 10) = (isAdd t = true) := by
  cases t with
  | var i0 =>
    obtain ⟨i, hi⟩ : ∃ n : Nat, n = i0 := ⟨i0, rfl⟩
    subst hi
    have h : i < 8 := h
    exact propext ⟨fun q => (by have q : i = 10 := q; omega), fun q => absurd q Bool.false_ne_true⟩
  | neg a => exact propext ⟨fun q => absurd q (show ¬ (8 = 10) by decide), fun q => absurd q Bool.false_ne_true⟩
  | sub a b => exact propext ⟨fun q => absurd q (show ¬ (9 = 10) by decide), fun q => absurd q Bool.false_ne_true⟩
  | add a b => exact propext ⟨fun _ => rfl, fun _ => rfl⟩
  | num _ => exact h.elim
  | mulL _ _ => exact h.elim
  | mulR _ _ => exact h.elim
theorem isBin_op {t : Int.Internal.Linear.Expr} (h : wfT t) : (opC t ≤ 8) = (isBin t = false) := by
  cases t with
  | var i0 =>
    obtain ⟨i, hi⟩ : ∃ n : Nat, n = i0 := ⟨i0, rfl⟩
    subst hi
    have h : i < 8 := h
    exact propext ⟨fun q => rfl, fun q => (by show i ≤ 8; omega)⟩
  | neg a => exact propext ⟨fun q => rfl, fun q => Nat.le_refl 8⟩
  | sub a b => exact propext ⟨fun q => absurd q (show ¬ (9 ≤ 8) by decide), fun q => absurd q.symm Bool.false_ne_true⟩
  | add a b => exact propext ⟨fun q => absurd q (show ¬ (10 ≤ 8) by decide), fun q => absurd q.symm Bool.false_ne_true⟩
  | num _ => exact h.elim
  | mulL _ _ => exact h.elim
  | mulR _ _ => exact h.elim
theorem opC_le (t : Int.Internal.Linear.Expr) (h : wfT t) : opC t ≤ 10 := by
  cases t with
  | var i0 =>
    obtain ⟨i, hi⟩ : ∃ n : Nat, n = i0 := ⟨i0, rfl⟩
    subst hi
    have h : i < 8 := h
    show i ≤ 10; omega
  | neg a => show 8 ≤ 10; decide
  | sub a b => show 9 ≤ 10; decide
  | add a b => show 10 ≤ 10; decide
  | num _ => exact h.elim
  | mulL _ _ => exact h.elim
  | mulR _ _ => exact h.elim
section MWS
variable {d : Nat} {h : am_H} {F : Nat → Nat → Int32} {J : Nat → Nat → Int64} {V : Nat → Nat → Value} {Q : am_Q}
set_option maxRecDepth 20000 in
theorem m_wr0 {l : List Nat} (hl : WTx F l) (hn : l.length + 2 < 1200) {fr i c : Nat} (hi : fr + i < 2698) (hc : F 84 (fr + i) = nI c) {br : Bool} (K : ∀ F', WTx F' (opB br l) → Pw F F' → am_W kc_Model_writes (am_cl (d + 2)) Q 24 [.ref 82, .int (nI fr), .int (nI i), .int (b2i br), .int (nI c), am_dum, am_dum] [] (ov h F' J V)) : am_cl (d + 3) 222 [.ref 82, .int (nI fr), .int (nI i), .int (b2i br)] (ov h F J V) Q := by
  simp only [ax0, ex_cons, am_get, upz_at, true_and, and_true, Nat.reduceAdd, Nat.reduceLeDiff, Nat.reduceEqDiff, Nat.reduceSub, Int32.reduceOfInt, Int32.reduceAdd, Int32.reduceMul, Int32.reduceSub, ↓reduceIte, Int32.reduceLT, Int32.reduceLE, Int32.reduceToNatClampNeg, Nat.reduceMod, Nat.reduceLT, List.length_cons, List.length_nil, eq_self, true_or, or_true, and_self, implies_true, not_true_eq_false, not_false_eq_true, false_implies, true_implies, forall_const, st_aloadx, st_getfieldx, st_goto_wx, st_iaddx, st_ialoadx, st_iconstx, st_ifCondx, st_iloadx, st_in1, st_in2, st_istorex, am_put, am_nlg, kb_Model_writes_0, og_82_2, oo_82, oa_82, oa_84, or_84, cx_Model_writes, show nI fr + nI i = nI (fr + i) from nk_add _ _, nk_neg (show fr + i < 2147483648 by omega), nk_cl (show fr + i < 2147483648 by omega), hi, hc]
  refine ifb (fun e => ?_) (fun e => ?_)
  · subst e
    exact K F hl Pw.rf
  · subst e
    refine m_blank hl (by omega) (fun F1 w1 p1 => ?_)
    simp only [ax0, ex_cons, am_get, upz_at, true_and, and_true, Nat.reduceAdd, Nat.reduceLeDiff, Nat.reduceEqDiff, Nat.reduceSub, Int32.reduceOfInt, Int32.reduceAdd, Int32.reduceMul, Int32.reduceSub, ↓reduceIte, Int32.reduceLT, Int32.reduceLE, Int32.reduceToNatClampNeg, Nat.reduceMod, Nat.reduceLT, List.length_cons, List.length_nil, eq_self, true_or, or_true, and_self, implies_true, not_true_eq_false, not_false_eq_true, false_implies, true_implies, forall_const, st_aloadx, st_getfieldx, st_goto_wx, st_iaddx, st_ialoadx, st_iconstx, st_ifCondx, st_iloadx, st_in1, st_in2, st_istorex, am_put, am_nlg, kb_Model_writes_0, og_82_2, oo_82, oa_82, oa_84, or_84]
    refine m_puts (c := 40) w1 (by have := blk_len l; omega) (by decide) (fun F2 w2 p2 => ?_)
    simp only [ax0, ex_cons, am_get, upz_at, true_and, and_true, Nat.reduceAdd, Nat.reduceLeDiff, Nat.reduceEqDiff, Nat.reduceSub, Int32.reduceOfInt, Int32.reduceAdd, Int32.reduceMul, Int32.reduceSub, ↓reduceIte, Int32.reduceLT, Int32.reduceLE, Int32.reduceToNatClampNeg, Nat.reduceMod, Nat.reduceLT, List.length_cons, List.length_nil, eq_self, true_or, or_true, and_self, implies_true, not_true_eq_false, not_false_eq_true, false_implies, true_implies, forall_const, st_aloadx, st_getfieldx, st_goto_wx, st_iaddx, st_ialoadx, st_iconstx, st_ifCondx, st_iloadx, st_in1, st_in2, st_istorex, am_put, am_nlg, kb_Model_writes_0, og_82_2, oo_82, oa_82, oa_84, or_84]
    exact K F2 w2 (p1.tr p2)
set_option maxRecDepth 20000 in
theorem m_wr217 {l : List Nat} (hl : WTx F l) (hn : l.length < 1200) {v1 v2 v4 v5 v6 : Value} {br : Bool} (K : ∀ F', WTx F' (clB br l) → Pw F F' → Q none (ov h F' J V)) : am_W kc_Model_writes (am_cl (d + 2)) Q 217 [.ref 82, v1, v2, .int (b2i br), v4, v5, v6] [] (ov h F J V) := by
  simp only [ax0, ex_cons, am_get, upz_at, true_and, and_true, Nat.reduceAdd, Nat.reduceLeDiff, Nat.reduceEqDiff, Nat.reduceSub, Int32.reduceOfInt, Int32.reduceAdd, Int32.reduceMul, Int32.reduceSub, ↓reduceIte, Int32.reduceLT, Int32.reduceLE, Int32.reduceToNatClampNeg, Nat.reduceMod, Nat.reduceLT, List.length_cons, List.length_nil, eq_self, true_or, or_true, and_self, implies_true, not_true_eq_false, not_false_eq_true, false_implies, true_implies, forall_const, st_aloadx, st_goto_wx, st_iconstx, st_ifCondx, st_iloadx, st_in2, st_return_x, jx_Model_writes_217, kb_Model_writes_217, oo_82, jx_Model_writes_227, kb_Model_writes_227, oa_82]
  refine ifb (fun e => ?_) (fun e => ?_)
  · subst e
    exact K F hl Pw.rf
  · subst e
    refine m_puts (c := 41) hl hn (by decide) (fun F2 w2 p2 => ?_)
    simp only [ax0, ex_cons, am_get, upz_at, true_and, and_true, Nat.reduceAdd, Nat.reduceLeDiff, Nat.reduceEqDiff, Nat.reduceSub, Int32.reduceOfInt, Int32.reduceAdd, Int32.reduceMul, Int32.reduceSub, ↓reduceIte, Int32.reduceLT, Int32.reduceLE, Int32.reduceToNatClampNeg, Nat.reduceMod, Nat.reduceLT, List.length_cons, List.length_nil, eq_self, true_or, or_true, and_self, implies_true, not_true_eq_false, not_false_eq_true, false_implies, true_implies, forall_const, st_aloadx, st_goto_wx, st_iconstx, st_ifCondx, st_iloadx, st_in2, st_return_x, jx_Model_writes_217, kb_Model_writes_217, oo_82, jx_Model_writes_227, kb_Model_writes_227, oa_82]
    exact K F2 w2 p2
set_option maxRecDepth 20000 in
theorem m_writes {fr : Nat} (t : Int.Internal.Linear.Expr) : ∀ {d : Nat} {F : Nat → Nat → Int32} {Q : am_Q} {o : Nat} {br : Bool} {l : List Nat}, wfT t → WTx F l → WD F → Rw (F 84) (fr + o) (cdT t) → SPt (F 96) t o → fr + o + (cdT t).length ≤ 2698 → o + (cdT t).length ≤ 260 → l.length + 4 * (cdT t).length + 7 * lvT t + (if br && !isBin t then 3 else 0) + 12 < 1200 → (∀ F', WTx F' (txT t br l) → Pw F F' → Q none (ov h F' J V)) → am_cl (d + 3 + (cdT t).length) 222 [.ref 82, .int (nI fr), .int (nI (o + (cdT t).length - 1)), .int (b2i br)] (ov h F J V) Q := by
  induction t with
  | var i0 =>
    intro d F Q o br l hw wl wd hc sp b1 b2 b3 K
    obtain ⟨i, hi⟩ : ∃ n : Nat, n = i0 := ⟨i0, rfl⟩
    subst hi
    have hw : i < 8 := hw
    have b1 : fr + o + 1 ≤ 2698 := b1
    have b3 : l.length + 4 * 1 + 7 * 1 + (if br && true then 3 else 0) + 12 < 1200 := b3
    have K : ∀ F', WTx F' (clB br (pwd (13 + i) (opB br l))) → Pw F F' → Q none (ov h F' J V) := K
    show am_cl (d + 1 + 3) 222 [.ref 82, .int (nI fr), .int (nI o), .int (b2i br)] (ov h F J V) Q
    have ho := opB_len br l
    have ho2 : (opB br l).length ≤ l.length + 2 := by cases br <;> simp at ho <;> omega
    refine m_wr0 wl (by omega) (by omega) hc.one (fun F1 w1 p1 => ?_)
    simp only [ax0, ex_cons, am_get, upz_at, true_and, and_true, Nat.reduceAdd, Nat.reduceLeDiff, Nat.reduceEqDiff, Nat.reduceSub, Int32.reduceOfInt, Int32.reduceAdd, Int32.reduceMul, Int32.reduceSub, ↓reduceIte, Int32.reduceLT, Int32.reduceLE, Int32.reduceToNatClampNeg, Nat.reduceMod, Nat.reduceLT, List.length_cons, List.length_nil, eq_self, true_or, or_true, and_self, implies_true, not_true_eq_false, not_false_eq_true, false_implies, true_implies, forall_const, st_aloadx, st_gotox, st_iaddx, st_iconstx, st_if_icmpx, st_iloadx, st_in2, jx_Model_writes_24, kb_Model_writes_24, oo_82, oa_82, show ((8 : Int32) ≤ nI (i)) = (8 ≤ i) from nk_le (a := 8) (b := i) (by omega) (by omega), show ¬ 8 ≤ i by omega, show (13 : Int32) + nI i = nI (13 + i) from nk_add 13 i]
    refine m_writesWord (w := 13 + i) w1 (p1.wd wd) (by omega) (by omega) (by omega) (fun F2 w2 p2 => ?_)
    simp only [ax0, ex_cons, am_get, upz_at, true_and, and_true, Nat.reduceAdd, Nat.reduceLeDiff, Nat.reduceEqDiff, Nat.reduceSub, Int32.reduceOfInt, Int32.reduceAdd, Int32.reduceMul, Int32.reduceSub, ↓reduceIte, Int32.reduceLT, Int32.reduceLE, Int32.reduceToNatClampNeg, Nat.reduceMod, Nat.reduceLT, List.length_cons, List.length_nil, eq_self, true_or, or_true, and_self, implies_true, not_true_eq_false, not_false_eq_true, false_implies, true_implies, forall_const, st_aloadx, st_gotox, st_iaddx, st_iconstx, st_if_icmpx, st_iloadx, st_in2, jx_Model_writes_24, kb_Model_writes_24, oo_82, oa_82]
    have hp := pwd_len (13 + i) (opB br l)
    have := lnW_le (13 + i)
    exact m_wr217 w2 (by omega) (fun F3 w3 p3 => K F3 w3 ((p1.tr p2).tr p3))
  | neg a ih =>
    intro d F Q o br l hw wl wd hc sp b1 b2 b3 K
    have hpa := cdT_pos (t := a) hw
    have hc : Rw (F 84) (fr + o) (cdT a ++ [8]) := hc
    have h8 := hc.r.one
    have hla := Rw.last (t := a) hw hc.l
    have e1 : lvT (.neg a) = lvT a := rfl
    rw [cl_neg, e1] at b3
    have b3 : l.length + 4 * ((cdT a).length + 1) + 7 * lvT a + (if br && true then 3 else 0) + 12 < 1200 := b3
    have h7 : (if isBin a && !isBin a then 3 else 0) = 0 := by cases isBin a <;> rfl
    rw [cl_neg] at b1 b2
    have K : ∀ F', WTx F' (clB br (txT a (isBin a) (pwd 8 (opB br l)))) → Pw F F' → Q none (ov h F' J V) := K
    rw [cl_neg, show o + ((cdT a).length + 1) - 1 = o + (cdT a).length by omega, show d + 3 + ((cdT a).length + 1) = d + (cdT a).length + 1 + 3 by omega]
    have ho := opB_len br l
    have ho2 : (opB br l).length ≤ l.length + 2 := by cases br <;> simp at ho <;> omega
    have ho3 : (opB br l).length + 4 * ((cdT a).length + 1) + 7 * lvT a + 12 < 1200 := by cases br <;> simp at ho b3 <;> omega
    refine m_wr0 wl (by omega) (by omega) (c := 8) (by rw [← Nat.add_assoc]; exact h8) (fun F1 w1 p1 => ?_)
    simp only [show nI 8 = (8 : Int32) from rfl, ax0, ex_cons, am_get, upz_at, true_and, and_true, Nat.reduceAdd, Nat.reduceLeDiff, Nat.reduceEqDiff, Nat.reduceSub, Int32.reduceOfInt, Int32.reduceAdd, Int32.reduceMul, Int32.reduceSub, ↓reduceIte, Int32.reduceLT, Int32.reduceLE, Int32.reduceToNatClampNeg, Nat.reduceMod, Nat.reduceLT, List.length_cons, List.length_nil, eq_self, true_or, or_true, and_self, implies_true, not_true_eq_false, not_false_eq_true, false_implies, true_implies, forall_const, st_aloadx, st_getfieldx, st_gotox, st_iaddx, st_ialoadx, st_iconstx, st_if_icmpx, st_iloadx, st_in2, st_isubx, jx_Model_writes_24, kb_Model_writes_24, oo_82, jx_Model_writes_43, kb_Model_writes_43, og_82_2, oa_82, oa_84, or_84]
    refine m_writesWord (w := 8) w1 (p1.wd wd) (by decide) (by decide) (by omega) (fun F2 w2 p2 => ?_)
    have p12 := p1.tr p2
    have hp := pwd_len 8 (opB br l)
    have h3 : lnW 8 = 3 := by decide
    have hop := opC_le a hw
    have fin : ∀ z : Int32, z = b2i (isBin a) → am_W kc_Model_writes (am_cl (d + (cdT a).length + 1 + 2)) Q 81 [.ref 82, .int (nI fr), .int (nI (o + (cdT a).length)), .int (b2i br), .int 8, am_dum, am_dum] [.int z, .int (nI (o + (cdT a).length - 1)), .int (nI fr), .ref 82] (ov h F2 J V) := by
      intro z hz
      subst hz
      simp only [ax0, ex_cons, am_get, upz_at, true_and, and_true, Nat.reduceAdd, Nat.reduceLeDiff, Nat.reduceEqDiff, Nat.reduceSub, Int32.reduceOfInt, Int32.reduceAdd, Int32.reduceMul, Int32.reduceSub, ↓reduceIte, Int32.reduceLT, Int32.reduceLE, Int32.reduceToNatClampNeg, Nat.reduceMod, Nat.reduceLT, List.length_cons, List.length_nil, eq_self, true_or, or_true, and_self, implies_true, not_true_eq_false, not_false_eq_true, false_implies, true_implies, forall_const, st_gotox, st_in4, jx_Model_writes_81, kb_Model_writes_81, oo_82, oa_82]
      rw [show d + (cdT a).length + 1 + 2 = d + 3 + (cdT a).length by omega]
      refine ih (d := d) hw w2 (p12.wd wd) (by rw [p12.k]; exact hc.l) (by rw [p12.st]; exact sp.1) (by omega) (by omega) (by rw [h7]; omega) (fun F3 w3 p3 => ?_)
      simp only [ax0, ex_cons, am_get, upz_at, true_and, and_true, Nat.reduceAdd, Nat.reduceLeDiff, Nat.reduceEqDiff, Nat.reduceSub, Int32.reduceOfInt, Int32.reduceAdd, Int32.reduceMul, Int32.reduceSub, ↓reduceIte, Int32.reduceLT, Int32.reduceLE, Int32.reduceToNatClampNeg, Nat.reduceMod, Nat.reduceLT, List.length_cons, List.length_nil, eq_self, true_or, or_true, and_self, implies_true, not_true_eq_false, not_false_eq_true, false_implies, true_implies, forall_const, st_gotox, st_in4, jx_Model_writes_81, kb_Model_writes_81, oo_82, oa_82]
      have hx := txT_len a (isBin a) (pwd 8 (opB br l)) hw
      rw [h7] at hx
      rw [show d + 3 + (cdT a).length = d + (cdT a).length + 1 + 2 by omega]
      exact m_wr217 w3 (by omega) (fun F4 w4 p4 => K F4 w4 ((p12.tr p3).tr p4))
    simp only [ax0, ex_cons, am_get, upz_at, true_and, and_true, Nat.reduceAdd, Nat.reduceLeDiff, Nat.reduceEqDiff, Nat.reduceSub, Int32.reduceOfInt, Int32.reduceAdd, Int32.reduceMul, Int32.reduceSub, ↓reduceIte, Int32.reduceLT, Int32.reduceLE, Int32.reduceToNatClampNeg, Nat.reduceMod, Nat.reduceLT, List.length_cons, List.length_nil, eq_self, true_or, or_true, and_self, implies_true, not_true_eq_false, not_false_eq_true, false_implies, true_implies, forall_const, st_aloadx, st_getfieldx, st_gotox, st_goto_wx, st_iaddx, st_ialoadx, st_iconstx, st_if_icmpx, st_iloadx, st_in2, st_isubx, jx_Model_writes_43, kb_Model_writes_43, oo_82, og_82_2, jx_Model_writes_80, kb_Model_writes_80, oa_82, oa_84, or_84, nk_sb (show 1 ≤ o + (cdT a).length by omega), show nI fr + nI (o + (cdT a).length) = nI (fr + (o + (cdT a).length)) from nk_add _ _, nk_sb (show 1 ≤ fr + (o + (cdT a).length) by omega), nk_neg (show fr + (o + (cdT a).length) - 1 < 2147483648 by omega), nk_cl (show fr + (o + (cdT a).length) - 1 < 2147483648 by omega), show fr + (o + (cdT a).length) - 1 < 2698 by omega, p12.k, show F 84 (fr + (o + (cdT a).length) - 1) = nI (opC a) by rw [← Nat.add_assoc]; exact hla, show (nI (opC a) ≤ (8 : Int32)) = (opC a ≤ 8) from nk_le (b := 8) (by omega) (by decide), isBin_op (t := a) hw]
    refine And.intro (fun q => ?_) (fun q => ?_)
    · exact fin 0 (by rw [q]; rfl)
    · exact fin 1 (by rw [Bool.not_eq_false] at q; rw [q]; rfl)
  | sub a b iha ihb =>
    intro d F Q o br l hw wl wd hc sp b1 b2 b3 K
    have hpa := cdT_pos (t := a) hw.1
    have hpb := cdT_pos (t := b) hw.2
    have hc : Rw (F 84) (fr + o) (cdT a ++ cdT b ++ [9]) := hc
    have h9 := hc.r.one
    rw [List.length_append, ← Nat.add_assoc] at h9
    have hla := Rw.last (t := a) hw.1 hc.l.l
    have hcb := hc.l.r
    have hlb := Rw.last (t := b) hw.2 hcb
    have e1 : lvT (.sub a b) = lvT a + lvT b := rfl
    rw [cl_sub, e1] at b3
    rw [cl_sub] at b1 b2
    have K : ∀ F', WTx F' (clB br (txT b (isBin b) (pwd 7 (pwd 12 (txT a (isAdd a) (opB br l)))))) → Pw F F' → Q none (ov h F' J V) := K
    have slb := sp.2.1.last
    have ho := opB_len br l
    have ho2 : (opB br l).length ≤ l.length + 2 := by cases br <;> simp at ho <;> omega
    have hxa := txT_len a (isAdd a) (opB br l) hw.1
    have h7 : (if (isAdd a) && !isBin a then 3 else 0) = 0 := by cases a <;> rfl
    rw [h7] at hxa
    have hxb := txT_len b (isBin b) (pwd 7 (pwd 12 (txT a (isAdd a) (opB br l)))) hw.2
    have h8 : (if (isBin b) && !isBin b then 3 else 0) = 0 := by cases b <;> rfl
    rw [h8] at hxb
    have hopa := opC_le a hw.1
    have hopb := opC_le b hw.2
    have lva := lvT_pos a
    have lvb := lvT_pos b
    have hp1 := pwd_len 12 (txT a (isAdd a) (opB br l))
    have hp2 := pwd_len 7 (pwd 12 (txT a (isAdd a) (opB br l)))
    have h12 : lnW 12 = 3 := by decide
    have h77 : lnW 7 = 3 := by decide
    rw [cl_sub, show o + ((cdT a).length + (cdT b).length + 1) - 1 = o + (cdT a).length + (cdT b).length by omega, show d + 3 + ((cdT a).length + (cdT b).length + 1) = d + (cdT a).length + (cdT b).length + 1 + 3 by omega]
    refine m_wr0 wl (by omega) (by omega) (c := 9) (by rw [← Nat.add_assoc, ← Nat.add_assoc]; exact h9) (fun F1 w1 p1 => ?_)
    have fin2 : ∀ (F2 : Nat → Nat → Int32) (z : Int32) (v5 v6 : Value), z = b2i (isBin b) → WTx F2 (pwd 7 (pwd 12 (txT a (isAdd a) (opB br l)))) → Pw F F2 → am_W kc_Model_writes (am_cl (d + (cdT a).length + (cdT b).length + 1 + 2)) Q 214 [.ref 82, .int (nI fr), .int (nI (o + (cdT a).length + (cdT b).length)), .int (b2i br), .int 9, v5, v6] [.int z, .int (nI (o + (cdT a).length + (cdT b).length - 1)), .int (nI fr), .ref 82] (ov h F2 J V) := by
      intro F2 z v5 v6 hz w2 p2
      subst hz
      simp only [ax0, ex_cons, am_get, upz_at, true_and, and_true, Nat.reduceAdd, Nat.reduceLeDiff, Nat.reduceEqDiff, Nat.reduceSub, Int32.reduceOfInt, Int32.reduceAdd, Int32.reduceMul, Int32.reduceSub, ↓reduceIte, Int32.reduceLT, Int32.reduceLE, Int32.reduceToNatClampNeg, Nat.reduceMod, Nat.reduceLT, List.length_cons, List.length_nil, eq_self, true_or, or_true, and_self, implies_true, not_true_eq_false, not_false_eq_true, false_implies, true_implies, forall_const, st_goto_wx, st_in4, jx_Model_writes_214, kb_Model_writes_214, oo_82, oa_82]
      rw [show d + (cdT a).length + (cdT b).length + 1 + 2 = (d + (cdT a).length) + 3 + (cdT b).length by omega]
      refine ihb (d := d + (cdT a).length) (o := o + (cdT a).length) hw.2 w2 (p2.wd wd) (by rw [p2.k, ← Nat.add_assoc]; exact hcb) (by rw [p2.st]; exact sp.2.1) (by omega) (by omega) (by rw [h8]; omega) (fun F3 w3 p3 => ?_)
      simp only [ax0, ex_cons, am_get, upz_at, true_and, and_true, Nat.reduceAdd, Nat.reduceLeDiff, Nat.reduceEqDiff, Nat.reduceSub, Int32.reduceOfInt, Int32.reduceAdd, Int32.reduceMul, Int32.reduceSub, ↓reduceIte, Int32.reduceLT, Int32.reduceLE, Int32.reduceToNatClampNeg, Nat.reduceMod, Nat.reduceLT, List.length_cons, List.length_nil, eq_self, true_or, or_true, and_self, implies_true, not_true_eq_false, not_false_eq_true, false_implies, true_implies, forall_const, st_goto_wx, st_in4, jx_Model_writes_214, kb_Model_writes_214, oo_82, oa_82]
      rw [show (d + (cdT a).length) + 3 + (cdT b).length = d + (cdT a).length + (cdT b).length + 1 + 2 by omega]
      exact m_wr217 w3 (by omega) (fun F4 w4 p4 => K F4 w4 ((p2.tr p3).tr p4))
    have fin3 : ∀ (F2 : Nat → Nat → Int32) (v5 : Int32) (v6 : Value), WTx F2 (pwd 7 (pwd 12 (txT a (isAdd a) (opB br l)))) → Pw F F2 → am_W kc_Model_writes (am_cl (d + (cdT a).length + (cdT b).length + 1 + 2)) Q 163 [.ref 82, .int (nI fr), .int (nI (o + (cdT a).length + (cdT b).length)), .int (b2i br), .int 9, .int v5, v6] [] (ov h F2 J V) := by
      intro F2 v5 v6 w2 p2
      simp only [ax0, ex_cons, am_get, upz_at, true_and, and_true, Nat.reduceAdd, Nat.reduceLeDiff, Nat.reduceEqDiff, Nat.reduceSub, Int32.reduceOfInt, Int32.reduceAdd, Int32.reduceMul, Int32.reduceSub, ↓reduceIte, Int32.reduceLT, Int32.reduceLE, Int32.reduceToNatClampNeg, Nat.reduceMod, Nat.reduceLT, List.length_cons, List.length_nil, eq_self, true_or, or_true, and_self, implies_true, not_true_eq_false, not_false_eq_true, false_implies, true_implies, forall_const, st_aloadx, st_getfieldx, st_gotox, st_goto_wx, st_iaddx, st_ialoadx, st_iconstx, st_if_icmpx, st_iloadx, st_istorex, st_isubx, am_put, am_nlg, jx_Model_writes_163, kb_Model_writes_163, og_82_2, jx_Model_writes_198, kb_Model_writes_198, jx_Model_writes_202, kb_Model_writes_202, jx_Model_writes_213, kb_Model_writes_213, oa_82, oa_84, or_84, show nI fr + nI (o + (cdT a).length + (cdT b).length) = nI (fr + (o + (cdT a).length + (cdT b).length)) from nk_add _ _, nk_sb (show 1 ≤ fr + (o + (cdT a).length + (cdT b).length) by omega), nk_neg (show fr + (o + (cdT a).length + (cdT b).length) - 1 < 2147483648 by omega), nk_cl (show fr + (o + (cdT a).length + (cdT b).length) - 1 < 2147483648 by omega), show fr + (o + (cdT a).length + (cdT b).length) - 1 < 2698 by omega, p2.k, show F 84 (fr + (o + (cdT a).length + (cdT b).length) - 1) = nI (opC b) by rw [← Nat.add_assoc, ← Nat.add_assoc]; exact hlb, nk_sb (show 1 ≤ o + (cdT a).length + (cdT b).length by omega), show (nI (opC b) ≤ (8 : Int32)) = (opC b ≤ 8) from nk_le (b := 8) (by omega) (by decide), show (nI (opC b) = (10 : Int32)) = (opC b = 10) from nk_eq (b := 10) (by omega) (by decide), isBin_op hw.2, isAdd_op hw.2]
      refine And.intro (fun q => ?_) (fun q => ?_)
      · exact fin2 F2 0 _ _ (by rw [q]; rfl) w2 p2
      · exact fin2 F2 1 _ _ (by rw [Bool.not_eq_false] at q; rw [q]; rfl) w2 p2
    have fin1 : ∀ (z : Int32) (v6 : Value), z = b2i (isAdd a) → am_W kc_Model_writes (am_cl (d + (cdT a).length + (cdT b).length + 1 + 2)) Q 129 [.ref 82, .int (nI fr), .int (nI (o + (cdT a).length + (cdT b).length)), .int (b2i br), .int 9, .int (nI (o + (cdT a).length - 1)), v6] [.int z, .int (nI (o + (cdT a).length - 1)), .int (nI fr), .ref 82] (ov h F1 J V) := by
      intro z v6 hz
      subst hz
      simp only [ax0, ex_cons, am_get, upz_at, true_and, and_true, Nat.reduceAdd, Nat.reduceLeDiff, Nat.reduceEqDiff, Nat.reduceSub, Int32.reduceOfInt, Int32.reduceAdd, Int32.reduceMul, Int32.reduceSub, ↓reduceIte, Int32.reduceLT, Int32.reduceLE, Int32.reduceToNatClampNeg, Nat.reduceMod, Nat.reduceLT, List.length_cons, List.length_nil, eq_self, true_or, or_true, and_self, implies_true, not_true_eq_false, not_false_eq_true, false_implies, true_implies, forall_const, st_aloadx, st_gotox, st_iconstx, st_if_icmpx, st_iloadx, st_in4, jx_Model_writes_129, kb_Model_writes_129, oo_82, oa_82]
      rw [show d + (cdT a).length + (cdT b).length + 1 + 2 = (d + (cdT b).length) + 3 + (cdT a).length by omega]
      refine iha (d := d + (cdT b).length) (o := o) hw.1 w1 (p1.wd wd) (by rw [p1.k]; exact hc.l.l) (by rw [p1.st]; exact sp.1) (by omega) (by omega) (by rw [h7]; omega) (fun F3 w3 p3 => ?_)
      rw [show (d + (cdT b).length) + 3 + (cdT a).length = d + (cdT a).length + (cdT b).length + 3 by omega]
      have p13 := p1.tr p3
      simp only [ax0, ex_cons, am_get, upz_at, true_and, and_true, Nat.reduceAdd, Nat.reduceLeDiff, Nat.reduceEqDiff, Nat.reduceSub, Int32.reduceOfInt, Int32.reduceAdd, Int32.reduceMul, Int32.reduceSub, ↓reduceIte, Int32.reduceLT, Int32.reduceLE, Int32.reduceToNatClampNeg, Nat.reduceMod, Nat.reduceLT, List.length_cons, List.length_nil, eq_self, true_or, or_true, and_self, implies_true, not_true_eq_false, not_false_eq_true, false_implies, true_implies, forall_const, st_aloadx, st_gotox, st_goto_wx, st_iconstx, st_if_icmpx, st_iloadx, st_in2, st_in4, jx_Model_writes_129, kb_Model_writes_129, oo_82, jx_Model_writes_145, kb_Model_writes_145, jx_Model_writes_147, kb_Model_writes_147, oa_82]
      refine m_writesWord (w := 12) w3 (p13.wd wd) (by decide) (by decide) (by omega) (fun F4 w4 p4 => ?_)
      simp only [ax0, ex_cons, am_get, upz_at, true_and, and_true, Nat.reduceAdd, Nat.reduceLeDiff, Nat.reduceEqDiff, Nat.reduceSub, Int32.reduceOfInt, Int32.reduceAdd, Int32.reduceMul, Int32.reduceSub, ↓reduceIte, Int32.reduceLT, Int32.reduceLE, Int32.reduceToNatClampNeg, Nat.reduceMod, Nat.reduceLT, List.length_cons, List.length_nil, eq_self, true_or, or_true, and_self, implies_true, not_true_eq_false, not_false_eq_true, false_implies, true_implies, forall_const, st_aloadx, st_goto_wx, st_iconstx, st_if_icmpx, st_iloadx, st_in2, jx_Model_writes_147, kb_Model_writes_147, oo_82, oa_82]
      refine m_writesWord (w := 7) w4 ((p13.tr p4).wd wd) (by decide) (by decide) (by omega) (fun F5 w5 p5 => ?_)
      simp only [ax0, ex_cons, am_get, upz_at, true_and, and_true, Nat.reduceAdd, Nat.reduceLeDiff, Nat.reduceEqDiff, Nat.reduceSub, Int32.reduceOfInt, Int32.reduceAdd, Int32.reduceMul, Int32.reduceSub, ↓reduceIte, Int32.reduceLT, Int32.reduceLE, Int32.reduceToNatClampNeg, Nat.reduceMod, Nat.reduceLT, List.length_cons, List.length_nil, eq_self, true_or, or_true, and_self, implies_true, not_true_eq_false, not_false_eq_true, false_implies, true_implies, forall_const, st_aloadx, st_goto_wx, st_iconstx, st_if_icmpx, st_iloadx, st_in2, jx_Model_writes_147, kb_Model_writes_147, oo_82, oa_82]
      exact fin3 F5 _ _ w5 ((p13.tr p4).tr p5)
    simp only [show nI 9 = (9 : Int32) from rfl, ax0, ex_cons, am_get, upz_at, true_and, and_true, Nat.reduceAdd, Nat.reduceLeDiff, Nat.reduceEqDiff, Nat.reduceSub, Int32.reduceOfInt, Int32.reduceAdd, Int32.reduceMul, Int32.reduceSub, ↓reduceIte, Int32.reduceLT, Int32.reduceLE, Int32.reduceToNatClampNeg, Nat.reduceMod, Nat.reduceLT, List.length_cons, List.length_nil, eq_self, true_or, or_true, and_self, implies_true, not_true_eq_false, not_false_eq_true, false_implies, true_implies, forall_const, st_aloadx, st_getfieldx, st_gotox, st_goto_wx, st_iaddx, st_ialoadx, st_iconstx, st_if_icmpx, st_iloadx, st_in2, st_istorex, st_isubx, am_put, am_nlg, jx_Model_writes_24, kb_Model_writes_24, oo_82, jx_Model_writes_43, kb_Model_writes_43, og_82_2, jx_Model_writes_87, kb_Model_writes_87, og_82_26, jx_Model_writes_128, kb_Model_writes_128, oa_82, oa_84, or_84, oa_96, or_96, nk_sb (show 1 ≤ o + (cdT a).length + (cdT b).length by omega), nk_neg (show o + (cdT a).length + (cdT b).length - 1 < 2147483648 by omega), nk_cl (show o + (cdT a).length + (cdT b).length - 1 < 2147483648 by omega), show o + (cdT a).length + (cdT b).length - 1 < 260 by omega, p1.st, slb, nk_sb (show 1 ≤ o + (cdT a).length by omega), show nI fr + nI (o + (cdT a).length - 1) = nI (fr + (o + (cdT a).length - 1)) from nk_add _ _, nk_neg (show fr + (o + (cdT a).length - 1) < 2147483648 by omega), nk_cl (show fr + (o + (cdT a).length - 1) < 2147483648 by omega), show fr + (o + (cdT a).length - 1) < 2698 by omega, p1.k, show F 84 (fr + (o + (cdT a).length - 1)) = nI (opC a) by rw [show fr + (o + (cdT a).length - 1) = fr + o + (cdT a).length - 1 by omega]; exact hla, show (nI (opC a) = (10 : Int32)) = (opC a = 10) from nk_eq (b := 10) (by omega) (by decide), isAdd_op hw.1]
    refine And.intro (fun q => ?_) (fun q => ?_)
    · exact fin1 0 _ (by rw [Bool.not_eq_true] at q; rw [q]; rfl)
    · exact fin1 1 _ (by rw [Classical.not_not.mp q]; rfl)
  | add a b iha ihb =>
    intro d F Q o br l hw wl wd hc sp b1 b2 b3 K
    have hpa := cdT_pos (t := a) hw.1
    have hpb := cdT_pos (t := b) hw.2
    have hc : Rw (F 84) (fr + o) (cdT a ++ cdT b ++ [10]) := hc
    have h9 := hc.r.one
    rw [List.length_append, ← Nat.add_assoc] at h9
    have hla := Rw.last (t := a) hw.1 hc.l.l
    have hcb := hc.l.r
    have hlb := Rw.last (t := b) hw.2 hcb
    have e1 : lvT (.add a b) = lvT a + lvT b := rfl
    rw [cl_add, e1] at b3
    rw [cl_add] at b1 b2
    have K : ∀ F', WTx F' (clB br (txT b (isAdd b) (pwd 11 (txT a false (opB br l))))) → Pw F F' → Q none (ov h F' J V) := K
    have slb := sp.2.1.last
    have ho := opB_len br l
    have ho2 : (opB br l).length ≤ l.length + 2 := by cases br <;> simp at ho <;> omega
    have hxa := txT_len a (false) (opB br l) hw.1
    have h7 : (if (false) && !isBin a then 3 else 0) = 0 := by cases a <;> rfl
    rw [h7] at hxa
    have hxb := txT_len b (isAdd b) (pwd 11 (txT a false (opB br l))) hw.2
    have h8 : (if (isAdd b) && !isBin b then 3 else 0) = 0 := by cases b <;> rfl
    rw [h8] at hxb
    have hopa := opC_le a hw.1
    have hopb := opC_le b hw.2
    have lva := lvT_pos a
    have lvb := lvT_pos b
    have hp1 := pwd_len 11 (txT a false (opB br l))
    have h12 : lnW 11 = 2 := by decide
    rw [cl_add, show o + ((cdT a).length + (cdT b).length + 1) - 1 = o + (cdT a).length + (cdT b).length by omega, show d + 3 + ((cdT a).length + (cdT b).length + 1) = d + (cdT a).length + (cdT b).length + 1 + 3 by omega]
    refine m_wr0 wl (by omega) (by omega) (c := 10) (by rw [← Nat.add_assoc, ← Nat.add_assoc]; exact h9) (fun F1 w1 p1 => ?_)
    have fin2 : ∀ (F2 : Nat → Nat → Int32) (z : Int32) (v5 v6 : Value), z = b2i (isAdd b) → WTx F2 (pwd 11 (txT a false (opB br l))) → Pw F F2 → am_W kc_Model_writes (am_cl (d + (cdT a).length + (cdT b).length + 1 + 2)) Q 214 [.ref 82, .int (nI fr), .int (nI (o + (cdT a).length + (cdT b).length)), .int (b2i br), .int 10, v5, v6] [.int z, .int (nI (o + (cdT a).length + (cdT b).length - 1)), .int (nI fr), .ref 82] (ov h F2 J V) := by
      intro F2 z v5 v6 hz w2 p2
      subst hz
      simp only [ax0, ex_cons, am_get, upz_at, true_and, and_true, Nat.reduceAdd, Nat.reduceLeDiff, Nat.reduceEqDiff, Nat.reduceSub, Int32.reduceOfInt, Int32.reduceAdd, Int32.reduceMul, Int32.reduceSub, ↓reduceIte, Int32.reduceLT, Int32.reduceLE, Int32.reduceToNatClampNeg, Nat.reduceMod, Nat.reduceLT, List.length_cons, List.length_nil, eq_self, true_or, or_true, and_self, implies_true, not_true_eq_false, not_false_eq_true, false_implies, true_implies, forall_const, st_goto_wx, st_in4, jx_Model_writes_214, kb_Model_writes_214, oo_82, oa_82]
      rw [show d + (cdT a).length + (cdT b).length + 1 + 2 = (d + (cdT a).length) + 3 + (cdT b).length by omega]
      refine ihb (d := d + (cdT a).length) (o := o + (cdT a).length) hw.2 w2 (p2.wd wd) (by rw [p2.k, ← Nat.add_assoc]; exact hcb) (by rw [p2.st]; exact sp.2.1) (by omega) (by omega) (by rw [h8]; omega) (fun F3 w3 p3 => ?_)
      simp only [ax0, ex_cons, am_get, upz_at, true_and, and_true, Nat.reduceAdd, Nat.reduceLeDiff, Nat.reduceEqDiff, Nat.reduceSub, Int32.reduceOfInt, Int32.reduceAdd, Int32.reduceMul, Int32.reduceSub, ↓reduceIte, Int32.reduceLT, Int32.reduceLE, Int32.reduceToNatClampNeg, Nat.reduceMod, Nat.reduceLT, List.length_cons, List.length_nil, eq_self, true_or, or_true, and_self, implies_true, not_true_eq_false, not_false_eq_true, false_implies, true_implies, forall_const, st_goto_wx, st_in4, jx_Model_writes_214, kb_Model_writes_214, oo_82, oa_82]
      rw [show (d + (cdT a).length) + 3 + (cdT b).length = d + (cdT a).length + (cdT b).length + 1 + 2 by omega]
      exact m_wr217 w3 (by omega) (fun F4 w4 p4 => K F4 w4 ((p2.tr p3).tr p4))
    have fin3 : ∀ (F2 : Nat → Nat → Int32) (v5 : Int32) (v6 : Value), WTx F2 (pwd 11 (txT a false (opB br l))) → Pw F F2 → am_W kc_Model_writes (am_cl (d + (cdT a).length + (cdT b).length + 1 + 2)) Q 163 [.ref 82, .int (nI fr), .int (nI (o + (cdT a).length + (cdT b).length)), .int (b2i br), .int 10, .int v5, v6] [] (ov h F2 J V) := by
      intro F2 v5 v6 w2 p2
      simp only [ax0, ex_cons, am_get, upz_at, true_and, and_true, Nat.reduceAdd, Nat.reduceLeDiff, Nat.reduceEqDiff, Nat.reduceSub, Int32.reduceOfInt, Int32.reduceAdd, Int32.reduceMul, Int32.reduceSub, ↓reduceIte, Int32.reduceLT, Int32.reduceLE, Int32.reduceToNatClampNeg, Nat.reduceMod, Nat.reduceLT, List.length_cons, List.length_nil, eq_self, true_or, or_true, and_self, implies_true, not_true_eq_false, not_false_eq_true, false_implies, true_implies, forall_const, st_aloadx, st_getfieldx, st_gotox, st_goto_wx, st_iaddx, st_ialoadx, st_iconstx, st_if_icmpx, st_iloadx, st_istorex, st_isubx, am_put, am_nlg, jx_Model_writes_163, kb_Model_writes_163, og_82_2, jx_Model_writes_198, kb_Model_writes_198, jx_Model_writes_202, kb_Model_writes_202, jx_Model_writes_213, kb_Model_writes_213, oa_82, oa_84, or_84, show nI fr + nI (o + (cdT a).length + (cdT b).length) = nI (fr + (o + (cdT a).length + (cdT b).length)) from nk_add _ _, nk_sb (show 1 ≤ fr + (o + (cdT a).length + (cdT b).length) by omega), nk_neg (show fr + (o + (cdT a).length + (cdT b).length) - 1 < 2147483648 by omega), nk_cl (show fr + (o + (cdT a).length + (cdT b).length) - 1 < 2147483648 by omega), show fr + (o + (cdT a).length + (cdT b).length) - 1 < 2698 by omega, p2.k, show F 84 (fr + (o + (cdT a).length + (cdT b).length) - 1) = nI (opC b) by rw [← Nat.add_assoc, ← Nat.add_assoc]; exact hlb, nk_sb (show 1 ≤ o + (cdT a).length + (cdT b).length by omega), show (nI (opC b) ≤ (8 : Int32)) = (opC b ≤ 8) from nk_le (b := 8) (by omega) (by decide), show (nI (opC b) = (10 : Int32)) = (opC b = 10) from nk_eq (b := 10) (by omega) (by decide), isBin_op hw.2, isAdd_op hw.2]
      refine And.intro (fun q => ?_) (fun q => ?_)
      · exact fin2 F2 0 _ _ (by rw [Bool.not_eq_true] at q; rw [q]; rfl) w2 p2
      · exact fin2 F2 1 _ _ (by rw [Classical.not_not.mp q]; rfl) w2 p2
    have fin1 : ∀ (z : Int32) (v6 : Value), z = b2i (false) → am_W kc_Model_writes (am_cl (d + (cdT a).length + (cdT b).length + 1 + 2)) Q 129 [.ref 82, .int (nI fr), .int (nI (o + (cdT a).length + (cdT b).length)), .int (b2i br), .int 10, .int (nI (o + (cdT a).length - 1)), v6] [.int z, .int (nI (o + (cdT a).length - 1)), .int (nI fr), .ref 82] (ov h F1 J V) := by
      intro z v6 hz
      subst hz
      simp only [ax0, ex_cons, am_get, upz_at, true_and, and_true, Nat.reduceAdd, Nat.reduceLeDiff, Nat.reduceEqDiff, Nat.reduceSub, Int32.reduceOfInt, Int32.reduceAdd, Int32.reduceMul, Int32.reduceSub, ↓reduceIte, Int32.reduceLT, Int32.reduceLE, Int32.reduceToNatClampNeg, Nat.reduceMod, Nat.reduceLT, List.length_cons, List.length_nil, eq_self, true_or, or_true, and_self, implies_true, not_true_eq_false, not_false_eq_true, false_implies, true_implies, forall_const, st_aloadx, st_gotox, st_iconstx, st_if_icmpx, st_iloadx, st_in4, jx_Model_writes_129, kb_Model_writes_129, oo_82, oa_82]
      rw [show d + (cdT a).length + (cdT b).length + 1 + 2 = (d + (cdT b).length) + 3 + (cdT a).length by omega]
      refine iha (d := d + (cdT b).length) (o := o) hw.1 w1 (p1.wd wd) (by rw [p1.k]; exact hc.l.l) (by rw [p1.st]; exact sp.1) (by omega) (by omega) (by rw [h7]; omega) (fun F3 w3 p3 => ?_)
      rw [show (d + (cdT b).length) + 3 + (cdT a).length = d + (cdT a).length + (cdT b).length + 3 by omega]
      have p13 := p1.tr p3
      simp only [ax0, ex_cons, am_get, upz_at, true_and, and_true, Nat.reduceAdd, Nat.reduceLeDiff, Nat.reduceEqDiff, Nat.reduceSub, Int32.reduceOfInt, Int32.reduceAdd, Int32.reduceMul, Int32.reduceSub, ↓reduceIte, Int32.reduceLT, Int32.reduceLE, Int32.reduceToNatClampNeg, Nat.reduceMod, Nat.reduceLT, List.length_cons, List.length_nil, eq_self, true_or, or_true, and_self, implies_true, not_true_eq_false, not_false_eq_true, false_implies, true_implies, forall_const, st_aloadx, st_gotox, st_goto_wx, st_iconstx, st_if_icmpx, st_iloadx, st_in2, st_in4, jx_Model_writes_129, kb_Model_writes_129, oo_82, jx_Model_writes_145, kb_Model_writes_145, jx_Model_writes_147, kb_Model_writes_147, oa_82]
      refine m_writesWord (w := 11) w3 (p13.wd wd) (by decide) (by decide) (by omega) (fun F4 w4 p4 => ?_)
      simp only [ax0, ex_cons, am_get, upz_at, true_and, and_true, Nat.reduceAdd, Nat.reduceLeDiff, Nat.reduceEqDiff, Nat.reduceSub, Int32.reduceOfInt, Int32.reduceAdd, Int32.reduceMul, Int32.reduceSub, ↓reduceIte, Int32.reduceLT, Int32.reduceLE, Int32.reduceToNatClampNeg, Nat.reduceMod, Nat.reduceLT, List.length_cons, List.length_nil, eq_self, true_or, or_true, and_self, implies_true, not_true_eq_false, not_false_eq_true, false_implies, true_implies, forall_const, st_aloadx, st_goto_wx, st_iconstx, st_if_icmpx, st_iloadx, st_in2, jx_Model_writes_147, kb_Model_writes_147, oo_82, oa_82]
      exact fin3 F4 _ _ w4 (p13.tr p4)
    simp only [show nI 10 = (10 : Int32) from rfl, ax0, ex_cons, am_get, upz_at, true_and, and_true, Nat.reduceAdd, Nat.reduceLeDiff, Nat.reduceEqDiff, Nat.reduceSub, Int32.reduceOfInt, Int32.reduceAdd, Int32.reduceMul, Int32.reduceSub, ↓reduceIte, Int32.reduceLT, Int32.reduceLE, Int32.reduceToNatClampNeg, Nat.reduceMod, Nat.reduceLT, List.length_cons, List.length_nil, eq_self, true_or, or_true, and_self, implies_true, not_true_eq_false, not_false_eq_true, false_implies, true_implies, forall_const, st_aloadx, st_getfieldx, st_gotox, st_goto_wx, st_iaddx, st_ialoadx, st_iconstx, st_if_icmpx, st_iloadx, st_in2, st_istorex, st_isubx, am_put, am_nlg, jx_Model_writes_24, kb_Model_writes_24, oo_82, jx_Model_writes_43, kb_Model_writes_43, og_82_2, jx_Model_writes_87, kb_Model_writes_87, og_82_26, jx_Model_writes_128, kb_Model_writes_128, oa_82, oa_84, or_84, oa_96, or_96, nk_sb (show 1 ≤ o + (cdT a).length + (cdT b).length by omega), nk_neg (show o + (cdT a).length + (cdT b).length - 1 < 2147483648 by omega), nk_cl (show o + (cdT a).length + (cdT b).length - 1 < 2147483648 by omega), show o + (cdT a).length + (cdT b).length - 1 < 260 by omega, p1.st, slb, nk_sb (show 1 ≤ o + (cdT a).length by omega), show nI fr + nI (o + (cdT a).length - 1) = nI (fr + (o + (cdT a).length - 1)) from nk_add _ _, nk_neg (show fr + (o + (cdT a).length - 1) < 2147483648 by omega), nk_cl (show fr + (o + (cdT a).length - 1) < 2147483648 by omega), show fr + (o + (cdT a).length - 1) < 2698 by omega, p1.k, show F 84 (fr + (o + (cdT a).length - 1)) = nI (opC a) by rw [show fr + (o + (cdT a).length - 1) = fr + o + (cdT a).length - 1 by omega]; exact hla, show (nI (opC a) = (10 : Int32)) = (opC a = 10) from nk_eq (b := 10) (by omega) (by decide), isAdd_op hw.1]
    exact fin1 0 _ rfl
  | num _ => intro d F Q o br l hw; exact hw.elim
  | mulL _ _ _ => intro d F Q o br l hw; exact hw.elim
  | mulR _ _ _ => intro d F Q o br l hw; exact hw.elim
end MWS
