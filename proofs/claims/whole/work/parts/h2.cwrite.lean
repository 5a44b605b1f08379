/-! ===== the class: writing ===== -/
def WX (F : Nat → Nat → Int32) (l : List Nat) : Prop := F 32 1 = nI l.length ∧ (∀ i, i < l.length → F 33 i = nI (l.getD i 0)) ∧ l.length ≤ 512 ∧ ∀ i, i < l.length → l.getD i 0 < 128
def Wf (F F' : Nat → Nat → Int32) : Prop := ∀ x, x ≠ 32 → x ≠ 33 → F' x = F x
theorem Wf.rf {F : Nat → Nat → Int32} : Wf F F := fun _ _ _ => rfl
theorem Wf.tr {F F1 F2 : Nat → Nat → Int32} (a : Wf F F1) (b : Wf F1 F2) : Wf F F2 := fun x h1 h2 => (b x h1 h2).trans (a x h1 h2)
theorem TN.wf {F F' : Nat → Nat → Int32} {t : eT} {k i : Nat} (h : TN F t k i) (w : Wf F F') : TN F' t k i := h.cg t (fun a a1 a2 j _ => by rw [w a (by omega) (by omega)])
/-- the signs of a string -/
def sgA (a : Nat) : List Nat := [[40], [41], [97, 108, 108], [97, 114, 101], [97, 114, 101, 32, 110, 111, 116], [98, 117, 116], [105, 115], [105, 115, 32, 110, 111, 116], [110, 111], [110, 111, 110, 101], [110, 111, 110, 101, 32, 98, 117, 116], [110, 111, 116], [111, 110, 108, 121], [111, 114], [115, 111, 109, 101], [116, 104, 101, 114, 101], [116, 104, 101, 114, 101, 32, 97, 114, 101], [116, 104, 101, 114, 101, 32, 97, 114, 101, 32, 110, 111], [119, 104, 111], [119, 104, 111, 32, 97, 114, 101]].getD (a - 3) []
theorem sgA_dec : ∀ a : Fin 23, 3 ≤ a.val → (st_byt.getD (a.val - 3) []).length = (sgA a.val).length ∧ (sgA a.val).length ≤ 12 ∧ ∀ i : Fin 12, i.val < (sgA a.val).length → (st_byt.getD (a.val - 3) []).getD i.val 0 = nI ((sgA a.val).getD i.val 0) ∧ (sgA a.val).getD i.val 0 < 128 := by decide +kernel
theorem sgA_w : ∀ a : Fin 23, 5 ≤ a.val → wcA a.val ≠ 0 → sgA a.val = wdS (wcA a.val) := by decide +kernel
theorem app_take {l cs : List Nat} {k : Nat} (hk : k < cs.length) : l ++ cs.take (k + 1) = l ++ cs.take k ++ [cs.getD k 0] := by
  rw [tk_S hk, List.append_assoc]
theorem i2c_nI {c : Nat} (h : c < 128) : ((nI c).toUInt32 % 65536).toInt32 = nI c := (by decide +kernel : ∀ c : Fin 128, ((nI c.val).toUInt32 % 65536).toInt32 = nI c.val) ⟨c, h⟩
theorem i2b_nI {c : Nat} (h : c < 128) : (nI c).toInt8.toInt32 = nI c := (by decide +kernel : ∀ c : Fin 128, (nI c.val).toInt8.toInt32 = nI c.val) ⟨c, h⟩
theorem WX.app {F F' : Nat → Nat → Int32} {l : List Nat} {c : Nat} (h : WX F l) (hl : l.length < 512) (hc : c < 128) (e1 : F' 32 1 = nI (l.length + 1)) (e2 : F' 33 = upz (F 33) l.length (nI c)) : WX F' (l ++ [c]) := by
  have len : (l ++ [c]).length = l.length + 1 := by rw [List.length_append]; rfl
  refine ⟨by rw [len]; exact e1, fun i hi => ?_, by rw [len]; omega, fun i hi => ?_⟩
  · rw [gD_app, e2]
    by_cases z : i = l.length
    · rw [if_pos z, z, upz_eq]
    · rw [if_neg z, upz_ne _ _ z]; exact h.2.1 i (by rw [len] at hi; omega)
  · rw [gD_app]
    by_cases z : i = l.length
    · rw [if_pos z]; exact hc
    · rw [if_neg z]; exact h.2.2.2 i (by rw [len] at hi; omega)
section CWR
variable {d : Nat} {h : am_H} {F : Nat → Nat → Int32} {J : Nat → Nat → Int64} {V : Nat → Nat → Value} {Q : am_Q}
set_option maxRecDepth 20000 in
theorem c_putSign {l : List Nat} {c : Nat} (hW : WX F l) (hl : l.length < 512) (hc : c < 128) (K : ∀ F', Wf F F' → WX F' (l ++ [c]) → Q none (ov h F' J V)) : am_cl (d + 1) 169 [.ref 32, .int (nI c)] (ov h F J V) Q := by
  simp only [isO_c, ax0, ex_cons, am_get, upz_at, true_and, and_true, Nat.reduceAdd, Nat.reduceLeDiff, Nat.reduceEqDiff, Nat.reduceSub, Int32.reduceOfInt, Int32.reduceAdd, Int32.reduceMul, Int32.reduceSub, ↓reduceIte, Int32.reduceLT, Int32.reduceLE, Int32.reduceToNatClampNeg, Nat.reduceMod, Nat.reduceLT, List.length_cons, List.length_nil, eq_self, true_or, or_true, and_self, implies_true, not_true_eq_false, not_false_eq_true, false_implies, true_implies, forall_const, st_aloadx, st_bastorex, st_dupx, st_dup_1x, st_getfieldx, st_goto_wx, st_i2bx, st_iaddx, st_iconstx, st_if_icmpx, st_iloadx, st_putfieldx, st_return_x, kb_Writer_putSign_0, og_32_1, og_32_0, op_32_1, jx_Writer_putSign_31, kb_Writer_putSign_31, oa_32, os_32, oa_33, ow_33, os_33, cx_Writer_putSign, hW.1, show ((512 : Int32) ≤ nI (l.length)) = (512 ≤ l.length) from nk_le (a := 512) (b := l.length) (by omega) (by omega), show ¬ 512 ≤ l.length by omega, i2b_nI hc, nk_neg (show l.length < 2147483648 by omega), nk_cl (show l.length < 2147483648 by omega), hl, nk_succ]
  refine K _ (fun x x1 x2 => by rw [upz_ne _ _ x1, upz_ne _ _ x2]) (hW.app hl hc (by rw [upz_eq, upz_eq]) (by rw [upz_ne _ _ (by decide), upz_eq]))
set_option maxRecDepth 20000 in
theorem c_putBlank {l : List Nat} (hW : WX F l) (hl : (blk l).length ≤ 512) (K : ∀ F', Wf F F' → WX F' (blk l) → Q none (ov h F' J V)) : am_cl (d + 2) 170 [.ref 32] (ov h F J V) Q := by
  obtain ⟨w1, w2, w3, w4⟩ := id hW
  unfold blk at hl K
  simp only [isO_c, ax0, ex_cons, am_get, upz_at, true_and, and_true, Nat.reduceAdd, Nat.reduceLeDiff, Nat.reduceEqDiff, Nat.reduceSub, Int32.reduceOfInt, Int32.reduceAdd, Int32.reduceMul, Int32.reduceSub, ↓reduceIte, Int32.reduceLT, Int32.reduceLE, Int32.reduceToNatClampNeg, Nat.reduceMod, Nat.reduceLT, List.length_cons, List.length_nil, eq_self, true_or, or_true, and_self, implies_true, not_true_eq_false, not_false_eq_true, false_implies, true_implies, forall_const, st_aloadx, st_baloadx, st_getfieldx, st_goto_wx, st_iconstx, st_ifCondx, st_if_icmpx, st_in2, st_isubx, st_return_x, kb_Writer_putBlank_0, og_32_1, og_32_0, oo_32, jx_Writer_putBlank_39, kb_Writer_putBlank_39, oa_32, oa_33, or_33, cx_Writer_putBlank, w1, show (nI l.length ≤ (0 : Int32)) = (l.length ≤ 0) from nk_le (b := 0) (by omega) (by decide), show ((512 : Int32) < nI l.length) = (512 < l.length) from nk_lt (a := 512) (by decide) (by omega), show ¬ 512 < l.length by omega]
  refine ⟨fun z => ?_, fun z => ?_⟩
  · rw [if_pos (Or.inl (show l.length = 0 by omega))] at K
    exact K F Wf.rf hW
  · have e1 : nI l.length - (1 : Int32) = nI (l.length - 1) := nk_sub (b := 1) (by omega)
    have hlt := w4 (l.length - 1) (by omega)
    simp only [e1, nk_neg (show l.length - 1 < 2147483648 by omega), nk_cl (show l.length - 1 < 2147483648 by omega), w2 (l.length - 1) (by omega), show (nI (l.getD (l.length - 1) 0) = (40 : Int32)) = (l.getD (l.length - 1) 0 = 40) from nk_eq (b := 40) (by omega) (by decide)]
    refine ⟨⟨id, by omega⟩, fun y => ?_, fun y => ?_⟩
    · rw [if_pos (Or.inr y)] at K
      exact K F Wf.rf hW
    · have no : ¬ (l.length = 0 ∨ l.getD (l.length - 1) 0 = 40) := fun t => t.elim (fun t => by omega) y
      rw [if_neg no] at K hl
      rw [List.length_append] at hl
      have hl : l.length + 1 ≤ 512 := hl
      refine c_putSign (c := 32) hW (by omega) (by decide) (fun F1 f1 W1 => ?_)
      simp only [isO_c, ax0, ex_cons, am_get, upz_at, true_and, and_true, Nat.reduceAdd, Nat.reduceLeDiff, Nat.reduceEqDiff, Nat.reduceSub, Int32.reduceOfInt, Int32.reduceAdd, Int32.reduceMul, Int32.reduceSub, ↓reduceIte, Int32.reduceLT, Int32.reduceLE, Int32.reduceToNatClampNeg, Nat.reduceMod, Nat.reduceLT, List.length_cons, List.length_nil, eq_self, true_or, or_true, and_self, implies_true, not_true_eq_false, not_false_eq_true, false_implies, true_implies, forall_const, st_aloadx, st_baloadx, st_getfieldx, st_goto_wx, st_iconstx, st_ifCondx, st_if_icmpx, st_in2, st_isubx, st_return_x, kb_Writer_putBlank_0, og_32_1, og_32_0, oo_32, jx_Writer_putBlank_39, kb_Writer_putBlank_39, oa_32, oa_33, or_33]
      exact K F1 f1 W1
set_option maxRecDepth 20000 in
theorem c_putWord {l : List Nat} {a : Nat} (hs : HS h) (h3 : 3 ≤ a) (ha : a < 23) (hW : WX F l) (hl : (blk l ++ sgA a).length ≤ 512) (K : ∀ F', Wf F F' → WX F' (blk l ++ sgA a) → Q none (ov h F' J V)) : am_cl (d + 3) 171 [.ref 32, .ref a] (ov h F J V) Q := by
  obtain ⟨s1, s2, s3⟩ := sgA_dec ⟨a, ha⟩ h3
  have s1 : (st_byt.getD (a - 3) []).length = (sgA a).length := s1
  have s2 : (sgA a).length ≤ 12 := s2
  have hsa : ∀ (F : Nat → Nat → Int32), (ov h F J V).1 a = aI 9 (st_byt.getD (a - 3) []) := fun F => by rw [ov_hi (by omega)]; exact hs a h3 ha
  have hll := hl
  rw [List.length_append] at hll
  simp only [isO_c, ax0, ex_cons, am_get, upz_at, true_and, and_true, Nat.reduceAdd, Nat.reduceLeDiff, Nat.reduceEqDiff, Nat.reduceSub, Int32.reduceOfInt, Int32.reduceAdd, Int32.reduceMul, Int32.reduceSub, ↓reduceIte, Int32.reduceLT, Int32.reduceLE, Int32.reduceToNatClampNeg, Nat.reduceMod, Nat.reduceLT, List.length_cons, List.length_nil, eq_self, true_or, or_true, and_self, implies_true, not_true_eq_false, not_false_eq_true, false_implies, true_implies, forall_const, st_aloadx, st_goto_wx, st_iconstx, st_in1, st_istorex, am_put, am_nlg, kb_Writer_putWord_0, oo_32, oa_32, cx_Writer_putWord]
  refine c_putBlank hW (by omega) (fun F1 f1 W1 => ?_)
  simp only [isO_c, ax0, ex_cons, am_get, upz_at, true_and, and_true, Nat.reduceAdd, Nat.reduceLeDiff, Nat.reduceEqDiff, Nat.reduceSub, Int32.reduceOfInt, Int32.reduceAdd, Int32.reduceMul, Int32.reduceSub, ↓reduceIte, Int32.reduceLT, Int32.reduceLE, Int32.reduceToNatClampNeg, Nat.reduceMod, Nat.reduceLT, List.length_cons, List.length_nil, eq_self, true_or, or_true, and_self, implies_true, not_true_eq_false, not_false_eq_true, false_implies, true_implies, forall_const, st_aloadx, st_goto_wx, st_iconstx, st_in1, st_istorex, am_put, am_nlg, kb_Writer_putWord_0, oo_32, oa_32]
  have key : ∀ j k F2, k + j = (sgA a).length → Wf F F2 → WX F2 (blk l ++ (sgA a).take k) → am_W kc_Writer_putWord (am_cl (d + 2)) Q 6 [.ref 32, .ref a, .int (nI k)] [] (ov h F2 J V) := by
    intro j
    induction j with
    | zero =>
      intro k F2 ek f2 W2
      have ek : k = (sgA a).length := ek
      rw [ek, List.take_length] at W2
      rw [jx_Writer_putWord_6]
      simp only [isO_c, ax0, ex_cons, am_get, upz_at, true_and, and_true, Nat.reduceAdd, Nat.reduceLeDiff, Nat.reduceEqDiff, Nat.reduceSub, Int32.reduceOfInt, Int32.reduceAdd, Int32.reduceMul, Int32.reduceSub, ↓reduceIte, Int32.reduceLT, Int32.reduceLE, Int32.reduceToNatClampNeg, Nat.reduceMod, Nat.reduceLT, List.length_cons, List.length_nil, eq_self, true_or, or_true, and_self, implies_true, not_true_eq_false, not_false_eq_true, false_implies, true_implies, forall_const, st_aloadx, st_caloadx, st_gotox, st_if_icmpx, st_iincx, st_iloadx, st_in2, st_return_x, st_saloadx, am_put, am_nlg, kb_Writer_putWord_6, oo_32, jx_Writer_putWord_29, kb_Writer_putWord_29, oa_32, ha, hsa, sl9 (show (st_byt.getD (a - 3) []).length < 1000 by omega), s1, (nk_le (by omega) (by omega) : (nI ((sgA a).length) ≤ nI (k)) = ((sgA a).length ≤ k)), show (sgA a).length ≤ k by omega]
      exact K F2 f2 W2
    | succ j ih =>
      intro k F2 ek f2 W2
      obtain ⟨c1, c2⟩ := s3 ⟨k, by omega⟩ (by show k < (sgA a).length; omega)
      have c1 : (st_byt.getD (a - 3) []).getD k 0 = nI ((sgA a).getD k 0) := c1
      have len : (blk l ++ (sgA a).take k).length = (blk l).length + k := by rw [List.length_append, List.length_take]; omega
      rw [jx_Writer_putWord_6]
      simp only [isO_c, ax0, ex_cons, am_get, upz_at, true_and, and_true, Nat.reduceAdd, Nat.reduceLeDiff, Nat.reduceEqDiff, Nat.reduceSub, Int32.reduceOfInt, Int32.reduceAdd, Int32.reduceMul, Int32.reduceSub, ↓reduceIte, Int32.reduceLT, Int32.reduceLE, Int32.reduceToNatClampNeg, Nat.reduceMod, Nat.reduceLT, List.length_cons, List.length_nil, eq_self, true_or, or_true, and_self, implies_true, not_true_eq_false, not_false_eq_true, false_implies, true_implies, forall_const, st_aloadx, st_caloadx, st_gotox, st_if_icmpx, st_iincx, st_iloadx, st_in2, st_saloadx, am_put, am_nlg, kb_Writer_putWord_6, oo_32, oa_32, ha, hsa, sl9 (show (st_byt.getD (a - 3) []).length < 1000 by omega), s1, (nk_le (by omega) (by omega) : (nI ((sgA a).length) ≤ nI (k)) = ((sgA a).length ≤ k)), show ¬ (sgA a).length ≤ k by omega, sc9, nk_neg (show k < 2147483648 by omega), nk_cl (show k < 2147483648 by omega), show k < (sgA a).length by omega, c1]
      refine c_putSign W2 (by rw [len]; omega) c2 (fun F3 f3 W3 => ?_)
      simp only [isO_c, ax0, ex_cons, am_get, upz_at, true_and, and_true, Nat.reduceAdd, Nat.reduceLeDiff, Nat.reduceEqDiff, Nat.reduceSub, Int32.reduceOfInt, Int32.reduceAdd, Int32.reduceMul, Int32.reduceSub, ↓reduceIte, Int32.reduceLT, Int32.reduceLE, Int32.reduceToNatClampNeg, Nat.reduceMod, Nat.reduceLT, List.length_cons, List.length_nil, eq_self, true_or, or_true, and_self, implies_true, not_true_eq_false, not_false_eq_true, false_implies, true_implies, forall_const, st_aloadx, st_caloadx, st_gotox, st_if_icmpx, st_iincx, st_iloadx, st_in2, st_saloadx, am_put, am_nlg, kb_Writer_putWord_6, oo_32, oa_32, nk_succ]
      refine ih (k + 1) F3 (by omega) (f2.tr f3) ?_
      rw [app_take (show k < (sgA a).length by omega)]
      exact W3
  refine key (sgA a).length 0 F1 (by omega) f1 ?_
  rw [List.take_zero, List.append_nil]
  exact W1
end CWR
theorem sgA_pwd {a : Nat} (h5 : 5 ≤ a) (ha : a < 23) (hz : wcA a ≠ 0) (l : List Nat) : blk l ++ sgA a = pwd (wcA a) l := by
  unfold pwd
  rw [show sgA a = wdS (wcA a) from sgA_w ⟨a, ha⟩ h5 hz]
/-- a word behind a word -/
theorem pwd2 {w1 w2 : Nat} (h : 1 ≤ (wdS w1).length ∧ (wdS w1).getD ((wdS w1).length - 1) 0 ≠ 40) (l : List Nat) : pwd w2 (pwd w1 l) = blk l ++ (wdS w1 ++ [32] ++ wdS w2) := by
  have e : blk (blk l ++ wdS w1) = blk l ++ wdS w1 ++ [32] := by
    show (if (blk l ++ wdS w1).length = 0 ∨ (blk l ++ wdS w1).getD ((blk l ++ wdS w1).length - 1) 0 = 40 then _ else _) = _
    rw [if_neg]
    rintro (z | z)
    · rw [List.length_append] at z; omega
    · rw [List.length_append, List.getD_eq_getElem?_getD, List.getElem?_append_right (by omega)] at z
      rw [show (blk l).length + (wdS w1).length - 1 - (blk l).length = (wdS w1).length - 1 by omega, ← List.getD_eq_getElem?_getD] at z
      exact h.2 z
  unfold pwd
  rw [e, List.append_assoc, List.append_assoc, List.append_assoc]
theorem sg22 (l : List Nat) : blk l ++ sgA 22 = pwd 7 (pwd 12 l) := by rw [pwd2 (by decide)]; rfl
theorem sg10 (l : List Nat) : blk l ++ sgA 10 = pwd 8 (pwd 10 l) := by rw [pwd2 (by decide)]; rfl
theorem sg7 (l : List Nat) : blk l ++ sgA 7 = pwd 8 (pwd 7 l) := by rw [pwd2 (by decide)]; rfl
theorem sg13 (l : List Nat) : blk l ++ sgA 13 = pwd 6 (pwd 5 l) := by rw [pwd2 (by decide)]; rfl
theorem sg19 (l : List Nat) : blk l ++ sgA 19 = pwd 7 (pwd 9 l) := by rw [pwd2 (by decide)]; rfl
theorem sg20 (l : List Nat) : blk l ++ sgA 20 = pwd 2 (pwd 7 (pwd 9 l)) := by
  rw [pwd2 (by decide)]
  have e : blk (pwd 9 l) = blk l ++ wdS 9 ++ [32] := by
    have := pwd2 (w1 := 9) (w2 := 7) (by decide) l
    unfold pwd at this ⊢
    rw [← List.append_assoc, ← List.append_assoc] at this
    exact List.append_cancel_right this
  rw [e, List.append_assoc, List.append_assoc]
  rfl
