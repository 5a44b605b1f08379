/-! ===== the class: sentences are read ===== -/
def fmR (R : rT) : Nat := if R.1 = 10 then 6 else if R.1 = 9 then 5 else R.1 - 1
def RPr (F : Nat → Nat → Int32) (R : rT) : Prop := F 24 5 = nI (fmR R) ∧ F 24 6 = nmI R ∧ F 24 7 = b2i R.2.1 ∧ ∃ cnt, F 26 5 = nI cnt ∧ cnt ≤ 48 ∧ if R.1 < 9 then ∃ i1 i2, F 24 8 = nI i1 ∧ F 24 9 = nI i2 ∧ TN F R.2.2.2.1 0 i1 ∧ TN F R.2.2.2.2 0 i2 ∧ i1 < cnt ∧ i2 < cnt else ∃ i1, F 24 8 = nI i1 ∧ F 24 9 = -1 ∧ TN F R.2.2.2.2 0 i1 ∧ i1 < cnt
def Pf (F F' : Nat → Nat → Int32) : Prop := (∀ x, x < 24 ∨ x = 25 ∨ 30 < x → F' x = F x) ∧ F' 24 1 = F 24 1 ∧ F' 24 2 = F 24 2
theorem Pf.rf {F : Nat → Nat → Int32} : Pf F F := ⟨fun _ _ => rfl, rfl, rfl⟩
theorem Pf.tr {F F1 F2 : Nat → Nat → Int32} (a : Pf F F1) (b : Pf F1 F2) : Pf F F2 := ⟨fun x hx => (b.1 x hx).trans (a.1 x hx), b.2.1.trans a.2.1, b.2.2.trans a.2.2⟩
theorem Tf.pf {c0 : Nat} {F F' : Nat → Nat → Int32} (a : Tf c0 F F') : Pf F F' := ⟨a.1, a.2.1 1 (by decide) (by decide) (by decide), a.2.1 2 (by decide) (by decide) (by decide)⟩
theorem Rs.pf {F F' : Nat → Nat → Int32} (a : Rs F F') : Pf F F' := (a.tf 0).pf
theorem Pf.up {F F' : Nat → Nat → Int32} (a : Pf F F') {i : Nat} (hi : 3 ≤ i) (v : Int32) : Pf F (upz F' 24 (upz (F' 24) i v)) := a.tr ⟨fun x hx => upz_ne _ _ (by omega), by rw [upz_eq, upz_ne _ _ (by omega)], by rw [upz_eq, upz_ne _ _ (by omega)]⟩
theorem RT.pf {t : Nat → Int32} {n : Nat} {F F' : Nat → Nat → Int32} (h : RT t n F) (s : Pf F F') : RT t n F' := ⟨by rw [s.2.1]; exact h.1, h.2.1, by rw [s.1 25 (by decide)]; exact h.2.2⟩
theorem AT.up {t : Nat → Int32} {n k : Nat} {F : Nat → Nat → Int32} (h : AT t n F k) {i : Nat} (hi : 5 ≤ i) (v : Int32) : AT t n (upz F 24 (upz (F 24) i v)) k := ⟨h.1, by rw [upz_eq, upz_ne _ _ (by omega)]; exact h.2.1, by rw [upz_eq, upz_ne _ _ (by omega)]; exact h.2.2⟩
/-- a write into the reader: what the other fields are -/
theorem u24 {F : Nat → Nat → Int32} {i j : Nat} {v : Int32} (h : j ≠ i) : upz F 24 (upz (F 24) i v) 24 j = F 24 j := by rw [upz_eq, upz_ne _ _ h]
theorem u24e {F : Nat → Nat → Int32} {i : Nat} {v : Int32} : upz F 24 (upz (F 24) i v) 24 i = v := by rw [upz_eq, upz_eq]
theorem u24x {F : Nat → Nat → Int32} {i x : Nat} {v : Int32} (h : x ≠ 24) : upz F 24 (upz (F 24) i v) x = F x := upz_ne _ _ h
theorem TN.up {F : Nat → Nat → Int32} {t : eT} {k j i : Nat} {v : Int32} (h : TN F t k j) : TN (upz F 24 (upz (F 24) i v)) t k j := h.cg t (fun a a1 a2 j _ => by rw [u24x (by omega)])
section CPA
variable {d : Nat} {h : am_H} {F : Nat → Nat → Int32} {J : Nat → Nat → Int64} {V : Nat → Nat → Value} {Q : am_Q}
set_option maxRecDepth 20000 in
theorem c_formHere {t : Nat → Int32} {n k : Nat} (hs : HS h) (hR : RT t n F) (hb : byT t n) (hA : AT t n F k) (K : Q (some (.int (if 1 ≤ cdL (tkA t n) k ∧ cdL (tkA t n) k ≤ 5 then nI (cdL (tkA t n) k - 1) else -1))) (ov h F J V)) : am_cl (d + 2) 114 [.ref 24] (ov h F J V) Q := by
  have go : ∀ w a, wcA a = w → w ≠ 0 → 3 ≤ a → a < 23 → ∀ {Q' : am_Q}, (cdL (tkA t n) k = w → Q' (some (.int 1)) (ov h F J V)) → (¬ cdL (tkA t n) k = w → Q' (some (.int 0)) (ov h F J V)) → am_cl (d + 1) 119 [.ref 24, .ref a] (ov h F J V) Q' := by
    intro w a e1 e2 e3 e4 Q' k1 k0
    subst e1
    refine c_isAtA hs hR hb hA e3 e4 e2 ?_
    by_cases z : cdL (tkA t n) k = wcA a
    · rw [decide_eq_true z]; exact k1 z
    · rw [decide_eq_false z]; exact k0 z
  simp only [isO_c, ax0, ex_cons, am_get, upz_at, true_and, and_true, Nat.reduceAdd, Nat.reduceLeDiff, Nat.reduceEqDiff, Nat.reduceSub, Int32.reduceOfInt, Int32.reduceAdd, Int32.reduceMul, Int32.reduceSub, ↓reduceIte, Int32.reduceLT, Int32.reduceLE, Int32.reduceToNatClampNeg, Nat.reduceMod, Nat.reduceLT, List.length_cons, List.length_nil, eq_self, true_or, or_true, and_self, implies_true, not_true_eq_false, not_false_eq_true, false_implies, true_implies, forall_const, st_aloadx, st_iconstx, st_ifCondx, st_in2, st_ireturnx, st_ldcx, kb_Reader_formHere_0, oo_24, oa_24, cx_Reader_formHere]
  refine go 1 5 rfl (by decide) (by decide) (by decide) (fun z => ?_) (fun z1 => ?_)
  · simp only [isO_c, ax0, ex_cons, am_get, upz_at, true_and, and_true, Nat.reduceAdd, Nat.reduceLeDiff, Nat.reduceEqDiff, Nat.reduceSub, Int32.reduceOfInt, Int32.reduceAdd, Int32.reduceMul, Int32.reduceSub, ↓reduceIte, Int32.reduceLT, Int32.reduceLE, Int32.reduceToNatClampNeg, Nat.reduceMod, Nat.reduceLT, List.length_cons, List.length_nil, eq_self, true_or, or_true, and_self, implies_true, not_true_eq_false, not_false_eq_true, false_implies, true_implies, forall_const, st_aloadx, st_iconstx, st_ifCondx, st_in2, st_ireturnx, st_ldcx, kb_Reader_formHere_0, oo_24, oa_24]
    rw [z] at K; exact K
  simp only [isO_c, ax0, ex_cons, am_get, upz_at, true_and, and_true, Nat.reduceAdd, Nat.reduceLeDiff, Nat.reduceEqDiff, Nat.reduceSub, Int32.reduceOfInt, Int32.reduceAdd, Int32.reduceMul, Int32.reduceSub, ↓reduceIte, Int32.reduceLT, Int32.reduceLE, Int32.reduceToNatClampNeg, Nat.reduceMod, Nat.reduceLT, List.length_cons, List.length_nil, eq_self, true_or, or_true, and_self, implies_true, not_true_eq_false, not_false_eq_true, false_implies, true_implies, forall_const, st_aloadx, st_iconstx, st_ifCondx, st_in2, st_ireturnx, st_ldcx, kb_Reader_formHere_0, oo_24, jx_Reader_formHere_11, kb_Reader_formHere_11, oa_24]
  refine go 2 11 rfl (by decide) (by decide) (by decide) (fun z => ?_) (fun z2 => ?_)
  · simp only [isO_c, ax0, ex_cons, am_get, upz_at, true_and, and_true, Nat.reduceAdd, Nat.reduceLeDiff, Nat.reduceEqDiff, Nat.reduceSub, Int32.reduceOfInt, Int32.reduceAdd, Int32.reduceMul, Int32.reduceSub, ↓reduceIte, Int32.reduceLT, Int32.reduceLE, Int32.reduceToNatClampNeg, Nat.reduceMod, Nat.reduceLT, List.length_cons, List.length_nil, eq_self, true_or, or_true, and_self, implies_true, not_true_eq_false, not_false_eq_true, false_implies, true_implies, forall_const, st_aloadx, st_iconstx, st_ifCondx, st_in2, st_ireturnx, st_ldcx, jx_Reader_formHere_11, kb_Reader_formHere_11, oo_24, oa_24]
    rw [z] at K; exact K
  simp only [isO_c, ax0, ex_cons, am_get, upz_at, true_and, and_true, Nat.reduceAdd, Nat.reduceLeDiff, Nat.reduceEqDiff, Nat.reduceSub, Int32.reduceOfInt, Int32.reduceAdd, Int32.reduceMul, Int32.reduceSub, ↓reduceIte, Int32.reduceLT, Int32.reduceLE, Int32.reduceToNatClampNeg, Nat.reduceMod, Nat.reduceLT, List.length_cons, List.length_nil, eq_self, true_or, or_true, and_self, implies_true, not_true_eq_false, not_false_eq_true, false_implies, true_implies, forall_const, st_aloadx, st_iconstx, st_ifCondx, st_in2, st_ireturnx, st_ldcx, jx_Reader_formHere_11, kb_Reader_formHere_11, oo_24, jx_Reader_formHere_22, kb_Reader_formHere_22, oa_24]
  refine go 3 17 rfl (by decide) (by decide) (by decide) (fun z => ?_) (fun z3 => ?_)
  · simp only [isO_c, ax0, ex_cons, am_get, upz_at, true_and, and_true, Nat.reduceAdd, Nat.reduceLeDiff, Nat.reduceEqDiff, Nat.reduceSub, Int32.reduceOfInt, Int32.reduceAdd, Int32.reduceMul, Int32.reduceSub, ↓reduceIte, Int32.reduceLT, Int32.reduceLE, Int32.reduceToNatClampNeg, Nat.reduceMod, Nat.reduceLT, List.length_cons, List.length_nil, eq_self, true_or, or_true, and_self, implies_true, not_true_eq_false, not_false_eq_true, false_implies, true_implies, forall_const, st_aloadx, st_iconstx, st_ifCondx, st_in2, st_ireturnx, st_ldcx, jx_Reader_formHere_22, kb_Reader_formHere_22, oo_24, oa_24]
    rw [z] at K; exact K
  simp only [isO_c, ax0, ex_cons, am_get, upz_at, true_and, and_true, Nat.reduceAdd, Nat.reduceLeDiff, Nat.reduceEqDiff, Nat.reduceSub, Int32.reduceOfInt, Int32.reduceAdd, Int32.reduceMul, Int32.reduceSub, ↓reduceIte, Int32.reduceLT, Int32.reduceLE, Int32.reduceToNatClampNeg, Nat.reduceMod, Nat.reduceLT, List.length_cons, List.length_nil, eq_self, true_or, or_true, and_self, implies_true, not_true_eq_false, not_false_eq_true, false_implies, true_implies, forall_const, st_aloadx, st_iconstx, st_ifCondx, st_in2, st_ireturnx, st_ldcx, jx_Reader_formHere_22, kb_Reader_formHere_22, oo_24, jx_Reader_formHere_33, kb_Reader_formHere_33, oa_24]
  refine go 4 15 rfl (by decide) (by decide) (by decide) (fun z => ?_) (fun z4 => ?_)
  · simp only [isO_c, ax0, ex_cons, am_get, upz_at, true_and, and_true, Nat.reduceAdd, Nat.reduceLeDiff, Nat.reduceEqDiff, Nat.reduceSub, Int32.reduceOfInt, Int32.reduceAdd, Int32.reduceMul, Int32.reduceSub, ↓reduceIte, Int32.reduceLT, Int32.reduceLE, Int32.reduceToNatClampNeg, Nat.reduceMod, Nat.reduceLT, List.length_cons, List.length_nil, eq_self, true_or, or_true, and_self, implies_true, not_true_eq_false, not_false_eq_true, false_implies, true_implies, forall_const, st_aloadx, st_iconstx, st_ifCondx, st_in2, st_ireturnx, st_ldcx, jx_Reader_formHere_33, kb_Reader_formHere_33, oo_24, oa_24]
    rw [z] at K; exact K
  simp only [isO_c, ax0, ex_cons, am_get, upz_at, true_and, and_true, Nat.reduceAdd, Nat.reduceLeDiff, Nat.reduceEqDiff, Nat.reduceSub, Int32.reduceOfInt, Int32.reduceAdd, Int32.reduceMul, Int32.reduceSub, ↓reduceIte, Int32.reduceLT, Int32.reduceLE, Int32.reduceToNatClampNeg, Nat.reduceMod, Nat.reduceLT, List.length_cons, List.length_nil, eq_self, true_or, or_true, and_self, implies_true, not_true_eq_false, not_false_eq_true, false_implies, true_implies, forall_const, st_aloadx, st_gotox, st_iconstx, st_ifCondx, st_in2, st_ireturnx, st_ldcx, jx_Reader_formHere_33, kb_Reader_formHere_33, oo_24, jx_Reader_formHere_44, kb_Reader_formHere_44, oa_24]
  refine go 5 12 rfl (by decide) (by decide) (by decide) (fun z => ?_) (fun z5 => ?_)
  · simp only [isO_c, ax0, ex_cons, am_get, upz_at, true_and, and_true, Nat.reduceAdd, Nat.reduceLeDiff, Nat.reduceEqDiff, Nat.reduceSub, Int32.reduceOfInt, Int32.reduceAdd, Int32.reduceMul, Int32.reduceSub, ↓reduceIte, Int32.reduceLT, Int32.reduceLE, Int32.reduceToNatClampNeg, Nat.reduceMod, Nat.reduceLT, List.length_cons, List.length_nil, eq_self, true_or, or_true, and_self, implies_true, not_true_eq_false, not_false_eq_true, false_implies, true_implies, forall_const, st_aloadx, st_gotox, st_iconstx, st_ifCondx, st_in2, st_ireturnx, st_ldcx, jx_Reader_formHere_44, kb_Reader_formHere_44, oo_24, jx_Reader_formHere_58, kb_Reader_formHere_58, oa_24]
    rw [z] at K; exact K
  simp only [isO_c, ax0, ex_cons, am_get, upz_at, true_and, and_true, Nat.reduceAdd, Nat.reduceLeDiff, Nat.reduceEqDiff, Nat.reduceSub, Int32.reduceOfInt, Int32.reduceAdd, Int32.reduceMul, Int32.reduceSub, ↓reduceIte, Int32.reduceLT, Int32.reduceLE, Int32.reduceToNatClampNeg, Nat.reduceMod, Nat.reduceLT, List.length_cons, List.length_nil, eq_self, true_or, or_true, and_self, implies_true, not_true_eq_false, not_false_eq_true, false_implies, true_implies, forall_const, st_aloadx, st_gotox, st_goto_wx, st_iconstx, st_ifCondx, st_in2, st_ireturnx, st_ldcx, jx_Reader_formHere_44, kb_Reader_formHere_44, oo_24, jx_Reader_formHere_57, kb_Reader_formHere_57, jx_Reader_formHere_58, kb_Reader_formHere_58, oa_24]
  rw [if_neg (by omega)] at K
  exact K
set_option maxRecDepth 20000 in
theorem c_parse {t : Nat → Int32} {n : Nat} (hs : HS h) (hR : RT t n F) (hb : byT t n) (hA : AT t n F 0) (h6 : F 24 6 = -1) (h7 : F 24 7 = 0) (h9 : F 24 9 = -1) (h10 : F 24 10 = 0) (h5 : F 26 5 = 0) (K0 : ∀ F' e, psS (cdL (tkA t n)) (tkA t n).length = .inl e → Pf F F' → AT t n F' e → Q (some (.int 0)) (ov h F' J V)) (K1 : ∀ F' x, psS (cdL (tkA t n)) (tkA t n).length = .inr x → Pf F F' → AT t n F' x.2 → RPr F' x.1 → Q (some (.int 1)) (ov h F' J V)) : am_cl (d + 31) 113 [.ref 24] (ov h F J V) Q := by
  have hn := hR.2.1
  have TK := tkA_p t hn
  have pg := fun k c => (c_pG (J := J) (V := V) hs hb hn (4 * (tkA t n).length + 4)).1 0 k c (.var 0) (pQ (cdL (tkA t n)) (tkA t n).length k c)
  have hl := enP_le (t := t) (n := n) (q := plL n (tkA t n) 0) pl_le
  obtain ⟨sg1, sg2⟩ := sg_word (t := t) (n := n) (k := 0) (w0 := 21) (c0 := 119) (r := 4) (Or.inr ⟨rfl, rfl, rfl⟩) (Nat.zero_le _)
  unfold psS at K0 K1
  simp only [isO_c, ax0, ex_cons, am_get, upz_at, true_and, and_true, Nat.reduceAdd, Nat.reduceLeDiff, Nat.reduceEqDiff, Nat.reduceSub, Int32.reduceOfInt, Int32.reduceAdd, Int32.reduceMul, Int32.reduceSub, ↓reduceIte, Int32.reduceLT, Int32.reduceLE, Int32.reduceToNatClampNeg, Nat.reduceMod, Nat.reduceLT, List.length_cons, List.length_nil, eq_self, true_or, or_true, and_self, implies_true, not_true_eq_false, not_false_eq_true, false_implies, true_implies, forall_const, st_aloadx, st_baloadx, st_freturnx, st_getfieldx, st_iconstx, st_ifCondx, st_in1, st_in2, st_in3, st_isubx, st_ldcx, st_putfieldx, kb_Reader_parse_0, oo_24, og_24_0, og_24_3, op_24_6, op_24_5, oa_24, os_24, oa_25, or_25, cx_Reader_parse]
  refine c_isSign (lo := nI 119) (hi := nI (119 + (4 - 1))) hR hA.2.1 hA.2.2 hl.1 hl.2 ?_
  simp only [isO_c, ax0, ex_cons, am_get, upz_at, true_and, and_true, Nat.reduceAdd, Nat.reduceLeDiff, Nat.reduceEqDiff, Nat.reduceSub, Int32.reduceOfInt, Int32.reduceAdd, Int32.reduceMul, Int32.reduceSub, ↓reduceIte, Int32.reduceLT, Int32.reduceLE, Int32.reduceToNatClampNeg, Nat.reduceMod, Nat.reduceLT, List.length_cons, List.length_nil, eq_self, true_or, or_true, and_self, implies_true, not_true_eq_false, not_false_eq_true, false_implies, true_implies, forall_const, st_aloadx, st_baloadx, st_freturnx, st_getfieldx, st_iconstx, st_ifCondx, st_in1, st_in2, st_in3, st_isubx, st_ldcx, st_putfieldx, kb_Reader_parse_0, oo_24, og_24_0, og_24_3, op_24_6, op_24_5, oa_24, os_24, oa_25, or_25]
  refine ifb (fun w => ?_) (fun w => ?_)
  · have nn : ¬ (21 ≤ cdL (tkA t n) 0 ∧ cdL (tkA t n) 0 ≤ 24) := fun q => by
      rw [sg1.mpr q] at w; cases w
    rw [if_neg nn] at K0 K1
    simp only [isO_c, ax0, ex_cons, am_get, upz_at, true_and, and_true, Nat.reduceAdd, Nat.reduceLeDiff, Nat.reduceEqDiff, Nat.reduceSub, Int32.reduceOfInt, Int32.reduceAdd, Int32.reduceMul, Int32.reduceSub, ↓reduceIte, Int32.reduceLT, Int32.reduceLE, Int32.reduceToNatClampNeg, Nat.reduceMod, Nat.reduceLT, List.length_cons, List.length_nil, eq_self, true_or, or_true, and_self, implies_true, not_true_eq_false, not_false_eq_true, false_implies, true_implies, forall_const, st_aloadx, st_freturnx, st_iconstx, st_ifCondx, st_in2, st_ldcx, st_putfieldx, jx_Reader_parse_80, kb_Reader_parse_80, oo_24, op_24_5, oa_24, os_24]
    refine c_pass (a := 18) hs hR hb hA (by decide) (by decide) (by decide) (fun w2 => ?_) (fun F1 w2 hk1 s1 a1 => ?_)
    · rw [if_neg (show ¬ cdL (tkA t n) 0 = 9 from w2)] at K0 K1
      simp only [isO_c, ax0, ex_cons, am_get, upz_at, true_and, and_true, Nat.reduceAdd, Nat.reduceLeDiff, Nat.reduceEqDiff, Nat.reduceSub, Int32.reduceOfInt, Int32.reduceAdd, Int32.reduceMul, Int32.reduceSub, ↓reduceIte, Int32.reduceLT, Int32.reduceLE, Int32.reduceToNatClampNeg, Nat.reduceMod, Nat.reduceLT, List.length_cons, List.length_nil, eq_self, true_or, or_true, and_self, implies_true, not_true_eq_false, not_false_eq_true, false_implies, true_implies, forall_const, st_aloadx, st_freturnx, st_getfieldx, st_iconstx, st_ifCondx, st_if_icmpx, st_in1, st_in2, st_ldcx, st_putfieldx, jx_Reader_parse_80, kb_Reader_parse_80, oo_24, op_24_5, jx_Reader_parse_137, kb_Reader_parse_137, og_24_5, oa_24, os_24]
      refine c_formHere hs hR hb hA ?_
      by_cases w3 : 1 ≤ cdL (tkA t n) 0 ∧ cdL (tkA t n) 0 ≤ 5
      · rw [if_pos w3] at K0 K1 ⊢
        unfold psF at K0 K1
        have hk0 : 0 < (tkA t n).length := by
          rcases Nat.eq_zero_or_pos (tkA t n).length with y | y
          · rw [cd_out (by omega)] at w3; omega
          · exact y
        simp only [isO_c, ax0, ex_cons, am_get, upz_at, true_and, and_true, Nat.reduceAdd, Nat.reduceLeDiff, Nat.reduceEqDiff, Nat.reduceSub, Int32.reduceOfInt, Int32.reduceAdd, Int32.reduceMul, Int32.reduceSub, ↓reduceIte, Int32.reduceLT, Int32.reduceLE, Int32.reduceToNatClampNeg, Nat.reduceMod, Nat.reduceLT, List.length_cons, List.length_nil, eq_self, true_or, or_true, and_self, implies_true, not_true_eq_false, not_false_eq_true, false_implies, true_implies, forall_const, st_aloadx, st_freturnx, st_getfieldx, st_iconstx, st_ifCondx, st_if_icmpx, st_in1, st_in2, st_ldcx, st_putfieldx, jx_Reader_parse_137, kb_Reader_parse_137, oo_24, op_24_5, og_24_5, jx_Reader_parse_155, kb_Reader_parse_155, oa_24, os_24, nI_neg1 (show cdL (tkA t n) 0 - 1 < 2147483648 by omega), upz_eq, upz_upd]
        have A1 := hA.up (i := 5) (by decide) (nI (cdL (tkA t n) 0 - 1))
        have P1 := Pf.rf.up (F := F) (F' := F) (i := 5) (by decide) (nI (cdL (tkA t n) 0 - 1))
        refine c_next (hR.pf P1) A1 hk0 (by omega) (fun F2 s2 a2 => ?_)
        have P2 := P1.tr s2.pf
        have g5 : F2 24 5 = nI (cdL (tkA t n) 0 - 1) := by rw [s2.2 5 (by decide) (by decide), u24e]
        have fd : ∀ i, i ≠ 3 → i ≠ 4 → i ≠ 5 → F2 24 i = F 24 i := fun i i1 i2 i3 => by rw [s2.2 i i1 i2, u24 i3]
        have f26 : F2 26 5 = 0 := by rw [s2.1 26 (by decide), u24x (by decide)]; exact h5
        -- the two terms
        have two : ∀ F3 k3, k3 ≤ (tkA t n).length → Pf F F3 → AT t n F3 k3 → F3 24 5 = nI (cdL (tkA t n) 0 - 1) → (∀ i, i ≠ 3 → i ≠ 4 → i ≠ 5 → F3 24 i = F 24 i) → F3 26 5 = 0 → (∀ F' e, thenQ (pQ (cdL (tkA t n)) (tkA t n).length k3 0) (psB (cdL (tkA t n)) (tkA t n).length) = .inl e → Pf F F' → AT t n F' e → Q (some (.int 0)) (ov h F' J V)) → (∀ F' x, thenQ (pQ (cdL (tkA t n)) (tkA t n).length k3 0) (psB (cdL (tkA t n)) (tkA t n).length) = .inr x → Pf F F' → AT t n F' x.2 → RPr F' x.1 → Q (some (.int 1)) (ov h F' J V)) → am_W kc_Reader_parse (am_cl (d + 30)) Q 178 [.ref 24] [] (ov h F3 J V) := by
          intro F3 k3 hk3 P3 A3 g5 fd3 f26 K0 K1
          have ok1 := pQ_ok TK hk3 (c := 0) (by decide)
          simp only [isO_c, ax0, ex_cons, am_get, upz_at, true_and, and_true, Nat.reduceAdd, Nat.reduceLeDiff, Nat.reduceEqDiff, Nat.reduceSub, Int32.reduceOfInt, Int32.reduceAdd, Int32.reduceMul, Int32.reduceSub, ↓reduceIte, Int32.reduceLT, Int32.reduceLE, Int32.reduceToNatClampNeg, Nat.reduceMod, Nat.reduceLT, List.length_cons, List.length_nil, eq_self, true_or, or_true, and_self, implies_true, not_true_eq_false, not_false_eq_true, false_implies, true_implies, forall_const, st_aloadx, st_getfieldx, st_goto_wx, st_iconstx, st_ifCondx, st_in2, st_ldcx, st_putfieldx, jx_Reader_parse_178, kb_Reader_parse_178, oo_24, op_24_8, og_24_8, oa_24, os_24]
          refine pg k3 0 (d + 30) F3 _ 0 (pQ_some TK hk3 (by decide)) (by decide) (by omega) (hR.pf P3) A3 (by rw [fd3 10 (by decide) (by decide) (by decide)]; exact h10) (by decide) f26 (by decide) (fun F4 v t4 p4 => ?_)
          have P4 := P3.tr t4.pf
          have g54 : F4 24 5 = nI (cdL (tkA t n) 0 - 1) := by rw [t4.2.1 5 (by decide) (by decide) (by decide)]; exact g5
          have fd4 : ∀ i, 5 ≤ i → i ≠ 5 → i ≠ 10 → F4 24 i = F 24 i := fun i i1 i2 i3 => by rw [t4.2.1 i (by omega) (by omega) i3]; exact fd3 i (by omega) (by omega) i2
          cases e1 : pQ (cdL (tkA t n)) (tkA t n).length k3 0 with
          | inl e =>
            rw [e1] at p4 K0
            obtain ⟨v1, v2⟩ := p4
            subst v1
            simp only [isO_c, ax0, ex_cons, am_get, upz_at, true_and, and_true, Nat.reduceAdd, Nat.reduceLeDiff, Nat.reduceEqDiff, Nat.reduceSub, Int32.reduceOfInt, Int32.reduceAdd, Int32.reduceMul, Int32.reduceSub, ↓reduceIte, Int32.reduceLT, Int32.reduceLE, Int32.reduceToNatClampNeg, Nat.reduceMod, Nat.reduceLT, List.length_cons, List.length_nil, eq_self, true_or, or_true, and_self, implies_true, not_true_eq_false, not_false_eq_true, false_implies, true_implies, forall_const, st_aloadx, st_freturnx, st_getfieldx, st_goto_wx, st_iconstx, st_ifCondx, st_in2, st_ldcx, st_putfieldx, jx_Reader_parse_178, kb_Reader_parse_178, oo_24, op_24_8, og_24_8, jx_Reader_parse_203, kb_Reader_parse_203, oa_24, os_24, u24e]
            exact K0 _ e rfl (P4.up (by decide) _) (v2.up (by decide) _)
          | inr x =>
            rw [e1] at p4 K0 K1 ok1
            have K0 : ∀ F' e, psB (cdL (tkA t n)) (tkA t n).length x = .inl e → Pf F F' → AT t n F' e → Q (some (.int 0)) (ov h F' J V) := K0
            have K1 : ∀ F' y, psB (cdL (tkA t n)) (tkA t n).length x = .inr y → Pf F F' → AT t n F' y.2 → RPr F' y.1 → Q (some (.int 1)) (ov h F' J V) := K1
            unfold psB at K0 K1
            obtain ⟨j, v1, v2, v3, v4, v5, v6, v7⟩ := p4
            subst v1
            obtain ⟨o1, o2, o3, o4⟩ := ok1
            rw [if_neg (by omega)] at o4
            have hlx := lvT_pos x.1
            have P5 := P4.up (i := 8) (by decide) (nI j)
            have A5 := v2.up (i := 8) (by decide) (nI j)
            have T5 : TN (upz F4 24 (upz (F4 24) 8 (nI j))) x.1 0 j := v4.up
            simp only [isO_c, ax0, ex_cons, am_get, upz_at, true_and, and_true, Nat.reduceAdd, Nat.reduceLeDiff, Nat.reduceEqDiff, Nat.reduceSub, Int32.reduceOfInt, Int32.reduceAdd, Int32.reduceMul, Int32.reduceSub, ↓reduceIte, Int32.reduceLT, Int32.reduceLE, Int32.reduceToNatClampNeg, Nat.reduceMod, Nat.reduceLT, List.length_cons, List.length_nil, eq_self, true_or, or_true, and_self, implies_true, not_true_eq_false, not_false_eq_true, false_implies, true_implies, forall_const, st_aloadx, st_getfieldx, st_goto_wx, st_iconstx, st_ifCondx, st_in2, st_ldcx, st_putfieldx, jx_Reader_parse_178, kb_Reader_parse_178, oo_24, op_24_8, og_24_8, oa_24, os_24, u24e, nk_neg (show j < 2147483648 by omega), nk_cl (show j < 2147483648 by omega)]
            refine c_pass (a := 6) hs (hR.pf P5) hb A5 (by decide) (by decide) (by decide) (fun w4 => ?_) (fun F6 w4 hk6 s6 a6 => ?_)
            · rw [if_neg (show ¬ cdL (tkA t n) x.2.1 = 7 from w4)] at K0
              simp only [isO_c, ax0, ex_cons, am_get, upz_at, true_and, and_true, Nat.reduceAdd, Nat.reduceLeDiff, Nat.reduceEqDiff, Nat.reduceSub, Int32.reduceOfInt, Int32.reduceAdd, Int32.reduceMul, Int32.reduceSub, ↓reduceIte, Int32.reduceLT, Int32.reduceLE, Int32.reduceToNatClampNeg, Nat.reduceMod, Nat.reduceLT, List.length_cons, List.length_nil, eq_self, true_or, or_true, and_self, implies_true, not_true_eq_false, not_false_eq_true, false_implies, true_implies, forall_const, st_aloadx, st_freturnx, st_getfieldx, st_goto_wx, st_iconstx, st_ifCondx, st_in2, st_ldcx, st_putfieldx, jx_Reader_parse_178, kb_Reader_parse_178, oo_24, op_24_8, og_24_8, jx_Reader_parse_203, kb_Reader_parse_203, oa_24, os_24]
              exact K0 _ x.2.1 rfl P5 A5
            · rw [if_pos (show cdL (tkA t n) x.2.1 = 7 from w4)] at K0 K1
              have P6 := P5.tr s6.pf
              have g6 : ∀ i, i ≠ 3 → i ≠ 4 → i ≠ 8 → F6 24 i = F4 24 i := fun i i1 i2 i3 => by rw [s6.2 i i1 i2, u24 i3]
              have g68 : F6 24 8 = nI j := by rw [s6.2 8 (by decide) (by decide), u24e]
              have T6 : TN F6 x.1 0 j := T5.cg x.1 (fun a a1 a2 i _ => by rw [s6.1 a (by omega)])
              have f266 : F6 26 5 = nI (0 + 2 * lvT x.1 - 1) := by rw [s6.1 26 (by decide), u24x (by decide)]; exact v7
              -- the second term
              have sec : ∀ (fl : Bool) F7 k7, k7 ≤ (tkA t n).length → fl = flA (cdL (tkA t n)) (x.2.1 + 1) → k7 = (if flA (cdL (tkA t n)) (x.2.1 + 1) then x.2.1 + 2 else x.2.1 + 1) → Rs F6 F7 → AT t n F7 k7 → am_W kc_Reader_parse (am_cl (d + 30)) Q 228 [.ref 24] [.int (b2i fl), .ref 24] (ov h F7 J V) := by
                intro fl F7 k7 hk7 efl ek7 s7 a7
                rw [← ek7, ← efl] at K0 K1
                have ok2 := pQ_ok TK hk7 (c := x.2.2) o3
                have P7 := (P6.tr s7.pf).up (i := 7) (by decide) (b2i fl)
                have A7 := a7.up (i := 7) (by decide) (b2i fl)
                have g7 : ∀ i, i ≠ 3 → i ≠ 4 → i ≠ 7 → upz F7 24 (upz (F7 24) 7 (b2i fl)) 24 i = F6 24 i := fun i i1 i2 i3 => by rw [u24 i3]; exact s7.2 i i1 i2
                have x7 : ∀ a, a ≠ 24 → upz F7 24 (upz (F7 24) 7 (b2i fl)) a = F6 a := fun a ha => by rw [u24x ha]; exact s7.1 a ha
                have g77 : upz F7 24 (upz (F7 24) 7 (b2i fl)) 24 7 = b2i fl := u24e
                simp only [isO_c, ax0, ex_cons, am_get, upz_at, true_and, and_true, Nat.reduceAdd, Nat.reduceLeDiff, Nat.reduceEqDiff, Nat.reduceSub, Int32.reduceOfInt, Int32.reduceAdd, Int32.reduceMul, Int32.reduceSub, ↓reduceIte, Int32.reduceLT, Int32.reduceLE, Int32.reduceToNatClampNeg, Nat.reduceMod, Nat.reduceLT, List.length_cons, List.length_nil, eq_self, true_or, or_true, and_self, implies_true, not_true_eq_false, not_false_eq_true, false_implies, true_implies, forall_const, st_aloadx, st_getfieldx, st_gotox, st_iconstx, st_ifCondx, st_in2, st_putfieldx, st_putstaticx, jx_Reader_parse_228, kb_Reader_parse_228, op_24_7, oo_24, op_24_9, og_24_9, oa_24, os_24, b2i_01]
                generalize upz F7 24 (upz (F7 24) 7 (b2i fl)) = F8 at P7 A7 g7 x7 g77
                have T8 : TN F8 x.1 0 j := T6.cg x.1 (fun a a1 a2 i _ => by rw [x7 a (by omega)])
                refine pg k7 x.2.2 (d + 30) F8 _ (0 + 2 * lvT x.1 - 1) (pQ_some TK hk7 o3) (by decide) (by omega) (hR.pf P7) A7 (by rw [g7 10 (by decide) (by decide) (by decide), g6 10 (by decide) (by decide) (by decide)]; exact v3) o3 (by rw [x7 26 (by decide)]; exact f266) (by omega) (fun F9 v t9 p9 => ?_)
                have P9 := P7.tr t9.pf
                cases e2 : pQ (cdL (tkA t n)) (tkA t n).length k7 x.2.2 with
                | inl e =>
                  rw [e2] at p9 K0
                  obtain ⟨u1, u2⟩ := p9
                  subst u1
                  simp only [isO_c, ax0, ex_cons, am_get, upz_at, true_and, and_true, Nat.reduceAdd, Nat.reduceLeDiff, Nat.reduceEqDiff, Nat.reduceSub, Int32.reduceOfInt, Int32.reduceAdd, Int32.reduceMul, Int32.reduceSub, ↓reduceIte, Int32.reduceLT, Int32.reduceLE, Int32.reduceToNatClampNeg, Nat.reduceMod, Nat.reduceLT, List.length_cons, List.length_nil, eq_self, true_or, or_true, and_self, implies_true, not_true_eq_false, not_false_eq_true, false_implies, true_implies, forall_const, st_aloadx, st_freturnx, st_getfieldx, st_gotox, st_goto_wx, st_iconstx, st_ifCondx, st_in2, st_putfieldx, st_putstaticx, jx_Reader_parse_228, kb_Reader_parse_228, op_24_7, oo_24, op_24_9, og_24_9, jx_Reader_parse_251, kb_Reader_parse_251, jx_Reader_parse_252, kb_Reader_parse_252, oa_24, os_24, u24e]
                  exact K0 _ e rfl (P9.up (by decide) _) (u2.up (by decide) _)
                | inr y =>
                  rw [e2] at p9 K1 ok2
                  obtain ⟨j2, u1, u2, u3, u4, u5, u6, u7⟩ := p9
                  subst u1
                  obtain ⟨q1, q2, q3, q4⟩ := ok2
                  rw [if_neg (by omega)] at q4
                  have hly := lvT_pos y.1
                  have T9 : TN F9 x.1 0 j := T8.cg x.1 (fun a a1 a2 i hi => t9.2.2 a a1 a2 i (by omega))
                  have g9 : ∀ i, 5 ≤ i → i ≠ 10 → F9 24 i = F8 24 i := fun i i1 i2 => t9.2.1 i (by omega) (by omega) i2
                  simp only [isO_c, ax0, ex_cons, am_get, upz_at, true_and, and_true, Nat.reduceAdd, Nat.reduceLeDiff, Nat.reduceEqDiff, Nat.reduceSub, Int32.reduceOfInt, Int32.reduceAdd, Int32.reduceMul, Int32.reduceSub, ↓reduceIte, Int32.reduceLT, Int32.reduceLE, Int32.reduceToNatClampNeg, Nat.reduceMod, Nat.reduceLT, List.length_cons, List.length_nil, eq_self, true_or, or_true, and_self, implies_true, not_true_eq_false, not_false_eq_true, false_implies, true_implies, forall_const, st_aloadx, st_freturnx, st_getfieldx, st_gotox, st_iconstx, st_ifCondx, st_in2, st_putfieldx, st_putstaticx, jx_Reader_parse_228, kb_Reader_parse_228, op_24_7, oo_24, op_24_9, og_24_9, jx_Reader_parse_252, kb_Reader_parse_252, oa_24, os_24, u24e, nk_neg (show j2 < 2147483648 by omega), nk_cl (show j2 < 2147483648 by omega)]
                  refine K1 _ _ rfl (P9.up (by decide) _) (u2.up (by decide) _) ⟨?_, ?_, ?_, 0 + 2 * lvT x.1 - 1 + 2 * lvT y.1 - 1, ?_, by omega, ?_⟩
                  · rw [u24 (by decide), g9 5 (by decide) (by decide), g7 5 (by decide) (by decide) (by decide), g6 5 (by decide) (by decide) (by decide), g54]
                    congr 1
                    unfold fmR
                    rw [if_neg (by show ¬ cdL (tkA t n) 0 = 10; omega), if_neg (by show ¬ cdL (tkA t n) 0 = 9; omega)]
                  · rw [u24 (by decide), g9 6 (by decide) (by decide), g7 6 (by decide) (by decide) (by decide), g6 6 (by decide) (by decide) (by decide), fd4 6 (by decide) (by decide) (by decide), h6]
                    unfold nmI
                    rw [if_neg (by show ¬ cdL (tkA t n) 0 = 10; omega)]
                  · rw [u24 (by decide), g9 7 (by decide) (by decide), g77]
                  · rw [u24x (by decide)]; exact u7
                  · rw [if_pos (by show cdL (tkA t n) 0 < 9; omega)]
                    refine ⟨j, j2, ?_, ?_, T9.up, u4.up, by omega, by omega⟩
                    · rw [u24 (by decide), g9 8 (by decide) (by decide), g7 8 (by decide) (by decide) (by decide), g68]
                    · rw [u24e]
              simp only [isO_c, ax0, ex_cons, am_get, upz_at, true_and, and_true, Nat.reduceAdd, Nat.reduceLeDiff, Nat.reduceEqDiff, Nat.reduceSub, Int32.reduceOfInt, Int32.reduceAdd, Int32.reduceMul, Int32.reduceSub, ↓reduceIte, Int32.reduceLT, Int32.reduceLE, Int32.reduceToNatClampNeg, Nat.reduceMod, Nat.reduceLT, List.length_cons, List.length_nil, eq_self, true_or, or_true, and_self, implies_true, not_true_eq_false, not_false_eq_true, false_implies, true_implies, forall_const, st_aloadx, st_getfieldx, st_gotox, st_goto_wx, st_iconstx, st_ifCondx, st_if_icmpx, st_in2, st_ldcx, st_putfieldx, jx_Reader_parse_178, kb_Reader_parse_178, oo_24, op_24_8, og_24_8, jx_Reader_parse_205, kb_Reader_parse_205, og_24_5, oa_24, os_24, show F6 24 5 = nI (cdL (tkA t n) 0 - 1) by rw [g6 5 (by decide) (by decide) (by decide)]; exact g54, show (nI (cdL (tkA t n) 0 - 1) = (2 : Int32)) = (cdL (tkA t n) 0 - 1 = 2) from nk_eq (b := 2) (by omega) (by decide)]
              refine ⟨fun y3 => ?_, fun y3 => ?_⟩
              · simp only [isO_c, ax0, ex_cons, am_get, upz_at, true_and, and_true, Nat.reduceAdd, Nat.reduceLeDiff, Nat.reduceEqDiff, Nat.reduceSub, Int32.reduceOfInt, Int32.reduceAdd, Int32.reduceMul, Int32.reduceSub, ↓reduceIte, Int32.reduceLT, Int32.reduceLE, Int32.reduceToNatClampNeg, Nat.reduceMod, Nat.reduceLT, List.length_cons, List.length_nil, eq_self, true_or, or_true, and_self, implies_true, not_true_eq_false, not_false_eq_true, false_implies, true_implies, forall_const, st_goto_wx, st_iconstx, jx_Reader_parse_227, kb_Reader_parse_227]
                have ef : flA (cdL (tkA t n)) (x.2.1 + 1) = false := by unfold flA; rw [decide_eq_false (by omega)]; rfl
                exact sec false F6 (x.2.1 + 1) hk6 ef.symm (by rw [ef]; rfl) Rs.rf a6
              · have y3 : cdL (tkA t n) 0 - 1 = 2 := Classical.not_not.mp y3
                refine c_pass (a := 14) hs (hR.pf P6) hb a6 (by decide) (by decide) (by decide) (fun y4 => ?_) (fun F7 y4 hk7 s7 a7 => ?_)
                · simp only [isO_c, ax0, ex_cons, am_get, upz_at, true_and, and_true, Nat.reduceAdd, Nat.reduceLeDiff, Nat.reduceEqDiff, Nat.reduceSub, Int32.reduceOfInt, Int32.reduceAdd, Int32.reduceMul, Int32.reduceSub, ↓reduceIte, Int32.reduceLT, Int32.reduceLE, Int32.reduceToNatClampNeg, Nat.reduceMod, Nat.reduceLT, List.length_cons, List.length_nil, eq_self, true_or, or_true, and_self, implies_true, not_true_eq_false, not_false_eq_true, false_implies, true_implies, forall_const, st_aloadx, st_getfieldx, st_gotox, st_goto_wx, st_iconstx, st_ifCondx, st_if_icmpx, st_in2, st_ldcx, jx_Reader_parse_205, kb_Reader_parse_205, og_24_5, oo_24, jx_Reader_parse_227, kb_Reader_parse_227, oa_24]
                  have ef : flA (cdL (tkA t n)) (x.2.1 + 1) = false := by unfold flA; rw [decide_eq_false (show ¬ cdL (tkA t n) (x.2.1 + 1) = 8 from y4), Bool.and_false]
                  exact sec false F6 (x.2.1 + 1) hk6 ef.symm (by rw [ef]; rfl) Rs.rf a6
                · simp only [isO_c, ax0, ex_cons, am_get, upz_at, true_and, and_true, Nat.reduceAdd, Nat.reduceLeDiff, Nat.reduceEqDiff, Nat.reduceSub, Int32.reduceOfInt, Int32.reduceAdd, Int32.reduceMul, Int32.reduceSub, ↓reduceIte, Int32.reduceLT, Int32.reduceLE, Int32.reduceToNatClampNeg, Nat.reduceMod, Nat.reduceLT, List.length_cons, List.length_nil, eq_self, true_or, or_true, and_self, implies_true, not_true_eq_false, not_false_eq_true, false_implies, true_implies, forall_const, st_aloadx, st_getfieldx, st_gotox, st_iconstx, st_ifCondx, st_if_icmpx, st_in2, st_ldcx, jx_Reader_parse_205, kb_Reader_parse_205, og_24_5, oo_24, oa_24]
                  have ef : flA (cdL (tkA t n)) (x.2.1 + 1) = true := by unfold flA; rw [decide_eq_true (show cdL (tkA t n) 0 = 3 by omega), decide_eq_true (show cdL (tkA t n) (x.2.1 + 1) = 8 from y4)]; rfl
                  exact sec true F7 (x.2.1 + 2) hk7 ef.symm (by rw [ef]; rfl) s7 a7
        simp only [isO_c, ax0, ex_cons, am_get, upz_at, true_and, and_true, Nat.reduceAdd, Nat.reduceLeDiff, Nat.reduceEqDiff, Nat.reduceSub, Int32.reduceOfInt, Int32.reduceAdd, Int32.reduceMul, Int32.reduceSub, ↓reduceIte, Int32.reduceLT, Int32.reduceLE, Int32.reduceToNatClampNeg, Nat.reduceMod, Nat.reduceLT, List.length_cons, List.length_nil, eq_self, true_or, or_true, and_self, implies_true, not_true_eq_false, not_false_eq_true, false_implies, true_implies, forall_const, st_aloadx, st_freturnx, st_getfieldx, st_iconstx, st_ifCondx, st_if_icmpx, st_in1, st_in2, st_ldcx, jx_Reader_parse_155, kb_Reader_parse_155, oo_24, og_24_5, oa_24, g5, show (nI (cdL (tkA t n) 0 - 1) = (4 : Int32)) = (cdL (tkA t n) 0 - 1 = 4) from nk_eq (b := 4) (by omega) (by decide)]
        refine ⟨fun y => ?_, fun y => ?_⟩
        · rw [if_neg (show ¬ cdL (tkA t n) 0 = 5 by omega)] at K0 K1
          exact two F2 1 hk0 P2 a2 g5 fd f26 K0 K1
        · have y := Classical.not_not.mp y
          rw [if_pos (show cdL (tkA t n) 0 = 5 by omega)] at K0 K1
          refine c_pass (a := 8) hs (hR.pf P2) hb a2 (by decide) (by decide) (by decide) (fun y2 => ?_) (fun F3 y2 hk3 s3 a3 => ?_)
          · rw [if_neg (show ¬ cdL (tkA t n) 1 = 6 from y2)] at K0
            simp only [isO_c, ax0, ex_cons, am_get, upz_at, true_and, and_true, Nat.reduceAdd, Nat.reduceLeDiff, Nat.reduceEqDiff, Nat.reduceSub, Int32.reduceOfInt, Int32.reduceAdd, Int32.reduceMul, Int32.reduceSub, ↓reduceIte, Int32.reduceLT, Int32.reduceLE, Int32.reduceToNatClampNeg, Nat.reduceMod, Nat.reduceLT, List.length_cons, List.length_nil, eq_self, true_or, or_true, and_self, implies_true, not_true_eq_false, not_false_eq_true, false_implies, true_implies, forall_const, st_aloadx, st_freturnx, st_getfieldx, st_iconstx, st_ifCondx, st_if_icmpx, st_in1, st_in2, st_ldcx, jx_Reader_parse_155, kb_Reader_parse_155, oo_24, og_24_5, oa_24]
            exact K0 F2 1 rfl P2 a2
          · rw [if_pos (show cdL (tkA t n) 1 = 6 from y2)] at K0 K1
            simp only [isO_c, ax0, ex_cons, am_get, upz_at, true_and, and_true, Nat.reduceAdd, Nat.reduceLeDiff, Nat.reduceEqDiff, Nat.reduceSub, Int32.reduceOfInt, Int32.reduceAdd, Int32.reduceMul, Int32.reduceSub, ↓reduceIte, Int32.reduceLT, Int32.reduceLE, Int32.reduceToNatClampNeg, Nat.reduceMod, Nat.reduceLT, List.length_cons, List.length_nil, eq_self, true_or, or_true, and_self, implies_true, not_true_eq_false, not_false_eq_true, false_implies, true_implies, forall_const, st_aloadx, st_freturnx, st_getfieldx, st_iconstx, st_ifCondx, st_if_icmpx, st_in1, st_in2, st_ldcx, jx_Reader_parse_155, kb_Reader_parse_155, oo_24, og_24_5, oa_24]
            exact two F3 2 hk3 (P2.tr s3.pf) a3 (by rw [s3.2 5 (by decide) (by decide)]; exact g5) (fun i i1 i2 i3 => by rw [s3.2 i i1 i2]; exact fd i i1 i2 i3) (by rw [s3.1 26 (by decide)]; exact f26) K0 K1
      · rw [if_neg w3] at K0 ⊢
        simp only [isO_c, ax0, ex_cons, am_get, upz_at, true_and, and_true, Nat.reduceAdd, Nat.reduceLeDiff, Nat.reduceEqDiff, Nat.reduceSub, Int32.reduceOfInt, Int32.reduceAdd, Int32.reduceMul, Int32.reduceSub, ↓reduceIte, Int32.reduceLT, Int32.reduceLE, Int32.reduceToNatClampNeg, Nat.reduceMod, Nat.reduceLT, List.length_cons, List.length_nil, eq_self, true_or, or_true, and_self, implies_true, not_true_eq_false, not_false_eq_true, false_implies, true_implies, forall_const, st_aloadx, st_freturnx, st_getfieldx, st_iconstx, st_if_icmpx, st_in1, st_putfieldx, jx_Reader_parse_137, kb_Reader_parse_137, oo_24, op_24_5, og_24_5, oa_24, os_24, u24e]
        exact K0 _ 0 rfl (Pf.rf.up (by decide) _) (hA.up (by decide) _)
    · rw [if_pos (show cdL (tkA t n) 0 = 9 from w2)] at K0 K1
      unfold psT at K0 K1
      simp only [isO_c, ax0, ex_cons, am_get, upz_at, true_and, and_true, Nat.reduceAdd, Nat.reduceLeDiff, Nat.reduceEqDiff, Nat.reduceSub, Int32.reduceOfInt, Int32.reduceAdd, Int32.reduceMul, Int32.reduceSub, ↓reduceIte, Int32.reduceLT, Int32.reduceLE, Int32.reduceToNatClampNeg, Nat.reduceMod, Nat.reduceLT, List.length_cons, List.length_nil, eq_self, true_or, or_true, and_self, implies_true, not_true_eq_false, not_false_eq_true, false_implies, true_implies, forall_const, st_aloadx, st_freturnx, st_iconstx, st_ifCondx, st_in2, st_ldcx, st_putfieldx, jx_Reader_parse_80, kb_Reader_parse_80, oo_24, op_24_5, oa_24, os_24, upz_upd, upz_eq]
      have P1 := s1.pf.up (i := 5) (by decide) 5
      have A1 := a1.up (i := 5) (by decide) 5
      have g1 : ∀ i, i ≠ 3 → i ≠ 4 → i ≠ 5 → upz F1 24 (upz (F1 24) 5 5) 24 i = F 24 i := fun i i1 i2 i3 => by rw [u24 i3]; exact s1.2 i i1 i2
      have g15 : upz F1 24 (upz (F1 24) 5 5) 24 5 = 5 := u24e
      have x1 : ∀ a, a ≠ 24 → upz F1 24 (upz (F1 24) 5 5) a = F a := fun a ha => by rw [u24x ha]; exact s1.1 a ha
      generalize upz F1 24 (upz (F1 24) 5 5) = F2 at P1 A1 g1 g15 x1
      refine c_pass (a := 6) hs (hR.pf P1) hb A1 (by decide) (by decide) (by decide) (fun w3 => ?_) (fun F3 w3 hk3 s3 a3 => ?_)
      · rw [if_neg (show ¬ cdL (tkA t n) 1 = 7 from w3)] at K0
        simp only [isO_c, ax0, ex_cons, am_get, upz_at, true_and, and_true, Nat.reduceAdd, Nat.reduceLeDiff, Nat.reduceEqDiff, Nat.reduceSub, Int32.reduceOfInt, Int32.reduceAdd, Int32.reduceMul, Int32.reduceSub, ↓reduceIte, Int32.reduceLT, Int32.reduceLE, Int32.reduceToNatClampNeg, Nat.reduceMod, Nat.reduceLT, List.length_cons, List.length_nil, eq_self, true_or, or_true, and_self, implies_true, not_true_eq_false, not_false_eq_true, false_implies, true_implies, forall_const, st_aloadx, st_freturnx, st_iconstx, st_ifCondx, st_in2, st_ldcx, st_putfieldx, jx_Reader_parse_80, kb_Reader_parse_80, oo_24, op_24_5, oa_24, os_24]
        exact K0 F2 1 rfl P1 A1
      · rw [if_pos (show cdL (tkA t n) 1 = 7 from w3)] at K0 K1
        have P3 := P1.tr s3.pf
        have g3 : ∀ i, i ≠ 3 → i ≠ 4 → F3 24 i = F2 24 i := s3.2
        have sec : ∀ (fl : Bool) F7 k7, k7 ≤ (tkA t n).length → fl = decide (cdL (tkA t n) 2 = 2) → k7 = (if cdL (tkA t n) 2 = 2 then 3 else 2) → Rs F3 F7 → AT t n F7 k7 → am_kk (am_ex (am_cl (d + 30)) (am_W kc_Reader_parse (am_cl (d + 30)) Q) Q [(.putstatic 5, 7), (.aload 0, 0), (.aload 0, 0), (.iconst 0, 0), (.invokeinterface 115 5, 2), (.putfield 5, 8), (.aload 0, 0), (.getfield 5, 8), (.ifCond .lt 0, 135), (.iconst 1, 0), (.goto 0, 136)]) [.ref 24] (some (.int (b2i fl))) [.ref 24] (ov h F7 J V) := by
          intro fl F7 k7 hk7 efl ek7 s7 a7
          rw [← ek7, ← efl] at K0 K1
          have ok2 := pQ_ok TK hk7 (c := 0) (by decide)
          have P7 := (P3.tr s7.pf).up (i := 7) (by decide) (b2i fl)
          have A7 := a7.up (i := 7) (by decide) (b2i fl)
          have g7 : ∀ i, i ≠ 3 → i ≠ 4 → i ≠ 7 → upz F7 24 (upz (F7 24) 7 (b2i fl)) 24 i = F2 24 i := fun i i1 i2 i3 => by rw [u24 i3, s7.2 i i1 i2]; exact g3 i i1 i2
          have x7 : ∀ a, a ≠ 24 → upz F7 24 (upz (F7 24) 7 (b2i fl)) a = F a := fun a ha => by rw [u24x ha, s7.1 a ha, s3.1 a ha]; exact x1 a ha
          have g77 : upz F7 24 (upz (F7 24) 7 (b2i fl)) 24 7 = b2i fl := u24e
          simp only [isO_c, ax0, ex_cons, am_get, upz_at, true_and, and_true, Nat.reduceAdd, Nat.reduceLeDiff, Nat.reduceEqDiff, Nat.reduceSub, Int32.reduceOfInt, Int32.reduceAdd, Int32.reduceMul, Int32.reduceSub, ↓reduceIte, Int32.reduceLT, Int32.reduceLE, Int32.reduceToNatClampNeg, Nat.reduceMod, Nat.reduceLT, List.length_cons, List.length_nil, eq_self, true_or, or_true, and_self, implies_true, not_true_eq_false, not_false_eq_true, false_implies, true_implies, forall_const, st_aloadx, st_getfieldx, st_gotox, st_iconstx, st_ifCondx, st_in2, st_ldcx, st_putfieldx, st_putstaticx, jx_Reader_parse_105, kb_Reader_parse_105, oo_24, op_24_7, op_24_8, og_24_8, oa_24, os_24, b2i_01]
          generalize upz F7 24 (upz (F7 24) 7 (b2i fl)) = F8 at P7 A7 g7 x7 g77
          refine pg k7 0 (d + 30) F8 _ 0 (pQ_some TK hk7 (by decide)) (by decide) (by omega) (hR.pf P7) A7 (by rw [g7 10 (by decide) (by decide) (by decide), g1 10 (by decide) (by decide) (by decide)]; exact h10) (by decide) (by rw [x7 26 (by decide)]; exact h5) (by omega) (fun F9 v t9 p9 => ?_)
          have P9 := P7.tr t9.pf
          cases e2 : pQ (cdL (tkA t n)) (tkA t n).length k7 0 with
          | inl e =>
            rw [e2] at p9 K0
            obtain ⟨u1, u2⟩ := p9
            subst u1
            simp only [isO_c, ax0, ex_cons, am_get, upz_at, true_and, and_true, Nat.reduceAdd, Nat.reduceLeDiff, Nat.reduceEqDiff, Nat.reduceSub, Int32.reduceOfInt, Int32.reduceAdd, Int32.reduceMul, Int32.reduceSub, ↓reduceIte, Int32.reduceLT, Int32.reduceLE, Int32.reduceToNatClampNeg, Nat.reduceMod, Nat.reduceLT, List.length_cons, List.length_nil, eq_self, true_or, or_true, and_self, implies_true, not_true_eq_false, not_false_eq_true, false_implies, true_implies, forall_const, st_aloadx, st_freturnx, st_getfieldx, st_gotox, st_goto_wx, st_iconstx, st_ifCondx, st_in2, st_ldcx, st_putfieldx, st_putstaticx, jx_Reader_parse_105, kb_Reader_parse_105, oo_24, op_24_7, op_24_8, og_24_8, jx_Reader_parse_135, kb_Reader_parse_135, jx_Reader_parse_136, kb_Reader_parse_136, oa_24, os_24, u24e]
            exact K0 _ e rfl (P9.up (by decide) _) (u2.up (by decide) _)
          | inr y =>
            rw [e2] at p9 K1 ok2
            obtain ⟨j2, u1, u2, u3, u4, u5, u6, u7⟩ := p9
            subst u1
            obtain ⟨q1, q2, q3, q4⟩ := ok2
            rw [if_neg (by omega)] at q4
            have hly := lvT_pos y.1
            have g9 : ∀ i, 5 ≤ i → i ≠ 10 → F9 24 i = F8 24 i := fun i i1 i2 => t9.2.1 i (by omega) (by omega) i2
            simp only [isO_c, ax0, ex_cons, am_get, upz_at, true_and, and_true, Nat.reduceAdd, Nat.reduceLeDiff, Nat.reduceEqDiff, Nat.reduceSub, Int32.reduceOfInt, Int32.reduceAdd, Int32.reduceMul, Int32.reduceSub, ↓reduceIte, Int32.reduceLT, Int32.reduceLE, Int32.reduceToNatClampNeg, Nat.reduceMod, Nat.reduceLT, List.length_cons, List.length_nil, eq_self, true_or, or_true, and_self, implies_true, not_true_eq_false, not_false_eq_true, false_implies, true_implies, forall_const, st_aloadx, st_freturnx, st_getfieldx, st_gotox, st_iconstx, st_ifCondx, st_in2, st_ldcx, st_putfieldx, st_putstaticx, jx_Reader_parse_105, kb_Reader_parse_105, oo_24, op_24_7, op_24_8, og_24_8, jx_Reader_parse_136, kb_Reader_parse_136, oa_24, os_24, u24e, nk_neg (show j2 < 2147483648 by omega), nk_cl (show j2 < 2147483648 by omega)]
            refine K1 _ _ rfl (P9.up (by decide) _) (u2.up (by decide) _) ⟨?_, ?_, ?_, 0 + 2 * lvT y.1 - 1, ?_, by omega, ?_⟩
            · rw [u24 (by decide), g9 5 (by decide) (by decide), g7 5 (by decide) (by decide) (by decide), g15]; rfl
            · rw [u24 (by decide), g9 6 (by decide) (by decide), g7 6 (by decide) (by decide) (by decide), g1 6 (by decide) (by decide) (by decide), h6]; rfl
            · rw [u24 (by decide), g9 7 (by decide) (by decide), g77]
            · rw [u24x (by decide)]; exact u7
            · rw [if_neg (by show ¬ 9 < 9; decide)]
              refine ⟨j2, by rw [u24e], ?_, u4.up, by omega⟩
              rw [u24 (by decide), g9 9 (by decide) (by decide), g7 9 (by decide) (by decide) (by decide), g1 9 (by decide) (by decide) (by decide), h9]
        simp only [isO_c, ax0, ex_cons, am_get, upz_at, true_and, and_true, Nat.reduceAdd, Nat.reduceLeDiff, Nat.reduceEqDiff, Nat.reduceSub, Int32.reduceOfInt, Int32.reduceAdd, Int32.reduceMul, Int32.reduceSub, ↓reduceIte, Int32.reduceLT, Int32.reduceLE, Int32.reduceToNatClampNeg, Nat.reduceMod, Nat.reduceLT, List.length_cons, List.length_nil, eq_self, true_or, or_true, and_self, implies_true, not_true_eq_false, not_false_eq_true, false_implies, true_implies, forall_const, st_aloadx, st_freturnx, st_getfieldx, st_gotox, st_iconstx, st_ifCondx, st_in2, st_ldcx, st_putfieldx, st_putstaticx, jx_Reader_parse_80, kb_Reader_parse_80, oo_24, op_24_5, jx_Reader_parse_105, kb_Reader_parse_105, op_24_7, op_24_8, og_24_8, oa_24, os_24]
        refine c_pass (a := 11) hs (hR.pf P3) hb a3 (by decide) (by decide) (by decide) (fun y4 => ?_) (fun F7 y4 hk7 s7 a7 => ?_)
        · exact sec false F3 2 hk3 (decide_eq_false (show ¬ cdL (tkA t n) 2 = 2 from y4)).symm (by rw [if_neg (show ¬ cdL (tkA t n) 2 = 2 from y4)]) Rs.rf a3
        · exact sec true F7 3 hk7 (decide_eq_true (show cdL (tkA t n) 2 = 2 from y4)).symm (by rw [if_pos (show cdL (tkA t n) 2 = 2 from y4)]) s7 a7
  · have ik := sg1.mp w
    have ik2 : 21 ≤ cdL (tkA t n) 0 ∧ cdL (tkA t n) 0 ≤ 24 := ik
    rw [if_pos ik2] at K0 K1
    unfold psN at K0 K1
    have tv := sg2 ik.1 ik.2
    have hk0 : 0 < (tkA t n).length := by
      rcases Nat.eq_zero_or_pos (tkA t n).length with y | y
      · rw [cd_out (by omega)] at ik2; omega
      · exact y
    obtain ⟨q1, q2, q3⟩ := at_k hk0
    have ft : F 25 (plL n (tkA t n) 0) = t (plL n (tkA t n) 0) := hR.2.2 _ q1
    have e97 : nI (119 + (cdL (tkA t n) 0 - 21)) - (119 : Int32) = nI (cdL (tkA t n) 0 - 21) := by
      rw [show (119 : Int32) = nI 119 from rfl, nk_sub (by omega)]
      congr 1
      omega
    simp only [isO_c, ax0, ex_cons, am_get, upz_at, true_and, and_true, Nat.reduceAdd, Nat.reduceLeDiff, Nat.reduceEqDiff, Nat.reduceSub, Int32.reduceOfInt, Int32.reduceAdd, Int32.reduceMul, Int32.reduceSub, ↓reduceIte, Int32.reduceLT, Int32.reduceLE, Int32.reduceToNatClampNeg, Nat.reduceMod, Nat.reduceLT, List.length_cons, List.length_nil, eq_self, true_or, or_true, and_self, implies_true, not_true_eq_false, not_false_eq_true, false_implies, true_implies, forall_const, st_aloadx, st_baloadx, st_freturnx, st_getfieldx, st_iconstx, st_ifCondx, st_in1, st_in2, st_in3, st_isubx, st_ldcx, st_putfieldx, kb_Reader_parse_0, oo_24, og_24_0, og_24_3, op_24_6, op_24_5, oa_24, os_24, oa_25, or_25, hA.2.1, nk_neg (show plL n (tkA t n) 0 < 2147483648 by omega), nk_cl (show plL n (tkA t n) 0 < 2147483648 by omega), show plL n (tkA t n) 0 < 400 by omega, ft, tv, e97, upz_upd, upz_eq]
    have P0 : Pf F (upz F 24 (upz (upz (F 24) 6 (nI (cdL (tkA t n) 0 - 21))) 5 6)) := ⟨fun x hx => upz_ne _ _ (by omega), by rw [upz_eq, upz_ne _ _ (by decide), upz_ne _ _ (by decide)], by rw [upz_eq, upz_ne _ _ (by decide), upz_ne _ _ (by decide)]⟩
    have g0 : ∀ i, i ≠ 5 → i ≠ 6 → upz F 24 (upz (upz (F 24) 6 (nI (cdL (tkA t n) 0 - 21))) 5 6) 24 i = F 24 i := fun i i1 i2 => by rw [upz_eq, upz_ne _ _ i1, upz_ne _ _ i2]
    have g05 : upz F 24 (upz (upz (F 24) 6 (nI (cdL (tkA t n) 0 - 21))) 5 6) 24 5 = 6 := by rw [upz_eq, upz_eq]
    have g06 : upz F 24 (upz (upz (F 24) 6 (nI (cdL (tkA t n) 0 - 21))) 5 6) 24 6 = nI (cdL (tkA t n) 0 - 21) := by rw [upz_eq, upz_ne _ _ (by decide), upz_eq]
    have x0 : ∀ a, a ≠ 24 → upz F 24 (upz (upz (F 24) 6 (nI (cdL (tkA t n) 0 - 21))) 5 6) a = F a := fun a ha => upz_ne _ _ ha
    generalize upz F 24 (upz (upz (F 24) 6 (nI (cdL (tkA t n) 0 - 21))) 5 6) = F0 at P0 g0 g05 g06 x0
    have A0 : AT t n F0 0 := ⟨hA.1, by rw [g0 3 (by decide) (by decide)]; exact hA.2.1, by rw [g0 4 (by decide) (by decide)]; exact hA.2.2⟩
    refine c_next (hR.pf P0) A0 hk0 (by omega) (fun F2 s2 A1 => ?_)
    have P1 := P0.tr s2.pf
    have g1 : ∀ i, i ≠ 3 → i ≠ 4 → i ≠ 5 → i ≠ 6 → F2 24 i = F 24 i := fun i i1 i2 i3 i4 => by rw [s2.2 i i1 i2]; exact g0 i i3 i4
    have g15 : F2 24 5 = 6 := by rw [s2.2 5 (by decide) (by decide)]; exact g05
    have g16 : F2 24 6 = nI (cdL (tkA t n) 0 - 21) := by rw [s2.2 6 (by decide) (by decide)]; exact g06
    have x1 : ∀ a, a ≠ 24 → F2 a = F a := fun a ha => by rw [s2.1 a ha]; exact x0 a ha
    simp only [isO_c, ax0, ex_cons, am_get, upz_at, true_and, and_true, Nat.reduceAdd, Nat.reduceLeDiff, Nat.reduceEqDiff, Nat.reduceSub, Int32.reduceOfInt, Int32.reduceAdd, Int32.reduceMul, Int32.reduceSub, ↓reduceIte, Int32.reduceLT, Int32.reduceLE, Int32.reduceToNatClampNeg, Nat.reduceMod, Nat.reduceLT, List.length_cons, List.length_nil, eq_self, true_or, or_true, and_self, implies_true, not_true_eq_false, not_false_eq_true, false_implies, true_implies, forall_const, st_aloadx, st_baloadx, st_freturnx, st_getfieldx, st_iconstx, st_ifCondx, st_in1, st_in2, st_in3, st_isubx, st_ldcx, st_putfieldx, kb_Reader_parse_0, oo_24, og_24_0, og_24_3, op_24_6, op_24_5, oa_24, os_24, oa_25, or_25]
    refine c_pass (a := 9) hs (hR.pf P1) hb A1 (by decide) (by decide) (by decide) (fun w3 => ?_) (fun F3 w3 hk3 s3 a3 => ?_)
    · rw [if_neg (show ¬ cdL (tkA t n) 1 = 10 from w3)] at K0
      simp only [isO_c, ax0, ex_cons, am_get, upz_at, true_and, and_true, Nat.reduceAdd, Nat.reduceLeDiff, Nat.reduceEqDiff, Nat.reduceSub, Int32.reduceOfInt, Int32.reduceAdd, Int32.reduceMul, Int32.reduceSub, ↓reduceIte, Int32.reduceLT, Int32.reduceLE, Int32.reduceToNatClampNeg, Nat.reduceMod, Nat.reduceLT, List.length_cons, List.length_nil, eq_self, true_or, or_true, and_self, implies_true, not_true_eq_false, not_false_eq_true, false_implies, true_implies, forall_const, st_aloadx, st_baloadx, st_freturnx, st_getfieldx, st_iconstx, st_ifCondx, st_in1, st_in2, st_in3, st_isubx, st_ldcx, st_putfieldx, kb_Reader_parse_0, oo_24, og_24_0, og_24_3, op_24_6, op_24_5, oa_24, os_24, oa_25, or_25]
      exact K0 F2 1 rfl P1 A1
    · rw [if_pos (show cdL (tkA t n) 1 = 10 from w3)] at K0 K1
      have P3 := P1.tr s3.pf
      have g3 : ∀ i, i ≠ 3 → i ≠ 4 → F3 24 i = F2 24 i := s3.2
      have sec : ∀ (fl : Bool) F7 k7, k7 ≤ (tkA t n).length → fl = decide (cdL (tkA t n) 2 = 8) → k7 = (if cdL (tkA t n) 2 = 8 then 3 else 2) → Rs F3 F7 → AT t n F7 k7 → am_kk (am_ex (am_cl (d + 30)) (am_W kc_Reader_parse (am_cl (d + 30)) Q) Q [(.putstatic 5, 7), (.aload 0, 0), (.aload 0, 0), (.iconst 0, 0), (.invokeinterface 115 5, 2), (.putfield 5, 8), (.aload 0, 0), (.getfield 5, 8), (.ifCond .lt 0, 78), (.iconst 1, 0), (.goto 0, 79)]) [.ref 24] (some (.int (b2i fl))) [.ref 24] (ov h F7 J V) := by
        intro fl F7 k7 hk7 efl ek7 s7 a7
        rw [← ek7, ← efl] at K0 K1
        have ok2 := pQ_ok TK hk7 (c := 0) (by decide)
        have P7 := (P3.tr s7.pf).up (i := 7) (by decide) (b2i fl)
        have A7 := a7.up (i := 7) (by decide) (b2i fl)
        have g7 : ∀ i, i ≠ 3 → i ≠ 4 → i ≠ 7 → upz F7 24 (upz (F7 24) 7 (b2i fl)) 24 i = F2 24 i := fun i i1 i2 i3 => by rw [u24 i3, s7.2 i i1 i2]; exact g3 i i1 i2
        have x7 : ∀ a, a ≠ 24 → upz F7 24 (upz (F7 24) 7 (b2i fl)) a = F a := fun a ha => by rw [u24x ha, s7.1 a ha, s3.1 a ha]; exact x1 a ha
        have g77 : upz F7 24 (upz (F7 24) 7 (b2i fl)) 24 7 = b2i fl := u24e
        simp only [isO_c, ax0, ex_cons, am_get, upz_at, true_and, and_true, Nat.reduceAdd, Nat.reduceLeDiff, Nat.reduceEqDiff, Nat.reduceSub, Int32.reduceOfInt, Int32.reduceAdd, Int32.reduceMul, Int32.reduceSub, ↓reduceIte, Int32.reduceLT, Int32.reduceLE, Int32.reduceToNatClampNeg, Nat.reduceMod, Nat.reduceLT, List.length_cons, List.length_nil, eq_self, true_or, or_true, and_self, implies_true, not_true_eq_false, not_false_eq_true, false_implies, true_implies, forall_const, st_aloadx, st_getfieldx, st_gotox, st_iconstx, st_ifCondx, st_in2, st_ldcx, st_putfieldx, st_putstaticx, jx_Reader_parse_48, kb_Reader_parse_48, oo_24, op_24_7, op_24_8, og_24_8, oa_24, os_24, b2i_01]
        generalize upz F7 24 (upz (F7 24) 7 (b2i fl)) = F8 at P7 A7 g7 x7 g77
        refine pg k7 0 (d + 30) F8 _ 0 (pQ_some TK hk7 (by decide)) (by decide) (by omega) (hR.pf P7) A7 (by rw [g7 10 (by decide) (by decide) (by decide), g1 10 (by decide) (by decide) (by decide) (by decide)]; exact h10) (by decide) (by rw [x7 26 (by decide)]; exact h5) (by omega) (fun F9 v t9 p9 => ?_)
        have P9 := P7.tr t9.pf
        cases e2 : pQ (cdL (tkA t n)) (tkA t n).length k7 0 with
        | inl e =>
          rw [e2] at p9 K0
          obtain ⟨u1, u2⟩ := p9
          subst u1
          simp only [isO_c, ax0, ex_cons, am_get, upz_at, true_and, and_true, Nat.reduceAdd, Nat.reduceLeDiff, Nat.reduceEqDiff, Nat.reduceSub, Int32.reduceOfInt, Int32.reduceAdd, Int32.reduceMul, Int32.reduceSub, ↓reduceIte, Int32.reduceLT, Int32.reduceLE, Int32.reduceToNatClampNeg, Nat.reduceMod, Nat.reduceLT, List.length_cons, List.length_nil, eq_self, true_or, or_true, and_self, implies_true, not_true_eq_false, not_false_eq_true, false_implies, true_implies, forall_const, st_aloadx, st_freturnx, st_getfieldx, st_gotox, st_goto_wx, st_iconstx, st_ifCondx, st_in2, st_ldcx, st_putfieldx, st_putstaticx, jx_Reader_parse_48, kb_Reader_parse_48, oo_24, op_24_7, op_24_8, og_24_8, jx_Reader_parse_78, kb_Reader_parse_78, jx_Reader_parse_79, kb_Reader_parse_79, oa_24, os_24, u24e]
          exact K0 _ e rfl (P9.up (by decide) _) (u2.up (by decide) _)
        | inr y =>
          rw [e2] at p9 K1 ok2
          obtain ⟨j2, u1, u2, u3, u4, u5, u6, u7⟩ := p9
          subst u1
          obtain ⟨q1, q2, q3, q4⟩ := ok2
          rw [if_neg (by omega)] at q4
          have hly := lvT_pos y.1
          have g9 : ∀ i, 5 ≤ i → i ≠ 10 → F9 24 i = F8 24 i := fun i i1 i2 => t9.2.1 i (by omega) (by omega) i2
          simp only [isO_c, ax0, ex_cons, am_get, upz_at, true_and, and_true, Nat.reduceAdd, Nat.reduceLeDiff, Nat.reduceEqDiff, Nat.reduceSub, Int32.reduceOfInt, Int32.reduceAdd, Int32.reduceMul, Int32.reduceSub, ↓reduceIte, Int32.reduceLT, Int32.reduceLE, Int32.reduceToNatClampNeg, Nat.reduceMod, Nat.reduceLT, List.length_cons, List.length_nil, eq_self, true_or, or_true, and_self, implies_true, not_true_eq_false, not_false_eq_true, false_implies, true_implies, forall_const, st_aloadx, st_freturnx, st_getfieldx, st_gotox, st_iconstx, st_ifCondx, st_in2, st_ldcx, st_putfieldx, st_putstaticx, jx_Reader_parse_48, kb_Reader_parse_48, oo_24, op_24_7, op_24_8, og_24_8, jx_Reader_parse_79, kb_Reader_parse_79, oa_24, os_24, u24e, nk_neg (show j2 < 2147483648 by omega), nk_cl (show j2 < 2147483648 by omega)]
          refine K1 _ _ rfl (P9.up (by decide) _) (u2.up (by decide) _) ⟨?_, ?_, ?_, 0 + 2 * lvT y.1 - 1, ?_, by omega, ?_⟩
          · rw [u24 (by decide), g9 5 (by decide) (by decide), g7 5 (by decide) (by decide) (by decide), g15]; rfl
          · rw [u24 (by decide), g9 6 (by decide) (by decide), g7 6 (by decide) (by decide) (by decide), g16]; rfl
          · rw [u24 (by decide), g9 7 (by decide) (by decide), g77]
          · rw [u24x (by decide)]; exact u7
          · rw [if_neg (by show ¬ 10 < 9; decide)]
            refine ⟨j2, by rw [u24e], ?_, u4.up, by omega⟩
            rw [u24 (by decide), g9 9 (by decide) (by decide), g7 9 (by decide) (by decide) (by decide), g1 9 (by decide) (by decide) (by decide) (by decide), h9]
      simp only [isO_c, ax0, ex_cons, am_get, upz_at, true_and, and_true, Nat.reduceAdd, Nat.reduceLeDiff, Nat.reduceEqDiff, Nat.reduceSub, Int32.reduceOfInt, Int32.reduceAdd, Int32.reduceMul, Int32.reduceSub, ↓reduceIte, Int32.reduceLT, Int32.reduceLE, Int32.reduceToNatClampNeg, Nat.reduceMod, Nat.reduceLT, List.length_cons, List.length_nil, eq_self, true_or, or_true, and_self, implies_true, not_true_eq_false, not_false_eq_true, false_implies, true_implies, forall_const, st_aloadx, st_baloadx, st_freturnx, st_getfieldx, st_gotox, st_iconstx, st_ifCondx, st_in1, st_in2, st_in3, st_isubx, st_ldcx, st_putfieldx, st_putstaticx, kb_Reader_parse_0, oo_24, og_24_0, og_24_3, op_24_6, op_24_5, jx_Reader_parse_48, kb_Reader_parse_48, op_24_7, op_24_8, og_24_8, oa_24, os_24, oa_25, or_25]
      refine c_pass (a := 14) hs (hR.pf P3) hb a3 (by decide) (by decide) (by decide) (fun y4 => ?_) (fun F7 y4 hk7 s7 a7 => ?_)
      · exact sec false F3 2 hk3 (decide_eq_false (show ¬ cdL (tkA t n) 2 = 8 from y4)).symm (by rw [if_neg (show ¬ cdL (tkA t n) 2 = 8 from y4)]) Rs.rf a3
      · exact sec true F7 3 hk7 (decide_eq_true (show cdL (tkA t n) 2 = 8 from y4)).symm (by rw [if_pos (show cdL (tkA t n) 2 = 8 from y4)]) s7 a7
end CPA
