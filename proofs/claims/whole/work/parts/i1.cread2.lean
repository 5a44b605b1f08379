/-! ===== the class: reading the tape ===== -/
/-- what a reading leaves as it was -/
def Rg (F F' : Nat → Nat → Int32) : Prop := ∀ x, x < 24 ∨ x = 25 ∨ 33 < x → F' x = F x
theorem Rg.rf {F : Nat → Nat → Int32} : Rg F F := fun _ _ => rfl
theorem Rg.tr {F F1 F2 : Nat → Nat → Int32} (a : Rg F F1) (b : Rg F1 F2) : Rg F F2 := fun x hx => (b x hx).trans (a x hx)
theorem Pf.rg {F F' : Nat → Nat → Int32} (p : Pf F F') : Rg F F' := fun x hx => p.1 x (by omega)
theorem Wf.rg {F F' : Nat → Nat → Int32} (p : Wf F F') : Rg F F' := fun x hx => p x (by omega) (by omega)
theorem Rs.rg {F F' : Nat → Nat → Int32} (p : Rs F F') : Rg F F' := fun x hx => p.1 x (by omega)
theorem Rg.up {F F' : Nat → Nat → Int32} (a : Rg F F') (i : Nat) (v : Int32) : Rg F (upz F' 24 (upz (F' 24) i v)) := fun x hx => by rw [upz_ne _ _ (by omega)]; exact a x hx
theorem pl_end (n : Nat) (L : List (Nat × Nat)) : plL n L L.length = n := by
  unfold plL
  rw [List.getD_eq_getElem?_getD, List.getElem?_eq_none (Nat.le_refl _)]
  rfl
theorem RPr.up {F : Nat → Nat → Int32} {R : rT} (h : RPr F R) {i : Nat} (hi : i < 5) (v : Int32) : RPr (upz F 24 (upz (F 24) i v)) R := by
  obtain ⟨p5, p6, p7, cnt, c5, c48, pt⟩ := h
  refine ⟨by rw [u24 (by omega)]; exact p5, by rw [u24 (by omega)]; exact p6, by rw [u24 (by omega)]; exact p7, cnt, by rw [u24x (by decide)]; exact c5, c48, ?_⟩
  split
  · rename_i z
    rw [if_pos z] at pt
    obtain ⟨i1, i2, q8, q9, T1, T2, l1, l2⟩ := pt
    exact ⟨i1, i2, by rw [u24 (by omega)]; exact q8, by rw [u24 (by omega)]; exact q9, T1.up, T2.up, l1, l2⟩
  · rename_i z
    rw [if_neg z] at pt
    obtain ⟨i1, q8, q9, T1, l1⟩ := pt
    exact ⟨i1, by rw [u24 (by omega)]; exact q8, by rw [u24 (by omega)]; exact q9, T1.up, l1⟩
section CRE
variable {d : Nat} {h : am_H} {F : Nat → Nat → Int32} {J : Nat → Nat → Int64} {V : Nat → Nat → Value} {Q : am_Q}
set_option maxRecDepth 20000 in
theorem c_read (hs : HS h) (hp : HP h) (hh : 108 ≤ h.2.1) {t : Nat → Int32} {n : Nat} (hR : RT t n F) (hb : byT t n) (K0 : ∀ F' e, rdT t n = .inl e → Rg F F' → F' 24 1 = 0 → F' 24 2 = nI e → Q (some .null) (ov h F' J V)) (K1 : ∀ F' J' R fs fb, rdT t n = .inr R → Rg F F' → F' 24 1 = 0 → F' 24 2 = -1 → (∀ x, x ≠ 31 → J' x = J x) → okR R → SR (nsH h (oS h.2.1 R) (txR R) fs fb) h.2.1 R → Q (some (.ref h.2.1)) (ov (nsH h (oS h.2.1 R) (txR R) fs fb) F' J' V)) : am_cl (d + 55) 109 [.ref 24] (ov h F J V) Q := by
  have no : ∀ F3 e, rdT t n = .inl e → Rg F F3 → F3 24 3 = nI e → am_W kc_Reader_read (am_cl (d + 54)) Q 63 [.ref 24, am_dum, am_dum, am_dum, am_dum, am_dum] [] (ov h F3 J V) := by
    intro F3 e er r3 e3
    simp only [isO_c, ax0, ex_cons, am_get, upz_at, true_and, and_true, Nat.reduceAdd, Nat.reduceLeDiff, Nat.reduceEqDiff, Nat.reduceSub, Int32.reduceOfInt, Int32.reduceAdd, Int32.reduceMul, Int32.reduceSub, ↓reduceIte, Int32.reduceLT, Int32.reduceLE, Int32.reduceToNatClampNeg, Nat.reduceMod, Nat.reduceLT, List.length_cons, List.length_nil, eq_self, true_or, or_true, and_self, implies_true, not_true_eq_false, not_false_eq_true, false_implies, true_implies, forall_const, st_aconst_nullx, st_aloadx, st_areturnx, st_areturn_1x, st_getfieldx, st_gotox, st_goto_wx, st_iconstx, st_ifCondx, st_iloadx, st_istorex, st_putfieldx, am_put, am_nlg, jx_Reader_read_63, kb_Reader_read_63, jx_Reader_read_64, kb_Reader_read_64, jx_Reader_read_74, kb_Reader_read_74, og_24_3, jx_Reader_read_78, kb_Reader_read_78, op_24_2, op_24_1, oa_24, os_24, e3]
    exact K0 _ e er ((r3.up 2 _).up 1 _) rfl rfl
  have n400 := hR.2.1
  have ok := psS_ok (tkA_TK t n400).2.2.1 (fun k hk => by have := ((tkA_TK t n400).2.2.2 k hk).1; omega)
  simp only [isO_c, ax0, ex_cons, am_get, upz_at, true_and, and_true, Nat.reduceAdd, Nat.reduceLeDiff, Nat.reduceEqDiff, Nat.reduceSub, Int32.reduceOfInt, Int32.reduceAdd, Int32.reduceMul, Int32.reduceSub, ↓reduceIte, Int32.reduceLT, Int32.reduceLE, Int32.reduceToNatClampNeg, Nat.reduceMod, Nat.reduceLT, List.length_cons, List.length_nil, eq_self, true_or, or_true, and_self, implies_true, not_true_eq_false, not_false_eq_true, false_implies, true_implies, forall_const, st_aloadx, st_getfieldx, st_gotox, st_iconstx, st_ifCondx, st_if_icmpx, st_in1, st_putfieldx, st_putstaticx, kb_Reader_read_0, og_24_11, oo_26, op_24_10, op_24_6, op_24_7, op_24_8, op_24_9, op_24_4, oo_24, og_24_3, og_24_1, oa_24, oa_26, os_24, cx_Reader_read]
  simp only [isO_c, ax0, ex_cons, am_get, upz_at, true_and, and_true, Nat.reduceAdd, Nat.reduceLeDiff, Nat.reduceEqDiff, Nat.reduceSub, Int32.reduceOfInt, Int32.reduceAdd, Int32.reduceMul, Int32.reduceSub, ↓reduceIte, Int32.reduceLT, Int32.reduceLE, Int32.reduceToNatClampNeg, Nat.reduceMod, Nat.reduceLT, List.length_cons, List.length_nil, eq_self, true_or, or_true, and_self, implies_true, not_true_eq_false, not_false_eq_true, false_implies, true_implies, forall_const, st_aloadx, st_iconstx, st_putfieldx, st_return_x, cx_Tree_clear, kb_Tree_clear_0, op_26_5, oa_26, os_26]
  simp only [isO_c, ax0, ex_cons, am_get, upz_at, true_and, and_true, Nat.reduceAdd, Nat.reduceLeDiff, Nat.reduceEqDiff, Nat.reduceSub, Int32.reduceOfInt, Int32.reduceAdd, Int32.reduceMul, Int32.reduceSub, ↓reduceIte, Int32.reduceLT, Int32.reduceLE, Int32.reduceToNatClampNeg, Nat.reduceMod, Nat.reduceLT, List.length_cons, List.length_nil, eq_self, true_or, or_true, and_self, implies_true, not_true_eq_false, not_false_eq_true, false_implies, true_implies, forall_const, st_aloadx, st_getfieldx, st_gotox, st_iconstx, st_ifCondx, st_if_icmpx, st_in1, st_putfieldx, st_putstaticx, kb_Reader_read_0, og_24_11, oo_26, op_24_10, op_24_6, op_24_7, op_24_8, op_24_9, op_24_4, oo_24, og_24_3, og_24_1, oa_24, oa_26, os_24]
  refine c_first (t := t) (n := n) ⟨hR.1, n400, hR.2.2⟩ rfl (fun F1 s1 A1 => ?_)
  have g : ∀ i, i ≠ 3 → i ≠ 4 → i = 6 ∨ i = 9 → F1 24 i = -1 := fun i i1 i2 hi => by
    rw [s1.2 i i1 i2]
    rcases hi with e | e <;> rw [e] <;> rfl
  have r1 : Rg F F1 := fun x hx => by
    rw [s1.1 x (by omega)]
    simp only [upz_at, if_neg (show ¬ x = 24 by omega), if_neg (show ¬ x = 26 by omega)]
  have R1 : RT t n F1 := ⟨by rw [s1.2 1 (by decide) (by decide)]; exact hR.1, n400, fun i hi => by rw [r1 25 (by decide)]; exact hR.2.2 i hi⟩
  simp only [isO_c, ax0, ex_cons, am_get, upz_at, true_and, and_true, Nat.reduceAdd, Nat.reduceLeDiff, Nat.reduceEqDiff, Nat.reduceSub, Int32.reduceOfInt, Int32.reduceAdd, Int32.reduceMul, Int32.reduceSub, ↓reduceIte, Int32.reduceLT, Int32.reduceLE, Int32.reduceToNatClampNeg, Nat.reduceMod, Nat.reduceLT, List.length_cons, List.length_nil, eq_self, true_or, or_true, and_self, implies_true, not_true_eq_false, not_false_eq_true, false_implies, true_implies, forall_const, st_aloadx, st_getfieldx, st_gotox, st_iconstx, st_ifCondx, st_if_icmpx, st_in1, st_putfieldx, st_putstaticx, kb_Reader_read_0, og_24_11, oo_26, op_24_10, op_24_6, op_24_7, op_24_8, op_24_9, op_24_4, oo_24, og_24_3, og_24_1, oa_24, oa_26, os_24]
  refine c_parse hs R1 hb A1 (g 6 (by decide) (by decide) (by decide)) (by rw [s1.2 7 (by decide) (by decide)]; rfl) (g 9 (by decide) (by decide) (by decide)) (by rw [s1.2 10 (by decide) (by decide)]; rfl) (by rw [s1.1 26 (by decide)]; rfl) (fun F2 e es p2 A2 => ?_) (fun F2 x es p2 A2 P2 => ?_)
  · simp only [isO_c, ax0, ex_cons, am_get, upz_at, true_and, and_true, Nat.reduceAdd, Nat.reduceLeDiff, Nat.reduceEqDiff, Nat.reduceSub, Int32.reduceOfInt, Int32.reduceAdd, Int32.reduceMul, Int32.reduceSub, ↓reduceIte, Int32.reduceLT, Int32.reduceLE, Int32.reduceToNatClampNeg, Nat.reduceMod, Nat.reduceLT, List.length_cons, List.length_nil, eq_self, true_or, or_true, and_self, implies_true, not_true_eq_false, not_false_eq_true, false_implies, true_implies, forall_const, st_aloadx, st_getfieldx, st_gotox, st_iconstx, st_ifCondx, st_if_icmpx, st_in1, st_putfieldx, st_putstaticx, kb_Reader_read_0, og_24_11, oo_26, op_24_10, op_24_6, op_24_7, op_24_8, op_24_9, op_24_4, oo_24, og_24_3, og_24_1, oa_24, oa_26, os_24]
    refine no F2 (plL n (tkA t n) e) ?_ (r1.tr p2.rg) A2.2.1
    unfold rdT psE
    rw [es]
  · have f1 : F2 24 1 = nI n := by rw [p2.2.1]; exact R1.1
    have le := pl_le (t := t) (n := n) (k := x.2)
    rw [es] at ok
    simp only [isO_c, ax0, ex_cons, am_get, upz_at, true_and, and_true, Nat.reduceAdd, Nat.reduceLeDiff, Nat.reduceEqDiff, Nat.reduceSub, Int32.reduceOfInt, Int32.reduceAdd, Int32.reduceMul, Int32.reduceSub, ↓reduceIte, Int32.reduceLT, Int32.reduceLE, Int32.reduceToNatClampNeg, Nat.reduceMod, Nat.reduceLT, List.length_cons, List.length_nil, eq_self, true_or, or_true, and_self, implies_true, not_true_eq_false, not_false_eq_true, false_implies, true_implies, forall_const, st_aloadx, st_getfieldx, st_gotox, st_iconstx, st_ifCondx, st_if_icmpx, st_in1, st_putfieldx, st_putstaticx, kb_Reader_read_0, og_24_11, oo_26, op_24_10, op_24_6, op_24_7, op_24_8, op_24_9, op_24_4, oo_24, og_24_3, og_24_1, oa_24, oa_26, os_24, A2.2.1, f1, (nk_lt (by omega) (by omega) : (nI (plL n (tkA t n) x.2) < nI n) = (plL n (tkA t n) x.2 < n))]
    refine ⟨fun z => ?_, fun z => ?_⟩
    · refine no F2 (plL n (tkA t n) x.2) ?_ (r1.tr p2.rg) A2.2.1
      have lt : x.2 < (tkA t n).length := by
        rcases Nat.lt_or_ge x.2 (tkA t n).length with u | u
        · exact u
        · have e : x.2 = (tkA t n).length := Nat.le_antisymm A2.1 u
          rw [e, pl_end] at z
          omega
      unfold rdT psE
      rw [es]
      show (match (if x.2 < (tkA t n).length then Sum.inl x.2 else Sum.inr x.1 : Nat ⊕ rT) with
        | .inl e => Sum.inl (plL n (tkA t n) e)
        | .inr R => Sum.inr R) = _
      rw [if_pos lt]
    · have ge : ¬ x.2 < (tkA t n).length := fun u => z (at_k u).1
      have er : rdT t n = .inr x.1 := by
        unfold rdT psE
        rw [es]
        show (match (if x.2 < (tkA t n).length then Sum.inl x.2 else Sum.inr x.1 : Nat ⊕ rT) with
          | .inl e => Sum.inl (plL n (tkA t n) e)
          | .inr R => Sum.inr R) = _
        rw [if_neg ge]
      simp only [isO_c, ax0, ex_cons, am_get, upz_at, true_and, and_true, Nat.reduceAdd, Nat.reduceLeDiff, Nat.reduceEqDiff, Nat.reduceSub, Int32.reduceOfInt, Int32.reduceAdd, Int32.reduceMul, Int32.reduceSub, ↓reduceIte, Int32.reduceLT, Int32.reduceLE, Int32.reduceToNatClampNeg, Nat.reduceMod, Nat.reduceLT, List.length_cons, List.length_nil, eq_self, true_or, or_true, and_self, implies_true, not_true_eq_false, not_false_eq_true, false_implies, true_implies, forall_const, st_aconst_nullx, st_aloadx, st_areturnx, st_areturn_1x, st_gotox, st_iconstx, st_ifCondx, st_iloadx, st_istorex, st_putfieldx, am_put, am_nlg, jx_Reader_read_64, kb_Reader_read_64, jx_Reader_read_78, kb_Reader_read_78, op_24_2, op_24_1, oa_24, os_24]
      refine c_readEnd hs hp hh (okS_R ok) ((P2.up (i := 2) (by decide) (-1)).up (i := 1) (by decide) 0) (fun F3 J3 fs fb w3 j3 sr => ?_)
      have g3 : F3 24 = _ := w3 24 (by decide) (by decide)
      refine K1 F3 J3 x.1 fs fb er ((((r1.tr p2.rg).up 2 _).up 1 _).tr w3.rg) ?_ ?_ j3 (okS_R ok) sr
      · rw [g3]; rfl
      · rw [g3]; rfl
end CRE
