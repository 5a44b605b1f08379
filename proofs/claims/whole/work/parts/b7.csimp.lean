/-! ===== the class: simple sentences ===== -/
def HP (h : am_H) : Prop := h.1 1 = aJ am_pat
theorem HP.at {h : am_H} (hb : HP h) {F : Nat → Nat → Int32} {J : Nat → Nat → Int64} {V : Nat → Nat → Value} : (ov h F J V).1 1 = aJ am_pat := by rw [ov_hi (by omega)]; exact hb
def kwJ (k w : Nat) : Int64 := if k < 6 then am_pat.getD k 0 else if (if k = 6 then w &&& 1 else w &&& 2) = 0 then 0 else -1
theorem kw_dec : ∀ k : Fin 8, ∀ r : Fin 256, bJ (kwJ k.val) r.val = r.val.testBit k.val := by decide +kernel
theorem kw_bit {k r : Nat} (hk : k < 8) (hr : r < 256) : bJ (kwJ k) r = r.testBit k := kw_dec ⟨k, hk⟩ ⟨r, hr⟩
theorem len_pat {K : Nat → Prop} : am_len K (aJ am_pat) = K 6 := oq_t (by decide)
theorem rd_pat {j : Int32} {K : Int64 → Prop} : am_rJ j K (aJ am_pat) = (vp_in j 6 ∧ K (am_pat.getD j.toNatClampNeg 0)) := rfl
theorem nk_andl {w b : Nat} (hw : w < 4) (hb : b < 2147483648) : (nI w &&& nI b = 0) = (w &&& b = 0) := by
  rw [nk_and]
  have : w &&& b ≤ w := Nat.and_le_left
  exact nk_eq (b := 0) (by omega) (by decide)
section CSI
variable {d : Nat} {h : am_H} {F : Nat → Nat → Int32} {J : Nat → Nat → Int64} {V : Nat → Nat → Value} {Q : am_Q}
set_option maxRecDepth 20000 in
theorem c_kindWord {hp : am_H} (h1 : hp.1 1 = aJ am_pat) {k w : Nat} (hk : k < 8) (hw : w < 4) (K : Q (some (.long (kwJ k w))) hp) : am_cl (d + 1) 74 [.int (nI k), .int (nI w)] hp Q := by
  unfold kwJ at K
  simp only [isO_c, ax0, ex_cons, am_get, upz_at, true_and, and_true, Nat.reduceAdd, Nat.reduceLeDiff, Nat.reduceEqDiff, Nat.reduceSub, Int32.reduceOfInt, Int32.reduceAdd, Int32.reduceMul, Int32.reduceSub, ↓reduceIte, Int32.reduceLT, Int32.reduceLE, Int32.reduceToNatClampNeg, Nat.reduceMod, Nat.reduceLT, List.length_cons, List.length_nil, eq_self, true_or, or_true, and_self, implies_true, not_true_eq_false, not_false_eq_true, false_implies, true_implies, forall_const, st_arraylengthx, st_ifCondx, st_if_icmpx, st_iloadx, st_laloadx, st_ldcx, st_lreturnx, kb_Slips_kindWord_0, cx_Slips_kindWord, h1, len_pat, rd_pat, nk_neg (show k < 2147483648 by omega), nk_cl (show k < 2147483648 by omega), (nk_le (by omega) (by omega) : (nI (6) ≤ nI (k)) = (6 ≤ k))]
  refine And.intro (fun q => ?_) (fun q => ?_)
  · rw [if_neg (show ¬ k < 6 by omega)] at K
    simp only [isO_c, ax0, ex_cons, am_get, upz_at, true_and, and_true, Nat.reduceAdd, Nat.reduceLeDiff, Nat.reduceEqDiff, Nat.reduceSub, Int32.reduceOfInt, Int32.reduceAdd, Int32.reduceMul, Int32.reduceSub, ↓reduceIte, Int32.reduceLT, Int32.reduceLE, Int32.reduceToNatClampNeg, Nat.reduceMod, Nat.reduceLT, List.length_cons, List.length_nil, eq_self, true_or, or_true, and_self, implies_true, not_true_eq_false, not_false_eq_true, false_implies, true_implies, forall_const, st_bipushx, st_gotox, st_goto_wx, st_iandx, st_iconstx, st_ifCondx, st_if_icmpx, st_iloadx, st_istorex, st_lreturnx, am_put, am_nlg, jx_Slips_kindWord_18, kb_Slips_kindWord_18, jx_Slips_kindWord_28, kb_Slips_kindWord_28, jx_Slips_kindWord_29, kb_Slips_kindWord_29, jx_Slips_kindWord_42, kb_Slips_kindWord_42, jx_Slips_kindWord_43, kb_Slips_kindWord_43, show (nI k = (6 : Int32)) = (k = 6) from nk_eq (b := 6) (by omega) (by decide), show (nI w &&& (1 : Int32) = 0) = (w &&& 1 = 0) from nk_andl (b := 1) hw (by decide), show (nI w &&& (2 : Int32) = 0) = (w &&& 2 = 0) from nk_andl (b := 2) hw (by decide)]
    refine And.intro (fun q2 => ?_) (fun q2 => ?_)
    · rw [if_neg q2] at K
      refine And.intro (fun q3 => ?_) (fun q3 => ?_)
      · rw [if_pos q3] at K; exact K
      · rw [if_neg q3] at K; exact K
    · rw [if_pos (Classical.not_not.mp q2)] at K
      refine And.intro (fun q3 => ?_) (fun q3 => ?_)
      · rw [if_pos q3] at K; exact K
      · rw [if_neg q3] at K; exact K
  · rw [if_pos (show k < 6 by omega)] at K
    exact ⟨by omega, K⟩
/-- universal moods -/
def unB (m : Int32) : Bool := decide (m = 0) || decide (m = 1)
set_option maxRecDepth 20000 in
theorem c_isUniversal {hp : am_H} {m : Int32} (K : Q (some (.int (b2i (unB m)))) hp) : am_cl (d + 1) 72 [.int m] hp Q := by
  unfold unB at K
  simp only [isO_c, ax0, ex_cons, am_get, upz_at, true_and, and_true, Nat.reduceAdd, Nat.reduceLeDiff, Nat.reduceEqDiff, Nat.reduceSub, Int32.reduceOfInt, Int32.reduceAdd, Int32.reduceMul, Int32.reduceSub, ↓reduceIte, Int32.reduceLT, Int32.reduceLE, Int32.reduceToNatClampNeg, Nat.reduceMod, Nat.reduceLT, List.length_cons, List.length_nil, eq_self, true_or, or_true, and_self, implies_true, not_true_eq_false, not_false_eq_true, false_implies, true_implies, forall_const, st_freturnx, st_gotox, st_goto_wx, st_iconstx, st_ifCondx, st_if_icmpx, st_iloadx, kb_Slips_isUniversal_0, jx_Slips_isUniversal_9, kb_Slips_isUniversal_9, jx_Slips_isUniversal_13, kb_Slips_isUniversal_13, jx_Slips_isUniversal_14, kb_Slips_isUniversal_14, cx_Slips_isUniversal]
  refine And.intro (fun q => ?_) (fun q => ?_)
  · rw [decide_eq_true q] at K; exact K
  · rw [decide_eq_false q, Bool.false_or] at K
    refine And.intro (fun q => ?_) (fun q => ?_)
    · rw [decide_eq_false q] at K; exact K
    · rw [decide_eq_true (Classical.not_not.mp q)] at K; exact K
set_option maxRecDepth 20000 in
theorem c_isNegative {hp : am_H} {m : Int32} (K : Q (some (.int (b2i (ngI m)))) hp) : am_cl (d + 1) 73 [.int m] hp Q := by
  unfold ngI at K
  simp only [isO_c, ax0, ex_cons, am_get, upz_at, true_and, and_true, Nat.reduceAdd, Nat.reduceLeDiff, Nat.reduceEqDiff, Nat.reduceSub, Int32.reduceOfInt, Int32.reduceAdd, Int32.reduceMul, Int32.reduceSub, ↓reduceIte, Int32.reduceLT, Int32.reduceLE, Int32.reduceToNatClampNeg, Nat.reduceMod, Nat.reduceLT, List.length_cons, List.length_nil, eq_self, true_or, or_true, and_self, implies_true, not_true_eq_false, not_false_eq_true, false_implies, true_implies, forall_const, st_freturnx, st_gotox, st_goto_wx, st_iconstx, st_if_icmpx, st_iloadx, kb_Slips_isNegative_0, jx_Slips_isNegative_10, kb_Slips_isNegative_10, jx_Slips_isNegative_14, kb_Slips_isNegative_14, jx_Slips_isNegative_15, kb_Slips_isNegative_15, cx_Slips_isNegative]
  refine And.intro (fun q => ?_) (fun q => ?_)
  · rw [decide_eq_true q] at K; exact K
  · rw [decide_eq_false q, Bool.false_or] at K
    refine And.intro (fun q => ?_) (fun q => ?_)
    · rw [decide_eq_false q] at K; exact K
    · rw [decide_eq_true (Classical.not_not.mp q)] at K; exact K
theorem n_dec : ∀ n : Fin 256, nI n.val >>> (6 &&& 31) &&& 3 = nI (n.val / 64) ∧ nI n.val >>> (3 &&& 31) &&& 7 = nI (n.val / 8 % 8) ∧ nI n.val &&& 7 = nI (n.val % 8) := by decide +kernel
set_option maxRecDepth 20000 in
theorem c_moodOf {hp : am_H} {n : Nat} (hn : n < 256) (K : Q (some (.int (nI (n / 64)))) hp) : am_cl (d + 1) 68 [.int (nI n)] hp Q := by
  have e : nI n >>> (6 &&& 31) &&& 3 = nI (n / 64) := (n_dec ⟨n, hn⟩).1
  simp only [isO_c, ax0, ex_cons, am_get, upz_at, true_and, and_true, Nat.reduceAdd, Nat.reduceLeDiff, Nat.reduceEqDiff, Nat.reduceSub, Int32.reduceOfInt, Int32.reduceAdd, Int32.reduceMul, Int32.reduceSub, ↓reduceIte, Int32.reduceLT, Int32.reduceLE, Int32.reduceToNatClampNeg, Nat.reduceMod, Nat.reduceLT, List.length_cons, List.length_nil, eq_self, true_or, or_true, and_self, implies_true, not_true_eq_false, not_false_eq_true, false_implies, true_implies, forall_const, st_iandx, st_iconstx, st_iloadx, st_ireturnx, st_ishrx, kb_Slips_moodOf_0, cx_Slips_moodOf, e]
  exact K
set_option maxRecDepth 20000 in
theorem c_subjectOf {hp : am_H} {n : Nat} (hn : n < 256) (K : Q (some (.int (nI (n / 8 % 8)))) hp) : am_cl (d + 1) 69 [.int (nI n)] hp Q := by
  have e : nI n >>> (3 &&& 31) &&& 7 = nI (n / 8 % 8) := (n_dec ⟨n, hn⟩).2.1
  simp only [isO_c, ax0, ex_cons, am_get, upz_at, true_and, and_true, Nat.reduceAdd, Nat.reduceLeDiff, Nat.reduceEqDiff, Nat.reduceSub, Int32.reduceOfInt, Int32.reduceAdd, Int32.reduceMul, Int32.reduceSub, ↓reduceIte, Int32.reduceLT, Int32.reduceLE, Int32.reduceToNatClampNeg, Nat.reduceMod, Nat.reduceLT, List.length_cons, List.length_nil, eq_self, true_or, or_true, and_self, implies_true, not_true_eq_false, not_false_eq_true, false_implies, true_implies, forall_const, st_iandx, st_iconstx, st_iloadx, st_ireturnx, st_ishrx, kb_Slips_subjectOf_0, cx_Slips_subjectOf, e]
  exact K
set_option maxRecDepth 20000 in
theorem c_predicateOf {hp : am_H} {n : Nat} (hn : n < 256) (K : Q (some (.int (nI (n % 8)))) hp) : am_cl (d + 1) 70 [.int (nI n)] hp Q := by
  have e : nI n &&& 7 = nI (n % 8) := (n_dec ⟨n, hn⟩).2.2
  simp only [isO_c, ax0, ex_cons, am_get, upz_at, true_and, and_true, Nat.reduceAdd, Nat.reduceLeDiff, Nat.reduceEqDiff, Nat.reduceSub, Int32.reduceOfInt, Int32.reduceAdd, Int32.reduceMul, Int32.reduceSub, ↓reduceIte, Int32.reduceLT, Int32.reduceLE, Int32.reduceToNatClampNeg, Nat.reduceMod, Nat.reduceLT, List.length_cons, List.length_nil, eq_self, true_or, or_true, and_self, implies_true, not_true_eq_false, not_false_eq_true, false_implies, true_implies, forall_const, st_iandx, st_iconstx, st_iloadx, st_ireturnx, kb_Slips_predicateOf_0, cx_Slips_predicateOf, e]
  exact K
theorem sO {h : am_H} {F : Nat → Nat → Int32} {J : Nat → Nat → Int64} {V : Nat → Nat → Value} {s : Nat} (hs : s = 51 ∨ s = 71) : (ov h F J V).1 s = aO 6 [.int (F s 0), .int (F s 1), .int (F s 2), .int (F s 3), .int (F s 4), .int (F s 5), .ref (s + 2), .ref (s + 3), .ref (s + 1)] := by
  rcases hs with e | e <;> subst e
  · exact oa_51
  · exact oa_71
theorem sS {h : am_H} {F : Nat → Nat → Int32} {J : Nat → Nat → Int64} {V : Nat → Nat → Value} {s : Nat} {x0 x1 x2 x3 x4 x5 : Int32} (hs : s = 51 ∨ s = 71) : am_set (ov h F J V) s (aO 6 [.int x0, .int x1, .int x2, .int x3, .int x4, .int x5, .ref (s + 2), .ref (s + 3), .ref (s + 1)]) = ov h (upz F s (upz (upz (upz (upz (upz (upz (F s) 0 x0) 1 x1) 2 x2) 3 x3) 4 x4) 5 x5)) J V := by
  rcases hs with e | e <;> subst e
  · exact os_51 (f := upz (upz (upz (upz (upz (upz (F 51) 0 x0) 1 x1) 2 x2) 3 x3) 4 x4) 5 x5)
  · exact os_71 (f := upz (upz (upz (upz (upz (upz (F 71) 0 x0) 1 x1) 2 x2) 3 x3) 4 x4) 5 x5)
theorem sJ2 {h : am_H} {F : Nat → Nat → Int32} {J : Nat → Nat → Int64} {V : Nat → Nat → Value} {s : Nat} (hs : s = 51 ∨ s = 71) : (ov h F J V).1 (s + 2) = aJ (am_ar 4 (J (s + 2))) := by
  rcases hs with e | e <;> subst e
  · exact oa_53
  · exact oa_73
theorem sJ3 {h : am_H} {F : Nat → Nat → Int32} {J : Nat → Nat → Int64} {V : Nat → Nat → Value} {s : Nat} (hs : s = 51 ∨ s = 71) : (ov h F J V).1 (s + 3) = aJ (am_ar 4 (J (s + 3))) := by
  rcases hs with e | e <;> subst e
  · exact oa_54
  · exact oa_74
theorem sW2 {h : am_H} {F : Nat → Nat → Int32} {J : Nat → Nat → Int64} {V : Nat → Nat → Value} {s : Nat} {f : Nat → Int64} (hs : s = 51 ∨ s = 71) : am_set (ov h F J V) (s + 2) (aJ (am_ar 4 f)) = ov h F (upz J (s + 2) f) V := by
  rcases hs with e | e <;> subst e
  · exact os_53 (f := f)
  · exact os_73 (f := f)
theorem sW3 {h : am_H} {F : Nat → Nat → Int32} {J : Nat → Nat → Int64} {V : Nat → Nat → Value} {s : Nat} {f : Nat → Int64} (hs : s = 51 ∨ s = 71) : am_set (ov h F J V) (s + 3) (aJ (am_ar 4 f)) = ov h F (upz J (s + 3) f) V := by
  rcases hs with e | e <;> subst e
  · exact os_54 (f := f)
  · exact os_74 (f := f)
theorem pf6 {v0 v1 v2 v3 v4 v5 v6 v7 v8 x : Value} {K : am_E → Prop} : am_pf 6 0 x K (aO 6 [v0, v1, v2, v3, v4, v5, v6, v7, v8]) = K (aO 6 [x, v1, v2, v3, v4, v5, v6, v7, v8]) ∧ am_pf 6 1 x K (aO 6 [v0, v1, v2, v3, v4, v5, v6, v7, v8]) = K (aO 6 [v0, x, v2, v3, v4, v5, v6, v7, v8]) ∧ am_pf 6 2 x K (aO 6 [v0, v1, v2, v3, v4, v5, v6, v7, v8]) = K (aO 6 [v0, v1, x, v3, v4, v5, v6, v7, v8]) ∧ am_pf 6 3 x K (aO 6 [v0, v1, v2, v3, v4, v5, v6, v7, v8]) = K (aO 6 [v0, v1, v2, x, v4, v5, v6, v7, v8]) ∧ am_pf 6 4 x K (aO 6 [v0, v1, v2, v3, v4, v5, v6, v7, v8]) = K (aO 6 [v0, v1, v2, v3, x, v5, v6, v7, v8]) ∧ am_pf 6 5 x K (aO 6 [v0, v1, v2, v3, v4, v5, v6, v7, v8]) = K (aO 6 [v0, v1, v2, v3, v4, x, v6, v7, v8]) := by
  refine ⟨?_, ?_, ?_, ?_, ?_, ?_⟩
  · exact propext ⟨fun z => z.2.2, fun z => ⟨rfl, by show 0 < 9; decide, z⟩⟩
  · exact propext ⟨fun z => z.2.2, fun z => ⟨rfl, by show 1 < 9; decide, z⟩⟩
  · exact propext ⟨fun z => z.2.2, fun z => ⟨rfl, by show 2 < 9; decide, z⟩⟩
  · exact propext ⟨fun z => z.2.2, fun z => ⟨rfl, by show 3 < 9; decide, z⟩⟩
  · exact propext ⟨fun z => z.2.2, fun z => ⟨rfl, by show 4 < 9; decide, z⟩⟩
  · exact propext ⟨fun z => z.2.2, fun z => ⟨rfl, by show 5 < 9; decide, z⟩⟩
/-- only a simple sentence's cells change -/
def Tsi (s : Nat) (F F' : Nat → Nat → Int32) (J J' : Nat → Nat → Int64) : Prop := (∀ x, x ≠ s → F' x = F x) ∧ ∀ x, x ≠ s + 2 → x ≠ s + 3 → J' x = J x
theorem Tsi.tr {s : Nat} {F F1 F2 : Nat → Nat → Int32} {J J1 J2 : Nat → Nat → Int64} (a : Tsi s F F1 J J1) (b : Tsi s F1 F2 J1 J2) : Tsi s F F2 J J2 := ⟨fun x hx => (b.1 x hx).trans (a.1 x hx), fun x h1 h2 => (b.2 x h1 h2).trans (a.2 x h1 h2)⟩
theorem Tsi.cf {s : Nat} (hs : s = 51 ∨ s = 71) {F F' : Nat → Nat → Int32} {J J' : Nat → Nat → Int64} (a : Tsi s F F' J J') : Cf F F' := fun x _ h2 _ h4 => a.1 x (by omega)
theorem TT.si {F F' : Nat → Nat → Int32} {J J' : Nat → Nat → Int64} {th s : Nat} (hth : th = 47 ∨ th = 67) (hs : s = 51 ∨ s = 71) {T : tT} {P : Nat} (h : TT F J th T P) (a : Tsi s F F' J J') : TT F' J' th T P := by
  obtain ⟨t1, t2, t3, t4, t5, t6, t7, t8⟩ := h
  refine ⟨?_, ?_, t3, ?_, ?_, ?_, t7, t8⟩
  · rw [a.2 (th + 1) (by omega) (by omega)]; exact t1
  · rw [a.1 th (by omega)]; exact t2
  · rw [a.2 (th + 2) (by omega) (by omega)]; exact t4
  · rw [a.2 (th + 3) (by omega) (by omega)]; exact t5
  · rw [a.1 th (by omega)]; exact t6
set_option maxRecDepth 20000 in
theorem c_setSimple {s : Nat} (hs : s = 51 ∨ s = 71) (hp : HP h) {m u v : Nat} (hm : m < 4) (hu : u < 8) (hv : v < 8) (K : ∀ F' J', CL (ov h F' J' V) s (clR (rS (64 * m + 8 * u + v))) → F' s 3 = nI m → F' s 4 = nI u → F' s 5 = nI v → Tsi s F F' J J' → Q none (ov h F' J' V)) : am_cl (d + 2) 127 [.ref s, .int (nI m), .int (nI u), .int (nI v)] (ov h F J V) Q := by
  have h23 : 23 ≤ s := by omega
  simp only [isO_c, ax0, ex_cons, am_get, upz_at, true_and, and_true, Nat.reduceAdd, Nat.reduceLeDiff, Nat.reduceEqDiff, Nat.reduceSub, Int32.reduceOfInt, Int32.reduceAdd, Int32.reduceMul, Int32.reduceSub, ↓reduceIte, Int32.reduceLT, Int32.reduceLE, Int32.reduceToNatClampNeg, Nat.reduceMod, Nat.reduceLT, List.length_cons, List.length_nil, eq_self, true_or, or_true, and_self, implies_true, not_true_eq_false, not_false_eq_true, false_implies, true_implies, forall_const, st_aloadx, st_getfieldx, st_gotox, st_iconstx, st_ifCondx, st_iloadx, st_st1, st_putfieldx, kb_Sentence_setSimple_0, cx_Sentence_setSimple, sO hs, gf6, pf6, h23, sS hs, upz_upd, upz_eq]
  refine c_isUniversal ?_
  have hun : unB (nI m) = decide (m < 2) := by
    unfold unB
    rw [Bool.eq_iff_iff, Bool.or_eq_true, decide_eq_true_eq, decide_eq_true_eq, decide_eq_true_eq]
    rw [show (nI m = (0 : Int32)) = (m = 0) from nk_eq (b := 0) (by omega) (by decide), show (nI m = (1 : Int32)) = (m = 1) from nk_eq (b := 1) (by omega) (by decide)]
    omega
  have e1 : (64 * m + 8 * u + v) / 64 = m := by omega
  have e2 : (64 * m + 8 * u + v) / 8 % 8 = u := by omega
  have e3 : (64 * m + 8 * u + v) % 8 = v := by omega
  have fin : ∀ (F1 : Nat → Nat → Int32), F1 s 3 = nI m → F1 s 4 = nI u → F1 s 5 = nI v → F1 s 0 = nI (if m < 2 then 0 else 1) → F1 s 2 = b2i (decide (m < 2)) → (∀ x, x ≠ s → F1 x = F x) → ∀ (b : Bool), b = decide (m = 0 ∨ m = 3) → ∀ v6 v7 v8 v9, am_W kc_Sentence_setSimple (am_cl (d + 1)) Q 70 [.ref s, .int (nI m), .int (nI u), .int (nI v), .int (b2i b), .int (nI 0), v6, v7, v8, v9] [] (ov h F1 J V) := by
    intro F1 g3 g4 g5 g0 g2 gF b hb
    have key : ∀ j k J1 v6 v7 v8 v9, k + j = 4 → (∀ i, i < k → J1 (s + 3) i = kwJ u i ∧ J1 (s + 2) i = (kwJ u i &&& (if b then kwJ v i ^^^ -1 else kwJ v i))) → (∀ x, x ≠ s + 2 → x ≠ s + 3 → J1 x = J x) → am_W kc_Sentence_setSimple (am_cl (d + 1)) Q 70 [.ref s, .int (nI m), .int (nI u), .int (nI v), .int (b2i b), .int (nI k), v6, v7, v8, v9] [] (ov h F1 J1 V) := by
      intro j
      induction j with
      | zero =>
        intro k J1 v6 v7 v8 v9 ek hI hJ
        have ek : k = 4 := ek
        subst ek
        rw [jx_Sentence_setSimple_70]
        simp only [isO_c, ax0, ex_cons, am_get, upz_at, true_and, and_true, Nat.reduceAdd, Nat.reduceLeDiff, Nat.reduceEqDiff, Nat.reduceSub, Int32.reduceOfInt, Int32.reduceAdd, Int32.reduceMul, Int32.reduceSub, ↓reduceIte, Int32.reduceLT, Int32.reduceLE, Int32.reduceToNatClampNeg, Nat.reduceMod, Nat.reduceLT, List.length_cons, List.length_nil, eq_self, true_or, or_true, and_self, implies_true, not_true_eq_false, not_false_eq_true, false_implies, true_implies, forall_const, st_aloadx, st_bipushx, st_getfieldx, st_gotox, st_iconstx, st_ifCondx, st_if_icmpx, st_iloadx, st_st2, st_lastorex, st_lloadx, st_lstorex, st_lxorx, st_return_x, am_putL, am_nlg, kb_Sentence_setSimple_70, jx_Sentence_setSimple_139, kb_Sentence_setSimple_139, show ((4 : Int32) ≤ nI (4)) = (4 ≤ 4) from nk_le (a := 4) (b := 4) (by omega) (by omega)]
        refine K F1 J1 ⟨F1 s 1, F1 s 3, F1 s 4, F1 s 5, s + 2, s + 3, s + 1, ?_, saR_le _, fun q => ?_, ⟨J1 (s + 2), sJ2 hs, fun r hr => ?_⟩, ⟨J1 (s + 3), sJ3 hs, fun _ r hr => ?_⟩, ?_, ?_, ?_, by omega, by omega⟩ g3 g4 g5 ⟨gF, hJ⟩
        · rw [sO hs, g0, g2]
          have z0 : saR (rS (64 * m + 8 * u + v)) = (if m < 2 then 0 else 1) := by
            unfold saR rS
            rw [e1]
            rcases (show m = 0 ∨ m = 1 ∨ m = 2 ∨ m = 3 by omega) with e | e | e | e <;> subst e <;> rfl
          have z1 : hsR (rS (64 * m + 8 * u + v)) = decide (m < 2) := by
            unfold hsR rS
            rw [e1]
            rcases (show m = 0 ∨ m = 1 ∨ m = 2 ∨ m = 3 by omega) with e | e | e | e <;> subst e <;> rfl
          show _ = aO 6 [.int (nI (saR (rS (64 * m + 8 * u + v)))), _, .int (b2i (hsR (rS (64 * m + 8 * u + v)))), _, _, _, _, _, _]
          rw [z0, z1]
        · exfalso
          have q := saR_2 q
          unfold rS at q
          rw [e1] at q
          dsimp only at q
          split at q
          · omega
          · split at q <;> omega
        · have hk : bJ (J1 (s + 2)) r = (r.testBit u && (if b then !r.testBit v else r.testBit v)) := by
            refine bJ_at (y := fun i => kwJ u i &&& (if b then kwJ v i ^^^ -1 else kwJ v i)) hr (fun i hi => (hI i hi).2) ?_
            cases b
            · show bJ (fun i => kwJ u i &&& kwJ v i) r = _
              rw [bJ_and (kwJ u) (kwJ v), kw_bit hu hr, kw_bit hv hr]; rfl
            · show bJ (fun i => kwJ u i &&& (kwJ v i ^^^ -1)) r = _
              rw [bJ_and (kwJ u) (fun i => kwJ v i ^^^ -1), bJ_not, kw_bit hu hr, kw_bit hv hr]; rfl
          rw [hk, hb]
          show _ = seR (rS (64 * m + 8 * u + v)) r
          unfold seR avR tnR rS
          rw [e1, e2, e3]
          have w1 : evT (.var u) r = r.testBit u := rfl
          have w2 : evT (.var v) r = r.testBit v := rfl
          rcases (show m = 0 ∨ m = 1 ∨ m = 2 ∨ m = 3 by omega) with e | e | e | e <;> subst e <;> simp [w1, w2]
        · refine bJ_at (y := kwJ u) hr (fun i hi => (hI i hi).1) ?_
          rw [kw_bit hu hr]
          show _ = suR (rS (64 * m + 8 * u + v)) r
          unfold suR avR tnR rS
          rw [e1, e2, e3]
          have w1 : evT (.var u) r = r.testBit u := rfl
          rcases (show m = 0 ∨ m = 1 ∨ m = 2 ∨ m = 3 by omega) with e | e | e | e <;> subst e <;> simp [w1]
        · unfold isTh; omega
        · unfold isTh; omega
        · unfold isTh; omega
      | succ j ih =>
        intro k J1 v6 v7 v8 v9 ek hI hJ
        rw [jx_Sentence_setSimple_70]
        simp only [isO_c, ax0, ex_cons, am_get, upz_at, true_and, and_true, Nat.reduceAdd, Nat.reduceLeDiff, Nat.reduceEqDiff, Nat.reduceSub, Int32.reduceOfInt, Int32.reduceAdd, Int32.reduceMul, Int32.reduceSub, ↓reduceIte, Int32.reduceLT, Int32.reduceLE, Int32.reduceToNatClampNeg, Nat.reduceMod, Nat.reduceLT, List.length_cons, List.length_nil, eq_self, true_or, or_true, and_self, implies_true, not_true_eq_false, not_false_eq_true, false_implies, true_implies, forall_const, st_aloadx, st_bipushx, st_getfieldx, st_gotox, st_iconstx, st_ifCondx, st_if_icmpx, st_iloadx, st_st2, st_lastorex, st_lloadx, st_lstorex, st_lxorx, am_putL, am_nlg, kb_Sentence_setSimple_70, show ((4 : Int32) ≤ nI (k)) = (4 ≤ k) from nk_le (a := 4) (b := k) (by omega) (by omega), show ¬ 4 ≤ k by omega, sO hs, gf6, g4, g5]
        refine c_kindWord hp.at hu (by omega) ?_
        simp only [isO_c, ax0, ex_cons, am_get, upz_at, true_and, and_true, Nat.reduceAdd, Nat.reduceLeDiff, Nat.reduceEqDiff, Nat.reduceSub, Int32.reduceOfInt, Int32.reduceAdd, Int32.reduceMul, Int32.reduceSub, ↓reduceIte, Int32.reduceLT, Int32.reduceLE, Int32.reduceToNatClampNeg, Nat.reduceMod, Nat.reduceLT, List.length_cons, List.length_nil, eq_self, true_or, or_true, and_self, implies_true, not_true_eq_false, not_false_eq_true, false_implies, true_implies, forall_const, st_aloadx, st_bipushx, st_getfieldx, st_gotox, st_iconstx, st_ifCondx, st_if_icmpx, st_iloadx, st_st2, st_lastorex, st_lloadx, st_lstorex, st_lxorx, am_putL, am_nlg, kb_Sentence_setSimple_70, sO hs, gf6, g4, g5]
        refine c_kindWord hp.at hv (by omega) ?_
        have st : ∀ z : Int64, z = (if b then kwJ v k ^^^ -1 else kwJ v k) → am_W kc_Sentence_setSimple (am_cl (d + 1)) Q 131 [.ref s, .int (nI m), .int (nI u), .int (nI v), .int (b2i b), .int (nI k), .long (kwJ u k), am_dum, .long (kwJ v k), am_dum] [.long z, .long (kwJ u k), .int (nI k), .ref (s + 2)] (ov h F1 (upz J1 (s + 3) (upz (J1 (s + 3)) k (kwJ u k))) V) := by
          intro z hz
          simp only [isO_c, ax0, ex_cons, am_get, upz_at, true_and, and_true, Nat.reduceAdd, Nat.reduceLeDiff, Nat.reduceEqDiff, Nat.reduceSub, Int32.reduceOfInt, Int32.reduceAdd, Int32.reduceMul, Int32.reduceSub, ↓reduceIte, Int32.reduceLT, Int32.reduceLE, Int32.reduceToNatClampNeg, Nat.reduceMod, Nat.reduceLT, List.length_cons, List.length_nil, eq_self, true_or, or_true, and_self, implies_true, not_true_eq_false, not_false_eq_true, false_implies, true_implies, forall_const, st_gotox, st_iincx, st_landx, st_lastorex, am_put, am_nlg, jx_Sentence_setSimple_131, kb_Sentence_setSimple_131, sJ2 hs, oq_wJ, nk_neg (show k < 2147483648 by omega), nk_cl (show k < 2147483648 by omega), show k < 4 by omega, show 23 ≤ s + 2 by omega, sW2 hs, nk_succ, show (s = s + 1) = False from ax_f (by omega)]
          refine ih (k + 1) _ _ _ _ _ (by omega) (fun i hi => ?_) (fun x h1 h2 => by rw [upz_ne _ _ h1, upz_ne _ _ h2]; exact hJ x h1 h2)
          rw [upz_ne _ _ (show s + 3 ≠ s + 2 by omega), upz_eq, upz_eq]
          by_cases e : i = k
          · subst e; rw [upz_eq, upz_eq, hz]; exact ⟨rfl, rfl⟩
          · rw [upz_ne _ _ e, upz_ne _ _ e]; exact hI i (by omega)
        simp only [isO_c, ax0, ex_cons, am_get, upz_at, true_and, and_true, Nat.reduceAdd, Nat.reduceLeDiff, Nat.reduceEqDiff, Nat.reduceSub, Int32.reduceOfInt, Int32.reduceAdd, Int32.reduceMul, Int32.reduceSub, ↓reduceIte, Int32.reduceLT, Int32.reduceLE, Int32.reduceToNatClampNeg, Nat.reduceMod, Nat.reduceLT, List.length_cons, List.length_nil, eq_self, true_or, or_true, and_self, implies_true, not_true_eq_false, not_false_eq_true, false_implies, true_implies, forall_const, st_aloadx, st_bipushx, st_getfieldx, st_gotox, st_goto_wx, st_iconstx, st_ifCondx, st_if_icmpx, st_iloadx, st_st2, st_lastorex, st_lloadx, st_lstorex, st_lxorx, am_putL, am_nlg, kb_Sentence_setSimple_70, jx_Sentence_setSimple_129, kb_Sentence_setSimple_129, sO hs, gf6, sJ3 hs, oq_wJ, nk_neg (show k < 2147483648 by omega), nk_cl (show k < 2147483648 by omega), show k < 4 by omega, show 23 ≤ s + 3 by omega, sW3 hs]
        refine ifb (fun e => ?_) (fun e => ?_)
        · exact st _ (by rw [e]; rfl)
        · exact st _ (by rw [e]; rfl)
    intro v6 v7 v8 v9
    exact key 4 0 J _ _ _ _ rfl (fun i hi => absurd hi (Nat.not_lt_zero i)) (fun _ _ _ => rfl)
  have mid : ∀ (F1 : Nat → Nat → Int32) (z : Int32), F1 s 3 = nI m → F1 s 4 = nI u → F1 s 5 = nI v → z = nI (if m < 2 then 0 else 1) → (∀ x, x ≠ s → F1 x = F x) → am_W kc_Sentence_setSimple (am_cl (d + 1)) Q 31 [.ref s, .int (nI m), .int (nI u), .int (nI v), am_dum, am_dum, am_dum, am_dum, am_dum, am_dum] [.int z, .ref s] (ov h F1 J V) := by
    intro F1 z g3 g4 g5 hz gF
    simp only [isO_c, ax0, ex_cons, am_get, upz_at, true_and, and_true, Nat.reduceAdd, Nat.reduceLeDiff, Nat.reduceEqDiff, Nat.reduceSub, Int32.reduceOfInt, Int32.reduceAdd, Int32.reduceMul, Int32.reduceSub, ↓reduceIte, Int32.reduceLT, Int32.reduceLE, Int32.reduceToNatClampNeg, Nat.reduceMod, Nat.reduceLT, List.length_cons, List.length_nil, eq_self, true_or, or_true, and_self, implies_true, not_true_eq_false, not_false_eq_true, false_implies, true_implies, forall_const, st_aloadx, st_getfieldx, st_goto_wx, st_iconstx, st_ifCondx, st_if_icmpx, st_st1, st_putfieldx, st_putstaticx, jx_Sentence_setSimple_31, kb_Sentence_setSimple_31, sO hs, gf6, pf6, h23, sS hs, upz_upd, upz_eq, g3]
    refine c_isUniversal ?_
    rw [hun]
    simp only [isO_c, ax0, ex_cons, am_get, upz_at, true_and, and_true, Nat.reduceAdd, Nat.reduceLeDiff, Nat.reduceEqDiff, Nat.reduceSub, Int32.reduceOfInt, Int32.reduceAdd, Int32.reduceMul, Int32.reduceSub, ↓reduceIte, Int32.reduceLT, Int32.reduceLE, Int32.reduceToNatClampNeg, Nat.reduceMod, Nat.reduceLT, List.length_cons, List.length_nil, eq_self, true_or, or_true, and_self, implies_true, not_true_eq_false, not_false_eq_true, false_implies, true_implies, forall_const, st_aloadx, st_getfieldx, st_gotox, st_goto_wx, st_iconstx, st_ifCondx, st_if_icmpx, st_st1, st_putfieldx, st_putstaticx, jx_Sentence_setSimple_31, kb_Sentence_setSimple_31, jx_Sentence_setSimple_60, kb_Sentence_setSimple_60, jx_Sentence_setSimple_64, kb_Sentence_setSimple_64, sO hs, gf6, pf6, h23, sS hs, upz_upd, upz_eq, b2i_01, show (nI m = (0 : Int32)) = (m = 0) from nk_eq (b := 0) (by omega) (by decide), show (nI m = (3 : Int32)) = (m = 3) from nk_eq (b := 3) (by omega) (by decide)]
    generalize eF : upz F1 s _ = F2
    have k3 : F2 s 3 = nI m := by rw [← eF, upz_eq]; rfl
    have k4 : F2 s 4 = nI u := by rw [← eF, upz_eq]; exact g4
    have k5 : F2 s 5 = nI v := by rw [← eF, upz_eq]; exact g5
    have k0 : F2 s 0 = nI (if m < 2 then 0 else 1) := by rw [← eF, upz_eq]; exact hz
    have k2 : F2 s 2 = b2i (decide (m < 2)) := by rw [← eF, upz_eq]; rfl
    have kF : ∀ x, x ≠ s → F2 x = F x := fun x hx => by rw [← eF, upz_ne _ _ hx]; exact gF x hx
    clear eF
    refine And.intro (fun q => ?_) (fun q => ?_)
    · simp only [isO_c, ax0, ex_cons, am_get, upz_at, true_and, and_true, Nat.reduceAdd, Nat.reduceLeDiff, Nat.reduceEqDiff, Nat.reduceSub, Int32.reduceOfInt, Int32.reduceAdd, Int32.reduceMul, Int32.reduceSub, ↓reduceIte, Int32.reduceLT, Int32.reduceLE, Int32.reduceToNatClampNeg, Nat.reduceMod, Nat.reduceLT, List.length_cons, List.length_nil, eq_self, true_or, or_true, and_self, implies_true, not_true_eq_false, not_false_eq_true, false_implies, true_implies, forall_const, st_goto_wx, st_iconstx, st_istorex, am_put, am_nlg, jx_Sentence_setSimple_65, kb_Sentence_setSimple_65]
      exact fin F2 k3 k4 k5 k0 k2 kF true (by rw [decide_eq_true (Or.inl q)]) _ _ _ _
    · refine And.intro (fun q2 => ?_) (fun q2 => ?_)
      · simp only [isO_c, ax0, ex_cons, am_get, upz_at, true_and, and_true, Nat.reduceAdd, Nat.reduceLeDiff, Nat.reduceEqDiff, Nat.reduceSub, Int32.reduceOfInt, Int32.reduceAdd, Int32.reduceMul, Int32.reduceSub, ↓reduceIte, Int32.reduceLT, Int32.reduceLE, Int32.reduceToNatClampNeg, Nat.reduceMod, Nat.reduceLT, List.length_cons, List.length_nil, eq_self, true_or, or_true, and_self, implies_true, not_true_eq_false, not_false_eq_true, false_implies, true_implies, forall_const, st_goto_wx, st_iconstx, st_istorex, am_put, am_nlg, jx_Sentence_setSimple_65, kb_Sentence_setSimple_65]
        exact fin F2 k3 k4 k5 k0 k2 kF false (by rw [decide_eq_false (fun z => z.elim q q2)]) _ _ _ _
      · simp only [isO_c, ax0, ex_cons, am_get, upz_at, true_and, and_true, Nat.reduceAdd, Nat.reduceLeDiff, Nat.reduceEqDiff, Nat.reduceSub, Int32.reduceOfInt, Int32.reduceAdd, Int32.reduceMul, Int32.reduceSub, ↓reduceIte, Int32.reduceLT, Int32.reduceLE, Int32.reduceToNatClampNeg, Nat.reduceMod, Nat.reduceLT, List.length_cons, List.length_nil, eq_self, true_or, or_true, and_self, implies_true, not_true_eq_false, not_false_eq_true, false_implies, true_implies, forall_const, st_goto_wx, st_iconstx, st_istorex, am_put, am_nlg, jx_Sentence_setSimple_65, kb_Sentence_setSimple_65]
        exact fin F2 k3 k4 k5 k0 k2 kF true (by rw [decide_eq_true (Or.inr (Classical.not_not.mp q2))]) _ _ _ _
  rw [hun]
  simp only [isO_c, ax0, ex_cons, am_get, upz_at, true_and, and_true, Nat.reduceAdd, Nat.reduceLeDiff, Nat.reduceEqDiff, Nat.reduceSub, Int32.reduceOfInt, Int32.reduceAdd, Int32.reduceMul, Int32.reduceSub, ↓reduceIte, Int32.reduceLT, Int32.reduceLE, Int32.reduceToNatClampNeg, Nat.reduceMod, Nat.reduceLT, List.length_cons, List.length_nil, eq_self, true_or, or_true, and_self, implies_true, not_true_eq_false, not_false_eq_true, false_implies, true_implies, forall_const, st_aloadx, st_getfieldx, st_gotox, st_goto_wx, st_iconstx, st_ifCondx, st_iloadx, st_st1, st_putfieldx, kb_Sentence_setSimple_0, jx_Sentence_setSimple_30, kb_Sentence_setSimple_30]
  generalize eF : upz F s _ = F2
  have k3 : F2 s 3 = nI m := by rw [← eF, upz_eq]; rfl
  have k4 : F2 s 4 = nI u := by rw [← eF, upz_eq]; rfl
  have k5 : F2 s 5 = nI v := by rw [← eF, upz_eq]; rfl
  have kF : ∀ x, x ≠ s → F2 x = F x := fun x hx => by rw [← eF, upz_ne _ _ hx]
  clear eF
  refine ifb (fun q => ?_) (fun q => ?_)
  · exact mid F2 1 k3 k4 k5 (by rw [if_neg (of_decide_eq_false q)]; rfl) kF
  · exact mid F2 0 k3 k4 k5 (by rw [if_pos (of_decide_eq_true q)]; rfl) kF
end CSI
