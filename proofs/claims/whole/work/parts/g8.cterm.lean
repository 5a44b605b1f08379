/-! ===== the class: terms are read ===== -/
def PR (t : Nat → Int32) (n : Nat) (F' : Nat → Nat → Int32) (c0 : Nat) (v : Int32) : Nat ⊕ pT → Prop
  | .inl e => v = -1 ∧ AT t n F' e
  | .inr x => ∃ i, v = nI i ∧ AT t n F' x.2.1 ∧ F' 24 10 = nI x.2.2 ∧ TN F' x.1 0 i ∧ c0 ≤ i ∧ i + 1 = c0 + 2 * lvT x.1 - 1 ∧ F' 26 5 = nI (c0 + 2 * lvT x.1 - 1)
/-- reading a term (mode 0), a both (2), a plain (4) -/
def PC (h : am_H) (J : Nat → Nat → Int64) (V : Nat → Nat → Value) (t : Nat → Int32) (n f mode mth N0 : Nat) : Prop := ∀ (dp k c : Nat) (tt : eT) (z : Nat ⊕ pT) (N : Nat) (F : Nat → Nat → Int32) (Q : am_Q) (c0 : Nat), pG (cdL (tkA t n)) f mode dp k c tt = some z → dp ≤ 8 → N0 - 3 * dp ≤ N → RT t n F → AT t n F k → F 24 10 = nI c → c ≤ 24 → F 26 5 = nI c0 → c0 ≤ 2 * c → (∀ F' v, Tf c0 F F' → PR t n F' c0 v z → Q (some (.int v)) (ov h F' J V)) → am_cl N mth [.ref 24, .int (nI dp)] (ov h F J V) Q
/-- going on with one -/
def PL (h : am_H) (J : Nat → Nat → Int64) (V : Nat → Nat → Value) (t : Nat → Int32) (n f mode N0 : Nat) (kc : Nat → List am_I) : Prop := ∀ (dp k c : Nat) (tt : eT) (z : Nat ⊕ pT) (N : Nat) (F : Nat → Nat → Int32) (Q : am_Q) (c0 cs node i : Nat), pG (cdL (tkA t n)) f mode dp k c tt = some z → dp ≤ 8 → N0 - 3 * dp ≤ N + 1 → RT t n F → AT t n F k → F 24 10 = nI c → c ≤ 24 → c = cs + lvT tt → c0 ≤ 2 * cs → wfT tt → TN F tt 0 node → c0 ≤ node → node + 1 = c0 + 2 * lvT tt - 1 → F 26 5 = nI (c0 + 2 * lvT tt - 1) → i + 1 ≤ lvT tt → (∀ F' v, Tf c0 F F' → PR t n F' c0 v z → Q (some (.int v)) (ov h F' J V)) → am_W kc (am_cl N) Q 8 [.ref 24, .int (nI dp), .int (nI node), .int (nI i)] [] (ov h F J V)
section CRT
variable {h : am_H} {J : Nat → Nat → Int64} {V : Nat → Nat → Value} {t : Nat → Int32} {n : Nat}
/-- joining two -/
theorem TN.jn {F F' : Nat → Nat → Int32} {a b : eT} {l r cnt : Nat} {s : Int32} (ha : TN F a 0 l) (hb : TN F b 0 r) (hl : l < cnt) (hr : r < cnt) (e27 : F' 27 = upz (F 27) cnt s) (e28 : F' 28 = upz (F 28) cnt (nI l)) (e29 : F' 29 = upz (F 29) cnt (nI r)) (e30 : F' 30 = upz (F 30) cnt 0) : (s = 8 → TN F' (.add a b) 0 cnt) ∧ (s = 9 → TN F' (.sub a b) 0 cnt) := by
  have lo : ∀ i, i < cnt → ∀ a, 27 ≤ a → a ≤ 30 → ∀ j, j ≤ i → F' a j = F a j := fun i hi a a1 a2 j hj => by
    rcases (show a = 27 ∨ a = 28 ∨ a = 29 ∨ a = 30 by omega) with z | z | z | z <;> subst z
    · rw [e27, upz_ne _ _ (by omega)]
    · rw [e28, upz_ne _ _ (by omega)]
    · rw [e29, upz_ne _ _ (by omega)]
    · rw [e30, upz_ne _ _ (by omega)]
  have h1 := ha.cg a (lo l hl)
  have h2 := hb.cg b (lo r hr)
  refine ⟨fun z => ⟨by rw [e27, upz_eq, z], by rw [e30, upz_eq]; rfl, l, r, hl, hr, by rw [e28, upz_eq], by rw [e29, upz_eq], h1, h2⟩, fun z => ⟨by rw [e27, upz_eq, z], by rw [e30, upz_eq]; rfl, l, r, hl, hr, by rw [e28, upz_eq], by rw [e29, upz_eq], h1, h2⟩⟩
theorem Tf.mk {F F' : Nat → Nat → Int32} {c0 cnt : Nat} {s l r : Int32} (hc : c0 ≤ cnt) (a1 : ∀ x, x ≠ 26 → x ≠ 27 → x ≠ 28 → x ≠ 29 → x ≠ 30 → F' x = F x) (e27 : F' 27 = upz (F 27) cnt s) (e28 : F' 28 = upz (F 28) cnt l) (e29 : F' 29 = upz (F 29) cnt r) (e30 : F' 30 = upz (F 30) cnt 0) : Tf c0 F F' := by
  refine ⟨fun x hx => a1 x (by omega) (by omega) (by omega) (by omega) (by omega), fun i _ _ _ => by rw [a1 24 (by decide) (by decide) (by decide) (by decide) (by decide)], fun a h1 h2 i hi => ?_⟩
  rcases (show a = 27 ∨ a = 28 ∨ a = 29 ∨ a = 30 by omega) with z | z | z | z <;> subst z
  · rw [e27, upz_ne _ _ (by omega)]
  · rw [e28, upz_ne _ _ (by omega)]
  · rw [e29, upz_ne _ _ (by omega)]
  · rw [e30, upz_ne _ _ (by omega)]
theorem AT.cg {F F' : Nat → Nat → Int32} {k : Nat} (hA : AT t n F k) (e : F' 24 = F 24) : AT t n F' k := ⟨hA.1, by rw [e]; exact hA.2.1, by rw [e]; exact hA.2.2⟩
set_option maxRecDepth 20000 in
theorem c_termL (hs : HS h) (hb : byT t n) (hn : n ≤ 400) {f : Nat} (ihB : PC h J V t n f 2 116 28) (ihL : PL h J V t n f 1 29 kc_Reader_term) : PL h J V t n (f + 1) 1 29 kc_Reader_term := by
  intro dp k c tt z N F Q c0 cs node i hz hdp hN hR hA h10 hc hcs hc0 hwf hT hn0 hnd h5 hi K
  have TK := tkA_p t hn
  have hlp := lvT_pos tt
  rw [pG1] at hz
  obtain ⟨M, rfl⟩ : ∃ M, N = M + 2 := ⟨N - 2, by omega⟩
  rw [jx_Reader_term_8]
  simp only [isO_c, ax0, ex_cons, am_get, upz_at, true_and, and_true, Nat.reduceAdd, Nat.reduceLeDiff, Nat.reduceEqDiff, Nat.reduceSub, Int32.reduceOfInt, Int32.reduceAdd, Int32.reduceMul, Int32.reduceSub, ↓reduceIte, Int32.reduceLT, Int32.reduceLE, Int32.reduceToNatClampNeg, Nat.reduceMod, Nat.reduceLT, List.length_cons, List.length_nil, eq_self, true_or, or_true, and_self, implies_true, not_true_eq_false, not_false_eq_true, false_implies, true_implies, forall_const, st_aloadx, st_getfieldx, st_gotox, st_iconstx, st_ifCondx, st_if_icmpx, st_iincx, st_iloadx, st_in2, st_in4, st_istorex, st_ldcx, am_put, am_nlg, kb_Reader_term_8, oo_24, og_24_11, oo_26, oa_24, oa_26, show ((24 : Int32) ≤ nI (i)) = (24 ≤ i) from nk_le (a := 24) (b := i) (by omega) (by omega), show ¬ 24 ≤ i by omega, nk_neg (show node < 2147483648 by omega), nk_cl (show node < 2147483648 by omega)]
  refine c_pass (a := 16) hs hR hb hA (by decide) (by decide) (by decide) (fun w => ?_) (fun F1 w hk s1 a1 => ?_)
  · rw [if_neg (show ¬ cdL (tkA t n) k = 11 from w)] at hz
    cases hz
    simp only [isO_c, ax0, ex_cons, am_get, upz_at, true_and, and_true, Nat.reduceAdd, Nat.reduceLeDiff, Nat.reduceEqDiff, Nat.reduceSub, Int32.reduceOfInt, Int32.reduceAdd, Int32.reduceMul, Int32.reduceSub, ↓reduceIte, Int32.reduceLT, Int32.reduceLE, Int32.reduceToNatClampNeg, Nat.reduceMod, Nat.reduceLT, List.length_cons, List.length_nil, eq_self, true_or, or_true, and_self, implies_true, not_true_eq_false, not_false_eq_true, false_implies, true_implies, forall_const, st_aloadx, st_getfieldx, st_gotox, st_iconstx, st_ifCondx, st_if_icmpx, st_iincx, st_iloadx, st_in2, st_in4, st_ireturnx, st_istorex, st_ldcx, am_put, am_nlg, kb_Reader_term_8, oo_24, og_24_11, oo_26, jx_Reader_term_49, kb_Reader_term_49, oa_24, oa_26]
    exact K F _ Tf.rf ⟨node, rfl, hA, h10, hT, hn0, hnd, h5⟩
  · rw [if_pos (show cdL (tkA t n) k = 11 from w)] at hz
    have f10 : F1 24 10 = nI c := by rw [s1.2 10 (by decide) (by decide)]; exact h10
    have f5 : F1 26 5 = nI (c0 + 2 * lvT tt - 1) := by rw [s1.1 26 (by decide)]; exact h5
    have tot : ∃ y, pG (cdL (tkA t n)) f 2 dp (k + 1) c tt = some y := by
      cases e : pG (cdL (tkA t n)) f 2 dp (k + 1) c tt with
      | none => rw [e] at hz; cases hz
      | some y => exact ⟨y, rfl⟩
    obtain ⟨y, hy⟩ := tot
    rw [hy] at hz
    simp only [isO_c, ax0, ex_cons, am_get, upz_at, true_and, and_true, Nat.reduceAdd, Nat.reduceLeDiff, Nat.reduceEqDiff, Nat.reduceSub, Int32.reduceOfInt, Int32.reduceAdd, Int32.reduceMul, Int32.reduceSub, ↓reduceIte, Int32.reduceLT, Int32.reduceLE, Int32.reduceToNatClampNeg, Nat.reduceMod, Nat.reduceLT, List.length_cons, List.length_nil, eq_self, true_or, or_true, and_self, implies_true, not_true_eq_false, not_false_eq_true, false_implies, true_implies, forall_const, st_aloadx, st_getfieldx, st_gotox, st_iconstx, st_ifCondx, st_if_icmpx, st_iincx, st_iloadx, st_in2, st_in4, st_istorex, st_ldcx, am_put, am_nlg, kb_Reader_term_8, oo_24, og_24_11, oo_26, oa_24, oa_26]
    refine ihB dp (k + 1) c tt y (M + 2) F1 _ (c0 + 2 * lvT tt - 1) hy hdp (by omega) (hR.rs s1) a1 f10 hc f5 (by omega) (fun F2 v t2 p2 => ?_)
    have t02 := (s1.tf c0).tr t2 (by omega)
    cases y with
    | inl e =>
      cases hz
      obtain ⟨v1, v2⟩ := p2
      subst v1
      simp only [isO_c, ax0, ex_cons, am_get, upz_at, true_and, and_true, Nat.reduceAdd, Nat.reduceLeDiff, Nat.reduceEqDiff, Nat.reduceSub, Int32.reduceOfInt, Int32.reduceAdd, Int32.reduceMul, Int32.reduceSub, ↓reduceIte, Int32.reduceLT, Int32.reduceLE, Int32.reduceToNatClampNeg, Nat.reduceMod, Nat.reduceLT, List.length_cons, List.length_nil, eq_self, true_or, or_true, and_self, implies_true, not_true_eq_false, not_false_eq_true, false_implies, true_implies, forall_const, st_aloadx, st_getfieldx, st_gotox, st_iconstx, st_ifCondx, st_if_icmpx, st_iincx, st_iloadx, st_in2, st_in4, st_istorex, st_ldcx, am_put, am_nlg, kb_Reader_term_8, oo_24, og_24_11, oo_26, oa_24, oa_26]
      refine c_join0 ?_
      simp only [isO_c, ax0, ex_cons, am_get, upz_at, true_and, and_true, Nat.reduceAdd, Nat.reduceLeDiff, Nat.reduceEqDiff, Nat.reduceSub, Int32.reduceOfInt, Int32.reduceAdd, Int32.reduceMul, Int32.reduceSub, ↓reduceIte, Int32.reduceLT, Int32.reduceLE, Int32.reduceToNatClampNeg, Nat.reduceMod, Nat.reduceLT, List.length_cons, List.length_nil, eq_self, true_or, or_true, and_self, implies_true, not_true_eq_false, not_false_eq_true, false_implies, true_implies, forall_const, st_aloadx, st_getfieldx, st_gotox, st_iconstx, st_ifCondx, st_if_icmpx, st_iincx, st_iloadx, st_in2, st_in4, st_istorex, st_ldcx, am_put, am_nlg, kb_Reader_term_8, oo_24, og_24_11, oo_26, oa_24, oa_26, nk_succ]
      rw [jx_Reader_term_8]
      simp only [isO_c, ax0, ex_cons, am_get, upz_at, true_and, and_true, Nat.reduceAdd, Nat.reduceLeDiff, Nat.reduceEqDiff, Nat.reduceSub, Int32.reduceOfInt, Int32.reduceAdd, Int32.reduceMul, Int32.reduceSub, ↓reduceIte, Int32.reduceLT, Int32.reduceLE, Int32.reduceToNatClampNeg, Nat.reduceMod, Nat.reduceLT, List.length_cons, List.length_nil, eq_self, true_or, or_true, and_self, implies_true, not_true_eq_false, not_false_eq_true, false_implies, true_implies, forall_const, st_aloadx, st_getfieldx, st_gotox, st_iconstx, st_ifCondx, st_if_icmpx, st_iincx, st_iloadx, st_in2, st_in4, st_ireturnx, st_istorex, st_ldcx, am_put, am_nlg, kb_Reader_term_8, oo_24, og_24_11, oo_26, jx_Reader_term_49, kb_Reader_term_49, oa_24, oa_26, show ((24 : Int32) ≤ nI (i + 1)) = (24 ≤ i + 1) from nk_le (a := 24) (b := i + 1) (by omega) (by omega)]
      exact ⟨fun _ => K F2 _ t02 ⟨rfl, v2⟩, fun _ => K F2 _ t02 ⟨rfl, v2⟩⟩
    | inr x =>
      obtain ⟨j, v1, v2, v3, v4, v5, v6, v7⟩ := p2
      subst v1
      have ok := pG_ok TK f 2 dp (k + 1) c tt _ hk hc (fun q => by omega) (by omega) hy
      obtain ⟨o1, o2, o3, o4⟩ := ok
      rw [if_neg (by omega)] at o4
      have hlx := lvT_pos x.1
      have hz : pG (cdL (tkA t n)) f 1 dp x.2.1 x.2.2 (.add tt x.1) = some z := hz
      have hT2 : TN F2 tt 0 node := hT.cg tt (fun a a1 a2 j hj => by rw [t2.2.2 a a1 a2 j (by omega), s1.1 a (by omega)])
      simp only [isO_c, ax0, ex_cons, am_get, upz_at, true_and, and_true, Nat.reduceAdd, Nat.reduceLeDiff, Nat.reduceEqDiff, Nat.reduceSub, Int32.reduceOfInt, Int32.reduceAdd, Int32.reduceMul, Int32.reduceSub, ↓reduceIte, Int32.reduceLT, Int32.reduceLE, Int32.reduceToNatClampNeg, Nat.reduceMod, Nat.reduceLT, List.length_cons, List.length_nil, eq_self, true_or, or_true, and_self, implies_true, not_true_eq_false, not_false_eq_true, false_implies, true_implies, forall_const, st_aloadx, st_getfieldx, st_gotox, st_iconstx, st_ifCondx, st_if_icmpx, st_iincx, st_iloadx, st_in2, st_in4, st_istorex, st_ldcx, am_put, am_nlg, kb_Reader_term_8, oo_24, og_24_11, oo_26, oa_24, oa_26]
      refine c_tjoin v7 (by omega) (l := node) (r := j) (by omega) (by omega) (fun F3 b1 b2 b3 b4 b5 b6 => ?_)
      have t03 := t02.tr (Tf.mk (c0 := c0) (by omega) b1 b3 b4 b5 b6) (Nat.le_refl _)
      have e24 : F3 24 = F2 24 := b1 24 (by decide) (by decide) (by decide) (by decide) (by decide)
      have l1 : lvT (.add tt x.1) = lvT tt + lvT x.1 := rfl
      simp only [isO_c, ax0, ex_cons, am_get, upz_at, true_and, and_true, Nat.reduceAdd, Nat.reduceLeDiff, Nat.reduceEqDiff, Nat.reduceSub, Int32.reduceOfInt, Int32.reduceAdd, Int32.reduceMul, Int32.reduceSub, ↓reduceIte, Int32.reduceLT, Int32.reduceLE, Int32.reduceToNatClampNeg, Nat.reduceMod, Nat.reduceLT, List.length_cons, List.length_nil, eq_self, true_or, or_true, and_self, implies_true, not_true_eq_false, not_false_eq_true, false_implies, true_implies, forall_const, st_aloadx, st_getfieldx, st_gotox, st_iconstx, st_ifCondx, st_if_icmpx, st_iincx, st_iloadx, st_in2, st_in4, st_istorex, st_ldcx, am_put, am_nlg, kb_Reader_term_8, oo_24, og_24_11, oo_26, oa_24, oa_26, nk_succ]
      refine ihL dp x.2.1 x.2.2 (.add tt x.1) z (M + 2) F3 Q c0 cs (c0 + 2 * lvT tt - 1 + 2 * lvT x.1 - 1) (i + 1) hz hdp hN (hR.tf t03) (v2.cg e24) (by rw [e24]; exact v3) o3 (by rw [l1]; omega) hc0 ⟨hwf, o1⟩ ((TN.jn hT2 v4 (by omega) (by omega) b3 b4 b5 b6).1 rfl) (by omega) (by rw [l1]; omega) (by rw [b2, l1]; congr 1; omega) (by rw [l1]; omega) (fun F' v t4 p4 => K F' v (t03.tr t4 (Nat.le_refl _)) p4)
set_option maxRecDepth 20000 in
theorem c_bothL (hs : HS h) (hb : byT t n) (hn : n ≤ 400) {f : Nat} (ihP : PC h J V t n f 4 117 27) (ihL : PL h J V t n f 3 28 kc_Reader_both) : PL h J V t n (f + 1) 3 28 kc_Reader_both := by
  intro dp k c tt z N F Q c0 cs node i hz hdp hN hR hA h10 hc hcs hc0 hwf hT hn0 hnd h5 hi K
  have TK := tkA_p t hn
  have hlp := lvT_pos tt
  rw [pG3] at hz
  obtain ⟨M, rfl⟩ : ∃ M, N = M + 2 := ⟨N - 2, by omega⟩
  rw [jx_Reader_both_8]
  simp only [isO_c, ax0, ex_cons, am_get, upz_at, true_and, and_true, Nat.reduceAdd, Nat.reduceLeDiff, Nat.reduceEqDiff, Nat.reduceSub, Int32.reduceOfInt, Int32.reduceAdd, Int32.reduceMul, Int32.reduceSub, ↓reduceIte, Int32.reduceLT, Int32.reduceLE, Int32.reduceToNatClampNeg, Nat.reduceMod, Nat.reduceLT, List.length_cons, List.length_nil, eq_self, true_or, or_true, and_self, implies_true, not_true_eq_false, not_false_eq_true, false_implies, true_implies, forall_const, st_aloadx, st_getfieldx, st_gotox, st_iconstx, st_ifCondx, st_if_icmpx, st_iloadx, st_in2, st_in4, st_ldcx, kb_Reader_both_8, oo_24, og_24_11, oo_26, oa_24, oa_26, show ((24 : Int32) ≤ nI (i)) = (24 ≤ i) from nk_le (a := 24) (b := i) (by omega) (by omega), show ¬ 24 ≤ i by omega, nk_neg (show node < 2147483648 by omega), nk_cl (show node < 2147483648 by omega)]
  refine c_pass (a := 21) hs hR hb hA (by decide) (by decide) (by decide) (fun w => ?_) (fun F1 w hk s1 a1 => ?_)
  · rw [if_neg (show ¬ cdL (tkA t n) k = 12 from w)] at hz
    cases hz
    simp only [isO_c, ax0, ex_cons, am_get, upz_at, true_and, and_true, Nat.reduceAdd, Nat.reduceLeDiff, Nat.reduceEqDiff, Nat.reduceSub, Int32.reduceOfInt, Int32.reduceAdd, Int32.reduceMul, Int32.reduceSub, ↓reduceIte, Int32.reduceLT, Int32.reduceLE, Int32.reduceToNatClampNeg, Nat.reduceMod, Nat.reduceLT, List.length_cons, List.length_nil, eq_self, true_or, or_true, and_self, implies_true, not_true_eq_false, not_false_eq_true, false_implies, true_implies, forall_const, st_aloadx, st_getfieldx, st_gotox, st_iconstx, st_ifCondx, st_if_icmpx, st_iloadx, st_in2, st_in4, st_ireturnx, st_ldcx, kb_Reader_both_8, oo_24, og_24_11, oo_26, jx_Reader_both_62, kb_Reader_both_62, oa_24, oa_26]
    exact K F _ Tf.rf ⟨node, rfl, hA, h10, hT, hn0, hnd, h5⟩
  · rw [if_pos (show cdL (tkA t n) k = 12 from w)] at hz
    simp only [isO_c, ax0, ex_cons, am_get, upz_at, true_and, and_true, Nat.reduceAdd, Nat.reduceLeDiff, Nat.reduceEqDiff, Nat.reduceSub, Int32.reduceOfInt, Int32.reduceAdd, Int32.reduceMul, Int32.reduceSub, ↓reduceIte, Int32.reduceLT, Int32.reduceLE, Int32.reduceToNatClampNeg, Nat.reduceMod, Nat.reduceLT, List.length_cons, List.length_nil, eq_self, true_or, or_true, and_self, implies_true, not_true_eq_false, not_false_eq_true, false_implies, true_implies, forall_const, st_aloadx, st_getfieldx, st_gotox, st_iconstx, st_ifCondx, st_if_icmpx, st_iloadx, st_in2, st_in4, st_ldcx, kb_Reader_both_8, oo_24, og_24_11, oo_26, oa_24, oa_26]
    refine c_pass (a := 6) hs (hR.rs s1) hb a1 (by decide) (by decide) (by decide) (fun w2 => ?_) (fun F2 w2 hk2 s2 a2 => ?_)
    · rw [if_neg (show ¬ cdL (tkA t n) (k + 1) = 7 from w2)] at hz
      cases hz
      simp only [isO_c, ax0, ex_cons, am_get, upz_at, true_and, and_true, Nat.reduceAdd, Nat.reduceLeDiff, Nat.reduceEqDiff, Nat.reduceSub, Int32.reduceOfInt, Int32.reduceAdd, Int32.reduceMul, Int32.reduceSub, ↓reduceIte, Int32.reduceLT, Int32.reduceLE, Int32.reduceToNatClampNeg, Nat.reduceMod, Nat.reduceLT, List.length_cons, List.length_nil, eq_self, true_or, or_true, and_self, implies_true, not_true_eq_false, not_false_eq_true, false_implies, true_implies, forall_const, st_aloadx, st_getfieldx, st_gotox, st_goto_wx, st_iconstx, st_ifCondx, st_if_icmpx, st_iincx, st_iloadx, st_in2, st_in4, st_istorex, st_ldcx, am_put, am_nlg, kb_Reader_both_8, oo_24, og_24_11, oo_26, jx_Reader_both_54, kb_Reader_both_54, jx_Reader_both_55, kb_Reader_both_55, oa_24, oa_26, nk_succ]
      rw [jx_Reader_both_8]
      simp only [isO_c, ax0, ex_cons, am_get, upz_at, true_and, and_true, Nat.reduceAdd, Nat.reduceLeDiff, Nat.reduceEqDiff, Nat.reduceSub, Int32.reduceOfInt, Int32.reduceAdd, Int32.reduceMul, Int32.reduceSub, ↓reduceIte, Int32.reduceLT, Int32.reduceLE, Int32.reduceToNatClampNeg, Nat.reduceMod, Nat.reduceLT, List.length_cons, List.length_nil, eq_self, true_or, or_true, and_self, implies_true, not_true_eq_false, not_false_eq_true, false_implies, true_implies, forall_const, st_aloadx, st_getfieldx, st_gotox, st_iconstx, st_ifCondx, st_if_icmpx, st_iloadx, st_in2, st_in4, st_ireturnx, st_ldcx, kb_Reader_both_8, oo_24, og_24_11, oo_26, jx_Reader_both_62, kb_Reader_both_62, oa_24, oa_26, show ((24 : Int32) ≤ nI (i + 1)) = (24 ≤ i + 1) from nk_le (a := 24) (b := i + 1) (by omega) (by omega)]
      exact ⟨fun _ => K F1 _ (s1.tf c0) ⟨rfl, a1⟩, fun _ => K F1 _ (s1.tf c0) ⟨rfl, a1⟩⟩
    · rw [if_pos (show cdL (tkA t n) (k + 1) = 7 from w2)] at hz
      have s12 := s1.tr s2
      have f10 : F2 24 10 = nI c := by rw [s12.2 10 (by decide) (by decide)]; exact h10
      have f5 : F2 26 5 = nI (c0 + 2 * lvT tt - 1) := by rw [s12.1 26 (by decide)]; exact h5
      have tot : ∃ y, pG (cdL (tkA t n)) f 4 dp (k + 2) c tt = some y := by
        cases e : pG (cdL (tkA t n)) f 4 dp (k + 2) c tt with
        | none => rw [e] at hz; cases hz
        | some y => exact ⟨y, rfl⟩
      obtain ⟨y, hy⟩ := tot
      rw [hy] at hz
      simp only [isO_c, ax0, ex_cons, am_get, upz_at, true_and, and_true, Nat.reduceAdd, Nat.reduceLeDiff, Nat.reduceEqDiff, Nat.reduceSub, Int32.reduceOfInt, Int32.reduceAdd, Int32.reduceMul, Int32.reduceSub, ↓reduceIte, Int32.reduceLT, Int32.reduceLE, Int32.reduceToNatClampNeg, Nat.reduceMod, Nat.reduceLT, List.length_cons, List.length_nil, eq_self, true_or, or_true, and_self, implies_true, not_true_eq_false, not_false_eq_true, false_implies, true_implies, forall_const, st_aloadx, st_getfieldx, st_gotox, st_iconstx, st_ifCondx, st_if_icmpx, st_iloadx, st_in2, st_in4, st_ldcx, kb_Reader_both_8, oo_24, og_24_11, oo_26, oa_24, oa_26]
      refine ihP dp (k + 2) c tt y (M + 2) F2 _ (c0 + 2 * lvT tt - 1) hy hdp (by omega) (hR.rs s12) a2 f10 hc f5 (by omega) (fun F3 v t3 p3 => ?_)
      have t03 := (s12.tf c0).tr t3 (by omega)
      cases y with
      | inl e =>
        cases hz
        obtain ⟨v1, v2⟩ := p3
        subst v1
        simp only [isO_c, ax0, ex_cons, am_get, upz_at, true_and, and_true, Nat.reduceAdd, Nat.reduceLeDiff, Nat.reduceEqDiff, Nat.reduceSub, Int32.reduceOfInt, Int32.reduceAdd, Int32.reduceMul, Int32.reduceSub, ↓reduceIte, Int32.reduceLT, Int32.reduceLE, Int32.reduceToNatClampNeg, Nat.reduceMod, Nat.reduceLT, List.length_cons, List.length_nil, eq_self, true_or, or_true, and_self, implies_true, not_true_eq_false, not_false_eq_true, false_implies, true_implies, forall_const, st_aloadx, st_getfieldx, st_gotox, st_iconstx, st_ifCondx, st_if_icmpx, st_iloadx, st_in2, st_in4, st_ldcx, kb_Reader_both_8, oo_24, og_24_11, oo_26, oa_24, oa_26]
        refine c_join0 ?_
        simp only [isO_c, ax0, ex_cons, am_get, upz_at, true_and, and_true, Nat.reduceAdd, Nat.reduceLeDiff, Nat.reduceEqDiff, Nat.reduceSub, Int32.reduceOfInt, Int32.reduceAdd, Int32.reduceMul, Int32.reduceSub, ↓reduceIte, Int32.reduceLT, Int32.reduceLE, Int32.reduceToNatClampNeg, Nat.reduceMod, Nat.reduceLT, List.length_cons, List.length_nil, eq_self, true_or, or_true, and_self, implies_true, not_true_eq_false, not_false_eq_true, false_implies, true_implies, forall_const, st_aloadx, st_getfieldx, st_gotox, st_iconstx, st_ifCondx, st_if_icmpx, st_iincx, st_iloadx, st_in2, st_in4, st_istorex, st_ldcx, am_put, am_nlg, kb_Reader_both_8, oo_24, og_24_11, oo_26, jx_Reader_both_55, kb_Reader_both_55, oa_24, oa_26, nk_succ]
        rw [jx_Reader_both_8]
        simp only [isO_c, ax0, ex_cons, am_get, upz_at, true_and, and_true, Nat.reduceAdd, Nat.reduceLeDiff, Nat.reduceEqDiff, Nat.reduceSub, Int32.reduceOfInt, Int32.reduceAdd, Int32.reduceMul, Int32.reduceSub, ↓reduceIte, Int32.reduceLT, Int32.reduceLE, Int32.reduceToNatClampNeg, Nat.reduceMod, Nat.reduceLT, List.length_cons, List.length_nil, eq_self, true_or, or_true, and_self, implies_true, not_true_eq_false, not_false_eq_true, false_implies, true_implies, forall_const, st_aloadx, st_getfieldx, st_gotox, st_iconstx, st_ifCondx, st_if_icmpx, st_iloadx, st_in2, st_in4, st_ireturnx, st_ldcx, kb_Reader_both_8, oo_24, og_24_11, oo_26, jx_Reader_both_62, kb_Reader_both_62, oa_24, oa_26, show ((24 : Int32) ≤ nI (i + 1)) = (24 ≤ i + 1) from nk_le (a := 24) (b := i + 1) (by omega) (by omega)]
        exact ⟨fun _ => K F3 _ t03 ⟨rfl, v2⟩, fun _ => K F3 _ t03 ⟨rfl, v2⟩⟩
      | inr x =>
        obtain ⟨j, v1, v2, v3, v4, v5, v6, v7⟩ := p3
        subst v1
        have ok := pG_ok TK f 4 dp (k + 2) c tt _ hk2 hc (fun q => by omega) (by omega) hy
        obtain ⟨o1, o2, o3, o4⟩ := ok
        rw [if_neg (by omega)] at o4
        have hlx := lvT_pos x.1
        have hz : pG (cdL (tkA t n)) f 3 dp x.2.1 x.2.2 (.sub tt x.1) = some z := hz
        have hT3 : TN F3 tt 0 node := hT.cg tt (fun a a1 a2 j hj => by rw [t3.2.2 a a1 a2 j (by omega), s12.1 a (by omega)])
        simp only [isO_c, ax0, ex_cons, am_get, upz_at, true_and, and_true, Nat.reduceAdd, Nat.reduceLeDiff, Nat.reduceEqDiff, Nat.reduceSub, Int32.reduceOfInt, Int32.reduceAdd, Int32.reduceMul, Int32.reduceSub, ↓reduceIte, Int32.reduceLT, Int32.reduceLE, Int32.reduceToNatClampNeg, Nat.reduceMod, Nat.reduceLT, List.length_cons, List.length_nil, eq_self, true_or, or_true, and_self, implies_true, not_true_eq_false, not_false_eq_true, false_implies, true_implies, forall_const, st_aloadx, st_getfieldx, st_gotox, st_iconstx, st_ifCondx, st_if_icmpx, st_iloadx, st_in2, st_in4, st_ldcx, kb_Reader_both_8, oo_24, og_24_11, oo_26, oa_24, oa_26]
        refine c_tjoin v7 (by omega) (l := node) (r := j) (by omega) (by omega) (fun F4 b1 b2 b3 b4 b5 b6 => ?_)
        have t04 := t03.tr (Tf.mk (c0 := c0) (by omega) b1 b3 b4 b5 b6) (Nat.le_refl _)
        have e24 : F4 24 = F3 24 := b1 24 (by decide) (by decide) (by decide) (by decide) (by decide)
        have l1 : lvT (.sub tt x.1) = lvT tt + lvT x.1 := rfl
        simp only [isO_c, ax0, ex_cons, am_get, upz_at, true_and, and_true, Nat.reduceAdd, Nat.reduceLeDiff, Nat.reduceEqDiff, Nat.reduceSub, Int32.reduceOfInt, Int32.reduceAdd, Int32.reduceMul, Int32.reduceSub, ↓reduceIte, Int32.reduceLT, Int32.reduceLE, Int32.reduceToNatClampNeg, Nat.reduceMod, Nat.reduceLT, List.length_cons, List.length_nil, eq_self, true_or, or_true, and_self, implies_true, not_true_eq_false, not_false_eq_true, false_implies, true_implies, forall_const, st_aloadx, st_getfieldx, st_gotox, st_iconstx, st_ifCondx, st_if_icmpx, st_iincx, st_iloadx, st_in2, st_in4, st_istorex, st_ldcx, am_put, am_nlg, kb_Reader_both_8, oo_24, og_24_11, oo_26, jx_Reader_both_55, kb_Reader_both_55, oa_24, oa_26, nk_succ]
        refine ihL dp x.2.1 x.2.2 (.sub tt x.1) z (M + 2) F4 Q c0 cs (c0 + 2 * lvT tt - 1 + 2 * lvT x.1 - 1) (i + 1) hz hdp hN (hR.tf t04) (v2.cg e24) (by rw [e24]; exact v3) o3 (by rw [l1]; omega) hc0 ⟨hwf, o1⟩ ((TN.jn hT3 v4 (by omega) (by omega) b3 b4 b5 b6).2 rfl) (by omega) (by rw [l1]; omega) (by rw [b2, l1]; congr 1; omega) (by rw [l1]; omega) (fun F' v t5 p5 => K F' v (t04.tr t5 (Nat.le_refl _)) p5)
end CRT
