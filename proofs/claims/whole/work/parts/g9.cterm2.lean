/-! ===== the class: term, both, plain ===== -/
section CRU
variable {h : am_H} {J : Nat → Nat → Int64} {V : Nat → Nat → Value} {t : Nat → Int32} {n : Nat}
theorem nt_S {C : Nat → Nat} : ∀ f k, ntC C f k = 0 ∨ 0 < f ∧ C k = 8
  | 0, k => Or.inl rfl
  | f + 1, k => by
    unfold ntC
    by_cases q : C k = 8
    · exact Or.inr ⟨by omega, q⟩
    · rw [if_neg q]; exact Or.inl rfl
set_option maxRecDepth 20000 in
theorem c_term0 (hn : n ≤ 400) {f : Nat} (ihB : PC h J V t n f 2 116 28) (ihL : PL h J V t n f 1 29 kc_Reader_term) : PC h J V t n (f + 1) 0 115 29 := by
  intro dp k c tt z N F Q c0 hz hdp hN hR hA h10 hc h5 hc0 K
  have TK := tkA_p t hn
  rw [pG0] at hz
  obtain ⟨M, rfl⟩ : ∃ M, N = M + 1 := ⟨N - 1, by omega⟩
  have tot : ∃ y, pG (cdL (tkA t n)) f 2 dp k c tt = some y := by
    cases e : pG (cdL (tkA t n)) f 2 dp k c tt with
    | none => rw [e] at hz; cases hz
    | some y => exact ⟨y, rfl⟩
  obtain ⟨y, hy⟩ := tot
  rw [hy] at hz
  simp only [isO_c, ax0, ex_cons, am_get, upz_at, true_and, and_true, Nat.reduceAdd, Nat.reduceLeDiff, Nat.reduceEqDiff, Nat.reduceSub, Int32.reduceOfInt, Int32.reduceAdd, Int32.reduceMul, Int32.reduceSub, ↓reduceIte, Int32.reduceLT, Int32.reduceLE, Int32.reduceToNatClampNeg, Nat.reduceMod, Nat.reduceLT, List.length_cons, List.length_nil, eq_self, true_or, or_true, and_self, implies_true, not_true_eq_false, not_false_eq_true, false_implies, true_implies, forall_const, st_aloadx, st_goto_wx, st_iconstx, st_iloadx, st_in2, st_istorex, am_put, am_nlg, kb_Reader_term_0, oo_24, oa_24, cx_Reader_term]
  refine ihB dp k c tt y M F _ c0 hy hdp (by omega) hR hA h10 hc h5 hc0 (fun F1 v t1 p1 => ?_)
  simp only [isO_c, ax0, ex_cons, am_get, upz_at, true_and, and_true, Nat.reduceAdd, Nat.reduceLeDiff, Nat.reduceEqDiff, Nat.reduceSub, Int32.reduceOfInt, Int32.reduceAdd, Int32.reduceMul, Int32.reduceSub, ↓reduceIte, Int32.reduceLT, Int32.reduceLE, Int32.reduceToNatClampNeg, Nat.reduceMod, Nat.reduceLT, List.length_cons, List.length_nil, eq_self, true_or, or_true, and_self, implies_true, not_true_eq_false, not_false_eq_true, false_implies, true_implies, forall_const, st_aloadx, st_goto_wx, st_iconstx, st_iloadx, st_in2, st_istorex, am_put, am_nlg, kb_Reader_term_0, oo_24, oa_24]
  cases y with
  | inl e =>
    cases hz
    obtain ⟨v1, v2⟩ := p1
    subst v1
    rw [jx_Reader_term_8]
    simp only [isO_c, ax0, ex_cons, am_get, upz_at, true_and, and_true, Nat.reduceAdd, Nat.reduceLeDiff, Nat.reduceEqDiff, Nat.reduceSub, Int32.reduceOfInt, Int32.reduceAdd, Int32.reduceMul, Int32.reduceSub, ↓reduceIte, Int32.reduceLT, Int32.reduceLE, Int32.reduceToNatClampNeg, Nat.reduceMod, Nat.reduceLT, List.length_cons, List.length_nil, eq_self, true_or, or_true, and_self, implies_true, not_true_eq_false, not_false_eq_true, false_implies, true_implies, forall_const, st_aloadx, st_getfieldx, st_gotox, st_iconstx, st_ifCondx, st_if_icmpx, st_iincx, st_iloadx, st_in2, st_in4, st_ireturnx, st_istorex, st_ldcx, am_put, am_nlg, kb_Reader_term_8, oo_24, og_24_11, oo_26, jx_Reader_term_49, kb_Reader_term_49, oa_24, oa_26]
    exact K F1 _ t1 ⟨rfl, v2⟩
  | inr x =>
    obtain ⟨j, v1, v2, v3, v4, v5, v6, v7⟩ := p1
    subst v1
    obtain ⟨o1, o2, o3, o4⟩ := pG_ok TK f 2 dp k c tt _ hA.1 hc (fun q => by omega) (by omega) hy
    rw [if_neg (by omega)] at o4
    have hlx := lvT_pos x.1
    exact ihL dp x.2.1 x.2.2 x.1 z M F1 Q c0 c j 0 hz hdp hN (hR.tf t1) v2 v3 o3 o4.2.1 hc0 o1 v4 v5 v6 v7 (by omega) (fun F' v t4 p4 => K F' v (t1.tr t4 (Nat.le_refl _)) p4)
set_option maxRecDepth 20000 in
theorem c_both0 (hn : n ≤ 400) {f : Nat} (ihP : PC h J V t n f 4 117 27) (ihL : PL h J V t n f 3 28 kc_Reader_both) : PC h J V t n (f + 1) 2 116 28 := by
  intro dp k c tt z N F Q c0 hz hdp hN hR hA h10 hc h5 hc0 K
  have TK := tkA_p t hn
  rw [pG2] at hz
  obtain ⟨M, rfl⟩ : ∃ M, N = M + 1 := ⟨N - 1, by omega⟩
  have tot : ∃ y, pG (cdL (tkA t n)) f 4 dp k c tt = some y := by
    cases e : pG (cdL (tkA t n)) f 4 dp k c tt with
    | none => rw [e] at hz; cases hz
    | some y => exact ⟨y, rfl⟩
  obtain ⟨y, hy⟩ := tot
  rw [hy] at hz
  simp only [isO_c, ax0, ex_cons, am_get, upz_at, true_and, and_true, Nat.reduceAdd, Nat.reduceLeDiff, Nat.reduceEqDiff, Nat.reduceSub, Int32.reduceOfInt, Int32.reduceAdd, Int32.reduceMul, Int32.reduceSub, ↓reduceIte, Int32.reduceLT, Int32.reduceLE, Int32.reduceToNatClampNeg, Nat.reduceMod, Nat.reduceLT, List.length_cons, List.length_nil, eq_self, true_or, or_true, and_self, implies_true, not_true_eq_false, not_false_eq_true, false_implies, true_implies, forall_const, st_aloadx, st_goto_wx, st_iconstx, st_iloadx, st_in2, st_istorex, am_put, am_nlg, kb_Reader_both_0, oo_24, oa_24, cx_Reader_both]
  refine ihP dp k c tt y M F _ c0 hy hdp (by omega) hR hA h10 hc h5 hc0 (fun F1 v t1 p1 => ?_)
  simp only [isO_c, ax0, ex_cons, am_get, upz_at, true_and, and_true, Nat.reduceAdd, Nat.reduceLeDiff, Nat.reduceEqDiff, Nat.reduceSub, Int32.reduceOfInt, Int32.reduceAdd, Int32.reduceMul, Int32.reduceSub, ↓reduceIte, Int32.reduceLT, Int32.reduceLE, Int32.reduceToNatClampNeg, Nat.reduceMod, Nat.reduceLT, List.length_cons, List.length_nil, eq_self, true_or, or_true, and_self, implies_true, not_true_eq_false, not_false_eq_true, false_implies, true_implies, forall_const, st_aloadx, st_goto_wx, st_iconstx, st_iloadx, st_in2, st_istorex, am_put, am_nlg, kb_Reader_both_0, oo_24, oa_24]
  cases y with
  | inl e =>
    cases hz
    obtain ⟨v1, v2⟩ := p1
    subst v1
    rw [jx_Reader_both_8]
    simp only [isO_c, ax0, ex_cons, am_get, upz_at, true_and, and_true, Nat.reduceAdd, Nat.reduceLeDiff, Nat.reduceEqDiff, Nat.reduceSub, Int32.reduceOfInt, Int32.reduceAdd, Int32.reduceMul, Int32.reduceSub, ↓reduceIte, Int32.reduceLT, Int32.reduceLE, Int32.reduceToNatClampNeg, Nat.reduceMod, Nat.reduceLT, List.length_cons, List.length_nil, eq_self, true_or, or_true, and_self, implies_true, not_true_eq_false, not_false_eq_true, false_implies, true_implies, forall_const, st_aloadx, st_getfieldx, st_gotox, st_iconstx, st_ifCondx, st_if_icmpx, st_iloadx, st_in2, st_in4, st_ireturnx, st_ldcx, kb_Reader_both_8, oo_24, og_24_11, oo_26, jx_Reader_both_62, kb_Reader_both_62, oa_24, oa_26]
    exact K F1 _ t1 ⟨rfl, v2⟩
  | inr x =>
    obtain ⟨j, v1, v2, v3, v4, v5, v6, v7⟩ := p1
    subst v1
    obtain ⟨o1, o2, o3, o4⟩ := pG_ok TK f 4 dp k c tt _ hA.1 hc (fun q => by omega) (by omega) hy
    rw [if_neg (by omega)] at o4
    have hlx := lvT_pos x.1
    exact ihL dp x.2.1 x.2.2 x.1 z M F1 Q c0 c j 0 hz hdp hN (hR.tf t1) v2 v3 o3 o4.2.1 hc0 o1 v4 v5 v6 v7 (by omega) (fun F' v t4 p4 => K F' v (t1.tr t4 (Nat.le_refl _)) p4)
set_option maxRecDepth 20000 in
theorem c_plain0 (hs : HS h) (hb : byT t n) (hn : n ≤ 400) {f : Nat} (ihT : PC h J V t n f 0 115 29) : PC h J V t n (f + 1) 4 117 27 := by
  intro dp k c tt z N F Q c0 hz hdp hN hR hA h10 hc h5 hc0 K
  have TK := tkA_p t hn
  rw [pG4] at hz
  obtain ⟨n1, n2⟩ := nt_ok TK 401 k hA.1
  have n3 := tkA_b t n (k := k + ntC (cdL (tkA t n)) 401 k) n1
  obtain ⟨M, rfl⟩ : ∃ M, N = M + 3 := ⟨N - 3, by omega⟩
  generalize hm : ntC (cdL (tkA t n)) 401 k = m at *
  have m100 : m ≤ 100 := by omega
  simp only [isO_c, ax0, ex_cons, am_get, upz_at, true_and, and_true, Nat.reduceAdd, Nat.reduceLeDiff, Nat.reduceEqDiff, Nat.reduceSub, Int32.reduceOfInt, Int32.reduceAdd, Int32.reduceMul, Int32.reduceSub, ↓reduceIte, Int32.reduceLT, Int32.reduceLE, Int32.reduceToNatClampNeg, Nat.reduceMod, Nat.reduceLT, List.length_cons, List.length_nil, eq_self, true_or, or_true, and_self, implies_true, not_true_eq_false, not_false_eq_true, false_implies, true_implies, forall_const, st_goto_wx, st_iconstx, st_istorex, am_put, am_nlg, kb_Reader_plain_0, cx_Reader_plain]
  -- behind the row of "not"
  have fin : ∀ F1 (v : Int32), Tf c0 F F1 → (v = -1 ∧ (∃ e, z = .inl e ∧ AT t n F1 e) ∨ ∃ (x : pT) (i : Nat), z = .inr (ngT m x.1, x.2.1, x.2.2) ∧ v = nI i ∧ AT t n F1 x.2.1 ∧ F1 24 10 = nI x.2.2 ∧ TN F1 x.1 0 i ∧ c0 ≤ i ∧ i + 1 = c0 + 2 * lvT x.1 - 1 ∧ F1 26 5 = nI (c0 + 2 * lvT x.1 - 1) ∧ x.2.2 ≤ 24 ∧ x.2.2 = c + lvT x.1) → am_W kc_Reader_plain (am_cl (M + 2)) Q 123 [.ref 24, .int (nI dp), .int (nI m), .int v] [] (ov h F1 J V) := by
    intro F1 v t1 hv
    rcases hv with ⟨v1, e, e1, e2⟩ | ⟨x, i, x1, v1, v2, v3, v4, v5, v6, v7, v8, v9⟩
    · subst v1
      simp only [isO_c, ax0, ex_cons, am_get, upz_at, true_and, and_true, Nat.reduceAdd, Nat.reduceLeDiff, Nat.reduceEqDiff, Nat.reduceSub, Int32.reduceOfInt, Int32.reduceAdd, Int32.reduceMul, Int32.reduceSub, ↓reduceIte, Int32.reduceLT, Int32.reduceLE, Int32.reduceToNatClampNeg, Nat.reduceMod, Nat.reduceLT, List.length_cons, List.length_nil, eq_self, true_or, or_true, and_self, implies_true, not_true_eq_false, not_false_eq_true, false_implies, true_implies, forall_const, st_aloadx, st_getfieldx, st_iloadx, st_in3, st_ireturnx, jx_Reader_plain_123, kb_Reader_plain_123, og_24_11, oo_26, oa_24, oa_26]
      refine c_negate1 ?_
      simp only [isO_c, ax0, ex_cons, am_get, upz_at, true_and, and_true, Nat.reduceAdd, Nat.reduceLeDiff, Nat.reduceEqDiff, Nat.reduceSub, Int32.reduceOfInt, Int32.reduceAdd, Int32.reduceMul, Int32.reduceSub, ↓reduceIte, Int32.reduceLT, Int32.reduceLE, Int32.reduceToNatClampNeg, Nat.reduceMod, Nat.reduceLT, List.length_cons, List.length_nil, eq_self, true_or, or_true, and_self, implies_true, not_true_eq_false, not_false_eq_true, false_implies, true_implies, forall_const, st_aloadx, st_getfieldx, st_iloadx, st_in3, st_ireturnx, jx_Reader_plain_123, kb_Reader_plain_123, og_24_11, oo_26, oa_24, oa_26]
      refine K F1 _ t1 ?_
      rw [e1]
      exact ⟨rfl, e2⟩
    · subst v1
      simp only [isO_c, ax0, ex_cons, am_get, upz_at, true_and, and_true, Nat.reduceAdd, Nat.reduceLeDiff, Nat.reduceEqDiff, Nat.reduceSub, Int32.reduceOfInt, Int32.reduceAdd, Int32.reduceMul, Int32.reduceSub, ↓reduceIte, Int32.reduceLT, Int32.reduceLE, Int32.reduceToNatClampNeg, Nat.reduceMod, Nat.reduceLT, List.length_cons, List.length_nil, eq_self, true_or, or_true, and_self, implies_true, not_true_eq_false, not_false_eq_true, false_implies, true_implies, forall_const, st_aloadx, st_getfieldx, st_iloadx, st_in3, st_ireturnx, jx_Reader_plain_123, kb_Reader_plain_123, og_24_11, oo_26, oa_24, oa_26]
      refine c_negate v7 (i := i) (by omega) (by omega) ?_
      simp only [isO_c, ax0, ex_cons, am_get, upz_at, true_and, and_true, Nat.reduceAdd, Nat.reduceLeDiff, Nat.reduceEqDiff, Nat.reduceSub, Int32.reduceOfInt, Int32.reduceAdd, Int32.reduceMul, Int32.reduceSub, ↓reduceIte, Int32.reduceLT, Int32.reduceLE, Int32.reduceToNatClampNeg, Nat.reduceMod, Nat.reduceLT, List.length_cons, List.length_nil, eq_self, true_or, or_true, and_self, implies_true, not_true_eq_false, not_false_eq_true, false_implies, true_implies, forall_const, st_aloadx, st_getfieldx, st_iloadx, st_in3, st_ireturnx, jx_Reader_plain_123, kb_Reader_plain_123, og_24_11, oo_26, oa_24, oa_26]
      have e24 : ∀ (g : Nat → Int32), upz F1 30 g 24 = F1 24 := fun g => upz_ne _ _ (by decide)
      refine K _ _ (t1.tr ⟨fun x hx => upz_ne _ _ (by omega), fun i _ _ _ => by rw [e24], fun a a1 a2 j hj => ?_⟩ (Nat.le_refl _)) ?_
      · by_cases w : a = 30
        · rw [w, upz_eq, upz_ne _ _ (by omega)]
        · rw [upz_ne _ _ w]
      · rw [x1]
        refine ⟨i, rfl, v2.cg (e24 _), by rw [e24]; exact v3, ?_, v5, ?_, ?_⟩
        · apply TN.ng
          rw [Nat.zero_add]
          have := TN.neg (F := F1) (F' := upz F1 30 (upz (F1 30) i (F1 30 i + nI m))) (m := m) (i := i) (fun a a1 a2 => upz_ne _ _ (by omega)) (fun j hj => by rw [upz_eq, upz_ne _ _ hj]) (by rw [upz_eq, upz_eq]) x.1 v4
          rw [Nat.zero_add] at this
          exact this
        · show i + 1 = c0 + 2 * lvT (ngT m x.1) - 1
          rw [ng_lv]; exact v6
        · show upz F1 30 _ 26 5 = nI (c0 + 2 * lvT (ngT m x.1) - 1)
          rw [ng_lv, upz_ne _ _ (by decide)]; exact v7
  -- behind the nots
  have mid : ∀ F1, Rs F F1 → AT t n F1 (k + m) → am_W kc_Reader_plain (am_cl (M + 2)) Q 24 [.ref 24, .int (nI dp), .int (nI m), am_dum] [] (ov h F1 J V) := by
    intro F1 s1 a1
    have R1 := hR.rs s1
    have f10 : F1 24 10 = nI c := by rw [s1.2 10 (by decide) (by decide)]; exact h10
    have f5 : F1 26 5 = nI c0 := by rw [s1.1 26 (by decide)]; exact h5
    have hl := enP_le (t := t) (n := n) (q := plL n (tkA t n) (k + m)) pl_le
    obtain ⟨sg1, sg2⟩ := sg_word (t := t) (n := n) (k := k + m) (w0 := 13) (c0 := 97) (r := 8) (Or.inl ⟨rfl, rfl, rfl⟩) a1.1
    simp only [isO_c, ax0, ex_cons, am_get, upz_at, true_and, and_true, Nat.reduceAdd, Nat.reduceLeDiff, Nat.reduceEqDiff, Nat.reduceSub, Int32.reduceOfInt, Int32.reduceAdd, Int32.reduceMul, Int32.reduceSub, ↓reduceIte, Int32.reduceLT, Int32.reduceLE, Int32.reduceToNatClampNeg, Nat.reduceMod, Nat.reduceLT, List.length_cons, List.length_nil, eq_self, true_or, or_true, and_self, implies_true, not_true_eq_false, not_false_eq_true, false_implies, true_implies, forall_const, st_aloadx, st_baloadx, st_dupx, st_dup_1x, st_getfieldx, st_gotox, st_iaddx, st_iconstx, st_ifCondx, st_if_icmpx, st_in1, st_in3, st_in4, st_istorex, st_isubx, st_putfieldx, am_put, am_nlg, jx_Reader_plain_24, kb_Reader_plain_24, oo_24, og_24_10, op_24_10, og_24_11, og_24_0, og_24_3, oo_26, oa_24, oa_26, os_24, oa_25, or_25]
    refine c_isSign (lo := nI 97) (hi := nI (97 + (8 - 1))) R1 a1.2.1 a1.2.2 hl.1 hl.2 ?_
    simp only [isO_c, ax0, ex_cons, am_get, upz_at, true_and, and_true, Nat.reduceAdd, Nat.reduceLeDiff, Nat.reduceEqDiff, Nat.reduceSub, Int32.reduceOfInt, Int32.reduceAdd, Int32.reduceMul, Int32.reduceSub, ↓reduceIte, Int32.reduceLT, Int32.reduceLE, Int32.reduceToNatClampNeg, Nat.reduceMod, Nat.reduceLT, List.length_cons, List.length_nil, eq_self, true_or, or_true, and_self, implies_true, not_true_eq_false, not_false_eq_true, false_implies, true_implies, forall_const, st_aloadx, st_baloadx, st_dupx, st_dup_1x, st_getfieldx, st_gotox, st_iaddx, st_iconstx, st_ifCondx, st_if_icmpx, st_in1, st_in3, st_in4, st_istorex, st_isubx, st_putfieldx, am_put, am_nlg, jx_Reader_plain_24, kb_Reader_plain_24, oo_24, og_24_10, op_24_10, og_24_11, og_24_0, og_24_3, oo_26, oa_24, oa_26, os_24, oa_25, or_25]
    refine ifb (fun w => ?_) (fun w => ?_)
    · have nk : ¬ (13 ≤ cdL (tkA t n) (k + m) ∧ cdL (tkA t n) (k + m) ≤ 20) := fun q => by
        rw [sg1.mpr q] at w; cases w
      rw [if_neg nk] at hz
      simp only [isO_c, ax0, ex_cons, am_get, upz_at, true_and, and_true, Nat.reduceAdd, Nat.reduceLeDiff, Nat.reduceEqDiff, Nat.reduceSub, Int32.reduceOfInt, Int32.reduceAdd, Int32.reduceMul, Int32.reduceSub, ↓reduceIte, Int32.reduceLT, Int32.reduceLE, Int32.reduceToNatClampNeg, Nat.reduceMod, Nat.reduceLT, List.length_cons, List.length_nil, eq_self, true_or, or_true, and_self, implies_true, not_true_eq_false, not_false_eq_true, false_implies, true_implies, forall_const, st_aloadx, st_goto_wx, st_iaddx, st_iconstx, st_ifCondx, st_if_icmpx, st_iloadx, st_in2, st_istorex, st_ldcx, am_put, am_nlg, jx_Reader_plain_85, kb_Reader_plain_85, oo_24, oa_24, show ((8 : Int32) ≤ nI (dp)) = (8 ≤ dp) from nk_le (a := 8) (b := dp) (by omega) (by omega)]
      refine ⟨fun y => ?_, fun y => ?_⟩
      · refine fin F1 _ (s1.tf c0) (Or.inl ⟨rfl, k + m, ?_, a1⟩)
        by_cases q : cdL (tkA t n) (k + m) = 140
        · rw [if_pos q, if_pos (show dp = 8 by omega)] at hz
          exact (Option.some.inj hz).symm
        · rw [if_neg q] at hz
          exact (Option.some.inj hz).symm
      · refine c_pass (a := 3) hs R1 hb a1 (by decide) (by decide) (by decide) (fun q => ?_) (fun F2 q hk2 s2 a2 => ?_)
        · rw [if_neg (show ¬ cdL (tkA t n) (k + m) = 140 from q)] at hz
          simp only [isO_c, ax0, ex_cons, am_get, upz_at, true_and, and_true, Nat.reduceAdd, Nat.reduceLeDiff, Nat.reduceEqDiff, Nat.reduceSub, Int32.reduceOfInt, Int32.reduceAdd, Int32.reduceMul, Int32.reduceSub, ↓reduceIte, Int32.reduceLT, Int32.reduceLE, Int32.reduceToNatClampNeg, Nat.reduceMod, Nat.reduceLT, List.length_cons, List.length_nil, eq_self, true_or, or_true, and_self, implies_true, not_true_eq_false, not_false_eq_true, false_implies, true_implies, forall_const, st_aloadx, st_goto_wx, st_iaddx, st_iconstx, st_ifCondx, st_if_icmpx, st_iloadx, st_in2, st_istorex, st_ldcx, am_put, am_nlg, jx_Reader_plain_85, kb_Reader_plain_85, oo_24, oa_24]
          exact fin F1 _ (s1.tf c0) (Or.inl ⟨rfl, k + m, (Option.some.inj hz).symm, a1⟩)
        · rw [if_pos (show cdL (tkA t n) (k + m) = 140 from q), if_neg (show ¬ dp = 8 by omega)] at hz
          have s12 := s1.tr s2
          have g10 : F2 24 10 = nI c := by rw [s2.2 10 (by decide) (by decide)]; exact f10
          have g5 : F2 26 5 = nI c0 := by rw [s2.1 26 (by decide)]; exact f5
          have tot : ∃ y, pG (cdL (tkA t n)) f 0 (dp + 1) (k + m + 1) c tt = some y := by
            cases e : pG (cdL (tkA t n)) f 0 (dp + 1) (k + m + 1) c tt with
            | none => rw [e] at hz; cases hz
            | some y => exact ⟨y, rfl⟩
          obtain ⟨y2, hy⟩ := tot
          rw [hy] at hz
          simp only [isO_c, ax0, ex_cons, am_get, upz_at, true_and, and_true, Nat.reduceAdd, Nat.reduceLeDiff, Nat.reduceEqDiff, Nat.reduceSub, Int32.reduceOfInt, Int32.reduceAdd, Int32.reduceMul, Int32.reduceSub, ↓reduceIte, Int32.reduceLT, Int32.reduceLE, Int32.reduceToNatClampNeg, Nat.reduceMod, Nat.reduceLT, List.length_cons, List.length_nil, eq_self, true_or, or_true, and_self, implies_true, not_true_eq_false, not_false_eq_true, false_implies, true_implies, forall_const, st_aloadx, st_goto_wx, st_iaddx, st_iconstx, st_ifCondx, st_if_icmpx, st_iloadx, st_in2, st_istorex, st_ldcx, am_put, am_nlg, jx_Reader_plain_85, kb_Reader_plain_85, oo_24, oa_24, nk_succ]
          refine ihT (dp + 1) (k + m + 1) c tt y2 (M + 2) F2 _ c0 hy (by omega) (by omega) (hR.rs s12) a2 g10 hc g5 hc0 (fun F3 v t3 p3 => ?_)
          have t03 := (s12.tf c0).tr t3 (Nat.le_refl _)
          simp only [isO_c, ax0, ex_cons, am_get, upz_at, true_and, and_true, Nat.reduceAdd, Nat.reduceLeDiff, Nat.reduceEqDiff, Nat.reduceSub, Int32.reduceOfInt, Int32.reduceAdd, Int32.reduceMul, Int32.reduceSub, ↓reduceIte, Int32.reduceLT, Int32.reduceLE, Int32.reduceToNatClampNeg, Nat.reduceMod, Nat.reduceLT, List.length_cons, List.length_nil, eq_self, true_or, or_true, and_self, implies_true, not_true_eq_false, not_false_eq_true, false_implies, true_implies, forall_const, st_aloadx, st_goto_wx, st_iaddx, st_iconstx, st_ifCondx, st_if_icmpx, st_iloadx, st_in2, st_istorex, st_ldcx, am_put, am_nlg, jx_Reader_plain_85, kb_Reader_plain_85, oo_24, oa_24]
          cases y2 with
          | inl e =>
            cases hz
            obtain ⟨v1, v2⟩ := p3
            subst v1
            exact ⟨fun _ => fin F3 _ t03 (Or.inl ⟨rfl, e, rfl, v2⟩), fun u => absurd (show (-1 : Int32) < 0 by decide) u⟩
          | inr x =>
            obtain ⟨j, v1, v2, v3, v4, v5, v6, v7⟩ := p3
            subst v1
            obtain ⟨o1, o2, o3, o4⟩ := pG_ok TK f 0 (dp + 1) (k + m + 1) c tt _ hk2 hc (fun q => by omega) (by omega) hy
            rw [if_neg (by omega)] at o4
            have hz : (if cdL (tkA t n) x.2.1 = 141 then some (Sum.inr (ngT m x.1, x.2.1 + 1, x.2.2)) else some (Sum.inl x.2.1)) = some z := hz
            refine ⟨fun u => absurd u (by rw [nk_neg (by omega)]; exact id), fun _ => ?_⟩
            refine c_pass (a := 4) hs (hR.tf t03) hb v2 (by decide) (by decide) (by decide) (fun q3 => ?_) (fun F4 q3 hk4 s4 a4 => ?_)
            · rw [if_neg (show ¬ cdL (tkA t n) x.2.1 = 141 from q3)] at hz
              simp only [isO_c, ax0, ex_cons, am_get, upz_at, true_and, and_true, Nat.reduceAdd, Nat.reduceLeDiff, Nat.reduceEqDiff, Nat.reduceSub, Int32.reduceOfInt, Int32.reduceAdd, Int32.reduceMul, Int32.reduceSub, ↓reduceIte, Int32.reduceLT, Int32.reduceLE, Int32.reduceToNatClampNeg, Nat.reduceMod, Nat.reduceLT, List.length_cons, List.length_nil, eq_self, true_or, or_true, and_self, implies_true, not_true_eq_false, not_false_eq_true, false_implies, true_implies, forall_const, st_aloadx, st_goto_wx, st_iaddx, st_iconstx, st_ifCondx, st_if_icmpx, st_iloadx, st_in2, st_istorex, st_ldcx, am_put, am_nlg, jx_Reader_plain_85, kb_Reader_plain_85, oo_24, oa_24]
              exact fin F3 _ t03 (Or.inl ⟨rfl, x.2.1, (Option.some.inj hz).symm, v2⟩)
            · rw [if_pos (show cdL (tkA t n) x.2.1 = 141 from q3)] at hz
              simp only [isO_c, ax0, ex_cons, am_get, upz_at, true_and, and_true, Nat.reduceAdd, Nat.reduceLeDiff, Nat.reduceEqDiff, Nat.reduceSub, Int32.reduceOfInt, Int32.reduceAdd, Int32.reduceMul, Int32.reduceSub, ↓reduceIte, Int32.reduceLT, Int32.reduceLE, Int32.reduceToNatClampNeg, Nat.reduceMod, Nat.reduceLT, List.length_cons, List.length_nil, eq_self, true_or, or_true, and_self, implies_true, not_true_eq_false, not_false_eq_true, false_implies, true_implies, forall_const, st_aloadx, st_goto_wx, st_iaddx, st_iconstx, st_ifCondx, st_if_icmpx, st_iloadx, st_in2, st_istorex, st_ldcx, am_put, am_nlg, jx_Reader_plain_85, kb_Reader_plain_85, oo_24, oa_24]
              refine fin F4 _ (t03.tr (s4.tf c0) (Nat.le_refl _)) (Or.inr ⟨(x.1, x.2.1 + 1, x.2.2), j, (Option.some.inj hz).symm, rfl, a4, ?_, ?_, v5, v6, ?_, o3, o4.2.1⟩)
              · rw [s4.2 10 (by decide) (by decide)]; exact v3
              · exact v4.cg x.1 (fun a a1 a2 j hj => by rw [s4.1 a (by omega)])
              · rw [s4.1 26 (by decide)]; exact v7
    · have ik := sg1.mp w
      have nb : ¬ cdL (tkA t n) (k + m) = 140 := by omega
      have tv := sg2 ik.1 ik.2
      rw [if_neg nb, if_pos (show 13 ≤ cdL (tkA t n) (k + m) ∧ cdL (tkA t n) (k + m) ≤ 20 by omega)] at hz
      have hkm : k + m < (tkA t n).length := by
        rcases Nat.lt_or_ge (k + m) (tkA t n).length with y | y
        · exact y
        · rw [cd_out y] at ik; omega
      obtain ⟨q1, q2, q3⟩ := at_k hkm
      have ft : F1 25 (plL n (tkA t n) (k + m)) = t (plL n (tkA t n) (k + m)) := R1.2.2 _ q1
      simp only [isO_c, ax0, ex_cons, am_get, upz_at, true_and, and_true, Nat.reduceAdd, Nat.reduceLeDiff, Nat.reduceEqDiff, Nat.reduceSub, Int32.reduceOfInt, Int32.reduceAdd, Int32.reduceMul, Int32.reduceSub, ↓reduceIte, Int32.reduceLT, Int32.reduceLE, Int32.reduceToNatClampNeg, Nat.reduceMod, Nat.reduceLT, List.length_cons, List.length_nil, eq_self, true_or, or_true, and_self, implies_true, not_true_eq_false, not_false_eq_true, false_implies, true_implies, forall_const, st_aloadx, st_baloadx, st_dupx, st_dup_1x, st_getfieldx, st_gotox, st_iaddx, st_iconstx, st_ifCondx, st_if_icmpx, st_in1, st_in3, st_in4, st_istorex, st_isubx, st_putfieldx, am_put, am_nlg, jx_Reader_plain_24, kb_Reader_plain_24, oo_24, og_24_10, op_24_10, og_24_11, og_24_0, og_24_3, oo_26, oa_24, oa_26, os_24, oa_25, or_25, f10, show ((24 : Int32) ≤ nI (c)) = (24 ≤ c) from nk_le (a := 24) (b := c) (by omega) (by omega)]
      refine ⟨fun y => ?_, fun y => ?_⟩
      · rw [if_pos (show c = 24 by omega)] at hz
        exact fin F1 _ (s1.tf c0) (Or.inl ⟨rfl, k + m, (Option.some.inj hz).symm, a1⟩)
      · rw [if_neg (show ¬ c = 24 by omega)] at hz
        have e97 : nI (97 + (cdL (tkA t n) (k + m) - 13)) - (97 : Int32) = nI (cdL (tkA t n) (k + m) - 13) := by
          rw [show (97 : Int32) = nI 97 from rfl, nk_sub (by omega)]
          congr 1
          omega
        simp only [isO_c, ax0, ex_cons, am_get, upz_at, true_and, and_true, Nat.reduceAdd, Nat.reduceLeDiff, Nat.reduceEqDiff, Nat.reduceSub, Int32.reduceOfInt, Int32.reduceAdd, Int32.reduceMul, Int32.reduceSub, ↓reduceIte, Int32.reduceLT, Int32.reduceLE, Int32.reduceToNatClampNeg, Nat.reduceMod, Nat.reduceLT, List.length_cons, List.length_nil, eq_self, true_or, or_true, and_self, implies_true, not_true_eq_false, not_false_eq_true, false_implies, true_implies, forall_const, st_aloadx, st_baloadx, st_dupx, st_dup_1x, st_getfieldx, st_gotox, st_iaddx, st_iconstx, st_ifCondx, st_if_icmpx, st_in1, st_in3, st_in4, st_istorex, st_isubx, st_putfieldx, am_put, am_nlg, jx_Reader_plain_24, kb_Reader_plain_24, oo_24, og_24_10, op_24_10, og_24_11, og_24_0, og_24_3, oo_26, oa_24, oa_26, os_24, oa_25, or_25, a1.2.1, f10, nk_neg (show plL n (tkA t n) (k + m) < 2147483648 by omega), nk_cl (show plL n (tkA t n) (k + m) < 2147483648 by omega), show plL n (tkA t n) (k + m) < 400 by omega, ft, tv, e97, nk_succ, upz_upd, upz_eq]
        have s2 : Tf c0 F1 (upz F1 24 (upz (F1 24) 10 (nI (c + 1)))) := ⟨fun x hx => upz_ne _ _ (by omega), fun i _ _ h3 => by rw [upz_eq, upz_ne _ _ h3], fun a a1 a2 i _ => by rw [upz_ne _ _ (by omega)]⟩
        refine c_make (cnt := c0) (by rw [upz_ne _ _ (by decide)]; exact f5) (by omega) (fun F3 b1 b2 b3 b4 b5 b6 => ?_)
        have t3 := (Tf.tr (s1.tf c0) s2 (Nat.le_refl _)).tr (Tf.mk (c0 := c0) (Nat.le_refl _) b1 b3 b4 b5 b6) (Nat.le_refl _)
        have e24 : F3 24 = upz (F1 24) 10 (nI (c + 1)) := by rw [b1 24 (by decide) (by decide) (by decide) (by decide) (by decide), upz_eq]
        have A3 : AT t n F3 (k + m) := ⟨a1.1, by rw [e24, upz_ne _ _ (by decide)]; exact a1.2.1, by rw [e24, upz_ne _ _ (by decide)]; exact a1.2.2⟩
        simp only [isO_c, ax0, ex_cons, am_get, upz_at, true_and, and_true, Nat.reduceAdd, Nat.reduceLeDiff, Nat.reduceEqDiff, Nat.reduceSub, Int32.reduceOfInt, Int32.reduceAdd, Int32.reduceMul, Int32.reduceSub, ↓reduceIte, Int32.reduceLT, Int32.reduceLE, Int32.reduceToNatClampNeg, Nat.reduceMod, Nat.reduceLT, List.length_cons, List.length_nil, eq_self, true_or, or_true, and_self, implies_true, not_true_eq_false, not_false_eq_true, false_implies, true_implies, forall_const, st_aloadx, st_baloadx, st_dupx, st_dup_1x, st_getfieldx, st_gotox, st_iaddx, st_iconstx, st_ifCondx, st_if_icmpx, st_in1, st_in3, st_in4, st_istorex, st_isubx, st_putfieldx, am_put, am_nlg, jx_Reader_plain_24, kb_Reader_plain_24, oo_24, og_24_10, op_24_10, og_24_11, og_24_0, og_24_3, oo_26, oa_24, oa_26, os_24, oa_25, or_25]
        refine c_next (hR.tf t3) A3 hkm (by omega) (fun F4 s4 a4 => ?_)
        simp only [isO_c, ax0, ex_cons, am_get, upz_at, true_and, and_true, Nat.reduceAdd, Nat.reduceLeDiff, Nat.reduceEqDiff, Nat.reduceSub, Int32.reduceOfInt, Int32.reduceAdd, Int32.reduceMul, Int32.reduceSub, ↓reduceIte, Int32.reduceLT, Int32.reduceLE, Int32.reduceToNatClampNeg, Nat.reduceMod, Nat.reduceLT, List.length_cons, List.length_nil, eq_self, true_or, or_true, and_self, implies_true, not_true_eq_false, not_false_eq_true, false_implies, true_implies, forall_const, st_aloadx, st_baloadx, st_dupx, st_dup_1x, st_getfieldx, st_gotox, st_iaddx, st_iconstx, st_ifCondx, st_if_icmpx, st_in1, st_in3, st_in4, st_istorex, st_isubx, st_putfieldx, am_put, am_nlg, jx_Reader_plain_24, kb_Reader_plain_24, oo_24, og_24_10, op_24_10, og_24_11, og_24_0, og_24_3, oo_26, oa_24, oa_26, os_24, oa_25, or_25]
        have lv1 : lvT (.var (cdL (tkA t n) (k + m) - 13)) = 1 := rfl
        refine fin F4 _ (t3.tr (s4.tf c0) (Nat.le_refl _)) (Or.inr ⟨(.var (cdL (tkA t n) (k + m) - 13), k + m + 1, c + 1), c0, (Option.some.inj hz).symm, rfl, a4, ?_, ⟨?_, ?_, ?_⟩, Nat.le_refl _, ?_, ?_, by show c + 1 ≤ 24; omega, ?_⟩)
        · rw [s4.2 10 (by decide) (by decide), e24, upz_eq]
        · rw [s4.1 27 (by decide), b3, upz_eq]
        · rw [s4.1 28 (by decide), b4, upz_eq]
        · rw [s4.1 30 (by decide), b6, upz_eq]; rfl
        · show c0 + 1 = c0 + 2 * 1 - 1; omega
        · rw [s4.1 26 (by decide), b2]; rfl
        · rfl
  have lp : ∀ j i F1, i + j = m → ntC (cdL (tkA t n)) (401 - i) (k + i) = j → Rs F F1 → AT t n F1 (k + i) → am_W kc_Reader_plain (am_cl (M + 2)) Q 2 [.ref 24, .int (nI dp), .int (nI i), am_dum] [] (ov h F1 J V) := by
    intro j
    induction j with
    | zero =>
      intro i F1 ei ej s1 a1
      have ei : i = m := ei
      have no : ¬ cdL (tkA t n) (k + i) = 8 := fun q => by
        rw [show 401 - i = (400 - i) + 1 by omega] at ej
        unfold ntC at ej
        rw [if_pos q] at ej
        omega
      rw [jx_Reader_plain_2]
      simp only [isO_c, ax0, ex_cons, am_get, upz_at, true_and, and_true, Nat.reduceAdd, Nat.reduceLeDiff, Nat.reduceEqDiff, Nat.reduceSub, Int32.reduceOfInt, Int32.reduceAdd, Int32.reduceMul, Int32.reduceSub, ↓reduceIte, Int32.reduceLT, Int32.reduceLE, Int32.reduceToNatClampNeg, Nat.reduceMod, Nat.reduceLT, List.length_cons, List.length_nil, eq_self, true_or, or_true, and_self, implies_true, not_true_eq_false, not_false_eq_true, false_implies, true_implies, forall_const, st_aloadx, st_gotox, st_iconstx, st_ifCondx, st_if_icmpx, st_iincx, st_iloadx, st_in2, st_ldcx, am_put, am_nlg, kb_Reader_plain_2, oo_24, oa_24, show ((400 : Int32) ≤ nI (i)) = (400 ≤ i) from nk_le (a := 400) (b := i) (by omega) (by omega), show ¬ 400 ≤ i by omega]
      refine c_pass (a := 14) hs (hR.rs s1) hb a1 (by decide) (by decide) (by decide) (fun q => ?_) (fun F2 q _ _ _ => absurd q no)
      simp only [isO_c, ax0, ex_cons, am_get, upz_at, true_and, and_true, Nat.reduceAdd, Nat.reduceLeDiff, Nat.reduceEqDiff, Nat.reduceSub, Int32.reduceOfInt, Int32.reduceAdd, Int32.reduceMul, Int32.reduceSub, ↓reduceIte, Int32.reduceLT, Int32.reduceLE, Int32.reduceToNatClampNeg, Nat.reduceMod, Nat.reduceLT, List.length_cons, List.length_nil, eq_self, true_or, or_true, and_self, implies_true, not_true_eq_false, not_false_eq_true, false_implies, true_implies, forall_const, st_aloadx, st_gotox, st_iconstx, st_ifCondx, st_if_icmpx, st_iincx, st_iloadx, st_in2, st_ldcx, am_put, am_nlg, kb_Reader_plain_2, oo_24, oa_24]
      rw [ei] at a1 ⊢
      exact mid F1 s1 a1
    | succ j ih =>
      intro i F1 ei ej s1 a1
      have ej2 : cdL (tkA t n) (k + i) = 8 ∧ ntC (cdL (tkA t n)) (401 - (i + 1)) (k + (i + 1)) = j := by
        rw [show 401 - i = (401 - (i + 1)) + 1 by omega] at ej
        unfold ntC at ej
        by_cases q : cdL (tkA t n) (k + i) = 8
        · rw [if_pos q] at ej
          refine ⟨q, ?_⟩
          have : 1 + ntC (cdL (tkA t n)) (401 - (i + 1)) (k + i + 1) = j + 1 := ej
          rw [show k + (i + 1) = k + i + 1 by omega]
          omega
        · rw [if_neg q] at ej; omega
      rw [jx_Reader_plain_2]
      simp only [isO_c, ax0, ex_cons, am_get, upz_at, true_and, and_true, Nat.reduceAdd, Nat.reduceLeDiff, Nat.reduceEqDiff, Nat.reduceSub, Int32.reduceOfInt, Int32.reduceAdd, Int32.reduceMul, Int32.reduceSub, ↓reduceIte, Int32.reduceLT, Int32.reduceLE, Int32.reduceToNatClampNeg, Nat.reduceMod, Nat.reduceLT, List.length_cons, List.length_nil, eq_self, true_or, or_true, and_self, implies_true, not_true_eq_false, not_false_eq_true, false_implies, true_implies, forall_const, st_aloadx, st_gotox, st_iconstx, st_ifCondx, st_if_icmpx, st_iincx, st_iloadx, st_in2, st_ldcx, am_put, am_nlg, kb_Reader_plain_2, oo_24, oa_24, show ((400 : Int32) ≤ nI (i)) = (400 ≤ i) from nk_le (a := 400) (b := i) (by omega) (by omega), show ¬ 400 ≤ i by omega]
      refine c_pass (a := 14) hs (hR.rs s1) hb a1 (by decide) (by decide) (by decide) (fun q => absurd ej2.1 q) (fun F2 q _ s2 a2 => ?_)
      simp only [isO_c, ax0, ex_cons, am_get, upz_at, true_and, and_true, Nat.reduceAdd, Nat.reduceLeDiff, Nat.reduceEqDiff, Nat.reduceSub, Int32.reduceOfInt, Int32.reduceAdd, Int32.reduceMul, Int32.reduceSub, ↓reduceIte, Int32.reduceLT, Int32.reduceLE, Int32.reduceToNatClampNeg, Nat.reduceMod, Nat.reduceLT, List.length_cons, List.length_nil, eq_self, true_or, or_true, and_self, implies_true, not_true_eq_false, not_false_eq_true, false_implies, true_implies, forall_const, st_aloadx, st_gotox, st_iconstx, st_ifCondx, st_if_icmpx, st_iincx, st_iloadx, st_in2, st_ldcx, am_put, am_nlg, kb_Reader_plain_2, oo_24, oa_24, nk_succ]
      exact ih (i + 1) F2 (by omega) ej2.2 (s1.tr s2) a2
  exact lp m 0 F (by omega) hm Rs.rf hA
theorem c_pG (hs : HS h) (hb : byT t n) (hn : n ≤ 400) : ∀ f, PC h J V t n f 0 115 29 ∧ PC h J V t n f 2 116 28 ∧ PC h J V t n f 4 117 27 ∧ PL h J V t n f 1 29 kc_Reader_term ∧ PL h J V t n f 3 28 kc_Reader_both := by
  intro f
  induction f with
  | zero => exact ⟨fun _ _ _ _ _ _ _ _ _ hz => (by cases hz), fun _ _ _ _ _ _ _ _ _ hz => (by cases hz), fun _ _ _ _ _ _ _ _ _ hz => (by cases hz), fun _ _ _ _ _ _ _ _ _ _ _ _ hz => (by cases hz), fun _ _ _ _ _ _ _ _ _ _ _ _ hz => (by cases hz)⟩
  | succ f ih =>
    obtain ⟨i1, i2, i3, i4, i5⟩ := ih
    exact ⟨c_term0 hn i2 i4, c_both0 hn i3 i5, c_plain0 hs hb hn i1, c_termL hs hb hn i2 i4, c_bothL hs hb hn i3 i5⟩
end CRU
