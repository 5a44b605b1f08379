/-! ===== the model: riddles ===== -/
theorem nj_i2l {k : Nat} (h : k < 2147483648) : (nI k).toInt64 = Int64.ofNat k := by
  rw [← Int64.toInt_inj, Int32.toInt_toInt64, nk_toInt h, Int64.toInt_ofNat_of_lt (by omega)]
theorem nj_rem {a b : Nat} (ha : a < 9223372036854775808) (hb : b < 9223372036854775808) (hb0 : 0 < b) : Int64.ofNat a - Int64.ofNat a / Int64.ofNat b * Int64.ofNat b = Int64.ofNat (a % b) := by
  have h1 : a / b < 9223372036854775808 := Nat.lt_of_le_of_lt (Nat.div_le_self a b) ha
  have hd : Int64.ofNat a / Int64.ofNat b = Int64.ofNat (a / b) := by
    rw [← Int64.toInt_inj, Int64.toInt_ofNat_of_lt h1]
    rw [Int64.toInt_div_of_ne_right _ _ (by
      intro q
      have := congrArg Int64.toInt q
      rw [Int64.toInt_ofNat_of_lt hb] at this
      have e : (-1 : Int64).toInt = -1 := by decide
      rw [e] at this
      omega), Int64.toInt_ofNat_of_lt ha, Int64.toInt_ofNat_of_lt hb]
    exact (Int.ofNat_tdiv a b).symm
  rw [hd, ← Int64.ofNat_mul]
  have e : Int64.ofNat a = Int64.ofNat (a % b) + Int64.ofNat (a / b * b) := by
    rw [← Int64.ofNat_add]
    congr 1
    have := Nat.div_add_mod a b
    have e : a / b * b = b * (a / b) := Nat.mul_comm _ _
    omega
  rw [e]
  exact Int64.add_sub_cancel _ _
theorem nj_l2i {k : Nat} (h : k < 2147483648) : (Int64.ofNat k).toInt32 = nI k := by
  rw [← nj_i2l h]
  exact Int32.toInt32_toInt64 _
def drN (s : Nat) : Nat := (1103 * s + 12345) % 1000003
theorem drN_lt (s : Nat) : drN s < 1000003 := Nat.mod_lt _ (by decide)
def rdNum (s : Nat) : Nat := 64 * (drN s % 4) + 8 * (drN (drN s) % 8) + (if drN (drN (drN s)) % 7 < drN (drN s) % 8 then drN (drN (drN s)) % 7 else drN (drN (drN s)) % 7 + 1)
theorem rdNum_ok (s : Nat) : rdNum s < 256 ∧ isNu (rdNum s) = true := by
  refine isNu_mk (k := drN s % 4) (u := drN (drN s) % 8) (v := if drN (drN (drN s)) % 7 < drN (drN s) % 8 then drN (drN (drN s)) % 7 else drN (drN (drN s)) % 7 + 1) (by omega) (by omega) ?_ ?_ rfl
  · split <;> omega
  · split <;> omega
def rdSt (S : Nat × yT) : Nat × yT := (drN (drN (drN S.1)), if qz (tellz (rzT S.2.2 S.2.1) (clR (rS (rdNum S.1))) false) (fun _ => false) then S.2 else (S.2.1 + 1, upz S.2.2 S.2.1 (rdNum S.1)))
def rdIt (s : Nat) : Nat → Nat × yT
  | 0 => (s, (0, fun _ => 0))
  | k + 1 => rdSt (rdIt s k)
theorem rdIt_ok (s : Nat) (hs : s < 1000003) : ∀ k, (rdIt s k).1 < 1000003 ∧ (rdIt s k).2.1 ≤ k ∧ ∀ i, i < (rdIt s k).2.1 → (rdIt s k).2.2 i < 256 ∧ isNu ((rdIt s k).2.2 i) = true
  | 0 => ⟨hs, Nat.le_refl _, fun i hi => absurd hi (Nat.not_lt_zero i)⟩
  | k + 1 => by
    obtain ⟨h1, h2, h3⟩ := rdIt_ok s hs k
    show (rdSt (rdIt s k)).1 < _ ∧ (rdSt (rdIt s k)).2.1 ≤ _ ∧ ∀ i, i < (rdSt (rdIt s k)).2.1 → (rdSt (rdIt s k)).2.2 i < 256 ∧ isNu ((rdSt (rdIt s k)).2.2 i) = true
    unfold rdSt
    dsimp only
    split
    · exact ⟨drN_lt _, by omega, h3⟩
    · refine ⟨drN_lt _, by show (rdIt s k).2.1 + 1 ≤ k + 1; omega, fun i hi => ?_⟩
      have hi : i < (rdIt s k).2.1 + 1 := hi
      show upz (rdIt s k).2.2 (rdIt s k).2.1 (rdNum (rdIt s k).1) i < 256 ∧ isNu (upz (rdIt s k).2.2 (rdIt s k).2.1 (rdNum (rdIt s k).1) i) = true
      by_cases q : i = (rdIt s k).2.1
      · rw [q, upz_eq]; exact rdNum_ok _
      · rw [upz_ne _ _ q]; exact h3 i (by omega)
def xRiddle (A : aT) (x n : Int32) : aT × Int32 := if lieB x 0 1000000 && lieB n 0 12 then xGd (A.1, A.2.1, A.2.2.1, A.2.2.2.1, some (rdIt x.toNatClampNeg n.toNatClampNeg).2) (nI (rdIt x.toNatClampNeg n.toNatClampNeg).2.1) else xRf A (-1) 1
theorem rzT_len (f : Nat → Nat) : ∀ k, (rzT f k).2.1.length ≤ 2 * k
  | 0 => Nat.le_refl _
  | k + 1 => by
    have := rzT_len f k
    have := tellz_len (rzT f k) (clR (rS (f k))) false
    unfold rzT
    omega
/-- the desk, images, tape and counts stay; the riddle may change -/
def Pr (F F' : Nat → Nat → Int32) : Prop := (∀ a, a < 82 → F' a = F a) ∧ (∀ a, a = 83 ∨ a = 85 ∨ a = 86 ∨ a = 87 ∨ a = 88 → F' a = F a) ∧ (∀ i, ¬ (2379 ≤ i ∧ i < 2562) → F' 84 i = F 84 i) ∧ ∀ i, i = 0 ∨ i = 8 ∨ i = 9 → F' 82 i = F 82 i
theorem Pm.pr {F F' : Nat → Nat → Int32} (a : Pm F F') : Pr F F' := ⟨a.1, fun i hi => a.2.1 i (by omega), a.2.2.1, fun i hi => a.2.2.2 i (by omega)⟩
theorem Pr.tr {F F1 F2 : Nat → Nat → Int32} (a : Pr F F1) (b : Pr F1 F2) : Pr F F2 := ⟨fun i hi => (b.1 i hi).trans (a.1 i hi), fun i hi => (b.2.1 i hi).trans (a.2.1 i hi), fun i hi => (b.2.2.1 i hi).trans (a.2.2.1 i hi), fun i hi => (b.2.2.2 i hi).trans (a.2.2.2 i hi)⟩
theorem Pr.w82 {F : Nat → Nat → Int32} {i : Nat} {v : Int32} (hi : i ≠ 0 ∧ i ≠ 8 ∧ i ≠ 9) : Pr F (upz F 82 (upz (F 82) i v)) := ⟨fun a ha => upz_ne _ _ (by omega), fun a ha => upz_ne _ _ (by omega), fun j hj => by rw [upz_ne _ _ (by decide)], fun j hj => by rw [upz_eq, upz_ne _ _ (by omega)]⟩
theorem MS.pr {F F' : Nat → Nat → Int32} {A : aT} (h : MS F A) (p : Pr F F') {o : Option yT} (ho : MSd (F' 82) (F' 107) o) : MS F' (A.1, A.2.1, A.2.2.1, A.2.2.2.1, o) := by
  obtain ⟨p1, p2, p3, p4⟩ := p
  obtain ⟨h1, h2, h3, h4, h5, h6, h7, h8⟩ := h
  refine ⟨h1.cgB (fun i _ q => p3 i q), ?_, ?_, ?_, ?_, ?_, ho, ?_⟩
  · rw [p2 85 (by decide), p2 86 (by decide)]; exact h2
  · rw [p4 8 (by decide), p2 88 (by decide)]; exact h3
  · rw [p4 9 (by decide)]; exact h4
  · rw [p4 0 (by decide)]; exact h5
  · rw [p2 83 (by decide)]; exact h6
  · rw [p2 87 (by decide)]; exact h8
section MRD
variable {d : Nat} {h : am_H} {F : Nat → Nat → Int32} {J : Nat → Nat → Int64} {V : Nat → Nat → Value} {Q : am_Q}
set_option maxRecDepth 20000 in
theorem m_draws {s n : Nat} (hs : F 82 46 = nI s) (hs2 : s < 1000003) (hn : n < 100) (hn0 : 0 < n) (K : Q (some (.int (nI (drN s % n)))) (ov h (upz F 82 (upz (F 82) 46 (nI (drN s)))) J V)) : am_cl (d + 1) 284 [.ref 82, .int (nI n)] (ov h F J V) Q := by
  have := drN_lt s
  have e1 : (Int64.ofInt 1103 * (nI s).toInt64 + Int64.ofInt 12345 - (Int64.ofInt 1103 * (nI s).toInt64 + Int64.ofInt 12345) / Int64.ofInt 1000003 * Int64.ofInt 1000003).toInt32 = nI (drN s) := by
    rw [nj_i2l (by omega), show Int64.ofInt 1103 = Int64.ofNat 1103 from rfl, show Int64.ofInt 12345 = Int64.ofNat 12345 from rfl, show Int64.ofInt 1000003 = Int64.ofNat 1000003 from rfl, ← Int64.ofNat_mul, ← Int64.ofNat_add, nj_rem (by omega) (by decide) (by decide)]
    exact nj_l2i (by show drN s < _; omega)
  have e2 : ¬ Int64.ofInt 1000003 = 0 := by decide
  have e3 : nI (drN s) - nI (drN s) / nI n * nI n = nI (drN s % n) := nk_rem (by omega) (by omega) hn0
  have e4 : ¬ nI n = 0 := nk_ne0 (by omega) hn0
  simp only [ax0, ex_cons, am_get, upz_at, true_and, and_true, Nat.reduceAdd, Nat.reduceLeDiff, Nat.reduceEqDiff, Nat.reduceSub, Int32.reduceOfInt, Int32.reduceAdd, Int32.reduceMul, Int32.reduceSub, ↓reduceIte, Int32.reduceLT, Int32.reduceLE, Int32.reduceToNatClampNeg, Nat.reduceMod, Nat.reduceLT, List.length_cons, List.length_nil, eq_self, true_or, or_true, and_self, implies_true, not_true_eq_false, not_false_eq_true, false_implies, true_implies, forall_const, st_aloadx, st_bipushx, st_getfieldx, st_i2lx, st_iloadx, st_iremx, st_ireturnx, st_l2ix, st_laddx, st_lmulx, st_lremx, st_putfieldx, cx_Model_draws, kb_Model_draws_0, og_82_46, op_82_46, oa_82, os_82, hs, e2, e1, e3, e4]
  exact K
set_option maxRecDepth 20000 in
theorem m_riddles {y : yT} (h43 : F 82 43 = nI y.1) (hy : y.1 ≤ 12) (hf : ∀ i, i < y.1 → F 107 i = nI (y.2 i) ∧ y.2 i < 256) {m : Int32} {T : tT} (hm : (m = -1 ∧ T = rzT y.2 y.1) ∨ ∃ k, m = nI k ∧ k < 256 ∧ T = tellz (rzT y.2 y.1) (clR (rS k)) false) (K : ∀ F', MT F' T → Pm F F' → (∀ i, i ≠ 31 → F' 82 i = F 82 i) → Q none (ov h F' J V)) : am_cl (d + 4) 285 [.ref 82, .int m] (ov h F J V) Q := by
  simp only [ax0, ex_cons, am_get, upz_at, true_and, and_true, Nat.reduceAdd, Nat.reduceLeDiff, Nat.reduceEqDiff, Nat.reduceSub, Int32.reduceOfInt, Int32.reduceAdd, Int32.reduceMul, Int32.reduceSub, ↓reduceIte, Int32.reduceLT, Int32.reduceLE, Int32.reduceToNatClampNeg, Nat.reduceMod, Nat.reduceLT, List.length_cons, List.length_nil, eq_self, true_or, or_true, and_self, implies_true, not_true_eq_false, not_false_eq_true, false_implies, true_implies, forall_const, st_aloadx, st_goto_wx, st_iconstx, st_if_icmpx, st_iloadx, st_in1, st_in2, st_in3, st_istorex, st_return_x, am_put, am_nlg, cx_Model_riddles, kb_Model_riddles_0, oo_82, jx_Model_riddles_37, kb_Model_riddles_37, jx_Model_riddles_43, kb_Model_riddles_43, oa_82]
  refine m_empties (fun F0 t0 s0 => ?_)
  simp only [ax0, ex_cons, am_get, upz_at, true_and, and_true, Nat.reduceAdd, Nat.reduceLeDiff, Nat.reduceEqDiff, Nat.reduceSub, Int32.reduceOfInt, Int32.reduceAdd, Int32.reduceMul, Int32.reduceSub, ↓reduceIte, Int32.reduceLT, Int32.reduceLE, Int32.reduceToNatClampNeg, Nat.reduceMod, Nat.reduceLT, List.length_cons, List.length_nil, eq_self, true_or, or_true, and_self, implies_true, not_true_eq_false, not_false_eq_true, false_implies, true_implies, forall_const, st_aloadx, st_goto_wx, st_iconstx, st_in1, st_istorex, am_put, am_nlg, kb_Model_riddles_0, oo_82, oa_82]
  have key : ∀ j k F1, k + j = y.1 → MT F1 (rzT y.2 k) → Pm F F1 → (∀ i, i ≠ 31 → F1 82 i = F 82 i) → am_W kc_Model_riddles (am_cl (d + 3)) Q 6 [.ref 82, .int m, .int (nI k)] [] (ov h F1 J V) := by
    intro j
    induction j with
    | zero =>
      intro k F1 ek g1 g2 g3
      have ek : k = y.1 := ek
      subst ek
      rw [jx_Model_riddles_6]
      simp only [ax0, ex_cons, am_get, upz_at, true_and, and_true, Nat.reduceAdd, Nat.reduceLeDiff, Nat.reduceEqDiff, Nat.reduceSub, Int32.reduceOfInt, Int32.reduceAdd, Int32.reduceMul, Int32.reduceSub, ↓reduceIte, Int32.reduceLT, Int32.reduceLE, Int32.reduceToNatClampNeg, Nat.reduceMod, Nat.reduceLT, List.length_cons, List.length_nil, eq_self, true_or, or_true, and_self, implies_true, not_true_eq_false, not_false_eq_true, false_implies, true_implies, forall_const, st_aloadx, st_getfieldx, st_gotox, st_ialoadx, st_iconstx, st_if_icmpx, st_iincx, st_iloadx, st_in2, st_in3, st_return_x, am_put, am_nlg, kb_Model_riddles_6, og_82_43, og_82_42, oo_82, jx_Model_riddles_37, kb_Model_riddles_37, oa_82, oa_107, or_107, g3 43 (by decide), h43, (nk_le (by omega) (by omega) : (nI (y.1) ≤ nI (y.1)) = (y.1 ≤ y.1)), Nat.le_refl]
      rcases hm with ⟨e1, e2⟩ | ⟨k, e1, e3, e2⟩
      · subst e1; subst e2
        simp only [ax0, ex_cons, am_get, upz_at, true_and, and_true, Nat.reduceAdd, Nat.reduceLeDiff, Nat.reduceEqDiff, Nat.reduceSub, Int32.reduceOfInt, Int32.reduceAdd, Int32.reduceMul, Int32.reduceSub, ↓reduceIte, Int32.reduceLT, Int32.reduceLE, Int32.reduceToNatClampNeg, Nat.reduceMod, Nat.reduceLT, List.length_cons, List.length_nil, eq_self, true_or, or_true, and_self, implies_true, not_true_eq_false, not_false_eq_true, false_implies, true_implies, forall_const, st_iconstx, st_if_icmpx, st_iloadx, st_return_x, jx_Model_riddles_37, kb_Model_riddles_37]
        exact K F1 g1 g2 g3
      · subst e1; subst e2
        simp only [ax0, ex_cons, am_get, upz_at, true_and, and_true, Nat.reduceAdd, Nat.reduceLeDiff, Nat.reduceEqDiff, Nat.reduceSub, Int32.reduceOfInt, Int32.reduceAdd, Int32.reduceMul, Int32.reduceSub, ↓reduceIte, Int32.reduceLT, Int32.reduceLE, Int32.reduceToNatClampNeg, Nat.reduceMod, Nat.reduceLT, List.length_cons, List.length_nil, eq_self, true_or, or_true, and_self, implies_true, not_true_eq_false, not_false_eq_true, false_implies, true_implies, forall_const, st_aloadx, st_iconstx, st_if_icmpx, st_iloadx, st_in2, st_in3, st_return_x, jx_Model_riddles_37, kb_Model_riddles_37, jx_Model_riddles_43, kb_Model_riddles_43, oo_82, oa_82, nI_neg1 (show k < 2147483648 by omega)]
        refine m_simple e3 (fun F2 c2 s2 => ?_)
        simp only [ax0, ex_cons, am_get, upz_at, true_and, and_true, Nat.reduceAdd, Nat.reduceLeDiff, Nat.reduceEqDiff, Nat.reduceSub, Int32.reduceOfInt, Int32.reduceAdd, Int32.reduceMul, Int32.reduceSub, ↓reduceIte, Int32.reduceLT, Int32.reduceLE, Int32.reduceToNatClampNeg, Nat.reduceMod, Nat.reduceLT, List.length_cons, List.length_nil, eq_self, true_or, or_true, and_self, implies_true, not_true_eq_false, not_false_eq_true, false_implies, true_implies, forall_const, st_aloadx, st_iconstx, st_iloadx, st_in2, st_in3, st_return_x, jx_Model_riddles_43, kb_Model_riddles_43, oo_82, oa_82]
        have := rzT_len y.2 y.1
        refine m_tellsOf (s := 13) (g1.s13 s2) (by omega) (by decide) c2 (ex := false) (fun F3 t3 s3 => ?_)
        simp only [ax0, ex_cons, am_get, upz_at, true_and, and_true, Nat.reduceAdd, Nat.reduceLeDiff, Nat.reduceEqDiff, Nat.reduceSub, Int32.reduceOfInt, Int32.reduceAdd, Int32.reduceMul, Int32.reduceSub, ↓reduceIte, Int32.reduceLT, Int32.reduceLE, Int32.reduceToNatClampNeg, Nat.reduceMod, Nat.reduceLT, List.length_cons, List.length_nil, eq_self, true_or, or_true, and_self, implies_true, not_true_eq_false, not_false_eq_true, false_implies, true_implies, forall_const, st_aloadx, st_iconstx, st_iloadx, st_in2, st_in3, st_return_x, jx_Model_riddles_43, kb_Model_riddles_43, oo_82, oa_82]
        exact K F3 t3 ((g2.tr s2.pm).tr s3.pm) (fun i hi => by rw [s3.2 i hi, s2.1 82 (by decide) (by decide)]; exact g3 i hi)
    | succ j ih =>
      intro k F1 ek g1 g2 g3
      obtain ⟨f1, f2⟩ := hf k (by omega)
      have h107 : F1 107 k = nI (y.2 k) := by rw [g2.2.1 107 (by decide)]; exact f1
      rw [jx_Model_riddles_6]
      simp only [ax0, ex_cons, am_get, upz_at, true_and, and_true, Nat.reduceAdd, Nat.reduceLeDiff, Nat.reduceEqDiff, Nat.reduceSub, Int32.reduceOfInt, Int32.reduceAdd, Int32.reduceMul, Int32.reduceSub, ↓reduceIte, Int32.reduceLT, Int32.reduceLE, Int32.reduceToNatClampNeg, Nat.reduceMod, Nat.reduceLT, List.length_cons, List.length_nil, eq_self, true_or, or_true, and_self, implies_true, not_true_eq_false, not_false_eq_true, false_implies, true_implies, forall_const, st_aloadx, st_getfieldx, st_gotox, st_ialoadx, st_iconstx, st_if_icmpx, st_iincx, st_iloadx, st_in2, st_in3, am_put, am_nlg, kb_Model_riddles_6, og_82_43, og_82_42, oo_82, oa_82, oa_107, or_107, g3 43 (by decide), h43, (nk_le (by omega) (by omega) : (nI (y.1) ≤ nI (k)) = (y.1 ≤ k)), show ¬ y.1 ≤ k by omega, nk_neg (show k < 2147483648 by omega), nk_cl (show k < 2147483648 by omega), show k < 12 by omega, h107]
      refine m_simple f2 (fun F2 c2 s2 => ?_)
      simp only [ax0, ex_cons, am_get, upz_at, true_and, and_true, Nat.reduceAdd, Nat.reduceLeDiff, Nat.reduceEqDiff, Nat.reduceSub, Int32.reduceOfInt, Int32.reduceAdd, Int32.reduceMul, Int32.reduceSub, ↓reduceIte, Int32.reduceLT, Int32.reduceLE, Int32.reduceToNatClampNeg, Nat.reduceMod, Nat.reduceLT, List.length_cons, List.length_nil, eq_self, true_or, or_true, and_self, implies_true, not_true_eq_false, not_false_eq_true, false_implies, true_implies, forall_const, st_aloadx, st_getfieldx, st_gotox, st_ialoadx, st_iconstx, st_if_icmpx, st_iincx, st_iloadx, st_in2, st_in3, am_put, am_nlg, kb_Model_riddles_6, og_82_43, og_82_42, oo_82, oa_82, oa_107, or_107]
      have := rzT_len y.2 k
      refine m_tellsOf (s := 13) (g1.s13 s2) (by omega) (by decide) c2 (ex := false) (fun F3 t3 s3 => ?_)
      simp only [ax0, ex_cons, am_get, upz_at, true_and, and_true, Nat.reduceAdd, Nat.reduceLeDiff, Nat.reduceEqDiff, Nat.reduceSub, Int32.reduceOfInt, Int32.reduceAdd, Int32.reduceMul, Int32.reduceSub, ↓reduceIte, Int32.reduceLT, Int32.reduceLE, Int32.reduceToNatClampNeg, Nat.reduceMod, Nat.reduceLT, List.length_cons, List.length_nil, eq_self, true_or, or_true, and_self, implies_true, not_true_eq_false, not_false_eq_true, false_implies, true_implies, forall_const, st_aloadx, st_getfieldx, st_gotox, st_ialoadx, st_iconstx, st_if_icmpx, st_iincx, st_iloadx, st_in2, st_in3, am_put, am_nlg, kb_Model_riddles_6, og_82_43, og_82_42, oo_82, oa_82, oa_107, or_107, nk_succ]
      exact ih (k + 1) F3 (by omega) t3 ((g2.tr s2.pm).tr s3.pm) (fun i hi => by rw [s3.2 i hi, s2.1 82 (by decide) (by decide)]; exact g3 i hi)
  exact key y.1 0 F0 (by omega) t0 s0.pm (fun i hi => s0.2 i hi)
set_option maxRecDepth 20000 in
theorem m_followsMood {T : tT} (hT : MT F T) (hl : T.2.1.length ≤ 40) {m : Nat} (hm : m < 4) (K : ∀ F', MT F' T → Pm F F' → (∀ i, F' 82 i = F 82 i) → Q (some (.int (nI (cn (fun k => isNu (64 * m + k) && fo T (clR (rS (64 * m + k))) false) 64)))) (ov h F' J V)) : am_cl (d + 5) 286 [.ref 82, .int (nI m)] (ov h F J V) Q := by
  simp only [ax0, ex_cons, am_get, upz_at, true_and, and_true, Nat.reduceAdd, Nat.reduceLeDiff, Nat.reduceEqDiff, Nat.reduceSub, Int32.reduceOfInt, Int32.reduceAdd, Int32.reduceMul, Int32.reduceSub, ↓reduceIte, Int32.reduceLT, Int32.reduceLE, Int32.reduceToNatClampNeg, Nat.reduceMod, Nat.reduceLT, List.length_cons, List.length_nil, eq_self, true_or, or_true, and_self, implies_true, not_true_eq_false, not_false_eq_true, false_implies, true_implies, forall_const, st_aloadx, st_gotox, st_goto_wx, st_iaddx, st_iconstx, st_ifCondx, st_iincx, st_iloadx, st_imulx, st_in2, st_in3, st_ireturnx, st_istorex, am_put, am_nlg, cx_Model_followsMood, kb_Model_followsMood_0, jx_Model_followsMood_28, kb_Model_followsMood_28, oo_82, jx_Model_followsMood_48, kb_Model_followsMood_48, jx_Model_followsMood_49, kb_Model_followsMood_49, jx_Model_followsMood_51, kb_Model_followsMood_51, jx_Model_followsMood_57, kb_Model_followsMood_57, oa_82, show (64 : Int32) * nI (m) = nI (64 * (m)) from nk_mul (64) (m)]
  have key : ∀ j k F1, k + j = 64 → MT F1 T → Pm F F1 → (∀ i, F1 82 i = F 82 i) → am_W kc_Model_followsMood (am_cl (d + 4)) Q 7 [.ref 82, .int (nI m), .int (nI (cn (fun k => isNu (64 * m + k) && fo T (clR (rS (64 * m + k))) false) k)), .int (nI (64 * m + k))] [] (ov h F1 J V) := by
    intro j
    induction j with
    | zero =>
      intro k F1 ek g1 g2 g3
      have ek : k = 64 := ek
      subst ek
      rw [jx_Model_followsMood_7]
      simp only [ax0, ex_cons, am_get, upz_at, true_and, and_true, Nat.reduceAdd, Nat.reduceLeDiff, Nat.reduceEqDiff, Nat.reduceSub, Int32.reduceOfInt, Int32.reduceAdd, Int32.reduceMul, Int32.reduceSub, ↓reduceIte, Int32.reduceLT, Int32.reduceLE, Int32.reduceToNatClampNeg, Nat.reduceMod, Nat.reduceLT, List.length_cons, List.length_nil, eq_self, true_or, or_true, and_self, implies_true, not_true_eq_false, not_false_eq_true, false_implies, true_implies, forall_const, st_gotox, st_iaddx, st_iconstx, st_ifCondx, st_if_icmpx, st_iloadx, st_imulx, st_st1, st_ireturnx, kb_Model_followsMood_7, jx_Model_followsMood_57, kb_Model_followsMood_57, show (64 : Int32) * nI (m) = nI (64 * (m)) from nk_mul (64) (m), show nI (64 * m) + (64 : Int32) = nI (64 * m + 64) from nk_add (64 * m) (64), (nk_le (by omega) (by omega) : (nI (64 * m + 64) ≤ nI (64 * m + 64)) = (64 * m + 64 ≤ 64 * m + 64)), Nat.le_refl]
      exact K F1 g1 g2 g3
    | succ j ih =>
      intro k F1 ek g1 g2 g3
      have ih2 : ∀ F2 (b : Bool), (isNu (64 * m + k) && fo T (clR (rS (64 * m + k))) false) = b → MT F2 T → Pm F F2 → (∀ i, F2 82 i = F 82 i) → am_W kc_Model_followsMood (am_cl (d + 4)) Q 7 [.ref 82, .int (nI m), .int (nI (cn (fun k => isNu (64 * m + k) && fo T (clR (rS (64 * m + k))) false) k + (if b then 1 else 0))), .int (nI (64 * m + k + 1))] [] (ov h F2 J V) := by
        intro F2 b hb q1 q2 q3
        have := ih (k + 1) F2 (by omega) q1 q2 q3
        unfold cn at this
        rw [hb] at this
        exact this
      rw [jx_Model_followsMood_7]
      simp only [ax0, ex_cons, am_get, upz_at, true_and, and_true, Nat.reduceAdd, Nat.reduceLeDiff, Nat.reduceEqDiff, Nat.reduceSub, Int32.reduceOfInt, Int32.reduceAdd, Int32.reduceMul, Int32.reduceSub, ↓reduceIte, Int32.reduceLT, Int32.reduceLE, Int32.reduceToNatClampNeg, Nat.reduceMod, Nat.reduceLT, List.length_cons, List.length_nil, eq_self, true_or, or_true, and_self, implies_true, not_true_eq_false, not_false_eq_true, false_implies, true_implies, forall_const, st_gotox, st_iaddx, st_iconstx, st_ifCondx, st_if_icmpx, st_iloadx, st_imulx, st_st1, kb_Model_followsMood_7, show (64 : Int32) * nI (m) = nI (64 * (m)) from nk_mul (64) (m), show nI (64 * m) + (64 : Int32) = nI (64 * m + 64) from nk_add (64 * m) (64), (nk_le (by omega) (by omega) : (nI (64 * m + 64) ≤ nI (64 * m + k)) = (64 * m + 64 ≤ 64 * m + k)), show ¬ 64 * m + 64 ≤ 64 * m + k by omega]
      refine m_isNumber (n := 64 * m + k) (by omega) ?_
      simp only [ax0, ex_cons, am_get, upz_at, true_and, and_true, Nat.reduceAdd, Nat.reduceLeDiff, Nat.reduceEqDiff, Nat.reduceSub, Int32.reduceOfInt, Int32.reduceAdd, Int32.reduceMul, Int32.reduceSub, ↓reduceIte, Int32.reduceLT, Int32.reduceLE, Int32.reduceToNatClampNeg, Nat.reduceMod, Nat.reduceLT, List.length_cons, List.length_nil, eq_self, true_or, or_true, and_self, implies_true, not_true_eq_false, not_false_eq_true, false_implies, true_implies, forall_const, st_gotox, st_iaddx, st_iconstx, st_ifCondx, st_if_icmpx, st_iincx, st_iloadx, st_imulx, st_st1, am_put, am_nlg, kb_Model_followsMood_7, jx_Model_followsMood_51, kb_Model_followsMood_51, nk_succ]
      refine ifnb (fun e => ?_) (fun e => ?_)
      · simp only [ax0, ex_cons, am_get, upz_at, true_and, and_true, Nat.reduceAdd, Nat.reduceLeDiff, Nat.reduceEqDiff, Nat.reduceSub, Int32.reduceOfInt, Int32.reduceAdd, Int32.reduceMul, Int32.reduceSub, ↓reduceIte, Int32.reduceLT, Int32.reduceLE, Int32.reduceToNatClampNeg, Nat.reduceMod, Nat.reduceLT, List.length_cons, List.length_nil, eq_self, true_or, or_true, and_self, implies_true, not_true_eq_false, not_false_eq_true, false_implies, true_implies, forall_const, st_aloadx, st_gotox, st_iconstx, st_ifCondx, st_iloadx, st_in2, st_in3, jx_Model_followsMood_28, kb_Model_followsMood_28, oo_82, oa_82]
        refine m_simple (n := 64 * m + k) (by omega) (fun F2 c2 s2 => ?_)
        simp only [ax0, ex_cons, am_get, upz_at, true_and, and_true, Nat.reduceAdd, Nat.reduceLeDiff, Nat.reduceEqDiff, Nat.reduceSub, Int32.reduceOfInt, Int32.reduceAdd, Int32.reduceMul, Int32.reduceSub, ↓reduceIte, Int32.reduceLT, Int32.reduceLE, Int32.reduceToNatClampNeg, Nat.reduceMod, Nat.reduceLT, List.length_cons, List.length_nil, eq_self, true_or, or_true, and_self, implies_true, not_true_eq_false, not_false_eq_true, false_implies, true_implies, forall_const, st_aloadx, st_gotox, st_iconstx, st_ifCondx, st_iloadx, st_in2, st_in3, jx_Model_followsMood_28, kb_Model_followsMood_28, oo_82, oa_82]
        refine m_followsOf (s := 13) (g1.s13 s2) hl (by decide) c2 (ex := false) (fun f => ?_)
        have p2 := (g2.tr s2.pm).s100 f
        have t2 := (g1.s13 s2).s100 f
        have z2 : ∀ i, upz F2 100 f 82 i = F 82 i := fun i => by rw [upz_ne _ _ (by decide), s2.1 82 (by decide) (by decide)]; exact g3 i
        generalize upz F2 100 f = F3 at p2 t2 z2 ⊢
        simp only [ax0, ex_cons, am_get, upz_at, true_and, and_true, Nat.reduceAdd, Nat.reduceLeDiff, Nat.reduceEqDiff, Nat.reduceSub, Int32.reduceOfInt, Int32.reduceAdd, Int32.reduceMul, Int32.reduceSub, ↓reduceIte, Int32.reduceLT, Int32.reduceLE, Int32.reduceToNatClampNeg, Nat.reduceMod, Nat.reduceLT, List.length_cons, List.length_nil, eq_self, true_or, or_true, and_self, implies_true, not_true_eq_false, not_false_eq_true, false_implies, true_implies, forall_const, st_aloadx, st_gotox, st_goto_wx, st_iconstx, st_ifCondx, st_iloadx, st_in2, st_in3, jx_Model_followsMood_28, kb_Model_followsMood_28, oo_82, jx_Model_followsMood_48, kb_Model_followsMood_48, oa_82]
        refine ifb (fun e2 => ?_) (fun e2 => ?_)
        · simp only [ax0, ex_cons, am_get, upz_at, true_and, and_true, Nat.reduceAdd, Nat.reduceLeDiff, Nat.reduceEqDiff, Nat.reduceSub, Int32.reduceOfInt, Int32.reduceAdd, Int32.reduceMul, Int32.reduceSub, ↓reduceIte, Int32.reduceLT, Int32.reduceLE, Int32.reduceToNatClampNeg, Nat.reduceMod, Nat.reduceLT, List.length_cons, List.length_nil, eq_self, true_or, or_true, and_self, implies_true, not_true_eq_false, not_false_eq_true, false_implies, true_implies, forall_const, st_gotox, st_goto_wx, st_iaddx, st_iincx, st_istorex, am_put, am_nlg, jx_Model_followsMood_49, kb_Model_followsMood_49, jx_Model_followsMood_51, kb_Model_followsMood_51, nk_succ, Int32.add_zero]
          exact ih2 F3 false (by rw [e, e2]; rfl) t2 p2 z2
        · simp only [ax0, ex_cons, am_get, upz_at, true_and, and_true, Nat.reduceAdd, Nat.reduceLeDiff, Nat.reduceEqDiff, Nat.reduceSub, Int32.reduceOfInt, Int32.reduceAdd, Int32.reduceMul, Int32.reduceSub, ↓reduceIte, Int32.reduceLT, Int32.reduceLE, Int32.reduceToNatClampNeg, Nat.reduceMod, Nat.reduceLT, List.length_cons, List.length_nil, eq_self, true_or, or_true, and_self, implies_true, not_true_eq_false, not_false_eq_true, false_implies, true_implies, forall_const, st_gotox, st_goto_wx, st_iaddx, st_iincx, st_istorex, am_put, am_nlg, jx_Model_followsMood_49, kb_Model_followsMood_49, jx_Model_followsMood_51, kb_Model_followsMood_51, nk_succ]
          exact ih2 F3 true (by rw [e, e2]; rfl) t2 p2 z2
      · exact ih2 F1 false (by rw [e]; rfl) g1 g2 g3
  exact key 64 0 F (by decide) hT Pm.rf (fun _ => rfl)
end MRD
