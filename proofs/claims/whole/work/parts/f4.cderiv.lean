/-! ===== the class: a round of derivation ===== -/
def pD (r : Nat → Int32) (x : Nat) : Bool := !decide (r x = -1)
theorem pD_t {r : Nat → Int32} {x : Nat} : pD r x = true ↔ ¬ r x = -1 := by
  unfold pD
  rw [Bool.not_eq_true', decide_eq_false_iff_not]
theorem cn_t {p : Nat → Bool} {k : Nat} (h : p k = true) : cn p (k + 1) = cn p k + 1 := by
  show cn p k + (if p k then 1 else 0) = _
  rw [h]; rfl
theorem cn_f {p : Nat → Bool} {k : Nat} (h : p k = false) : cn p (k + 1) = cn p k := by
  show cn p k + (if p k then 1 else 0) = _
  rw [h]; rfl
theorem cn_mn {p : Nat → Bool} {a b : Nat} (h : a ≤ b) : cn p a ≤ cn p b := by
  rw [show b = a + (b - a) by omega, cn_add]
  omega
theorem cn_lt {p : Nat → Bool} {a b : Nat} (ha : p a = true) (h : a < b) : cn p a < cn p b := by
  have := cn_mn (p := p) (show a + 1 ≤ b by omega)
  rw [cn_t ha] at this
  omega
/-- the i-th one -/
theorem cn_at {p : Nat → Bool} : ∀ {n i : Nat}, i < cn p n → ∃ k, k < n ∧ p k = true ∧ cn p k = i
  | 0, i, h => absurd h (Nat.not_lt_zero i)
  | n + 1, i, h => by
    cases e : p n
    · rw [cn_f e] at h
      obtain ⟨k, h1, h2, h3⟩ := cn_at h
      exact ⟨k, by omega, h2, h3⟩
    · rw [cn_t e] at h
      by_cases z : i = cn p n
      · exact ⟨n, by omega, e, z.symm⟩
      · obtain ⟨k, h1, h2, h3⟩ := cn_at (p := p) (n := n) (i := i) (by omega)
        exact ⟨k, by omega, h2, h3⟩
/-- what lists them -/
def lsD (p : Nat → Bool) (f : Nat → Int32) : Prop := ∀ k, k < 256 → p k = true → f (cn p k) = nI k
section CDV
variable {d : Nat} {h : am_H} {F : Nat → Nat → Int32} {J : Nat → Nat → Int64} {V : Nat → Nat → Value} {Q : am_Q}
set_option maxRecDepth 20000 in
theorem c_listAhead (K : ∀ F', (∀ x, x ≠ 79 → F' x = F x) → lsD (pD (F 76)) (F' 79) → Q (some (.int (nI (cn (pD (F 76)) 256)))) (ov h F' J V)) : am_cl (d + 1) 90 [.ref 75] (ov h F J V) Q := by
  simp only [isO_c, ax0, ex_cons, am_get, upz_at, true_and, and_true, Nat.reduceAdd, Nat.reduceLeDiff, Nat.reduceEqDiff, Nat.reduceSub, Int32.reduceOfInt, Int32.reduceAdd, Int32.reduceMul, Int32.reduceSub, ↓reduceIte, Int32.reduceLT, Int32.reduceLE, Int32.reduceToNatClampNeg, Nat.reduceMod, Nat.reduceLT, List.length_cons, List.length_nil, eq_self, true_or, or_true, and_self, implies_true, not_true_eq_false, not_false_eq_true, false_implies, true_implies, forall_const, st_goto_wx, st_iconstx, st_istorex, am_put, am_nlg, kb_Derivation_listAhead_0, cx_Derivation_listAhead]
  have key : ∀ j k F1, k + j = 256 → (∀ x, x ≠ 79 → F1 x = F x) → (∀ i, i < k → pD (F 76) i = true → F1 79 (cn (pD (F 76)) i) = nI i) → am_W kc_Derivation_listAhead (am_cl d) Q 4 [.ref 75, .int (nI (cn (pD (F 76)) k)), .int (nI k)] [] (ov h F1 J V) := by
    intro j
    induction j with
    | zero =>
      intro k F1 ek c1 t1
      have ek : k = 256 := ek
      subst ek
      rw [jx_Derivation_listAhead_4]
      simp only [isO_c, ax0, ex_cons, am_get, upz_at, true_and, and_true, Nat.reduceAdd, Nat.reduceLeDiff, Nat.reduceEqDiff, Nat.reduceSub, Int32.reduceOfInt, Int32.reduceAdd, Int32.reduceMul, Int32.reduceSub, ↓reduceIte, Int32.reduceLT, Int32.reduceLE, Int32.reduceToNatClampNeg, Nat.reduceMod, Nat.reduceLT, List.length_cons, List.length_nil, eq_self, true_or, or_true, and_self, implies_true, not_true_eq_false, not_false_eq_true, false_implies, true_implies, forall_const, st_aloadx, st_getfieldx, st_goto_wx, st_ialoadx, st_iastorex, st_iconstx, st_if_icmpx, st_iincx, st_iloadx, st_ireturnx, am_put, am_nlg, kb_Derivation_listAhead_4, og_75_1, og_75_4, jx_Derivation_listAhead_37, kb_Derivation_listAhead_37, oa_75, oa_76, or_76, ow_76, os_76, oa_79, or_79, ow_79, os_79, show ((256 : Int32) ≤ nI (256)) = (256 ≤ 256) from nk_le (a := 256) (b := 256) (by omega) (by omega), Nat.le_refl]
      exact K F1 c1 t1
    | succ j ih =>
      intro k F1 ek c1 t1
      have e76 : F1 76 = F 76 := c1 76 (by decide)
      have hc : cn (pD (F 76)) k ≤ k := cn_le _ _
      have ih := ih (k + 1)
      rw [jx_Derivation_listAhead_4]
      simp only [isO_c, ax0, ex_cons, am_get, upz_at, true_and, and_true, Nat.reduceAdd, Nat.reduceLeDiff, Nat.reduceEqDiff, Nat.reduceSub, Int32.reduceOfInt, Int32.reduceAdd, Int32.reduceMul, Int32.reduceSub, ↓reduceIte, Int32.reduceLT, Int32.reduceLE, Int32.reduceToNatClampNeg, Nat.reduceMod, Nat.reduceLT, List.length_cons, List.length_nil, eq_self, true_or, or_true, and_self, implies_true, not_true_eq_false, not_false_eq_true, false_implies, true_implies, forall_const, st_aloadx, st_getfieldx, st_gotox, st_goto_wx, st_ialoadx, st_iastorex, st_iconstx, st_if_icmpx, st_iincx, st_iloadx, am_put, am_nlg, kb_Derivation_listAhead_4, og_75_1, og_75_4, jx_Derivation_listAhead_31, kb_Derivation_listAhead_31, oa_75, oa_76, or_76, ow_76, os_76, oa_79, or_79, ow_79, os_79, show ((256 : Int32) ≤ nI (k)) = (256 ≤ k) from nk_le (a := 256) (b := k) (by omega) (by omega), show ¬ 256 ≤ k by omega, nk_neg (show k < 2147483648 by omega), nk_cl (show k < 2147483648 by omega), nk_neg (show cn (pD (F 76)) k < 2147483648 by omega), nk_cl (show cn (pD (F 76)) k < 2147483648 by omega), show k < 256 by omega, show cn (pD (F 76)) k < 256 by omega, e76, nk_succ]
      refine ⟨fun w => ?_, fun w => ?_⟩
      · have pk : pD (F 76) k = false := by
          cases z : pD (F 76) k
          · rfl
          · exact absurd w (pD_t.mp z)
        rw [cn_f pk] at ih
        refine ih F1 (by omega) c1 (fun i hi pi => ?_)
        by_cases z : i = k
        · subst z; rw [pk] at pi; cases pi
        · exact t1 i (by omega) pi
      · have pk : pD (F 76) k = true := pD_t.mpr w
        rw [cn_t pk] at ih
        refine ih _ (by omega) (fun x hx => by rw [upz_ne _ _ hx]; exact c1 x hx) (fun i hi pi => ?_)
        rw [upz_eq]
        by_cases z : i = k
        · subst z; rw [upz_eq]
        · have := cn_lt (p := pD (F 76)) pi (show i < k by omega)
          rw [upz_ne _ _ (by omega)]
          exact t1 i (by omega) pi
  exact key 256 0 F rfl (fun _ _ => rfl) (fun i hi => absurd hi (Nat.not_lt_zero i))
set_option maxRecDepth 20000 in
theorem c_addConclusion {ex : Bool} {a b : Nat} {rd : Int32} (ha : a < 256) (hb : b < 256) (na : isNu a = true) (nb : isNu b = true) (hf : ¬ fgN a b = -1) (hJ : SyJ (F 65) a b) (ht : ∀ k, k < 64 → F 66 k = tcV ex k) (K0 : (∀ n, n < 256 → cdd ex a b = nI n → ¬ F 76 n = -1) → Q none (ov h F J V)) (K1 : ∀ F' n, n < 256 → isNu n = true → cdd ex a b = nI n → F 76 n = -1 → F' 76 = upz (F 76) n rd → F' 77 = upz (F 77) n (nI a) → F' 78 = upz (F 78) n (nI b) → F' 75 5 = F 75 5 + 1 → (∀ i, i ≠ 5 → F' 75 i = F 75 i) → (∀ x, x ≠ 75 → x ≠ 76 → x ≠ 77 → x ≠ 78 → F' x = F x) → Q none (ov h F' J V)) : am_cl (d + 3) 89 [.ref 75, .int rd, .ref 65, .int (nI a), .int (nI b)] (ov h F J V) Q := by
  obtain ⟨f, f1, f2, f3⟩ := fgN_nI hf
  have ec := cdd_tc (ex := ex) ha hb f1 f2 f3
  simp only [isO_c, ax0, ex_cons, am_get, upz_at, true_and, and_true, Nat.reduceAdd, Nat.reduceLeDiff, Nat.reduceEqDiff, Nat.reduceSub, Int32.reduceOfInt, Int32.reduceAdd, Int32.reduceMul, Int32.reduceSub, ↓reduceIte, Int32.reduceLT, Int32.reduceLE, Int32.reduceToNatClampNeg, Nat.reduceMod, Nat.reduceLT, List.length_cons, List.length_nil, eq_self, true_or, or_true, and_self, implies_true, not_true_eq_false, not_false_eq_true, false_implies, true_implies, forall_const, st_aloadx, st_iconstx, st_if_icmpx, st_iloadx, st_in1, st_istorex, st_return_x, am_put, am_nlg, kb_Derivation_addConclusion_0, oo_65, oa_65, cx_Derivation_addConclusion]
  refine c_conclude ht ha hb hJ f1 f2 f3 ?_
  obtain ⟨j0, j1, j2, j3, j4, j5⟩ := hJ
  have to := tcV_or ex ((a / 64 * 4 + b / 64) * 4 + (f - 1))
  generalize tcV ex ((a / 64 * 4 + b / 64) * 4 + (f - 1)) = t at ec to
  rcases to with z | ⟨i, hi, z⟩
  · subst z
    rw [if_pos rfl] at ec
    simp only [isO_c, ax0, ex_cons, am_get, upz_at, true_and, and_true, Nat.reduceAdd, Nat.reduceLeDiff, Nat.reduceEqDiff, Nat.reduceSub, Int32.reduceOfInt, Int32.reduceAdd, Int32.reduceMul, Int32.reduceSub, ↓reduceIte, Int32.reduceLT, Int32.reduceLE, Int32.reduceToNatClampNeg, Nat.reduceMod, Nat.reduceLT, List.length_cons, List.length_nil, eq_self, true_or, or_true, and_self, implies_true, not_true_eq_false, not_false_eq_true, false_implies, true_implies, forall_const, st_aloadx, st_iconstx, st_if_icmpx, st_iloadx, st_in1, st_istorex, st_return_x, am_put, am_nlg, kb_Derivation_addConclusion_0, oo_65, oa_65]
    refine K0 (fun n hn e => ?_)
    have := nI_neg1 (b := n) (by omega)
    rw [ec] at e
    exact absurd e.symm (by rw [this]; exact id)
  · subst z
    have zi : ¬ nI i = -1 := by rw [nI_neg1 (by omega)]; exact id
    rw [if_neg zi, nk_cl (by omega)] at ec
    obtain ⟨n1, n2⟩ := isNu_mk (k := i) (n := 64 * i + ccK a b) hi (otN_lt b (mdN a b)) (otN_lt a (mdN a b)) (ot_ne na nb hf) (by unfold ccK; omega)
    have en : (64 : Int32) * nI i + (8 : Int32) * nI (otN b (mdN a b)) + nI (otN a (mdN a b)) = nI (64 * i + ccK a b) := by
      rw [show (64 : Int32) * nI i = nI (64 * i) from nk_mul 64 i, show (8 : Int32) * nI (otN b (mdN a b)) = nI (8 * otN b (mdN a b)) from nk_mul 8 _, nk_add, nk_add]
      congr 1
      unfold ccK
      omega
    generalize 64 * i + ccK a b = n at n1 n2 en ec
    simp only [isO_c, ax0, ex_cons, am_get, upz_at, true_and, and_true, Nat.reduceAdd, Nat.reduceLeDiff, Nat.reduceEqDiff, Nat.reduceSub, Int32.reduceOfInt, Int32.reduceAdd, Int32.reduceMul, Int32.reduceSub, ↓reduceIte, Int32.reduceLT, Int32.reduceLE, Int32.reduceToNatClampNeg, Nat.reduceMod, Nat.reduceLT, List.length_cons, List.length_nil, eq_self, true_or, or_true, and_self, implies_true, not_true_eq_false, not_false_eq_true, false_implies, true_implies, forall_const, st_aloadx, st_dupx, st_dup_1x, st_getfieldx, st_goto_wx, st_iaddx, st_ialoadx, st_iastorex, st_iconstx, st_ifCondx, st_if_icmpx, st_iloadx, st_in1, st_st1, st_st3, st_istorex, st_putfieldx, st_return_x, am_put, am_nlg, kb_Derivation_addConclusion_0, oo_65, jx_Derivation_addConclusion_13, kb_Derivation_addConclusion_13, og_65_4, og_65_5, og_75_1, og_75_2, og_75_3, og_75_5, op_75_5, oa_65, oa_75, os_75, oa_76, or_76, ow_76, os_76, oa_77, or_77, ow_77, os_77, oa_78, or_78, ow_78, os_78, zi, j4, j5]
    simp only [isO_c, ax0, ex_cons, am_get, upz_at, true_and, and_true, Nat.reduceAdd, Nat.reduceLeDiff, Nat.reduceEqDiff, Nat.reduceSub, Int32.reduceOfInt, Int32.reduceAdd, Int32.reduceMul, Int32.reduceSub, ↓reduceIte, Int32.reduceLT, Int32.reduceLE, Int32.reduceToNatClampNeg, Nat.reduceMod, Nat.reduceLT, List.length_cons, List.length_nil, eq_self, true_or, or_true, and_self, implies_true, not_true_eq_false, not_false_eq_true, false_implies, true_implies, forall_const, st_iaddx, st_iconstx, st_iloadx, st_imulx, st_ireturnx, cx_Slips_numberOf, kb_Slips_numberOf_0, en]
    simp only [isO_c, ax0, ex_cons, am_get, upz_at, true_and, and_true, Nat.reduceAdd, Nat.reduceLeDiff, Nat.reduceEqDiff, Nat.reduceSub, Int32.reduceOfInt, Int32.reduceAdd, Int32.reduceMul, Int32.reduceSub, ↓reduceIte, Int32.reduceLT, Int32.reduceLE, Int32.reduceToNatClampNeg, Nat.reduceMod, Nat.reduceLT, List.length_cons, List.length_nil, eq_self, true_or, or_true, and_self, implies_true, not_true_eq_false, not_false_eq_true, false_implies, true_implies, forall_const, st_aloadx, st_dupx, st_dup_1x, st_getfieldx, st_goto_wx, st_iaddx, st_ialoadx, st_iastorex, st_iconstx, st_ifCondx, st_if_icmpx, st_iloadx, st_st1, st_st3, st_istorex, st_putfieldx, am_put, am_nlg, jx_Derivation_addConclusion_13, kb_Derivation_addConclusion_13, og_65_4, og_65_5, og_75_1, og_75_2, og_75_3, og_75_5, op_75_5, oa_65, oa_75, os_75, oa_76, or_76, ow_76, os_76, oa_77, or_77, ow_77, os_77, oa_78, or_78, ow_78, os_78]
    refine c_isSimple n1 ?_
    rw [n2]
    simp only [isO_c, ax0, ex_cons, am_get, upz_at, true_and, and_true, Nat.reduceAdd, Nat.reduceLeDiff, Nat.reduceEqDiff, Nat.reduceSub, Int32.reduceOfInt, Int32.reduceAdd, Int32.reduceMul, Int32.reduceSub, ↓reduceIte, Int32.reduceLT, Int32.reduceLE, Int32.reduceToNatClampNeg, Nat.reduceMod, Nat.reduceLT, List.length_cons, List.length_nil, eq_self, true_or, or_true, and_self, implies_true, not_true_eq_false, not_false_eq_true, false_implies, true_implies, forall_const, st_aloadx, st_dupx, st_dup_1x, st_getfieldx, st_goto_wx, st_iaddx, st_ialoadx, st_iastorex, st_iconstx, st_ifCondx, st_if_icmpx, st_iloadx, st_st1, st_st3, st_istorex, st_putfieldx, st_return_x, am_put, am_nlg, jx_Derivation_addConclusion_13, kb_Derivation_addConclusion_13, og_65_4, og_65_5, og_75_1, og_75_2, og_75_3, og_75_5, op_75_5, jx_Derivation_addConclusion_82, kb_Derivation_addConclusion_82, oa_65, oa_75, os_75, oa_76, or_76, ow_76, os_76, oa_77, or_77, ow_77, os_77, oa_78, or_78, ow_78, os_78, show b2i true = (1 : Int32) from rfl, nk_neg (show n < 2147483648 by omega), nk_cl (show n < 2147483648 by omega), n1]
    refine ⟨fun w => ?_, fun w => ?_⟩
    · refine K0 (fun n' hn e => ?_)
      rw [ec, nk_eq (by omega) (by omega)] at e
      rw [← e]
      exact w
    · have w := Classical.not_not.mp w
      refine K1 _ n n1 n2 ec w ?_ ?_ ?_ ?_ ?_ ?_
      · rw [upz_ne _ _ (by decide), upz_ne _ _ (by decide), upz_ne _ _ (by decide), upz_eq]
      · rw [upz_ne _ _ (by decide), upz_ne _ _ (by decide), upz_eq]
      · rw [upz_ne _ _ (by decide), upz_eq]
      · rw [upz_eq, upz_eq]
      · intro i hi
        rw [upz_eq, upz_ne _ _ hi]
      · intro x x1 x2 x3 x4
        rw [upz_ne _ _ x1, upz_ne _ _ x4, upz_ne _ _ x3, upz_ne _ _ x2]
end CDV
