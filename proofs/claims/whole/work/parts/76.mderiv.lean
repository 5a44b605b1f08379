/-! ===== the model: derives as a whole; derived, by, derive ===== -/
theorem ov_c105 {h : am_H} {F : Nat → Nat → Int32} {J : Nat → Nat → Int64} {V : Nat → Nat → Value} {g : Nat → Int32} (e : ∀ i, i < 256 → F 105 i = g i) : ov h F J V = ov h (upz F 105 g) J V := by
  refine Prod.ext (funext fun b => ?_) rfl
  by_cases hr : 23 ≤ b ∧ b < 108
  · rw [ov_lo hr.1 hr.2, ov_lo hr.1 hr.2]
    by_cases hb : b = 105
    · subst hb
      rw [upz_eq]
      show aI 2 (am_ar 256 (F 105)) = aI 2 (am_ar 256 g)
      rw [am_ar_congr e]
    · rw [upz_ne _ _ hb]
  · rw [ov_hi hr, ov_hi hr]
def rdD (D : dT) : (Nat → Int32) × Nat := rdW D.2.2.2 257 0 (rd0 D D.1)
theorem hasN_nu {D : dT} (hw : ∀ i, i < D.1 → wfR (D.2.1 i)) : ∀ k, k ≤ D.1 → ∀ x, hasN D k x = true → isNu x = true
  | 0, _, x, h => by cases h
  | k + 1, hk, x, h => by
    unfold hasN at h
    rw [Bool.or_eq_true] at h
    rcases h with h | h
    · exact hasN_nu hw k (by omega) x h
    · exact (nuR_num (hw k (by omega)) (of_decide_eq_true h)).2
def byB (ex : Bool) (r : Nat → Int32) (n a : Nat) : Nat → Nat → Option Nat
  | 0, _ => none
  | j + 1, b => if lieB (r b) 0 (r n - 1) && decide (cdd ex a b = nI n) then some b else byB ex r n a j (b + 1)
def byA (ex : Bool) (r : Nat → Int32) (n : Nat) : Nat → Nat → Option (Nat × Nat)
  | 0, _ => none
  | j + 1, a => if lieB (r a) 0 (r n - 1) then (match byB ex r n a 256 0 with
      | some b => some (a, b)
      | none => byA ex r n j (a + 1)) else byA ex r n j (a + 1)
def byO (w : Int32) (o : Option (Nat × Nat)) : Int32 := match o with
  | none => -1
  | some p => if w = 0 then nI p.1 else nI p.2
def aDerived (D : dT) (m s p : Int32) : Int32 := if siB m s p then (rdD D).1 (nuI m s p) else -1
def aBy (D : dT) (m s p w : Int32) : Int32 := if siB m s p && lieB w 0 1 then (if (rdD D).1 (nuI m s p) < 1 then -1 else byO w (byA D.2.2.2 (rdD D).1 (nuI m s p) 256 0)) else -1
def aDerive (D : dT) (w : Int32) : Int32 := if lieB w 0 1 then (if w = 0 then nI (cn (fun k => !decide ((rdD D).1 k = -1)) 256) else nI (rdD D).2) else -1
theorem siB_nI {m s p : Int32} (h : siB m s p = true) : ∃ a b c, m = nI a ∧ s = nI b ∧ p = nI c ∧ a < 4 ∧ b < 8 ∧ c < 8 ∧ nuI m s p = 64 * a + 8 * b + c := by
  unfold siB at h
  rw [Bool.and_eq_true, Bool.and_eq_true, Bool.and_eq_true] at h
  obtain ⟨a, e1, h1, f1⟩ := lie3 h.1.1.1
  obtain ⟨b, e2, h2, f2⟩ := lie7 h.1.1.2
  obtain ⟨c, e3, h3, f3⟩ := lie7 h.1.2
  exact ⟨a, b, c, e1, e2, e3, by omega, by omega, by omega, by unfold nuI; rw [f1, f2, f3]⟩
theorem lie0 {x y : Int32} (h : lieB x 0 y = true) : ¬ x = -1 := by
  rintro rfl
  unfold lieB at h
  rw [Bool.and_eq_true] at h
  exact absurd h.1 (by decide)
section MDA
variable {d : Nat} {h : am_H} {F : Nat → Nat → Int32} {J : Nat → Nat → Int64} {V : Nat → Nat → Value} {Q : am_Q}
set_option maxRecDepth 20000 in
theorem m_derives {D : dT} (hD : MK (F 84) D) (K : ∀ F', Pm F F' → (∀ k, k < 64 → F' 106 k = tbV D.2.2.2 k) → nuV (F' 105) → F' 105 = (rdD D).1 → Q (some (.int (nI (rdD D).2))) (ov h F' J V)) : am_cl (d + 7) 274 [.ref 82] (ov h F J V) Q := by
  simp only [ax0, ex_cons, am_get, upz_at, true_and, and_true, Nat.reduceAdd, Nat.reduceLeDiff, Nat.reduceEqDiff, Nat.reduceSub, Int32.reduceOfInt, Int32.reduceAdd, Int32.reduceMul, Int32.reduceSub, ↓reduceIte, Int32.reduceLT, Int32.reduceLE, Int32.reduceToNatClampNeg, Nat.reduceMod, Nat.reduceLT, List.length_cons, List.length_nil, eq_self, true_or, or_true, and_self, implies_true, not_true_eq_false, not_false_eq_true, false_implies, true_implies, forall_const, st_aload, st_getfield, st_goto, st_goto_w, st_iadd, st_iaload, st_iastore, st_iconst, st_if_icmp, st_iinc, st_iload, st_imul, st_in3, st_irem, st_ireturn, st_istore, st_isub, am_put, am_nlg, cx_Model_derives, kb_Model_derives_0, jx_Model_derives_32, kb_Model_derives_32, jx_Model_derives_34, kb_Model_derives_34, jx_Model_derives_51, kb_Model_derives_51, jx_Model_derives_53, kb_Model_derives_53, og_82_41, oo_82, jx_Model_derives_75, kb_Model_derives_75, jx_Model_derives_97, kb_Model_derives_97, jx_Model_derives_127, kb_Model_derives_127, jx_Model_derives_133, kb_Model_derives_133, jx_Model_derives_178, kb_Model_derives_178, jx_Model_derives_211, kb_Model_derives_211, jx_Model_derives_215, kb_Model_derives_215, jx_Model_derives_222, kb_Model_derives_222, og_82_40, jx_Model_derives_244, kb_Model_derives_244, jx_Model_derives_254, kb_Model_derives_254, jx_Model_derives_260, kb_Model_derives_260, jx_Model_derives_266, kb_Model_derives_266, jx_Model_derives_269, kb_Model_derives_269, oa_82, oa_105, or_105, ow_105, os_105, oa_106, or_106, ow_106, os_106]
  refine m_tableLoop hD (fun F1 v2 v3 v4 p1 t1 => ?_)
  simp only [ax0, ex_cons, am_get, upz_at, true_and, and_true, Nat.reduceAdd, Nat.reduceLeDiff, Nat.reduceEqDiff, Nat.reduceSub, Int32.reduceOfInt, Int32.reduceAdd, Int32.reduceMul, Int32.reduceSub, ↓reduceIte, Int32.reduceLT, Int32.reduceLE, Int32.reduceToNatClampNeg, Nat.reduceMod, Nat.reduceLT, List.length_cons, List.length_nil, eq_self, true_or, or_true, and_self, implies_true, not_true_eq_false, not_false_eq_true, false_implies, true_implies, forall_const, st_goto_w, st_iconst, st_istore, am_put, am_nlg, jx_Model_derives_75, kb_Model_derives_75]
  refine m_rdInit (fun F2 p2 t2 r2 => ?_)
  simp only [ax0, ex_cons, am_get, upz_at, true_and, and_true, Nat.reduceAdd, Nat.reduceLeDiff, Nat.reduceEqDiff, Nat.reduceSub, Int32.reduceOfInt, Int32.reduceAdd, Int32.reduceMul, Int32.reduceSub, ↓reduceIte, Int32.reduceLT, Int32.reduceLE, Int32.reduceToNatClampNeg, Nat.reduceMod, Nat.reduceLT, List.length_cons, List.length_nil, eq_self, true_or, or_true, and_self, implies_true, not_true_eq_false, not_false_eq_true, false_implies, true_implies, forall_const, st_goto_w, st_iconst, st_istore, am_put, am_nlg, jx_Model_derives_97, kb_Model_derives_97]
  have hD2 := hD.pm (p1.tr p2)
  refine m_rdSlips hD2 r2 (fun F3 p3 t3 r3 => ?_)
  simp only [ax0, ex_cons, am_get, upz_at, true_and, and_true, Nat.reduceAdd, Nat.reduceLeDiff, Nat.reduceEqDiff, Nat.reduceSub, Int32.reduceOfInt, Int32.reduceAdd, Int32.reduceMul, Int32.reduceSub, ↓reduceIte, Int32.reduceLT, Int32.reduceLE, Int32.reduceToNatClampNeg, Nat.reduceMod, Nat.reduceLT, List.length_cons, List.length_nil, eq_self, true_or, or_true, and_self, implies_true, not_true_eq_false, not_false_eq_true, false_implies, true_implies, forall_const, st_goto_w, st_iconst, st_istore, am_put, am_nlg, jx_Model_derives_133, kb_Model_derives_133]
  rw [ov_c105 r3]
  have nv : nuV (rd0 D D.1) := fun x hx hne => by
    unfold rd0 at hne
    cases e : hasN D D.1 x
    · rw [e] at hne; exact absurd rfl hne
    · exact hasN_nu (fun i hi => (hD.2.2.2.2.1 i hi).1) D.1 (Nat.le_refl _) x e
  have e5 : upz F3 105 (rd0 D D.1) 105 = rd0 D D.1 := upz_eq _ _ _
  have hcn := cnM_le (rd0 D D.1) 256
  refine m_rdW (F := upz F3 105 (rd0 D D.1)) (ex := D.2.2.2) (fun k hk => ?_) 257 0 (upz F3 105 (rd0 D D.1)) _ _ _ (by rw [e5]; omega) (by decide) Pm.rf rfl (by rw [e5]; exact nv) (fun F4 p4 t4 n4 r4 => ?_)
  · rw [upz_ne _ _ (by decide), t3, t2]; exact t1 k hk
  · rw [e5] at r4 ⊢
    refine K F4 (((p1.tr p2).tr (p3.s105 _)).tr p4) (fun k hk => ?_) n4 r4
    rw [t4, upz_ne _ _ (by decide), t3, t2]; exact t1 k hk
set_option maxRecDepth 20000 in
theorem mp_derived {D : dT} (hD : MK (F 84) D) {x y z : Int32} (K : ∀ F', Pm F F' → Q (some (.int (aDerived D x y z))) (ov h F' J V)) : am_cl (d + 8) 276 [.ref 82, .int x, .int y, .int z] (ov h F J V) Q := by
  simp only [ax0, ex_cons, am_get, upz_at, true_and, and_true, Nat.reduceAdd, Nat.reduceLeDiff, Nat.reduceEqDiff, Nat.reduceSub, Int32.reduceOfInt, Int32.reduceAdd, Int32.reduceMul, Int32.reduceSub, ↓reduceIte, Int32.reduceLT, Int32.reduceLE, Int32.reduceToNatClampNeg, Nat.reduceMod, Nat.reduceLT, List.length_cons, List.length_nil, eq_self, true_or, or_true, and_self, implies_true, not_true_eq_false, not_false_eq_true, false_implies, true_implies, forall_const, st_iconst, st_ifCond, st_iload, st_st3, st_ireturn, kb_Model_derived_0, cx_Model_derived]
  refine m_isSimple ?_
  unfold aDerived at K
  simp only [ax0, ex_cons, am_get, upz_at, true_and, and_true, Nat.reduceAdd, Nat.reduceLeDiff, Nat.reduceEqDiff, Nat.reduceSub, Int32.reduceOfInt, Int32.reduceAdd, Int32.reduceMul, Int32.reduceSub, ↓reduceIte, Int32.reduceLT, Int32.reduceLE, Int32.reduceToNatClampNeg, Nat.reduceMod, Nat.reduceLT, List.length_cons, List.length_nil, eq_self, true_or, or_true, and_self, implies_true, not_true_eq_false, not_false_eq_true, false_implies, true_implies, forall_const, st_iconst, st_ifCond, st_iload, st_st3, st_ireturn, kb_Model_derived_0]
  refine ifnb (fun e => ?_) (fun e => ?_)
  · rw [e, if_pos rfl] at K
    obtain ⟨a, b, c, e1, e2, e3, h1, h2, h3, e4⟩ := siB_nI e
    rw [e4] at K
    subst e1; subst e2; subst e3
    simp only [ax0, ex_cons, am_get, upz_at, true_and, and_true, Nat.reduceAdd, Nat.reduceLeDiff, Nat.reduceEqDiff, Nat.reduceSub, Int32.reduceOfInt, Int32.reduceAdd, Int32.reduceMul, Int32.reduceSub, ↓reduceIte, Int32.reduceLT, Int32.reduceLE, Int32.reduceToNatClampNeg, Nat.reduceMod, Nat.reduceLT, List.length_cons, List.length_nil, eq_self, true_or, or_true, and_self, implies_true, not_true_eq_false, not_false_eq_true, false_implies, true_implies, forall_const, st_aload, st_getfield, st_iadd, st_iaload, st_iconst, st_iload, st_imul, st_in1, st_ireturn, st_pop, jx_Model_derived_11, kb_Model_derived_11, oo_82, og_82_40, oa_82, oa_105, or_105]
    refine m_derives hD (fun F1 p1 t1 n1 r1 => ?_)
    simp only [ax0, ex_cons, am_get, upz_at, true_and, and_true, Nat.reduceAdd, Nat.reduceLeDiff, Nat.reduceEqDiff, Nat.reduceSub, Int32.reduceOfInt, Int32.reduceAdd, Int32.reduceMul, Int32.reduceSub, ↓reduceIte, Int32.reduceLT, Int32.reduceLE, Int32.reduceToNatClampNeg, Nat.reduceMod, Nat.reduceLT, List.length_cons, List.length_nil, eq_self, true_or, or_true, and_self, implies_true, not_true_eq_false, not_false_eq_true, false_implies, true_implies, forall_const, st_aload, st_getfield, st_iadd, st_iaload, st_iconst, st_iload, st_imul, st_in1, st_ireturn, st_pop, jx_Model_derived_11, kb_Model_derived_11, oo_82, og_82_40, oa_82, oa_105, or_105, show (64 : Int32) * nI (a) = nI (64 * (a)) from nk_mul (64) (a), show (8 : Int32) * nI (b) = nI (8 * (b)) from nk_mul (8) (b), nk_add, nk_neg (show 64 * a + 8 * b + c < 2147483648 by omega), nk_cl (show 64 * a + 8 * b + c < 2147483648 by omega), show 64 * a + 8 * b + c < 256 by omega, r1]
    exact K F1 p1
  · rw [e, if_neg Bool.false_ne_true] at K
    exact K F Pm.rf
set_option maxRecDepth 20000 in
theorem mp_derive {D : dT} (hD : MK (F 84) D) {x : Int32} (K : ∀ F', Pm F F' → Q (some (.int (aDerive D x))) (ov h F' J V)) : am_cl (d + 8) 278 [.ref 82, .int x] (ov h F J V) Q := by
  simp only [ax0, ex_cons, am_get, upz_at, true_and, and_true, Nat.reduceAdd, Nat.reduceLeDiff, Nat.reduceEqDiff, Nat.reduceSub, Int32.reduceOfInt, Int32.reduceAdd, Int32.reduceMul, Int32.reduceSub, ↓reduceIte, Int32.reduceLT, Int32.reduceLE, Int32.reduceToNatClampNeg, Nat.reduceMod, Nat.reduceLT, List.length_cons, List.length_nil, eq_self, true_or, or_true, and_self, implies_true, not_true_eq_false, not_false_eq_true, false_implies, true_implies, forall_const, st_iconst, st_ifCond, st_iload, st_st3, st_ireturn, kb_Model_derive_0, cx_Model_derive]
  refine m_lies ?_
  unfold aDerive at K
  simp only [ax0, ex_cons, am_get, upz_at, true_and, and_true, Nat.reduceAdd, Nat.reduceLeDiff, Nat.reduceEqDiff, Nat.reduceSub, Int32.reduceOfInt, Int32.reduceAdd, Int32.reduceMul, Int32.reduceSub, ↓reduceIte, Int32.reduceLT, Int32.reduceLE, Int32.reduceToNatClampNeg, Nat.reduceMod, Nat.reduceLT, List.length_cons, List.length_nil, eq_self, true_or, or_true, and_self, implies_true, not_true_eq_false, not_false_eq_true, false_implies, true_implies, forall_const, st_iconst, st_ifCond, st_iload, st_st3, st_ireturn, kb_Model_derive_0]
  refine ifnb (fun e => ?_) (fun e => ?_)
  · rw [e, if_pos rfl] at K
    simp only [ax0, ex_cons, am_get, upz_at, true_and, and_true, Nat.reduceAdd, Nat.reduceLeDiff, Nat.reduceEqDiff, Nat.reduceSub, Int32.reduceOfInt, Int32.reduceAdd, Int32.reduceMul, Int32.reduceSub, ↓reduceIte, Int32.reduceLT, Int32.reduceLE, Int32.reduceToNatClampNeg, Nat.reduceMod, Nat.reduceLT, List.length_cons, List.length_nil, eq_self, true_or, or_true, and_self, implies_true, not_true_eq_false, not_false_eq_true, false_implies, true_implies, forall_const, st_aload, st_goto_w, st_iconst, st_in1, st_istore, am_put, am_nlg, jx_Model_derive_11, kb_Model_derive_11, oo_82, oa_82]
    refine m_derives hD (fun F1 p1 t1 n1 r1 => ?_)
    simp only [ax0, ex_cons, am_get, upz_at, true_and, and_true, Nat.reduceAdd, Nat.reduceLeDiff, Nat.reduceEqDiff, Nat.reduceSub, Int32.reduceOfInt, Int32.reduceAdd, Int32.reduceMul, Int32.reduceSub, ↓reduceIte, Int32.reduceLT, Int32.reduceLE, Int32.reduceToNatClampNeg, Nat.reduceMod, Nat.reduceLT, List.length_cons, List.length_nil, eq_self, true_or, or_true, and_self, implies_true, not_true_eq_false, not_false_eq_true, false_implies, true_implies, forall_const, st_aload, st_goto_w, st_iconst, st_in1, st_istore, am_put, am_nlg, jx_Model_derive_11, kb_Model_derive_11, oo_82, oa_82]
    have K := K F1 p1
    refine am_iter 256 (fun k => [.ref 82, .int x, .int (nI (rdD D).2), .int (nI (cn (fun k => !decide ((rdD D).1 k = -1)) k)), .int (nI k)]) (fun _ => ov h F1 J V) (fun _ => True) (fun k hk hI go => ?_) (fun hI => ?_) 0 (by decide) trivial
    · have go := go trivial
      rw [jx_Model_derive_21]
      simp only [ax0, ex_cons, am_get, upz_at, true_and, and_true, Nat.reduceAdd, Nat.reduceLeDiff, Nat.reduceEqDiff, Nat.reduceSub, Int32.reduceOfInt, Int32.reduceAdd, Int32.reduceMul, Int32.reduceSub, ↓reduceIte, Int32.reduceLT, Int32.reduceLE, Int32.reduceToNatClampNeg, Nat.reduceMod, Nat.reduceLT, List.length_cons, List.length_nil, eq_self, true_or, or_true, and_self, implies_true, not_true_eq_false, not_false_eq_true, false_implies, true_implies, forall_const, st_aload, st_getfield, st_goto, st_goto_w, st_iadd, st_iaload, st_iconst, st_if_icmp, st_iinc, st_iload, st_istore, am_put, am_nlg, kb_Model_derive_21, og_82_40, jx_Model_derive_45, kb_Model_derive_45, jx_Model_derive_46, kb_Model_derive_46, oa_82, oa_105, or_105, show ((256 : Int32) ≤ nI (k)) = (256 ≤ k) from nk_le (a := 256) (b := k) (by omega) (by omega), show ¬ 256 ≤ k by omega, nk_neg (show k < 2147483648 by omega), nk_cl (show k < 2147483648 by omega), hk, r1, nk_succ]
      unfold cn at go
      refine And.intro (fun q => ?_) (fun q => ?_)
      · rw [decide_eq_false q] at go
        exact go
      · have q := Classical.not_not.mp q
        rw [decide_eq_true q] at go
        simp only [Int32.add_zero]
        exact go
    · rw [jx_Model_derive_21]
      simp only [ax0, ex_cons, am_get, upz_at, true_and, and_true, Nat.reduceAdd, Nat.reduceLeDiff, Nat.reduceEqDiff, Nat.reduceSub, Int32.reduceOfInt, Int32.reduceAdd, Int32.reduceMul, Int32.reduceSub, ↓reduceIte, Int32.reduceLT, Int32.reduceLE, Int32.reduceToNatClampNeg, Nat.reduceMod, Nat.reduceLT, List.length_cons, List.length_nil, eq_self, true_or, or_true, and_self, implies_true, not_true_eq_false, not_false_eq_true, false_implies, true_implies, forall_const, st_aload, st_getfield, st_goto, st_goto_w, st_iaload, st_iconst, st_ifCond, st_if_icmp, st_iload, st_ireturn, kb_Model_derive_21, og_82_40, jx_Model_derive_54, kb_Model_derive_54, jx_Model_derive_62, kb_Model_derive_62, jx_Model_derive_63, kb_Model_derive_63, oa_82, oa_105, or_105, show ((256 : Int32) ≤ nI (256)) = (256 ≤ 256) from nk_le (a := 256) (b := 256) (by omega) (by omega)]
      refine And.intro (fun q => ?_) (fun q => ?_)
      · rw [if_neg q] at K; exact K
      · rw [if_pos (Classical.not_not.mp q)] at K; exact K
  · rw [e, if_neg Bool.false_ne_true] at K
    exact K F Pm.rf
end MDA
