/-! ===== the model: concluded, isSimple ===== -/
theorem ccF_or (T : tT) (ex : Bool) (k : Nat) : ∀ j m, ccF T ex k j m = -1 ∨ ∃ i, i < m + j ∧ ccF T ex k j m = nI i
  | 0, _ => Or.inl rfl
  | j + 1, m => by
    unfold ccF
    by_cases e : fN T ex (64 * m + k) = true
    · rw [if_pos e]; exact Or.inr ⟨m, by omega, rfl⟩
    · rw [if_neg e]
      rcases ccF_or T ex k j (m + 1) with z | ⟨i, z1, z2⟩
      · exact Or.inl z
      · exact Or.inr ⟨i, by omega, z2⟩
theorem ccN_or (a b : Nat) (ex : Bool) : ccN a b ex = -1 ∨ ∃ i, i < 4 ∧ ccN a b ex = nI i := by
  unfold ccN
  rcases ccF_or (ccT a b ex) ex (ccK a b) 4 0 with z | ⟨i, z1, z2⟩
  · exact Or.inl z
  · exact Or.inr ⟨i, by omega, z2⟩
def tbA (k : Nat) : Nat := 64 * (k / 4 % 4) + (if k / 16 % 2 = 0 then 17 else 10)
def tbB (k : Nat) : Nat := 64 * (k % 4) + (if k / 16 < 2 then 2 else 16)
def tbV (ex : Bool) (k : Nat) : Int32 := ccN (tbA k) (tbB k) ex
def tbI (a b : Nat) : Nat := 16 * ((fgN a b).toNatClampNeg - 1) + 4 * (a / 64) + b / 64
def cdd (ex : Bool) (a b : Nat) : Int32 := if fgN a b = -1 then -1 else if tbV ex (tbI a b) = -1 then -1 else nI (64 * (tbV ex (tbI a b)).toNatClampNeg + ccK a b)
theorem fgN_nI {a b : Nat} (h : ¬ fgN a b = -1) : ∃ f, fgN a b = nI f ∧ 1 ≤ f ∧ f ≤ 4 := by
  unfold fgN at h ⊢
  rcases fg_or (a / 8 % 8) (a % 8) (b / 8 % 8) (b % 8) with e | e | e | e | e
  · exact absurd e h
  · exact ⟨1, e, by decide, by decide⟩
  · exact ⟨2, e, by decide, by decide⟩
  · exact ⟨3, e, by decide, by decide⟩
  · exact ⟨4, e, by decide, by decide⟩
def siB (m s p : Int32) : Bool := lieB m 0 3 && lieB s 0 7 && lieB p 0 7 && !decide (s = p)
section MPP
variable {d : Nat} {h : am_H} {F : Nat → Nat → Int32} {J : Nat → Nat → Int64} {V : Nat → Nat → Value} {Q : am_Q}
set_option maxRecDepth 20000 in
theorem m_isSimple {h : am_H} {m s p : Int32} (K : Q (some (.int (b2i (siB m s p)))) h) : am_cl (d + 3) 275 [.int m, .int s, .int p] h Q := by
  unfold siB at K
  simp only [ax0, ex_cons, am_get, upz_at, true_and, and_true, Nat.reduceAdd, Nat.reduceLeDiff, Nat.reduceEqDiff, Nat.reduceSub, Int32.reduceOfInt, Int32.reduceAdd, Int32.reduceMul, Int32.reduceSub, ↓reduceIte, Int32.reduceLT, Int32.reduceLE, Int32.reduceToNatClampNeg, Nat.reduceMod, Nat.reduceLT, List.length_cons, List.length_nil, eq_self, true_or, or_true, and_self, implies_true, not_true_eq_false, not_false_eq_true, false_implies, true_implies, forall_const, st_goto, st_iconst, st_ifCond, st_if_icmp, st_iload, st_st1, st_st3, kb_Model_isSimple_0, cx_Model_isSimple]
  refine m_lies ?_
  simp only [ax0, ex_cons, am_get, upz_at, true_and, and_true, Nat.reduceAdd, Nat.reduceLeDiff, Nat.reduceEqDiff, Nat.reduceSub, Int32.reduceOfInt, Int32.reduceAdd, Int32.reduceMul, Int32.reduceSub, ↓reduceIte, Int32.reduceLT, Int32.reduceLE, Int32.reduceToNatClampNeg, Nat.reduceMod, Nat.reduceLT, List.length_cons, List.length_nil, eq_self, true_or, or_true, and_self, implies_true, not_true_eq_false, not_false_eq_true, false_implies, true_implies, forall_const, st_freturn, st_goto, st_goto_w, st_iconst, st_ifCond, st_if_icmp, st_iload, st_st1, st_st3, kb_Model_isSimple_0, jx_Model_isSimple_32, kb_Model_isSimple_32, jx_Model_isSimple_33, kb_Model_isSimple_33]
  refine ifb (fun e => ?_) (fun e => ?_)
  · rw [e] at K; exact K
  refine m_isKind ?_
  simp only [ax0, ex_cons, am_get, upz_at, true_and, and_true, Nat.reduceAdd, Nat.reduceLeDiff, Nat.reduceEqDiff, Nat.reduceSub, Int32.reduceOfInt, Int32.reduceAdd, Int32.reduceMul, Int32.reduceSub, ↓reduceIte, Int32.reduceLT, Int32.reduceLE, Int32.reduceToNatClampNeg, Nat.reduceMod, Nat.reduceLT, List.length_cons, List.length_nil, eq_self, true_or, or_true, and_self, implies_true, not_true_eq_false, not_false_eq_true, false_implies, true_implies, forall_const, st_freturn, st_goto, st_goto_w, st_iconst, st_ifCond, st_if_icmp, st_iload, st_st1, st_st3, kb_Model_isSimple_0, jx_Model_isSimple_32, kb_Model_isSimple_32, jx_Model_isSimple_33, kb_Model_isSimple_33]
  refine ifb (fun e2 => ?_) (fun e2 => ?_)
  · rw [e, e2] at K; exact K
  refine m_isKind ?_
  simp only [ax0, ex_cons, am_get, upz_at, true_and, and_true, Nat.reduceAdd, Nat.reduceLeDiff, Nat.reduceEqDiff, Nat.reduceSub, Int32.reduceOfInt, Int32.reduceAdd, Int32.reduceMul, Int32.reduceSub, ↓reduceIte, Int32.reduceLT, Int32.reduceLE, Int32.reduceToNatClampNeg, Nat.reduceMod, Nat.reduceLT, List.length_cons, List.length_nil, eq_self, true_or, or_true, and_self, implies_true, not_true_eq_false, not_false_eq_true, false_implies, true_implies, forall_const, st_freturn, st_goto, st_goto_w, st_iconst, st_ifCond, st_if_icmp, st_iload, st_st1, st_st3, kb_Model_isSimple_0, jx_Model_isSimple_32, kb_Model_isSimple_32, jx_Model_isSimple_33, kb_Model_isSimple_33]
  refine ifb (fun e3 => ?_) (fun e3 => ?_)
  · rw [e, e2, e3] at K; exact K
  rw [e, e2, e3] at K
  refine And.intro (fun q => ?_) (fun q => ?_)
  · rw [decide_eq_true q] at K; exact K
  · rw [decide_eq_false q] at K; exact K
set_option maxRecDepth 20000 in
theorem m_concluded {ex : Bool} (ht : ∀ k, k < 64 → F 106 k = tbV ex k) {a b : Nat} (ha : a < 256) (hb : b < 256) (na : isNu a = true) (nb : isNu b = true) (K : Q (some (.int (cdd ex a b))) (ov h F J V)) : am_cl (d + 4) 273 [.ref 82, .int (nI a), .int (nI b)] (ov h F J V) Q := by
  simp only [ax0, ex_cons, am_get, upz_at, true_and, and_true, Nat.reduceAdd, Nat.reduceLeDiff, Nat.reduceEqDiff, Nat.reduceSub, Int32.reduceOfInt, Int32.reduceAdd, Int32.reduceMul, Int32.reduceSub, ↓reduceIte, Int32.reduceLT, Int32.reduceLE, Int32.reduceToNatClampNeg, Nat.reduceMod, Nat.reduceLT, List.length_cons, List.length_nil, eq_self, true_or, or_true, and_self, implies_true, not_true_eq_false, not_false_eq_true, false_implies, true_implies, forall_const, st_iconst, st_if_icmp, st_iload, st_st2, st_ireturn, st_istore, am_put, am_nlg, kb_Model_concluded_0, cx_Model_concluded]
  refine m_figure ha hb na nb ?_
  simp only [ax0, ex_cons, am_get, upz_at, true_and, and_true, Nat.reduceAdd, Nat.reduceLeDiff, Nat.reduceEqDiff, Nat.reduceSub, Int32.reduceOfInt, Int32.reduceAdd, Int32.reduceMul, Int32.reduceSub, ↓reduceIte, Int32.reduceLT, Int32.reduceLE, Int32.reduceToNatClampNeg, Nat.reduceMod, Nat.reduceLT, List.length_cons, List.length_nil, eq_self, true_or, or_true, and_self, implies_true, not_true_eq_false, not_false_eq_true, false_implies, true_implies, forall_const, st_iconst, st_if_icmp, st_iload, st_st2, st_ireturn, st_istore, am_put, am_nlg, kb_Model_concluded_0]
  unfold cdd at K
  refine And.intro (fun q => ?_) (fun q => ?_)
  · rw [if_neg q] at K
    obtain ⟨f, f1, f2, f3⟩ := fgN_nI q
    have ei : tbI a b = 16 * (f - 1) + 4 * (a / 64) + b / 64 := by unfold tbI; rw [f1, nk_cl (by omega)]
    rw [ei] at K
    have hi : 16 * (f - 1) + 4 * (a / 64) + b / 64 < 64 := by omega
    have i1 : nI f - 1 = nI (f - 1) := nk_sub (b := 1) f2
    rw [f1]
    have hm := mdN_lt a b
    have ho1 := otN_lt b (mdN a b)
    have ho2 := otN_lt a (mdN a b)
    simp only [ax0, ex_cons, am_get, upz_at, true_and, and_true, Nat.reduceAdd, Nat.reduceLeDiff, Nat.reduceEqDiff, Nat.reduceSub, Int32.reduceOfInt, Int32.reduceAdd, Int32.reduceMul, Int32.reduceSub, ↓reduceIte, Int32.reduceLT, Int32.reduceLE, Int32.reduceToNatClampNeg, Nat.reduceMod, Nat.reduceLT, List.length_cons, List.length_nil, eq_self, true_or, or_true, and_self, implies_true, not_true_eq_false, not_false_eq_true, false_implies, true_implies, forall_const, st_aload, st_getfield, st_goto, st_iadd, st_iaload, st_iconst, st_idiv, st_if_icmp, st_iload, st_imul, st_st2, st_istore, st_isub, am_put, am_nlg, jx_Model_concluded_13, kb_Model_concluded_13, og_82_41, oa_82, oa_106, or_106, i1, show (16 : Int32) * nI (f - 1) = nI (16 * (f - 1)) from nk_mul (16) (f - 1), show ((64 : Int32) = 0) = False from ax_f (by decide), show nI (a) / (64 : Int32) = nI ((a) / 64) from nk_div (a := a) (b := 64) (by omega) (by decide) (by decide), show nI (a) - nI ((a) / 64) * (64 : Int32) = nI ((a) % 64) from nk_rm (a := a) (b := 64) (by omega) (by decide) (by decide), show ((64 : Int32) = 0) = False from ax_f (by decide), show nI (b) / (64 : Int32) = nI ((b) / 64) from nk_div (a := b) (b := 64) (by omega) (by decide) (by decide), show nI (b) - nI ((b) / 64) * (64 : Int32) = nI ((b) % 64) from nk_rm (a := b) (b := 64) (by omega) (by decide) (by decide), show (4 : Int32) * nI (a / 64) = nI (4 * (a / 64)) from nk_mul (4) (a / 64), nk_add (16 * (f - 1)) (4 * (a / 64)), nk_add (16 * (f - 1) + 4 * (a / 64)) (b / 64), nk_neg (show 16 * (f - 1) + 4 * (a / 64) + b / 64 < 2147483648 by omega), nk_cl (show 16 * (f - 1) + 4 * (a / 64) + b / 64 < 2147483648 by omega), hi, ht _ hi]
    refine m_middle ha hb na nb ?_
    simp only [ax0, ex_cons, am_get, upz_at, true_and, and_true, Nat.reduceAdd, Nat.reduceLeDiff, Nat.reduceEqDiff, Nat.reduceSub, Int32.reduceOfInt, Int32.reduceAdd, Int32.reduceMul, Int32.reduceSub, ↓reduceIte, Int32.reduceLT, Int32.reduceLE, Int32.reduceToNatClampNeg, Nat.reduceMod, Nat.reduceLT, List.length_cons, List.length_nil, eq_self, true_or, or_true, and_self, implies_true, not_true_eq_false, not_false_eq_true, false_implies, true_implies, forall_const, st_aload, st_getfield, st_goto, st_iadd, st_iaload, st_iconst, st_idiv, st_if_icmp, st_iload, st_imul, st_st2, st_ireturn, st_istore, st_isub, am_put, am_nlg, jx_Model_concluded_13, kb_Model_concluded_13, og_82_41, jx_Model_concluded_77, kb_Model_concluded_77, oa_82, oa_106, or_106]
    refine And.intro (fun q2 => ?_) (fun q2 => ?_)
    · rw [if_neg q2] at K
      rcases ccN_or (tbA (16 * (f - 1) + 4 * (a / 64) + b / 64)) (tbB (16 * (f - 1) + 4 * (a / 64) + b / 64)) ex with z | ⟨i, z1, z2⟩
      · exact absurd z q2
      · have z3 : tbV ex (16 * (f - 1) + 4 * (a / 64) + b / 64) = nI i := z2
        rw [z3, nk_cl (by omega)] at K
        rw [z3]
        simp only [ax0, ex_cons, am_get, upz_at, true_and, and_true, Nat.reduceAdd, Nat.reduceLeDiff, Nat.reduceEqDiff, Nat.reduceSub, Int32.reduceOfInt, Int32.reduceAdd, Int32.reduceMul, Int32.reduceSub, ↓reduceIte, Int32.reduceLT, Int32.reduceLE, Int32.reduceToNatClampNeg, Nat.reduceMod, Nat.reduceLT, List.length_cons, List.length_nil, eq_self, true_or, or_true, and_self, implies_true, not_true_eq_false, not_false_eq_true, false_implies, true_implies, forall_const, st_goto_w, st_iadd, st_iconst, st_iload, st_imul, st_st2, jx_Model_concluded_55, kb_Model_concluded_55, show (64 : Int32) * nI (i) = nI (64 * (i)) from nk_mul (64) (i)]
        refine m_otherOf hb hm ?_
        simp only [ax0, ex_cons, am_get, upz_at, true_and, and_true, Nat.reduceAdd, Nat.reduceLeDiff, Nat.reduceEqDiff, Nat.reduceSub, Int32.reduceOfInt, Int32.reduceAdd, Int32.reduceMul, Int32.reduceSub, ↓reduceIte, Int32.reduceLT, Int32.reduceLE, Int32.reduceToNatClampNeg, Nat.reduceMod, Nat.reduceLT, List.length_cons, List.length_nil, eq_self, true_or, or_true, and_self, implies_true, not_true_eq_false, not_false_eq_true, false_implies, true_implies, forall_const, st_goto_w, st_iadd, st_iconst, st_iload, st_imul, st_st2, jx_Model_concluded_55, kb_Model_concluded_55, show (8 : Int32) * nI (otN b (mdN a b)) = nI (8 * (otN b (mdN a b))) from nk_mul (8) (otN b (mdN a b)), nk_add (64 * i) (8 * otN b (mdN a b))]
        refine m_otherOf ha hm ?_
        have ek : 64 * i + 8 * otN b (mdN a b) + otN a (mdN a b) = 64 * i + ccK a b := by unfold ccK; omega
        simp only [ax0, ex_cons, am_get, upz_at, true_and, and_true, Nat.reduceAdd, Nat.reduceLeDiff, Nat.reduceEqDiff, Nat.reduceSub, Int32.reduceOfInt, Int32.reduceAdd, Int32.reduceMul, Int32.reduceSub, ↓reduceIte, Int32.reduceLT, Int32.reduceLE, Int32.reduceToNatClampNeg, Nat.reduceMod, Nat.reduceLT, List.length_cons, List.length_nil, eq_self, true_or, or_true, and_self, implies_true, not_true_eq_false, not_false_eq_true, false_implies, true_implies, forall_const, st_goto_w, st_iadd, st_iconst, st_iload, st_imul, st_st2, st_ireturn, jx_Model_concluded_55, kb_Model_concluded_55, jx_Model_concluded_77, kb_Model_concluded_77, nk_add (64 * i + 8 * otN b (mdN a b)) (otN a (mdN a b)), ek]
        exact K
    · rw [if_pos (Decidable.not_not.mp q2)] at K
      exact K
  · rw [if_pos (Decidable.not_not.mp q)] at K
    exact K
end MPP
