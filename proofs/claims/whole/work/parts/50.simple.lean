/-! ===== the model: simple sentences ===== -/
def rS (n : Nat) : rT := (if n / 64 = 0 then 1 else if n / 64 = 1 then 2 else 3, decide (n / 64 = 3), 0, .var (n / 8 % 8), .var (n % 8))
theorem rS_wf {n : Nat} (h : n < 256) : wfR (rS n) := by
  refine ⟨?_, fun _ => ⟨Nat.mod_lt _ (by decide), by show (1 : Nat) ≤ 24; decide⟩, ⟨Nat.mod_lt _ (by decide), by show (1 : Nat) ≤ 24; decide⟩, ?_, fun e => ?_⟩
  · unfold isF rS
    dsimp only
    split
    · exact Or.inl rfl
    · split
      · exact Or.inr (Or.inl rfl)
      · exact Or.inr (Or.inr (Or.inl rfl))
  · unfold rC1 rC2
    split
    · show 1 + 1 ≤ 160; decide
    · show 0 + 1 ≤ 160; decide
  · show 0 < 4; decide
theorem rS_c {n : Nat} : rC1 (rS n) = [n / 8 % 8] ∧ rC2 (rS n) = [n % 8] := by
  refine ⟨?_, rfl⟩
  unfold rC1 rS
  dsimp only
  rw [if_pos (by split <;> (try split) <;> decide)]
  rfl
def S13 (F F' : Nat → Nat → Int32) : Prop := (∀ a, a ≠ 84 → a ≠ 94 → F' a = F a) ∧ ∀ i, ¬ (2379 ≤ i ∧ i < 2562) → F' 84 i = F 84 i
section MSI
variable {d : Nat} {h : am_H} {F : Nat → Nat → Int32} {J : Nat → Nat → Int64} {V : Nat → Nat → Value} {Q : am_Q}
theorem Rw_2 {f : Nat → Int32} {k a b : Nat} (h1 : f k = nI a) (h2 : f (k + 1) = nI b) : Rw f k ([a] ++ [b]) := fun i hi => by
  have hi : i < 2 := hi
  rcases (show i = 0 ∨ i = 1 by omega) with e | e <;> subst e
  · exact h1
  · exact h2
set_option maxRecDepth 20000 in
theorem m_simple {n : Nat} (hn : n < 256) (K : ∀ F', CR (F' 84) 13 (clR (rS n)) → S13 F F' → Q none (ov h F' J V)) : am_cl (d + 3) 215 [.ref 82, .int (nI n)] (ov h F J V) Q := by
  have key : ∀ g, RR g 13 (rS n) → (∀ i, ¬ (2379 ≤ i ∧ i < 2562) → g i = F 84 i) → am_cl (d + 2) 212 [.ref 82, .int 13] (ov h (upz F 84 g) J V) (fun r h1 => am_kk (am_ex (am_cl (d + 2)) (am_W kc_Model_simple (am_cl (d + 2)) Q) Q [(.return_, 0)]) [.ref 82, .int (nI n), .int 2379, .int (nI (n / 64))] r [] h1) := by
    intro g hg ho
    refine m_laysSays (s := 13) (by decide) (rS_wf hn) (by rw [upz_eq]; exact hg) (fun G f h1 h2 h3 => ?_)
    simp only [ax0, ex_cons, am_get, upz_at, true_and, and_true, Nat.reduceAdd, Nat.reduceLeDiff, Nat.reduceEqDiff, Nat.reduceSub, Int32.reduceOfInt, Int32.reduceAdd, Int32.reduceMul, Int32.reduceSub, ↓reduceIte, Int32.reduceLT, Int32.reduceLE, Int32.reduceToNatClampNeg, Nat.reduceMod, Nat.reduceLT, List.length_cons, List.length_nil, eq_self, true_or, or_true, and_self, implies_true, not_true_eq_false, not_false_eq_true, false_implies, true_implies, forall_const, st_aload, st_getfield, st_iadd, st_iastore, st_iconst, st_idiv, st_iload, st_in2, st_irem, st_return_, jx_Model_simple_50, kb_Model_simple_50, og_82_2, oo_82, oa_82, oa_84, ow_84, os_84]
    refine K _ (by rw [upz_ne _ _ (by decide), upz_eq]; exact h2) ⟨fun a a1 a2 => by rw [upz_ne _ _ a2, upz_ne _ _ a1, upz_ne _ _ a1], fun i hi => ?_⟩
    rw [upz_ne _ _ (by decide), upz_eq, h3 i (by omega), upz_eq, ho i hi]
  have hq : n / 64 < 4 := by omega
  obtain ⟨q1, q2⟩ := rS_c (n := n)
  have mk : ∀ (g : Nat → Int32) (f0 : Nat) (fl : Bool), g 2379 = nI (rS n).1 → g 2380 = b2i (rS n).2.1 → g 2381 = -1 → g 2382 = 1 → g 2383 = 2 → g 2384 = nI (n / 8 % 8) → g 2385 = nI (n % 8) → RR g 13 (rS n) := by
    intro g f0 fl h0 h1 h2 h3 h4 h5 h6
    refine ⟨h0, h1, ?_, ?_, ?_, ?_⟩
    · rw [if_neg]
      · exact h2
      · unfold rS; dsimp only; split <;> (try split) <;> decide
    · rw [q1]; exact h3
    · rw [q1, q2]; exact h4
    · rw [q1, q2]; exact Rw_2 h5 h6
  rcases (show n / 64 = 0 ∨ n / 64 = 1 ∨ n / 64 = 2 ∨ n / 64 = 3 by omega) with e | e | e | e
  all_goals
    simp only [ax0, ex_cons, am_get, upz_at, true_and, and_true, Nat.reduceAdd, Nat.reduceLeDiff, Nat.reduceEqDiff, Nat.reduceSub, Int32.reduceOfInt, Int32.reduceAdd, Int32.reduceMul, Int32.reduceSub, ↓reduceIte, Int32.reduceLT, Int32.reduceLE, Int32.reduceToNatClampNeg, Nat.reduceMod, Nat.reduceLT, List.length_cons, List.length_nil, eq_self, true_or, or_true, and_self, implies_true, not_true_eq_false, not_false_eq_true, false_implies, true_implies, forall_const, st_aload, st_getfield, st_goto, st_goto_w, st_iadd, st_iastore, st_iconst, st_idiv, st_ifCond, st_if_icmp, st_iload, st_istore, am_put, am_nlg, kb_Model_simple_0, og_82_2, jx_Model_simple_22, kb_Model_simple_22, jx_Model_simple_31, kb_Model_simple_31, jx_Model_simple_32, kb_Model_simple_32, jx_Model_simple_49, kb_Model_simple_49, oa_82, oa_84, ow_84, os_84, cx_Model_simple, show ((64 : Int32) = 0) = False from ax_f (by decide), show nI (n) / (64 : Int32) = nI (n / 64) from nk_div (a := n) (b := 64) (by omega) (by decide) (by decide), show nI (n) - nI (n / 64) * (64 : Int32) = nI (n % 64) from nk_rm (a := n) (b := 64) (by omega) (by decide) (by decide), show nI (n / 64) = _ from congrArg nI e, show nI 0 = (0 : Int32) from rfl, show nI 1 = (1 : Int32) from rfl, show nI 2 = (2 : Int32) from rfl, show nI 3 = (3 : Int32) from rfl, upz_upd]
    simp only [ax0, ex_cons, am_get, upz_at, true_and, and_true, Nat.reduceAdd, Nat.reduceLeDiff, Nat.reduceEqDiff, Nat.reduceSub, Int32.reduceOfInt, Int32.reduceAdd, Int32.reduceMul, Int32.reduceSub, ↓reduceIte, Int32.reduceLT, Int32.reduceLE, Int32.reduceToNatClampNeg, Nat.reduceMod, Nat.reduceLT, List.length_cons, List.length_nil, eq_self, true_or, or_true, and_self, implies_true, not_true_eq_false, not_false_eq_true, false_implies, true_implies, forall_const, st_aload, st_getfield, st_iadd, st_iastore, st_iconst, st_idiv, st_iload, st_in2, st_irem, st_return_, jx_Model_simple_50, kb_Model_simple_50, og_82_2, oo_82, oa_82, oa_84, ow_84, os_84, show ((8 : Int32) = 0) = False from ax_f (by decide), show nI (n) / (8 : Int32) = nI (n / 8) from nk_div (a := n) (b := 8) (by omega) (by decide) (by decide), show nI (n) - nI (n / 8) * (8 : Int32) = nI (n % 8) from nk_rm (a := n) (b := 8) (by omega) (by decide) (by decide), show ((8 : Int32) = 0) = False from ax_f (by decide), show nI (n / 8) / (8 : Int32) = nI (n / 8 / 8) from nk_div (a := n / 8) (b := 8) (by omega) (by decide) (by decide), show nI (n / 8) - nI (n / 8 / 8) * (8 : Int32) = nI (n / 8 % 8) from nk_rm (a := n / 8) (b := 8) (by omega) (by decide) (by decide), upz_upd]
    rw [e] at key
    refine key _ (mk _ 0 false ?_ ?_ ?_ ?_ ?_ ?_ ?_) (fun i hi => ?_)
    · unfold rS; rw [e]; simp only [upz_at, Nat.reduceEqDiff, ↓reduceIte]; rfl
    · unfold rS; rw [e]; simp only [upz_at, Nat.reduceEqDiff, ↓reduceIte]; rfl
    · simp only [upz_at, Nat.reduceEqDiff, ↓reduceIte]
    · simp only [upz_at, Nat.reduceEqDiff, ↓reduceIte]
    · simp only [upz_at, Nat.reduceEqDiff, ↓reduceIte]
    · simp only [upz_at, Nat.reduceEqDiff, ↓reduceIte]
    · simp only [upz_at, Nat.reduceEqDiff, ↓reduceIte]
    · rw [upz_ne _ _ (by omega), upz_ne _ _ (by omega), upz_ne _ _ (by omega), upz_ne _ _ (by omega), upz_ne _ _ (by omega), upz_ne _ _ (by omega), upz_ne _ _ (by omega)]
/-- a simple sentence's number, by its row -/
def nuR (R : rT) : Option Nat := if R.1 < 9 ∧ (rC1 R).length = 1 ∧ (rC2 R).length = 1 ∧ (rC1 R).getD 0 0 ≠ (rC2 R).getD 0 0 then some (if R.1 = 1 then 8 * (rC1 R).getD 0 0 + (rC2 R).getD 0 0 else if R.1 = 2 then 64 + 8 * (rC1 R).getD 0 0 + (rC2 R).getD 0 0 else if R.1 = 3 then (if R.2.1 then 192 else 128) + 8 * (rC1 R).getD 0 0 + (rC2 R).getD 0 0 else 8 * (rC2 R).getD 0 0 + (rC1 R).getD 0 0) else none
def oI (o : Option Nat) : Int32 := match o with
  | none => -1
  | some n => nI n
end MSI
