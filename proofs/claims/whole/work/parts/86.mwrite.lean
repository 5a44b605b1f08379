/-! ===== the model: starts, writes, begins ===== -/
theorem nk_sb {a : Nat} (h : 1 ≤ a) : nI a - 1 = nI (a - 1) := nk_sub (b := 1) h
def SPt (f : Nat → Int32) : Int.Internal.Linear.Expr → Nat → Prop
  | .var _, o => f o = nI o
  | .neg a, o => SPt f a o ∧ f (o + (cdT a).length) = nI o
  | .sub a b, o => SPt f a o ∧ SPt f b (o + (cdT a).length) ∧ f (o + (cdT a).length + (cdT b).length) = nI o
  | .add a b, o => SPt f a o ∧ SPt f b (o + (cdT a).length) ∧ f (o + (cdT a).length + (cdT b).length) = nI o
  | _, _ => False
theorem cl_neg (a : Int.Internal.Linear.Expr) : (cdT (.neg a)).length = (cdT a).length + 1 := by show (cdT a ++ [8]).length = _; simp
theorem cl_sub (a b : Int.Internal.Linear.Expr) : (cdT (.sub a b)).length = (cdT a).length + (cdT b).length + 1 := by show (cdT a ++ cdT b ++ [9]).length = _; simp; omega
theorem cl_add (a b : Int.Internal.Linear.Expr) : (cdT (.add a b)).length = (cdT a).length + (cdT b).length + 1 := by show (cdT a ++ cdT b ++ [10]).length = _; simp; omega
theorem SPt.cg {f g : Nat → Int32} {t : Int.Internal.Linear.Expr} : ∀ {o : Nat}, SPt f t o → (∀ i, o ≤ i → i < o + (cdT t).length → g i = f i) → SPt g t o := by
  induction t with
  | var i => intro o h e; show g o = nI o; rw [e o (Nat.le_refl _) (by show o < o + 1; omega)]; exact h
  | neg a ih =>
    intro o h e
    rw [cl_neg] at e
    exact ⟨ih h.1 (fun i h1 h2 => e i h1 (by omega)), by rw [e _ (by omega) (by omega)]; exact h.2⟩
  | sub a b iha ihb =>
    intro o h e
    rw [cl_sub] at e
    exact ⟨iha h.1 (fun i h1 h2 => e i h1 (by omega)), ihb h.2.1 (fun i h1 h2 => e i (by omega) (by omega)), by rw [e _ (by omega) (by omega)]; exact h.2.2⟩
  | add a b iha ihb =>
    intro o h e
    rw [cl_add] at e
    exact ⟨iha h.1 (fun i h1 h2 => e i h1 (by omega)), ihb h.2.1 (fun i h1 h2 => e i (by omega) (by omega)), by rw [e _ (by omega) (by omega)]; exact h.2.2⟩
  | num _ => intro o h; exact h.elim
  | mulL _ _ _ => intro o h; exact h.elim
  | mulR _ _ _ => intro o h; exact h.elim
theorem SPt.last {f : Nat → Int32} {t : Int.Internal.Linear.Expr} {o : Nat} (h : SPt f t o) : f (o + (cdT t).length - 1) = nI o := by
  cases t with
  | var i => exact h
  | neg a => rw [cl_neg, show o + ((cdT a).length + 1) - 1 = o + (cdT a).length by omega]; exact h.2
  | sub a b => rw [cl_sub, show o + ((cdT a).length + (cdT b).length + 1) - 1 = o + (cdT a).length + (cdT b).length by omega]; exact h.2.2
  | add a b => rw [cl_add, show o + ((cdT a).length + (cdT b).length + 1) - 1 = o + (cdT a).length + (cdT b).length by omega]; exact h.2.2
  | num _ => exact h.elim
  | mulL _ _ => exact h.elim
  | mulR _ _ => exact h.elim
def opC : Int.Internal.Linear.Expr → Nat
  | .var i => i
  | .neg _ => 8
  | .sub _ _ => 9
  | _ => 10
theorem Rw.last {f : Nat → Int32} {k : Nat} {t : Int.Internal.Linear.Expr} (hw : wfT t) (h : Rw f k (cdT t)) : f (k + (cdT t).length - 1) = nI (opC t) := by
  cases t with
  | var i => exact h.one
  | neg a =>
    have h : Rw f k (cdT a ++ [8]) := h
    rw [cl_neg, show k + ((cdT a).length + 1) - 1 = k + (cdT a).length by omega]
    exact h.r.one
  | sub a b =>
    have h : Rw f k (cdT a ++ cdT b ++ [9]) := h
    have := h.r.one
    rw [List.length_append] at this
    rw [cl_sub, show k + ((cdT a).length + (cdT b).length + 1) - 1 = k + ((cdT a).length + (cdT b).length) by omega]
    exact this
  | add a b =>
    have h : Rw f k (cdT a ++ cdT b ++ [10]) := h
    have := h.r.one
    rw [List.length_append] at this
    rw [cl_add, show k + ((cdT a).length + (cdT b).length + 1) - 1 = k + ((cdT a).length + (cdT b).length) by omega]
    exact this
  | num _ => exact hw.elim
  | mulL _ _ => exact hw.elim
  | mulR _ _ => exact hw.elim
section MWR
variable {d : Nat} {h : am_H} {F : Nat → Nat → Int32} {J : Nat → Nat → Int64} {V : Nat → Nat → Value} {Q : am_Q}
set_option maxRecDepth 20000 in
theorem m_ls {fr to_ : Nat} (hto : to_ ≤ 2698) (t : Int.Internal.Linear.Expr) : ∀ (o : Nat) (f : Nat → Int32) (v4 v5 : Value), wfT t → Rw (F 84) (fr + o) (cdT t) → fr + o + (cdT t).length ≤ to_ → o + (cdT t).length ≤ 260 →
    (∀ (f' : Nat → Int32) (v4 v5 : Value), (∀ i, i < o → f' i = f i) → SPt f' t o → am_W kc_Model_laysStarts (am_cl d) Q 2 [.ref 82, .int (nI fr), .int (nI to_), .int (nI (fr + o + (cdT t).length)), v4, v5] [] (ov h (upz F 96 f') J V)) →
    am_W kc_Model_laysStarts (am_cl d) Q 2 [.ref 82, .int (nI fr), .int (nI to_), .int (nI (fr + o)), v4, v5] [] (ov h (upz F 96 f) J V) := by
  induction t with
  | var i0 =>
    intro o f v4 v5 hw hc hk ho K
    obtain ⟨i, hi⟩ : ∃ n : Nat, n = i0 := ⟨i0, rfl⟩
    subst hi
    have hw : i < 8 := hw
    have hk : fr + o + 1 ≤ to_ := hk
    have ho : o + 1 ≤ 260 := ho
    have hci := hc.one
    have K1 := K (upz f o (nI o)) (.int (nI o)) (.int (nI i)) (fun j hj => upz_ne _ _ (by omega)) (upz_eq _ _ _)
    have K1 : am_W kc_Model_laysStarts (am_cl d) Q 2 [.ref 82, .int (nI fr), .int (nI to_), .int (nI (fr + o + 1)), .int (nI o), .int (nI i)] [] (ov h (upz F 96 (upz f o (nI o))) J V) := K1
    rw [jx_Model_laysStarts_2]
    simp only [ax0, ex_cons, am_get, upz_at, true_and, and_true, Nat.reduceAdd, Nat.reduceLeDiff, Nat.reduceEqDiff, Nat.reduceSub, Int32.reduceOfInt, Int32.reduceAdd, Int32.reduceMul, Int32.reduceSub, ↓reduceIte, Int32.reduceLT, Int32.reduceLE, Int32.reduceToNatClampNeg, Nat.reduceMod, Nat.reduceLT, List.length_cons, List.length_nil, eq_self, true_or, or_true, and_self, implies_true, not_true_eq_false, not_false_eq_true, false_implies, true_implies, forall_const, st_aloadx, st_getfieldx, st_gotox, st_ialoadx, st_iastorex, st_iconstx, st_if_icmpx, st_iincx, st_iloadx, st_istorex, st_isubx, am_put, am_nlg, kb_Model_laysStarts_2, og_82_2, og_82_26, jx_Model_laysStarts_73, kb_Model_laysStarts_73, oa_82, oa_84, or_84, ow_84, os_84, oa_96, or_96, ow_96, os_96, oa_96, ow_96, os_96, (nk_le (by omega) (by omega) : (nI (to_) ≤ nI (fr + o)) = (to_ ≤ fr + o)), show ¬ to_ ≤ fr + o by omega, nk_subk, nk_neg (show fr + o < 2147483648 by omega), nk_cl (show fr + o < 2147483648 by omega), nk_neg (show o < 2147483648 by omega), nk_cl (show o < 2147483648 by omega), show fr + o < 2698 by omega, hci, show ((8 : Int32) ≤ nI (i)) = (8 ≤ i) from nk_le (a := 8) (b := i) (by omega) (by omega), show ¬ 8 ≤ i by omega, show o < 260 by omega, upz_upd, nk_succ]
    exact K1
  | neg a ih =>
    intro o f v4 v5 hw hc hk ho K
    have hp := cdT_pos (t := a) hw
    have hc : Rw (F 84) (fr + o) (cdT a ++ [8]) := hc
    have h8 := hc.r.one
    rw [cl_neg] at hk ho K
    refine ih o f v4 v5 hw hc.l (by omega) (by omega) (fun f1 v4 v5 g1 g2 => ?_)
    have hl := g2.last
    have K1 := K (upz f1 (o + (cdT a).length) (nI o)) (.int (nI (o + (cdT a).length))) (.int 8) (fun j hj => by rw [upz_ne _ _ (by omega)]; exact g1 j hj) ⟨g2.cg (fun i q1 q2 => upz_ne _ _ (by omega)), upz_eq _ _ _⟩
    clear K ih
    generalize (cdT a).length = n at *
    have K1 : am_W kc_Model_laysStarts (am_cl d) Q 2 [.ref 82, .int (nI fr), .int (nI to_), .int (nI (fr + o + n + 1)), .int (nI (o + n)), .int 8] [] (ov h (upz F 96 (upz f1 (o + n) (nI o))) J V) := K1
    rw [jx_Model_laysStarts_2]
    simp only [ax0, ex_cons, am_get, upz_at, true_and, and_true, Nat.reduceAdd, Nat.reduceLeDiff, Nat.reduceEqDiff, Nat.reduceSub, Int32.reduceOfInt, Int32.reduceAdd, Int32.reduceMul, Int32.reduceSub, ↓reduceIte, Int32.reduceLT, Int32.reduceLE, Int32.reduceToNatClampNeg, Nat.reduceMod, Nat.reduceLT, List.length_cons, List.length_nil, eq_self, true_or, or_true, and_self, implies_true, not_true_eq_false, not_false_eq_true, false_implies, true_implies, forall_const, st_aloadx, st_getfieldx, st_gotox, st_ialoadx, st_iastorex, st_iconstx, st_if_icmpx, st_iincx, st_iloadx, st_istorex, st_isubx, am_put, am_nlg, kb_Model_laysStarts_2, og_82_2, og_82_26, jx_Model_laysStarts_38, kb_Model_laysStarts_38, jx_Model_laysStarts_73, kb_Model_laysStarts_73, oa_82, oa_84, or_84, ow_84, os_84, oa_96, or_96, ow_96, os_96, oa_96, or_96, ow_96, os_96, (nk_le (by omega) (by omega) : (nI (to_) ≤ nI (fr + o + n)) = (to_ ≤ fr + o + n)), show ¬ to_ ≤ fr + o + n by omega, show nI (fr + o + n) - nI fr = nI (o + n) by rw [Nat.add_assoc]; exact nk_subk _ _, nk_neg (show fr + o + n < 2147483648 by omega), nk_cl (show fr + o + n < 2147483648 by omega), nk_neg (show o + n < 2147483648 by omega), nk_cl (show o + n < 2147483648 by omega), nk_neg (show o + n - 1 < 2147483648 by omega), nk_cl (show o + n - 1 < 2147483648 by omega), show fr + o + n < 2698 by omega, show F 84 (fr + o + n) = 8 from h8, show o + n < 260 by omega, nk_sb (show 1 ≤ o + n by omega), show o + n - 1 < 260 by omega, hl, upz_upd, nk_succ]
    exact K1
  | sub a b iha ihb =>
    intro o f v4 v5 hw hc hk ho K
    have hpa := cdT_pos (t := a) hw.1
    have hpb := cdT_pos (t := b) hw.2
    have hc : Rw (F 84) (fr + o) (cdT a ++ cdT b ++ [9]) := hc
    have h9 := hc.r.one
    rw [List.length_append] at h9
    rw [cl_sub] at hk ho K
    refine iha o f v4 v5 hw.1 hc.l.l (by omega) (by omega) (fun f1 v4 v5 g1 g2 => ?_)
    have hcb := hc.l.r
    rw [Nat.add_assoc] at hcb ⊢
    refine ihb (o + (cdT a).length) f1 v4 v5 hw.2 hcb (by omega) (by omega) (fun f2 v4 v5 g3 g4 => ?_)
    have hlb := g4.last
    have hla : f2 (o + (cdT a).length - 1) = nI o := by rw [g3 _ (by omega)]; exact g2.last
    have K1 := K (upz f2 (o + (cdT a).length + (cdT b).length) (nI o)) (.int (nI (o + (cdT a).length + (cdT b).length))) (.int 9) (fun j hj => by rw [upz_ne _ _ (by omega), g3 j (by omega)]; exact g1 j hj) ⟨g2.cg (fun i q1 q2 => by rw [upz_ne _ _ (by omega)]; exact g3 i q2), g4.cg (fun i q1 q2 => upz_ne _ _ (by omega)), upz_eq _ _ _⟩
    clear K iha ihb
    generalize (cdT a).length = n at *
    generalize (cdT b).length = m at *
    rw [show fr + o + (n + m + 1) = fr + (o + n) + m + 1 by omega] at K1
    rw [show fr + o + (n + m) = fr + (o + n) + m by omega] at h9
    rw [jx_Model_laysStarts_2]
    simp only [ax0, ex_cons, am_get, upz_at, true_and, and_true, Nat.reduceAdd, Nat.reduceLeDiff, Nat.reduceEqDiff, Nat.reduceSub, Int32.reduceOfInt, Int32.reduceAdd, Int32.reduceMul, Int32.reduceSub, ↓reduceIte, Int32.reduceLT, Int32.reduceLE, Int32.reduceToNatClampNeg, Nat.reduceMod, Nat.reduceLT, List.length_cons, List.length_nil, eq_self, true_or, or_true, and_self, implies_true, not_true_eq_false, not_false_eq_true, false_implies, true_implies, forall_const, st_aloadx, st_getfieldx, st_gotox, st_goto_wx, st_ialoadx, st_iastorex, st_iconstx, st_if_icmpx, st_iincx, st_iloadx, st_istorex, st_isubx, am_put, am_nlg, kb_Model_laysStarts_2, og_82_2, og_82_26, jx_Model_laysStarts_38, kb_Model_laysStarts_38, jx_Model_laysStarts_57, kb_Model_laysStarts_57, jx_Model_laysStarts_73, kb_Model_laysStarts_73, oa_82, oa_84, or_84, ow_84, os_84, oa_96, or_96, ow_96, os_96, oa_96, or_96, ow_96, os_96, (nk_le (by omega) (by omega) : (nI (to_) ≤ nI (fr + (o + n) + m)) = (to_ ≤ fr + (o + n) + m)), show ¬ to_ ≤ fr + (o + n) + m by omega, show nI (fr + (o + n) + m) - nI fr = nI (o + n + m) by rw [Nat.add_assoc]; exact nk_subk _ _, nk_neg (show fr + (o + n) + m < 2147483648 by omega), nk_cl (show fr + (o + n) + m < 2147483648 by omega), nk_neg (show o + n + m < 2147483648 by omega), nk_cl (show o + n + m < 2147483648 by omega), nk_neg (show o + n + m - 1 < 2147483648 by omega), nk_cl (show o + n + m - 1 < 2147483648 by omega), nk_neg (show o + n - 1 < 2147483648 by omega), nk_cl (show o + n - 1 < 2147483648 by omega), show fr + (o + n) + m < 2698 by omega, show F 84 (fr + (o + n) + m) = 9 from h9, show o + n + m < 260 by omega, nk_sb (show 1 ≤ o + n + m by omega), show o + n + m - 1 < 260 by omega, hlb, nk_sb (show 1 ≤ o + n by omega), show o + n - 1 < 260 by omega, hla, upz_upd, nk_succ]
    exact K1
  | add a b iha ihb =>
    intro o f v4 v5 hw hc hk ho K
    have hpa := cdT_pos (t := a) hw.1
    have hpb := cdT_pos (t := b) hw.2
    have hc : Rw (F 84) (fr + o) (cdT a ++ cdT b ++ [10]) := hc
    have h9 := hc.r.one
    rw [List.length_append] at h9
    rw [cl_add] at hk ho K
    refine iha o f v4 v5 hw.1 hc.l.l (by omega) (by omega) (fun f1 v4 v5 g1 g2 => ?_)
    have hcb := hc.l.r
    rw [Nat.add_assoc] at hcb ⊢
    refine ihb (o + (cdT a).length) f1 v4 v5 hw.2 hcb (by omega) (by omega) (fun f2 v4 v5 g3 g4 => ?_)
    have hlb := g4.last
    have hla : f2 (o + (cdT a).length - 1) = nI o := by rw [g3 _ (by omega)]; exact g2.last
    have K1 := K (upz f2 (o + (cdT a).length + (cdT b).length) (nI o)) (.int (nI (o + (cdT a).length + (cdT b).length))) (.int 10) (fun j hj => by rw [upz_ne _ _ (by omega), g3 j (by omega)]; exact g1 j hj) ⟨g2.cg (fun i q1 q2 => by rw [upz_ne _ _ (by omega)]; exact g3 i q2), g4.cg (fun i q1 q2 => upz_ne _ _ (by omega)), upz_eq _ _ _⟩
    clear K iha ihb
    generalize (cdT a).length = n at *
    generalize (cdT b).length = m at *
    rw [show fr + o + (n + m + 1) = fr + (o + n) + m + 1 by omega] at K1
    rw [show fr + o + (n + m) = fr + (o + n) + m by omega] at h9
    rw [jx_Model_laysStarts_2]
    simp only [ax0, ex_cons, am_get, upz_at, true_and, and_true, Nat.reduceAdd, Nat.reduceLeDiff, Nat.reduceEqDiff, Nat.reduceSub, Int32.reduceOfInt, Int32.reduceAdd, Int32.reduceMul, Int32.reduceSub, ↓reduceIte, Int32.reduceLT, Int32.reduceLE, Int32.reduceToNatClampNeg, Nat.reduceMod, Nat.reduceLT, List.length_cons, List.length_nil, eq_self, true_or, or_true, and_self, implies_true, not_true_eq_false, not_false_eq_true, false_implies, true_implies, forall_const, st_aloadx, st_getfieldx, st_gotox, st_goto_wx, st_ialoadx, st_iastorex, st_iconstx, st_if_icmpx, st_iincx, st_iloadx, st_istorex, st_isubx, am_put, am_nlg, kb_Model_laysStarts_2, og_82_2, og_82_26, jx_Model_laysStarts_38, kb_Model_laysStarts_38, jx_Model_laysStarts_57, kb_Model_laysStarts_57, jx_Model_laysStarts_73, kb_Model_laysStarts_73, oa_82, oa_84, or_84, ow_84, os_84, oa_96, or_96, ow_96, os_96, oa_96, or_96, ow_96, os_96, (nk_le (by omega) (by omega) : (nI (to_) ≤ nI (fr + (o + n) + m)) = (to_ ≤ fr + (o + n) + m)), show ¬ to_ ≤ fr + (o + n) + m by omega, show nI (fr + (o + n) + m) - nI fr = nI (o + n + m) by rw [Nat.add_assoc]; exact nk_subk _ _, nk_neg (show fr + (o + n) + m < 2147483648 by omega), nk_cl (show fr + (o + n) + m < 2147483648 by omega), nk_neg (show o + n + m < 2147483648 by omega), nk_cl (show o + n + m < 2147483648 by omega), nk_neg (show o + n + m - 1 < 2147483648 by omega), nk_cl (show o + n + m - 1 < 2147483648 by omega), nk_neg (show o + n - 1 < 2147483648 by omega), nk_cl (show o + n - 1 < 2147483648 by omega), show fr + (o + n) + m < 2698 by omega, show F 84 (fr + (o + n) + m) = 10 from h9, show o + n + m < 260 by omega, nk_sb (show 1 ≤ o + n + m by omega), show o + n + m - 1 < 260 by omega, hlb, nk_sb (show 1 ≤ o + n by omega), show o + n - 1 < 260 by omega, hla, upz_upd, nk_succ]
    exact K1
  | num _ => intro o f v4 v5 hw; exact hw.elim
  | mulL _ _ _ => intro o f v4 v5 hw; exact hw.elim
  | mulR _ _ _ => intro o f v4 v5 hw; exact hw.elim
set_option maxRecDepth 20000 in
theorem m_laysStarts {fr : Nat} {t : Int.Internal.Linear.Expr} (hw : wfT t) (hc : Rw (F 84) fr (cdT t)) (hk : fr + (cdT t).length ≤ 2698) (hl : (cdT t).length ≤ 160) (K : ∀ f, SPt f t 0 → Q none (ov h (upz F 96 f) J V)) : am_cl (d + 1) 221 [.ref 82, .int (nI fr), .int (nI (fr + (cdT t).length))] (ov h F J V) Q := by
  simp only [ax0, ex_cons, am_get, upz_at, true_and, and_true, Nat.reduceAdd, Nat.reduceLeDiff, Nat.reduceEqDiff, Nat.reduceSub, Int32.reduceOfInt, Int32.reduceAdd, Int32.reduceMul, Int32.reduceSub, ↓reduceIte, Int32.reduceLT, Int32.reduceLE, Int32.reduceToNatClampNeg, Nat.reduceMod, Nat.reduceLT, List.length_cons, List.length_nil, eq_self, true_or, or_true, and_self, implies_true, not_true_eq_false, not_false_eq_true, false_implies, true_implies, forall_const, st_aloadx, st_getfieldx, st_gotox, st_goto_wx, st_ialoadx, st_iastorex, st_iconstx, st_if_icmpx, st_iincx, st_iloadx, st_istorex, st_isubx, st_return_x, am_put, am_nlg, cx_Model_laysStarts, kb_Model_laysStarts_0, jx_Model_laysStarts_38, kb_Model_laysStarts_38, og_82_26, jx_Model_laysStarts_57, kb_Model_laysStarts_57, jx_Model_laysStarts_73, kb_Model_laysStarts_73, jx_Model_laysStarts_80, kb_Model_laysStarts_80, oa_82, oa_96, or_96, ow_96, os_96]
  have e0 : ov h F J V = ov h (upz F 96 (F 96)) J V := by rw [upz_self]
  rw [e0]
  refine m_ls (fr := fr) (to_ := fr + (cdT t).length) hk t 0 (F 96) _ _ hw hc (by omega) (by omega) (fun f v4 v5 _ g => ?_)
  rw [jx_Model_laysStarts_2]
  simp only [ax0, ex_cons, am_get, upz_at, true_and, and_true, Nat.reduceAdd, Nat.reduceLeDiff, Nat.reduceEqDiff, Nat.reduceSub, Int32.reduceOfInt, Int32.reduceAdd, Int32.reduceMul, Int32.reduceSub, ↓reduceIte, Int32.reduceLT, Int32.reduceLE, Int32.reduceToNatClampNeg, Nat.reduceMod, Nat.reduceLT, List.length_cons, List.length_nil, eq_self, true_or, or_true, and_self, implies_true, not_true_eq_false, not_false_eq_true, false_implies, true_implies, forall_const, st_aloadx, st_getfieldx, st_gotox, st_ialoadx, st_iconstx, st_if_icmpx, st_iloadx, st_istorex, st_isubx, st_return_x, am_put, am_nlg, kb_Model_laysStarts_2, og_82_2, og_82_26, jx_Model_laysStarts_80, kb_Model_laysStarts_80, oa_82, oa_84, or_84, oa_96, or_96, Nat.add_zero, (nk_le (by omega) (by omega) : (nI (fr + (cdT t).length) ≤ nI (fr + (cdT t).length)) = (fr + (cdT t).length ≤ fr + (cdT t).length)), Nat.le_refl]
  exact K f g
end MWR
