/-! ===== terms: var (a kind), neg (not), sub (who are), add (or) ===== -/
abbrev tE_ : Type := Int.Internal.Linear.Expr
def wfT : Int.Internal.Linear.Expr → Prop
  | .var i => i < 8
  | .neg a => wfT a
  | .sub a b => wfT a ∧ wfT b
  | .add a b => wfT a ∧ wfT b
  | .num _ => False
  | .mulL _ _ => False
  | .mulR _ _ => False
/-- how many kinds -/
def lvT : Int.Internal.Linear.Expr → Nat
  | .var _ => 1
  | .neg a => lvT a
  | .sub a b => lvT a + lvT b
  | .add a b => lvT a + lvT b
  | .num _ => 1
  | .mulL _ _ => 1
  | .mulR _ _ => 1
def evT : Int.Internal.Linear.Expr → Nat → Bool
  | .var i, r => r.testBit i
  | .neg a, r => !evT a r
  | .sub a b, r => evT a r && evT b r
  | .add a b, r => evT a r || evT b r
  | .num _, _ => false
  | .mulL _ _, _ => false
  | .mulR _ _, _ => false
/-- the model's code -/
def cdT : Int.Internal.Linear.Expr → List Nat
  | .var i => [i]
  | .neg a => cdT a ++ [8]
  | .sub a b => cdT a ++ cdT b ++ [9]
  | .add a b => cdT a ++ cdT b ++ [10]
  | .num _ => []
  | .mulL _ _ => []
  | .mulR _ _ => []
theorem lvT_pos (t : Int.Internal.Linear.Expr) : 0 < lvT t := by
  induction t with
  | var i => exact Nat.one_pos
  | neg a ih => exact ih
  | sub a b iha ihb => exact Nat.add_pos_left iha _
  | add a b iha ihb => exact Nat.add_pos_left iha _
  | num _ => exact Nat.one_pos
  | mulL _ _ _ => exact Nat.one_pos
  | mulR _ _ _ => exact Nat.one_pos
theorem ga_l {α : Type} {a b : List α} {i : Nat} {d : α} (h : i < a.length) : (a ++ b).getD i d = a.getD i d := by
  rw [List.getD_eq_getElem?_getD, List.getD_eq_getElem?_getD, List.getElem?_append_left h]
theorem ga_r {α : Type} {a b : List α} {i : Nat} {d : α} : (a ++ b).getD (a.length + i) d = b.getD i d := by
  rw [List.getD_eq_getElem?_getD, List.getD_eq_getElem?_getD, List.getElem?_append_right (Nat.le_add_right _ _), Nat.add_sub_cancel_left]
/-- a list of numbers stands in a row from a place on -/
def Rw (f : Nat → Int32) (k : Nat) (l : List Nat) : Prop := ∀ i, i < l.length → f (k + i) = nI (l.getD i 0)
theorem Rw.l {f : Nat → Int32} {k : Nat} {a b : List Nat} (h : Rw f k (a ++ b)) : Rw f k a := fun i hi => by
  rw [h i (by rw [List.length_append]; omega), ga_l hi]
theorem Rw.r {f : Nat → Int32} {k : Nat} {a b : List Nat} (h : Rw f k (a ++ b)) : Rw f (k + a.length) b := fun i hi => by
  have := h (a.length + i) (by rw [List.length_append]; omega)
  rw [ga_r] at this
  rw [← this]
  congr 1
  omega
theorem Rw.one {f : Nat → Int32} {k x : Nat} (h : Rw f k [x]) : f k = nI x := h 0 (by simp)
theorem nk_pred (k : Nat) : nI (k + 1) + -1 = nI k := by
  rw [← nk_succ, Int32.add_assoc]
  exact Int32.add_zero _
theorem nk_sub1 (k : Nat) : nI (k + 1) - 1 = nI k := nk_sub (a := k + 1) (b := 1) (by omega)
theorem i11 : (1 : Int32) &&& 1 = 1 := by decide
theorem i01 : (0 : Int32) &&& 1 = 0 := by decide
section MRG
variable {d : Nat} {h : am_H} {F : Nat → Nat → Int32} {J : Nat → Nat → Int64} {V : Nat → Nat → Value} {Q : am_Q}
set_option maxRecDepth 20000 in
theorem m_isRegion_var {r from_ to_ : Nat} (hr : r < 256) (hto : to_ ≤ 2698) (i : Nat) : ∀ (k top : Nat) (c : Value) (f : Nat → Int32), wfT (.var i) → Rw (F 84) k (cdT (.var i)) → k + (cdT (.var i)).length ≤ to_ → top + lvT (.var i) ≤ 32 →
    (∀ (c' : Value) (f' : Nat → Int32), (∀ i, i < top → f' i = f i) → f' top = b2i (evT (.var i) r) → am_W kc_Model_isRegion (am_cl d) Q 6 [.ref 82, .int (nI r), .int (nI from_), .int (nI to_), .int (nI (top + 1)), .int (nI (k + (cdT (.var i)).length)), c'] [] (ov h (upz F 94 f') J V)) →
    am_W kc_Model_isRegion (am_cl d) Q 6 [.ref 82, .int (nI r), .int (nI from_), .int (nI to_), .int (nI top), .int (nI k), c] [] (ov h (upz F 94 f) J V) := by
  intro k top c f hw hc hk ht K
  have hw : i < 8 := hw
  have hk : k + 1 ≤ to_ := hk
  have ht : top + 1 ≤ 32 := ht
  have hci := hc.one
  rw [jx_Model_isRegion_6]
  have K1 := K (.int (nI i)) (upz f top (b2i (r.testBit i))) (fun j hj => upz_ne _ _ (by omega)) (upz_eq _ _ _)
  have K1 : am_W kc_Model_isRegion (am_cl d) Q 6 [.ref 82, .int (nI r), .int (nI from_), .int (nI to_), .int (nI (top + 1)), .int (nI (k + 1)), .int (nI i)] [] (ov h (upz F 94 (upz f top (b2i (r.testBit i)))) J V) := K1
  simp only [ax0, ex_cons, am_get, upz_at, true_and, and_true, Nat.reduceAdd, Nat.reduceLeDiff, Nat.reduceEqDiff, Nat.reduceSub, Int32.reduceOfInt, ↓reduceIte, Int32.reduceLT, Int32.reduceLE, Int32.reduceToNatClampNeg, Nat.reduceMod, Nat.reduceLT, List.length_cons, List.length_nil, eq_self, true_or, or_true, and_self, implies_true, not_true_eq_false, not_false_eq_true, false_implies, true_implies, forall_const, st_aload, st_bastore, st_getfield, st_goto, st_goto_w, st_iaload, st_iand, st_iconst, st_if_icmp, st_iinc, st_iload, st_ishr, st_istore, am_put, am_nlg, kb_Model_isRegion_6, og_82_2, og_82_24, jx_Model_isRegion_48, kb_Model_isRegion_48, jx_Model_isRegion_49, kb_Model_isRegion_49, jx_Model_isRegion_168, kb_Model_isRegion_168, oa_82, oa_84, or_84, ow_84, os_84, oa_94, or_94, ow_94, os_94, (nk_le (by omega) (by omega) : (nI (to_) ≤ nI (k)) = (to_ ≤ k)), show ¬ to_ ≤ k by omega, nk_neg (show k < 2147483648 by omega), nk_cl (show k < 2147483648 by omega), nk_neg (show top < 2147483648 by omega), nk_cl (show top < 2147483648 by omega), show k < 2698 by omega, show top < 32 by omega, hci, show ((8 : Int32) ≤ nI (i)) = (8 ≤ i) from nk_le (a := 8) (b := i) (by omega) (by omega), show ¬ 8 ≤ i by omega, nk_bit (show r < 2147483648 by omega) (show i < 32 by omega), nk_succ, upz_upd, i11, i01]
  refine ifnb1 (fun e => ?_) (fun e => ?_) <;> rw [e] at K1 <;> exact K1
set_option maxRecDepth 20000 in
theorem m_isRegion_go {r from_ to_ : Nat} (hr : r < 256) (hto : to_ ≤ 2698) (t : Int.Internal.Linear.Expr) : ∀ (k top : Nat) (c : Value) (f : Nat → Int32), wfT t → Rw (F 84) k (cdT t) → k + (cdT t).length ≤ to_ → top + lvT t ≤ 32 →
    (∀ (c' : Value) (f' : Nat → Int32), (∀ i, i < top → f' i = f i) → f' top = b2i (evT t r) → am_W kc_Model_isRegion (am_cl d) Q 6 [.ref 82, .int (nI r), .int (nI from_), .int (nI to_), .int (nI (top + 1)), .int (nI (k + (cdT t).length)), c'] [] (ov h (upz F 94 f') J V)) →
    am_W kc_Model_isRegion (am_cl d) Q 6 [.ref 82, .int (nI r), .int (nI from_), .int (nI to_), .int (nI top), .int (nI k), c] [] (ov h (upz F 94 f) J V) := by
  induction t with
  | var i => exact m_isRegion_var hr hto i
  | neg a ih =>
    intro k top c f hw hc hk ht K
    have hc : Rw (F 84) k (cdT a ++ [8]) := hc
    have hk : k + (cdT a ++ [8]).length ≤ to_ := hk
    have K : ∀ (c' : Value) (f' : Nat → Int32), (∀ i, i < top → f' i = f i) → f' top = b2i (!evT a r) → am_W kc_Model_isRegion (am_cl d) Q 6 [.ref 82, .int (nI r), .int (nI from_), .int (nI to_), .int (nI (top + 1)), .int (nI (k + (cdT a ++ [8]).length)), c'] [] (ov h (upz F 94 f') J V) := K
    simp only [List.length_append, List.length_cons, List.length_nil] at hk K
    have ht : top + lvT a ≤ 32 := ht
    have := lvT_pos a
    refine ih k top c f hw hc.l (by omega) ht (fun c1 f1 h1 h2 => ?_)
    have h8 := hc.r.one
    have K1 := K (.int 8) (upz f1 top (b2i (!evT a r))) (fun j hj => by rw [upz_ne _ _ (by omega)]; exact h1 j hj) (upz_eq _ _ _)
    rw [jx_Model_isRegion_6]
    simp only [ax0, ex_cons, am_get, upz_at, true_and, and_true, Nat.reduceAdd, Nat.reduceLeDiff, Nat.reduceEqDiff, Nat.reduceSub, Int32.reduceOfInt, ↓reduceIte, Int32.reduceLT, Int32.reduceLE, Int32.reduceToNatClampNeg, Nat.reduceMod, Nat.reduceLT, List.length_cons, List.length_nil, eq_self, true_or, or_true, and_self, implies_true, not_true_eq_false, not_false_eq_true, false_implies, true_implies, forall_const, st_aload, st_baload, st_bastore, st_getfield, st_goto, st_goto_w, st_iaload, st_iand, st_iconst, st_ifCond, st_if_icmp, st_iinc, st_iload, st_ishr, st_istore, st_isub, am_put, am_nlg, kb_Model_isRegion_6, og_82_2, og_82_24, jx_Model_isRegion_56, kb_Model_isRegion_56, jx_Model_isRegion_87, kb_Model_isRegion_87, jx_Model_isRegion_88, kb_Model_isRegion_88, jx_Model_isRegion_168, kb_Model_isRegion_168, oa_82, oa_84, or_84, ow_84, os_84, oa_94, or_94, ow_94, os_94, (nk_le (by omega) (by omega) : (nI (to_) ≤ nI (k + (cdT a).length)) = (to_ ≤ k + (cdT a).length)), show ¬ to_ ≤ k + (cdT a).length by omega, nk_neg (show k + (cdT a).length < 2147483648 by omega), nk_cl (show k + (cdT a).length < 2147483648 by omega), nk_neg (show top < 2147483648 by omega), nk_cl (show top < 2147483648 by omega), show k + (cdT a).length < 2698 by omega, show top < 32 by omega, show F 84 (k + (cdT a).length) = 8 from h8, nk_sub1, h2, nk_succ, upz_upd, i11, i01]
    refine ifnb (fun e => ?_) (fun e => ?_) <;> rw [e] at K1 <;> exact K1
  | sub a b iha ihb =>
    intro k top c f hw hc hk ht K
    have hc : Rw (F 84) k (cdT a ++ cdT b ++ [9]) := hc
    have hk : k + (cdT a ++ cdT b ++ [9]).length ≤ to_ := hk
    have K : ∀ (c' : Value) (f' : Nat → Int32), (∀ i, i < top → f' i = f i) → f' top = b2i (evT a r && evT b r) → am_W kc_Model_isRegion (am_cl d) Q 6 [.ref 82, .int (nI r), .int (nI from_), .int (nI to_), .int (nI (top + 1)), .int (nI (k + (cdT a ++ cdT b ++ [9]).length)), c'] [] (ov h (upz F 94 f') J V) := K
    simp only [List.length_append, List.length_cons, List.length_nil] at hk K
    have ht : top + (lvT a + lvT b) ≤ 32 := ht
    have := lvT_pos a
    have := lvT_pos b
    have h9 := hc.r.one
    rw [List.length_append] at h9
    refine iha k top c f hw.1 hc.l.l (by omega) (by omega) (fun c1 f1 h1 h2 => ?_)
    refine ihb (k + (cdT a).length) (top + 1) c1 f1 hw.2 hc.l.r (by omega) (by omega) (fun c2 f2 h3 h4 => ?_)
    have h5 : f2 top = b2i (evT a r) := by rw [h3 top (by omega)]; exact h2
    have K1 := K (.int 9) (upz f2 top (b2i (evT a r && evT b r))) (fun j hj => by rw [upz_ne _ _ (by omega), h3 j (by omega)]; exact h1 j hj) (upz_eq _ _ _)
    rw [show k + ((cdT a).length + (cdT b).length + (0 + 1)) = k + (cdT a).length + (cdT b).length + 1 by omega] at K1
    rw [jx_Model_isRegion_6]
    simp only [ax0, ex_cons, am_get, upz_at, true_and, and_true, Nat.reduceAdd, Nat.reduceLeDiff, Nat.reduceEqDiff, Nat.reduceSub, Int32.reduceOfInt, ↓reduceIte, Int32.reduceLT, Int32.reduceLE, Int32.reduceToNatClampNeg, Nat.reduceMod, Nat.reduceLT, List.length_cons, List.length_nil, eq_self, true_or, or_true, and_self, implies_true, not_true_eq_false, not_false_eq_true, false_implies, true_implies, forall_const, st_aload, st_baload, st_bastore, st_getfield, st_goto, st_goto_w, st_iaload, st_iand, st_iconst, st_ifCond, st_if_icmp, st_iinc, st_iload, st_ishr, st_istore, st_isub, am_put, am_nlg, kb_Model_isRegion_6, og_82_2, og_82_24, jx_Model_isRegion_56, kb_Model_isRegion_56, jx_Model_isRegion_92, kb_Model_isRegion_92, jx_Model_isRegion_136, kb_Model_isRegion_136, jx_Model_isRegion_140, kb_Model_isRegion_140, jx_Model_isRegion_162, kb_Model_isRegion_162, jx_Model_isRegion_166, kb_Model_isRegion_166, jx_Model_isRegion_167, kb_Model_isRegion_167, jx_Model_isRegion_168, kb_Model_isRegion_168, oa_82, oa_84, or_84, ow_84, os_84, oa_94, or_94, ow_94, os_94, (nk_le (by omega) (by omega) : (nI (to_) ≤ nI (k + (cdT a).length + (cdT b).length)) = (to_ ≤ k + (cdT a).length + (cdT b).length)), show ¬ to_ ≤ k + (cdT a).length + (cdT b).length by omega, nk_neg (show k + (cdT a).length + (cdT b).length < 2147483648 by omega), nk_cl (show k + (cdT a).length + (cdT b).length < 2147483648 by omega), nk_neg (show top < 2147483648 by omega), nk_cl (show top < 2147483648 by omega), nk_neg (show top + 1 < 2147483648 by omega), nk_cl (show top + 1 < 2147483648 by omega), show k + (cdT a).length + (cdT b).length < 2698 by omega, show top < 32 by omega, show top + 1 < 32 by omega, show F 84 (k + (cdT a).length + (cdT b).length) = 9 by rw [Nat.add_assoc]; exact h9, nk_pred, nk_sub1, h4, h5, nk_succ, upz_upd, i11, i01]
    refine ifb (fun e => ?_) (fun e => ?_)
    · rw [e] at K1; exact K1
    · rw [e] at K1
      refine ifb (fun e2 => ?_) (fun e2 => ?_) <;> rw [e2] at K1 <;> exact K1
  | add a b iha ihb =>
    intro k top c f hw hc hk ht K
    have hc : Rw (F 84) k (cdT a ++ cdT b ++ [10]) := hc
    have hk : k + (cdT a ++ cdT b ++ [10]).length ≤ to_ := hk
    have K : ∀ (c' : Value) (f' : Nat → Int32), (∀ i, i < top → f' i = f i) → f' top = b2i (evT a r || evT b r) → am_W kc_Model_isRegion (am_cl d) Q 6 [.ref 82, .int (nI r), .int (nI from_), .int (nI to_), .int (nI (top + 1)), .int (nI (k + (cdT a ++ cdT b ++ [10]).length)), c'] [] (ov h (upz F 94 f') J V) := K
    simp only [List.length_append, List.length_cons, List.length_nil] at hk K
    have ht : top + (lvT a + lvT b) ≤ 32 := ht
    have := lvT_pos a
    have := lvT_pos b
    have h9 := hc.r.one
    rw [List.length_append] at h9
    refine iha k top c f hw.1 hc.l.l (by omega) (by omega) (fun c1 f1 h1 h2 => ?_)
    refine ihb (k + (cdT a).length) (top + 1) c1 f1 hw.2 hc.l.r (by omega) (by omega) (fun c2 f2 h3 h4 => ?_)
    have h5 : f2 top = b2i (evT a r) := by rw [h3 top (by omega)]; exact h2
    have K1 := K (.int 10) (upz f2 top (b2i (evT a r || evT b r))) (fun j hj => by rw [upz_ne _ _ (by omega), h3 j (by omega)]; exact h1 j hj) (upz_eq _ _ _)
    rw [show k + ((cdT a).length + (cdT b).length + (0 + 1)) = k + (cdT a).length + (cdT b).length + 1 by omega] at K1
    rw [jx_Model_isRegion_6]
    simp only [ax0, ex_cons, am_get, upz_at, true_and, and_true, Nat.reduceAdd, Nat.reduceLeDiff, Nat.reduceEqDiff, Nat.reduceSub, Int32.reduceOfInt, ↓reduceIte, Int32.reduceLT, Int32.reduceLE, Int32.reduceToNatClampNeg, Nat.reduceMod, Nat.reduceLT, List.length_cons, List.length_nil, eq_self, true_or, or_true, and_self, implies_true, not_true_eq_false, not_false_eq_true, false_implies, true_implies, forall_const, st_aload, st_baload, st_bastore, st_getfield, st_goto, st_goto_w, st_iaload, st_iand, st_iconst, st_ifCond, st_if_icmp, st_iinc, st_iload, st_ishr, st_istore, st_isub, am_put, am_nlg, kb_Model_isRegion_6, og_82_2, og_82_24, jx_Model_isRegion_56, kb_Model_isRegion_56, jx_Model_isRegion_92, kb_Model_isRegion_92, jx_Model_isRegion_136, kb_Model_isRegion_136, jx_Model_isRegion_140, kb_Model_isRegion_140, jx_Model_isRegion_162, kb_Model_isRegion_162, jx_Model_isRegion_166, kb_Model_isRegion_166, jx_Model_isRegion_167, kb_Model_isRegion_167, jx_Model_isRegion_168, kb_Model_isRegion_168, oa_82, oa_84, or_84, ow_84, os_84, oa_94, or_94, ow_94, os_94, (nk_le (by omega) (by omega) : (nI (to_) ≤ nI (k + (cdT a).length + (cdT b).length)) = (to_ ≤ k + (cdT a).length + (cdT b).length)), show ¬ to_ ≤ k + (cdT a).length + (cdT b).length by omega, nk_neg (show k + (cdT a).length + (cdT b).length < 2147483648 by omega), nk_cl (show k + (cdT a).length + (cdT b).length < 2147483648 by omega), nk_neg (show top < 2147483648 by omega), nk_cl (show top < 2147483648 by omega), nk_neg (show top + 1 < 2147483648 by omega), nk_cl (show top + 1 < 2147483648 by omega), show k + (cdT a).length + (cdT b).length < 2698 by omega, show top < 32 by omega, show top + 1 < 32 by omega, show F 84 (k + (cdT a).length + (cdT b).length) = 10 by rw [Nat.add_assoc]; exact h9, nk_pred, nk_sub1, h4, h5, nk_succ, upz_upd, i11, i01]
    refine ifnb (fun e => ?_) (fun e => ?_)
    · rw [e] at K1; exact K1
    · rw [e] at K1
      refine ifb (fun e2 => ?_) (fun e2 => ?_) <;> rw [e2] at K1 <;> exact K1
  | num v => intro k top c f hw; exact hw.elim
  | mulL v a ih => intro k top c f hw; exact hw.elim
  | mulR a v ih => intro k top c f hw; exact hw.elim
set_option maxRecDepth 20000 in
theorem m_isRegion {r k : Nat} (hr : r < 256) {t : Int.Internal.Linear.Expr} (hw : wfT t) (hc : Rw (F 84) k (cdT t)) (hk : k + (cdT t).length ≤ 2698) (ht : lvT t ≤ 32) (K : ∀ f, Q (some (.int (b2i (evT t r)))) (ov h (upz F 94 f) J V)) : am_cl (d + 1) 211 [.ref 82, .int (nI r), .int (nI k), .int (nI (k + (cdT t).length))] (ov h F J V) Q := by
  simp only [ax0, ex_cons, am_get, upz_at, true_and, and_true, Nat.reduceAdd, Nat.reduceLeDiff, Nat.reduceEqDiff, Nat.reduceSub, Int32.reduceOfInt, ↓reduceIte, Int32.reduceLT, Int32.reduceLE, Int32.reduceToNatClampNeg, Nat.reduceMod, Nat.reduceLT, List.length_cons, List.length_nil, eq_self, true_or, or_true, and_self, implies_true, not_true_eq_false, not_false_eq_true, false_implies, true_implies, forall_const, st_aload, st_baload, st_bastore, st_freturn, st_getfield, st_goto, st_goto_w, st_iconst, st_ifCond, st_if_icmp, st_iinc, st_iload, st_istore, st_isub, am_put, am_nlg, cx_Model_isRegion, kb_Model_isRegion_0, jx_Model_isRegion_48, kb_Model_isRegion_48, jx_Model_isRegion_49, kb_Model_isRegion_49, jx_Model_isRegion_56, kb_Model_isRegion_56, og_82_24, jx_Model_isRegion_87, kb_Model_isRegion_87, jx_Model_isRegion_88, kb_Model_isRegion_88, jx_Model_isRegion_92, kb_Model_isRegion_92, jx_Model_isRegion_136, kb_Model_isRegion_136, jx_Model_isRegion_140, kb_Model_isRegion_140, jx_Model_isRegion_162, kb_Model_isRegion_162, jx_Model_isRegion_166, kb_Model_isRegion_166, jx_Model_isRegion_167, kb_Model_isRegion_167, jx_Model_isRegion_168, kb_Model_isRegion_168, jx_Model_isRegion_174, kb_Model_isRegion_174, oa_82, oa_94, or_94, ow_94, os_94]
  have e0 : ov h F J V = ov h (upz F 94 (F 94)) J V := by rw [upz_self]
  rw [e0]
  refine m_isRegion_go (from_ := k) (to_ := k + (cdT t).length) hr hk t k 0 am_dum (F 94) hw hc (Nat.le_refl _) (by omega) (fun c f h1 h2 => ?_)
  rw [jx_Model_isRegion_6]
  simp only [ax0, ex_cons, am_get, upz_at, true_and, and_true, Nat.reduceAdd, Nat.reduceLeDiff, Nat.reduceEqDiff, Nat.reduceSub, Int32.reduceOfInt, ↓reduceIte, Int32.reduceLT, Int32.reduceLE, Int32.reduceToNatClampNeg, Nat.reduceMod, Nat.reduceLT, List.length_cons, List.length_nil, eq_self, true_or, or_true, and_self, implies_true, not_true_eq_false, not_false_eq_true, false_implies, true_implies, forall_const, st_aload, st_baload, st_freturn, st_getfield, st_goto, st_iaload, st_iand, st_iconst, st_if_icmp, st_iload, st_ishr, st_istore, am_put, am_nlg, kb_Model_isRegion_6, og_82_2, og_82_24, jx_Model_isRegion_174, kb_Model_isRegion_174, oa_82, oa_84, or_84, oa_94, or_94, (nk_le (by omega) (by omega) : (nI (k + (cdT t).length) ≤ nI (k + (cdT t).length)) = (k + (cdT t).length ≤ k + (cdT t).length)), Nat.le_refl, h2, b2i_01]
  exact K f
end MRG
