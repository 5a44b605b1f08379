/-! ===== the model: between, name ===== -/
def btF (T : tT) (ex : Bool) (a b : Nat) : Nat → Nat
  | 0 => 0
  | m + 1 => if fN T ex (64 * m + 8 * a + b) then btF T ex a b m ||| 2 ^ m else btF T ex a b m
def btZ (T : tT) (ex : Bool) (a b : Nat) : Nat := btF T ex a b 4 ||| (if fN T ex (8 * b + a) then 16 else 0) ||| (if fN T ex (192 + 8 * b + a) then 32 else 0)
def aBetween (D : dT) (hp a b : Int32) : Int32 := if hpB D.1 hp && kiB a b then nI (btZ (hzD D hp.toNatClampNeg) D.2.2.2 a.toNatClampNeg b.toNatClampNeg) else -1
def lowF (p : Nat → Bool) : Nat → Int32 → Int32
  | 0, low => low
  | k + 1, low => lowF p k (if p k then nI k else low)
def nmP (T : tT) (w r : Nat) : Bool := T.2.2 w r && !T.1 r
def aName (D : dT) (hp w what : Int32) : Int32 := if hpB D.1 hp && lieB w 0 3 && lieB what 0 1 && !qz (hzD D hp.toNatClampNeg) (fun _ => false) then (if what = 0 then nI (cn (nmP (hzD D hp.toNatClampNeg) w.toNatClampNeg) 256) else lowF (nmP (hzD D hp.toNatClampNeg) w.toNatClampNeg) 256 (-1)) else -1
section MPE
variable {d : Nat} {h : am_H} {F : Nat → Nat → Int32} {J : Nat → Nat → Int64} {V : Nat → Nat → Value} {Q : am_Q}
set_option maxRecDepth 20000 in
theorem mp_between {D : dT} (hD : MK (F 84) D) {a s p : Int32} (K : ∀ F', Pm F F' → Q (some (.int (aBetween D a s p))) (ov h F' J V)) : am_cl (d + 6) 251 [.ref 82, .int a, .int s, .int p] (ov h F J V) Q := by
  have no : aBetween D a s p = -1 → am_W kc_Model_between (am_cl (d + 5)) Q 27 [.ref 82, .int a, .int s, .int p, am_dum, am_dum] [] (ov h F J V) := fun e => by
    rw [e] at K
    simp only [ax0, ex_cons, am_get, upz_at, true_and, and_true, Nat.reduceAdd, Nat.reduceLeDiff, Nat.reduceEqDiff, Nat.reduceSub, Int32.reduceOfInt, Int32.reduceAdd, Int32.reduceMul, Int32.reduceSub, ↓reduceIte, Int32.reduceLT, Int32.reduceLE, Int32.reduceToNatClampNeg, Nat.reduceMod, Nat.reduceLT, List.length_cons, List.length_nil, eq_self, true_or, or_true, and_self, implies_true, not_true_eq_false, not_false_eq_true, false_implies, true_implies, forall_const, st_iconst, st_ireturn, jx_Model_between_27, kb_Model_between_27]
    exact K F Pm.rf
  simp only [ax0, ex_cons, am_get, upz_at, true_and, and_true, Nat.reduceAdd, Nat.reduceLeDiff, Nat.reduceEqDiff, Nat.reduceSub, Int32.reduceOfInt, Int32.reduceAdd, Int32.reduceMul, Int32.reduceSub, ↓reduceIte, Int32.reduceLT, Int32.reduceLE, Int32.reduceToNatClampNeg, Nat.reduceMod, Nat.reduceLT, List.length_cons, List.length_nil, eq_self, true_or, or_true, and_self, implies_true, not_true_eq_false, not_false_eq_true, false_implies, true_implies, forall_const, st_aload, st_goto_w, st_ifCond, st_if_icmp, st_iload, st_in2, st_st1, kb_Model_between_0, oo_82, oa_82, cx_Model_between]
  refine m_isHeap hD.1 hD.2.1 ?_
  simp only [ax0, ex_cons, am_get, upz_at, true_and, and_true, Nat.reduceAdd, Nat.reduceLeDiff, Nat.reduceEqDiff, Nat.reduceSub, Int32.reduceOfInt, Int32.reduceAdd, Int32.reduceMul, Int32.reduceSub, ↓reduceIte, Int32.reduceLT, Int32.reduceLE, Int32.reduceToNatClampNeg, Nat.reduceMod, Nat.reduceLT, List.length_cons, List.length_nil, eq_self, true_or, or_true, and_self, implies_true, not_true_eq_false, not_false_eq_true, false_implies, true_implies, forall_const, st_aload, st_goto_w, st_ifCond, st_if_icmp, st_iload, st_in2, st_st1, kb_Model_between_0, oo_82, oa_82]
  refine ifb (fun e => no (by unfold aBetween; rw [e]; rfl)) (fun e => ?_)
  refine m_isKind ?_
  simp only [ax0, ex_cons, am_get, upz_at, true_and, and_true, Nat.reduceAdd, Nat.reduceLeDiff, Nat.reduceEqDiff, Nat.reduceSub, Int32.reduceOfInt, Int32.reduceAdd, Int32.reduceMul, Int32.reduceSub, ↓reduceIte, Int32.reduceLT, Int32.reduceLE, Int32.reduceToNatClampNeg, Nat.reduceMod, Nat.reduceLT, List.length_cons, List.length_nil, eq_self, true_or, or_true, and_self, implies_true, not_true_eq_false, not_false_eq_true, false_implies, true_implies, forall_const, st_aload, st_goto_w, st_ifCond, st_if_icmp, st_iload, st_in2, st_st1, kb_Model_between_0, oo_82, oa_82]
  refine ifb (fun e6 => no (by unfold aBetween kiB; rw [e6, Bool.false_and, Bool.false_and, Bool.and_false]; rfl)) (fun e6 => ?_)
  refine m_isKind ?_
  simp only [ax0, ex_cons, am_get, upz_at, true_and, and_true, Nat.reduceAdd, Nat.reduceLeDiff, Nat.reduceEqDiff, Nat.reduceSub, Int32.reduceOfInt, Int32.reduceAdd, Int32.reduceMul, Int32.reduceSub, ↓reduceIte, Int32.reduceLT, Int32.reduceLE, Int32.reduceToNatClampNeg, Nat.reduceMod, Nat.reduceLT, List.length_cons, List.length_nil, eq_self, true_or, or_true, and_self, implies_true, not_true_eq_false, not_false_eq_true, false_implies, true_implies, forall_const, st_aload, st_goto_w, st_ifCond, st_if_icmp, st_iload, st_in2, st_st1, kb_Model_between_0, oo_82, oa_82]
  refine ifb (fun e7 => no (by unfold aBetween kiB; rw [e7, Bool.and_false, Bool.false_and, Bool.and_false]; rfl)) (fun e7 => ?_)
  refine ⟨fun e8 => ?_, fun e8 => no (by unfold aBetween kiB; rw [decide_eq_true (Decidable.not_not.mp e8), Bool.not_true, Bool.and_false, Bool.and_false]; rfl)⟩
  obtain ⟨hp, a1, a2, a3⟩ := hpB_nI hD.2.1 e
  obtain ⟨s', c1, c2, c3⟩ := lie7 e6
  obtain ⟨p', d1, d2, d3⟩ := lie7 e7
  have ea : aBetween D a s p = nI (btZ (hzD D hp) D.2.2.2 s' p') := by unfold aBetween kiB; rw [e, e6, e7, decide_eq_false e8, a3, c3, d3]; rfl
  rw [ea] at K
  rw [a1, c1, d1]
  simp only [ax0, ex_cons, am_get, upz_at, true_and, and_true, Nat.reduceAdd, Nat.reduceLeDiff, Nat.reduceEqDiff, Nat.reduceSub, Int32.reduceOfInt, Int32.reduceAdd, Int32.reduceMul, Int32.reduceSub, ↓reduceIte, Int32.reduceLT, Int32.reduceLE, Int32.reduceToNatClampNeg, Nat.reduceMod, Nat.reduceLT, List.length_cons, List.length_nil, eq_self, true_or, or_true, and_self, implies_true, not_true_eq_false, not_false_eq_true, false_implies, true_implies, forall_const, st_aload, st_goto_w, st_iconst, st_iload, st_in2, st_istore, am_put, am_nlg, jx_Model_between_29, kb_Model_between_29, oo_82, oa_82]
  refine m_heapsD hD a2 (fun F1 h1 h2 h3 => ?_)
  simp only [ax0, ex_cons, am_get, upz_at, true_and, and_true, Nat.reduceAdd, Nat.reduceLeDiff, Nat.reduceEqDiff, Nat.reduceSub, Int32.reduceOfInt, Int32.reduceAdd, Int32.reduceMul, Int32.reduceSub, ↓reduceIte, Int32.reduceLT, Int32.reduceLE, Int32.reduceToNatClampNeg, Nat.reduceMod, Nat.reduceLT, List.length_cons, List.length_nil, eq_self, true_or, or_true, and_self, implies_true, not_true_eq_false, not_false_eq_true, false_implies, true_implies, forall_const, st_aload, st_goto_w, st_iconst, st_iload, st_in2, st_istore, am_put, am_nlg, jx_Model_between_29, kb_Model_between_29, oo_82, oa_82]
  have key : ∀ j k F1, k + j = 4 → MT F1 (hzD D hp) → MK (F1 84) D → Pm F F1 → am_W kc_Model_between (am_cl (d + 5)) Q 40 [.ref 82, .int (nI hp), .int (nI s'), .int (nI p'), .int (nI (btF (hzD D hp) D.2.2.2 s' p' k)), .int (nI k)] [] (ov h F1 J V) := by
    intro j
    induction j with
    | zero =>
      intro k F1 ek g1 g2 g3
      have ek : k = 4 := ek
      subst ek
      rw [jx_Model_between_40]
      simp only [ax0, ex_cons, am_get, upz_at, true_and, and_true, Nat.reduceAdd, Nat.reduceLeDiff, Nat.reduceEqDiff, Nat.reduceSub, Int32.reduceOfInt, Int32.reduceAdd, Int32.reduceMul, Int32.reduceSub, ↓reduceIte, Int32.reduceLT, Int32.reduceLE, Int32.reduceToNatClampNeg, Nat.reduceMod, Nat.reduceLT, List.length_cons, List.length_nil, eq_self, true_or, or_true, and_self, implies_true, not_true_eq_false, not_false_eq_true, false_implies, true_implies, forall_const, st_aload, st_goto, st_iadd, st_iconst, st_ifCond, st_if_icmp, st_iload, st_imul, st_in2, st_ishl, kb_Model_between_40, oo_82, jx_Model_between_84, kb_Model_between_84, oa_82, show ((4 : Int32) ≤ nI (4)) = (4 ≤ 4) from nk_le (a := 4) (b := 4) (by omega) (by omega), show (8 : Int32) * nI (p') = nI (8 * (p')) from nk_mul (8) (p'), nk_add]
      refine m_fN g2 g1 (by have := hzD_len D hp; omega) (by omega) (fun F2 h4 h5 h6 => ?_)
      have fin : ∀ (b1 : Bool), fN (hzD D hp) D.2.2.2 (8 * p' + s') = b1 → am_W kc_Model_between (am_cl (d + 5)) Q 105 [.ref 82, .int (nI hp), .int (nI s'), .int (nI p'), .int (nI (btF (hzD D hp) D.2.2.2 s' p' 4)), .int (nI 4)] [.int (if b1 then 16 else 0), .int (nI (btF (hzD D hp) D.2.2.2 s' p' 4))] (ov h F2 J V) := by
        intro b1 e1
        simp only [ax0, ex_cons, am_get, upz_at, true_and, and_true, Nat.reduceAdd, Nat.reduceLeDiff, Nat.reduceEqDiff, Nat.reduceSub, Int32.reduceOfInt, Int32.reduceAdd, Int32.reduceMul, Int32.reduceSub, ↓reduceIte, Int32.reduceLT, Int32.reduceLE, Int32.reduceToNatClampNeg, Nat.reduceMod, Nat.reduceLT, List.length_cons, List.length_nil, eq_self, true_or, or_true, and_self, implies_true, not_true_eq_false, not_false_eq_true, false_implies, true_implies, forall_const, st_aload, st_goto, st_iadd, st_iconst, st_ifCond, st_iload, st_imul, st_in2, st_ior, st_istore, am_put, am_nlg, jx_Model_between_105, kb_Model_between_105, oo_82, oa_82, show (8 : Int32) * nI (p') = nI (8 * (p')) from nk_mul (8) (p'), show (192 : Int32) + nI (8 * p') = nI (192 + 8 * p') from nk_add 192 (8 * p'), nk_add]
        refine m_fN h5 h4 (by have := hzD_len D hp; omega) (by omega) (fun F3 h7 h8 h9 => ?_)
        have K1 := K _ ((g3.tr h6).tr h9)
        unfold btZ at K1
        rw [e1] at K1
        simp only [ax0, ex_cons, am_get, upz_at, true_and, and_true, Nat.reduceAdd, Nat.reduceLeDiff, Nat.reduceEqDiff, Nat.reduceSub, Int32.reduceOfInt, Int32.reduceAdd, Int32.reduceMul, Int32.reduceSub, ↓reduceIte, Int32.reduceLT, Int32.reduceLE, Int32.reduceToNatClampNeg, Nat.reduceMod, Nat.reduceLT, List.length_cons, List.length_nil, eq_self, true_or, or_true, and_self, implies_true, not_true_eq_false, not_false_eq_true, false_implies, true_implies, forall_const, st_aload, st_goto, st_goto_w, st_iadd, st_iconst, st_ifCond, st_iload, st_imul, st_in2, st_ior, st_ireturn, st_istore, am_put, am_nlg, jx_Model_between_105, kb_Model_between_105, oo_82, jx_Model_between_132, kb_Model_between_132, jx_Model_between_133, kb_Model_between_133, oa_82]
        refine ifb (fun e => ?_) (fun e => ?_) <;> rw [e] at K1 <;> rw [← nk_or, ← nk_or] at K1 <;> cases b1 <;> exact K1
      simp only [ax0, ex_cons, am_get, upz_at, true_and, and_true, Nat.reduceAdd, Nat.reduceLeDiff, Nat.reduceEqDiff, Nat.reduceSub, Int32.reduceOfInt, Int32.reduceAdd, Int32.reduceMul, Int32.reduceSub, ↓reduceIte, Int32.reduceLT, Int32.reduceLE, Int32.reduceToNatClampNeg, Nat.reduceMod, Nat.reduceLT, List.length_cons, List.length_nil, eq_self, true_or, or_true, and_self, implies_true, not_true_eq_false, not_false_eq_true, false_implies, true_implies, forall_const, st_aload, st_goto, st_goto_w, st_iadd, st_iconst, st_ifCond, st_iload, st_imul, st_in2, jx_Model_between_84, kb_Model_between_84, oo_82, jx_Model_between_104, kb_Model_between_104, oa_82]
      refine ifb (fun e => ?_) (fun e => ?_)
      · exact fin false e
      · exact fin true e
    | succ j ih =>
      intro k F1 ek g1 g2 g3
      rw [jx_Model_between_40]
      simp only [ax0, ex_cons, am_get, upz_at, true_and, and_true, Nat.reduceAdd, Nat.reduceLeDiff, Nat.reduceEqDiff, Nat.reduceSub, Int32.reduceOfInt, Int32.reduceAdd, Int32.reduceMul, Int32.reduceSub, ↓reduceIte, Int32.reduceLT, Int32.reduceLE, Int32.reduceToNatClampNeg, Nat.reduceMod, Nat.reduceLT, List.length_cons, List.length_nil, eq_self, true_or, or_true, and_self, implies_true, not_true_eq_false, not_false_eq_true, false_implies, true_implies, forall_const, st_aload, st_goto, st_iadd, st_iconst, st_ifCond, st_if_icmp, st_iload, st_imul, st_in2, st_ishl, kb_Model_between_40, oo_82, oa_82, show ((4 : Int32) ≤ nI (k)) = (4 ≤ k) from nk_le (a := 4) (b := k) (by omega) (by omega), show ¬ 4 ≤ k by omega, show (64 : Int32) * nI (k) = nI (64 * (k)) from nk_mul (64) (k), show (8 : Int32) * nI (s') = nI (8 * (s')) from nk_mul (8) (s'), nk_add]
      refine m_fN g2 g1 (by have := hzD_len D hp; omega) (by omega) (fun F2 h4 h5 h6 => ?_)
      have go := ih (k + 1) F2 (by omega) h4 h5 (g3.tr h6)
      unfold btF at go
      simp only [ax0, ex_cons, am_get, upz_at, true_and, and_true, Nat.reduceAdd, Nat.reduceLeDiff, Nat.reduceEqDiff, Nat.reduceSub, Int32.reduceOfInt, Int32.reduceAdd, Int32.reduceMul, Int32.reduceSub, ↓reduceIte, Int32.reduceLT, Int32.reduceLE, Int32.reduceToNatClampNeg, Nat.reduceMod, Nat.reduceLT, List.length_cons, List.length_nil, eq_self, true_or, or_true, and_self, implies_true, not_true_eq_false, not_false_eq_true, false_implies, true_implies, forall_const, st_aload, st_goto, st_goto_w, st_iadd, st_iconst, st_ifCond, st_if_icmp, st_iinc, st_iload, st_imul, st_in2, st_ior, st_ishl, st_istore, am_put, am_nlg, kb_Model_between_40, oo_82, jx_Model_between_74, kb_Model_between_74, jx_Model_between_75, kb_Model_between_75, oa_82, nk_1shl (show k < 32 by omega), nk_succ]
      refine ifb (fun e => ?_) (fun e => ?_)
      · rw [e] at go
        rw [show nI (btF (hzD D hp) D.2.2.2 s' p' k) ||| (0 : Int32) = nI (btF (hzD D hp) D.2.2.2 s' p' k) from Int32.or_zero]
        exact go
      · rw [e] at go
        rw [nk_or]
        exact go
  exact key 4 0 F1 rfl h1 h2 h3.pm
set_option maxRecDepth 20000 in
theorem mp_name {D : dT} (hD : MK (F 84) D) {a w x : Int32} (K : ∀ F', Pm F F' → Q (some (.int (aName D a w x))) (ov h F' J V)) : am_cl (d + 4) 262 [.ref 82, .int a, .int w, .int x] (ov h F J V) Q := by
  have no : aName D a w x = -1 → am_W kc_Model_name (am_cl (d + 3)) Q 26 [.ref 82, .int a, .int w, .int x, am_dum, am_dum, am_dum] [] (ov h F J V) := fun e => by
    rw [e] at K
    simp only [ax0, ex_cons, am_get, upz_at, true_and, and_true, Nat.reduceAdd, Nat.reduceLeDiff, Nat.reduceEqDiff, Nat.reduceSub, Int32.reduceOfInt, Int32.reduceAdd, Int32.reduceMul, Int32.reduceSub, ↓reduceIte, Int32.reduceLT, Int32.reduceLE, Int32.reduceToNatClampNeg, Nat.reduceMod, Nat.reduceLT, List.length_cons, List.length_nil, eq_self, true_or, or_true, and_self, implies_true, not_true_eq_false, not_false_eq_true, false_implies, true_implies, forall_const, st_iconst, st_ireturn, jx_Model_name_26, kb_Model_name_26]
    exact K F Pm.rf
  simp only [ax0, ex_cons, am_get, upz_at, true_and, and_true, Nat.reduceAdd, Nat.reduceLeDiff, Nat.reduceEqDiff, Nat.reduceSub, Int32.reduceOfInt, Int32.reduceAdd, Int32.reduceMul, Int32.reduceSub, ↓reduceIte, Int32.reduceLT, Int32.reduceLE, Int32.reduceToNatClampNeg, Nat.reduceMod, Nat.reduceLT, List.length_cons, List.length_nil, eq_self, true_or, or_true, and_self, implies_true, not_true_eq_false, not_false_eq_true, false_implies, true_implies, forall_const, st_aload, st_goto_w, st_iconst, st_ifCond, st_iload, st_in2, st_st3, kb_Model_name_0, oo_82, oa_82, cx_Model_name]
  refine m_isHeap hD.1 hD.2.1 ?_
  simp only [ax0, ex_cons, am_get, upz_at, true_and, and_true, Nat.reduceAdd, Nat.reduceLeDiff, Nat.reduceEqDiff, Nat.reduceSub, Int32.reduceOfInt, Int32.reduceAdd, Int32.reduceMul, Int32.reduceSub, ↓reduceIte, Int32.reduceLT, Int32.reduceLE, Int32.reduceToNatClampNeg, Nat.reduceMod, Nat.reduceLT, List.length_cons, List.length_nil, eq_self, true_or, or_true, and_self, implies_true, not_true_eq_false, not_false_eq_true, false_implies, true_implies, forall_const, st_aload, st_goto_w, st_iconst, st_ifCond, st_iload, st_in2, st_st3, kb_Model_name_0, oo_82, oa_82]
  refine ifb (fun e => no (by unfold aName; rw [e]; rfl)) (fun e => ?_)
  refine m_lies ?_
  simp only [ax0, ex_cons, am_get, upz_at, true_and, and_true, Nat.reduceAdd, Nat.reduceLeDiff, Nat.reduceEqDiff, Nat.reduceSub, Int32.reduceOfInt, Int32.reduceAdd, Int32.reduceMul, Int32.reduceSub, ↓reduceIte, Int32.reduceLT, Int32.reduceLE, Int32.reduceToNatClampNeg, Nat.reduceMod, Nat.reduceLT, List.length_cons, List.length_nil, eq_self, true_or, or_true, and_self, implies_true, not_true_eq_false, not_false_eq_true, false_implies, true_implies, forall_const, st_aload, st_goto_w, st_iconst, st_ifCond, st_iload, st_in2, st_st3, kb_Model_name_0, oo_82, oa_82]
  refine ifb (fun e5 => no (by unfold aName; rw [e5, Bool.and_false]; rfl)) (fun e5 => ?_)
  refine m_lies ?_
  simp only [ax0, ex_cons, am_get, upz_at, true_and, and_true, Nat.reduceAdd, Nat.reduceLeDiff, Nat.reduceEqDiff, Nat.reduceSub, Int32.reduceOfInt, Int32.reduceAdd, Int32.reduceMul, Int32.reduceSub, ↓reduceIte, Int32.reduceLT, Int32.reduceLE, Int32.reduceToNatClampNeg, Nat.reduceMod, Nat.reduceLT, List.length_cons, List.length_nil, eq_self, true_or, or_true, and_self, implies_true, not_true_eq_false, not_false_eq_true, false_implies, true_implies, forall_const, st_aload, st_goto_w, st_iconst, st_ifCond, st_iload, st_in2, st_st3, kb_Model_name_0, oo_82, oa_82]
  refine ifnb (fun e6 => ?_) (fun e6 => no (by unfold aName; rw [e6, Bool.and_false]; rfl))
  obtain ⟨hp, a1, a2, a3⟩ := hpB_nI hD.2.1 e
  obtain ⟨n, b1, b2, b3⟩ := lie3 e5
  rw [a1, b1]
  simp only [ax0, ex_cons, am_get, upz_at, true_and, and_true, Nat.reduceAdd, Nat.reduceLeDiff, Nat.reduceEqDiff, Nat.reduceSub, Int32.reduceOfInt, Int32.reduceAdd, Int32.reduceMul, Int32.reduceSub, ↓reduceIte, Int32.reduceLT, Int32.reduceLE, Int32.reduceToNatClampNeg, Nat.reduceMod, Nat.reduceLT, List.length_cons, List.length_nil, eq_self, true_or, or_true, and_self, implies_true, not_true_eq_false, not_false_eq_true, false_implies, true_implies, forall_const, st_aload, st_iconst, st_ifCond, st_iload, st_in1, st_in2, st_ireturn, jx_Model_name_28, kb_Model_name_28, oo_82, oa_82]
  refine m_heapsD hD a2 (fun F1 h1 h2 h3 => ?_)
  simp only [ax0, ex_cons, am_get, upz_at, true_and, and_true, Nat.reduceAdd, Nat.reduceLeDiff, Nat.reduceEqDiff, Nat.reduceSub, Int32.reduceOfInt, Int32.reduceAdd, Int32.reduceMul, Int32.reduceSub, ↓reduceIte, Int32.reduceLT, Int32.reduceLE, Int32.reduceToNatClampNeg, Nat.reduceMod, Nat.reduceLT, List.length_cons, List.length_nil, eq_self, true_or, or_true, and_self, implies_true, not_true_eq_false, not_false_eq_true, false_implies, true_implies, forall_const, st_aload, st_iconst, st_ifCond, st_iload, st_in1, st_in2, st_ireturn, jx_Model_name_28, kb_Model_name_28, oo_82, oa_82]
  refine m_isQuarrel h1 (by have := hzD_len D hp; omega) (fun f => ?_)
  have K1 := K _ (h3.pm.s100 f)
  unfold aName at K1
  rw [e, e5, e6, a3, b3] at K1
  simp only [ax0, ex_cons, am_get, upz_at, true_and, and_true, Nat.reduceAdd, Nat.reduceLeDiff, Nat.reduceEqDiff, Nat.reduceSub, Int32.reduceOfInt, Int32.reduceAdd, Int32.reduceMul, Int32.reduceSub, ↓reduceIte, Int32.reduceLT, Int32.reduceLE, Int32.reduceToNatClampNeg, Nat.reduceMod, Nat.reduceLT, List.length_cons, List.length_nil, eq_self, true_or, or_true, and_self, implies_true, not_true_eq_false, not_false_eq_true, false_implies, true_implies, forall_const, st_aload, st_iconst, st_ifCond, st_iload, st_in1, st_in2, st_ireturn, jx_Model_name_28, kb_Model_name_28, oo_82, oa_82]
  refine ifb (fun e7 => ?_) (fun e7 => ?_)
  · rw [e7] at K1
    simp only [Bool.and_true, Bool.not_false, if_true] at K1
    simp only [ax0, ex_cons, am_get, upz_at, true_and, and_true, Nat.reduceAdd, Nat.reduceLeDiff, Nat.reduceEqDiff, Nat.reduceSub, Int32.reduceOfInt, Int32.reduceAdd, Int32.reduceMul, Int32.reduceSub, ↓reduceIte, Int32.reduceLT, Int32.reduceLE, Int32.reduceToNatClampNeg, Nat.reduceMod, Nat.reduceLT, List.length_cons, List.length_nil, eq_self, true_or, or_true, and_self, implies_true, not_true_eq_false, not_false_eq_true, false_implies, true_implies, forall_const, st_goto_w, st_iconst, st_istore, am_put, am_nlg, jx_Model_name_42, kb_Model_name_42]
    have hp2 : ∀ r, r < 256 → (F1 99 (8 * n + r / 32) &&& (F1 97 (r / 32) ^^^ -1)).toBitVec.getLsbD (r % 32) = nmP (hzD D hp) n r := fun r hr => by
      rw [Int32.toBitVec_and, BitVec.getLsbD_and, i32_not (Nat.mod_lt _ (by decide))]
      have t1 := h1.1 r hr
      have t2 := h1.2.2.2 n (by omega) r hr
      unfold bI at t1 t2
      dsimp only at t2
      rw [t1, t2]
      rfl
    have key : ∀ k, k < 256 → ∀ (m : Nat) (low : Int32), Q (some (.int (if x = 0 then nI (m + cn (nmP (hzD D hp) n) (k + 1)) else lowF (nmP (hzD D hp) n) (k + 1) low))) (ov h (upz F1 100 f) J V) → am_W kc_Model_name (am_cl (d + 3)) Q 53 [.ref 82, .int (nI hp), .int (nI n), .int x, .int (nI m), .int low, .int (nI k)] [] (ov h (upz F1 100 f) J V) := by
      intro k
      induction k with
      | zero =>
        intro hk m low K2
        have hz : (nI 0 + -1 < 0) = True := propext ⟨fun _ => trivial, fun _ => by decide⟩
        unfold cn lowF at K2
        rw [jx_Model_name_53]
        simp only [ax0, ex_cons, am_get, upz_at, true_and, and_true, Nat.reduceAdd, Nat.reduceLeDiff, Nat.reduceEqDiff, Nat.reduceSub, Int32.reduceOfInt, Int32.reduceAdd, Int32.reduceMul, Int32.reduceSub, ↓reduceIte, Int32.reduceLT, Int32.reduceLE, Int32.reduceToNatClampNeg, Nat.reduceMod, Nat.reduceLT, List.length_cons, List.length_nil, eq_self, true_or, or_true, and_self, implies_true, not_true_eq_false, not_false_eq_true, false_implies, true_implies, forall_const, st_aload, st_getfield, st_goto, st_iadd, st_iaload, st_iand, st_iconst, st_idiv, st_ifCond, st_iload, st_imul, st_irem, st_ishr, st_ixor, kb_Model_name_53, og_82_30, og_82_28, oa_82, oa_97, or_97, oa_99, or_99, nk_neg (show 0 < 2147483648 by omega), nk_cl (show 0 < 2147483648 by omega), nk_neg (show 8 * n + 0 / 32 < 2147483648 by omega), nk_cl (show 8 * n + 0 / 32 < 2147483648 by omega), nk_neg (show 0 / 32 < 2147483648 by omega), nk_cl (show 0 / 32 < 2147483648 by omega), show (8 : Int32) * nI (n) = nI (8 * (n)) from nk_mul (8) (n), show ((32 : Int32) = 0) = False from ax_f (by decide), show nI (0) / (32 : Int32) = nI ((0) / 32) from nk_div (a := 0) (b := 32) (by omega) (by decide) (by decide), show nI (0) - nI ((0) / 32) * (32 : Int32) = nI ((0) % 32) from nk_rm (a := 0) (b := 32) (by omega) (by decide) (by decide), nk_add, show 8 * n + 0 / 32 < 32 by omega, show 0 / 32 < 8 by omega, i32_bit _ (show 0 % 32 < 32 by decide), hp2 0 hk]
        have fin : ∀ (m' : Nat) (low' : Int32), Q (some (.int (if x = 0 then nI m' else low'))) (ov h (upz F1 100 f) J V) → am_W kc_Model_name (am_cl (d + 3)) Q 107 [.ref 82, .int (nI hp), .int (nI n), .int x, .int (nI m'), .int low', .int (nI 0)] [] (ov h (upz F1 100 f) J V) := by
          intro m' low' K3
          simp only [ax0, ex_cons, am_get, upz_at, true_and, and_true, Nat.reduceAdd, Nat.reduceLeDiff, Nat.reduceEqDiff, Nat.reduceSub, Int32.reduceOfInt, Int32.reduceAdd, Int32.reduceMul, Int32.reduceSub, ↓reduceIte, Int32.reduceLT, Int32.reduceLE, Int32.reduceToNatClampNeg, Nat.reduceMod, Nat.reduceLT, List.length_cons, List.length_nil, eq_self, true_or, or_true, and_self, implies_true, not_true_eq_false, not_false_eq_true, false_implies, true_implies, forall_const, st_goto, st_iinc, am_put, am_nlg, jx_Model_name_107, kb_Model_name_107]
          rw [jx_Model_name_53]
          simp only [ax0, ex_cons, am_get, upz_at, true_and, and_true, Nat.reduceAdd, Nat.reduceLeDiff, Nat.reduceEqDiff, Nat.reduceSub, Int32.reduceOfInt, Int32.reduceAdd, Int32.reduceMul, Int32.reduceSub, ↓reduceIte, Int32.reduceLT, Int32.reduceLE, Int32.reduceToNatClampNeg, Nat.reduceMod, Nat.reduceLT, List.length_cons, List.length_nil, eq_self, true_or, or_true, and_self, implies_true, not_true_eq_false, not_false_eq_true, false_implies, true_implies, forall_const, st_aload, st_getfield, st_goto, st_goto_w, st_iadd, st_iaload, st_iand, st_iconst, st_idiv, st_ifCond, st_iload, st_imul, st_irem, st_ireturn, st_ishr, st_ixor, kb_Model_name_53, og_82_30, og_82_28, jx_Model_name_113, kb_Model_name_113, jx_Model_name_122, kb_Model_name_122, jx_Model_name_124, kb_Model_name_124, oa_82, oa_97, or_97, oa_99, or_99, hz]
          refine ⟨fun q => ?_, fun q => ?_⟩
          · rw [if_neg q] at K3; exact K3
          · rw [if_pos (Decidable.not_not.mp q)] at K3; exact K3
        refine ifnb (fun e8 => ?_) (fun e8 => ?_)
        · rw [e8] at K2
          simp only [ax0, ex_cons, am_get, upz_at, true_and, and_true, Nat.reduceAdd, Nat.reduceLeDiff, Nat.reduceEqDiff, Nat.reduceSub, Int32.reduceOfInt, Int32.reduceAdd, Int32.reduceMul, Int32.reduceSub, ↓reduceIte, Int32.reduceLT, Int32.reduceLE, Int32.reduceToNatClampNeg, Nat.reduceMod, Nat.reduceLT, List.length_cons, List.length_nil, eq_self, true_or, or_true, and_self, implies_true, not_true_eq_false, not_false_eq_true, false_implies, true_implies, forall_const, st_goto_w, st_iinc, st_iload, st_istore, am_put, am_nlg, jx_Model_name_100, kb_Model_name_100, nk_succ]
          exact fin (m + 1) (nI 0) K2
        · rw [e8] at K2
          exact fin m low K2
      | succ k ih =>
        intro hk m low K2
        have e1 : m + cn (nmP (hzD D hp) n) (k + 1 + 1) = m + (if nmP (hzD D hp) n (k + 1) then 1 else 0) + cn (nmP (hzD D hp) n) (k + 1) := by
          rw [show cn (nmP (hzD D hp) n) (k + 1 + 1) = cn (nmP (hzD D hp) n) (k + 1) + (if nmP (hzD D hp) n (k + 1) then 1 else 0) from rfl]; omega
        rw [e1, show lowF (nmP (hzD D hp) n) (k + 1 + 1) low = lowF (nmP (hzD D hp) n) (k + 1) (if nmP (hzD D hp) n (k + 1) then nI (k + 1) else low) from rfl] at K2
        rw [jx_Model_name_53]
        simp only [ax0, ex_cons, am_get, upz_at, true_and, and_true, Nat.reduceAdd, Nat.reduceLeDiff, Nat.reduceEqDiff, Nat.reduceSub, Int32.reduceOfInt, Int32.reduceAdd, Int32.reduceMul, Int32.reduceSub, ↓reduceIte, Int32.reduceLT, Int32.reduceLE, Int32.reduceToNatClampNeg, Nat.reduceMod, Nat.reduceLT, List.length_cons, List.length_nil, eq_self, true_or, or_true, and_self, implies_true, not_true_eq_false, not_false_eq_true, false_implies, true_implies, forall_const, st_aload, st_getfield, st_goto, st_iadd, st_iaload, st_iand, st_iconst, st_idiv, st_ifCond, st_iload, st_imul, st_irem, st_ishr, st_ixor, kb_Model_name_53, og_82_30, og_82_28, oa_82, oa_97, or_97, oa_99, or_99, nk_neg (show k + 1 < 2147483648 by omega), nk_cl (show k + 1 < 2147483648 by omega), nk_neg (show 8 * n + (k + 1) / 32 < 2147483648 by omega), nk_cl (show 8 * n + (k + 1) / 32 < 2147483648 by omega), nk_neg (show (k + 1) / 32 < 2147483648 by omega), nk_cl (show (k + 1) / 32 < 2147483648 by omega), show (8 : Int32) * nI (n) = nI (8 * (n)) from nk_mul (8) (n), show ((32 : Int32) = 0) = False from ax_f (by decide), show nI (k + 1) / (32 : Int32) = nI ((k + 1) / 32) from nk_div (a := k + 1) (b := 32) (by omega) (by decide) (by decide), show nI (k + 1) - nI ((k + 1) / 32) * (32 : Int32) = nI ((k + 1) % 32) from nk_rm (a := k + 1) (b := 32) (by omega) (by decide) (by decide), nk_add, show 8 * n + (k + 1) / 32 < 32 by omega, show (k + 1) / 32 < 8 by omega, i32_bit _ (show (k + 1) % 32 < 32 by omega), hp2 (k + 1) hk]
        refine ifnb (fun e8 => ?_) (fun e8 => ?_)
        · rw [e8] at K2
          simp only [ax0, ex_cons, am_get, upz_at, true_and, and_true, Nat.reduceAdd, Nat.reduceLeDiff, Nat.reduceEqDiff, Nat.reduceSub, Int32.reduceOfInt, Int32.reduceAdd, Int32.reduceMul, Int32.reduceSub, ↓reduceIte, Int32.reduceLT, Int32.reduceLE, Int32.reduceToNatClampNeg, Nat.reduceMod, Nat.reduceLT, List.length_cons, List.length_nil, eq_self, true_or, or_true, and_self, implies_true, not_true_eq_false, not_false_eq_true, false_implies, true_implies, forall_const, st_goto, st_goto_w, st_iinc, st_iload, st_istore, am_put, am_nlg, jx_Model_name_100, kb_Model_name_100, jx_Model_name_107, kb_Model_name_107, nk_succ, nk_pred]
          exact ih (by omega) (m + 1) (nI (k + 1)) K2
        · rw [e8] at K2
          simp only [ax0, ex_cons, am_get, upz_at, true_and, and_true, Nat.reduceAdd, Nat.reduceLeDiff, Nat.reduceEqDiff, Nat.reduceSub, Int32.reduceOfInt, Int32.reduceAdd, Int32.reduceMul, Int32.reduceSub, ↓reduceIte, Int32.reduceLT, Int32.reduceLE, Int32.reduceToNatClampNeg, Nat.reduceMod, Nat.reduceLT, List.length_cons, List.length_nil, eq_self, true_or, or_true, and_self, implies_true, not_true_eq_false, not_false_eq_true, false_implies, true_implies, forall_const, st_goto, st_iinc, am_put, am_nlg, jx_Model_name_107, kb_Model_name_107, nk_pred]
          exact ih (by omega) m low K2
    refine key 255 (by decide) 0 (-1) ?_
    rw [Nat.zero_add]
    exact K1
  · rw [e7] at K1
    exact K1
end MPE
