/-! ===== the class: the first of the smallest worlds that were considered ===== -/
theorem cpy_0 {m n : Nat} {f g : Nat → Int32} (h : n ≤ m) : am_cpy (am_ar m f) (am_ar m g) 0 0 n = am_ar m (ovr g f 0 n) := by
  apply List.ext_getElem?
  intro i
  unfold am_cpy
  rw [ar_get, List.drop_zero, List.take_zero, List.nil_append, Nat.zero_add]
  have l2 : ((am_ar m f).take n).length = n := by rw [List.length_take, am_ar_len]; omega
  by_cases e2 : i < n
  · rw [List.getElem?_append_left (by rw [l2]; exact e2), List.getElem?_take_of_lt e2, ar_get, if_pos (by omega), if_pos (by omega), ovr_in (by omega) (by omega)]
  · rw [List.getElem?_append_right (by rw [l2]; omega), l2, List.getElem?_drop, ar_get, show n + (i - n) = i by omega]
    by_cases e3 : i < m
    · rw [if_pos e3, if_pos e3, ovr_out (by omega)]
    · rw [if_neg e3, if_neg e3]
theorem acI {n : Nat} {f g : Nat → Int32} {K : am_E → Prop} (hn : n ≤ 13) : am_ac 0 0 (nI n) K (aI 2 (am_ar 13 f)) (aI 2 (am_ar 13 g)) = K (aI 2 (am_ar 13 (ovr g f 0 n))) := by
  show ((2 : Nat) = 2 ∧ ((2 : Nat) = 1 ∨ (2 : Nat) = 2) ∧ 0 ≤ (0 : Int32).toInt ∧ 0 ≤ (0 : Int32).toInt ∧ 0 ≤ (nI n).toInt ∧ (0 : Int32).toInt + (nI n).toInt ≤ ((am_ar 13 f).length : Int) ∧ (0 : Int32).toInt + (nI n).toInt ≤ ((am_ar 13 g).length : Int) ∧ K (aI 2 (am_cpy (am_ar 13 f) (am_ar 13 g) (0 : Int32).toNatClampNeg (0 : Int32).toNatClampNeg (nI n).toNatClampNeg))) = _
  have e0 : (0 : Int32).toInt = 0 := by decide
  rw [nk_cl (by omega), show (0 : Int32).toNatClampNeg = 0 from rfl, cpy_0 hn, am_ar_len, am_ar_len, nk_toInt (by omega), e0]
  exact propext ⟨fun z => z.2.2.2.2.2.2.2, fun z => ⟨rfl, Or.inr rfl, by decide, by decide, by omega, by omega, by omega, z⟩⟩
/-- the best row -/
def BC (F : Nat → Nat → Int32) (o : Option (List Nat)) : Prop := match o with
  | none => F 55 1 = 0
  | some b => F 55 1 = nI b.length ∧ 0 < b.length ∧ b.length ≤ 13 ∧ ∀ i, i < b.length → F 56 i = nI (b.getD i 0) ∧ b.getD i 0 < 256
def DNf (e h : am_H) (F : Nat → Nat → Int32) (V : Nat → Nat → Value) (q : Nat) : Prop := V 55 5 = .ref q ∧ ∃ L g, Mq e h F 59 2 q L g
theorem TT.c47 {F F' : Nat → Nat → Int32} {J : Nat → Nat → Int64} {T : tT} {P : Nat} (h : TT F J 47 T P) (e : F' 47 = F 47) : TT F' J 47 T P := by
  unfold TT at h ⊢
  rw [e]
  exact h
theorem ov_c13 {h : am_H} {F : Nat → Nat → Int32} {J : Nat → Nat → Int64} {V : Nat → Nat → Value} {f : Nat → Int32} : am_set (ov h F J V) 56 (aI 2 (am_ar 13 f)) = ov h (upz F 56 f) J V := os_56 (f := f)
section CCO
variable {d : Nat} {h : am_H} {F : Nat → Nat → Int32} {J : Nat → Nat → Int64} {V : Nat → Nat → Value} {Q : am_Q}
set_option maxRecDepth 20000 in
theorem c_trialIsAhead {l b : List Nat} (he : l.length = b.length) (hb : b.length ≤ 13) (h7 : F 55 7 = nI l.length) (h60 : ∀ i, i < l.length → F 60 i = nI (l.getD i 0) ∧ l.getD i 0 < 256) (h56 : ∀ i, i < b.length → F 56 i = nI (b.getD i 0) ∧ b.getD i 0 < 256) (K : Q (some (.int (b2i (lxB l b)))) (ov h F J V)) : am_cl (d + 1) 83 [.ref 55] (ov h F J V) Q := by
  rw [lx_df l b he] at K
  simp only [isO_c, ax0, ex_cons, am_get, upz_at, true_and, and_true, Nat.reduceAdd, Nat.reduceLeDiff, Nat.reduceEqDiff, Nat.reduceSub, Int32.reduceOfInt, Int32.reduceAdd, Int32.reduceMul, Int32.reduceSub, ↓reduceIte, Int32.reduceLT, Int32.reduceLE, Int32.reduceToNatClampNeg, Nat.reduceMod, Nat.reduceLT, List.length_cons, List.length_nil, eq_self, true_or, or_true, and_self, implies_true, not_true_eq_false, not_false_eq_true, false_implies, true_implies, forall_const, st_goto_wx, st_iconstx, st_istorex, am_put, am_nlg, kb_Denial_trialIsAhead_0, cx_Denial_trialIsAhead]
  have key : ∀ j k, k + j = l.length → dfF (fun i => l.getD i 0) (fun i => b.getD i 0) l.length 0 = dfF (fun i => l.getD i 0) (fun i => b.getD i 0) j k → am_W kc_Denial_trialIsAhead (am_cl d) Q 2 [.ref 55, .int (nI k)] [] (ov h F J V) := by
    intro j
    induction j with
    | zero =>
      intro k ek e
      have ek : k = l.length := ek
      rw [e] at K
      rw [jx_Denial_trialIsAhead_2]
      simp only [isO_c, ax0, ex_cons, am_get, upz_at, true_and, and_true, Nat.reduceAdd, Nat.reduceLeDiff, Nat.reduceEqDiff, Nat.reduceSub, Int32.reduceOfInt, Int32.reduceAdd, Int32.reduceMul, Int32.reduceSub, ↓reduceIte, Int32.reduceLT, Int32.reduceLE, Int32.reduceToNatClampNeg, Nat.reduceMod, Nat.reduceLT, List.length_cons, List.length_nil, eq_self, true_or, or_true, and_self, implies_true, not_true_eq_false, not_false_eq_true, false_implies, true_implies, forall_const, st_aloadx, st_freturnx, st_getfieldx, st_gotox, st_ialoadx, st_iconstx, st_if_icmpx, st_iloadx, kb_Denial_trialIsAhead_2, og_55_7, og_55_6, og_55_0, jx_Denial_trialIsAhead_52, kb_Denial_trialIsAhead_52, oa_55, oa_56, or_56, oa_60, or_60, h7, (nk_le (by omega) (by omega) : (nI (l.length) ≤ nI (k)) = (l.length ≤ k)), show l.length ≤ k by omega]
      exact K
    | succ j ih =>
      intro k ek e
      obtain ⟨a1, a2⟩ := h60 k (by omega)
      obtain ⟨c1, c2⟩ := h56 k (by omega)
      have e : dfF (fun i => l.getD i 0) (fun i => b.getD i 0) l.length 0 = (if l.getD k 0 = b.getD k 0 then dfF (fun i => l.getD i 0) (fun i => b.getD i 0) j (k + 1) else some (l.getD k 0, b.getD k 0)) := e
      rw [jx_Denial_trialIsAhead_2]
      simp only [isO_c, ax0, ex_cons, am_get, upz_at, true_and, and_true, Nat.reduceAdd, Nat.reduceLeDiff, Nat.reduceEqDiff, Nat.reduceSub, Int32.reduceOfInt, Int32.reduceAdd, Int32.reduceMul, Int32.reduceSub, ↓reduceIte, Int32.reduceLT, Int32.reduceLE, Int32.reduceToNatClampNeg, Nat.reduceMod, Nat.reduceLT, List.length_cons, List.length_nil, eq_self, true_or, or_true, and_self, implies_true, not_true_eq_false, not_false_eq_true, false_implies, true_implies, forall_const, st_aloadx, st_freturnx, st_getfieldx, st_gotox, st_goto_wx, st_ialoadx, st_iconstx, st_if_icmpx, st_iincx, st_iloadx, am_put, am_nlg, kb_Denial_trialIsAhead_2, og_55_7, og_55_6, og_55_0, jx_Denial_trialIsAhead_44, kb_Denial_trialIsAhead_44, jx_Denial_trialIsAhead_45, kb_Denial_trialIsAhead_45, jx_Denial_trialIsAhead_46, kb_Denial_trialIsAhead_46, oa_55, oa_56, or_56, oa_60, or_60, h7, (nk_le (by omega) (by omega) : (nI (l.length) ≤ nI (k)) = (l.length ≤ k)), show ¬ l.length ≤ k by omega, nk_neg (show k < 2147483648 by omega), nk_cl (show k < 2147483648 by omega), show k < 13 by omega, a1, c1, show (nI (l.getD k 0) = nI (b.getD k 0)) = (l.getD k 0 = b.getD k 0) from nk_eq (by omega) (by omega), (nk_le (by omega) (by omega) : (nI (b.getD k 0) ≤ nI (l.getD k 0)) = (b.getD k 0 ≤ l.getD k 0)), nk_succ]
      refine ⟨fun w => ?_, fun w => ?_⟩
      · rw [if_pos w] at e
        exact ih (k + 1) (by omega) e
      · rw [if_neg w] at e
        rw [e] at K
        dsimp only at K
        refine ⟨fun y => ?_, fun y => ?_⟩
        · rw [decide_eq_false (by omega)] at K; exact K
        · rw [decide_eq_true (by omega)] at K; exact K
  exact key l.length 0 (by omega) rfl
set_option maxRecDepth 20000 in
theorem c_consider {e : am_H} (ke : Hk e h) (e2 : e.2 = h.2) (hh : 108 ≤ h.2.1) (hb : HB h) {T : tT} {P : Nat} (hT : TT F J 47 T P) (hw : wN T P ≤ 13) {o : Option (List Nat)} (hB : BC F o) {q : Nat} (hq : DNf e h F V q) (K : ∀ e' h' F' V' q', Gw q' e h e' h' → (q' = q ∨ q' = h.2.1) → h'.2.1 ≤ h.2.1 + 1 → h'.2.2 ≤ h.2.2 + 8192 → (∀ x, x ≠ 55 → V' x = V x) → DNf e' h' F' V' q' → BC F' (stW2 o (wlO T)) → (∀ x, x < 55 ∨ 60 < x → F' x = F x) → Q none (ov h' F' J V')) : am_cl (d + 4) 79 [.ref 55, .ref 47] (ov h F J V) Q := by
  have hw1 : wN1 T P ≤ 13 := by unfold wN1; split <;> omega
  have h01 : 1 ≤ wN1 T P := by unfold wN1; split <;> omega
  have hp2 : 2 ^ wN1 T P ≤ 8192 := (Nat.pow_le_pow_right (by decide) hw1 : 2 ^ wN1 T P ≤ 2 ^ 13)
  have hp0 : 2 ≤ 2 ^ wN1 T P := (Nat.pow_le_pow_right (by decide) h01 : 2 ^ 1 ≤ 2 ^ wN1 T P)
  have hP : unP T P := hT.2.2.2.2.2.2.2
  simp only [isO_c, ax0, ex_cons, am_get, upz_at, true_and, and_true, Nat.reduceAdd, Nat.reduceLeDiff, Nat.reduceEqDiff, Nat.reduceSub, Int32.reduceOfInt, Int32.reduceAdd, Int32.reduceMul, Int32.reduceSub, ↓reduceIte, Int32.reduceLT, Int32.reduceLE, Int32.reduceToNatClampNeg, Nat.reduceMod, Nat.reduceLT, List.length_cons, List.length_nil, eq_self, true_or, or_true, and_self, implies_true, not_true_eq_false, not_false_eq_true, false_implies, true_implies, forall_const, st_aloadx, st_goto_wx, st_iconstx, st_ifCondx, st_if_icmpx, st_iloadx, st_in1, st_istorex, am_put, am_nlg, kb_Denial_consider_0, oo_47, oa_47, cx_Denial_consider]
  refine c_countWants hT ?_
  simp only [isO_c, ax0, ex_cons, am_get, upz_at, true_and, and_true, Nat.reduceAdd, Nat.reduceLeDiff, Nat.reduceEqDiff, Nat.reduceSub, Int32.reduceOfInt, Int32.reduceAdd, Int32.reduceMul, Int32.reduceSub, ↓reduceIte, Int32.reduceLT, Int32.reduceLE, Int32.reduceToNatClampNeg, Nat.reduceMod, Nat.reduceLT, List.length_cons, List.length_nil, eq_self, true_or, or_true, and_self, implies_true, not_true_eq_false, not_false_eq_true, false_implies, true_implies, forall_const, st_aloadx, st_goto_wx, st_iconstx, st_ifCondx, st_if_icmpx, st_iloadx, st_in1, st_istorex, am_put, am_nlg, kb_Denial_consider_0, oo_47, oa_47]
  refine c_fits (Or.inl rfl) hb hT ?_
  unfold fw
  cases z : qz T (fun _ => false)
  · have ew : wlO T = some (wlN T) := by unfold wlO; rw [z, if_neg Bool.false_ne_true]
    rw [ew] at K
    obtain ⟨hv, L, g, m⟩ := hq
    have emx : (if nI (wN T P) < 1 then (1 : Int32) else nI (wN T P)) = nI (wN1 T P) := by
      unfold wN1
      by_cases y : wN T P = 0
      · rw [if_pos y, y]; rfl
      · rw [if_neg y, if_neg (by rw [show (nI (wN T P) < (1 : Int32)) = (wN T P < 1) from nk_lt (b := 1) (by omega) (by decide)]; omega)]
    simp only [isO_c, ax0, ex_cons, am_get, upz_at, true_and, and_true, Nat.reduceAdd, Nat.reduceLeDiff, Nat.reduceEqDiff, Nat.reduceSub, Int32.reduceOfInt, Int32.reduceAdd, Int32.reduceMul, Int32.reduceSub, ↓reduceIte, Int32.reduceLT, Int32.reduceLE, Int32.reduceToNatClampNeg, Nat.reduceMod, Nat.reduceLT, List.length_cons, List.length_nil, eq_self, true_or, or_true, and_self, implies_true, not_true_eq_false, not_false_eq_true, false_implies, true_implies, forall_const, st_aloadx, st_dmulx, st_goto_wx, st_iconstx, st_ifCondx, st_if_icmpx, st_iloadx, st_in1, st_ishlx, st_istorex, st_isubx, st_putfieldx, am_put, am_nlg, kb_Denial_consider_0, oo_47, jx_Denial_consider_19, kb_Denial_consider_19, op_55_4, oa_47, oa_55, os_55, Bool.not_false, show b2i true = (1 : Int32) from rfl, show (nI (wN T P) ≤ (13 : Int32)) = (wN T P ≤ 13) from nk_le (b := 13) (by omega) (by decide), hw, emx, nk_1shl (show wN1 T P < 32 by omega), show nI (2 ^ wN1 T P) - (1 : Int32) = nI (2 ^ wN1 T P - 1) from nk_sub (b := 1) (by omega)]
    have fin : ∀ F1 n v5, (∀ x, x < 55 ∨ 58 < x ∨ x = 56 → F1 x = F x) → (∀ i, i ≠ 4 → F1 55 i = F 55 i) → F1 55 4 = nI n → MkS n (F1 58) T P 256 → (∀ r, r < 256 → F1 57 r = nI (cm T P r)) → am_W kc_Denial_consider (am_cl (d + 3)) Q 98 [.ref 55, .ref 47, .int (nI (wN T P)), .int (nI (2 ^ wN1 T P - 1)), .int (nI 256), v5] [] (ov h F1 J V) := by
      intro F1 n v5 o1 o2 f4 hM f57
      simp only [isO_c, ax0, ex_cons, am_get, upz_at, true_and, and_true, Nat.reduceAdd, Nat.reduceLeDiff, Nat.reduceEqDiff, Nat.reduceSub, Int32.reduceOfInt, Int32.reduceAdd, Int32.reduceMul, Int32.reduceSub, ↓reduceIte, Int32.reduceLT, Int32.reduceLE, Int32.reduceToNatClampNeg, Nat.reduceMod, Nat.reduceLT, List.length_cons, List.length_nil, eq_self, true_or, or_true, and_self, implies_true, not_true_eq_false, not_false_eq_true, false_implies, true_implies, forall_const, st_aloadx, st_getfieldx, st_goto_wx, st_ifCondx, st_if_icmpx, st_iloadx, st_in1, st_in2, jx_Denial_consider_98, kb_Denial_consider_98, oo_55, og_55_1, og_55_7, oa_55]
      refine c_countFewest ke e2 hh hw1 rfl (fun i hi => nq_C z hi) f4 hM hv (m.cg (o1 59 (by omega))) (fun e3 h3 F3 V3 q3 L3 g3 w1 w2 w3 w4 w5 w6 w7 w8 w9 w10 => ?_)
      simp only [isO_c, ax0, ex_cons, am_get, upz_at, true_and, and_true, Nat.reduceAdd, Nat.reduceLeDiff, Nat.reduceEqDiff, Nat.reduceSub, Int32.reduceOfInt, Int32.reduceAdd, Int32.reduceMul, Int32.reduceSub, ↓reduceIte, Int32.reduceLT, Int32.reduceLE, Int32.reduceToNatClampNeg, Nat.reduceMod, Nat.reduceLT, List.length_cons, List.length_nil, eq_self, true_or, or_true, and_self, implies_true, not_true_eq_false, not_false_eq_true, false_implies, true_implies, forall_const, st_aloadx, st_getfieldx, st_goto_wx, st_ifCondx, st_if_icmpx, st_iloadx, st_in1, st_in2, jx_Denial_consider_98, kb_Denial_consider_98, oo_55, og_55_1, og_55_7, oa_55]
      refine c_fillTrial hP hw1 rfl w5 w7 w8 w9 (fun r hr => by rw [w10 57 (by decide)]; exact f57 r hr) (fun F4 l l1 l2 l3 l4 l5 l6 l7 => ?_)
      have el : wlN T = l := wlN_eq l1
      rw [el] at K
      have o4 : ∀ x, x < 55 ∨ 60 < x → F4 x = F x := fun x hx => by rw [l6 x (by omega) (by omega), w10 x (by omega)]; exact o1 x (by omega)
      have q4 : DNf e3 h3 F4 V3 q3 := ⟨w5, L3, g3, w7.cg (l6 59 (by decide) (by decide))⟩
      have s1 : F4 55 1 = F 55 1 := by rw [l7 1 (by decide), w10 55 (by decide)]; exact o2 1 (by decide)
      have r1 : F4 56 = F 56 := by rw [l6 56 (by decide) (by decide), w10 56 (by decide)]; exact o1 56 (by omega)
      have copy : stW2 o (some l) = some l → am_W kc_Denial_consider (am_cl (d + 3)) Q 144 [.ref 55, .ref 47, .int (nI (wN T P)), .int (nI (2 ^ wN1 T P - 1)), .int (nI 256), v5] [] (ov h3 F4 J V3) := by
        intro es
        rw [es] at K
        simp only [isO_c, ax0, ex_cons, am_get, upz_at, true_and, and_true, Nat.reduceAdd, Nat.reduceLeDiff, Nat.reduceEqDiff, Nat.reduceSub, Int32.reduceOfInt, Int32.reduceAdd, Int32.reduceMul, Int32.reduceSub, ↓reduceIte, Int32.reduceLT, Int32.reduceLE, Int32.reduceToNatClampNeg, Nat.reduceMod, Nat.reduceLT, List.length_cons, List.length_nil, eq_self, true_or, or_true, and_self, implies_true, not_true_eq_false, not_false_eq_true, false_implies, true_implies, forall_const, st_aloadx, st_getfieldx, st_goto_wx, st_iconstx, st_monitorexitx, st_putfieldx, st_return_x, jx_Denial_consider_144, kb_Denial_consider_144, og_55_7, op_55_1, og_55_6, og_55_0, jx_Denial_consider_169, kb_Denial_consider_169, oa_55, os_55, oa_56, oa_60, l4, oa_56, oa_60, upz_upd, upz_eq]
        refine ⟨by decide, ?_⟩
        show am_ac 0 0 (nI l.length) (fun c => Q none (am_set (ov h3 (upz F4 55 (upz (F4 55) 1 (nI l.length))) J V3) 56 c)) (aI 2 (am_ar 13 (F4 60))) (aI 2 (am_ar 13 (F4 56)))
        rw [acI l2, ov_c13]
        refine K e3 h3 _ V3 q3 w1 w2 w3 w4 w6 ⟨w5, L3, g3, w7.cg ?_⟩ ⟨?_, l3, l2, fun i hi => ?_⟩ (fun x hx => ?_)
        · rw [upz_ne _ _ (by decide), upz_ne _ _ (by decide)]; exact l6 59 (by decide) (by decide)
        · rw [upz_ne _ _ (by decide), upz_eq, upz_eq]
        · rw [upz_eq, ovr_in (by omega) (by omega)]; exact l5 i hi
        · rw [upz_ne _ _ (by omega), upz_ne _ _ (by omega)]; exact o4 x hx
      have keep : stW2 o (some l) = o → am_W kc_Denial_consider (am_cl (d + 3)) Q 169 [.ref 55, .ref 47, .int (nI (wN T P)), .int (nI (2 ^ wN1 T P - 1)), .int (nI 256), v5] [] (ov h3 F4 J V3) := by
        intro es
        rw [es] at K
        simp only [isO_c, ax0, ex_cons, am_get, upz_at, true_and, and_true, Nat.reduceAdd, Nat.reduceLeDiff, Nat.reduceEqDiff, Nat.reduceSub, Int32.reduceOfInt, Int32.reduceAdd, Int32.reduceMul, Int32.reduceSub, ↓reduceIte, Int32.reduceLT, Int32.reduceLE, Int32.reduceToNatClampNeg, Nat.reduceMod, Nat.reduceLT, List.length_cons, List.length_nil, eq_self, true_or, or_true, and_self, implies_true, not_true_eq_false, not_false_eq_true, false_implies, true_implies, forall_const, st_return_x, jx_Denial_consider_169, kb_Denial_consider_169]
        refine K e3 h3 F4 V3 q3 w1 w2 w3 w4 w6 q4 ?_ o4
        unfold BC at hB ⊢
        rw [s1, r1]
        exact hB
      cases o with
      | none =>
        have hB : F 55 1 = 0 := hB
        rw [hB] at s1
        simp only [isO_c, ax0, ex_cons, am_get, upz_at, true_and, and_true, Nat.reduceAdd, Nat.reduceLeDiff, Nat.reduceEqDiff, Nat.reduceSub, Int32.reduceOfInt, Int32.reduceAdd, Int32.reduceMul, Int32.reduceSub, ↓reduceIte, Int32.reduceLT, Int32.reduceLE, Int32.reduceToNatClampNeg, Nat.reduceMod, Nat.reduceLT, List.length_cons, List.length_nil, eq_self, true_or, or_true, and_self, implies_true, not_true_eq_false, not_false_eq_true, false_implies, true_implies, forall_const, st_aloadx, st_getfieldx, st_goto_wx, st_ifCondx, st_if_icmpx, st_iloadx, st_in1, st_in2, jx_Denial_consider_98, kb_Denial_consider_98, oo_55, og_55_1, og_55_7, oa_55, s1]
        exact copy rfl
      | some b =>
        obtain ⟨b1, b2, b3, b4⟩ := hB
        rw [b1] at s1
        simp only [isO_c, ax0, ex_cons, am_get, upz_at, true_and, and_true, Nat.reduceAdd, Nat.reduceLeDiff, Nat.reduceEqDiff, Nat.reduceSub, Int32.reduceOfInt, Int32.reduceAdd, Int32.reduceMul, Int32.reduceSub, ↓reduceIte, Int32.reduceLT, Int32.reduceLE, Int32.reduceToNatClampNeg, Nat.reduceMod, Nat.reduceLT, List.length_cons, List.length_nil, eq_self, true_or, or_true, and_self, implies_true, not_true_eq_false, not_false_eq_true, false_implies, true_implies, forall_const, st_aloadx, st_getfieldx, st_goto_wx, st_ifCondx, st_if_icmpx, st_iloadx, st_in1, st_in2, jx_Denial_consider_98, kb_Denial_consider_98, oo_55, og_55_1, og_55_7, oa_55, s1, show (nI b.length = (0 : Int32)) = (b.length = 0) from nk_eq (b := 0) (by omega) (by decide), show ¬ b.length = 0 by omega, l4, show (nI l.length < nI b.length) = (l.length < b.length) from nk_lt (by omega) (by omega), show (nI l.length = nI b.length) = (l.length = b.length) from nk_eq (by omega) (by omega)]
        have es : stW2 (some b) (some l) = (if l.length < b.length ∨ (l.length = b.length ∧ lxB l b = true) then some l else some b) := rfl
        refine ⟨fun y => copy (by rw [es, if_pos (Or.inl y)]), fun y => ⟨fun x => keep (by rw [es, if_neg (fun t => t.elim y (fun t => x t.1))]), fun x => ?_⟩⟩
        have x := Classical.not_not.mp x
        refine c_trialIsAhead x b3 l4 l5 (by rw [r1]; exact b4) ?_
        simp only [isO_c, ax0, ex_cons, am_get, upz_at, true_and, and_true, Nat.reduceAdd, Nat.reduceLeDiff, Nat.reduceEqDiff, Nat.reduceSub, Int32.reduceOfInt, Int32.reduceAdd, Int32.reduceMul, Int32.reduceSub, ↓reduceIte, Int32.reduceLT, Int32.reduceLE, Int32.reduceToNatClampNeg, Nat.reduceMod, Nat.reduceLT, List.length_cons, List.length_nil, eq_self, true_or, or_true, and_self, implies_true, not_true_eq_false, not_false_eq_true, false_implies, true_implies, forall_const, st_aloadx, st_getfieldx, st_goto_wx, st_ifCondx, st_if_icmpx, st_iloadx, st_in1, st_in2, jx_Denial_consider_98, kb_Denial_consider_98, oo_55, og_55_1, og_55_7, oa_55]
        refine ifb (fun t => keep (by rw [es, if_neg (fun u => u.elim y (fun u => by rw [t] at u; exact absurd u.2 (by decide)))])) (fun t => copy (by rw [es, if_pos (Or.inr ⟨x, t⟩)]))
    have key : ∀ j gR F1 n v5, gR + j = 256 → (∀ x, x < 55 ∨ 58 < x ∨ x = 56 → F1 x = F x) → (∀ i, i ≠ 4 → F1 55 i = F 55 i) → F1 55 4 = nI n → MkS n (F1 58) T P gR → (∀ r, r < gR → F1 57 r = nI (cm T P r)) → am_W kc_Denial_consider (am_cl (d + 3)) Q 37 [.ref 55, .ref 47, .int (nI (wN T P)), .int (nI (2 ^ wN1 T P - 1)), .int (nI gR), v5] [] (ov h F1 J V) := by
      intro j
      induction j with
      | zero =>
        intro gR F1 n v5 eg o1 o2 f4 hM f57
        have eg : gR = 256 := eg
        subst eg
        rw [jx_Denial_consider_37]
        simp only [isO_c, ax0, ex_cons, am_get, upz_at, true_and, and_true, Nat.reduceAdd, Nat.reduceLeDiff, Nat.reduceEqDiff, Nat.reduceSub, Int32.reduceOfInt, Int32.reduceAdd, Int32.reduceMul, Int32.reduceSub, ↓reduceIte, Int32.reduceLT, Int32.reduceLE, Int32.reduceToNatClampNeg, Nat.reduceMod, Nat.reduceLT, List.length_cons, List.length_nil, eq_self, true_or, or_true, and_self, implies_true, not_true_eq_false, not_false_eq_true, false_implies, true_implies, forall_const, st_aloadx, st_gotox, st_iconstx, st_ifCondx, st_if_icmpx, st_iloadx, st_in2, kb_Denial_consider_37, oo_47, oa_47, show ((256 : Int32) ≤ nI (256)) = (256 ≤ 256) from nk_le (a := 256) (b := 256) (by omega) (by omega), Nat.le_refl]
        exact fin F1 n _ o1 o2 f4 hM f57
      | succ j ih =>
        intro gR F1 n v5 eg o1 o2 f4 hM f57
        have t1 : TT F1 J 47 T P := hT.c47 (o1 47 (by omega))
        have nx : am_W kc_Denial_consider (am_cl (d + 3)) Q 75 [.ref 55, .ref 47, .int (nI (wN T P)), .int (nI (2 ^ wN1 T P - 1)), .int (nI gR), v5] [.int (nI (cm T P gR))] (ov h F1 J V) := by
          simp only [isO_c, ax0, ex_cons, am_get, upz_at, true_and, and_true, Nat.reduceAdd, Nat.reduceLeDiff, Nat.reduceEqDiff, Nat.reduceSub, Int32.reduceOfInt, Int32.reduceAdd, Int32.reduceMul, Int32.reduceSub, ↓reduceIte, Int32.reduceLT, Int32.reduceLE, Int32.reduceToNatClampNeg, Nat.reduceMod, Nat.reduceLT, List.length_cons, List.length_nil, eq_self, true_or, or_true, and_self, implies_true, not_true_eq_false, not_false_eq_true, false_implies, true_implies, forall_const, st_aloadx, st_getfieldx, st_gotox, st_iastorex, st_iincx, st_iloadx, st_in2, st_istorex, am_put, am_nlg, jx_Denial_consider_75, kb_Denial_consider_75, og_55_2, oo_55, oa_55, oa_57, ow_57, os_57, nk_neg (show gR < 2147483648 by omega), nk_cl (show gR < 2147483648 by omega), show gR < 256 by omega]
          refine c_noteMask hw1 (show gR < 256 by omega) (n := n) (by rw [upz_ne _ _ (by decide)]; exact f4) (by rw [upz_ne _ _ (by decide)]; exact hM) (fun F2 n' a1 a2 a3 a4 => ?_)
          simp only [isO_c, ax0, ex_cons, am_get, upz_at, true_and, and_true, Nat.reduceAdd, Nat.reduceLeDiff, Nat.reduceEqDiff, Nat.reduceSub, Int32.reduceOfInt, Int32.reduceAdd, Int32.reduceMul, Int32.reduceSub, ↓reduceIte, Int32.reduceLT, Int32.reduceLE, Int32.reduceToNatClampNeg, Nat.reduceMod, Nat.reduceLT, List.length_cons, List.length_nil, eq_self, true_or, or_true, and_self, implies_true, not_true_eq_false, not_false_eq_true, false_implies, true_implies, forall_const, st_aloadx, st_getfieldx, st_gotox, st_iastorex, st_iincx, st_iloadx, st_in2, st_istorex, am_put, am_nlg, jx_Denial_consider_75, kb_Denial_consider_75, og_55_2, oo_55, oa_55, oa_57, ow_57, os_57, nk_succ]
          refine ih (gR + 1) F2 n' _ (by omega) (fun x hx => ?_) (fun i hi => ?_) a3 a4 (fun r hr => ?_)
          · rw [a1 x (by omega) (by omega), upz_ne _ _ (by omega)]; exact o1 x hx
          · rw [a2 i hi, upz_ne _ _ (by decide)]; exact o2 i hi
          · rw [a1 57 (by decide) (by decide), upz_eq]
            by_cases t : r = gR
            · rw [t, upz_eq]
            · rw [upz_ne _ _ t]; exact f57 r (by omega)
        rw [jx_Denial_consider_37]
        simp only [isO_c, ax0, ex_cons, am_get, upz_at, true_and, and_true, Nat.reduceAdd, Nat.reduceLeDiff, Nat.reduceEqDiff, Nat.reduceSub, Int32.reduceOfInt, Int32.reduceAdd, Int32.reduceMul, Int32.reduceSub, ↓reduceIte, Int32.reduceLT, Int32.reduceLE, Int32.reduceToNatClampNeg, Nat.reduceMod, Nat.reduceLT, List.length_cons, List.length_nil, eq_self, true_or, or_true, and_self, implies_true, not_true_eq_false, not_false_eq_true, false_implies, true_implies, forall_const, st_aloadx, st_gotox, st_iconstx, st_ifCondx, st_if_icmpx, st_iloadx, st_in2, kb_Denial_consider_37, oo_47, oa_47, show ((256 : Int32) ≤ nI (gR)) = (256 ≤ gR) from nk_le (a := 256) (b := gR) (by omega) (by omega), show ¬ 256 ≤ gR by omega, show (nI (wN T P) ≤ (0 : Int32)) = (wN T P ≤ 0) from nk_le (b := 0) (by omega) (by decide)]
        refine ⟨fun y => ?_, fun y => ?_⟩
        · simp only [isO_c, ax0, ex_cons, am_get, upz_at, true_and, and_true, Nat.reduceAdd, Nat.reduceLeDiff, Nat.reduceEqDiff, Nat.reduceSub, Int32.reduceOfInt, Int32.reduceAdd, Int32.reduceMul, Int32.reduceSub, ↓reduceIte, Int32.reduceLT, Int32.reduceLE, Int32.reduceToNatClampNeg, Nat.reduceMod, Nat.reduceLT, List.length_cons, List.length_nil, eq_self, true_or, or_true, and_self, implies_true, not_true_eq_false, not_false_eq_true, false_implies, true_implies, forall_const, st_aloadx, st_getfieldx, st_gotox, st_iconstx, st_ifCondx, st_iloadx, st_st2, jx_Denial_consider_58, kb_Denial_consider_58, og_47_0, oa_47, oa_48]
          refine c_isIn (a := 48) (f := J 48) oa_48 (show gR < 256 by omega) ?_
          rw [show bJ (J 48) gR = !T.1 gR from hT.1 gR (by omega)]
          have ec : cm T P gR = if T.1 gR then 0 else 1 := by
            unfold cm
            rw [if_pos (show wN T P = 0 by omega)]
          rw [ec] at nx
          simp only [isO_c, ax0, ex_cons, am_get, upz_at, true_and, and_true, Nat.reduceAdd, Nat.reduceLeDiff, Nat.reduceEqDiff, Nat.reduceSub, Int32.reduceOfInt, Int32.reduceAdd, Int32.reduceMul, Int32.reduceSub, ↓reduceIte, Int32.reduceLT, Int32.reduceLE, Int32.reduceToNatClampNeg, Nat.reduceMod, Nat.reduceLT, List.length_cons, List.length_nil, eq_self, true_or, or_true, and_self, implies_true, not_true_eq_false, not_false_eq_true, false_implies, true_implies, forall_const, st_aloadx, st_getfieldx, st_gotox, st_goto_wx, st_iconstx, st_ifCondx, st_iloadx, st_st2, jx_Denial_consider_58, kb_Denial_consider_58, og_47_0, jx_Denial_consider_74, kb_Denial_consider_74, oa_47, oa_48]
          cases t : T.1 gR
          · rw [t] at nx
            exact ⟨fun u => absurd u (by decide), fun _ => nx⟩
          · rw [t] at nx
            exact ⟨fun _ => nx, fun u => absurd rfl u⟩
        · refine c_wantsMet t1 (show gR < 256 by omega) ?_
          have ec : cm T P gR = if T.1 gR then 0 else nbt T P gR 4 := by
            unfold cm
            rw [if_neg (show ¬ wN T P = 0 by omega)]
          rw [← ec]
          simp only [isO_c, ax0, ex_cons, am_get, upz_at, true_and, and_true, Nat.reduceAdd, Nat.reduceLeDiff, Nat.reduceEqDiff, Nat.reduceSub, Int32.reduceOfInt, Int32.reduceAdd, Int32.reduceMul, Int32.reduceSub, ↓reduceIte, Int32.reduceLT, Int32.reduceLE, Int32.reduceToNatClampNeg, Nat.reduceMod, Nat.reduceLT, List.length_cons, List.length_nil, eq_self, true_or, or_true, and_self, implies_true, not_true_eq_false, not_false_eq_true, false_implies, true_implies, forall_const, st_aloadx, st_gotox, st_iconstx, st_ifCondx, st_if_icmpx, st_iloadx, st_in2, kb_Denial_consider_37, oo_47, oa_47]
          exact nx
    refine key 256 0 _ 0 _ rfl (fun x hx => upz_ne _ _ (by omega)) (fun i hi => by rw [upz_eq, upz_ne _ _ hi]) (by rw [upz_eq, upz_eq]; rfl) ⟨Nat.le_refl _, fun j hj => absurd hj (Nat.not_lt_zero j), fun r hr => absurd hr (Nat.not_lt_zero r)⟩ (fun r hr => absurd hr (Nat.not_lt_zero r))
  · have ew : wlO T = none := by unfold wlO; rw [z, if_pos rfl]
    rw [ew] at K
    simp only [isO_c, ax0, ex_cons, am_get, upz_at, true_and, and_true, Nat.reduceAdd, Nat.reduceLeDiff, Nat.reduceEqDiff, Nat.reduceSub, Int32.reduceOfInt, Int32.reduceAdd, Int32.reduceMul, Int32.reduceSub, ↓reduceIte, Int32.reduceLT, Int32.reduceLE, Int32.reduceToNatClampNeg, Nat.reduceMod, Nat.reduceLT, List.length_cons, List.length_nil, eq_self, true_or, or_true, and_self, implies_true, not_true_eq_false, not_false_eq_true, false_implies, true_implies, forall_const, st_aloadx, st_goto_wx, st_iconstx, st_ifCondx, st_if_icmpx, st_iloadx, st_in1, st_istorex, st_return_x, am_put, am_nlg, kb_Denial_consider_0, oo_47, jx_Denial_consider_18, kb_Denial_consider_18, oa_47, Bool.not_true, show b2i false = (0 : Int32) from rfl]
    exact K e h F V q (Gw.rf ke e2) (Or.inl rfl) (Nat.le_succ _) (Nat.le_add_right _ _) (fun _ _ => rfl) hq hB (fun _ _ => rfl)
end CCO
