/-! ===== the class: sentences, desks, assume ===== -/
def nmI (R : rT) : Int32 := if R.1 = 10 then nI R.2.2.1 else -1
def moI (R : rT) : Int32 := match nuR R with
  | none => -1
  | some n => nI (n / 64)
def skI (R : rT) : Int32 := match nuR R with
  | none => -1
  | some n => nI (n / 8 % 8)
def pkI (R : rT) : Int32 := match nuR R with
  | none => -1
  | some n => nI (n % 8)
/-- a sentence of the class's, in the cells beyond the fixed ones -/
def SR (h : am_H) (p : Nat) (R : rT) : Prop := wfR R ∧ ∃ (a b c : Nat) (fs fb : Nat → Int64), (108 ≤ p ∧ p < h.2.1) ∧ (108 ≤ a ∧ a < h.2.1) ∧ (108 ≤ b ∧ b < h.2.1) ∧ (108 ≤ c ∧ c < h.2.1) ∧ h.1 p = aO 6 [.int (nI (saR R)), .int (nmI R), .int (b2i (hsR R)), .int (moI R), .int (skI R), .int (pkI R), .ref a, .ref b, .ref c] ∧ h.1 a = aJ (am_ar 4 fs) ∧ (∀ r, r < 256 → bJ fs r = seR R r) ∧ h.1 b = aJ (am_ar 4 fb) ∧ (hsR R = true → ∀ r, r < 256 → bJ fb r = suR R r) ∧ h.1 c = aI 1 (am_ar (txR R).length (fun i => nI ((txR R).getD i 0)))
theorem SR.cl {h : am_H} {p : Nat} {R : rT} (hs : SR h p R) {F : Nat → Nat → Int32} {J : Nat → Nat → Int64} {V : Nat → Nat → Value} : CL (ov h F J V) p (clR R) := by
  obtain ⟨hw, a, b, c, fs, fb, h1, h2, h3, h4, h5, h6, h7, h8, h9, h10⟩ := hs
  refine ⟨nmI R, moI R, skI R, pkI R, a, b, c, by rw [ov_hi (by omega)]; exact h5, saR_le R, fun q => ?_, ⟨fs, by rw [ov_hi (by omega)]; exact h6, h7⟩, ⟨fb, by rw [ov_hi (by omega)]; exact h8, h9⟩, ?_, ?_, ?_, by omega, by omega⟩
  · have h10 := saR_2 q
    exact ⟨by unfold nmI; rw [if_pos h10]; rfl, hw.2.2.2.2 h10⟩
  · unfold isTh; omega
  · unfold isTh; omega
  · unfold isTh; omega
def vS (h : am_H) (v : Value) : Prop := v = .null ∨ ∃ p R, v = .ref p ∧ SR h p R
/-- a desk of the class's -/
def DK (h : am_H) (F : Nat → Nat → Int32) (V : Nat → Nat → Value) (δ : Nat) (X : kT) : Prop := (F δ 1 = nI X.1.1 ∧ X.1.1 ≤ 12 ∧ ∀ i, i < X.1.1 → ∃ p, V (δ + 1) i = .ref p ∧ SR h p (X.1.2.1 i)) ∧ (if X.1.2.2.1 then ∃ p, V δ 2 = .ref p ∧ SR h p (X.1.2.1 12) else V δ 2 = .null) ∧ F δ 3 = b2i X.1.2.2.2 ∧ (F δ 6 = nI X.2.1 ∧ X.2.1 ≤ 12 ∧ ∀ i, i < X.2.1 → (∃ p, V (δ + 2) i = .ref p ∧ SR h p (X.2.2 i).1) ∧ F (δ + 3) i = b2i (X.2.2 i).2) ∧ (∀ i, i < 12 → vS h (V (δ + 1) i) ∧ vS h (V (δ + 2) i)) ∧ ∀ i, i < 12 → F (δ + 3) i = 0 ∨ F (δ + 3) i = 1
theorem hz_top {cs : Nat → cT} {ex : Bool} {hp n : Nat} : ∀ j, (∀ k, n ≤ k → hp.testBit k = false) → hz cs ex hp (n + j) = hz cs ex hp n
  | 0, _ => rfl
  | j + 1, h => by
    show (if hp.testBit (n + j) then _ else hz cs ex hp (n + j)) = _
    rw [h (n + j) (by omega), if_neg Bool.false_ne_true]
    exact hz_top j h
def pcn (P : Nat) : Nat := cn (fun i => P.testBit i) 4
theorem cn_or {P w : Nat} : ∀ n, cn (fun i => (P ||| 2 ^ w).testBit i) n ≤ cn (fun i => P.testBit i) n + (if w < n then 1 else 0)
  | 0 => by rw [if_neg (Nat.not_lt_zero w)]; exact Nat.le_refl _
  | n + 1 => by
    have ih := cn_or (P := P) (w := w) n
    show cn (fun i => (P ||| 2 ^ w).testBit i) n + (if (P ||| 2 ^ w).testBit n then 1 else 0) ≤ cn (fun i => P.testBit i) n + (if P.testBit n then 1 else 0) + _
    by_cases e : w = n
    · subst e
      rw [if_neg (Nat.lt_irrefl w)] at ih
      rw [if_pos (Nat.lt_succ_self w)]
      split <;> split <;> omega
    · rw [Nat.testBit_or, Nat.testBit_two_pow_of_ne e, Bool.or_false]
      by_cases g : w < n
      · rw [if_pos g] at ih; rw [show (if w < n + 1 then 1 else 0) = 1 from if_pos (by omega)]; omega
      · rw [if_neg g] at ih; rw [show (if w < n + 1 then 1 else 0) = 0 from if_neg (by omega)]; omega
/-- a claim granted wants one more at most -/
theorem gr_sz {T : tT} {P : Nat} {C : cT} (hc : cOk C) (ex : Bool) : (tellz T C ex).2.1.length + pcn (plC P C) ≤ T.2.1.length + pcn P + 1 := by
  unfold tellz plC
  by_cases e2 : C.1 = 2
  · have h2 : C.2.1 = false := by
      cases e : C.2.1
      · rfl
      · have := hc e; omega
    rw [if_pos e2, h2, Bool.and_false, if_neg Bool.false_ne_true, e2]
    have e3 : (tz T 2 C.2.2.2.1 C.2.2.1 true).2.1 = T.2.1 := rfl
    rw [e3]
    have := cn_or (P := P) (w := C.2.2.1) 4
    unfold pcn
    split at this <;> omega
  · rw [if_neg e2]
    by_cases e1 : C.1 = 0
    · rw [e1]
      have e3 : tz T 0 C.2.2.2.1 C.2.2.1 true = (fun r => T.1 r || C.2.2.2.1 r, T.2.1, T.2.2) := rfl
      rw [e3]
      split
      · have := tz_len (fun r => T.1 r || C.2.2.2.1 r, T.2.1, T.2.2) 1 C.2.2.2.2 0 true
        have : (tz (fun r => T.1 r || C.2.2.2.1 r, T.2.1, T.2.2) 1 C.2.2.2.2 0 true).2.1.length ≤ T.2.1.length + 1 := this
        omega
      · show T.2.1.length + _ ≤ _; omega
    · have h2 : C.2.1 = false := by
        cases e : C.2.1
        · rfl
        · exact absurd (hc e) e1
      rw [h2, Bool.and_false, if_neg Bool.false_ne_true]
      have := tz_len T C.1 C.2.2.2.1 C.2.2.1 true
      omega
theorem pcn0 : pcn 0 = 0 := by decide
section CDK
variable {d : Nat} {h : am_H} {F : Nat → Nat → Int32} {J : Nat → Nat → Int64} {V : Nat → Nat → Value} {Q : am_Q}
theorem bit_and {hp k : Nat} (hk : k < 32) : (nI hp &&& nI (2 ^ k) = 0) = (hp.testBit k = false) := by
  rw [and_pow hk, nk_tb hk]
set_option maxRecDepth 20000 in
theorem c_assume {X : kT} (hD : DK h F V 34 X) {hp : Nat} (hhp : hp < 2 ^ X.1.1) (K : ∀ F' J' P, TT F' J' 47 (hzD X.1 hp) P → (hzD X.1 hp).2.1.length + pcn P ≤ X.1.1 → Tth 47 F F' J J' → Q none (ov h F' J' V)) : am_cl (d + 3) 26 [.ref 23, .int (nI hp)] (ov h F J V) Q := by
  obtain ⟨⟨d1, d2, d3⟩, d4, d5, _⟩ := hD
  have hbit : ∀ k, X.1.1 ≤ k → hp.testBit k = false := fun k hk => by
    cases e : hp.testBit k
    · rfl
    · have := hp_bit hhp e; omega
  have e12 : hzD X.1 hp = hz (csD X.1) X.1.2.2.2 hp X.1.1 := by
    unfold hzD
    rw [show 12 = X.1.1 + (12 - X.1.1) by omega]
    exact hz_top _ hbit
  rw [e12] at K
  simp only [isO_c, ax0, ex_cons, am_get, upz_at, true_and, and_true, Nat.reduceAdd, Nat.reduceLeDiff, Nat.reduceEqDiff, Nat.reduceSub, Int32.reduceOfInt, Int32.reduceAdd, Int32.reduceMul, Int32.reduceSub, ↓reduceIte, Int32.reduceLT, Int32.reduceLE, Int32.reduceToNatClampNeg, Nat.reduceMod, Nat.reduceLT, List.length_cons, List.length_nil, eq_self, true_or, or_true, and_self, implies_true, not_true_eq_false, not_false_eq_true, false_implies, true_implies, forall_const, st_aloadx, st_getfieldx, st_goto_wx, st_iconstx, st_in1, st_istorex, am_put, am_nlg, kb_Slips_assume_0, og_23_3, oo_47, oa_23, oa_47, cx_Slips_assume]
  refine c_clear (Or.inl rfl) (fun F1 J1 t1 q1 => ?_)
  simp only [isO_c, ax0, ex_cons, am_get, upz_at, true_and, and_true, Nat.reduceAdd, Nat.reduceLeDiff, Nat.reduceEqDiff, Nat.reduceSub, Int32.reduceOfInt, Int32.reduceAdd, Int32.reduceMul, Int32.reduceSub, ↓reduceIte, Int32.reduceLT, Int32.reduceLE, Int32.reduceToNatClampNeg, Nat.reduceMod, Nat.reduceLT, List.length_cons, List.length_nil, eq_self, true_or, or_true, and_self, implies_true, not_true_eq_false, not_false_eq_true, false_implies, true_implies, forall_const, st_aloadx, st_getfieldx, st_goto_wx, st_iconstx, st_in1, st_istorex, am_put, am_nlg, kb_Slips_assume_0, og_23_3, oo_47, oa_23, oa_47]
  have key : ∀ j k F2 J2 P v3, k + j = X.1.1 → TT F2 J2 47 (hz (csD X.1) X.1.2.2.2 hp k) P → (hz (csD X.1) X.1.2.2.2 hp k).2.1.length + pcn P ≤ k → Tth 47 F F2 J J2 → am_W kc_Slips_assume (am_cl (d + 2)) Q 9 [.ref 23, .int (nI hp), .int (nI k), v3] [] (ov h F2 J2 V) := by
    intro j
    induction j with
    | zero =>
      intro k F2 J2 P v3 ek t2 s2 q2
      have ek : k = X.1.1 := ek
      subst ek
      have h34 : F2 34 1 = nI X.1.1 := by rw [q2.1 34 (by decide)]; exact d1
      rw [jx_Slips_assume_9]
      simp only [isO_c, ax0, ex_cons, am_get, upz_at, true_and, and_true, Nat.reduceAdd, Nat.reduceLeDiff, Nat.reduceEqDiff, Nat.reduceSub, Int32.reduceOfInt, Int32.reduceAdd, Int32.reduceMul, Int32.reduceSub, ↓reduceIte, Int32.reduceLT, Int32.reduceLE, Int32.reduceToNatClampNeg, Nat.reduceMod, Nat.reduceLT, List.length_cons, List.length_nil, eq_self, true_or, or_true, and_self, implies_true, not_true_eq_false, not_false_eq_true, false_implies, true_implies, forall_const, st_aaloadx, st_aloadx, st_astorex, st_astore_1x, st_getfieldx, st_goto_wx, st_iandx, st_iconstx, st_ifCondx, st_if_icmpx, st_ifnullx, st_ifnull_1x, st_iloadx, st_in3, st_ishlx, st_return_x, am_put, am_nlg, kb_Slips_assume_9, og_23_1, og_34_1, og_34_0, og_23_3, og_34_3, oo_47, jx_Slips_assume_63, kb_Slips_assume_63, oa_23, oa_34, oa_47, oa_35, or_35, h34, (nk_le (by omega) (by omega) : (nI (X.1.1) ≤ nI (X.1.1)) = (X.1.1 ≤ X.1.1)), Nat.le_refl]
      exact K F2 J2 P t2 s2 q2
    | succ j ih =>
      intro k F2 J2 P v3 ek t2 s2 q2
      have h34 : F2 34 1 = nI X.1.1 := by rw [q2.1 34 (by decide)]; exact d1
      have h343 : F2 34 3 = b2i X.1.2.2.2 := by rw [q2.1 34 (by decide)]; exact d5
      obtain ⟨p, hp1, hp2⟩ := d3 k (by omega)
      have hp1 : V 35 k = .ref p := hp1
      have ih := ih (k + 1)
      unfold hz at ih
      rw [jx_Slips_assume_9]
      simp only [isO_c, ax0, ex_cons, am_get, upz_at, true_and, and_true, Nat.reduceAdd, Nat.reduceLeDiff, Nat.reduceEqDiff, Nat.reduceSub, Int32.reduceOfInt, Int32.reduceAdd, Int32.reduceMul, Int32.reduceSub, ↓reduceIte, Int32.reduceLT, Int32.reduceLE, Int32.reduceToNatClampNeg, Nat.reduceMod, Nat.reduceLT, List.length_cons, List.length_nil, eq_self, true_or, or_true, and_self, implies_true, not_true_eq_false, not_false_eq_true, false_implies, true_implies, forall_const, st_aaloadx, st_aloadx, st_astorex, st_astore_1x, st_getfieldx, st_gotox, st_goto_wx, st_iandx, st_iconstx, st_ifCondx, st_if_icmpx, st_ifnullx, st_ifnull_1x, st_iincx, st_iloadx, st_in3, st_ishlx, am_put, am_nlg, kb_Slips_assume_9, og_23_1, og_34_1, og_34_0, og_23_3, og_34_3, oo_47, jx_Slips_assume_57, kb_Slips_assume_57, oa_23, oa_34, oa_47, oa_35, or_35, oa_35, or_35, h34, h343, (nk_le (by omega) (by omega) : (nI (X.1.1) ≤ nI (k)) = (X.1.1 ≤ k)), show ¬ X.1.1 ≤ k by omega, nk_neg (show k < 2147483648 by omega), nk_cl (show k < 2147483648 by omega), show k < 12 by omega, hp1, nk_1shl (show k < 32 by omega), bit_and (show k < 32 by omega), nk_succ]
      refine And.intro (fun e => ?_) (fun e => ?_)
      · rw [e, if_neg Bool.false_ne_true] at ih
        exact ih F2 J2 P _ (by omega) t2 (by omega) q2
      · rw [Bool.not_eq_false] at e
        rw [e, if_pos rfl] at ih
        refine c_grantClaim (Or.inl rfl) t2 (by omega) (hp2.cl) (clR_ok _) (fun F3 J3 t3 q3 => ?_)
        simp only [isO_c, ax0, ex_cons, am_get, upz_at, true_and, and_true, Nat.reduceAdd, Nat.reduceLeDiff, Nat.reduceEqDiff, Nat.reduceSub, Int32.reduceOfInt, Int32.reduceAdd, Int32.reduceMul, Int32.reduceSub, ↓reduceIte, Int32.reduceLT, Int32.reduceLE, Int32.reduceToNatClampNeg, Nat.reduceMod, Nat.reduceLT, List.length_cons, List.length_nil, eq_self, true_or, or_true, and_self, implies_true, not_true_eq_false, not_false_eq_true, false_implies, true_implies, forall_const, st_aaloadx, st_aloadx, st_astorex, st_astore_1x, st_getfieldx, st_gotox, st_goto_wx, st_iandx, st_iconstx, st_ifCondx, st_if_icmpx, st_ifnullx, st_ifnull_1x, st_iincx, st_iloadx, st_in3, st_ishlx, am_put, am_nlg, kb_Slips_assume_9, og_23_1, og_34_1, og_34_0, og_23_3, og_34_3, oo_47, jx_Slips_assume_57, kb_Slips_assume_57, oa_23, oa_34, oa_47, oa_35, or_35, nk_succ]
        have := gr_sz (T := hz (csD X.1) X.1.2.2.2 hp k) (P := P) (clR_ok (X.1.2.1 k)) X.1.2.2.2
        exact ih F3 J3 _ _ (by omega) t3 (by show (tellz _ (clR (X.1.2.1 k)) _).2.1.length + _ ≤ _; omega) (q2.tr q3)
  exact key X.1.1 0 F1 J1 0 _ (by omega) t1 (by show 0 + pcn 0 ≤ 0; rw [pcn0]; exact Nat.le_refl _) q1
set_option maxRecDepth 20000 in
theorem c_hasHeap {X : kT} (hD : DK h F V 34 X) {x : Int32} (K : Q (some (.int (b2i (hpB X.1.1 x)))) (ov h F J V)) : am_cl (d + 1) 92 [.ref 34, .int x] (ov h F J V) Q := by
  obtain ⟨⟨d1, d2, d3⟩, _⟩ := hD
  have hp1 : 1 ≤ 2 ^ X.1.1 := Nat.one_le_two_pow
  have hp2 : 2 ^ X.1.1 ≤ 4096 := (Nat.pow_le_pow_right (by decide) d2 : 2 ^ X.1.1 ≤ 2 ^ 12)
  simp only [isO_c, ax0, ex_cons, am_get, upz_at, true_and, and_true, Nat.reduceAdd, Nat.reduceLeDiff, Nat.reduceEqDiff, Nat.reduceSub, Int32.reduceOfInt, Int32.reduceAdd, Int32.reduceMul, Int32.reduceSub, ↓reduceIte, Int32.reduceLT, Int32.reduceLE, Int32.reduceToNatClampNeg, Nat.reduceMod, Nat.reduceLT, List.length_cons, List.length_nil, eq_self, true_or, or_true, and_self, implies_true, not_true_eq_false, not_false_eq_true, false_implies, true_implies, forall_const, st_aloadx, st_freturnx, st_getfieldx, st_gotox, st_goto_wx, st_iconstx, st_ifCondx, st_if_icmpx, st_iloadx, st_ishlx, kb_Desk_hasHeap_0, og_34_1, jx_Desk_hasHeap_18, kb_Desk_hasHeap_18, jx_Desk_hasHeap_19, kb_Desk_hasHeap_19, oa_34, cx_Desk_hasHeap, d1, nk_1shl (show X.1.1 < 32 by omega)]
  unfold hpB lieB at K
  refine And.intro (fun q => ?_) (fun q => ?_)
  · rw [decide_eq_true q] at K; exact K
  · rw [decide_eq_false q, Bool.not_false, Bool.true_and] at K
    obtain ⟨e1, e2⟩ := nk_of q
    generalize x.toNatClampNeg = k at e1 e2
    subst e1
    simp only [(nk_le (by omega) (by omega) : (nI (2 ^ X.1.1) ≤ nI (k)) = (2 ^ X.1.1 ≤ k))]
    refine And.intro (fun q2 => ?_) (fun q2 => ?_)
    · rw [decide_eq_true (show nI (2 ^ X.1.1 - 1) < nI k by rw [nk_lt (by omega) e2]; omega)] at K
      exact K
    · rw [decide_eq_false (show ¬ nI (2 ^ X.1.1 - 1) < nI k by rw [nk_lt (by omega) e2]; omega)] at K
      exact K
end CDK
