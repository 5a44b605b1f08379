/-! ===== the class: judge, pair, wrong ===== -/
def jd7 (m1 m2 w : Int32) (t : Bool) : Int32 := if unB m1 && unB m2 && !unB w && !t then 7 else 0
def jd6 (m1 m2 w : Int32) (t eN : Bool) : Int32 := if ngI w && !eN then 6 else jd7 m1 m2 w t
def jd5 (m1 m2 w : Int32) (t eN : Bool) : Int32 := if !ngI w && eN then 5 else jd6 m1 m2 w t eN
def jd4 (m1 m2 w : Int32) (t eN lm : Bool) : Int32 := if unB w && !(if !lm then unB m2 else ngI m2) then 4 else jd5 m1 m2 w t eN
def jd3 (m1 m2 w : Int32) (t eN lM lm : Bool) : Int32 := if ngI w && !(if !lM then unB m1 else ngI m1) then 3 else jd4 m1 m2 w t eN lm
def jd2 (m1 m2 w : Int32) (t eN lM lm : Bool) : Int32 := if !(if lM then unB m1 else ngI m1) && !(if lm then unB m2 else ngI m2) then 2 else jd3 m1 m2 w t eN lM lm
def jd1 (m1 m2 w : Int32) (t lM lm : Bool) : Int32 := if ngI m1 && ngI m2 then 1 else jd2 m1 m2 w t (ngI m1 || ngI m2) lM lm
theorem un_nI {m : Nat} (hm : m < 4) : unB (nI m) = decide (m < 2) := by
  rcases (show m = 0 ∨ m = 1 ∨ m = 2 ∨ m = 3 by omega) with e | e | e | e <;> subst e <;> rfl
theorem lt2_nI {m : Nat} (hm : m < 4) : decide (nI m < 2) = unB (nI m) ∧ decide ((1 : Int32) < nI m) = !unB (nI m) := by
  rcases (show m = 0 ∨ m = 1 ∨ m = 2 ∨ m = 3 by omega) with e | e | e | e <;> subst e <;> exact ⟨rfl, rfl⟩
theorem spB_s {n k : Nat} (na : isNu n = true) (h : k = n / 8 % 8) (hn : n < 256) : spB n k = unB (nI (n / 64)) := by
  have := isNu_ne na
  unfold spB
  rw [decide_eq_true h, decide_eq_false (show ¬ k = n % 8 by omega), Bool.true_and, Bool.false_and, Bool.or_false, un_nI (by omega)]
theorem spB_p {n k : Nat} (na : isNu n = true) (h : k = n % 8) : spB n k = ngI (nI (n / 64)) := by
  have := isNu_ne na
  unfold spB
  rw [decide_eq_true h, decide_eq_false (show ¬ k = n / 8 % 8 by omega), Bool.true_and, Bool.false_and, Bool.false_or]
theorem gWr_jd {a b : Nat} (ha : a < 256) (hb : b < 256) (na : isNu a = true) (nb : isNu b = true) {f : Nat} (hf : fgN a b = nI f) (h1 : 1 ≤ f) (h4 : f ≤ 4) {w : Nat} (hw : w < 4) (ex : Bool) : gWr ex (nI w) a b = jd1 (nI (a / 64)) (nI (b / 64)) (nI w) ex (decide (f = 1 ∨ f = 3)) (decide (f = 3 ∨ f = 4)) := by
  have n1 := isNu_ne na
  have n2 := isNu_ne nb
  have hm1 : spB a (mdN a b) = (if decide (f = 1 ∨ f = 3) then unB (nI (a / 64)) else ngI (nI (a / 64))) ∧ spB b (mdN a b) = (if decide (f = 3 ∨ f = 4) then unB (nI (b / 64)) else ngI (nI (b / 64))) ∧ spB a (otN a (mdN a b)) = (if !decide (f = 1 ∨ f = 3) then unB (nI (a / 64)) else ngI (nI (a / 64))) ∧ spB b (otN b (mdN a b)) = (if !decide (f = 3 ∨ f = 4) then unB (nI (b / 64)) else ngI (nI (b / 64))) := by
    have fe := hf
    unfold fgN fg at fe
    have ne : ∀ k, k ≤ 4 → ¬ (-1 : Int32) = nI k := fun k hk e => by
      have := nI_neg1 (b := k) (by omega)
      rw [← this]; exact e.symm
    by_cases c1 : a / 8 % 8 = b % 8
    · rw [if_pos c1] at fe
      by_cases c2 : a % 8 = b / 8 % 8
      · rw [if_pos c2] at fe; exact absurd fe (ne f h4)
      · rw [if_neg c2] at fe
        have ef : f = 1 := by
          have : nI 1 = nI f := fe
          rw [nk_eq (by decide) (by omega)] at this; exact this.symm
        subst ef
        have em : mdN a b = a / 8 % 8 := by unfold mdN; exact if_pos (Or.inl hf)
        have e1 : otN b (mdN a b) = b / 8 % 8 := by unfold otN; rw [if_neg (by omega)]
        have e2 : otN a (mdN a b) = a % 8 := by unfold otN; rw [if_pos (by omega)]
        exact ⟨spB_s na em ha, spB_p nb (by omega), spB_p na e2, spB_s nb e1 hb⟩
    · rw [if_neg c1] at fe
      by_cases c3 : a / 8 % 8 = b / 8 % 8
      · rw [if_pos c3] at fe
        by_cases c4 : a % 8 = b % 8
        · rw [if_pos c4] at fe; exact absurd fe (ne f h4)
        · rw [if_neg c4] at fe
          have ef : f = 3 := by
            have : nI 3 = nI f := fe
            rw [nk_eq (by decide) (by omega)] at this; exact this.symm
          subst ef
          have em : mdN a b = a / 8 % 8 := by unfold mdN; exact if_pos (Or.inr hf)
          have e1 : otN b (mdN a b) = b % 8 := by unfold otN; rw [if_pos (by omega)]
          have e2 : otN a (mdN a b) = a % 8 := by unfold otN; rw [if_pos (by omega)]
          exact ⟨spB_s na em ha, spB_s nb (by omega) hb, spB_p na e2, spB_p nb e1⟩
      · rw [if_neg c3] at fe
        by_cases c5 : a % 8 = b % 8
        · rw [if_pos c5] at fe
          have ef : f = 2 := by
            have : nI 2 = nI f := fe
            rw [nk_eq (by decide) (by omega)] at this; exact this.symm
          subst ef
          have em : mdN a b = a % 8 := by unfold mdN; rw [if_neg (by rw [hf]; decide)]
          have e1 : otN b (mdN a b) = b / 8 % 8 := by unfold otN; rw [if_neg (by omega)]
          have e2 : otN a (mdN a b) = a / 8 % 8 := by unfold otN; rw [if_neg (by omega)]
          exact ⟨spB_p na em, spB_p nb (by omega), spB_s na e2 ha, spB_s nb e1 hb⟩
        · rw [if_neg c5] at fe
          by_cases c6 : a % 8 = b / 8 % 8
          · rw [if_pos c6] at fe
            have ef : f = 4 := by
              have : nI 4 = nI f := fe
              rw [nk_eq (by decide) (by omega)] at this; exact this.symm
            subst ef
            have em : mdN a b = a % 8 := by unfold mdN; rw [if_neg (by rw [hf]; decide)]
            have e1 : otN b (mdN a b) = b % 8 := by unfold otN; rw [if_pos (by omega)]
            have e2 : otN a (mdN a b) = a / 8 % 8 := by unfold otN; rw [if_neg (by omega)]
            exact ⟨spB_p na em, spB_s nb (by omega) hb, spB_s na e2 ha, spB_p nb e1⟩
          · rw [if_neg c6] at fe; exact absurd fe (ne f h4)
  obtain ⟨g1, g2, g3, g4⟩ := hm1
  obtain ⟨l1, l2⟩ := lt2_nI hw
  unfold gWr wr2 wr3 wr4 wr5 wr6 wr7 jd1 jd2 jd3 jd4 jd5 jd6 jd7
  rw [g1, g2, g3, g4, l1, l2, un_nI (show a / 64 < 4 by omega), un_nI (show b / 64 < 4 by omega)]
  cases ngI (nI (a / 64)) <;> cases ngI (nI (b / 64)) <;> simp
section CJD
variable {d : Nat} {h : am_H} {F : Nat → Nat → Int32} {J : Nat → Nat → Int64} {V : Nat → Nat → Value} {Q : am_Q}
set_option maxRecDepth 20000 in
theorem c_isDistributed {hp : am_H} {x : Int32} {b : Bool} (K : Q (some (.int (b2i (if b then unB x else ngI x)))) hp) : am_cl (d + 2) 137 [.int x, .int (b2i b)] hp Q := by
  cases b
  · simp only [isO_c, ax0, ex_cons, am_get, upz_at, true_and, and_true, Nat.reduceAdd, Nat.reduceLeDiff, Nat.reduceEqDiff, Nat.reduceSub, Int32.reduceOfInt, Int32.reduceAdd, Int32.reduceMul, Int32.reduceSub, ↓reduceIte, Int32.reduceLT, Int32.reduceLE, Int32.reduceToNatClampNeg, Nat.reduceMod, Nat.reduceLT, List.length_cons, List.length_nil, eq_self, true_or, or_true, and_self, implies_true, not_true_eq_false, not_false_eq_true, false_implies, true_implies, forall_const, st_gotox, st_goto_wx, st_ifCondx, st_iloadx, st_st1, kb_Syllogism_isDistributed_0, jx_Syllogism_isDistributed_11, kb_Syllogism_isDistributed_11, cx_Syllogism_isDistributed, show b2i false = (0 : Int32) from rfl]
    refine c_isNegative ?_
    simp only [isO_c, ax0, ex_cons, am_get, upz_at, true_and, and_true, Nat.reduceAdd, Nat.reduceLeDiff, Nat.reduceEqDiff, Nat.reduceSub, Int32.reduceOfInt, Int32.reduceAdd, Int32.reduceMul, Int32.reduceSub, ↓reduceIte, Int32.reduceLT, Int32.reduceLE, Int32.reduceToNatClampNeg, Nat.reduceMod, Nat.reduceLT, List.length_cons, List.length_nil, eq_self, true_or, or_true, and_self, implies_true, not_true_eq_false, not_false_eq_true, false_implies, true_implies, forall_const, st_freturnx, st_goto_wx, st_iloadx, st_st1, jx_Syllogism_isDistributed_11, kb_Syllogism_isDistributed_11, jx_Syllogism_isDistributed_15, kb_Syllogism_isDistributed_15, b2i_01]
    exact K
  · simp only [isO_c, ax0, ex_cons, am_get, upz_at, true_and, and_true, Nat.reduceAdd, Nat.reduceLeDiff, Nat.reduceEqDiff, Nat.reduceSub, Int32.reduceOfInt, Int32.reduceAdd, Int32.reduceMul, Int32.reduceSub, ↓reduceIte, Int32.reduceLT, Int32.reduceLE, Int32.reduceToNatClampNeg, Nat.reduceMod, Nat.reduceLT, List.length_cons, List.length_nil, eq_self, true_or, or_true, and_self, implies_true, not_true_eq_false, not_false_eq_true, false_implies, true_implies, forall_const, st_gotox, st_ifCondx, st_iloadx, st_st1, kb_Syllogism_isDistributed_0, cx_Syllogism_isDistributed, show b2i true = (1 : Int32) from rfl]
    refine c_isUniversal ?_
    simp only [isO_c, ax0, ex_cons, am_get, upz_at, true_and, and_true, Nat.reduceAdd, Nat.reduceLeDiff, Nat.reduceEqDiff, Nat.reduceSub, Int32.reduceOfInt, Int32.reduceAdd, Int32.reduceMul, Int32.reduceSub, ↓reduceIte, Int32.reduceLT, Int32.reduceLE, Int32.reduceToNatClampNeg, Nat.reduceMod, Nat.reduceLT, List.length_cons, List.length_nil, eq_self, true_or, or_true, and_self, implies_true, not_true_eq_false, not_false_eq_true, false_implies, true_implies, forall_const, st_freturnx, st_gotox, st_ifCondx, st_iloadx, st_st1, kb_Syllogism_isDistributed_0, jx_Syllogism_isDistributed_15, kb_Syllogism_isDistributed_15, b2i_01]
    exact K
variable {m1 m2 w : Int32} {t eN lM lm : Bool}
set_option maxRecDepth 20000 in
theorem c_jd179 (h0 : F 65 0 = m1) (h1 : F 65 1 = m2) {v3 v4 v5 v6 : Value} (K : Q (some (.int (jd7 m1 m2 w t))) (ov h F J V)) : am_W kc_Syllogism_judge (am_cl (d + 2)) Q 179 [.ref 65, .int w, .int (b2i t), v3, v4, v5, v6] [] (ov h F J V) := by
  unfold jd7 at K
  have fin : ∀ b : Bool, b = (unB m1 && unB m2 && !unB w) → am_W kc_Syllogism_judge (am_cl (d + 2)) Q 211 [.ref 65, .int w, .int (b2i t), v3, v4, v5, v6] [.int (b2i b)] (ov h F J V) := by
    intro b eb
    rw [← eb] at K
    simp only [isO_c, ax0, ex_cons, am_get, upz_at, true_and, and_true, Nat.reduceAdd, Nat.reduceLeDiff, Nat.reduceEqDiff, Nat.reduceSub, Int32.reduceOfInt, Int32.reduceAdd, Int32.reduceMul, Int32.reduceSub, ↓reduceIte, Int32.reduceLT, Int32.reduceLE, Int32.reduceToNatClampNeg, Nat.reduceMod, Nat.reduceLT, List.length_cons, List.length_nil, eq_self, true_or, or_true, and_self, implies_true, not_true_eq_false, not_false_eq_true, false_implies, true_implies, forall_const, st_gotox, st_goto_wx, st_iconstx, st_ifCondx, st_iloadx, st_ireturnx, st_istorex, am_put, am_nlg, jx_Syllogism_judge_211, kb_Syllogism_judge_211, jx_Syllogism_judge_227, kb_Syllogism_judge_227, jx_Syllogism_judge_228, kb_Syllogism_judge_228]
    refine ifb (fun e => ?_) (fun e => ifnb (fun e2 => ?_) (fun e2 => ?_))
    · rw [e] at K; exact K
    · rw [e, e2] at K; exact K
    · rw [e, e2] at K; exact K
  simp only [isO_c, ax0, ex_cons, am_get, upz_at, true_and, and_true, Nat.reduceAdd, Nat.reduceLeDiff, Nat.reduceEqDiff, Nat.reduceSub, Int32.reduceOfInt, Int32.reduceAdd, Int32.reduceMul, Int32.reduceSub, ↓reduceIte, Int32.reduceLT, Int32.reduceLE, Int32.reduceToNatClampNeg, Nat.reduceMod, Nat.reduceLT, List.length_cons, List.length_nil, eq_self, true_or, or_true, and_self, implies_true, not_true_eq_false, not_false_eq_true, false_implies, true_implies, forall_const, st_aloadx, st_getfieldx, st_gotox, st_iconstx, st_ifCondx, st_iloadx, st_st1, jx_Syllogism_judge_179, kb_Syllogism_judge_179, og_65_0, og_65_1, oa_65, h0]
  refine c_isUniversal ?_
  simp only [isO_c, ax0, ex_cons, am_get, upz_at, true_and, and_true, Nat.reduceAdd, Nat.reduceLeDiff, Nat.reduceEqDiff, Nat.reduceSub, Int32.reduceOfInt, Int32.reduceAdd, Int32.reduceMul, Int32.reduceSub, ↓reduceIte, Int32.reduceLT, Int32.reduceLE, Int32.reduceToNatClampNeg, Nat.reduceMod, Nat.reduceLT, List.length_cons, List.length_nil, eq_self, true_or, or_true, and_self, implies_true, not_true_eq_false, not_false_eq_true, false_implies, true_implies, forall_const, st_aloadx, st_getfieldx, st_gotox, st_goto_wx, st_iconstx, st_ifCondx, st_iloadx, st_st1, jx_Syllogism_judge_179, kb_Syllogism_judge_179, og_65_0, og_65_1, jx_Syllogism_judge_210, kb_Syllogism_judge_210, oa_65, h1]
  refine ifb (fun e => fin false (by rw [e]; rfl)) (fun e => ?_)
  refine c_isUniversal ?_
  simp only [isO_c, ax0, ex_cons, am_get, upz_at, true_and, and_true, Nat.reduceAdd, Nat.reduceLeDiff, Nat.reduceEqDiff, Nat.reduceSub, Int32.reduceOfInt, Int32.reduceAdd, Int32.reduceMul, Int32.reduceSub, ↓reduceIte, Int32.reduceLT, Int32.reduceLE, Int32.reduceToNatClampNeg, Nat.reduceMod, Nat.reduceLT, List.length_cons, List.length_nil, eq_self, true_or, or_true, and_self, implies_true, not_true_eq_false, not_false_eq_true, false_implies, true_implies, forall_const, st_aloadx, st_getfieldx, st_gotox, st_goto_wx, st_iconstx, st_ifCondx, st_iloadx, st_st1, jx_Syllogism_judge_179, kb_Syllogism_judge_179, og_65_0, og_65_1, jx_Syllogism_judge_210, kb_Syllogism_judge_210, oa_65]
  refine ifb (fun e2 => fin false (by rw [e, e2]; rfl)) (fun e2 => ?_)
  refine c_isUniversal ?_
  simp only [isO_c, ax0, ex_cons, am_get, upz_at, true_and, and_true, Nat.reduceAdd, Nat.reduceLeDiff, Nat.reduceEqDiff, Nat.reduceSub, Int32.reduceOfInt, Int32.reduceAdd, Int32.reduceMul, Int32.reduceSub, ↓reduceIte, Int32.reduceLT, Int32.reduceLE, Int32.reduceToNatClampNeg, Nat.reduceMod, Nat.reduceLT, List.length_cons, List.length_nil, eq_self, true_or, or_true, and_self, implies_true, not_true_eq_false, not_false_eq_true, false_implies, true_implies, forall_const, st_aloadx, st_getfieldx, st_gotox, st_goto_wx, st_iconstx, st_ifCondx, st_iloadx, st_st1, jx_Syllogism_judge_179, kb_Syllogism_judge_179, og_65_0, og_65_1, jx_Syllogism_judge_210, kb_Syllogism_judge_210, oa_65]
  refine ifnb (fun e3 => fin false (by rw [e, e2, e3]; rfl)) (fun e3 => fin true (by rw [e, e2, e3]; rfl))
set_option maxRecDepth 20000 in
theorem c_jd164 (h0 : F 65 0 = m1) (h1 : F 65 1 = m2) {v3 v4 v6 : Value} (K : Q (some (.int (jd6 m1 m2 w t eN))) (ov h F J V)) : am_W kc_Syllogism_judge (am_cl (d + 2)) Q 164 [.ref 65, .int w, .int (b2i t), v3, v4, .int (b2i eN), v6] [] (ov h F J V) := by
  unfold jd6 at K
  simp only [isO_c, ax0, ex_cons, am_get, upz_at, true_and, and_true, Nat.reduceAdd, Nat.reduceLeDiff, Nat.reduceEqDiff, Nat.reduceSub, Int32.reduceOfInt, Int32.reduceAdd, Int32.reduceMul, Int32.reduceSub, ↓reduceIte, Int32.reduceLT, Int32.reduceLE, Int32.reduceToNatClampNeg, Nat.reduceMod, Nat.reduceLT, List.length_cons, List.length_nil, eq_self, true_or, or_true, and_self, implies_true, not_true_eq_false, not_false_eq_true, false_implies, true_implies, forall_const, st_iconstx, st_ifCondx, st_iloadx, st_st1, st_ireturnx, jx_Syllogism_judge_164, kb_Syllogism_judge_164]
  refine c_isNegative ?_
  simp only [isO_c, ax0, ex_cons, am_get, upz_at, true_and, and_true, Nat.reduceAdd, Nat.reduceLeDiff, Nat.reduceEqDiff, Nat.reduceSub, Int32.reduceOfInt, Int32.reduceAdd, Int32.reduceMul, Int32.reduceSub, ↓reduceIte, Int32.reduceLT, Int32.reduceLE, Int32.reduceToNatClampNeg, Nat.reduceMod, Nat.reduceLT, List.length_cons, List.length_nil, eq_self, true_or, or_true, and_self, implies_true, not_true_eq_false, not_false_eq_true, false_implies, true_implies, forall_const, st_iconstx, st_ifCondx, st_iloadx, st_st1, st_ireturnx, jx_Syllogism_judge_164, kb_Syllogism_judge_164]
  refine ifb (fun e => ?_) (fun e => ifnb (fun e2 => ?_) (fun e2 => ?_))
  · rw [e] at K; exact c_jd179 h0 h1 K
  · rw [e, e2] at K; exact c_jd179 h0 h1 K
  · rw [e, e2] at K; exact K
set_option maxRecDepth 20000 in
theorem c_jd150 (h0 : F 65 0 = m1) (h1 : F 65 1 = m2) {v3 v4 v6 : Value} (K : Q (some (.int (jd5 m1 m2 w t eN))) (ov h F J V)) : am_W kc_Syllogism_judge (am_cl (d + 2)) Q 150 [.ref 65, .int w, .int (b2i t), v3, v4, .int (b2i eN), v6] [] (ov h F J V) := by
  unfold jd5 at K
  simp only [isO_c, ax0, ex_cons, am_get, upz_at, true_and, and_true, Nat.reduceAdd, Nat.reduceLeDiff, Nat.reduceEqDiff, Nat.reduceSub, Int32.reduceOfInt, Int32.reduceAdd, Int32.reduceMul, Int32.reduceSub, ↓reduceIte, Int32.reduceLT, Int32.reduceLE, Int32.reduceToNatClampNeg, Nat.reduceMod, Nat.reduceLT, List.length_cons, List.length_nil, eq_self, true_or, or_true, and_self, implies_true, not_true_eq_false, not_false_eq_true, false_implies, true_implies, forall_const, st_iconstx, st_ifCondx, st_iloadx, st_st1, st_ireturnx, jx_Syllogism_judge_150, kb_Syllogism_judge_150]
  refine c_isNegative ?_
  simp only [isO_c, ax0, ex_cons, am_get, upz_at, true_and, and_true, Nat.reduceAdd, Nat.reduceLeDiff, Nat.reduceEqDiff, Nat.reduceSub, Int32.reduceOfInt, Int32.reduceAdd, Int32.reduceMul, Int32.reduceSub, ↓reduceIte, Int32.reduceLT, Int32.reduceLE, Int32.reduceToNatClampNeg, Nat.reduceMod, Nat.reduceLT, List.length_cons, List.length_nil, eq_self, true_or, or_true, and_self, implies_true, not_true_eq_false, not_false_eq_true, false_implies, true_implies, forall_const, st_iconstx, st_ifCondx, st_iloadx, st_st1, st_ireturnx, jx_Syllogism_judge_150, kb_Syllogism_judge_150]
  refine ifnb (fun e => ?_) (fun e => ifb (fun e2 => ?_) (fun e2 => ?_))
  · rw [e] at K; exact c_jd164 h0 h1 K
  · rw [e, e2] at K; rw [e2]; exact c_jd164 h0 h1 K
  · rw [e, e2] at K; exact K
set_option maxRecDepth 20000 in
theorem c_jd120 (h0 : F 65 0 = m1) (h1 : F 65 1 = m2) {v3 v6 : Value} (K : Q (some (.int (jd4 m1 m2 w t eN lm))) (ov h F J V)) : am_W kc_Syllogism_judge (am_cl (d + 2)) Q 120 [.ref 65, .int w, .int (b2i t), v3, .int (b2i lm), .int (b2i eN), v6] [] (ov h F J V) := by
  unfold jd4 at K
  have fin : ∀ b : Bool, b = !lm → unB w = true → am_W kc_Syllogism_judge (am_cl (d + 2)) Q 142 [.ref 65, .int w, .int (b2i t), v3, .int (b2i lm), .int (b2i eN), v6] [.int (b2i b), .int m2] (ov h F J V) := by
    intro b eb e
    rw [← eb, e, Bool.true_and] at K
    simp only [isO_c, ax0, ex_cons, am_get, upz_at, true_and, and_true, Nat.reduceAdd, Nat.reduceLeDiff, Nat.reduceEqDiff, Nat.reduceSub, Int32.reduceOfInt, Int32.reduceAdd, Int32.reduceMul, Int32.reduceSub, ↓reduceIte, Int32.reduceLT, Int32.reduceLE, Int32.reduceToNatClampNeg, Nat.reduceMod, Nat.reduceLT, List.length_cons, List.length_nil, eq_self, true_or, or_true, and_self, implies_true, not_true_eq_false, not_false_eq_true, false_implies, true_implies, forall_const, st_iconstx, st_ifCondx, st_st2, st_ireturnx, jx_Syllogism_judge_142, kb_Syllogism_judge_142]
    refine c_isDistributed ?_
    simp only [isO_c, ax0, ex_cons, am_get, upz_at, true_and, and_true, Nat.reduceAdd, Nat.reduceLeDiff, Nat.reduceEqDiff, Nat.reduceSub, Int32.reduceOfInt, Int32.reduceAdd, Int32.reduceMul, Int32.reduceSub, ↓reduceIte, Int32.reduceLT, Int32.reduceLE, Int32.reduceToNatClampNeg, Nat.reduceMod, Nat.reduceLT, List.length_cons, List.length_nil, eq_self, true_or, or_true, and_self, implies_true, not_true_eq_false, not_false_eq_true, false_implies, true_implies, forall_const, st_iconstx, st_ifCondx, st_st2, st_ireturnx, jx_Syllogism_judge_142, kb_Syllogism_judge_142]
    refine ifnb (fun e2 => ?_) (fun e2 => ?_)
    · rw [e2] at K; exact c_jd150 h0 h1 K
    · rw [e2] at K; exact K
  simp only [isO_c, ax0, ex_cons, am_get, upz_at, true_and, and_true, Nat.reduceAdd, Nat.reduceLeDiff, Nat.reduceEqDiff, Nat.reduceSub, Int32.reduceOfInt, Int32.reduceAdd, Int32.reduceMul, Int32.reduceSub, ↓reduceIte, Int32.reduceLT, Int32.reduceLE, Int32.reduceToNatClampNeg, Nat.reduceMod, Nat.reduceLT, List.length_cons, List.length_nil, eq_self, true_or, or_true, and_self, implies_true, not_true_eq_false, not_false_eq_true, false_implies, true_implies, forall_const, st_aloadx, st_getfieldx, st_gotox, st_iconstx, st_ifCondx, st_iloadx, st_st2, jx_Syllogism_judge_120, kb_Syllogism_judge_120, og_65_1, oa_65]
  refine c_isDistributed (b := true) ?_
  simp only [isO_c, ax0, ex_cons, am_get, upz_at, true_and, and_true, Nat.reduceAdd, Nat.reduceLeDiff, Nat.reduceEqDiff, Nat.reduceSub, Int32.reduceOfInt, Int32.reduceAdd, Int32.reduceMul, Int32.reduceSub, ↓reduceIte, Int32.reduceLT, Int32.reduceLE, Int32.reduceToNatClampNeg, Nat.reduceMod, Nat.reduceLT, List.length_cons, List.length_nil, eq_self, true_or, or_true, and_self, implies_true, not_true_eq_false, not_false_eq_true, false_implies, true_implies, forall_const, st_aloadx, st_getfieldx, st_gotox, st_goto_wx, st_iconstx, st_ifCondx, st_iloadx, st_st2, jx_Syllogism_judge_120, kb_Syllogism_judge_120, og_65_1, jx_Syllogism_judge_141, kb_Syllogism_judge_141, oa_65, h1, if_true]
  refine ifb (fun e => ?_) (fun e => ifnb (fun e2 => ?_) (fun e2 => ?_))
  · rw [e] at K; exact c_jd150 h0 h1 K
  · exact fin false (by rw [e2]; rfl) e
  · exact fin true (by rw [e2]; rfl) e
set_option maxRecDepth 20000 in
theorem c_jd91 (h0 : F 65 0 = m1) (h1 : F 65 1 = m2) {v6 : Value} (K : Q (some (.int (jd3 m1 m2 w t eN lM lm))) (ov h F J V)) : am_W kc_Syllogism_judge (am_cl (d + 2)) Q 91 [.ref 65, .int w, .int (b2i t), .int (b2i lM), .int (b2i lm), .int (b2i eN), v6] [] (ov h F J V) := by
  unfold jd3 at K
  have fin : ∀ b : Bool, b = !lM → ngI w = true → am_W kc_Syllogism_judge (am_cl (d + 2)) Q 112 [.ref 65, .int w, .int (b2i t), .int (b2i lM), .int (b2i lm), .int (b2i eN), v6] [.int (b2i b), .int m1] (ov h F J V) := by
    intro b eb e
    rw [← eb, e, Bool.true_and] at K
    simp only [isO_c, ax0, ex_cons, am_get, upz_at, true_and, and_true, Nat.reduceAdd, Nat.reduceLeDiff, Nat.reduceEqDiff, Nat.reduceSub, Int32.reduceOfInt, Int32.reduceAdd, Int32.reduceMul, Int32.reduceSub, ↓reduceIte, Int32.reduceLT, Int32.reduceLE, Int32.reduceToNatClampNeg, Nat.reduceMod, Nat.reduceLT, List.length_cons, List.length_nil, eq_self, true_or, or_true, and_self, implies_true, not_true_eq_false, not_false_eq_true, false_implies, true_implies, forall_const, st_iconstx, st_ifCondx, st_st2, st_ireturnx, jx_Syllogism_judge_112, kb_Syllogism_judge_112]
    refine c_isDistributed ?_
    simp only [isO_c, ax0, ex_cons, am_get, upz_at, true_and, and_true, Nat.reduceAdd, Nat.reduceLeDiff, Nat.reduceEqDiff, Nat.reduceSub, Int32.reduceOfInt, Int32.reduceAdd, Int32.reduceMul, Int32.reduceSub, ↓reduceIte, Int32.reduceLT, Int32.reduceLE, Int32.reduceToNatClampNeg, Nat.reduceMod, Nat.reduceLT, List.length_cons, List.length_nil, eq_self, true_or, or_true, and_self, implies_true, not_true_eq_false, not_false_eq_true, false_implies, true_implies, forall_const, st_iconstx, st_ifCondx, st_st2, st_ireturnx, jx_Syllogism_judge_112, kb_Syllogism_judge_112]
    refine ifnb (fun e2 => ?_) (fun e2 => ?_)
    · rw [e2] at K; exact c_jd120 h0 h1 K
    · rw [e2] at K; exact K
  simp only [isO_c, ax0, ex_cons, am_get, upz_at, true_and, and_true, Nat.reduceAdd, Nat.reduceLeDiff, Nat.reduceEqDiff, Nat.reduceSub, Int32.reduceOfInt, Int32.reduceAdd, Int32.reduceMul, Int32.reduceSub, ↓reduceIte, Int32.reduceLT, Int32.reduceLE, Int32.reduceToNatClampNeg, Nat.reduceMod, Nat.reduceLT, List.length_cons, List.length_nil, eq_self, true_or, or_true, and_self, implies_true, not_true_eq_false, not_false_eq_true, false_implies, true_implies, forall_const, st_aloadx, st_getfieldx, st_gotox, st_iconstx, st_ifCondx, st_iloadx, st_st2, jx_Syllogism_judge_91, kb_Syllogism_judge_91, og_65_0, oa_65]
  refine c_isDistributed (b := false) ?_
  rw [show (if false = true then unB w else ngI w) = ngI w from if_neg Bool.false_ne_true]
  simp only [isO_c, ax0, ex_cons, am_get, upz_at, true_and, and_true, Nat.reduceAdd, Nat.reduceLeDiff, Nat.reduceEqDiff, Nat.reduceSub, Int32.reduceOfInt, Int32.reduceAdd, Int32.reduceMul, Int32.reduceSub, ↓reduceIte, Int32.reduceLT, Int32.reduceLE, Int32.reduceToNatClampNeg, Nat.reduceMod, Nat.reduceLT, List.length_cons, List.length_nil, eq_self, true_or, or_true, and_self, implies_true, not_true_eq_false, not_false_eq_true, false_implies, true_implies, forall_const, st_aloadx, st_getfieldx, st_gotox, st_goto_wx, st_iconstx, st_ifCondx, st_iloadx, st_st2, jx_Syllogism_judge_91, kb_Syllogism_judge_91, og_65_0, jx_Syllogism_judge_111, kb_Syllogism_judge_111, oa_65, h0]
  refine ifb (fun e => ?_) (fun e => ifnb (fun e2 => ?_) (fun e2 => ?_))
  · rw [e] at K; exact c_jd120 h0 h1 K
  · exact fin false (by rw [e2]; rfl) e
  · exact fin true (by rw [e2]; rfl) e
set_option maxRecDepth 20000 in
theorem c_jd66 (h0 : F 65 0 = m1) (h1 : F 65 1 = m2) {v6 : Value} (K : Q (some (.int (jd2 m1 m2 w t eN lM lm))) (ov h F J V)) : am_W kc_Syllogism_judge (am_cl (d + 2)) Q 66 [.ref 65, .int w, .int (b2i t), .int (b2i lM), .int (b2i lm), .int (b2i eN), v6] [] (ov h F J V) := by
  unfold jd2 at K
  simp only [isO_c, ax0, ex_cons, am_get, upz_at, true_and, and_true, Nat.reduceAdd, Nat.reduceLeDiff, Nat.reduceEqDiff, Nat.reduceSub, Int32.reduceOfInt, Int32.reduceAdd, Int32.reduceMul, Int32.reduceSub, ↓reduceIte, Int32.reduceLT, Int32.reduceLE, Int32.reduceToNatClampNeg, Nat.reduceMod, Nat.reduceLT, List.length_cons, List.length_nil, eq_self, true_or, or_true, and_self, implies_true, not_true_eq_false, not_false_eq_true, false_implies, true_implies, forall_const, st_aloadx, st_getfieldx, st_iconstx, st_ifCondx, st_iloadx, st_st2, st_ireturnx, jx_Syllogism_judge_66, kb_Syllogism_judge_66, og_65_0, og_65_1, oa_65, h0]
  refine c_isDistributed ?_
  simp only [isO_c, ax0, ex_cons, am_get, upz_at, true_and, and_true, Nat.reduceAdd, Nat.reduceLeDiff, Nat.reduceEqDiff, Nat.reduceSub, Int32.reduceOfInt, Int32.reduceAdd, Int32.reduceMul, Int32.reduceSub, ↓reduceIte, Int32.reduceLT, Int32.reduceLE, Int32.reduceToNatClampNeg, Nat.reduceMod, Nat.reduceLT, List.length_cons, List.length_nil, eq_self, true_or, or_true, and_self, implies_true, not_true_eq_false, not_false_eq_true, false_implies, true_implies, forall_const, st_aloadx, st_getfieldx, st_iconstx, st_ifCondx, st_iloadx, st_st2, st_ireturnx, jx_Syllogism_judge_66, kb_Syllogism_judge_66, og_65_0, og_65_1, oa_65, h1]
  refine ifnb (fun e => ?_) (fun e => ?_)
  · rw [e] at K; exact c_jd91 h0 h1 K
  · refine c_isDistributed ?_
    simp only [isO_c, ax0, ex_cons, am_get, upz_at, true_and, and_true, Nat.reduceAdd, Nat.reduceLeDiff, Nat.reduceEqDiff, Nat.reduceSub, Int32.reduceOfInt, Int32.reduceAdd, Int32.reduceMul, Int32.reduceSub, ↓reduceIte, Int32.reduceLT, Int32.reduceLE, Int32.reduceToNatClampNeg, Nat.reduceMod, Nat.reduceLT, List.length_cons, List.length_nil, eq_self, true_or, or_true, and_self, implies_true, not_true_eq_false, not_false_eq_true, false_implies, true_implies, forall_const, st_aloadx, st_getfieldx, st_iconstx, st_ifCondx, st_iloadx, st_st2, st_ireturnx, jx_Syllogism_judge_66, kb_Syllogism_judge_66, og_65_0, og_65_1, oa_65]
    refine ifnb (fun e2 => ?_) (fun e2 => ?_)
    · rw [e, e2] at K; exact c_jd91 h0 h1 K
    · rw [e, e2] at K; exact K
set_option maxRecDepth 20000 in
theorem c_judge {f : Nat} (hf : f < 10) (h0 : F 65 0 = m1) (h1 : F 65 1 = m2) (h2 : F 65 2 = nI f) (K : Q (some (.int (jd1 m1 m2 w t (decide (f = 1 ∨ f = 3)) (decide (f = 3 ∨ f = 4))))) (ov h F J V)) : am_cl (d + 3) 136 [.ref 65, .int w, .int (b2i t)] (ov h F J V) Q := by
  unfold jd1 at K
  simp only [isO_c, ax0, ex_cons, am_get, upz_at, true_and, and_true, Nat.reduceAdd, Nat.reduceLeDiff, Nat.reduceEqDiff, Nat.reduceSub, Int32.reduceOfInt, Int32.reduceAdd, Int32.reduceMul, Int32.reduceSub, ↓reduceIte, Int32.reduceLT, Int32.reduceLE, Int32.reduceToNatClampNeg, Nat.reduceMod, Nat.reduceLT, List.length_cons, List.length_nil, eq_self, true_or, or_true, and_self, implies_true, not_true_eq_false, not_false_eq_true, false_implies, true_implies, forall_const, st_aloadx, st_getfieldx, st_goto_wx, st_ifCondx, st_st1, st_istorex, am_put, am_nlg, kb_Syllogism_judge_0, og_65_2, og_65_0, og_65_1, oa_65, cx_Syllogism_judge, h2]
  refine c_leadsMajor hf ?_
  simp only [isO_c, ax0, ex_cons, am_get, upz_at, true_and, and_true, Nat.reduceAdd, Nat.reduceLeDiff, Nat.reduceEqDiff, Nat.reduceSub, Int32.reduceOfInt, Int32.reduceAdd, Int32.reduceMul, Int32.reduceSub, ↓reduceIte, Int32.reduceLT, Int32.reduceLE, Int32.reduceToNatClampNeg, Nat.reduceMod, Nat.reduceLT, List.length_cons, List.length_nil, eq_self, true_or, or_true, and_self, implies_true, not_true_eq_false, not_false_eq_true, false_implies, true_implies, forall_const, st_aloadx, st_getfieldx, st_goto_wx, st_ifCondx, st_st1, st_istorex, am_put, am_nlg, kb_Syllogism_judge_0, og_65_2, og_65_0, og_65_1, oa_65, h2]
  refine c_leadsMinor hf ?_
  generalize decide (f = 1 ∨ f = 3) = lM at K ⊢
  generalize decide (f = 3 ∨ f = 4) = lm at K ⊢
  have fin : ∀ eN : Bool, eN = (ngI m1 || ngI m2) → am_W kc_Syllogism_judge (am_cl (d + 2)) Q 42 [.ref 65, .int w, .int (b2i t), .int (b2i lM), .int (b2i lm), am_dum, am_dum] [.int (b2i eN)] (ov h F J V) := by
    intro eN eb
    rw [← eb] at K
    simp only [isO_c, ax0, ex_cons, am_get, upz_at, true_and, and_true, Nat.reduceAdd, Nat.reduceLeDiff, Nat.reduceEqDiff, Nat.reduceSub, Int32.reduceOfInt, Int32.reduceAdd, Int32.reduceMul, Int32.reduceSub, ↓reduceIte, Int32.reduceLT, Int32.reduceLE, Int32.reduceToNatClampNeg, Nat.reduceMod, Nat.reduceLT, List.length_cons, List.length_nil, eq_self, true_or, or_true, and_self, implies_true, not_true_eq_false, not_false_eq_true, false_implies, true_implies, forall_const, st_aloadx, st_getfieldx, st_iconstx, st_ifCondx, st_st1, st_ireturnx, st_istorex, am_put, am_nlg, jx_Syllogism_judge_42, kb_Syllogism_judge_42, og_65_0, og_65_1, oa_65, h0]
    refine c_isNegative ?_
    simp only [isO_c, ax0, ex_cons, am_get, upz_at, true_and, and_true, Nat.reduceAdd, Nat.reduceLeDiff, Nat.reduceEqDiff, Nat.reduceSub, Int32.reduceOfInt, Int32.reduceAdd, Int32.reduceMul, Int32.reduceSub, ↓reduceIte, Int32.reduceLT, Int32.reduceLE, Int32.reduceToNatClampNeg, Nat.reduceMod, Nat.reduceLT, List.length_cons, List.length_nil, eq_self, true_or, or_true, and_self, implies_true, not_true_eq_false, not_false_eq_true, false_implies, true_implies, forall_const, st_aloadx, st_getfieldx, st_iconstx, st_ifCondx, st_st1, st_ireturnx, st_istorex, am_put, am_nlg, jx_Syllogism_judge_42, kb_Syllogism_judge_42, og_65_0, og_65_1, oa_65, h1]
    refine ifb (fun e => ?_) (fun e => ?_)
    · rw [e] at K; exact c_jd66 h0 h1 K
    · refine c_isNegative ?_
      simp only [isO_c, ax0, ex_cons, am_get, upz_at, true_and, and_true, Nat.reduceAdd, Nat.reduceLeDiff, Nat.reduceEqDiff, Nat.reduceSub, Int32.reduceOfInt, Int32.reduceAdd, Int32.reduceMul, Int32.reduceSub, ↓reduceIte, Int32.reduceLT, Int32.reduceLE, Int32.reduceToNatClampNeg, Nat.reduceMod, Nat.reduceLT, List.length_cons, List.length_nil, eq_self, true_or, or_true, and_self, implies_true, not_true_eq_false, not_false_eq_true, false_implies, true_implies, forall_const, st_aloadx, st_getfieldx, st_iconstx, st_ifCondx, st_st1, st_ireturnx, st_istorex, am_put, am_nlg, jx_Syllogism_judge_42, kb_Syllogism_judge_42, og_65_0, og_65_1, oa_65]
      refine ifb (fun e2 => ?_) (fun e2 => ?_)
      · rw [e, e2] at K; exact c_jd66 h0 h1 K
      · rw [e, e2] at K; exact K
  simp only [isO_c, ax0, ex_cons, am_get, upz_at, true_and, and_true, Nat.reduceAdd, Nat.reduceLeDiff, Nat.reduceEqDiff, Nat.reduceSub, Int32.reduceOfInt, Int32.reduceAdd, Int32.reduceMul, Int32.reduceSub, ↓reduceIte, Int32.reduceLT, Int32.reduceLE, Int32.reduceToNatClampNeg, Nat.reduceMod, Nat.reduceLT, List.length_cons, List.length_nil, eq_self, true_or, or_true, and_self, implies_true, not_true_eq_false, not_false_eq_true, false_implies, true_implies, forall_const, st_aloadx, st_getfieldx, st_goto_wx, st_ifCondx, st_st1, st_istorex, am_put, am_nlg, kb_Syllogism_judge_0, og_65_2, og_65_0, og_65_1, oa_65, h0]
  refine c_isNegative ?_
  simp only [isO_c, ax0, ex_cons, am_get, upz_at, true_and, and_true, Nat.reduceAdd, Nat.reduceLeDiff, Nat.reduceEqDiff, Nat.reduceSub, Int32.reduceOfInt, Int32.reduceAdd, Int32.reduceMul, Int32.reduceSub, ↓reduceIte, Int32.reduceLT, Int32.reduceLE, Int32.reduceToNatClampNeg, Nat.reduceMod, Nat.reduceLT, List.length_cons, List.length_nil, eq_self, true_or, or_true, and_self, implies_true, not_true_eq_false, not_false_eq_true, false_implies, true_implies, forall_const, st_aloadx, st_getfieldx, st_gotox, st_goto_wx, st_iconstx, st_ifCondx, st_st1, st_istorex, am_put, am_nlg, kb_Syllogism_judge_0, og_65_2, og_65_0, og_65_1, jx_Syllogism_judge_37, kb_Syllogism_judge_37, jx_Syllogism_judge_41, kb_Syllogism_judge_41, oa_65, h1]
  refine ifnb (fun e => fin true (by rw [e]; rfl)) (fun e => ?_)
  refine c_isNegative ?_
  simp only [isO_c, ax0, ex_cons, am_get, upz_at, true_and, and_true, Nat.reduceAdd, Nat.reduceLeDiff, Nat.reduceEqDiff, Nat.reduceSub, Int32.reduceOfInt, Int32.reduceAdd, Int32.reduceMul, Int32.reduceSub, ↓reduceIte, Int32.reduceLT, Int32.reduceLE, Int32.reduceToNatClampNeg, Nat.reduceMod, Nat.reduceLT, List.length_cons, List.length_nil, eq_self, true_or, or_true, and_self, implies_true, not_true_eq_false, not_false_eq_true, false_implies, true_implies, forall_const, st_aloadx, st_getfieldx, st_gotox, st_goto_wx, st_iconstx, st_ifCondx, st_st1, st_istorex, am_put, am_nlg, kb_Syllogism_judge_0, og_65_2, og_65_0, og_65_1, jx_Syllogism_judge_37, kb_Syllogism_judge_37, jx_Syllogism_judge_41, kb_Syllogism_judge_41, oa_65]
  refine ifb (fun e2 => fin false (by rw [e, e2]; rfl)) (fun e2 => fin true (by rw [e, e2]; rfl))
end CJD
section CPP
variable {d : Nat} {h : am_H} {F : Nat → Nat → Int32} {J : Nat → Nat → Int64} {V : Nat → Nat → Value} {Q : am_Q}
set_option maxRecDepth 20000 in
theorem c_joinN {o1 o2 : Option Nat} (w1 : ∀ a, o1 = some a → a < 256 ∧ isNu a = true) (w2 : ∀ b, o2 = some b → b < 256 ∧ isNu b = true) (K0 : (o1 = none ∨ o2 = none ∨ ∃ a b, o1 = some a ∧ o2 = some b ∧ fgN a b = -1) → Q (some (.int 0)) (ov h F J V)) (K1 : ∀ F' a b, o1 = some a → o2 = some b → ¬ fgN a b = -1 → Sy65 F F' → SyJ (F' 65) a b → Q (some (.int 1)) (ov h F' J V)) : am_cl (d + 3) 130 [.ref 65, .int (oI o1), .int (oI o2)] (ov h F J V) Q := by
  cases o1 with
  | none =>
    simp only [isO_c, ax0, ex_cons, am_get, upz_at, true_and, and_true, Nat.reduceAdd, Nat.reduceLeDiff, Nat.reduceEqDiff, Nat.reduceSub, Int32.reduceOfInt, Int32.reduceAdd, Int32.reduceMul, Int32.reduceSub, ↓reduceIte, Int32.reduceLT, Int32.reduceLE, Int32.reduceToNatClampNeg, Nat.reduceMod, Nat.reduceLT, List.length_cons, List.length_nil, eq_self, true_or, or_true, and_self, implies_true, not_true_eq_false, not_false_eq_true, false_implies, true_implies, forall_const, st_goto_wx, st_ifCondx, st_iloadx, st_st1, kb_Syllogism_join_0, cx_Syllogism_join, oI_none]
    refine c_isSimple1 ?_
    simp only [isO_c, ax0, ex_cons, am_get, upz_at, true_and, and_true, Nat.reduceAdd, Nat.reduceLeDiff, Nat.reduceEqDiff, Nat.reduceSub, Int32.reduceOfInt, Int32.reduceAdd, Int32.reduceMul, Int32.reduceSub, ↓reduceIte, Int32.reduceLT, Int32.reduceLE, Int32.reduceToNatClampNeg, Nat.reduceMod, Nat.reduceLT, List.length_cons, List.length_nil, eq_self, true_or, or_true, and_self, implies_true, not_true_eq_false, not_false_eq_true, false_implies, true_implies, forall_const, st_freturnx, st_goto_wx, st_iconstx, st_ifCondx, st_iloadx, st_st1, kb_Syllogism_join_0, jx_Syllogism_join_14, kb_Syllogism_join_14]
    exact K0 (Or.inl rfl)
  | some a =>
    obtain ⟨a1, a2⟩ := w1 a rfl
    cases o2 with
    | none =>
      simp only [isO_c, ax0, ex_cons, am_get, upz_at, true_and, and_true, Nat.reduceAdd, Nat.reduceLeDiff, Nat.reduceEqDiff, Nat.reduceSub, Int32.reduceOfInt, Int32.reduceAdd, Int32.reduceMul, Int32.reduceSub, ↓reduceIte, Int32.reduceLT, Int32.reduceLE, Int32.reduceToNatClampNeg, Nat.reduceMod, Nat.reduceLT, List.length_cons, List.length_nil, eq_self, true_or, or_true, and_self, implies_true, not_true_eq_false, not_false_eq_true, false_implies, true_implies, forall_const, st_goto_wx, st_ifCondx, st_iloadx, st_st1, kb_Syllogism_join_0, cx_Syllogism_join, oI_none, oI_some]
      refine c_isSimple a1 ?_
      rw [a2]
      simp only [isO_c, ax0, ex_cons, am_get, upz_at, true_and, and_true, Nat.reduceAdd, Nat.reduceLeDiff, Nat.reduceEqDiff, Nat.reduceSub, Int32.reduceOfInt, Int32.reduceAdd, Int32.reduceMul, Int32.reduceSub, ↓reduceIte, Int32.reduceLT, Int32.reduceLE, Int32.reduceToNatClampNeg, Nat.reduceMod, Nat.reduceLT, List.length_cons, List.length_nil, eq_self, true_or, or_true, and_self, implies_true, not_true_eq_false, not_false_eq_true, false_implies, true_implies, forall_const, st_goto_wx, st_ifCondx, st_iloadx, st_st1, kb_Syllogism_join_0, show b2i true = (1 : Int32) from rfl]
      refine c_isSimple1 ?_
      simp only [isO_c, ax0, ex_cons, am_get, upz_at, true_and, and_true, Nat.reduceAdd, Nat.reduceLeDiff, Nat.reduceEqDiff, Nat.reduceSub, Int32.reduceOfInt, Int32.reduceAdd, Int32.reduceMul, Int32.reduceSub, ↓reduceIte, Int32.reduceLT, Int32.reduceLE, Int32.reduceToNatClampNeg, Nat.reduceMod, Nat.reduceLT, List.length_cons, List.length_nil, eq_self, true_or, or_true, and_self, implies_true, not_true_eq_false, not_false_eq_true, false_implies, true_implies, forall_const, st_freturnx, st_goto_wx, st_iconstx, st_ifCondx, st_iloadx, st_st1, kb_Syllogism_join_0, jx_Syllogism_join_14, kb_Syllogism_join_14]
      exact K0 (Or.inr (Or.inl rfl))
    | some b =>
      obtain ⟨b1, b2⟩ := w2 b rfl
      exact c_join a1 b1 a2 b2 (fun z => K0 (Or.inr (Or.inr ⟨a, b, rfl, rfl, z⟩))) (fun F' z s1 s2 => K1 F' a b rfl rfl z s1 s2)
set_option maxRecDepth 20000 in
theorem c_pairSlips {X : kT} (hD : DK h F V 34 X) {x y : Int32} (K0 : (∀ g, (if slB X.1.1 x && slB X.1.1 y then aPr X.1 x y g else -1) = -1) → Q (some (.int 0)) (ov h F J V)) (K1 : ∀ F' a b, (slB X.1.1 x && slB X.1.1 y) = true → (∀ g, aPr X.1 x y g = g a b) → a < 256 → b < 256 → isNu a = true → isNu b = true → ¬ fgN a b = -1 → Sy65 F F' → SyJ (F' 65) a b → Q (some (.int 1)) (ov h F' J V)) : am_cl (d + 4) 46 [.ref 23, .int x, .int y] (ov h F J V) Q := by
  simp only [isO_c, ax0, ex_cons, am_get, upz_at, true_and, and_true, Nat.reduceAdd, Nat.reduceLeDiff, Nat.reduceEqDiff, Nat.reduceSub, Int32.reduceOfInt, Int32.reduceAdd, Int32.reduceMul, Int32.reduceSub, ↓reduceIte, Int32.reduceLT, Int32.reduceLE, Int32.reduceToNatClampNeg, Nat.reduceMod, Nat.reduceLT, List.length_cons, List.length_nil, eq_self, true_or, or_true, and_self, implies_true, not_true_eq_false, not_false_eq_true, false_implies, true_implies, forall_const, st_aloadx, st_astorex, st_astore_1x, st_getfieldx, st_gotox, st_iconstx, st_ifCondx, st_ifnullx, st_ifnull_1x, st_iloadx, st_in1, st_in2, st_in3, am_put, am_nlg, kb_Slips_pairSlips_0, og_23_1, oo_34, og_23_8, oa_23, oa_34, cx_Slips_pairSlips]
  refine c_slipAt hD ?_
  rcases spV_slip hD (x := x) with ⟨a1, a2⟩ | ⟨a1, p1, a2, a3, a4⟩
  · rw [a1, Bool.false_and] at K0
    rw [a2]
    simp only [isO_c, ax0, ex_cons, am_get, upz_at, true_and, and_true, Nat.reduceAdd, Nat.reduceLeDiff, Nat.reduceEqDiff, Nat.reduceSub, Int32.reduceOfInt, Int32.reduceAdd, Int32.reduceMul, Int32.reduceSub, ↓reduceIte, Int32.reduceLT, Int32.reduceLE, Int32.reduceToNatClampNeg, Nat.reduceMod, Nat.reduceLT, List.length_cons, List.length_nil, eq_self, true_or, or_true, and_self, implies_true, not_true_eq_false, not_false_eq_true, false_implies, true_implies, forall_const, st_aloadx, st_astorex, st_astore_1x, st_getfieldx, st_gotox, st_iconstx, st_ifCondx, st_ifnullx, st_ifnull_1x, st_iloadx, st_in1, st_in2, st_in3, am_put, am_nlg, kb_Slips_pairSlips_0, og_23_1, oo_34, og_23_8, oa_23, oa_34]
    refine c_slipAt hD ?_
    rcases spV_slip hD (x := y) with ⟨b1, b2⟩ | ⟨b1, p2, b2, b3, b4⟩
    · rw [b2]
      simp only [isO_c, ax0, ex_cons, am_get, upz_at, true_and, and_true, Nat.reduceAdd, Nat.reduceLeDiff, Nat.reduceEqDiff, Nat.reduceSub, Int32.reduceOfInt, Int32.reduceAdd, Int32.reduceMul, Int32.reduceSub, ↓reduceIte, Int32.reduceLT, Int32.reduceLE, Int32.reduceToNatClampNeg, Nat.reduceMod, Nat.reduceLT, List.length_cons, List.length_nil, eq_self, true_or, or_true, and_self, implies_true, not_true_eq_false, not_false_eq_true, false_implies, true_implies, forall_const, st_aloadx, st_astorex, st_astore_1x, st_freturnx, st_getfieldx, st_gotox, st_goto_wx, st_iconstx, st_ifCondx, st_ifnullx, st_ifnull_1x, st_iloadx, st_in1, st_in2, st_in3, am_put, am_nlg, kb_Slips_pairSlips_0, og_23_1, oo_34, og_23_8, jx_Slips_pairSlips_51, kb_Slips_pairSlips_51, jx_Slips_pairSlips_52, kb_Slips_pairSlips_52, oa_23, oa_34]
      exact K0 (fun _ => if_neg Bool.false_ne_true)
    · rw [b2]
      simp only [isO_c, ax0, ex_cons, am_get, upz_at, true_and, and_true, Nat.reduceAdd, Nat.reduceLeDiff, Nat.reduceEqDiff, Nat.reduceSub, Int32.reduceOfInt, Int32.reduceAdd, Int32.reduceMul, Int32.reduceSub, ↓reduceIte, Int32.reduceLT, Int32.reduceLE, Int32.reduceToNatClampNeg, Nat.reduceMod, Nat.reduceLT, List.length_cons, List.length_nil, eq_self, true_or, or_true, and_self, implies_true, not_true_eq_false, not_false_eq_true, false_implies, true_implies, forall_const, st_aloadx, st_astorex, st_astore_1x, st_freturnx, st_getfieldx, st_gotox, st_goto_wx, st_iconstx, st_ifCondx, st_ifnullx, st_ifnull_1x, st_iloadx, st_in1, st_in2, st_in3, am_put, am_nlg, kb_Slips_pairSlips_0, og_23_1, oo_34, og_23_8, jx_Slips_pairSlips_51, kb_Slips_pairSlips_51, jx_Slips_pairSlips_52, kb_Slips_pairSlips_52, oa_23, oa_34]
      exact K0 (fun _ => if_neg Bool.false_ne_true)
  · rw [a1, Bool.true_and] at K0 K1
    rw [a2]
    simp only [isO_c, ax0, ex_cons, am_get, upz_at, true_and, and_true, Nat.reduceAdd, Nat.reduceLeDiff, Nat.reduceEqDiff, Nat.reduceSub, Int32.reduceOfInt, Int32.reduceAdd, Int32.reduceMul, Int32.reduceSub, ↓reduceIte, Int32.reduceLT, Int32.reduceLE, Int32.reduceToNatClampNeg, Nat.reduceMod, Nat.reduceLT, List.length_cons, List.length_nil, eq_self, true_or, or_true, and_self, implies_true, not_true_eq_false, not_false_eq_true, false_implies, true_implies, forall_const, st_aloadx, st_astorex, st_astore_1x, st_getfieldx, st_gotox, st_iconstx, st_ifCondx, st_ifnullx, st_ifnull_1x, st_iloadx, st_in1, st_in2, st_in3, am_put, am_nlg, kb_Slips_pairSlips_0, og_23_1, oo_34, og_23_8, oa_23, oa_34]
    refine c_slipAt hD ?_
    rcases spV_slip hD (x := y) with ⟨b1, b2⟩ | ⟨b1, p2, b2, b3, b4⟩
    · rw [b1] at K0
      rw [b2]
      simp only [isO_c, ax0, ex_cons, am_get, upz_at, true_and, and_true, Nat.reduceAdd, Nat.reduceLeDiff, Nat.reduceEqDiff, Nat.reduceSub, Int32.reduceOfInt, Int32.reduceAdd, Int32.reduceMul, Int32.reduceSub, ↓reduceIte, Int32.reduceLT, Int32.reduceLE, Int32.reduceToNatClampNeg, Nat.reduceMod, Nat.reduceLT, List.length_cons, List.length_nil, eq_self, true_or, or_true, and_self, implies_true, not_true_eq_false, not_false_eq_true, false_implies, true_implies, forall_const, st_aloadx, st_astorex, st_astore_1x, st_freturnx, st_getfieldx, st_gotox, st_goto_wx, st_iconstx, st_ifCondx, st_ifnullx, st_ifnull_1x, st_iloadx, st_in1, st_in2, st_in3, am_put, am_nlg, kb_Slips_pairSlips_0, og_23_1, oo_34, og_23_8, jx_Slips_pairSlips_51, kb_Slips_pairSlips_51, jx_Slips_pairSlips_52, kb_Slips_pairSlips_52, oa_23, oa_34]
      exact K0 (fun _ => if_neg Bool.false_ne_true)
    · rw [b1] at K0 K1
      have K0 : (∀ g, aPr X.1 x y g = -1) → Q (some (.int 0)) (ov h F J V) := fun z => K0 (fun g => (if_pos rfl).trans (z g))
      have K1 := fun F' a b => K1 F' a b rfl
      unfold aPr at K0 K1
      obtain ⟨_, _, _, ob1⟩ := a3.obj
      obtain ⟨_, _, _, ob2⟩ := b3.obj
      rw [b2]
      simp only [isO_c, ax0, ex_cons, am_get, upz_at, true_and, and_true, Nat.reduceAdd, Nat.reduceLeDiff, Nat.reduceEqDiff, Nat.reduceSub, Int32.reduceOfInt, Int32.reduceAdd, Int32.reduceMul, Int32.reduceSub, ↓reduceIte, Int32.reduceLT, Int32.reduceLE, Int32.reduceToNatClampNeg, Nat.reduceMod, Nat.reduceLT, List.length_cons, List.length_nil, eq_self, true_or, or_true, and_self, implies_true, not_true_eq_false, not_false_eq_true, false_implies, true_implies, forall_const, st_aloadx, st_astorex, st_astore_1x, st_getfieldx, st_gotox, st_iconstx, st_ifCondx, st_ifnullx, st_ifnull_1x, st_iloadx, st_in1, st_in2, st_in3, am_put, am_nlg, kb_Slips_pairSlips_0, og_23_1, oo_34, og_23_8, oa_23, oa_34, ob1]
      refine c_number a3 ?_
      simp only [isO_c, ax0, ex_cons, am_get, upz_at, true_and, and_true, Nat.reduceAdd, Nat.reduceLeDiff, Nat.reduceEqDiff, Nat.reduceSub, Int32.reduceOfInt, Int32.reduceAdd, Int32.reduceMul, Int32.reduceSub, ↓reduceIte, Int32.reduceLT, Int32.reduceLE, Int32.reduceToNatClampNeg, Nat.reduceMod, Nat.reduceLT, List.length_cons, List.length_nil, eq_self, true_or, or_true, and_self, implies_true, not_true_eq_false, not_false_eq_true, false_implies, true_implies, forall_const, st_aloadx, st_astorex, st_astore_1x, st_getfieldx, st_gotox, st_iconstx, st_ifCondx, st_ifnullx, st_ifnull_1x, st_iloadx, st_in1, st_in2, st_in3, am_put, am_nlg, kb_Slips_pairSlips_0, og_23_1, oo_34, og_23_8, oa_23, oa_34, ob2]
      refine c_number b3 ?_
      simp only [isO_c, ax0, ex_cons, am_get, upz_at, true_and, and_true, Nat.reduceAdd, Nat.reduceLeDiff, Nat.reduceEqDiff, Nat.reduceSub, Int32.reduceOfInt, Int32.reduceAdd, Int32.reduceMul, Int32.reduceSub, ↓reduceIte, Int32.reduceLT, Int32.reduceLE, Int32.reduceToNatClampNeg, Nat.reduceMod, Nat.reduceLT, List.length_cons, List.length_nil, eq_self, true_or, or_true, and_self, implies_true, not_true_eq_false, not_false_eq_true, false_implies, true_implies, forall_const, st_aloadx, st_astorex, st_astore_1x, st_getfieldx, st_gotox, st_iconstx, st_ifCondx, st_ifnullx, st_ifnull_1x, st_iloadx, st_in1, st_in2, st_in3, am_put, am_nlg, kb_Slips_pairSlips_0, og_23_1, oo_34, og_23_8, oo_65, oa_23, oa_34, oa_65]
      refine c_joinN (fun a z => nuR_num a3.1 z) (fun b z => nuR_num b3.1 z) (fun z => ?_) (fun F1 a b z1 z2 z3 s1 s2 => ?_)
      · simp only [isO_c, ax0, ex_cons, am_get, upz_at, true_and, and_true, Nat.reduceAdd, Nat.reduceLeDiff, Nat.reduceEqDiff, Nat.reduceSub, Int32.reduceOfInt, Int32.reduceAdd, Int32.reduceMul, Int32.reduceSub, ↓reduceIte, Int32.reduceLT, Int32.reduceLE, Int32.reduceToNatClampNeg, Nat.reduceMod, Nat.reduceLT, List.length_cons, List.length_nil, eq_self, true_or, or_true, and_self, implies_true, not_true_eq_false, not_false_eq_true, false_implies, true_implies, forall_const, st_aloadx, st_astorex, st_astore_1x, st_freturnx, st_getfieldx, st_gotox, st_goto_wx, st_iconstx, st_ifCondx, st_ifnullx, st_ifnull_1x, st_iloadx, st_in1, st_in2, st_in3, am_put, am_nlg, kb_Slips_pairSlips_0, og_23_1, oo_34, og_23_8, oo_65, jx_Slips_pairSlips_51, kb_Slips_pairSlips_51, jx_Slips_pairSlips_52, kb_Slips_pairSlips_52, oa_23, oa_34, oa_65]
        refine K0 (fun g => ?_)
        rcases z with z | z | ⟨a, b, z1, z2, z3⟩
        · rw [z]
        · rw [z]; cases nuR (X.1.2.1 x.toNatClampNeg) <;> rfl
        · rw [z1, z2]; exact if_pos z3
      · obtain ⟨c1, c2⟩ := nuR_num a3.1 z1
        obtain ⟨d1, d2⟩ := nuR_num b3.1 z2
        simp only [isO_c, ax0, ex_cons, am_get, upz_at, true_and, and_true, Nat.reduceAdd, Nat.reduceLeDiff, Nat.reduceEqDiff, Nat.reduceSub, Int32.reduceOfInt, Int32.reduceAdd, Int32.reduceMul, Int32.reduceSub, ↓reduceIte, Int32.reduceLT, Int32.reduceLE, Int32.reduceToNatClampNeg, Nat.reduceMod, Nat.reduceLT, List.length_cons, List.length_nil, eq_self, true_or, or_true, and_self, implies_true, not_true_eq_false, not_false_eq_true, false_implies, true_implies, forall_const, st_aloadx, st_astorex, st_astore_1x, st_freturnx, st_getfieldx, st_gotox, st_goto_wx, st_iconstx, st_ifCondx, st_ifnullx, st_ifnull_1x, st_iloadx, st_in1, st_in2, st_in3, am_put, am_nlg, kb_Slips_pairSlips_0, og_23_1, oo_34, og_23_8, oo_65, jx_Slips_pairSlips_51, kb_Slips_pairSlips_51, jx_Slips_pairSlips_52, kb_Slips_pairSlips_52, oa_23, oa_34, oa_65]
        refine K1 F1 a b (fun g => ?_) c1 d1 c2 d2 z3 s1 s2
        rw [z1, z2]
        exact if_neg z3
def Cp (F F' : Nat → Nat → Int32) : Prop := ∀ x, x ≠ 47 → x ≠ 51 → x ≠ 67 → x ≠ 71 → x ≠ 65 → x ≠ 66 → F' x = F x
theorem SYf.j {F F' : Nat → Nat → Int32} (hS : SYf F) (s : Sy65 F F') : SYf F' := by
  unfold SYf at hS ⊢
  rw [s.2.1, s.2.2, s.1 66 (by decide)]
  exact hS
theorem Sy65.cp {F F' : Nat → Nat → Int32} (s : Sy65 F F') : Cp F F' := fun x _ _ _ _ h5 _ => s.1 x h5
theorem Sy65.dk {F F' : Nat → Nat → Int32} {h : am_H} {V : Nat → Nat → Value} {X : kT} (hD : DK h F V 34 X) (s : Sy65 F F') : DK h F' V 34 X := hD.cg (fun i _ => by rw [s.1 34 (by decide)]) (s.1 37 (by decide)) rfl rfl rfl
set_option maxRecDepth 20000 in
theorem cp_pair (hb : HB h) (hpt : HP h) {X : kT} (hD : DK h F V 34 X) (hS : SYf F) {x y w : Int32} (K : ∀ F' J', Cp F F' → SYf F' → Q (some (.int (aPair X.1 x y w))) (ov h F' J' V)) : am_cl (d + 7) 44 [.ref 23, .int x, .int y, .int w] (ov h F J V) Q := by
  unfold aPair at K
  simp only [isO_c, ax0, ex_cons, am_get, upz_at, true_and, and_true, Nat.reduceAdd, Nat.reduceLeDiff, Nat.reduceEqDiff, Nat.reduceSub, Int32.reduceOfInt, Int32.reduceAdd, Int32.reduceMul, Int32.reduceSub, ↓reduceIte, Int32.reduceLT, Int32.reduceLE, Int32.reduceToNatClampNeg, Nat.reduceMod, Nat.reduceLT, List.length_cons, List.length_nil, eq_self, true_or, or_true, and_self, implies_true, not_true_eq_false, not_false_eq_true, false_implies, true_implies, forall_const, st_aloadx, st_iconstx, st_ifCondx, st_iloadx, st_in3, st_ireturnx, kb_Slips_pair_0, oo_23, oa_23, cx_Slips_pair]
  refine c_pairSlips hD (fun z => ?_) (fun F1 a b z1 z2 ha hb2 na nb z3 s1 s2 => ?_)
  · simp only [isO_c, ax0, ex_cons, am_get, upz_at, true_and, and_true, Nat.reduceAdd, Nat.reduceLeDiff, Nat.reduceEqDiff, Nat.reduceSub, Int32.reduceOfInt, Int32.reduceAdd, Int32.reduceMul, Int32.reduceSub, ↓reduceIte, Int32.reduceLT, Int32.reduceLE, Int32.reduceToNatClampNeg, Nat.reduceMod, Nat.reduceLT, List.length_cons, List.length_nil, eq_self, true_or, or_true, and_self, implies_true, not_true_eq_false, not_false_eq_true, false_implies, true_implies, forall_const, st_aloadx, st_iconstx, st_ifCondx, st_iloadx, st_in3, st_ireturnx, kb_Slips_pair_0, oo_23, oa_23]
    have K := K F J (fun _ _ _ _ _ _ _ => rfl) hS
    cases e : lieB w 0 4
    · rw [e, Bool.and_false, if_neg Bool.false_ne_true] at K; exact K
    · rw [e, Bool.and_true, z] at K; exact K
  · rw [z1, Bool.true_and, z2] at K
    have K0 := fun e : lieB w 0 4 = false => K F1 J s1.cp (hS.j s1)
    obtain ⟨j0, j1, j2, j3, j4, j5⟩ := id s2
    have h343 : F1 34 3 = b2i X.1.2.2.2 := (s1.dk hD).2.2.1
    obtain ⟨f, f1, f2, f3⟩ := fgN_nI z3
    unfold gPr at K
    simp only [isO_c, ax0, ex_cons, am_get, upz_at, true_and, and_true, Nat.reduceAdd, Nat.reduceLeDiff, Nat.reduceEqDiff, Nat.reduceSub, Int32.reduceOfInt, Int32.reduceAdd, Int32.reduceMul, Int32.reduceSub, ↓reduceIte, Int32.reduceLT, Int32.reduceLE, Int32.reduceToNatClampNeg, Nat.reduceMod, Nat.reduceLT, List.length_cons, List.length_nil, eq_self, true_or, or_true, and_self, implies_true, not_true_eq_false, not_false_eq_true, false_implies, true_implies, forall_const, st_aloadx, st_iconstx, st_ifCondx, st_iloadx, st_in3, st_ireturnx, st_lookupswitchx, kb_Slips_pair_0, oo_23, jx_Slips_pair_11, kb_Slips_pair_11, oa_23, am_sw]
    refine ⟨fun q0 => ?_, fun q0 => ⟨fun q1 => ?_, fun q1 => ⟨fun q2 => ?_, fun q2 => ⟨fun q3 => ?_, fun q3 => ⟨fun q4 => ?_, fun q4 => ?_⟩⟩⟩⟩⟩
    · subst q0
      simp only [show Int.toNat 48 = 48 from rfl, isO_c, ax0, ex_cons, am_get, upz_at, true_and, and_true, Nat.reduceAdd, Nat.reduceLeDiff, Nat.reduceEqDiff, Nat.reduceSub, Int32.reduceOfInt, Int32.reduceAdd, Int32.reduceMul, Int32.reduceSub, ↓reduceIte, Int32.reduceLT, Int32.reduceLE, Int32.reduceToNatClampNeg, Nat.reduceMod, Nat.reduceLT, List.length_cons, List.length_nil, eq_self, true_or, or_true, and_self, implies_true, not_true_eq_false, not_false_eq_true, false_implies, true_implies, forall_const, st_aloadx, st_getfieldx, st_ireturnx, jx_Slips_pair_48, kb_Slips_pair_48, og_23_8, og_65_2, oa_23, oa_65, j2]
      exact K F1 J s1.cp (hS.j s1)
    · subst q1
      simp only [show Int.toNat 56 = 56 from rfl, isO_c, ax0, ex_cons, am_get, upz_at, true_and, and_true, Nat.reduceAdd, Nat.reduceLeDiff, Nat.reduceEqDiff, Nat.reduceSub, Int32.reduceOfInt, Int32.reduceAdd, Int32.reduceMul, Int32.reduceSub, ↓reduceIte, Int32.reduceLT, Int32.reduceLE, Int32.reduceToNatClampNeg, Nat.reduceMod, Nat.reduceLT, List.length_cons, List.length_nil, eq_self, true_or, or_true, and_self, implies_true, not_true_eq_false, not_false_eq_true, false_implies, true_implies, forall_const, st_aloadx, st_getfieldx, st_ireturnx, jx_Slips_pair_56, kb_Slips_pair_56, og_23_8, og_65_3, oa_23, oa_65, j3]
      exact K F1 J s1.cp (hS.j s1)
    · subst q2
      simp only [show Int.toNat 64 = 64 from rfl, isO_c, ax0, ex_cons, am_get, upz_at, true_and, and_true, Nat.reduceAdd, Nat.reduceLeDiff, Nat.reduceEqDiff, Nat.reduceSub, Int32.reduceOfInt, Int32.reduceAdd, Int32.reduceMul, Int32.reduceSub, ↓reduceIte, Int32.reduceLT, Int32.reduceLE, Int32.reduceToNatClampNeg, Nat.reduceMod, Nat.reduceLT, List.length_cons, List.length_nil, eq_self, true_or, or_true, and_self, implies_true, not_true_eq_false, not_false_eq_true, false_implies, true_implies, forall_const, st_aloadx, st_getfieldx, st_in1, st_in2, st_ireturnx, jx_Slips_pair_64, kb_Slips_pair_64, og_23_8, og_23_1, og_34_3, oo_65, oa_23, oa_34, oa_65, h343]
      refine c_learn hb hpt (hS.j s1) (fun F2 J2 c2 y2 t2 => ?_)
      simp only [isO_c, ax0, ex_cons, am_get, upz_at, true_and, and_true, Nat.reduceAdd, Nat.reduceLeDiff, Nat.reduceEqDiff, Nat.reduceSub, Int32.reduceOfInt, Int32.reduceAdd, Int32.reduceMul, Int32.reduceSub, ↓reduceIte, Int32.reduceLT, Int32.reduceLE, Int32.reduceToNatClampNeg, Nat.reduceMod, Nat.reduceLT, List.length_cons, List.length_nil, eq_self, true_or, or_true, and_self, implies_true, not_true_eq_false, not_false_eq_true, false_implies, true_implies, forall_const, st_aloadx, st_getfieldx, st_in1, st_in2, st_ireturnx, jx_Slips_pair_64, kb_Slips_pair_64, og_23_8, og_23_1, og_34_3, oo_65, oa_23, oa_34, oa_65]
      refine c_conclude t2 ha hb2 ?_ f1 f2 f3 ?_
      · exact ⟨(c2.2 0 (by decide)).trans j0, (c2.2 1 (by decide)).trans j1, (c2.2 2 (by decide)).trans j2, (c2.2 3 (by decide)).trans j3, (c2.2 4 (by decide)).trans j4, (c2.2 5 (by decide)).trans j5⟩
      · simp only [isO_c, ax0, ex_cons, am_get, upz_at, true_and, and_true, Nat.reduceAdd, Nat.reduceLeDiff, Nat.reduceEqDiff, Nat.reduceSub, Int32.reduceOfInt, Int32.reduceAdd, Int32.reduceMul, Int32.reduceSub, ↓reduceIte, Int32.reduceLT, Int32.reduceLE, Int32.reduceToNatClampNeg, Nat.reduceMod, Nat.reduceLT, List.length_cons, List.length_nil, eq_self, true_or, or_true, and_self, implies_true, not_true_eq_false, not_false_eq_true, false_implies, true_implies, forall_const, st_aloadx, st_getfieldx, st_in1, st_in2, st_ireturnx, jx_Slips_pair_64, kb_Slips_pair_64, og_23_8, og_23_1, og_34_3, oo_65, oa_23, oa_34, oa_65]
        rw [← ccN_tc ha hb2 na nb f1 f2 f3]
        exact K F2 J2 (fun x x1 x2 x3 x4 x5 x6 => (c2.1 x x1 x2 x3 x4 x5 x6).trans (s1.1 x x5)) y2
    · subst q3
      simp only [show Int.toNat 86 = 86 from rfl, isO_c, ax0, ex_cons, am_get, upz_at, true_and, and_true, Nat.reduceAdd, Nat.reduceLeDiff, Nat.reduceEqDiff, Nat.reduceSub, Int32.reduceOfInt, Int32.reduceAdd, Int32.reduceMul, Int32.reduceSub, ↓reduceIte, Int32.reduceLT, Int32.reduceLE, Int32.reduceToNatClampNeg, Nat.reduceMod, Nat.reduceLT, List.length_cons, List.length_nil, eq_self, true_or, or_true, and_self, implies_true, not_true_eq_false, not_false_eq_true, false_implies, true_implies, forall_const, st_aloadx, st_getfieldx, st_ireturnx, jx_Slips_pair_86, kb_Slips_pair_86, og_23_8, og_65_4, oa_23, oa_65, j4]
      exact K F1 J s1.cp (hS.j s1)
    · subst q4
      simp only [show Int.toNat 94 = 94 from rfl, isO_c, ax0, ex_cons, am_get, upz_at, true_and, and_true, Nat.reduceAdd, Nat.reduceLeDiff, Nat.reduceEqDiff, Nat.reduceSub, Int32.reduceOfInt, Int32.reduceAdd, Int32.reduceMul, Int32.reduceSub, ↓reduceIte, Int32.reduceLT, Int32.reduceLE, Int32.reduceToNatClampNeg, Nat.reduceMod, Nat.reduceLT, List.length_cons, List.length_nil, eq_self, true_or, or_true, and_self, implies_true, not_true_eq_false, not_false_eq_true, false_implies, true_implies, forall_const, st_aloadx, st_getfieldx, st_ireturnx, jx_Slips_pair_94, kb_Slips_pair_94, og_23_8, og_65_5, oa_23, oa_65, j5]
      exact K F1 J s1.cp (hS.j s1)
    · have e : lieB w 0 4 = false := by
        cases z : lieB w 0 4
        · rfl
        · obtain ⟨c, ec, hc, _⟩ := lieB_nI (m := 4) (by decide) z
          rcases (show c = 0 ∨ c = 1 ∨ c = 2 ∨ c = 3 ∨ c = 4 by omega) with t | t | t | t | t <;> subst t
          · exact absurd ec q0
          · exact absurd ec q1
          · exact absurd ec q2
          · exact absurd ec q3
          · exact absurd ec q4
      rw [e, if_neg Bool.false_ne_true] at K
      simp only [isO_c, ax0, ex_cons, am_get, upz_at, true_and, and_true, Nat.reduceAdd, Nat.reduceLeDiff, Nat.reduceEqDiff, Nat.reduceSub, Int32.reduceOfInt, Int32.reduceAdd, Int32.reduceMul, Int32.reduceSub, ↓reduceIte, Int32.reduceLT, Int32.reduceLE, Int32.reduceToNatClampNeg, Nat.reduceMod, Nat.reduceLT, List.length_cons, List.length_nil, eq_self, true_or, or_true, and_self, implies_true, not_true_eq_false, not_false_eq_true, false_implies, true_implies, forall_const, st_iconstx, st_ireturnx, jx_Slips_pair_102, kb_Slips_pair_102]
      exact K F1 J s1.cp (hS.j s1)
set_option maxRecDepth 20000 in
theorem cp_wrong {X : kT} (hD : DK h F V 34 X) (hS : SYf F) {x y w : Int32} (K : ∀ F', Cp F F' → SYf F' → Q (some (.int (aWrong X.1 x y w))) (ov h F' J V)) : am_cl (d + 7) 45 [.ref 23, .int x, .int y, .int w] (ov h F J V) Q := by
  unfold aWrong at K
  simp only [isO_c, ax0, ex_cons, am_get, upz_at, true_and, and_true, Nat.reduceAdd, Nat.reduceLeDiff, Nat.reduceEqDiff, Nat.reduceSub, Int32.reduceOfInt, Int32.reduceAdd, Int32.reduceMul, Int32.reduceSub, ↓reduceIte, Int32.reduceLT, Int32.reduceLE, Int32.reduceToNatClampNeg, Nat.reduceMod, Nat.reduceLT, List.length_cons, List.length_nil, eq_self, true_or, or_true, and_self, implies_true, not_true_eq_false, not_false_eq_true, false_implies, true_implies, forall_const, st_aloadx, st_goto_wx, st_ifCondx, st_iloadx, st_in3, st_st1, kb_Slips_wrong_0, oo_23, oa_23, cx_Slips_wrong]
  refine c_isMood ?_
  simp only [isO_c, ax0, ex_cons, am_get, upz_at, true_and, and_true, Nat.reduceAdd, Nat.reduceLeDiff, Nat.reduceEqDiff, Nat.reduceSub, Int32.reduceOfInt, Int32.reduceAdd, Int32.reduceMul, Int32.reduceSub, ↓reduceIte, Int32.reduceLT, Int32.reduceLE, Int32.reduceToNatClampNeg, Nat.reduceMod, Nat.reduceLT, List.length_cons, List.length_nil, eq_self, true_or, or_true, and_self, implies_true, not_true_eq_false, not_false_eq_true, false_implies, true_implies, forall_const, st_aloadx, st_goto_wx, st_iconstx, st_ifCondx, st_iloadx, st_in3, st_st1, st_ireturnx, kb_Slips_wrong_0, oo_23, jx_Slips_wrong_16, kb_Slips_wrong_16, oa_23]
  refine ifb (fun e => ?_) (fun e => ?_)
  · rw [e, Bool.and_false, if_neg Bool.false_ne_true] at K
    exact K F (fun _ _ _ _ _ _ _ => rfl) hS
  · rw [e, Bool.and_true] at K
    obtain ⟨c, ec, hc, _⟩ := lieB_nI (m := 3) (by decide) e
    refine c_pairSlips hD (fun z => ?_) (fun F1 a b z1 z2 ha hb2 na nb z3 s1 s2 => ?_)
    · simp only [isO_c, ax0, ex_cons, am_get, upz_at, true_and, and_true, Nat.reduceAdd, Nat.reduceLeDiff, Nat.reduceEqDiff, Nat.reduceSub, Int32.reduceOfInt, Int32.reduceAdd, Int32.reduceMul, Int32.reduceSub, ↓reduceIte, Int32.reduceLT, Int32.reduceLE, Int32.reduceToNatClampNeg, Nat.reduceMod, Nat.reduceLT, List.length_cons, List.length_nil, eq_self, true_or, or_true, and_self, implies_true, not_true_eq_false, not_false_eq_true, false_implies, true_implies, forall_const, st_aloadx, st_goto_wx, st_iconstx, st_ifCondx, st_iloadx, st_in3, st_st1, st_ireturnx, kb_Slips_wrong_0, oo_23, jx_Slips_wrong_16, kb_Slips_wrong_16, oa_23]
      have K := K F (fun _ _ _ _ _ _ _ => rfl) hS
      rw [z] at K; exact K
    · obtain ⟨j0, j1, j2, j3, j4, j5⟩ := id s2
      have h343 : F1 34 3 = b2i X.1.2.2.2 := (s1.dk hD).2.2.1
      obtain ⟨f, f1, f2, f3⟩ := fgN_nI z3
      rw [z1, if_pos rfl, z2, ec, gWr_jd ha hb2 na nb f1 f2 f3 (by omega)] at K
      simp only [isO_c, ax0, ex_cons, am_get, upz_at, true_and, and_true, Nat.reduceAdd, Nat.reduceLeDiff, Nat.reduceEqDiff, Nat.reduceSub, Int32.reduceOfInt, Int32.reduceAdd, Int32.reduceMul, Int32.reduceSub, ↓reduceIte, Int32.reduceLT, Int32.reduceLE, Int32.reduceToNatClampNeg, Nat.reduceMod, Nat.reduceLT, List.length_cons, List.length_nil, eq_self, true_or, or_true, and_self, implies_true, not_true_eq_false, not_false_eq_true, false_implies, true_implies, forall_const, st_aloadx, st_getfieldx, st_goto_wx, st_ifCondx, st_iloadx, st_in3, st_st1, st_ireturnx, kb_Slips_wrong_0, oo_23, jx_Slips_wrong_18, kb_Slips_wrong_18, og_23_8, og_23_1, og_34_3, oo_65, oa_23, oa_34, oa_65, h343]
      rw [ec]
      refine c_judge (f := f) (by omega) j0 j1 (by rw [j2]; exact f1) ?_
      simp only [isO_c, ax0, ex_cons, am_get, upz_at, true_and, and_true, Nat.reduceAdd, Nat.reduceLeDiff, Nat.reduceEqDiff, Nat.reduceSub, Int32.reduceOfInt, Int32.reduceAdd, Int32.reduceMul, Int32.reduceSub, ↓reduceIte, Int32.reduceLT, Int32.reduceLE, Int32.reduceToNatClampNeg, Nat.reduceMod, Nat.reduceLT, List.length_cons, List.length_nil, eq_self, true_or, or_true, and_self, implies_true, not_true_eq_false, not_false_eq_true, false_implies, true_implies, forall_const, st_aloadx, st_getfieldx, st_iloadx, st_in3, st_ireturnx, jx_Slips_wrong_18, kb_Slips_wrong_18, og_23_8, og_23_1, og_34_3, oo_65, oa_23, oa_34, oa_65]
      exact K F1 s1.cp (hS.j s1)
end CPP
