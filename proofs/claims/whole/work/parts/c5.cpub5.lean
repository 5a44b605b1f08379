/-! ===== the class: of, has, letter ===== -/
/-- the sentence that is asked for -/
def seV (D : dT) (V : Nat → Nat → Value) (x : Int32) : Value := if x = -1 then V 34 2 else spV D.1 V x
theorem seV_ok {h : am_H} {F : Nat → Nat → Int32} {V : Nat → Nat → Value} {X : kT} (hD : DK h F V 34 X) {x : Int32} : (slD X.1 x = none ∧ seV X.1 V x = .null) ∨ ∃ s p, slD X.1 x = some s ∧ seV X.1 V x = .ref p ∧ SR h p (X.1.2.1 s) := by
  unfold slD seV
  by_cases q : x = -1
  · rw [if_pos q, if_pos q]
    rcases hD.asked with ⟨ea, ev⟩ | ⟨ea, p, ev, hs⟩
    · rw [ea]; exact Or.inl ⟨rfl, ev⟩
    · rw [ea]; exact Or.inr ⟨12, p, rfl, ev, hs⟩
  · rw [if_neg q, if_neg q]
    rcases spV_slip hD (x := x) with ⟨a1, a2⟩ | ⟨a1, p1, a2, a3, a4⟩
    · rw [a1]; exact Or.inl ⟨rfl, a2⟩
    · rw [a1]; exact Or.inr ⟨_, p1, rfl, a2, a3⟩
theorem SR.all {h : am_H} {p : Nat} {R : rT} (hs : SR h p R) : ∃ a b c fs, (∀ (F : Nat → Nat → Int32) (J : Nat → Nat → Int64) (V : Nat → Nat → Value), (ov h F J V).1 p = aO 6 [.int (nI (saR R)), .int (nmI R), .int (b2i (hsR R)), .int (moI R), .int (skI R), .int (pkI R), .ref a, .ref b, .ref c]) ∧ (∀ (F : Nat → Nat → Int32) (J : Nat → Nat → Int64) (V : Nat → Nat → Value), (ov h F J V).1 a = aJ (am_ar 4 fs)) ∧ (∀ r, r < 256 → bJ fs r = seR R r) ∧ ∀ (F : Nat → Nat → Int32) (J : Nat → Nat → Int64) (V : Nat → Nat → Value), (ov h F J V).1 c = aI 1 (am_ar (txR R).length (fun i => nI ((txR R).getD i 0))) := by
  obtain ⟨hw, a, b, c, fs, fb, h1, h2, h3, h4, h5, h6, h7, h8, h9, h10⟩ := hs
  exact ⟨a, b, c, fs, fun F J V => (ov_hi (by omega)).trans h5, fun F J V => (ov_hi (by omega)).trans h6, h7, fun F J V => (ov_hi (by omega)).trans h10⟩
section CPG
variable {d : Nat} {h : am_H} {F : Nat → Nat → Int32} {J : Nat → Nat → Int64} {V : Nat → Nat → Value} {Q : am_Q}
set_option maxRecDepth 20000 in
theorem c_sentenceAt {X : kT} (hD : DK h F V 34 X) {x : Int32} (K : Q (some (seV X.1 V x)) (ov h F J V)) : am_cl (d + 2) 94 [.ref 34, .int x] (ov h F J V) Q := by
  have hv := seV_ok hD (x := x)
  have hsp := spV_slip hD (x := x)
  unfold seV at K
  simp only [isO_c, ax0, ex_cons, am_get, upz_at, true_and, and_true, Nat.reduceAdd, Nat.reduceLeDiff, Nat.reduceEqDiff, Nat.reduceSub, Int32.reduceOfInt, Int32.reduceAdd, Int32.reduceMul, Int32.reduceSub, ↓reduceIte, Int32.reduceLT, Int32.reduceLE, Int32.reduceToNatClampNeg, Nat.reduceMod, Nat.reduceLT, List.length_cons, List.length_nil, eq_self, true_or, or_true, and_self, implies_true, not_true_eq_false, not_false_eq_true, false_implies, true_implies, forall_const, st_aloadx, st_getfieldx, st_gotox, st_goto_wx, st_iconstx, st_if_icmpx, st_iloadx, st_in2, kb_Desk_sentenceAt_0, og_34_2, jx_Desk_sentenceAt_12, kb_Desk_sentenceAt_12, oo_34, oa_34, cx_Desk_sentenceAt]
  refine And.intro (fun q => ?_) (fun q => ?_)
  · rw [if_neg q] at K
    refine c_slipAt hD ?_
    rcases hsp with ⟨_, e⟩ | ⟨_, p, e, _⟩
    · rw [e] at K ⊢
      simp only [isO_c, ax0, ex_cons, am_get, upz_at, true_and, and_true, Nat.reduceAdd, Nat.reduceLeDiff, Nat.reduceEqDiff, Nat.reduceSub, Int32.reduceOfInt, Int32.reduceAdd, Int32.reduceMul, Int32.reduceSub, ↓reduceIte, Int32.reduceLT, Int32.reduceLE, Int32.reduceToNatClampNeg, Nat.reduceMod, Nat.reduceLT, List.length_cons, List.length_nil, eq_self, true_or, or_true, and_self, implies_true, not_true_eq_false, not_false_eq_true, false_implies, true_implies, forall_const, st_aloadx, st_areturnx, st_areturn_1x, st_goto_wx, st_iloadx, st_in2, jx_Desk_sentenceAt_12, kb_Desk_sentenceAt_12, oo_34, jx_Desk_sentenceAt_17, kb_Desk_sentenceAt_17, oa_34]
      exact K
    · rw [e] at K ⊢
      simp only [isO_c, ax0, ex_cons, am_get, upz_at, true_and, and_true, Nat.reduceAdd, Nat.reduceLeDiff, Nat.reduceEqDiff, Nat.reduceSub, Int32.reduceOfInt, Int32.reduceAdd, Int32.reduceMul, Int32.reduceSub, ↓reduceIte, Int32.reduceLT, Int32.reduceLE, Int32.reduceToNatClampNeg, Nat.reduceMod, Nat.reduceLT, List.length_cons, List.length_nil, eq_self, true_or, or_true, and_self, implies_true, not_true_eq_false, not_false_eq_true, false_implies, true_implies, forall_const, st_aloadx, st_areturnx, st_areturn_1x, st_goto_wx, st_iloadx, st_in2, jx_Desk_sentenceAt_12, kb_Desk_sentenceAt_12, oo_34, jx_Desk_sentenceAt_17, kb_Desk_sentenceAt_17, oa_34]
      exact K
  · rw [if_pos (Classical.not_not.mp q)] at K
    rcases hD.asked with ⟨_, e⟩ | ⟨_, p, e, _⟩
    · rw [e] at K ⊢
      simp only [isO_c, ax0, ex_cons, am_get, upz_at, true_and, and_true, Nat.reduceAdd, Nat.reduceLeDiff, Nat.reduceEqDiff, Nat.reduceSub, Int32.reduceOfInt, Int32.reduceAdd, Int32.reduceMul, Int32.reduceSub, ↓reduceIte, Int32.reduceLT, Int32.reduceLE, Int32.reduceToNatClampNeg, Nat.reduceMod, Nat.reduceLT, List.length_cons, List.length_nil, eq_self, true_or, or_true, and_self, implies_true, not_true_eq_false, not_false_eq_true, false_implies, true_implies, forall_const, st_areturnx, st_areturn_1x, jx_Desk_sentenceAt_17, kb_Desk_sentenceAt_17]
      exact K
    · rw [e] at K ⊢
      simp only [isO_c, ax0, ex_cons, am_get, upz_at, true_and, and_true, Nat.reduceAdd, Nat.reduceLeDiff, Nat.reduceEqDiff, Nat.reduceSub, Int32.reduceOfInt, Int32.reduceAdd, Int32.reduceMul, Int32.reduceSub, ↓reduceIte, Int32.reduceLT, Int32.reduceLE, Int32.reduceToNatClampNeg, Nat.reduceMod, Nat.reduceLT, List.length_cons, List.length_nil, eq_self, true_or, or_true, and_self, implies_true, not_true_eq_false, not_false_eq_true, false_implies, true_implies, forall_const, st_areturnx, st_areturn_1x, jx_Desk_sentenceAt_17, kb_Desk_sentenceAt_17]
      exact K
set_option maxRecDepth 20000 in
theorem cp_of {X : kT} (hD : DK h F V 34 X) {x w : Int32} (K : Q (some (.int (aOf X.1 x w))) (ov h F J V)) : am_cl (d + 3) 18 [.ref 23, .int x, .int w] (ov h F J V) Q := by
  unfold aOf at K
  simp only [isO_c, ax0, ex_cons, am_get, upz_at, true_and, and_true, Nat.reduceAdd, Nat.reduceLeDiff, Nat.reduceEqDiff, Nat.reduceSub, Int32.reduceOfInt, Int32.reduceAdd, Int32.reduceMul, Int32.reduceSub, ↓reduceIte, Int32.reduceLT, Int32.reduceLE, Int32.reduceToNatClampNeg, Nat.reduceMod, Nat.reduceLT, List.length_cons, List.length_nil, eq_self, true_or, or_true, and_self, implies_true, not_true_eq_false, not_false_eq_true, false_implies, true_implies, forall_const, st_aloadx, st_astorex, st_astore_1x, st_getfieldx, st_iconstx, st_ifnonnullx, st_ifnonnull_1x, st_iloadx, st_in2, st_ireturnx, am_put, am_nlg, kb_Slips_of_0, og_23_1, oo_34, oa_23, oa_34, cx_Slips_of]
  refine c_sentenceAt hD ?_
  rcases seV_ok hD (x := x) with ⟨e1, e2⟩ | ⟨s, p, e1, e2, e3⟩
  · rw [e1] at K
    rw [e2]
    simp only [isO_c, ax0, ex_cons, am_get, upz_at, true_and, and_true, Nat.reduceAdd, Nat.reduceLeDiff, Nat.reduceEqDiff, Nat.reduceSub, Int32.reduceOfInt, Int32.reduceAdd, Int32.reduceMul, Int32.reduceSub, ↓reduceIte, Int32.reduceLT, Int32.reduceLE, Int32.reduceToNatClampNeg, Nat.reduceMod, Nat.reduceLT, List.length_cons, List.length_nil, eq_self, true_or, or_true, and_self, implies_true, not_true_eq_false, not_false_eq_true, false_implies, true_implies, forall_const, st_aloadx, st_astorex, st_astore_1x, st_getfieldx, st_iconstx, st_ifnonnullx, st_ifnonnull_1x, st_iloadx, st_in2, st_ireturnx, am_put, am_nlg, kb_Slips_of_0, og_23_1, oo_34, oa_23, oa_34]
    exact K
  · rw [e1] at K
    dsimp only at K
    rw [e2]
    obtain ⟨a, b, c, fs, ho0, ha0, h7, hc0⟩ := e3.all
    have ho := ho0 F J V
    have ha := ha0 F J V
    have nn : ∀ f : Nat → Int32, (match nuR (X.1.2.1 s) with
      | none => (-1 : Int32)
      | some n => f n) = (match nuR (X.1.2.1 s) with
      | none => (-1 : Int32)
      | some n => f n) := fun _ => rfl
    simp only [isO_c, ax0, ex_cons, am_get, upz_at, true_and, and_true, Nat.reduceAdd, Nat.reduceLeDiff, Nat.reduceEqDiff, Nat.reduceSub, Int32.reduceOfInt, Int32.reduceAdd, Int32.reduceMul, Int32.reduceSub, ↓reduceIte, Int32.reduceLT, Int32.reduceLE, Int32.reduceToNatClampNeg, Nat.reduceMod, Nat.reduceLT, List.length_cons, List.length_nil, eq_self, true_or, or_true, and_self, implies_true, not_true_eq_false, not_false_eq_true, false_implies, true_implies, forall_const, st_aloadx, st_astorex, st_astore_1x, st_getfieldx, st_iconstx, st_ifnonnullx, st_ifnonnull_1x, st_iloadx, st_in2, st_ireturnx, st_lookupswitchx, am_put, am_nlg, kb_Slips_of_0, og_23_1, oo_34, jx_Slips_of_15, kb_Slips_of_15, oa_23, oa_34, am_sw]
    refine And.intro (fun q => ?_) (fun q => ?_)
    · subst q
      simp only [show Int.toNat 56 = 56 from rfl, isO_c, ax0, ex_cons, am_get, upz_at, true_and, and_true, Nat.reduceAdd, Nat.reduceLeDiff, Nat.reduceEqDiff, Nat.reduceSub, Int32.reduceOfInt, Int32.reduceAdd, Int32.reduceMul, Int32.reduceSub, ↓reduceIte, Int32.reduceLT, Int32.reduceLE, Int32.reduceToNatClampNeg, Nat.reduceMod, Nat.reduceLT, List.length_cons, List.length_nil, eq_self, true_or, or_true, and_self, implies_true, not_true_eq_false, not_false_eq_true, false_implies, true_implies, forall_const, st_aloadx, st_getfieldx, st_ireturnx, jx_Slips_of_56, kb_Slips_of_56, ho, gf6]
      exact K
    refine And.intro (fun q1 => ?_) (fun q1 => ?_)
    · subst q1
      simp only [show Int.toNat 61 = 61 from rfl, isO_c, ax0, ex_cons, am_get, upz_at, true_and, and_true, Nat.reduceAdd, Nat.reduceLeDiff, Nat.reduceEqDiff, Nat.reduceSub, Int32.reduceOfInt, Int32.reduceAdd, Int32.reduceMul, Int32.reduceSub, ↓reduceIte, Int32.reduceLT, Int32.reduceLE, Int32.reduceToNatClampNeg, Nat.reduceMod, Nat.reduceLT, List.length_cons, List.length_nil, eq_self, true_or, or_true, and_self, implies_true, not_true_eq_false, not_false_eq_true, false_implies, true_implies, forall_const, st_aloadx, st_getfieldx, st_ireturnx, jx_Slips_of_61, kb_Slips_of_61, ho, gf6]
      have e5 : (if lieB 1 0 5 then ofR (X.1.2.1 s) 1 else -1) = moI (X.1.2.1 s) := by
        unfold ofR moI
        cases nuR (X.1.2.1 s) <;> rfl
      rw [e5] at K
      exact K
    refine And.intro (fun q2 => ?_) (fun q2 => ?_)
    · subst q2
      simp only [show Int.toNat 66 = 66 from rfl, isO_c, ax0, ex_cons, am_get, upz_at, true_and, and_true, Nat.reduceAdd, Nat.reduceLeDiff, Nat.reduceEqDiff, Nat.reduceSub, Int32.reduceOfInt, Int32.reduceAdd, Int32.reduceMul, Int32.reduceSub, ↓reduceIte, Int32.reduceLT, Int32.reduceLE, Int32.reduceToNatClampNeg, Nat.reduceMod, Nat.reduceLT, List.length_cons, List.length_nil, eq_self, true_or, or_true, and_self, implies_true, not_true_eq_false, not_false_eq_true, false_implies, true_implies, forall_const, st_aloadx, st_getfieldx, st_ireturnx, jx_Slips_of_66, kb_Slips_of_66, ho, gf6]
      have e5 : (if lieB 2 0 5 then ofR (X.1.2.1 s) 2 else -1) = skI (X.1.2.1 s) := by
        unfold ofR skI
        cases nuR (X.1.2.1 s) <;> rfl
      rw [e5] at K
      exact K
    refine And.intro (fun q3 => ?_) (fun q3 => ?_)
    · subst q3
      simp only [show Int.toNat 71 = 71 from rfl, isO_c, ax0, ex_cons, am_get, upz_at, true_and, and_true, Nat.reduceAdd, Nat.reduceLeDiff, Nat.reduceEqDiff, Nat.reduceSub, Int32.reduceOfInt, Int32.reduceAdd, Int32.reduceMul, Int32.reduceSub, ↓reduceIte, Int32.reduceLT, Int32.reduceLE, Int32.reduceToNatClampNeg, Nat.reduceMod, Nat.reduceLT, List.length_cons, List.length_nil, eq_self, true_or, or_true, and_self, implies_true, not_true_eq_false, not_false_eq_true, false_implies, true_implies, forall_const, st_aloadx, st_getfieldx, st_ireturnx, jx_Slips_of_71, kb_Slips_of_71, ho, gf6]
      have e5 : (if lieB 3 0 5 then ofR (X.1.2.1 s) 3 else -1) = pkI (X.1.2.1 s) := by
        unfold ofR pkI
        cases nuR (X.1.2.1 s) <;> rfl
      rw [e5] at K
      exact K
    refine And.intro (fun q4 => ?_) (fun q4 => ?_)
    · subst q4
      simp only [show Int.toNat 76 = 76 from rfl, isO_c, ax0, ex_cons, am_get, upz_at, true_and, and_true, Nat.reduceAdd, Nat.reduceLeDiff, Nat.reduceEqDiff, Nat.reduceSub, Int32.reduceOfInt, Int32.reduceAdd, Int32.reduceMul, Int32.reduceSub, ↓reduceIte, Int32.reduceLT, Int32.reduceLE, Int32.reduceToNatClampNeg, Nat.reduceMod, Nat.reduceLT, List.length_cons, List.length_nil, eq_self, true_or, or_true, and_self, implies_true, not_true_eq_false, not_false_eq_true, false_implies, true_implies, forall_const, st_aloadx, st_getfieldx, st_ireturnx, jx_Slips_of_76, kb_Slips_of_76, ho, gf6]
      exact K
    refine And.intro (fun q5 => ?_) (fun q5 => ?_)
    · subst q5
      simp only [show Int.toNat 81 = 81 from rfl, isO_c, ax0, ex_cons, am_get, upz_at, true_and, and_true, Nat.reduceAdd, Nat.reduceLeDiff, Nat.reduceEqDiff, Nat.reduceSub, Int32.reduceOfInt, Int32.reduceAdd, Int32.reduceMul, Int32.reduceSub, ↓reduceIte, Int32.reduceLT, Int32.reduceLE, Int32.reduceToNatClampNeg, Nat.reduceMod, Nat.reduceLT, List.length_cons, List.length_nil, eq_self, true_or, or_true, and_self, implies_true, not_true_eq_false, not_false_eq_true, false_implies, true_implies, forall_const, st_aloadx, st_getfieldx, st_st1, st_ireturnx, jx_Slips_of_81, kb_Slips_of_81, ho, gf6]
      refine c_sizeOf ha ?_
      rw [show cn (bJ fs) 256 = cn (seR (X.1.2.1 s)) 256 from cn_congr h7]
      simp only [isO_c, ax0, ex_cons, am_get, upz_at, true_and, and_true, Nat.reduceAdd, Nat.reduceLeDiff, Nat.reduceEqDiff, Nat.reduceSub, Int32.reduceOfInt, Int32.reduceAdd, Int32.reduceMul, Int32.reduceSub, ↓reduceIte, Int32.reduceLT, Int32.reduceLE, Int32.reduceToNatClampNeg, Nat.reduceMod, Nat.reduceLT, List.length_cons, List.length_nil, eq_self, true_or, or_true, and_self, implies_true, not_true_eq_false, not_false_eq_true, false_implies, true_implies, forall_const, st_aloadx, st_getfieldx, st_st1, st_ireturnx, jx_Slips_of_81, kb_Slips_of_81]
      exact K
    · have e5 : lieB w 0 5 = false := by
        cases e4 : lieB w 0 5
        · rfl
        · exfalso
          obtain ⟨k, ek, hk, _⟩ := lieB_nI (m := 5) (by decide) e4
          subst ek
          rcases (show k = 0 ∨ k = 1 ∨ k = 2 ∨ k = 3 ∨ k = 4 ∨ k = 5 by omega) with r | r | r | r | r | r <;> subst r
          · exact q rfl
          · exact q1 rfl
          · exact q2 rfl
          · exact q3 rfl
          · exact q4 rfl
          · exact q5 rfl
      rw [e5, if_neg Bool.false_ne_true] at K
      simp only [isO_c, ax0, ex_cons, am_get, upz_at, true_and, and_true, Nat.reduceAdd, Nat.reduceLeDiff, Nat.reduceEqDiff, Nat.reduceSub, Int32.reduceOfInt, Int32.reduceAdd, Int32.reduceMul, Int32.reduceSub, ↓reduceIte, Int32.reduceLT, Int32.reduceLE, Int32.reduceToNatClampNeg, Nat.reduceMod, Nat.reduceLT, List.length_cons, List.length_nil, eq_self, true_or, or_true, and_self, implies_true, not_true_eq_false, not_false_eq_true, false_implies, true_implies, forall_const, st_iconstx, st_ireturnx, jx_Slips_of_89, kb_Slips_of_89]
      exact K
set_option maxRecDepth 20000 in
theorem c_isIn {hp : am_H} {a : Nat} {f : Nat → Int64} (ha : hp.1 a = aJ (am_ar 4 f)) {r : Nat} (hr : r < 256) (K : Q (some (.int (b2i (bJ f r)))) hp) : am_cl (d + 1) 76 [.ref a, .int (nI r)] hp Q := by
  have e1 : nI r >>> (6 &&& 31) = nI (r / 64) := (by decide +kernel : ∀ r : Fin 256, nI r.val >>> (6 &&& 31) = nI (r.val / 64)) ⟨r, hr⟩
  have e2 : ((nI r &&& 63).toInt64.toUInt64 &&& Int64.toUInt64 63) = UInt64.ofNat (r % 64) := (by decide +kernel : ∀ r : Fin 256, ((nI r.val &&& 63).toInt64.toUInt64 &&& Int64.toUInt64 63) = UInt64.ofNat (r.val % 64)) ⟨r, hr⟩
  have e3 : ((f (r / 64)).toUInt64 >>> ((nI r &&& 63).toInt64.toUInt64 &&& Int64.toUInt64 63)).toInt64 &&& Int64.ofInt 1 = 0 ↔ bJ f r = false := by
    rw [i64_zero]
    have hb : ∀ i, i < 64 → (((f (r / 64)).toUInt64 >>> ((nI r &&& 63).toInt64.toUInt64 &&& Int64.toUInt64 63)).toInt64 &&& Int64.ofInt 1).toBitVec.getLsbD i = ((f (r / 64)).toBitVec.getLsbD (r % 64 + i) && decide (i = 0)) := fun i hi => by
      rw [← tnJ_bit, tnJ_and, Nat.testBit_and, tnJ_shr _ e2 (by omega), ← Nat.shiftRight_eq_div_pow, Nat.testBit_shiftRight, tnJ_bit]
      congr 1
      show (1 : Nat).testBit i = _
      have : (1 : Nat) = 2 ^ 0 := rfl
      rw [this]
      by_cases e : i = 0
      · subst e; rfl
      · rw [Nat.testBit_two_pow_of_ne (by omega), decide_eq_false e]
    constructor
    · intro z
      have := z 0 (by decide)
      rw [hb 0 (by decide)] at this
      rw [Nat.add_zero, decide_eq_true rfl, Bool.and_true] at this
      exact this
    · intro z i hi
      rw [hb i hi]
      by_cases e : i = 0
      · subst e; rw [Nat.add_zero]
        have z : (f (r / 64)).toBitVec.getLsbD (r % 64) = false := z
        rw [z]; rfl
      · rw [decide_eq_false e, Bool.and_false]
  simp only [isO_c, ax0, ex_cons, am_get, upz_at, true_and, and_true, Nat.reduceAdd, Nat.reduceLeDiff, Nat.reduceEqDiff, Nat.reduceSub, Int32.reduceOfInt, Int32.reduceAdd, Int32.reduceMul, Int32.reduceSub, ↓reduceIte, Int32.reduceLT, Int32.reduceLE, Int32.reduceToNatClampNeg, Nat.reduceMod, Nat.reduceLT, List.length_cons, List.length_nil, eq_self, true_or, or_true, and_self, implies_true, not_true_eq_false, not_false_eq_true, false_implies, true_implies, forall_const, st_aloadx, st_arraylengthx, st_bipushx, st_freturnx, st_gotox, st_goto_wx, st_iandx, st_iconstx, st_ifCondx, st_if_icmpx, st_iloadx, st_ishrx, st_istorex, st_laloadx, st_landx, st_lcmpx, st_lushrx, am_put, am_nlg, kb_Slips_isIn_0, jx_Slips_isIn_34, kb_Slips_isIn_34, jx_Slips_isIn_35, kb_Slips_isIn_35, cx_Slips_isIn, e1, nk_neg (show r / 64 < 2147483648 by omega), nk_cl (show r / 64 < 2147483648 by omega), ha, len_ar (show 4 < 2147483648 by decide), (nk_le (by omega) (by omega) : (nI (4) ≤ nI (r / 64)) = (4 ≤ r / 64)), show ¬ 4 ≤ r / 64 by omega, oq_rJ, show r / 64 < 4 by omega, lgc0, e3]
  refine And.intro (fun q => ?_) (fun q => ?_)
  · rw [q] at K; exact K
  · rw [Bool.not_eq_false] at q
    rw [q] at K; exact K
set_option maxRecDepth 20000 in
theorem cp_has {X : kT} (hD : DK h F V 34 X) {x r : Int32} (K : Q (some (.int (aHas X.1 x r))) (ov h F J V)) : am_cl (d + 3) 19 [.ref 23, .int x, .int r] (ov h F J V) Q := by
  unfold aHas at K
  simp only [isO_c, ax0, ex_cons, am_get, upz_at, true_and, and_true, Nat.reduceAdd, Nat.reduceLeDiff, Nat.reduceEqDiff, Nat.reduceSub, Int32.reduceOfInt, Int32.reduceAdd, Int32.reduceMul, Int32.reduceSub, ↓reduceIte, Int32.reduceLT, Int32.reduceLE, Int32.reduceToNatClampNeg, Nat.reduceMod, Nat.reduceLT, List.length_cons, List.length_nil, eq_self, true_or, or_true, and_self, implies_true, not_true_eq_false, not_false_eq_true, false_implies, true_implies, forall_const, st_aloadx, st_astorex, st_astore_1x, st_getfieldx, st_goto_wx, st_iconstx, st_ifCondx, st_if_icmpx, st_ifnullx, st_ifnull_1x, st_iloadx, st_in2, am_put, am_nlg, kb_Slips_has_0, og_23_1, oo_34, oa_23, oa_34, cx_Slips_has]
  refine c_sentenceAt hD ?_
  rcases seV_ok hD (x := x) with ⟨e1, e2⟩ | ⟨s, p, e1, e2, e3⟩
  · rw [e1] at K
    rw [e2]
    simp only [isO_c, ax0, ex_cons, am_get, upz_at, true_and, and_true, Nat.reduceAdd, Nat.reduceLeDiff, Nat.reduceEqDiff, Nat.reduceSub, Int32.reduceOfInt, Int32.reduceAdd, Int32.reduceMul, Int32.reduceSub, ↓reduceIte, Int32.reduceLT, Int32.reduceLE, Int32.reduceToNatClampNeg, Nat.reduceMod, Nat.reduceLT, List.length_cons, List.length_nil, eq_self, true_or, or_true, and_self, implies_true, not_true_eq_false, not_false_eq_true, false_implies, true_implies, forall_const, st_aloadx, st_astorex, st_astore_1x, st_getfieldx, st_goto_wx, st_iconstx, st_ifCondx, st_if_icmpx, st_ifnullx, st_ifnull_1x, st_iloadx, st_in2, st_ireturnx, am_put, am_nlg, kb_Slips_has_0, og_23_1, oo_34, jx_Slips_has_24, kb_Slips_has_24, oa_23, oa_34]
    exact K
  · rw [e1] at K
    dsimp only at K
    rw [e2]
    obtain ⟨a, b, c, fs, ho0, ha0, h7, hc0⟩ := e3.all
    have ho := ho0 F J V
    have ha := ha0 F J V
    have er : lieB r 0 255 = (!decide (r < 0) && !decide (255 < r)) := rfl
    simp only [isO_c, ax0, ex_cons, am_get, upz_at, true_and, and_true, Nat.reduceAdd, Nat.reduceLeDiff, Nat.reduceEqDiff, Nat.reduceSub, Int32.reduceOfInt, Int32.reduceAdd, Int32.reduceMul, Int32.reduceSub, ↓reduceIte, Int32.reduceLT, Int32.reduceLE, Int32.reduceToNatClampNeg, Nat.reduceMod, Nat.reduceLT, List.length_cons, List.length_nil, eq_self, true_or, or_true, and_self, implies_true, not_true_eq_false, not_false_eq_true, false_implies, true_implies, forall_const, st_aloadx, st_astorex, st_astore_1x, st_getfieldx, st_goto_wx, st_iconstx, st_ifCondx, st_if_icmpx, st_ifnullx, st_ifnull_1x, st_iloadx, st_in2, st_ireturnx, am_put, am_nlg, kb_Slips_has_0, og_23_1, oo_34, jx_Slips_has_24, kb_Slips_has_24, oa_23, oa_34, show (r < (256 : Int32)) = ¬ ((255 : Int32) < r) from propext ⟨fun q g => Int32.not_le.mpr q (by rw [show ((256 : Int32) ≤ r) = ((255 : Int32) < r) from lt_le 255 (by decide)]; exact g), fun q => Int32.not_le.mp (by rw [show ((256 : Int32) ≤ r) = ((255 : Int32) < r) from lt_le 255 (by decide)]; exact q)⟩]
    refine And.intro (fun q => ?_) (fun q => ?_)
    · rw [er, decide_eq_true q] at K; exact K
    refine And.intro (fun q2 => ?_) (fun q2 => ?_)
    · have e4 : lieB r 0 255 = true := by rw [er, decide_eq_false q, decide_eq_false q2]; rfl
      rw [e4, if_pos rfl] at K
      obtain ⟨k, ek, hk, ck⟩ := lieB_nI (m := 255) (by decide) e4
      subst ek
      rw [ck, ← h7 k (by omega)] at K
      simp only [isO_c, ax0, ex_cons, am_get, upz_at, true_and, and_true, Nat.reduceAdd, Nat.reduceLeDiff, Nat.reduceEqDiff, Nat.reduceSub, Int32.reduceOfInt, Int32.reduceAdd, Int32.reduceMul, Int32.reduceSub, ↓reduceIte, Int32.reduceLT, Int32.reduceLE, Int32.reduceToNatClampNeg, Nat.reduceMod, Nat.reduceLT, List.length_cons, List.length_nil, eq_self, true_or, or_true, and_self, implies_true, not_true_eq_false, not_false_eq_true, false_implies, true_implies, forall_const, st_aloadx, st_getfieldx, st_gotox, st_iconstx, st_ifCondx, st_iloadx, st_st2, jx_Slips_has_26, kb_Slips_has_26, ho, gf6]
      refine c_isIn ha (by omega) ?_
      simp only [isO_c, ax0, ex_cons, am_get, upz_at, true_and, and_true, Nat.reduceAdd, Nat.reduceLeDiff, Nat.reduceEqDiff, Nat.reduceSub, Int32.reduceOfInt, Int32.reduceAdd, Int32.reduceMul, Int32.reduceSub, ↓reduceIte, Int32.reduceLT, Int32.reduceLE, Int32.reduceToNatClampNeg, Nat.reduceMod, Nat.reduceLT, List.length_cons, List.length_nil, eq_self, true_or, or_true, and_self, implies_true, not_true_eq_false, not_false_eq_true, false_implies, true_implies, forall_const, st_aloadx, st_getfieldx, st_gotox, st_goto_wx, st_iconstx, st_ifCondx, st_iloadx, st_st2, st_ireturnx, jx_Slips_has_26, kb_Slips_has_26, jx_Slips_has_41, kb_Slips_has_41, jx_Slips_has_42, kb_Slips_has_42]
      refine ifb (fun z => ?_) (fun z => ?_)
      · rw [z] at K; exact K
      · rw [z] at K; exact K
    · rw [er, decide_eq_false q, decide_eq_true (Classical.not_not.mp q2)] at K; exact K
theorem len_arI {m t : Nat} {f : Nat → Int32} {K : Nat → Prop} (hm : m < 2147483648) (ht : t < 3) : am_len K (aI t (am_ar m f)) = K m := by
  show (t < 3 ∧ (am_ar m f).length < 2147483648 ∧ K (am_ar m f).length) = K m
  rw [am_ar_len]
  exact propext ⟨fun z => z.2.2, fun z => ⟨ht, hm, z⟩⟩
theorem txR_len {R : rT} (h : wfR R) : (txR R).length ≤ 1200 := by
  have h5 := tx5_len h
  obtain ⟨w1, w2, w3, w4, w5⟩ := h
  have h6 := txT_len R.2.2.2.2 (gdR R && bgT R.2.2.2.2) (tx5 R) w3.1
  have h7 : (if gdR R && bgT R.2.2.2.2 && !isBin R.2.2.2.2 then 3 else 0) ≤ 3 := by split <;> omega
  have h8 := w3.2
  have h9 : (rC2 R).length = (cdT R.2.2.2.2).length := rfl
  unfold txR
  omega
set_option maxRecDepth 20000 in
theorem cp_letter {X : kT} (hD : DK h F V 34 X) {x i : Int32} (K : Q (some (.int (aLetter X.1 x i))) (ov h F J V)) : am_cl (d + 3) 20 [.ref 23, .int x, .int i] (ov h F J V) Q := by
  unfold aLetter at K
  simp only [isO_c, ax0, ex_cons, am_get, upz_at, true_and, and_true, Nat.reduceAdd, Nat.reduceLeDiff, Nat.reduceEqDiff, Nat.reduceSub, Int32.reduceOfInt, Int32.reduceAdd, Int32.reduceMul, Int32.reduceSub, ↓reduceIte, Int32.reduceLT, Int32.reduceLE, Int32.reduceToNatClampNeg, Nat.reduceMod, Nat.reduceLT, List.length_cons, List.length_nil, eq_self, true_or, or_true, and_self, implies_true, not_true_eq_false, not_false_eq_true, false_implies, true_implies, forall_const, st_aloadx, st_astorex, st_astore_1x, st_getfieldx, st_iconstx, st_ifnonnullx, st_ifnonnull_1x, st_iloadx, st_in2, st_ireturnx, am_put, am_nlg, kb_Slips_letter_0, og_23_1, oo_34, oa_23, oa_34, cx_Slips_letter]
  refine c_sentenceAt hD ?_
  rcases seV_ok hD (x := x) with ⟨e1, e2⟩ | ⟨s, p, e1, e2, e3⟩
  · rw [e1] at K
    rw [e2]
    simp only [isO_c, ax0, ex_cons, am_get, upz_at, true_and, and_true, Nat.reduceAdd, Nat.reduceLeDiff, Nat.reduceEqDiff, Nat.reduceSub, Int32.reduceOfInt, Int32.reduceAdd, Int32.reduceMul, Int32.reduceSub, ↓reduceIte, Int32.reduceLT, Int32.reduceLE, Int32.reduceToNatClampNeg, Nat.reduceMod, Nat.reduceLT, List.length_cons, List.length_nil, eq_self, true_or, or_true, and_self, implies_true, not_true_eq_false, not_false_eq_true, false_implies, true_implies, forall_const, st_aloadx, st_astorex, st_astore_1x, st_getfieldx, st_iconstx, st_ifnonnullx, st_ifnonnull_1x, st_iloadx, st_in2, st_ireturnx, am_put, am_nlg, kb_Slips_letter_0, og_23_1, oo_34, oa_23, oa_34]
    exact K
  · rw [e1] at K
    dsimp only at K
    rw [e2]
    obtain ⟨a, b, c, fs, ho0, ha0, h7, hc0⟩ := e3.all
    have ho := ho0 F J V
    have hc := hc0 F J V
    have hl := txR_len e3.1
    simp only [isO_c, ax0, ex_cons, am_get, upz_at, true_and, and_true, Nat.reduceAdd, Nat.reduceLeDiff, Nat.reduceEqDiff, Nat.reduceSub, Int32.reduceOfInt, Int32.reduceAdd, Int32.reduceMul, Int32.reduceSub, ↓reduceIte, Int32.reduceLT, Int32.reduceLE, Int32.reduceToNatClampNeg, Nat.reduceMod, Nat.reduceLT, List.length_cons, List.length_nil, eq_self, true_or, or_true, and_self, implies_true, not_true_eq_false, not_false_eq_true, false_implies, true_implies, forall_const, st_aloadx, st_arraylengthx, st_astorex, st_astore_1x, st_getfieldx, st_iconstx, st_if_icmpx, st_ifnonnullx, st_ifnonnull_1x, st_iloadx, st_in2, st_ireturnx, am_put, am_nlg, kb_Slips_letter_0, og_23_1, oo_34, jx_Slips_letter_15, kb_Slips_letter_15, oa_23, oa_34, ho, gf6, hc, len_arI (show (txR (X.1.2.1 s)).length < 2147483648 by omega) (show 1 < 3 by decide)]
    refine And.intro (fun q => ?_) (fun q => ?_)
    · rw [if_neg q] at K
      simp only [isO_c, ax0, ex_cons, am_get, upz_at, true_and, and_true, Nat.reduceAdd, Nat.reduceLeDiff, Nat.reduceEqDiff, Nat.reduceSub, Int32.reduceOfInt, Int32.reduceAdd, Int32.reduceMul, Int32.reduceSub, ↓reduceIte, Int32.reduceLT, Int32.reduceLE, Int32.reduceToNatClampNeg, Nat.reduceMod, Nat.reduceLT, List.length_cons, List.length_nil, eq_self, true_or, or_true, and_self, implies_true, not_true_eq_false, not_false_eq_true, false_implies, true_implies, forall_const, st_aloadx, st_arraylengthx, st_baloadx, st_getfieldx, st_gotox, st_goto_wx, st_iconstx, st_ifCondx, st_if_icmpx, st_iloadx, st_ireturnx, jx_Slips_letter_26, kb_Slips_letter_26, jx_Slips_letter_48, kb_Slips_letter_48, jx_Slips_letter_49, kb_Slips_letter_49, ho, gf6, hc, len_arI (show (txR (X.1.2.1 s)).length < 2147483648 by omega) (show 1 < 3 by decide)]
      refine And.intro (fun q2 => ?_) (fun q2 => ?_)
      · have : i < -1 := by
          rw [Int32.lt_iff_toInt_lt, Int32.toInt_zero] at q2
          rw [Int32.lt_iff_toInt_lt]
          have e1 : (-1 : Int32).toInt = -1 := by decide
          have hz : ¬ i.toInt = -1 := fun z => q (by rw [← Int32.toInt_inj, e1]; exact z)
          rw [e1]
          omega
        rw [if_pos this] at K
        exact K
      · obtain ⟨f1, f2⟩ := nk_of q2
        have g1 : ¬ i < -1 := by
          rw [Int32.lt_iff_toInt_lt, Int32.toInt_zero] at q2
          rw [Int32.lt_iff_toInt_lt]
          have e1 : (-1 : Int32).toInt = -1 := by decide
          rw [e1]; omega
        rw [if_neg g1] at K
        generalize i.toNatClampNeg = k at f1 f2 K
        subst f1
        have hlt : (nI k < nI (txR (X.1.2.1 s)).length) = (k < (txR (X.1.2.1 s)).length) := nk_lt f2 (by omega)
        simp only [(nk_le (by omega) (by omega) : (nI ((txR (X.1.2.1 s)).length) ≤ nI (k)) = ((txR (X.1.2.1 s)).length ≤ k))]
        refine And.intro (fun q3 => ?_) (fun q3 => ?_)
        · rw [if_neg (by rw [hlt]; omega)] at K
          exact K
        · have q3 : k < (txR (X.1.2.1 s)).length := by omega
          rw [if_pos (by rw [hlt]; exact q3)] at K
          simp only [isO_c, ax0, ex_cons, am_get, upz_at, true_and, and_true, Nat.reduceAdd, Nat.reduceLeDiff, Nat.reduceEqDiff, Nat.reduceSub, Int32.reduceOfInt, Int32.reduceAdd, Int32.reduceMul, Int32.reduceSub, ↓reduceIte, Int32.reduceLT, Int32.reduceLE, Int32.reduceToNatClampNeg, Nat.reduceMod, Nat.reduceLT, List.length_cons, List.length_nil, eq_self, true_or, or_true, and_self, implies_true, not_true_eq_false, not_false_eq_true, false_implies, true_implies, forall_const, st_aloadx, st_arraylengthx, st_baloadx, st_getfieldx, st_gotox, st_ifCondx, st_if_icmpx, st_iloadx, st_ireturnx, jx_Slips_letter_26, kb_Slips_letter_26, jx_Slips_letter_49, kb_Slips_letter_49, ho, gf6, hc, oq_rB (show 1 < 2 by decide), nk_neg (show k < 2147483648 by omega), nk_cl (show k < 2147483648 by omega), q3]
          exact K
    · have q := Classical.not_not.mp q
      rw [if_pos q, if_neg (by rw [q]; decide)] at K
      exact K
end CPG
