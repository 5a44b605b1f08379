/-! ===== the class: hint, square ===== -/
theorem fo_tn {T : tT} {C : cT} (hle : C.1 ≤ 2) (hc : cOk C) (hw : C.1 = 2 → C.2.2.1 < 4) (ex : Bool) : fo T C ex = (qz (tnZ T C 0) (fun _ => false) && (!(ex && C.2.1) || qz (tnZ T C 1) (fun _ => false))) := by
  have e1 : qz (tnZ T C 1) (fun _ => false) = qz T C.2.2.2.2 := by
    show qz (tz T 1 C.2.2.2.2 0 false) (fun _ => false) = _
    exact qz_bar T C.2.2.2.2 (fun _ => false)
  have e0 : fz T C.1 C.2.2.2.1 C.2.2.1 = qz (tnZ T C 0) (fun _ => false) := by
    show _ = qz (tz T C.1 C.2.2.2.1 C.2.2.1 false) (fun _ => false)
    unfold fz
    rcases (show C.1 = 0 ∨ C.1 = 1 ∨ C.1 = 2 by omega) with e | e | e
    · rw [e, if_neg (by decide), if_pos rfl]
      have : tz T 0 C.2.2.2.1 C.2.2.1 false = (T.1, T.2.1 ++ [C.2.2.2.1], T.2.2) := rfl
      rw [this, qz_app, shz_none]
    · rw [e, if_pos rfl]
      have : tz T 1 C.2.2.2.1 C.2.2.1 false = (fun r => T.1 r || C.2.2.2.1 r, T.2.1, T.2.2) := rfl
      rw [this, qz_bar T C.2.2.2.1 (fun _ => false)]
    · rw [e, if_neg (by decide), if_neg (by decide)]
      have : tz T 2 C.2.2.2.1 C.2.2.1 false = (T.1, T.2.1, fun n r => if n = C.2.2.1 then T.2.2 n r && !C.2.2.2.1 r else T.2.2 n r) := rfl
      rw [this, qz_nm T (hw e) (fun r => !C.2.2.2.1 r), shz_none]
      congr 1
      exact al_congr (fun r _ => by show (!(T.2.2 C.2.2.1 r && !T.1 r && !C.2.2.2.1 r)) = (!(T.2.2 C.2.2.1 r && !C.2.2.2.1 r && !T.1 r)); cases T.2.2 C.2.2.1 r <;> cases T.1 r <;> cases C.2.2.2.1 r <;> rfl)
  unfold fo
  rw [e0, e1]
  cases qz (tnZ T C 0) (fun _ => false) <;> cases ex <;> cases C.2.1 <;> cases qz T C.2.2.2.2 <;> rfl
/-- whether both can fail -/
def bfZ (C1 C2 : cT) (ex : Bool) : Bool := !fo (tnZ tE C1 0) C2 ex || (ex && C1.2.1 && !fo (tnZ tE C1 1) C2 ex)
theorem ei_b {C1 C2 : cT} {ex : Bool} (hle : C2.1 ≤ 2) (hc : cOk C2) (hw : C2.1 = 2 → C2.2.2.1 < 4) (a : Nat) : eiB C1 C2 a (owZ C2 ex) = fo (tnZ tE C1 a) C2 ex := by
  rw [fo_tn hle hc hw]
  unfold owZ
  cases e : ex && C2.2.1
  · rw [if_neg Bool.false_ne_true]
    show (true && qz (tnZ (tnZ tE C1 a) C2 0) (fun _ => false)) = _
    cases qz (tnZ (tnZ tE C1 a) C2 0) (fun _ => false) <;> rfl
  · rw [if_pos rfl]
    show (true && qz (tnZ (tnZ tE C1 a) C2 0) (fun _ => false) && qz (tnZ (tnZ tE C1 a) C2 1) (fun _ => false)) = _
    cases qz (tnZ (tnZ tE C1 a) C2 0) (fun _ => false) <;> cases qz (tnZ (tnZ tE C1 a) C2 1) (fun _ => false) <;> rfl
theorem ei_a {C1 C2 : cT} {ex : Bool} (hle : C2.1 ≤ 2) (hc : cOk C2) (hw : C2.1 = 2 → C2.2.2.1 < 4) : eiA C1 C2 (owZ C2 ex) (owZ C1 ex) = !bfZ C1 C2 ex := by
  unfold bfZ
  have e0 := ei_b (C1 := C1) (ex := ex) hle hc hw 0
  have e1 := ei_b (C1 := C1) (ex := ex) hle hc hw 1
  have : owZ C1 ex = if ex && C1.2.1 then 2 else 1 := rfl
  rw [this]
  cases e : ex && C1.2.1
  · rw [if_neg Bool.false_ne_true]
    show (true && eiB C1 C2 0 (owZ C2 ex)) = _
    rw [e0]
    cases fo (tnZ tE C1 0) C2 ex <;> rfl
  · rw [if_pos rfl]
    show (true && eiB C1 C2 0 (owZ C2 ex) && eiB C1 C2 1 (owZ C2 ex)) = _
    rw [e0, e1]
    cases fo (tnZ tE C1 0) C2 ex <;> cases fo (tnZ tE C1 1) C2 ex <;> rfl
theorem clR_w {R : rT} (h : wfR R) : (clR R).1 = 2 → (clR R).2.2.1 < 4 := fun q => h.2.2.2.2 (saR_2 q)
theorem SR.obj {h : am_H} {p : Nat} {R : rT} (hs : SR h p R) : ∃ a b c, ∀ (F : Nat → Nat → Int32) (J : Nat → Nat → Int64) (V : Nat → Nat → Value), (ov h F J V).1 p = aO 6 [.int (nI (saR R)), .int (nmI R), .int (b2i (hsR R)), .int (moI R), .int (skI R), .int (pkI R), .ref a, .ref b, .ref c] := by
  obtain ⟨hw, a, b, c, fs, fb, h1, h2, h3, h4, h5, _⟩ := hs
  exact ⟨a, b, c, fun F J V => (ov_hi (by omega)).trans h5⟩
section CPD
variable {d : Nat} {h : am_H} {F : Nat → Nat → Int32} {J : Nat → Nat → Int64} {V : Nat → Nat → Value} {Q : am_Q}
set_option maxRecDepth 20000 in
theorem c_number {p : Nat} {R : rT} (hs : SR h p R) (K : Q (some (.int (oI (nuR R)))) (ov h F J V)) : am_cl (d + 2) 125 [.ref p] (ov h F J V) Q := by
  obtain ⟨hw, a, b, c, fs, fb, h1, h2, h3, h4, h5, _⟩ := hs
  have h5 : (ov h F J V).1 p = _ := (ov_hi (F := F) (J := J) (V := V) (show ¬ (23 ≤ p ∧ p < 108) by omega)).trans h5
  cases e : nuR R with
  | none =>
    rw [e] at K
    have em : moI R = -1 := by unfold moI; rw [e]
    simp only [isO_c, ax0, ex_cons, am_get, upz_at, true_and, and_true, Nat.reduceAdd, Nat.reduceLeDiff, Nat.reduceEqDiff, Nat.reduceSub, Int32.reduceOfInt, Int32.reduceAdd, Int32.reduceMul, Int32.reduceSub, ↓reduceIte, Int32.reduceLT, Int32.reduceLE, Int32.reduceToNatClampNeg, Nat.reduceMod, Nat.reduceLT, List.length_cons, List.length_nil, eq_self, true_or, or_true, and_self, implies_true, not_true_eq_false, not_false_eq_true, false_implies, true_implies, forall_const, st_aloadx, st_getfieldx, st_gotox, st_iconstx, st_if_icmpx, st_ireturnx, kb_Sentence_number_0, jx_Sentence_number_27, kb_Sentence_number_27, cx_Sentence_number, h5, gf6, em]
    exact K
  | some n =>
    rw [e] at K
    obtain ⟨n1, n2⟩ := nuR_num hw e
    have e1 : moI R = nI (n / 64) := by unfold moI; rw [e]
    have e2 : skI R = nI (n / 8 % 8) := by unfold skI; rw [e]
    have e3 : pkI R = nI (n % 8) := by unfold pkI; rw [e]
    simp only [isO_c, ax0, ex_cons, am_get, upz_at, true_and, and_true, Nat.reduceAdd, Nat.reduceLeDiff, Nat.reduceEqDiff, Nat.reduceSub, Int32.reduceOfInt, Int32.reduceAdd, Int32.reduceMul, Int32.reduceSub, ↓reduceIte, Int32.reduceLT, Int32.reduceLE, Int32.reduceToNatClampNeg, Nat.reduceMod, Nat.reduceLT, List.length_cons, List.length_nil, eq_self, true_or, or_true, and_self, implies_true, not_true_eq_false, not_false_eq_true, false_implies, true_implies, forall_const, st_aloadx, st_getfieldx, st_gotox, st_goto_wx, st_iaddx, st_iconstx, st_if_icmpx, st_iloadx, st_imulx, st_st3, st_ireturnx, kb_Sentence_number_0, jx_Sentence_number_12, kb_Sentence_number_12, jx_Sentence_number_27, kb_Sentence_number_27, cx_Slips_numberOf, kb_Slips_numberOf_0, cx_Sentence_number, h5, gf6, e1, e2, e3, nI_neg1 (show n / 64 < 2147483648 by omega), show (64 : Int32) * nI (n / 64) = nI (64 * (n / 64)) from nk_mul (64) (n / 64), show (8 : Int32) * nI (n / 8 % 8) = nI (8 * (n / 8 % 8)) from nk_mul (8) (n / 8 % 8), nk_add]
    rw [show 64 * (n / 64) + 8 * (n / 8 % 8) + n % 8 = n by omega]
    exact K
set_option maxRecDepth 20000 in
theorem c_setNumber {s : Nat} (hs : s = 51 ∨ s = 71) (hp : HP h) {n : Nat} (hn : n < 256) (K : ∀ F' J', CL (ov h F' J' V) s (clR (rS n)) → Tsi s F F' J J' → Q none (ov h F' J' V)) : am_cl (d + 3) 126 [.ref s, .int (nI n)] (ov h F J V) Q := by
  simp only [isO_c, ax0, ex_cons, am_get, upz_at, true_and, and_true, Nat.reduceAdd, Nat.reduceLeDiff, Nat.reduceEqDiff, Nat.reduceSub, Int32.reduceOfInt, Int32.reduceAdd, Int32.reduceMul, Int32.reduceSub, ↓reduceIte, Int32.reduceLT, Int32.reduceLE, Int32.reduceToNatClampNeg, Nat.reduceMod, Nat.reduceLT, List.length_cons, List.length_nil, eq_self, true_or, or_true, and_self, implies_true, not_true_eq_false, not_false_eq_true, false_implies, true_implies, forall_const, st_aloadx, st_iloadx, st_in4, st_st1, st_return_x, kb_Sentence_setNumber_0, cx_Sentence_setNumber]
  refine c_moodOf hn ?_
  simp only [isO_c, ax0, ex_cons, am_get, upz_at, true_and, and_true, Nat.reduceAdd, Nat.reduceLeDiff, Nat.reduceEqDiff, Nat.reduceSub, Int32.reduceOfInt, Int32.reduceAdd, Int32.reduceMul, Int32.reduceSub, ↓reduceIte, Int32.reduceLT, Int32.reduceLE, Int32.reduceToNatClampNeg, Nat.reduceMod, Nat.reduceLT, List.length_cons, List.length_nil, eq_self, true_or, or_true, and_self, implies_true, not_true_eq_false, not_false_eq_true, false_implies, true_implies, forall_const, st_aloadx, st_iloadx, st_in4, st_st1, st_return_x, kb_Sentence_setNumber_0]
  refine c_subjectOf hn ?_
  simp only [isO_c, ax0, ex_cons, am_get, upz_at, true_and, and_true, Nat.reduceAdd, Nat.reduceLeDiff, Nat.reduceEqDiff, Nat.reduceSub, Int32.reduceOfInt, Int32.reduceAdd, Int32.reduceMul, Int32.reduceSub, ↓reduceIte, Int32.reduceLT, Int32.reduceLE, Int32.reduceToNatClampNeg, Nat.reduceMod, Nat.reduceLT, List.length_cons, List.length_nil, eq_self, true_or, or_true, and_self, implies_true, not_true_eq_false, not_false_eq_true, false_implies, true_implies, forall_const, st_aloadx, st_iloadx, st_in4, st_st1, st_return_x, kb_Sentence_setNumber_0]
  refine c_predicateOf hn ?_
  simp only [isO_c, ax0, ex_cons, am_get, upz_at, true_and, and_true, Nat.reduceAdd, Nat.reduceLeDiff, Nat.reduceEqDiff, Nat.reduceSub, Int32.reduceOfInt, Int32.reduceAdd, Int32.reduceMul, Int32.reduceSub, ↓reduceIte, Int32.reduceLT, Int32.reduceLE, Int32.reduceToNatClampNeg, Nat.reduceMod, Nat.reduceLT, List.length_cons, List.length_nil, eq_self, true_or, or_true, and_self, implies_true, not_true_eq_false, not_false_eq_true, false_implies, true_implies, forall_const, st_aloadx, st_iloadx, st_in4, st_st1, st_return_x, kb_Sentence_setNumber_0, sO hs]
  refine c_setSimple hs hp (show n / 64 < 4 by omega) (show n / 8 % 8 < 8 by omega) (show n % 8 < 8 by omega) (fun F1 J1 c1 _ _ _ s1 => ?_)
  rw [show 64 * (n / 64) + 8 * (n / 8 % 8) + n % 8 = n by omega] at c1
  simp only [isO_c, ax0, ex_cons, am_get, upz_at, true_and, and_true, Nat.reduceAdd, Nat.reduceLeDiff, Nat.reduceEqDiff, Nat.reduceSub, Int32.reduceOfInt, Int32.reduceAdd, Int32.reduceMul, Int32.reduceSub, ↓reduceIte, Int32.reduceLT, Int32.reduceLE, Int32.reduceToNatClampNeg, Nat.reduceMod, Nat.reduceLT, List.length_cons, List.length_nil, eq_self, true_or, or_true, and_self, implies_true, not_true_eq_false, not_false_eq_true, false_implies, true_implies, forall_const, st_aloadx, st_iloadx, st_in4, st_st1, st_return_x, kb_Sentence_setNumber_0]
  exact K F1 J1 c1 s1
set_option maxRecDepth 20000 in
theorem cp_hint (hb : HB h) (hpt : HP h) {X : kT} (hD : DK h F V 34 X) {x : Int32} (K : ∀ F' J', Cf F F' → Q (some (.int (aHint X.1 x))) (ov h F' J' V)) : am_cl (d + 5) 34 [.ref 23, .int x] (ov h F J V) Q := by
  unfold aHint at K
  rcases hD.asked with ⟨ea, ev⟩ | ⟨ea, p, ev, hs⟩
  · rw [ea, Bool.and_false, if_neg Bool.false_ne_true] at K
    simp only [isO_c, ax0, ex_cons, am_get, upz_at, true_and, and_true, Nat.reduceAdd, Nat.reduceLeDiff, Nat.reduceEqDiff, Nat.reduceSub, Int32.reduceOfInt, Int32.reduceAdd, Int32.reduceMul, Int32.reduceSub, ↓reduceIte, Int32.reduceLT, Int32.reduceLE, Int32.reduceToNatClampNeg, Nat.reduceMod, Nat.reduceLT, List.length_cons, List.length_nil, eq_self, true_or, or_true, and_self, implies_true, not_true_eq_false, not_false_eq_true, false_implies, true_implies, forall_const, st_aloadx, st_astorex, st_astore_1x, st_getfieldx, st_goto_wx, st_iconstx, st_ifCondx, st_ifnullx, st_ifnull_1x, st_iloadx, st_in2, st_ireturnx, am_put, am_nlg, kb_Slips_hint_0, og_23_1, og_34_2, oo_34, jx_Slips_hint_23, kb_Slips_hint_23, oa_23, oa_34, cx_Slips_hint, ev]
    exact K F J Cf.rf
  · rw [ea, Bool.and_true] at K
    simp only [isO_c, ax0, ex_cons, am_get, upz_at, true_and, and_true, Nat.reduceAdd, Nat.reduceLeDiff, Nat.reduceEqDiff, Nat.reduceSub, Int32.reduceOfInt, Int32.reduceAdd, Int32.reduceMul, Int32.reduceSub, ↓reduceIte, Int32.reduceLT, Int32.reduceLE, Int32.reduceToNatClampNeg, Nat.reduceMod, Nat.reduceLT, List.length_cons, List.length_nil, eq_self, true_or, or_true, and_self, implies_true, not_true_eq_false, not_false_eq_true, false_implies, true_implies, forall_const, st_aloadx, st_astorex, st_astore_1x, st_getfieldx, st_goto_wx, st_iconstx, st_ifCondx, st_ifnullx, st_ifnull_1x, st_iloadx, st_in2, st_ireturnx, am_put, am_nlg, kb_Slips_hint_0, og_23_1, og_34_2, oo_34, jx_Slips_hint_23, kb_Slips_hint_23, oa_23, oa_34, cx_Slips_hint, ev]
    refine c_hasHeap hD ?_
    simp only [isO_c, ax0, ex_cons, am_get, upz_at, true_and, and_true, Nat.reduceAdd, Nat.reduceLeDiff, Nat.reduceEqDiff, Nat.reduceSub, Int32.reduceOfInt, Int32.reduceAdd, Int32.reduceMul, Int32.reduceSub, ↓reduceIte, Int32.reduceLT, Int32.reduceLE, Int32.reduceToNatClampNeg, Nat.reduceMod, Nat.reduceLT, List.length_cons, List.length_nil, eq_self, true_or, or_true, and_self, implies_true, not_true_eq_false, not_false_eq_true, false_implies, true_implies, forall_const, st_aloadx, st_astorex, st_astore_1x, st_getfieldx, st_goto_wx, st_iconstx, st_ifCondx, st_ifnullx, st_ifnull_1x, st_iloadx, st_in2, st_ireturnx, am_put, am_nlg, kb_Slips_hint_0, og_23_1, og_34_2, oo_34, jx_Slips_hint_23, kb_Slips_hint_23, oa_23, oa_34]
    refine ifnb (fun e => ?_) (fun e => ?_)
    · rw [e, if_pos rfl] at K
      obtain ⟨hp, e1, e2, e3⟩ := hpB_nI hD.1.2.1 e
      subst e1
      rw [e3] at K
      have h12 := hD.1.2.1
      obtain ⟨_, _, _, hobj2⟩ := hs.obj
      simp only [isO_c, ax0, ex_cons, am_get, upz_at, true_and, and_true, Nat.reduceAdd, Nat.reduceLeDiff, Nat.reduceEqDiff, Nat.reduceSub, Int32.reduceOfInt, Int32.reduceAdd, Int32.reduceMul, Int32.reduceSub, ↓reduceIte, Int32.reduceLT, Int32.reduceLE, Int32.reduceToNatClampNeg, Nat.reduceMod, Nat.reduceLT, List.length_cons, List.length_nil, eq_self, true_or, or_true, and_self, implies_true, not_true_eq_false, not_false_eq_true, false_implies, true_implies, forall_const, st_aloadx, st_goto_wx, st_iconstx, st_in1, st_istorex, am_put, am_nlg, jx_Slips_hint_25, kb_Slips_hint_25, hobj2]
      refine c_number hs ?_
      simp only [isO_c, ax0, ex_cons, am_get, upz_at, true_and, and_true, Nat.reduceAdd, Nat.reduceLeDiff, Nat.reduceEqDiff, Nat.reduceSub, Int32.reduceOfInt, Int32.reduceAdd, Int32.reduceMul, Int32.reduceSub, ↓reduceIte, Int32.reduceLT, Int32.reduceLE, Int32.reduceToNatClampNeg, Nat.reduceMod, Nat.reduceLT, List.length_cons, List.length_nil, eq_self, true_or, or_true, and_self, implies_true, not_true_eq_false, not_false_eq_true, false_implies, true_implies, forall_const, st_aloadx, st_goto_wx, st_iconstx, st_in1, st_istorex, am_put, am_nlg, jx_Slips_hint_25, kb_Slips_hint_25]
      generalize ho : htF X.1 hp 256 0 = o at K
      have key : ∀ j k F1 J1, k + j = 256 → o = htF X.1 hp j k → Cf F F1 → am_W kc_Slips_hint (am_cl (d + 4)) Q 33 [.ref 23, .int (nI hp), .ref p, .int (oI (nuR (X.1.2.1 12))), .int (nI k)] [] (ov h F1 J1 V) := by
        intro j
        induction j with
        | zero =>
          intro k F1 J1 ek eo c1
          have ek : k = 256 := ek
          subst ek
          rw [jx_Slips_hint_33]
          simp only [isO_c, ax0, ex_cons, am_get, upz_at, true_and, and_true, Nat.reduceAdd, Nat.reduceLeDiff, Nat.reduceEqDiff, Nat.reduceSub, Int32.reduceOfInt, Int32.reduceAdd, Int32.reduceMul, Int32.reduceSub, ↓reduceIte, Int32.reduceLT, Int32.reduceLE, Int32.reduceToNatClampNeg, Nat.reduceMod, Nat.reduceLT, List.length_cons, List.length_nil, eq_self, true_or, or_true, and_self, implies_true, not_true_eq_false, not_false_eq_true, false_implies, true_implies, forall_const, st_gotox, st_iconstx, st_ifCondx, st_if_icmpx, st_iloadx, st_st1, st_ireturnx, kb_Slips_hint_33, jx_Slips_hint_127, kb_Slips_hint_127, show ((256 : Int32) ≤ nI (256)) = (256 ≤ 256) from nk_le (a := 256) (b := 256) (by omega) (by omega)]
          rw [eo] at K
          exact K F1 J1 c1
        | succ j ih =>
          intro k F1 J1 ek eo c1
          unfold htF at eo
          rw [jx_Slips_hint_33]
          simp only [isO_c, ax0, ex_cons, am_get, upz_at, true_and, and_true, Nat.reduceAdd, Nat.reduceLeDiff, Nat.reduceEqDiff, Nat.reduceSub, Int32.reduceOfInt, Int32.reduceAdd, Int32.reduceMul, Int32.reduceSub, ↓reduceIte, Int32.reduceLT, Int32.reduceLE, Int32.reduceToNatClampNeg, Nat.reduceMod, Nat.reduceLT, List.length_cons, List.length_nil, eq_self, true_or, or_true, and_self, implies_true, not_true_eq_false, not_false_eq_true, false_implies, true_implies, forall_const, st_gotox, st_iconstx, st_ifCondx, st_if_icmpx, st_iincx, st_iloadx, st_st1, am_put, am_nlg, kb_Slips_hint_33, jx_Slips_hint_121, kb_Slips_hint_121, show ((256 : Int32) ≤ nI (k)) = (256 ≤ k) from nk_le (a := 256) (b := k) (by omega) (by omega), show ¬ 256 ≤ k by omega, nk_succ]
          refine And.intro (fun q => ?_) (fun q => ?_)
          · rw [decide_eq_true q, Bool.not_true, Bool.and_false, Bool.false_and, if_neg Bool.false_ne_true] at eo
            exact ih (k + 1) F1 J1 (by omega) eo c1
          rw [decide_eq_false q, Bool.not_false, Bool.and_true] at eo
          refine c_isSimple (by omega) ?_
          simp only [isO_c, ax0, ex_cons, am_get, upz_at, true_and, and_true, Nat.reduceAdd, Nat.reduceLeDiff, Nat.reduceEqDiff, Nat.reduceSub, Int32.reduceOfInt, Int32.reduceAdd, Int32.reduceMul, Int32.reduceSub, ↓reduceIte, Int32.reduceLT, Int32.reduceLE, Int32.reduceToNatClampNeg, Nat.reduceMod, Nat.reduceLT, List.length_cons, List.length_nil, eq_self, true_or, or_true, and_self, implies_true, not_true_eq_false, not_false_eq_true, false_implies, true_implies, forall_const, st_gotox, st_iconstx, st_ifCondx, st_if_icmpx, st_iincx, st_iloadx, st_st1, am_put, am_nlg, kb_Slips_hint_33, jx_Slips_hint_121, kb_Slips_hint_121, nk_succ]
          refine ifnb (fun z => ?_) (fun z => ?_)
          · rw [z, Bool.true_and] at eo
            simp only [isO_c, ax0, ex_cons, am_get, upz_at, true_and, and_true, Nat.reduceAdd, Nat.reduceLeDiff, Nat.reduceEqDiff, Nat.reduceSub, Int32.reduceOfInt, Int32.reduceAdd, Int32.reduceMul, Int32.reduceSub, ↓reduceIte, Int32.reduceLT, Int32.reduceLE, Int32.reduceToNatClampNeg, Nat.reduceMod, Nat.reduceLT, List.length_cons, List.length_nil, eq_self, true_or, or_true, and_self, implies_true, not_true_eq_false, not_false_eq_true, false_implies, true_implies, forall_const, st_aloadx, st_getfieldx, st_ifCondx, st_iloadx, st_in1, st_in2, st_in3, st_ireturnx, jx_Slips_hint_58, kb_Slips_hint_58, og_23_4, oo_51, oo_23, og_23_3, og_23_1, oa_23, oa_51]
            refine c_setNumber (Or.inl rfl) hpt (by omega) (fun F2 J2 cl2 s2 => ?_)
            have cf2 := c1.tr (s2.cf (Or.inl rfl))
            simp only [isO_c, ax0, ex_cons, am_get, upz_at, true_and, and_true, Nat.reduceAdd, Nat.reduceLeDiff, Nat.reduceEqDiff, Nat.reduceSub, Int32.reduceOfInt, Int32.reduceAdd, Int32.reduceMul, Int32.reduceSub, ↓reduceIte, Int32.reduceLT, Int32.reduceLE, Int32.reduceToNatClampNeg, Nat.reduceMod, Nat.reduceLT, List.length_cons, List.length_nil, eq_self, true_or, or_true, and_self, implies_true, not_true_eq_false, not_false_eq_true, false_implies, true_implies, forall_const, st_aloadx, st_getfieldx, st_ifCondx, st_iloadx, st_in1, st_in2, st_in3, st_ireturnx, jx_Slips_hint_58, kb_Slips_hint_58, og_23_4, oo_23, og_23_3, og_23_1, og_34_3, oa_23, oa_34]
            refine c_assume (hD.cf cf2) e2 (fun F3 J3 P t3 n3 q3 => ?_)
            have cf3 := cf2.tr (q3.cf (Or.inl rfl))
            have cl3 := cl2.eth (q3.eth (Or.inl rfl) (V := V) (h := h))
            have h343 : F3 34 3 = b2i X.1.2.2.2 := (hD.cf cf3).2.2.1
            simp only [isO_c, ax0, ex_cons, am_get, upz_at, true_and, and_true, Nat.reduceAdd, Nat.reduceLeDiff, Nat.reduceEqDiff, Nat.reduceSub, Int32.reduceOfInt, Int32.reduceAdd, Int32.reduceMul, Int32.reduceSub, ↓reduceIte, Int32.reduceLT, Int32.reduceLE, Int32.reduceToNatClampNeg, Nat.reduceMod, Nat.reduceLT, List.length_cons, List.length_nil, eq_self, true_or, or_true, and_self, implies_true, not_true_eq_false, not_false_eq_true, false_implies, true_implies, forall_const, st_aloadx, st_getfieldx, st_ifCondx, st_iloadx, st_in1, st_in2, st_in3, st_ireturnx, jx_Slips_hint_58, kb_Slips_hint_58, og_23_4, oo_23, og_23_3, og_23_1, og_34_3, oo_47, oa_23, oa_34, oa_47, h343]
            refine c_grantClaim (Or.inl rfl) t3 (by omega) cl3 (clR_ok _) (fun F4 J4 t4 q4 => ?_)
            have cf4 := cf3.tr (q4.cf (Or.inl rfl))
            have h343' : F4 34 3 = b2i X.1.2.2.2 := (hD.cf cf4).2.2.1
            simp only [isO_c, ax0, ex_cons, am_get, upz_at, true_and, and_true, Nat.reduceAdd, Nat.reduceLeDiff, Nat.reduceEqDiff, Nat.reduceSub, Int32.reduceOfInt, Int32.reduceAdd, Int32.reduceMul, Int32.reduceSub, ↓reduceIte, Int32.reduceLT, Int32.reduceLE, Int32.reduceToNatClampNeg, Nat.reduceMod, Nat.reduceLT, List.length_cons, List.length_nil, eq_self, true_or, or_true, and_self, implies_true, not_true_eq_false, not_false_eq_true, false_implies, true_implies, forall_const, st_aloadx, st_getfieldx, st_ifCondx, st_iloadx, st_in1, st_in2, st_in3, st_ireturnx, jx_Slips_hint_58, kb_Slips_hint_58, og_23_4, oo_23, og_23_3, og_23_1, og_34_3, oo_47, oa_23, oa_34, oa_47]
            refine c_fits (Or.inl rfl) hb t4 ?_
            unfold fw
            unfold hiP at eo
            simp only [isO_c, ax0, ex_cons, am_get, upz_at, true_and, and_true, Nat.reduceAdd, Nat.reduceLeDiff, Nat.reduceEqDiff, Nat.reduceSub, Int32.reduceOfInt, Int32.reduceAdd, Int32.reduceMul, Int32.reduceSub, ↓reduceIte, Int32.reduceLT, Int32.reduceLE, Int32.reduceToNatClampNeg, Nat.reduceMod, Nat.reduceLT, List.length_cons, List.length_nil, eq_self, true_or, or_true, and_self, implies_true, not_true_eq_false, not_false_eq_true, false_implies, true_implies, forall_const, st_aloadx, st_getfieldx, st_gotox, st_ifCondx, st_iincx, st_iloadx, st_in1, st_in2, st_in3, st_ireturnx, am_put, am_nlg, jx_Slips_hint_58, kb_Slips_hint_58, og_23_4, oo_23, og_23_3, og_23_1, og_34_3, oo_47, jx_Slips_hint_121, kb_Slips_hint_121, oa_23, oa_34, oa_47, h343', nk_succ]
            refine ifb (fun w => ?_) (fun w => ?_)
            · rw [w, Bool.false_and, if_neg Bool.false_ne_true] at eo
              exact ih (k + 1) F4 J4 (by omega) eo cf4
            · rw [w, Bool.true_and] at eo
              refine c_canFail (Or.inl rfl) hb t4 hs.cl (clR_ok _) ?_
              simp only [isO_c, ax0, ex_cons, am_get, upz_at, true_and, and_true, Nat.reduceAdd, Nat.reduceLeDiff, Nat.reduceEqDiff, Nat.reduceSub, Int32.reduceOfInt, Int32.reduceAdd, Int32.reduceMul, Int32.reduceSub, ↓reduceIte, Int32.reduceLT, Int32.reduceLE, Int32.reduceToNatClampNeg, Nat.reduceMod, Nat.reduceLT, List.length_cons, List.length_nil, eq_self, true_or, or_true, and_self, implies_true, not_true_eq_false, not_false_eq_true, false_implies, true_implies, forall_const, st_aloadx, st_getfieldx, st_gotox, st_ifCondx, st_iincx, st_iloadx, st_in1, st_in2, st_in3, st_ireturnx, am_put, am_nlg, jx_Slips_hint_58, kb_Slips_hint_58, og_23_4, oo_23, og_23_3, og_23_1, og_34_3, oo_47, jx_Slips_hint_121, kb_Slips_hint_121, oa_23, oa_34, oa_47, nk_succ]
              refine ifnb (fun y => ?_) (fun y => ?_)
              · rw [Bool.not_eq_true'] at y
                rw [show fo (tellz (hzD X.1 hp) (clR (rS k)) X.1.2.2.2) (csD X.1 12) X.1.2.2.2 = false from y, if_neg Bool.false_ne_true] at eo
                exact ih (k + 1) F4 J4 (by omega) eo cf4
              · rw [Bool.not_eq_false'] at y
                rw [show fo (tellz (hzD X.1 hp) (clR (rS k)) X.1.2.2.2) (csD X.1 12) X.1.2.2.2 = true from y, if_pos rfl] at eo
                rw [eo] at K
                exact K F4 J4 cf4
          · rw [z, Bool.false_and, if_neg Bool.false_ne_true] at eo
            exact ih (k + 1) F1 J1 (by omega) eo c1
      exact key 256 0 F J rfl ho.symm Cf.rf
    · rw [e, if_neg Bool.false_ne_true] at K
      exact K F J Cf.rf
def spV (n : Nat) (V : Nat → Nat → Value) (x : Int32) : Value := if slB n x then V 35 x.toNatClampNeg else .null
set_option maxRecDepth 20000 in
theorem c_slipAt {X : kT} (hD : DK h F V 34 X) {x : Int32} (K : Q (some (spV X.1.1 V x)) (ov h F J V)) : am_cl (d + 1) 93 [.ref 34, .int x] (ov h F J V) Q := by
  obtain ⟨⟨d1, d2, d3⟩, _⟩ := hD
  unfold spV at K
  simp only [isO_c, ax0, ex_cons, am_get, upz_at, true_and, and_true, Nat.reduceAdd, Nat.reduceLeDiff, Nat.reduceEqDiff, Nat.reduceSub, Int32.reduceOfInt, Int32.reduceAdd, Int32.reduceMul, Int32.reduceSub, ↓reduceIte, Int32.reduceLT, Int32.reduceLE, Int32.reduceToNatClampNeg, Nat.reduceMod, Nat.reduceLT, List.length_cons, List.length_nil, eq_self, true_or, or_true, and_self, implies_true, not_true_eq_false, not_false_eq_true, false_implies, true_implies, forall_const, st_aaloadx, st_aconst_nullx, st_aloadx, st_areturnx, st_areturn_1x, st_getfieldx, st_gotox, st_goto_wx, st_ifCondx, st_if_icmpx, st_iloadx, kb_Desk_slipAt_0, og_34_1, og_34_0, jx_Desk_slipAt_21, kb_Desk_slipAt_21, jx_Desk_slipAt_22, kb_Desk_slipAt_22, oa_34, oa_35, or_35, cx_Desk_slipAt, oa_35, or_35, d1]
  have hsl : slB X.1.1 x = (!decide (x < 0) && !decide (nI X.1.1 ≤ x)) := by
    unfold slB lieB
    cases hn : X.1.1 with
    | zero =>
      rw [show nI 0 - 1 = (-1 : Int32) from rfl]
      cases e : decide (x < 0)
      · have q := of_decide_eq_false e
        have q2 : (-1 : Int32) < x := by
          rw [Int32.lt_iff_toInt_lt, Int32.toInt_zero] at q
          rw [Int32.lt_iff_toInt_lt]
          have e1 : (-1 : Int32).toInt = -1 := by decide
          rw [e1]; omega
        rw [decide_eq_true q2, decide_eq_true (show nI 0 ≤ x from Int32.not_lt.mp q)]
      · rfl
    | succ n =>
      rw [nk_sub1]
      have : (nI (n + 1) ≤ x) = (nI n < x) := lt_le n (by omega)
      congr 1
      congr 1
      rw [Bool.eq_iff_iff, decide_eq_true_eq, decide_eq_true_eq, this]
  refine And.intro (fun q => ?_) (fun q => ?_)
  · rw [hsl, decide_eq_true q] at K; exact K
  · refine And.intro (fun q2 => ?_) (fun q2 => ?_)
    · rw [hsl, decide_eq_false q, decide_eq_true q2] at K; exact K
    · rw [hsl, decide_eq_false q, decide_eq_false q2] at K
      obtain ⟨e1, e2⟩ := nk_of q
      have hlt : x.toNatClampNeg < X.1.1 := by
        rw [e1] at q2
        have := q2
        rw [nk_le (by omega) e2] at this
        omega
      obtain ⟨p, hp1, hp2⟩ := d3 _ hlt
      have hp1 : V 35 x.toNatClampNeg = .ref p := hp1
      have K : Q (some (V 35 x.toNatClampNeg)) (ov h F J V) := K
      rw [hp1] at K
      refine ⟨⟨q, by omega⟩, ?_⟩
      rw [hp1]
      exact K
end CPD
