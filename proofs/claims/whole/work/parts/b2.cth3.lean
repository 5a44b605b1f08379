/-! ===== the class: what can fail, what can hold ===== -/
theorem shz_none (T : tT) (w : Nat → Bool) : shz T w (fun _ => false) = al (fun r => !(w r && !T.1 r)) := by
  unfold shz
  exact al_congr (fun r _ => by rw [Bool.not_false, Bool.and_true])
theorem qz_bar (T : tT) (set bes : Nat → Bool) : qz (fun r => T.1 r || set r, T.2.1, T.2.2) (fun _ => false) = qz T set := by
  have e : ∀ w, shz (fun r => T.1 r || set r, T.2.1, T.2.2) w (fun _ => false) = shz T w set := fun w => by
    unfold shz
    exact al_congr (fun r _ => by show (!(w r && !(T.1 r || set r) && !false)) = _; cases w r <;> cases T.1 r <;> cases set r <;> rfl)
  unfold qz
  congr 1
  · exact congrArg (fun f => T.2.1.any f) (funext e)
  · exact congrArg (fun f => (List.range 4).any f) (funext fun n => e _)
theorem qz_app (T : tT) (w bes : Nat → Bool) : qz (T.1, T.2.1 ++ [w], T.2.2) bes = (qz T bes || shz T w bes) := by
  unfold qz
  show ((T.2.1 ++ [w]).any (fun w => shz T w bes) || (List.range 4).any (fun n => shz T (T.2.2 n) bes)) = _
  rw [List.any_append]
  simp only [List.any_cons, List.any_nil, Bool.or_false]
  cases T.2.1.any (fun w => shz T w bes) <;> cases (List.range 4).any (fun n => shz T (T.2.2 n) bes) <;> cases shz T w bes <;> rfl
theorem qz_nm (T : tT) {who : Nat} (hw : who < 4) (set : Nat → Bool) : qz (T.1, T.2.1, fun n r => if n = who then T.2.2 n r && set r else T.2.2 n r) (fun _ => false) = (qz T (fun _ => false) || shz T (fun r => T.2.2 who r && set r) (fun _ => false)) := by
  rw [Bool.eq_iff_iff, Bool.or_eq_true]
  unfold qz
  rw [Bool.or_eq_true, Bool.or_eq_true, rg_any, rg_any]
  constructor
  · rintro (h | ⟨n, hn, h⟩)
    · exact Or.inl (Or.inl h)
    · by_cases e : n = who
      · subst e
        refine Or.inr ?_
        have : (fun r => if n = n then T.2.2 n r && set r else T.2.2 n r) = fun r => T.2.2 n r && set r := by funext r; rw [if_pos rfl]
        rw [← this]; exact h
      · refine Or.inl (Or.inr ⟨n, hn, ?_⟩)
        have : (fun r => if n = who then T.2.2 n r && set r else T.2.2 n r) = T.2.2 n := by funext r; rw [if_neg e]
        rw [← this]; exact h
  · rintro ((h | ⟨n, hn, h⟩) | h)
    · exact Or.inl h
    · refine Or.inr ⟨n, hn, ?_⟩
      unfold shz at h ⊢
      rw [al_iff] at h ⊢
      intro r hr
      have := h r hr
      show (!((if n = who then T.2.2 n r && set r else T.2.2 n r) && !T.1 r && !false)) = true
      have this : (!(T.2.2 n r && !T.1 r && !false)) = true := this
      split
      · revert this; cases T.2.2 n r <;> cases T.1 r <;> cases set r <;> simp
      · exact this
    · refine Or.inr ⟨who, hw, ?_⟩
      have : (fun r => if who = who then T.2.2 who r && set r else T.2.2 who r) = fun r => T.2.2 who r && set r := by funext r; rw [if_pos rfl]
      show shz T (fun r => if who = who then T.2.2 who r && set r else T.2.2 who r) _ = true
      rw [this]; exact h
/-- a claim with a subject bars -/
def cOk (C : cT) : Prop := C.2.1 = true → C.1 = 0
theorem clR_ok (R : rT) : cOk (clR R) := by
  intro h
  have h : decide (R.1 = 1 ∨ R.1 = 2 ∨ R.1 = 4 ∨ R.1 = 5) = true := h
  have h := of_decide_eq_true h
  show saR R = 0
  unfold saR
  rw [if_neg (by omega), if_neg (by omega)]
theorem fo_0 {T : tT} {C : cT} (h : C.1 = 0) (ex : Bool) : (!fo T C ex) = ((fw T (fun _ => false) && !shz T C.2.2.2.1 (fun _ => false)) || (ex && C.2.1 && fw T C.2.2.2.2)) := by
  unfold fo fz fw
  rw [h, if_neg (by decide), if_pos rfl, shz_none]
  cases qz T (fun _ => false) <;> cases al (fun r => !(C.2.2.2.1 r && !T.1 r)) <;> cases ex <;> cases C.2.1 <;> cases qz T C.2.2.2.2 <;> rfl
theorem fo_1 {T : tT} {C : cT} (h : C.1 = 1) (hc : cOk C) (ex : Bool) : (!fo T C ex) = fw T C.2.2.2.1 := by
  have h2 : C.2.1 = false := by
    cases e : C.2.1
    · rfl
    · have := hc e; omega
  unfold fo fz fw
  rw [h, if_pos rfl, h2]
  cases qz T C.2.2.2.1 <;> cases ex <;> rfl
theorem fo_2 {T : tT} {C : cT} (h : C.1 = 2) (hc : cOk C) (ex : Bool) : (!fo T C ex) = (fw T (fun _ => false) && !al (fun r => !(T.2.2 C.2.2.1 r && !T.1 r && !C.2.2.2.1 r))) := by
  have h2 : C.2.1 = false := by
    cases e : C.2.1
    · rfl
    · have := hc e; omega
  unfold fo fz fw
  rw [h, if_neg (by decide), if_neg (by decide), h2]
  cases qz T (fun _ => false) <;> cases al (fun r => !(T.2.2 C.2.2.1 r && !T.1 r && !C.2.2.2.1 r)) <;> cases ex <;> rfl
/-- whether a claim can hold -/
def chZ (T : tT) (C : cT) (ex : Bool) : Bool := !qz (tellz T C ex) (fun _ => false)
theorem ch_0 {T : tT} {C : cT} (h : C.1 = 0) (ex : Bool) : chZ T C ex = (fw T C.2.2.2.1 && (!(ex && C.2.1) || !shz T C.2.2.2.2 C.2.2.2.1)) := by
  unfold chZ tellz fw
  rw [h]
  have e0 : tz T 0 C.2.2.2.1 C.2.2.1 true = (fun r => T.1 r || C.2.2.2.1 r, T.2.1, T.2.2) := rfl
  rw [e0]
  cases e : ex && C.2.1
  · rw [if_neg Bool.false_ne_true, qz_bar T C.2.2.2.1 (fun _ => false)]
    cases qz T C.2.2.2.1 <;> rfl
  · rw [if_pos rfl]
    have e1 : tz (fun r => T.1 r || C.2.2.2.1 r, T.2.1, T.2.2) 1 C.2.2.2.2 0 true = (fun r => T.1 r || C.2.2.2.1 r, T.2.1 ++ [C.2.2.2.2], T.2.2) := rfl
    rw [e1, qz_app (fun r => T.1 r || C.2.2.2.1 r, T.2.1, T.2.2) C.2.2.2.2, qz_bar T C.2.2.2.1 (fun _ => false)]
    have e2 : shz (fun r => T.1 r || C.2.2.2.1 r, T.2.1, T.2.2) C.2.2.2.2 (fun _ => false) = shz T C.2.2.2.2 C.2.2.2.1 := by
      unfold shz
      exact al_congr (fun r _ => by show (!(C.2.2.2.2 r && !(T.1 r || C.2.2.2.1 r) && !false)) = _; cases C.2.2.2.2 r <;> cases T.1 r <;> cases C.2.2.2.1 r <;> rfl)
    rw [e2]
    cases qz T C.2.2.2.1 <;> cases shz T C.2.2.2.2 C.2.2.2.1 <;> rfl
theorem ch_1 {T : tT} {C : cT} (h : C.1 = 1) (hc : cOk C) (ex : Bool) : chZ T C ex = (fw T (fun _ => false) && !shz T C.2.2.2.1 (fun _ => false)) := by
  have h2 : C.2.1 = false := by
    cases e : C.2.1
    · rfl
    · have := hc e; omega
  unfold chZ tellz fw
  rw [h, h2, Bool.and_false, if_neg Bool.false_ne_true]
  have e0 : tz T 1 C.2.2.2.1 C.2.2.1 true = (T.1, T.2.1 ++ [C.2.2.2.1], T.2.2) := rfl
  rw [e0, qz_app]
  cases qz T (fun _ => false) <;> cases shz T C.2.2.2.1 (fun _ => false) <;> rfl
theorem ch_2 {T : tT} {C : cT} (h : C.1 = 2) (hc : cOk C) (hw : C.2.2.1 < 4) (ex : Bool) : chZ T C ex = (fw T (fun _ => false) && !al (fun r => !(T.2.2 C.2.2.1 r && !T.1 r && C.2.2.2.1 r))) := by
  have h2 : C.2.1 = false := by
    cases e : C.2.1
    · rfl
    · have := hc e; omega
  unfold chZ tellz fw
  rw [h, h2, Bool.and_false, if_neg Bool.false_ne_true]
  have e0 : tz T 2 C.2.2.2.1 C.2.2.1 true = (T.1, T.2.1, fun n r => if n = C.2.2.1 then T.2.2 n r && C.2.2.2.1 r else T.2.2 n r) := rfl
  rw [e0, qz_nm T hw, shz_none]
  have e1 : al (fun r => !((fun r => T.2.2 C.2.2.1 r && C.2.2.2.1 r) r && !T.1 r)) = al (fun r => !(T.2.2 C.2.2.1 r && !T.1 r && C.2.2.2.1 r)) := al_congr (fun r _ => by show (!(T.2.2 C.2.2.1 r && C.2.2.2.1 r && !T.1 r)) = _; cases T.2.2 C.2.2.1 r <;> cases T.1 r <;> cases C.2.2.2.1 r <;> rfl)
  rw [e1]
  cases qz T (fun _ => false) <;> cases al (fun r => !(T.2.2 C.2.2.1 r && !T.1 r && C.2.2.2.1 r)) <;> rfl
section CTJ
variable {d th : Nat} {h : am_H} {F : Nat → Nat → Int32} {J : Nat → Nat → Int64} {V : Nat → Nat → Value} {Q : am_Q}
set_option maxRecDepth 20000 in
theorem c_canBePlaced (hth : th = 47 ∨ th = 67) {T : tT} {P : Nat} (hT : TT F J th T P) {s : Nat} {C : cT} (hC : CL (ov h F J V) s C) (h2 : C.1 = 2) {turn : Int64} {q : Nat → Bool} (hq : ∀ f : Nat → Int64, (∀ r, r < 256 → bJ f r = C.2.2.2.1 r) → ∀ r, r < 256 → bJ (fun k => f k ^^^ turn) r = q r) (K : Q (some (.int (b2i (!al (fun r => !(T.2.2 C.2.2.1 r && !T.1 r && q r)))))) (ov h F J V)) : am_cl (d + 2) 150 [.ref th, .ref s, .long turn] (ov h F J V) Q := by
  obtain ⟨be, m, sk, pk, a, b, c, h1, _, h3, ⟨f, hf1, hf2⟩, _⟩ := hC
  obtain ⟨e1, e2⟩ := h3 h2
  subst e1
  obtain ⟨t1, t2, t3, t4, t5, t6, t7, t8⟩ := hT
  have ek : decide (orJ (fun k => (J (th + 3) (C.2.2.1 * 4 + k) &&& J (th + 1) k) &&& (f k ^^^ turn)) 4 = 0) = al (fun r => !(T.2.2 C.2.2.1 r && !T.1 r && q r)) := orJ_al (p := fun r => T.2.2 C.2.2.1 r && !T.1 r && q r) (fun r hr => by
    rw [bJ_and (fun k => J (th + 3) (C.2.2.1 * 4 + k) &&& J (th + 1) k) (fun k => f k ^^^ turn), bJ_and (fun k => J (th + 3) (C.2.2.1 * 4 + k)) (J (th + 1)), hq f hf2 r hr, t1 r hr, ← t5 C.2.2.1 e2 r hr]
    rw [show bJ (fun k => J (th + 3) (C.2.2.1 * 4 + k)) r = bJ (fun k => J (th + 3) (4 * C.2.2.1 + k)) r from bJ_congr hr (fun i hi => by rw [Nat.mul_comm])])
  rw [← ek] at K
  simp only [isO_c, ax0, ex_cons, am_get, upz_at, true_and, and_true, Nat.reduceAdd, Nat.reduceLeDiff, Nat.reduceEqDiff, Nat.reduceSub, Int32.reduceOfInt, Int32.reduceAdd, Int32.reduceMul, Int32.reduceSub, ↓reduceIte, Int32.reduceLT, Int32.reduceLE, Int32.reduceToNatClampNeg, Nat.reduceMod, Nat.reduceLT, List.length_cons, List.length_nil, eq_self, true_or, or_true, and_self, implies_true, not_true_eq_false, not_false_eq_true, false_implies, true_implies, forall_const, st_bipushx, st_goto_wx, st_iconstx, st_istorex, st_lstorex, am_put, am_nlg, am_putL, am_nlg, kb_Theory_canBePlaced_0, cx_Theory_canBePlaced]
  refine am_iter 4 (fun k => [.ref th, .ref s, .long turn, am_dum, .long (orJ (fun k => (J (th + 3) (C.2.2.1 * 4 + k) &&& J (th + 1) k) &&& (f k ^^^ turn)) k), am_dum, .int (nI k)]) (fun _ => ov h F J V) (fun _ => True) (fun k hk hI go => ?_) (fun hI => ?_) 0 (by decide) trivial
  · rw [jx_Theory_canBePlaced_6]
    simp only [isO_c, ax0, ex_cons, am_get, upz_at, true_and, and_true, Nat.reduceAdd, Nat.reduceLeDiff, Nat.reduceEqDiff, Nat.reduceSub, Int32.reduceOfInt, Int32.reduceAdd, Int32.reduceMul, Int32.reduceSub, ↓reduceIte, Int32.reduceLT, Int32.reduceLE, Int32.reduceToNatClampNeg, Nat.reduceMod, Nat.reduceLT, List.length_cons, List.length_nil, eq_self, true_or, or_true, and_self, implies_true, not_true_eq_false, not_false_eq_true, false_implies, true_implies, forall_const, st_aloadx, st_getfieldx, st_gotox, st_iconstx, st_if_icmpx, st_iincx, st_iloadx, st_in3, st_laloadx, st_landx, st_lloadx, st_lorx, st_lstorex, st_lxorx, am_put, am_nlg, am_putL, am_nlg, kb_Theory_canBePlaced_6, og_51_1, og_71_1, oo_47, oo_67, og_51_6, og_71_6, oa_47, oa_51, oa_67, oa_71, oa_53, or_53, oa_73, or_73, tO hth, gf6, h1, show ((4 : Int32) ≤ nI (k)) = (4 ≤ k) from nk_le (a := 4) (b := k) (by omega) (by omega), show ¬ 4 ≤ k by omega]
    refine c_placeWord hth e2 hk ?_
    simp only [isO_c, ax0, ex_cons, am_get, upz_at, true_and, and_true, Nat.reduceAdd, Nat.reduceLeDiff, Nat.reduceEqDiff, Nat.reduceSub, Int32.reduceOfInt, Int32.reduceAdd, Int32.reduceMul, Int32.reduceSub, ↓reduceIte, Int32.reduceLT, Int32.reduceLE, Int32.reduceToNatClampNeg, Nat.reduceMod, Nat.reduceLT, List.length_cons, List.length_nil, eq_self, true_or, or_true, and_self, implies_true, not_true_eq_false, not_false_eq_true, false_implies, true_implies, forall_const, st_aloadx, st_getfieldx, st_gotox, st_iconstx, st_if_icmpx, st_iincx, st_iloadx, st_in3, st_laloadx, st_landx, st_lloadx, st_lorx, st_lstorex, st_lxorx, am_put, am_nlg, am_putL, am_nlg, kb_Theory_canBePlaced_6, og_51_1, og_71_1, oo_47, oo_67, og_51_6, og_71_6, oa_47, oa_51, oa_67, oa_71, oa_53, or_53, oa_73, or_73, gf6, h1, hf1, oq_rJ, nk_neg (show k < 2147483648 by omega), nk_cl (show k < 2147483648 by omega), hk, nk_succ]
    exact go trivial
  · rw [jx_Theory_canBePlaced_6]
    simp only [isO_c, ax0, ex_cons, am_get, upz_at, true_and, and_true, Nat.reduceAdd, Nat.reduceLeDiff, Nat.reduceEqDiff, Nat.reduceSub, Int32.reduceOfInt, Int32.reduceAdd, Int32.reduceMul, Int32.reduceSub, ↓reduceIte, Int32.reduceLT, Int32.reduceLE, Int32.reduceToNatClampNeg, Nat.reduceMod, Nat.reduceLT, List.length_cons, List.length_nil, eq_self, true_or, or_true, and_self, implies_true, not_true_eq_false, not_false_eq_true, false_implies, true_implies, forall_const, st_aloadx, st_bipushx, st_freturnx, st_getfieldx, st_gotox, st_goto_wx, st_iconstx, st_ifCondx, st_if_icmpx, st_iincx, st_iloadx, st_in3, st_laloadx, st_landx, st_lcmpx, st_lloadx, st_lorx, st_lstorex, st_lxorx, am_put, am_nlg, am_putL, am_nlg, kb_Theory_canBePlaced_6, og_51_1, og_71_1, oo_47, oo_67, og_51_6, og_71_6, jx_Theory_canBePlaced_43, kb_Theory_canBePlaced_43, jx_Theory_canBePlaced_54, kb_Theory_canBePlaced_54, jx_Theory_canBePlaced_55, kb_Theory_canBePlaced_55, oa_47, oa_51, oa_67, oa_71, oa_53, or_53, oa_73, or_73, show ((4 : Int32) ≤ nI (4)) = (4 ≤ 4) from nk_le (a := 4) (b := 4) (by omega) (by omega), lgc0]
    refine And.intro (fun z => ?_) (fun z => ?_)
    · rw [decide_eq_true z] at K; exact K
    · rw [decide_eq_false z] at K; exact K
set_option maxRecDepth 20000 in
theorem c_canFail (hth : th = 47 ∨ th = 67) (hb : HB h) {T : tT} {P : Nat} (hT : TT F J th T P) {s : Nat} {C : cT} (hC : CL (ov h F J V) s C) (hc : cOk C) {ex : Bool} (K : Q (some (.int (b2i (!fo T C ex)))) (ov h F J V)) : am_cl (d + 4) 149 [.ref th, .ref s, .int (b2i ex)] (ov h F J V) Q := by
  have hC0 := hC
  obtain ⟨be, m, sk, pk, a, b, c, h1, hle, h3, hs, ⟨fb, hfb1, hfb2⟩, _⟩ := hC
  have hs0 := hs
  obtain ⟨f, hf1, hf2⟩ := hs
  rcases (show C.1 = 0 ∨ C.1 = 1 ∨ C.1 = 2 by omega) with e | e | e
  · rw [fo_0 e] at K
    have tail : (fw T (fun _ => false) && !shz T C.2.2.2.1 (fun _ => false)) = false → am_W kc_Theory_canFail (am_cl (d + 3)) Q 32 [.ref th, .ref s, .int (b2i ex)] [] (ov h F J V) := by
      intro z
      rw [z, Bool.false_or] at K
      simp only [isO_c, ax0, ex_cons, am_get, upz_at, true_and, and_true, Nat.reduceAdd, Nat.reduceLeDiff, Nat.reduceEqDiff, Nat.reduceSub, Int32.reduceOfInt, Int32.reduceAdd, Int32.reduceMul, Int32.reduceSub, ↓reduceIte, Int32.reduceLT, Int32.reduceLE, Int32.reduceToNatClampNeg, Nat.reduceMod, Nat.reduceLT, List.length_cons, List.length_nil, eq_self, true_or, or_true, and_self, implies_true, not_true_eq_false, not_false_eq_true, false_implies, true_implies, forall_const, st_aloadx, st_getfieldx, st_goto_wx, st_ifCondx, st_iloadx, st_in2, jx_Theory_canFail_32, kb_Theory_canFail_32, oo_51, oo_71, og_51_7, og_71_7, oo_47, oo_67, oa_47, oa_51, oa_67, oa_71, oa_54, oa_74, h1, gf6]
      refine c_tellsSubject hC0 ?_
      simp only [isO_c, ax0, ex_cons, am_get, upz_at, true_and, and_true, Nat.reduceAdd, Nat.reduceLeDiff, Nat.reduceEqDiff, Nat.reduceSub, Int32.reduceOfInt, Int32.reduceAdd, Int32.reduceMul, Int32.reduceSub, ↓reduceIte, Int32.reduceLT, Int32.reduceLE, Int32.reduceToNatClampNeg, Nat.reduceMod, Nat.reduceLT, List.length_cons, List.length_nil, eq_self, true_or, or_true, and_self, implies_true, not_true_eq_false, not_false_eq_true, false_implies, true_implies, forall_const, st_aloadx, st_freturnx, st_getfieldx, st_goto_wx, st_iconstx, st_ifCondx, st_iloadx, st_in2, jx_Theory_canFail_32, kb_Theory_canFail_32, oo_51, oo_71, og_51_7, og_71_7, oo_47, oo_67, jx_Theory_canFail_55, kb_Theory_canFail_55, jx_Theory_canFail_56, kb_Theory_canFail_56, oa_47, oa_51, oa_67, oa_71, oa_54, oa_74, tO hth, h1, gf6]
      refine ifb (fun z2 => ?_) (fun z2 => ?_)
      · rw [z2, Bool.false_and] at K; exact K
      · rw [z2, Bool.true_and] at K
        have z3 : C.2.1 = true := by rw [Bool.and_eq_true] at z2; exact z2.2
        refine c_fitsWithout hth hT (bes := C.2.2.2.2) ⟨fb, hfb1, hfb2 z3⟩ ?_
        simp only [isO_c, ax0, ex_cons, am_get, upz_at, true_and, and_true, Nat.reduceAdd, Nat.reduceLeDiff, Nat.reduceEqDiff, Nat.reduceSub, Int32.reduceOfInt, Int32.reduceAdd, Int32.reduceMul, Int32.reduceSub, ↓reduceIte, Int32.reduceLT, Int32.reduceLE, Int32.reduceToNatClampNeg, Nat.reduceMod, Nat.reduceLT, List.length_cons, List.length_nil, eq_self, true_or, or_true, and_self, implies_true, not_true_eq_false, not_false_eq_true, false_implies, true_implies, forall_const, st_aloadx, st_freturnx, st_getfieldx, st_gotox, st_goto_wx, st_iconstx, st_ifCondx, st_iloadx, st_in2, jx_Theory_canFail_32, kb_Theory_canFail_32, oo_51, oo_71, og_51_7, og_71_7, oo_47, oo_67, jx_Theory_canFail_51, kb_Theory_canFail_51, jx_Theory_canFail_55, kb_Theory_canFail_55, jx_Theory_canFail_56, kb_Theory_canFail_56, oa_47, oa_51, oa_67, oa_71, oa_54, oa_74]
        refine ifb (fun z4 => ?_) (fun z4 => ?_)
        · rw [z4] at K; exact K
        · rw [z4] at K; exact K
    simp only [isO_c, ax0, ex_cons, am_get, upz_at, true_and, and_true, Nat.reduceAdd, Nat.reduceLeDiff, Nat.reduceEqDiff, Nat.reduceSub, Int32.reduceOfInt, Int32.reduceAdd, Int32.reduceMul, Int32.reduceSub, ↓reduceIte, Int32.reduceLT, Int32.reduceLE, Int32.reduceToNatClampNeg, Nat.reduceMod, Nat.reduceLT, List.length_cons, List.length_nil, eq_self, true_or, or_true, and_self, implies_true, not_true_eq_false, not_false_eq_true, false_implies, true_implies, forall_const, st_aloadx, st_getfieldx, st_goto_wx, st_iconstx, st_ifCondx, st_in2, st_in4, st_ldcx, kb_Theory_canFail_0, og_51_0, og_71_0, oo_47, oo_67, og_51_6, og_71_6, oa_47, oa_51, oa_67, oa_71, oa_53, oa_73, cx_Theory_canFail, tO hth, h1, gf6, gf8, e, show nI 0 = (0 : Int32) from rfl]
    refine c_fitsWithout hth hT hb.sj ?_
    simp only [isO_c, ax0, ex_cons, am_get, upz_at, true_and, and_true, Nat.reduceAdd, Nat.reduceLeDiff, Nat.reduceEqDiff, Nat.reduceSub, Int32.reduceOfInt, Int32.reduceAdd, Int32.reduceMul, Int32.reduceSub, ↓reduceIte, Int32.reduceLT, Int32.reduceLE, Int32.reduceToNatClampNeg, Nat.reduceMod, Nat.reduceLT, List.length_cons, List.length_nil, eq_self, true_or, or_true, and_self, implies_true, not_true_eq_false, not_false_eq_true, false_implies, true_implies, forall_const, st_aloadx, st_getfieldx, st_goto_wx, st_iconstx, st_ifCondx, st_in2, st_in4, st_ldcx, kb_Theory_canFail_0, og_51_0, og_71_0, oo_47, oo_67, og_51_6, og_71_6, oa_47, oa_51, oa_67, oa_71, oa_53, oa_73, tO hth, h1, gf6]
    refine ifb (fun z => ?_) (fun z => ?_)
    · exact tail (by rw [z]; rfl)
    · refine c_meets hth (at_ := 0) hf1 (by decide) (by decide) hb.at ?_
      rw [mt4_shz (T := T) (a := C.2.2.2.1) (c := fun _ => false) (fun r hr => by rw [← hf2 r hr]; exact bJ_congr hr (fun i _ => by rw [Nat.zero_add])) hT.1 (fun r _ => bJ_zero r)]
      simp only [isO_c, ax0, ex_cons, am_get, upz_at, true_and, and_true, Nat.reduceAdd, Nat.reduceLeDiff, Nat.reduceEqDiff, Nat.reduceSub, Int32.reduceOfInt, Int32.reduceAdd, Int32.reduceMul, Int32.reduceSub, ↓reduceIte, Int32.reduceLT, Int32.reduceLE, Int32.reduceToNatClampNeg, Nat.reduceMod, Nat.reduceLT, List.length_cons, List.length_nil, eq_self, true_or, or_true, and_self, implies_true, not_true_eq_false, not_false_eq_true, false_implies, true_implies, forall_const, st_aloadx, st_freturnx, st_getfieldx, st_gotox, st_goto_wx, st_iconstx, st_ifCondx, st_in2, st_in4, st_ldcx, kb_Theory_canFail_0, og_51_0, og_71_0, oo_47, oo_67, og_51_6, og_71_6, jx_Theory_canFail_51, kb_Theory_canFail_51, jx_Theory_canFail_56, kb_Theory_canFail_56, oa_47, oa_51, oa_67, oa_71, oa_53, oa_73]
      refine ifnb (fun z2 => ?_) (fun z2 => ?_)
      · rw [z, z2] at K; exact K
      · exact tail (by rw [z, z2]; rfl)
  · rw [fo_1 e hc] at K
    simp only [isO_c, ax0, ex_cons, am_get, upz_at, true_and, and_true, Nat.reduceAdd, Nat.reduceLeDiff, Nat.reduceEqDiff, Nat.reduceSub, Int32.reduceOfInt, Int32.reduceAdd, Int32.reduceMul, Int32.reduceSub, ↓reduceIte, Int32.reduceLT, Int32.reduceLE, Int32.reduceToNatClampNeg, Nat.reduceMod, Nat.reduceLT, List.length_cons, List.length_nil, eq_self, true_or, or_true, and_self, implies_true, not_true_eq_false, not_false_eq_true, false_implies, true_implies, forall_const, st_aloadx, st_freturnx, st_getfieldx, st_goto_wx, st_iconstx, st_ifCondx, st_if_icmpx, st_in2, st_in4, st_ldcx, kb_Theory_canFail_0, og_51_0, og_71_0, oo_47, oo_67, og_51_6, og_71_6, jx_Theory_canFail_57, kb_Theory_canFail_57, oa_47, oa_51, oa_67, oa_71, oa_53, oa_73, cx_Theory_canFail, tO hth, h1, gf6, gf8, e, show nI 1 = (1 : Int32) from rfl]
    refine c_fitsWithout hth hT hs0 ?_
    simp only [isO_c, ax0, ex_cons, am_get, upz_at, true_and, and_true, Nat.reduceAdd, Nat.reduceLeDiff, Nat.reduceEqDiff, Nat.reduceSub, Int32.reduceOfInt, Int32.reduceAdd, Int32.reduceMul, Int32.reduceSub, ↓reduceIte, Int32.reduceLT, Int32.reduceLE, Int32.reduceToNatClampNeg, Nat.reduceMod, Nat.reduceLT, List.length_cons, List.length_nil, eq_self, true_or, or_true, and_self, implies_true, not_true_eq_false, not_false_eq_true, false_implies, true_implies, forall_const, st_aloadx, st_freturnx, st_getfieldx, st_iconstx, st_if_icmpx, st_in2, jx_Theory_canFail_57, kb_Theory_canFail_57, og_51_0, og_71_0, og_51_6, og_71_6, oo_47, oo_67, oa_47, oa_51, oa_67, oa_71, oa_53, oa_73, b2i_01]
    exact K
  · rw [fo_2 e hc] at K
    simp only [isO_c, ax0, ex_cons, am_get, upz_at, true_and, and_true, Nat.reduceAdd, Nat.reduceLeDiff, Nat.reduceEqDiff, Nat.reduceSub, Int32.reduceOfInt, Int32.reduceAdd, Int32.reduceMul, Int32.reduceSub, ↓reduceIte, Int32.reduceLT, Int32.reduceLE, Int32.reduceToNatClampNeg, Nat.reduceMod, Nat.reduceLT, List.length_cons, List.length_nil, eq_self, true_or, or_true, and_self, implies_true, not_true_eq_false, not_false_eq_true, false_implies, true_implies, forall_const, st_aloadx, st_bipushx, st_freturnx, st_getfieldx, st_gotox, st_goto_wx, st_iconstx, st_ifCondx, st_if_icmpx, st_in2, st_in3, st_in4, st_ldcx, kb_Theory_canFail_0, og_51_0, og_71_0, oo_47, oo_67, og_51_6, og_71_6, jx_Theory_canFail_57, kb_Theory_canFail_57, jx_Theory_canFail_74, kb_Theory_canFail_74, oa_47, oa_51, oa_67, oa_71, oa_53, oa_73, cx_Theory_canFail, tO hth, h1, gf6, gf8, e, show nI 2 = (2 : Int32) from rfl]
    refine c_fitsWithout hth hT hb.sj ?_
    simp only [isO_c, ax0, ex_cons, am_get, upz_at, true_and, and_true, Nat.reduceAdd, Nat.reduceLeDiff, Nat.reduceEqDiff, Nat.reduceSub, Int32.reduceOfInt, Int32.reduceAdd, Int32.reduceMul, Int32.reduceSub, ↓reduceIte, Int32.reduceLT, Int32.reduceLE, Int32.reduceToNatClampNeg, Nat.reduceMod, Nat.reduceLT, List.length_cons, List.length_nil, eq_self, true_or, or_true, and_self, implies_true, not_true_eq_false, not_false_eq_true, false_implies, true_implies, forall_const, st_aloadx, st_bipushx, st_freturnx, st_gotox, st_goto_wx, st_iconstx, st_ifCondx, st_in2, st_in3, st_ldcx, jx_Theory_canFail_74, kb_Theory_canFail_74, oo_47, oo_67, jx_Theory_canFail_99, kb_Theory_canFail_99, jx_Theory_canFail_100, kb_Theory_canFail_100, oa_47, oa_67, tO hth]
    refine ifb (fun z => ?_) (fun z => ?_)
    · rw [z] at K; exact K
    · rw [z, Bool.true_and] at K
      refine c_canBePlaced hth hT hC0 e (q := fun r => !C.2.2.2.1 r) (fun f hf r hr => (bJ_not f r).trans (by rw [hf r hr])) ?_
      simp only [isO_c, ax0, ex_cons, am_get, upz_at, true_and, and_true, Nat.reduceAdd, Nat.reduceLeDiff, Nat.reduceEqDiff, Nat.reduceSub, Int32.reduceOfInt, Int32.reduceAdd, Int32.reduceMul, Int32.reduceSub, ↓reduceIte, Int32.reduceLT, Int32.reduceLE, Int32.reduceToNatClampNeg, Nat.reduceMod, Nat.reduceLT, List.length_cons, List.length_nil, eq_self, true_or, or_true, and_self, implies_true, not_true_eq_false, not_false_eq_true, false_implies, true_implies, forall_const, st_aloadx, st_bipushx, st_freturnx, st_gotox, st_goto_wx, st_iconstx, st_ifCondx, st_in2, st_in3, st_ldcx, jx_Theory_canFail_74, kb_Theory_canFail_74, oo_47, oo_67, jx_Theory_canFail_99, kb_Theory_canFail_99, jx_Theory_canFail_100, kb_Theory_canFail_100, oa_47, oa_67]
      refine ifb (fun z2 => ?_) (fun z2 => ?_)
      · rw [z2] at K; exact K
      · rw [z2] at K; exact K
set_option maxRecDepth 20000 in
theorem c_canHold (hth : th = 47 ∨ th = 67) (hb : HB h) {T : tT} {P : Nat} (hT : TT F J th T P) {s : Nat} {C : cT} (hC : CL (ov h F J V) s C) (hc : cOk C) {ex : Bool} (K : Q (some (.int (b2i (chZ T C ex)))) (ov h F J V)) : am_cl (d + 4) 148 [.ref th, .ref s, .int (b2i ex)] (ov h F J V) Q := by
  have hC0 := hC
  obtain ⟨be, m, sk, pk, a, b, c, h1, hle, h3, hs, ⟨fb, hfb1, hfb2⟩, _⟩ := hC
  have hs0 := hs
  obtain ⟨f, hf1, hf2⟩ := hs
  rcases (show C.1 = 0 ∨ C.1 = 1 ∨ C.1 = 2 by omega) with e | e | e
  · rw [ch_0 e] at K
    simp only [isO_c, ax0, ex_cons, am_get, upz_at, true_and, and_true, Nat.reduceAdd, Nat.reduceLeDiff, Nat.reduceEqDiff, Nat.reduceSub, Int32.reduceOfInt, Int32.reduceAdd, Int32.reduceMul, Int32.reduceSub, ↓reduceIte, Int32.reduceLT, Int32.reduceLE, Int32.reduceToNatClampNeg, Nat.reduceMod, Nat.reduceLT, List.length_cons, List.length_nil, eq_self, true_or, or_true, and_self, implies_true, not_true_eq_false, not_false_eq_true, false_implies, true_implies, forall_const, st_aloadx, st_getfieldx, st_goto_wx, st_iconstx, st_ifCondx, st_iloadx, st_in2, st_in4, kb_Theory_canHold_0, og_51_0, og_71_0, og_51_6, og_71_6, oo_47, oo_67, oo_51, oo_71, og_51_7, og_71_7, oa_47, oa_51, oa_67, oa_71, oa_53, oa_54, oa_73, oa_74, cx_Theory_canHold, tO hth, h1, gf6, gf8, e, show nI 0 = (0 : Int32) from rfl]
    refine c_fitsWithout hth hT hs0 ?_
    simp only [isO_c, ax0, ex_cons, am_get, upz_at, true_and, and_true, Nat.reduceAdd, Nat.reduceLeDiff, Nat.reduceEqDiff, Nat.reduceSub, Int32.reduceOfInt, Int32.reduceAdd, Int32.reduceMul, Int32.reduceSub, ↓reduceIte, Int32.reduceLT, Int32.reduceLE, Int32.reduceToNatClampNeg, Nat.reduceMod, Nat.reduceLT, List.length_cons, List.length_nil, eq_self, true_or, or_true, and_self, implies_true, not_true_eq_false, not_false_eq_true, false_implies, true_implies, forall_const, st_aloadx, st_freturnx, st_getfieldx, st_goto_wx, st_iconstx, st_ifCondx, st_iloadx, st_in2, st_in4, kb_Theory_canHold_0, og_51_0, og_71_0, og_51_6, og_71_6, oo_47, oo_67, oo_51, oo_71, og_51_7, og_71_7, jx_Theory_canHold_46, kb_Theory_canHold_46, jx_Theory_canHold_47, kb_Theory_canHold_47, oa_47, oa_51, oa_67, oa_71, oa_53, oa_54, oa_73, oa_74, h1, gf6]
    refine ifb (fun z => ?_) (fun z => ?_)
    · rw [z] at K; exact K
    rw [z, Bool.true_and] at K
    refine c_tellsSubject hC0 ?_
    simp only [isO_c, ax0, ex_cons, am_get, upz_at, true_and, and_true, Nat.reduceAdd, Nat.reduceLeDiff, Nat.reduceEqDiff, Nat.reduceSub, Int32.reduceOfInt, Int32.reduceAdd, Int32.reduceMul, Int32.reduceSub, ↓reduceIte, Int32.reduceLT, Int32.reduceLE, Int32.reduceToNatClampNeg, Nat.reduceMod, Nat.reduceLT, List.length_cons, List.length_nil, eq_self, true_or, or_true, and_self, implies_true, not_true_eq_false, not_false_eq_true, false_implies, true_implies, forall_const, st_aloadx, st_freturnx, st_getfieldx, st_gotox, st_goto_wx, st_iconstx, st_ifCondx, st_iloadx, st_in2, st_in4, kb_Theory_canHold_0, og_51_0, og_71_0, og_51_6, og_71_6, oo_47, oo_67, oo_51, oo_71, og_51_7, og_71_7, jx_Theory_canHold_42, kb_Theory_canHold_42, jx_Theory_canHold_46, kb_Theory_canHold_46, jx_Theory_canHold_47, kb_Theory_canHold_47, oa_47, oa_51, oa_67, oa_71, oa_53, oa_54, oa_73, oa_74, tO hth, h1, gf6]
    refine ifb (fun z2 => ?_) (fun z2 => ?_)
    · rw [z2] at K; exact K
    · rw [z2] at K
      have z3 : C.2.1 = true := by rw [Bool.and_eq_true] at z2; exact z2.2
      refine c_meets hth (at_ := 0) hfb1 (by decide) (by decide) hf1 ?_
      rw [mt4_shz (T := T) (a := C.2.2.2.2) (c := C.2.2.2.1) (fun r hr => by rw [← hfb2 z3 r hr]; exact bJ_congr hr (fun i _ => by rw [Nat.zero_add])) hT.1 hf2]
      simp only [isO_c, ax0, ex_cons, am_get, upz_at, true_and, and_true, Nat.reduceAdd, Nat.reduceLeDiff, Nat.reduceEqDiff, Nat.reduceSub, Int32.reduceOfInt, Int32.reduceAdd, Int32.reduceMul, Int32.reduceSub, ↓reduceIte, Int32.reduceLT, Int32.reduceLE, Int32.reduceToNatClampNeg, Nat.reduceMod, Nat.reduceLT, List.length_cons, List.length_nil, eq_self, true_or, or_true, and_self, implies_true, not_true_eq_false, not_false_eq_true, false_implies, true_implies, forall_const, st_aloadx, st_freturnx, st_getfieldx, st_gotox, st_goto_wx, st_iconstx, st_ifCondx, st_iloadx, st_in2, st_in4, kb_Theory_canHold_0, og_51_0, og_71_0, og_51_6, og_71_6, oo_47, oo_67, oo_51, oo_71, og_51_7, og_71_7, jx_Theory_canHold_42, kb_Theory_canHold_42, jx_Theory_canHold_46, kb_Theory_canHold_46, jx_Theory_canHold_47, kb_Theory_canHold_47, oa_47, oa_51, oa_67, oa_71, oa_53, oa_54, oa_73, oa_74]
      refine ifb (fun z4 => ?_) (fun z4 => ?_)
      · rw [z4] at K; exact K
      · rw [z4] at K; exact K
  · rw [ch_1 e hc] at K
    simp only [isO_c, ax0, ex_cons, am_get, upz_at, true_and, and_true, Nat.reduceAdd, Nat.reduceLeDiff, Nat.reduceEqDiff, Nat.reduceSub, Int32.reduceOfInt, Int32.reduceAdd, Int32.reduceMul, Int32.reduceSub, ↓reduceIte, Int32.reduceLT, Int32.reduceLE, Int32.reduceToNatClampNeg, Nat.reduceMod, Nat.reduceLT, List.length_cons, List.length_nil, eq_self, true_or, or_true, and_self, implies_true, not_true_eq_false, not_false_eq_true, false_implies, true_implies, forall_const, st_aloadx, st_getfieldx, st_gotox, st_goto_wx, st_iconstx, st_ifCondx, st_if_icmpx, st_iloadx, st_in2, st_in4, st_ldcx, kb_Theory_canHold_0, og_51_0, og_71_0, og_51_6, og_71_6, oo_47, oo_67, oo_51, oo_71, og_51_7, og_71_7, jx_Theory_canHold_48, kb_Theory_canHold_48, oa_47, oa_51, oa_67, oa_71, oa_53, oa_54, oa_73, oa_74, cx_Theory_canHold, tO hth, h1, gf6, gf8, e, show nI 1 = (1 : Int32) from rfl]
    refine c_fitsWithout hth hT hb.sj ?_
    simp only [isO_c, ax0, ex_cons, am_get, upz_at, true_and, and_true, Nat.reduceAdd, Nat.reduceLeDiff, Nat.reduceEqDiff, Nat.reduceSub, Int32.reduceOfInt, Int32.reduceAdd, Int32.reduceMul, Int32.reduceSub, ↓reduceIte, Int32.reduceLT, Int32.reduceLE, Int32.reduceToNatClampNeg, Nat.reduceMod, Nat.reduceLT, List.length_cons, List.length_nil, eq_self, true_or, or_true, and_self, implies_true, not_true_eq_false, not_false_eq_true, false_implies, true_implies, forall_const, st_aloadx, st_freturnx, st_getfieldx, st_gotox, st_goto_wx, st_iconstx, st_ifCondx, st_if_icmpx, st_in2, st_in4, st_ldcx, jx_Theory_canHold_48, kb_Theory_canHold_48, og_51_0, og_71_0, oo_47, oo_67, og_51_6, og_71_6, jx_Theory_canHold_85, kb_Theory_canHold_85, jx_Theory_canHold_86, kb_Theory_canHold_86, oa_47, oa_51, oa_67, oa_71, oa_53, oa_73, tO hth, h1, gf6]
    refine ifb (fun z => ?_) (fun z => ?_)
    · rw [z] at K; exact K
    rw [z, Bool.true_and] at K
    refine c_meets hth (at_ := 0) hf1 (by decide) (by decide) hb.at ?_
    rw [mt4_shz (T := T) (a := C.2.2.2.1) (c := fun _ => false) (fun r hr => by rw [← hf2 r hr]; exact bJ_congr hr (fun i _ => by rw [Nat.zero_add])) hT.1 (fun r _ => bJ_zero r)]
    simp only [isO_c, ax0, ex_cons, am_get, upz_at, true_and, and_true, Nat.reduceAdd, Nat.reduceLeDiff, Nat.reduceEqDiff, Nat.reduceSub, Int32.reduceOfInt, Int32.reduceAdd, Int32.reduceMul, Int32.reduceSub, ↓reduceIte, Int32.reduceLT, Int32.reduceLE, Int32.reduceToNatClampNeg, Nat.reduceMod, Nat.reduceLT, List.length_cons, List.length_nil, eq_self, true_or, or_true, and_self, implies_true, not_true_eq_false, not_false_eq_true, false_implies, true_implies, forall_const, st_aloadx, st_freturnx, st_getfieldx, st_gotox, st_goto_wx, st_iconstx, st_ifCondx, st_if_icmpx, st_in2, st_in4, st_ldcx, jx_Theory_canHold_48, kb_Theory_canHold_48, og_51_0, og_71_0, oo_47, oo_67, og_51_6, og_71_6, jx_Theory_canHold_85, kb_Theory_canHold_85, jx_Theory_canHold_86, kb_Theory_canHold_86, oa_47, oa_51, oa_67, oa_71, oa_53, oa_73]
    refine ifb (fun z4 => ?_) (fun z4 => ?_)
    · rw [z4] at K; exact K
    · rw [z4] at K; exact K
  · rw [ch_2 e hc (h3 e).2] at K
    simp only [isO_c, ax0, ex_cons, am_get, upz_at, true_and, and_true, Nat.reduceAdd, Nat.reduceLeDiff, Nat.reduceEqDiff, Nat.reduceSub, Int32.reduceOfInt, Int32.reduceAdd, Int32.reduceMul, Int32.reduceSub, ↓reduceIte, Int32.reduceLT, Int32.reduceLE, Int32.reduceToNatClampNeg, Nat.reduceMod, Nat.reduceLT, List.length_cons, List.length_nil, eq_self, true_or, or_true, and_self, implies_true, not_true_eq_false, not_false_eq_true, false_implies, true_implies, forall_const, st_aloadx, st_bipushx, st_getfieldx, st_gotox, st_goto_wx, st_iconstx, st_ifCondx, st_if_icmpx, st_iloadx, st_in2, st_in3, st_in4, st_ldcx, kb_Theory_canHold_0, og_51_0, og_71_0, og_51_6, og_71_6, oo_47, oo_67, oo_51, oo_71, og_51_7, og_71_7, jx_Theory_canHold_48, kb_Theory_canHold_48, jx_Theory_canHold_87, kb_Theory_canHold_87, oa_47, oa_51, oa_67, oa_71, oa_53, oa_54, oa_73, oa_74, cx_Theory_canHold, tO hth, h1, gf6, gf8, e, show nI 2 = (2 : Int32) from rfl]
    refine c_fitsWithout hth hT hb.sj ?_
    simp only [isO_c, ax0, ex_cons, am_get, upz_at, true_and, and_true, Nat.reduceAdd, Nat.reduceLeDiff, Nat.reduceEqDiff, Nat.reduceSub, Int32.reduceOfInt, Int32.reduceAdd, Int32.reduceMul, Int32.reduceSub, ↓reduceIte, Int32.reduceLT, Int32.reduceLE, Int32.reduceToNatClampNeg, Nat.reduceMod, Nat.reduceLT, List.length_cons, List.length_nil, eq_self, true_or, or_true, and_self, implies_true, not_true_eq_false, not_false_eq_true, false_implies, true_implies, forall_const, st_aloadx, st_bipushx, st_freturnx, st_gotox, st_goto_wx, st_iconstx, st_ifCondx, st_in2, st_in3, st_ldcx, jx_Theory_canHold_87, kb_Theory_canHold_87, oo_47, oo_67, jx_Theory_canHold_110, kb_Theory_canHold_110, jx_Theory_canHold_111, kb_Theory_canHold_111, oa_47, oa_67, tO hth]
    refine ifb (fun z => ?_) (fun z => ?_)
    · rw [z] at K; exact K
    · rw [z, Bool.true_and] at K
      refine c_canBePlaced hth hT hC0 e (q := C.2.2.2.1) (fun f hf r hr => by
        rw [← hf r hr]; exact bJ_xor0 f r) ?_
      simp only [isO_c, ax0, ex_cons, am_get, upz_at, true_and, and_true, Nat.reduceAdd, Nat.reduceLeDiff, Nat.reduceEqDiff, Nat.reduceSub, Int32.reduceOfInt, Int32.reduceAdd, Int32.reduceMul, Int32.reduceSub, ↓reduceIte, Int32.reduceLT, Int32.reduceLE, Int32.reduceToNatClampNeg, Nat.reduceMod, Nat.reduceLT, List.length_cons, List.length_nil, eq_self, true_or, or_true, and_self, implies_true, not_true_eq_false, not_false_eq_true, false_implies, true_implies, forall_const, st_aloadx, st_bipushx, st_freturnx, st_gotox, st_goto_wx, st_iconstx, st_ifCondx, st_in2, st_in3, st_ldcx, jx_Theory_canHold_87, kb_Theory_canHold_87, oo_47, oo_67, jx_Theory_canHold_110, kb_Theory_canHold_110, jx_Theory_canHold_111, kb_Theory_canHold_111, oa_47, oa_67]
      refine ifb (fun z2 => ?_) (fun z2 => ?_)
      · rw [z2] at K; exact K
      · rw [z2] at K; exact K
end CTJ
