/-! ===== the class: theories, what fits ===== -/
theorem isO_c {c : Nat} {fs : List Value} : am_isO c (aO c fs) = True := propext ⟨fun _ => trivial, fun _ => rfl⟩
theorem tO {h : am_H} {F : Nat → Nat → Int32} {J : Nat → Nat → Int64} {V : Nat → Nat → Value} {th : Nat} (hth : th = 47 ∨ th = 67) : (ov h F J V).1 th = aO 8 [.ref (th + 1), .ref (th + 2), .int (F th 2), .ref (th + 3), .int (F th 4)] := by
  rcases hth with e | e <;> subst e
  · exact oa_47
  · exact oa_67
theorem tJ1 {h : am_H} {F : Nat → Nat → Int32} {J : Nat → Nat → Int64} {V : Nat → Nat → Value} {th : Nat} (hth : th = 47 ∨ th = 67) : (ov h F J V).1 (th + 1) = aJ (am_ar 4 (J (th + 1))) := by
  rcases hth with e | e <;> subst e
  · exact oa_48
  · exact oa_68
theorem tJ2 {h : am_H} {F : Nat → Nat → Int32} {J : Nat → Nat → Int64} {V : Nat → Nat → Value} {th : Nat} (hth : th = 47 ∨ th = 67) : (ov h F J V).1 (th + 2) = aJ (am_ar 52 (J (th + 2))) := by
  rcases hth with e | e <;> subst e
  · exact oa_49
  · exact oa_69
theorem tJ3 {h : am_H} {F : Nat → Nat → Int32} {J : Nat → Nat → Int64} {V : Nat → Nat → Value} {th : Nat} (hth : th = 47 ∨ th = 67) : (ov h F J V).1 (th + 3) = aJ (am_ar 16 (J (th + 3))) := by
  rcases hth with e | e <;> subst e
  · exact oa_50
  · exact oa_70
theorem tS2 {h : am_H} {F : Nat → Nat → Int32} {J : Nat → Nat → Int64} {V : Nat → Nat → Value} {th : Nat} {x : Int32} (hth : th = 47 ∨ th = 67) : am_set (ov h F J V) th (aO 8 [.ref (th + 1), .ref (th + 2), .int x, .ref (th + 3), .int (F th 4)]) = ov h (upz F th (upz (F th) 2 x)) J V := by
  rcases hth with e | e <;> subst e
  · exact os_47 (f := upz (F 47) 2 x)
  · exact os_67 (f := upz (F 67) 2 x)
theorem tS4 {h : am_H} {F : Nat → Nat → Int32} {J : Nat → Nat → Int64} {V : Nat → Nat → Value} {th : Nat} {x : Int32} (hth : th = 47 ∨ th = 67) : am_set (ov h F J V) th (aO 8 [.ref (th + 1), .ref (th + 2), .int (F th 2), .ref (th + 3), .int x]) = ov h (upz F th (upz (F th) 4 x)) J V := by
  rcases hth with e | e <;> subst e
  · exact os_47 (f := upz (F 47) 4 x)
  · exact os_67 (f := upz (F 67) 4 x)
theorem tW1 {h : am_H} {F : Nat → Nat → Int32} {J : Nat → Nat → Int64} {V : Nat → Nat → Value} {th : Nat} {f : Nat → Int64} (hth : th = 47 ∨ th = 67) : am_set (ov h F J V) (th + 1) (aJ (am_ar 4 f)) = ov h F (upz J (th + 1) f) V := by
  rcases hth with e | e <;> subst e
  · exact os_48 (f := f)
  · exact os_68 (f := f)
theorem tW2 {h : am_H} {F : Nat → Nat → Int32} {J : Nat → Nat → Int64} {V : Nat → Nat → Value} {th : Nat} {f : Nat → Int64} (hth : th = 47 ∨ th = 67) : am_set (ov h F J V) (th + 2) (aJ (am_ar 52 f)) = ov h F (upz J (th + 2) f) V := by
  rcases hth with e | e <;> subst e
  · exact os_49 (f := f)
  · exact os_69 (f := f)
theorem tW3 {h : am_H} {F : Nat → Nat → Int32} {J : Nat → Nat → Int64} {V : Nat → Nat → Value} {th : Nat} {f : Nat → Int64} (hth : th = 47 ∨ th = 67) : am_set (ov h F J V) (th + 3) (aJ (am_ar 16 f)) = ov h F (upz J (th + 3) f) V := by
  rcases hth with e | e <;> subst e
  · exact os_50 (f := f)
  · exact os_70 (f := f)
theorem gf8 {v0 v1 v2 v3 v4 : Value} {K : Value → Prop} : am_gf 8 0 K (aO 8 [v0, v1, v2, v3, v4]) = K v0 ∧ am_gf 8 1 K (aO 8 [v0, v1, v2, v3, v4]) = K v1 ∧ am_gf 8 2 K (aO 8 [v0, v1, v2, v3, v4]) = K v2 ∧ am_gf 8 3 K (aO 8 [v0, v1, v2, v3, v4]) = K v3 ∧ am_gf 8 4 K (aO 8 [v0, v1, v2, v3, v4]) = K v4 ∧ am_isO 8 (aO 8 [v0, v1, v2, v3, v4]) = True := ⟨oq_t rfl, oq_t rfl, oq_t rfl, oq_t rfl, oq_t rfl, propext ⟨fun _ => trivial, fun _ => rfl⟩⟩
theorem pf8 {v0 v1 v2 v3 v4 x : Value} {K : am_E → Prop} : am_pf 8 2 x K (aO 8 [v0, v1, v2, v3, v4]) = K (aO 8 [v0, v1, x, v3, v4]) ∧ am_pf 8 4 x K (aO 8 [v0, v1, v2, v3, v4]) = K (aO 8 [v0, v1, v2, v3, x]) := by
  refine ⟨?_, ?_⟩
  · show (8 = 8 ∧ 2 < 5 ∧ _) = _
    exact propext ⟨fun z => z.2.2, fun z => ⟨rfl, by decide, z⟩⟩
  · show (8 = 8 ∧ 4 < 5 ∧ _) = _
    exact propext ⟨fun z => z.2.2, fun z => ⟨rfl, by decide, z⟩⟩
/-- whether there is a world with nothing in some regions besides -/
def fw (T : tT) (bes : Nat → Bool) : Bool := !qz T bes
/-- the row of no regions -/
def HB (h : am_H) : Prop := h.1 2 = aJ (am_ar 4 (fun _ => 0))
theorem HB.at {h : am_H} (hb : HB h) {F : Nat → Nat → Int32} {J : Nat → Nat → Int64} {V : Nat → Nat → Value} : (ov h F J V).1 2 = aJ (am_ar 4 (fun _ => 0)) := by rw [ov_hi (by omega)]; exact hb
theorem mt4_shz {T : tT} {f fr g : Nat → Int64} {a c : Nat → Bool} (ha : ∀ r, r < 256 → bJ f r = a r) (hb : ∀ r, r < 256 → bJ fr r = !T.1 r) (hc : ∀ r, r < 256 → bJ g r = c r) : mt4 f fr g = !shz T a c := mt4_al ha hb hc
section CTI
variable {d th : Nat} {h : am_H} {F : Nat → Nat → Int32} {J : Nat → Nat → Int64} {V : Nat → Nat → Value} {Q : am_Q}
set_option maxRecDepth 20000 in
theorem c_fitsWithout (hth : th = 47 ∨ th = 67) {T : tT} {P : Nat} (hT : TT F J th T P) {b : Nat} {bes : Nat → Bool} (hb : SJ (ov h F J V) b bes) (K : Q (some (.int (b2i (fw T bes)))) (ov h F J V)) : am_cl (d + 2) 146 [.ref th, .ref b] (ov h F J V) Q := by
  obtain ⟨g, hg, hg2⟩ := hb
  obtain ⟨t1, t2, t3, t4, t5, t6, t7, t8⟩ := hT
  unfold fw qz at K
  rw [li_any (fun _ => false)] at K
  simp only [isO_c, ax0, ex_cons, am_get, upz_at, true_and, and_true, Nat.reduceAdd, Nat.reduceLeDiff, Nat.reduceEqDiff, Nat.reduceSub, Int32.reduceOfInt, Int32.reduceAdd, Int32.reduceMul, Int32.reduceSub, ↓reduceIte, Int32.reduceLT, Int32.reduceLE, Int32.reduceToNatClampNeg, Nat.reduceMod, Nat.reduceLT, List.length_cons, List.length_nil, eq_self, true_or, or_true, and_self, implies_true, not_true_eq_false, not_false_eq_true, false_implies, true_implies, forall_const, st_goto_wx, st_iconstx, st_istorex, am_put, am_nlg, kb_Theory_fitsWithout_0, cx_Theory_fitsWithout]
  refine am_iter T.2.1.length (fun k => [.ref th, .ref b, .int (nI k)]) (fun _ => ov h F J V) (fun k => ∀ i, i < k → shz T (T.2.1.getD i (fun _ => false)) bes = false) (fun k hk hI go => ?_) (fun hI => ?_) 0 (by omega) (fun i hi => absurd hi (Nat.not_lt_zero i))
  · rw [jx_Theory_fitsWithout_2]
    simp only [isO_c, ax0, ex_cons, am_get, upz_at, true_and, and_true, Nat.reduceAdd, Nat.reduceLeDiff, Nat.reduceEqDiff, Nat.reduceSub, Int32.reduceOfInt, Int32.reduceAdd, Int32.reduceMul, Int32.reduceSub, ↓reduceIte, Int32.reduceLT, Int32.reduceLE, Int32.reduceToNatClampNeg, Nat.reduceMod, Nat.reduceLT, List.length_cons, List.length_nil, eq_self, true_or, or_true, and_self, implies_true, not_true_eq_false, not_false_eq_true, false_implies, true_implies, forall_const, st_aloadx, st_freturnx, st_getfieldx, st_iconstx, st_ifCondx, st_if_icmpx, st_iloadx, st_imulx, st_in4, kb_Theory_fitsWithout_2, og_47_2, og_67_2, og_47_1, og_67_1, oo_47, oo_67, oa_47, oa_67, oa_49, oa_69, tO hth, gf8, t2, (nk_le (by omega) (by omega) : (nI (T.2.1.length) ≤ nI (k)) = (T.2.1.length ≤ k)), show ¬ T.2.1.length ≤ k by omega, show nI k * (4 : Int32) = nI (k * 4) from nk_mul k 4]
    refine c_meets hth (tJ2 hth) (at_ := k * 4) (by omega) (by decide) hg ?_
    rw [mt4_shz (T := T) (a := T.2.1.getD k (fun _ => false)) (c := bes) (fun r hr => by rw [← t4 k hk r hr]; exact bJ_congr hr (fun i hi => by rw [Nat.mul_comm])) t1 hg2]
    simp only [isO_c, ax0, ex_cons, am_get, upz_at, true_and, and_true, Nat.reduceAdd, Nat.reduceLeDiff, Nat.reduceEqDiff, Nat.reduceSub, Int32.reduceOfInt, Int32.reduceAdd, Int32.reduceMul, Int32.reduceSub, ↓reduceIte, Int32.reduceLT, Int32.reduceLE, Int32.reduceToNatClampNeg, Nat.reduceMod, Nat.reduceLT, List.length_cons, List.length_nil, eq_self, true_or, or_true, and_self, implies_true, not_true_eq_false, not_false_eq_true, false_implies, true_implies, forall_const, st_aloadx, st_freturnx, st_getfieldx, st_gotox, st_iconstx, st_ifCondx, st_if_icmpx, st_iincx, st_iloadx, st_imulx, st_in4, am_put, am_nlg, kb_Theory_fitsWithout_2, og_47_2, og_67_2, og_47_1, og_67_1, oo_47, oo_67, jx_Theory_fitsWithout_27, kb_Theory_fitsWithout_27, oa_47, oa_67, oa_49, oa_69, nk_succ]
    refine ifnb (fun e => ?_) (fun e => ?_)
    · refine go (fun i hi => ?_)
      by_cases q : i = k
      · subst q; rw [Bool.not_eq_true'] at e; exact e
      · exact hI i (by omega)
    · rw [Bool.not_eq_false'] at e
      rw [rg_any.mpr ⟨k, hk, e⟩] at K
      exact K
  · rw [jx_Theory_fitsWithout_2]
    simp only [isO_c, ax0, ex_cons, am_get, upz_at, true_and, and_true, Nat.reduceAdd, Nat.reduceLeDiff, Nat.reduceEqDiff, Nat.reduceSub, Int32.reduceOfInt, Int32.reduceAdd, Int32.reduceMul, Int32.reduceSub, ↓reduceIte, Int32.reduceLT, Int32.reduceLE, Int32.reduceToNatClampNeg, Nat.reduceMod, Nat.reduceLT, List.length_cons, List.length_nil, eq_self, true_or, or_true, and_self, implies_true, not_true_eq_false, not_false_eq_true, false_implies, true_implies, forall_const, st_aloadx, st_freturnx, st_getfieldx, st_goto_wx, st_iconstx, st_ifCondx, st_if_icmpx, st_iloadx, st_imulx, st_in4, st_istorex, am_put, am_nlg, kb_Theory_fitsWithout_2, og_47_2, og_67_2, og_47_1, og_67_1, oo_47, oo_67, jx_Theory_fitsWithout_33, kb_Theory_fitsWithout_33, oa_47, oa_67, oa_49, oa_69, tO hth, gf8, t2, (nk_le (by omega) (by omega) : (nI (T.2.1.length) ≤ nI (T.2.1.length)) = (T.2.1.length ≤ T.2.1.length)), Nat.le_refl]
    rw [rg_anyf hI, Bool.false_or] at K
    refine am_iter 4 (fun k => [.ref th, .ref b, .int (nI k)]) (fun _ => ov h F J V) (fun k => ∀ i, i < k → shz T (T.2.2 i) bes = false) (fun k hk hI2 go => ?_) (fun hI2 => ?_) 0 (by omega) (fun i hi => absurd hi (Nat.not_lt_zero i))
    · rw [jx_Theory_fitsWithout_35]
      simp only [isO_c, ax0, ex_cons, am_get, upz_at, true_and, and_true, Nat.reduceAdd, Nat.reduceLeDiff, Nat.reduceEqDiff, Nat.reduceSub, Int32.reduceOfInt, Int32.reduceAdd, Int32.reduceMul, Int32.reduceSub, ↓reduceIte, Int32.reduceLT, Int32.reduceLE, Int32.reduceToNatClampNeg, Nat.reduceMod, Nat.reduceLT, List.length_cons, List.length_nil, eq_self, true_or, or_true, and_self, implies_true, not_true_eq_false, not_false_eq_true, false_implies, true_implies, forall_const, st_aloadx, st_freturnx, st_getfieldx, st_iconstx, st_ifCondx, st_if_icmpx, st_iloadx, st_imulx, st_in4, kb_Theory_fitsWithout_35, og_47_3, og_67_3, oo_47, oo_67, oa_47, oa_67, oa_50, oa_70, tO hth, gf8, show ((4 : Int32) ≤ nI (k)) = (4 ≤ k) from nk_le (a := 4) (b := k) (by omega) (by omega), show ¬ 4 ≤ k by omega, show nI k * (4 : Int32) = nI (k * 4) from nk_mul k 4]
      refine c_meets hth (tJ3 hth) (at_ := k * 4) (by omega) (by decide) hg ?_
      rw [mt4_shz (T := T) (a := T.2.2 k) (c := bes) (fun r hr => by rw [← t5 k hk r hr]; exact bJ_congr hr (fun i hi => by rw [Nat.mul_comm])) t1 hg2]
      simp only [isO_c, ax0, ex_cons, am_get, upz_at, true_and, and_true, Nat.reduceAdd, Nat.reduceLeDiff, Nat.reduceEqDiff, Nat.reduceSub, Int32.reduceOfInt, Int32.reduceAdd, Int32.reduceMul, Int32.reduceSub, ↓reduceIte, Int32.reduceLT, Int32.reduceLE, Int32.reduceToNatClampNeg, Nat.reduceMod, Nat.reduceLT, List.length_cons, List.length_nil, eq_self, true_or, or_true, and_self, implies_true, not_true_eq_false, not_false_eq_true, false_implies, true_implies, forall_const, st_aloadx, st_freturnx, st_getfieldx, st_gotox, st_iconstx, st_ifCondx, st_if_icmpx, st_iincx, st_iloadx, st_imulx, st_in4, am_put, am_nlg, kb_Theory_fitsWithout_35, og_47_3, og_67_3, oo_47, oo_67, jx_Theory_fitsWithout_57, kb_Theory_fitsWithout_57, oa_47, oa_67, oa_50, oa_70, nk_succ]
      refine ifnb (fun e => ?_) (fun e => ?_)
      · refine go (fun i hi => ?_)
        by_cases q : i = k
        · subst q; rw [Bool.not_eq_true'] at e; exact e
        · exact hI2 i (by omega)
      · rw [Bool.not_eq_false'] at e
        rw [rg_any.mpr ⟨k, hk, e⟩] at K
        exact K
    · rw [jx_Theory_fitsWithout_35]
      simp only [isO_c, ax0, ex_cons, am_get, upz_at, true_and, and_true, Nat.reduceAdd, Nat.reduceLeDiff, Nat.reduceEqDiff, Nat.reduceSub, Int32.reduceOfInt, Int32.reduceAdd, Int32.reduceMul, Int32.reduceSub, ↓reduceIte, Int32.reduceLT, Int32.reduceLE, Int32.reduceToNatClampNeg, Nat.reduceMod, Nat.reduceLT, List.length_cons, List.length_nil, eq_self, true_or, or_true, and_self, implies_true, not_true_eq_false, not_false_eq_true, false_implies, true_implies, forall_const, st_aloadx, st_freturnx, st_getfieldx, st_iconstx, st_ifCondx, st_if_icmpx, st_iloadx, st_imulx, st_in4, kb_Theory_fitsWithout_35, og_47_3, og_67_3, oo_47, oo_67, jx_Theory_fitsWithout_63, kb_Theory_fitsWithout_63, oa_47, oa_67, oa_50, oa_70, show ((4 : Int32) ≤ nI (4)) = (4 ≤ 4) from nk_le (a := 4) (b := 4) (by omega) (by omega)]
      rw [rg_anyf hI2] at K
      exact K
theorem HB.sj {h : am_H} (hb : HB h) {F : Nat → Nat → Int32} {J : Nat → Nat → Int64} {V : Nat → Nat → Value} : SJ (ov h F J V) 2 (fun _ => false) := ⟨fun _ => 0, hb.at, fun r _ => bJ_zero r⟩
set_option maxRecDepth 20000 in
theorem c_fits (hth : th = 47 ∨ th = 67) (hb : HB h) {T : tT} {P : Nat} (hT : TT F J th T P) (K : Q (some (.int (b2i (fw T (fun _ => false))))) (ov h F J V)) : am_cl (d + 3) 145 [.ref th] (ov h F J V) Q := by
  simp only [isO_c, ax0, ex_cons, am_get, upz_at, true_and, and_true, Nat.reduceAdd, Nat.reduceLeDiff, Nat.reduceEqDiff, Nat.reduceSub, Int32.reduceOfInt, Int32.reduceAdd, Int32.reduceMul, Int32.reduceSub, ↓reduceIte, Int32.reduceLT, Int32.reduceLE, Int32.reduceToNatClampNeg, Nat.reduceMod, Nat.reduceLT, List.length_cons, List.length_nil, eq_self, true_or, or_true, and_self, implies_true, not_true_eq_false, not_false_eq_true, false_implies, true_implies, forall_const, st_aloadx, st_freturnx, st_in2, st_ldcx, kb_Theory_fits_0, oo_47, oo_67, oa_47, oa_67, cx_Theory_fits, tO hth, gf8]
  refine c_fitsWithout hth hT hb.sj ?_
  simp only [isO_c, ax0, ex_cons, am_get, upz_at, true_and, and_true, Nat.reduceAdd, Nat.reduceLeDiff, Nat.reduceEqDiff, Nat.reduceSub, Int32.reduceOfInt, Int32.reduceAdd, Int32.reduceMul, Int32.reduceSub, ↓reduceIte, Int32.reduceLT, Int32.reduceLE, Int32.reduceToNatClampNeg, Nat.reduceMod, Nat.reduceLT, List.length_cons, List.length_nil, eq_self, true_or, or_true, and_self, implies_true, not_true_eq_false, not_false_eq_true, false_implies, true_implies, forall_const, st_aloadx, st_freturnx, st_in2, st_ldcx, kb_Theory_fits_0, oo_47, oo_67, oa_47, oa_67, b2i_01]
  exact K
set_option maxRecDepth 20000 in
theorem c_tellsSubject {hp : am_H} {s : Nat} {C : cT} (hC : CL hp s C) {ex : Bool} (K : Q (some (.int (b2i (ex && C.2.1)))) hp) : am_cl (d + 1) 128 [.ref s, .int (b2i ex)] hp Q := by
  obtain ⟨be, m, sk, pk, a, b, c, h1, _⟩ := hC
  simp only [isO_c, ax0, ex_cons, am_get, upz_at, true_and, and_true, Nat.reduceAdd, Nat.reduceLeDiff, Nat.reduceEqDiff, Nat.reduceSub, Int32.reduceOfInt, Int32.reduceAdd, Int32.reduceMul, Int32.reduceSub, ↓reduceIte, Int32.reduceLT, Int32.reduceLE, Int32.reduceToNatClampNeg, Nat.reduceMod, Nat.reduceLT, List.length_cons, List.length_nil, eq_self, true_or, or_true, and_self, implies_true, not_true_eq_false, not_false_eq_true, false_implies, true_implies, forall_const, st_aloadx, st_freturnx, st_getfieldx, st_gotox, st_goto_wx, st_iconstx, st_ifCondx, st_iloadx, kb_Sentence_tellsSubject_0, og_51_2, og_71_2, jx_Sentence_tellsSubject_15, kb_Sentence_tellsSubject_15, jx_Sentence_tellsSubject_16, kb_Sentence_tellsSubject_16, oa_51, oa_71, cx_Sentence_tellsSubject, h1, gf6]
  refine ifb (fun e => ?_) (fun e => ?_)
  · rw [e] at K; exact K
  · rw [e, Bool.true_and] at K
    refine ifb (fun e2 => ?_) (fun e2 => ?_)
    · rw [e2] at K; exact K
    · rw [e2] at K; exact K
set_option maxRecDepth 20000 in
theorem c_placeWord (hth : th = 47 ∨ th = 67) {n w : Nat} (hn : n < 4) (hw : w < 4) (K : Q (some (.long (J (th + 3) (n * 4 + w) &&& J (th + 1) w))) (ov h F J V)) : am_cl (d + 1) 151 [.ref th, .int (nI n), .int (nI w)] (ov h F J V) Q := by
  simp only [isO_c, ax0, ex_cons, am_get, upz_at, true_and, and_true, Nat.reduceAdd, Nat.reduceLeDiff, Nat.reduceEqDiff, Nat.reduceSub, Int32.reduceOfInt, Int32.reduceAdd, Int32.reduceMul, Int32.reduceSub, ↓reduceIte, Int32.reduceLT, Int32.reduceLE, Int32.reduceToNatClampNeg, Nat.reduceMod, Nat.reduceLT, List.length_cons, List.length_nil, eq_self, true_or, or_true, and_self, implies_true, not_true_eq_false, not_false_eq_true, false_implies, true_implies, forall_const, st_aloadx, st_getfieldx, st_goto_wx, st_iaddx, st_iconstx, st_ifCondx, st_if_icmpx, st_iloadx, st_imulx, st_laloadx, st_landx, st_lreturnx, kb_Theory_placeWord_0, jx_Theory_placeWord_20, kb_Theory_placeWord_20, og_47_3, og_67_3, og_47_0, og_67_0, oa_47, oa_67, oa_48, or_48, oa_50, or_50, oa_68, or_68, oa_70, or_70, cx_Theory_placeWord, tO hth, gf8, nk_neg (show n < 2147483648 by omega), nk_cl (show n < 2147483648 by omega), nk_neg (show w < 2147483648 by omega), nk_cl (show w < 2147483648 by omega), nk_neg (show n * 4 + w < 2147483648 by omega), nk_cl (show n * 4 + w < 2147483648 by omega), show ((4 : Int32) ≤ nI (n)) = (4 ≤ n) from nk_le (a := 4) (b := n) (by omega) (by omega), show ((4 : Int32) ≤ nI (w)) = (4 ≤ w) from nk_le (a := 4) (b := w) (by omega) (by omega), show ¬ 4 ≤ n by omega, show (nI w < (4 : Int32)) = (w < 4) from nk_lt (b := 4) (by omega) (by decide), hw, show nI n * (4 : Int32) = nI (n * 4) from nk_mul n 4, show nI (n * 4) + nI w = nI (n * 4 + w) from nk_add _ _, tJ1 hth, tJ3 hth, oq_rJ, show n * 4 + w < 16 by omega]
  exact K
end CTI
