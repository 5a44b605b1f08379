/-! ===== the class: placing, granting, denying ===== -/
section CTL
variable {d th : Nat} {h : am_H} {F : Nat → Nat → Int32} {J : Nat → Nat → Int64} {V : Nat → Nat → Value} {Q : am_Q}
theorem pl_bit {P w : Nat} (hP : P < 16) (hw : w < 4) : P ||| 2 ^ w < 16 := Nat.or_lt_two_pow (n := 4) hP (Nat.pow_lt_pow_right (by decide) hw)
set_option maxRecDepth 20000 in
theorem c_place (hth : th = 47 ∨ th = 67) {T : tT} {P : Nat} (hT : TT F J th T P) {w : Nat} (hw : w < 4) {a : Nat} {set : Nat → Bool} (ha : SJ (ov h F J V) a set) (hna : ¬ isTh a) {turn : Int64} {so : Bool} (hso : ∀ f : Nat → Int64, (∀ r, r < 256 → bJ f r = set r) → ∀ r, r < 256 → bJ (fun k => f k ^^^ turn) r = if so then set r else !set r) (K : ∀ F' J', TT F' J' th (tz T 2 set w so) (P ||| 2 ^ w) → Tth th F F' J J' → Q none (ov h F' J' V)) : am_cl (d + 1) 144 [.ref th, .int (nI w), .ref a, .long turn] (ov h F J V) Q := by
  obtain ⟨f, hf1, hf2⟩ := ha
  obtain ⟨t1, t2, t3, t4, t5, t6, t7, t8⟩ := hT
  have hna2 : ¬ ((47 ≤ a ∧ a ≤ 50) ∨ (67 ≤ a ∧ a ≤ 70)) := hna
  simp only [isO_c, ax0, ex_cons, am_get, upz_at, true_and, and_true, Nat.reduceAdd, Nat.reduceLeDiff, Nat.reduceEqDiff, Nat.reduceSub, Int32.reduceOfInt, Int32.reduceAdd, Int32.reduceMul, Int32.reduceSub, ↓reduceIte, Int32.reduceLT, Int32.reduceLE, Int32.reduceToNatClampNeg, Nat.reduceMod, Nat.reduceLT, List.length_cons, List.length_nil, eq_self, true_or, or_true, and_self, implies_true, not_true_eq_false, not_false_eq_true, false_implies, true_implies, forall_const, st_aloadx, st_dupx, st_dup_1x, st_getfieldx, st_goto_wx, st_iconstx, st_ifCondx, st_if_icmpx, st_iloadx, st_iorx, st_ishlx, st_istorex, st_putfieldx, am_put, am_nlg, kb_Theory_place_0, og_47_4, og_67_4, op_47_4, op_67_4, oa_47, oa_67, os_47, os_67, cx_Theory_place, tO hth, gf8, pf8, nk_neg (show w < 2147483648 by omega), nk_cl (show w < 2147483648 by omega), show ((4 : Int32) ≤ nI (w)) = (4 ≤ w) from nk_le (a := 4) (b := w) (by omega) (by omega), show ¬ 4 ≤ w by omega, t6, nk_1shl (show w < 32 by omega), nk_or, show 23 ≤ th by omega, tS hth]
  generalize eF : upz F th (upz (upz (F th) 2 (F th 2)) 4 (nI (P ||| 2 ^ w))) = F1
  have g2 : F1 th 2 = nI T.2.1.length := by rw [← eF, upz_eq, upz_ne _ _ (by decide), upz_eq]; exact t2
  have g4 : F1 th 4 = nI (P ||| 2 ^ w) := by rw [← eF, upz_eq, upz_eq]
  have gT : Tth th F F1 J J := by
    rw [← eF]
    exact ⟨fun x hx => upz_ne _ _ hx, fun i h1 h2 => by rw [upz_eq, upz_ne _ _ h2, upz_ne _ _ h1], fun _ _ _ _ => rfl⟩
  clear eF
  have hget : ∀ g, (ov h F1 (upz J (th + 3) g) V).1 a = aJ (am_ar 4 f) := fun g => by
    rw [← hf1]
    exact (Tth.eth hth (gT.tr ⟨fun _ _ => rfl, fun _ _ _ => rfl, fun x _ _ h3 => upz_ne _ _ h3⟩)) a hna
  have e0 : ov h F1 J V = ov h F1 (upz J (th + 3) (ovr (J (th + 3)) (fun i => J (th + 3) i &&& (f (i - w * 4) ^^^ turn)) (w * 4) 0)) V := by rw [ovr_0, upz_self]
  rw [e0]
  refine am_iter 4 (fun k => [.ref th, .int (nI w), .ref a, .long turn, am_dum, .int (nI k)]) (fun k => ov h F1 (upz J (th + 3) (ovr (J (th + 3)) (fun i => J (th + 3) i &&& (f (i - w * 4) ^^^ turn)) (w * 4) k)) V) (fun _ => True) (fun k hk hI go => ?_) (fun hI => ?_) 0 (by omega) trivial
  · rw [jx_Theory_place_24]
    have go := go trivial
    have ee := ovr_S (J (th + 3)) (fun i => J (th + 3) i &&& (f (i - w * 4) ^^^ turn)) (w * 4) k rfl
    rw [← ee, show w * 4 + k - w * 4 = k by omega] at go
    simp only [isO_c, ax0, ex_cons, am_get, upz_at, true_and, and_true, Nat.reduceAdd, Nat.reduceLeDiff, Nat.reduceEqDiff, Nat.reduceSub, Int32.reduceOfInt, Int32.reduceAdd, Int32.reduceMul, Int32.reduceSub, ↓reduceIte, Int32.reduceLT, Int32.reduceLE, Int32.reduceToNatClampNeg, Nat.reduceMod, Nat.reduceLT, List.length_cons, List.length_nil, eq_self, true_or, or_true, and_self, implies_true, not_true_eq_false, not_false_eq_true, false_implies, true_implies, forall_const, st_aloadx, st_dup2x, st_dup2_1x, st_getfieldx, st_gotox, st_iaddx, st_iconstx, st_if_icmpx, st_iincx, st_iloadx, st_imulx, st_laloadx, st_landx, st_lastorex, st_lloadx, st_lxorx, am_put, am_nlg, kb_Theory_place_24, og_47_3, og_67_3, oa_47, oa_67, oa_50, or_50, ow_50, os_50, oa_70, or_70, ow_70, os_70, show ((4 : Int32) ≤ nI (k)) = (4 ≤ k) from nk_le (a := 4) (b := k) (by omega) (by omega), show ¬ 4 ≤ k by omega, tO hth, gf8, show nI w * (4 : Int32) = nI (w * 4) from nk_mul w 4, show nI (w * 4) + nI k = nI (w * 4 + k) from nk_add _ _, tJ3 hth, hget, oq_rJ, oq_wJ, nk_neg (show w * 4 + k < 2147483648 by omega), nk_cl (show w * 4 + k < 2147483648 by omega), nk_neg (show k < 2147483648 by omega), nk_cl (show k < 2147483648 by omega), show w * 4 + k < 16 by omega, hk, show 23 ≤ th + 3 by omega, tW3 hth, upz_eq, upz_upd, nk_succ, ovr_out (show ¬ (w * 4 ≤ w * 4 + k ∧ w * 4 + k < w * 4 + k) by omega)]
    exact go
  · rw [jx_Theory_place_24]
    simp only [isO_c, ax0, ex_cons, am_get, upz_at, true_and, and_true, Nat.reduceAdd, Nat.reduceLeDiff, Nat.reduceEqDiff, Nat.reduceSub, Int32.reduceOfInt, Int32.reduceAdd, Int32.reduceMul, Int32.reduceSub, ↓reduceIte, Int32.reduceLT, Int32.reduceLE, Int32.reduceToNatClampNeg, Nat.reduceMod, Nat.reduceLT, List.length_cons, List.length_nil, eq_self, true_or, or_true, and_self, implies_true, not_true_eq_false, not_false_eq_true, false_implies, true_implies, forall_const, st_aloadx, st_dup2x, st_dup2_1x, st_getfieldx, st_gotox, st_iaddx, st_iconstx, st_if_icmpx, st_iincx, st_iloadx, st_imulx, st_laloadx, st_landx, st_lastorex, st_lloadx, st_lxorx, st_return_x, am_put, am_nlg, kb_Theory_place_24, og_47_3, og_67_3, jx_Theory_place_56, kb_Theory_place_56, oa_47, oa_67, oa_50, or_50, ow_50, os_50, oa_70, or_70, ow_70, os_70, show ((4 : Int32) ≤ nI (4)) = (4 ≤ 4) from nk_le (a := 4) (b := 4) (by omega) (by omega)]
    refine K _ _ ?_ ?_
    · refine ⟨fun r hr => ?_, g2, t3, fun i hi r hr => ?_, fun n hn r hr => ?_, g4, pl_bit t7 hw, fun n hn hb r hr => ?_⟩
      · rw [upz_ne _ _ (by omega)]; exact t1 r hr
      · rw [upz_ne _ _ (by omega)]; exact t4 i hi r hr
      · rw [upz_eq]
        show _ = if n = w then T.2.2 n r && (if so then set r else !set r) else T.2.2 n r
        by_cases e : n = w
        · subst e
          rw [if_pos rfl]
          refine bJ_at (y := fun k => J (th + 3) (4 * n + k) &&& (f k ^^^ turn)) hr (fun k hk => ?_) ?_
          · rw [ovr_in (by omega) (by omega), show 4 * n + k - n * 4 = k by omega]
          · rw [bJ_and (fun k => J (th + 3) (4 * n + k)) (fun k => f k ^^^ turn), t5 n hn r hr, hso f hf2 r hr]
        · rw [if_neg e]
          exact bJ_at hr (fun k hk => ovr_out (by omega)) (t5 n hn r hr)
      · show (if n = w then T.2.2 n r && (if so then set r else !set r) else T.2.2 n r) = true
        rw [Nat.testBit_or, Bool.or_eq_false_iff] at hb
        by_cases e : n = w
        · subst e
          rw [Nat.testBit_two_pow_self] at hb
          exact absurd hb.2 (by decide)
        · rw [if_neg e]; exact t8 n hn hb.1 r hr
    · exact gT.tr ⟨fun _ _ => rfl, fun _ _ _ => rfl, fun x _ _ h3 => upz_ne _ _ h3⟩
def plC (P : Nat) (C : cT) : Nat := if C.1 = 2 then P ||| 2 ^ C.2.2.1 else P
set_option maxRecDepth 20000 in
theorem c_grantClaim (hth : th = 47 ∨ th = 67) {T : tT} {P : Nat} (hT : TT F J th T P) (hl : T.2.1.length < 13) {s : Nat} {C : cT} (hC : CL (ov h F J V) s C) (hc : cOk C) {ex : Bool} (K : ∀ F' J', TT F' J' th (tellz T C ex) (plC P C) → Tth th F F' J J' → Q none (ov h F' J' V)) : am_cl (d + 2) 140 [.ref th, .ref s, .int (b2i ex)] (ov h F J V) Q := by
  have hC0 := hC
  obtain ⟨be, m, sk, pk, a, b, c, h1, hle, h3, hs, ⟨fb, hfb1, hfb2⟩, n1, n2, n3, n4, n5⟩ := hC
  rcases (show C.1 = 0 ∨ C.1 = 1 ∨ C.1 = 2 by omega) with e | e | e
  · rw [show plC P C = P from if_neg (by omega)] at K
    unfold tellz at K
    simp only [isO_c, ax0, ex_cons, am_get, upz_at, true_and, and_true, Nat.reduceAdd, Nat.reduceLeDiff, Nat.reduceEqDiff, Nat.reduceSub, Int32.reduceOfInt, Int32.reduceAdd, Int32.reduceMul, Int32.reduceSub, ↓reduceIte, Int32.reduceLT, Int32.reduceLE, Int32.reduceToNatClampNeg, Nat.reduceMod, Nat.reduceLT, List.length_cons, List.length_nil, eq_self, true_or, or_true, and_self, implies_true, not_true_eq_false, not_false_eq_true, false_implies, true_implies, forall_const, st_aloadx, st_getfieldx, st_gotox, st_ifCondx, st_iloadx, st_in2, kb_Theory_grantClaim_0, og_51_0, og_71_0, og_51_6, og_71_6, oo_47, oo_67, oo_51, oo_71, og_51_7, og_71_7, oa_47, oa_51, oa_67, oa_71, oa_53, oa_54, oa_73, oa_74, cx_Theory_grantClaim, tO hth, h1, gf6, e, show nI 0 = (0 : Int32) from rfl]
    refine c_bar hth hT hs n2 (fun J1 t1 q1 => ?_)
    have hC1 := hC0.eth (Tth.eth hth q1)
    have h11 : (ov h F J1 V).1 s = aO 6 [.int (nI C.1), .int be, .int (b2i C.2.1), .int m, .int sk, .int pk, .ref a, .ref b, .ref c] := by rw [(Tth.eth hth q1) s n1]; exact h1
    simp only [isO_c, ax0, ex_cons, am_get, upz_at, true_and, and_true, Nat.reduceAdd, Nat.reduceLeDiff, Nat.reduceEqDiff, Nat.reduceSub, Int32.reduceOfInt, Int32.reduceAdd, Int32.reduceMul, Int32.reduceSub, ↓reduceIte, Int32.reduceLT, Int32.reduceLE, Int32.reduceToNatClampNeg, Nat.reduceMod, Nat.reduceLT, List.length_cons, List.length_nil, eq_self, true_or, or_true, and_self, implies_true, not_true_eq_false, not_false_eq_true, false_implies, true_implies, forall_const, st_aloadx, st_getfieldx, st_gotox, st_ifCondx, st_iloadx, st_in2, kb_Theory_grantClaim_0, og_51_0, og_71_0, og_51_6, og_71_6, oo_47, oo_67, oo_51, oo_71, og_51_7, og_71_7, oa_47, oa_51, oa_67, oa_71, oa_53, oa_54, oa_73, oa_74, h11, gf6]
    refine c_tellsSubject hC1 ?_
    simp only [isO_c, ax0, ex_cons, am_get, upz_at, true_and, and_true, Nat.reduceAdd, Nat.reduceLeDiff, Nat.reduceEqDiff, Nat.reduceSub, Int32.reduceOfInt, Int32.reduceAdd, Int32.reduceMul, Int32.reduceSub, ↓reduceIte, Int32.reduceLT, Int32.reduceLE, Int32.reduceToNatClampNeg, Nat.reduceMod, Nat.reduceLT, List.length_cons, List.length_nil, eq_self, true_or, or_true, and_self, implies_true, not_true_eq_false, not_false_eq_true, false_implies, true_implies, forall_const, st_aloadx, st_getfieldx, st_gotox, st_ifCondx, st_iloadx, st_in2, st_return_x, kb_Theory_grantClaim_0, og_51_0, og_71_0, og_51_6, og_71_6, oo_47, oo_67, oo_51, oo_71, og_51_7, og_71_7, jx_Theory_grantClaim_66, kb_Theory_grantClaim_66, oa_47, oa_51, oa_67, oa_71, oa_53, oa_54, oa_73, oa_74, tO hth, h11, gf6]
    rw [e] at K
    have e0 : tz T 0 C.2.2.2.1 C.2.2.1 true = (fun r => T.1 r || C.2.2.2.1 r, T.2.1, T.2.2) := rfl
    rw [e0] at K
    refine ifb (fun z => ?_) (fun z => ?_)
    · rw [z, if_neg Bool.false_ne_true] at K
      exact K F J1 t1 q1
    · rw [z, if_pos rfl] at K
      have z3 : C.2.1 = true := by rw [Bool.and_eq_true] at z; exact z.2
      refine c_want hth t1 hl (set := C.2.2.2.2) ⟨fb, by rw [(Tth.eth hth q1) b n3]; exact hfb1, hfb2 z3⟩ n3 n5 (fun F2 J2 t2 q2 => ?_)
      simp only [isO_c, ax0, ex_cons, am_get, upz_at, true_and, and_true, Nat.reduceAdd, Nat.reduceLeDiff, Nat.reduceEqDiff, Nat.reduceSub, Int32.reduceOfInt, Int32.reduceAdd, Int32.reduceMul, Int32.reduceSub, ↓reduceIte, Int32.reduceLT, Int32.reduceLE, Int32.reduceToNatClampNeg, Nat.reduceMod, Nat.reduceLT, List.length_cons, List.length_nil, eq_self, true_or, or_true, and_self, implies_true, not_true_eq_false, not_false_eq_true, false_implies, true_implies, forall_const, st_aloadx, st_getfieldx, st_gotox, st_ifCondx, st_iloadx, st_in2, st_return_x, kb_Theory_grantClaim_0, og_51_0, og_71_0, og_51_6, og_71_6, oo_47, oo_67, oo_51, oo_71, og_51_7, og_71_7, jx_Theory_grantClaim_66, kb_Theory_grantClaim_66, oa_47, oa_51, oa_67, oa_71, oa_53, oa_54, oa_73, oa_74]
      exact K F2 J2 t2 (q1.tr q2)
  · rw [show plC P C = P from if_neg (by omega)] at K
    unfold tellz at K
    have h2 : C.2.1 = false := by
      cases e2 : C.2.1
      · rfl
      · have := hc e2; omega
    rw [h2, Bool.and_false, if_neg Bool.false_ne_true, e] at K
    simp only [isO_c, ax0, ex_cons, am_get, upz_at, true_and, and_true, Nat.reduceAdd, Nat.reduceLeDiff, Nat.reduceEqDiff, Nat.reduceSub, Int32.reduceOfInt, Int32.reduceAdd, Int32.reduceMul, Int32.reduceSub, ↓reduceIte, Int32.reduceLT, Int32.reduceLE, Int32.reduceToNatClampNeg, Nat.reduceMod, Nat.reduceLT, List.length_cons, List.length_nil, eq_self, true_or, or_true, and_self, implies_true, not_true_eq_false, not_false_eq_true, false_implies, true_implies, forall_const, st_aloadx, st_getfieldx, st_gotox, st_iconstx, st_ifCondx, st_if_icmpx, st_iloadx, st_in2, kb_Theory_grantClaim_0, og_51_0, og_71_0, og_51_6, og_71_6, oo_47, oo_67, oo_51, oo_71, og_51_7, og_71_7, jx_Theory_grantClaim_34, kb_Theory_grantClaim_34, oa_47, oa_51, oa_67, oa_71, oa_53, oa_54, oa_73, oa_74, cx_Theory_grantClaim, tO hth, h1, gf6, e, show nI 1 = (1 : Int32) from rfl]
    refine c_want hth hT hl hs n2 n4 (fun F2 J2 t2 q2 => ?_)
    simp only [isO_c, ax0, ex_cons, am_get, upz_at, true_and, and_true, Nat.reduceAdd, Nat.reduceLeDiff, Nat.reduceEqDiff, Nat.reduceSub, Int32.reduceOfInt, Int32.reduceAdd, Int32.reduceMul, Int32.reduceSub, ↓reduceIte, Int32.reduceLT, Int32.reduceLE, Int32.reduceToNatClampNeg, Nat.reduceMod, Nat.reduceLT, List.length_cons, List.length_nil, eq_self, true_or, or_true, and_self, implies_true, not_true_eq_false, not_false_eq_true, false_implies, true_implies, forall_const, st_aloadx, st_getfieldx, st_gotox, st_iconstx, st_if_icmpx, st_in2, st_return_x, jx_Theory_grantClaim_34, kb_Theory_grantClaim_34, og_51_0, og_71_0, og_51_6, og_71_6, oo_47, oo_67, jx_Theory_grantClaim_66, kb_Theory_grantClaim_66, oa_47, oa_51, oa_67, oa_71, oa_53, oa_73]
    exact K F2 J2 t2 q2
  · rw [show plC P C = P ||| 2 ^ C.2.2.1 from if_pos e] at K
    unfold tellz at K
    have h2 : C.2.1 = false := by
      cases e2 : C.2.1
      · rfl
      · have := hc e2; omega
    rw [h2, Bool.and_false, if_neg Bool.false_ne_true, e] at K
    obtain ⟨eb, hw⟩ := h3 e
    subst eb
    simp only [isO_c, ax0, ex_cons, am_get, upz_at, true_and, and_true, Nat.reduceAdd, Nat.reduceLeDiff, Nat.reduceEqDiff, Nat.reduceSub, Int32.reduceOfInt, Int32.reduceAdd, Int32.reduceMul, Int32.reduceSub, ↓reduceIte, Int32.reduceLT, Int32.reduceLE, Int32.reduceToNatClampNeg, Nat.reduceMod, Nat.reduceLT, List.length_cons, List.length_nil, eq_self, true_or, or_true, and_self, implies_true, not_true_eq_false, not_false_eq_true, false_implies, true_implies, forall_const, st_aloadx, st_bipushx, st_getfieldx, st_gotox, st_goto_wx, st_iconstx, st_ifCondx, st_if_icmpx, st_iloadx, st_in2, st_in4, kb_Theory_grantClaim_0, og_51_0, og_71_0, og_51_6, og_71_6, oo_47, oo_67, oo_51, oo_71, og_51_7, og_71_7, jx_Theory_grantClaim_34, kb_Theory_grantClaim_34, jx_Theory_grantClaim_53, kb_Theory_grantClaim_53, og_51_1, og_71_1, oa_47, oa_51, oa_67, oa_71, oa_53, oa_54, oa_73, oa_74, cx_Theory_grantClaim, tO hth, h1, gf6, e, show nI 2 = (2 : Int32) from rfl]
    refine c_place hth hT hw hs n2 (so := true) (fun f hf r hr => by rw [if_pos rfl, ← hf r hr]; exact bJ_xor0 f r) (fun F2 J2 t2 q2 => ?_)
    simp only [isO_c, ax0, ex_cons, am_get, upz_at, true_and, and_true, Nat.reduceAdd, Nat.reduceLeDiff, Nat.reduceEqDiff, Nat.reduceSub, Int32.reduceOfInt, Int32.reduceAdd, Int32.reduceMul, Int32.reduceSub, ↓reduceIte, Int32.reduceLT, Int32.reduceLE, Int32.reduceToNatClampNeg, Nat.reduceMod, Nat.reduceLT, List.length_cons, List.length_nil, eq_self, true_or, or_true, and_self, implies_true, not_true_eq_false, not_false_eq_true, false_implies, true_implies, forall_const, st_aloadx, st_bipushx, st_getfieldx, st_goto_wx, st_in4, st_return_x, jx_Theory_grantClaim_53, kb_Theory_grantClaim_53, og_51_1, og_71_1, og_51_6, og_71_6, oo_47, oo_67, jx_Theory_grantClaim_66, kb_Theory_grantClaim_66, oa_47, oa_51, oa_67, oa_71, oa_53, oa_73]
    exact K F2 J2 t2 q2
set_option maxRecDepth 20000 in
theorem c_denyClaim (hth : th = 47 ∨ th = 67) {T : tT} {P : Nat} (hT : TT F J th T P) (hl : T.2.1.length < 13) {s : Nat} {C : cT} (hC : CL (ov h F J V) s C) (K : ∀ F' J', TT F' J' th (tz T C.1 C.2.2.2.1 C.2.2.1 false) (plC P C) → Tth th F F' J J' → Q none (ov h F' J' V)) : am_cl (d + 2) 141 [.ref th, .ref s] (ov h F J V) Q := by
  obtain ⟨be, m, sk, pk, a, b, c, h1, hle, h3, hs, _, n1, n2, n3, n4, n5⟩ := hC
  rcases (show C.1 = 0 ∨ C.1 = 1 ∨ C.1 = 2 by omega) with e | e | e
  · rw [show plC P C = P from if_neg (by omega), e] at K
    simp only [isO_c, ax0, ex_cons, am_get, upz_at, true_and, and_true, Nat.reduceAdd, Nat.reduceLeDiff, Nat.reduceEqDiff, Nat.reduceSub, Int32.reduceOfInt, Int32.reduceAdd, Int32.reduceMul, Int32.reduceSub, ↓reduceIte, Int32.reduceLT, Int32.reduceLE, Int32.reduceToNatClampNeg, Nat.reduceMod, Nat.reduceLT, List.length_cons, List.length_nil, eq_self, true_or, or_true, and_self, implies_true, not_true_eq_false, not_false_eq_true, false_implies, true_implies, forall_const, st_aloadx, st_getfieldx, st_gotox, st_ifCondx, st_in2, kb_Theory_denyClaim_0, og_51_0, og_71_0, og_51_6, og_71_6, oo_47, oo_67, oa_47, oa_51, oa_67, oa_71, oa_53, oa_73, cx_Theory_denyClaim, tO hth, h1, gf6, e, show nI 0 = (0 : Int32) from rfl]
    refine c_want hth hT hl hs n2 n4 (fun F2 J2 t2 q2 => ?_)
    simp only [isO_c, ax0, ex_cons, am_get, upz_at, true_and, and_true, Nat.reduceAdd, Nat.reduceLeDiff, Nat.reduceEqDiff, Nat.reduceSub, Int32.reduceOfInt, Int32.reduceAdd, Int32.reduceMul, Int32.reduceSub, ↓reduceIte, Int32.reduceLT, Int32.reduceLE, Int32.reduceToNatClampNeg, Nat.reduceMod, Nat.reduceLT, List.length_cons, List.length_nil, eq_self, true_or, or_true, and_self, implies_true, not_true_eq_false, not_false_eq_true, false_implies, true_implies, forall_const, st_aloadx, st_getfieldx, st_gotox, st_ifCondx, st_in2, st_return_x, kb_Theory_denyClaim_0, og_51_0, og_71_0, og_51_6, og_71_6, oo_47, oo_67, jx_Theory_denyClaim_52, kb_Theory_denyClaim_52, oa_47, oa_51, oa_67, oa_71, oa_53, oa_73]
    exact K F2 J2 t2 q2
  · rw [show plC P C = P from if_neg (by omega), e] at K
    simp only [isO_c, ax0, ex_cons, am_get, upz_at, true_and, and_true, Nat.reduceAdd, Nat.reduceLeDiff, Nat.reduceEqDiff, Nat.reduceSub, Int32.reduceOfInt, Int32.reduceAdd, Int32.reduceMul, Int32.reduceSub, ↓reduceIte, Int32.reduceLT, Int32.reduceLE, Int32.reduceToNatClampNeg, Nat.reduceMod, Nat.reduceLT, List.length_cons, List.length_nil, eq_self, true_or, or_true, and_self, implies_true, not_true_eq_false, not_false_eq_true, false_implies, true_implies, forall_const, st_aloadx, st_getfieldx, st_gotox, st_iconstx, st_ifCondx, st_if_icmpx, st_in2, kb_Theory_denyClaim_0, og_51_0, og_71_0, og_51_6, og_71_6, oo_47, oo_67, jx_Theory_denyClaim_18, kb_Theory_denyClaim_18, oa_47, oa_51, oa_67, oa_71, oa_53, oa_73, cx_Theory_denyClaim, tO hth, h1, gf6, e, show nI 1 = (1 : Int32) from rfl]
    refine c_bar hth hT hs n2 (fun J1 t1 q1 => ?_)
    simp only [isO_c, ax0, ex_cons, am_get, upz_at, true_and, and_true, Nat.reduceAdd, Nat.reduceLeDiff, Nat.reduceEqDiff, Nat.reduceSub, Int32.reduceOfInt, Int32.reduceAdd, Int32.reduceMul, Int32.reduceSub, ↓reduceIte, Int32.reduceLT, Int32.reduceLE, Int32.reduceToNatClampNeg, Nat.reduceMod, Nat.reduceLT, List.length_cons, List.length_nil, eq_self, true_or, or_true, and_self, implies_true, not_true_eq_false, not_false_eq_true, false_implies, true_implies, forall_const, st_aloadx, st_getfieldx, st_gotox, st_iconstx, st_if_icmpx, st_in2, st_return_x, jx_Theory_denyClaim_18, kb_Theory_denyClaim_18, og_51_0, og_71_0, og_51_6, og_71_6, oo_47, oo_67, jx_Theory_denyClaim_52, kb_Theory_denyClaim_52, oa_47, oa_51, oa_67, oa_71, oa_53, oa_73]
    exact K F J1 t1 q1
  · rw [show plC P C = P ||| 2 ^ C.2.2.1 from if_pos e, e] at K
    obtain ⟨eb, hw⟩ := h3 e
    subst eb
    simp only [isO_c, ax0, ex_cons, am_get, upz_at, true_and, and_true, Nat.reduceAdd, Nat.reduceLeDiff, Nat.reduceEqDiff, Nat.reduceSub, Int32.reduceOfInt, Int32.reduceAdd, Int32.reduceMul, Int32.reduceSub, ↓reduceIte, Int32.reduceLT, Int32.reduceLE, Int32.reduceToNatClampNeg, Nat.reduceMod, Nat.reduceLT, List.length_cons, List.length_nil, eq_self, true_or, or_true, and_self, implies_true, not_true_eq_false, not_false_eq_true, false_implies, true_implies, forall_const, st_aloadx, st_bipushx, st_getfieldx, st_gotox, st_goto_wx, st_iconstx, st_ifCondx, st_if_icmpx, st_in2, st_in4, kb_Theory_denyClaim_0, og_51_0, og_71_0, og_51_6, og_71_6, oo_47, oo_67, jx_Theory_denyClaim_18, kb_Theory_denyClaim_18, jx_Theory_denyClaim_37, kb_Theory_denyClaim_37, og_51_1, og_71_1, oa_47, oa_51, oa_67, oa_71, oa_53, oa_73, cx_Theory_denyClaim, tO hth, h1, gf6, e, show nI 2 = (2 : Int32) from rfl]
    refine c_place hth hT hw hs n2 (so := false) (fun f hf r hr => by rw [if_neg Bool.false_ne_true, ← hf r hr]; exact bJ_not f r) (fun F2 J2 t2 q2 => ?_)
    simp only [isO_c, ax0, ex_cons, am_get, upz_at, true_and, and_true, Nat.reduceAdd, Nat.reduceLeDiff, Nat.reduceEqDiff, Nat.reduceSub, Int32.reduceOfInt, Int32.reduceAdd, Int32.reduceMul, Int32.reduceSub, ↓reduceIte, Int32.reduceLT, Int32.reduceLE, Int32.reduceToNatClampNeg, Nat.reduceMod, Nat.reduceLT, List.length_cons, List.length_nil, eq_self, true_or, or_true, and_self, implies_true, not_true_eq_false, not_false_eq_true, false_implies, true_implies, forall_const, st_aloadx, st_bipushx, st_getfieldx, st_goto_wx, st_in4, st_return_x, jx_Theory_denyClaim_37, kb_Theory_denyClaim_37, og_51_1, og_71_1, og_51_6, og_71_6, oo_47, oo_67, jx_Theory_denyClaim_52, kb_Theory_denyClaim_52, oa_47, oa_51, oa_67, oa_71, oa_53, oa_73]
    exact K F2 J2 t2 q2
end CTL
