/-! ===== the class: countFewest ===== -/
theorem b8_14 {b : Nat} (hb : b ≤ 13) : (nI b).toInt8.toInt32 = nI b := (by decide : ∀ b : Fin 14, (nI b.val).toInt8.toInt32 = nI b.val) ⟨b, by omega⟩
section CFN
variable {d : Nat} {h : am_H} {F : Nat → Nat → Int32} {J : Nat → Nat → Int64} {V : Nat → Nat → Value} {Q : am_Q}
set_option maxRecDepth 20000 in
theorem c_countFewest {e : am_H} (ke : Hk e h) (e2 : e.2 = h.2) (hh : 108 ≤ h.2.1) {T : tT} {P n full q L : Nat} {g : Nat → Int32} (hw : wN1 T P ≤ 13) (hf : full = 2 ^ wN1 T P - 1) (hfit : ∀ i, i < wN1 T P → ∃ r, r < 256 ∧ (cm T P r).testBit i = true) (h4 : F 55 4 = nI n) (hM : MkS n (F 58) T P 256) (hv : V 55 5 = .ref q) (m : Mq e h F 59 2 q L g) (K : ∀ e' h' F' V' q' L' g', Gw q' e h e' h' → (q' = q ∨ q' = h.2.1) → h'.2.1 ≤ h.2.1 + 1 → h'.2.2 ≤ h.2.2 + 8192 → V' 55 5 = .ref q' → (∀ x, x ≠ 55 → V' x = V x) → Mq e' h' F' 59 2 q' L' g' → full < L' → (∀ rest, rest ≤ full → ∃ b, b ≤ 13 ∧ g' rest = nI b ∧ Lst T P rest b) → (∀ x, x ≠ 59 → F' x = F x) → Q none (ov h' F' J V')) : am_cl (d + 1) 81 [.ref 55, .int (nI full)] (ov h F J V) Q := by
  have hc : rwC 59 2 := Or.inr ⟨rfl, rfl⟩
  have hL := m.1
  have hp2 : 2 ^ wN1 T P ≤ 8192 := (Nat.pow_le_pow_right (by decide) hw : 2 ^ wN1 T P ≤ 2 ^ 13)
  have hp0 : 0 < 2 ^ wN1 T P := Nat.two_pow_pos _
  have tl : ∀ e1 h1 V1 q1 L1 g1, Gw q1 e h e1 h1 → (q1 = q ∨ q1 = h.2.1) → h1.2.1 ≤ h.2.1 + 1 → h1.2.2 ≤ h.2.2 + 8192 → V1 55 5 = .ref q1 → (∀ x, x ≠ 55 → V1 x = V x) → Mq e1 h1 F 59 2 q1 L1 g1 → full < L1 → am_W kc_Denial_countFewest (am_cl d) Q 18 [.ref 55, .int (nI full), am_dum, am_dum, am_dum, am_dum] [] (ov h1 F J V1) := by
    intro e1 h1 V1 q1 L1 g1 w1 w2 w3 w4 w5 w6 w7 w8
    have hL1 := w7.1
    obtain ⟨h2, F2, e2, z2, f2, m2⟩ := w7.set hc (J := J) (V := V1) (upz g1 0 0)
    simp only [isO_c, ax0, ex_cons, am_get, upz_at, true_and, and_true, Nat.reduceAdd, Nat.reduceLeDiff, Nat.reduceEqDiff, Nat.reduceSub, Int32.reduceOfInt, Int32.reduceAdd, Int32.reduceMul, Int32.reduceSub, ↓reduceIte, Int32.reduceLT, Int32.reduceLE, Int32.reduceToNatClampNeg, Nat.reduceMod, Nat.reduceLT, List.length_cons, List.length_nil, eq_self, true_or, or_true, and_self, implies_true, not_true_eq_false, not_false_eq_true, false_implies, true_implies, forall_const, st_aloadx, st_bastorex, st_getfieldx, st_goto_wx, st_iconstx, st_istorex, am_put, am_nlg, jx_Denial_countFewest_18, kb_Denial_countFewest_18, og_55_5, oa_55, w5, w7.get hc, oq_wB1, show Int32.toNatClampNeg 0 = 0 from rfl, show ¬ (0 : Int32) < 0 by decide, show 0 < L1 by omega, w7.q23 hc, show (0 : Int32).toInt8.toInt32 = 0 from by decide, e2]
    have out : ∀ j rest h3 F3 g3 v3 v4 v5, 1 ≤ rest → rest + j = full + 1 → Hq q1 h1 h3 → (∀ x, x ≠ 59 → F3 x = F x) → Mq e1 h3 F3 59 2 q1 L1 g3 → (∀ i, i < rest → ∃ b, b ≤ 13 ∧ g3 i = nI b ∧ Lst T P i b) → am_W kc_Denial_countFewest (am_cl d) Q 27 [.ref 55, .int (nI full), .int (nI rest), v3, v4, v5] [] (ov h3 F3 J V1) := by
      intro j
      induction j with
      | zero =>
        intro rest h3 F3 g3 v3 v4 v5 hr er x1 x2 x3 x4
        have er : rest = full + 1 := er
        rw [jx_Denial_countFewest_27]
        simp only [isO_c, ax0, ex_cons, am_get, upz_at, true_and, and_true, Nat.reduceAdd, Nat.reduceLeDiff, Nat.reduceEqDiff, Nat.reduceSub, Int32.reduceOfInt, Int32.reduceAdd, Int32.reduceMul, Int32.reduceSub, ↓reduceIte, Int32.reduceLT, Int32.reduceLE, Int32.reduceToNatClampNeg, Nat.reduceMod, Nat.reduceLT, List.length_cons, List.length_nil, eq_self, true_or, or_true, and_self, implies_true, not_true_eq_false, not_false_eq_true, false_implies, true_implies, forall_const, st_goto_wx, st_iandx, st_iconstx, st_if_icmpx, st_iloadx, st_inegx, st_istorex, st_return_x, am_put, am_nlg, kb_Denial_countFewest_27, jx_Denial_countFewest_109, kb_Denial_countFewest_109, show (nI full < nI rest) = (full < rest) from nk_lt (by omega) (by omega), show full < rest by omega]
        exact K e1 h3 F3 V1 q1 L1 g3 (w1.hq x1 (w7.jk hc)) w2 (by rw [x1.1]; exact w3) (by rw [x1.1]; exact w4) w5 w6 x3 w8 (fun i hi => x4 i (by omega)) x2
      | succ j ih =>
        intro rest h3 F3 g3 v3 v4 v5 hr er x1 x2 x3 x4
        obtain ⟨l1, l2, l3⟩ := low_ok (n := rest) (by omega) (by omega)
        have f4 : F3 55 4 = nI n := by rw [x2 55 (by decide)]; exact h4
        have f58 : F3 58 = F 58 := x2 58 (by decide)
        have hlt : rest < 2 ^ wN1 T P := by omega
        rw [jx_Denial_countFewest_27]
        simp only [isO_c, ax0, ex_cons, am_get, upz_at, true_and, and_true, Nat.reduceAdd, Nat.reduceLeDiff, Nat.reduceEqDiff, Nat.reduceSub, Int32.reduceOfInt, Int32.reduceAdd, Int32.reduceMul, Int32.reduceSub, ↓reduceIte, Int32.reduceLT, Int32.reduceLE, Int32.reduceToNatClampNeg, Nat.reduceMod, Nat.reduceLT, List.length_cons, List.length_nil, eq_self, true_or, or_true, and_self, implies_true, not_true_eq_false, not_false_eq_true, false_implies, true_implies, forall_const, st_goto_wx, st_iandx, st_iconstx, st_if_icmpx, st_iloadx, st_inegx, st_istorex, am_put, am_nlg, kb_Denial_countFewest_27, show (nI full < nI rest) = (full < rest) from nk_lt (by omega) (by omega), show ¬ full < rest by omega, l1]
        generalize lowB rest 13 0 = k at l2 l3
        have inn : ∀ j2 i best, i + j2 = n → best ≤ 13 → (best = 13 ∨ CVp (msA T P) best rest) → (∀ j x, j < i → F 58 j = nI x → x ∈ msA T P → x.testBit k = true → ∀ p, CVp (msA T P) p (andn rest x) → best ≤ p + 1) → am_W kc_Denial_countFewest (am_cl d) Q 44 [.ref 55, .int (nI full), .int (nI rest), .int (nI best), .int (nI (2 ^ k)), .int (nI i)] [] (ov h3 F3 J V1) := by
          intro j2
          induction j2 with
          | zero =>
            intro i best ei hb b1 b2
            have ei : i = n := ei
            have hn := hM.1
            obtain ⟨h5, F5, e5, z5, f5, m5⟩ := x3.set hc (J := J) (V := V1) (upz g3 rest (nI best))
            rw [jx_Denial_countFewest_44]
            simp only [isO_c, ax0, ex_cons, am_get, upz_at, true_and, and_true, Nat.reduceAdd, Nat.reduceLeDiff, Nat.reduceEqDiff, Nat.reduceSub, Int32.reduceOfInt, Int32.reduceAdd, Int32.reduceMul, Int32.reduceSub, ↓reduceIte, Int32.reduceLT, Int32.reduceLE, Int32.reduceToNatClampNeg, Nat.reduceMod, Nat.reduceLT, List.length_cons, List.length_nil, eq_self, true_or, or_true, and_self, implies_true, not_true_eq_false, not_false_eq_true, false_implies, true_implies, forall_const, st_aloadx, st_baloadx, st_bastorex, st_ddivx, st_getfieldx, st_gotox, st_goto_wx, st_i2bx, st_iaddx, st_ialoadx, st_iandx, st_iconstx, st_ifCondx, st_if_icmpx, st_iincx, st_iloadx, st_istorex, st_ixorx, am_put, am_nlg, kb_Denial_countFewest_44, og_55_4, og_55_3, og_55_5, jx_Denial_countFewest_95, kb_Denial_countFewest_95, oa_55, oa_58, or_58, ow_58, os_58, f4, (nk_le (by omega) (by omega) : (nI (n) ≤ nI (i)) = (n ≤ i)), show n ≤ i by omega, w5, x3.get hc, oq_wB1, b8_14 hb, nk_neg (show rest < 2147483648 by omega), nk_cl (show rest < 2147483648 by omega), show rest < L1 by omega, x3.q23 hc, e5, nk_succ]
            refine ih (rest + 1) h5 F5 _ _ _ _ (by omega) (by omega) (x1.tr z5) (fun x hx => (f5 x hx).trans (x2 x hx)) m5 (fun i hi => ?_)
            by_cases y : i = rest
            · rw [y, upz_eq]
              refine ⟨best, hb, rfl, ?_, fun p hp => ?_⟩
              · rcases b1 with t | t
                · rw [t]; exact cv_mono (cv_fit hfit (wN1 T P) (Nat.le_refl _) rest hlt) hw (fun _ z => z)
                · exact t
              · cases p with
                | zero => exact absurd hp (cv_p0 (by omega))
                | succ p =>
                  obtain ⟨c, c1, c2, c3⟩ := (cv_need l2).mp hp
                  obtain ⟨r, r1, r2⟩ := msA_mem.mp c1
                  obtain ⟨j', x, y1, y2, y3, y4⟩ := hM.2.2 r r1 (by rw [r2]; exact bit_ne0 c2)
                  rw [r2] at y4
                  refine b2 j' x (by omega) y3 y2 (andn_0.mp y4 k c2) p (cv_mono c3 (Nat.le_refl _) (fun t ht => ?_))
                  rw [andn_bit, Bool.and_eq_true, Bool.not_eq_true'] at ht ⊢
                  refine ⟨ht.1, ?_⟩
                  cases z : c.testBit t
                  · rfl
                  · rw [andn_0.mp y4 t z] at ht; exact absurd ht.2 (by decide)
            · rw [upz_ne _ _ y]; exact x4 i (by omega)
          | succ j2 ih2 =>
            intro i best ei hb b1 b2
            have hn := hM.1
            obtain ⟨x, y1, y2⟩ := hM.2.1 i (by omega)
            have lx := msA_lt hw y1
            have la := andn_le rest x
            have f58i : F3 58 i = nI x := by rw [f58]; exact y2
            rw [jx_Denial_countFewest_44]
            simp only [isO_c, ax0, ex_cons, am_get, upz_at, true_and, and_true, Nat.reduceAdd, Nat.reduceLeDiff, Nat.reduceEqDiff, Nat.reduceSub, Int32.reduceOfInt, Int32.reduceAdd, Int32.reduceMul, Int32.reduceSub, ↓reduceIte, Int32.reduceLT, Int32.reduceLE, Int32.reduceToNatClampNeg, Nat.reduceMod, Nat.reduceLT, List.length_cons, List.length_nil, eq_self, true_or, or_true, and_self, implies_true, not_true_eq_false, not_false_eq_true, false_implies, true_implies, forall_const, st_aloadx, st_baloadx, st_ddivx, st_getfieldx, st_gotox, st_goto_wx, st_iaddx, st_ialoadx, st_iandx, st_iconstx, st_ifCondx, st_if_icmpx, st_iincx, st_iloadx, st_istorex, st_ixorx, am_put, am_nlg, kb_Denial_countFewest_44, og_55_4, og_55_3, og_55_5, jx_Denial_countFewest_89, kb_Denial_countFewest_89, oa_55, oa_58, or_58, f4, (nk_le (by omega) (by omega) : (nI (n) ≤ nI (i)) = (n ≤ i)), show ¬ n ≤ i by omega, nk_neg (show i < 2147483648 by omega), nk_cl (show i < 2147483648 by omega), show i < 256 by omega, f58i, bit_and (show k < 32 by omega), nk_andn, w5, x3.get hc, oq_rB (show 1 < 2 by decide), nk_neg (show andn rest x < 2147483648 by omega), nk_cl (show andn rest x < 2147483648 by omega), show andn rest x < L1 by omega, nk_succ]
            refine ⟨fun w => ?_, fun w => ?_⟩
            · refine ih2 (i + 1) best (by omega) hb b1 (fun j x' hj q1 q2 q3 => ?_)
              by_cases y : j = i
              · rw [y, y2] at q1
                have lx' := msA_lt hw q2
                rw [nk_eq (by omega) (by omega)] at q1
                rw [← q1, w] at q3; cases q3
              · exact b2 j x' (by omega) q1 q2 q3
            · rw [Bool.not_eq_false] at w
              have lt : andn rest x < rest := by
                rcases Nat.lt_or_ge (andn rest x) rest with t | t
                · exact t
                · have ee : andn rest x = rest := by omega
                  have := andn_bit rest x k
                  rw [ee, l2, w] at this; cases this
              obtain ⟨b', p1, p2, p3⟩ := x4 (andn rest x) lt
              have e7 : (if nI (b' + 1) < nI best then nI (b' + 1) else nI best) = nI (if b' + 1 < best then b' + 1 else best) := by
                by_cases z : b' + 1 < best
                · rw [if_pos z, if_pos (by rw [nk_lt (by omega) (by omega)]; exact z)]
                · rw [if_neg z, if_neg (by rw [nk_lt (by omega) (by omega)]; exact z)]
              simp only [p2, nk_succ, e7]
              refine ih2 (i + 1) _ (by omega) ?_ ?_ (fun j x' hj q1 q2 q3 p hp => ?_)
              · split <;> omega
              · have cv : CVp (msA T P) (b' + 1) rest := (cv_need l2).mpr ⟨x, y1, w, p3.1⟩
                by_cases z : b' + 1 < best
                · rw [if_pos z]; exact Or.inr cv
                · rw [if_neg z]; exact b1
              · by_cases y : j = i
                · rw [y, y2] at q1
                  have lx' := msA_lt hw q2
                  rw [nk_eq (by omega) (by omega)] at q1
                  rw [← q1] at hp
                  have := p3.2 p hp
                  split <;> omega
                · have := b2 j x' (by omega) q1 q2 q3 p hp
                  split <;> omega
        exact inn n 0 13 (by omega) (Nat.le_refl _) (Or.inl rfl) (fun j x hj => absurd hj (Nat.not_lt_zero j))
    refine out full 1 h2 F2 _ _ _ _ (Nat.le_refl _) (by omega) z2 f2 m2 (fun i hi => ?_)
    rw [show i = 0 by omega, upz_eq]
    exact ⟨0, by decide, rfl, cv_0 _ _, fun p _ => Nat.zero_le p⟩
  simp only [isO_c, ax0, ex_cons, am_get, upz_at, true_and, and_true, Nat.reduceAdd, Nat.reduceLeDiff, Nat.reduceEqDiff, Nat.reduceSub, Int32.reduceOfInt, Int32.reduceAdd, Int32.reduceMul, Int32.reduceSub, ↓reduceIte, Int32.reduceLT, Int32.reduceLE, Int32.reduceToNatClampNeg, Nat.reduceMod, Nat.reduceLT, List.length_cons, List.length_nil, eq_self, true_or, or_true, and_self, implies_true, not_true_eq_false, not_false_eq_true, false_implies, true_implies, forall_const, st_aloadx, st_arraylengthx, st_getfieldx, st_goto_wx, st_iaddx, st_iconstx, st_if_icmpx, st_iloadx, st_invokedynamicx, st_invokedynamic_1x, st_newarrayx, st_newarray_1, kb_Denial_countFewest_0, og_55_5, op_55_5, oa_55, osV_55, cx_Denial_countFewest, hv, m.len hc, show (nI full < nI L) = (full < L) from nk_lt (by omega) (by omega)]
  refine ⟨fun w => ?_, fun w => ?_⟩
  · exact tl e h V q L g (Gw.rf ke e2) (Or.inl rfl) (Nat.le_succ _) (Nat.le_add_right _ _) hv (fun _ _ => rfl) m w
  · obtain ⟨w1, w2⟩ := Gw.new (q := h.2.1) ke e2 (aI 1 (am_ar (full + 1) (fun _ => 0))) (full + 1)
    simp only [isO_c, ax0, ex_cons, am_get, upz_at, true_and, and_true, Nat.reduceAdd, Nat.reduceLeDiff, Nat.reduceEqDiff, Nat.reduceSub, Int32.reduceOfInt, Int32.reduceAdd, Int32.reduceMul, Int32.reduceSub, ↓reduceIte, Int32.reduceLT, Int32.reduceLE, Int32.reduceToNatClampNeg, Nat.reduceMod, Nat.reduceLT, List.length_cons, List.length_nil, eq_self, true_or, or_true, and_self, implies_true, not_true_eq_false, not_false_eq_true, false_implies, true_implies, forall_const, st_aloadx, st_arraylengthx, st_getfieldx, st_goto_wx, st_iaddx, st_iconstx, st_if_icmpx, st_iloadx, st_invokedynamicx, st_invokedynamic_1x, st_newarrayx, st_newarray_1, kb_Denial_countFewest_0, og_55_5, op_55_5, oa_55, osV_55, st_newB, nk_succ, nk_neg (show full + 1 < 2147483648 by omega), nk_cl (show full + 1 < 2147483648 by omega), show full + 1 ≤ 65536 by omega, ov_new hh, ov_2, am_ar_repl, osV_55]
    exact tl _ _ _ h.2.1 (full + 1) (fun _ => 0) w1 (Or.inr rfl) (Nat.le_refl _) (by show h.2.2 + (full + 1) ≤ _; omega) (by rw [upz_eq, upz_eq]) (fun x hx => upz_ne _ _ hx) ⟨by omega, Or.inr ⟨hh, Nat.lt_succ_self _, w2, if_pos rfl⟩⟩ (Nat.lt_succ_self _)
end CFN
