/-! ===== the model: bounds, binds, posit, propose ===== -/
def bzT (B : Nat → rT × Bool) : Nat → tT
  | 0 => tE
  | k + 1 => tz (bzT B k) (saR (B k).1) (seR (B k).1) (B k).1.2.2.1 (B k).2
theorem bzT_len (B : Nat → rT × Bool) : ∀ k, (bzT B k).2.1.length ≤ k
  | 0 => Nat.le_refl _
  | k + 1 => by
    have := bzT_len B k
    have := tz_len (bzT B k) (saR (B k).1) (seR (B k).1) (B k).1.2.2.1 (B k).2
    unfold bzT
    omega
theorem tellz_f (T : tT) (C : cT) : tellz T C false = tz T C.1 C.2.2.2.1 C.2.2.1 true := rfl
section MBA
variable {d : Nat} {h : am_H} {F : Nat → Nat → Int32} {J : Nat → Nat → Int64} {V : Nat → Nat → Value} {Q : am_Q}
theorem m_tellsX {T : tT} (hT : MT F T) (hl : T.2.1.length < 40) {a : Nat} (ha : a + 8 ≤ 2698) {how : Nat} (hh : how ≤ 2) {w : Nat} {who : Int32} (hw : how = 2 → who = nI w ∧ w < 4) {so : Bool} {set : Nat → Bool} (hs : ∀ r, r < 256 → bI (fun k => F 84 (a + k)) r = set r) (K : ∀ F', MT F' (tz T how set w so) → St F F' → Q none (ov h F' J V)) : am_cl (d + 1) 228 [.ref 82, .int (nI how), .int (nI a), .int who, .int (b2i so)] (ov h F J V) Q := by
  rcases (show how = 0 ∨ how = 1 ∨ how = 2 by omega) with e | e | e <;> subst e
  · cases so
    · exact m_tells1 hT hl ha hs (Or.inl ⟨rfl, rfl⟩) K
    · exact m_tells0 hT ha hs (Or.inl ⟨rfl, rfl⟩) K
  · cases so
    · exact m_tells0 hT ha hs (Or.inr ⟨rfl, rfl⟩) K
    · exact m_tells1 hT hl ha hs (Or.inr ⟨rfl, rfl⟩) K
  · obtain ⟨e1, e2⟩ := hw rfl
    subst e1
    exact m_tells2 hT ha e2 hs K
set_option maxRecDepth 20000 in
theorem m_bounds {B : bT} (hB : MB (F 84) B) (K : ∀ F', MT F' (bzT B.2 B.1) → St F F' → Q none (ov h F' J V)) : am_cl (d + 2) 279 [.ref 82] (ov h F J V) Q := by
  simp only [ax0, ex_cons, am_get, upz_at, true_and, and_true, Nat.reduceAdd, Nat.reduceLeDiff, Nat.reduceEqDiff, Nat.reduceSub, Int32.reduceOfInt, Int32.reduceAdd, Int32.reduceMul, Int32.reduceSub, ↓reduceIte, Int32.reduceLT, Int32.reduceLE, Int32.reduceToNatClampNeg, Nat.reduceMod, Nat.reduceLT, List.length_cons, List.length_nil, eq_self, true_or, or_true, and_self, implies_true, not_true_eq_false, not_false_eq_true, false_implies, true_implies, forall_const, st_aloadx, st_gotox, st_goto_wx, st_iconstx, st_iincx, st_in1, st_in5, st_istorex, st_return_x, am_put, am_nlg, cx_Model_bounds, kb_Model_bounds_0, oo_82, jx_Model_bounds_61, kb_Model_bounds_61, jx_Model_bounds_62, kb_Model_bounds_62, jx_Model_bounds_71, kb_Model_bounds_71, oa_82]
  refine m_empties (fun F0 t0 s0 => ?_)
  simp only [ax0, ex_cons, am_get, upz_at, true_and, and_true, Nat.reduceAdd, Nat.reduceLeDiff, Nat.reduceEqDiff, Nat.reduceSub, Int32.reduceOfInt, Int32.reduceAdd, Int32.reduceMul, Int32.reduceSub, ↓reduceIte, Int32.reduceLT, Int32.reduceLE, Int32.reduceToNatClampNeg, Nat.reduceMod, Nat.reduceLT, List.length_cons, List.length_nil, eq_self, true_or, or_true, and_self, implies_true, not_true_eq_false, not_false_eq_true, false_implies, true_implies, forall_const, st_aloadx, st_goto_wx, st_iconstx, st_in1, st_istorex, am_put, am_nlg, kb_Model_bounds_0, oo_82, oa_82]
  have h12 := hB.2.1
  have key : ∀ j k F1 v2, k + j = B.1 → MT F1 (bzT B.2 k) → St F F1 → am_W kc_Model_bounds (am_cl (d + 1)) Q 6 [.ref 82, .int (nI k), v2] [] (ov h F1 J V) := by
    intro j
    induction j with
    | zero =>
      intro k F1 v2 ek g1 g2
      have ek : k = B.1 := ek
      subst ek
      rw [jx_Model_bounds_6]
      simp only [ax0, ex_cons, am_get, upz_at, true_and, and_true, Nat.reduceAdd, Nat.reduceLeDiff, Nat.reduceEqDiff, Nat.reduceSub, Int32.reduceOfInt, Int32.reduceAdd, Int32.reduceMul, Int32.reduceSub, ↓reduceIte, Int32.reduceLT, Int32.reduceLE, Int32.reduceToNatClampNeg, Nat.reduceMod, Nat.reduceLT, List.length_cons, List.length_nil, eq_self, true_or, or_true, and_self, implies_true, not_true_eq_false, not_false_eq_true, false_implies, true_implies, forall_const, st_aloadx, st_getfieldx, st_gotox, st_iaddx, st_ialoadx, st_iconstx, st_if_icmpx, st_iloadx, st_imulx, st_istorex, st_return_x, am_put, am_nlg, kb_Model_bounds_6, og_82_2, jx_Model_bounds_71, kb_Model_bounds_71, oa_82, oa_84, or_84, g2.k, hB.1, (nk_le (by omega) (by omega) : (nI (B.1) ≤ nI (B.1)) = (B.1 ≤ B.1)), Nat.le_refl]
      exact K F1 g1 g2
    | succ j ih =>
      intro k F1 v2 ek g1 g2
      obtain ⟨b1, b2, b3, b4, b5⟩ := hB.2.2 k (by omega)
      have hl := bzT_len B.2 k
      have go : am_W kc_Model_bounds (am_cl (d + 1)) Q 6 [.ref 82, .int (nI k), v2] [] (ov h F1 J V) := by
        rw [jx_Model_bounds_6]
        simp only [ax0, ex_cons, am_get, upz_at, true_and, and_true, Nat.reduceAdd, Nat.reduceLeDiff, Nat.reduceEqDiff, Nat.reduceSub, Int32.reduceOfInt, Int32.reduceAdd, Int32.reduceMul, Int32.reduceSub, ↓reduceIte, Int32.reduceLT, Int32.reduceLE, Int32.reduceToNatClampNeg, Nat.reduceMod, Nat.reduceLT, List.length_cons, List.length_nil, eq_self, true_or, or_true, and_self, implies_true, not_true_eq_false, not_false_eq_true, false_implies, true_implies, forall_const, st_aloadx, st_getfieldx, st_gotox, st_goto_wx, st_iaddx, st_ialoadx, st_iconstx, st_if_icmpx, st_iloadx, st_imulx, st_istorex, am_put, am_nlg, kb_Model_bounds_6, og_82_2, jx_Model_bounds_61, kb_Model_bounds_61, oa_82, oa_84, or_84, g2.k, hB.1, (nk_le (by omega) (by omega) : (nI (B.1) ≤ nI (k)) = (B.1 ≤ k)), show ¬ B.1 ≤ k by omega, show (11 : Int32) * nI (k) = nI (11 * (k)) from nk_mul (11) (k), show (2562 : Int32) + nI (11 * k) = nI (2562 + 11 * k) from nk_add 2562 (11 * k), show nI (2562 + 11 * k) + (2 : Int32) = nI (2562 + 11 * k + 2) from nk_add (2562 + 11 * k) (2), show nI (2562 + 11 * k) + (1 : Int32) = nI (2562 + 11 * k + 1) from nk_add (2562 + 11 * k) (1), show nI (2562 + 11 * k) + (3 : Int32) = nI (2562 + 11 * k + 3) from nk_add (2562 + 11 * k) (3), nk_neg (show 2562 + 11 * k < 2147483648 by omega), nk_cl (show 2562 + 11 * k < 2147483648 by omega), nk_neg (show 2562 + 11 * k + 2 < 2147483648 by omega), nk_cl (show 2562 + 11 * k + 2 < 2147483648 by omega), nk_neg (show 2562 + 11 * k + 1 < 2147483648 by omega), nk_cl (show 2562 + 11 * k + 1 < 2147483648 by omega), show 2562 + 11 * k < 2698 by omega, show 2562 + 11 * k + 2 < 2698 by omega, show 2562 + 11 * k + 1 < 2698 by omega, b2, b4]
        refine ifnb1 (fun e => ?_) (fun e => ?_)
        · simp only [ax0, ex_cons, am_get, upz_at, true_and, and_true, Nat.reduceAdd, Nat.reduceLeDiff, Nat.reduceEqDiff, Nat.reduceSub, Int32.reduceOfInt, Int32.reduceAdd, Int32.reduceMul, Int32.reduceSub, ↓reduceIte, Int32.reduceLT, Int32.reduceLE, Int32.reduceToNatClampNeg, Nat.reduceMod, Nat.reduceLT, List.length_cons, List.length_nil, eq_self, true_or, or_true, and_self, implies_true, not_true_eq_false, not_false_eq_true, false_implies, true_implies, forall_const, st_gotox, st_iincx, st_in5, am_put, am_nlg, jx_Model_bounds_62, kb_Model_bounds_62, oo_82, oa_82]
          refine m_tellsX (so := false) g1 (by omega) (a := 2562 + 11 * k + 3) (by omega) (saR_le _) (w := (B.2 k).1.2.2.1) (fun q => ⟨b3 q, b1.2.2.2.2 (saR_2 q)⟩) (set := seR (B.2 k).1) (fun r hr => by rw [g2.k]; exact b5 r hr) (fun F2 g3 g4 => ?_)
          simp only [ax0, ex_cons, am_get, upz_at, true_and, and_true, Nat.reduceAdd, Nat.reduceLeDiff, Nat.reduceEqDiff, Nat.reduceSub, Int32.reduceOfInt, Int32.reduceAdd, Int32.reduceMul, Int32.reduceSub, ↓reduceIte, Int32.reduceLT, Int32.reduceLE, Int32.reduceToNatClampNeg, Nat.reduceMod, Nat.reduceLT, List.length_cons, List.length_nil, eq_self, true_or, or_true, and_self, implies_true, not_true_eq_false, not_false_eq_true, false_implies, true_implies, forall_const, st_gotox, st_iincx, st_in5, am_put, am_nlg, jx_Model_bounds_62, kb_Model_bounds_62, oo_82, oa_82, nk_succ]
          refine ih (k + 1) F2 _ (by omega) ?_ (g2.tr g4)
          unfold bzT
          rw [e]
          exact g3
        · simp only [ax0, ex_cons, am_get, upz_at, true_and, and_true, Nat.reduceAdd, Nat.reduceLeDiff, Nat.reduceEqDiff, Nat.reduceSub, Int32.reduceOfInt, Int32.reduceAdd, Int32.reduceMul, Int32.reduceSub, ↓reduceIte, Int32.reduceLT, Int32.reduceLE, Int32.reduceToNatClampNeg, Nat.reduceMod, Nat.reduceLT, List.length_cons, List.length_nil, eq_self, true_or, or_true, and_self, implies_true, not_true_eq_false, not_false_eq_true, false_implies, true_implies, forall_const, st_gotox, st_iincx, st_in5, am_put, am_nlg, jx_Model_bounds_62, kb_Model_bounds_62, oo_82, oa_82]
          refine m_tellsX (so := true) g1 (by omega) (a := 2562 + 11 * k + 3) (by omega) (saR_le _) (w := (B.2 k).1.2.2.1) (fun q => ⟨b3 q, b1.2.2.2.2 (saR_2 q)⟩) (set := seR (B.2 k).1) (fun r hr => by rw [g2.k]; exact b5 r hr) (fun F2 g3 g4 => ?_)
          simp only [ax0, ex_cons, am_get, upz_at, true_and, and_true, Nat.reduceAdd, Nat.reduceLeDiff, Nat.reduceEqDiff, Nat.reduceSub, Int32.reduceOfInt, Int32.reduceAdd, Int32.reduceMul, Int32.reduceSub, ↓reduceIte, Int32.reduceLT, Int32.reduceLE, Int32.reduceToNatClampNeg, Nat.reduceMod, Nat.reduceLT, List.length_cons, List.length_nil, eq_self, true_or, or_true, and_self, implies_true, not_true_eq_false, not_false_eq_true, false_implies, true_implies, forall_const, st_gotox, st_iincx, st_in5, am_put, am_nlg, jx_Model_bounds_62, kb_Model_bounds_62, oo_82, oa_82, nk_succ]
          refine ih (k + 1) F2 _ (by omega) ?_ (g2.tr g4)
          unfold bzT
          rw [e]
          exact g3
      exact go
  exact key B.1 0 F0 _ (by omega) t0 s0
def bnd (X : kT) (so : Bool) : kT := (X.1, (X.2.1 + 1, upz X.2.2 X.2.1 (X.1.2.1 12, so)))
theorem MX.bd {k k' : Nat → Int32} {X : kT} (hX : MX k X) (hq : X.1.2.2.1 = true) {so : Bool} {b n : Nat} (en : n = X.2.1) (hb : b = 2562 + 11 * n) (hn : n < 12) (e0 : k' b = nI (saR (X.1.2.1 12))) (e1 : saR (X.1.2.1 12) = 2 → k' (b + 1) = nI (X.1.2.1 12).2.2.1) (e2 : k' (b + 2) = b2i so) (e3 : ∀ r, r < 256 → bI (fun j => k' (b + 3 + j)) r = seR (X.1.2.1 12) r) (e4 : k' 2696 = nI (n + 1)) (e5 : ∀ i, i ≠ 2696 → ¬ (b ≤ i ∧ i < b + 11) → k' i = k i) : MX k' (bnd X so) := by
  obtain ⟨⟨h1, h2, h3, h4, h5, h6⟩, g1, g2, g3⟩ := hX
  subst hb
  refine ⟨⟨?_, h2, ?_, ?_, fun i hi => ?_, fun q => ?_⟩, ?_, ?_, fun i hi => ?_⟩
  · rw [e5 _ (by decide) (by omega)]; exact h1
  · rw [e5 _ (by decide) (by omega)]; exact h3
  · rw [e5 _ (by decide) (by omega)]; exact h4
  · have hi : i < X.1.1 := hi
    exact (h5 i hi).cg (fun l q1 q2 => e5 l (by omega) (by omega))
  · exact (h6 q).cg (fun l q1 q2 => e5 l (by omega) (by omega))
  · rw [e4, en]; rfl
  · show X.2.1 + 1 ≤ 12; omega
  · have hi : i < X.2.1 + 1 := hi
    show MB1 k' i (upz X.2.2 X.2.1 (X.1.2.1 12, so) i)
    by_cases q : i = n
    · subst q
      rw [← en, upz_eq]
      exact ⟨(h6 hq).1, e0, e1, e2, e3⟩
    · rw [upz_ne _ _ (by omega)]
      exact (g3 i (by omega)).cg (fun l q1 q2 => e5 l (by omega) (by omega))
set_option maxRecDepth 20000 in
theorem m_part {s f : Nat} (hs : 183 * s + f < 2698) (K : Q (some (.int (F 84 (183 * s + f)))) (ov h F J V)) : am_cl (d + 1) 186 [.ref 82, .int (nI s), .int (nI f)] (ov h F J V) Q := by
  simp only [ax0, ex_cons, am_get, upz_at, true_and, and_true, Nat.reduceAdd, Nat.reduceLeDiff, Nat.reduceEqDiff, Nat.reduceSub, Int32.reduceOfInt, Int32.reduceAdd, Int32.reduceMul, Int32.reduceSub, ↓reduceIte, Int32.reduceLT, Int32.reduceLE, Int32.reduceToNatClampNeg, Nat.reduceMod, Nat.reduceLT, List.length_cons, List.length_nil, eq_self, true_or, or_true, and_self, implies_true, not_true_eq_false, not_false_eq_true, false_implies, true_implies, forall_const, st_aloadx, st_getfieldx, st_iaddx, st_ialoadx, st_iconstx, st_iloadx, st_imulx, st_ireturnx, cx_Model_part, kb_Model_part_0, og_82_2, oa_82, oa_84, or_84, show (183 : Int32) * nI (s) = nI (183 * (s)) from nk_mul (183) (s), show nI (183 * s) + nI f = nI (183 * s + f) from nk_add _ _, nk_neg (show 183 * s + f < 2147483648 by omega), nk_cl (show 183 * s + f < 2147483648 by omega), hs]
  exact K
set_option maxRecDepth 20000 in
theorem m_binds {X : kT} (hX : MX (F 84) X) (hq : X.1.2.2.1 = true) (hn : X.2.1 < 12) {so : Bool} (K : ∀ k', MX k' (bnd X so) → Q none (ov h (upz F 84 k') J V)) : am_cl (d + 2) 280 [.ref 82, .int (b2i so)] (ov h F J V) Q := by
  generalize en : X.2.1 = n at *
  have h12 := hX.1.2.2.2.2.2 hq
  obtain ⟨c1, c2, c3, c4, c5, c6⟩ := h12.2.2
  simp only [ax0, ex_cons, am_get, upz_at, true_and, and_true, Nat.reduceAdd, Nat.reduceLeDiff, Nat.reduceEqDiff, Nat.reduceSub, Int32.reduceOfInt, Int32.reduceAdd, Int32.reduceMul, Int32.reduceSub, ↓reduceIte, Int32.reduceLT, Int32.reduceLE, Int32.reduceToNatClampNeg, Nat.reduceMod, Nat.reduceLT, List.length_cons, List.length_nil, eq_self, true_or, or_true, and_self, implies_true, not_true_eq_false, not_false_eq_true, false_implies, true_implies, forall_const, st_aloadx, st_getfieldx, st_gotox, st_iaddx, st_ialoadx, st_iastorex, st_iconstx, st_ifCondx, st_iloadx, st_imulx, st_in3, st_istorex, am_put, am_nlg, kb_Model_binds_0, og_82_2, oo_82, oa_82, oa_84, or_84, ow_84, os_84, cx_Model_binds, hX.2.1, en, show (11 : Int32) * nI (n) = nI (11 * (n)) from nk_mul (11) (n), show (2562 : Int32) + nI (11 * n) = nI (2562 + 11 * n) from nk_add 2562 (11 * n)]
  generalize hb : 2562 + 11 * n = b
  refine m_part (s := 12) (f := 165) (by decide) ?_
  simp only [ax0, ex_cons, am_get, upz_at, true_and, and_true, Nat.reduceAdd, Nat.reduceLeDiff, Nat.reduceEqDiff, Nat.reduceSub, Int32.reduceOfInt, Int32.reduceAdd, Int32.reduceMul, Int32.reduceSub, ↓reduceIte, Int32.reduceLT, Int32.reduceLE, Int32.reduceToNatClampNeg, Nat.reduceMod, Nat.reduceLT, List.length_cons, List.length_nil, eq_self, true_or, or_true, and_self, implies_true, not_true_eq_false, not_false_eq_true, false_implies, true_implies, forall_const, st_aloadx, st_getfieldx, st_gotox, st_iaddx, st_ialoadx, st_iastorex, st_iconstx, st_ifCondx, st_iloadx, st_imulx, st_in3, st_istorex, am_put, am_nlg, kb_Model_binds_0, og_82_2, oo_82, oa_82, oa_84, or_84, ow_84, os_84, nk_neg (show b < 2147483648 by omega), nk_cl (show b < 2147483648 by omega), show b < 2698 by omega, show nI (b) + (1 : Int32) = nI (b + 1) from nk_add (b) (1)]
  refine m_part (s := 12) (f := 2) (by decide) ?_
  rw [upz_eq, upz_ne _ _ (show 183 * 12 + 2 ≠ b by omega)]
  have fin : ∀ s0 : Int32, s0 = b2i so → am_W kc_Model_binds (am_cl (d + 1)) Q 62 [.ref 82, .int (b2i so), .int (nI b), am_dum] [.int s0, .int (nI (b + 2)), .ref 84] (ov h (upz F 84 (upz (upz (F 84) b (F 84 (183 * 12 + 165))) (b + 1) (F 84 (183 * 12 + 2)))) J V) := by
    intro s0 hs0
    simp only [ax0, ex_cons, am_get, upz_at, true_and, and_true, Nat.reduceAdd, Nat.reduceLeDiff, Nat.reduceEqDiff, Nat.reduceSub, Int32.reduceOfInt, Int32.reduceAdd, Int32.reduceMul, Int32.reduceSub, ↓reduceIte, Int32.reduceLT, Int32.reduceLE, Int32.reduceToNatClampNeg, Nat.reduceMod, Nat.reduceLT, List.length_cons, List.length_nil, eq_self, true_or, or_true, and_self, implies_true, not_true_eq_false, not_false_eq_true, false_implies, true_implies, forall_const, st_goto_wx, st_iastorex, st_iconstx, st_istorex, am_put, am_nlg, jx_Model_binds_62, kb_Model_binds_62, oa_84, ow_84, os_84, nk_neg (show b + 2 < 2147483648 by omega), nk_cl (show b + 2 < 2147483648 by omega), show b + 2 < 2698 by omega, upz_upd]
    generalize hk1 : upz (upz (upz (F 84) b (F 84 (183 * 12 + 165))) (b + 1) (F 84 (183 * 12 + 2))) (b + 2) s0 = k1
    have p0 : k1 b = F 84 (183 * 12 + 165) := by subst hk1; rw [upz_ne _ _ (by omega), upz_ne _ _ (by omega), upz_eq]
    have p1 : k1 (b + 1) = F 84 (183 * 12 + 2) := by subst hk1; rw [upz_ne _ _ (by omega), upz_eq]
    have p2 : k1 (b + 2) = s0 := by subst hk1; rw [upz_eq]
    have p3 : ∀ i, ¬ (b ≤ i ∧ i < b + 3) → k1 i = F 84 i := fun i hi => by subst hk1; rw [upz_ne _ _ (by omega), upz_ne _ _ (by omega), upz_ne _ _ (by omega)]
    clear hk1
    have e0 : ov h (upz F 84 k1) J V = ov h (upz F 84 (ovr k1 (fun j => F 84 (2363 + (j - (b + 3)))) (b + 3) 0)) J V := by rw [ovr_0]
    rw [e0]
    refine am_iter 8 (fun k => [.ref 82, .int (b2i so), .int (nI b), .int (nI k)]) (fun k => ov h (upz F 84 (ovr k1 (fun j => F 84 (2363 + (j - (b + 3)))) (b + 3) k)) J V) (fun _ => True) (fun k hk hI go => ?_) (fun hI => ?_) 0 (by omega) trivial
    · rw [jx_Model_binds_65]
      have go := go trivial
      have ee := ovr_S k1 (fun j => F 84 (2363 + (j - (b + 3)))) (b + 3) k rfl
      rw [← ee, show b + 3 + k - (b + 3) = k by omega] at go
      simp only [ax0, ex_cons, am_get, upz_at, true_and, and_true, Nat.reduceAdd, Nat.reduceLeDiff, Nat.reduceEqDiff, Nat.reduceSub, Int32.reduceOfInt, Int32.reduceAdd, Int32.reduceMul, Int32.reduceSub, ↓reduceIte, Int32.reduceLT, Int32.reduceLE, Int32.reduceToNatClampNeg, Nat.reduceMod, Nat.reduceLT, List.length_cons, List.length_nil, eq_self, true_or, or_true, and_self, implies_true, not_true_eq_false, not_false_eq_true, false_implies, true_implies, forall_const, st_aloadx, st_getfieldx, st_gotox, st_iaddx, st_iastorex, st_iconstx, st_if_icmpx, st_iincx, st_iloadx, st_in3, am_put, am_nlg, kb_Model_binds_65, og_82_2, oo_82, oa_82, oa_84, ow_84, os_84, show ((8 : Int32) ≤ nI (k)) = (8 ≤ k) from nk_le (a := 8) (b := k) (by omega) (by omega), show ¬ 8 ≤ k by omega, show nI (b) + (3 : Int32) = nI (b + 3) from nk_add (b) (3), show nI (b + 3) + nI k = nI (b + 3 + k) from nk_add _ _, show (167 : Int32) + nI k = nI (167 + k) from nk_add 167 k]
      refine m_part (s := 12) (f := 167 + k) (by omega) ?_
      rw [upz_eq, ovr_out (by omega), p3 _ (by omega), show 183 * 12 + (167 + k) = 2363 + k by omega]
      simp only [ax0, ex_cons, am_get, upz_at, true_and, and_true, Nat.reduceAdd, Nat.reduceLeDiff, Nat.reduceEqDiff, Nat.reduceSub, Int32.reduceOfInt, Int32.reduceAdd, Int32.reduceMul, Int32.reduceSub, ↓reduceIte, Int32.reduceLT, Int32.reduceLE, Int32.reduceToNatClampNeg, Nat.reduceMod, Nat.reduceLT, List.length_cons, List.length_nil, eq_self, true_or, or_true, and_self, implies_true, not_true_eq_false, not_false_eq_true, false_implies, true_implies, forall_const, st_aloadx, st_getfieldx, st_gotox, st_iaddx, st_iastorex, st_iconstx, st_if_icmpx, st_iincx, st_iloadx, st_in3, am_put, am_nlg, kb_Model_binds_65, og_82_2, oo_82, oa_82, oa_84, ow_84, os_84, nk_neg (show b + 3 + k < 2147483648 by omega), nk_cl (show b + 3 + k < 2147483648 by omega), show b + 3 + k < 2698 by omega, nk_succ, upz_upd]
      exact go
    · rw [jx_Model_binds_65]
      have hc : (ovr k1 (fun j => F 84 (2363 + (j - (b + 3)))) (b + 3) 8) 2696 = nI n := by
        rw [ovr_out (by omega), p3 _ (by omega), hX.2.1, en]
      simp only [ax0, ex_cons, am_get, upz_at, true_and, and_true, Nat.reduceAdd, Nat.reduceLeDiff, Nat.reduceEqDiff, Nat.reduceSub, Int32.reduceOfInt, Int32.reduceAdd, Int32.reduceMul, Int32.reduceSub, ↓reduceIte, Int32.reduceLT, Int32.reduceLE, Int32.reduceToNatClampNeg, Nat.reduceMod, Nat.reduceLT, List.length_cons, List.length_nil, eq_self, true_or, or_true, and_self, implies_true, not_true_eq_false, not_false_eq_true, false_implies, true_implies, forall_const, st_aloadx, st_dup2x, st_dup2_1x, st_getfieldx, st_gotox, st_iaddx, st_ialoadx, st_iastorex, st_iconstx, st_if_icmpx, st_iincx, st_iloadx, st_in3, st_return_x, am_put, am_nlg, kb_Model_binds_65, og_82_2, oo_82, jx_Model_binds_98, kb_Model_binds_98, oa_82, oa_84, or_84, ow_84, os_84, show ((8 : Int32) ≤ nI (8)) = (8 ≤ 8) from nk_le (a := 8) (b := 8) (by omega) (by omega), upz_upd, hc, nk_succ]
      refine K _ (hX.bd hq en.symm hb.symm hn ?_ ?_ ?_ ?_ ?_ ?_)
      · rw [upz_ne _ _ (by omega), ovr_out (by omega), p0]; exact c1
      · intro q
        rw [upz_ne _ _ (by omega), ovr_out (by omega), p1]; exact (c4 q).1
      · rw [upz_ne _ _ (by omega), ovr_out (by omega), p2]; exact hs0
      · intro r hr
        refine bI_at (y := fun j => F 84 (2363 + j)) hr (fun j hj => ?_) ?_
        · rw [upz_ne _ _ (by omega), ovr_in (by omega) (by omega), show b + 3 + j - (b + 3) = j by omega]
        · exact c5 r hr
      · rw [upz_eq]
      · intro i hi hi2
        rw [upz_ne _ _ hi, ovr_out (by omega), p3 _ (by omega)]
  simp only [ax0, ex_cons, am_get, upz_at, true_and, and_true, Nat.reduceAdd, Nat.reduceLeDiff, Nat.reduceEqDiff, Nat.reduceSub, Int32.reduceOfInt, Int32.reduceAdd, Int32.reduceMul, Int32.reduceSub, ↓reduceIte, Int32.reduceLT, Int32.reduceLE, Int32.reduceToNatClampNeg, Nat.reduceMod, Nat.reduceLT, List.length_cons, List.length_nil, eq_self, true_or, or_true, and_self, implies_true, not_true_eq_false, not_false_eq_true, false_implies, true_implies, forall_const, st_aloadx, st_getfieldx, st_gotox, st_iaddx, st_ialoadx, st_iastorex, st_iconstx, st_ifCondx, st_iloadx, st_imulx, st_in3, st_istorex, am_put, am_nlg, kb_Model_binds_0, og_82_2, oo_82, oa_82, oa_84, or_84, ow_84, os_84, nk_neg (show b + 1 < 2147483648 by omega), nk_cl (show b + 1 < 2147483648 by omega), show b + 1 < 2698 by omega, show nI (b) + (2 : Int32) = nI (b + 2) from nk_add (b) (2), upz_upd]
  refine ifb (fun e => ?_) (fun e => ?_)
  · simp only [ax0, ex_cons, am_get, upz_at, true_and, and_true, Nat.reduceAdd, Nat.reduceLeDiff, Nat.reduceEqDiff, Nat.reduceSub, Int32.reduceOfInt, Int32.reduceAdd, Int32.reduceMul, Int32.reduceSub, ↓reduceIte, Int32.reduceLT, Int32.reduceLE, Int32.reduceToNatClampNeg, Nat.reduceMod, Nat.reduceLT, List.length_cons, List.length_nil, eq_self, true_or, or_true, and_self, implies_true, not_true_eq_false, not_false_eq_true, false_implies, true_implies, forall_const, st_goto_wx, st_iconstx, jx_Model_binds_61, kb_Model_binds_61]
    exact fin 0 (by rw [e]; rfl)
  · exact fin 1 (by rw [e]; rfl)
def xPosit (A : aT) : aT × Int32 := if (aD A).2.2.1 && !qz (tellz tE (csD (aD A) 12) false) (fun _ => false) then xGd (wX A (bnd ((aD A), (0, (aB A).2)) true)) 0 else xRf A (-3) 3
set_option maxRecDepth 20000 in
theorem mo_posit {A : aT} (hA : MS F A) (K : ∀ F', Lo F F' → MS F' (xPosit A).1 → Q (some (.int (xPosit A).2)) (ov h F' J V)) : am_cl (d + 4) 281 [.ref 82] (ov h F J V) Q := by
  have hX := hA.1
  have hD := hX.1
  unfold xPosit at K
  simp only [ax0, ex_cons, am_get, upz_at, true_and, and_true, Nat.reduceAdd, Nat.reduceLeDiff, Nat.reduceEqDiff, Nat.reduceSub, Int32.reduceOfInt, Int32.reduceAdd, Int32.reduceMul, Int32.reduceSub, ↓reduceIte, Int32.reduceLT, Int32.reduceLE, Int32.reduceToNatClampNeg, Nat.reduceMod, Nat.reduceLT, List.length_cons, List.length_nil, eq_self, true_or, or_true, and_self, implies_true, not_true_eq_false, not_false_eq_true, false_implies, true_implies, forall_const, st_aloadx, st_iconstx, st_ifCondx, st_in1, st_in2, st_ireturnx, kb_Model_posit_0, oo_82, oa_82, cx_Model_posit]
  refine m_isAsked hD.2.2.1 ?_
  simp only [ax0, ex_cons, am_get, upz_at, true_and, and_true, Nat.reduceAdd, Nat.reduceLeDiff, Nat.reduceEqDiff, Nat.reduceSub, Int32.reduceOfInt, Int32.reduceAdd, Int32.reduceMul, Int32.reduceSub, ↓reduceIte, Int32.reduceLT, Int32.reduceLE, Int32.reduceToNatClampNeg, Nat.reduceMod, Nat.reduceLT, List.length_cons, List.length_nil, eq_self, true_or, or_true, and_self, implies_true, not_true_eq_false, not_false_eq_true, false_implies, true_implies, forall_const, st_aloadx, st_iconstx, st_ifCondx, st_in1, st_in2, st_ireturnx, kb_Model_posit_0, oo_82, oa_82]
  refine ifnb (fun e => ?_) (fun e => ?_)
  · have e : (aD A).2.2.1 = true := e
    rw [e, Bool.true_and] at K
    have h12 := hD.2.2.2.2.2 e
    simp only [ax0, ex_cons, am_get, upz_at, true_and, and_true, Nat.reduceAdd, Nat.reduceLeDiff, Nat.reduceEqDiff, Nat.reduceSub, Int32.reduceOfInt, Int32.reduceAdd, Int32.reduceMul, Int32.reduceSub, ↓reduceIte, Int32.reduceLT, Int32.reduceLE, Int32.reduceToNatClampNeg, Nat.reduceMod, Nat.reduceLT, List.length_cons, List.length_nil, eq_self, true_or, or_true, and_self, implies_true, not_true_eq_false, not_false_eq_true, false_implies, true_implies, forall_const, st_aloadx, st_iconstx, st_ifCondx, st_in1, st_in2, st_in3, st_ireturnx, jx_Model_posit_14, kb_Model_posit_14, oo_82, oa_82]
    refine m_empties (fun F1 t1 s1 => ?_)
    simp only [ax0, ex_cons, am_get, upz_at, true_and, and_true, Nat.reduceAdd, Nat.reduceLeDiff, Nat.reduceEqDiff, Nat.reduceSub, Int32.reduceOfInt, Int32.reduceAdd, Int32.reduceMul, Int32.reduceSub, ↓reduceIte, Int32.reduceLT, Int32.reduceLE, Int32.reduceToNatClampNeg, Nat.reduceMod, Nat.reduceLT, List.length_cons, List.length_nil, eq_self, true_or, or_true, and_self, implies_true, not_true_eq_false, not_false_eq_true, false_implies, true_implies, forall_const, st_aloadx, st_iconstx, st_ifCondx, st_in1, st_in2, st_in3, st_ireturnx, jx_Model_posit_14, kb_Model_posit_14, oo_82, oa_82]
    refine m_tellsOf (s := 12) t1 (by decide) (by decide) (C := csD (aD A) 12) (by rw [s1.k]; exact h12.2.2) (ex := false) (fun F2 t2 s2 => ?_)
    simp only [ax0, ex_cons, am_get, upz_at, true_and, and_true, Nat.reduceAdd, Nat.reduceLeDiff, Nat.reduceEqDiff, Nat.reduceSub, Int32.reduceOfInt, Int32.reduceAdd, Int32.reduceMul, Int32.reduceSub, ↓reduceIte, Int32.reduceLT, Int32.reduceLE, Int32.reduceToNatClampNeg, Nat.reduceMod, Nat.reduceLT, List.length_cons, List.length_nil, eq_self, true_or, or_true, and_self, implies_true, not_true_eq_false, not_false_eq_true, false_implies, true_implies, forall_const, st_aloadx, st_iconstx, st_ifCondx, st_in1, st_in2, st_in3, st_ireturnx, jx_Model_posit_14, kb_Model_posit_14, oo_82, oa_82]
    refine m_isQuarrel t2 (by have := tellz_len tE (csD (aD A) 12) false; have : tE.2.1.length = 0 := rfl; omega) (fun f => ?_)
    have p3 := (s1.tr s2).pm.s100 f
    have hA3 := hA.pm p3
    generalize upz F2 100 f = F3 at *
    simp only [ax0, ex_cons, am_get, upz_at, true_and, and_true, Nat.reduceAdd, Nat.reduceLeDiff, Nat.reduceEqDiff, Nat.reduceSub, Int32.reduceOfInt, Int32.reduceAdd, Int32.reduceMul, Int32.reduceSub, ↓reduceIte, Int32.reduceLT, Int32.reduceLE, Int32.reduceToNatClampNeg, Nat.reduceMod, Nat.reduceLT, List.length_cons, List.length_nil, eq_self, true_or, or_true, and_self, implies_true, not_true_eq_false, not_false_eq_true, false_implies, true_implies, forall_const, st_aloadx, st_iconstx, st_ifCondx, st_in1, st_in2, st_in3, st_ireturnx, jx_Model_posit_14, kb_Model_posit_14, oo_82, oa_82]
    refine ifb (fun e2 => ?_) (fun e2 => ?_)
    · rw [e2, Bool.not_false, if_pos rfl] at K
      simp only [ax0, ex_cons, am_get, upz_at, true_and, and_true, Nat.reduceAdd, Nat.reduceLeDiff, Nat.reduceEqDiff, Nat.reduceSub, Int32.reduceOfInt, Int32.reduceAdd, Int32.reduceMul, Int32.reduceSub, ↓reduceIte, Int32.reduceLT, Int32.reduceLE, Int32.reduceToNatClampNeg, Nat.reduceMod, Nat.reduceLT, List.length_cons, List.length_nil, eq_self, true_or, or_true, and_self, implies_true, not_true_eq_false, not_false_eq_true, false_implies, true_implies, forall_const, st_aloadx, st_getfieldx, st_iastorex, st_iconstx, st_in2, st_ireturnx, jx_Model_posit_39, kb_Model_posit_39, og_82_2, oo_82, oa_82, oa_84, ow_84, os_84]
      refine m_binds (X := ((aD A), (0, (aB A).2))) ⟨?_, ?_⟩ e (by show 0 < 12; decide) (so := true) (fun k' hk' => ?_)
      · rw [upz_eq]
        exact hA3.1.1.cgC (fun i hi => upz_ne _ _ (by omega))
      · rw [upz_eq]
        exact ⟨upz_eq _ _ _, by show 0 ≤ 12; omega, fun i hi => absurd hi (Nat.not_lt_zero i)⟩
      · simp only [ax0, ex_cons, am_get, upz_at, true_and, and_true, Nat.reduceAdd, Nat.reduceLeDiff, Nat.reduceEqDiff, Nat.reduceSub, Int32.reduceOfInt, Int32.reduceAdd, Int32.reduceMul, Int32.reduceSub, ↓reduceIte, Int32.reduceLT, Int32.reduceLE, Int32.reduceToNatClampNeg, Nat.reduceMod, Nat.reduceLT, List.length_cons, List.length_nil, eq_self, true_or, or_true, and_self, implies_true, not_true_eq_false, not_false_eq_true, false_implies, true_implies, forall_const, st_aloadx, st_getfieldx, st_iastorex, st_iconstx, st_in2, st_ireturnx, jx_Model_posit_39, kb_Model_posit_39, og_82_2, oo_82, oa_82, oa_84, ow_84, os_84, upz_upd]
        exact m_good (hA3.w84 hk') (fun F' l m => K F' ((p3.lo.up (by decide) _).tr l) m)
    · rw [e2, Bool.not_true, if_neg Bool.false_ne_true] at K
      exact m_refuses hA3 rfl (by decide) (fun F' l m => K F' (p3.lo.tr l) m)
  · have e : (aD A).2.2.1 = false := e
    rw [e, Bool.false_and, if_neg Bool.false_ne_true] at K
    exact m_refuses hA rfl (by decide) K
def xPropose (A : aT) : aT × Int32 := if (aD A).2.2.1 && !decide ((aB A).1 = 0) then (if (aB A).1 = 12 then xRf A (-5) 5 else
  if fo (bzT (aB A).2 (aB A).1) (csD (aD A) 12) false then xGd (wX A (bnd A.1 true)) 1 else if qz (tellz (bzT (aB A).2 (aB A).1) (csD (aD A) 12) false) (fun _ => false) then xGd (wX A (bnd A.1 false)) 2 else xGd A 0) else xRf A (-3) 3
set_option maxRecDepth 20000 in
theorem mo_propose {A : aT} (hA : MS F A) (K : ∀ F', Lo F F' → MS F' (xPropose A).1 → Q (some (.int (xPropose A).2)) (ov h F' J V)) : am_cl (d + 5) 282 [.ref 82] (ov h F J V) Q := by
  have hX := hA.1
  have hD := hX.1
  have hb : (aB A).1 ≤ 12 := hX.2.2.1
  unfold xPropose at K
  simp only [ax0, ex_cons, am_get, upz_at, true_and, and_true, Nat.reduceAdd, Nat.reduceLeDiff, Nat.reduceEqDiff, Nat.reduceSub, Int32.reduceOfInt, Int32.reduceAdd, Int32.reduceMul, Int32.reduceSub, ↓reduceIte, Int32.reduceLT, Int32.reduceLE, Int32.reduceToNatClampNeg, Nat.reduceMod, Nat.reduceLT, List.length_cons, List.length_nil, eq_self, true_or, or_true, and_self, implies_true, not_true_eq_false, not_false_eq_true, false_implies, true_implies, forall_const, st_aloadx, st_getfieldx, st_goto_wx, st_ialoadx, st_iconstx, st_ifCondx, st_in1, kb_Model_propose_0, oo_82, og_82_2, oa_82, oa_84, or_84, cx_Model_propose]
  refine m_isAsked hD.2.2.1 ?_
  simp only [ax0, ex_cons, am_get, upz_at, true_and, and_true, Nat.reduceAdd, Nat.reduceLeDiff, Nat.reduceEqDiff, Nat.reduceSub, Int32.reduceOfInt, Int32.reduceAdd, Int32.reduceMul, Int32.reduceSub, ↓reduceIte, Int32.reduceLT, Int32.reduceLE, Int32.reduceToNatClampNeg, Nat.reduceMod, Nat.reduceLT, List.length_cons, List.length_nil, eq_self, true_or, or_true, and_self, implies_true, not_true_eq_false, not_false_eq_true, false_implies, true_implies, forall_const, st_aloadx, st_getfieldx, st_goto_wx, st_ialoadx, st_iconstx, st_ifCondx, st_in1, st_in2, st_ireturnx, kb_Model_propose_0, oo_82, og_82_2, jx_Model_propose_18, kb_Model_propose_18, oa_82, oa_84, or_84, hX.2.1]
  refine ifb (fun e => ?_) (fun e => ?_)
  · have e : (aD A).2.2.1 = false := e
    rw [e, Bool.false_and, if_neg Bool.false_ne_true] at K
    exact m_refuses hA rfl (by decide) K
  have e : (aD A).2.2.1 = true := e
  rw [e, Bool.true_and] at K
  have h12 := hD.2.2.2.2.2 e
  refine And.intro (fun q => ?_) (fun q => ?_)
  · have q : ¬ (aB A).1 = 0 := fun z => q (by show nI (aB A).1 = 0; rw [z]; rfl)
    rw [decide_eq_false q, Bool.not_false, if_pos rfl] at K
    simp only [ax0, ex_cons, am_get, upz_at, true_and, and_true, Nat.reduceAdd, Nat.reduceLeDiff, Nat.reduceEqDiff, Nat.reduceSub, Int32.reduceOfInt, Int32.reduceAdd, Int32.reduceMul, Int32.reduceSub, ↓reduceIte, Int32.reduceLT, Int32.reduceLE, Int32.reduceToNatClampNeg, Nat.reduceMod, Nat.reduceLT, List.length_cons, List.length_nil, eq_self, true_or, or_true, and_self, implies_true, not_true_eq_false, not_false_eq_true, false_implies, true_implies, forall_const, st_aloadx, st_getfieldx, st_ialoadx, st_iconstx, st_if_icmpx, st_in2, st_ireturnx, jx_Model_propose_25, kb_Model_propose_25, og_82_2, oo_82, oa_82, oa_84, or_84, hX.2.1, show (nI A.1.2.1 = (12 : Int32)) = ((aB A).1 = 12) from nk_eq (b := 12) (by show (aB A).1 < _; omega) (by decide)]
    refine And.intro (fun q2 => ?_) (fun q2 => ?_)
    · rw [if_neg q2] at K
      simp only [ax0, ex_cons, am_get, upz_at, true_and, and_true, Nat.reduceAdd, Nat.reduceLeDiff, Nat.reduceEqDiff, Nat.reduceSub, Int32.reduceOfInt, Int32.reduceAdd, Int32.reduceMul, Int32.reduceSub, ↓reduceIte, Int32.reduceLT, Int32.reduceLE, Int32.reduceToNatClampNeg, Nat.reduceMod, Nat.reduceLT, List.length_cons, List.length_nil, eq_self, true_or, or_true, and_self, implies_true, not_true_eq_false, not_false_eq_true, false_implies, true_implies, forall_const, st_aloadx, st_goto_wx, st_iconstx, st_ifCondx, st_iloadx, st_in1, st_in3, st_istorex, am_put, am_nlg, jx_Model_propose_45, kb_Model_propose_45, oo_82, oa_82]
      refine m_bounds hX.2 (fun F1 t1 s1 => ?_)
      have hl : (bzT (aB A).2 (aB A).1).2.1.length ≤ 12 := Nat.le_trans (bzT_len _ _) hb
      simp only [ax0, ex_cons, am_get, upz_at, true_and, and_true, Nat.reduceAdd, Nat.reduceLeDiff, Nat.reduceEqDiff, Nat.reduceSub, Int32.reduceOfInt, Int32.reduceAdd, Int32.reduceMul, Int32.reduceSub, ↓reduceIte, Int32.reduceLT, Int32.reduceLE, Int32.reduceToNatClampNeg, Nat.reduceMod, Nat.reduceLT, List.length_cons, List.length_nil, eq_self, true_or, or_true, and_self, implies_true, not_true_eq_false, not_false_eq_true, false_implies, true_implies, forall_const, st_aloadx, st_goto_wx, st_iconstx, st_ifCondx, st_iloadx, st_in1, st_in3, st_istorex, am_put, am_nlg, jx_Model_propose_45, kb_Model_propose_45, oo_82, oa_82]
      refine m_followsOf (s := 12) t1 (by show (bzT (aB A).2 (aB A).1).2.1.length ≤ 40; omega) (by decide) (C := csD (aD A) 12) (by rw [s1.k]; exact h12.2.2) (ex := false) (fun f => ?_)
      have s1 := s1.s100 f
      have t1 := t1.s100 f
      generalize upz F1 100 f = F2 at s1 t1 ⊢
      simp only [ax0, ex_cons, am_get, upz_at, true_and, and_true, Nat.reduceAdd, Nat.reduceLeDiff, Nat.reduceEqDiff, Nat.reduceSub, Int32.reduceOfInt, Int32.reduceAdd, Int32.reduceMul, Int32.reduceSub, ↓reduceIte, Int32.reduceLT, Int32.reduceLE, Int32.reduceToNatClampNeg, Nat.reduceMod, Nat.reduceLT, List.length_cons, List.length_nil, eq_self, true_or, or_true, and_self, implies_true, not_true_eq_false, not_false_eq_true, false_implies, true_implies, forall_const, st_aloadx, st_goto_wx, st_iconstx, st_ifCondx, st_iloadx, st_in1, st_in3, st_istorex, am_put, am_nlg, jx_Model_propose_45, kb_Model_propose_45, oo_82, oa_82]
      refine m_tellsOf (s := 12) t1 (by show (bzT (aB A).2 (aB A).1).2.1.length + 2 ≤ 40; omega) (by decide) (C := csD (aD A) 12) (by rw [s1.k]; exact h12.2.2) (ex := false) (fun F3 t3 s3 => ?_)
      simp only [ax0, ex_cons, am_get, upz_at, true_and, and_true, Nat.reduceAdd, Nat.reduceLeDiff, Nat.reduceEqDiff, Nat.reduceSub, Int32.reduceOfInt, Int32.reduceAdd, Int32.reduceMul, Int32.reduceSub, ↓reduceIte, Int32.reduceLT, Int32.reduceLE, Int32.reduceToNatClampNeg, Nat.reduceMod, Nat.reduceLT, List.length_cons, List.length_nil, eq_self, true_or, or_true, and_self, implies_true, not_true_eq_false, not_false_eq_true, false_implies, true_implies, forall_const, st_aloadx, st_goto_wx, st_iconstx, st_ifCondx, st_iloadx, st_in1, st_in3, st_istorex, am_put, am_nlg, jx_Model_propose_45, kb_Model_propose_45, oo_82, oa_82]
      refine m_isQuarrel t3 (by have := tellz_len (bzT (aB A).2 (aB A).1) (csD (aD A) 12) false; show (tellz (bzT (aB A).2 (aB A).1) (csD (aD A) 12) false).2.1.length ≤ 40; omega) (fun f => ?_)
      have p4 := (s1.tr s3).pm.s100 f
      have hA4 := hA.pm p4
      generalize upz F3 100 f = F4 at p4 hA4 ⊢
      have bd : ∀ so : Bool, (∀ F', Lo F F' → MS F' (wX A (bnd A.1 so)) → am_ex (am_cl (d + 4)) (am_W kc_Model_propose (am_cl (d + 4)) Q) Q (kb_Model_propose_77.drop 3) [.ref 82, .int (b2i (fo (bzT (aB A).2 (aB A).1) (csD (aD A) 12) false)), .int (b2i (qz (tellz (bzT (aB A).2 (aB A).1) (csD (aD A) 12) false) (fun _ => false)))] [] (ov h F' J V)) → am_cl (d + 4) 280 [.ref 82, .int (b2i so)] (ov h F4 J V) (fun r h1 => am_kk (am_ex (am_cl (d + 4)) (am_W kc_Model_propose (am_cl (d + 4)) Q) Q (kb_Model_propose_77.drop 3)) [.ref 82, .int (b2i (fo (bzT (aB A).2 (aB A).1) (csD (aD A) 12) false)), .int (b2i (qz (tellz (bzT (aB A).2 (aB A).1) (csD (aD A) 12) false) (fun _ => false)))] r [] h1) := by
        intro so go
        exact m_binds (d := d + 2) (X := A.1) hA4.1 e (by show (aB A).1 < 12; omega) (so := so) (fun k' hk' => go _ (p4.lo.up (by decide) _) (hA4.w84 hk'))
      simp only [ax0, ex_cons, am_get, upz_at, true_and, and_true, Nat.reduceAdd, Nat.reduceLeDiff, Nat.reduceEqDiff, Nat.reduceSub, Int32.reduceOfInt, Int32.reduceAdd, Int32.reduceMul, Int32.reduceSub, ↓reduceIte, Int32.reduceLT, Int32.reduceLE, Int32.reduceToNatClampNeg, Nat.reduceMod, Nat.reduceLT, List.length_cons, List.length_nil, eq_self, true_or, or_true, and_self, implies_true, not_true_eq_false, not_false_eq_true, false_implies, true_implies, forall_const, st_aloadx, st_goto_wx, st_iconstx, st_ifCondx, st_iloadx, st_in1, st_in3, st_istorex, am_put, am_nlg, jx_Model_propose_45, kb_Model_propose_45, oo_82, oa_82]
      cases e3 : fo (bzT (aB A).2 (aB A).1) (csD (aD A) 12) false with
      | true =>
        rw [e3, if_pos rfl] at K
        rw [e3] at bd
        simp only [ax0, ex_cons, am_get, upz_at, true_and, and_true, Nat.reduceAdd, Nat.reduceLeDiff, Nat.reduceEqDiff, Nat.reduceSub, Int32.reduceOfInt, Int32.reduceAdd, Int32.reduceMul, Int32.reduceSub, ↓reduceIte, Int32.reduceLT, Int32.reduceLE, Int32.reduceToNatClampNeg, Nat.reduceMod, Nat.reduceLT, List.length_cons, List.length_nil, eq_self, true_or, or_true, and_self, implies_true, not_true_eq_false, not_false_eq_true, false_implies, true_implies, forall_const, st_aloadx, st_goto_wx, st_iloadx, st_in2, jx_Model_propose_77, kb_Model_propose_77, oo_82, oa_82, b2i_t]
        refine bd true (fun F' l m => ?_)
        simp only [ax0, ex_cons, am_get, upz_at, true_and, and_true, Nat.reduceAdd, Nat.reduceLeDiff, Nat.reduceEqDiff, Nat.reduceSub, Int32.reduceOfInt, Int32.reduceAdd, Int32.reduceMul, Int32.reduceSub, ↓reduceIte, Int32.reduceLT, Int32.reduceLE, Int32.reduceToNatClampNeg, Nat.reduceMod, Nat.reduceLT, List.length_cons, List.length_nil, eq_self, true_or, or_true, and_self, implies_true, not_true_eq_false, not_false_eq_true, false_implies, true_implies, forall_const, st_aloadx, st_gotox, st_goto_wx, st_iconstx, st_ifCondx, st_iloadx, st_in2, st_ireturnx, jx_Model_propose_77, kb_Model_propose_77, oo_82, jx_Model_propose_82, kb_Model_propose_82, jx_Model_propose_100, kb_Model_propose_100, oa_82, List.drop_succ_cons, List.drop_zero, b2i_t]
        exact m_good m (fun F'' l2 m2 => K F'' (l.tr l2) m2)
      | false =>
        rw [e3, if_neg Bool.false_ne_true] at K
        rw [e3] at bd
        cases e4 : qz (tellz (bzT (aB A).2 (aB A).1) (csD (aD A) 12) false) (fun _ => false) with
        | true =>
          rw [e4, if_pos rfl] at K
          rw [e4] at bd
          simp only [ax0, ex_cons, am_get, upz_at, true_and, and_true, Nat.reduceAdd, Nat.reduceLeDiff, Nat.reduceEqDiff, Nat.reduceSub, Int32.reduceOfInt, Int32.reduceAdd, Int32.reduceMul, Int32.reduceSub, ↓reduceIte, Int32.reduceLT, Int32.reduceLE, Int32.reduceToNatClampNeg, Nat.reduceMod, Nat.reduceLT, List.length_cons, List.length_nil, eq_self, true_or, or_true, and_self, implies_true, not_true_eq_false, not_false_eq_true, false_implies, true_implies, forall_const, st_aloadx, st_goto_wx, st_iconstx, st_ifCondx, st_iloadx, st_in1, st_in2, st_in3, st_istorex, am_put, am_nlg, jx_Model_propose_45, kb_Model_propose_45, oo_82, jx_Model_propose_77, kb_Model_propose_77, oa_82, b2i_t, b2i_f]
          refine bd false (fun F' l m => ?_)
          simp only [ax0, ex_cons, am_get, upz_at, true_and, and_true, Nat.reduceAdd, Nat.reduceLeDiff, Nat.reduceEqDiff, Nat.reduceSub, Int32.reduceOfInt, Int32.reduceAdd, Int32.reduceMul, Int32.reduceSub, ↓reduceIte, Int32.reduceLT, Int32.reduceLE, Int32.reduceToNatClampNeg, Nat.reduceMod, Nat.reduceLT, List.length_cons, List.length_nil, eq_self, true_or, or_true, and_self, implies_true, not_true_eq_false, not_false_eq_true, false_implies, true_implies, forall_const, st_aloadx, st_gotox, st_goto_wx, st_iconstx, st_ifCondx, st_iloadx, st_in2, st_ireturnx, jx_Model_propose_77, kb_Model_propose_77, oo_82, jx_Model_propose_82, kb_Model_propose_82, jx_Model_propose_91, kb_Model_propose_91, jx_Model_propose_100, kb_Model_propose_100, oa_82, List.drop_succ_cons, List.drop_zero, b2i_t, b2i_f]
          exact m_good m (fun F'' l2 m2 => K F'' (l.tr l2) m2)
        | false =>
          rw [e4, if_neg Bool.false_ne_true] at K
          simp only [ax0, ex_cons, am_get, upz_at, true_and, and_true, Nat.reduceAdd, Nat.reduceLeDiff, Nat.reduceEqDiff, Nat.reduceSub, Int32.reduceOfInt, Int32.reduceAdd, Int32.reduceMul, Int32.reduceSub, ↓reduceIte, Int32.reduceLT, Int32.reduceLE, Int32.reduceToNatClampNeg, Nat.reduceMod, Nat.reduceLT, List.length_cons, List.length_nil, eq_self, true_or, or_true, and_self, implies_true, not_true_eq_false, not_false_eq_true, false_implies, true_implies, forall_const, st_aloadx, st_gotox, st_goto_wx, st_iconstx, st_ifCondx, st_iloadx, st_in1, st_in2, st_in3, st_ireturnx, st_istorex, am_put, am_nlg, jx_Model_propose_45, kb_Model_propose_45, oo_82, jx_Model_propose_82, kb_Model_propose_82, jx_Model_propose_91, kb_Model_propose_91, jx_Model_propose_99, kb_Model_propose_99, jx_Model_propose_100, kb_Model_propose_100, oa_82, b2i_f]
          exact m_good hA4 (fun F'' l2 m2 => K F'' (p4.lo.tr l2) m2)
    · rw [if_pos (Classical.not_not.mp q2)] at K
      exact m_refuses hA rfl (by decide) K
  · have q : (aB A).1 = 0 := by
      have q := Classical.not_not.mp q
      have q : nI (aB A).1 = nI 0 := q
      rw [nk_eq (by omega) (by decide)] at q
      exact q
    rw [decide_eq_true q, Bool.not_true, if_neg Bool.false_ne_true] at K
    exact m_refuses hA rfl (by decide) K
end MBA
