/-! ===== the class: image, back ===== -/
theorem osFx {h : am_H} {F : Nat → Nat → Int32} {J : Nat → Nat → Int64} {V : Nat → Nat → Value} {a : Nat} {f : Nat → Int32} {w : Nat → Value} (h1 : 23 ≤ a) (h2 : a < 108) : am_set (ov h F J (upz V a w)) a (oc a f (J a) w) = ov h (upz F a f) J (upz V a w) := by
  have := ov_setF (h := h) (F := F) (J := J) (V := upz V a w) (a := a) (f := f) h1 h2
  rwa [upz_eq] at this
theorem osFy {h : am_H} {F : Nat → Nat → Int32} {J : Nat → Nat → Int64} {V : Nat → Nat → Value} {a b : Nat} {f : Nat → Int32} {w : Nat → Value} (h1 : 23 ≤ a) (h2 : a < 108) (h3 : a ≠ b) : am_set (ov h F J (upz V b w)) a (oc a f (J a) (V a)) = ov h (upz F a f) J (upz V b w) := by
  have := ov_setF (h := h) (F := F) (J := J) (V := upz V b w) (a := a) (f := f) h1 h2
  rwa [upz_ne _ _ h3] at this
theorem osVx {h : am_H} {F : Nat → Nat → Int32} {J : Nat → Nat → Int64} {V : Nat → Nat → Value} {a : Nat} {f : Nat → Int32} {w : Nat → Value} (h1 : 23 ≤ a) (h2 : a < 108) : am_set (ov h (upz F a f) J V) a (oc a f (J a) w) = ov h (upz F a f) J (upz V a w) := by
  have := ov_setV (h := h) (F := upz F a f) (J := J) (V := V) (a := a) (f := w) h1 h2
  rwa [upz_eq] at this
section CIM
variable {d : Nat} {h : am_H} {F : Nat → Nat → Int32} {J : Nat → Nat → Int64} {V : Nat → Nat → Value} {Q : am_Q}
set_option maxRecDepth 20000 in
theorem c_copy_39_34 {X : kT} (hX : DK h F V 34 X) (K : ∀ F' V', (∀ a, a ≠ 39 → a ≠ 39 + 3 → F' a = F a) → (∀ a, a ≠ 39 → a ≠ 39 + 1 → a ≠ 39 + 2 → V' a = V a) → F' 39 7 = F 39 7 → DK h F' V' 39 X → Q none (ov h F' J V')) : am_cl (d + 1) 96 [.ref 39, .ref 34] (ov h F J V) Q := by
  have hX0 := hX
  obtain ⟨⟨d1, d2, d3⟩, d4, d5, ⟨d6, d7, d8⟩, d9, d10⟩ := hX
  simp only [isO_c, ax0, ex_cons, am_get, upz_at, true_and, and_true, Nat.reduceAdd, Nat.reduceLeDiff, Nat.reduceEqDiff, Nat.reduceSub, Int32.reduceOfInt, Int32.reduceAdd, Int32.reduceMul, Int32.reduceSub, ↓reduceIte, Int32.reduceLT, Int32.reduceLE, Int32.reduceToNatClampNeg, Nat.reduceMod, Nat.reduceLT, List.length_cons, List.length_nil, eq_self, true_or, or_true, and_self, implies_true, not_true_eq_false, not_false_eq_true, false_implies, true_implies, forall_const, st_goto_wx, st_iconstx, st_istorex, am_put, am_nlg, kb_Desk_copyFrom_0, cx_Desk_copyFrom]
  have e0 : ov h F J V = ov h F J (upz V 40 (ovr (V 40) (V 35) 0 0)) := by rw [ovr_0, upz_self]
  rw [e0]
  refine am_iter 12 (fun k => [.ref 39, .ref 34, .int (nI k)]) (fun k => ov h F J (upz V 40 (ovr (V 40) (V 35) 0 k))) (fun _ => True) (fun k hk hI go => ?_) (fun hI => ?_) 0 (by omega) trivial
  · rw [jx_Desk_copyFrom_2]
    have go := go trivial
    have ee := ovr_S (V 40) (V 35) 0 k rfl
    rw [Nat.zero_add] at ee
    rw [← ee] at go
    rcases (d9 k hk).1 with e | ⟨p, R, e, hs⟩
    · have e : V 35 k = .null := e
      rw [e] at go
      simp only [isO_c, ax0, ex_cons, am_get, upz_at, true_and, and_true, Nat.reduceAdd, Nat.reduceLeDiff, Nat.reduceEqDiff, Nat.reduceSub, Int32.reduceOfInt, Int32.reduceAdd, Int32.reduceMul, Int32.reduceSub, ↓reduceIte, Int32.reduceLT, Int32.reduceLE, Int32.reduceToNatClampNeg, Nat.reduceMod, Nat.reduceLT, List.length_cons, List.length_nil, eq_self, true_or, or_true, and_self, implies_true, not_true_eq_false, not_false_eq_true, false_implies, true_implies, forall_const, st_aaloadx, st_aastorex, st_aastore_1x, st_aloadx, st_getfieldx, st_gotox, st_iconstx, st_if_icmpx, st_iincx, st_iloadx, am_put, am_nlg, kb_Desk_copyFrom_2, og_34_0, og_39_0, oa_34, oa_39, oa_35, or_35, ow_35, os_35, oa_40, or_40, ow_40, os_40, show ((12 : Int32) ≤ nI (k)) = (12 ≤ k) from nk_le (a := 12) (b := k) (by omega) (by omega), show ¬ 12 ≤ k by omega, nk_neg (show k < 2147483648 by omega), nk_cl (show k < 2147483648 by omega), oa_35, or_35, oa_40, or_40, os_40, ow_40, e, hk, upz_upd, show nI k + (1 : Int32) = nI (k + 1) from nk_add k 1]
      exact go
    · have e : V 35 k = .ref p := e
      rw [e] at go
      simp only [isO_c, ax0, ex_cons, am_get, upz_at, true_and, and_true, Nat.reduceAdd, Nat.reduceLeDiff, Nat.reduceEqDiff, Nat.reduceSub, Int32.reduceOfInt, Int32.reduceAdd, Int32.reduceMul, Int32.reduceSub, ↓reduceIte, Int32.reduceLT, Int32.reduceLE, Int32.reduceToNatClampNeg, Nat.reduceMod, Nat.reduceLT, List.length_cons, List.length_nil, eq_self, true_or, or_true, and_self, implies_true, not_true_eq_false, not_false_eq_true, false_implies, true_implies, forall_const, st_aaloadx, st_aastorex, st_aastore_1x, st_aloadx, st_getfieldx, st_gotox, st_iconstx, st_if_icmpx, st_iincx, st_iloadx, am_put, am_nlg, kb_Desk_copyFrom_2, og_34_0, og_39_0, oa_34, oa_39, oa_35, or_35, ow_35, os_35, oa_40, or_40, ow_40, os_40, show ((12 : Int32) ≤ nI (k)) = (12 ≤ k) from nk_le (a := 12) (b := k) (by omega) (by omega), show ¬ 12 ≤ k by omega, nk_neg (show k < 2147483648 by omega), nk_cl (show k < 2147483648 by omega), oa_35, or_35, oa_40, or_40, os_40, ow_40, e, hk, upz_upd, show nI k + (1 : Int32) = nI (k + 1) from nk_add k 1]
      exact ⟨hs.isO _ _ _, go⟩
  · rw [jx_Desk_copyFrom_2]
    generalize hW : upz V 40 (ovr (V 40) (V 35) 0 12) = W
    have w0 : ∀ a, a ≠ 40 → W a = V a := fun a q => by subst hW; exact upz_ne _ _ q
    have w1 : W 40 = ovr (V 40) (V 35) 0 12 := by subst hW; exact upz_eq _ _ _
    have key : am_W kc_Desk_copyFrom (am_cl d) Q 52 [.ref 39, .ref 34, .int 0] [] (ov h (upz F 39 (upz (upz (F 39) 1 (nI X.1.1)) 3 (b2i X.1.2.2.2))) J (upz W 39 (upz (W 39) 2 (V 34 2)))) := by
      generalize hF2 : upz F 39 _ = F2
      have f0 : ∀ a, a ≠ 39 → F2 a = F a := fun a q => by subst hF2; exact upz_ne _ _ q
      have f1 : F2 39 1 = nI X.1.1 := by subst hF2; rw [upz_eq, upz_ne _ _ (by decide), upz_eq]
      have f3 : F2 39 3 = b2i X.1.2.2.2 := by subst hF2; rw [upz_eq, upz_eq]
      have f7 : F2 39 7 = F 39 7 := by subst hF2; rw [upz_eq, upz_ne _ _ (by decide), upz_ne _ _ (by decide)]
      generalize hW2 : upz W 39 _ = W2
      have x0 : ∀ a, a ≠ 39 → a ≠ 40 → W2 a = V a := fun a q q1 => by subst hW2; rw [upz_ne _ _ q]; exact w0 a q1
      have x1 : W2 40 = ovr (V 40) (V 35) 0 12 := by subst hW2; rw [upz_ne _ _ (by decide)]; exact w1
      have x2 : W2 39 2 = V 34 2 := by subst hW2; rw [upz_eq, upz_eq]
      have e0 : ov h F2 J W2 = ov h (upz F2 42 (ovr (F2 42) (F 37) 0 0)) J (upz W2 41 (ovr (W2 41) (V 36) 0 0)) := by rw [ovr_0, upz_self, ovr_0, upz_self]
      rw [e0]
      refine am_iter 12 (fun k => [.ref 39, .ref 34, .int (nI k)]) (fun k => ov h (upz F2 42 (ovr (F2 42) (F 37) 0 k)) J (upz W2 41 (ovr (W2 41) (V 36) 0 k))) (fun _ => True) (fun k hk hI go => ?_) (fun hI => ?_) 0 (by omega) trivial
      · rw [jx_Desk_copyFrom_52]
        have go := go trivial
        have ee := ovr_S (W2 41) (V 36) 0 k rfl
        rw [Nat.zero_add] at ee
        have ef := ovr_S (F2 42) (F 37) 0 k rfl
        rw [Nat.zero_add] at ef
        rw [← ee, ← ef] at go
        generalize hF3 : upz F2 42 (ovr (F2 42) (F 37) 0 k) = F3
        generalize hW3 : upz W2 41 (ovr (W2 41) (V 36) 0 k) = W3
        have g0 : F3 37 = F 37 := by subst hF3; rw [upz_ne _ _ (by decide)]; exact f0 _ (by decide)
        have y0 : W3 36 = V 36 := by subst hW3; rw [upz_ne _ _ (by decide)]; exact x0 _ (by decide) (by decide)
        have go : am_W kc_Desk_copyFrom (am_cl d) Q 52 [.ref 39, .ref 34, .int (nI (k + 1))] [] (ov h (upz F3 42 (upz (F3 42) k (F 37 k))) J (upz W3 41 (upz (W3 41) k (V 36 k)))) := by
          subst hF3
          subst hW3
          rw [upz_eq, upz_eq, upz_upd, upz_upd]
          exact go
        have hb : F 37 k = 0 ∨ F 37 k = 1 := d10 k hk
        rcases (d9 k hk).2 with e | ⟨p, R, e, hs⟩
        · have e : V 36 k = .null := e
          rw [e] at go
          rcases hb with g | g <;> rw [g] at go <;> simp only [isO_c, ax0, ex_cons, am_get, upz_at, true_and, and_true, Nat.reduceAdd, Nat.reduceLeDiff, Nat.reduceEqDiff, Nat.reduceSub, Int32.reduceOfInt, Int32.reduceAdd, Int32.reduceMul, Int32.reduceSub, ↓reduceIte, Int32.reduceLT, Int32.reduceLE, Int32.reduceToNatClampNeg, Nat.reduceMod, Nat.reduceLT, List.length_cons, List.length_nil, eq_self, true_or, or_true, and_self, implies_true, not_true_eq_false, not_false_eq_true, false_implies, true_implies, forall_const, st_aaloadx, st_aastorex, st_aastore_1x, st_aloadx, st_baloadx, st_bastorex, st_getfieldx, st_gotox, st_iconstx, st_if_icmpx, st_iincx, st_iloadx, am_put, am_nlg, kb_Desk_copyFrom_52, og_34_4, og_39_4, og_34_5, og_39_5, oa_34, oa_39, oa_36, or_36, ow_36, os_36, oa_37, or_37, ow_37, os_37, oa_41, or_41, ow_41, os_41, oa_42, or_42, ow_42, os_42, show ((12 : Int32) ≤ nI (k)) = (12 ≤ k) from nk_le (a := 12) (b := k) (by omega) (by omega), show ¬ 12 ≤ k by omega, nk_neg (show k < 2147483648 by omega), nk_cl (show k < 2147483648 by omega), oa_36, or_36, oa_41, or_41, os_41, ow_41, oa_37, or_37, oa_42, or_42, os_42, ow_42, y0, g0, osFy (a := 42) (b := 41) (by decide) (by decide) (by decide), e, g, hk, upz_upd, show nI k + (1 : Int32) = nI (k + 1) from nk_add k 1]
          · exact go
          · exact go
        · have e : V 36 k = .ref p := e
          rw [e] at go
          rcases hb with g | g <;> rw [g] at go <;> simp only [isO_c, ax0, ex_cons, am_get, upz_at, true_and, and_true, Nat.reduceAdd, Nat.reduceLeDiff, Nat.reduceEqDiff, Nat.reduceSub, Int32.reduceOfInt, Int32.reduceAdd, Int32.reduceMul, Int32.reduceSub, ↓reduceIte, Int32.reduceLT, Int32.reduceLE, Int32.reduceToNatClampNeg, Nat.reduceMod, Nat.reduceLT, List.length_cons, List.length_nil, eq_self, true_or, or_true, and_self, implies_true, not_true_eq_false, not_false_eq_true, false_implies, true_implies, forall_const, st_aaloadx, st_aastorex, st_aastore_1x, st_aloadx, st_baloadx, st_bastorex, st_getfieldx, st_gotox, st_iconstx, st_if_icmpx, st_iincx, st_iloadx, am_put, am_nlg, kb_Desk_copyFrom_52, og_34_4, og_39_4, og_34_5, og_39_5, oa_34, oa_39, oa_36, or_36, ow_36, os_36, oa_37, or_37, ow_37, os_37, oa_41, or_41, ow_41, os_41, oa_42, or_42, ow_42, os_42, show ((12 : Int32) ≤ nI (k)) = (12 ≤ k) from nk_le (a := 12) (b := k) (by omega) (by omega), show ¬ 12 ≤ k by omega, nk_neg (show k < 2147483648 by omega), nk_cl (show k < 2147483648 by omega), oa_36, or_36, oa_41, or_41, os_41, ow_41, oa_37, or_37, oa_42, or_42, os_42, ow_42, y0, g0, osFy (a := 42) (b := 41) (by decide) (by decide) (by decide), e, g, hk, upz_upd, show nI k + (1 : Int32) = nI (k + 1) from nk_add k 1]
          · exact ⟨hs.isO _ _ _, go⟩
          · exact ⟨hs.isO _ _ _, go⟩
      · rw [jx_Desk_copyFrom_52]
        generalize hF4 : upz F2 42 (ovr (F2 42) (F 37) 0 12) = F4
        generalize hW4 : upz W2 41 (ovr (W2 41) (V 36) 0 12) = W4
        have a0 : ∀ a, a ≠ 39 → a ≠ 42 → F4 a = F a := fun a q q1 => by subst hF4; rw [upz_ne _ _ q1]; exact f0 a q
        have a1 : F4 39 = F2 39 := by subst hF4; exact upz_ne _ _ (by decide)
        have a2 : ∀ i, i < 12 → F4 42 i = F 37 i := fun i hi => by subst hF4; rw [upz_eq]; exact ovr_in (Nat.zero_le i) (by omega)
        have b0 : ∀ a, a ≠ 39 → a ≠ 40 → a ≠ 41 → W4 a = V a := fun a q q1 q2 => by subst hW4; rw [upz_ne _ _ q2]; exact x0 a q q1
        have b1 : ∀ i, i < 12 → W4 40 i = V 35 i := fun i hi => by subst hW4; rw [upz_ne _ _ (by decide), x1]; exact ovr_in (Nat.zero_le i) (by omega)
        have b2 : ∀ i, i < 12 → W4 41 i = V 36 i := fun i hi => by subst hW4; rw [upz_eq]; exact ovr_in (Nat.zero_le i) (by omega)
        have b3 : W4 39 2 = V 34 2 := by subst hW4; rw [upz_ne _ _ (by decide)]; exact x2
        have c6 : F4 34 6 = nI X.2.1 := by rw [a0 34 (by decide) (by decide)]; exact d6
        simp only [isO_c, ax0, ex_cons, am_get, upz_at, true_and, and_true, Nat.reduceAdd, Nat.reduceLeDiff, Nat.reduceEqDiff, Nat.reduceSub, Int32.reduceOfInt, Int32.reduceAdd, Int32.reduceMul, Int32.reduceSub, ↓reduceIte, Int32.reduceLT, Int32.reduceLE, Int32.reduceToNatClampNeg, Nat.reduceMod, Nat.reduceLT, List.length_cons, List.length_nil, eq_self, true_or, or_true, and_self, implies_true, not_true_eq_false, not_false_eq_true, false_implies, true_implies, forall_const, st_aaloadx, st_aastorex, st_aastore_1x, st_aloadx, st_baloadx, st_bastorex, st_getfieldx, st_gotox, st_iconstx, st_if_icmpx, st_iincx, st_iloadx, st_putfieldx, st_return_x, am_put, am_nlg, kb_Desk_copyFrom_52, og_34_4, og_39_4, og_34_5, og_39_5, jx_Desk_copyFrom_88, kb_Desk_copyFrom_88, og_34_6, og_39_6, op_34_6, op_39_6, oa_34, oa_39, os_34, os_39, oa_36, or_36, ow_36, os_36, oa_37, or_37, ow_37, os_37, oa_41, or_41, ow_41, os_41, oa_42, or_42, ow_42, os_42, show ((12 : Int32) ≤ nI (12)) = (12 ≤ 12) from nk_le (a := 12) (b := 12) (by omega) (by omega), Nat.le_refl, c6]
        refine K _ _ (fun a q1 q2 => ?_) (fun a q1 q2 q3 => b0 a q1 q2 q3) ?_ ⟨⟨?_, d2, fun i hi => ?_⟩, ?_, ?_, ⟨?_, d7, fun i hi => ⟨?_, ?_⟩⟩, fun i hi => ⟨?_, ?_⟩, fun i hi => ?_⟩
        · rw [upz_ne _ _ q1]; exact a0 a q1 q2
        · rw [upz_eq, upz_ne _ _ (by decide), a1]; exact f7
        · rw [upz_eq, upz_ne _ _ (by decide), a1]; exact f1
        · rw [show (39 + 1 : Nat) = 40 from rfl, b1 i (by omega)]; exact d3 i hi
        · rw [b3]; exact d4
        · rw [upz_eq, upz_ne _ _ (by decide), a1]; exact f3
        · rw [upz_eq, upz_eq]
        · rw [show (39 + 2 : Nat) = 41 from rfl, b2 i (by omega)]; exact (d8 i hi).1
        · rw [upz_ne _ _ (by decide), show (39 + 3 : Nat) = 42 from rfl, a2 i (by omega)]; exact (d8 i hi).2
        · rw [show (39 + 1 : Nat) = 40 from rfl, b1 i hi]; exact (d9 i hi).1
        · rw [show (39 + 2 : Nat) = 41 from rfl, b2 i hi]; exact (d9 i hi).2
        · rw [upz_ne _ _ (by decide), show (39 + 3 : Nat) = 42 from rfl, a2 i hi]; exact d10 i hi
    have vv : V 34 2 = .null ∨ ∃ p, V 34 2 = .ref p := by
      cases ea : X.1.2.2.1
      · rw [ea, if_neg Bool.false_ne_true] at d4; exact Or.inl d4
      · rw [ea, if_pos rfl] at d4; obtain ⟨p, e, _⟩ := d4; exact Or.inr ⟨p, e⟩
    rcases vv with e | ⟨p, e⟩
    · rw [e] at key
      simp only [isO_c, ax0, ex_cons, am_get, upz_at, true_and, and_true, Nat.reduceAdd, Nat.reduceLeDiff, Nat.reduceEqDiff, Nat.reduceSub, Int32.reduceOfInt, Int32.reduceAdd, Int32.reduceMul, Int32.reduceSub, ↓reduceIte, Int32.reduceLT, Int32.reduceLE, Int32.reduceToNatClampNeg, Nat.reduceMod, Nat.reduceLT, List.length_cons, List.length_nil, eq_self, true_or, or_true, and_self, implies_true, not_true_eq_false, not_false_eq_true, false_implies, true_implies, forall_const, st_aaloadx, st_aastorex, st_aastore_1x, st_aloadx, st_getfieldx, st_gotox, st_goto_wx, st_iconstx, st_if_icmpx, st_iincx, st_iloadx, st_invokedynamicx, st_invokedynamic_1x, st_istorex, st_putfieldx, st_putstaticx, am_put, am_nlg, kb_Desk_copyFrom_2, og_34_0, og_39_0, jx_Desk_copyFrom_26, kb_Desk_copyFrom_26, og_34_1, og_39_1, op_34_1, op_39_1, og_34_2, og_39_2, op_34_2, op_39_2, og_34_3, og_39_3, op_34_3, op_39_3, oa_34, oa_39, os_34, os_39, osV_34, osV_39, oa_35, or_35, ow_35, os_35, oa_40, or_40, ow_40, os_40, show ((12 : Int32) ≤ nI (12)) = (12 ≤ 12) from nk_le (a := 12) (b := 12) (by omega) (by omega), Nat.le_refl, d1, d5, osFx, osVx, upz_upd, w0 34 (by decide), e]
      exact ⟨b2i_01 _, key⟩
    · rw [e] at key
      simp only [isO_c, ax0, ex_cons, am_get, upz_at, true_and, and_true, Nat.reduceAdd, Nat.reduceLeDiff, Nat.reduceEqDiff, Nat.reduceSub, Int32.reduceOfInt, Int32.reduceAdd, Int32.reduceMul, Int32.reduceSub, ↓reduceIte, Int32.reduceLT, Int32.reduceLE, Int32.reduceToNatClampNeg, Nat.reduceMod, Nat.reduceLT, List.length_cons, List.length_nil, eq_self, true_or, or_true, and_self, implies_true, not_true_eq_false, not_false_eq_true, false_implies, true_implies, forall_const, st_aaloadx, st_aastorex, st_aastore_1x, st_aloadx, st_getfieldx, st_gotox, st_goto_wx, st_iconstx, st_if_icmpx, st_iincx, st_iloadx, st_invokedynamicx, st_invokedynamic_1x, st_istorex, st_putfieldx, st_putstaticx, am_put, am_nlg, kb_Desk_copyFrom_2, og_34_0, og_39_0, jx_Desk_copyFrom_26, kb_Desk_copyFrom_26, og_34_1, og_39_1, op_34_1, op_39_1, og_34_2, og_39_2, op_34_2, op_39_2, og_34_3, og_39_3, op_34_3, op_39_3, oa_34, oa_39, os_34, os_39, osV_34, osV_39, oa_35, or_35, ow_35, os_35, oa_40, or_40, ow_40, os_40, show ((12 : Int32) ≤ nI (12)) = (12 ≤ 12) from nk_le (a := 12) (b := 12) (by omega) (by omega), Nat.le_refl, d1, d5, osFx, osVx, upz_upd, w0 34 (by decide), e]
      exact ⟨b2i_01 _, key⟩
set_option maxRecDepth 20000 in
theorem c_copy_43_34 {X : kT} (hX : DK h F V 34 X) (K : ∀ F' V', (∀ a, a ≠ 43 → a ≠ 43 + 3 → F' a = F a) → (∀ a, a ≠ 43 → a ≠ 43 + 1 → a ≠ 43 + 2 → V' a = V a) → F' 43 7 = F 43 7 → DK h F' V' 43 X → Q none (ov h F' J V')) : am_cl (d + 1) 96 [.ref 43, .ref 34] (ov h F J V) Q := by
  have hX0 := hX
  obtain ⟨⟨d1, d2, d3⟩, d4, d5, ⟨d6, d7, d8⟩, d9, d10⟩ := hX
  simp only [isO_c, ax0, ex_cons, am_get, upz_at, true_and, and_true, Nat.reduceAdd, Nat.reduceLeDiff, Nat.reduceEqDiff, Nat.reduceSub, Int32.reduceOfInt, Int32.reduceAdd, Int32.reduceMul, Int32.reduceSub, ↓reduceIte, Int32.reduceLT, Int32.reduceLE, Int32.reduceToNatClampNeg, Nat.reduceMod, Nat.reduceLT, List.length_cons, List.length_nil, eq_self, true_or, or_true, and_self, implies_true, not_true_eq_false, not_false_eq_true, false_implies, true_implies, forall_const, st_goto_wx, st_iconstx, st_istorex, am_put, am_nlg, kb_Desk_copyFrom_0, cx_Desk_copyFrom]
  have e0 : ov h F J V = ov h F J (upz V 44 (ovr (V 44) (V 35) 0 0)) := by rw [ovr_0, upz_self]
  rw [e0]
  refine am_iter 12 (fun k => [.ref 43, .ref 34, .int (nI k)]) (fun k => ov h F J (upz V 44 (ovr (V 44) (V 35) 0 k))) (fun _ => True) (fun k hk hI go => ?_) (fun hI => ?_) 0 (by omega) trivial
  · rw [jx_Desk_copyFrom_2]
    have go := go trivial
    have ee := ovr_S (V 44) (V 35) 0 k rfl
    rw [Nat.zero_add] at ee
    rw [← ee] at go
    rcases (d9 k hk).1 with e | ⟨p, R, e, hs⟩
    · have e : V 35 k = .null := e
      rw [e] at go
      simp only [isO_c, ax0, ex_cons, am_get, upz_at, true_and, and_true, Nat.reduceAdd, Nat.reduceLeDiff, Nat.reduceEqDiff, Nat.reduceSub, Int32.reduceOfInt, Int32.reduceAdd, Int32.reduceMul, Int32.reduceSub, ↓reduceIte, Int32.reduceLT, Int32.reduceLE, Int32.reduceToNatClampNeg, Nat.reduceMod, Nat.reduceLT, List.length_cons, List.length_nil, eq_self, true_or, or_true, and_self, implies_true, not_true_eq_false, not_false_eq_true, false_implies, true_implies, forall_const, st_aaloadx, st_aastorex, st_aastore_1x, st_aloadx, st_getfieldx, st_gotox, st_iconstx, st_if_icmpx, st_iincx, st_iloadx, am_put, am_nlg, kb_Desk_copyFrom_2, og_34_0, og_43_0, oa_34, oa_43, oa_35, or_35, ow_35, os_35, oa_44, or_44, ow_44, os_44, show ((12 : Int32) ≤ nI (k)) = (12 ≤ k) from nk_le (a := 12) (b := k) (by omega) (by omega), show ¬ 12 ≤ k by omega, nk_neg (show k < 2147483648 by omega), nk_cl (show k < 2147483648 by omega), oa_35, or_35, oa_44, or_44, os_44, ow_44, e, hk, upz_upd, show nI k + (1 : Int32) = nI (k + 1) from nk_add k 1]
      exact go
    · have e : V 35 k = .ref p := e
      rw [e] at go
      simp only [isO_c, ax0, ex_cons, am_get, upz_at, true_and, and_true, Nat.reduceAdd, Nat.reduceLeDiff, Nat.reduceEqDiff, Nat.reduceSub, Int32.reduceOfInt, Int32.reduceAdd, Int32.reduceMul, Int32.reduceSub, ↓reduceIte, Int32.reduceLT, Int32.reduceLE, Int32.reduceToNatClampNeg, Nat.reduceMod, Nat.reduceLT, List.length_cons, List.length_nil, eq_self, true_or, or_true, and_self, implies_true, not_true_eq_false, not_false_eq_true, false_implies, true_implies, forall_const, st_aaloadx, st_aastorex, st_aastore_1x, st_aloadx, st_getfieldx, st_gotox, st_iconstx, st_if_icmpx, st_iincx, st_iloadx, am_put, am_nlg, kb_Desk_copyFrom_2, og_34_0, og_43_0, oa_34, oa_43, oa_35, or_35, ow_35, os_35, oa_44, or_44, ow_44, os_44, show ((12 : Int32) ≤ nI (k)) = (12 ≤ k) from nk_le (a := 12) (b := k) (by omega) (by omega), show ¬ 12 ≤ k by omega, nk_neg (show k < 2147483648 by omega), nk_cl (show k < 2147483648 by omega), oa_35, or_35, oa_44, or_44, os_44, ow_44, e, hk, upz_upd, show nI k + (1 : Int32) = nI (k + 1) from nk_add k 1]
      exact ⟨hs.isO _ _ _, go⟩
  · rw [jx_Desk_copyFrom_2]
    generalize hW : upz V 44 (ovr (V 44) (V 35) 0 12) = W
    have w0 : ∀ a, a ≠ 44 → W a = V a := fun a q => by subst hW; exact upz_ne _ _ q
    have w1 : W 44 = ovr (V 44) (V 35) 0 12 := by subst hW; exact upz_eq _ _ _
    have key : am_W kc_Desk_copyFrom (am_cl d) Q 52 [.ref 43, .ref 34, .int 0] [] (ov h (upz F 43 (upz (upz (F 43) 1 (nI X.1.1)) 3 (b2i X.1.2.2.2))) J (upz W 43 (upz (W 43) 2 (V 34 2)))) := by
      generalize hF2 : upz F 43 _ = F2
      have f0 : ∀ a, a ≠ 43 → F2 a = F a := fun a q => by subst hF2; exact upz_ne _ _ q
      have f1 : F2 43 1 = nI X.1.1 := by subst hF2; rw [upz_eq, upz_ne _ _ (by decide), upz_eq]
      have f3 : F2 43 3 = b2i X.1.2.2.2 := by subst hF2; rw [upz_eq, upz_eq]
      have f7 : F2 43 7 = F 43 7 := by subst hF2; rw [upz_eq, upz_ne _ _ (by decide), upz_ne _ _ (by decide)]
      generalize hW2 : upz W 43 _ = W2
      have x0 : ∀ a, a ≠ 43 → a ≠ 44 → W2 a = V a := fun a q q1 => by subst hW2; rw [upz_ne _ _ q]; exact w0 a q1
      have x1 : W2 44 = ovr (V 44) (V 35) 0 12 := by subst hW2; rw [upz_ne _ _ (by decide)]; exact w1
      have x2 : W2 43 2 = V 34 2 := by subst hW2; rw [upz_eq, upz_eq]
      have e0 : ov h F2 J W2 = ov h (upz F2 46 (ovr (F2 46) (F 37) 0 0)) J (upz W2 45 (ovr (W2 45) (V 36) 0 0)) := by rw [ovr_0, upz_self, ovr_0, upz_self]
      rw [e0]
      refine am_iter 12 (fun k => [.ref 43, .ref 34, .int (nI k)]) (fun k => ov h (upz F2 46 (ovr (F2 46) (F 37) 0 k)) J (upz W2 45 (ovr (W2 45) (V 36) 0 k))) (fun _ => True) (fun k hk hI go => ?_) (fun hI => ?_) 0 (by omega) trivial
      · rw [jx_Desk_copyFrom_52]
        have go := go trivial
        have ee := ovr_S (W2 45) (V 36) 0 k rfl
        rw [Nat.zero_add] at ee
        have ef := ovr_S (F2 46) (F 37) 0 k rfl
        rw [Nat.zero_add] at ef
        rw [← ee, ← ef] at go
        generalize hF3 : upz F2 46 (ovr (F2 46) (F 37) 0 k) = F3
        generalize hW3 : upz W2 45 (ovr (W2 45) (V 36) 0 k) = W3
        have g0 : F3 37 = F 37 := by subst hF3; rw [upz_ne _ _ (by decide)]; exact f0 _ (by decide)
        have y0 : W3 36 = V 36 := by subst hW3; rw [upz_ne _ _ (by decide)]; exact x0 _ (by decide) (by decide)
        have go : am_W kc_Desk_copyFrom (am_cl d) Q 52 [.ref 43, .ref 34, .int (nI (k + 1))] [] (ov h (upz F3 46 (upz (F3 46) k (F 37 k))) J (upz W3 45 (upz (W3 45) k (V 36 k)))) := by
          subst hF3
          subst hW3
          rw [upz_eq, upz_eq, upz_upd, upz_upd]
          exact go
        have hb : F 37 k = 0 ∨ F 37 k = 1 := d10 k hk
        rcases (d9 k hk).2 with e | ⟨p, R, e, hs⟩
        · have e : V 36 k = .null := e
          rw [e] at go
          rcases hb with g | g <;> rw [g] at go <;> simp only [isO_c, ax0, ex_cons, am_get, upz_at, true_and, and_true, Nat.reduceAdd, Nat.reduceLeDiff, Nat.reduceEqDiff, Nat.reduceSub, Int32.reduceOfInt, Int32.reduceAdd, Int32.reduceMul, Int32.reduceSub, ↓reduceIte, Int32.reduceLT, Int32.reduceLE, Int32.reduceToNatClampNeg, Nat.reduceMod, Nat.reduceLT, List.length_cons, List.length_nil, eq_self, true_or, or_true, and_self, implies_true, not_true_eq_false, not_false_eq_true, false_implies, true_implies, forall_const, st_aaloadx, st_aastorex, st_aastore_1x, st_aloadx, st_baloadx, st_bastorex, st_getfieldx, st_gotox, st_iconstx, st_if_icmpx, st_iincx, st_iloadx, am_put, am_nlg, kb_Desk_copyFrom_52, og_34_4, og_43_4, og_34_5, og_43_5, oa_34, oa_43, oa_36, or_36, ow_36, os_36, oa_37, or_37, ow_37, os_37, oa_45, or_45, ow_45, os_45, oa_46, or_46, ow_46, os_46, show ((12 : Int32) ≤ nI (k)) = (12 ≤ k) from nk_le (a := 12) (b := k) (by omega) (by omega), show ¬ 12 ≤ k by omega, nk_neg (show k < 2147483648 by omega), nk_cl (show k < 2147483648 by omega), oa_36, or_36, oa_45, or_45, os_45, ow_45, oa_37, or_37, oa_46, or_46, os_46, ow_46, y0, g0, osFy (a := 46) (b := 45) (by decide) (by decide) (by decide), e, g, hk, upz_upd, show nI k + (1 : Int32) = nI (k + 1) from nk_add k 1]
          · exact go
          · exact go
        · have e : V 36 k = .ref p := e
          rw [e] at go
          rcases hb with g | g <;> rw [g] at go <;> simp only [isO_c, ax0, ex_cons, am_get, upz_at, true_and, and_true, Nat.reduceAdd, Nat.reduceLeDiff, Nat.reduceEqDiff, Nat.reduceSub, Int32.reduceOfInt, Int32.reduceAdd, Int32.reduceMul, Int32.reduceSub, ↓reduceIte, Int32.reduceLT, Int32.reduceLE, Int32.reduceToNatClampNeg, Nat.reduceMod, Nat.reduceLT, List.length_cons, List.length_nil, eq_self, true_or, or_true, and_self, implies_true, not_true_eq_false, not_false_eq_true, false_implies, true_implies, forall_const, st_aaloadx, st_aastorex, st_aastore_1x, st_aloadx, st_baloadx, st_bastorex, st_getfieldx, st_gotox, st_iconstx, st_if_icmpx, st_iincx, st_iloadx, am_put, am_nlg, kb_Desk_copyFrom_52, og_34_4, og_43_4, og_34_5, og_43_5, oa_34, oa_43, oa_36, or_36, ow_36, os_36, oa_37, or_37, ow_37, os_37, oa_45, or_45, ow_45, os_45, oa_46, or_46, ow_46, os_46, show ((12 : Int32) ≤ nI (k)) = (12 ≤ k) from nk_le (a := 12) (b := k) (by omega) (by omega), show ¬ 12 ≤ k by omega, nk_neg (show k < 2147483648 by omega), nk_cl (show k < 2147483648 by omega), oa_36, or_36, oa_45, or_45, os_45, ow_45, oa_37, or_37, oa_46, or_46, os_46, ow_46, y0, g0, osFy (a := 46) (b := 45) (by decide) (by decide) (by decide), e, g, hk, upz_upd, show nI k + (1 : Int32) = nI (k + 1) from nk_add k 1]
          · exact ⟨hs.isO _ _ _, go⟩
          · exact ⟨hs.isO _ _ _, go⟩
      · rw [jx_Desk_copyFrom_52]
        generalize hF4 : upz F2 46 (ovr (F2 46) (F 37) 0 12) = F4
        generalize hW4 : upz W2 45 (ovr (W2 45) (V 36) 0 12) = W4
        have a0 : ∀ a, a ≠ 43 → a ≠ 46 → F4 a = F a := fun a q q1 => by subst hF4; rw [upz_ne _ _ q1]; exact f0 a q
        have a1 : F4 43 = F2 43 := by subst hF4; exact upz_ne _ _ (by decide)
        have a2 : ∀ i, i < 12 → F4 46 i = F 37 i := fun i hi => by subst hF4; rw [upz_eq]; exact ovr_in (Nat.zero_le i) (by omega)
        have b0 : ∀ a, a ≠ 43 → a ≠ 44 → a ≠ 45 → W4 a = V a := fun a q q1 q2 => by subst hW4; rw [upz_ne _ _ q2]; exact x0 a q q1
        have b1 : ∀ i, i < 12 → W4 44 i = V 35 i := fun i hi => by subst hW4; rw [upz_ne _ _ (by decide), x1]; exact ovr_in (Nat.zero_le i) (by omega)
        have b2 : ∀ i, i < 12 → W4 45 i = V 36 i := fun i hi => by subst hW4; rw [upz_eq]; exact ovr_in (Nat.zero_le i) (by omega)
        have b3 : W4 43 2 = V 34 2 := by subst hW4; rw [upz_ne _ _ (by decide)]; exact x2
        have c6 : F4 34 6 = nI X.2.1 := by rw [a0 34 (by decide) (by decide)]; exact d6
        simp only [isO_c, ax0, ex_cons, am_get, upz_at, true_and, and_true, Nat.reduceAdd, Nat.reduceLeDiff, Nat.reduceEqDiff, Nat.reduceSub, Int32.reduceOfInt, Int32.reduceAdd, Int32.reduceMul, Int32.reduceSub, ↓reduceIte, Int32.reduceLT, Int32.reduceLE, Int32.reduceToNatClampNeg, Nat.reduceMod, Nat.reduceLT, List.length_cons, List.length_nil, eq_self, true_or, or_true, and_self, implies_true, not_true_eq_false, not_false_eq_true, false_implies, true_implies, forall_const, st_aaloadx, st_aastorex, st_aastore_1x, st_aloadx, st_baloadx, st_bastorex, st_getfieldx, st_gotox, st_iconstx, st_if_icmpx, st_iincx, st_iloadx, st_putfieldx, st_return_x, am_put, am_nlg, kb_Desk_copyFrom_52, og_34_4, og_43_4, og_34_5, og_43_5, jx_Desk_copyFrom_88, kb_Desk_copyFrom_88, og_34_6, og_43_6, op_34_6, op_43_6, oa_34, oa_43, os_34, os_43, oa_36, or_36, ow_36, os_36, oa_37, or_37, ow_37, os_37, oa_45, or_45, ow_45, os_45, oa_46, or_46, ow_46, os_46, show ((12 : Int32) ≤ nI (12)) = (12 ≤ 12) from nk_le (a := 12) (b := 12) (by omega) (by omega), Nat.le_refl, c6]
        refine K _ _ (fun a q1 q2 => ?_) (fun a q1 q2 q3 => b0 a q1 q2 q3) ?_ ⟨⟨?_, d2, fun i hi => ?_⟩, ?_, ?_, ⟨?_, d7, fun i hi => ⟨?_, ?_⟩⟩, fun i hi => ⟨?_, ?_⟩, fun i hi => ?_⟩
        · rw [upz_ne _ _ q1]; exact a0 a q1 q2
        · rw [upz_eq, upz_ne _ _ (by decide), a1]; exact f7
        · rw [upz_eq, upz_ne _ _ (by decide), a1]; exact f1
        · rw [show (43 + 1 : Nat) = 44 from rfl, b1 i (by omega)]; exact d3 i hi
        · rw [b3]; exact d4
        · rw [upz_eq, upz_ne _ _ (by decide), a1]; exact f3
        · rw [upz_eq, upz_eq]
        · rw [show (43 + 2 : Nat) = 45 from rfl, b2 i (by omega)]; exact (d8 i hi).1
        · rw [upz_ne _ _ (by decide), show (43 + 3 : Nat) = 46 from rfl, a2 i (by omega)]; exact (d8 i hi).2
        · rw [show (43 + 1 : Nat) = 44 from rfl, b1 i hi]; exact (d9 i hi).1
        · rw [show (43 + 2 : Nat) = 45 from rfl, b2 i hi]; exact (d9 i hi).2
        · rw [upz_ne _ _ (by decide), show (43 + 3 : Nat) = 46 from rfl, a2 i hi]; exact d10 i hi
    have vv : V 34 2 = .null ∨ ∃ p, V 34 2 = .ref p := by
      cases ea : X.1.2.2.1
      · rw [ea, if_neg Bool.false_ne_true] at d4; exact Or.inl d4
      · rw [ea, if_pos rfl] at d4; obtain ⟨p, e, _⟩ := d4; exact Or.inr ⟨p, e⟩
    rcases vv with e | ⟨p, e⟩
    · rw [e] at key
      simp only [isO_c, ax0, ex_cons, am_get, upz_at, true_and, and_true, Nat.reduceAdd, Nat.reduceLeDiff, Nat.reduceEqDiff, Nat.reduceSub, Int32.reduceOfInt, Int32.reduceAdd, Int32.reduceMul, Int32.reduceSub, ↓reduceIte, Int32.reduceLT, Int32.reduceLE, Int32.reduceToNatClampNeg, Nat.reduceMod, Nat.reduceLT, List.length_cons, List.length_nil, eq_self, true_or, or_true, and_self, implies_true, not_true_eq_false, not_false_eq_true, false_implies, true_implies, forall_const, st_aaloadx, st_aastorex, st_aastore_1x, st_aloadx, st_getfieldx, st_gotox, st_goto_wx, st_iconstx, st_if_icmpx, st_iincx, st_iloadx, st_invokedynamicx, st_invokedynamic_1x, st_istorex, st_putfieldx, st_putstaticx, am_put, am_nlg, kb_Desk_copyFrom_2, og_34_0, og_43_0, jx_Desk_copyFrom_26, kb_Desk_copyFrom_26, og_34_1, og_43_1, op_34_1, op_43_1, og_34_2, og_43_2, op_34_2, op_43_2, og_34_3, og_43_3, op_34_3, op_43_3, oa_34, oa_43, os_34, os_43, osV_34, osV_43, oa_35, or_35, ow_35, os_35, oa_44, or_44, ow_44, os_44, show ((12 : Int32) ≤ nI (12)) = (12 ≤ 12) from nk_le (a := 12) (b := 12) (by omega) (by omega), Nat.le_refl, d1, d5, osFx, osVx, upz_upd, w0 34 (by decide), e]
      exact ⟨b2i_01 _, key⟩
    · rw [e] at key
      simp only [isO_c, ax0, ex_cons, am_get, upz_at, true_and, and_true, Nat.reduceAdd, Nat.reduceLeDiff, Nat.reduceEqDiff, Nat.reduceSub, Int32.reduceOfInt, Int32.reduceAdd, Int32.reduceMul, Int32.reduceSub, ↓reduceIte, Int32.reduceLT, Int32.reduceLE, Int32.reduceToNatClampNeg, Nat.reduceMod, Nat.reduceLT, List.length_cons, List.length_nil, eq_self, true_or, or_true, and_self, implies_true, not_true_eq_false, not_false_eq_true, false_implies, true_implies, forall_const, st_aaloadx, st_aastorex, st_aastore_1x, st_aloadx, st_getfieldx, st_gotox, st_goto_wx, st_iconstx, st_if_icmpx, st_iincx, st_iloadx, st_invokedynamicx, st_invokedynamic_1x, st_istorex, st_putfieldx, st_putstaticx, am_put, am_nlg, kb_Desk_copyFrom_2, og_34_0, og_43_0, jx_Desk_copyFrom_26, kb_Desk_copyFrom_26, og_34_1, og_43_1, op_34_1, op_43_1, og_34_2, og_43_2, op_34_2, op_43_2, og_34_3, og_43_3, op_34_3, op_43_3, oa_34, oa_43, os_34, os_43, osV_34, osV_43, oa_35, or_35, ow_35, os_35, oa_44, or_44, ow_44, os_44, show ((12 : Int32) ≤ nI (12)) = (12 ≤ 12) from nk_le (a := 12) (b := 12) (by omega) (by omega), Nat.le_refl, d1, d5, osFx, osVx, upz_upd, w0 34 (by decide), e]
      exact ⟨b2i_01 _, key⟩
set_option maxRecDepth 20000 in
theorem c_copy_34_39 {X : kT} (hX : DK h F V 39 X) (K : ∀ F' V', (∀ a, a ≠ 34 → a ≠ 34 + 3 → F' a = F a) → (∀ a, a ≠ 34 → a ≠ 34 + 1 → a ≠ 34 + 2 → V' a = V a) → F' 34 7 = F 34 7 → DK h F' V' 34 X → Q none (ov h F' J V')) : am_cl (d + 1) 96 [.ref 34, .ref 39] (ov h F J V) Q := by
  have hX0 := hX
  obtain ⟨⟨d1, d2, d3⟩, d4, d5, ⟨d6, d7, d8⟩, d9, d10⟩ := hX
  simp only [isO_c, ax0, ex_cons, am_get, upz_at, true_and, and_true, Nat.reduceAdd, Nat.reduceLeDiff, Nat.reduceEqDiff, Nat.reduceSub, Int32.reduceOfInt, Int32.reduceAdd, Int32.reduceMul, Int32.reduceSub, ↓reduceIte, Int32.reduceLT, Int32.reduceLE, Int32.reduceToNatClampNeg, Nat.reduceMod, Nat.reduceLT, List.length_cons, List.length_nil, eq_self, true_or, or_true, and_self, implies_true, not_true_eq_false, not_false_eq_true, false_implies, true_implies, forall_const, st_goto_wx, st_iconstx, st_istorex, am_put, am_nlg, kb_Desk_copyFrom_0, cx_Desk_copyFrom]
  have e0 : ov h F J V = ov h F J (upz V 35 (ovr (V 35) (V 40) 0 0)) := by rw [ovr_0, upz_self]
  rw [e0]
  refine am_iter 12 (fun k => [.ref 34, .ref 39, .int (nI k)]) (fun k => ov h F J (upz V 35 (ovr (V 35) (V 40) 0 k))) (fun _ => True) (fun k hk hI go => ?_) (fun hI => ?_) 0 (by omega) trivial
  · rw [jx_Desk_copyFrom_2]
    have go := go trivial
    have ee := ovr_S (V 35) (V 40) 0 k rfl
    rw [Nat.zero_add] at ee
    rw [← ee] at go
    rcases (d9 k hk).1 with e | ⟨p, R, e, hs⟩
    · have e : V 40 k = .null := e
      rw [e] at go
      simp only [isO_c, ax0, ex_cons, am_get, upz_at, true_and, and_true, Nat.reduceAdd, Nat.reduceLeDiff, Nat.reduceEqDiff, Nat.reduceSub, Int32.reduceOfInt, Int32.reduceAdd, Int32.reduceMul, Int32.reduceSub, ↓reduceIte, Int32.reduceLT, Int32.reduceLE, Int32.reduceToNatClampNeg, Nat.reduceMod, Nat.reduceLT, List.length_cons, List.length_nil, eq_self, true_or, or_true, and_self, implies_true, not_true_eq_false, not_false_eq_true, false_implies, true_implies, forall_const, st_aaloadx, st_aastorex, st_aastore_1x, st_aloadx, st_getfieldx, st_gotox, st_iconstx, st_if_icmpx, st_iincx, st_iloadx, am_put, am_nlg, kb_Desk_copyFrom_2, og_34_0, og_39_0, oa_34, oa_39, oa_35, or_35, ow_35, os_35, oa_40, or_40, ow_40, os_40, show ((12 : Int32) ≤ nI (k)) = (12 ≤ k) from nk_le (a := 12) (b := k) (by omega) (by omega), show ¬ 12 ≤ k by omega, nk_neg (show k < 2147483648 by omega), nk_cl (show k < 2147483648 by omega), oa_40, or_40, oa_35, or_35, os_35, ow_35, e, hk, upz_upd, show nI k + (1 : Int32) = nI (k + 1) from nk_add k 1]
      exact go
    · have e : V 40 k = .ref p := e
      rw [e] at go
      simp only [isO_c, ax0, ex_cons, am_get, upz_at, true_and, and_true, Nat.reduceAdd, Nat.reduceLeDiff, Nat.reduceEqDiff, Nat.reduceSub, Int32.reduceOfInt, Int32.reduceAdd, Int32.reduceMul, Int32.reduceSub, ↓reduceIte, Int32.reduceLT, Int32.reduceLE, Int32.reduceToNatClampNeg, Nat.reduceMod, Nat.reduceLT, List.length_cons, List.length_nil, eq_self, true_or, or_true, and_self, implies_true, not_true_eq_false, not_false_eq_true, false_implies, true_implies, forall_const, st_aaloadx, st_aastorex, st_aastore_1x, st_aloadx, st_getfieldx, st_gotox, st_iconstx, st_if_icmpx, st_iincx, st_iloadx, am_put, am_nlg, kb_Desk_copyFrom_2, og_34_0, og_39_0, oa_34, oa_39, oa_35, or_35, ow_35, os_35, oa_40, or_40, ow_40, os_40, show ((12 : Int32) ≤ nI (k)) = (12 ≤ k) from nk_le (a := 12) (b := k) (by omega) (by omega), show ¬ 12 ≤ k by omega, nk_neg (show k < 2147483648 by omega), nk_cl (show k < 2147483648 by omega), oa_40, or_40, oa_35, or_35, os_35, ow_35, e, hk, upz_upd, show nI k + (1 : Int32) = nI (k + 1) from nk_add k 1]
      exact ⟨hs.isO _ _ _, go⟩
  · rw [jx_Desk_copyFrom_2]
    generalize hW : upz V 35 (ovr (V 35) (V 40) 0 12) = W
    have w0 : ∀ a, a ≠ 35 → W a = V a := fun a q => by subst hW; exact upz_ne _ _ q
    have w1 : W 35 = ovr (V 35) (V 40) 0 12 := by subst hW; exact upz_eq _ _ _
    have key : am_W kc_Desk_copyFrom (am_cl d) Q 52 [.ref 34, .ref 39, .int 0] [] (ov h (upz F 34 (upz (upz (F 34) 1 (nI X.1.1)) 3 (b2i X.1.2.2.2))) J (upz W 34 (upz (W 34) 2 (V 39 2)))) := by
      generalize hF2 : upz F 34 _ = F2
      have f0 : ∀ a, a ≠ 34 → F2 a = F a := fun a q => by subst hF2; exact upz_ne _ _ q
      have f1 : F2 34 1 = nI X.1.1 := by subst hF2; rw [upz_eq, upz_ne _ _ (by decide), upz_eq]
      have f3 : F2 34 3 = b2i X.1.2.2.2 := by subst hF2; rw [upz_eq, upz_eq]
      have f7 : F2 34 7 = F 34 7 := by subst hF2; rw [upz_eq, upz_ne _ _ (by decide), upz_ne _ _ (by decide)]
      generalize hW2 : upz W 34 _ = W2
      have x0 : ∀ a, a ≠ 34 → a ≠ 35 → W2 a = V a := fun a q q1 => by subst hW2; rw [upz_ne _ _ q]; exact w0 a q1
      have x1 : W2 35 = ovr (V 35) (V 40) 0 12 := by subst hW2; rw [upz_ne _ _ (by decide)]; exact w1
      have x2 : W2 34 2 = V 39 2 := by subst hW2; rw [upz_eq, upz_eq]
      have e0 : ov h F2 J W2 = ov h (upz F2 37 (ovr (F2 37) (F 42) 0 0)) J (upz W2 36 (ovr (W2 36) (V 41) 0 0)) := by rw [ovr_0, upz_self, ovr_0, upz_self]
      rw [e0]
      refine am_iter 12 (fun k => [.ref 34, .ref 39, .int (nI k)]) (fun k => ov h (upz F2 37 (ovr (F2 37) (F 42) 0 k)) J (upz W2 36 (ovr (W2 36) (V 41) 0 k))) (fun _ => True) (fun k hk hI go => ?_) (fun hI => ?_) 0 (by omega) trivial
      · rw [jx_Desk_copyFrom_52]
        have go := go trivial
        have ee := ovr_S (W2 36) (V 41) 0 k rfl
        rw [Nat.zero_add] at ee
        have ef := ovr_S (F2 37) (F 42) 0 k rfl
        rw [Nat.zero_add] at ef
        rw [← ee, ← ef] at go
        generalize hF3 : upz F2 37 (ovr (F2 37) (F 42) 0 k) = F3
        generalize hW3 : upz W2 36 (ovr (W2 36) (V 41) 0 k) = W3
        have g0 : F3 42 = F 42 := by subst hF3; rw [upz_ne _ _ (by decide)]; exact f0 _ (by decide)
        have y0 : W3 41 = V 41 := by subst hW3; rw [upz_ne _ _ (by decide)]; exact x0 _ (by decide) (by decide)
        have go : am_W kc_Desk_copyFrom (am_cl d) Q 52 [.ref 34, .ref 39, .int (nI (k + 1))] [] (ov h (upz F3 37 (upz (F3 37) k (F 42 k))) J (upz W3 36 (upz (W3 36) k (V 41 k)))) := by
          subst hF3
          subst hW3
          rw [upz_eq, upz_eq, upz_upd, upz_upd]
          exact go
        have hb : F 42 k = 0 ∨ F 42 k = 1 := d10 k hk
        rcases (d9 k hk).2 with e | ⟨p, R, e, hs⟩
        · have e : V 41 k = .null := e
          rw [e] at go
          rcases hb with g | g <;> rw [g] at go <;> simp only [isO_c, ax0, ex_cons, am_get, upz_at, true_and, and_true, Nat.reduceAdd, Nat.reduceLeDiff, Nat.reduceEqDiff, Nat.reduceSub, Int32.reduceOfInt, Int32.reduceAdd, Int32.reduceMul, Int32.reduceSub, ↓reduceIte, Int32.reduceLT, Int32.reduceLE, Int32.reduceToNatClampNeg, Nat.reduceMod, Nat.reduceLT, List.length_cons, List.length_nil, eq_self, true_or, or_true, and_self, implies_true, not_true_eq_false, not_false_eq_true, false_implies, true_implies, forall_const, st_aaloadx, st_aastorex, st_aastore_1x, st_aloadx, st_baloadx, st_bastorex, st_getfieldx, st_gotox, st_iconstx, st_if_icmpx, st_iincx, st_iloadx, am_put, am_nlg, kb_Desk_copyFrom_52, og_34_4, og_39_4, og_34_5, og_39_5, oa_34, oa_39, oa_36, or_36, ow_36, os_36, oa_37, or_37, ow_37, os_37, oa_41, or_41, ow_41, os_41, oa_42, or_42, ow_42, os_42, show ((12 : Int32) ≤ nI (k)) = (12 ≤ k) from nk_le (a := 12) (b := k) (by omega) (by omega), show ¬ 12 ≤ k by omega, nk_neg (show k < 2147483648 by omega), nk_cl (show k < 2147483648 by omega), oa_41, or_41, oa_36, or_36, os_36, ow_36, oa_42, or_42, oa_37, or_37, os_37, ow_37, y0, g0, osFy (a := 37) (b := 36) (by decide) (by decide) (by decide), e, g, hk, upz_upd, show nI k + (1 : Int32) = nI (k + 1) from nk_add k 1]
          · exact go
          · exact go
        · have e : V 41 k = .ref p := e
          rw [e] at go
          rcases hb with g | g <;> rw [g] at go <;> simp only [isO_c, ax0, ex_cons, am_get, upz_at, true_and, and_true, Nat.reduceAdd, Nat.reduceLeDiff, Nat.reduceEqDiff, Nat.reduceSub, Int32.reduceOfInt, Int32.reduceAdd, Int32.reduceMul, Int32.reduceSub, ↓reduceIte, Int32.reduceLT, Int32.reduceLE, Int32.reduceToNatClampNeg, Nat.reduceMod, Nat.reduceLT, List.length_cons, List.length_nil, eq_self, true_or, or_true, and_self, implies_true, not_true_eq_false, not_false_eq_true, false_implies, true_implies, forall_const, st_aaloadx, st_aastorex, st_aastore_1x, st_aloadx, st_baloadx, st_bastorex, st_getfieldx, st_gotox, st_iconstx, st_if_icmpx, st_iincx, st_iloadx, am_put, am_nlg, kb_Desk_copyFrom_52, og_34_4, og_39_4, og_34_5, og_39_5, oa_34, oa_39, oa_36, or_36, ow_36, os_36, oa_37, or_37, ow_37, os_37, oa_41, or_41, ow_41, os_41, oa_42, or_42, ow_42, os_42, show ((12 : Int32) ≤ nI (k)) = (12 ≤ k) from nk_le (a := 12) (b := k) (by omega) (by omega), show ¬ 12 ≤ k by omega, nk_neg (show k < 2147483648 by omega), nk_cl (show k < 2147483648 by omega), oa_41, or_41, oa_36, or_36, os_36, ow_36, oa_42, or_42, oa_37, or_37, os_37, ow_37, y0, g0, osFy (a := 37) (b := 36) (by decide) (by decide) (by decide), e, g, hk, upz_upd, show nI k + (1 : Int32) = nI (k + 1) from nk_add k 1]
          · exact ⟨hs.isO _ _ _, go⟩
          · exact ⟨hs.isO _ _ _, go⟩
      · rw [jx_Desk_copyFrom_52]
        generalize hF4 : upz F2 37 (ovr (F2 37) (F 42) 0 12) = F4
        generalize hW4 : upz W2 36 (ovr (W2 36) (V 41) 0 12) = W4
        have a0 : ∀ a, a ≠ 34 → a ≠ 37 → F4 a = F a := fun a q q1 => by subst hF4; rw [upz_ne _ _ q1]; exact f0 a q
        have a1 : F4 34 = F2 34 := by subst hF4; exact upz_ne _ _ (by decide)
        have a2 : ∀ i, i < 12 → F4 37 i = F 42 i := fun i hi => by subst hF4; rw [upz_eq]; exact ovr_in (Nat.zero_le i) (by omega)
        have b0 : ∀ a, a ≠ 34 → a ≠ 35 → a ≠ 36 → W4 a = V a := fun a q q1 q2 => by subst hW4; rw [upz_ne _ _ q2]; exact x0 a q q1
        have b1 : ∀ i, i < 12 → W4 35 i = V 40 i := fun i hi => by subst hW4; rw [upz_ne _ _ (by decide), x1]; exact ovr_in (Nat.zero_le i) (by omega)
        have b2 : ∀ i, i < 12 → W4 36 i = V 41 i := fun i hi => by subst hW4; rw [upz_eq]; exact ovr_in (Nat.zero_le i) (by omega)
        have b3 : W4 34 2 = V 39 2 := by subst hW4; rw [upz_ne _ _ (by decide)]; exact x2
        have c6 : F4 39 6 = nI X.2.1 := by rw [a0 39 (by decide) (by decide)]; exact d6
        simp only [isO_c, ax0, ex_cons, am_get, upz_at, true_and, and_true, Nat.reduceAdd, Nat.reduceLeDiff, Nat.reduceEqDiff, Nat.reduceSub, Int32.reduceOfInt, Int32.reduceAdd, Int32.reduceMul, Int32.reduceSub, ↓reduceIte, Int32.reduceLT, Int32.reduceLE, Int32.reduceToNatClampNeg, Nat.reduceMod, Nat.reduceLT, List.length_cons, List.length_nil, eq_self, true_or, or_true, and_self, implies_true, not_true_eq_false, not_false_eq_true, false_implies, true_implies, forall_const, st_aaloadx, st_aastorex, st_aastore_1x, st_aloadx, st_baloadx, st_bastorex, st_getfieldx, st_gotox, st_iconstx, st_if_icmpx, st_iincx, st_iloadx, st_putfieldx, st_return_x, am_put, am_nlg, kb_Desk_copyFrom_52, og_34_4, og_39_4, og_34_5, og_39_5, jx_Desk_copyFrom_88, kb_Desk_copyFrom_88, og_34_6, og_39_6, op_34_6, op_39_6, oa_34, oa_39, os_34, os_39, oa_36, or_36, ow_36, os_36, oa_37, or_37, ow_37, os_37, oa_41, or_41, ow_41, os_41, oa_42, or_42, ow_42, os_42, show ((12 : Int32) ≤ nI (12)) = (12 ≤ 12) from nk_le (a := 12) (b := 12) (by omega) (by omega), Nat.le_refl, c6]
        refine K _ _ (fun a q1 q2 => ?_) (fun a q1 q2 q3 => b0 a q1 q2 q3) ?_ ⟨⟨?_, d2, fun i hi => ?_⟩, ?_, ?_, ⟨?_, d7, fun i hi => ⟨?_, ?_⟩⟩, fun i hi => ⟨?_, ?_⟩, fun i hi => ?_⟩
        · rw [upz_ne _ _ q1]; exact a0 a q1 q2
        · rw [upz_eq, upz_ne _ _ (by decide), a1]; exact f7
        · rw [upz_eq, upz_ne _ _ (by decide), a1]; exact f1
        · rw [show (34 + 1 : Nat) = 35 from rfl, b1 i (by omega)]; exact d3 i hi
        · rw [b3]; exact d4
        · rw [upz_eq, upz_ne _ _ (by decide), a1]; exact f3
        · rw [upz_eq, upz_eq]
        · rw [show (34 + 2 : Nat) = 36 from rfl, b2 i (by omega)]; exact (d8 i hi).1
        · rw [upz_ne _ _ (by decide), show (34 + 3 : Nat) = 37 from rfl, a2 i (by omega)]; exact (d8 i hi).2
        · rw [show (34 + 1 : Nat) = 35 from rfl, b1 i hi]; exact (d9 i hi).1
        · rw [show (34 + 2 : Nat) = 36 from rfl, b2 i hi]; exact (d9 i hi).2
        · rw [upz_ne _ _ (by decide), show (34 + 3 : Nat) = 37 from rfl, a2 i hi]; exact d10 i hi
    have vv : V 39 2 = .null ∨ ∃ p, V 39 2 = .ref p := by
      cases ea : X.1.2.2.1
      · rw [ea, if_neg Bool.false_ne_true] at d4; exact Or.inl d4
      · rw [ea, if_pos rfl] at d4; obtain ⟨p, e, _⟩ := d4; exact Or.inr ⟨p, e⟩
    rcases vv with e | ⟨p, e⟩
    · rw [e] at key
      simp only [isO_c, ax0, ex_cons, am_get, upz_at, true_and, and_true, Nat.reduceAdd, Nat.reduceLeDiff, Nat.reduceEqDiff, Nat.reduceSub, Int32.reduceOfInt, Int32.reduceAdd, Int32.reduceMul, Int32.reduceSub, ↓reduceIte, Int32.reduceLT, Int32.reduceLE, Int32.reduceToNatClampNeg, Nat.reduceMod, Nat.reduceLT, List.length_cons, List.length_nil, eq_self, true_or, or_true, and_self, implies_true, not_true_eq_false, not_false_eq_true, false_implies, true_implies, forall_const, st_aaloadx, st_aastorex, st_aastore_1x, st_aloadx, st_getfieldx, st_gotox, st_goto_wx, st_iconstx, st_if_icmpx, st_iincx, st_iloadx, st_invokedynamicx, st_invokedynamic_1x, st_istorex, st_putfieldx, st_putstaticx, am_put, am_nlg, kb_Desk_copyFrom_2, og_34_0, og_39_0, jx_Desk_copyFrom_26, kb_Desk_copyFrom_26, og_34_1, og_39_1, op_34_1, op_39_1, og_34_2, og_39_2, op_34_2, op_39_2, og_34_3, og_39_3, op_34_3, op_39_3, oa_34, oa_39, os_34, os_39, osV_34, osV_39, oa_35, or_35, ow_35, os_35, oa_40, or_40, ow_40, os_40, show ((12 : Int32) ≤ nI (12)) = (12 ≤ 12) from nk_le (a := 12) (b := 12) (by omega) (by omega), Nat.le_refl, d1, d5, osFx, osVx, upz_upd, w0 39 (by decide), e]
      exact ⟨b2i_01 _, key⟩
    · rw [e] at key
      simp only [isO_c, ax0, ex_cons, am_get, upz_at, true_and, and_true, Nat.reduceAdd, Nat.reduceLeDiff, Nat.reduceEqDiff, Nat.reduceSub, Int32.reduceOfInt, Int32.reduceAdd, Int32.reduceMul, Int32.reduceSub, ↓reduceIte, Int32.reduceLT, Int32.reduceLE, Int32.reduceToNatClampNeg, Nat.reduceMod, Nat.reduceLT, List.length_cons, List.length_nil, eq_self, true_or, or_true, and_self, implies_true, not_true_eq_false, not_false_eq_true, false_implies, true_implies, forall_const, st_aaloadx, st_aastorex, st_aastore_1x, st_aloadx, st_getfieldx, st_gotox, st_goto_wx, st_iconstx, st_if_icmpx, st_iincx, st_iloadx, st_invokedynamicx, st_invokedynamic_1x, st_istorex, st_putfieldx, st_putstaticx, am_put, am_nlg, kb_Desk_copyFrom_2, og_34_0, og_39_0, jx_Desk_copyFrom_26, kb_Desk_copyFrom_26, og_34_1, og_39_1, op_34_1, op_39_1, og_34_2, og_39_2, op_34_2, op_39_2, og_34_3, og_39_3, op_34_3, op_39_3, oa_34, oa_39, os_34, os_39, osV_34, osV_39, oa_35, or_35, ow_35, os_35, oa_40, or_40, ow_40, os_40, show ((12 : Int32) ≤ nI (12)) = (12 ≤ 12) from nk_le (a := 12) (b := 12) (by omega) (by omega), Nat.le_refl, d1, d5, osFx, osVx, upz_upd, w0 39 (by decide), e]
      exact ⟨b2i_01 _, key⟩
set_option maxRecDepth 20000 in
theorem c_copy_34_43 {X : kT} (hX : DK h F V 43 X) (K : ∀ F' V', (∀ a, a ≠ 34 → a ≠ 34 + 3 → F' a = F a) → (∀ a, a ≠ 34 → a ≠ 34 + 1 → a ≠ 34 + 2 → V' a = V a) → F' 34 7 = F 34 7 → DK h F' V' 34 X → Q none (ov h F' J V')) : am_cl (d + 1) 96 [.ref 34, .ref 43] (ov h F J V) Q := by
  have hX0 := hX
  obtain ⟨⟨d1, d2, d3⟩, d4, d5, ⟨d6, d7, d8⟩, d9, d10⟩ := hX
  simp only [isO_c, ax0, ex_cons, am_get, upz_at, true_and, and_true, Nat.reduceAdd, Nat.reduceLeDiff, Nat.reduceEqDiff, Nat.reduceSub, Int32.reduceOfInt, Int32.reduceAdd, Int32.reduceMul, Int32.reduceSub, ↓reduceIte, Int32.reduceLT, Int32.reduceLE, Int32.reduceToNatClampNeg, Nat.reduceMod, Nat.reduceLT, List.length_cons, List.length_nil, eq_self, true_or, or_true, and_self, implies_true, not_true_eq_false, not_false_eq_true, false_implies, true_implies, forall_const, st_goto_wx, st_iconstx, st_istorex, am_put, am_nlg, kb_Desk_copyFrom_0, cx_Desk_copyFrom]
  have e0 : ov h F J V = ov h F J (upz V 35 (ovr (V 35) (V 44) 0 0)) := by rw [ovr_0, upz_self]
  rw [e0]
  refine am_iter 12 (fun k => [.ref 34, .ref 43, .int (nI k)]) (fun k => ov h F J (upz V 35 (ovr (V 35) (V 44) 0 k))) (fun _ => True) (fun k hk hI go => ?_) (fun hI => ?_) 0 (by omega) trivial
  · rw [jx_Desk_copyFrom_2]
    have go := go trivial
    have ee := ovr_S (V 35) (V 44) 0 k rfl
    rw [Nat.zero_add] at ee
    rw [← ee] at go
    rcases (d9 k hk).1 with e | ⟨p, R, e, hs⟩
    · have e : V 44 k = .null := e
      rw [e] at go
      simp only [isO_c, ax0, ex_cons, am_get, upz_at, true_and, and_true, Nat.reduceAdd, Nat.reduceLeDiff, Nat.reduceEqDiff, Nat.reduceSub, Int32.reduceOfInt, Int32.reduceAdd, Int32.reduceMul, Int32.reduceSub, ↓reduceIte, Int32.reduceLT, Int32.reduceLE, Int32.reduceToNatClampNeg, Nat.reduceMod, Nat.reduceLT, List.length_cons, List.length_nil, eq_self, true_or, or_true, and_self, implies_true, not_true_eq_false, not_false_eq_true, false_implies, true_implies, forall_const, st_aaloadx, st_aastorex, st_aastore_1x, st_aloadx, st_getfieldx, st_gotox, st_iconstx, st_if_icmpx, st_iincx, st_iloadx, am_put, am_nlg, kb_Desk_copyFrom_2, og_34_0, og_43_0, oa_34, oa_43, oa_35, or_35, ow_35, os_35, oa_44, or_44, ow_44, os_44, show ((12 : Int32) ≤ nI (k)) = (12 ≤ k) from nk_le (a := 12) (b := k) (by omega) (by omega), show ¬ 12 ≤ k by omega, nk_neg (show k < 2147483648 by omega), nk_cl (show k < 2147483648 by omega), oa_44, or_44, oa_35, or_35, os_35, ow_35, e, hk, upz_upd, show nI k + (1 : Int32) = nI (k + 1) from nk_add k 1]
      exact go
    · have e : V 44 k = .ref p := e
      rw [e] at go
      simp only [isO_c, ax0, ex_cons, am_get, upz_at, true_and, and_true, Nat.reduceAdd, Nat.reduceLeDiff, Nat.reduceEqDiff, Nat.reduceSub, Int32.reduceOfInt, Int32.reduceAdd, Int32.reduceMul, Int32.reduceSub, ↓reduceIte, Int32.reduceLT, Int32.reduceLE, Int32.reduceToNatClampNeg, Nat.reduceMod, Nat.reduceLT, List.length_cons, List.length_nil, eq_self, true_or, or_true, and_self, implies_true, not_true_eq_false, not_false_eq_true, false_implies, true_implies, forall_const, st_aaloadx, st_aastorex, st_aastore_1x, st_aloadx, st_getfieldx, st_gotox, st_iconstx, st_if_icmpx, st_iincx, st_iloadx, am_put, am_nlg, kb_Desk_copyFrom_2, og_34_0, og_43_0, oa_34, oa_43, oa_35, or_35, ow_35, os_35, oa_44, or_44, ow_44, os_44, show ((12 : Int32) ≤ nI (k)) = (12 ≤ k) from nk_le (a := 12) (b := k) (by omega) (by omega), show ¬ 12 ≤ k by omega, nk_neg (show k < 2147483648 by omega), nk_cl (show k < 2147483648 by omega), oa_44, or_44, oa_35, or_35, os_35, ow_35, e, hk, upz_upd, show nI k + (1 : Int32) = nI (k + 1) from nk_add k 1]
      exact ⟨hs.isO _ _ _, go⟩
  · rw [jx_Desk_copyFrom_2]
    generalize hW : upz V 35 (ovr (V 35) (V 44) 0 12) = W
    have w0 : ∀ a, a ≠ 35 → W a = V a := fun a q => by subst hW; exact upz_ne _ _ q
    have w1 : W 35 = ovr (V 35) (V 44) 0 12 := by subst hW; exact upz_eq _ _ _
    have key : am_W kc_Desk_copyFrom (am_cl d) Q 52 [.ref 34, .ref 43, .int 0] [] (ov h (upz F 34 (upz (upz (F 34) 1 (nI X.1.1)) 3 (b2i X.1.2.2.2))) J (upz W 34 (upz (W 34) 2 (V 43 2)))) := by
      generalize hF2 : upz F 34 _ = F2
      have f0 : ∀ a, a ≠ 34 → F2 a = F a := fun a q => by subst hF2; exact upz_ne _ _ q
      have f1 : F2 34 1 = nI X.1.1 := by subst hF2; rw [upz_eq, upz_ne _ _ (by decide), upz_eq]
      have f3 : F2 34 3 = b2i X.1.2.2.2 := by subst hF2; rw [upz_eq, upz_eq]
      have f7 : F2 34 7 = F 34 7 := by subst hF2; rw [upz_eq, upz_ne _ _ (by decide), upz_ne _ _ (by decide)]
      generalize hW2 : upz W 34 _ = W2
      have x0 : ∀ a, a ≠ 34 → a ≠ 35 → W2 a = V a := fun a q q1 => by subst hW2; rw [upz_ne _ _ q]; exact w0 a q1
      have x1 : W2 35 = ovr (V 35) (V 44) 0 12 := by subst hW2; rw [upz_ne _ _ (by decide)]; exact w1
      have x2 : W2 34 2 = V 43 2 := by subst hW2; rw [upz_eq, upz_eq]
      have e0 : ov h F2 J W2 = ov h (upz F2 37 (ovr (F2 37) (F 46) 0 0)) J (upz W2 36 (ovr (W2 36) (V 45) 0 0)) := by rw [ovr_0, upz_self, ovr_0, upz_self]
      rw [e0]
      refine am_iter 12 (fun k => [.ref 34, .ref 43, .int (nI k)]) (fun k => ov h (upz F2 37 (ovr (F2 37) (F 46) 0 k)) J (upz W2 36 (ovr (W2 36) (V 45) 0 k))) (fun _ => True) (fun k hk hI go => ?_) (fun hI => ?_) 0 (by omega) trivial
      · rw [jx_Desk_copyFrom_52]
        have go := go trivial
        have ee := ovr_S (W2 36) (V 45) 0 k rfl
        rw [Nat.zero_add] at ee
        have ef := ovr_S (F2 37) (F 46) 0 k rfl
        rw [Nat.zero_add] at ef
        rw [← ee, ← ef] at go
        generalize hF3 : upz F2 37 (ovr (F2 37) (F 46) 0 k) = F3
        generalize hW3 : upz W2 36 (ovr (W2 36) (V 45) 0 k) = W3
        have g0 : F3 46 = F 46 := by subst hF3; rw [upz_ne _ _ (by decide)]; exact f0 _ (by decide)
        have y0 : W3 45 = V 45 := by subst hW3; rw [upz_ne _ _ (by decide)]; exact x0 _ (by decide) (by decide)
        have go : am_W kc_Desk_copyFrom (am_cl d) Q 52 [.ref 34, .ref 43, .int (nI (k + 1))] [] (ov h (upz F3 37 (upz (F3 37) k (F 46 k))) J (upz W3 36 (upz (W3 36) k (V 45 k)))) := by
          subst hF3
          subst hW3
          rw [upz_eq, upz_eq, upz_upd, upz_upd]
          exact go
        have hb : F 46 k = 0 ∨ F 46 k = 1 := d10 k hk
        rcases (d9 k hk).2 with e | ⟨p, R, e, hs⟩
        · have e : V 45 k = .null := e
          rw [e] at go
          rcases hb with g | g <;> rw [g] at go <;> simp only [isO_c, ax0, ex_cons, am_get, upz_at, true_and, and_true, Nat.reduceAdd, Nat.reduceLeDiff, Nat.reduceEqDiff, Nat.reduceSub, Int32.reduceOfInt, Int32.reduceAdd, Int32.reduceMul, Int32.reduceSub, ↓reduceIte, Int32.reduceLT, Int32.reduceLE, Int32.reduceToNatClampNeg, Nat.reduceMod, Nat.reduceLT, List.length_cons, List.length_nil, eq_self, true_or, or_true, and_self, implies_true, not_true_eq_false, not_false_eq_true, false_implies, true_implies, forall_const, st_aaloadx, st_aastorex, st_aastore_1x, st_aloadx, st_baloadx, st_bastorex, st_getfieldx, st_gotox, st_iconstx, st_if_icmpx, st_iincx, st_iloadx, am_put, am_nlg, kb_Desk_copyFrom_52, og_34_4, og_43_4, og_34_5, og_43_5, oa_34, oa_43, oa_36, or_36, ow_36, os_36, oa_37, or_37, ow_37, os_37, oa_45, or_45, ow_45, os_45, oa_46, or_46, ow_46, os_46, show ((12 : Int32) ≤ nI (k)) = (12 ≤ k) from nk_le (a := 12) (b := k) (by omega) (by omega), show ¬ 12 ≤ k by omega, nk_neg (show k < 2147483648 by omega), nk_cl (show k < 2147483648 by omega), oa_45, or_45, oa_36, or_36, os_36, ow_36, oa_46, or_46, oa_37, or_37, os_37, ow_37, y0, g0, osFy (a := 37) (b := 36) (by decide) (by decide) (by decide), e, g, hk, upz_upd, show nI k + (1 : Int32) = nI (k + 1) from nk_add k 1]
          · exact go
          · exact go
        · have e : V 45 k = .ref p := e
          rw [e] at go
          rcases hb with g | g <;> rw [g] at go <;> simp only [isO_c, ax0, ex_cons, am_get, upz_at, true_and, and_true, Nat.reduceAdd, Nat.reduceLeDiff, Nat.reduceEqDiff, Nat.reduceSub, Int32.reduceOfInt, Int32.reduceAdd, Int32.reduceMul, Int32.reduceSub, ↓reduceIte, Int32.reduceLT, Int32.reduceLE, Int32.reduceToNatClampNeg, Nat.reduceMod, Nat.reduceLT, List.length_cons, List.length_nil, eq_self, true_or, or_true, and_self, implies_true, not_true_eq_false, not_false_eq_true, false_implies, true_implies, forall_const, st_aaloadx, st_aastorex, st_aastore_1x, st_aloadx, st_baloadx, st_bastorex, st_getfieldx, st_gotox, st_iconstx, st_if_icmpx, st_iincx, st_iloadx, am_put, am_nlg, kb_Desk_copyFrom_52, og_34_4, og_43_4, og_34_5, og_43_5, oa_34, oa_43, oa_36, or_36, ow_36, os_36, oa_37, or_37, ow_37, os_37, oa_45, or_45, ow_45, os_45, oa_46, or_46, ow_46, os_46, show ((12 : Int32) ≤ nI (k)) = (12 ≤ k) from nk_le (a := 12) (b := k) (by omega) (by omega), show ¬ 12 ≤ k by omega, nk_neg (show k < 2147483648 by omega), nk_cl (show k < 2147483648 by omega), oa_45, or_45, oa_36, or_36, os_36, ow_36, oa_46, or_46, oa_37, or_37, os_37, ow_37, y0, g0, osFy (a := 37) (b := 36) (by decide) (by decide) (by decide), e, g, hk, upz_upd, show nI k + (1 : Int32) = nI (k + 1) from nk_add k 1]
          · exact ⟨hs.isO _ _ _, go⟩
          · exact ⟨hs.isO _ _ _, go⟩
      · rw [jx_Desk_copyFrom_52]
        generalize hF4 : upz F2 37 (ovr (F2 37) (F 46) 0 12) = F4
        generalize hW4 : upz W2 36 (ovr (W2 36) (V 45) 0 12) = W4
        have a0 : ∀ a, a ≠ 34 → a ≠ 37 → F4 a = F a := fun a q q1 => by subst hF4; rw [upz_ne _ _ q1]; exact f0 a q
        have a1 : F4 34 = F2 34 := by subst hF4; exact upz_ne _ _ (by decide)
        have a2 : ∀ i, i < 12 → F4 37 i = F 46 i := fun i hi => by subst hF4; rw [upz_eq]; exact ovr_in (Nat.zero_le i) (by omega)
        have b0 : ∀ a, a ≠ 34 → a ≠ 35 → a ≠ 36 → W4 a = V a := fun a q q1 q2 => by subst hW4; rw [upz_ne _ _ q2]; exact x0 a q q1
        have b1 : ∀ i, i < 12 → W4 35 i = V 44 i := fun i hi => by subst hW4; rw [upz_ne _ _ (by decide), x1]; exact ovr_in (Nat.zero_le i) (by omega)
        have b2 : ∀ i, i < 12 → W4 36 i = V 45 i := fun i hi => by subst hW4; rw [upz_eq]; exact ovr_in (Nat.zero_le i) (by omega)
        have b3 : W4 34 2 = V 43 2 := by subst hW4; rw [upz_ne _ _ (by decide)]; exact x2
        have c6 : F4 43 6 = nI X.2.1 := by rw [a0 43 (by decide) (by decide)]; exact d6
        simp only [isO_c, ax0, ex_cons, am_get, upz_at, true_and, and_true, Nat.reduceAdd, Nat.reduceLeDiff, Nat.reduceEqDiff, Nat.reduceSub, Int32.reduceOfInt, Int32.reduceAdd, Int32.reduceMul, Int32.reduceSub, ↓reduceIte, Int32.reduceLT, Int32.reduceLE, Int32.reduceToNatClampNeg, Nat.reduceMod, Nat.reduceLT, List.length_cons, List.length_nil, eq_self, true_or, or_true, and_self, implies_true, not_true_eq_false, not_false_eq_true, false_implies, true_implies, forall_const, st_aaloadx, st_aastorex, st_aastore_1x, st_aloadx, st_baloadx, st_bastorex, st_getfieldx, st_gotox, st_iconstx, st_if_icmpx, st_iincx, st_iloadx, st_putfieldx, st_return_x, am_put, am_nlg, kb_Desk_copyFrom_52, og_34_4, og_43_4, og_34_5, og_43_5, jx_Desk_copyFrom_88, kb_Desk_copyFrom_88, og_34_6, og_43_6, op_34_6, op_43_6, oa_34, oa_43, os_34, os_43, oa_36, or_36, ow_36, os_36, oa_37, or_37, ow_37, os_37, oa_45, or_45, ow_45, os_45, oa_46, or_46, ow_46, os_46, show ((12 : Int32) ≤ nI (12)) = (12 ≤ 12) from nk_le (a := 12) (b := 12) (by omega) (by omega), Nat.le_refl, c6]
        refine K _ _ (fun a q1 q2 => ?_) (fun a q1 q2 q3 => b0 a q1 q2 q3) ?_ ⟨⟨?_, d2, fun i hi => ?_⟩, ?_, ?_, ⟨?_, d7, fun i hi => ⟨?_, ?_⟩⟩, fun i hi => ⟨?_, ?_⟩, fun i hi => ?_⟩
        · rw [upz_ne _ _ q1]; exact a0 a q1 q2
        · rw [upz_eq, upz_ne _ _ (by decide), a1]; exact f7
        · rw [upz_eq, upz_ne _ _ (by decide), a1]; exact f1
        · rw [show (34 + 1 : Nat) = 35 from rfl, b1 i (by omega)]; exact d3 i hi
        · rw [b3]; exact d4
        · rw [upz_eq, upz_ne _ _ (by decide), a1]; exact f3
        · rw [upz_eq, upz_eq]
        · rw [show (34 + 2 : Nat) = 36 from rfl, b2 i (by omega)]; exact (d8 i hi).1
        · rw [upz_ne _ _ (by decide), show (34 + 3 : Nat) = 37 from rfl, a2 i (by omega)]; exact (d8 i hi).2
        · rw [show (34 + 1 : Nat) = 35 from rfl, b1 i hi]; exact (d9 i hi).1
        · rw [show (34 + 2 : Nat) = 36 from rfl, b2 i hi]; exact (d9 i hi).2
        · rw [upz_ne _ _ (by decide), show (34 + 3 : Nat) = 37 from rfl, a2 i hi]; exact d10 i hi
    have vv : V 43 2 = .null ∨ ∃ p, V 43 2 = .ref p := by
      cases ea : X.1.2.2.1
      · rw [ea, if_neg Bool.false_ne_true] at d4; exact Or.inl d4
      · rw [ea, if_pos rfl] at d4; obtain ⟨p, e, _⟩ := d4; exact Or.inr ⟨p, e⟩
    rcases vv with e | ⟨p, e⟩
    · rw [e] at key
      simp only [isO_c, ax0, ex_cons, am_get, upz_at, true_and, and_true, Nat.reduceAdd, Nat.reduceLeDiff, Nat.reduceEqDiff, Nat.reduceSub, Int32.reduceOfInt, Int32.reduceAdd, Int32.reduceMul, Int32.reduceSub, ↓reduceIte, Int32.reduceLT, Int32.reduceLE, Int32.reduceToNatClampNeg, Nat.reduceMod, Nat.reduceLT, List.length_cons, List.length_nil, eq_self, true_or, or_true, and_self, implies_true, not_true_eq_false, not_false_eq_true, false_implies, true_implies, forall_const, st_aaloadx, st_aastorex, st_aastore_1x, st_aloadx, st_getfieldx, st_gotox, st_goto_wx, st_iconstx, st_if_icmpx, st_iincx, st_iloadx, st_invokedynamicx, st_invokedynamic_1x, st_istorex, st_putfieldx, st_putstaticx, am_put, am_nlg, kb_Desk_copyFrom_2, og_34_0, og_43_0, jx_Desk_copyFrom_26, kb_Desk_copyFrom_26, og_34_1, og_43_1, op_34_1, op_43_1, og_34_2, og_43_2, op_34_2, op_43_2, og_34_3, og_43_3, op_34_3, op_43_3, oa_34, oa_43, os_34, os_43, osV_34, osV_43, oa_35, or_35, ow_35, os_35, oa_44, or_44, ow_44, os_44, show ((12 : Int32) ≤ nI (12)) = (12 ≤ 12) from nk_le (a := 12) (b := 12) (by omega) (by omega), Nat.le_refl, d1, d5, osFx, osVx, upz_upd, w0 43 (by decide), e]
      exact ⟨b2i_01 _, key⟩
    · rw [e] at key
      simp only [isO_c, ax0, ex_cons, am_get, upz_at, true_and, and_true, Nat.reduceAdd, Nat.reduceLeDiff, Nat.reduceEqDiff, Nat.reduceSub, Int32.reduceOfInt, Int32.reduceAdd, Int32.reduceMul, Int32.reduceSub, ↓reduceIte, Int32.reduceLT, Int32.reduceLE, Int32.reduceToNatClampNeg, Nat.reduceMod, Nat.reduceLT, List.length_cons, List.length_nil, eq_self, true_or, or_true, and_self, implies_true, not_true_eq_false, not_false_eq_true, false_implies, true_implies, forall_const, st_aaloadx, st_aastorex, st_aastore_1x, st_aloadx, st_getfieldx, st_gotox, st_goto_wx, st_iconstx, st_if_icmpx, st_iincx, st_iloadx, st_invokedynamicx, st_invokedynamic_1x, st_istorex, st_putfieldx, st_putstaticx, am_put, am_nlg, kb_Desk_copyFrom_2, og_34_0, og_43_0, jx_Desk_copyFrom_26, kb_Desk_copyFrom_26, og_34_1, og_43_1, op_34_1, op_43_1, og_34_2, og_43_2, op_34_2, op_43_2, og_34_3, og_43_3, op_34_3, op_43_3, oa_34, oa_43, os_34, os_43, osV_34, osV_43, oa_35, or_35, ow_35, os_35, oa_44, or_44, ow_44, os_44, show ((12 : Int32) ≤ nI (12)) = (12 ≤ 12) from nk_le (a := 12) (b := 12) (by omega) (by omega), Nat.le_refl, d1, d5, osFx, osVx, upz_upd, w0 43 (by decide), e]
      exact ⟨b2i_01 _, key⟩
/-- the references of the findings stay -/
def Vz (V V' : Nat → Nat → Value) : Prop := ∀ a, 47 ≤ a → V' a = V a
theorem Vz.rf {V : Nat → Nat → Value} : Vz V V := fun _ _ => rfl
theorem Vx.z {V V' : Nat → Nat → Value} (h : Vx V V') : Vz V V' := fun a ha => h a (by omega)
theorem CB.im {A : aT} {F' : Nat → Nat → Int32} {V' : Nat → Nat → Value} {i : Nat} (hi : i < 2) (hA : CB h F V A) (o : ∀ a, a ≠ 39 + 4 * i → a ≠ 39 + 4 * i + 3 → F' a = F a) (v : ∀ a, a ≠ 39 + 4 * i → a ≠ 39 + 4 * i + 1 → a ≠ 39 + 4 * i + 2 → V' a = V a) (f7 : F' (39 + 4 * i) 7 = 1) (dk : DK h F' V' (39 + 4 * i) A.1) : CB h F' V' (A.1, upz A.2.1 i (some A.1), A.2.2) := by
  obtain ⟨h1, h2, h3, h4, h5, h6, h7⟩ := hA
  refine ⟨h1.cg (fun j _ => by rw [o 34 (by omega) (by omega)]) (o 37 (by omega) (by omega)) (v 34 (by omega) (by omega) (by omega)) (v 35 (by omega) (by omega) (by omega)) (v 36 (by omega) (by omega) (by omega)), fun k hk => ?_, ?_, ?_, ?_, ?_, ?_⟩
  · obtain ⟨g1, g2, g3⟩ := h2 k hk
    refine ⟨by rw [v 38 (by omega) (by omega) (by omega)]; exact g1, ?_, ?_⟩
    · by_cases e : k = i
      · subst e
        show _ = b2i (upz A.2.1 k (some A.1) k).isSome
        rw [upz_eq, f7]
        rfl
      · show _ = b2i (upz A.2.1 i (some A.1) k).isSome
        rw [upz_ne _ _ e, o _ (by omega) (by omega)]
        exact g2
    · intro X hX
      by_cases e : k = i
      · subst e
        have hX : upz A.2.1 k (some A.1) k = some X := hX
        rw [upz_eq, Option.some.injEq] at hX
        rw [← hX]
        exact dk
      · have hX : upz A.2.1 i (some A.1) k = some X := hX
        rw [upz_ne _ _ e] at hX
        exact (g3 X hX).cg (fun j _ => by rw [o _ (by omega) (by omega)]) (o _ (by omega) (by omega)) (v _ (by omega) (by omega) (by omega)) (v _ (by omega) (by omega) (by omega)) (v _ (by omega) (by omega) (by omega))
  · show MSt (F' 24 1) (F' 25) A.2.2.1
    rw [o 24 (by omega) (by omega), o 25 (by omega) (by omega)]; exact h3
  · rw [o 24 (by omega) (by omega)]; exact h4
  · rw [o 23 (by omega) (by omega)]; exact h5
  · rw [o 81 (by omega) (by omega)]; exact h6
  · show CYr (F' 23 11) (F' 80) A.2.2.2.2
    rw [o 23 (by omega) (by omega), o 80 (by omega) (by omega)]; exact h7
set_option maxRecDepth 20000 in
theorem co_image {A : aT} (hA : CB h F V A) {x : Int32} (K : ∀ F' V', Cx false false F F' → Vz V V' → CB h F' V' (xImage A x).1 → Q (some (.int (xImage A x).2)) (ov h F' J V')) : am_cl (d + 2) 59 [.ref 23, .int x] (ov h F J V) Q := by
  unfold xImage at K
  by_cases e0 : x = 0
  · subst e0
    rw [show lieB 0 0 1 = true from rfl, if_pos rfl, show Int32.toNatClampNeg 0 = 0 from rfl] at K
    have v0 : V 38 0 = .ref 39 := (hA.2.1 0 (by decide)).1
    simp only [isO_c, ax0, ex_cons, am_get, upz_at, true_and, and_true, Nat.reduceAdd, Nat.reduceLeDiff, Nat.reduceEqDiff, Nat.reduceSub, Int32.reduceOfInt, Int32.reduceAdd, Int32.reduceMul, Int32.reduceSub, ↓reduceIte, Int32.reduceLT, Int32.reduceLE, Int32.reduceToNatClampNeg, Nat.reduceMod, Nat.reduceLT, List.length_cons, List.length_nil, eq_self, true_or, or_true, and_self, implies_true, not_true_eq_false, not_false_eq_true, false_implies, true_implies, forall_const, st_aaloadx, st_aloadx, st_getfieldx, st_goto_wx, st_iconstx, st_ifCondx, st_if_icmpx, st_iloadx, st_in2, st_ireturnx, st_putstaticx, cx_Slips_image, kb_Slips_image_0, jx_Slips_image_9, kb_Slips_image_9, oo_23, jx_Slips_image_15, kb_Slips_image_15, og_23_2, og_23_1, oo_34, oo_39, op_34_7, op_39_7, oa_23, oa_34, oa_39, os_34, os_39, oa_38, or_38, oa_38, or_38, v0]
    refine c_copy_39_34 hA.1 (fun F1 V1 o v f7 dk => ?_)
    have v1 : V1 38 0 = .ref 39 := by rw [v 38 (by decide) (by decide) (by decide)]; exact v0
    simp only [isO_c, ax0, ex_cons, am_get, upz_at, true_and, and_true, Nat.reduceAdd, Nat.reduceLeDiff, Nat.reduceEqDiff, Nat.reduceSub, Int32.reduceOfInt, Int32.reduceAdd, Int32.reduceMul, Int32.reduceSub, ↓reduceIte, Int32.reduceLT, Int32.reduceLE, Int32.reduceToNatClampNeg, Nat.reduceMod, Nat.reduceLT, List.length_cons, List.length_nil, eq_self, true_or, or_true, and_self, implies_true, not_true_eq_false, not_false_eq_true, false_implies, true_implies, forall_const, st_aaloadx, st_aloadx, st_getfieldx, st_iconstx, st_iloadx, st_in2, st_ireturnx, st_putstaticx, jx_Slips_image_15, kb_Slips_image_15, og_23_2, og_23_1, oo_34, oo_39, op_34_7, op_39_7, oo_23, oa_23, oa_34, oa_39, os_34, os_39, oa_38, or_38, oa_38, or_38, v1]
    refine c_grant (CB.im (i := 0) (by decide) hA (F' := upz F1 39 (upz (F1 39) 7 1)) (V' := V1) (fun a q1 q2 => ?_) v ?_ ?_) (fun F2 c m => ?_)
    · have q1 : a ≠ 39 := q1
      rw [upz_ne _ _ q1]; exact o a q1 q2
    · show upz F1 39 (upz (F1 39) 7 1) 39 7 = 1
      rw [upz_eq, upz_eq]
    · show DK h _ _ 39 _
      exact dk.cg (fun j hj => by rw [upz_eq, upz_ne _ _ (by omega)]) (upz_ne _ _ (by decide)) rfl rfl rfl
    · simp only [isO_c, ax0, ex_cons, am_get, upz_at, true_and, and_true, Nat.reduceAdd, Nat.reduceLeDiff, Nat.reduceEqDiff, Nat.reduceSub, Int32.reduceOfInt, Int32.reduceAdd, Int32.reduceMul, Int32.reduceSub, ↓reduceIte, Int32.reduceLT, Int32.reduceLE, Int32.reduceToNatClampNeg, Nat.reduceMod, Nat.reduceLT, List.length_cons, List.length_nil, eq_self, true_or, or_true, and_self, implies_true, not_true_eq_false, not_false_eq_true, false_implies, true_implies, forall_const, st_aaloadx, st_aloadx, st_getfieldx, st_iconstx, st_iloadx, st_in2, st_ireturnx, st_putstaticx, jx_Slips_image_15, kb_Slips_image_15, og_23_2, og_23_1, oo_34, oo_39, op_34_7, op_39_7, oo_23, oa_23, oa_34, oa_39, os_34, os_39, oa_38, or_38]
      refine K F2 V1 (Cx.tr (Cx.kp (fun a q _ _ => ?_)) c) (fun a q => v a (by omega) (by omega) (by omega)) m
      rw [upz_ne _ _ (by omega)]; exact o a (by omega) (by omega)
  by_cases e1 : x = 1
  · subst e1
    rw [show lieB 1 0 1 = true from rfl, if_pos rfl, show Int32.toNatClampNeg 1 = 1 from rfl] at K
    have v0 : V 38 1 = .ref 43 := (hA.2.1 1 (by decide)).1
    simp only [isO_c, ax0, ex_cons, am_get, upz_at, true_and, and_true, Nat.reduceAdd, Nat.reduceLeDiff, Nat.reduceEqDiff, Nat.reduceSub, Int32.reduceOfInt, Int32.reduceAdd, Int32.reduceMul, Int32.reduceSub, ↓reduceIte, Int32.reduceLT, Int32.reduceLE, Int32.reduceToNatClampNeg, Nat.reduceMod, Nat.reduceLT, List.length_cons, List.length_nil, eq_self, true_or, or_true, and_self, implies_true, not_true_eq_false, not_false_eq_true, false_implies, true_implies, forall_const, st_aaloadx, st_aloadx, st_getfieldx, st_goto_wx, st_iconstx, st_ifCondx, st_if_icmpx, st_iloadx, st_in2, st_ireturnx, st_putstaticx, cx_Slips_image, kb_Slips_image_0, jx_Slips_image_9, kb_Slips_image_9, oo_23, jx_Slips_image_15, kb_Slips_image_15, og_23_2, og_23_1, oo_34, oo_43, op_34_7, op_43_7, oa_23, oa_34, oa_43, os_34, os_43, oa_38, or_38, oa_38, or_38, v0]
    refine c_copy_43_34 hA.1 (fun F1 V1 o v f7 dk => ?_)
    have v1 : V1 38 1 = .ref 43 := by rw [v 38 (by decide) (by decide) (by decide)]; exact v0
    simp only [isO_c, ax0, ex_cons, am_get, upz_at, true_and, and_true, Nat.reduceAdd, Nat.reduceLeDiff, Nat.reduceEqDiff, Nat.reduceSub, Int32.reduceOfInt, Int32.reduceAdd, Int32.reduceMul, Int32.reduceSub, ↓reduceIte, Int32.reduceLT, Int32.reduceLE, Int32.reduceToNatClampNeg, Nat.reduceMod, Nat.reduceLT, List.length_cons, List.length_nil, eq_self, true_or, or_true, and_self, implies_true, not_true_eq_false, not_false_eq_true, false_implies, true_implies, forall_const, st_aaloadx, st_aloadx, st_getfieldx, st_iconstx, st_iloadx, st_in2, st_ireturnx, st_putstaticx, jx_Slips_image_15, kb_Slips_image_15, og_23_2, og_23_1, oo_34, oo_43, op_34_7, op_43_7, oo_23, oa_23, oa_34, oa_43, os_34, os_43, oa_38, or_38, oa_38, or_38, v1]
    refine c_grant (CB.im (i := 1) (by decide) hA (F' := upz F1 43 (upz (F1 43) 7 1)) (V' := V1) (fun a q1 q2 => ?_) v ?_ ?_) (fun F2 c m => ?_)
    · have q1 : a ≠ 43 := q1
      rw [upz_ne _ _ q1]; exact o a q1 q2
    · show upz F1 43 (upz (F1 43) 7 1) 43 7 = 1
      rw [upz_eq, upz_eq]
    · show DK h _ _ 43 _
      exact dk.cg (fun j hj => by rw [upz_eq, upz_ne _ _ (by omega)]) (upz_ne _ _ (by decide)) rfl rfl rfl
    · simp only [isO_c, ax0, ex_cons, am_get, upz_at, true_and, and_true, Nat.reduceAdd, Nat.reduceLeDiff, Nat.reduceEqDiff, Nat.reduceSub, Int32.reduceOfInt, Int32.reduceAdd, Int32.reduceMul, Int32.reduceSub, ↓reduceIte, Int32.reduceLT, Int32.reduceLE, Int32.reduceToNatClampNeg, Nat.reduceMod, Nat.reduceLT, List.length_cons, List.length_nil, eq_self, true_or, or_true, and_self, implies_true, not_true_eq_false, not_false_eq_true, false_implies, true_implies, forall_const, st_aaloadx, st_aloadx, st_getfieldx, st_iconstx, st_iloadx, st_in2, st_ireturnx, st_putstaticx, jx_Slips_image_15, kb_Slips_image_15, og_23_2, og_23_1, oo_34, oo_43, op_34_7, op_43_7, oo_23, oa_23, oa_34, oa_43, os_34, os_43, oa_38, or_38]
      refine K F2 V1 (Cx.tr (Cx.kp (fun a q _ _ => ?_)) c) (fun a q => v a (by omega) (by omega) (by omega)) m
      rw [upz_ne _ _ (by omega)]; exact o a (by omega) (by omega)
  have e : lieB x 0 1 = false := by
    cases z : lieB x 0 1
    · rfl
    · rcases lie1 z with q | q
      · exact absurd q e0
      · exact absurd q e1
  rw [e, if_neg Bool.false_ne_true] at K
  have nb : ¬ (¬ x < 0 ∧ x < 2) := fun q => by
    unfold lieB at e
    rw [decide_eq_false q.1, decide_eq_false (show ¬ (1 : Int32) < x from fun z => absurd (show (2 : Int32) ≤ x by rw [show (2 : Int32) = nI (1 + 1) from rfl, lt_le 1 (by decide)]; exact z) (Int32.not_le.mpr q.2))] at e
    cases e
  have rf : am_cl (d + 1) 64 [.ref 23, .int (-1)] (ov h F J V) (fun r h1 => am_kk (am_ex (am_cl (d + 1)) (am_W kc_Slips_image (am_cl (d + 1)) Q) Q [(Instr.ireturn, 0)]) [.ref 23, .int x] r [] h1) := by
    refine c_refuse hA (j := 0) (Or.inl ⟨rfl, rfl⟩) (fun F' c m => ?_)
    simp only [isO_c, ax0, ex_cons, am_get, upz_at, true_and, and_true, Nat.reduceAdd, Nat.reduceLeDiff, Nat.reduceEqDiff, Nat.reduceSub, Int32.reduceOfInt, Int32.reduceAdd, Int32.reduceMul, Int32.reduceSub, ↓reduceIte, Int32.reduceLT, Int32.reduceLE, Int32.reduceToNatClampNeg, Nat.reduceMod, Nat.reduceLT, List.length_cons, List.length_nil, eq_self, true_or, or_true, and_self, implies_true, not_true_eq_false, not_false_eq_true, false_implies, true_implies, forall_const, st_aloadx, st_iconstx, st_in2, st_ireturnx, jx_Slips_image_9, kb_Slips_image_9, oo_23, oa_23]
    exact K F' V c Vz.rf m
  simp only [isO_c, ax0, ex_cons, am_get, upz_at, true_and, and_true, Nat.reduceAdd, Nat.reduceLeDiff, Nat.reduceEqDiff, Nat.reduceSub, Int32.reduceOfInt, Int32.reduceAdd, Int32.reduceMul, Int32.reduceSub, ↓reduceIte, Int32.reduceLT, Int32.reduceLE, Int32.reduceToNatClampNeg, Nat.reduceMod, Nat.reduceLT, List.length_cons, List.length_nil, eq_self, true_or, or_true, and_self, implies_true, not_true_eq_false, not_false_eq_true, false_implies, true_implies, forall_const, st_aloadx, st_goto_wx, st_iconstx, st_ifCondx, st_if_icmpx, st_iloadx, st_in2, st_ireturnx, kb_Slips_image_0, jx_Slips_image_9, kb_Slips_image_9, oo_23, oa_23, cx_Slips_image]
  exact ⟨fun _ => rf, fun q => ⟨fun r => absurd ⟨q, r⟩ nb, fun _ => rf⟩⟩
end CIM
