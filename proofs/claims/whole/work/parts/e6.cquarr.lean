/-! ===== the class: marks of the heaps ===== -/
theorem hz_0 {cs : Nat → cT} {ex : Bool} : ∀ k, hz cs ex 0 k = tE
  | 0 => rfl
  | k + 1 => by
    show (if Nat.testBit 0 k then _ else hz cs ex 0 k) = tE
    rw [Nat.zero_testBit, if_neg Bool.false_ne_true, hz_0 k]
theorem qz_tE : qz tE (fun _ => false) = false := rfl
theorem mkQ_z {D : dT} : mkQ D 0 = 0 := by
  rw [mkQ_0]
  unfold hzD
  rw [hz_0]
  exact qz_tE
theorem clr_in {hp k i : Nat} (h : (clr hp k).testBit i = true) : hp.testBit i = true := by
  rw [clr_bit, Bool.and_eq_true] at h
  exact h.1
theorem clr_lt {hp k : Nat} (h : hp.testBit k = true) : clr hp k < hp := by
  have h1 := clr_le hp k
  have h2 : clr hp k ≠ hp := fun e => by
    have := clr_bit hp k k
    rw [e, h, decide_eq_true rfl] at this
    cases this
  omega
/-- a part that quarrels: the heap quarrels, and is not least -/
theorem mkQ_part {D : dT} {hp i : Nat} (hh : hp < 2 ^ D.1) (hb : hp.testBit i = true) (hm : mkQ D (clr hp i) ≠ 0) : mkQ D hp = 1 := by
  have q1 : qz (hzD D (clr hp i)) (fun _ => false) = true := by
    cases e : qz (hzD D (clr hp i)) (fun _ => false)
    · exact absurd (mkQ_0.mpr e) hm
    · rfl
  have q2 : qz (hzD D hp) (fun _ => false) = true := qz_mono (hzD_mono (fun i hi => clr_in hi)) q1
  have q3 : lq D hp = false := by
    cases e : lq D hp
    · rfl
    · have := ((lqF_iff D.1).mp e).2 i (hp_bit hh hb) hb
      rw [q1] at this; cases this
  unfold mkQ
  rw [q2, q3, if_pos rfl, if_neg Bool.false_ne_true]
theorem mkQ_none {D : dT} {hp : Nat} (hm : ∀ i, i < D.1 → hp.testBit i = true → mkQ D (clr hp i) = 0) : mkQ D hp = (if qz (hzD D hp) (fun _ => false) then 2 else 0) ∧ lq D hp = qz (hzD D hp) (fun _ => false) := by
  have key : lq D hp = qz (hzD D hp) (fun _ => false) := by
    rw [Bool.eq_iff_iff]
    unfold lq
    rw [lqF_iff]
    exact ⟨fun z => z.1, fun z => ⟨z, fun i hi hb => mkQ_0.mp (hm i hi hb)⟩⟩
  refine ⟨?_, key⟩
  unfold mkQ
  rw [key]
  cases qz (hzD D hp) (fun _ => false) <;> rfl
theorem mkQ_all {D : dT} (h : qz (hzD D (2 ^ D.1 - 1)) (fun _ => false) = false) {hp : Nat} (hh : hp < 2 ^ D.1) : mkQ D hp = 0 := by
  rw [mkQ_0]
  cases e : qz (hzD D hp) (fun _ => false)
  · rfl
  · have := qz_mono (hzD_mono (D := D) (hp := hp) (hq := 2 ^ D.1 - 1) (fun i hi => by
      rw [Nat.testBit_two_pow_sub_one, decide_eq_true_eq]
      exact hp_bit hh hi)) e
    rw [this] at h; cases h
theorem mkQ_le {D : dT} {hp : Nat} : mkQ D hp ≤ 2 := by
  unfold mkQ
  split
  · split <;> omega
  · omega
theorem cq_S {D : dT} {k : Nat} (hk : 0 < k) : cq D (k + 1) = cq D k + (if lq D k then 1 else 0) := by
  show cn (fun i => decide (0 < i) && lq D i) k + (if (decide (0 < k) && lq D k) = true then 1 else 0) = _
  rw [decide_eq_true hk, Bool.true_and]; rfl
theorem cq_le {D : dT} {k : Nat} : cq D k ≤ k := cn_le _ _
theorem cq_1 {D : dT} : cq D 1 = 0 := rfl
theorem cq_calm {D : dT} (h : ∀ hp, hp < 2 ^ D.1 → mkQ D hp = 0) : ∀ k, k ≤ 2 ^ D.1 → cq D k = 0
  | 0, _ => rfl
  | k + 1, hk => by
    have ih := cq_calm h k (by omega)
    by_cases e : k = 0
    · subst e; exact cq_1
    · rw [cq_S (by omega), ih]
      have := h k (by omega)
      cases z : lq D k
      · rfl
      · rw [mkQ_2.mpr z] at this; cases this
section CQM
variable {d : Nat} {h : am_H} {F : Nat → Nat → Int32} {J : Nat → Nat → Int64} {V : Nat → Nat → Value} {Q : am_Q}
set_option maxRecDepth 20000 in
theorem c_qStart {e : am_H} (ke : Hk e h) (e2 : e.2 = h.2) (hh : 108 ≤ h.2.1) {q L N : Nat} {g : Nat → Int32} (hv : V 61 1 = .ref q) (m : Mq e h F 62 1 q L g) (hN : N ≤ 4096) (K : ∀ e' h' F' V' q' L', Gw q' e h e' h' → (q' = q ∨ q' = h.2.1) → h'.2.1 ≤ h.2.1 + 1 → h'.2.2 ≤ h.2.2 + 4096 → V' 61 1 = .ref q' → (∀ x, x ≠ 61 → V' x = V x) → Mq e' h' F' 62 1 q' L' (fun _ => 0) → N ≤ L' → F' 61 0 = 1 → F' 61 2 = nI N → F' 61 3 = 0 → (∀ x, x ≠ 61 → x ≠ 62 → F' x = F x) → Q none (ov h' F' J V')) : am_cl (d + 2) 102 [.ref 61, .int (nI N)] (ov h F J V) Q := by
  have hc : rwC 62 1 := Or.inl ⟨rfl, rfl⟩
  have hL := m.1
  have tl : ∀ e1 h1 V1 q1 L1 g1, Gw q1 e h e1 h1 → (q1 = q ∨ q1 = h.2.1) → h1.2.1 ≤ h.2.1 + 1 → h1.2.2 ≤ h.2.2 + 4096 → V1 61 1 = .ref q1 → (∀ x, x ≠ 61 → V1 x = V x) → Mq e1 h1 F 62 1 q1 L1 g1 → N ≤ L1 → am_W kc_Quarrels_start (am_cl (d + 1)) Q 16 [.ref 61, .int (nI N)] [] (ov h1 F J V1) := by
    intro e1 h1 V1 q1 L1 g1 w1 w2 w3 w4 w5 w6 w7 w8
    simp only [isO_c, ax0, ex_cons, am_get, upz_at, true_and, and_true, Nat.reduceAdd, Nat.reduceLeDiff, Nat.reduceEqDiff, Nat.reduceSub, Int32.reduceOfInt, Int32.reduceAdd, Int32.reduceMul, Int32.reduceSub, ↓reduceIte, Int32.reduceLT, Int32.reduceLE, Int32.reduceToNatClampNeg, Nat.reduceMod, Nat.reduceLT, List.length_cons, List.length_nil, eq_self, true_or, or_true, and_self, implies_true, not_true_eq_false, not_false_eq_true, false_implies, true_implies, forall_const, st_aloadx, st_getfieldx, st_iconstx, st_iloadx, st_st2, st_putfieldx, st_putstaticx, st_return_x, jx_Quarrels_start_16, kb_Quarrels_start_16, og_61_1, op_61_2, op_61_3, op_61_0, oa_61, os_61, w5]
    refine c_fillB hc w7 (fun h2 F2 z2 f2 m2 => ?_)
    simp only [isO_c, ax0, ex_cons, am_get, upz_at, true_and, and_true, Nat.reduceAdd, Nat.reduceLeDiff, Nat.reduceEqDiff, Nat.reduceSub, Int32.reduceOfInt, Int32.reduceAdd, Int32.reduceMul, Int32.reduceSub, ↓reduceIte, Int32.reduceLT, Int32.reduceLE, Int32.reduceToNatClampNeg, Nat.reduceMod, Nat.reduceLT, List.length_cons, List.length_nil, eq_self, true_or, or_true, and_self, implies_true, not_true_eq_false, not_false_eq_true, false_implies, true_implies, forall_const, st_aloadx, st_getfieldx, st_iconstx, st_iloadx, st_st2, st_putfieldx, st_putstaticx, st_return_x, jx_Quarrels_start_16, kb_Quarrels_start_16, og_61_1, op_61_2, op_61_3, op_61_0, oa_61, os_61, upz_upd, upz_eq]
    refine K e1 h2 _ V1 q1 L1 (w1.hq z2 (w7.jk hc)) w2 (by rw [z2.1]; exact w3) (by rw [z2.1]; exact w4) w5 w6 (m2.cg (upz_ne _ _ (by decide))) w8 ?_ ?_ ?_ (fun x x1 x2 => by rw [upz_ne _ _ x1]; exact f2 x x2)
    · rw [upz_eq]; simp only [upz_at, Nat.reduceEqDiff, ↓reduceIte]
    · rw [upz_eq]; simp only [upz_at, Nat.reduceEqDiff, ↓reduceIte]
    · rw [upz_eq]; simp only [upz_at, Nat.reduceEqDiff, ↓reduceIte]
  simp only [isO_c, ax0, ex_cons, am_get, upz_at, true_and, and_true, Nat.reduceAdd, Nat.reduceLeDiff, Nat.reduceEqDiff, Nat.reduceSub, Int32.reduceOfInt, Int32.reduceAdd, Int32.reduceMul, Int32.reduceSub, ↓reduceIte, Int32.reduceLT, Int32.reduceLE, Int32.reduceToNatClampNeg, Nat.reduceMod, Nat.reduceLT, List.length_cons, List.length_nil, eq_self, true_or, or_true, and_self, implies_true, not_true_eq_false, not_false_eq_true, false_implies, true_implies, forall_const, st_aloadx, st_arraylengthx, st_getfieldx, st_goto_wx, st_if_icmpx, st_iloadx, st_invokedynamicx, st_invokedynamic_1x, st_newarrayx, st_newarray_1, kb_Quarrels_start_0, og_61_1, op_61_1, oa_61, osV_61, cx_Quarrels_start, hv, m.len hc, (nk_le (by omega) (by omega) : (nI (N) ≤ nI (L)) = (N ≤ L))]
  refine ⟨fun w => ?_, fun w => ?_⟩
  · exact tl e h V q L g (Gw.rf ke e2) (Or.inl rfl) (Nat.le_succ _) (Nat.le_add_right _ _) hv (fun _ _ => rfl) m w
  · obtain ⟨w1, w2⟩ := Gw.new (q := h.2.1) ke e2 (aI 1 (am_ar N (fun _ => 0))) N
    simp only [isO_c, ax0, ex_cons, am_get, upz_at, true_and, and_true, Nat.reduceAdd, Nat.reduceLeDiff, Nat.reduceEqDiff, Nat.reduceSub, Int32.reduceOfInt, Int32.reduceAdd, Int32.reduceMul, Int32.reduceSub, ↓reduceIte, Int32.reduceLT, Int32.reduceLE, Int32.reduceToNatClampNeg, Nat.reduceMod, Nat.reduceLT, List.length_cons, List.length_nil, eq_self, true_or, or_true, and_self, implies_true, not_true_eq_false, not_false_eq_true, false_implies, true_implies, forall_const, st_aloadx, st_arraylengthx, st_getfieldx, st_goto_wx, st_if_icmpx, st_iloadx, st_invokedynamicx, st_invokedynamic_1x, st_newarrayx, st_newarray_1, kb_Quarrels_start_0, og_61_1, op_61_1, oa_61, osV_61, st_newB, nk_neg (show N < 2147483648 by omega), nk_cl (show N < 2147483648 by omega), show N ≤ 65536 by omega, ov_new hh, ov_2, am_ar_repl, osV_61]
    exact tl _ _ _ h.2.1 N (fun _ => 0) w1 (Or.inr rfl) (Nat.le_refl _) (by show h.2.2 + N ≤ _; omega) (by rw [upz_eq, upz_eq]) (fun x hx => upz_ne _ _ hx) ⟨by omega, Or.inr ⟨hh, Nat.lt_succ_self _, w2, if_pos rfl⟩⟩ (Nat.le_refl _)
set_option maxRecDepth 20000 in
theorem c_markByPart {e : am_H} {q L N hp : Nat} {g : Nat → Int32} (hv : V 61 1 = .ref q) (m : Mq e h F 62 1 q L g) (h2 : F 61 2 = nI N) (hN : N ≤ L) (hN2 : N ≤ 4096) (hhp : hp < N) (K1 : ∀ h' F', (∃ i, i < 12 ∧ hp.testBit i = true ∧ g (clr hp i) ≠ 0) → Hq q h h' → (∀ x, x ≠ 62 → F' x = F x) → Mq e h' F' 62 1 q L (upz g hp 1) → Q (some (.int 1)) (ov h' F' J V)) (K0 : (∀ i, i < 12 → hp.testBit i = true → g (clr hp i) = 0) → Q (some (.int 0)) (ov h F J V)) : am_cl (d + 1) 103 [.ref 61, .int (nI hp)] (ov h F J V) Q := by
  have hc : rwC 62 1 := Or.inl ⟨rfl, rfl⟩
  have hL := m.1
  simp only [isO_c, ax0, ex_cons, am_get, upz_at, true_and, and_true, Nat.reduceAdd, Nat.reduceLeDiff, Nat.reduceEqDiff, Nat.reduceSub, Int32.reduceOfInt, Int32.reduceAdd, Int32.reduceMul, Int32.reduceSub, ↓reduceIte, Int32.reduceLT, Int32.reduceLE, Int32.reduceToNatClampNeg, Nat.reduceMod, Nat.reduceLT, List.length_cons, List.length_nil, eq_self, true_or, or_true, and_self, implies_true, not_true_eq_false, not_false_eq_true, false_implies, true_implies, forall_const, st_aloadx, st_freturnx, st_getfieldx, st_goto_wx, st_iconstx, st_ifCondx, st_if_icmpx, st_iloadx, st_istorex, am_put, am_nlg, kb_Quarrels_markByPart_0, og_61_2, jx_Quarrels_markByPart_12, kb_Quarrels_markByPart_12, jx_Quarrels_markByPart_14, kb_Quarrels_markByPart_14, oa_61, cx_Quarrels_markByPart, h2, nk_neg (show hp < 2147483648 by omega), nk_cl (show hp < 2147483648 by omega), show (nI hp < nI N) = (hp < N) from nk_lt (by omega) (by omega), hhp]
  have key : ∀ j k v3, k + j = 12 → (∀ i, i < k → hp.testBit i = true → g (clr hp i) = 0) → am_W kc_Quarrels_markByPart (am_cl d) Q 16 [.ref 61, .int (nI hp), .int (nI k), v3] [] (ov h F J V) := by
    intro j
    induction j with
    | zero =>
      intro k v3 ek hz
      have ek : k = 12 := ek
      subst ek
      rw [jx_Quarrels_markByPart_16]
      simp only [isO_c, ax0, ex_cons, am_get, upz_at, true_and, and_true, Nat.reduceAdd, Nat.reduceLeDiff, Nat.reduceEqDiff, Nat.reduceSub, Int32.reduceOfInt, Int32.reduceAdd, Int32.reduceMul, Int32.reduceSub, ↓reduceIte, Int32.reduceLT, Int32.reduceLE, Int32.reduceToNatClampNeg, Nat.reduceMod, Nat.reduceLT, List.length_cons, List.length_nil, eq_self, true_or, or_true, and_self, implies_true, not_true_eq_false, not_false_eq_true, false_implies, true_implies, forall_const, st_aloadx, st_baloadx, st_bastorex, st_freturnx, st_getfieldx, st_iandx, st_iconstx, st_ifCondx, st_if_icmpx, st_iloadx, st_ishlx, st_istorex, st_ixorx, am_put, am_nlg, kb_Quarrels_markByPart_16, og_61_1, jx_Quarrels_markByPart_60, kb_Quarrels_markByPart_60, oa_61, show ((12 : Int32) ≤ nI (12)) = (12 ≤ 12) from nk_le (a := 12) (b := 12) (by omega) (by omega), Nat.le_refl]
      exact K0 hz
    | succ j ih =>
      intro k v3 ek hz
      have ih := ih (k + 1) (.int (nI (2 ^ k))) (by omega)
      have hcl := clr_le hp k
      rw [jx_Quarrels_markByPart_16]
      simp only [isO_c, ax0, ex_cons, am_get, upz_at, true_and, and_true, Nat.reduceAdd, Nat.reduceLeDiff, Nat.reduceEqDiff, Nat.reduceSub, Int32.reduceOfInt, Int32.reduceAdd, Int32.reduceMul, Int32.reduceSub, ↓reduceIte, Int32.reduceLT, Int32.reduceLE, Int32.reduceToNatClampNeg, Nat.reduceMod, Nat.reduceLT, List.length_cons, List.length_nil, eq_self, true_or, or_true, and_self, implies_true, not_true_eq_false, not_false_eq_true, false_implies, true_implies, forall_const, st_aloadx, st_baloadx, st_bastorex, st_freturnx, st_getfieldx, st_gotox, st_iandx, st_iconstx, st_ifCondx, st_if_icmpx, st_iincx, st_iloadx, st_ishlx, st_istorex, st_ixorx, am_put, am_nlg, kb_Quarrels_markByPart_16, og_61_1, jx_Quarrels_markByPart_54, kb_Quarrels_markByPart_54, oa_61, show ((12 : Int32) ≤ nI (k)) = (12 ≤ k) from nk_le (a := 12) (b := k) (by omega) (by omega), show ¬ 12 ≤ k by omega, nk_1shl (show k < 32 by omega), bit_and (show k < 32 by omega), hv, nk_clr (show hp < 4096 by omega) (show k < 12 by omega), m.get hc, oq_rB (show 1 < 2 by decide), nk_neg (show clr hp k < 2147483648 by omega), nk_cl (show clr hp k < 2147483648 by omega), show clr hp k < L by omega, nk_succ]
      refine ⟨fun w => ?_, fun w => ?_⟩
      · refine ih (fun i hi hb => ?_)
        by_cases z : i = k
        · subst z; rw [w] at hb; cases hb
        · exact hz i (by omega) hb
      · rw [Bool.not_eq_false] at w
        refine ⟨fun y => ?_, fun y => ?_⟩
        · refine ih (fun i hi hb => ?_)
          by_cases z : i = k
          · subst z; exact y
          · exact hz i (by omega) hb
        · obtain ⟨h1, F1, e1, z1, f1, m1⟩ := m.set hc (J := J) (V := V) (upz g hp 1)
          simp only [oq_wB1, nk_neg (show hp < 2147483648 by omega), nk_cl (show hp < 2147483648 by omega), show hp < L by omega, m.q23 hc, show (1 : Int32).toInt8.toInt32 = 1 from by decide, e1, isO_c, ax0, ex_cons, am_get, upz_at, true_and, and_true, Nat.reduceAdd, Nat.reduceLeDiff, Nat.reduceEqDiff, Nat.reduceSub, Int32.reduceOfInt, Int32.reduceAdd, Int32.reduceMul, Int32.reduceSub, ↓reduceIte, Int32.reduceLT, Int32.reduceLE, Int32.reduceToNatClampNeg, Nat.reduceMod, Nat.reduceLT, List.length_cons, List.length_nil, eq_self, true_or, or_true, and_self, implies_true, not_true_eq_false, not_false_eq_true, false_implies, true_implies, forall_const, st_aloadx, st_baloadx, st_bastorex, st_freturnx, st_getfieldx, st_iandx, st_iconstx, st_ifCondx, st_if_icmpx, st_iloadx, st_ishlx, st_istorex, st_ixorx, am_put, am_nlg, kb_Quarrels_markByPart_16, og_61_1, oa_61]
          exact K1 h1 F1 ⟨k, by omega, w, y⟩ z1 f1 m1
  exact key 12 0 _ rfl (fun i hi => absurd hi (Nat.not_lt_zero i))
set_option maxRecDepth 20000 in
theorem c_mark {e : am_H} {q L N hp : Nat} {g : Nat → Int32} {fit : Bool} (hv : V 61 1 = .ref q) (m : Mq e h F 62 1 q L g) (h2 : F 61 2 = nI N) (hN : N ≤ L) (hN2 : N ≤ 4096) (hhp : hp < N) (K1 : ∀ h' F', fit = false → Hq q h h' → (∀ x, x ≠ 61 → x ≠ 62 → F' x = F x) → (∀ i, i ≠ 3 → F' 61 i = F 61 i) → F' 61 3 = F 61 3 + 1 → Mq e h' F' 62 1 q L (upz g hp 2) → Q none (ov h' F' J V)) (K0 : fit = true → Q none (ov h F J V)) : am_cl (d + 1) 104 [.ref 61, .int (nI hp), .int (b2i fit)] (ov h F J V) Q := by
  have hc : rwC 62 1 := Or.inl ⟨rfl, rfl⟩
  have hL := m.1
  cases fit
  · obtain ⟨h1, F1, e1, z1, f1, m1⟩ := m.set hc (J := J) (V := V) (upz g hp 2)
    have f61 : F1 61 = F 61 := f1 61 (by decide)
    simp only [isO_c, ax0, ex_cons, am_get, upz_at, true_and, and_true, Nat.reduceAdd, Nat.reduceLeDiff, Nat.reduceEqDiff, Nat.reduceSub, Int32.reduceOfInt, Int32.reduceAdd, Int32.reduceMul, Int32.reduceSub, ↓reduceIte, Int32.reduceLT, Int32.reduceLE, Int32.reduceToNatClampNeg, Nat.reduceMod, Nat.reduceLT, List.length_cons, List.length_nil, eq_self, true_or, or_true, and_self, implies_true, not_true_eq_false, not_false_eq_true, false_implies, true_implies, forall_const, st_aloadx, st_bastorex, st_dupx, st_dup_1x, st_getfieldx, st_goto_wx, st_iaddx, st_iconstx, st_ifCondx, st_if_icmpx, st_iloadx, st_putfieldx, st_return_x, kb_Quarrels_mark_0, og_61_2, og_61_1, og_61_3, op_61_3, jx_Quarrels_mark_33, kb_Quarrels_mark_33, oa_61, os_61, cx_Quarrels_mark, show b2i false = (0 : Int32) from rfl, h2, nk_neg (show hp < 2147483648 by omega), nk_cl (show hp < 2147483648 by omega), (nk_le (by omega) (by omega) : (nI (N) ≤ nI (hp)) = (N ≤ hp)), show ¬ N ≤ hp by omega, hv, m.get hc, oq_wB1, show hp < L by omega, m.q23 hc, show (2 : Int32).toInt8.toInt32 = 2 from by decide, e1]
    refine K1 h1 _ rfl z1 (fun x x1 x2 => by rw [upz_ne _ _ x1]; exact f1 x x2) (fun i hi => by rw [upz_eq, upz_ne _ _ hi, f61]) (by rw [upz_eq, upz_eq, f61]) (m1.cg (upz_ne _ _ (by decide)))
  · simp only [isO_c, ax0, ex_cons, am_get, upz_at, true_and, and_true, Nat.reduceAdd, Nat.reduceLeDiff, Nat.reduceEqDiff, Nat.reduceSub, Int32.reduceOfInt, Int32.reduceAdd, Int32.reduceMul, Int32.reduceSub, ↓reduceIte, Int32.reduceLT, Int32.reduceLE, Int32.reduceToNatClampNeg, Nat.reduceMod, Nat.reduceLT, List.length_cons, List.length_nil, eq_self, true_or, or_true, and_self, implies_true, not_true_eq_false, not_false_eq_true, false_implies, true_implies, forall_const, st_aloadx, st_bastorex, st_dupx, st_dup_1x, st_getfieldx, st_goto_wx, st_iaddx, st_iconstx, st_ifCondx, st_if_icmpx, st_iloadx, st_putfieldx, st_return_x, kb_Quarrels_mark_0, og_61_2, og_61_1, og_61_3, op_61_3, jx_Quarrels_mark_33, kb_Quarrels_mark_33, oa_61, os_61, cx_Quarrels_mark, show b2i true = (1 : Int32) from rfl]
    exact K0 rfl
end CQM
