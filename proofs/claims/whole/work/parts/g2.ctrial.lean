/-! ===== the class: the first of the smallest rows ===== -/
theorem exW_pre {T : tT} : ∀ (n : Nat) {pre : List Nat} {k : Nat}, pre.length = n → (∀ r ∈ pre, ffT T r) → exW T pre k → exW T [] (n + k)
  | n, pre, k, hn, hp, ⟨l, h1, h2, h3⟩ => ⟨pre ++ l, fun r hr => (List.mem_append.mp hr).elim (hp r) (h1 r), by rw [List.length_append]; omega, h3⟩
/-- a row that is being filled -/
def GI (T : tT) (P N : Nat) (pre : List Nat) (g : Nat) : Prop := (∀ r ∈ pre, ffT T r) ∧ pre.length ≤ N ∧ exW T pre (N - pre.length) ∧ (pre.length < N → ∀ r, r < g → ffT T r → ¬ exW T (pre ++ [r]) (N - pre.length - 1)) ∧ ∀ p, p < pre.length → ffT T (pre.getD p 0) ∧ exW T (pre.take (p + 1)) (N - (p + 1)) ∧ ∀ r, r < pre.getD p 0 → ffT T r → ¬ exW T (pre.take p ++ [r]) (N - (p + 1))
section GIS
variable {T : tT} {P N : Nat} {pre : List Nat} {g : Nat}
theorem GI.min (hmin : ∀ M, M < N → ¬ exW T [] M) (h : GI T P N pre g) {M : Nat} (hM : M < N - pre.length) : ¬ exW T pre M := fun z => hmin (pre.length + M) (by omega) (exW_pre _ rfl h.1 z)
theorem GI.done (hP : unP T P) (hmin : ∀ M, M < N → ¬ exW T [] M) (hex : exW T [] N) (h : GI T P N pre g) (h0 : lfC T P pre = 0) : IsR T pre := by
  have e0 : exW T pre 0 := (ex_C hP h.1).mpr (by rw [h0]; exact cv_0 _ _)
  have en : pre.length = N := by
    have := h.2.1
    rcases Nat.lt_or_ge pre.length N with t | t
    · exact absurd e0 (h.min hmin (by omega))
    · omega
  unfold IsR
  rw [en]
  exact ⟨hex, hmin, fun p hp => h.2.2.2.2 p (by omega)⟩
theorem GI.lt (hP : unP T P) (h : GI T P N pre g) (h0 : lfC T P pre ≠ 0) : pre.length < N := by
  have := h.2.1
  rcases Nat.lt_or_ge pre.length N with t | t
  · exact t
  · have e := h.2.2.1
    rw [show N - pre.length = 0 by omega, ex_C hP h.1] at e
    exact absurd e (cv_p0 h0)
theorem GI.full (hP : unP T P) (h : GI T P N pre 256) (h0 : lfC T P pre ≠ 0) : False := by
  have hl := h.lt hP h0
  obtain ⟨l, h1, h2, h3⟩ := h.2.2.1
  cases l with
  | nil =>
    have e : exW T pre 0 := ⟨[], fun r hr => (List.not_mem_nil hr).elim, Nat.le_refl _, h3⟩
    rw [ex_C hP h.1] at e
    exact cv_p0 h0 e
  | cons r l =>
    have fr := h1 r List.mem_cons_self
    refine h.2.2.2.1 hl r fr.1 fr ⟨l, fun q hq => h1 q (List.mem_cons_of_mem _ hq), ?_, ?_⟩
    · rw [List.length_cons] at h2; omega
    · rw [List.append_assoc]; exact h3
theorem GI.skip (hP : unP T P) (hmin : ∀ M, M < N → ¬ exW T [] M) (h : GI T P N pre g) {b1 b2 : Nat} (l1 : Lst T P (lfC T P pre) b1) (l2 : Lst T P (andn (lfC T P pre) (cm T P g)) b2) (w : andn (lfC T P pre) (cm T P g) = lfC T P pre ∨ ¬ b2 < b1) : GI T P N pre (g + 1) := by
  refine ⟨h.1, h.2.1, h.2.2.1, fun hl r hr fr z => ?_, h.2.2.2.2⟩
  by_cases e : r = g
  · subst e
    have hp' : ∀ q ∈ pre ++ [r], ffT T q := fun q hq => (List.mem_append.mp hq).elim (h.1 q) (fun y => by rw [List.mem_singleton.mp y]; exact fr)
    rw [ex_C hP hp', lfC_app] at z
    rcases w with w | w
    · rw [w, ← ex_C hP h.1] at z
      exact h.min hmin (by omega) z
    · have i1 := l2.2 _ z
      have i2 := l1.2 _ ((ex_C hP h.1).mp h.2.2.1)
      have i3 : ¬ b1 < N - pre.length := fun t => h.min hmin t ((ex_C hP h.1).mpr l1.1)
      omega
  · exact h.2.2.2.1 hl r (by omega) fr z
theorem GI.take (hP : unP T P) (hg : g < 256) (hmin : ∀ M, M < N → ¬ exW T [] M) (h : GI T P N pre g) (h0 : lfC T P pre ≠ 0) {b1 b2 : Nat} (l1 : Lst T P (lfC T P pre) b1) (l2 : Lst T P (andn (lfC T P pre) (cm T P g)) b2) (w1 : ¬ andn (lfC T P pre) (cm T P g) = lfC T P pre) (w2 : b2 < b1) : GI T P N (pre ++ [g]) (g + 1) := by
  have hl := h.lt hP h0
  have fg : ffT T g := ⟨hg, cm_ne (P := P) (fun e => w1 (by
    apply Nat.eq_of_testBit_eq
    intro i
    rw [andn_bit, e, Nat.zero_testBit]; simp))⟩
  have hp' : ∀ q ∈ pre ++ [g], ffT T q := fun q hq => (List.mem_append.mp hq).elim (h.1 q) (fun y => by rw [List.mem_singleton.mp y]; exact fg)
  have len : (pre ++ [g]).length = pre.length + 1 := by rw [List.length_append]; rfl
  have i2 := l1.2 _ ((ex_C hP h.1).mp h.2.2.1)
  have ex1 : exW T (pre ++ [g]) (N - (pre.length + 1)) := by
    rw [ex_C hP hp', lfC_app]
    exact cv_mono l2.1 (by omega) (fun _ z => z)
  unfold GI
  rw [len]
  refine ⟨hp', by omega, ex1, fun hl2 r hr fr z => ?_, fun p hp => ?_⟩
  · by_cases e : r = g
    · subst e
      have := exW_pop fg (exW_sub z (fun q hq => mem_paa hq))
      exact h.min hmin (by omega) this
    · have := exW_pop fg (exW_sub z (fun q hq => mem_pba hq))
      rw [show N - (pre.length + 1) - 1 + 1 = N - pre.length - 1 by omega] at this
      exact h.2.2.2.1 hl r (by omega) fr this
  · by_cases e : p = pre.length
    · rw [e, gD_app, if_pos rfl, List.take_left' rfl, List.take_of_length_le (by omega)]
      refine ⟨fg, ex1, fun r hr fr z => ?_⟩
      exact h.2.2.2.1 hl r hr fr (by rw [show N - pre.length - 1 = N - (pre.length + 1) by omega]; exact z)
    · rw [gD_app, if_neg e, List.take_append_of_le_length (by omega), List.take_append_of_le_length (by omega)]
      exact h.2.2.2.2 p (by omega)
end GIS
section CTR
variable {d : Nat} {h : am_H} {F : Nat → Nat → Int32} {J : Nat → Nat → Int64} {V : Nat → Nat → Value} {Q : am_Q}
set_option maxRecDepth 20000 in
theorem c_fillTrial {e : am_H} {T : tT} {P full q L : Nat} {g : Nat → Int32} (hP : unP T P) (hw : wN1 T P ≤ 13) (hf : full = 2 ^ wN1 T P - 1) (hv : V 55 5 = .ref q) (m : Mq e h F 59 2 q L g) (hL : full < L) (hg : ∀ rest, rest ≤ full → ∃ b, b ≤ 13 ∧ g rest = nI b ∧ Lst T P rest b) (h57 : ∀ r, r < 256 → F 57 r = nI (cm T P r)) (K : ∀ F' l, IsR T l → l.length ≤ 13 → 0 < l.length → F' 55 7 = nI l.length → (∀ i, i < l.length → F' 60 i = nI (l.getD i 0) ∧ l.getD i 0 < 256) → (∀ x, x ≠ 55 → x ≠ 60 → F' x = F x) → (∀ i, i ≠ 7 → F' 55 i = F 55 i) → Q none (ov h F' J V)) : am_cl (d + 1) 82 [.ref 55, .int (nI full)] (ov h F J V) Q := by
  have hc : rwC 59 2 := Or.inr ⟨rfl, rfl⟩
  have hL2 := m.1
  have hp0 : 2 ≤ 2 ^ wN1 T P := by
    have : 1 ≤ wN1 T P := by unfold wN1; split <;> omega
    exact (Nat.pow_le_pow_right (by decide) this : 2 ^ 1 ≤ 2 ^ wN1 T P)
  have hp2 : 2 ^ wN1 T P ≤ 8192 := (Nat.pow_le_pow_right (by decide) hw : 2 ^ wN1 T P ≤ 2 ^ 13)
  have nn : ∀ r ∈ ([] : List Nat), ffT T r := fun r hr => (List.not_mem_nil hr).elim
  obtain ⟨N, n1, n2, n3⟩ := hg full (Nat.le_refl _)
  have e0 : lfC T P [] = full := by rw [hf]; rfl
  have hex : exW T [] N := (ex_C hP nn).mpr (by rw [e0]; exact n3.1)
  have hmin : ∀ M, M < N → ¬ exW T [] M := fun M hM z => by
    have := n3.2 M (by rw [← e0]; exact (ex_C hP nn).mp z)
    omega
  have N0 : 0 < N := by
    rcases Nat.eq_zero_or_pos N with t | t
    · rw [t] at n3; exact absurd n3.1 (cv_p0 (by omega))
    · exact t
  simp only [isO_c, ax0, ex_cons, am_get, upz_at, true_and, and_true, Nat.reduceAdd, Nat.reduceLeDiff, Nat.reduceEqDiff, Nat.reduceSub, Int32.reduceOfInt, Int32.reduceAdd, Int32.reduceMul, Int32.reduceSub, ↓reduceIte, Int32.reduceLT, Int32.reduceLE, Int32.reduceToNatClampNeg, Nat.reduceMod, Nat.reduceLT, List.length_cons, List.length_nil, eq_self, true_or, or_true, and_self, implies_true, not_true_eq_false, not_false_eq_true, false_implies, true_implies, forall_const, st_aloadx, st_goto_wx, st_iconstx, st_iloadx, st_istorex, st_putfieldx, am_put, am_nlg, kb_Denial_fillTrial_0, op_55_7, oa_55, os_55, cx_Denial_fillTrial]
  have key : ∀ j gR pre F1 v4, gR + j = 256 → GI T P N pre gR → F1 55 7 = nI pre.length → (∀ i, i < pre.length → F1 60 i = nI (pre.getD i 0)) → (∀ x, x ≠ 55 → x ≠ 60 → F1 x = F x) → (∀ i, i ≠ 7 → F1 55 i = F 55 i) → am_W kc_Denial_fillTrial (am_cl d) Q 9 [.ref 55, .int (nI full), .int (nI (lfC T P pre)), .int (nI gR), v4] [] (ov h F1 J V) := by
    intro j
    induction j with
    | zero =>
      intro gR pre F1 v4 eg gi f7 f60 o1 o2
      have eg : gR = 256 := eg
      subst eg
      have fin : lfC T P pre = 0 → Q none (ov h F1 J V) := fun z => by
        have hR := gi.done hP hmin hex z
        have hl := gi.2.1
        refine K F1 pre hR (by omega) ?_ f7 (fun i hi => ⟨f60 i hi, (gi.2.2.2.2 i hi).1.1⟩) o1 o2
        rcases Nat.eq_zero_or_pos pre.length with t | t
        · have := hR.1
          rw [t] at this
          exact absurd this (hmin 0 N0)
        · exact t
      by_cases z : lfC T P pre = 0
      · rw [jx_Denial_fillTrial_9]
        simp only [isO_c, ax0, ex_cons, am_get, upz_at, true_and, and_true, Nat.reduceAdd, Nat.reduceLeDiff, Nat.reduceEqDiff, Nat.reduceSub, Int32.reduceOfInt, Int32.reduceAdd, Int32.reduceMul, Int32.reduceSub, ↓reduceIte, Int32.reduceLT, Int32.reduceLE, Int32.reduceToNatClampNeg, Nat.reduceMod, Nat.reduceLT, List.length_cons, List.length_nil, eq_self, true_or, or_true, and_self, implies_true, not_true_eq_false, not_false_eq_true, false_implies, true_implies, forall_const, st_aloadx, st_baloadx, st_dupx, st_dup_1x, st_getfieldx, st_goto_wx, st_iaddx, st_ialoadx, st_iandx, st_iastorex, st_iconstx, st_ifCondx, st_if_icmpx, st_iloadx, st_istorex, st_ixorx, st_putfieldx, st_return_x, am_put, am_nlg, kb_Denial_fillTrial_9, og_55_2, og_55_5, og_55_7, og_55_6, op_55_7, jx_Denial_fillTrial_92, kb_Denial_fillTrial_92, oa_55, os_55, oa_57, or_57, ow_57, os_57, oa_60, or_60, ow_60, os_60, show ((256 : Int32) ≤ nI (256)) = (256 ≤ 256) from nk_le (a := 256) (b := 256) (by omega) (by omega), Nat.le_refl]
        exact fin z
      · exact (gi.full hP z).elim
    | succ j ih =>
      intro gR pre F1 v4 eg gi f7 f60 o1 o2
      have hle := lfC_le T P pre
      have ale := andn_le (lfC T P pre) (cm T P gR)
      have hl := gi.2.1
      have f57 : F1 57 gR = nI (cm T P gR) := by rw [o1 57 (by decide) (by decide)]; exact h57 gR (by omega)
      have m1 : Mq e h F1 59 2 q L g := m.cg (o1 59 (by decide) (by decide))
      by_cases z : lfC T P pre = 0
      · have hR := gi.done hP hmin hex z
        rw [jx_Denial_fillTrial_9, z]
        simp only [isO_c, ax0, ex_cons, am_get, upz_at, true_and, and_true, Nat.reduceAdd, Nat.reduceLeDiff, Nat.reduceEqDiff, Nat.reduceSub, Int32.reduceOfInt, Int32.reduceAdd, Int32.reduceMul, Int32.reduceSub, ↓reduceIte, Int32.reduceLT, Int32.reduceLE, Int32.reduceToNatClampNeg, Nat.reduceMod, Nat.reduceLT, List.length_cons, List.length_nil, eq_self, true_or, or_true, and_self, implies_true, not_true_eq_false, not_false_eq_true, false_implies, true_implies, forall_const, st_aloadx, st_baloadx, st_dupx, st_dup_1x, st_getfieldx, st_goto_wx, st_iaddx, st_ialoadx, st_iandx, st_iastorex, st_iconstx, st_ifCondx, st_if_icmpx, st_iloadx, st_istorex, st_ixorx, st_putfieldx, st_return_x, am_put, am_nlg, kb_Denial_fillTrial_9, og_55_2, og_55_5, og_55_7, og_55_6, op_55_7, jx_Denial_fillTrial_92, kb_Denial_fillTrial_92, oa_55, os_55, oa_57, or_57, ow_57, os_57, oa_60, or_60, ow_60, os_60, show ((256 : Int32) ≤ nI (gR)) = (256 ≤ gR) from nk_le (a := 256) (b := gR) (by omega) (by omega), show ¬ 256 ≤ gR by omega, show nI 0 = (0 : Int32) from rfl]
        refine K F1 pre hR (by omega) ?_ f7 (fun i hi => ⟨f60 i hi, (gi.2.2.2.2 i hi).1.1⟩) o1 o2
        rcases Nat.eq_zero_or_pos pre.length with t | t
        · have := hR.1
          rw [t] at this
          exact absurd this (hmin 0 N0)
        · exact t
      · obtain ⟨b1, p1, p2, p3⟩ := hg (lfC T P pre) (by omega)
        obtain ⟨b2, r1, r2, r3⟩ := hg (andn (lfC T P pre) (cm T P gR)) (by omega)
        have hlt := gi.lt hP z
        rw [jx_Denial_fillTrial_9]
        simp only [isO_c, ax0, ex_cons, am_get, upz_at, true_and, and_true, Nat.reduceAdd, Nat.reduceLeDiff, Nat.reduceEqDiff, Nat.reduceSub, Int32.reduceOfInt, Int32.reduceAdd, Int32.reduceMul, Int32.reduceSub, ↓reduceIte, Int32.reduceLT, Int32.reduceLE, Int32.reduceToNatClampNeg, Nat.reduceMod, Nat.reduceLT, List.length_cons, List.length_nil, eq_self, true_or, or_true, and_self, implies_true, not_true_eq_false, not_false_eq_true, false_implies, true_implies, forall_const, st_aloadx, st_baloadx, st_dupx, st_dup_1x, st_getfieldx, st_gotox, st_goto_wx, st_iaddx, st_ialoadx, st_iandx, st_iastorex, st_iconstx, st_ifCondx, st_if_icmpx, st_iincx, st_iloadx, st_istorex, st_ixorx, st_putfieldx, am_put, am_nlg, kb_Denial_fillTrial_9, og_55_2, og_55_5, og_55_7, og_55_6, op_55_7, jx_Denial_fillTrial_86, kb_Denial_fillTrial_86, oa_55, os_55, oa_57, or_57, ow_57, os_57, oa_60, or_60, ow_60, os_60, show ((256 : Int32) ≤ nI (gR)) = (256 ≤ gR) from nk_le (a := 256) (b := gR) (by omega) (by omega), show ¬ 256 ≤ gR by omega, show (nI (lfC T P pre) = (0 : Int32)) = (lfC T P pre = 0) from nk_eq (b := 0) (by omega) (by decide), z, nk_neg (show gR < 2147483648 by omega), nk_cl (show gR < 2147483648 by omega), show gR < 256 by omega, f57, nk_andn, show (nI (andn (lfC T P pre) (cm T P gR)) = nI (lfC T P pre)) = (andn (lfC T P pre) (cm T P gR) = lfC T P pre) from nk_eq (by omega) (by omega), hv, m1.get hc, oq_rB (show 1 < 2 by decide), nk_neg (show andn (lfC T P pre) (cm T P gR) < 2147483648 by omega), nk_cl (show andn (lfC T P pre) (cm T P gR) < 2147483648 by omega), nk_neg (show lfC T P pre < 2147483648 by omega), nk_cl (show lfC T P pre < 2147483648 by omega), show andn (lfC T P pre) (cm T P gR) < L by omega, show lfC T P pre < L by omega, p2, r2, (nk_le (by omega) (by omega) : (nI (b1) ≤ nI (b2)) = (b1 ≤ b2)), f7, show ((13 : Int32) ≤ nI (pre.length)) = (13 ≤ pre.length) from nk_le (a := 13) (b := pre.length) (by omega) (by omega), show ¬ 13 ≤ pre.length by omega, nk_neg (show pre.length < 2147483648 by omega), nk_cl (show pre.length < 2147483648 by omega), show pre.length < 13 by omega, nk_succ]
        refine ⟨fun w => ?_, fun w => ⟨fun y => ?_, fun y => ?_⟩⟩
        · exact ih (gR + 1) pre F1 _ (by omega) (gi.skip hP hmin p3 r3 (Or.inl w)) f7 f60 o1 o2
        · exact ih (gR + 1) pre F1 _ (by omega) (gi.skip hP hmin p3 r3 (Or.inr (by omega))) f7 f60 o1 o2
        · have gt := gi.take hP (by omega) hmin z p3 r3 w (by omega)
          have len : (pre ++ [gR]).length = pre.length + 1 := by rw [List.length_append]; rfl
          rw [← lfC_app]
          refine ih (gR + 1) (pre ++ [gR]) _ _ (by omega) gt ?_ (fun i hi => ?_) (fun x x1 x2 => ?_) (fun i hi => ?_)
          · rw [upz_eq, upz_eq, len]
          · rw [upz_ne _ _ (by decide), upz_eq, gD_app]
            by_cases t : i = pre.length
            · rw [t, upz_eq, if_pos rfl]
            · rw [upz_ne _ _ t, if_neg t]; exact f60 i (by rw [len] at hi; omega)
          · rw [upz_ne _ _ x1, upz_ne _ _ x2]; exact o1 x x1 x2
          · rw [upz_eq, upz_ne _ _ hi]; exact o2 i hi
  have k0 := fun F1 v4 => key 256 0 [] F1 v4 rfl ⟨nn, Nat.zero_le _, hex, fun _ r hr => absurd hr (Nat.not_lt_zero r), fun p hp => absurd hp (Nat.not_lt_zero p)⟩
  rw [e0] at k0
  refine k0 _ _ ?_ (fun i hi => absurd hi (Nat.not_lt_zero i)) (fun x x1 x2 => upz_ne _ _ x1) (fun i hi => by rw [upz_eq, upz_ne _ _ hi])
  rw [upz_eq, upz_eq]
  rfl
end CTR
