/-! ===== the class: mood and kinds of a fresh sentence ===== -/
theorem cd_pos {t : eT} (hw : wfT t) : 1 ≤ (cdT t).length := by
  cases t with
  | var j => exact Nat.le_refl _
  | neg a => show 1 ≤ (cdT a ++ [8]).length; rw [List.length_append]; exact Nat.le_add_left _ _
  | sub a b => show 1 ≤ (cdT a ++ cdT b ++ [9]).length; rw [List.length_append]; exact Nat.le_add_left _ _
  | add a b => show 1 ≤ (cdT a ++ cdT b ++ [10]).length; rw [List.length_append]; exact Nat.le_add_left _ _
  | num _ => exact hw.elim
  | mulL _ _ => exact hw.elim
  | mulR _ _ => exact hw.elim
theorem kd_len {t : eT} (hw : wfT t) : ((cdT t).length = 1 ∧ kdT t = nI ((cdT t).getD 0 0) ∧ (cdT t).getD 0 0 < 8) ∨ (¬ (cdT t).length = 1 ∧ kdT t = -1) := by
  cases t with
  | var j => exact Or.inl ⟨rfl, rfl, hw⟩
  | neg a =>
    refine Or.inr ⟨?_, rfl⟩
    have := cd_pos (t := a) hw
    show ¬ (cdT a ++ [8]).length = 1
    rw [List.length_append]
    have : ([8] : List Nat).length = 1 := rfl
    omega
  | sub a b =>
    refine Or.inr ⟨?_, rfl⟩
    have := cd_pos (t := a) hw.1
    show ¬ (cdT a ++ cdT b ++ [9]).length = 1
    rw [List.length_append, List.length_append]
    have : ([9] : List Nat).length = 1 := rfl
    omega
  | add a b =>
    refine Or.inr ⟨?_, rfl⟩
    have := cd_pos (t := a) hw.1
    show ¬ (cdT a ++ cdT b ++ [10]).length = 1
    rw [List.length_append, List.length_append]
    have : ([10] : List Nat).length = 1 := rfl
    omega
  | num _ => exact hw.elim
  | mulL _ _ => exact hw.elim
  | mulR _ _ => exact hw.elim
def moF (R : rT) : Int32 := if R.1 = 3 then (if R.2.1 then 3 else 2) else if R.1 = 2 then 1 else 0
def kaR (R : rT) : Int32 := if 9 ≤ R.1 ∨ R.1 = 4 ∨ R.1 = 5 then kdT R.2.2.2.2 else kdT R.2.2.2.1
def kbR (R : rT) : Int32 := if 9 ≤ R.1 then -1 else if R.1 = 4 ∨ R.1 = 5 then kdT R.2.2.2.1 else kdT R.2.2.2.2
theorem ki_m1 (x : Int32) : kiB x (-1) = false := by
  unfold kiB
  rw [show lieB (-1) 0 7 = false by decide, Bool.and_false, Bool.false_and]
theorem ki_m2 (x : Int32) : kiB (-1) x = false := by
  unfold kiB
  rw [show lieB (-1) 0 7 = false by decide, Bool.false_and, Bool.false_and]
theorem ki_n {a b : Nat} (ha : a < 8) (hb : b < 8) : kiB (nI a) (nI b) = !decide (a = b) := (by decide : ∀ a b : Fin 8, kiB (nI a.val) (nI b.val) = !decide (a.val = b.val)) ⟨a, ha⟩ ⟨b, hb⟩
theorem nu_non {R : rT} (h : nuR R = none) : moI R = -1 ∧ skI R = -1 ∧ pkI R = -1 := by
  unfold moI skI pkI
  rw [h]
  exact ⟨rfl, rfl, rfl⟩
theorem nu_som {R : rT} {n : Nat} (h : nuR R = some n) : moI R = nI (n / 64) ∧ skI R = nI (n / 8 % 8) ∧ pkI R = nI (n % 8) := by
  unfold moI skI pkI
  rw [h]
  exact ⟨rfl, rfl, rfl⟩
theorem nu_ki {R : rT} (hw : wfR R) : (kiB (kaR R) (kbR R) = true ∧ moI R = moF R ∧ skI R = kaR R ∧ pkI R = kbR R) ∨ (kiB (kaR R) (kbR R) = false ∧ moI R = -1 ∧ skI R = -1 ∧ pkI R = -1) := by
  by_cases z9 : 9 ≤ R.1
  · refine Or.inr ⟨?_, nu_non ?_⟩
    · unfold kbR
      rw [if_pos z9]
      exact ki_m1 _
    · unfold nuR
      rw [if_neg (fun z => absurd z.1 (by omega))]
  · have hA := kd_len (hw.2.1 (by omega)).1
    have hB := kd_len hw.2.2.1.1
    have e1 : rC1 R = cdT R.2.2.2.1 := if_pos (by omega)
    have e2 : rC2 R = cdT R.2.2.2.2 := rfl
    have ka : kaR R = if R.1 = 4 ∨ R.1 = 5 then kdT R.2.2.2.2 else kdT R.2.2.2.1 := by
      unfold kaR
      by_cases y : R.1 = 4 ∨ R.1 = 5
      · rw [if_pos y, if_pos (Or.inr y)]
      · rw [if_neg y, if_neg (by omega)]
    have kb : kbR R = if R.1 = 4 ∨ R.1 = 5 then kdT R.2.2.2.1 else kdT R.2.2.2.2 := by unfold kbR; rw [if_neg z9]
    rcases hA with ⟨a1, a2, a3⟩ | ⟨a1, a2⟩
    · rcases hB with ⟨b1, b2, b3⟩ | ⟨b1, b2⟩
      · generalize hx : (cdT R.2.2.2.1).getD 0 0 = x at a2 a3
        generalize hy : (cdT R.2.2.2.2).getD 0 0 = y at b2 b3
        by_cases e : x = y
        · refine Or.inr ⟨?_, nu_non ?_⟩
          · rw [ka, kb, a2, b2, e]
            split <;> rw [ki_n b3 b3, decide_eq_true rfl] <;> rfl
          · unfold nuR
            rw [e1, e2, hx, hy, if_neg (fun z => z.2.2.2 e)]
        · refine Or.inl ⟨?_, ?_⟩
          · rw [ka, kb, a2, b2]
            split
            · rw [ki_n b3 a3, decide_eq_false (fun q => e q.symm)]; rfl
            · rw [ki_n a3 b3, decide_eq_false e]; rfl
          · have nu : nuR R = some (if R.1 = 1 then 8 * x + y else if R.1 = 2 then 64 + 8 * x + y else if R.1 = 3 then (if R.2.1 then 192 else 128) + 8 * x + y else 8 * y + x) := by
              unfold nuR
              rw [e1, e2, hx, hy, if_pos ⟨by omega, a1, b1, e⟩]
            obtain ⟨n1, n2, n3⟩ := nu_som nu
            rw [n1, n2, n3, ka, kb, a2, b2]
            unfold moF
            have hf := hw.1
            unfold isF at hf
            rcases (show R.1 = 1 ∨ R.1 = 2 ∨ R.1 = 3 ∨ R.1 = 4 ∨ R.1 = 5 by omega) with f | f | f | f | f
            · rw [f]
              refine ⟨?_, ?_, ?_⟩
              · show nI ((8 * x + y) / 64) = 0; rw [show (8 * x + y) / 64 = 0 by omega]; rfl
              · show nI ((8 * x + y) / 8 % 8) = nI x; rw [show (8 * x + y) / 8 % 8 = x by omega]
              · show nI ((8 * x + y) % 8) = nI y; rw [show (8 * x + y) % 8 = y by omega]
            · rw [f]
              refine ⟨?_, ?_, ?_⟩
              · show nI ((64 + 8 * x + y) / 64) = 1; rw [show (64 + 8 * x + y) / 64 = 1 by omega]; rfl
              · show nI ((64 + 8 * x + y) / 8 % 8) = nI x; rw [show (64 + 8 * x + y) / 8 % 8 = x by omega]
              · show nI ((64 + 8 * x + y) % 8) = nI y; rw [show (64 + 8 * x + y) % 8 = y by omega]
            · rw [f]
              cases R.2.1
              · refine ⟨?_, ?_, ?_⟩
                · show nI ((128 + 8 * x + y) / 64) = 2; rw [show (128 + 8 * x + y) / 64 = 2 by omega]; rfl
                · show nI ((128 + 8 * x + y) / 8 % 8) = nI x; rw [show (128 + 8 * x + y) / 8 % 8 = x by omega]
                · show nI ((128 + 8 * x + y) % 8) = nI y; rw [show (128 + 8 * x + y) % 8 = y by omega]
              · refine ⟨?_, ?_, ?_⟩
                · show nI ((192 + 8 * x + y) / 64) = 3; rw [show (192 + 8 * x + y) / 64 = 3 by omega]; rfl
                · show nI ((192 + 8 * x + y) / 8 % 8) = nI x; rw [show (192 + 8 * x + y) / 8 % 8 = x by omega]
                · show nI ((192 + 8 * x + y) % 8) = nI y; rw [show (192 + 8 * x + y) % 8 = y by omega]
            · rw [f]
              refine ⟨?_, ?_, ?_⟩
              · show nI ((8 * y + x) / 64) = 0; rw [show (8 * y + x) / 64 = 0 by omega]; rfl
              · show nI ((8 * y + x) / 8 % 8) = nI y; rw [show (8 * y + x) / 8 % 8 = y by omega]
              · show nI ((8 * y + x) % 8) = nI x; rw [show (8 * y + x) % 8 = x by omega]
            · rw [f]
              refine ⟨?_, ?_, ?_⟩
              · show nI ((8 * y + x) / 64) = 0; rw [show (8 * y + x) / 64 = 0 by omega]; rfl
              · show nI ((8 * y + x) / 8 % 8) = nI y; rw [show (8 * y + x) / 8 % 8 = y by omega]
              · show nI ((8 * y + x) % 8) = nI x; rw [show (8 * y + x) % 8 = x by omega]
      · refine Or.inr ⟨?_, nu_non ?_⟩
        · rw [ka, kb, b2]
          split
          · exact ki_m2 _
          · exact ki_m1 _
        · unfold nuR
          rw [e1, e2, if_neg (fun z => b1 z.2.2.1)]
    · refine Or.inr ⟨?_, nu_non ?_⟩
      · rw [ka, kb, a2]
        split
        · exact ki_m1 _
        · exact ki_m2 _
      · unfold nuR
        rw [e1, e2, if_neg (fun z => a1 z.2.1)]
section CTL
variable {d : Nat} {h : am_H} {F : Nat → Nat → Int32} {J : Nat → Nat → Int64} {V : Nat → Nat → Value} {Q : am_Q}
set_option maxRecDepth 20000 in
theorem c_tellSimple {R : rT} (hw : wfR R) {l : List Nat} {fs fb : Nat → Int64} {v0 v1 v2 v6 v7 v8 : Value} (hh : 108 ≤ h.2.1) (p5 : F 24 5 = nI (fmR R)) (p7 : F 24 7 = b2i R.2.1) (K : Q none (ov (nsH h (aO 6 [v0, v1, v2, .int (moI R), .int (skI R), .int (pkI R), v6, v7, v8]) l fs fb) F J V)) : am_cl (d + 2) 110 [.ref 24, .ref h.2.1, .int (kaR R), .int (kbR R)] (ov (nsH h (aO 6 [v0, v1, v2, .int (-1), .int (-1), .int (-1), v6, v7, v8]) l fs fb) F J V) Q := by
  have r : ∀ E, (ov (nsH h E l fs fb) F J V).1 h.2.1 = E := fun E => by rw [ov_hi (by omega), ns_0]
  have s : ∀ E E', am_set (ov (nsH h E l fs fb) F J V) h.2.1 E' = ov (nsH h E' l fs fb) F J V := fun E E' => by rw [ov_setH (by omega), ns_S0]
  have h23 : 23 ≤ h.2.1 := by omega
  have fm : fmR R < 7 := by
    have hf := hw.1
    unfold isF at hf
    unfold fmR
    split
    · decide
    · split
      · decide
      · omega
  simp only [isO_c, ax0, ex_cons, am_get, upz_at, true_and, and_true, Nat.reduceAdd, Nat.reduceLeDiff, Nat.reduceEqDiff, Nat.reduceSub, Int32.reduceOfInt, Int32.reduceAdd, Int32.reduceMul, Int32.reduceSub, ↓reduceIte, Int32.reduceLT, Int32.reduceLE, Int32.reduceToNatClampNeg, Nat.reduceMod, Nat.reduceLT, List.length_cons, List.length_nil, eq_self, true_or, or_true, and_self, implies_true, not_true_eq_false, not_false_eq_true, false_implies, true_implies, forall_const, st_aloadx, st_getfieldx, st_gotox, st_iconstx, st_ifCondx, st_if_icmpx, st_iloadx, st_st2, st_putfieldx, kb_Reader_tellSimple_0, og_24_5, og_24_7, oa_24, cx_Reader_tellSimple]
  refine c_areTwoKinds ?_
  rcases nu_ki hw with ⟨e, m, u, v⟩ | ⟨e, m, u, v⟩
  · rw [e]
    rw [m, u, v] at K
    unfold moF at K
    simp only [isO_c, ax0, ex_cons, am_get, upz_at, true_and, and_true, Nat.reduceAdd, Nat.reduceLeDiff, Nat.reduceEqDiff, Nat.reduceSub, Int32.reduceOfInt, Int32.reduceAdd, Int32.reduceMul, Int32.reduceSub, ↓reduceIte, Int32.reduceLT, Int32.reduceLE, Int32.reduceToNatClampNeg, Nat.reduceMod, Nat.reduceLT, List.length_cons, List.length_nil, eq_self, true_or, or_true, and_self, implies_true, not_true_eq_false, not_false_eq_true, false_implies, true_implies, forall_const, st_aloadx, st_getfieldx, st_gotox, st_iconstx, st_ifCondx, st_if_icmpx, st_iloadx, st_st2, st_putfieldx, kb_Reader_tellSimple_0, og_24_5, og_24_7, oa_24, show b2i true = (1 : Int32) from rfl, r, s, pf6, h23, p5, show (nI (fmR R) = (2 : Int32)) = (fmR R = 2) from nk_eq (b := 2) (by omega) (by decide)]
    refine ⟨fun z => ?_, fun z => ?_⟩
    · have n3 : ¬ R.1 = 3 := fun q => by
        apply z
        unfold fmR
        rw [q]
        rfl
      rw [if_neg n3] at K
      simp only [isO_c, ax0, ex_cons, am_get, upz_at, true_and, and_true, Nat.reduceAdd, Nat.reduceLeDiff, Nat.reduceEqDiff, Nat.reduceSub, Int32.reduceOfInt, Int32.reduceAdd, Int32.reduceMul, Int32.reduceSub, ↓reduceIte, Int32.reduceLT, Int32.reduceLE, Int32.reduceToNatClampNeg, Nat.reduceMod, Nat.reduceLT, List.length_cons, List.length_nil, eq_self, true_or, or_true, and_self, implies_true, not_true_eq_false, not_false_eq_true, false_implies, true_implies, forall_const, st_aloadx, st_getfieldx, st_gotox, st_iconstx, st_if_icmpx, jx_Reader_tellSimple_45, kb_Reader_tellSimple_45, og_24_5, oa_24, r, s, pf6, h23, p5, show (nI (fmR R) = (1 : Int32)) = (fmR R = 1) from nk_eq (b := 1) (by omega) (by decide)]
      refine ⟨fun y => ?_, fun y => ?_⟩
      · have n2 : ¬ R.1 = 2 := fun q => by
          apply y
          unfold fmR
          rw [q]
          rfl
        rw [if_neg n2] at K
        simp only [isO_c, ax0, ex_cons, am_get, upz_at, true_and, and_true, Nat.reduceAdd, Nat.reduceLeDiff, Nat.reduceEqDiff, Nat.reduceSub, Int32.reduceOfInt, Int32.reduceAdd, Int32.reduceMul, Int32.reduceSub, ↓reduceIte, Int32.reduceLT, Int32.reduceLE, Int32.reduceToNatClampNeg, Nat.reduceMod, Nat.reduceLT, List.length_cons, List.length_nil, eq_self, true_or, or_true, and_self, implies_true, not_true_eq_false, not_false_eq_true, false_implies, true_implies, forall_const, st_goto_wx, st_iconstx, st_putfieldx, st_return_x, jx_Reader_tellSimple_58, kb_Reader_tellSimple_58, jx_Reader_tellSimple_59, kb_Reader_tellSimple_59, jx_Reader_tellSimple_62, kb_Reader_tellSimple_62, r, s, pf6, h23]
        exact K
      · have y := Classical.not_not.mp y
        have n2 : R.1 = 2 := by
          unfold fmR at y
          split at y
          · omega
          · split at y <;> omega
        rw [if_pos n2] at K
        simp only [isO_c, ax0, ex_cons, am_get, upz_at, true_and, and_true, Nat.reduceAdd, Nat.reduceLeDiff, Nat.reduceEqDiff, Nat.reduceSub, Int32.reduceOfInt, Int32.reduceAdd, Int32.reduceMul, Int32.reduceSub, ↓reduceIte, Int32.reduceLT, Int32.reduceLE, Int32.reduceToNatClampNeg, Nat.reduceMod, Nat.reduceLT, List.length_cons, List.length_nil, eq_self, true_or, or_true, and_self, implies_true, not_true_eq_false, not_false_eq_true, false_implies, true_implies, forall_const, st_goto_wx, st_putfieldx, st_return_x, jx_Reader_tellSimple_59, kb_Reader_tellSimple_59, jx_Reader_tellSimple_62, kb_Reader_tellSimple_62, r, s, pf6, h23]
        exact K
    · have z := Classical.not_not.mp z
      have n3 : R.1 = 3 := by
        unfold fmR at z
        split at z
        · omega
        · split at z <;> omega
      rw [if_pos n3] at K
      simp only [isO_c, ax0, ex_cons, am_get, upz_at, true_and, and_true, Nat.reduceAdd, Nat.reduceLeDiff, Nat.reduceEqDiff, Nat.reduceSub, Int32.reduceOfInt, Int32.reduceAdd, Int32.reduceMul, Int32.reduceSub, ↓reduceIte, Int32.reduceLT, Int32.reduceLE, Int32.reduceToNatClampNeg, Nat.reduceMod, Nat.reduceLT, List.length_cons, List.length_nil, eq_self, true_or, or_true, and_self, implies_true, not_true_eq_false, not_false_eq_true, false_implies, true_implies, forall_const, st_aloadx, st_getfieldx, st_gotox, st_iconstx, st_ifCondx, st_if_icmpx, st_iloadx, st_st2, st_putfieldx, kb_Reader_tellSimple_0, og_24_5, og_24_7, oa_24, p7]
      refine ifb (fun u => ?_) (fun u => ?_)
      · rw [u] at K
        simp only [isO_c, ax0, ex_cons, am_get, upz_at, true_and, and_true, Nat.reduceAdd, Nat.reduceLeDiff, Nat.reduceEqDiff, Nat.reduceSub, Int32.reduceOfInt, Int32.reduceAdd, Int32.reduceMul, Int32.reduceSub, ↓reduceIte, Int32.reduceLT, Int32.reduceLE, Int32.reduceToNatClampNeg, Nat.reduceMod, Nat.reduceLT, List.length_cons, List.length_nil, eq_self, true_or, or_true, and_self, implies_true, not_true_eq_false, not_false_eq_true, false_implies, true_implies, forall_const, st_gotox, st_goto_wx, st_iconstx, st_putfieldx, st_return_x, jx_Reader_tellSimple_38, kb_Reader_tellSimple_38, jx_Reader_tellSimple_39, kb_Reader_tellSimple_39, jx_Reader_tellSimple_62, kb_Reader_tellSimple_62, r, s, pf6, h23]
        exact K
      · rw [u] at K
        simp only [isO_c, ax0, ex_cons, am_get, upz_at, true_and, and_true, Nat.reduceAdd, Nat.reduceLeDiff, Nat.reduceEqDiff, Nat.reduceSub, Int32.reduceOfInt, Int32.reduceAdd, Int32.reduceMul, Int32.reduceSub, ↓reduceIte, Int32.reduceLT, Int32.reduceLE, Int32.reduceToNatClampNeg, Nat.reduceMod, Nat.reduceLT, List.length_cons, List.length_nil, eq_self, true_or, or_true, and_self, implies_true, not_true_eq_false, not_false_eq_true, false_implies, true_implies, forall_const, st_gotox, st_putfieldx, st_return_x, jx_Reader_tellSimple_39, kb_Reader_tellSimple_39, jx_Reader_tellSimple_62, kb_Reader_tellSimple_62, r, s, pf6, h23]
        exact K
  · rw [e]
    rw [m, u, v] at K
    simp only [isO_c, ax0, ex_cons, am_get, upz_at, true_and, and_true, Nat.reduceAdd, Nat.reduceLeDiff, Nat.reduceEqDiff, Nat.reduceSub, Int32.reduceOfInt, Int32.reduceAdd, Int32.reduceMul, Int32.reduceSub, ↓reduceIte, Int32.reduceLT, Int32.reduceLE, Int32.reduceToNatClampNeg, Nat.reduceMod, Nat.reduceLT, List.length_cons, List.length_nil, eq_self, true_or, or_true, and_self, implies_true, not_true_eq_false, not_false_eq_true, false_implies, true_implies, forall_const, st_aloadx, st_getfieldx, st_gotox, st_iconstx, st_ifCondx, st_if_icmpx, st_iloadx, st_st2, st_putfieldx, st_return_x, kb_Reader_tellSimple_0, og_24_5, og_24_7, jx_Reader_tellSimple_62, kb_Reader_tellSimple_62, oa_24, show b2i false = (0 : Int32) from rfl]
    exact K
end CTL
