/-! ===== the class's state; grant, refuse, end, fault, status, count, bound ===== -/
def CI (h : am_H) (F : Nat → Nat → Int32) (V : Nat → Nat → Value) (I : Nat → Option kT) : Prop := ∀ i, i < 2 → V 38 i = .ref (39 + 4 * i) ∧ F (39 + 4 * i) 7 = b2i (I i).isSome ∧ ∀ X, I i = some X → DK h F V (39 + 4 * i) X
def CYr (n : Int32) (q : Nat → Int32) (o : Option yT) : Prop := match o with
  | none => n = -1
  | some y => n = nI y.1 ∧ y.1 ≤ 12 ∧ ∀ i, i < y.1 → q i = nI (y.2 i) ∧ y.2 i < 256 ∧ isNu (y.2 i) = true
def rfN (i : Nat) : Nat := if i < 3 then i + 1 else i + 2
def CB (h : am_H) (F : Nat → Nat → Int32) (V : Nat → Nat → Value) (A : aT) : Prop := DK h F V 34 A.1 ∧ CI h F V A.2.1 ∧ MSt (F 24 1) (F 25) A.2.2.1 ∧ F 24 2 = aFt A ∧ F 23 13 = aSt A ∧ (∀ i, i < 5 → F 81 i = aRf A (rfN i)) ∧ CYr (F 23 11) (F 80) A.2.2.2.2
/-- what is kept of the findings: b: all are forgotten, q: the sufficing heap is -/
def Cx (b q : Bool) (F F' : Nat → Nat → Int32) : Prop := ∀ a, (55 ≤ a ∧ a ≤ 79 ∨ 82 ≤ a) → a ≠ 67 → a ≠ 71 → ∀ i, F' a i = if i = 0 ∧ ((a = 61 ∨ a = 75) ∧ b = true ∨ a = 64 ∧ (b || q) = true) then 0 else F a i
theorem Cx.kp {F F' : Nat → Nat → Int32} (h : ∀ a, (55 ≤ a ∧ a ≤ 79 ∨ 82 ≤ a) → a ≠ 67 → a ≠ 71 → F' a = F a) : Cx false false F F' := fun a ha h1 h2 i => by
  rw [h a ha h1 h2, if_neg]
  rintro ⟨_, ⟨_, q⟩ | ⟨_, q⟩⟩ <;> cases q
theorem Cx.rf {F : Nat → Nat → Int32} : Cx false false F F := Cx.kp (fun _ _ _ _ => rfl)
theorem Cx.tr {b q b' q' : Bool} {F F1 F2 : Nat → Nat → Int32} (h : Cx b q F F1) (g : Cx b' q' F1 F2) : Cx (b || b') (q || q') F F2 := fun a ha h1 h2 i => by
  rw [g a ha h1 h2 i, h a ha h1 h2 i]
  by_cases e : i = 0
  · by_cases e1 : a = 61 ∨ a = 75
    · have e2 : a ≠ 64 := by omega
      cases b <;> cases b' <;> simp [e, e1, e2]
    · by_cases e2 : a = 64
      · cases b <;> cases b' <;> cases q <;> cases q' <;> simp [e, e2]
      · simp [e, e1, e2]
  · simp [e]
theorem Cx.up {b q : Bool} {F F' : Nat → Nat → Int32} (h : Cx b q F F') {k : Nat} (hk : k < 55 ∨ k = 67 ∨ k = 71 ∨ k = 80 ∨ k = 81) (f : Nat → Int32) : Cx b q F (upz F' k f) := fun a ha h1 h2 i => by
  rw [upz_ne _ _ (by omega)]
  exact h a ha h1 h2 i
theorem DK.cg {h : am_H} {F F' : Nat → Nat → Int32} {V V' : Nat → Nat → Value} {δ : Nat} {X : kT} (hD : DK h F V δ X) (e0 : ∀ i, i < 7 → F' δ i = F δ i) (e3 : F' (δ + 3) = F (δ + 3)) (v0 : V' δ = V δ) (v1 : V' (δ + 1) = V (δ + 1)) (v2 : V' (δ + 2) = V (δ + 2)) : DK h F' V' δ X := by
  obtain ⟨⟨d1, d2, d3⟩, d4, d5, ⟨d6, d7, d8⟩, d9, d10⟩ := hD
  refine ⟨⟨by rw [e0 1 (by decide)]; exact d1, d2, by rw [v1]; exact d3⟩, by rw [v0]; exact d4, by rw [e0 3 (by decide)]; exact d5, ⟨by rw [e0 6 (by decide)]; exact d6, d7, by rw [v2, e3]; exact d8⟩, by rw [v1, v2]; exact d9, by rw [e3]; exact d10⟩
theorem CI.cg {h : am_H} {F F' : Nat → Nat → Int32} {V V' : Nat → Nat → Value} {I : Nat → Option kT} (hI : CI h F V I) (e : ∀ a, 38 ≤ a → a ≤ 46 → F' a = F a) (v : ∀ a, 38 ≤ a → a ≤ 46 → V' a = V a) : CI h F' V' I := fun i hi => by
  obtain ⟨h1, h2, h3⟩ := hI i hi
  refine ⟨by rw [v 38 (by decide) (by decide)]; exact h1, by rw [e _ (by omega) (by omega)]; exact h2, fun X hX => (h3 X hX).cg (fun j hj => by rw [e _ (by omega) (by omega)]) (e _ (by omega) (by omega)) (v _ (by omega) (by omega)) (v _ (by omega) (by omega)) (v _ (by omega) (by omega))⟩
/-- the desk and the images are not touched -/
theorem CB.lo {h : am_H} {F F' : Nat → Nat → Int32} {V : Nat → Nat → Value} {A A' : aT} (hA : CB h F V A) (e : ∀ a, 34 ≤ a → a ≤ 46 → F' a = F a) (e1 : A'.1 = A.1) (e2 : A'.2.1 = A.2.1) (h3 : MSt (F' 24 1) (F' 25) A'.2.2.1) (h4 : F' 24 2 = aFt A') (h5 : F' 23 13 = aSt A') (h6 : ∀ i, i < 5 → F' 81 i = aRf A' (rfN i)) (h7 : CYr (F' 23 11) (F' 80) A'.2.2.2.2) : CB h F' V A' := by
  refine ⟨?_, ?_, h3, h4, h5, h6, h7⟩
  · rw [e1]
    exact hA.1.cg (fun i _ => by rw [e 34 (by decide) (by decide)]) (e 37 (by decide) (by decide)) rfl rfl rfl
  · rw [e2]
    exact hA.2.1.cg (fun a h1 h2 => e a (by omega) h2) (fun _ _ _ => rfl)
theorem CB.gd {h : am_H} {F : Nat → Nat → Int32} {V : Nat → Nat → Value} {A : aT} (hA : CB h F V A) (v : Int32) : CB h (upz F 23 (upz (F 23) 13 0)) V (xGd A v).1 := by
  obtain ⟨h1, h2, h3, h4, h5, h6, h7⟩ := id hA
  refine hA.lo (fun a q1 q2 => upz_ne _ _ (by omega)) rfl rfl ?_ ?_ ?_ ?_ ?_
  · rw [upz_ne _ _ (by decide), upz_ne _ _ (by decide)]; exact h3
  · rw [upz_ne _ _ (by decide)]; exact h4
  · rw [upz_eq, upz_eq]; rfl
  · rw [upz_ne _ _ (by decide)]; exact h6
  · rw [upz_eq, upz_ne _ _ (by decide), upz_ne _ _ (by decide)]; exact h7
theorem CB.rf {h : am_H} {F : Nat → Nat → Int32} {V : Nat → Nat → Value} {A : aT} (hA : CB h F V A) {x : Int32} {j : Nat} (hj : j < 5) : CB h (upz (upz F 23 (upz (F 23) 13 x)) 81 (upz (F 81) j (F 81 j + 1))) V (xRf A x (rfN j)).1 := by
  obtain ⟨h1, h2, h3, h4, h5, h6, h7⟩ := id hA
  refine hA.lo (fun a q1 q2 => by rw [upz_ne _ _ (by omega), upz_ne _ _ (by omega)]) rfl rfl ?_ ?_ ?_ ?_ ?_
  · rw [upz_ne _ _ (by decide), upz_ne _ _ (by decide), upz_ne _ _ (by decide), upz_ne _ _ (by decide)]; exact h3
  · rw [upz_ne _ _ (by decide), upz_ne _ _ (by decide)]; exact h4
  · rw [upz_ne _ _ (by decide), upz_eq, upz_eq]; rfl
  · intro i hi
    rw [upz_eq]
    show _ = upz (aRf A) (rfN j) (aRf A (rfN j) + 1) (rfN i)
    by_cases q : i = j
    · subst q
      rw [upz_eq, upz_eq, h6 i hi]
    · rw [upz_ne _ _ q, upz_ne _ _ (by unfold rfN; split <;> split <;> omega), h6 i hi]
  · rw [upz_ne _ _ (by decide), upz_eq, upz_ne _ _ (by decide), upz_ne _ _ (by decide), upz_ne _ _ (by decide)]; exact h7
theorem slB_eq {n : Nat} (hn : n ≤ 12) (x : Int32) : slB n x = (!decide (x < 0) && !decide (nI n ≤ x)) := by
  unfold slB lieB
  cases n with
  | zero =>
    rw [show nI 0 - 1 = (-1 : Int32) from rfl]
    cases e : decide (x < 0)
    · have q := of_decide_eq_false e
      have q2 : (-1 : Int32) < x := by
        rw [Int32.lt_iff_toInt_lt, Int32.toInt_zero] at q
        rw [Int32.lt_iff_toInt_lt]
        have e1 : (-1 : Int32).toInt = -1 := by decide
        rw [e1]; omega
      rw [decide_eq_true q2, decide_eq_true (show nI 0 ≤ x from Int32.not_lt.mp q)]
    · rfl
  | succ n =>
    rw [nk_sub1]
    have : (nI (n + 1) ≤ x) = (nI n < x) := lt_le n (by omega)
    congr 1
    congr 1
    rw [Bool.eq_iff_iff, decide_eq_true_eq, decide_eq_true_eq, this]
theorem bd_eq {n : Nat} (hn : n ≤ 12) {x : Int32} (hx : x ≠ -1) : lieB x (-1) (nI n - 1) = slB n x := by
  unfold slB lieB
  congr 2
  rw [Bool.eq_iff_iff, decide_eq_true_eq, decide_eq_true_eq, Int32.lt_iff_toInt_lt, Int32.lt_iff_toInt_lt, Int32.toInt_zero, show (-1 : Int32).toInt = -1 by decide]
  have h1 : x.toInt ≠ -1 := fun e => hx (Int32.toInt_inj.mp (e.trans (show (-1 : Int) = (-1 : Int32).toInt by decide)))
  omega
theorem bd_m1 {n : Nat} (hn : n ≤ 12) : lieB (-1) (-1) (nI n - 1) = true := by
  unfold lieB
  have : n = 0 ∨ n = 1 ∨ n = 2 ∨ n = 3 ∨ n = 4 ∨ n = 5 ∨ n = 6 ∨ n = 7 ∨ n = 8 ∨ n = 9 ∨ n = 10 ∨ n = 11 ∨ n = 12 := by omega
  rcases this with q | q | q | q | q | q | q | q | q | q | q | q | q <;> subst q <;> decide
theorem bt59 {x : Int32} (a : ¬ x < 5) (b : ¬ 9 < x) : x = 5 ∨ x = 6 ∨ x = 7 ∨ x = 8 ∨ x = 9 := by
  rw [Int32.lt_iff_toInt_lt] at a b
  rw [show (5 : Int32).toInt = 5 by decide] at a
  rw [show (9 : Int32).toInt = 9 by decide] at b
  have : x.toInt = 5 ∨ x.toInt = 6 ∨ x.toInt = 7 ∨ x.toInt = 8 ∨ x.toInt = 9 := by omega
  rcases this with q | q | q | q | q
  · exact Or.inl (Int32.toInt_inj.mp (q.trans (show (5 : Int) = (5 : Int32).toInt by decide)))
  · exact Or.inr (Or.inl (Int32.toInt_inj.mp (q.trans (show (6 : Int) = (6 : Int32).toInt by decide))))
  · exact Or.inr (Or.inr (Or.inl (Int32.toInt_inj.mp (q.trans (show (7 : Int) = (7 : Int32).toInt by decide)))))
  · exact Or.inr (Or.inr (Or.inr (Or.inl (Int32.toInt_inj.mp (q.trans (show (8 : Int) = (8 : Int32).toInt by decide))))))
  · exact Or.inr (Or.inr (Or.inr (Or.inr (Int32.toInt_inj.mp (q.trans (show (9 : Int) = (9 : Int32).toInt by decide))))))
theorem b2i_ne0 {b : Bool} : (b2i b = 0) = (b = false) := by cases b <;> simp [b2i]
section CSA
variable {d : Nat} {h : am_H} {F : Nat → Nat → Int32} {J : Nat → Nat → Int64} {V : Nat → Nat → Value} {Q : am_Q}
set_option maxRecDepth 20000 in
theorem c_grant {A : aT} (hA : CB h F V A) {v : Int32} (K : ∀ F', Cx false false F F' → CB h F' V (xGd A v).1 → Q (some (.int (xGd A v).2)) (ov h F' J V)) : am_cl (d + 1) 63 [.ref 23, .int v] (ov h F J V) Q := by
  simp only [isO_c, ax0, ex_cons, am_get, upz_at, true_and, and_true, Nat.reduceAdd, Nat.reduceLeDiff, Nat.reduceEqDiff, Nat.reduceSub, Int32.reduceOfInt, Int32.reduceAdd, Int32.reduceMul, Int32.reduceSub, ↓reduceIte, Int32.reduceLT, Int32.reduceLE, Int32.reduceToNatClampNeg, Nat.reduceMod, Nat.reduceLT, List.length_cons, List.length_nil, eq_self, true_or, or_true, and_self, implies_true, not_true_eq_false, not_false_eq_true, false_implies, true_implies, forall_const, st_aloadx, st_iconstx, st_iloadx, st_ireturnx, st_putfieldx, cx_Slips_grant, kb_Slips_grant_0, op_23_13, oa_23, os_23]
  exact K _ (Cx.rf.up (by decide) _) (hA.gd v)
set_option maxRecDepth 20000 in
theorem c_refuse {A : aT} (hA : CB h F V A) {x : Int32} {j : Nat} (hx : x = -1 ∧ j = 0 ∨ x = -2 ∧ j = 1 ∨ x = -3 ∧ j = 2 ∨ x = -5 ∧ j = 3 ∨ x = -6 ∧ j = 4) (K : ∀ F', Cx false false F F' → CB h F' V (xRf A x (rfN j)).1 → Q (some (.int (xRf A x (rfN j)).2)) (ov h F' J V)) : am_cl (d + 1) 64 [.ref 23, .int x] (ov h F J V) Q := by
  have K := fun (q : j < 5) => K _ ((Cx.rf.up (by decide) _).up (by decide) _) (hA.rf (x := x) q)
  rcases hx with ⟨e1, e2⟩ | ⟨e1, e2⟩ | ⟨e1, e2⟩ | ⟨e1, e2⟩ | ⟨e1, e2⟩ <;> subst e1 <;> subst e2 <;> simp only [isO_c, ax0, ex_cons, am_get, upz_at, true_and, and_true, Nat.reduceAdd, Nat.reduceLeDiff, Nat.reduceEqDiff, Nat.reduceSub, Int32.reduceOfInt, Int32.reduceAdd, Int32.reduceMul, Int32.reduceSub, ↓reduceIte, Int32.reduceLT, Int32.reduceLE, Int32.reduceToNatClampNeg, Nat.reduceMod, Nat.reduceLT, List.length_cons, List.length_nil, eq_self, true_or, or_true, and_self, implies_true, not_true_eq_false, not_false_eq_true, false_implies, true_implies, forall_const, st_aloadx, st_arraylengthx, st_dup2x, st_dup2_1x, st_getfieldx, st_gotox, st_goto_wx, st_iaddx, st_ialoadx, st_iastorex, st_iconstx, st_ifCondx, st_if_icmpx, st_iloadx, st_ireturnx, st_istorex, st_isubx, st_putfieldx, am_put, am_nlg, cx_Slips_refuse, kb_Slips_refuse_0, op_23_13, jx_Slips_refuse_17, kb_Slips_refuse_17, jx_Slips_refuse_21, kb_Slips_refuse_21, og_23_12, jx_Slips_refuse_45, kb_Slips_refuse_45, oa_23, os_23, oa_81, or_81, ow_81, os_81, ol_81, oa_81, or_81, os_81, ow_81] <;> exact ⟨fun q => absurd q (by decide), fun _ => K (by decide)⟩
set_option maxRecDepth 20000 in
theorem co_fault {A : aT} (hA : CB h F V A) (K : Q (some (.int (aFt A))) (ov h F J V)) : am_cl (d + 1) 13 [.ref 23] (ov h F J V) Q := by
  simp only [isO_c, ax0, ex_cons, am_get, upz_at, true_and, and_true, Nat.reduceAdd, Nat.reduceLeDiff, Nat.reduceEqDiff, Nat.reduceSub, Int32.reduceOfInt, Int32.reduceAdd, Int32.reduceMul, Int32.reduceSub, ↓reduceIte, Int32.reduceLT, Int32.reduceLE, Int32.reduceToNatClampNeg, Nat.reduceMod, Nat.reduceLT, List.length_cons, List.length_nil, eq_self, true_or, or_true, and_self, implies_true, not_true_eq_false, not_false_eq_true, false_implies, true_implies, forall_const, st_aloadx, st_getfieldx, st_ireturnx, cx_Slips_fault, kb_Slips_fault_0, og_23_0, og_24_2, oa_23, oa_24, hA.2.2.2.1]
  exact K
set_option maxRecDepth 20000 in
theorem co_status {A : aT} (hA : CB h F V A) (K : Q (some (.int (aSt A))) (ov h F J V)) : am_cl (d + 1) 62 [.ref 23] (ov h F J V) Q := by
  simp only [isO_c, ax0, ex_cons, am_get, upz_at, true_and, and_true, Nat.reduceAdd, Nat.reduceLeDiff, Nat.reduceEqDiff, Nat.reduceSub, Int32.reduceOfInt, Int32.reduceAdd, Int32.reduceMul, Int32.reduceSub, ↓reduceIte, Int32.reduceLT, Int32.reduceLE, Int32.reduceToNatClampNeg, Nat.reduceMod, Nat.reduceLT, List.length_cons, List.length_nil, eq_self, true_or, or_true, and_self, implies_true, not_true_eq_false, not_false_eq_true, false_implies, true_implies, forall_const, st_aloadx, st_getfieldx, st_ireturnx, cx_Slips_status, kb_Slips_status_0, og_23_13, oa_23, hA.2.2.2.2.1]
  exact K
set_option maxRecDepth 20000 in
theorem c_forget {A : aT} (hA : CB h F V A) (K : ∀ F', Cx true false F F' → CB h F' V A → Q none (ov h F' J V)) : am_cl (d + 1) 33 [.ref 23] (ov h F J V) Q := by
  simp only [isO_c, ax0, ex_cons, am_get, upz_at, true_and, and_true, Nat.reduceAdd, Nat.reduceLeDiff, Nat.reduceEqDiff, Nat.reduceSub, Int32.reduceOfInt, Int32.reduceAdd, Int32.reduceMul, Int32.reduceSub, ↓reduceIte, Int32.reduceLT, Int32.reduceLE, Int32.reduceToNatClampNeg, Nat.reduceMod, Nat.reduceLT, List.length_cons, List.length_nil, eq_self, true_or, or_true, and_self, implies_true, not_true_eq_false, not_false_eq_true, false_implies, true_implies, forall_const, st_aloadx, st_getfieldx, st_iconstx, st_putstaticx, st_return_x, cx_Slips_forgetFindings, kb_Slips_forgetFindings_0, og_23_6, op_61_0, og_23_7, op_64_0, og_23_9, op_75_0, oa_23, oa_61, oa_64, oa_75, os_61, os_64, os_75]
  refine K _ (fun a ha h1 h2 i => ?_) ?_
  · by_cases e1 : a = 61
    · subst e1
      rw [upz_ne _ _ (by decide), upz_ne _ _ (by decide), upz_eq]
      by_cases e : i = 0
      · subst e; rw [upz_eq, if_pos ⟨rfl, Or.inl ⟨Or.inl rfl, rfl⟩⟩]
      · rw [upz_ne _ _ e, if_neg (fun z => e z.1)]
    · by_cases e2 : a = 64
      · subst e2
        rw [upz_ne _ _ (by decide), upz_eq]
        by_cases e : i = 0
        · subst e; rw [upz_eq, if_pos ⟨rfl, Or.inr ⟨rfl, rfl⟩⟩]
        · rw [upz_ne _ _ e, if_neg (fun z => e z.1)]
      · by_cases e3 : a = 75
        · subst e3
          rw [upz_eq]
          by_cases e : i = 0
          · subst e; rw [upz_eq, if_pos ⟨rfl, Or.inl ⟨Or.inr rfl, rfl⟩⟩]
          · rw [upz_ne _ _ e, if_neg (fun z => e z.1)]
        · rw [upz_ne _ _ e3, upz_ne _ _ e2, upz_ne _ _ e1, if_neg]
          rintro ⟨_, ⟨q | q, _⟩ | ⟨q, _⟩⟩
          · exact e1 q
          · exact e3 q
          · exact e2 q
  · obtain ⟨_, _, h3, h4, h5, h6, h7⟩ := id hA
    have u : ∀ {f g k : Nat → Int32} {a : Nat}, a < 55 ∨ 79 < a → upz (upz (upz F 61 f) 64 g) 75 k a = F a := fun ha => by rw [upz_ne _ _ (by omega), upz_ne _ _ (by omega), upz_ne _ _ (by omega)]
    refine hA.lo (fun a q1 q2 => u (by omega)) rfl rfl ?_ ?_ ?_ ?_ ?_
    · rw [u (by decide), u (by decide)]; exact h3
    · rw [u (by decide)]; exact h4
    · rw [u (by decide)]; exact h5
    · rw [u (by decide)]; exact h6
    · rw [u (by decide), u (by decide)]; exact h7
set_option maxRecDepth 20000 in
theorem co_end {A : aT} (hA : CB h F V A) {x : Int32} (K : ∀ F', Cx false false F F' → CB h F' V (xEnd A x).1 → Q (some (.int (xEnd A x).2)) (ov h F' J V)) : am_cl (d + 1) 10 [.ref 23, .int x] (ov h F J V) Q := by
  obtain ⟨t1, t2, t3⟩ := hA.2.2.1
  have t2 : (aTp A).1 ≤ 400 := t2
  unfold xEnd at K
  simp only [isO_c, ax0, ex_cons, am_get, upz_at, true_and, and_true, Nat.reduceAdd, Nat.reduceLeDiff, Nat.reduceEqDiff, Nat.reduceSub, Int32.reduceOfInt, Int32.reduceAdd, Int32.reduceMul, Int32.reduceSub, ↓reduceIte, Int32.reduceLT, Int32.reduceLE, Int32.reduceToNatClampNeg, Nat.reduceMod, Nat.reduceLT, List.length_cons, List.length_nil, eq_self, true_or, or_true, and_self, implies_true, not_true_eq_false, not_false_eq_true, false_implies, true_implies, forall_const, st_aloadx, st_getfieldx, st_goto_wx, st_iconstx, st_ifCondx, st_if_icmpx, st_iloadx, st_ireturnx, st_putfieldx, cx_Slips_end, kb_Slips_end_0, og_23_0, og_24_1, jx_Slips_end_15, kb_Slips_end_15, jx_Slips_end_17, kb_Slips_end_17, op_24_1, oa_23, oa_24, os_24, t1]
  refine ⟨fun q => ?_, fun q => ⟨fun r => ?_, fun r => ?_⟩⟩
  · rw [if_neg (by unfold lieB; simp [q])] at K
    exact K F Cx.rf hA
  · have e : lieB x 0 (nI (aTp A).1) = true := by
      unfold lieB
      rw [decide_eq_false q, decide_eq_false (Int32.not_lt.mpr r)]
      rfl
    rw [if_pos e] at K
    obtain ⟨k, ek, hk, ck⟩ := lieB_nI (m := (aTp A).1) (by omega) e
    rw [ck] at K
    subst ek
    obtain ⟨_, _, _, h4, h5, h6, h7⟩ := id hA
    refine K _ (Cx.rf.up (by decide) _) (hA.lo (fun a q1 q2 => upz_ne _ _ (by omega)) rfl rfl ?_ ?_ ?_ ?_ ?_)
    · rw [upz_eq, upz_eq, upz_ne _ _ (by decide)]
      exact ⟨rfl, by show k ≤ 400; omega, fun i hi => t3 i (Nat.lt_of_lt_of_le hi hk)⟩
    · rw [upz_eq, upz_ne _ _ (by decide)]; exact h4
    · rw [upz_ne _ _ (by decide)]; exact h5
    · rw [upz_ne _ _ (by decide)]; exact h6
    · rw [upz_ne _ _ (by decide), upz_ne _ _ (by decide)]; exact h7
  · rw [if_neg (by unfold lieB; rw [decide_eq_true (Int32.not_le.mp r)]; simp)] at K
    exact K F Cx.rf hA
set_option maxRecDepth 20000 in
theorem co_count {A : aT} (hA : CB h F V A) {x : Int32} (K : Q (some (.int (aCount A x))) (ov h F J V)) : am_cl (d + 1) 61 [.ref 23, .int x] (ov h F J V) Q := by
  unfold aCount at K
  simp only [isO_c, ax0, ex_cons, am_get, upz_at, true_and, and_true, Nat.reduceAdd, Nat.reduceLeDiff, Nat.reduceEqDiff, Nat.reduceSub, Int32.reduceOfInt, Int32.reduceAdd, Int32.reduceMul, Int32.reduceSub, ↓reduceIte, Int32.reduceLT, Int32.reduceLE, Int32.reduceToNatClampNeg, Nat.reduceMod, Nat.reduceLT, List.length_cons, List.length_nil, eq_self, true_or, or_true, and_self, implies_true, not_true_eq_false, not_false_eq_true, false_implies, true_implies, forall_const, st_iloadx, st_lookupswitchx, kb_Slips_count_0, cx_Slips_count, am_sw]
  refine ⟨fun q => ?_, fun q0 => ⟨fun q => ?_, fun q1 => ⟨fun q => ?_, fun q2 => ⟨fun q => ?_, fun q3 => ⟨fun q => ?_, fun q4 => ?_⟩⟩⟩⟩⟩
  · subst q
    simp only [show Int.toNat 36 = 36 from rfl, isO_c, ax0, ex_cons, am_get, upz_at, true_and, and_true, Nat.reduceAdd, Nat.reduceLeDiff, Nat.reduceEqDiff, Nat.reduceSub, Int32.reduceOfInt, Int32.reduceAdd, Int32.reduceMul, Int32.reduceSub, ↓reduceIte, Int32.reduceLT, Int32.reduceLE, Int32.reduceToNatClampNeg, Nat.reduceMod, Nat.reduceLT, List.length_cons, List.length_nil, eq_self, true_or, or_true, and_self, implies_true, not_true_eq_false, not_false_eq_true, false_implies, true_implies, forall_const, st_aloadx, st_getfieldx, st_ireturnx, jx_Slips_count_36, kb_Slips_count_36, og_23_1, og_34_1, oa_23, oa_34, hA.1.1.1]
    exact K
  · subst q
    rw [if_neg (by decide), if_pos rfl] at K
    rcases hA.1.asked with ⟨e1, e2⟩ | ⟨e1, p, e2, e3⟩
    · rw [show (aD A).2.2.1 = false from e1] at K
      simp only [show Int.toNat 44 = 44 from rfl, isO_c, ax0, ex_cons, am_get, upz_at, true_and, and_true, Nat.reduceAdd, Nat.reduceLeDiff, Nat.reduceEqDiff, Nat.reduceSub, Int32.reduceOfInt, Int32.reduceAdd, Int32.reduceMul, Int32.reduceSub, ↓reduceIte, Int32.reduceLT, Int32.reduceLE, Int32.reduceToNatClampNeg, Nat.reduceMod, Nat.reduceLT, List.length_cons, List.length_nil, eq_self, true_or, or_true, and_self, implies_true, not_true_eq_false, not_false_eq_true, false_implies, true_implies, forall_const, st_aloadx, st_getfieldx, st_gotox, st_goto_wx, st_iconstx, st_ifnonnullx, st_ifnonnull_1x, st_ireturnx, jx_Slips_count_44, kb_Slips_count_44, og_23_1, og_34_2, jx_Slips_count_58, kb_Slips_count_58, jx_Slips_count_59, kb_Slips_count_59, oa_23, oa_34, e2]
      exact K
    · rw [show (aD A).2.2.1 = true from e1] at K
      simp only [show Int.toNat 44 = 44 from rfl, isO_c, ax0, ex_cons, am_get, upz_at, true_and, and_true, Nat.reduceAdd, Nat.reduceLeDiff, Nat.reduceEqDiff, Nat.reduceSub, Int32.reduceOfInt, Int32.reduceAdd, Int32.reduceMul, Int32.reduceSub, ↓reduceIte, Int32.reduceLT, Int32.reduceLE, Int32.reduceToNatClampNeg, Nat.reduceMod, Nat.reduceLT, List.length_cons, List.length_nil, eq_self, true_or, or_true, and_self, implies_true, not_true_eq_false, not_false_eq_true, false_implies, true_implies, forall_const, st_aloadx, st_getfieldx, st_gotox, st_goto_wx, st_iconstx, st_ifnonnullx, st_ifnonnull_1x, st_ireturnx, jx_Slips_count_44, kb_Slips_count_44, og_23_1, og_34_2, jx_Slips_count_58, kb_Slips_count_58, jx_Slips_count_59, kb_Slips_count_59, oa_23, oa_34, e2]
      exact K
  · subst q
    simp only [show Int.toNat 60 = 60 from rfl, isO_c, ax0, ex_cons, am_get, upz_at, true_and, and_true, Nat.reduceAdd, Nat.reduceLeDiff, Nat.reduceEqDiff, Nat.reduceSub, Int32.reduceOfInt, Int32.reduceAdd, Int32.reduceMul, Int32.reduceSub, ↓reduceIte, Int32.reduceLT, Int32.reduceLE, Int32.reduceToNatClampNeg, Nat.reduceMod, Nat.reduceLT, List.length_cons, List.length_nil, eq_self, true_or, or_true, and_self, implies_true, not_true_eq_false, not_false_eq_true, false_implies, true_implies, forall_const, st_aloadx, st_getfieldx, st_ireturnx, jx_Slips_count_60, kb_Slips_count_60, og_23_1, og_34_6, oa_23, oa_34, hA.1.2.2.2.1.1]
    exact K
  · subst q
    rw [if_neg (by decide), if_neg (by decide), if_neg (by decide), if_pos rfl] at K
    simp only [show Int.toNat 68 = 68 from rfl, isO_c, ax0, ex_cons, am_get, upz_at, true_and, and_true, Nat.reduceAdd, Nat.reduceLeDiff, Nat.reduceEqDiff, Nat.reduceSub, Int32.reduceOfInt, Int32.reduceAdd, Int32.reduceMul, Int32.reduceSub, ↓reduceIte, Int32.reduceLT, Int32.reduceLE, Int32.reduceToNatClampNeg, Nat.reduceMod, Nat.reduceLT, List.length_cons, List.length_nil, eq_self, true_or, or_true, and_self, implies_true, not_true_eq_false, not_false_eq_true, false_implies, true_implies, forall_const, st_aloadx, st_getfieldx, st_gotox, st_goto_wx, st_iconstx, st_ifCondx, st_ireturnx, jx_Slips_count_68, kb_Slips_count_68, og_23_1, og_34_3, jx_Slips_count_82, kb_Slips_count_82, jx_Slips_count_83, kb_Slips_count_83, oa_23, oa_34, hA.1.2.2.1]
    refine And.intro (fun e => ?_) (fun e => ?_)
    · rw [b2i_ne0] at e
      rw [show (aD A).2.2.2 = false from e] at K
      exact K
    · rw [b2i_ne0, Bool.not_eq_false] at e
      rw [show (aD A).2.2.2 = true from e] at K
      exact K
  · subst q
    simp only [show Int.toNat 84 = 84 from rfl, isO_c, ax0, ex_cons, am_get, upz_at, true_and, and_true, Nat.reduceAdd, Nat.reduceLeDiff, Nat.reduceEqDiff, Nat.reduceSub, Int32.reduceOfInt, Int32.reduceAdd, Int32.reduceMul, Int32.reduceSub, ↓reduceIte, Int32.reduceLT, Int32.reduceLE, Int32.reduceToNatClampNeg, Nat.reduceMod, Nat.reduceLT, List.length_cons, List.length_nil, eq_self, true_or, or_true, and_self, implies_true, not_true_eq_false, not_false_eq_true, false_implies, true_implies, forall_const, st_aloadx, st_getfieldx, st_ireturnx, jx_Slips_count_84, kb_Slips_count_84, og_23_0, og_24_1, oa_23, oa_24, hA.2.2.1.1]
    exact K
  · rw [if_neg q0, if_neg q1, if_neg q2, if_neg q3, if_neg q4] at K
    simp only [isO_c, ax0, ex_cons, am_get, upz_at, true_and, and_true, Nat.reduceAdd, Nat.reduceLeDiff, Nat.reduceEqDiff, Nat.reduceSub, Int32.reduceOfInt, Int32.reduceAdd, Int32.reduceMul, Int32.reduceSub, ↓reduceIte, Int32.reduceLT, Int32.reduceLE, Int32.reduceToNatClampNeg, Nat.reduceMod, Nat.reduceLT, List.length_cons, List.length_nil, eq_self, true_or, or_true, and_self, implies_true, not_true_eq_false, not_false_eq_true, false_implies, true_implies, forall_const, st_aloadx, st_getfieldx, st_gotox, st_goto_wx, st_ialoadx, st_iconstx, st_if_icmpx, st_iloadx, st_ireturnx, st_isubx, jx_Slips_count_92, kb_Slips_count_92, og_23_12, jx_Slips_count_114, kb_Slips_count_114, jx_Slips_count_115, kb_Slips_count_115, oa_23, oa_81, or_81, oa_81, or_81]
    have h6 := hA.2.2.2.2.2.1
    refine ⟨fun q => ?_, fun q => ⟨fun r => ?_, fun r => ?_⟩⟩
    · rw [if_neg (fun e => by subst e; exact absurd q (by decide)), if_neg (fun e => by subst e; exact absurd q (by decide)), if_neg (fun e => by subst e; exact absurd q (by decide)), if_neg (fun e => by subst e; exact absurd q (by decide)), if_neg (fun e => by subst e; exact absurd q (by decide))] at K
      exact K
    · rw [if_neg (fun e => by subst e; exact absurd r (by decide)), if_neg (fun e => by subst e; exact absurd r (by decide)), if_neg (fun e => by subst e; exact absurd r (by decide)), if_neg (fun e => by subst e; exact absurd r (by decide)), if_neg (fun e => by subst e; exact absurd r (by decide))] at K
      exact K
    · rcases bt59 q r with e | e | e | e | e
      · subst e
        refine ⟨by decide, ?_⟩
        rw [show ((5 : Int32) - 5).toNatClampNeg = 0 by decide, h6 0 (by decide)]
        exact K
      · subst e
        refine ⟨by decide, ?_⟩
        rw [show ((6 : Int32) - 5).toNatClampNeg = 1 by decide, h6 1 (by decide)]
        exact K
      · subst e
        refine ⟨by decide, ?_⟩
        rw [show ((7 : Int32) - 5).toNatClampNeg = 2 by decide, h6 2 (by decide)]
        exact K
      · subst e
        refine ⟨by decide, ?_⟩
        rw [show ((8 : Int32) - 5).toNatClampNeg = 3 by decide, h6 3 (by decide)]
        exact K
      · subst e
        refine ⟨by decide, ?_⟩
        rw [show ((9 : Int32) - 5).toNatClampNeg = 4 by decide, h6 4 (by decide)]
        exact K
set_option maxRecDepth 20000 in
theorem co_bound {A : aT} (hA : CB h F V A) {x : Int32} (K : Q (some (.int (aBound A x))) (ov h F J V)) : am_cl (d + 1) 53 [.ref 23, .int x] (ov h F J V) Q := by
  have hn : (aB A).1 ≤ 12 := hA.1.2.2.2.1.2.1
  unfold aBound at K
  simp only [isO_c, ax0, ex_cons, am_get, upz_at, true_and, and_true, Nat.reduceAdd, Nat.reduceLeDiff, Nat.reduceEqDiff, Nat.reduceSub, Int32.reduceOfInt, Int32.reduceAdd, Int32.reduceMul, Int32.reduceSub, ↓reduceIte, Int32.reduceLT, Int32.reduceLE, Int32.reduceToNatClampNeg, Nat.reduceMod, Nat.reduceLT, List.length_cons, List.length_nil, eq_self, true_or, or_true, and_self, implies_true, not_true_eq_false, not_false_eq_true, false_implies, true_implies, forall_const, st_aloadx, st_baloadx, st_getfieldx, st_gotox, st_goto_wx, st_iconstx, st_ifCondx, st_if_icmpx, st_iloadx, st_ireturnx, cx_Slips_bound, kb_Slips_bound_0, og_23_1, og_34_6, jx_Slips_bound_13, kb_Slips_bound_13, jx_Slips_bound_28, kb_Slips_bound_28, jx_Slips_bound_30, kb_Slips_bound_30, og_34_5, jx_Slips_bound_46, kb_Slips_bound_46, jx_Slips_bound_47, kb_Slips_bound_47, oa_23, oa_34, oa_37, or_37, hA.1.2.2.2.1.1, oa_37, or_37]
  refine ⟨fun q => ⟨fun r => ?_, fun r => ⟨fun t => ?_, fun t => ?_⟩⟩, fun q => ?_⟩
  · rw [bd_eq hn q, slB_eq hn, decide_eq_true r] at K
    exact K
  · have e : slB (aB A).1 x = true := by rw [slB_eq hn, decide_eq_false r, decide_eq_false (Int32.not_le.mpr t)]; rfl
    rw [bd_eq hn q, e, if_pos rfl, if_neg q] at K
    obtain ⟨k, ek, hk, ck⟩ := slB_nI hn e
    have h8 : F 37 k = b2i ((aB A).2 k).2 := (hA.1.2.2.2.1.2.2 k hk).2
    rw [ck] at K ⊢
    refine ⟨⟨r, by omega⟩, fun z => ?_, fun z => ?_⟩
    · rw [h8, b2i_ne0] at z
      rw [z] at K
      exact K
    · rw [h8, b2i_ne0, Bool.not_eq_false] at z
      rw [z] at K
      exact K
  · rw [bd_eq hn q, slB_eq hn, decide_eq_false r, decide_eq_true (Int32.not_lt.mp t)] at K
    exact K
  · have q := Classical.not_not.mp q
    subst q
    rw [bd_m1 hn, if_pos rfl, if_pos rfl] at K
    exact K
end CSA
