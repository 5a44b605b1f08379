/-! ===== the class: reading the tape, first half: the sentence that is made ===== -/
def mnB (R : rT) (a b : Bool) : Bool := if R.1 = 10 then (if R.2.1 then !a else a) else if R.1 = 9 then a else if R.1 = 2 then a && b else if R.1 = 3 then a && (if R.2.1 then !b else b) else a && !b
theorem ts_bits {R : rT} {J : Nat → Nat → Int64} {cnt : Nat} {x1 x2 : Int32} {fs fb : Nat → Int64} (g : ∀ q, q < 4 → tsG R J cnt x1 x2 fs fb q) {l1 : Nat} (e1 : x1 = nI l1) (c1 : l1 < cnt) {a b : Nat → Bool} (ha : ∀ r, r < 256 → bJ (fun q => J 31 (4 * l1 + q)) r = a r) (hb : R.1 = 9 ∨ R.1 = 10 ∨ ∃ l2, x2 = nI l2 ∧ l2 < cnt ∧ ∀ r, r < 256 → bJ (fun q => J 31 (4 * l2 + q)) r = b r) : ∀ r, r < 256 → bJ fb r = a r ∧ bJ fs r = mnB R (a r) (b r) := by
  intro r hr
  obtain ⟨y2, s1, s2, s3⟩ := g (r / 64) (by omega)
  have f1 : fb (r / 64) = J 31 (4 * l1 + r / 64) := by rw [s1.1 l1 e1 c1, Nat.mul_comm]
  have B1 : bJ fb r = a r := by
    rw [← ha r hr]
    unfold bJ
    rw [f1]
  have F0 : bJ fs r = bJ (fun _ => mnJ R (fb (r / 64)) y2) r := by
    unfold bJ
    rw [s3]
  have B1' : bJ (fun _ => fb (r / 64)) r = a r := B1
  refine ⟨B1, ?_⟩
  rw [F0]
  by_cases z10 : R.1 = 10
  · have em : mnJ R (fb (r / 64)) y2 = if R.2.1 then fb (r / 64) ^^^ -1 else fb (r / 64) := by unfold mnJ; rw [if_pos z10]
    have eb : mnB R (a r) (b r) = if R.2.1 then !(a r) else a r := by unfold mnB; rw [if_pos z10]
    rw [em, eb]
    cases R.2.1
    · exact B1'
    · exact (bJ_not (fun _ => fb (r / 64)) r).trans (by rw [B1']; rfl)
  by_cases z9 : R.1 = 9
  · have em : mnJ R (fb (r / 64)) y2 = fb (r / 64) := by unfold mnJ; rw [if_neg z10, if_pos z9]
    have eb : mnB R (a r) (b r) = a r := by unfold mnB; rw [if_neg z10, if_pos z9]
    rw [em, eb]
    exact B1'
  rcases hb with hb | hb | ⟨l2, e2, c2, hb⟩
  · exact absurd hb z9
  · exact absurd hb z10
  have f2 : y2 = J 31 (4 * l2 + r / 64) := by rw [s2.1 l2 e2 c2, Nat.mul_comm]
  have B2 : bJ (fun _ => y2) r = b r := by
    rw [← hb r hr]
    unfold bJ
    rw [f2]
  have B3 : bJ (fun _ => y2 ^^^ -1) r = !(b r) := (bJ_not (fun _ => y2) r).trans (by rw [B2])
  have em : mnJ R (fb (r / 64)) y2 = fb (r / 64) &&& (if R.1 = 2 then y2 else if R.1 = 3 then (if R.2.1 then y2 ^^^ -1 else y2) else y2 ^^^ -1) := by
    unfold mnJ
    rw [if_neg z10, if_neg z9]
    split
    · rfl
    · split <;> rfl
  have eb : mnB R (a r) (b r) = (a r && (if R.1 = 2 then b r else if R.1 = 3 then (if R.2.1 then !(b r) else b r) else !(b r))) := by
    unfold mnB
    rw [if_neg z10, if_neg z9]
    split
    · rfl
    · split <;> rfl
  rw [em, eb]
  refine (bJ_and (fun _ => fb (r / 64)) (fun _ => (if R.1 = 2 then y2 else if R.1 = 3 then (if R.2.1 then y2 ^^^ -1 else y2) else y2 ^^^ -1)) r).trans ?_
  rw [B1']
  congr 1
  split
  · exact B2
  · split
    · cases R.2.1
      · exact B2
      · exact B3
    · exact B3
theorem se_a {R : rT} (h : R.1 = 4 ∨ R.1 = 5) (r : Nat) : mnB R (evT R.2.2.2.2 r) (evT R.2.2.2.1 r) = seR R r ∧ suR R r = evT R.2.2.2.2 r := by
  rcases h with f | f
  · unfold mnB seR suR avR tnR
    rw [f]
    exact ⟨rfl, rfl⟩
  · unfold mnB seR suR avR tnR
    rw [f]
    exact ⟨rfl, rfl⟩
theorem xb_ne (a b : Bool) : (if b then !a else a) = (a != b) := by cases a <;> cases b <;> rfl
theorem se_b {R : rT} (h : R.1 = 1 ∨ R.1 = 2 ∨ R.1 = 3) (r : Nat) : mnB R (evT R.2.2.2.1 r) (evT R.2.2.2.2 r) = seR R r ∧ suR R r = evT R.2.2.2.1 r := by
  rcases h with f | f | f
  · unfold mnB seR suR avR tnR
    rw [f]
    exact ⟨rfl, rfl⟩
  · unfold mnB seR suR avR tnR
    rw [f]
    exact ⟨rfl, rfl⟩
  · unfold mnB seR suR avR tnR
    rw [f, xb_ne, xb_ne]
    exact ⟨rfl, rfl⟩
theorem se_c {R : rT} (h : R.1 = 9 ∨ R.1 = 10) (b : Bool) (r : Nat) : mnB R (evT R.2.2.2.2 r) b = seR R r ∧ hsR R = false := by
  rcases h with f | f
  · unfold mnB seR hsR avR tnR
    rw [f]
    exact ⟨rfl, rfl⟩
  · unfold mnB seR hsR avR tnR
    rw [f, xb_ne]
    exact ⟨rfl, rfl⟩
def oS (p : Nat) (R : rT) : am_E := aO 6 [.int (nI (saR R)), .int (nmI R), .int (b2i (hsR R)), .int (moI R), .int (skI R), .int (pkI R), .ref (p + 2), .ref (p + 3), .ref (p + 1)]
theorem sr_mk {h : am_H} {R : rT} {fs fb : Nat → Int64} (hh : 108 ≤ h.2.1) (hw : wfR R) (h1 : ∀ r, r < 256 → bJ fs r = seR R r) (h2 : hsR R = true → ∀ r, r < 256 → bJ fb r = suR R r) : SR (nsH h (oS h.2.1 R) (txR R) fs fb) h.2.1 R :=
  ⟨hw, h.2.1 + 2, h.2.1 + 3, h.2.1 + 1, fs, fb, ⟨hh, by rw [ns_c]; omega⟩, ⟨by omega, by rw [ns_c]; omega⟩, ⟨by omega, by rw [ns_c]; omega⟩, ⟨by omega, by rw [ns_c]; omega⟩, ns_0 _ _ _ _ _, ns_2 _ _ _ _ _, h1, ns_3 _ _ _ _ _, h2, ns_1 _ _ _ _ _⟩
section CRD
variable {d : Nat} {h : am_H} {F : Nat → Nat → Int32} {J : Nat → Nat → Int64} {V : Nat → Nat → Value} {Q : am_Q}
set_option maxRecDepth 20000 in
theorem c_readEnd (hs : HS h) (hp : HP h) (hh : 108 ≤ h.2.1) {R : rT} (hR : okR R) (hP : RPr F R) (K : ∀ F' J' fs fb, Wf F F' → (∀ x, x ≠ 31 → J' x = J x) → SR (nsH h (oS h.2.1 R) (txR R) fs fb) h.2.1 R → Q (some (.ref h.2.1)) (ov (nsH h (oS h.2.1 R) (txR R) fs fb) F' J' V)) : am_W kc_Reader_read (am_cl (d + 54)) Q 92 [.ref 24, .int 1, am_dum, am_dum, am_dum, am_dum] [] (ov h F J V) := by
  have hP0 := hP
  obtain ⟨p5, p6, p7, cnt, c5, c48, pt⟩ := hP
  have hwf := hR.1
  have hf := hwf.1
  have hws := hR.2.1
  have hw2 := hwf.2.2.1.1
  simp only [isO_c, ax0, ex_cons, am_get, upz_at, true_and, and_true, Nat.reduceAdd, Nat.reduceLeDiff, Nat.reduceEqDiff, Nat.reduceSub, Int32.reduceOfInt, Int32.reduceAdd, Int32.reduceMul, Int32.reduceSub, ↓reduceIte, Int32.reduceLT, Int32.reduceLE, Int32.reduceToNatClampNeg, Nat.reduceMod, Nat.reduceLT, List.length_cons, List.length_nil, eq_self, true_or, or_true, and_self, implies_true, not_true_eq_false, not_false_eq_true, false_implies, true_implies, forall_const, st_aloadx, st_astorex, st_astore_1x, st_dupx, st_dup_1x, st_getfieldx, st_goto_wx, st_iconstx, st_if_icmpx, st_in1, st_sp2, st_newx, am_put, am_nlg, jx_Reader_read_92, kb_Reader_read_92, og_24_11, oo_26, oo_24, og_24_5, oa_24, oa_26]
  refine c_findSets hp c5 c48 (fun J' j1 nv => ?_)
  simp only [isO_c, ax0, ex_cons, am_get, upz_at, true_and, and_true, Nat.reduceAdd, Nat.reduceLeDiff, Nat.reduceEqDiff, Nat.reduceSub, Int32.reduceOfInt, Int32.reduceAdd, Int32.reduceMul, Int32.reduceSub, ↓reduceIte, Int32.reduceLT, Int32.reduceLE, Int32.reduceToNatClampNeg, Nat.reduceMod, Nat.reduceLT, List.length_cons, List.length_nil, eq_self, true_or, or_true, and_self, implies_true, not_true_eq_false, not_false_eq_true, false_implies, true_implies, forall_const, st_aloadx, st_astorex, st_astore_1x, st_dupx, st_dup_1x, st_getfieldx, st_goto_wx, st_iconstx, st_if_icmpx, st_in1, st_sp2, st_newx, am_put, am_nlg, jx_Reader_read_92, kb_Reader_read_92, og_24_11, oo_26, oo_24, og_24_5, oa_24, oa_26, ov_new hh, ov_2]
  have hs1 : HS (am_new h (.inl (6, am_dflt 6)) 9) := fun a a1 a2 => by rw [nw_lo (by omega)]; exact hs a a1 a2
  refine c_writeDown hs1 (show 108 ≤ h.2.1 + 1 by omega) hR hP0 (fun F2 f2 => ?_)
  simp only [isO_c, ax0, ex_cons, am_get, upz_at, true_and, and_true, Nat.reduceAdd, Nat.reduceLeDiff, Nat.reduceEqDiff, Nat.reduceSub, Int32.reduceOfInt, Int32.reduceAdd, Int32.reduceMul, Int32.reduceSub, ↓reduceIte, Int32.reduceLT, Int32.reduceLE, Int32.reduceToNatClampNeg, Nat.reduceMod, Nat.reduceLT, List.length_cons, List.length_nil, eq_self, true_or, or_true, and_self, implies_true, not_true_eq_false, not_false_eq_true, false_implies, true_implies, forall_const, st_aloadx, st_astorex, st_astore_1x, st_dupx, st_dup_1x, st_getfieldx, st_goto_wx, st_iconstx, st_if_icmpx, st_in1, st_sp2, st_newx, am_put, am_nlg, jx_Reader_read_92, kb_Reader_read_92, og_24_11, oo_26, oo_24, og_24_5, oa_24, oa_26]
  refine c_sInit (l := txR R) hh ?_
  have g24 : F2 24 = F 24 := f2 24 (by decide) (by decide)
  have q5 : F2 24 5 = nI (fmR R) := by rw [g24]; exact p5
  have q6 : F2 24 6 = nmI R := by rw [g24]; exact p6
  have q7 : F2 24 7 = b2i R.2.1 := by rw [g24]; exact p7
  have qc : F2 26 5 = nI cnt := by rw [f2 26 (by decide) (by decide)]; exact c5
  -- what follows once the nodes are chosen
  have tail : ∀ (x1 x2 sw : Int32), (∀ (Q' : am_Q) (h' : am_H), Q' (some (.int (kaR R))) (ov h' F2 J' V) → am_cl (d + 54) 162 [.ref 26, .int x1] (ov h' F2 J' V) Q') → (∀ (Q' : am_Q) (h' : am_H), Q' (some (.int (kbR R))) (ov h' F2 J' V) → am_cl (d + 54) 162 [.ref 26, .int x2] (ov h' F2 J' V) Q') → (∀ fs fb, (∀ q, q < 4 → tsG R J' cnt x1 x2 fs fb q) → (∀ r, r < 256 → bJ fs r = seR R r) ∧ (hsR R = true → ∀ r, r < 256 → bJ fb r = suR R r)) → am_W kc_Reader_read (am_cl (d + 54)) Q 165 [.ref 24, .int 1, .ref h.2.1, .int sw, .int x1, am_dum] [.int x2] (ov (nsH h (aO 6 [.int 0, .int (-1), .int 0, .int (-1), .int (-1), .int (-1), .ref (h.2.1 + 2), .ref (h.2.1 + 3), .ref (h.2.1 + 1)]) (txR R) (fun _ => 0) (fun _ => 0)) F2 J' V) := by
    intro x1 x2 sw k1 k2 bt
    simp only [isO_c, ax0, ex_cons, am_get, upz_at, true_and, and_true, Nat.reduceAdd, Nat.reduceLeDiff, Nat.reduceEqDiff, Nat.reduceSub, Int32.reduceOfInt, Int32.reduceAdd, Int32.reduceMul, Int32.reduceSub, ↓reduceIte, Int32.reduceLT, Int32.reduceLE, Int32.reduceToNatClampNeg, Nat.reduceMod, Nat.reduceLT, List.length_cons, List.length_nil, eq_self, true_or, or_true, and_self, implies_true, not_true_eq_false, not_false_eq_true, false_implies, true_implies, forall_const, st_aloadx, st_areturnx, st_areturn_1x, st_getfieldx, st_iloadx, st_in2, st_in4, st_istorex, am_put, am_nlg, jx_Reader_read_165, kb_Reader_read_165, og_24_11, oo_26, oo_24, oa_24, oa_26]
    refine k1 _ _ ?_
    simp only [isO_c, ax0, ex_cons, am_get, upz_at, true_and, and_true, Nat.reduceAdd, Nat.reduceLeDiff, Nat.reduceEqDiff, Nat.reduceSub, Int32.reduceOfInt, Int32.reduceAdd, Int32.reduceMul, Int32.reduceSub, ↓reduceIte, Int32.reduceLT, Int32.reduceLE, Int32.reduceToNatClampNeg, Nat.reduceMod, Nat.reduceLT, List.length_cons, List.length_nil, eq_self, true_or, or_true, and_self, implies_true, not_true_eq_false, not_false_eq_true, false_implies, true_implies, forall_const, st_aloadx, st_areturnx, st_areturn_1x, st_getfieldx, st_iloadx, st_in2, st_in4, st_istorex, am_put, am_nlg, jx_Reader_read_165, kb_Reader_read_165, og_24_11, oo_26, oo_24, oa_24, oa_26]
    refine k2 _ _ ?_
    simp only [isO_c, ax0, ex_cons, am_get, upz_at, true_and, and_true, Nat.reduceAdd, Nat.reduceLeDiff, Nat.reduceEqDiff, Nat.reduceSub, Int32.reduceOfInt, Int32.reduceAdd, Int32.reduceMul, Int32.reduceSub, ↓reduceIte, Int32.reduceLT, Int32.reduceLE, Int32.reduceToNatClampNeg, Nat.reduceMod, Nat.reduceLT, List.length_cons, List.length_nil, eq_self, true_or, or_true, and_self, implies_true, not_true_eq_false, not_false_eq_true, false_implies, true_implies, forall_const, st_aloadx, st_areturnx, st_areturn_1x, st_getfieldx, st_iloadx, st_in2, st_in4, st_istorex, am_put, am_nlg, jx_Reader_read_165, kb_Reader_read_165, og_24_11, oo_26, oo_24, oa_24, oa_26]
    refine c_tellSimple hwf hh q5 q7 ?_
    simp only [isO_c, ax0, ex_cons, am_get, upz_at, true_and, and_true, Nat.reduceAdd, Nat.reduceLeDiff, Nat.reduceEqDiff, Nat.reduceSub, Int32.reduceOfInt, Int32.reduceAdd, Int32.reduceMul, Int32.reduceSub, ↓reduceIte, Int32.reduceLT, Int32.reduceLE, Int32.reduceToNatClampNeg, Nat.reduceMod, Nat.reduceLT, List.length_cons, List.length_nil, eq_self, true_or, or_true, and_self, implies_true, not_true_eq_false, not_false_eq_true, false_implies, true_implies, forall_const, st_aloadx, st_areturnx, st_areturn_1x, st_getfieldx, st_iloadx, st_in2, st_in4, st_istorex, am_put, am_nlg, jx_Reader_read_165, kb_Reader_read_165, og_24_11, oo_26, oo_24, oa_24, oa_26]
    refine c_tellSet hf q5 q6 q7 qc c48 hh (fun fs fb g => ?_)
    simp only [isO_c, ax0, ex_cons, am_get, upz_at, true_and, and_true, Nat.reduceAdd, Nat.reduceLeDiff, Nat.reduceEqDiff, Nat.reduceSub, Int32.reduceOfInt, Int32.reduceAdd, Int32.reduceMul, Int32.reduceSub, ↓reduceIte, Int32.reduceLT, Int32.reduceLE, Int32.reduceToNatClampNeg, Nat.reduceMod, Nat.reduceLT, List.length_cons, List.length_nil, eq_self, true_or, or_true, and_self, implies_true, not_true_eq_false, not_false_eq_true, false_implies, true_implies, forall_const, st_aloadx, st_areturnx, st_areturn_1x, st_getfieldx, st_iloadx, st_in2, st_in4, st_istorex, am_put, am_nlg, jx_Reader_read_165, kb_Reader_read_165, og_24_11, oo_26, oo_24, oa_24, oa_26]
    exact K F2 J' fs fb f2 j1 (sr_mk hh hwf (bt fs fb g).1 (bt fs fb g).2)
  have ki : ∀ (t : eT) (i : Nat), wfT t → wsT t ≤ 401 → TN F t 0 i → i < cnt → ∀ (Q' : am_Q) (h' : am_H), Q' (some (.int (kdT t))) (ov h' F2 J' V) → am_cl (d + 54) 162 [.ref 26, .int (nI i)] (ov h' F2 J' V) Q' := fun t i w1 w2 w3 w4 Q' h' k => c_kindAtN w1 (by omega) (w3.wf f2) w4 qc c48 k
  have bi : ∀ (t : eT) (i : Nat), wfT t → wsT t ≤ 401 → TN F t 0 i → i < cnt → ∀ r, r < 256 → bJ (fun q => J' 31 (4 * i + q)) r = evT t r := fun t i w1 w2 w3 w4 => nv i w4 t 0 w1 (by omega) w3
  unfold isF at hf
  have q5n : ∀ k : Nat, fmR R = k → F2 24 5 = nI k := fun k e => by rw [q5, e]
  by_cases z45 : R.1 = 4 ∨ R.1 = 5
  · rw [if_pos (by omega)] at pt
    rw [if_pos (by omega)] at hws
    obtain ⟨i1, i2, q8, q9, T1, T2, l1, l2⟩ := pt
    have hw1 := (hwf.2.1 (by omega)).1
    have r8 : F2 24 8 = nI i1 := by rw [g24]; exact q8
    have r9 : F2 24 9 = nI i2 := by rw [g24]; exact q9
    have go := tail (nI i2) (nI i1) 1 (fun Q' h' k => ki _ _ hw2 (by omega) T2 l2 Q' h' (by unfold kaR at k; rw [if_pos (by omega)] at k; exact k)) (fun Q' h' k => ki _ _ hw1 (by omega) T1 l1 Q' h' (by unfold kbR at k; rw [if_neg (by omega), if_pos z45] at k; exact k)) (fun fs fb g => by
      have b := ts_bits g rfl l2 (bi _ _ hw2 (by omega) T2 l2) (Or.inr (Or.inr ⟨i1, rfl, l1, bi _ _ hw1 (by omega) T1 l1⟩))
      exact ⟨fun r hr => (b r hr).2.trans (se_a z45 r).1, fun _ r hr => (b r hr).1.trans (se_a z45 r).2.symm⟩)
    rcases z45 with f | f
    · have e5 : F2 24 5 = 3 := q5n 3 (by unfold fmR; rw [f]; rfl)
      simp only [isO_c, ax0, ex_cons, am_get, upz_at, true_and, and_true, Nat.reduceAdd, Nat.reduceLeDiff, Nat.reduceEqDiff, Nat.reduceSub, Int32.reduceOfInt, Int32.reduceAdd, Int32.reduceMul, Int32.reduceSub, ↓reduceIte, Int32.reduceLT, Int32.reduceLE, Int32.reduceToNatClampNeg, Nat.reduceMod, Nat.reduceLT, List.length_cons, List.length_nil, eq_self, true_or, or_true, and_self, implies_true, not_true_eq_false, not_false_eq_true, false_implies, true_implies, forall_const, st_aloadx, st_astorex, st_astore_1x, st_dupx, st_dup_1x, st_getfieldx, st_gotox, st_goto_wx, st_iconstx, st_ifCondx, st_if_icmpx, st_iloadx, st_in1, st_sp2, st_istorex, st_newx, am_put, am_nlg, jx_Reader_read_92, kb_Reader_read_92, og_24_11, oo_26, oo_24, og_24_5, jx_Reader_read_127, kb_Reader_read_127, jx_Reader_read_132, kb_Reader_read_132, og_24_9, jx_Reader_read_148, kb_Reader_read_148, og_24_8, oa_24, oa_26, e5, r8, r9]
      exact go
    · have e5 : F2 24 5 = 4 := q5n 4 (by unfold fmR; rw [f]; rfl)
      simp only [isO_c, ax0, ex_cons, am_get, upz_at, true_and, and_true, Nat.reduceAdd, Nat.reduceLeDiff, Nat.reduceEqDiff, Nat.reduceSub, Int32.reduceOfInt, Int32.reduceAdd, Int32.reduceMul, Int32.reduceSub, ↓reduceIte, Int32.reduceLT, Int32.reduceLE, Int32.reduceToNatClampNeg, Nat.reduceMod, Nat.reduceLT, List.length_cons, List.length_nil, eq_self, true_or, or_true, and_self, implies_true, not_true_eq_false, not_false_eq_true, false_implies, true_implies, forall_const, st_aloadx, st_astorex, st_astore_1x, st_dupx, st_dup_1x, st_getfieldx, st_gotox, st_goto_wx, st_iconstx, st_ifCondx, st_if_icmpx, st_iloadx, st_in1, st_sp2, st_istorex, st_newx, am_put, am_nlg, jx_Reader_read_92, kb_Reader_read_92, og_24_11, oo_26, oo_24, og_24_5, jx_Reader_read_127, kb_Reader_read_127, jx_Reader_read_132, kb_Reader_read_132, og_24_9, jx_Reader_read_148, kb_Reader_read_148, og_24_8, oa_24, oa_26, e5, r8, r9, show ¬ (4 : Int32) = 3 by decide]
      exact go
  · have ne : ¬ F2 24 5 = 3 ∧ ¬ F2 24 5 = 4 := by
      rw [q5]
      rcases hf with f | f | f | f | f | f | f
      · rw [show fmR R = 0 by unfold fmR; rw [f]; rfl]; exact ⟨by decide, by decide⟩
      · rw [show fmR R = 1 by unfold fmR; rw [f]; rfl]; exact ⟨by decide, by decide⟩
      · rw [show fmR R = 2 by unfold fmR; rw [f]; rfl]; exact ⟨by decide, by decide⟩
      · exact absurd (Or.inl f) z45
      · exact absurd (Or.inr f) z45
      · rw [show fmR R = 5 by unfold fmR; rw [f]; rfl]; exact ⟨by decide, by decide⟩
      · rw [show fmR R = 6 by unfold fmR; rw [f]; rfl]; exact ⟨by decide, by decide⟩
    by_cases z9 : R.1 < 9
    · rw [if_pos z9] at pt hws
      obtain ⟨i1, i2, q8, q9, T1, T2, l1, l2⟩ := pt
      have hw1 := (hwf.2.1 (by omega)).1
      have r8 : F2 24 8 = nI i1 := by rw [g24]; exact q8
      have r9 : F2 24 9 = nI i2 := by rw [g24]; exact q9
      have go := tail (nI i1) (nI i2) 0 (fun Q' h' k => ki _ _ hw1 (by omega) T1 l1 Q' h' (by unfold kaR at k; rw [if_neg (by omega)] at k; exact k)) (fun Q' h' k => ki _ _ hw2 (by omega) T2 l2 Q' h' (by unfold kbR at k; rw [if_neg (by omega), if_neg z45] at k; exact k)) (fun fs fb g => by
        have b := ts_bits g rfl l1 (bi _ _ hw1 (by omega) T1 l1) (Or.inr (Or.inr ⟨i2, rfl, l2, bi _ _ hw2 (by omega) T2 l2⟩))
        exact ⟨fun r hr => (b r hr).2.trans (se_b (by omega) r).1, fun _ r hr => (b r hr).1.trans (se_b (by omega) r).2.symm⟩)
      simp only [isO_c, ax0, ex_cons, am_get, upz_at, true_and, and_true, Nat.reduceAdd, Nat.reduceLeDiff, Nat.reduceEqDiff, Nat.reduceSub, Int32.reduceOfInt, Int32.reduceAdd, Int32.reduceMul, Int32.reduceSub, ↓reduceIte, Int32.reduceLT, Int32.reduceLE, Int32.reduceToNatClampNeg, Nat.reduceMod, Nat.reduceLT, List.length_cons, List.length_nil, eq_self, true_or, or_true, and_self, implies_true, not_true_eq_false, not_false_eq_true, false_implies, true_implies, forall_const, st_aloadx, st_astorex, st_astore_1x, st_dupx, st_dup_1x, st_getfieldx, st_gotox, st_goto_wx, st_iconstx, st_ifCondx, st_if_icmpx, st_iloadx, st_in1, st_sp2, st_istorex, st_newx, am_put, am_nlg, jx_Reader_read_92, kb_Reader_read_92, og_24_11, oo_26, oo_24, og_24_5, jx_Reader_read_131, kb_Reader_read_131, jx_Reader_read_132, kb_Reader_read_132, og_24_9, jx_Reader_read_144, kb_Reader_read_144, og_24_8, jx_Reader_read_148, kb_Reader_read_148, jx_Reader_read_161, kb_Reader_read_161, oa_24, oa_26, ne, r8, r9]
      exact go
    · rw [if_neg z9] at pt hws
      obtain ⟨i1, q8, q9, T1, l1⟩ := pt
      have r8 : F2 24 8 = nI i1 := by rw [g24]; exact q8
      have r9 : F2 24 9 = -1 := by rw [g24]; exact q9
      have go := tail (nI i1) (-1) 0 (fun Q' h' k => ki _ _ hw2 (by omega) T1 l1 Q' h' (by unfold kaR at k; rw [if_pos (by omega)] at k; exact k)) (fun Q' h' k => c_kindAt1 (by unfold kbR at k; rw [if_pos (by omega)] at k; exact k)) (fun fs fb g => by
        have b := ts_bits (b := fun _ => false) g rfl l1 (bi _ _ hw2 (by omega) T1 l1) (by omega)
        exact ⟨fun r hr => (b r hr).2.trans (se_c (by omega) _ r).1, fun z => absurd z (by rw [(se_c (R := R) (by omega) false 0).2]; exact Bool.false_ne_true)⟩)
      simp only [isO_c, ax0, ex_cons, am_get, upz_at, true_and, and_true, Nat.reduceAdd, Nat.reduceLeDiff, Nat.reduceEqDiff, Nat.reduceSub, Int32.reduceOfInt, Int32.reduceAdd, Int32.reduceMul, Int32.reduceSub, ↓reduceIte, Int32.reduceLT, Int32.reduceLE, Int32.reduceToNatClampNeg, Nat.reduceMod, Nat.reduceLT, List.length_cons, List.length_nil, eq_self, true_or, or_true, and_self, implies_true, not_true_eq_false, not_false_eq_true, false_implies, true_implies, forall_const, st_aloadx, st_astorex, st_astore_1x, st_dupx, st_dup_1x, st_getfieldx, st_gotox, st_goto_wx, st_iconstx, st_ifCondx, st_if_icmpx, st_iloadx, st_in1, st_sp2, st_istorex, st_newx, am_put, am_nlg, jx_Reader_read_92, kb_Reader_read_92, og_24_11, oo_26, oo_24, og_24_5, jx_Reader_read_131, kb_Reader_read_131, jx_Reader_read_132, kb_Reader_read_132, og_24_9, jx_Reader_read_144, kb_Reader_read_144, og_24_8, jx_Reader_read_148, kb_Reader_read_148, jx_Reader_read_161, kb_Reader_read_161, oa_24, oa_26, ne, r8, r9]
      exact go
end CRD
