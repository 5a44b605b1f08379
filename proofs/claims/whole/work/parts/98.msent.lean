/-! ===== the model: readSentence ===== -/
def Pg (F F' : Nat → Nat → Int32) : Prop := (∀ a, a ≠ 82 → a ≠ 93 → F' a = F a) ∧ ∀ i, i ≠ 14 → i ≠ 16 → ¬ (18 ≤ i ∧ i ≤ 23) → F' 82 i = F 82 i
theorem Pg.rf {F : Nat → Nat → Int32} : Pg F F := ⟨fun _ _ _ => rfl, fun _ _ _ _ => rfl⟩
theorem Pg.tr {F F1 F2 : Nat → Nat → Int32} (a : Pg F F1) (b : Pg F1 F2) : Pg F F2 := ⟨fun i h1 h2 => (b.1 i h1 h2).trans (a.1 i h1 h2), fun i h1 h2 h3 => (b.2 i h1 h2 h3).trans (a.2 i h1 h2 h3)⟩
theorem Pp.pg {F F' : Nat → Nat → Int32} (p : Pp F F') : Pg F F' := ⟨p.1, fun i h1 h2 h3 => p.2 i h1 h2 (by omega) (by omega)⟩
theorem pg_82 {F : Nat → Nat → Int32} {i : Nat} {v : Int32} (h : i = 14 ∨ i = 16 ∨ (18 ≤ i ∧ i ≤ 23)) : Pg F (upz F 82 (upz (F 82) i v)) := ⟨fun a h1 _ => upz_ne _ _ h1, fun j h1 h2 h3 => by rw [upz_eq, upz_ne _ _ (by omega)]⟩
theorem TKr.pg {F F' : Nat → Nat → Int32} {n : Nat} {L : List (Nat × Nat)} (h : TKr F n L) (p : Pg F F') : TKr F' n L := ⟨by rw [p.2 13 (by decide) (by decide) (by decide)]; exact h.1, fun k hk => by rw [p.1 90 (by decide) (by decide), p.1 92 (by decide) (by decide)]; exact h.2 k hk⟩
theorem LV.w {F : Nat → Nat → Int32} {k c : Nat} {ms : List Nat} (hl : LV F k c ms) {i : Nat} (hi : 20 ≤ i) (v : Int32) : LV (upz F 82 (upz (F 82) i v)) k c ms := ⟨by rw [upz_eq, upz_ne _ _ (by omega)]; exact hl.1, by rw [upz_eq, upz_ne _ _ (by omega)]; exact hl.2.1, by rw [upz_eq, upz_ne _ _ (by omega)]; exact hl.2.2.1, by rw [upz_eq, upz_ne _ _ (by omega)]; exact hl.2.2.2.1, by rw [upz_ne _ _ (by decide)]; exact hl.2.2.2.2⟩
theorem DE.w {F : Nat → Nat → Int32} {e : Nat} (hl : DE F e) {i : Nat} (hi : 20 ≤ i) (v : Int32) : DE (upz F 82 (upz (F 82) i v)) e := ⟨by rw [upz_eq, upz_ne _ _ (by omega)]; exact hl.1, hl.2⟩
/-- what readSentence leaves -/
def RSs (n : Nat) (L : List (Nat × Nat)) (F' : Nat → Nat → Int32) : Nat ⊕ (rT × Nat) → Prop
  | .inl e => DE F' (plL n L e)
  | .inr x => (∃ c, LV F' x.2 c (rC1 x.1 ++ rC2 x.1)) ∧ F' 82 20 = nI x.1.1 ∧ F' 82 21 = b2i x.1.2.1 ∧ F' 82 22 = (if x.1.1 = 10 then nI x.1.2.2.1 else -1) ∧ F' 82 23 = nI (rC1 x.1).length
section MSN
variable {d n : Nat} {L : List (Nat × Nat)} {h : am_H} {F : Nat → Nat → Int32} {J : Nat → Nat → Int64} {V : Nat → Nat → Value} {Q : am_Q}
/-- a term of a sentence -/
theorem m_term0 (hT : TK n L) (hr : TKr F n L) {k c : Nat} (hk : k ≤ L.length) (hc : c ≤ 24) {ms : List Nat} (hl : LV F k c ms) (hb : 2 * ms.length ≤ ppL n L k) (K : ∀ F', RS n L F' ms (pQ (cdL L) L.length k c) → Pp F F' → Q none (ov h F' J V)) : am_cl (d + 32) 199 [.ref 82, .int 0] (ov h F J V) Q :=
  (m_parse hT (4 * L.length + 4)).1 d 0 k c ms (.var 0) F Q _ ⟨by decide, hr, hk, hc⟩ hl hb (pQ_some hT.2.2.1 hk hc) K
theorem msn_1 {ms : List Nat} (t : eT) : ([] : List Nat) ++ cdT t = cdT t := rfl
set_option maxRecDepth 20000 in
theorem m_rsEnd {f w : Nat} (pc : Nat) (hpc : pc = 90 ∨ pc = 130) (hf : f = 9 ∨ f = 10) (hT : TK n L) (hr : TKr F n L) {fl : Bool} {nm : Nat} {k : Nat} (hk : k ≤ L.length) (hl : LV F k 0 []) (h20 : F 82 20 = nI f) (h22 : F 82 22 = (if f = 10 then nI nm else -1)) (h23 : F 82 23 = 0) {ls : List Value} (hls : ls = [.ref 82])
    (K : ∀ F', RSs n L F' (thenQ (pQ (cdL L) L.length k 0) (fun x => .inr ((f, fl, nm, .var 0, x.1), x.2.1))) → Pg F F' → Q none (ov h F' J V)) : am_W kc_Model_readSentence (am_cl (d + 32)) Q pc ls [.int (b2i fl), .ref 82] (ov h F J V) := by
  subst hls
  have body : am_cl (d + 32) 199 [.ref 82, .int 0] (ov h (upz F 82 (upz (F 82) 21 (b2i fl))) J V) (fun r h1 => am_kk (am_ex (am_cl (d + 32)) (am_W kc_Model_readSentence (am_cl (d + 32)) Q) Q [(.goto 0, 234)]) [.ref 82] r [] h1) := by
    refine m_term0 hT (hr.pg (pg_82 (by decide))) hk (by decide) (hl.w (by decide) _) (by have : ([] : List Nat).length = 0 := rfl; omega) (fun F1 r1 p1 => ?_)
    simp only [ax0, ex_cons, am_get, upz_at, true_and, and_true, Nat.reduceAdd, Nat.reduceLeDiff, Nat.reduceEqDiff, Nat.reduceSub, Int32.reduceOfInt, Int32.reduceAdd, Int32.reduceMul, Int32.reduceSub, ↓reduceIte, Int32.reduceLT, Int32.reduceLE, Int32.reduceToNatClampNeg, Nat.reduceMod, Nat.reduceLT, List.length_cons, List.length_nil, eq_self, true_or, or_true, and_self, implies_true, not_true_eq_false, not_false_eq_true, false_implies, true_implies, forall_const, st_aloadx, st_gotox, st_iconstx, st_in2, st_putfieldx, st_return_x, jx_Model_readSentence_90, kb_Model_readSentence_90, op_82_21, oo_82, jx_Model_readSentence_234, kb_Model_readSentence_234, oa_82, os_82]
    cases e : pQ (cdL L) L.length k 0 with
    | inl e1 =>
      rw [e] at r1 K
      exact K F1 r1 ((pg_82 (by decide)).tr p1.pg)
    | inr x =>
      rw [e] at r1 K
      have e1 : rC1 (f, fl, nm, (Int.Internal.Linear.Expr.var 0 : eT), x.1) = [] := by unfold rC1; rw [if_neg (by show ¬ f < 9; omega)]
      refine K F1 ⟨⟨x.2.2, ?_⟩, ?_, ?_, ?_, ?_⟩ ((pg_82 (by decide)).tr p1.pg)
      · show LV F1 x.2.1 x.2.2 (rC1 (f, fl, nm, (Int.Internal.Linear.Expr.var 0 : eT), x.1) ++ cdT x.1)
        rw [e1]; exact r1
      · rw [p1.2 20 (by decide) (by decide) (by decide) (by decide), upz_eq, upz_ne _ _ (by decide)]; exact h20
      · rw [p1.2 21 (by decide) (by decide) (by decide) (by decide), upz_eq, upz_eq]
      · rw [p1.2 22 (by decide) (by decide) (by decide) (by decide), upz_eq, upz_ne _ _ (by decide)]; exact h22
      · show _ = nI (rC1 (f, fl, nm, (Int.Internal.Linear.Expr.var 0 : eT), x.1)).length
        rw [e1, p1.2 23 (by decide) (by decide) (by decide) (by decide), upz_eq, upz_ne _ _ (by decide)]; exact h23
  rcases hpc with e | e <;> subst e
  · simp only [ax0, ex_cons, am_get, upz_at, true_and, and_true, Nat.reduceAdd, Nat.reduceLeDiff, Nat.reduceEqDiff, Nat.reduceSub, Int32.reduceOfInt, Int32.reduceAdd, Int32.reduceMul, Int32.reduceSub, ↓reduceIte, Int32.reduceLT, Int32.reduceLE, Int32.reduceToNatClampNeg, Nat.reduceMod, Nat.reduceLT, List.length_cons, List.length_nil, eq_self, true_or, or_true, and_self, implies_true, not_true_eq_false, not_false_eq_true, false_implies, true_implies, forall_const, st_aloadx, st_gotox, st_iconstx, st_in2, st_putfieldx, jx_Model_readSentence_90, kb_Model_readSentence_90, op_82_21, oo_82, oa_82, os_82]
    exact body
  · simp only [ax0, ex_cons, am_get, upz_at, true_and, and_true, Nat.reduceAdd, Nat.reduceLeDiff, Nat.reduceEqDiff, Nat.reduceSub, Int32.reduceOfInt, Int32.reduceAdd, Int32.reduceMul, Int32.reduceSub, ↓reduceIte, Int32.reduceLT, Int32.reduceLE, Int32.reduceToNatClampNeg, Nat.reduceMod, Nat.reduceLT, List.length_cons, List.length_nil, eq_self, true_or, or_true, and_self, implies_true, not_true_eq_false, not_false_eq_true, false_implies, true_implies, forall_const, st_aloadx, st_gotox, st_iconstx, st_in2, st_putfieldx, jx_Model_readSentence_130, kb_Model_readSentence_130, op_82_21, oo_82, oa_82, os_82]
    exact body
set_option maxRecDepth 20000 in
theorem m_rsDead {e : Nat} (pc : Nat) (hpc : pc = 90 ∨ pc = 130 ∨ pc = 219) (hl : DE F e) {fl : Int32} {ls : List Value} (hls : ls = [.ref 82]) (K : ∀ F', DE F' e → Pg F F' → Q none (ov h F' J V)) : am_W kc_Model_readSentence (am_cl (d + 32)) Q pc ls [.int fl, .ref 82] (ov h F J V) := by
  subst hls
  have l1 := hl.w (i := 21) (by decide) fl
  have p1 : Pg F (upz F 82 (upz (F 82) 21 fl)) := pg_82 (by decide)
  rcases hpc with e | e | e <;> subst e
  · simp only [ax0, ex_cons, am_get, upz_at, true_and, and_true, Nat.reduceAdd, Nat.reduceLeDiff, Nat.reduceEqDiff, Nat.reduceSub, Int32.reduceOfInt, Int32.reduceAdd, Int32.reduceMul, Int32.reduceSub, ↓reduceIte, Int32.reduceLT, Int32.reduceLE, Int32.reduceToNatClampNeg, Nat.reduceMod, Nat.reduceLT, List.length_cons, List.length_nil, eq_self, true_or, or_true, and_self, implies_true, not_true_eq_false, not_false_eq_true, false_implies, true_implies, forall_const, st_aloadx, st_gotox, st_iconstx, st_in2, st_putfieldx, jx_Model_readSentence_90, kb_Model_readSentence_90, op_82_21, oo_82, oa_82, os_82]
    refine m_termD l1 ?_
    simp only [ax0, ex_cons, am_get, upz_at, true_and, and_true, Nat.reduceAdd, Nat.reduceLeDiff, Nat.reduceEqDiff, Nat.reduceSub, Int32.reduceOfInt, Int32.reduceAdd, Int32.reduceMul, Int32.reduceSub, ↓reduceIte, Int32.reduceLT, Int32.reduceLE, Int32.reduceToNatClampNeg, Nat.reduceMod, Nat.reduceLT, List.length_cons, List.length_nil, eq_self, true_or, or_true, and_self, implies_true, not_true_eq_false, not_false_eq_true, false_implies, true_implies, forall_const, st_aloadx, st_gotox, st_iconstx, st_in2, st_putfieldx, st_return_x, jx_Model_readSentence_90, kb_Model_readSentence_90, op_82_21, oo_82, jx_Model_readSentence_234, kb_Model_readSentence_234, oa_82, os_82]
    exact K _ l1 p1
  · simp only [ax0, ex_cons, am_get, upz_at, true_and, and_true, Nat.reduceAdd, Nat.reduceLeDiff, Nat.reduceEqDiff, Nat.reduceSub, Int32.reduceOfInt, Int32.reduceAdd, Int32.reduceMul, Int32.reduceSub, ↓reduceIte, Int32.reduceLT, Int32.reduceLE, Int32.reduceToNatClampNeg, Nat.reduceMod, Nat.reduceLT, List.length_cons, List.length_nil, eq_self, true_or, or_true, and_self, implies_true, not_true_eq_false, not_false_eq_true, false_implies, true_implies, forall_const, st_aloadx, st_gotox, st_iconstx, st_in2, st_putfieldx, jx_Model_readSentence_130, kb_Model_readSentence_130, op_82_21, oo_82, oa_82, os_82]
    refine m_termD l1 ?_
    simp only [ax0, ex_cons, am_get, upz_at, true_and, and_true, Nat.reduceAdd, Nat.reduceLeDiff, Nat.reduceEqDiff, Nat.reduceSub, Int32.reduceOfInt, Int32.reduceAdd, Int32.reduceMul, Int32.reduceSub, ↓reduceIte, Int32.reduceLT, Int32.reduceLE, Int32.reduceToNatClampNeg, Nat.reduceMod, Nat.reduceLT, List.length_cons, List.length_nil, eq_self, true_or, or_true, and_self, implies_true, not_true_eq_false, not_false_eq_true, false_implies, true_implies, forall_const, st_aloadx, st_gotox, st_iconstx, st_in2, st_putfieldx, st_return_x, jx_Model_readSentence_130, kb_Model_readSentence_130, op_82_21, oo_82, jx_Model_readSentence_234, kb_Model_readSentence_234, oa_82, os_82]
    exact K _ l1 p1
  · simp only [ax0, ex_cons, am_get, upz_at, true_and, and_true, Nat.reduceAdd, Nat.reduceLeDiff, Nat.reduceEqDiff, Nat.reduceSub, Int32.reduceOfInt, Int32.reduceAdd, Int32.reduceMul, Int32.reduceSub, ↓reduceIte, Int32.reduceLT, Int32.reduceLE, Int32.reduceToNatClampNeg, Nat.reduceMod, Nat.reduceLT, List.length_cons, List.length_nil, eq_self, true_or, or_true, and_self, implies_true, not_true_eq_false, not_false_eq_true, false_implies, true_implies, forall_const, st_aloadx, st_gotox, st_iconstx, st_in2, st_putfieldx, jx_Model_readSentence_219, kb_Model_readSentence_219, op_82_21, oo_82, oa_82, os_82]
    refine m_termD l1 ?_
    simp only [ax0, ex_cons, am_get, upz_at, true_and, and_true, Nat.reduceAdd, Nat.reduceLeDiff, Nat.reduceEqDiff, Nat.reduceSub, Int32.reduceOfInt, Int32.reduceAdd, Int32.reduceMul, Int32.reduceSub, ↓reduceIte, Int32.reduceLT, Int32.reduceLE, Int32.reduceToNatClampNeg, Nat.reduceMod, Nat.reduceLT, List.length_cons, List.length_nil, eq_self, true_or, or_true, and_self, implies_true, not_true_eq_false, not_false_eq_true, false_implies, true_implies, forall_const, st_aloadx, st_gotox, st_iconstx, st_in2, st_putfieldx, st_return_x, jx_Model_readSentence_219, kb_Model_readSentence_219, op_82_21, oo_82, jx_Model_readSentence_234, kb_Model_readSentence_234, oa_82, os_82]
    exact K _ l1 p1

set_option maxRecDepth 20000 in
theorem m_rsB (hT : TK n L) {x : pT} (hx : wfT x.1) (hk : x.2.1 ≤ L.length) (hc : x.2.2 ≤ 24) (hr : TKr F n L) (hl : LV F x.2.1 x.2.2 (cdT x.1)) (hb : wsT x.1 ≤ ppL n L x.2.1) (c0 : cdL L 0 ≤ 5) (h20 : F 82 20 = nI (cdL L 0)) (h22 : F 82 22 = -1) (h23 : F 82 23 = nI (cdT x.1).length)
    (K : ∀ F', RSs n L F' (psB (cdL L) L.length x) → Pg F F' → Q none (ov h F' J V)) : am_cl (d + 32) 196 [.ref 82, .int 7] (ov h F J V) (fun r h1 => am_kk (am_ex (am_cl (d + 32)) (am_W kc_Model_readSentence (am_cl (d + 32)) Q) Q (kb_Model_readSentence_177.drop 10)) [.ref 82] r [] h1) := by
  unfold psB at K
  have hws := ws_cd hx
  refine m_mustL hT hr hk hl (w := 7) (by decide) (fun q F1 l1 p1 => ?_) (fun q F1 l1 p1 => ?_)
  · rw [if_neg q] at K
    have f20 : F1 82 20 = nI (cdL L 0) := by rw [p1.2 20 (by decide) (by decide) (by decide) (by decide)]; exact h20
    simp only [ax0, ex_cons, am_get, upz_at, true_and, and_true, Nat.reduceAdd, Nat.reduceLeDiff, Nat.reduceEqDiff, Nat.reduceSub, Int32.reduceOfInt, Int32.reduceAdd, Int32.reduceMul, Int32.reduceSub, ↓reduceIte, Int32.reduceLT, Int32.reduceLE, Int32.reduceToNatClampNeg, Nat.reduceMod, Nat.reduceLT, List.length_cons, List.length_nil, eq_self, true_or, or_true, and_self, implies_true, not_true_eq_false, not_false_eq_true, false_implies, true_implies, forall_const, st_aloadx, st_getfieldx, st_gotox, st_goto_wx, st_iconstx, st_ifCondx, st_if_icmpx, st_in2, st_putfieldx, jx_Model_readSentence_177, kb_Model_readSentence_177, oo_82, og_82_18, op_82_23, og_82_20, jx_Model_readSentence_218, kb_Model_readSentence_218, oa_82, os_82, List.drop_succ_cons, List.drop_zero, f20]
    refine And.intro (fun q2 => ?_) (fun q2 => ?_)
    · exact m_rsDead 219 (by decide) l1 rfl (fun F2 l2 p2 => K F2 l2 (p1.pg.tr p2))
    · refine m_takes0D l1 ?_
      simp only [ax0, ex_cons, am_get, upz_at, true_and, and_true, Nat.reduceAdd, Nat.reduceLeDiff, Nat.reduceEqDiff, Nat.reduceSub, Int32.reduceOfInt, Int32.reduceAdd, Int32.reduceMul, Int32.reduceSub, ↓reduceIte, Int32.reduceLT, Int32.reduceLE, Int32.reduceToNatClampNeg, Nat.reduceMod, Nat.reduceLT, List.length_cons, List.length_nil, eq_self, true_or, or_true, and_self, implies_true, not_true_eq_false, not_false_eq_true, false_implies, true_implies, forall_const, st_aloadx, st_getfieldx, st_gotox, st_goto_wx, st_iconstx, st_ifCondx, st_if_icmpx, st_in2, st_putfieldx, jx_Model_readSentence_177, kb_Model_readSentence_177, oo_82, og_82_18, op_82_23, og_82_20, jx_Model_readSentence_218, kb_Model_readSentence_218, oa_82, os_82]
      exact m_rsDead 219 (by decide) l1 rfl (fun F2 l2 p2 => K F2 l2 (p1.pg.tr p2))
  · rw [if_pos q] at K
    have hk1 := tk_lt hT.2.2.1 (k := x.2.1) (by rw [q]; decide)
    have hwk := hT.2.2.1.1 x.2.1 hk1
    have f20 : F1 82 20 = nI (cdL L 0) := by rw [p1.2 20 (by decide) (by decide) (by decide) (by decide)]; exact h20
    have f22 : F1 82 22 = -1 := by rw [p1.2 22 (by decide) (by decide) (by decide) (by decide)]; exact h22
    have f23 : F1 82 23 = nI (cdT x.1).length := by rw [p1.2 23 (by decide) (by decide) (by decide) (by decide)]; exact h23
    have r1 := hr.pp p1
    have fin : ∀ F2 (fl : Bool) k, k = (if fl then x.2.1 + 2 else x.2.1 + 1) → fl = flA (cdL L) (x.2.1 + 1) → k ≤ L.length → ppL n L (x.2.1 + 1) ≤ ppL n L k → LV F2 k x.2.2 (cdT x.1) → Pp F1 F2 → am_W kc_Model_readSentence (am_cl (d + 32)) Q 219 [.ref 82] [.int (b2i fl), .ref 82] (ov h F2 J V) := by
      intro F2 fl k ek efl hk2 hpk l2 p2
      rw [← efl, ← ek] at K
      simp only [ax0, ex_cons, am_get, upz_at, true_and, and_true, Nat.reduceAdd, Nat.reduceLeDiff, Nat.reduceEqDiff, Nat.reduceSub, Int32.reduceOfInt, Int32.reduceAdd, Int32.reduceMul, Int32.reduceSub, ↓reduceIte, Int32.reduceLT, Int32.reduceLE, Int32.reduceToNatClampNeg, Nat.reduceMod, Nat.reduceLT, List.length_cons, List.length_nil, eq_self, true_or, or_true, and_self, implies_true, not_true_eq_false, not_false_eq_true, false_implies, true_implies, forall_const, st_aloadx, st_gotox, st_iconstx, st_in2, st_putfieldx, jx_Model_readSentence_219, kb_Model_readSentence_219, op_82_21, oo_82, oa_82, os_82]
      refine m_term0 hT ((r1.pp p2).pg (pg_82 (by decide))) hk2 hc (l2.w (by decide) _) (by omega) (fun F3 r3 p3 => ?_)
      simp only [ax0, ex_cons, am_get, upz_at, true_and, and_true, Nat.reduceAdd, Nat.reduceLeDiff, Nat.reduceEqDiff, Nat.reduceSub, Int32.reduceOfInt, Int32.reduceAdd, Int32.reduceMul, Int32.reduceSub, ↓reduceIte, Int32.reduceLT, Int32.reduceLE, Int32.reduceToNatClampNeg, Nat.reduceMod, Nat.reduceLT, List.length_cons, List.length_nil, eq_self, true_or, or_true, and_self, implies_true, not_true_eq_false, not_false_eq_true, false_implies, true_implies, forall_const, st_aloadx, st_gotox, st_iconstx, st_in2, st_putfieldx, st_return_x, jx_Model_readSentence_219, kb_Model_readSentence_219, op_82_21, oo_82, jx_Model_readSentence_234, kb_Model_readSentence_234, oa_82, os_82]
      have pg3 : Pg F F3 := ((p1.pg.tr p2.pg).tr (pg_82 (by decide))).tr p3.pg
      cases e : pQ (cdL L) L.length k x.2.2 with
      | inl e1 =>
        rw [e] at r3 K
        exact K F3 r3 pg3
      | inr y =>
        rw [e] at r3 K
        have e1 : rC1 (cdL L 0, fl, 0, x.1, y.1) = cdT x.1 := by unfold rC1; rw [if_pos (by show cdL L 0 < 9; omega)]
        refine K F3 ⟨⟨y.2.2, ?_⟩, ?_, ?_, ?_, ?_⟩ pg3
        · show LV F3 y.2.1 y.2.2 (rC1 (cdL L 0, fl, 0, x.1, y.1) ++ cdT y.1)
          rw [e1]; exact r3
        · rw [p3.2 20 (by decide) (by decide) (by decide) (by decide), upz_eq, upz_ne _ _ (by decide), p2.2 20 (by decide) (by decide) (by decide) (by decide)]; exact f20
        · rw [p3.2 21 (by decide) (by decide) (by decide) (by decide), upz_eq, upz_eq]
        · show _ = if cdL L 0 = 10 then nI 0 else -1
          rw [if_neg (by omega), p3.2 22 (by decide) (by decide) (by decide) (by decide), upz_eq, upz_ne _ _ (by decide), p2.2 22 (by decide) (by decide) (by decide) (by decide)]; exact f22
        · show _ = nI (rC1 (cdL L 0, fl, 0, x.1, y.1)).length
          rw [e1, p3.2 23 (by decide) (by decide) (by decide) (by decide), upz_eq, upz_ne _ _ (by decide), p2.2 23 (by decide) (by decide) (by decide) (by decide)]; exact f23
    simp only [ax0, ex_cons, am_get, upz_at, true_and, and_true, Nat.reduceAdd, Nat.reduceLeDiff, Nat.reduceEqDiff, Nat.reduceSub, Int32.reduceOfInt, Int32.reduceAdd, Int32.reduceMul, Int32.reduceSub, ↓reduceIte, Int32.reduceLT, Int32.reduceLE, Int32.reduceToNatClampNeg, Nat.reduceMod, Nat.reduceLT, List.length_cons, List.length_nil, eq_self, true_or, or_true, and_self, implies_true, not_true_eq_false, not_false_eq_true, false_implies, true_implies, forall_const, st_aloadx, st_getfieldx, st_gotox, st_goto_wx, st_iconstx, st_ifCondx, st_if_icmpx, st_in2, st_putfieldx, jx_Model_readSentence_177, kb_Model_readSentence_177, oo_82, og_82_18, op_82_23, og_82_20, jx_Model_readSentence_218, kb_Model_readSentence_218, oa_82, os_82, List.drop_succ_cons, List.drop_zero, f20, show (nI (cdL L 0) = (3 : Int32)) = (cdL L 0 = 3) from nk_eq (b := 3) (by omega) (by decide)]
    refine And.intro (fun q2 => ?_) (fun q2 => ?_)
    · exact fin F1 false (x.2.1 + 1) rfl (by unfold flA; rw [decide_eq_false q2]; rfl) hk1 (Nat.le_refl _) l1 Pp.rf
    · have q2 := Classical.not_not.mp q2
      refine m_takes0L hT r1 hk1 l1 (w := 8) (by decide) (fun q3 => ?_) (fun q3 F2 l2 p2 => ?_)
      · simp only [ax0, ex_cons, am_get, upz_at, true_and, and_true, Nat.reduceAdd, Nat.reduceLeDiff, Nat.reduceEqDiff, Nat.reduceSub, Int32.reduceOfInt, Int32.reduceAdd, Int32.reduceMul, Int32.reduceSub, ↓reduceIte, Int32.reduceLT, Int32.reduceLE, Int32.reduceToNatClampNeg, Nat.reduceMod, Nat.reduceLT, List.length_cons, List.length_nil, eq_self, true_or, or_true, and_self, implies_true, not_true_eq_false, not_false_eq_true, false_implies, true_implies, forall_const, st_aloadx, st_getfieldx, st_gotox, st_goto_wx, st_iconstx, st_ifCondx, st_if_icmpx, st_in2, st_putfieldx, jx_Model_readSentence_177, kb_Model_readSentence_177, oo_82, og_82_18, op_82_23, og_82_20, jx_Model_readSentence_218, kb_Model_readSentence_218, oa_82, os_82]
        exact fin F1 false (x.2.1 + 1) rfl (by unfold flA; rw [decide_eq_true q2, decide_eq_false q3]; rfl) hk1 (Nat.le_refl _) l1 Pp.rf
      · simp only [ax0, ex_cons, am_get, upz_at, true_and, and_true, Nat.reduceAdd, Nat.reduceLeDiff, Nat.reduceEqDiff, Nat.reduceSub, Int32.reduceOfInt, Int32.reduceAdd, Int32.reduceMul, Int32.reduceSub, ↓reduceIte, Int32.reduceLT, Int32.reduceLE, Int32.reduceToNatClampNeg, Nat.reduceMod, Nat.reduceLT, List.length_cons, List.length_nil, eq_self, true_or, or_true, and_self, implies_true, not_true_eq_false, not_false_eq_true, false_implies, true_implies, forall_const, st_aloadx, st_getfieldx, st_gotox, st_iconstx, st_ifCondx, st_if_icmpx, st_in2, st_putfieldx, jx_Model_readSentence_177, kb_Model_readSentence_177, oo_82, og_82_18, op_82_23, og_82_20, oa_82, os_82]
        have hk2 := tk_lt hT.2.2.1 (k := x.2.1 + 1) (by rw [q3]; decide)
        have hwk2 := hT.2.2.1.1 (x.2.1 + 1) hk2
        exact fin F2 true (x.2.1 + 2) rfl (by unfold flA; rw [decide_eq_true q2, decide_eq_true q3]; rfl) hk2 (by have : ppL n L (x.2.1 + 1 + 1) = ppL n L (x.2.1 + 2) := rfl; omega) l2 p2
end MSN
