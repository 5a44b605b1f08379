/-! ===== the model: square ===== -/
def slB (n : Nat) (a : Int32) : Bool := lieB a 0 (nI n - 1)
theorem slB_nI {n : Nat} (hn : n ≤ 12) {a : Int32} (h : slB n a = true) : ∃ k, a = nI k ∧ k < n ∧ a.toNatClampNeg = k := by
  unfold slB at h
  cases n with
  | zero =>
    exfalso
    unfold lieB at h
    simp only [Bool.and_eq_true, Bool.not_eq_true', decide_eq_false_iff_not] at h
    obtain ⟨h1, h2⟩ := h
    rw [show nI 0 - 1 = (-1 : Int32) from by decide] at h2
    rw [Int32.lt_iff_toInt_lt] at h1 h2
    rw [Int32.toInt_zero] at h1
    rw [show (-1 : Int32).toInt = -1 from by decide] at h2
    omega
  | succ n =>
    rw [nk_sub1] at h
    obtain ⟨k, h1, h2, h3⟩ := lieB_nI (by omega) h
    exact ⟨k, h1, by omega, h3⟩
def leZ (C1 C2 : cT) (ex : Bool) : Bool := fo (tellz tE C1 ex) C2 ex
def owZ (C : cT) (ex : Bool) : Nat := if ex && C.2.1 then 2 else 1
def tnZ (T : tT) (C : cT) (way : Nat) : tT := if way = 0 then tz T C.1 C.2.2.2.1 C.2.2.1 false else tz T 1 C.2.2.2.2 0 false
theorem tnZ_len (T : tT) (C : cT) (way : Nat) : (tnZ T C way).2.1.length ≤ T.2.1.length + 1 := by
  unfold tnZ
  split
  · exact tz_len _ _ _ _ _
  · exact tz_len _ _ _ _ _
def eiB (C1 C2 : cT) (a : Nat) : Nat → Bool
  | 0 => true
  | b + 1 => eiB C1 C2 a b && qz (tnZ (tnZ tE C1 a) C2 b) (fun _ => false)
def eiA (C1 C2 : cT) (n2 : Nat) : Nat → Bool
  | 0 => true
  | a + 1 => eiA C1 C2 n2 a && eiB C1 C2 a n2
def sqZ (C1 C2 : cT) (ex : Bool) : Int32 :=
  if leZ C1 C2 ex && leZ C2 C1 ex then 1 else
  (if qz (tellz (tellz tE C1 ex) C2 ex) (fun _ => false) && eiA C1 C2 (owZ C2 ex) (owZ C1 ex) then 6 else if qz (tellz (tellz tE C1 ex) C2 ex) (fun _ => false) then 4 else if eiA C1 C2 (owZ C2 ex) (owZ C1 ex) then 5 else if leZ C1 C2 ex then 2 else if leZ C2 C1 ex then 3 else 0)
def aSquare (D : dT) (a b : Int32) : Int32 := if slB D.1 a && slB D.1 b then sqZ (csD D a.toNatClampNeg) (csD D b.toNatClampNeg) D.2.2.2 else -1
section MPF
variable {d : Nat} {h : am_H} {F : Nat → Nat → Int32} {J : Nat → Nat → Int64} {V : Nat → Nat → Value} {Q : am_Q}
set_option maxRecDepth 20000 in
theorem m_leadsTo {C1 C2 : cT} {ex : Bool} (he : F 84 2697 = b2i ex) {s1 s2 : Nat} (h1 : s1 < 14) (h2 : s2 < 14) (c1 : CR (F 84) s1 C1) (c2 : CR (F 84) s2 C2) (K : ∀ F', St F F' → Q (some (.int (b2i (leZ C1 C2 ex)))) (ov h F' J V)) : am_cl (d + 5) 256 [.ref 82, .int (nI s1), .int (nI s2)] (ov h F J V) Q := by
  simp only [ax0, ex_cons, am_get, upz_at, true_and, and_true, Nat.reduceAdd, Nat.reduceLeDiff, Nat.reduceEqDiff, Nat.reduceSub, Int32.reduceOfInt, Int32.reduceAdd, Int32.reduceMul, Int32.reduceSub, ↓reduceIte, Int32.reduceLT, Int32.reduceLE, Int32.reduceToNatClampNeg, Nat.reduceMod, Nat.reduceLT, List.length_cons, List.length_nil, eq_self, true_or, or_true, and_self, implies_true, not_true_eq_false, not_false_eq_true, false_implies, true_implies, forall_const, st_aload, st_freturn, st_iload, st_in1, st_in3, cx_Model_leadsTo, kb_Model_leadsTo_0, oo_82, oa_82]
  refine m_empties (fun F1 g1 g2 => ?_)
  simp only [ax0, ex_cons, am_get, upz_at, true_and, and_true, Nat.reduceAdd, Nat.reduceLeDiff, Nat.reduceEqDiff, Nat.reduceSub, Int32.reduceOfInt, Int32.reduceAdd, Int32.reduceMul, Int32.reduceSub, ↓reduceIte, Int32.reduceLT, Int32.reduceLE, Int32.reduceToNatClampNeg, Nat.reduceMod, Nat.reduceLT, List.length_cons, List.length_nil, eq_self, true_or, or_true, and_self, implies_true, not_true_eq_false, not_false_eq_true, false_implies, true_implies, forall_const, st_aload, st_freturn, st_iload, st_in1, st_in3, kb_Model_leadsTo_0, oo_82, oa_82]
  refine m_isTold (ex := ex) (by rw [g2.k]; exact he) ?_
  simp only [ax0, ex_cons, am_get, upz_at, true_and, and_true, Nat.reduceAdd, Nat.reduceLeDiff, Nat.reduceEqDiff, Nat.reduceSub, Int32.reduceOfInt, Int32.reduceAdd, Int32.reduceMul, Int32.reduceSub, ↓reduceIte, Int32.reduceLT, Int32.reduceLE, Int32.reduceToNatClampNeg, Nat.reduceMod, Nat.reduceLT, List.length_cons, List.length_nil, eq_self, true_or, or_true, and_self, implies_true, not_true_eq_false, not_false_eq_true, false_implies, true_implies, forall_const, st_aload, st_freturn, st_iload, st_in1, st_in3, kb_Model_leadsTo_0, oo_82, oa_82]
  refine m_tellsOf g1 (by show 0 + 2 ≤ 40; omega) h1 (by rw [g2.k]; exact c1) (fun F2 g3 g4 => ?_)
  simp only [ax0, ex_cons, am_get, upz_at, true_and, and_true, Nat.reduceAdd, Nat.reduceLeDiff, Nat.reduceEqDiff, Nat.reduceSub, Int32.reduceOfInt, Int32.reduceAdd, Int32.reduceMul, Int32.reduceSub, ↓reduceIte, Int32.reduceLT, Int32.reduceLE, Int32.reduceToNatClampNeg, Nat.reduceMod, Nat.reduceLT, List.length_cons, List.length_nil, eq_self, true_or, or_true, and_self, implies_true, not_true_eq_false, not_false_eq_true, false_implies, true_implies, forall_const, st_aload, st_freturn, st_iload, st_in1, st_in3, kb_Model_leadsTo_0, oo_82, oa_82]
  refine m_isTold (ex := ex) (by rw [g4.k, g2.k]; exact he) ?_
  simp only [ax0, ex_cons, am_get, upz_at, true_and, and_true, Nat.reduceAdd, Nat.reduceLeDiff, Nat.reduceEqDiff, Nat.reduceSub, Int32.reduceOfInt, Int32.reduceAdd, Int32.reduceMul, Int32.reduceSub, ↓reduceIte, Int32.reduceLT, Int32.reduceLE, Int32.reduceToNatClampNeg, Nat.reduceMod, Nat.reduceLT, List.length_cons, List.length_nil, eq_self, true_or, or_true, and_self, implies_true, not_true_eq_false, not_false_eq_true, false_implies, true_implies, forall_const, st_aload, st_freturn, st_iload, st_in1, st_in3, kb_Model_leadsTo_0, oo_82, oa_82]
  refine m_followsOf g3 (by have := tellz_len tE C1 ex; have : tE.2.1.length = 0 := rfl; omega) h2 (by rw [g4.k, g2.k]; exact c2) (fun f => ?_)
  have K1 := K _ ((g2.tr g4).s100 f)
  unfold leZ at K1
  simp only [ax0, ex_cons, am_get, upz_at, true_and, and_true, Nat.reduceAdd, Nat.reduceLeDiff, Nat.reduceEqDiff, Nat.reduceSub, Int32.reduceOfInt, Int32.reduceAdd, Int32.reduceMul, Int32.reduceSub, ↓reduceIte, Int32.reduceLT, Int32.reduceLE, Int32.reduceToNatClampNeg, Nat.reduceMod, Nat.reduceLT, List.length_cons, List.length_nil, eq_self, true_or, or_true, and_self, implies_true, not_true_eq_false, not_false_eq_true, false_implies, true_implies, forall_const, st_aload, st_freturn, st_iload, st_in1, st_in3, kb_Model_leadsTo_0, oo_82, oa_82, b2i_01]
  exact K1
set_option maxRecDepth 20000 in
theorem m_otherwise {C : cT} {ex : Bool} (he : F 84 2697 = b2i ex) {s : Nat} (hs : s < 14) (c : CR (F 84) s C) (K : Q (some (.int (nI (owZ C ex)))) (ov h F J V)) : am_cl (d + 2) 254 [.ref 82, .int (nI s)] (ov h F J V) Q := by
  unfold owZ at K
  simp only [ax0, ex_cons, am_get, upz_at, true_and, and_true, Nat.reduceAdd, Nat.reduceLeDiff, Nat.reduceEqDiff, Nat.reduceSub, Int32.reduceOfInt, Int32.reduceAdd, Int32.reduceMul, Int32.reduceSub, ↓reduceIte, Int32.reduceLT, Int32.reduceLE, Int32.reduceToNatClampNeg, Nat.reduceMod, Nat.reduceLT, List.length_cons, List.length_nil, eq_self, true_or, or_true, and_self, implies_true, not_true_eq_false, not_false_eq_true, false_implies, true_implies, forall_const, st_aload, st_goto, st_goto_w, st_iconst, st_ifCond, st_if_icmp, st_iload, st_in1, st_in3, st_ireturn, cx_Model_otherwise, kb_Model_otherwise_0, oo_82, jx_Model_otherwise_23, kb_Model_otherwise_23, jx_Model_otherwise_24, kb_Model_otherwise_24, oa_82]
  refine m_isTold (ex := ex) he ?_
  simp only [ax0, ex_cons, am_get, upz_at, true_and, and_true, Nat.reduceAdd, Nat.reduceLeDiff, Nat.reduceEqDiff, Nat.reduceSub, Int32.reduceOfInt, Int32.reduceAdd, Int32.reduceMul, Int32.reduceSub, ↓reduceIte, Int32.reduceLT, Int32.reduceLE, Int32.reduceToNatClampNeg, Nat.reduceMod, Nat.reduceLT, List.length_cons, List.length_nil, eq_self, true_or, or_true, and_self, implies_true, not_true_eq_false, not_false_eq_true, false_implies, true_implies, forall_const, st_aload, st_goto, st_iconst, st_ifCond, st_if_icmp, st_iload, st_in1, st_in3, kb_Model_otherwise_0, oo_82, oa_82]
  refine ifb (fun e => ?_) (fun e => ?_)
  · rw [e] at K
    simp only [ax0, ex_cons, am_get, upz_at, true_and, and_true, Nat.reduceAdd, Nat.reduceLeDiff, Nat.reduceEqDiff, Nat.reduceSub, Int32.reduceOfInt, Int32.reduceAdd, Int32.reduceMul, Int32.reduceSub, ↓reduceIte, Int32.reduceLT, Int32.reduceLE, Int32.reduceToNatClampNeg, Nat.reduceMod, Nat.reduceLT, List.length_cons, List.length_nil, eq_self, true_or, or_true, and_self, implies_true, not_true_eq_false, not_false_eq_true, false_implies, true_implies, forall_const, st_goto_w, st_iconst, st_ireturn, jx_Model_otherwise_23, kb_Model_otherwise_23, jx_Model_otherwise_24, kb_Model_otherwise_24]
    exact K
  · rw [e, Bool.true_and] at K
    simp only [ax0, ex_cons, am_get, upz_at, true_and, and_true, Nat.reduceAdd, Nat.reduceLeDiff, Nat.reduceEqDiff, Nat.reduceSub, Int32.reduceOfInt, Int32.reduceAdd, Int32.reduceMul, Int32.reduceSub, ↓reduceIte, Int32.reduceLT, Int32.reduceLE, Int32.reduceToNatClampNeg, Nat.reduceMod, Nat.reduceLT, List.length_cons, List.length_nil, eq_self, true_or, or_true, and_self, implies_true, not_true_eq_false, not_false_eq_true, false_implies, true_implies, forall_const, st_aload, st_getfield, st_iadd, st_iaload, st_iconst, st_iload, st_imul, st_ireturn, cx_Model_part, kb_Model_part_0, og_82_2, oa_82, oa_84, or_84, show (183 : Int32) * nI (s) = nI (183 * (s)) from nk_mul (183) (s), show nI (183 * s) + (166 : Int32) = nI (183 * s + 166) from nk_add (183 * s) 166, nk_neg (show 183 * s + 166 < 2147483648 by omega), nk_cl (show 183 * s + 166 < 2147483648 by omega), show 183 * s + 166 < 2698 by omega, c.2.2.1]
    simp only [ax0, ex_cons, am_get, upz_at, true_and, and_true, Nat.reduceAdd, Nat.reduceLeDiff, Nat.reduceEqDiff, Nat.reduceSub, Int32.reduceOfInt, Int32.reduceAdd, Int32.reduceMul, Int32.reduceSub, ↓reduceIte, Int32.reduceLT, Int32.reduceLE, Int32.reduceToNatClampNeg, Nat.reduceMod, Nat.reduceLT, List.length_cons, List.length_nil, eq_self, true_or, or_true, and_self, implies_true, not_true_eq_false, not_false_eq_true, false_implies, true_implies, forall_const, st_aload, st_goto, st_iconst, st_ifCond, st_if_icmp, st_iload, st_in1, st_in3, kb_Model_otherwise_0, oo_82, oa_82]
    refine ifnb1 (fun e => ?_) (fun e => ?_)
    · rw [e] at K
      simp only [ax0, ex_cons, am_get, upz_at, true_and, and_true, Nat.reduceAdd, Nat.reduceLeDiff, Nat.reduceEqDiff, Nat.reduceSub, Int32.reduceOfInt, Int32.reduceAdd, Int32.reduceMul, Int32.reduceSub, ↓reduceIte, Int32.reduceLT, Int32.reduceLE, Int32.reduceToNatClampNeg, Nat.reduceMod, Nat.reduceLT, List.length_cons, List.length_nil, eq_self, true_or, or_true, and_self, implies_true, not_true_eq_false, not_false_eq_true, false_implies, true_implies, forall_const, st_goto_w, st_iconst, st_ireturn, jx_Model_otherwise_23, kb_Model_otherwise_23, jx_Model_otherwise_24, kb_Model_otherwise_24]
      exact K
    · rw [e] at K
      simp only [ax0, ex_cons, am_get, upz_at, true_and, and_true, Nat.reduceAdd, Nat.reduceLeDiff, Nat.reduceEqDiff, Nat.reduceSub, Int32.reduceOfInt, Int32.reduceAdd, Int32.reduceMul, Int32.reduceSub, ↓reduceIte, Int32.reduceLT, Int32.reduceLE, Int32.reduceToNatClampNeg, Nat.reduceMod, Nat.reduceLT, List.length_cons, List.length_nil, eq_self, true_or, or_true, and_self, implies_true, not_true_eq_false, not_false_eq_true, false_implies, true_implies, forall_const, st_ireturn, jx_Model_otherwise_24, kb_Model_otherwise_24]
      exact K
set_option maxRecDepth 20000 in
theorem m_tellsNot {T : tT} (hT : MT F T) (hw : T.2.1.length < 40) {C : cT} {s : Nat} (hs : s < 14) (hC : CR (F 84) s C) {way : Nat} (hway : way < 2) (K : ∀ F', MT F' (tnZ T C way) → St F F' → Q none (ov h F' J V)) : am_cl (d + 2) 255 [.ref 82, .int (nI s), .int (nI way)] (ov h F J V) Q := by
  obtain ⟨said, hsub, who, set, sub⟩ := C
  obtain ⟨c1, c2, c3, c4, c5, c6⟩ := hC
  dsimp only at c1 c2 c3 c4 c5 c6
  have i1 : nI (183 * s) + (165 : Int32) = nI (183 * s + 165) := nk_add (183 * s) 165
  have i2 : nI (183 * s) + (167 : Int32) = nI (183 * s + 167) := nk_add (183 * s) 167
  have i3 : nI (183 * s) + (2 : Int32) = nI (183 * s + 2) := nk_add (183 * s) 2
  have i4 : nI (183 * s + 167) + (8 : Int32) = nI (183 * s + 167 + 8) := nk_add (183 * s + 167) 8
  rcases (show way = 0 ∨ way = 1 by omega) with e | e <;> subst e
  · have K : ∀ F', MT F' (tz T said set who false) → St F F' → Q none (ov h F' J V) := K
    have fin : ∀ F1, MT F1 (tz T said set who false) → St F F1 → am_kk (am_ex (am_cl (d + 1)) (am_W kc_Model_tellsNot (am_cl (d + 1)) Q) Q [(.goto 0, 56)]) [.ref 82, .int (nI s), .int (nI 0), .int (nI (183 * s))] none [] (ov h F1 J V) := fun F1 h1 h2 => by
      simp only [ax0, ex_cons, am_get, upz_at, true_and, and_true, Nat.reduceAdd, Nat.reduceLeDiff, Nat.reduceEqDiff, Nat.reduceSub, Int32.reduceOfInt, Int32.reduceAdd, Int32.reduceMul, Int32.reduceSub, ↓reduceIte, Int32.reduceLT, Int32.reduceLE, Int32.reduceToNatClampNeg, Nat.reduceMod, Nat.reduceLT, List.length_cons, List.length_nil, eq_self, true_or, or_true, and_self, implies_true, not_true_eq_false, not_false_eq_true, false_implies, true_implies, forall_const, st_aload, st_getfield, st_goto, st_iadd, st_iaload, st_iconst, st_ifCond, st_iload, st_imul, st_in5, st_istore, st_return_, am_put, am_nlg, kb_Model_tellsNot_0, og_82_2, oo_82, jx_Model_tellsNot_56, kb_Model_tellsNot_56, oa_82, oa_84, or_84]
      exact K F1 h1 h2
    simp only [ax0, ex_cons, am_get, upz_at, true_and, and_true, Nat.reduceAdd, Nat.reduceLeDiff, Nat.reduceEqDiff, Nat.reduceSub, Int32.reduceOfInt, Int32.reduceAdd, Int32.reduceMul, Int32.reduceSub, ↓reduceIte, Int32.reduceLT, Int32.reduceLE, Int32.reduceToNatClampNeg, Nat.reduceMod, Nat.reduceLT, List.length_cons, List.length_nil, eq_self, true_or, or_true, and_self, implies_true, not_true_eq_false, not_false_eq_true, false_implies, true_implies, forall_const, st_aload, st_getfield, st_goto, st_iadd, st_iaload, st_iconst, st_ifCond, st_iload, st_imul, st_in5, st_istore, am_put, am_nlg, kb_Model_tellsNot_0, og_82_2, oo_82, oa_82, oa_84, or_84, cx_Model_tellsNot, show nI 0 = (0 : Int32) from rfl, show (183 : Int32) * nI (s) = nI (183 * (s)) from nk_mul (183) (s), i1, i2, i3, nk_neg (show 183 * s + 165 < 2147483648 by omega), nk_cl (show 183 * s + 165 < 2147483648 by omega), nk_neg (show 183 * s + 2 < 2147483648 by omega), nk_cl (show 183 * s + 2 < 2147483648 by omega), show 183 * s + 165 < 2698 by omega, show 183 * s + 2 < 2698 by omega, c1]
    rcases (show said = 0 ∨ said = 1 ∨ said = 2 by omega) with e | e | e <;> subst e
    · exact m_tells1 (T := T) (how := 0) (so := false) hT hw (by omega) (w := who) (set := set) (fun r hr => c5 r hr) (Or.inl ⟨rfl, rfl⟩) (fun F1 h1 h2 => fin F1 h1 h2)
    · exact m_tells0 (T := T) (how := 1) (so := false) hT (by omega) (w := who) (set := set) (fun r hr => c5 r hr) (Or.inr ⟨rfl, rfl⟩) (fun F1 h1 h2 => fin F1 h1 h2)
    · obtain ⟨c7, c8⟩ := c4 rfl
      rw [c7]
      exact m_tells2 (T := T) (so := false) hT (by omega) c8 (set := set) (fun r hr => c5 r hr) (fun F1 h1 h2 => fin F1 h1 h2)
  · have K : ∀ F', MT F' (tz T 1 sub 0 false) → St F F' → Q none (ov h F' J V) := K
    simp only [ax0, ex_cons, am_get, upz_at, true_and, and_true, Nat.reduceAdd, Nat.reduceLeDiff, Nat.reduceEqDiff, Nat.reduceSub, Int32.reduceOfInt, Int32.reduceAdd, Int32.reduceMul, Int32.reduceSub, ↓reduceIte, Int32.reduceLT, Int32.reduceLE, Int32.reduceToNatClampNeg, Nat.reduceMod, Nat.reduceLT, List.length_cons, List.length_nil, eq_self, true_or, or_true, and_self, implies_true, not_true_eq_false, not_false_eq_true, false_implies, true_implies, forall_const, st_aload, st_getfield, st_goto, st_goto_w, st_iadd, st_iaload, st_iconst, st_ifCond, st_iload, st_imul, st_in5, st_istore, am_put, am_nlg, kb_Model_tellsNot_0, og_82_2, oo_82, jx_Model_tellsNot_41, kb_Model_tellsNot_41, oa_82, oa_84, or_84, cx_Model_tellsNot, show nI 1 = (1 : Int32) from rfl, show (183 : Int32) * nI (s) = nI (183 * (s)) from nk_mul (183) (s), i2, i4]
    refine m_tells0 (T := T) (how := 1) (so := false) hT (by omega) (w := 0) (set := sub) (fun r hr => c6 r hr) (Or.inr ⟨rfl, rfl⟩) (fun F1 h1 h2 => ?_)
    simp only [ax0, ex_cons, am_get, upz_at, true_and, and_true, Nat.reduceAdd, Nat.reduceLeDiff, Nat.reduceEqDiff, Nat.reduceSub, Int32.reduceOfInt, Int32.reduceAdd, Int32.reduceMul, Int32.reduceSub, ↓reduceIte, Int32.reduceLT, Int32.reduceLE, Int32.reduceToNatClampNeg, Nat.reduceMod, Nat.reduceLT, List.length_cons, List.length_nil, eq_self, true_or, or_true, and_self, implies_true, not_true_eq_false, not_false_eq_true, false_implies, true_implies, forall_const, st_aload, st_goto_w, st_iadd, st_iconst, st_iload, st_in5, st_return_, jx_Model_tellsNot_41, kb_Model_tellsNot_41, oo_82, jx_Model_tellsNot_56, kb_Model_tellsNot_56, oa_82]
    exact K F1 h1 h2
end MPF
