/-! ===== covers ===== -/
def andn (a b : Nat) : Nat := a ^^^ (a &&& b)
theorem andn_bit (a b i : Nat) : (andn a b).testBit i = (a.testBit i && !b.testBit i) := by
  unfold andn
  rw [Nat.testBit_xor, Nat.testBit_and]
  cases a.testBit i <;> cases b.testBit i <;> rfl
theorem andn_le (a b : Nat) : andn a b ≤ a := by
  apply Nat.le_of_testBit
  intro i h
  rw [andn_bit, Bool.and_eq_true] at h
  exact h.1
theorem nk_tb {a i : Nat} (hi : i < 32) : (nI a).toBitVec.getLsbD i = a.testBit i := by
  rw [nk_bv, BitVec.getLsbD_ofNat]
  simp [hi]
theorem nk_andn (a b : Nat) : nI a &&& (nI b ^^^ -1) = nI (andn a b) := by
  apply Int32.toBitVec_inj.mp
  apply BitVec.eq_of_getLsbD_eq
  intro i hi
  rw [Int32.toBitVec_and, BitVec.getLsbD_and, i32_not hi, nk_tb hi, nk_tb hi, nk_tb hi, andn_bit]
def CVp (ms : List Nat) (p left : Nat) : Prop := ∃ l : List Nat, (∀ x ∈ l, x ∈ ms) ∧ l.length ≤ p ∧ ∀ k, left.testBit k = true → ∃ x ∈ l, x.testBit k = true
noncomputable def cvb (ms : List Nat) (p left : Nat) : Bool := @decide (CVp ms p left) (Classical.propDecidable _)
theorem cvb_t {ms : List Nat} {p left : Nat} : cvb ms p left = true ↔ CVp ms p left := by
  unfold cvb
  exact @decide_eq_true_iff _ (Classical.propDecidable _)
theorem cvb_f {ms : List Nat} {p left : Nat} : cvb ms p left = false ↔ ¬ CVp ms p left := by
  rw [← Bool.not_eq_true, cvb_t]
theorem cv_0 (ms : List Nat) (p : Nat) : CVp ms p 0 := ⟨[], fun x hx => (List.not_mem_nil hx).elim, Nat.zero_le _, fun k hk => by rw [Nat.zero_testBit] at hk; cases hk⟩
theorem ne_bit {n : Nat} (h : n ≠ 0) : ∃ k, n.testBit k = true := Nat.exists_testBit_of_ne_zero h
theorem cv_p0 {ms : List Nat} {left : Nat} (h : left ≠ 0) : ¬ CVp ms 0 left := by
  rintro ⟨l, h1, h2, h3⟩
  obtain ⟨k, hk⟩ := ne_bit h
  obtain ⟨x, hx, _⟩ := h3 k hk
  have : l = [] := List.length_eq_zero_iff.mp (by omega)
  rw [this] at hx
  exact List.not_mem_nil hx
theorem cv_need {ms : List Nat} {p left k : Nat} (hk : left.testBit k = true) : CVp ms (p + 1) left ↔ ∃ m ∈ ms, m.testBit k = true ∧ CVp ms p (andn left m) := by
  constructor
  · rintro ⟨l, h1, h2, h3⟩
    obtain ⟨x, hx, hxk⟩ := h3 k hk
    refine ⟨x, h1 x hx, hxk, l.erase x, fun y hy => h1 y (List.mem_of_mem_erase hy), ?_, fun j hj => ?_⟩
    · rw [List.length_erase_of_mem hx]; omega
    · rw [andn_bit, Bool.and_eq_true] at hj
      obtain ⟨y, hy, hyj⟩ := h3 j hj.1
      have hne : y ≠ x := by
        rintro rfl
        rw [hyj] at hj
        exact absurd hj.2 (by decide)
      exact ⟨y, (List.mem_erase_of_ne hne).mpr hy, hyj⟩
  · rintro ⟨m, hm, hmk, l, h1, h2, h3⟩
    refine ⟨m :: l, fun x hx => ?_, by rw [List.length_cons]; omega, fun j hj => ?_⟩
    · rcases List.mem_cons.mp hx with e | e
      · rw [e]; exact hm
      · exact h1 x e
    · cases e : m.testBit j with
      | true => exact ⟨m, List.mem_cons_self, e⟩
      | false =>
        obtain ⟨x, hx, hxj⟩ := h3 j (by rw [andn_bit, hj, e]; rfl)
        exact ⟨x, List.mem_cons_of_mem _ hx, hxj⟩
/-- listed regions and their masks, as the model has them -/
def RG (F : Nat → Nat → Int32) (lr : List Nat) (mk : Nat → Nat) : Prop := F 82 37 = nI lr.length ∧ lr.length ≤ 256 ∧ (∀ i, i < lr.length → F 102 i = nI (lr.getD i 0) ∧ lr.getD i 0 < 256) ∧ ∀ r, r < 256 → F 101 r = nI (mk r) ∧ mk r < 1073741824
def msF (lr : List Nat) (mk : Nat → Nat) (fr : Nat) : List Nat := (lr.drop fr).map mk
theorem ms_mem {lr : List Nat} {mk : Nat → Nat} {fr x : Nat} : x ∈ msF lr mk fr ↔ ∃ i, fr ≤ i ∧ i < lr.length ∧ x = mk (lr.getD i 0) := by
  unfold msF
  rw [List.mem_map]
  constructor
  · rintro ⟨a, ha, e⟩
    obtain ⟨j, hj, ej⟩ := List.getElem_of_mem ha
    rw [List.length_drop] at hj
    refine ⟨fr + j, by omega, by omega, ?_⟩
    rw [List.getElem_drop] at ej
    rw [List.getD_eq_getElem?_getD, List.getElem?_eq_getElem (by omega), ej]
    exact e.symm
  · rintro ⟨i, h1, h2, e⟩
    refine ⟨lr.getD i 0, ?_, e.symm⟩
    rw [List.getD_eq_getElem?_getD, List.getElem?_eq_getElem h2]
    have : (lr.drop fr)[i - fr]'(by rw [List.length_drop]; omega) = lr[i] := by
      rw [List.getElem_drop]
      congr 1
      omega
    show lr[i] ∈ lr.drop fr
    rw [← this]
    exact List.getElem_mem _
theorem bit30 {left : Nat} (h : left < 1073741824) {k : Nat} (hk : left.testBit k = true) : k < 30 := by
  refine Nat.lt_of_not_le fun q => ?_
  have : left < 2 ^ k := Nat.lt_of_lt_of_le h (Nat.pow_le_pow_right (by decide) q : 2 ^ 30 ≤ 2 ^ k)
  rw [Nat.testBit_lt_two_pow this] at hk
  cases hk
section MCV
variable {d : Nat} {h : am_H} {F : Nat → Nat → Int32} {J : Nat → Nat → Int64} {V : Nat → Nat → Value} {Q : am_Q}
set_option maxRecDepth 20000 in
theorem m_cmCount {lr : List Nat} {mk : Nat → Nat} (hG : RG F lr mk) {left p fr k : Nat} (hk : k < 30) (hfr : fr ≤ lr.length) {v4 v5 : Value} (K : ∀ c, c ≤ 256 → am_W kc_Model_canMeet (am_cl d) Q 85 [.ref 82, .int (nI left), .int (nI p), .int (nI fr), v4, v5, .int (nI k), .int (nI c), .int (nI lr.length)] [] (ov h F J V)) : ∀ j i c, i + j = lr.length → c ≤ i → am_W kc_Model_canMeet (am_cl d) Q 48 [.ref 82, .int (nI left), .int (nI p), .int (nI fr), v4, v5, .int (nI k), .int (nI c), .int (nI i)] [] (ov h F J V) := by
  obtain ⟨g1, g2, g3, g4⟩ := hG
  intro j
  induction j with
  | zero =>
    intro i c ei hc
    have ei : i = lr.length := ei
    subst ei
    rw [jx_Model_canMeet_48]
    simp only [ax0, ex_cons, am_get, upz_at, true_and, and_true, Nat.reduceAdd, Nat.reduceLeDiff, Nat.reduceEqDiff, Nat.reduceSub, Int32.reduceOfInt, Int32.reduceAdd, Int32.reduceMul, Int32.reduceSub, ↓reduceIte, Int32.reduceLT, Int32.reduceLE, Int32.reduceToNatClampNeg, Nat.reduceMod, Nat.reduceLT, List.length_cons, List.length_nil, eq_self, true_or, or_true, and_self, implies_true, not_true_eq_false, not_false_eq_true, false_implies, true_implies, forall_const, st_aloadx, st_getfieldx, st_gotox, st_iaddx, st_ialoadx, st_iandx, st_iconstx, st_if_icmpx, st_iincx, st_iloadx, st_ishrx, st_istorex, am_put, am_nlg, kb_Model_canMeet_48, og_82_37, og_82_33, og_82_34, oa_82, oa_101, or_101, oa_102, or_102, g1, (nk_le (by omega) (by omega) : (nI (lr.length) ≤ nI (lr.length)) = (lr.length ≤ lr.length)), Nat.le_refl]
    exact K c (by omega)
  | succ j ih =>
    intro i c ei hc
    obtain ⟨a1, a2⟩ := g3 i (by omega)
    obtain ⟨b1, b2⟩ := g4 _ a2
    rw [jx_Model_canMeet_48]
    simp only [ax0, ex_cons, am_get, upz_at, true_and, and_true, Nat.reduceAdd, Nat.reduceLeDiff, Nat.reduceEqDiff, Nat.reduceSub, Int32.reduceOfInt, Int32.reduceAdd, Int32.reduceMul, Int32.reduceSub, ↓reduceIte, Int32.reduceLT, Int32.reduceLE, Int32.reduceToNatClampNeg, Nat.reduceMod, Nat.reduceLT, List.length_cons, List.length_nil, eq_self, true_or, or_true, and_self, implies_true, not_true_eq_false, not_false_eq_true, false_implies, true_implies, forall_const, st_aloadx, st_getfieldx, st_gotox, st_iaddx, st_ialoadx, st_iandx, st_iconstx, st_if_icmpx, st_iincx, st_iloadx, st_ishrx, st_istorex, am_put, am_nlg, kb_Model_canMeet_48, og_82_37, og_82_33, og_82_34, oa_82, oa_101, or_101, oa_102, or_102, g1, (nk_le (by omega) (by omega) : (nI (lr.length) ≤ nI (i)) = (lr.length ≤ i)), show ¬ lr.length ≤ i by omega, nk_neg (show i < 2147483648 by omega), nk_cl (show i < 2147483648 by omega), nk_neg (show lr.getD i 0 < 2147483648 by omega), nk_cl (show lr.getD i 0 < 2147483648 by omega), show i < 256 by omega, a1, a2, b1, nk_bit (show mk (lr.getD i 0) < 2147483648 by omega) (show k < 32 by omega), nk_addb, nk_succ]
    refine ih (i + 1) _ (by omega) ?_
    split <;> omega
set_option maxRecDepth 20000 in
theorem m_canMeet {lr : List Nat} {mk : Nat → Nat} (hG : RG F lr mk) : ∀ (p : Nat) {d : Nat} {Q : am_Q} {left fr : Nat}, p < 100 → left < 1073741824 → fr ≤ lr.length → Q (some (.int (b2i (cvb (msF lr mk fr) p left)))) (ov h F J V) → am_cl (d + p + 1) 259 [.ref 82, .int (nI left), .int (nI p), .int (nI fr)] (ov h F J V) Q := by
  have hG0 := hG
  obtain ⟨g1, g2, g3, g4⟩ := hG
  intro p
  induction p with
  | zero =>
    intro d Q left fr hp hl hfr K
    simp only [ax0, ex_cons, am_get, upz_at, true_and, and_true, Nat.reduceAdd, Nat.reduceLeDiff, Nat.reduceEqDiff, Nat.reduceSub, Int32.reduceOfInt, Int32.reduceAdd, Int32.reduceMul, Int32.reduceSub, ↓reduceIte, Int32.reduceLT, Int32.reduceLE, Int32.reduceToNatClampNeg, Nat.reduceMod, Nat.reduceLT, List.length_cons, List.length_nil, eq_self, true_or, or_true, and_self, implies_true, not_true_eq_false, not_false_eq_true, false_implies, true_implies, forall_const, st_freturnx, st_iconstx, st_ifCondx, st_iloadx, kb_Model_canMeet_0, cx_Model_canMeet, show (nI left = (0 : Int32)) = (left = 0) from nk_eq (b := 0) (by omega) (by decide)]
    refine And.intro (fun q => ?_) (fun q => ?_)
    · simp only [ax0, ex_cons, am_get, upz_at, true_and, and_true, Nat.reduceAdd, Nat.reduceLeDiff, Nat.reduceEqDiff, Nat.reduceSub, Int32.reduceOfInt, Int32.reduceAdd, Int32.reduceMul, Int32.reduceSub, ↓reduceIte, Int32.reduceLT, Int32.reduceLE, Int32.reduceToNatClampNeg, Nat.reduceMod, Nat.reduceLT, List.length_cons, List.length_nil, eq_self, true_or, or_true, and_self, implies_true, not_true_eq_false, not_false_eq_true, false_implies, true_implies, forall_const, st_freturnx, st_iconstx, st_ifCondx, st_iloadx, jx_Model_canMeet_6, kb_Model_canMeet_6, show nI 0 = (0 : Int32) from rfl]
      rw [cvb_f.mpr (cv_p0 q)] at K
      exact K
    · have q := Classical.not_not.mp q
      subst q
      rw [cvb_t.mpr (cv_0 _ _)] at K
      exact K
  | succ p ih =>
    intro d Q left fr hp hl hfr K
    simp only [ax0, ex_cons, am_get, upz_at, true_and, and_true, Nat.reduceAdd, Nat.reduceLeDiff, Nat.reduceEqDiff, Nat.reduceSub, Int32.reduceOfInt, Int32.reduceAdd, Int32.reduceMul, Int32.reduceSub, ↓reduceIte, Int32.reduceLT, Int32.reduceLE, Int32.reduceToNatClampNeg, Nat.reduceMod, Nat.reduceLT, List.length_cons, List.length_nil, eq_self, true_or, or_true, and_self, implies_true, not_true_eq_false, not_false_eq_true, false_implies, true_implies, forall_const, st_freturnx, st_iconstx, st_ifCondx, st_iloadx, kb_Model_canMeet_0, cx_Model_canMeet, show (nI left = (0 : Int32)) = (left = 0) from nk_eq (b := 0) (by omega) (by decide)]
    refine And.intro (fun q => ?_) (fun q => ?_)
    · simp only [ax0, ex_cons, am_get, upz_at, true_and, and_true, Nat.reduceAdd, Nat.reduceLeDiff, Nat.reduceEqDiff, Nat.reduceSub, Int32.reduceOfInt, Int32.reduceAdd, Int32.reduceMul, Int32.reduceSub, ↓reduceIte, Int32.reduceLT, Int32.reduceLE, Int32.reduceToNatClampNeg, Nat.reduceMod, Nat.reduceLT, List.length_cons, List.length_nil, eq_self, true_or, or_true, and_self, implies_true, not_true_eq_false, not_false_eq_true, false_implies, true_implies, forall_const, st_freturnx, st_goto_wx, st_iconstx, st_ifCondx, st_iloadx, st_istorex, am_put, am_nlg, jx_Model_canMeet_6, kb_Model_canMeet_6, jx_Model_canMeet_12, kb_Model_canMeet_12, show (nI (p + 1) = (0 : Int32)) = (p + 1 = 0) from nk_eq (b := 0) (by omega) (by decide), show ¬ p + 1 = 0 by omega]
      -- the search, with a want found
      have search : ∀ kk v4 v7 v8, left.testBit kk = true → am_W kc_Model_canMeet (am_cl (d + p + 1)) Q 109 [.ref 82, .int (nI left), .int (nI (p + 1)), .int (nI fr), v4, .int (nI kk), .int (nI 30), v7, v8] [] (ov h F J V) := by
        intro kk v4 v7 v8 hkk
        have hk30 := bit30 hl hkk
        simp only [ax0, ex_cons, am_get, upz_at, true_and, and_true, Nat.reduceAdd, Nat.reduceLeDiff, Nat.reduceEqDiff, Nat.reduceSub, Int32.reduceOfInt, Int32.reduceAdd, Int32.reduceMul, Int32.reduceSub, ↓reduceIte, Int32.reduceLT, Int32.reduceLE, Int32.reduceToNatClampNeg, Nat.reduceMod, Nat.reduceLT, List.length_cons, List.length_nil, eq_self, true_or, or_true, and_self, implies_true, not_true_eq_false, not_false_eq_true, false_implies, true_implies, forall_const, st_goto_wx, st_iloadx, st_istorex, am_put, am_nlg, jx_Model_canMeet_109, kb_Model_canMeet_109]
        have loop : ∀ j i v6, i + j = lr.length → fr ≤ i → (∀ i', fr ≤ i' → i' < i → ¬ ((mk (lr.getD i' 0)).testBit kk = true ∧ CVp (msF lr mk fr) p (andn left (mk (lr.getD i' 0))))) → v6 = .int (nI i) → am_W kc_Model_canMeet (am_cl (d + p + 1)) Q 112 [.ref 82, .int (nI left), .int (nI (p + 1)), .int (nI fr), v4, .int (nI kk), v6, v7, v8] [] (ov h F J V) := by
          intro j
          induction j with
          | zero =>
            intro i v6 ei hi hno e6
            subst e6
            have ei : i = lr.length := ei
            subst ei
            rw [jx_Model_canMeet_112]
            simp only [ax0, ex_cons, am_get, upz_at, true_and, and_true, Nat.reduceAdd, Nat.reduceLeDiff, Nat.reduceEqDiff, Nat.reduceSub, Int32.reduceOfInt, Int32.reduceAdd, Int32.reduceMul, Int32.reduceSub, ↓reduceIte, Int32.reduceLT, Int32.reduceLE, Int32.reduceToNatClampNeg, Nat.reduceMod, Nat.reduceLT, List.length_cons, List.length_nil, eq_self, true_or, or_true, and_self, implies_true, not_true_eq_false, not_false_eq_true, false_implies, true_implies, forall_const, st_aloadx, st_freturnx, st_getfieldx, st_ialoadx, st_iandx, st_iconstx, st_ifCondx, st_if_icmpx, st_iloadx, st_in4, st_ishrx, st_isubx, st_ixorx, kb_Model_canMeet_112, og_82_37, og_82_33, og_82_34, oo_82, jx_Model_canMeet_177, kb_Model_canMeet_177, oa_82, oa_101, or_101, oa_102, or_102, g1, (nk_le (by omega) (by omega) : (nI (lr.length) ≤ nI (lr.length)) = (lr.length ≤ lr.length)), Nat.le_refl]
            have : ¬ CVp (msF lr mk fr) (p + 1) left := by
              rw [cv_need hkk]
              rintro ⟨m, hm, hmk, hc⟩
              obtain ⟨i', h1, h2, e⟩ := ms_mem.mp hm
              subst e
              exact hno i' h1 h2 ⟨hmk, hc⟩
            rw [cvb_f.mpr this] at K
            exact K
          | succ j ih2 =>
            intro i v6 ei hi hno e6
            subst e6
            obtain ⟨a1, a2⟩ := g3 i (by omega)
            obtain ⟨b1, b2⟩ := g4 _ a2
            rw [jx_Model_canMeet_112]
            simp only [ax0, ex_cons, am_get, upz_at, true_and, and_true, Nat.reduceAdd, Nat.reduceLeDiff, Nat.reduceEqDiff, Nat.reduceSub, Int32.reduceOfInt, Int32.reduceAdd, Int32.reduceMul, Int32.reduceSub, ↓reduceIte, Int32.reduceLT, Int32.reduceLE, Int32.reduceToNatClampNeg, Nat.reduceMod, Nat.reduceLT, List.length_cons, List.length_nil, eq_self, true_or, or_true, and_self, implies_true, not_true_eq_false, not_false_eq_true, false_implies, true_implies, forall_const, st_aloadx, st_freturnx, st_getfieldx, st_gotox, st_ialoadx, st_iandx, st_iconstx, st_ifCondx, st_if_icmpx, st_iincx, st_iloadx, st_in4, st_ishrx, st_isubx, st_ixorx, am_put, am_nlg, kb_Model_canMeet_112, og_82_37, og_82_33, og_82_34, oo_82, jx_Model_canMeet_171, kb_Model_canMeet_171, oa_82, oa_101, or_101, oa_102, or_102, g1, (nk_le (by omega) (by omega) : (nI (lr.length) ≤ nI (i)) = (lr.length ≤ i)), show ¬ lr.length ≤ i by omega, nk_neg (show i < 2147483648 by omega), nk_cl (show i < 2147483648 by omega), nk_neg (show lr.getD i 0 < 2147483648 by omega), nk_cl (show lr.getD i 0 < 2147483648 by omega), show i < 256 by omega, a1, a2, b1, nk_bit (show mk (lr.getD i 0) < 2147483648 by omega) (show kk < 32 by omega), nk_andn, nk_sub1, nk_succ]
            have hmem : mk (lr.getD i 0) ∈ msF lr mk fr := ms_mem.mpr ⟨i, hi, by omega, rfl⟩
            refine ifnb1 (fun e => ?_) (fun e => ?_)
            · refine ih2 (i + 1) _ (by omega) (by omega) (fun i' h1 h2 z => ?_) rfl
              by_cases q2 : i' = i
              · subst q2; rw [e] at z; exact absurd z.1 Bool.false_ne_true
              · exact hno i' h1 (by omega) z
            · have hle := andn_le left (mk (lr.getD i 0))
              refine ih (d := d) (by omega) (by omega) hfr ?_
              simp only [ax0, ex_cons, am_get, upz_at, true_and, and_true, Nat.reduceAdd, Nat.reduceLeDiff, Nat.reduceEqDiff, Nat.reduceSub, Int32.reduceOfInt, Int32.reduceAdd, Int32.reduceMul, Int32.reduceSub, ↓reduceIte, Int32.reduceLT, Int32.reduceLE, Int32.reduceToNatClampNeg, Nat.reduceMod, Nat.reduceLT, List.length_cons, List.length_nil, eq_self, true_or, or_true, and_self, implies_true, not_true_eq_false, not_false_eq_true, false_implies, true_implies, forall_const, st_aloadx, st_freturnx, st_getfieldx, st_gotox, st_ialoadx, st_iandx, st_iconstx, st_ifCondx, st_if_icmpx, st_iincx, st_iloadx, st_in4, st_ishrx, st_isubx, st_ixorx, am_put, am_nlg, kb_Model_canMeet_112, og_82_37, og_82_33, og_82_34, oo_82, jx_Model_canMeet_171, kb_Model_canMeet_171, oa_82, oa_101, or_101, oa_102, or_102, nk_succ]
              refine ifb (fun e2 => ?_) (fun e2 => ?_)
              · refine ih2 (i + 1) _ (by omega) (by omega) (fun i' h1 h2 z => ?_) rfl
                by_cases q2 : i' = i
                · subst q2; exact cvb_f.mp e2 z.2
                · exact hno i' h1 (by omega) z
              · have : CVp (msF lr mk fr) (p + 1) left := (cv_need hkk).mpr ⟨_, hmem, e, cvb_t.mp e2⟩
                rw [cvb_t.mpr this] at K
                exact K
        exact loop (lr.length - fr) fr _ (by omega) (Nat.le_refl _) (fun i' h1 h2 => by omega) rfl
      have find : ∀ j k v7 v8 (f4 nd : Int32), k + j = 30 → ((nd = -1 ∧ f4 = 257 ∧ ∀ i, i < k → left.testBit i = false) ∨ ∃ kk, nd = nI kk ∧ left.testBit kk = true) → am_W kc_Model_canMeet (am_cl (d + p + 1)) Q 23 [.ref 82, .int (nI left), .int (nI (p + 1)), .int (nI fr), .int f4, .int nd, .int (nI k), v7, v8] [] (ov h F J V) := by
        intro j
        induction j with
        | zero =>
          intro k v7 v8 f4 nd ek hnd
          have ek : k = 30 := ek
          subst ek
          rw [jx_Model_canMeet_23]
          simp only [ax0, ex_cons, am_get, upz_at, true_and, and_true, Nat.reduceAdd, Nat.reduceLeDiff, Nat.reduceEqDiff, Nat.reduceSub, Int32.reduceOfInt, Int32.reduceAdd, Int32.reduceMul, Int32.reduceSub, ↓reduceIte, Int32.reduceLT, Int32.reduceLE, Int32.reduceToNatClampNeg, Nat.reduceMod, Nat.reduceLT, List.length_cons, List.length_nil, eq_self, true_or, or_true, and_self, implies_true, not_true_eq_false, not_false_eq_true, false_implies, true_implies, forall_const, st_gotox, st_iandx, st_iconstx, st_ifCondx, st_if_icmpx, st_iloadx, st_ishrx, kb_Model_canMeet_23, show ((30 : Int32) ≤ nI (30)) = (30 ≤ 30) from nk_le (a := 30) (b := 30) (by omega) (by omega)]
          rcases hnd with ⟨_, _, z⟩ | ⟨kk, e1, e2⟩
          · exfalso
            obtain ⟨k, hk⟩ := ne_bit q
            rw [z k (bit30 hl hk)] at hk
            cases hk
          · subst e1
            exact search kk _ v7 v8 e2
        | succ j ih2 =>
          intro k v7 v8 f4 nd ek hnd
          rw [jx_Model_canMeet_23]
          simp only [ax0, ex_cons, am_get, upz_at, true_and, and_true, Nat.reduceAdd, Nat.reduceLeDiff, Nat.reduceEqDiff, Nat.reduceSub, Int32.reduceOfInt, Int32.reduceAdd, Int32.reduceMul, Int32.reduceSub, ↓reduceIte, Int32.reduceLT, Int32.reduceLE, Int32.reduceToNatClampNeg, Nat.reduceMod, Nat.reduceLT, List.length_cons, List.length_nil, eq_self, true_or, or_true, and_self, implies_true, not_true_eq_false, not_false_eq_true, false_implies, true_implies, forall_const, st_gotox, st_iandx, st_iconstx, st_ifCondx, st_if_icmpx, st_iincx, st_iloadx, st_ishrx, am_put, am_nlg, kb_Model_canMeet_23, jx_Model_canMeet_103, kb_Model_canMeet_103, show ((30 : Int32) ≤ nI (k)) = (30 ≤ k) from nk_le (a := 30) (b := k) (by omega) (by omega), show ¬ 30 ≤ k by omega, nk_bit (show left < 2147483648 by omega) (show k < 32 by omega), nk_succ]
          refine ifnb (fun e => ?_) (fun e => ?_)
          · simp only [ax0, ex_cons, am_get, upz_at, true_and, and_true, Nat.reduceAdd, Nat.reduceLeDiff, Nat.reduceEqDiff, Nat.reduceSub, Int32.reduceOfInt, Int32.reduceAdd, Int32.reduceMul, Int32.reduceSub, ↓reduceIte, Int32.reduceLT, Int32.reduceLE, Int32.reduceToNatClampNeg, Nat.reduceMod, Nat.reduceLT, List.length_cons, List.length_nil, eq_self, true_or, or_true, and_self, implies_true, not_true_eq_false, not_false_eq_true, false_implies, true_implies, forall_const, st_goto_wx, st_iconstx, st_iloadx, st_istorex, am_put, am_nlg, jx_Model_canMeet_42, kb_Model_canMeet_42]
            refine m_cmCount hG0 (by omega) hfr (fun c hc => ?_) (lr.length - fr) fr 0 (by omega) (by omega)
            simp only [ax0, ex_cons, am_get, upz_at, true_and, and_true, Nat.reduceAdd, Nat.reduceLeDiff, Nat.reduceEqDiff, Nat.reduceSub, Int32.reduceOfInt, Int32.reduceAdd, Int32.reduceMul, Int32.reduceSub, ↓reduceIte, Int32.reduceLT, Int32.reduceLE, Int32.reduceToNatClampNeg, Nat.reduceMod, Nat.reduceLT, List.length_cons, List.length_nil, eq_self, true_or, or_true, and_self, implies_true, not_true_eq_false, not_false_eq_true, false_implies, true_implies, forall_const, st_gotox, st_goto_wx, st_if_icmpx, st_iincx, st_iloadx, st_istorex, am_put, am_nlg, jx_Model_canMeet_85, kb_Model_canMeet_85, jx_Model_canMeet_95, kb_Model_canMeet_95, jx_Model_canMeet_103, kb_Model_canMeet_103, nk_succ]
            refine And.intro (fun q2 => ?_) (fun q2 => ?_)
            · exact ih2 (k + 1) _ _ _ _ (by omega) (Or.inr ⟨k, rfl, e⟩)
            · refine ih2 (k + 1) _ _ _ _ (by omega) ?_
              rcases hnd with ⟨_, z, _⟩ | z
              · exfalso
                subst z
                apply q2
                show nI c < nI 257
                rw [nk_lt (by omega) (by decide)]
                omega
              · exact Or.inr z
          · refine ih2 (k + 1) _ _ _ _ (by omega) ?_
            rcases hnd with ⟨z1, z2, z3⟩ | z
            · refine Or.inl ⟨z1, z2, fun i hi => ?_⟩
              by_cases q2 : i = k
              · subst q2; exact e
              · exact z3 i (by omega)
            · exact Or.inr z
      exact find 30 0 _ _ 257 (-1) rfl (Or.inl ⟨rfl, rfl, fun i hi => absurd hi (Nat.not_lt_zero i)⟩)
    · have q := Classical.not_not.mp q
      subst q
      rw [cvb_t.mpr (cv_0 _ _)] at K
      exact K
end MCV
