/-! ===== the model: what stays, the desk, the first questions ===== -/
def Pm (F F' : Nat → Nat → Int32) : Prop := (∀ a, a < 82 → F' a = F a) ∧ (∀ a, a = 83 ∨ a = 85 ∨ a = 86 ∨ a = 87 ∨ a = 88 ∨ a = 107 → F' a = F a) ∧ (∀ i, ¬ (2379 ≤ i ∧ i < 2562) → F' 84 i = F 84 i) ∧ ∀ i, i = 0 ∨ i = 8 ∨ i = 9 ∨ i = 43 ∨ i = 44 ∨ i = 45 → F' 82 i = F 82 i
theorem Pm.rf {F : Nat → Nat → Int32} : Pm F F := ⟨fun _ _ => rfl, fun _ _ => rfl, fun _ _ => rfl, fun _ _ => rfl⟩
theorem Pm.tr {F F1 F2 : Nat → Nat → Int32} (a : Pm F F1) (b : Pm F1 F2) : Pm F F2 := ⟨fun i hi => (b.1 i hi).trans (a.1 i hi), fun i hi => (b.2.1 i hi).trans (a.2.1 i hi), fun i hi => (b.2.2.1 i hi).trans (a.2.2.1 i hi), fun i hi => (b.2.2.2 i hi).trans (a.2.2.2 i hi)⟩
theorem St.pm {F F1 : Nat → Nat → Int32} (a : St F F1) : Pm F F1 := ⟨fun i hi => a.1 i (by omega) (by omega) (by omega) (by omega) (by omega), fun i hi => a.1 i (by omega) (by omega) (by omega) (by omega) (by omega), fun i hi => by rw [a.k], fun i hi => a.2 i (by omega)⟩
theorem S13.pm {F F1 : Nat → Nat → Int32} (a : S13 F F1) : Pm F F1 := ⟨fun i hi => a.1 i (by omega) (by omega), fun i hi => a.1 i (by omega) (by omega), fun i hi => a.2 i hi, fun i hi => by rw [a.1 82 (by decide) (by decide)]⟩
theorem Pm.s100 {F F1 : Nat → Nat → Int32} (a : Pm F F1) (f : Nat → Int32) : Pm F (upz F1 100 f) := ⟨fun i hi => by rw [upz_ne _ _ (by omega)]; exact a.1 i hi, fun i hi => by rw [upz_ne _ _ (by omega)]; exact a.2.1 i hi, fun i hi => by rw [upz_ne _ _ (by decide)]; exact a.2.2.1 i hi, fun i hi => by rw [upz_ne _ _ (by decide)]; exact a.2.2.2 i hi⟩
theorem CR.cg {k k' : Nat → Int32} {s : Nat} {C : cT} (h : CR k s C) (e : ∀ i, 183 * s ≤ i → i < 183 * s + 183 → k' i = k i) : CR k' s C := by
  obtain ⟨h1, h2, h3, h4, h5, h6⟩ := h
  refine ⟨by rw [e _ (by omega) (by omega)]; exact h1, h2, by rw [e _ (by omega) (by omega)]; exact h3, fun q => by rw [e _ (by omega) (by omega)]; exact h4 q, fun r hr => ?_, fun r hr => ?_⟩
  · exact bI_at hr (fun j hj => e _ (by omega) (by omega)) (h5 r hr)
  · exact bI_at hr (fun j hj => e _ (by omega) (by omega)) (h6 r hr)
/-- the desk: how many slips, rows (12: the question), whether there is a question, whether existence is told -/
abbrev dT : Type := Nat × (Nat → rT) × Bool × Bool
def mR (k : Nat → Int32) (s : Nat) (R : rT) : Prop := wfR R ∧ RR k s R ∧ CR k s (clR R)
theorem mR.cg {k k' : Nat → Int32} {s : Nat} {R : rT} (h : mR k s R) (e : ∀ i, 183 * s ≤ i → i < 183 * s + 183 → k' i = k i) : mR k' s R := ⟨h.1, h.2.1.cg h.1 (fun i h1 h2 => e i h1 (by omega)), h.2.2.cg e⟩
def MK (k : Nat → Int32) (D : dT) : Prop := k 2694 = nI D.1 ∧ D.1 ≤ 12 ∧ k 2695 = b2i D.2.2.1 ∧ k 2697 = b2i D.2.2.2 ∧ (∀ i, i < D.1 → mR k i (D.2.1 i)) ∧ (D.2.2.1 = true → mR k 12 (D.2.1 12))
theorem MK.cg {k k' : Nat → Int32} {D : dT} (h : MK k D) (e : ∀ i, ¬ (2379 ≤ i ∧ i < 2562) → k' i = k i) : MK k' D := by
  obtain ⟨h1, h2, h3, h4, h5, h6⟩ := h
  exact ⟨by rw [e _ (by omega)]; exact h1, h2, by rw [e _ (by omega)]; exact h3, by rw [e _ (by omega)]; exact h4, fun i hi => (h5 i hi).cg (fun j _ _ => e j (by omega)), fun q => (h6 q).cg (fun j _ _ => e j (by omega))⟩
theorem MK.pm {F F' : Nat → Nat → Int32} {D : dT} (h : MK (F 84) D) (p : Pm F F') : MK (F' 84) D := h.cg p.2.2.1
def csD (D : dT) (i : Nat) : cT := clR (D.2.1 i)
def hzD (D : dT) (hp : Nat) : tT := hz (csD D) D.2.2.2 hp 12
theorem hzD_len (D : dT) (hp : Nat) : (hzD D hp).2.1.length ≤ 24 := hz_len _ _ _ _
def lieB (v lo hi : Int32) : Bool := !decide (v < lo) && !decide (hi < v)
theorem lieB_nI {a : Int32} {m : Nat} (hm : m < 2147483648) (h : lieB a 0 (nI m) = true) : ∃ k, a = nI k ∧ k ≤ m ∧ a.toNatClampNeg = k := by
  unfold lieB at h
  simp only [Bool.and_eq_true, Bool.not_eq_true', decide_eq_false_iff_not] at h
  obtain ⟨e1, e2⟩ := nk_of h.1
  refine ⟨a.toNatClampNeg, e1, ?_, rfl⟩
  have h2 := h.2
  rw [e1, nk_lt hm e2] at h2
  omega
/-- a heap of n slips -/
def hpB (n : Nat) (a : Int32) : Bool := lieB a 0 (nI (2 ^ n - 1))
theorem hpB_nI {n : Nat} (hn : n ≤ 12) {a : Int32} (h : hpB n a = true) : ∃ k, a = nI k ∧ k < 2 ^ n ∧ a.toNatClampNeg = k := by
  have h12 : 2 ^ n ≤ 2 ^ 12 := Nat.pow_le_pow_right (by decide) hn
  have h0 : 0 < 2 ^ n := Nat.pow_pos (by decide)
  obtain ⟨k, h1, h2, h3⟩ := lieB_nI (by omega) h
  exact ⟨k, h1, by omega, h3⟩
theorem hp_bit {n hp k : Nat} (h : hp < 2 ^ n) (hk : hp.testBit k = true) : k < n := by
  refine Nat.lt_of_not_le fun q => ?_
  rw [Nat.testBit_lt_two_pow (Nat.lt_of_lt_of_le h (Nat.pow_le_pow_right (by decide) q))] at hk
  cases hk
theorem hp_4096 {n hp : Nat} (hn : n ≤ 12) (h : hp < 2 ^ n) : hp < 4096 := Nat.lt_of_lt_of_le h (Nat.pow_le_pow_right (by decide) hn : 2 ^ n ≤ 2 ^ 12)
section MPB
variable {d : Nat} {h : am_H} {F : Nat → Nat → Int32} {J : Nat → Nat → Int64} {V : Nat → Nat → Value} {Q : am_Q}
set_option maxRecDepth 20000 in
theorem m_lies {h : am_H} {v lo hi : Int32} (K : Q (some (.int (b2i (lieB v lo hi)))) h) : am_cl (d + 1) 175 [.int v, .int lo, .int hi] h Q := by
  simp only [ax0, ex_cons, am_get, upz_at, true_and, and_true, Nat.reduceAdd, Nat.reduceLeDiff, Nat.reduceEqDiff, Nat.reduceSub, Int32.reduceOfInt, Int32.reduceAdd, Int32.reduceMul, Int32.reduceSub, ↓reduceIte, Int32.reduceLT, Int32.reduceLE, Int32.reduceToNatClampNeg, Nat.reduceMod, Nat.reduceLT, List.length_cons, List.length_nil, eq_self, true_or, or_true, and_self, implies_true, not_true_eq_false, not_false_eq_true, false_implies, true_implies, forall_const, st_freturn, st_goto, st_goto_w, st_iconst, st_if_icmp, st_iload, cx_Model_lies, kb_Model_lies_0, jx_Model_lies_14, kb_Model_lies_14, jx_Model_lies_15, kb_Model_lies_15]
  refine ⟨fun hc => ?_, fun hc => ⟨fun h2 => ?_, fun h2 => ?_⟩⟩
  · have e : lieB v lo hi = false := by simp [lieB, hc]
    rw [e] at K; exact K
  · have e : lieB v lo hi = false := by simp [lieB, h2]
    rw [e] at K; exact K
  · have e : lieB v lo hi = true := by simp [lieB, hc, h2]
    rw [e] at K; exact K
set_option maxRecDepth 20000 in
theorem m_isHeap {n : Nat} (hn : F 84 2694 = nI n) (hn2 : n ≤ 12) {a : Int32} (K : Q (some (.int (b2i (hpB n a)))) (ov h F J V)) : am_cl (d + 2) 185 [.ref 82, .int a] (ov h F J V) Q := by
  simp only [ax0, ex_cons, am_get, upz_at, true_and, and_true, Nat.reduceAdd, Nat.reduceLeDiff, Nat.reduceEqDiff, Nat.reduceSub, Int32.reduceOfInt, Int32.reduceAdd, Int32.reduceMul, Int32.reduceSub, ↓reduceIte, Int32.reduceLT, Int32.reduceLE, Int32.reduceToNatClampNeg, Nat.reduceMod, Nat.reduceLT, List.length_cons, List.length_nil, eq_self, true_or, or_true, and_self, implies_true, not_true_eq_false, not_false_eq_true, false_implies, true_implies, forall_const, st_aload, st_freturn, st_getfield, st_iaload, st_iconst, st_iload, st_in1, st_st3, st_ireturn, st_ishl, st_isub, cx_Model_isHeap, kb_Model_isHeap_0, oo_82, cx_Model_slips, kb_Model_slips_0, og_82_2, oa_82, oa_84, or_84, hn, nk_1shl (show n < 32 by omega), show nI (2 ^ n) - (1 : Int32) = nI (2 ^ n - 1) from nk_sub (b := 1) (Nat.pow_pos (by decide))]
  refine m_lies ?_
  simp only [ax0, ex_cons, am_get, upz_at, true_and, and_true, Nat.reduceAdd, Nat.reduceLeDiff, Nat.reduceEqDiff, Nat.reduceSub, Int32.reduceOfInt, Int32.reduceAdd, Int32.reduceMul, Int32.reduceSub, ↓reduceIte, Int32.reduceLT, Int32.reduceLE, Int32.reduceToNatClampNeg, Nat.reduceMod, Nat.reduceLT, List.length_cons, List.length_nil, eq_self, true_or, or_true, and_self, implies_true, not_true_eq_false, not_false_eq_true, false_implies, true_implies, forall_const, st_aload, st_freturn, st_iconst, st_iload, st_in1, st_st3, st_ishl, st_isub, kb_Model_isHeap_0, oo_82, oa_82, b2i_01]
  exact K
set_option maxRecDepth 20000 in
theorem m_isSlip {n : Nat} (hn : F 84 2694 = nI n) {a : Int32} (K : Q (some (.int (b2i (lieB a 0 (nI n - 1))))) (ov h F J V)) : am_cl (d + 2) 182 [.ref 82, .int a] (ov h F J V) Q := by
  simp only [ax0, ex_cons, am_get, upz_at, true_and, and_true, Nat.reduceAdd, Nat.reduceLeDiff, Nat.reduceEqDiff, Nat.reduceSub, Int32.reduceOfInt, Int32.reduceAdd, Int32.reduceMul, Int32.reduceSub, ↓reduceIte, Int32.reduceLT, Int32.reduceLE, Int32.reduceToNatClampNeg, Nat.reduceMod, Nat.reduceLT, List.length_cons, List.length_nil, eq_self, true_or, or_true, and_self, implies_true, not_true_eq_false, not_false_eq_true, false_implies, true_implies, forall_const, st_aload, st_freturn, st_getfield, st_iaload, st_iconst, st_iload, st_in1, st_st3, st_ireturn, st_isub, cx_Model_isSlip, kb_Model_isSlip_0, oo_82, cx_Model_slips, kb_Model_slips_0, og_82_2, oa_82, oa_84, or_84, hn]
  refine m_lies ?_
  simp only [ax0, ex_cons, am_get, upz_at, true_and, and_true, Nat.reduceAdd, Nat.reduceLeDiff, Nat.reduceEqDiff, Nat.reduceSub, Int32.reduceOfInt, Int32.reduceAdd, Int32.reduceMul, Int32.reduceSub, ↓reduceIte, Int32.reduceLT, Int32.reduceLE, Int32.reduceToNatClampNeg, Nat.reduceMod, Nat.reduceLT, List.length_cons, List.length_nil, eq_self, true_or, or_true, and_self, implies_true, not_true_eq_false, not_false_eq_true, false_implies, true_implies, forall_const, st_aload, st_freturn, st_iconst, st_iload, st_in1, st_st3, st_isub, kb_Model_isSlip_0, oo_82, oa_82, b2i_01]
  exact K
set_option maxRecDepth 20000 in
theorem m_isKind {h : am_H} {a : Int32} (K : Q (some (.int (b2i (lieB a 0 7)))) h) : am_cl (d + 2) 249 [.int a] h Q := by
  simp only [ax0, ex_cons, am_get, upz_at, true_and, and_true, Nat.reduceAdd, Nat.reduceLeDiff, Nat.reduceEqDiff, Nat.reduceSub, Int32.reduceOfInt, Int32.reduceAdd, Int32.reduceMul, Int32.reduceSub, ↓reduceIte, Int32.reduceLT, Int32.reduceLE, Int32.reduceToNatClampNeg, Nat.reduceMod, Nat.reduceLT, List.length_cons, List.length_nil, eq_self, true_or, or_true, and_self, implies_true, not_true_eq_false, not_false_eq_true, false_implies, true_implies, forall_const, st_freturn, st_iconst, st_iload, st_st3, cx_Model_isKind, kb_Model_isKind_0]
  refine m_lies ?_
  simp only [ax0, ex_cons, am_get, upz_at, true_and, and_true, Nat.reduceAdd, Nat.reduceLeDiff, Nat.reduceEqDiff, Nat.reduceSub, Int32.reduceOfInt, Int32.reduceAdd, Int32.reduceMul, Int32.reduceSub, ↓reduceIte, Int32.reduceLT, Int32.reduceLE, Int32.reduceToNatClampNeg, Nat.reduceMod, Nat.reduceLT, List.length_cons, List.length_nil, eq_self, true_or, or_true, and_self, implies_true, not_true_eq_false, not_false_eq_true, false_implies, true_implies, forall_const, st_freturn, st_iconst, st_iload, st_st3, kb_Model_isKind_0, b2i_01]
  exact K
set_option maxRecDepth 20000 in
theorem m_isAsked {b : Bool} (hb : F 84 2695 = b2i b) (K : Q (some (.int (b2i b))) (ov h F J V)) : am_cl (d + 1) 183 [.ref 82] (ov h F J V) Q := by
  simp only [ax0, ex_cons, am_get, upz_at, true_and, and_true, Nat.reduceAdd, Nat.reduceLeDiff, Nat.reduceEqDiff, Nat.reduceSub, Int32.reduceOfInt, Int32.reduceAdd, Int32.reduceMul, Int32.reduceSub, ↓reduceIte, Int32.reduceLT, Int32.reduceLE, Int32.reduceToNatClampNeg, Nat.reduceMod, Nat.reduceLT, List.length_cons, List.length_nil, eq_self, true_or, or_true, and_self, implies_true, not_true_eq_false, not_false_eq_true, false_implies, true_implies, forall_const, st_aload, st_freturn, st_getfield, st_goto, st_goto_w, st_iaload, st_iconst, st_if_icmp, cx_Model_isAsked, kb_Model_isAsked_0, og_82_2, jx_Model_isAsked_16, kb_Model_isAsked_16, jx_Model_isAsked_17, kb_Model_isAsked_17, oa_82, oa_84, or_84, hb]
  refine ifnb1 (fun e => ?_) (fun e => ?_) <;> subst e <;> exact K
/-- heaps of a desk -/
theorem m_heapsD {D : dT} (hD : MK (F 84) D) {hp : Nat} (hhp : hp < 2 ^ D.1) (K : ∀ F', MT F' (hzD D hp) → MK (F' 84) D → St F F' → Q none (ov h F' J V)) : am_cl (d + 3) 231 [.ref 82, .int (nI hp)] (ov h F J V) Q :=
  m_heaps (cs := csD D) hD.2.2.2.1 (hp_4096 hD.2.1 hhp) (fun k hk hb => (hD.2.2.2.2.1 k (hp_bit hhp hb)).2.2) (fun F' h1 h2 => K F' h1 (hD.pm h2.pm) h2)
def aQuarrels (D : dT) (a : Int32) : Int32 := if hpB D.1 a then b2i (qz (hzD D a.toNatClampNeg) (fun _ => false)) else -1
set_option maxRecDepth 20000 in
theorem mp_quarrels {D : dT} (hD : MK (F 84) D) {a : Int32} (K : ∀ F', Pm F F' → Q (some (.int (aQuarrels D a))) (ov h F' J V)) : am_cl (d + 4) 238 [.ref 82, .int a] (ov h F J V) Q := by
  simp only [ax0, ex_cons, am_get, upz_at, true_and, and_true, Nat.reduceAdd, Nat.reduceLeDiff, Nat.reduceEqDiff, Nat.reduceSub, Int32.reduceOfInt, Int32.reduceAdd, Int32.reduceMul, Int32.reduceSub, ↓reduceIte, Int32.reduceLT, Int32.reduceLE, Int32.reduceToNatClampNeg, Nat.reduceMod, Nat.reduceLT, List.length_cons, List.length_nil, eq_self, true_or, or_true, and_self, implies_true, not_true_eq_false, not_false_eq_true, false_implies, true_implies, forall_const, st_aload, st_goto, st_goto_w, st_iconst, st_ifCond, st_iload, st_in1, st_in2, st_ireturn, cx_Model_quarrels, kb_Model_quarrels_0, oo_82, jx_Model_quarrels_10, kb_Model_quarrels_10, jx_Model_quarrels_26, kb_Model_quarrels_26, jx_Model_quarrels_27, kb_Model_quarrels_27, oa_82]
  refine m_isHeap hD.1 hD.2.1 ?_
  simp only [ax0, ex_cons, am_get, upz_at, true_and, and_true, Nat.reduceAdd, Nat.reduceLeDiff, Nat.reduceEqDiff, Nat.reduceSub, Int32.reduceOfInt, Int32.reduceAdd, Int32.reduceMul, Int32.reduceSub, ↓reduceIte, Int32.reduceLT, Int32.reduceLE, Int32.reduceToNatClampNeg, Nat.reduceMod, Nat.reduceLT, List.length_cons, List.length_nil, eq_self, true_or, or_true, and_self, implies_true, not_true_eq_false, not_false_eq_true, false_implies, true_implies, forall_const, st_aload, st_iconst, st_ifCond, st_iload, st_in2, st_ireturn, kb_Model_quarrels_0, oo_82, oa_82]
  refine ifnb (fun e => ?_) (fun e => ?_)
  · obtain ⟨hp, e1, e2, e3⟩ := hpB_nI hD.2.1 e
    have ea : aQuarrels D a = b2i (qz (hzD D hp) (fun _ => false)) := by unfold aQuarrels; rw [e, if_pos rfl, e3]
    rw [ea] at K
    rw [e1]
    simp only [ax0, ex_cons, am_get, upz_at, true_and, and_true, Nat.reduceAdd, Nat.reduceLeDiff, Nat.reduceEqDiff, Nat.reduceSub, Int32.reduceOfInt, Int32.reduceAdd, Int32.reduceMul, Int32.reduceSub, ↓reduceIte, Int32.reduceLT, Int32.reduceLE, Int32.reduceToNatClampNeg, Nat.reduceMod, Nat.reduceLT, List.length_cons, List.length_nil, eq_self, true_or, or_true, and_self, implies_true, not_true_eq_false, not_false_eq_true, false_implies, true_implies, forall_const, st_aload, st_goto, st_iconst, st_ifCond, st_iload, st_in1, st_in2, jx_Model_quarrels_10, kb_Model_quarrels_10, oo_82, oa_82]
    refine m_heapsD hD e2 (fun F1 h1 h2 h3 => ?_)
    simp only [ax0, ex_cons, am_get, upz_at, true_and, and_true, Nat.reduceAdd, Nat.reduceLeDiff, Nat.reduceEqDiff, Nat.reduceSub, Int32.reduceOfInt, Int32.reduceAdd, Int32.reduceMul, Int32.reduceSub, ↓reduceIte, Int32.reduceLT, Int32.reduceLE, Int32.reduceToNatClampNeg, Nat.reduceMod, Nat.reduceLT, List.length_cons, List.length_nil, eq_self, true_or, or_true, and_self, implies_true, not_true_eq_false, not_false_eq_true, false_implies, true_implies, forall_const, st_aload, st_goto, st_iconst, st_ifCond, st_iload, st_in1, st_in2, jx_Model_quarrels_10, kb_Model_quarrels_10, oo_82, oa_82]
    refine m_isQuarrel h1 (by have := hzD_len D hp; omega) (fun f => ?_)
    have K1 := K _ (h3.pm.s100 f)
    simp only [ax0, ex_cons, am_get, upz_at, true_and, and_true, Nat.reduceAdd, Nat.reduceLeDiff, Nat.reduceEqDiff, Nat.reduceSub, Int32.reduceOfInt, Int32.reduceAdd, Int32.reduceMul, Int32.reduceSub, ↓reduceIte, Int32.reduceLT, Int32.reduceLE, Int32.reduceToNatClampNeg, Nat.reduceMod, Nat.reduceLT, List.length_cons, List.length_nil, eq_self, true_or, or_true, and_self, implies_true, not_true_eq_false, not_false_eq_true, false_implies, true_implies, forall_const, st_aload, st_goto, st_goto_w, st_iconst, st_ifCond, st_iload, st_in1, st_in2, st_ireturn, jx_Model_quarrels_10, kb_Model_quarrels_10, oo_82, jx_Model_quarrels_26, kb_Model_quarrels_26, jx_Model_quarrels_27, kb_Model_quarrels_27, oa_82]
    refine ifb (fun e => ?_) (fun e => ?_) <;> rw [e] at K1 <;> exact K1
  · have ea : aQuarrels D a = -1 := by unfold aQuarrels; rw [e]; rfl
    rw [ea] at K
    exact K F Pm.rf
def aFollows (D : dT) (a : Int32) : Int32 := if hpB D.1 a && D.2.2.1 then b2i (fo (hzD D a.toNatClampNeg) (csD D 12) D.2.2.2) else -1
set_option maxRecDepth 20000 in
theorem mp_follows {D : dT} (hD : MK (F 84) D) {a : Int32} (K : ∀ F', Pm F F' → Q (some (.int (aFollows D a))) (ov h F' J V)) : am_cl (d + 5) 239 [.ref 82, .int a] (ov h F J V) Q := by
  simp only [ax0, ex_cons, am_get, upz_at, true_and, and_true, Nat.reduceAdd, Nat.reduceLeDiff, Nat.reduceEqDiff, Nat.reduceSub, Int32.reduceOfInt, Int32.reduceAdd, Int32.reduceMul, Int32.reduceSub, ↓reduceIte, Int32.reduceLT, Int32.reduceLE, Int32.reduceToNatClampNeg, Nat.reduceMod, Nat.reduceLT, List.length_cons, List.length_nil, eq_self, true_or, or_true, and_self, implies_true, not_true_eq_false, not_false_eq_true, false_implies, true_implies, forall_const, st_aload, st_goto, st_goto_w, st_iconst, st_ifCond, st_iload, st_in1, st_in2, st_in3, st_ireturn, cx_Model_follows, kb_Model_follows_0, oo_82, jx_Model_follows_15, kb_Model_follows_15, jx_Model_follows_17, kb_Model_follows_17, jx_Model_follows_39, kb_Model_follows_39, jx_Model_follows_40, kb_Model_follows_40, oa_82]
  refine m_isHeap hD.1 hD.2.1 ?_
  simp only [ax0, ex_cons, am_get, upz_at, true_and, and_true, Nat.reduceAdd, Nat.reduceLeDiff, Nat.reduceEqDiff, Nat.reduceSub, Int32.reduceOfInt, Int32.reduceAdd, Int32.reduceMul, Int32.reduceSub, ↓reduceIte, Int32.reduceLT, Int32.reduceLE, Int32.reduceToNatClampNeg, Nat.reduceMod, Nat.reduceLT, List.length_cons, List.length_nil, eq_self, true_or, or_true, and_self, implies_true, not_true_eq_false, not_false_eq_true, false_implies, true_implies, forall_const, st_aload, st_goto_w, st_ifCond, st_iload, st_in1, st_in2, kb_Model_follows_0, oo_82, oa_82]
  refine ifb (fun e => ?_) (fun e => ?_)
  · have ea : aFollows D a = -1 := by unfold aFollows; rw [e]; rfl
    rw [ea] at K
    simp only [ax0, ex_cons, am_get, upz_at, true_and, and_true, Nat.reduceAdd, Nat.reduceLeDiff, Nat.reduceEqDiff, Nat.reduceSub, Int32.reduceOfInt, Int32.reduceAdd, Int32.reduceMul, Int32.reduceSub, ↓reduceIte, Int32.reduceLT, Int32.reduceLE, Int32.reduceToNatClampNeg, Nat.reduceMod, Nat.reduceLT, List.length_cons, List.length_nil, eq_self, true_or, or_true, and_self, implies_true, not_true_eq_false, not_false_eq_true, false_implies, true_implies, forall_const, st_iconst, st_ireturn, jx_Model_follows_15, kb_Model_follows_15]
    exact K F Pm.rf
  · refine m_isAsked hD.2.2.1 ?_
    simp only [ax0, ex_cons, am_get, upz_at, true_and, and_true, Nat.reduceAdd, Nat.reduceLeDiff, Nat.reduceEqDiff, Nat.reduceSub, Int32.reduceOfInt, Int32.reduceAdd, Int32.reduceMul, Int32.reduceSub, ↓reduceIte, Int32.reduceLT, Int32.reduceLE, Int32.reduceToNatClampNeg, Nat.reduceMod, Nat.reduceLT, List.length_cons, List.length_nil, eq_self, true_or, or_true, and_self, implies_true, not_true_eq_false, not_false_eq_true, false_implies, true_implies, forall_const, st_aload, st_goto_w, st_ifCond, st_iload, st_in1, st_in2, kb_Model_follows_0, oo_82, oa_82]
    refine ifnb (fun e4 => ?_) (fun e4 => ?_)
    · obtain ⟨hp, e1, e2, e3⟩ := hpB_nI hD.2.1 e
      have ea : aFollows D a = b2i (fo (hzD D hp) (csD D 12) D.2.2.2) := by unfold aFollows; rw [e, e4, e3]; rfl
      rw [ea] at K
      rw [e1]
      simp only [ax0, ex_cons, am_get, upz_at, true_and, and_true, Nat.reduceAdd, Nat.reduceLeDiff, Nat.reduceEqDiff, Nat.reduceSub, Int32.reduceOfInt, Int32.reduceAdd, Int32.reduceMul, Int32.reduceSub, ↓reduceIte, Int32.reduceLT, Int32.reduceLE, Int32.reduceToNatClampNeg, Nat.reduceMod, Nat.reduceLT, List.length_cons, List.length_nil, eq_self, true_or, or_true, and_self, implies_true, not_true_eq_false, not_false_eq_true, false_implies, true_implies, forall_const, st_aload, st_goto, st_iconst, st_ifCond, st_iload, st_in1, st_in2, st_in3, jx_Model_follows_17, kb_Model_follows_17, oo_82, oa_82]
      refine m_heapsD hD e2 (fun F1 h1 h2 h3 => ?_)
      simp only [ax0, ex_cons, am_get, upz_at, true_and, and_true, Nat.reduceAdd, Nat.reduceLeDiff, Nat.reduceEqDiff, Nat.reduceSub, Int32.reduceOfInt, Int32.reduceAdd, Int32.reduceMul, Int32.reduceSub, ↓reduceIte, Int32.reduceLT, Int32.reduceLE, Int32.reduceToNatClampNeg, Nat.reduceMod, Nat.reduceLT, List.length_cons, List.length_nil, eq_self, true_or, or_true, and_self, implies_true, not_true_eq_false, not_false_eq_true, false_implies, true_implies, forall_const, st_aload, st_goto, st_iconst, st_ifCond, st_iload, st_in1, st_in2, st_in3, jx_Model_follows_17, kb_Model_follows_17, oo_82, oa_82]
      refine m_isTold h2.2.2.2.1 ?_
      simp only [ax0, ex_cons, am_get, upz_at, true_and, and_true, Nat.reduceAdd, Nat.reduceLeDiff, Nat.reduceEqDiff, Nat.reduceSub, Int32.reduceOfInt, Int32.reduceAdd, Int32.reduceMul, Int32.reduceSub, ↓reduceIte, Int32.reduceLT, Int32.reduceLE, Int32.reduceToNatClampNeg, Nat.reduceMod, Nat.reduceLT, List.length_cons, List.length_nil, eq_self, true_or, or_true, and_self, implies_true, not_true_eq_false, not_false_eq_true, false_implies, true_implies, forall_const, st_aload, st_goto, st_iconst, st_ifCond, st_iload, st_in1, st_in2, st_in3, jx_Model_follows_17, kb_Model_follows_17, oo_82, oa_82]
      refine m_followsOf (s := 12) h1 (by have := hzD_len D hp; omega) (by decide) (h2.2.2.2.2.2 e4).2.2 (fun f => ?_)
      have K1 := K _ (h3.pm.s100 f)
      simp only [ax0, ex_cons, am_get, upz_at, true_and, and_true, Nat.reduceAdd, Nat.reduceLeDiff, Nat.reduceEqDiff, Nat.reduceSub, Int32.reduceOfInt, Int32.reduceAdd, Int32.reduceMul, Int32.reduceSub, ↓reduceIte, Int32.reduceLT, Int32.reduceLE, Int32.reduceToNatClampNeg, Nat.reduceMod, Nat.reduceLT, List.length_cons, List.length_nil, eq_self, true_or, or_true, and_self, implies_true, not_true_eq_false, not_false_eq_true, false_implies, true_implies, forall_const, st_aload, st_goto, st_goto_w, st_iconst, st_ifCond, st_iload, st_in1, st_in2, st_in3, st_ireturn, jx_Model_follows_17, kb_Model_follows_17, oo_82, jx_Model_follows_39, kb_Model_follows_39, jx_Model_follows_40, kb_Model_follows_40, oa_82]
      refine ifb (fun e => ?_) (fun e => ?_)
      · unfold csD at K1; rw [e] at K1; exact K1
      · unfold csD at K1; rw [e] at K1; exact K1
    · have ea : aFollows D a = -1 := by unfold aFollows; rw [e4, Bool.and_false]; rfl
      rw [ea] at K
      simp only [ax0, ex_cons, am_get, upz_at, true_and, and_true, Nat.reduceAdd, Nat.reduceLeDiff, Nat.reduceEqDiff, Nat.reduceSub, Int32.reduceOfInt, Int32.reduceAdd, Int32.reduceMul, Int32.reduceSub, ↓reduceIte, Int32.reduceLT, Int32.reduceLE, Int32.reduceToNatClampNeg, Nat.reduceMod, Nat.reduceLT, List.length_cons, List.length_nil, eq_self, true_or, or_true, and_self, implies_true, not_true_eq_false, not_false_eq_true, false_implies, true_implies, forall_const, st_iconst, st_ireturn, jx_Model_follows_15, kb_Model_follows_15]
      exact K F Pm.rf
def aDenied (D : dT) (a : Int32) : Int32 := if hpB D.1 a && D.2.2.1 then b2i (qz (tellz (hzD D a.toNatClampNeg) (csD D 12) D.2.2.2) (fun _ => false)) else -1
set_option maxRecDepth 20000 in
theorem mp_denied {D : dT} (hD : MK (F 84) D) {a : Int32} (K : ∀ F', Pm F F' → Q (some (.int (aDenied D a))) (ov h F' J V)) : am_cl (d + 5) 240 [.ref 82, .int a] (ov h F J V) Q := by
  simp only [ax0, ex_cons, am_get, upz_at, true_and, and_true, Nat.reduceAdd, Nat.reduceLeDiff, Nat.reduceEqDiff, Nat.reduceSub, Int32.reduceOfInt, Int32.reduceAdd, Int32.reduceMul, Int32.reduceSub, ↓reduceIte, Int32.reduceLT, Int32.reduceLE, Int32.reduceToNatClampNeg, Nat.reduceMod, Nat.reduceLT, List.length_cons, List.length_nil, eq_self, true_or, or_true, and_self, implies_true, not_true_eq_false, not_false_eq_true, false_implies, true_implies, forall_const, st_aload, st_goto, st_goto_w, st_iconst, st_ifCond, st_iload, st_in1, st_in2, st_in3, st_ireturn, cx_Model_denied, kb_Model_denied_0, oo_82, jx_Model_denied_15, kb_Model_denied_15, jx_Model_denied_17, kb_Model_denied_17, jx_Model_denied_43, kb_Model_denied_43, jx_Model_denied_44, kb_Model_denied_44, oa_82]
  refine m_isHeap hD.1 hD.2.1 ?_
  simp only [ax0, ex_cons, am_get, upz_at, true_and, and_true, Nat.reduceAdd, Nat.reduceLeDiff, Nat.reduceEqDiff, Nat.reduceSub, Int32.reduceOfInt, Int32.reduceAdd, Int32.reduceMul, Int32.reduceSub, ↓reduceIte, Int32.reduceLT, Int32.reduceLE, Int32.reduceToNatClampNeg, Nat.reduceMod, Nat.reduceLT, List.length_cons, List.length_nil, eq_self, true_or, or_true, and_self, implies_true, not_true_eq_false, not_false_eq_true, false_implies, true_implies, forall_const, st_aload, st_goto_w, st_ifCond, st_iload, st_in1, st_in2, kb_Model_denied_0, oo_82, oa_82]
  refine ifb (fun e => ?_) (fun e => ?_)
  · have ea : aDenied D a = -1 := by unfold aDenied; rw [e]; rfl
    rw [ea] at K
    simp only [ax0, ex_cons, am_get, upz_at, true_and, and_true, Nat.reduceAdd, Nat.reduceLeDiff, Nat.reduceEqDiff, Nat.reduceSub, Int32.reduceOfInt, Int32.reduceAdd, Int32.reduceMul, Int32.reduceSub, ↓reduceIte, Int32.reduceLT, Int32.reduceLE, Int32.reduceToNatClampNeg, Nat.reduceMod, Nat.reduceLT, List.length_cons, List.length_nil, eq_self, true_or, or_true, and_self, implies_true, not_true_eq_false, not_false_eq_true, false_implies, true_implies, forall_const, st_iconst, st_ireturn, jx_Model_denied_15, kb_Model_denied_15]
    exact K F Pm.rf
  · refine m_isAsked hD.2.2.1 ?_
    simp only [ax0, ex_cons, am_get, upz_at, true_and, and_true, Nat.reduceAdd, Nat.reduceLeDiff, Nat.reduceEqDiff, Nat.reduceSub, Int32.reduceOfInt, Int32.reduceAdd, Int32.reduceMul, Int32.reduceSub, ↓reduceIte, Int32.reduceLT, Int32.reduceLE, Int32.reduceToNatClampNeg, Nat.reduceMod, Nat.reduceLT, List.length_cons, List.length_nil, eq_self, true_or, or_true, and_self, implies_true, not_true_eq_false, not_false_eq_true, false_implies, true_implies, forall_const, st_aload, st_goto_w, st_ifCond, st_iload, st_in1, st_in2, kb_Model_denied_0, oo_82, oa_82]
    refine ifnb (fun e4 => ?_) (fun e4 => ?_)
    · obtain ⟨hp, e1, e2, e3⟩ := hpB_nI hD.2.1 e
      have ea : aDenied D a = b2i (qz (tellz (hzD D hp) (csD D 12) D.2.2.2) (fun _ => false)) := by unfold aDenied; rw [e, e4, e3]; rfl
      rw [ea] at K
      rw [e1]
      simp only [ax0, ex_cons, am_get, upz_at, true_and, and_true, Nat.reduceAdd, Nat.reduceLeDiff, Nat.reduceEqDiff, Nat.reduceSub, Int32.reduceOfInt, Int32.reduceAdd, Int32.reduceMul, Int32.reduceSub, ↓reduceIte, Int32.reduceLT, Int32.reduceLE, Int32.reduceToNatClampNeg, Nat.reduceMod, Nat.reduceLT, List.length_cons, List.length_nil, eq_self, true_or, or_true, and_self, implies_true, not_true_eq_false, not_false_eq_true, false_implies, true_implies, forall_const, st_aload, st_goto, st_iconst, st_ifCond, st_iload, st_in1, st_in2, st_in3, jx_Model_denied_17, kb_Model_denied_17, oo_82, oa_82]
      refine m_heapsD hD e2 (fun F1 h1 h2 h3 => ?_)
      simp only [ax0, ex_cons, am_get, upz_at, true_and, and_true, Nat.reduceAdd, Nat.reduceLeDiff, Nat.reduceEqDiff, Nat.reduceSub, Int32.reduceOfInt, Int32.reduceAdd, Int32.reduceMul, Int32.reduceSub, ↓reduceIte, Int32.reduceLT, Int32.reduceLE, Int32.reduceToNatClampNeg, Nat.reduceMod, Nat.reduceLT, List.length_cons, List.length_nil, eq_self, true_or, or_true, and_self, implies_true, not_true_eq_false, not_false_eq_true, false_implies, true_implies, forall_const, st_aload, st_goto, st_iconst, st_ifCond, st_iload, st_in1, st_in2, st_in3, jx_Model_denied_17, kb_Model_denied_17, oo_82, oa_82]
      refine m_isTold h2.2.2.2.1 ?_
      simp only [ax0, ex_cons, am_get, upz_at, true_and, and_true, Nat.reduceAdd, Nat.reduceLeDiff, Nat.reduceEqDiff, Nat.reduceSub, Int32.reduceOfInt, Int32.reduceAdd, Int32.reduceMul, Int32.reduceSub, ↓reduceIte, Int32.reduceLT, Int32.reduceLE, Int32.reduceToNatClampNeg, Nat.reduceMod, Nat.reduceLT, List.length_cons, List.length_nil, eq_self, true_or, or_true, and_self, implies_true, not_true_eq_false, not_false_eq_true, false_implies, true_implies, forall_const, st_aload, st_goto, st_iconst, st_ifCond, st_iload, st_in1, st_in2, st_in3, jx_Model_denied_17, kb_Model_denied_17, oo_82, oa_82]
      refine m_tellsOf (s := 12) h1 (by have := hzD_len D hp; omega) (by decide) (h2.2.2.2.2.2 e4).2.2 (fun F2 h4 h5 => ?_)
      simp only [ax0, ex_cons, am_get, upz_at, true_and, and_true, Nat.reduceAdd, Nat.reduceLeDiff, Nat.reduceEqDiff, Nat.reduceSub, Int32.reduceOfInt, Int32.reduceAdd, Int32.reduceMul, Int32.reduceSub, ↓reduceIte, Int32.reduceLT, Int32.reduceLE, Int32.reduceToNatClampNeg, Nat.reduceMod, Nat.reduceLT, List.length_cons, List.length_nil, eq_self, true_or, or_true, and_self, implies_true, not_true_eq_false, not_false_eq_true, false_implies, true_implies, forall_const, st_aload, st_goto, st_iconst, st_ifCond, st_iload, st_in1, st_in2, st_in3, jx_Model_denied_17, kb_Model_denied_17, oo_82, oa_82]
      refine m_isQuarrel h4 (by have := hzD_len D hp; have := tellz_len (hzD D hp) (clR (D.2.1 12)) D.2.2.2; omega) (fun f => ?_)
      have K1 := K _ ((h3.tr h5).pm.s100 f)
      simp only [ax0, ex_cons, am_get, upz_at, true_and, and_true, Nat.reduceAdd, Nat.reduceLeDiff, Nat.reduceEqDiff, Nat.reduceSub, Int32.reduceOfInt, Int32.reduceAdd, Int32.reduceMul, Int32.reduceSub, ↓reduceIte, Int32.reduceLT, Int32.reduceLE, Int32.reduceToNatClampNeg, Nat.reduceMod, Nat.reduceLT, List.length_cons, List.length_nil, eq_self, true_or, or_true, and_self, implies_true, not_true_eq_false, not_false_eq_true, false_implies, true_implies, forall_const, st_aload, st_goto, st_goto_w, st_iconst, st_ifCond, st_iload, st_in1, st_in2, st_in3, st_ireturn, jx_Model_denied_17, kb_Model_denied_17, oo_82, jx_Model_denied_43, kb_Model_denied_43, jx_Model_denied_44, kb_Model_denied_44, oa_82]
      refine ifb (fun e => ?_) (fun e => ?_)
      · unfold csD at K1; rw [e] at K1; exact K1
      · unfold csD at K1; rw [e] at K1; exact K1
    · have ea : aDenied D a = -1 := by unfold aDenied; rw [e4, Bool.and_false]; rfl
      rw [ea] at K
      simp only [ax0, ex_cons, am_get, upz_at, true_and, and_true, Nat.reduceAdd, Nat.reduceLeDiff, Nat.reduceEqDiff, Nat.reduceSub, Int32.reduceOfInt, Int32.reduceAdd, Int32.reduceMul, Int32.reduceSub, ↓reduceIte, Int32.reduceLT, Int32.reduceLE, Int32.reduceToNatClampNeg, Nat.reduceMod, Nat.reduceLT, List.length_cons, List.length_nil, eq_self, true_or, or_true, and_self, implies_true, not_true_eq_false, not_false_eq_true, false_implies, true_implies, forall_const, st_iconst, st_ireturn, jx_Model_denied_15, kb_Model_denied_15]
      exact K F Pm.rf
end MPB
