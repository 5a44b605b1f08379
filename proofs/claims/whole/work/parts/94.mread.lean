/-! ===== the model: reading ===== -/
def Pp (F F' : Nat → Nat → Int32) : Prop := (∀ a, a ≠ 82 → a ≠ 93 → F' a = F a) ∧ ∀ i, i ≠ 14 → i ≠ 16 → i ≠ 18 → i ≠ 19 → F' 82 i = F 82 i
theorem Pp.rf {F : Nat → Nat → Int32} : Pp F F := ⟨fun _ _ _ => rfl, fun _ _ _ _ _ => rfl⟩
theorem Pp.tr {F F1 F2 : Nat → Nat → Int32} (a : Pp F F1) (b : Pp F1 F2) : Pp F F2 := ⟨fun i h1 h2 => (b.1 i h1 h2).trans (a.1 i h1 h2), fun i h1 h2 h3 h4 => (b.2 i h1 h2 h3 h4).trans (a.2 i h1 h2 h3 h4)⟩
theorem TKr.pp {F F' : Nat → Nat → Int32} {n : Nat} {L : List (Nat × Nat)} (h : TKr F n L) (p : Pp F F') : TKr F' n L := ⟨by rw [p.2 13 (by decide) (by decide) (by decide) (by decide)]; exact h.1, fun k hk => by rw [p.1 90 (by decide) (by decide), p.1 92 (by decide) (by decide)]; exact h.2 k hk⟩
theorem pp_82 {F : Nat → Nat → Int32} {i : Nat} {v : Int32} (h : i = 14 ∨ i = 16 ∨ i = 18 ∨ i = 19) : Pp F (upz F 82 (upz (F 82) i v)) := ⟨fun a h1 _ => upz_ne _ _ h1, fun j h1 h2 h3 h4 => by rw [upz_eq, upz_ne _ _ (by omega)]⟩
/-- reading goes on -/
def LV (F : Nat → Nat → Int32) (k c : Nat) (ms : List Nat) : Prop := F 82 14 = nI k ∧ F 82 16 = -1 ∧ F 82 18 = nI ms.length ∧ F 82 19 = nI c ∧ Rw (F 93) 0 ms
/-- a fault was found -/
def DE (F : Nat → Nat → Int32) (e : Nat) : Prop := F 82 16 = nI e ∧ e ≤ 400
/-- tokens of a tape of n bytes -/
def TK (n : Nat) (L : List (Nat × Nat)) : Prop := n ≤ 400 ∧ L.length ≤ n ∧ TKp (cdL L) (ppL n L) L.length ∧ (∀ k, k ≤ L.length → ppL n L k ≤ n + 1 ∧ plL n L k ≤ n ∧ cdL L k < 356)
theorem tkL_lt (t : Nat → Int32) (n : Nat) : ∀ f p k, cdL (tkL t n f p) k < 356
  | 0, p, k => by show (([] : List (Nat × Nat)).getD k (0, 0)).2 < 356; simp
  | f + 1, p, k => by
    unfold tkL
    split
    · show (([] : List (Nat × Nat)).getD k (0, 0)).2 < 356; simp
    · split
      · exact tkL_lt t n f (p + 1) k
      · cases k with
        | zero => exact tcP_lt t n p
        | succ k => exact tkL_lt t n f (teP t n p) k
theorem tkA_TK (t : Nat → Int32) {n : Nat} (hn : n ≤ 400) : TK n (tkA t n) := by
  refine ⟨hn, tkA_n t n, tkA_p t hn, fun k hk => ⟨tkA_b t n hk, ?_, tkL_lt t n n 0 k⟩⟩
  have h := tkA_b t n hk
  unfold ppL at h
  by_cases q : 1 ≤ cdL (tkA t n) k ∧ cdL (tkA t n) k ≤ 24
  · have h3 := (tkA_p t hn).1 k
    by_cases q2 : k < (tkA t n).length
    · have h4 := h3 q2
      have h5 := tkA_b t n (k := k + 1) q2
      have h6 : ppL n (tkA t n) k = plL n (tkA t n) k := by unfold ppL; rw [if_pos q]; rfl
      unfold wtC at h4
      rw [if_pos q] at h4
      omega
    · rw [cd_out (by omega)] at q
      omega
  · rw [if_neg q] at h
    omega
theorem ws_cd {t : eT} (h : wfT t) : 2 * (cdT t).length ≤ wsT t := by
  induction t with
  | var i => exact Nat.le_refl 2
  | neg a ih => rw [cl_neg]; have := ih h; show _ ≤ 4 + wsT a; omega
  | sub a b iha ihb => rw [cl_sub]; have := iha h.1; have := ihb h.2; show _ ≤ wsT a + wsT b + 8; omega
  | add a b iha ihb => rw [cl_add]; have := iha h.1; have := ihb h.2; show _ ≤ wsT a + wsT b + 3; omega
  | num _ => exact h.elim
  | mulL _ _ _ => exact h.elim
  | mulR _ _ _ => exact h.elim
section MRA
variable {d n : Nat} {L : List (Nat × Nat)} {h : am_H} {F : Nat → Nat → Int32} {J : Nat → Nat → Int64} {V : Nat → Nat → Value} {Q : am_Q}
set_option maxRecDepth 20000 in
theorem m_fineL {k c : Nat} {ms : List Nat} (hl : LV F k c ms) (K : Q (some (.int 1)) (ov h F J V)) : am_cl (d + 1) 193 [.ref 82] (ov h F J V) Q := by
  simp only [ax0, ex_cons, am_get, upz_at, true_and, and_true, Nat.reduceAdd, Nat.reduceLeDiff, Nat.reduceEqDiff, Nat.reduceSub, Int32.reduceOfInt, Int32.reduceAdd, Int32.reduceMul, Int32.reduceSub, ↓reduceIte, Int32.reduceLT, Int32.reduceLE, Int32.reduceToNatClampNeg, Nat.reduceMod, Nat.reduceLT, List.length_cons, List.length_nil, eq_self, true_or, or_true, and_self, implies_true, not_true_eq_false, not_false_eq_true, false_implies, true_implies, forall_const, st_aloadx, st_freturnx, st_getfieldx, st_gotox, st_goto_wx, st_iconstx, st_if_icmpx, kb_Model_fine_0, og_82_16, jx_Model_fine_12, kb_Model_fine_12, jx_Model_fine_13, kb_Model_fine_13, oa_82, cx_Model_fine, hl.2.1]
  exact K
set_option maxRecDepth 20000 in
theorem m_fineD {e : Nat} (hl : DE F e) (K : Q (some (.int 0)) (ov h F J V)) : am_cl (d + 1) 193 [.ref 82] (ov h F J V) Q := by
  have := hl.2
  simp only [ax0, ex_cons, am_get, upz_at, true_and, and_true, Nat.reduceAdd, Nat.reduceLeDiff, Nat.reduceEqDiff, Nat.reduceSub, Int32.reduceOfInt, Int32.reduceAdd, Int32.reduceMul, Int32.reduceSub, ↓reduceIte, Int32.reduceLT, Int32.reduceLE, Int32.reduceToNatClampNeg, Nat.reduceMod, Nat.reduceLT, List.length_cons, List.length_nil, eq_self, true_or, or_true, and_self, implies_true, not_true_eq_false, not_false_eq_true, false_implies, true_implies, forall_const, st_aloadx, st_freturnx, st_getfieldx, st_gotox, st_goto_wx, st_iconstx, st_if_icmpx, kb_Model_fine_0, og_82_16, jx_Model_fine_12, kb_Model_fine_12, jx_Model_fine_13, kb_Model_fine_13, oa_82, cx_Model_fine, hl.1, nI_neg1 (show e < 2147483648 by omega)]
  exact K
set_option maxRecDepth 20000 in
theorem m_faultsL (hT : TK n L) (hr : TKr F n L) {k c : Nat} (hk : k ≤ L.length) {ms : List Nat} (hl : LV F k c ms) (K : ∀ F', DE F' (plL n L k) → Pp F F' → Q none (ov h F' J V)) : am_cl (d + 2) 194 [.ref 82] (ov h F J V) Q := by
  have h1 := (hT.2.2.2 k hk).2.1
  have h2 := hT.1
  have h3 := hT.2.1
  simp only [ax0, ex_cons, am_get, upz_at, true_and, and_true, Nat.reduceAdd, Nat.reduceLeDiff, Nat.reduceEqDiff, Nat.reduceSub, Int32.reduceOfInt, Int32.reduceAdd, Int32.reduceMul, Int32.reduceSub, ↓reduceIte, Int32.reduceLT, Int32.reduceLE, Int32.reduceToNatClampNeg, Nat.reduceMod, Nat.reduceLT, List.length_cons, List.length_nil, eq_self, true_or, or_true, and_self, implies_true, not_true_eq_false, not_false_eq_true, false_implies, true_implies, forall_const, st_aloadx, st_getfieldx, st_goto_wx, st_ialoadx, st_ifCondx, st_in1, st_putfieldx, kb_Model_faults_0, oo_82, og_82_12, og_82_14, op_82_16, oa_82, os_82, oa_92, or_92, cx_Model_faults]
  refine m_fineL hl ?_
  simp only [ax0, ex_cons, am_get, upz_at, true_and, and_true, Nat.reduceAdd, Nat.reduceLeDiff, Nat.reduceEqDiff, Nat.reduceSub, Int32.reduceOfInt, Int32.reduceAdd, Int32.reduceMul, Int32.reduceSub, ↓reduceIte, Int32.reduceLT, Int32.reduceLE, Int32.reduceToNatClampNeg, Nat.reduceMod, Nat.reduceLT, List.length_cons, List.length_nil, eq_self, true_or, or_true, and_self, implies_true, not_true_eq_false, not_false_eq_true, false_implies, true_implies, forall_const, st_aloadx, st_getfieldx, st_goto_wx, st_ialoadx, st_ifCondx, st_in1, st_putfieldx, st_return_x, kb_Model_faults_0, oo_82, og_82_12, og_82_14, op_82_16, jx_Model_faults_20, kb_Model_faults_20, oa_82, os_82, oa_92, or_92, hl.1, nk_neg (show k < 2147483648 by omega), nk_cl (show k < 2147483648 by omega), show k < 401 by omega, (hr.2 k hk).2]
  exact K _ ⟨by rw [upz_eq, upz_eq], by omega⟩ (pp_82 (by decide))
set_option maxRecDepth 20000 in
theorem m_faultsD {e : Nat} (hl : DE F e) (K : Q none (ov h F J V)) : am_cl (d + 2) 194 [.ref 82] (ov h F J V) Q := by
  simp only [ax0, ex_cons, am_get, upz_at, true_and, and_true, Nat.reduceAdd, Nat.reduceLeDiff, Nat.reduceEqDiff, Nat.reduceSub, Int32.reduceOfInt, Int32.reduceAdd, Int32.reduceMul, Int32.reduceSub, ↓reduceIte, Int32.reduceLT, Int32.reduceLE, Int32.reduceToNatClampNeg, Nat.reduceMod, Nat.reduceLT, List.length_cons, List.length_nil, eq_self, true_or, or_true, and_self, implies_true, not_true_eq_false, not_false_eq_true, false_implies, true_implies, forall_const, st_aloadx, st_getfieldx, st_goto_wx, st_ialoadx, st_ifCondx, st_in1, st_putfieldx, kb_Model_faults_0, oo_82, og_82_12, og_82_14, op_82_16, oa_82, os_82, oa_92, or_92, cx_Model_faults]
  refine m_fineD hl ?_
  simp only [ax0, ex_cons, am_get, upz_at, true_and, and_true, Nat.reduceAdd, Nat.reduceLeDiff, Nat.reduceEqDiff, Nat.reduceSub, Int32.reduceOfInt, Int32.reduceAdd, Int32.reduceMul, Int32.reduceSub, ↓reduceIte, Int32.reduceLT, Int32.reduceLE, Int32.reduceToNatClampNeg, Nat.reduceMod, Nat.reduceLT, List.length_cons, List.length_nil, eq_self, true_or, or_true, and_self, implies_true, not_true_eq_false, not_false_eq_true, false_implies, true_implies, forall_const, st_aloadx, st_getfieldx, st_goto_wx, st_ialoadx, st_ifCondx, st_in1, st_putfieldx, st_return_x, kb_Model_faults_0, oo_82, og_82_12, og_82_14, op_82_16, jx_Model_faults_20, kb_Model_faults_20, oa_82, os_82, oa_92, or_92]
  exact K
theorem LV.tk {F : Nat → Nat → Int32} {k c : Nat} {ms : List Nat} (hl : LV F k c ms) (k' : Nat) : LV (upz F 82 (upz (F 82) 14 (nI k'))) k' c ms := ⟨by rw [upz_eq, upz_eq], by rw [upz_eq, upz_ne _ _ (by decide)]; exact hl.2.1, by rw [upz_eq, upz_ne _ _ (by decide)]; exact hl.2.2.1, by rw [upz_eq, upz_ne _ _ (by decide)]; exact hl.2.2.2.1, by rw [upz_ne _ _ (by decide)]; exact hl.2.2.2.2⟩
set_option maxRecDepth 20000 in
theorem m_takes0L (hT : TK n L) (hr : TKr F n L) {k c : Nat} (hk : k ≤ L.length) {ms : List Nat} (hl : LV F k c ms) {w : Nat} (hw : w < 400) (K0 : ¬ cdL L k = w → Q (some (.int 0)) (ov h F J V)) (K1 : cdL L k = w → ∀ F', LV F' (k + 1) c ms → Pp F F' → Q (some (.int 1)) (ov h F' J V)) : am_cl (d + 2) 195 [.ref 82, .int (nI w)] (ov h F J V) Q := by
  have h1 := (hT.2.2.2 k hk).2.2
  have h2 := hT.1
  have h3 := hT.2.1
  simp only [ax0, ex_cons, am_get, upz_at, true_and, and_true, Nat.reduceAdd, Nat.reduceLeDiff, Nat.reduceEqDiff, Nat.reduceSub, Int32.reduceOfInt, Int32.reduceAdd, Int32.reduceMul, Int32.reduceSub, ↓reduceIte, Int32.reduceLT, Int32.reduceLE, Int32.reduceToNatClampNeg, Nat.reduceMod, Nat.reduceLT, List.length_cons, List.length_nil, eq_self, true_or, or_true, and_self, implies_true, not_true_eq_false, not_false_eq_true, false_implies, true_implies, forall_const, st_aloadx, st_getfieldx, st_gotox, st_ialoadx, st_iconstx, st_ifCondx, st_if_icmpx, st_iloadx, st_in1, kb_Model_takes0_0, oo_82, og_82_10, og_82_14, oa_82, oa_90, or_90, cx_Model_takes0]
  refine m_fineL hl ?_
  simp only [ax0, ex_cons, am_get, upz_at, true_and, and_true, Nat.reduceAdd, Nat.reduceLeDiff, Nat.reduceEqDiff, Nat.reduceSub, Int32.reduceOfInt, Int32.reduceAdd, Int32.reduceMul, Int32.reduceSub, ↓reduceIte, Int32.reduceLT, Int32.reduceLE, Int32.reduceToNatClampNeg, Nat.reduceMod, Nat.reduceLT, List.length_cons, List.length_nil, eq_self, true_or, or_true, and_self, implies_true, not_true_eq_false, not_false_eq_true, false_implies, true_implies, forall_const, st_aloadx, st_getfieldx, st_gotox, st_goto_wx, st_ialoadx, st_iconstx, st_ifCondx, st_if_icmpx, st_iloadx, st_in1, kb_Model_takes0_0, oo_82, og_82_10, og_82_14, jx_Model_takes0_24, kb_Model_takes0_24, oa_82, oa_90, or_90, hl.1, nk_neg (show k < 2147483648 by omega), nk_cl (show k < 2147483648 by omega), show k < 401 by omega, (hr.2 k hk).1, show (nI (cdL L k) = nI w) = (cdL L k = w) from nk_eq (by omega) (by omega)]
  refine And.intro (fun q => ?_) (fun q => ?_)
  · simp only [ax0, ex_cons, am_get, upz_at, true_and, and_true, Nat.reduceAdd, Nat.reduceLeDiff, Nat.reduceEqDiff, Nat.reduceSub, Int32.reduceOfInt, Int32.reduceAdd, Int32.reduceMul, Int32.reduceSub, ↓reduceIte, Int32.reduceLT, Int32.reduceLE, Int32.reduceToNatClampNeg, Nat.reduceMod, Nat.reduceLT, List.length_cons, List.length_nil, eq_self, true_or, or_true, and_self, implies_true, not_true_eq_false, not_false_eq_true, false_implies, true_implies, forall_const, st_aloadx, st_dupx, st_dup_1x, st_freturnx, st_getfieldx, st_goto_wx, st_iaddx, st_iconstx, st_ifCondx, st_iloadx, st_istorex, st_putfieldx, am_put, am_nlg, jx_Model_takes0_25, kb_Model_takes0_25, og_82_14, op_82_14, jx_Model_takes0_40, kb_Model_takes0_40, oa_82, os_82]
    exact K0 q
  · simp only [ax0, ex_cons, am_get, upz_at, true_and, and_true, Nat.reduceAdd, Nat.reduceLeDiff, Nat.reduceEqDiff, Nat.reduceSub, Int32.reduceOfInt, Int32.reduceAdd, Int32.reduceMul, Int32.reduceSub, ↓reduceIte, Int32.reduceLT, Int32.reduceLE, Int32.reduceToNatClampNeg, Nat.reduceMod, Nat.reduceLT, List.length_cons, List.length_nil, eq_self, true_or, or_true, and_self, implies_true, not_true_eq_false, not_false_eq_true, false_implies, true_implies, forall_const, st_aloadx, st_dupx, st_dup_1x, st_freturnx, st_getfieldx, st_goto_wx, st_iaddx, st_iconstx, st_ifCondx, st_iloadx, st_istorex, st_putfieldx, am_put, am_nlg, jx_Model_takes0_25, kb_Model_takes0_25, og_82_14, op_82_14, jx_Model_takes0_40, kb_Model_takes0_40, oa_82, os_82, hl.1, nk_succ]
    exact K1 (Classical.not_not.mp q) _ (hl.tk (k + 1)) (pp_82 (by decide))
set_option maxRecDepth 20000 in
theorem m_takes0D {e : Nat} (hl : DE F e) {w : Int32} (K : Q (some (.int 0)) (ov h F J V)) : am_cl (d + 2) 195 [.ref 82, .int w] (ov h F J V) Q := by
  simp only [ax0, ex_cons, am_get, upz_at, true_and, and_true, Nat.reduceAdd, Nat.reduceLeDiff, Nat.reduceEqDiff, Nat.reduceSub, Int32.reduceOfInt, Int32.reduceAdd, Int32.reduceMul, Int32.reduceSub, ↓reduceIte, Int32.reduceLT, Int32.reduceLE, Int32.reduceToNatClampNeg, Nat.reduceMod, Nat.reduceLT, List.length_cons, List.length_nil, eq_self, true_or, or_true, and_self, implies_true, not_true_eq_false, not_false_eq_true, false_implies, true_implies, forall_const, st_aloadx, st_getfieldx, st_gotox, st_ialoadx, st_iconstx, st_ifCondx, st_if_icmpx, st_iloadx, st_in1, kb_Model_takes0_0, oo_82, og_82_10, og_82_14, oa_82, oa_90, or_90, cx_Model_takes0]
  refine m_fineD hl ?_
  simp only [ax0, ex_cons, am_get, upz_at, true_and, and_true, Nat.reduceAdd, Nat.reduceLeDiff, Nat.reduceEqDiff, Nat.reduceSub, Int32.reduceOfInt, Int32.reduceAdd, Int32.reduceMul, Int32.reduceSub, ↓reduceIte, Int32.reduceLT, Int32.reduceLE, Int32.reduceToNatClampNeg, Nat.reduceMod, Nat.reduceLT, List.length_cons, List.length_nil, eq_self, true_or, or_true, and_self, implies_true, not_true_eq_false, not_false_eq_true, false_implies, true_implies, forall_const, st_aloadx, st_dupx, st_dup_1x, st_freturnx, st_getfieldx, st_gotox, st_goto_wx, st_iaddx, st_ialoadx, st_iconstx, st_ifCondx, st_if_icmpx, st_iloadx, st_in1, st_istorex, st_putfieldx, am_put, am_nlg, kb_Model_takes0_0, oo_82, og_82_10, og_82_14, jx_Model_takes0_24, kb_Model_takes0_24, jx_Model_takes0_25, kb_Model_takes0_25, op_82_14, jx_Model_takes0_40, kb_Model_takes0_40, oa_82, os_82, oa_90, or_90]
  exact K
set_option maxRecDepth 20000 in
theorem m_mustL (hT : TK n L) (hr : TKr F n L) {k c : Nat} (hk : k ≤ L.length) {ms : List Nat} (hl : LV F k c ms) {w : Nat} (hw : w < 400) (K0 : ¬ cdL L k = w → ∀ F', DE F' (plL n L k) → Pp F F' → Q none (ov h F' J V)) (K1 : cdL L k = w → ∀ F', LV F' (k + 1) c ms → Pp F F' → Q none (ov h F' J V)) : am_cl (d + 3) 196 [.ref 82, .int (nI w)] (ov h F J V) Q := by
  simp only [ax0, ex_cons, am_get, upz_at, true_and, and_true, Nat.reduceAdd, Nat.reduceLeDiff, Nat.reduceEqDiff, Nat.reduceSub, Int32.reduceOfInt, Int32.reduceAdd, Int32.reduceMul, Int32.reduceSub, ↓reduceIte, Int32.reduceLT, Int32.reduceLE, Int32.reduceToNatClampNeg, Nat.reduceMod, Nat.reduceLT, List.length_cons, List.length_nil, eq_self, true_or, or_true, and_self, implies_true, not_true_eq_false, not_false_eq_true, false_implies, true_implies, forall_const, st_aloadx, st_goto_wx, st_ifCondx, st_iloadx, st_in1, st_in2, kb_Model_must_0, oo_82, oa_82, cx_Model_must]
  refine m_takes0L hT hr hk hl hw (fun q => ?_) (fun q F1 l1 p1 => ?_)
  · simp only [ax0, ex_cons, am_get, upz_at, true_and, and_true, Nat.reduceAdd, Nat.reduceLeDiff, Nat.reduceEqDiff, Nat.reduceSub, Int32.reduceOfInt, Int32.reduceAdd, Int32.reduceMul, Int32.reduceSub, ↓reduceIte, Int32.reduceLT, Int32.reduceLE, Int32.reduceToNatClampNeg, Nat.reduceMod, Nat.reduceLT, List.length_cons, List.length_nil, eq_self, true_or, or_true, and_self, implies_true, not_true_eq_false, not_false_eq_true, false_implies, true_implies, forall_const, st_aloadx, st_goto_wx, st_ifCondx, st_iloadx, st_in1, st_in2, kb_Model_must_0, oo_82, oa_82]
    refine m_faultsL hT hr hk hl (fun F1 l1 p1 => ?_)
    simp only [ax0, ex_cons, am_get, upz_at, true_and, and_true, Nat.reduceAdd, Nat.reduceLeDiff, Nat.reduceEqDiff, Nat.reduceSub, Int32.reduceOfInt, Int32.reduceAdd, Int32.reduceMul, Int32.reduceSub, ↓reduceIte, Int32.reduceLT, Int32.reduceLE, Int32.reduceToNatClampNeg, Nat.reduceMod, Nat.reduceLT, List.length_cons, List.length_nil, eq_self, true_or, or_true, and_self, implies_true, not_true_eq_false, not_false_eq_true, false_implies, true_implies, forall_const, st_aloadx, st_goto_wx, st_ifCondx, st_iloadx, st_in1, st_in2, st_return_x, kb_Model_must_0, oo_82, jx_Model_must_12, kb_Model_must_12, oa_82]
    exact K0 q F1 l1 p1
  · simp only [ax0, ex_cons, am_get, upz_at, true_and, and_true, Nat.reduceAdd, Nat.reduceLeDiff, Nat.reduceEqDiff, Nat.reduceSub, Int32.reduceOfInt, Int32.reduceAdd, Int32.reduceMul, Int32.reduceSub, ↓reduceIte, Int32.reduceLT, Int32.reduceLE, Int32.reduceToNatClampNeg, Nat.reduceMod, Nat.reduceLT, List.length_cons, List.length_nil, eq_self, true_or, or_true, and_self, implies_true, not_true_eq_false, not_false_eq_true, false_implies, true_implies, forall_const, st_aloadx, st_goto_wx, st_ifCondx, st_iloadx, st_in1, st_in2, st_return_x, kb_Model_must_0, oo_82, jx_Model_must_12, kb_Model_must_12, oa_82]
    exact K1 q F1 l1 p1
set_option maxRecDepth 20000 in
theorem m_mustD {e : Nat} (hl : DE F e) {w : Int32} (K : Q none (ov h F J V)) : am_cl (d + 3) 196 [.ref 82, .int w] (ov h F J V) Q := by
  simp only [ax0, ex_cons, am_get, upz_at, true_and, and_true, Nat.reduceAdd, Nat.reduceLeDiff, Nat.reduceEqDiff, Nat.reduceSub, Int32.reduceOfInt, Int32.reduceAdd, Int32.reduceMul, Int32.reduceSub, ↓reduceIte, Int32.reduceLT, Int32.reduceLE, Int32.reduceToNatClampNeg, Nat.reduceMod, Nat.reduceLT, List.length_cons, List.length_nil, eq_self, true_or, or_true, and_self, implies_true, not_true_eq_false, not_false_eq_true, false_implies, true_implies, forall_const, st_aloadx, st_goto_wx, st_ifCondx, st_iloadx, st_in1, st_in2, kb_Model_must_0, oo_82, oa_82, cx_Model_must]
  refine m_takes0D hl ?_
  simp only [ax0, ex_cons, am_get, upz_at, true_and, and_true, Nat.reduceAdd, Nat.reduceLeDiff, Nat.reduceEqDiff, Nat.reduceSub, Int32.reduceOfInt, Int32.reduceAdd, Int32.reduceMul, Int32.reduceSub, ↓reduceIte, Int32.reduceLT, Int32.reduceLE, Int32.reduceToNatClampNeg, Nat.reduceMod, Nat.reduceLT, List.length_cons, List.length_nil, eq_self, true_or, or_true, and_self, implies_true, not_true_eq_false, not_false_eq_true, false_implies, true_implies, forall_const, st_aloadx, st_goto_wx, st_ifCondx, st_iloadx, st_in1, st_in2, kb_Model_must_0, oo_82, oa_82]
  refine m_faultsD hl ?_
  simp only [ax0, ex_cons, am_get, upz_at, true_and, and_true, Nat.reduceAdd, Nat.reduceLeDiff, Nat.reduceEqDiff, Nat.reduceSub, Int32.reduceOfInt, Int32.reduceAdd, Int32.reduceMul, Int32.reduceSub, ↓reduceIte, Int32.reduceLT, Int32.reduceLE, Int32.reduceToNatClampNeg, Nat.reduceMod, Nat.reduceLT, List.length_cons, List.length_nil, eq_self, true_or, or_true, and_self, implies_true, not_true_eq_false, not_false_eq_true, false_implies, true_implies, forall_const, st_aloadx, st_goto_wx, st_ifCondx, st_iloadx, st_in1, st_in2, st_return_x, kb_Model_must_0, oo_82, jx_Model_must_12, kb_Model_must_12, oa_82]
  exact K
theorem Rw.app {f : Nat → Int32} {ms : List Nat} {x : Nat} (h : Rw f 0 ms) : Rw (upz f ms.length (nI x)) 0 (ms ++ [x]) := fun i hi => by
  rw [List.length_append] at hi
  have hi : i < ms.length + 1 := hi
  rw [Nat.zero_add, gD_app]
  by_cases q : i = ms.length
  · rw [if_pos q, q, upz_eq]
  · rw [if_neg q, upz_ne _ _ q]
    have := h i (by omega)
    rw [Nat.zero_add] at this
    exact this
set_option maxRecDepth 20000 in
theorem m_makesL {k c : Nat} {ms : List Nat} (hl : LV F k c ms) (hm : ms.length < 260) {x : Nat} (K : ∀ F', LV F' k c (ms ++ [x]) → Pp F F' → Q none (ov h F' J V)) : am_cl (d + 2) 198 [.ref 82, .int (nI x)] (ov h F J V) Q := by
  simp only [ax0, ex_cons, am_get, upz_at, true_and, and_true, Nat.reduceAdd, Nat.reduceLeDiff, Nat.reduceEqDiff, Nat.reduceSub, Int32.reduceOfInt, Int32.reduceAdd, Int32.reduceMul, Int32.reduceSub, ↓reduceIte, Int32.reduceLT, Int32.reduceLE, Int32.reduceToNatClampNeg, Nat.reduceMod, Nat.reduceLT, List.length_cons, List.length_nil, eq_self, true_or, or_true, and_self, implies_true, not_true_eq_false, not_false_eq_true, false_implies, true_implies, forall_const, st_aloadx, st_getfieldx, st_goto_wx, st_iconstx, st_ifCondx, st_if_icmpx, st_in1, kb_Model_makes_0, oo_82, og_82_18, oa_82, cx_Model_makes]
  refine m_fineL hl ?_
  simp only [ax0, ex_cons, am_get, upz_at, true_and, and_true, Nat.reduceAdd, Nat.reduceLeDiff, Nat.reduceEqDiff, Nat.reduceSub, Int32.reduceOfInt, Int32.reduceAdd, Int32.reduceMul, Int32.reduceSub, ↓reduceIte, Int32.reduceLT, Int32.reduceLE, Int32.reduceToNatClampNeg, Nat.reduceMod, Nat.reduceLT, List.length_cons, List.length_nil, eq_self, true_or, or_true, and_self, implies_true, not_true_eq_false, not_false_eq_true, false_implies, true_implies, forall_const, st_aloadx, st_dupx, st_dup_1x, st_getfieldx, st_goto_wx, st_iaddx, st_iastorex, st_iconstx, st_ifCondx, st_if_icmpx, st_iloadx, st_in1, st_putfieldx, st_return_x, kb_Model_makes_0, oo_82, og_82_18, jx_Model_makes_18, kb_Model_makes_18, og_82_17, op_82_18, oa_82, os_82, oa_93, ow_93, os_93, hl.2.2.1, nk_neg (show ms.length < 2147483648 by omega), nk_cl (show ms.length < 2147483648 by omega), hm, show (nI ms.length = (260 : Int32)) = (ms.length = 260) from nk_eq (b := 260) (by omega) (by decide), show ¬ ms.length = 260 by omega, nk_succ, upz_ne F _ (show (82 : Nat) ≠ 93 by decide)]
  refine K _ ⟨?_, ?_, ?_, ?_, ?_⟩ ⟨fun a h1 h2 => by rw [upz_ne _ _ h1, upz_ne _ _ h2], fun i h1 h2 h3 h4 => by rw [upz_eq, upz_ne _ _ h3]⟩
  · rw [upz_eq, upz_ne _ _ (by decide)]; exact hl.1
  · rw [upz_eq, upz_ne _ _ (by decide)]; exact hl.2.1
  · rw [upz_eq, upz_eq, List.length_append]; rfl
  · rw [upz_eq, upz_ne _ _ (by decide)]; exact hl.2.2.2.1
  · rw [upz_ne _ _ (by decide), upz_eq]; exact hl.2.2.2.2.app
set_option maxRecDepth 20000 in
theorem m_makesD {e : Nat} (hl : DE F e) {x : Int32} (K : Q none (ov h F J V)) : am_cl (d + 2) 198 [.ref 82, .int x] (ov h F J V) Q := by
  simp only [ax0, ex_cons, am_get, upz_at, true_and, and_true, Nat.reduceAdd, Nat.reduceLeDiff, Nat.reduceEqDiff, Nat.reduceSub, Int32.reduceOfInt, Int32.reduceAdd, Int32.reduceMul, Int32.reduceSub, ↓reduceIte, Int32.reduceLT, Int32.reduceLE, Int32.reduceToNatClampNeg, Nat.reduceMod, Nat.reduceLT, List.length_cons, List.length_nil, eq_self, true_or, or_true, and_self, implies_true, not_true_eq_false, not_false_eq_true, false_implies, true_implies, forall_const, st_aloadx, st_getfieldx, st_goto_wx, st_iconstx, st_ifCondx, st_if_icmpx, st_in1, kb_Model_makes_0, oo_82, og_82_18, oa_82, cx_Model_makes]
  refine m_fineD hl ?_
  simp only [ax0, ex_cons, am_get, upz_at, true_and, and_true, Nat.reduceAdd, Nat.reduceLeDiff, Nat.reduceEqDiff, Nat.reduceSub, Int32.reduceOfInt, Int32.reduceAdd, Int32.reduceMul, Int32.reduceSub, ↓reduceIte, Int32.reduceLT, Int32.reduceLE, Int32.reduceToNatClampNeg, Nat.reduceMod, Nat.reduceLT, List.length_cons, List.length_nil, eq_self, true_or, or_true, and_self, implies_true, not_true_eq_false, not_false_eq_true, false_implies, true_implies, forall_const, st_aloadx, st_getfieldx, st_goto_wx, st_iconstx, st_ifCondx, st_if_icmpx, st_in1, st_return_x, kb_Model_makes_0, oo_82, og_82_18, jx_Model_makes_17, kb_Model_makes_17, oa_82]
  exact K
set_option maxRecDepth 20000 in
theorem m_plainD {e : Nat} (hl : DE F e) {dp : Int32} (K : Q none (ov h F J V)) : am_cl (d + 3) 201 [.ref 82, .int dp] (ov h F J V) Q := by
  simp only [ax0, ex_cons, am_get, upz_at, true_and, and_true, Nat.reduceAdd, Nat.reduceLeDiff, Nat.reduceEqDiff, Nat.reduceSub, Int32.reduceOfInt, Int32.reduceAdd, Int32.reduceMul, Int32.reduceSub, ↓reduceIte, Int32.reduceLT, Int32.reduceLE, Int32.reduceToNatClampNeg, Nat.reduceMod, Nat.reduceLT, List.length_cons, List.length_nil, eq_self, true_or, or_true, and_self, implies_true, not_true_eq_false, not_false_eq_true, false_implies, true_implies, forall_const, st_goto_wx, st_iconstx, st_istorex, am_put, am_nlg, kb_Model_readPlain_0, cx_Model_readPlain]
  rw [jx_Model_readPlain_2]
  simp only [ax0, ex_cons, am_get, upz_at, true_and, and_true, Nat.reduceAdd, Nat.reduceLeDiff, Nat.reduceEqDiff, Nat.reduceSub, Int32.reduceOfInt, Int32.reduceAdd, Int32.reduceMul, Int32.reduceSub, ↓reduceIte, Int32.reduceLT, Int32.reduceLE, Int32.reduceToNatClampNeg, Nat.reduceMod, Nat.reduceLT, List.length_cons, List.length_nil, eq_self, true_or, or_true, and_self, implies_true, not_true_eq_false, not_false_eq_true, false_implies, true_implies, forall_const, st_aloadx, st_gotox, st_iconstx, st_ifCondx, st_iincx, st_in2, am_put, am_nlg, kb_Model_readPlain_2, oo_82, oa_82]
  refine m_takes0D hl ?_
  simp only [ax0, ex_cons, am_get, upz_at, true_and, and_true, Nat.reduceAdd, Nat.reduceLeDiff, Nat.reduceEqDiff, Nat.reduceSub, Int32.reduceOfInt, Int32.reduceAdd, Int32.reduceMul, Int32.reduceSub, ↓reduceIte, Int32.reduceLT, Int32.reduceLE, Int32.reduceToNatClampNeg, Nat.reduceMod, Nat.reduceLT, List.length_cons, List.length_nil, eq_self, true_or, or_true, and_self, implies_true, not_true_eq_false, not_false_eq_true, false_implies, true_implies, forall_const, st_aloadx, st_gotox, st_iconstx, st_ifCondx, st_iincx, st_in1, st_in2, st_return_x, am_put, am_nlg, kb_Model_readPlain_2, oo_82, jx_Model_readPlain_17, kb_Model_readPlain_17, oa_82]
  refine m_fineD hl ?_
  simp only [ax0, ex_cons, am_get, upz_at, true_and, and_true, Nat.reduceAdd, Nat.reduceLeDiff, Nat.reduceEqDiff, Nat.reduceSub, Int32.reduceOfInt, Int32.reduceAdd, Int32.reduceMul, Int32.reduceSub, ↓reduceIte, Int32.reduceLT, Int32.reduceLE, Int32.reduceToNatClampNeg, Nat.reduceMod, Nat.reduceLT, List.length_cons, List.length_nil, eq_self, true_or, or_true, and_self, implies_true, not_true_eq_false, not_false_eq_true, false_implies, true_implies, forall_const, st_aloadx, st_ifCondx, st_in1, st_return_x, jx_Model_readPlain_17, kb_Model_readPlain_17, oo_82, oa_82]
  exact K
set_option maxRecDepth 20000 in
theorem m_bothD {e : Nat} (hl : DE F e) {dp : Int32} (K : Q none (ov h F J V)) : am_cl (d + 4) 200 [.ref 82, .int dp] (ov h F J V) Q := by
  simp only [ax0, ex_cons, am_get, upz_at, true_and, and_true, Nat.reduceAdd, Nat.reduceLeDiff, Nat.reduceEqDiff, Nat.reduceSub, Int32.reduceOfInt, Int32.reduceAdd, Int32.reduceMul, Int32.reduceSub, ↓reduceIte, Int32.reduceLT, Int32.reduceLE, Int32.reduceToNatClampNeg, Nat.reduceMod, Nat.reduceLT, List.length_cons, List.length_nil, eq_self, true_or, or_true, and_self, implies_true, not_true_eq_false, not_false_eq_true, false_implies, true_implies, forall_const, st_aloadx, st_goto_wx, st_iloadx, st_in2, kb_Model_readBoth_0, oo_82, oa_82, cx_Model_readBoth]
  refine m_plainD hl ?_
  simp only [ax0, ex_cons, am_get, upz_at, true_and, and_true, Nat.reduceAdd, Nat.reduceLeDiff, Nat.reduceEqDiff, Nat.reduceSub, Int32.reduceOfInt, Int32.reduceAdd, Int32.reduceMul, Int32.reduceSub, ↓reduceIte, Int32.reduceLT, Int32.reduceLE, Int32.reduceToNatClampNeg, Nat.reduceMod, Nat.reduceLT, List.length_cons, List.length_nil, eq_self, true_or, or_true, and_self, implies_true, not_true_eq_false, not_false_eq_true, false_implies, true_implies, forall_const, st_aloadx, st_goto_wx, st_iloadx, st_in2, kb_Model_readBoth_0, oo_82, oa_82]
  rw [jx_Model_readBoth_5]
  simp only [ax0, ex_cons, am_get, upz_at, true_and, and_true, Nat.reduceAdd, Nat.reduceLeDiff, Nat.reduceEqDiff, Nat.reduceSub, Int32.reduceOfInt, Int32.reduceAdd, Int32.reduceMul, Int32.reduceSub, ↓reduceIte, Int32.reduceLT, Int32.reduceLE, Int32.reduceToNatClampNeg, Nat.reduceMod, Nat.reduceLT, List.length_cons, List.length_nil, eq_self, true_or, or_true, and_self, implies_true, not_true_eq_false, not_false_eq_true, false_implies, true_implies, forall_const, st_aloadx, st_gotox, st_iconstx, st_ifCondx, st_iloadx, st_in2, kb_Model_readBoth_5, oo_82, oa_82]
  refine m_takes0D hl ?_
  simp only [ax0, ex_cons, am_get, upz_at, true_and, and_true, Nat.reduceAdd, Nat.reduceLeDiff, Nat.reduceEqDiff, Nat.reduceSub, Int32.reduceOfInt, Int32.reduceAdd, Int32.reduceMul, Int32.reduceSub, ↓reduceIte, Int32.reduceLT, Int32.reduceLE, Int32.reduceToNatClampNeg, Nat.reduceMod, Nat.reduceLT, List.length_cons, List.length_nil, eq_self, true_or, or_true, and_self, implies_true, not_true_eq_false, not_false_eq_true, false_implies, true_implies, forall_const, st_aloadx, st_gotox, st_iconstx, st_ifCondx, st_iloadx, st_in2, st_return_x, kb_Model_readBoth_5, oo_82, jx_Model_readBoth_34, kb_Model_readBoth_34, oa_82]
  exact K
set_option maxRecDepth 20000 in
theorem m_termD {e : Nat} (hl : DE F e) {dp : Int32} (K : Q none (ov h F J V)) : am_cl (d + 5) 199 [.ref 82, .int dp] (ov h F J V) Q := by
  simp only [ax0, ex_cons, am_get, upz_at, true_and, and_true, Nat.reduceAdd, Nat.reduceLeDiff, Nat.reduceEqDiff, Nat.reduceSub, Int32.reduceOfInt, Int32.reduceAdd, Int32.reduceMul, Int32.reduceSub, ↓reduceIte, Int32.reduceLT, Int32.reduceLE, Int32.reduceToNatClampNeg, Nat.reduceMod, Nat.reduceLT, List.length_cons, List.length_nil, eq_self, true_or, or_true, and_self, implies_true, not_true_eq_false, not_false_eq_true, false_implies, true_implies, forall_const, st_aloadx, st_goto_wx, st_iloadx, st_in2, kb_Model_readsTerm_0, oo_82, oa_82, cx_Model_readsTerm]
  refine m_bothD hl ?_
  simp only [ax0, ex_cons, am_get, upz_at, true_and, and_true, Nat.reduceAdd, Nat.reduceLeDiff, Nat.reduceEqDiff, Nat.reduceSub, Int32.reduceOfInt, Int32.reduceAdd, Int32.reduceMul, Int32.reduceSub, ↓reduceIte, Int32.reduceLT, Int32.reduceLE, Int32.reduceToNatClampNeg, Nat.reduceMod, Nat.reduceLT, List.length_cons, List.length_nil, eq_self, true_or, or_true, and_self, implies_true, not_true_eq_false, not_false_eq_true, false_implies, true_implies, forall_const, st_aloadx, st_goto_wx, st_iloadx, st_in2, kb_Model_readsTerm_0, oo_82, oa_82]
  rw [jx_Model_readsTerm_5]
  simp only [ax0, ex_cons, am_get, upz_at, true_and, and_true, Nat.reduceAdd, Nat.reduceLeDiff, Nat.reduceEqDiff, Nat.reduceSub, Int32.reduceOfInt, Int32.reduceAdd, Int32.reduceMul, Int32.reduceSub, ↓reduceIte, Int32.reduceLT, Int32.reduceLE, Int32.reduceToNatClampNeg, Nat.reduceMod, Nat.reduceLT, List.length_cons, List.length_nil, eq_self, true_or, or_true, and_self, implies_true, not_true_eq_false, not_false_eq_true, false_implies, true_implies, forall_const, st_aloadx, st_gotox, st_iconstx, st_ifCondx, st_iloadx, st_in2, kb_Model_readsTerm_5, oo_82, oa_82]
  refine m_takes0D hl ?_
  simp only [ax0, ex_cons, am_get, upz_at, true_and, and_true, Nat.reduceAdd, Nat.reduceLeDiff, Nat.reduceEqDiff, Nat.reduceSub, Int32.reduceOfInt, Int32.reduceAdd, Int32.reduceMul, Int32.reduceSub, ↓reduceIte, Int32.reduceLT, Int32.reduceLE, Int32.reduceToNatClampNeg, Nat.reduceMod, Nat.reduceLT, List.length_cons, List.length_nil, eq_self, true_or, or_true, and_self, implies_true, not_true_eq_false, not_false_eq_true, false_implies, true_implies, forall_const, st_aloadx, st_gotox, st_iconstx, st_ifCondx, st_iloadx, st_in2, st_return_x, kb_Model_readsTerm_5, oo_82, jx_Model_readsTerm_28, kb_Model_readsTerm_28, oa_82]
  exact K
end MRA
