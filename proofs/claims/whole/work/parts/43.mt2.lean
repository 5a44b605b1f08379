/-! ===== the model: what is told and what follows, by regions ===== -/
abbrev tT : Type := (Nat → Bool) × List (Nat → Bool) × (Nat → Nat → Bool)
def tE : tT := (fun _ => false, [], fun _ _ => true)
def MT (F : Nat → Nat → Int32) (T : tT) : Prop := (∀ r, r < 256 → bI (F 97) r = T.1 r) ∧ F 82 31 = nI T.2.1.length ∧ (∀ i, i < T.2.1.length → ∀ r, r < 256 → bI (fun k => F 98 (8 * i + k)) r = T.2.1.getD i (fun _ => false) r) ∧ ∀ n, n < 4 → ∀ r, r < 256 → bI (fun k => F 99 (8 * n + k)) r = T.2.2 n r
def shz (T : tT) (row bes : Nat → Bool) : Bool := al (fun r => !(row r && !T.1 r && !bes r))
def qz (T : tT) (bes : Nat → Bool) : Bool := T.2.1.any (fun w => shz T w bes) || (List.range 4).any (fun n => shz T (T.2.2 n) bes)
theorem li_any {α : Type} {l : List α} {p : α → Bool} (x : α) : l.any p = (List.range l.length).any (fun i => p (l.getD i x)) := by
  rw [Bool.eq_iff_iff, List.any_eq_true, rg_any]
  constructor
  · rintro ⟨y, hy, hp⟩
    obtain ⟨i, hi, e⟩ := List.getElem_of_mem hy
    refine ⟨i, hi, ?_⟩
    rw [List.getD_eq_getElem?_getD, List.getElem?_eq_getElem hi, e]; exact hp
  · rintro ⟨i, hi, hp⟩
    rw [List.getD_eq_getElem?_getD, List.getElem?_eq_getElem hi] at hp
    exact ⟨_, List.getElem_mem hi, hp⟩
theorem rg_anyc {n : Nat} {p q : Nat → Bool} (h : ∀ i, i < n → p i = q i) : (List.range n).any p = (List.range n).any q := by
  rw [Bool.eq_iff_iff, rg_any, rg_any]
  exact ⟨fun ⟨i, h1, h2⟩ => ⟨i, h1, by rw [← h i h1]; exact h2⟩, fun ⟨i, h1, h2⟩ => ⟨i, h1, by rw [h i h1]; exact h2⟩⟩
theorem wq_qz {F : Nat → Nat → Int32} {T : tT} {bes : Nat → Bool} (hT : MT F T) (hb : ∀ r, r < 256 → bI (F 100) r = bes r) : wq T.2.1.length F = qz T bes := by
  obtain ⟨h1, h2, h3, h4⟩ := hT
  unfold wq qz
  rw [li_any (fun _ => false)]
  congr 1
  · exact rg_anyc (fun i hi => by
      rw [sh8_al]
      exact al_congr (fun r hr => by rw [h3 i hi r hr, h1 r hr, hb r hr]))
  · exact rg_anyc (fun i hi => by
      rw [sh8_al]
      exact al_congr (fun r hr => by rw [h4 i hi r hr, h1 r hr, hb r hr]))
theorem MT.s100 {F : Nat → Nat → Int32} {T : tT} (hT : MT F T) (f : Nat → Int32) : MT (upz F 100 f) T := hT
/-- what follows from what is told: of a set that it says is barred (0), that a thing is there (1), of a name's thing (2) -/
def fz (T : tT) (how : Nat) (set : Nat → Bool) (who : Nat) : Bool := if how = 1 then qz T set else qz T (fun _ => false) || (if how = 0 then al (fun r => !(set r && !T.1 r)) else al (fun r => !(T.2.2 who r && !T.1 r && !set r)))
theorem wz8 {x : Nat → Int32} {p : Nat → Bool} (h : ∀ r, r < 256 → bI x r = !p r) : (List.range 8).all (fun k => decide (x k = 0)) = al p := by
  rw [Bool.eq_iff_iff, rg_all, al_iff]
  have h1 : (∀ i, i < 8 → decide (x i = 0) = true) ↔ ∀ i, i < 8 → x i = 0 := by simp only [decide_eq_true_eq]
  rw [h1, bI_all0]
  constructor
  · intro g r hr
    have := g r hr
    rw [h r hr] at this
    simpa using this
  · intro g r hr
    rw [h r hr, g r hr]; rfl
section MT2
variable {d : Nat} {h : am_H} {F : Nat → Nat → Int32} {J : Nat → Nat → Int64} {V : Nat → Nat → Value} {Q : am_Q}
set_option maxRecDepth 20000 in
theorem m_isQuarrel {T : tT} (hT : MT F T) (hw : T.2.1.length ≤ 40) (K : ∀ f, Q (some (.int (b2i (qz T (fun _ => false))))) (ov h (upz F 100 f) J V)) : am_cl (d + 3) 235 [.ref 82] (ov h F J V) Q := by
  simp only [ax0, ex_cons, am_get, upz_at, true_and, and_true, Nat.reduceAdd, Nat.reduceLeDiff, Nat.reduceEqDiff, Nat.reduceSub, Int32.reduceOfInt, ↓reduceIte, Int32.reduceLT, Int32.reduceLE, Int32.reduceToNatClampNeg, Nat.reduceMod, Nat.reduceLT, List.length_cons, List.length_nil, eq_self, true_or, or_true, and_self, implies_true, not_true_eq_false, not_false_eq_true, false_implies, true_implies, forall_const, st_aload, st_freturn, st_in1, cx_Model_isQuarrel, kb_Model_isQuarrel_0, oo_82, oa_82]
  refine m_nothingBesides ?_
  simp only [ax0, ex_cons, am_get, upz_at, true_and, and_true, Nat.reduceAdd, Nat.reduceLeDiff, Nat.reduceEqDiff, Nat.reduceSub, Int32.reduceOfInt, ↓reduceIte, Int32.reduceLT, Int32.reduceLE, Int32.reduceToNatClampNeg, Nat.reduceMod, Nat.reduceLT, List.length_cons, List.length_nil, eq_self, true_or, or_true, and_self, implies_true, not_true_eq_false, not_false_eq_true, false_implies, true_implies, forall_const, st_aload, st_freturn, st_in1, kb_Model_isQuarrel_0, oo_82, oa_82]
  refine m_quarrelsNow (n := T.2.1.length) (by exact hT.2.1) hw ?_
  rw [wq_qz (hT.s100 _) (bes := fun _ => false) (fun r hr => by
    show bI (ovr _ _ _ _) r = false
    rw [bI_congr hr (y := fun _ => 0) (fun k hk => ovr_in (by omega) (by omega)), bI_zero])]
  have := K (ovr (F 100) (fun _ => 0) 0 8)
  cases hq : qz T (fun _ => false) <;> rw [hq] at this <;> simp only [ax0, ex_cons, am_get, upz_at, true_and, and_true, Nat.reduceAdd, Nat.reduceLeDiff, Nat.reduceEqDiff, Nat.reduceSub, Int32.reduceOfInt, ↓reduceIte, Int32.reduceLT, Int32.reduceLE, Int32.reduceToNatClampNeg, Nat.reduceMod, Nat.reduceLT, List.length_cons, List.length_nil, eq_self, true_or, or_true, and_self, implies_true, not_true_eq_false, not_false_eq_true, false_implies, true_implies, forall_const, st_aload, st_freturn, st_in1, kb_Model_isQuarrel_0, oo_82, oa_82, b2i_t, b2i_f] <;> exact this
set_option maxRecDepth 20000 in
theorem m_followsThat1 {T : tT} (hT : MT F T) (hw : T.2.1.length ≤ 40) {a : Nat} (ha : a + 8 ≤ 2698) {who : Int32} {set : Nat → Bool} (hs : ∀ r, r < 256 → bI (fun k => F 84 (a + k)) r = set r) (K : ∀ f, Q (some (.int (b2i (qz T set)))) (ov h (upz F 100 f) J V)) : am_cl (d + 3) 236 [.ref 82, .int 1, .int (nI a), .int who] (ov h F J V) Q := by
  simp only [ax0, ex_cons, am_get, upz_at, true_and, and_true, Nat.reduceAdd, Nat.reduceLeDiff, Nat.reduceEqDiff, Nat.reduceSub, Int32.reduceOfInt, ↓reduceIte, Int32.reduceLT, Int32.reduceLE, Int32.reduceToNatClampNeg, Nat.reduceMod, Nat.reduceLT, List.length_cons, List.length_nil, eq_self, true_or, or_true, and_self, implies_true, not_true_eq_false, not_false_eq_true, false_implies, true_implies, forall_const, st_aload, st_freturn, st_getfield, st_goto, st_goto_w, st_iadd, st_iaload, st_iand, st_iconst, st_ifCond, st_if_icmp, st_iinc, st_iload, st_imul, st_in1, st_istore, st_ixor, am_put, am_nlg, cx_Model_followsThat, kb_Model_followsThat_0, jx_Model_followsThat_37, kb_Model_followsThat_37, oo_82, jx_Model_followsThat_42, kb_Model_followsThat_42, jx_Model_followsThat_55, kb_Model_followsThat_55, jx_Model_followsThat_99, kb_Model_followsThat_99, og_82_30, og_82_28, og_82_2, jx_Model_followsThat_133, kb_Model_followsThat_133, jx_Model_followsThat_140, kb_Model_followsThat_140, jx_Model_followsThat_141, kb_Model_followsThat_141, jx_Model_followsThat_149, kb_Model_followsThat_149, oa_82, oa_84, or_84, oa_97, or_97, oa_99, or_99]
  have e0 : ov h F J V = ov h (upz F 100 (ovr (F 100) (fun k => F 84 (a + k)) 0 0)) J V := by rw [upz_ovr0]
  rw [e0]
  refine am_iter 8 (fun k => [.ref 82, .int 1, .int (nI a), .int who, .int (nI k), am_dum]) (fun k => ov h (upz F 100 (ovr (F 100) (fun k => F 84 (a + k)) 0 k)) J V) (fun _ => True) (fun k hk hI go => ?_) (fun hI => ?_) 0 (by omega) trivial
  · rw [jx_Model_followsThat_8]
    simp only [ax0, ex_cons, am_get, upz_at, true_and, and_true, Nat.reduceAdd, Nat.reduceLeDiff, Nat.reduceEqDiff, Nat.reduceSub, Int32.reduceOfInt, ↓reduceIte, Int32.reduceLT, Int32.reduceLE, Int32.reduceToNatClampNeg, Nat.reduceMod, Nat.reduceLT, List.length_cons, List.length_nil, eq_self, true_or, or_true, and_self, implies_true, not_true_eq_false, not_false_eq_true, false_implies, true_implies, forall_const, st_aload, st_getfield, st_goto, st_iadd, st_iaload, st_iastore, st_iconst, st_if_icmp, st_iinc, st_iload, am_put, am_nlg, kb_Model_followsThat_8, og_82_32, og_82_2, oa_82, oa_84, or_84, ow_84, os_84, oa_100, or_100, ow_100, os_100, nk_neg (show k < 2147483648 by omega), nk_cl (show k < 2147483648 by omega), nk_neg (show a + k < 2147483648 by omega), nk_cl (show a + k < 2147483648 by omega), show ((8 : Int32) ≤ nI (k)) = (8 ≤ k) from nk_le (a := 8) (b := k) (by omega) (by omega), show ¬ 8 ≤ k by omega, hk, nk_succ, nk_add, upz_upd, show a + k < 2698 by omega]
    have e := ovr_S (F 100) (fun k => F 84 (a + k)) 0 k rfl
    rw [Nat.zero_add] at e
    rw [e]
    exact go trivial
  · rw [jx_Model_followsThat_8]
    simp only [ax0, ex_cons, am_get, upz_at, true_and, and_true, Nat.reduceAdd, Nat.reduceLeDiff, Nat.reduceEqDiff, Nat.reduceSub, Int32.reduceOfInt, ↓reduceIte, Int32.reduceLT, Int32.reduceLE, Int32.reduceToNatClampNeg, Nat.reduceMod, Nat.reduceLT, List.length_cons, List.length_nil, eq_self, true_or, or_true, and_self, implies_true, not_true_eq_false, not_false_eq_true, false_implies, true_implies, forall_const, st_aload, st_freturn, st_getfield, st_goto, st_iadd, st_iaload, st_iastore, st_iconst, st_if_icmp, st_iinc, st_iload, st_in1, am_put, am_nlg, kb_Model_followsThat_8, og_82_32, og_82_2, jx_Model_followsThat_37, kb_Model_followsThat_37, oo_82, oa_82, oa_84, or_84, ow_84, os_84, oa_100, or_100, ow_100, os_100, show ((8 : Int32) ≤ nI (8)) = (8 ≤ 8) from nk_le (a := 8) (b := 8) (by omega) (by omega)]
    refine m_quarrelsNow (n := T.2.1.length) (by exact hT.2.1) hw ?_
    rw [wq_qz (hT.s100 _) (bes := set) (fun r hr => by
      show bI (ovr _ _ _ _) r = set r
      exact (bI_congr hr (fun k hk => ovr_in (g := fun k => F 84 (a + k)) (by omega) (by omega))).trans (hs r hr))]
    have := K (ovr (F 100) (fun k => F 84 (a + k)) 0 8)
    cases hq : qz T set <;> rw [hq] at this <;> simp only [ax0, ex_cons, am_get, upz_at, true_and, and_true, Nat.reduceAdd, Nat.reduceLeDiff, Nat.reduceEqDiff, Nat.reduceSub, Int32.reduceOfInt, ↓reduceIte, Int32.reduceLT, Int32.reduceLE, Int32.reduceToNatClampNeg, Nat.reduceMod, Nat.reduceLT, List.length_cons, List.length_nil, eq_self, true_or, or_true, and_self, implies_true, not_true_eq_false, not_false_eq_true, false_implies, true_implies, forall_const, st_aload, st_freturn, st_in1, jx_Model_followsThat_37, kb_Model_followsThat_37, oo_82, oa_82, b2i_t, b2i_f] <;> exact this
set_option maxRecDepth 20000 in
theorem m_followsThat0 {T : tT} (hT : MT F T) (hw : T.2.1.length ≤ 40) {a : Nat} (ha : a + 8 ≤ 2698) {who : Int32} {w : Nat} {set : Nat → Bool} (hs : ∀ r, r < 256 → bI (fun k => F 84 (a + k)) r = set r) (K : ∀ f, Q (some (.int (b2i (fz T 0 set w)))) (ov h (upz F 100 f) J V)) : am_cl (d + 3) 236 [.ref 82, .int 0, .int (nI a), .int who] (ov h F J V) Q := by
  simp only [ax0, ex_cons, am_get, upz_at, true_and, and_true, Nat.reduceAdd, Nat.reduceLeDiff, Nat.reduceEqDiff, Nat.reduceSub, Int32.reduceOfInt, ↓reduceIte, Int32.reduceLT, Int32.reduceLE, Int32.reduceToNatClampNeg, Nat.reduceMod, Nat.reduceLT, List.length_cons, List.length_nil, eq_self, true_or, or_true, and_self, implies_true, not_true_eq_false, not_false_eq_true, false_implies, true_implies, forall_const, st_aload, st_freturn, st_getfield, st_goto, st_goto_w, st_iadd, st_iaload, st_iand, st_iconst, st_ifCond, st_if_icmp, st_iinc, st_iload, st_imul, st_in1, st_istore, st_ixor, am_put, am_nlg, cx_Model_followsThat, kb_Model_followsThat_0, jx_Model_followsThat_37, kb_Model_followsThat_37, oo_82, jx_Model_followsThat_42, kb_Model_followsThat_42, jx_Model_followsThat_55, kb_Model_followsThat_55, jx_Model_followsThat_99, kb_Model_followsThat_99, og_82_30, og_82_28, og_82_2, jx_Model_followsThat_133, kb_Model_followsThat_133, jx_Model_followsThat_140, kb_Model_followsThat_140, jx_Model_followsThat_141, kb_Model_followsThat_141, jx_Model_followsThat_149, kb_Model_followsThat_149, oa_82, oa_84, or_84, oa_97, or_97, oa_99, or_99]
  refine m_nothingBesides ?_
  simp only [ax0, ex_cons, am_get, upz_at, true_and, and_true, Nat.reduceAdd, Nat.reduceLeDiff, Nat.reduceEqDiff, Nat.reduceSub, Int32.reduceOfInt, ↓reduceIte, Int32.reduceLT, Int32.reduceLE, Int32.reduceToNatClampNeg, Nat.reduceMod, Nat.reduceLT, List.length_cons, List.length_nil, eq_self, true_or, or_true, and_self, implies_true, not_true_eq_false, not_false_eq_true, false_implies, true_implies, forall_const, st_aload, st_freturn, st_iconst, st_ifCond, st_in1, jx_Model_followsThat_42, kb_Model_followsThat_42, oo_82, oa_82]
  refine m_quarrelsNow (n := T.2.1.length) (by exact hT.2.1) hw ?_
  rw [wq_qz (hT.s100 _) (bes := fun _ => false) (fun r hr => by
    show bI (ovr _ _ _ _) r = false
    rw [bI_congr hr (y := fun _ => 0) (fun k hk => ovr_in (by omega) (by omega)), bI_zero])]
  have K1 := K (ovr (F 100) (fun _ => 0) 0 8)
  have ef : fz T 0 set w = (qz T (fun _ => false) || al (fun r => !(set r && !T.1 r))) := rfl
  rw [ef] at K1
  generalize ovr (F 100) (fun _ => 0) 0 8 = f at K1 ⊢
  simp only [ax0, ex_cons, am_get, upz_at, true_and, and_true, Nat.reduceAdd, Nat.reduceLeDiff, Nat.reduceEqDiff, Nat.reduceSub, Int32.reduceOfInt, ↓reduceIte, Int32.reduceLT, Int32.reduceLE, Int32.reduceToNatClampNeg, Nat.reduceMod, Nat.reduceLT, List.length_cons, List.length_nil, eq_self, true_or, or_true, and_self, implies_true, not_true_eq_false, not_false_eq_true, false_implies, true_implies, forall_const, st_aload, st_freturn, st_goto_w, st_iconst, st_ifCond, st_in1, st_istore, am_put, am_nlg, jx_Model_followsThat_42, kb_Model_followsThat_42, oo_82, jx_Model_followsThat_55, kb_Model_followsThat_55, oa_82]
  refine ifb (fun e => ?_) (fun e => ?_)
  · rw [e, Bool.false_or] at K1
    have hx : ∀ r, r < 256 → bI (fun k => F 84 (a + k) &&& (F 97 k ^^^ -1)) r = !(!(set r && !T.1 r)) := fun r hr => by
      rw [bI_and (fun k => F 84 (a + k)) (fun k => F 97 k ^^^ -1), bI_not, hs r hr, hT.1 r hr, Bool.not_not]
    rw [← wz8 hx] at K1
    have key : ∀ m, m ≤ 8 → True → am_W kc_Model_followsThat (am_cl (d + 2)) Q 61 ((fun m => [.ref 82, .int 0, .int (nI a), .int who, .int (b2i ((List.range m).all (fun k => decide (F 84 (a + k) &&& (F 97 k ^^^ -1) = 0)))), .int (nI m)]) m) [] ((fun _ => ov h (upz F 100 f) J V) m) := am_iter 8 _ _ (fun _ => True) (fun k hk _ go => by
      rw [jx_Model_followsThat_61]
      have go := go trivial
      rw [List.range_succ, List.all_append] at go
      simp only [List.all_cons, List.all_nil, Bool.and_true] at go
      cases hc : (List.range k).all (fun k => decide (F 84 (a + k) &&& (F 97 k ^^^ -1) = 0))
      · rw [hc, Bool.false_and, b2i_f] at go
        simp only [ax0, ex_cons, am_get, upz_at, true_and, and_true, Nat.reduceAdd, Nat.reduceLeDiff, Nat.reduceEqDiff, Nat.reduceSub, Int32.reduceOfInt, ↓reduceIte, Int32.reduceLT, Int32.reduceLE, Int32.reduceToNatClampNeg, Nat.reduceMod, Nat.reduceLT, List.length_cons, List.length_nil, eq_self, true_or, or_true, and_self, implies_true, not_true_eq_false, not_false_eq_true, false_implies, true_implies, forall_const, st_aload, st_getfield, st_goto, st_goto_w, st_iadd, st_iaload, st_iand, st_iconst, st_ifCond, st_if_icmp, st_iinc, st_iload, st_istore, st_ixor, am_put, am_nlg, kb_Model_followsThat_61, og_82_2, og_82_28, jx_Model_followsThat_140, kb_Model_followsThat_140, jx_Model_followsThat_141, kb_Model_followsThat_141, oa_82, oa_84, or_84, oa_97, or_97, show ((8 : Int32) ≤ nI (k)) = (8 ≤ k) from nk_le (a := 8) (b := k) (by omega) (by omega), show ¬ 8 ≤ k by omega, b2i_f, nk_succ]
        exact go
      · rw [hc, Bool.true_and] at go
        simp only [ax0, ex_cons, am_get, upz_at, true_and, and_true, Nat.reduceAdd, Nat.reduceLeDiff, Nat.reduceEqDiff, Nat.reduceSub, Int32.reduceOfInt, ↓reduceIte, Int32.reduceLT, Int32.reduceLE, Int32.reduceToNatClampNeg, Nat.reduceMod, Nat.reduceLT, List.length_cons, List.length_nil, eq_self, true_or, or_true, and_self, implies_true, not_true_eq_false, not_false_eq_true, false_implies, true_implies, forall_const, st_aload, st_getfield, st_goto, st_goto_w, st_iadd, st_iaload, st_iand, st_iconst, st_ifCond, st_if_icmp, st_iinc, st_iload, st_istore, st_ixor, am_put, am_nlg, kb_Model_followsThat_61, og_82_2, og_82_28, jx_Model_followsThat_133, kb_Model_followsThat_133, jx_Model_followsThat_140, kb_Model_followsThat_140, jx_Model_followsThat_141, kb_Model_followsThat_141, oa_82, oa_84, or_84, oa_97, or_97, show ((8 : Int32) ≤ nI (k)) = (8 ≤ k) from nk_le (a := 8) (b := k) (by omega) (by omega), show ¬ 8 ≤ k by omega, b2i_t, nk_succ, nk_add, nk_neg (show k < 2147483648 by omega), nk_cl (show k < 2147483648 by omega), nk_neg (show a + k < 2147483648 by omega), nk_cl (show a + k < 2147483648 by omega), hk, show a + k < 2698 by omega]
        by_cases hz : F 84 (a + k) &&& (F 97 k ^^^ -1) = 0
        · rw [decide_eq_true hz, b2i_t] at go
          exact ⟨fun q => absurd hz q, fun _ => go⟩
        · rw [decide_eq_false hz, b2i_f] at go
          exact ⟨fun _ => go, fun q => absurd hz q⟩) (fun _ => by
      rw [jx_Model_followsThat_61]
      simp only [ax0, ex_cons, am_get, upz_at, true_and, and_true, Nat.reduceAdd, Nat.reduceLeDiff, Nat.reduceEqDiff, Nat.reduceSub, Int32.reduceOfInt, ↓reduceIte, Int32.reduceLT, Int32.reduceLE, Int32.reduceToNatClampNeg, Nat.reduceMod, Nat.reduceLT, List.length_cons, List.length_nil, eq_self, true_or, or_true, and_self, implies_true, not_true_eq_false, not_false_eq_true, false_implies, true_implies, forall_const, st_aload, st_freturn, st_getfield, st_goto, st_iadd, st_iaload, st_iand, st_iconst, st_ifCond, st_if_icmp, st_iload, st_ixor, kb_Model_followsThat_61, og_82_2, og_82_28, jx_Model_followsThat_149, kb_Model_followsThat_149, oa_82, oa_84, or_84, oa_97, or_97, show ((8 : Int32) ≤ nI (8)) = (8 ≤ 8) from nk_le (a := 8) (b := 8) (by omega) (by omega)]
      cases hc : (List.range 8).all (fun k => decide (F 84 (a + k) &&& (F 97 k ^^^ -1) = 0)) <;> rw [hc] at K1 <;> simp only [b2i_t, b2i_f, eq_self, true_or, or_true, true_and] <;> exact K1)
    exact key 0 (by omega) trivial
  · rw [e, Bool.true_or] at K1
    exact K1
set_option maxRecDepth 20000 in
theorem m_followsThat2 {T : tT} (hT : MT F T) (hw : T.2.1.length ≤ 40) {a : Nat} (ha : a + 8 ≤ 2698) {w : Nat} (hwh : w < 4) {set : Nat → Bool} (hs : ∀ r, r < 256 → bI (fun k => F 84 (a + k)) r = set r) (K : ∀ f, Q (some (.int (b2i (fz T 2 set w)))) (ov h (upz F 100 f) J V)) : am_cl (d + 3) 236 [.ref 82, .int 2, .int (nI a), .int (nI w)] (ov h F J V) Q := by
  simp only [ax0, ex_cons, am_get, upz_at, true_and, and_true, Nat.reduceAdd, Nat.reduceLeDiff, Nat.reduceEqDiff, Nat.reduceSub, Int32.reduceOfInt, ↓reduceIte, Int32.reduceLT, Int32.reduceLE, Int32.reduceToNatClampNeg, Nat.reduceMod, Nat.reduceLT, List.length_cons, List.length_nil, eq_self, true_or, or_true, and_self, implies_true, not_true_eq_false, not_false_eq_true, false_implies, true_implies, forall_const, st_aload, st_freturn, st_getfield, st_goto, st_goto_w, st_iadd, st_iaload, st_iand, st_iconst, st_ifCond, st_if_icmp, st_iinc, st_iload, st_imul, st_in1, st_istore, st_ixor, am_put, am_nlg, cx_Model_followsThat, kb_Model_followsThat_0, jx_Model_followsThat_37, kb_Model_followsThat_37, oo_82, jx_Model_followsThat_42, kb_Model_followsThat_42, jx_Model_followsThat_55, kb_Model_followsThat_55, jx_Model_followsThat_99, kb_Model_followsThat_99, og_82_30, og_82_28, og_82_2, jx_Model_followsThat_133, kb_Model_followsThat_133, jx_Model_followsThat_140, kb_Model_followsThat_140, jx_Model_followsThat_141, kb_Model_followsThat_141, jx_Model_followsThat_149, kb_Model_followsThat_149, oa_82, oa_84, or_84, oa_97, or_97, oa_99, or_99]
  refine m_nothingBesides ?_
  simp only [ax0, ex_cons, am_get, upz_at, true_and, and_true, Nat.reduceAdd, Nat.reduceLeDiff, Nat.reduceEqDiff, Nat.reduceSub, Int32.reduceOfInt, ↓reduceIte, Int32.reduceLT, Int32.reduceLE, Int32.reduceToNatClampNeg, Nat.reduceMod, Nat.reduceLT, List.length_cons, List.length_nil, eq_self, true_or, or_true, and_self, implies_true, not_true_eq_false, not_false_eq_true, false_implies, true_implies, forall_const, st_aload, st_freturn, st_iconst, st_ifCond, st_in1, jx_Model_followsThat_42, kb_Model_followsThat_42, oo_82, oa_82]
  refine m_quarrelsNow (n := T.2.1.length) (by exact hT.2.1) hw ?_
  rw [wq_qz (hT.s100 _) (bes := fun _ => false) (fun r hr => by
    show bI (ovr _ _ _ _) r = false
    rw [bI_congr hr (y := fun _ => 0) (fun k hk => ovr_in (by omega) (by omega)), bI_zero])]
  have K1 := K (ovr (F 100) (fun _ => 0) 0 8)
  have ef : fz T 2 set w = (qz T (fun _ => false) || al (fun r => !(T.2.2 w r && !T.1 r && !set r))) := rfl
  rw [ef] at K1
  generalize ovr (F 100) (fun _ => 0) 0 8 = f at K1 ⊢
  simp only [ax0, ex_cons, am_get, upz_at, true_and, and_true, Nat.reduceAdd, Nat.reduceLeDiff, Nat.reduceEqDiff, Nat.reduceSub, Int32.reduceOfInt, ↓reduceIte, Int32.reduceLT, Int32.reduceLE, Int32.reduceToNatClampNeg, Nat.reduceMod, Nat.reduceLT, List.length_cons, List.length_nil, eq_self, true_or, or_true, and_self, implies_true, not_true_eq_false, not_false_eq_true, false_implies, true_implies, forall_const, st_aload, st_freturn, st_goto_w, st_iconst, st_ifCond, st_in1, st_istore, am_put, am_nlg, jx_Model_followsThat_42, kb_Model_followsThat_42, oo_82, jx_Model_followsThat_55, kb_Model_followsThat_55, oa_82]
  refine ifb (fun e => ?_) (fun e => ?_)
  · rw [e, Bool.false_or] at K1
    have hx : ∀ r, r < 256 → bI (fun k => F 99 (8 * w + k) &&& (F 97 k ^^^ -1) &&& (F 84 (a + k) ^^^ -1)) r = !(!(T.2.2 w r && !T.1 r && !set r)) := fun r hr => by
      rw [bI_and (fun k => F 99 (8 * w + k) &&& (F 97 k ^^^ -1)) (fun k => F 84 (a + k) ^^^ -1), bI_and (fun k => F 99 (8 * w + k)) (fun k => F 97 k ^^^ -1), bI_not, bI_not (fun k => F 84 (a + k)), hs r hr, hT.1 r hr, hT.2.2.2 w hwh r hr, Bool.not_not]
    rw [← wz8 hx] at K1
    have key : ∀ m, m ≤ 8 → True → am_W kc_Model_followsThat (am_cl (d + 2)) Q 61 ((fun m => [.ref 82, .int 2, .int (nI a), .int (nI w), .int (b2i ((List.range m).all (fun k => decide (F 99 (8 * w + k) &&& (F 97 k ^^^ -1) &&& (F 84 (a + k) ^^^ -1) = 0)))), .int (nI m)]) m) [] ((fun _ => ov h (upz F 100 f) J V) m) := am_iter 8 _ _ (fun _ => True) (fun k hk _ go => by
      rw [jx_Model_followsThat_61]
      have go := go trivial
      rw [List.range_succ, List.all_append] at go
      simp only [List.all_cons, List.all_nil, Bool.and_true] at go
      cases hc : (List.range k).all (fun k => decide (F 99 (8 * w + k) &&& (F 97 k ^^^ -1) &&& (F 84 (a + k) ^^^ -1) = 0))
      · rw [hc, Bool.false_and, b2i_f] at go
        simp only [ax0, ex_cons, am_get, upz_at, true_and, and_true, Nat.reduceAdd, Nat.reduceLeDiff, Nat.reduceEqDiff, Nat.reduceSub, Int32.reduceOfInt, ↓reduceIte, Int32.reduceLT, Int32.reduceLE, Int32.reduceToNatClampNeg, Nat.reduceMod, Nat.reduceLT, List.length_cons, List.length_nil, eq_self, true_or, or_true, and_self, implies_true, not_true_eq_false, not_false_eq_true, false_implies, true_implies, forall_const, st_aload, st_getfield, st_goto, st_goto_w, st_iadd, st_iaload, st_iand, st_iconst, st_ifCond, st_if_icmp, st_iinc, st_iload, st_istore, st_ixor, am_put, am_nlg, kb_Model_followsThat_61, og_82_2, og_82_28, jx_Model_followsThat_140, kb_Model_followsThat_140, jx_Model_followsThat_141, kb_Model_followsThat_141, oa_82, oa_84, or_84, oa_97, or_97, show ((8 : Int32) ≤ nI (k)) = (8 ≤ k) from nk_le (a := 8) (b := k) (by omega) (by omega), show ¬ 8 ≤ k by omega, b2i_f, nk_succ]
        exact go
      · rw [hc, Bool.true_and] at go
        simp only [ax0, ex_cons, am_get, upz_at, true_and, and_true, Nat.reduceAdd, Nat.reduceLeDiff, Nat.reduceEqDiff, Nat.reduceSub, Int32.reduceOfInt, ↓reduceIte, Int32.reduceLT, Int32.reduceLE, Int32.reduceToNatClampNeg, Nat.reduceMod, Nat.reduceLT, List.length_cons, List.length_nil, eq_self, true_or, or_true, and_self, implies_true, not_true_eq_false, not_false_eq_true, false_implies, true_implies, forall_const, st_aload, st_getfield, st_goto, st_goto_w, st_iadd, st_iaload, st_iand, st_iconst, st_ifCond, st_if_icmp, st_iinc, st_iload, st_imul, st_istore, st_ixor, am_put, am_nlg, kb_Model_followsThat_61, og_82_2, og_82_28, jx_Model_followsThat_99, kb_Model_followsThat_99, og_82_30, jx_Model_followsThat_133, kb_Model_followsThat_133, jx_Model_followsThat_140, kb_Model_followsThat_140, jx_Model_followsThat_141, kb_Model_followsThat_141, oa_82, oa_84, or_84, oa_97, or_97, oa_99, or_99, show (8 : Int32) * nI (w) = nI (8 * (w)) from nk_mul (8) (w), nk_neg (show 8 * w + k < 2147483648 by omega), nk_cl (show 8 * w + k < 2147483648 by omega), show 8 * w + k < 32 by omega, show ((8 : Int32) ≤ nI (k)) = (8 ≤ k) from nk_le (a := 8) (b := k) (by omega) (by omega), show ¬ 8 ≤ k by omega, b2i_t, nk_succ, nk_add, nk_neg (show k < 2147483648 by omega), nk_cl (show k < 2147483648 by omega), nk_neg (show a + k < 2147483648 by omega), nk_cl (show a + k < 2147483648 by omega), hk, show a + k < 2698 by omega]
        by_cases hz : F 99 (8 * w + k) &&& (F 97 k ^^^ -1) &&& (F 84 (a + k) ^^^ -1) = 0
        · rw [decide_eq_true hz, b2i_t] at go
          exact ⟨fun q => absurd hz q, fun _ => go⟩
        · rw [decide_eq_false hz, b2i_f] at go
          exact ⟨fun _ => go, fun q => absurd hz q⟩) (fun _ => by
      rw [jx_Model_followsThat_61]
      simp only [ax0, ex_cons, am_get, upz_at, true_and, and_true, Nat.reduceAdd, Nat.reduceLeDiff, Nat.reduceEqDiff, Nat.reduceSub, Int32.reduceOfInt, ↓reduceIte, Int32.reduceLT, Int32.reduceLE, Int32.reduceToNatClampNeg, Nat.reduceMod, Nat.reduceLT, List.length_cons, List.length_nil, eq_self, true_or, or_true, and_self, implies_true, not_true_eq_false, not_false_eq_true, false_implies, true_implies, forall_const, st_aload, st_freturn, st_getfield, st_goto, st_iadd, st_iaload, st_iand, st_iconst, st_ifCond, st_if_icmp, st_iload, st_ixor, kb_Model_followsThat_61, og_82_2, og_82_28, jx_Model_followsThat_149, kb_Model_followsThat_149, oa_82, oa_84, or_84, oa_97, or_97, show ((8 : Int32) ≤ nI (8)) = (8 ≤ 8) from nk_le (a := 8) (b := 8) (by omega) (by omega)]
      cases hc : (List.range 8).all (fun k => decide (F 99 (8 * w + k) &&& (F 97 k ^^^ -1) &&& (F 84 (a + k) ^^^ -1) = 0)) <;> rw [hc] at K1 <;> simp only [b2i_t, b2i_f, eq_self, true_or, or_true, true_and] <;> exact K1)
    exact key 0 (by omega) trivial
  · rw [e, Bool.true_or] at K1
    exact K1
/-- a claim: what it says (0 bars, 1 a thing is there, 2 of a name), whether it has a subject, whose, its set, its subject -/
abbrev cT : Type := Nat × Bool × Nat × (Nat → Bool) × (Nat → Bool)
def CR (k : Nat → Int32) (s : Nat) (C : cT) : Prop := k (183 * s + 165) = nI C.1 ∧ C.1 ≤ 2 ∧ k (183 * s + 166) = b2i C.2.1 ∧ (C.1 = 2 → k (183 * s + 2) = nI C.2.2.1 ∧ C.2.2.1 < 4) ∧ (∀ r, r < 256 → bI (fun i => k (183 * s + 167 + i)) r = C.2.2.2.1 r) ∧ ∀ r, r < 256 → bI (fun i => k (183 * s + 175 + i)) r = C.2.2.2.2 r
/-- what follows of a claim -/
def fo (T : tT) (C : cT) (ex : Bool) : Bool := fz T C.1 C.2.2.2.1 C.2.2.1 && !(ex && C.2.1 && !qz T C.2.2.2.2)
set_option maxRecDepth 20000 in
theorem m_followsOf {T : tT} (hT : MT F T) (hw : T.2.1.length ≤ 40) {s : Nat} (hs : s < 14) {C : cT} (hC : CR (F 84) s C) {ex : Bool} (K : ∀ f, Q (some (.int (b2i (fo T C ex)))) (ov h (upz F 100 f) J V)) : am_cl (d + 4) 237 [.ref 82, .int (nI s), .int (b2i ex)] (ov h F J V) Q := by
  obtain ⟨said, hsub, who, set, sub⟩ := C
  obtain ⟨c1, c2, c3, c4, c5, c6⟩ := hC
  dsimp only at c1 c2 c3 c4 c5 c6
  have K1 : ∀ g, Q (some (.int (b2i (fz T said set who && !(ex && hsub && !qz T sub))))) (ov h (upz F 100 g) J V) := K
  have fin : ∀ (z : Bool) (f : Nat → Int32), (∀ g, Q (some (.int (b2i (z && !(ex && hsub && !qz T sub))))) (ov h (upz F 100 g) J V)) → am_ex (am_cl (d + 3)) (am_W kc_Model_followsOf (am_cl (d + 3)) Q) Q (kb_Model_followsOf_0.drop 21) [.ref 82, .int (nI s), .int (b2i ex), .int (nI (183 * s))] [.int (b2i z)] (ov h (upz F 100 f) J V) := by
    intro z f K2
    simp only [ax0, ex_cons, am_get, upz_at, true_and, and_true, Nat.reduceAdd, Nat.reduceLeDiff, Nat.reduceEqDiff, Nat.reduceSub, Int32.reduceOfInt, ↓reduceIte, Int32.reduceLT, Int32.reduceLE, Int32.reduceToNatClampNeg, Nat.reduceMod, Nat.reduceLT, List.length_cons, List.length_nil, eq_self, true_or, or_true, and_self, implies_true, not_true_eq_false, not_false_eq_true, false_implies, true_implies, forall_const, st_aload, st_getfield, st_goto_w, st_iadd, st_iaload, st_iconst, st_ifCond, st_if_icmp, st_iload, st_imul, st_in4, st_istore, am_put, am_nlg, kb_Model_followsOf_0, og_82_2, oo_82, oa_82, oa_84, or_84, List.drop_succ_cons, List.drop_zero]
    refine ifb (fun e => ?_) (fun e => ?_)
    · subst e
      simp only [ax0, ex_cons, am_get, upz_at, true_and, and_true, Nat.reduceAdd, Nat.reduceLeDiff, Nat.reduceEqDiff, Nat.reduceSub, Int32.reduceOfInt, ↓reduceIte, Int32.reduceLT, Int32.reduceLE, Int32.reduceToNatClampNeg, Nat.reduceMod, Nat.reduceLT, List.length_cons, List.length_nil, eq_self, true_or, or_true, and_self, implies_true, not_true_eq_false, not_false_eq_true, false_implies, true_implies, forall_const, st_freturn, st_goto_w, st_iconst, jx_Model_followsOf_77, kb_Model_followsOf_77, jx_Model_followsOf_78, kb_Model_followsOf_78]
      exact K2 f
    · subst e
      cases ex
      · simp only [ax0, ex_cons, am_get, upz_at, true_and, and_true, Nat.reduceAdd, Nat.reduceLeDiff, Nat.reduceEqDiff, Nat.reduceSub, Int32.reduceOfInt, ↓reduceIte, Int32.reduceLT, Int32.reduceLE, Int32.reduceToNatClampNeg, Nat.reduceMod, Nat.reduceLT, List.length_cons, List.length_nil, eq_self, true_or, or_true, and_self, implies_true, not_true_eq_false, not_false_eq_true, false_implies, true_implies, forall_const, st_freturn, st_goto, st_iconst, jx_Model_followsOf_73, kb_Model_followsOf_73, jx_Model_followsOf_78, kb_Model_followsOf_78, b2i_f]
        exact K2 f
      · simp only [ax0, ex_cons, am_get, upz_at, true_and, and_true, Nat.reduceAdd, Nat.reduceLeDiff, Nat.reduceEqDiff, Nat.reduceSub, Int32.reduceOfInt, ↓reduceIte, Int32.reduceLT, Int32.reduceLE, Int32.reduceToNatClampNeg, Nat.reduceMod, Nat.reduceLT, List.length_cons, List.length_nil, eq_self, true_or, or_true, and_self, implies_true, not_true_eq_false, not_false_eq_true, false_implies, true_implies, forall_const, st_aload, st_freturn, st_getfield, st_goto, st_goto_w, st_iadd, st_iaload, st_iconst, st_ifCond, st_if_icmp, st_iload, st_imul, st_in4, st_istore, am_put, am_nlg, kb_Model_followsOf_0, og_82_2, oo_82, jx_Model_followsOf_73, kb_Model_followsOf_73, jx_Model_followsOf_78, kb_Model_followsOf_78, oa_82, oa_84, or_84, b2i_t, show nI (183 * s) + (165 : Int32) = nI (183 * s + 165) from nk_add (183 * s) (165), show nI (183 * s) + (167 : Int32) = nI (183 * s + 167) from nk_add (183 * s) (167), show nI (183 * s + 167) + (8 : Int32) = nI (183 * s + 167 + 8) from nk_add (183 * s + 167) (8), show nI (183 * s + 165) + (1 : Int32) = nI (183 * s + 165 + 1) from nk_add (183 * s + 165) (1), nk_neg (show 183 * s + 165 + 1 < 2147483648 by omega), nk_cl (show 183 * s + 165 + 1 < 2147483648 by omega), show 183 * s + 165 + 1 < 2698 by omega, show F 84 (183 * s + 165 + 1) = b2i hsub from c3]
        cases hsub
        · simp only [ax0, ex_cons, am_get, upz_at, true_and, and_true, Nat.reduceAdd, Nat.reduceLeDiff, Nat.reduceEqDiff, Nat.reduceSub, Int32.reduceOfInt, ↓reduceIte, Int32.reduceLT, Int32.reduceLE, Int32.reduceToNatClampNeg, Nat.reduceMod, Nat.reduceLT, List.length_cons, List.length_nil, eq_self, true_or, or_true, and_self, implies_true, not_true_eq_false, not_false_eq_true, false_implies, true_implies, forall_const, st_aload, st_freturn, st_getfield, st_goto, st_goto_w, st_iadd, st_iaload, st_iconst, st_ifCond, st_if_icmp, st_iload, st_imul, st_in4, st_istore, am_put, am_nlg, kb_Model_followsOf_0, og_82_2, oo_82, jx_Model_followsOf_73, kb_Model_followsOf_73, jx_Model_followsOf_78, kb_Model_followsOf_78, oa_82, oa_84, or_84, b2i_f]
          exact K2 f
        · simp only [ax0, ex_cons, am_get, upz_at, true_and, and_true, Nat.reduceAdd, Nat.reduceLeDiff, Nat.reduceEqDiff, Nat.reduceSub, Int32.reduceOfInt, ↓reduceIte, Int32.reduceLT, Int32.reduceLE, Int32.reduceToNatClampNeg, Nat.reduceMod, Nat.reduceLT, List.length_cons, List.length_nil, eq_self, true_or, or_true, and_self, implies_true, not_true_eq_false, not_false_eq_true, false_implies, true_implies, forall_const, st_aload, st_freturn, st_getfield, st_goto, st_goto_w, st_iadd, st_iaload, st_iconst, st_ifCond, st_if_icmp, st_iload, st_imul, st_in4, st_istore, am_put, am_nlg, kb_Model_followsOf_0, og_82_2, oo_82, jx_Model_followsOf_73, kb_Model_followsOf_73, jx_Model_followsOf_78, kb_Model_followsOf_78, oa_82, oa_84, or_84, b2i_t]
          refine m_followsThat1 (T := T) (hT.s100 _) hw (by omega) (set := sub) (fun r hr => c6 r hr) (fun g => ?_)
          rw [upz_upd]
          have K3 := K2 g
          simp only [ax0, ex_cons, am_get, upz_at, true_and, and_true, Nat.reduceAdd, Nat.reduceLeDiff, Nat.reduceEqDiff, Nat.reduceSub, Int32.reduceOfInt, ↓reduceIte, Int32.reduceLT, Int32.reduceLE, Int32.reduceToNatClampNeg, Nat.reduceMod, Nat.reduceLT, List.length_cons, List.length_nil, eq_self, true_or, or_true, and_self, implies_true, not_true_eq_false, not_false_eq_true, false_implies, true_implies, forall_const, st_aload, st_freturn, st_getfield, st_goto, st_goto_w, st_iadd, st_iaload, st_iconst, st_ifCond, st_if_icmp, st_iload, st_imul, st_in4, st_istore, am_put, am_nlg, kb_Model_followsOf_0, og_82_2, oo_82, jx_Model_followsOf_73, kb_Model_followsOf_73, jx_Model_followsOf_77, kb_Model_followsOf_77, jx_Model_followsOf_78, kb_Model_followsOf_78, oa_82, oa_84, or_84]
          refine ifb (fun e => ?_) (fun e => ?_)
          · rw [e] at K3; exact K3
          · rw [e] at K3; exact K3
  simp only [ax0, ex_cons, am_get, upz_at, true_and, and_true, Nat.reduceAdd, Nat.reduceLeDiff, Nat.reduceEqDiff, Nat.reduceSub, Int32.reduceOfInt, ↓reduceIte, Int32.reduceLT, Int32.reduceLE, Int32.reduceToNatClampNeg, Nat.reduceMod, Nat.reduceLT, List.length_cons, List.length_nil, eq_self, true_or, or_true, and_self, implies_true, not_true_eq_false, not_false_eq_true, false_implies, true_implies, forall_const, st_aload, st_getfield, st_goto_w, st_iadd, st_iaload, st_iconst, st_ifCond, st_if_icmp, st_iload, st_imul, st_in4, st_istore, am_put, am_nlg, kb_Model_followsOf_0, og_82_2, oo_82, oa_82, oa_84, or_84, cx_Model_followsOf, show (183 : Int32) * nI (s) = nI (183 * (s)) from nk_mul (183) (s), show nI (183 * s) + (165 : Int32) = nI (183 * s + 165) from nk_add (183 * s) (165), show nI (183 * s) + (167 : Int32) = nI (183 * s + 167) from nk_add (183 * s) (167), show nI (183 * s) + (2 : Int32) = nI (183 * s + 2) from nk_add (183 * s) (2), nk_neg (show 183 * s + 165 < 2147483648 by omega), nk_cl (show 183 * s + 165 < 2147483648 by omega), nk_neg (show 183 * s + 2 < 2147483648 by omega), nk_cl (show 183 * s + 2 < 2147483648 by omega), show 183 * s + 165 < 2698 by omega, show 183 * s + 2 < 2698 by omega, c1]
  rcases (show said = 0 ∨ said = 1 ∨ said = 2 by omega) with e | e | e <;> subst e
  · exact m_followsThat0 (T := T) hT hw (by omega) (w := who) (set := set) (fun r hr => c5 r hr) (fun f => fin _ f K1)
  · exact m_followsThat1 (T := T) hT hw (by omega) (set := set) (fun r hr => c5 r hr) (fun f => fin _ f K1)
  · obtain ⟨c7, c8⟩ := c4 rfl
    rw [c7]
    exact m_followsThat2 (T := T) hT hw (by omega) c8 (set := set) (fun r hr => c5 r hr) (fun f => fin _ f K1)
end MT2
