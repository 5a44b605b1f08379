/-! ===== the class: open, name, of, has, letter ===== -/
theorem cn_bJ (f : Nat → Int64) (k : Nat) : cn (fun i => (f k).toBitVec.getLsbD i) 64 = cn (fun i => bJ f (64 * k + i)) 64 := cn_congr (fun i hi => by
  unfold bJ
  rw [show (64 * k + i) / 64 = k by omega, show (64 * k + i) % 64 = i by omega])
theorem lowF_min {p : Nat → Bool} {r0 : Nat} (h0 : ∀ r, r < r0 → p r = false) (h1 : p r0 = true) : ∀ n v, r0 < n → lowF p n v = nI r0
  | 0, v, h => absurd h (Nat.not_lt_zero r0)
  | n + 1, v, h => by
    unfold lowF
    by_cases e : r0 = n
    · subst e
      rw [h1, if_pos rfl]
      have : ∀ m v, m ≤ r0 → lowF p m v = v := by
        intro m
        induction m with
        | zero => intro v _; rfl
        | succ m ih => intro v hm; unfold lowF; rw [h0 m (by omega), if_neg Bool.false_ne_true]; exact ih v (by omega)
      exact this r0 _ (Nat.le_refl _)
    · exact lowF_min h0 h1 n _ (by omega)
theorem lowF_no {p : Nat → Bool} : ∀ n v, (∀ r, r < n → p r = false) → lowF p n v = v
  | 0, v, _ => rfl
  | n + 1, v, h => by
    unfold lowF
    rw [h n (by omega), if_neg Bool.false_ne_true]
    exact lowF_no n v (fun r hr => h r (by omega))
theorem low64 {x : Int64} (h : ¬ x = 0) : ∃ k, k < 64 ∧ (∀ i, i < k → x.toBitVec.getLsbD i = false) ∧ x.toBitVec.getLsbD k = true := by
  have hex : ∃ i, i < 64 ∧ x.toBitVec.getLsbD i = true := by
    refine Classical.byContradiction fun z => h (i64_zero.mpr (fun i hi => ?_))
    cases e : x.toBitVec.getLsbD i
    · rfl
    · exact absurd ⟨i, hi, e⟩ z
  obtain ⟨i, hi, e⟩ := hex
  induction i using Nat.strongRecOn with
  | ind i ih =>
    by_cases z : ∃ j, j < i ∧ x.toBitVec.getLsbD j = true
    · obtain ⟨j, z1, z2⟩ := z
      exact ih j z1 (by omega) z2
    · refine ⟨i, hi, fun j hj => ?_, e⟩
      cases g : x.toBitVec.getLsbD j
      · rfl
      · exact absurd ⟨j, hj, g⟩ z
section CPF
variable {d : Nat} {h : am_H} {F : Nat → Nat → Int32} {J : Nat → Nat → Int64} {V : Nat → Nat → Value} {Q : am_Q}
theorem len_ar {m : Nat} {f : Nat → Int64} {K : Nat → Prop} (hm : m < 2147483648) : am_len K (aJ (am_ar m f)) = K m := by
  show ((am_ar m f).length < 2147483648 ∧ K (am_ar m f).length) = K m
  rw [am_ar_len]
  exact propext ⟨fun z => z.2, fun z => ⟨hm, z⟩⟩
set_option maxRecDepth 20000 in
theorem c_sizeOf {hp : am_H} {a : Nat} {f : Nat → Int64} (ha : hp.1 a = aJ (am_ar 4 f)) (K : Q (some (.int (nI (cn (bJ f) 256)))) hp) : am_cl (d + 2) 75 [.ref a] hp Q := by
  simp only [isO_c, ax0, ex_cons, am_get, upz_at, true_and, and_true, Nat.reduceAdd, Nat.reduceLeDiff, Nat.reduceEqDiff, Nat.reduceSub, Int32.reduceOfInt, Int32.reduceAdd, Int32.reduceMul, Int32.reduceSub, ↓reduceIte, Int32.reduceLT, Int32.reduceLE, Int32.reduceToNatClampNeg, Nat.reduceMod, Nat.reduceLT, List.length_cons, List.length_nil, eq_self, true_or, or_true, and_self, implies_true, not_true_eq_false, not_false_eq_true, false_implies, true_implies, forall_const, st_goto_wx, st_iconstx, st_istorex, am_put, am_nlg, kb_Slips_sizeOf_0, cx_Slips_sizeOf]
  refine am_iter 4 (fun k => [.ref a, .int (nI (cn (bJ f) (64 * k))), .int (nI k)]) (fun _ => hp) (fun _ => True) (fun k hk _ go => ?_) (fun _ => ?_) 0 (by decide) trivial
  · have go := go trivial
    rw [jx_Slips_sizeOf_4]
    simp only [isO_c, ax0, ex_cons, am_get, upz_at, true_and, and_true, Nat.reduceAdd, Nat.reduceLeDiff, Nat.reduceEqDiff, Nat.reduceSub, Int32.reduceOfInt, Int32.reduceAdd, Int32.reduceMul, Int32.reduceSub, ↓reduceIte, Int32.reduceLT, Int32.reduceLE, Int32.reduceToNatClampNeg, Nat.reduceMod, Nat.reduceLT, List.length_cons, List.length_nil, eq_self, true_or, or_true, and_self, implies_true, not_true_eq_false, not_false_eq_true, false_implies, true_implies, forall_const, st_aloadx, st_arraylengthx, st_gotox, st_iaddx, st_if_icmpx, st_iincx, st_iloadx, st_st1, st_istorex, st_laloadx, am_put, am_nlg, kb_Slips_sizeOf_4, ha, len_ar (show 4 < 2147483648 by decide), oq_rJ, (nk_le (by omega) (by omega) : (nI (4) ≤ nI (k)) = (4 ≤ k)), show ¬ 4 ≤ k by omega, nk_neg (show k < 2147483648 by omega), nk_cl (show k < 2147483648 by omega), hk]
    refine c_bitCountJ ?_
    rw [cn_bJ]
    rw [show 64 * (k + 1) = 64 * k + 64 by omega, cn_add] at go
    simp only [isO_c, ax0, ex_cons, am_get, upz_at, true_and, and_true, Nat.reduceAdd, Nat.reduceLeDiff, Nat.reduceEqDiff, Nat.reduceSub, Int32.reduceOfInt, Int32.reduceAdd, Int32.reduceMul, Int32.reduceSub, ↓reduceIte, Int32.reduceLT, Int32.reduceLE, Int32.reduceToNatClampNeg, Nat.reduceMod, Nat.reduceLT, List.length_cons, List.length_nil, eq_self, true_or, or_true, and_self, implies_true, not_true_eq_false, not_false_eq_true, false_implies, true_implies, forall_const, st_aloadx, st_arraylengthx, st_gotox, st_iaddx, st_if_icmpx, st_iincx, st_iloadx, st_st1, st_istorex, st_laloadx, am_put, am_nlg, kb_Slips_sizeOf_4, nk_add, nk_succ]
    exact go
  · rw [jx_Slips_sizeOf_4]
    simp only [isO_c, ax0, ex_cons, am_get, upz_at, true_and, and_true, Nat.reduceAdd, Nat.reduceLeDiff, Nat.reduceEqDiff, Nat.reduceSub, Int32.reduceOfInt, Int32.reduceAdd, Int32.reduceMul, Int32.reduceSub, ↓reduceIte, Int32.reduceLT, Int32.reduceLE, Int32.reduceToNatClampNeg, Nat.reduceMod, Nat.reduceLT, List.length_cons, List.length_nil, eq_self, true_or, or_true, and_self, implies_true, not_true_eq_false, not_false_eq_true, false_implies, true_implies, forall_const, st_aloadx, st_arraylengthx, st_gotox, st_iaddx, st_if_icmpx, st_iincx, st_iloadx, st_st1, st_ireturnx, st_istorex, st_laloadx, am_put, am_nlg, kb_Slips_sizeOf_4, jx_Slips_sizeOf_25, kb_Slips_sizeOf_25, ha, len_ar (show 4 < 2147483648 by decide), (nk_le (by omega) (by omega) : (nI (4) ≤ nI (4)) = (4 ≤ 4)), Nat.le_refl]
    exact K
set_option maxRecDepth 20000 in
theorem cp_open {X : kT} (hD : DK h F V 34 X) {x : Int32} (K : ∀ F' J', Cf F F' → Q (some (.int (aOpen X.1 x))) (ov h F' J' V)) : am_cl (d + 4) 24 [.ref 23, .int x] (ov h F J V) Q := by
  unfold aOpen at K
  simp only [isO_c, ax0, ex_cons, am_get, upz_at, true_and, and_true, Nat.reduceAdd, Nat.reduceLeDiff, Nat.reduceEqDiff, Nat.reduceSub, Int32.reduceOfInt, Int32.reduceAdd, Int32.reduceMul, Int32.reduceSub, ↓reduceIte, Int32.reduceLT, Int32.reduceLE, Int32.reduceToNatClampNeg, Nat.reduceMod, Nat.reduceLT, List.length_cons, List.length_nil, eq_self, true_or, or_true, and_self, implies_true, not_true_eq_false, not_false_eq_true, false_implies, true_implies, forall_const, st_aloadx, st_getfieldx, st_iconstx, st_ifCondx, st_iloadx, st_in2, st_ireturnx, kb_Slips_open_0, og_23_1, oo_34, oa_23, oa_34, cx_Slips_open]
  refine c_hasHeap hD ?_
  simp only [isO_c, ax0, ex_cons, am_get, upz_at, true_and, and_true, Nat.reduceAdd, Nat.reduceLeDiff, Nat.reduceEqDiff, Nat.reduceSub, Int32.reduceOfInt, Int32.reduceAdd, Int32.reduceMul, Int32.reduceSub, ↓reduceIte, Int32.reduceLT, Int32.reduceLE, Int32.reduceToNatClampNeg, Nat.reduceMod, Nat.reduceLT, List.length_cons, List.length_nil, eq_self, true_or, or_true, and_self, implies_true, not_true_eq_false, not_false_eq_true, false_implies, true_implies, forall_const, st_aloadx, st_getfieldx, st_iconstx, st_ifCondx, st_iloadx, st_in2, st_ireturnx, kb_Slips_open_0, og_23_1, oo_34, oa_23, oa_34]
  refine ifnb (fun e => ?_) (fun e => ?_)
  · rw [e, if_pos rfl] at K
    obtain ⟨hp, e1, e2, e3⟩ := hpB_nI hD.1.2.1 e
    subst e1
    rw [e3] at K
    simp only [isO_c, ax0, ex_cons, am_get, upz_at, true_and, and_true, Nat.reduceAdd, Nat.reduceLeDiff, Nat.reduceEqDiff, Nat.reduceSub, Int32.reduceOfInt, Int32.reduceAdd, Int32.reduceMul, Int32.reduceSub, ↓reduceIte, Int32.reduceLT, Int32.reduceLE, Int32.reduceToNatClampNeg, Nat.reduceMod, Nat.reduceLT, List.length_cons, List.length_nil, eq_self, true_or, or_true, and_self, implies_true, not_true_eq_false, not_false_eq_true, false_implies, true_implies, forall_const, st_aloadx, st_getfieldx, st_iloadx, st_in2, st_st1, st_ireturnx, jx_Slips_open_13, kb_Slips_open_13, oo_23, og_23_3, og_47_0, oa_23, oa_47, oa_48]
    refine c_assume hD e2 (fun F1 J1 P t1 s1 q1 => ?_)
    have K := K F1 J1 (q1.cf (Or.inl rfl))
    simp only [isO_c, ax0, ex_cons, am_get, upz_at, true_and, and_true, Nat.reduceAdd, Nat.reduceLeDiff, Nat.reduceEqDiff, Nat.reduceSub, Int32.reduceOfInt, Int32.reduceAdd, Int32.reduceMul, Int32.reduceSub, ↓reduceIte, Int32.reduceLT, Int32.reduceLE, Int32.reduceToNatClampNeg, Nat.reduceMod, Nat.reduceLT, List.length_cons, List.length_nil, eq_self, true_or, or_true, and_self, implies_true, not_true_eq_false, not_false_eq_true, false_implies, true_implies, forall_const, st_aloadx, st_getfieldx, st_iloadx, st_in2, st_st1, st_ireturnx, jx_Slips_open_13, kb_Slips_open_13, oo_23, og_23_3, og_47_0, oa_23, oa_47, oa_48]
    refine c_sizeOf (f := J1 48) oa_48 ?_
    rw [show cn (bJ (J1 48)) 256 = cn (fun r => !(hzD X.1 hp).1 r) 256 from cn_congr (fun r hr => t1.1 r hr)]
    simp only [isO_c, ax0, ex_cons, am_get, upz_at, true_and, and_true, Nat.reduceAdd, Nat.reduceLeDiff, Nat.reduceEqDiff, Nat.reduceSub, Int32.reduceOfInt, Int32.reduceAdd, Int32.reduceMul, Int32.reduceSub, ↓reduceIte, Int32.reduceLT, Int32.reduceLE, Int32.reduceToNatClampNeg, Nat.reduceMod, Nat.reduceLT, List.length_cons, List.length_nil, eq_self, true_or, or_true, and_self, implies_true, not_true_eq_false, not_false_eq_true, false_implies, true_implies, forall_const, st_aloadx, st_getfieldx, st_iloadx, st_in2, st_st1, st_ireturnx, jx_Slips_open_13, kb_Slips_open_13, oo_23, og_23_3, og_47_0, oa_23, oa_47, oa_48]
    exact K
  · rw [e, if_neg Bool.false_ne_true] at K
    exact K F J Cf.rf
set_option maxRecDepth 20000 in
theorem c_countPlaces {T : tT} {P : Nat} (hT : TT F J 47 T P) {w : Nat} (hw : w < 4) (K : Q (some (.int (nI (cn (nmP T w) 256)))) (ov h F J V)) : am_cl (d + 2) 152 [.ref 47, .int (nI w)] (ov h F J V) Q := by
  have eb : ∀ r, r < 256 → bJ (fun k => J 50 (w * 4 + k) &&& J 48 k) r = nmP T w r := fun r hr => by
    rw [bJ_and (fun k => J 50 (w * 4 + k)) (J 48), hT.1 r hr]
    unfold nmP
    rw [show bJ (fun k => J 50 (w * 4 + k)) r = bJ (fun k => J 50 (4 * w + k)) r from bJ_congr hr (fun i _ => by rw [Nat.mul_comm])]
    rw [← hT.2.2.2.2.1 w hw r hr]
  simp only [isO_c, ax0, ex_cons, am_get, upz_at, true_and, and_true, Nat.reduceAdd, Nat.reduceLeDiff, Nat.reduceEqDiff, Nat.reduceSub, Int32.reduceOfInt, Int32.reduceAdd, Int32.reduceMul, Int32.reduceSub, ↓reduceIte, Int32.reduceLT, Int32.reduceLE, Int32.reduceToNatClampNeg, Nat.reduceMod, Nat.reduceLT, List.length_cons, List.length_nil, eq_self, true_or, or_true, and_self, implies_true, not_true_eq_false, not_false_eq_true, false_implies, true_implies, forall_const, st_goto_wx, st_iconstx, st_istorex, am_put, am_nlg, kb_Theory_countPlaces_0, cx_Theory_countPlaces]
  refine am_iter 4 (fun k => [.ref 47, .int (nI w), .int (nI (cn (bJ (fun k => J 50 (w * 4 + k) &&& J 48 k)) (64 * k))), .int (nI k)]) (fun _ => ov h F J V) (fun _ => True) (fun k hk _ go => ?_) (fun _ => ?_) 0 (by decide) trivial
  · have go := go trivial
    rw [jx_Theory_countPlaces_4]
    simp only [isO_c, ax0, ex_cons, am_get, upz_at, true_and, and_true, Nat.reduceAdd, Nat.reduceLeDiff, Nat.reduceEqDiff, Nat.reduceSub, Int32.reduceOfInt, Int32.reduceAdd, Int32.reduceMul, Int32.reduceSub, ↓reduceIte, Int32.reduceLT, Int32.reduceLE, Int32.reduceToNatClampNeg, Nat.reduceMod, Nat.reduceLT, List.length_cons, List.length_nil, eq_self, true_or, or_true, and_self, implies_true, not_true_eq_false, not_false_eq_true, false_implies, true_implies, forall_const, st_aloadx, st_gotox, st_iaddx, st_iconstx, st_if_icmpx, st_iincx, st_iloadx, st_in3, st_st1, st_istorex, am_put, am_nlg, kb_Theory_countPlaces_4, oo_47, oa_47, show ((4 : Int32) ≤ nI (k)) = (4 ≤ k) from nk_le (a := 4) (b := k) (by omega) (by omega), show ¬ 4 ≤ k by omega]
    refine c_placeWord (th := 47) (Or.inl rfl) hw hk ?_
    simp only [isO_c, ax0, ex_cons, am_get, upz_at, true_and, and_true, Nat.reduceAdd, Nat.reduceLeDiff, Nat.reduceEqDiff, Nat.reduceSub, Int32.reduceOfInt, Int32.reduceAdd, Int32.reduceMul, Int32.reduceSub, ↓reduceIte, Int32.reduceLT, Int32.reduceLE, Int32.reduceToNatClampNeg, Nat.reduceMod, Nat.reduceLT, List.length_cons, List.length_nil, eq_self, true_or, or_true, and_self, implies_true, not_true_eq_false, not_false_eq_true, false_implies, true_implies, forall_const, st_aloadx, st_gotox, st_iaddx, st_iconstx, st_if_icmpx, st_iincx, st_iloadx, st_in3, st_st1, st_istorex, am_put, am_nlg, kb_Theory_countPlaces_4, oo_47, oa_47]
    refine c_bitCountJ ?_
    have := cn_bJ (fun k => J 50 (w * 4 + k) &&& J 48 k) k
    rw [show 64 * (k + 1) = 64 * k + 64 by omega, cn_add, ← this] at go
    simp only [isO_c, ax0, ex_cons, am_get, upz_at, true_and, and_true, Nat.reduceAdd, Nat.reduceLeDiff, Nat.reduceEqDiff, Nat.reduceSub, Int32.reduceOfInt, Int32.reduceAdd, Int32.reduceMul, Int32.reduceSub, ↓reduceIte, Int32.reduceLT, Int32.reduceLE, Int32.reduceToNatClampNeg, Nat.reduceMod, Nat.reduceLT, List.length_cons, List.length_nil, eq_self, true_or, or_true, and_self, implies_true, not_true_eq_false, not_false_eq_true, false_implies, true_implies, forall_const, st_aloadx, st_gotox, st_iaddx, st_iconstx, st_if_icmpx, st_iincx, st_iloadx, st_in3, st_st1, st_istorex, am_put, am_nlg, kb_Theory_countPlaces_4, oo_47, oa_47, nk_add, nk_succ]
    exact go
  · rw [jx_Theory_countPlaces_4]
    simp only [isO_c, ax0, ex_cons, am_get, upz_at, true_and, and_true, Nat.reduceAdd, Nat.reduceLeDiff, Nat.reduceEqDiff, Nat.reduceSub, Int32.reduceOfInt, Int32.reduceAdd, Int32.reduceMul, Int32.reduceSub, ↓reduceIte, Int32.reduceLT, Int32.reduceLE, Int32.reduceToNatClampNeg, Nat.reduceMod, Nat.reduceLT, List.length_cons, List.length_nil, eq_self, true_or, or_true, and_self, implies_true, not_true_eq_false, not_false_eq_true, false_implies, true_implies, forall_const, st_aloadx, st_gotox, st_iaddx, st_iconstx, st_if_icmpx, st_iincx, st_iloadx, st_in3, st_st1, st_ireturnx, st_istorex, am_put, am_nlg, kb_Theory_countPlaces_4, oo_47, jx_Theory_countPlaces_27, kb_Theory_countPlaces_27, oa_47, show ((4 : Int32) ≤ nI (4)) = (4 ≤ 4) from nk_le (a := 4) (b := 4) (by omega) (by omega)]
    rw [show cn (bJ (fun k => J 50 (w * 4 + k) &&& J 48 k)) (64 * 4) = cn (nmP T w) 256 from cn_congr eb]
    exact K
set_option maxRecDepth 20000 in
theorem c_lowestPlace {T : tT} {P : Nat} (hT : TT F J 47 T P) {w : Nat} (hw : w < 4) (K : Q (some (.int (lowF (nmP T w) 256 (-1)))) (ov h F J V)) : am_cl (d + 3) 153 [.ref 47, .int (nI w)] (ov h F J V) Q := by
  have eb : ∀ r, r < 256 → bJ (fun k => J 50 (w * 4 + k) &&& J 48 k) r = nmP T w r := fun r hr => by
    rw [bJ_and (fun k => J 50 (w * 4 + k)) (J 48), hT.1 r hr]
    unfold nmP
    rw [show bJ (fun k => J 50 (w * 4 + k)) r = bJ (fun k => J 50 (4 * w + k)) r from bJ_congr hr (fun i _ => by rw [Nat.mul_comm])]
    rw [← hT.2.2.2.2.1 w hw r hr]
  simp only [isO_c, ax0, ex_cons, am_get, upz_at, true_and, and_true, Nat.reduceAdd, Nat.reduceLeDiff, Nat.reduceEqDiff, Nat.reduceSub, Int32.reduceOfInt, Int32.reduceAdd, Int32.reduceMul, Int32.reduceSub, ↓reduceIte, Int32.reduceLT, Int32.reduceLE, Int32.reduceToNatClampNeg, Nat.reduceMod, Nat.reduceLT, List.length_cons, List.length_nil, eq_self, true_or, or_true, and_self, implies_true, not_true_eq_false, not_false_eq_true, false_implies, true_implies, forall_const, st_goto_wx, st_iconstx, st_istorex, am_put, am_nlg, kb_Theory_lowestPlace_0, cx_Theory_lowestPlace]
  have key : ∀ j k v3 v4, k + j = 4 → (∀ r, r < 64 * k → nmP T w r = false) → am_W kc_Theory_lowestPlace (am_cl (d + 2)) Q 2 [.ref 47, .int (nI w), .int (nI k), v3, v4] [] (ov h F J V) := by
    intro j
    induction j with
    | zero =>
      intro k v3 v4 ek hno
      have ek : k = 4 := ek
      subst ek
      rw [lowF_no 256 (-1) hno] at K
      rw [jx_Theory_lowestPlace_2]
      simp only [isO_c, ax0, ex_cons, am_get, upz_at, true_and, and_true, Nat.reduceAdd, Nat.reduceLeDiff, Nat.reduceEqDiff, Nat.reduceSub, Int32.reduceOfInt, Int32.reduceAdd, Int32.reduceMul, Int32.reduceSub, ↓reduceIte, Int32.reduceLT, Int32.reduceLE, Int32.reduceToNatClampNeg, Nat.reduceMod, Nat.reduceLT, List.length_cons, List.length_nil, eq_self, true_or, or_true, and_self, implies_true, not_true_eq_false, not_false_eq_true, false_implies, true_implies, forall_const, st_aloadx, st_bipushx, st_iaddx, st_iconstx, st_ifCondx, st_if_icmpx, st_iloadx, st_imulx, st_in3, st_st1, st_ireturnx, st_lcmpx, st_lloadx, st_lstorex, am_putL, am_nlg, kb_Theory_lowestPlace_2, oo_47, jx_Theory_lowestPlace_36, kb_Theory_lowestPlace_36, oa_47, show ((4 : Int32) ≤ nI (4)) = (4 ≤ 4) from nk_le (a := 4) (b := 4) (by omega) (by omega)]
      exact K
    | succ j ih =>
      intro k v3 v4 ek hno
      rw [jx_Theory_lowestPlace_2]
      simp only [isO_c, ax0, ex_cons, am_get, upz_at, true_and, and_true, Nat.reduceAdd, Nat.reduceLeDiff, Nat.reduceEqDiff, Nat.reduceSub, Int32.reduceOfInt, Int32.reduceAdd, Int32.reduceMul, Int32.reduceSub, ↓reduceIte, Int32.reduceLT, Int32.reduceLE, Int32.reduceToNatClampNeg, Nat.reduceMod, Nat.reduceLT, List.length_cons, List.length_nil, eq_self, true_or, or_true, and_self, implies_true, not_true_eq_false, not_false_eq_true, false_implies, true_implies, forall_const, st_aloadx, st_bipushx, st_iaddx, st_iconstx, st_ifCondx, st_if_icmpx, st_iloadx, st_imulx, st_in3, st_st1, st_ireturnx, st_lcmpx, st_lloadx, st_lstorex, am_putL, am_nlg, kb_Theory_lowestPlace_2, oo_47, oa_47, show ((4 : Int32) ≤ nI (k)) = (4 ≤ k) from nk_le (a := 4) (b := k) (by omega) (by omega), show ¬ 4 ≤ k by omega]
      refine c_placeWord (th := 47) (Or.inl rfl) hw (by omega) ?_
      simp only [isO_c, ax0, ex_cons, am_get, upz_at, true_and, and_true, Nat.reduceAdd, Nat.reduceLeDiff, Nat.reduceEqDiff, Nat.reduceSub, Int32.reduceOfInt, Int32.reduceAdd, Int32.reduceMul, Int32.reduceSub, ↓reduceIte, Int32.reduceLT, Int32.reduceLE, Int32.reduceToNatClampNeg, Nat.reduceMod, Nat.reduceLT, List.length_cons, List.length_nil, eq_self, true_or, or_true, and_self, implies_true, not_true_eq_false, not_false_eq_true, false_implies, true_implies, forall_const, st_aloadx, st_bipushx, st_gotox, st_iaddx, st_iconstx, st_ifCondx, st_if_icmpx, st_iincx, st_iloadx, st_imulx, st_in3, st_st1, st_ireturnx, st_lcmpx, st_lloadx, st_lstorex, am_put, am_nlg, am_putL, am_nlg, kb_Theory_lowestPlace_2, oo_47, jx_Theory_lowestPlace_30, kb_Theory_lowestPlace_30, oa_47, lgc0, nk_succ]
      have bit : ∀ i, i < 64 → (J 50 (w * 4 + k) &&& J 48 k).toBitVec.getLsbD i = nmP T w (64 * k + i) := fun i hi => by
        rw [← eb (64 * k + i) (by omega)]
        unfold bJ
        rw [show (64 * k + i) / 64 = k by omega, show (64 * k + i) % 64 = i by omega]
      refine And.intro (fun z => ?_) (fun z => ?_)
      · refine ih (k + 1) _ _ (by omega) (fun r hr => ?_)
        by_cases g : r < 64 * k
        · exact hno r g
        · have := bit (r - 64 * k) (by omega)
          rw [show (J 50 (w * 4 + k) &&& J 48 k) = 0 from z, show 64 * k + (r - 64 * k) = r by omega] at this
          rw [← this]; simp
      · obtain ⟨t, t1, t2, t3⟩ := low64 z
        refine c_ntzJ t1 t2 t3 ?_
        simp only [isO_c, ax0, ex_cons, am_get, upz_at, true_and, and_true, Nat.reduceAdd, Nat.reduceLeDiff, Nat.reduceEqDiff, Nat.reduceSub, Int32.reduceOfInt, Int32.reduceAdd, Int32.reduceMul, Int32.reduceSub, ↓reduceIte, Int32.reduceLT, Int32.reduceLE, Int32.reduceToNatClampNeg, Nat.reduceMod, Nat.reduceLT, List.length_cons, List.length_nil, eq_self, true_or, or_true, and_self, implies_true, not_true_eq_false, not_false_eq_true, false_implies, true_implies, forall_const, st_aloadx, st_bipushx, st_iaddx, st_iconstx, st_ifCondx, st_if_icmpx, st_iloadx, st_imulx, st_in3, st_st1, st_ireturnx, st_lcmpx, st_lloadx, st_lstorex, am_putL, am_nlg, kb_Theory_lowestPlace_2, oo_47, oa_47, show (64 : Int32) * nI (k) = nI (64 * (k)) from nk_mul (64) (k), show nI (64 * k) + nI t = nI (64 * k + t) from nk_add _ _]
        rw [lowF_min (r0 := 64 * k + t) (fun r hr => ?_) (by rw [← bit t t1]; exact t3) 256 (-1) (by omega)] at K
        · exact K
        · by_cases g : r < 64 * k
          · exact hno r g
          · have := bit (r - 64 * k) (by omega)
            rw [t2 (r - 64 * k) (by omega), show 64 * k + (r - 64 * k) = r by omega] at this
            exact this.symm
  exact key 4 0 _ _ rfl (fun r hr => by omega)
set_option maxRecDepth 20000 in
theorem cp_name (hb : HB h) {X : kT} (hD : DK h F V 34 X) {x w z : Int32} (K : ∀ F' J', Cf F F' → Q (some (.int (aName X.1 x w z))) (ov h F' J' V)) : am_cl (d + 5) 43 [.ref 23, .int x, .int w, .int z] (ov h F J V) Q := by
  unfold aName at K
  simp only [isO_c, ax0, ex_cons, am_get, upz_at, true_and, and_true, Nat.reduceAdd, Nat.reduceLeDiff, Nat.reduceEqDiff, Nat.reduceSub, Int32.reduceOfInt, Int32.reduceAdd, Int32.reduceMul, Int32.reduceSub, ↓reduceIte, Int32.reduceLT, Int32.reduceLE, Int32.reduceToNatClampNeg, Nat.reduceMod, Nat.reduceLT, List.length_cons, List.length_nil, eq_self, true_or, or_true, and_self, implies_true, not_true_eq_false, not_false_eq_true, false_implies, true_implies, forall_const, st_aloadx, st_getfieldx, st_goto_wx, st_iconstx, st_ifCondx, st_if_icmpx, st_iloadx, st_in2, kb_Slips_name_0, og_23_1, oo_34, oa_23, oa_34, cx_Slips_name]
  refine c_hasHeap hD ?_
  simp only [isO_c, ax0, ex_cons, am_get, upz_at, true_and, and_true, Nat.reduceAdd, Nat.reduceLeDiff, Nat.reduceEqDiff, Nat.reduceSub, Int32.reduceOfInt, Int32.reduceAdd, Int32.reduceMul, Int32.reduceSub, ↓reduceIte, Int32.reduceLT, Int32.reduceLE, Int32.reduceToNatClampNeg, Nat.reduceMod, Nat.reduceLT, List.length_cons, List.length_nil, eq_self, true_or, or_true, and_self, implies_true, not_true_eq_false, not_false_eq_true, false_implies, true_implies, forall_const, st_aloadx, st_getfieldx, st_goto_wx, st_iconstx, st_ifCondx, st_if_icmpx, st_iloadx, st_in2, st_ireturnx, kb_Slips_name_0, og_23_1, oo_34, jx_Slips_name_20, kb_Slips_name_20, oa_23, oa_34, show (w < (4 : Int32)) = ¬ ((3 : Int32) < w) from propext ⟨fun q g => Int32.not_le.mpr q (by rw [show ((4 : Int32) ≤ w) = ((3 : Int32) < w) from lt_le 3 (by decide)]; exact g), fun q => Int32.not_le.mp (by rw [show ((4 : Int32) ≤ w) = ((3 : Int32) < w) from lt_le 3 (by decide)]; exact q)⟩]
  refine ifb (fun e => ?_) (fun e => ?_)
  · rw [e] at K; exact K F J Cf.rf
  rw [e, Bool.true_and] at K
  have ew : lieB w 0 3 = (!decide (w < 0) && !decide (3 < w)) := rfl
  refine And.intro (fun q => ?_) (fun q => ?_)
  · rw [ew, decide_eq_true q] at K; exact K F J Cf.rf
  refine And.intro (fun q2 => ?_) (fun q2 => ?_)
  · have e2 : lieB w 0 3 = true := by rw [ew, decide_eq_false q, decide_eq_false q2]; rfl
    rw [e2, Bool.true_and] at K
    obtain ⟨hp, a1, a2, a3⟩ := hpB_nI hD.1.2.1 e
    obtain ⟨k1, b1, b2, b3⟩ := lie3 e2
    subst a1; subst b1
    rw [a3, b3] at K
    simp only [isO_c, ax0, ex_cons, am_get, upz_at, true_and, and_true, Nat.reduceAdd, Nat.reduceLeDiff, Nat.reduceEqDiff, Nat.reduceSub, Int32.reduceOfInt, Int32.reduceAdd, Int32.reduceMul, Int32.reduceSub, ↓reduceIte, Int32.reduceLT, Int32.reduceLE, Int32.reduceToNatClampNeg, Nat.reduceMod, Nat.reduceLT, List.length_cons, List.length_nil, eq_self, true_or, or_true, and_self, implies_true, not_true_eq_false, not_false_eq_true, false_implies, true_implies, forall_const, st_aloadx, st_getfieldx, st_iconstx, st_ifCondx, st_iloadx, st_in1, st_in2, st_ireturnx, jx_Slips_name_22, kb_Slips_name_22, oo_23, og_23_3, oo_47, oa_23, oa_47]
    refine c_assume hD a2 (fun F1 J1 P t1 s1 q1 => ?_)
    have cf1 := q1.cf (Or.inl rfl)
    have K := K F1 J1 cf1
    simp only [isO_c, ax0, ex_cons, am_get, upz_at, true_and, and_true, Nat.reduceAdd, Nat.reduceLeDiff, Nat.reduceEqDiff, Nat.reduceSub, Int32.reduceOfInt, Int32.reduceAdd, Int32.reduceMul, Int32.reduceSub, ↓reduceIte, Int32.reduceLT, Int32.reduceLE, Int32.reduceToNatClampNeg, Nat.reduceMod, Nat.reduceLT, List.length_cons, List.length_nil, eq_self, true_or, or_true, and_self, implies_true, not_true_eq_false, not_false_eq_true, false_implies, true_implies, forall_const, st_aloadx, st_getfieldx, st_iconstx, st_ifCondx, st_iloadx, st_in1, st_in2, st_ireturnx, jx_Slips_name_22, kb_Slips_name_22, oo_23, og_23_3, oo_47, oa_23, oa_47]
    refine c_fits (Or.inl rfl) hb t1 ?_
    unfold fw
    simp only [isO_c, ax0, ex_cons, am_get, upz_at, true_and, and_true, Nat.reduceAdd, Nat.reduceLeDiff, Nat.reduceEqDiff, Nat.reduceSub, Int32.reduceOfInt, Int32.reduceAdd, Int32.reduceMul, Int32.reduceSub, ↓reduceIte, Int32.reduceLT, Int32.reduceLE, Int32.reduceToNatClampNeg, Nat.reduceMod, Nat.reduceLT, List.length_cons, List.length_nil, eq_self, true_or, or_true, and_self, implies_true, not_true_eq_false, not_false_eq_true, false_implies, true_implies, forall_const, st_aloadx, st_getfieldx, st_iconstx, st_ifCondx, st_iloadx, st_in1, st_in2, st_ireturnx, jx_Slips_name_22, kb_Slips_name_22, oo_23, og_23_3, oo_47, oa_23, oa_47]
    refine ifnb (fun g => ?_) (fun g => ?_)
    · rw [g, Bool.and_true] at K
      simp only [isO_c, ax0, ex_cons, am_get, upz_at, true_and, and_true, Nat.reduceAdd, Nat.reduceLeDiff, Nat.reduceEqDiff, Nat.reduceSub, Int32.reduceOfInt, Int32.reduceAdd, Int32.reduceMul, Int32.reduceSub, ↓reduceIte, Int32.reduceLT, Int32.reduceLE, Int32.reduceToNatClampNeg, Nat.reduceMod, Nat.reduceLT, List.length_cons, List.length_nil, eq_self, true_or, or_true, and_self, implies_true, not_true_eq_false, not_false_eq_true, false_implies, true_implies, forall_const, st_iloadx, st_lookupswitchx, jx_Slips_name_39, kb_Slips_name_39, am_sw]
      refine And.intro (fun y => ?_) (fun y => ?_)
      · subst y
        simp only [show Int.toNat 68 = 68 from rfl, isO_c, ax0, ex_cons, am_get, upz_at, true_and, and_true, Nat.reduceAdd, Nat.reduceLeDiff, Nat.reduceEqDiff, Nat.reduceSub, Int32.reduceOfInt, Int32.reduceAdd, Int32.reduceMul, Int32.reduceSub, ↓reduceIte, Int32.reduceLT, Int32.reduceLE, Int32.reduceToNatClampNeg, Nat.reduceMod, Nat.reduceLT, List.length_cons, List.length_nil, eq_self, true_or, or_true, and_self, implies_true, not_true_eq_false, not_false_eq_true, false_implies, true_implies, forall_const, st_aloadx, st_getfieldx, st_iloadx, st_in2, st_ireturnx, jx_Slips_name_68, kb_Slips_name_68, og_23_3, oo_47, oa_23, oa_47]
        refine c_countPlaces t1 (by omega) ?_
        simp only [isO_c, ax0, ex_cons, am_get, upz_at, true_and, and_true, Nat.reduceAdd, Nat.reduceLeDiff, Nat.reduceEqDiff, Nat.reduceSub, Int32.reduceOfInt, Int32.reduceAdd, Int32.reduceMul, Int32.reduceSub, ↓reduceIte, Int32.reduceLT, Int32.reduceLE, Int32.reduceToNatClampNeg, Nat.reduceMod, Nat.reduceLT, List.length_cons, List.length_nil, eq_self, true_or, or_true, and_self, implies_true, not_true_eq_false, not_false_eq_true, false_implies, true_implies, forall_const, st_aloadx, st_getfieldx, st_iloadx, st_in2, st_ireturnx, jx_Slips_name_68, kb_Slips_name_68, og_23_3, oo_47, oa_23, oa_47]
        exact K
      refine And.intro (fun y2 => ?_) (fun y2 => ?_)
      · subst y2
        simp only [show Int.toNat 77 = 77 from rfl, isO_c, ax0, ex_cons, am_get, upz_at, true_and, and_true, Nat.reduceAdd, Nat.reduceLeDiff, Nat.reduceEqDiff, Nat.reduceSub, Int32.reduceOfInt, Int32.reduceAdd, Int32.reduceMul, Int32.reduceSub, ↓reduceIte, Int32.reduceLT, Int32.reduceLE, Int32.reduceToNatClampNeg, Nat.reduceMod, Nat.reduceLT, List.length_cons, List.length_nil, eq_self, true_or, or_true, and_self, implies_true, not_true_eq_false, not_false_eq_true, false_implies, true_implies, forall_const, st_aloadx, st_getfieldx, st_iloadx, st_in2, st_ireturnx, jx_Slips_name_77, kb_Slips_name_77, og_23_3, oo_47, oa_23, oa_47]
        refine c_lowestPlace t1 (by omega) ?_
        simp only [isO_c, ax0, ex_cons, am_get, upz_at, true_and, and_true, Nat.reduceAdd, Nat.reduceLeDiff, Nat.reduceEqDiff, Nat.reduceSub, Int32.reduceOfInt, Int32.reduceAdd, Int32.reduceMul, Int32.reduceSub, ↓reduceIte, Int32.reduceLT, Int32.reduceLE, Int32.reduceToNatClampNeg, Nat.reduceMod, Nat.reduceLT, List.length_cons, List.length_nil, eq_self, true_or, or_true, and_self, implies_true, not_true_eq_false, not_false_eq_true, false_implies, true_implies, forall_const, st_aloadx, st_getfieldx, st_iloadx, st_in2, st_ireturnx, jx_Slips_name_77, kb_Slips_name_77, og_23_3, oo_47, oa_23, oa_47]
        exact K
      · have e3 : lieB z 0 1 = false := by
          cases e4 : lieB z 0 1
          · rfl
          · rcases lie1 e4 with r | r
            · exact absurd r y
            · exact absurd r y2
        rw [e3, if_neg Bool.false_ne_true] at K
        simp only [isO_c, ax0, ex_cons, am_get, upz_at, true_and, and_true, Nat.reduceAdd, Nat.reduceLeDiff, Nat.reduceEqDiff, Nat.reduceSub, Int32.reduceOfInt, Int32.reduceAdd, Int32.reduceMul, Int32.reduceSub, ↓reduceIte, Int32.reduceLT, Int32.reduceLE, Int32.reduceToNatClampNeg, Nat.reduceMod, Nat.reduceLT, List.length_cons, List.length_nil, eq_self, true_or, or_true, and_self, implies_true, not_true_eq_false, not_false_eq_true, false_implies, true_implies, forall_const, st_iconstx, st_ireturnx, jx_Slips_name_86, kb_Slips_name_86]
        exact K
    · rw [g, Bool.and_false, if_neg Bool.false_ne_true] at K
      exact K
  · rw [ew, decide_eq_false q, decide_eq_true (Classical.not_not.mp q2)] at K; exact K F J Cf.rf
end CPF
