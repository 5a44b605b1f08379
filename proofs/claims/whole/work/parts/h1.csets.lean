/-! ===== the class: the regions of terms ===== -/
theorem evT_ng {t : eT} {r : Nat} : ∀ k, evT (ngT k t) r = (if k % 2 = 0 then evT t r else !evT t r)
  | 0 => rfl
  | k + 1 => by
    show (!evT (ngT k t) r) = _
    rw [evT_ng k]
    by_cases z : k % 2 = 0
    · rw [if_pos z, if_neg (by omega)]
    · rw [if_neg z, if_pos (by omega), Bool.not_not]
section CFS
variable {d : Nat} {h : am_H} {F : Nat → Nat → Int32} {J : Nat → Nat → Int64} {V : Nat → Nat → Value} {Q : am_Q}
set_option maxRecDepth 20000 in
theorem c_kindWordG {hp : am_H} (h1 : hp.1 1 = aJ am_pat) {x : Int32} {w : Nat} (hw : w < 4) (K : ∀ y, (∀ k, x = nI k → k < 8 → y = kwJ k w) → Q (some (.long y)) hp) : am_cl (d + 1) 74 [.int x, .int (nI w)] hp Q := by
  by_cases z : ∃ k, x = nI k ∧ k < 8
  · obtain ⟨k, e, hk⟩ := z
    subst e
    exact c_kindWord h1 hk hw (K _ (fun k' e hk' => by
      rw [nk_eq (by omega) (by omega)] at e
      rw [e]))
  · have K : ∀ y, Q (some (.long y)) hp := fun y => K y (fun k e hk => absurd ⟨k, e, hk⟩ z)
    have z6 : x < 0 ∨ ¬ x < 6 := by
      by_cases y : x < 0
      · exact Or.inl y
      · refine Or.inr (fun u => z ⟨x.toNatClampNeg, (nk_of y).1, ?_⟩)
        obtain ⟨e1, e2⟩ := nk_of y
        rw [e1, show (nI x.toNatClampNeg < (6 : Int32)) = (x.toNatClampNeg < 6) from nk_lt (b := 6) e2 (by decide)] at u
        omega
    have hi : am_W kc_Slips_kindWord (am_cl d) Q 18 [.int x, .int (nI w), am_dum] [] hp := by
      simp only [isO_c, ax0, ex_cons, am_get, upz_at, true_and, and_true, Nat.reduceAdd, Nat.reduceLeDiff, Nat.reduceEqDiff, Nat.reduceSub, Int32.reduceOfInt, Int32.reduceAdd, Int32.reduceMul, Int32.reduceSub, ↓reduceIte, Int32.reduceLT, Int32.reduceLE, Int32.reduceToNatClampNeg, Nat.reduceMod, Nat.reduceLT, List.length_cons, List.length_nil, eq_self, true_or, or_true, and_self, implies_true, not_true_eq_false, not_false_eq_true, false_implies, true_implies, forall_const, st_bipushx, st_gotox, st_goto_wx, st_iandx, st_iconstx, st_ifCondx, st_if_icmpx, st_iloadx, st_istorex, st_lreturnx, am_put, am_nlg, jx_Slips_kindWord_18, kb_Slips_kindWord_18, jx_Slips_kindWord_28, kb_Slips_kindWord_28, jx_Slips_kindWord_29, kb_Slips_kindWord_29, jx_Slips_kindWord_42, kb_Slips_kindWord_42, jx_Slips_kindWord_43, kb_Slips_kindWord_43]
      refine ⟨fun _ => ⟨fun _ => K _, fun _ => K _⟩, fun _ => ⟨fun _ => K _, fun _ => K _⟩⟩
    simp only [isO_c, ax0, ex_cons, am_get, upz_at, true_and, and_true, Nat.reduceAdd, Nat.reduceLeDiff, Nat.reduceEqDiff, Nat.reduceSub, Int32.reduceOfInt, Int32.reduceAdd, Int32.reduceMul, Int32.reduceSub, ↓reduceIte, Int32.reduceLT, Int32.reduceLE, Int32.reduceToNatClampNeg, Nat.reduceMod, Nat.reduceLT, List.length_cons, List.length_nil, eq_self, true_or, or_true, and_self, implies_true, not_true_eq_false, not_false_eq_true, false_implies, true_implies, forall_const, st_arraylengthx, st_ifCondx, st_if_icmpx, st_iloadx, st_laloadx, st_ldcx, st_lreturnx, kb_Slips_kindWord_0, cx_Slips_kindWord, h1, len_pat, rd_pat]
    refine ⟨fun _ => hi, fun u => ⟨fun _ => hi, fun v => ?_⟩⟩
    exfalso
    rcases z6 with y | y
    · exact u y
    · exact v (Int32.not_lt.mp y)
set_option maxRecDepth 20000 in
theorem c_setWord {x : Int32} {w cnt : Nat} (hw : w < 4) (h5 : F 26 5 = nI cnt) (hc : cnt ≤ 48) (K : ∀ y, (∀ l, x = nI l → l < cnt → y = J 31 (l * 4 + w)) → (x = -1 → y = 0) → Q (some (.long y)) (ov h F J V)) : am_cl (d + 2) 164 [.ref 26, .int x, .int (nI w)] (ov h F J V) Q := by
  simp only [isO_c, ax0, ex_cons, am_get, upz_at, true_and, and_true, Nat.reduceAdd, Nat.reduceLeDiff, Nat.reduceEqDiff, Nat.reduceSub, Int32.reduceOfInt, Int32.reduceAdd, Int32.reduceMul, Int32.reduceSub, ↓reduceIte, Int32.reduceLT, Int32.reduceLE, Int32.reduceToNatClampNeg, Nat.reduceMod, Nat.reduceLT, List.length_cons, List.length_nil, eq_self, true_or, or_true, and_self, implies_true, not_true_eq_false, not_false_eq_true, false_implies, true_implies, forall_const, st_aloadx, st_getfieldx, st_gotox, st_iaddx, st_iconstx, st_ifCondx, st_if_icmpx, st_iloadx, st_imulx, st_in2, st_laloadx, kb_Tree_setWord_0, oo_26, og_26_4, oa_26, oa_31, or_31, cx_Tree_setWord]
  refine c_hasNode h5 ?_
  simp only [isO_c, ax0, ex_cons, am_get, upz_at, true_and, and_true, Nat.reduceAdd, Nat.reduceLeDiff, Nat.reduceEqDiff, Nat.reduceSub, Int32.reduceOfInt, Int32.reduceAdd, Int32.reduceMul, Int32.reduceSub, ↓reduceIte, Int32.reduceLT, Int32.reduceLE, Int32.reduceToNatClampNeg, Nat.reduceMod, Nat.reduceLT, List.length_cons, List.length_nil, eq_self, true_or, or_true, and_self, implies_true, not_true_eq_false, not_false_eq_true, false_implies, true_implies, forall_const, st_aloadx, st_bipushx, st_getfieldx, st_gotox, st_goto_wx, st_iaddx, st_iconstx, st_ifCondx, st_if_icmpx, st_iloadx, st_imulx, st_in2, st_laloadx, st_lreturnx, kb_Tree_setWord_0, oo_26, og_26_4, jx_Tree_setWord_30, kb_Tree_setWord_30, jx_Tree_setWord_31, kb_Tree_setWord_31, oa_26, oa_31, or_31, nk_neg (show w < 2147483648 by omega), nk_cl (show w < 2147483648 by omega), show ((4 : Int32) ≤ nI (w)) = (4 ≤ w) from nk_le (a := 4) (b := w) (by omega) (by omega), show ¬ 4 ≤ w by omega]
  refine ifb (fun z => ?_) (fun z => ?_)
  · refine K _ (fun l e hl => ?_) (fun _ => rfl)
    rw [e, decide_eq_false (show ¬ nI l < 0 by rw [nk_neg (by omega)]; exact id), decide_eq_true (show nI l < nI cnt by rw [nk_lt (by omega) (by omega)]; exact hl)] at z
    cases z
  · rw [Bool.and_eq_true, Bool.not_eq_true', decide_eq_false_iff_not, decide_eq_true_eq] at z
    obtain ⟨e1, e2⟩ := nk_of z.1
    have hl : x.toNatClampNeg < cnt := by
      have := z.2
      rw [e1, nk_lt e2 (by omega)] at this
      exact this
    generalize x.toNatClampNeg = l at e1 e2 hl
    subst e1
    simp only [show nI l * (4 : Int32) = nI (l * 4) from nk_mul l 4, show nI (l * 4) + nI w = nI (l * 4 + w) from nk_add _ _, nk_neg (show l * 4 + w < 2147483648 by omega), nk_cl (show l * 4 + w < 2147483648 by omega)]
    refine ⟨⟨id, by omega⟩, K _ (fun l' e hl' => ?_) (fun e => ?_)⟩
    · rw [nk_eq (by omega) (by omega)] at e
      rw [e]
    · exfalso
      rw [nI_neg1 (by omega)] at e
      exact e
/-- the words of a node -/
def NW (F : Nat → Nat → Int32) (J1 J2 : Nat → Nat → Int64) (i q : Nat) : Prop := ∃ y : Int64, J2 31 (i * 4 + q) = (if F 30 i - F 30 i / 2 * 2 = 0 then y else y ^^^ -1) ∧ (∀ l r, F 27 i = 8 → F 28 i = nI l → F 29 i = nI r → l < i → r < i → y = J1 31 (l * 4 + q) ||| J1 31 (r * 4 + q)) ∧ (∀ l r, F 27 i = 9 → F 28 i = nI l → F 29 i = nI r → l < i → r < i → y = J1 31 (l * 4 + q) &&& J1 31 (r * 4 + q)) ∧ ∀ j, F 27 i = nI j → j < 8 → y = kwJ j q
def NV (F : Nat → Nat → Int32) (J : Nat → Nat → Int64) (i : Nat) : Prop := ∀ t k, wfT t → 4 * k + wsT t ≤ 1000 → TN F t k i → ∀ r, r < 256 → bJ (fun q => J 31 (4 * i + q)) r = evT (ngT k t) r
theorem NW.nv {F : Nat → Nat → Int32} {J1 J2 : Nat → Nat → Int64} {i : Nat} (hN : ∀ q, q < 4 → NW F J1 J2 i q) (hc : ∀ l, l < i → NV F J1 l) : NV F J2 i := by
  intro t
  have par : ∀ k, k < 2147483648 → F 30 i = nI k → (F 30 i - F 30 i / 2 * 2 = 0) = (k % 2 = 0) := fun k hk e => by
    rw [e, show nI k - nI k / 2 * 2 = nI (k % 2) from nk_rem (b := 2) hk (by decide) (by decide)]
    exact nk_eq (b := 0) (by omega) (by decide)
  have fin : ∀ (k : Nat) (Y : Nat → Int64) (p : Nat → Bool), k < 2147483648 → F 30 i = nI k → (∀ q, q < 4 → ∀ y, ((∀ l r, F 27 i = 8 → F 28 i = nI l → F 29 i = nI r → l < i → r < i → y = J1 31 (l * 4 + q) ||| J1 31 (r * 4 + q)) ∧ (∀ l r, F 27 i = 9 → F 28 i = nI l → F 29 i = nI r → l < i → r < i → y = J1 31 (l * 4 + q) &&& J1 31 (r * 4 + q)) ∧ ∀ j, F 27 i = nI j → j < 8 → y = kwJ j q) → y = Y q) → (∀ r, r < 256 → bJ Y r = p r) → ∀ r, r < 256 → bJ (fun q => J2 31 (4 * i + q)) r = (if k % 2 = 0 then p r else !p r) := by
    intro k Y p hk e hY hp r hr
    have w : ∀ q, q < 4 → J2 31 (4 * i + q) = (if k % 2 = 0 then Y q else Y q ^^^ -1) := fun q hq => by
      obtain ⟨y, y1, y2⟩ := hN q hq
      rw [Nat.mul_comm 4 i, y1, hY q hq y y2]
      by_cases z : k % 2 = 0
      · rw [if_pos z, if_pos (by rw [par k hk e]; exact z)]
      · rw [if_neg z, if_neg (by rw [par k hk e]; exact z)]
    refine bJ_at (y := fun q => if k % 2 = 0 then Y q else Y q ^^^ -1) hr w ?_
    by_cases z : k % 2 = 0
    · simp only [if_pos z]; exact hp r hr
    · simp only [if_neg z]
      rw [bJ_not, hp r hr]
  induction t with
  | var j =>
    intro k hw hk hT r hr
    have hw : j < 8 := hw
    have hk : 4 * k + 2 ≤ 1000 := hk
    obtain ⟨h1, _, h2⟩ := hT
    rw [evT_ng]
    exact fin k (kwJ j) (fun r => r.testBit j) (by omega) h2 (fun q hq y hy => hy.2.2 j h1 hw) (fun r hr => kw_bit hw hr) r hr
  | neg a ih =>
    intro k hw hk hT r hr
    have hk : 4 * k + (4 + wsT a) ≤ 1000 := hk
    have := ih (k + 1) hw (by omega) hT r hr
    rw [this, evT_ng, evT_ng]
    show _ = if k % 2 = 0 then !evT a r else !!evT a r
    by_cases z : k % 2 = 0
    · rw [if_pos z, if_neg (by omega)]
    · rw [if_neg z, if_pos (by omega), Bool.not_not]
  | add a b iha ihb =>
    intro k hw hk hT r hr
    have hk : 4 * k + (wsT a + wsT b + 3) ≤ 1000 := hk
    obtain ⟨h1, h2, l, rr, h3, h4, h5, h6, h7, h8⟩ := hT
    have ea := hc l h3 a 0 hw.1 (by omega) h7
    have eb := hc rr h4 b 0 hw.2 (by omega) h8
    rw [evT_ng]
    refine fin k (fun q => J1 31 (4 * l + q) ||| J1 31 (4 * rr + q)) (fun r => evT a r || evT b r) (by omega) h2 (fun q hq y hy => ?_) (fun r hr => ?_) r hr
    · rw [Nat.mul_comm 4 l, Nat.mul_comm 4 rr]; exact hy.1 l rr h1 h5 h6 h3 h4
    · rw [bJ_or (fun q => J1 31 (4 * l + q)) (fun q => J1 31 (4 * rr + q)), ea r hr, eb r hr]; rfl
  | sub a b iha ihb =>
    intro k hw hk hT r hr
    have hk : 4 * k + (wsT a + wsT b + 8) ≤ 1000 := hk
    obtain ⟨h1, h2, l, rr, h3, h4, h5, h6, h7, h8⟩ := hT
    have ea := hc l h3 a 0 hw.1 (by omega) h7
    have eb := hc rr h4 b 0 hw.2 (by omega) h8
    rw [evT_ng]
    refine fin k (fun q => J1 31 (4 * l + q) &&& J1 31 (4 * rr + q)) (fun r => evT a r && evT b r) (by omega) h2 (fun q hq y hy => ?_) (fun r hr => ?_) r hr
    · rw [Nat.mul_comm 4 l, Nat.mul_comm 4 rr]; exact hy.2.1 l rr h1 h5 h6 h3 h4
    · rw [bJ_and (fun q => J1 31 (4 * l + q)) (fun q => J1 31 (4 * rr + q)), ea r hr, eb r hr]; rfl
  | num _ => intro k hw; exact hw.elim
  | mulL _ _ _ => intro k hw; exact hw.elim
  | mulR _ _ _ => intro k hw; exact hw.elim
set_option maxRecDepth 20000 in
theorem c_findSets (hpt : HP h) {cnt : Nat} (h5 : F 26 5 = nI cnt) (hc : cnt ≤ 48) (K : ∀ J', (∀ x, x ≠ 31 → J' x = J x) → (∀ i, i < cnt → NV F J' i) → Q none (ov h F J' V)) : am_cl (d + 3) 163 [.ref 26] (ov h F J V) Q := by
  simp only [isO_c, ax0, ex_cons, am_get, upz_at, true_and, and_true, Nat.reduceAdd, Nat.reduceLeDiff, Nat.reduceEqDiff, Nat.reduceSub, Int32.reduceOfInt, Int32.reduceAdd, Int32.reduceMul, Int32.reduceSub, ↓reduceIte, Int32.reduceLT, Int32.reduceLE, Int32.reduceToNatClampNeg, Nat.reduceMod, Nat.reduceLT, List.length_cons, List.length_nil, eq_self, true_or, or_true, and_self, implies_true, not_true_eq_false, not_false_eq_true, false_implies, true_implies, forall_const, st_goto_wx, st_iconstx, st_istorex, am_put, am_nlg, kb_Tree_findSets_0, cx_Tree_findSets]
  have out : ∀ j i J1 v2 v3 v4, i + j = cnt → (∀ x, x ≠ 31 → J1 x = J x) → (∀ l, l < i → NV F J1 l) → am_W kc_Tree_findSets (am_cl (d + 2)) Q 2 [.ref 26, .int (nI i), v2, v3, v4] [] (ov h F J1 V) := by
    intro j
    induction j with
    | zero =>
      intro i J1 v2 v3 v4 ei o1 n1
      have ei : i = cnt := ei
      rw [jx_Tree_findSets_2]
      simp only [isO_c, ax0, ex_cons, am_get, upz_at, true_and, and_true, Nat.reduceAdd, Nat.reduceLeDiff, Nat.reduceEqDiff, Nat.reduceSub, Int32.reduceOfInt, Int32.reduceAdd, Int32.reduceMul, Int32.reduceSub, ↓reduceIte, Int32.reduceLT, Int32.reduceLE, Int32.reduceToNatClampNeg, Nat.reduceMod, Nat.reduceLT, List.length_cons, List.length_nil, eq_self, true_or, or_true, and_self, implies_true, not_true_eq_false, not_false_eq_true, false_implies, true_implies, forall_const, st_aloadx, st_getfieldx, st_goto_wx, st_iconstx, st_if_icmpx, st_iloadx, st_istorex, st_return_x, am_put, am_nlg, kb_Tree_findSets_2, og_26_5, jx_Tree_findSets_146, kb_Tree_findSets_146, oa_26, h5, (nk_le (by omega) (by omega) : (nI (cnt) ≤ nI (i)) = (cnt ≤ i)), show cnt ≤ i by omega]
      exact K J1 o1 (fun l hl => n1 l (by omega))
    | succ j ih =>
      intro i J1 v2 v3 v4 ei o1 n1
      rw [jx_Tree_findSets_2]
      simp only [isO_c, ax0, ex_cons, am_get, upz_at, true_and, and_true, Nat.reduceAdd, Nat.reduceLeDiff, Nat.reduceEqDiff, Nat.reduceSub, Int32.reduceOfInt, Int32.reduceAdd, Int32.reduceMul, Int32.reduceSub, ↓reduceIte, Int32.reduceLT, Int32.reduceLE, Int32.reduceToNatClampNeg, Nat.reduceMod, Nat.reduceLT, List.length_cons, List.length_nil, eq_self, true_or, or_true, and_self, implies_true, not_true_eq_false, not_false_eq_true, false_implies, true_implies, forall_const, st_aloadx, st_getfieldx, st_goto_wx, st_iconstx, st_if_icmpx, st_iloadx, st_istorex, am_put, am_nlg, kb_Tree_findSets_2, og_26_5, oa_26, h5, (nk_le (by omega) (by omega) : (nI (cnt) ≤ nI (i)) = (cnt ≤ i)), show ¬ cnt ≤ i by omega]
      have inn : ∀ j2 w J2 v3 v4, w + j2 = 4 → (∀ x, x ≠ 31 → J2 x = J x) → (∀ a, a < i * 4 → J2 31 a = J1 31 a) → (∀ q, q < w → NW F J1 J2 i q) → am_W kc_Tree_findSets (am_cl (d + 2)) Q 12 [.ref 26, .int (nI i), .int (nI w), v3, v4] [] (ov h F J2 V) := by
        intro j2
        induction j2 with
        | zero =>
          intro w J2 v3 v4 ew o2 b2 n2
          have ew : w = 4 := ew
          subst ew
          rw [jx_Tree_findSets_12]
          simp only [isO_c, ax0, ex_cons, am_get, upz_at, true_and, and_true, Nat.reduceAdd, Nat.reduceLeDiff, Nat.reduceEqDiff, Nat.reduceSub, Int32.reduceOfInt, Int32.reduceAdd, Int32.reduceMul, Int32.reduceSub, ↓reduceIte, Int32.reduceLT, Int32.reduceLE, Int32.reduceToNatClampNeg, Nat.reduceMod, Nat.reduceLT, List.length_cons, List.length_nil, eq_self, true_or, or_true, and_self, implies_true, not_true_eq_false, not_false_eq_true, false_implies, true_implies, forall_const, st_aloadx, st_getfieldx, st_gotox, st_ialoadx, st_iconstx, st_if_icmpx, st_iincx, st_iloadx, st_in3, st_lorx, st_lstorex, am_put, am_nlg, am_putL, am_nlg, kb_Tree_findSets_12, og_26_0, og_26_1, oo_26, og_26_2, jx_Tree_findSets_140, kb_Tree_findSets_140, oa_26, oa_27, or_27, oa_28, or_28, oa_29, or_29, show ((4 : Int32) ≤ nI (4)) = (4 ≤ 4) from nk_le (a := 4) (b := 4) (by omega) (by omega), Nat.le_refl, nk_succ]
          refine ih (i + 1) J2 _ _ _ (by omega) o2 (fun l hl => ?_)
          by_cases z : l = i
          · rw [z]; exact NW.nv n2 n1
          · intro t k q1 q2 q3 r hr
            rw [← n1 l (by omega) t k q1 q2 q3 r hr]
            exact bJ_congr hr (fun q hq => b2 _ (by omega))
        | succ j2 ih2 =>
          intro w J2 v3 v4 ew o2 b2 n2
          have st : ∀ y : Int64, ((∀ l r, F 27 i = 8 → F 28 i = nI l → F 29 i = nI r → l < i → r < i → y = J1 31 (l * 4 + w) ||| J1 31 (r * 4 + w)) ∧ (∀ l r, F 27 i = 9 → F 28 i = nI l → F 29 i = nI r → l < i → r < i → y = J1 31 (l * 4 + w) &&& J1 31 (r * 4 + w)) ∧ ∀ j, F 27 i = nI j → j < 8 → y = kwJ j w) → am_W kc_Tree_findSets (am_cl (d + 2)) Q 104 [.ref 26, .int (nI i), .int (nI w), .long y, am_dum] [] (ov h F J2 V) := by
            intro y hy
            have put : ∀ x : Int64, x = (if F 30 i - F 30 i / 2 * 2 = 0 then y else y ^^^ -1) → am_W kc_Tree_findSets (am_cl (d + 2)) Q 133 [.ref 26, .int (nI i), .int (nI w), .long y, am_dum] [.long x, .int (nI (i * 4 + w)), .ref 31] (ov h F J2 V) := by
              intro x ex
              simp only [isO_c, ax0, ex_cons, am_get, upz_at, true_and, and_true, Nat.reduceAdd, Nat.reduceLeDiff, Nat.reduceEqDiff, Nat.reduceSub, Int32.reduceOfInt, Int32.reduceAdd, Int32.reduceMul, Int32.reduceSub, ↓reduceIte, Int32.reduceLT, Int32.reduceLE, Int32.reduceToNatClampNeg, Nat.reduceMod, Nat.reduceLT, List.length_cons, List.length_nil, eq_self, true_or, or_true, and_self, implies_true, not_true_eq_false, not_false_eq_true, false_implies, true_implies, forall_const, st_gotox, st_iincx, st_lastorex, am_put, am_nlg, jx_Tree_findSets_133, kb_Tree_findSets_133, oa_31, ow_31, os_31, nk_neg (show i * 4 + w < 2147483648 by omega), nk_cl (show i * 4 + w < 2147483648 by omega), show i * 4 + w < 192 by omega, nk_succ]
              refine ih2 (w + 1) _ _ _ (by omega) (fun a ha => by rw [upz_ne _ _ ha]; exact o2 a ha) (fun a ha => by rw [upz_eq, upz_ne _ _ (by omega)]; exact b2 a ha) (fun q hq => ?_)
              by_cases z : q = w
              · subst z
                exact ⟨y, by rw [upz_eq, upz_eq, ex], hy⟩
              · obtain ⟨y', y1, y2⟩ := n2 q (by omega)
                exact ⟨y', by rw [upz_eq, upz_ne _ _ (by omega)]; exact y1, y2⟩
            simp only [isO_c, ax0, ex_cons, am_get, upz_at, true_and, and_true, Nat.reduceAdd, Nat.reduceLeDiff, Nat.reduceEqDiff, Nat.reduceSub, Int32.reduceOfInt, Int32.reduceAdd, Int32.reduceMul, Int32.reduceSub, ↓reduceIte, Int32.reduceLT, Int32.reduceLE, Int32.reduceToNatClampNeg, Nat.reduceMod, Nat.reduceLT, List.length_cons, List.length_nil, eq_self, true_or, or_true, and_self, implies_true, not_true_eq_false, not_false_eq_true, false_implies, true_implies, forall_const, st_aloadx, st_bipushx, st_getfieldx, st_gotox, st_goto_wx, st_iaddx, st_ialoadx, st_iconstx, st_ifCondx, st_iloadx, st_imulx, st_iremx, st_lloadx, st_lxorx, jx_Tree_findSets_104, kb_Tree_findSets_104, og_26_4, og_26_3, jx_Tree_findSets_128, kb_Tree_findSets_128, oa_26, oa_30, or_30, oa_31, or_31, show nI i * (4 : Int32) = nI (i * 4) from nk_mul i 4, show nI (i * 4) + nI w = nI (i * 4 + w) from nk_add _ _, nk_neg (show i < 2147483648 by omega), nk_cl (show i < 2147483648 by omega), show i < 48 by omega, show ¬ (2 : Int32) = 0 by decide]
            refine ⟨fun z => ?_, fun z => ?_⟩
            · exact put _ (by rw [if_neg z]; rfl)
            · exact put _ (by rw [if_pos (Classical.not_not.mp z)])
          have chl : ∀ {x : Int32} {y : Int64} {l : Nat}, (∀ l, x = nI l → l < cnt → y = J2 31 (l * 4 + w)) → x = nI l → l < i → y = J1 31 (l * 4 + w) := fun hy e hl => by rw [hy _ e (by omega)]; exact b2 _ (by omega)
          rw [jx_Tree_findSets_12]
          simp only [isO_c, ax0, ex_cons, am_get, upz_at, true_and, and_true, Nat.reduceAdd, Nat.reduceLeDiff, Nat.reduceEqDiff, Nat.reduceSub, Int32.reduceOfInt, Int32.reduceAdd, Int32.reduceMul, Int32.reduceSub, ↓reduceIte, Int32.reduceLT, Int32.reduceLE, Int32.reduceToNatClampNeg, Nat.reduceMod, Nat.reduceLT, List.length_cons, List.length_nil, eq_self, true_or, or_true, and_self, implies_true, not_true_eq_false, not_false_eq_true, false_implies, true_implies, forall_const, st_aloadx, st_getfieldx, st_gotox, st_ialoadx, st_iconstx, st_if_icmpx, st_iloadx, st_in3, st_lorx, st_lstorex, am_putL, am_nlg, kb_Tree_findSets_12, og_26_0, og_26_1, oo_26, og_26_2, oa_26, oa_27, or_27, oa_28, or_28, oa_29, or_29, show ((4 : Int32) ≤ nI (w)) = (4 ≤ w) from nk_le (a := 4) (b := w) (by omega) (by omega), show ¬ 4 ≤ w by omega, nk_neg (show i < 2147483648 by omega), nk_cl (show i < 2147483648 by omega), show i < 48 by omega]
          refine ⟨fun z => ?_, fun z => ?_⟩
          · simp only [isO_c, ax0, ex_cons, am_get, upz_at, true_and, and_true, Nat.reduceAdd, Nat.reduceLeDiff, Nat.reduceEqDiff, Nat.reduceSub, Int32.reduceOfInt, Int32.reduceAdd, Int32.reduceMul, Int32.reduceSub, ↓reduceIte, Int32.reduceLT, Int32.reduceLE, Int32.reduceToNatClampNeg, Nat.reduceMod, Nat.reduceLT, List.length_cons, List.length_nil, eq_self, true_or, or_true, and_self, implies_true, not_true_eq_false, not_false_eq_true, false_implies, true_implies, forall_const, st_aloadx, st_getfieldx, st_gotox, st_ialoadx, st_iconstx, st_if_icmpx, st_iloadx, st_in3, st_landx, st_lstorex, am_putL, am_nlg, jx_Tree_findSets_55, kb_Tree_findSets_55, og_26_0, og_26_1, oo_26, og_26_2, oa_26, oa_27, or_27, oa_28, or_28, oa_29, or_29, nk_neg (show i < 2147483648 by omega), nk_cl (show i < 2147483648 by omega), show i < 48 by omega]
            refine ⟨fun z2 => ?_, fun z2 => ?_⟩
            · simp only [isO_c, ax0, ex_cons, am_get, upz_at, true_and, and_true, Nat.reduceAdd, Nat.reduceLeDiff, Nat.reduceEqDiff, Nat.reduceSub, Int32.reduceOfInt, Int32.reduceAdd, Int32.reduceMul, Int32.reduceSub, ↓reduceIte, Int32.reduceLT, Int32.reduceLE, Int32.reduceToNatClampNeg, Nat.reduceMod, Nat.reduceLT, List.length_cons, List.length_nil, eq_self, true_or, or_true, and_self, implies_true, not_true_eq_false, not_false_eq_true, false_implies, true_implies, forall_const, st_aloadx, st_getfieldx, st_goto_wx, st_ialoadx, st_iloadx, st_st2, st_lstorex, am_putL, am_nlg, jx_Tree_findSets_93, kb_Tree_findSets_93, og_26_0, oa_26, oa_27, or_27, nk_neg (show i < 2147483648 by omega), nk_cl (show i < 2147483648 by omega), show i < 48 by omega]
              refine c_kindWordG hpt.at (show w < 4 by omega) (fun y hy => ?_)
              simp only [isO_c, ax0, ex_cons, am_get, upz_at, true_and, and_true, Nat.reduceAdd, Nat.reduceLeDiff, Nat.reduceEqDiff, Nat.reduceSub, Int32.reduceOfInt, Int32.reduceAdd, Int32.reduceMul, Int32.reduceSub, ↓reduceIte, Int32.reduceLT, Int32.reduceLE, Int32.reduceToNatClampNeg, Nat.reduceMod, Nat.reduceLT, List.length_cons, List.length_nil, eq_self, true_or, or_true, and_self, implies_true, not_true_eq_false, not_false_eq_true, false_implies, true_implies, forall_const, st_aloadx, st_getfieldx, st_goto_wx, st_ialoadx, st_iloadx, st_st2, st_lstorex, am_putL, am_nlg, jx_Tree_findSets_93, kb_Tree_findSets_93, og_26_0, oa_26, oa_27, or_27]
              exact st y ⟨fun _ _ q => absurd q z, fun _ _ q => absurd q z2, hy⟩
            · have z2 := Classical.not_not.mp z2
              refine c_setWord (show w < 4 by omega) h5 hc (fun yl hl _ => ?_)
              simp only [isO_c, ax0, ex_cons, am_get, upz_at, true_and, and_true, Nat.reduceAdd, Nat.reduceLeDiff, Nat.reduceEqDiff, Nat.reduceSub, Int32.reduceOfInt, Int32.reduceAdd, Int32.reduceMul, Int32.reduceSub, ↓reduceIte, Int32.reduceLT, Int32.reduceLE, Int32.reduceToNatClampNeg, Nat.reduceMod, Nat.reduceLT, List.length_cons, List.length_nil, eq_self, true_or, or_true, and_self, implies_true, not_true_eq_false, not_false_eq_true, false_implies, true_implies, forall_const, st_aloadx, st_getfieldx, st_gotox, st_ialoadx, st_iconstx, st_if_icmpx, st_iloadx, st_in3, st_landx, st_lstorex, am_putL, am_nlg, jx_Tree_findSets_55, kb_Tree_findSets_55, og_26_0, og_26_1, oo_26, og_26_2, oa_26, oa_27, or_27, oa_28, or_28, oa_29, or_29, nk_neg (show i < 2147483648 by omega), nk_cl (show i < 2147483648 by omega), show i < 48 by omega]
              refine c_setWord (show w < 4 by omega) h5 hc (fun yr hr _ => ?_)
              simp only [isO_c, ax0, ex_cons, am_get, upz_at, true_and, and_true, Nat.reduceAdd, Nat.reduceLeDiff, Nat.reduceEqDiff, Nat.reduceSub, Int32.reduceOfInt, Int32.reduceAdd, Int32.reduceMul, Int32.reduceSub, ↓reduceIte, Int32.reduceLT, Int32.reduceLE, Int32.reduceToNatClampNeg, Nat.reduceMod, Nat.reduceLT, List.length_cons, List.length_nil, eq_self, true_or, or_true, and_self, implies_true, not_true_eq_false, not_false_eq_true, false_implies, true_implies, forall_const, st_aloadx, st_getfieldx, st_gotox, st_ialoadx, st_iconstx, st_if_icmpx, st_iloadx, st_in3, st_landx, st_lstorex, am_putL, am_nlg, jx_Tree_findSets_55, kb_Tree_findSets_55, og_26_0, og_26_1, oo_26, og_26_2, oa_26, oa_27, or_27, oa_28, or_28, oa_29, or_29]
              refine st _ ⟨fun _ _ q => absurd q z, fun l r _ q1 q2 q3 q4 => ?_, fun j q hj => ?_⟩
              · rw [chl hl q1 q3, chl hr q2 q4]
              · exfalso
                rw [z2, show ((9 : Int32) = nI j) = (9 = j) from nk_eq (a := 9) (by decide) (by omega)] at q
                omega
          · have z := Classical.not_not.mp z
            refine c_setWord (show w < 4 by omega) h5 hc (fun yl hl _ => ?_)
            simp only [isO_c, ax0, ex_cons, am_get, upz_at, true_and, and_true, Nat.reduceAdd, Nat.reduceLeDiff, Nat.reduceEqDiff, Nat.reduceSub, Int32.reduceOfInt, Int32.reduceAdd, Int32.reduceMul, Int32.reduceSub, ↓reduceIte, Int32.reduceLT, Int32.reduceLE, Int32.reduceToNatClampNeg, Nat.reduceMod, Nat.reduceLT, List.length_cons, List.length_nil, eq_self, true_or, or_true, and_self, implies_true, not_true_eq_false, not_false_eq_true, false_implies, true_implies, forall_const, st_aloadx, st_getfieldx, st_gotox, st_ialoadx, st_iconstx, st_if_icmpx, st_iloadx, st_in3, st_lorx, st_lstorex, am_putL, am_nlg, kb_Tree_findSets_12, og_26_0, og_26_1, oo_26, og_26_2, oa_26, oa_27, or_27, oa_28, or_28, oa_29, or_29, nk_neg (show i < 2147483648 by omega), nk_cl (show i < 2147483648 by omega), show i < 48 by omega]
            refine c_setWord (show w < 4 by omega) h5 hc (fun yr hr _ => ?_)
            simp only [isO_c, ax0, ex_cons, am_get, upz_at, true_and, and_true, Nat.reduceAdd, Nat.reduceLeDiff, Nat.reduceEqDiff, Nat.reduceSub, Int32.reduceOfInt, Int32.reduceAdd, Int32.reduceMul, Int32.reduceSub, ↓reduceIte, Int32.reduceLT, Int32.reduceLE, Int32.reduceToNatClampNeg, Nat.reduceMod, Nat.reduceLT, List.length_cons, List.length_nil, eq_self, true_or, or_true, and_self, implies_true, not_true_eq_false, not_false_eq_true, false_implies, true_implies, forall_const, st_aloadx, st_getfieldx, st_gotox, st_ialoadx, st_iconstx, st_if_icmpx, st_iloadx, st_in3, st_lorx, st_lstorex, am_putL, am_nlg, kb_Tree_findSets_12, og_26_0, og_26_1, oo_26, og_26_2, oa_26, oa_27, or_27, oa_28, or_28, oa_29, or_29]
            refine st _ ⟨fun l r _ q1 q2 q3 q4 => ?_, fun _ _ q => ?_, fun j q hj => ?_⟩
            · rw [chl hl q1 q3, chl hr q2 q4]
            · exfalso
              rw [z] at q
              exact absurd q (by decide)
            · exfalso
              rw [z, show ((8 : Int32) = nI j) = (8 = j) from nk_eq (a := 8) (by decide) (by omega)] at q
              omega
      exact inn 4 0 J1 _ _ rfl o1 (fun _ _ => rfl) (fun q hq => absurd hq (Nat.not_lt_zero q))
  exact out cnt 0 J _ _ _ (by omega) (fun _ _ => rfl) (fun l hl => absurd hl (Nat.not_lt_zero l))
end CFS
