/-! ===== the class: telling ===== -/
theorem tS {h : am_H} {F : Nat → Nat → Int32} {J : Nat → Nat → Int64} {V : Nat → Nat → Value} {th : Nat} {x y : Int32} (hth : th = 47 ∨ th = 67) : am_set (ov h F J V) th (aO 8 [.ref (th + 1), .ref (th + 2), .int x, .ref (th + 3), .int y]) = ov h (upz F th (upz (upz (F th) 2 x) 4 y)) J V := by
  rcases hth with e | e <;> subst e
  · exact os_47 (f := upz (upz (F 47) 2 x) 4 y)
  · exact os_67 (f := upz (upz (F 67) 2 x) 4 y)
def pA (P w : Nat) : Nat := P ||| 2 ^ w
/-- the class's telling: names that are placed -/
def tzP (P : Nat) (how w : Nat) : Nat := if how = 2 then P ||| 2 ^ w else P
section CTK
variable {d th : Nat} {h : am_H} {F : Nat → Nat → Int32} {J : Nat → Nat → Int64} {V : Nat → Nat → Value} {Q : am_Q}
/-- only the theory's cells change -/
def Tth (th : Nat) (F F' : Nat → Nat → Int32) (J J' : Nat → Nat → Int64) : Prop := (∀ x, x ≠ th → F' x = F x) ∧ (∀ i, i ≠ 2 → i ≠ 4 → F' th i = F th i) ∧ ∀ x, x ≠ th + 1 → x ≠ th + 2 → x ≠ th + 3 → J' x = J x
theorem Tth.rf {th : Nat} {F : Nat → Nat → Int32} {J : Nat → Nat → Int64} : Tth th F F J J := ⟨fun _ _ => rfl, fun _ _ _ => rfl, fun _ _ _ _ => rfl⟩
theorem Tth.tr {th : Nat} {F F1 F2 : Nat → Nat → Int32} {J J1 J2 : Nat → Nat → Int64} (a : Tth th F F1 J J1) (b : Tth th F1 F2 J1 J2) : Tth th F F2 J J2 := ⟨fun x hx => (b.1 x hx).trans (a.1 x hx), fun i h1 h2 => (b.2.1 i h1 h2).trans (a.2.1 i h1 h2), fun x h1 h2 h3 => (b.2.2 x h1 h2 h3).trans (a.2.2 x h1 h2 h3)⟩
theorem Tth.eth {th : Nat} (hth : th = 47 ∨ th = 67) {h : am_H} {F F' : Nat → Nat → Int32} {J J' : Nat → Nat → Int64} {V : Nat → Nat → Value} (a : Tth th F F' J J') : Eth (ov h F J V) (ov h F' J' V) := fun x hx => by
  have hx : ¬ ((47 ≤ x ∧ x ≤ 50) ∨ (67 ≤ x ∧ x ≤ 70)) := hx
  by_cases hr : 23 ≤ x ∧ x < 108
  · rw [ov_lo hr.1 hr.2, ov_lo hr.1 hr.2, a.1 x (by omega), a.2.2 x (by omega) (by omega) (by omega)]
  · rw [ov_hi hr, ov_hi hr]
set_option maxRecDepth 20000 in
theorem c_fillJ {a m : Nat} (h23 : 23 ≤ a) (hm : m ≤ 1000) (hget : ∀ J, (ov h F J V).1 a = aJ (am_ar m (J a))) (hset : ∀ J f, am_set (ov h F J V) a (aJ (am_ar m f)) = ov h F (upz J a f) V) {v : Int64} (K : ∀ f, (∀ i, i < m → f i = v) → Q none (ov h F (upz J a f) V)) : am_cl (d + 1) 4 [.ref a, .long v] (ov h F J V) Q := by
  have al : ∀ (J : Nat → Nat → Int64) (K : Nat → Prop), am_len K ((ov h F J V).1 a) = K m := fun J K => by
    rw [hget]
    show ((am_ar m (J a)).length < 2147483648 ∧ K (am_ar m (J a)).length) = K m
    rw [am_ar_len]
    exact propext ⟨fun z => z.2, fun z => ⟨by omega, z⟩⟩
  simp only [isO_c, ax0, ex_cons, am_get, upz_at, true_and, and_true, Nat.reduceAdd, Nat.reduceLeDiff, Nat.reduceEqDiff, Nat.reduceSub, Int32.reduceOfInt, Int32.reduceAdd, Int32.reduceMul, Int32.reduceSub, ↓reduceIte, Int32.reduceLT, Int32.reduceLE, Int32.reduceToNatClampNeg, Nat.reduceMod, Nat.reduceLT, List.length_cons, List.length_nil, eq_self, true_or, or_true, and_self, implies_true, not_true_eq_false, not_false_eq_true, false_implies, true_implies, forall_const, st_aloadx, st_arraylengthx, st_goto_wx, st_iconstx, st_istorex, am_put, am_nlg, kb_Arrays_fill_J_0, cx_Arrays_fill_J, al]
  have e0 : ov h F J V = ov h F (upz J a (ovr (J a) (fun _ => v) 0 0)) V := by rw [ovr_0, upz_self]
  rw [e0]
  refine am_iter m (fun k => [.ref a, .long v, am_dum, .int (nI k), .int (nI m)]) (fun k => ov h F (upz J a (ovr (J a) (fun _ => v) 0 k)) V) (fun _ => True) (fun k hk hI go => ?_) (fun hI => ?_) 0 (by omega) trivial
  · rw [jx_Arrays_fill_J_6]
    have go := go trivial
    have ee := ovr_S (J a) (fun _ => v) 0 k rfl
    rw [Nat.zero_add] at ee
    rw [← ee] at go
    simp only [isO_c, ax0, ex_cons, am_get, upz_at, true_and, and_true, Nat.reduceAdd, Nat.reduceLeDiff, Nat.reduceEqDiff, Nat.reduceSub, Int32.reduceOfInt, Int32.reduceAdd, Int32.reduceMul, Int32.reduceSub, ↓reduceIte, Int32.reduceLT, Int32.reduceLE, Int32.reduceToNatClampNeg, Nat.reduceMod, Nat.reduceLT, List.length_cons, List.length_nil, eq_self, true_or, or_true, and_self, implies_true, not_true_eq_false, not_false_eq_true, false_implies, true_implies, forall_const, st_aloadx, st_gotox, st_if_icmpx, st_iincx, st_iloadx, st_lastorex, st_lloadx, am_put, am_nlg, kb_Arrays_fill_J_6, (nk_le (by omega) (by omega) : (nI (m) ≤ nI (k)) = (m ≤ k)), show ¬ m ≤ k by omega, hget, oq_wJ, nk_neg (show k < 2147483648 by omega), nk_cl (show k < 2147483648 by omega), hk, h23, hset, upz_eq, upz_upd, nk_succ]
    exact go
  · rw [jx_Arrays_fill_J_6]
    simp only [isO_c, ax0, ex_cons, am_get, upz_at, true_and, and_true, Nat.reduceAdd, Nat.reduceLeDiff, Nat.reduceEqDiff, Nat.reduceSub, Int32.reduceOfInt, Int32.reduceAdd, Int32.reduceMul, Int32.reduceSub, ↓reduceIte, Int32.reduceLT, Int32.reduceLE, Int32.reduceToNatClampNeg, Nat.reduceMod, Nat.reduceLT, List.length_cons, List.length_nil, eq_self, true_or, or_true, and_self, implies_true, not_true_eq_false, not_false_eq_true, false_implies, true_implies, forall_const, st_aloadx, st_gotox, st_if_icmpx, st_iincx, st_iloadx, st_lastorex, st_lloadx, st_return_x, am_put, am_nlg, kb_Arrays_fill_J_6, jx_Arrays_fill_J_22, kb_Arrays_fill_J_22, (nk_le (by omega) (by omega) : (nI (m) ≤ nI (m)) = (m ≤ m)), Nat.le_refl]
    exact K _ (fun i hi => ovr_in (by omega) (by omega))
set_option maxRecDepth 20000 in
theorem c_clear (hth : th = 47 ∨ th = 67) (K : ∀ F' J', TT F' J' th tE 0 → Tth th F F' J J' → Q none (ov h F' J' V)) : am_cl (d + 2) 139 [.ref th] (ov h F J V) Q := by
  simp only [isO_c, ax0, ex_cons, am_get, upz_at, true_and, and_true, Nat.reduceAdd, Nat.reduceLeDiff, Nat.reduceEqDiff, Nat.reduceSub, Int32.reduceOfInt, Int32.reduceAdd, Int32.reduceMul, Int32.reduceSub, ↓reduceIte, Int32.reduceLT, Int32.reduceLE, Int32.reduceToNatClampNeg, Nat.reduceMod, Nat.reduceLT, List.length_cons, List.length_nil, eq_self, true_or, or_true, and_self, implies_true, not_true_eq_false, not_false_eq_true, false_implies, true_implies, forall_const, st_aloadx, st_bipushx, st_getfieldx, st_iconstx, st_st2, st_putfieldx, st_return_x, kb_Theory_clear_0, og_47_0, og_67_0, og_47_3, og_67_3, op_47_4, op_67_4, op_47_2, op_67_2, oa_47, oa_67, os_47, os_67, oa_48, oa_50, oa_68, oa_70, cx_Theory_clear, tO hth, gf8]
  refine c_fillJ (by omega) (by decide) (fun J => tJ1 hth) (fun J f => tW1 hth) (fun f1 e1 => ?_)
  simp only [isO_c, ax0, ex_cons, am_get, upz_at, true_and, and_true, Nat.reduceAdd, Nat.reduceLeDiff, Nat.reduceEqDiff, Nat.reduceSub, Int32.reduceOfInt, Int32.reduceAdd, Int32.reduceMul, Int32.reduceSub, ↓reduceIte, Int32.reduceLT, Int32.reduceLE, Int32.reduceToNatClampNeg, Nat.reduceMod, Nat.reduceLT, List.length_cons, List.length_nil, eq_self, true_or, or_true, and_self, implies_true, not_true_eq_false, not_false_eq_true, false_implies, true_implies, forall_const, st_aloadx, st_bipushx, st_getfieldx, st_iconstx, st_st2, st_putfieldx, st_return_x, kb_Theory_clear_0, og_47_0, og_67_0, og_47_3, og_67_3, op_47_4, op_67_4, op_47_2, op_67_2, oa_47, oa_67, os_47, os_67, oa_48, oa_50, oa_68, oa_70, tO hth, gf8]
  refine c_fillJ (by omega) (by decide) (fun J => tJ3 hth) (fun J f => tW3 hth) (fun f2 e2 => ?_)
  simp only [isO_c, ax0, ex_cons, am_get, upz_at, true_and, and_true, Nat.reduceAdd, Nat.reduceLeDiff, Nat.reduceEqDiff, Nat.reduceSub, Int32.reduceOfInt, Int32.reduceAdd, Int32.reduceMul, Int32.reduceSub, ↓reduceIte, Int32.reduceLT, Int32.reduceLE, Int32.reduceToNatClampNeg, Nat.reduceMod, Nat.reduceLT, List.length_cons, List.length_nil, eq_self, true_or, or_true, and_self, implies_true, not_true_eq_false, not_false_eq_true, false_implies, true_implies, forall_const, st_aloadx, st_bipushx, st_getfieldx, st_iconstx, st_st2, st_putfieldx, st_return_x, kb_Theory_clear_0, og_47_0, og_67_0, og_47_3, og_67_3, op_47_4, op_67_4, op_47_2, op_67_2, oa_47, oa_67, os_47, os_67, oa_48, oa_50, oa_68, oa_70, tO hth, gf8, pf8, show 23 ≤ th by omega, tS hth, upz_upd, upz_eq]
  refine K _ _ ?_ ?_
  · refine ⟨fun r hr => ?_, ?_, by decide, fun i hi => absurd hi (Nat.not_lt_zero i), fun n hn r hr => ?_, ?_, by decide, fun n _ _ r _ => rfl⟩
    · rw [upz_ne _ _ (by omega), upz_eq]
      exact bJ_at (y := fun _ => -1) hr (fun k hk => e1 k hk) (bJ_ones r)
    · rw [upz_eq, upz_ne _ _ (by decide), upz_eq]; rfl
    · rw [upz_eq]
      exact bJ_at (y := fun _ => -1) hr (fun k hk => e2 _ (by omega)) (bJ_ones r)
    · rw [upz_eq, upz_eq]; rfl
  · exact ⟨fun x hx => upz_ne _ _ hx, fun i h1 h2 => by rw [upz_eq, upz_ne _ _ h2, upz_ne _ _ h1, upz_ne _ _ h2, upz_ne _ _ h1], fun x h1 h2 h3 => by rw [upz_ne _ _ h3, upz_ne _ _ h1]⟩
set_option maxRecDepth 20000 in
theorem c_bar (hth : th = 47 ∨ th = 67) {T : tT} {P : Nat} (hT : TT F J th T P) {a : Nat} {set : Nat → Bool} (ha : SJ (ov h F J V) a set) (hna : ¬ isTh a) (K : ∀ J', TT F J' th (fun r => T.1 r || set r, T.2.1, T.2.2) P → Tth th F F J J' → Q none (ov h F J' V)) : am_cl (d + 1) 142 [.ref th, .ref a] (ov h F J V) Q := by
  obtain ⟨f, hf1, hf2⟩ := ha
  obtain ⟨t1, t2, t3, t4, t5, t6, t7, t8⟩ := hT
  have hna2 : ¬ ((47 ≤ a ∧ a ≤ 50) ∨ (67 ≤ a ∧ a ≤ 70)) := hna
  have hget : ∀ g, (ov h F (upz J (th + 1) g) V).1 a = aJ (am_ar 4 f) := fun g => by
    rw [← hf1]
    exact (Tth.eth hth (F := F) ⟨fun _ _ => rfl, fun _ _ _ => rfl, fun x h1 _ _ => upz_ne _ _ h1⟩) a hna
  simp only [isO_c, ax0, ex_cons, am_get, upz_at, true_and, and_true, Nat.reduceAdd, Nat.reduceLeDiff, Nat.reduceEqDiff, Nat.reduceSub, Int32.reduceOfInt, Int32.reduceAdd, Int32.reduceMul, Int32.reduceSub, ↓reduceIte, Int32.reduceLT, Int32.reduceLE, Int32.reduceToNatClampNeg, Nat.reduceMod, Nat.reduceLT, List.length_cons, List.length_nil, eq_self, true_or, or_true, and_self, implies_true, not_true_eq_false, not_false_eq_true, false_implies, true_implies, forall_const, st_goto_wx, st_iconstx, st_istorex, am_put, am_nlg, kb_Theory_bar_0, cx_Theory_bar]
  have e0 : ov h F J V = ov h F (upz J (th + 1) (ovr (J (th + 1)) (fun k => J (th + 1) k &&& (f k ^^^ -1)) 0 0)) V := by rw [ovr_0, upz_self]
  rw [e0]
  refine am_iter 4 (fun k => [.ref th, .ref a, .int (nI k)]) (fun k => ov h F (upz J (th + 1) (ovr (J (th + 1)) (fun k => J (th + 1) k &&& (f k ^^^ -1)) 0 k)) V) (fun _ => True) (fun k hk hI go => ?_) (fun hI => ?_) 0 (by omega) trivial
  · rw [jx_Theory_bar_2]
    have go := go trivial
    have ee := ovr_S (J (th + 1)) (fun k => J (th + 1) k &&& (f k ^^^ -1)) 0 k rfl
    rw [Nat.zero_add] at ee
    rw [← ee] at go
    simp only [isO_c, ax0, ex_cons, am_get, upz_at, true_and, and_true, Nat.reduceAdd, Nat.reduceLeDiff, Nat.reduceEqDiff, Nat.reduceSub, Int32.reduceOfInt, Int32.reduceAdd, Int32.reduceMul, Int32.reduceSub, ↓reduceIte, Int32.reduceLT, Int32.reduceLE, Int32.reduceToNatClampNeg, Nat.reduceMod, Nat.reduceLT, List.length_cons, List.length_nil, eq_self, true_or, or_true, and_self, implies_true, not_true_eq_false, not_false_eq_true, false_implies, true_implies, forall_const, st_aloadx, st_bipushx, st_dup2x, st_dup2_1x, st_getfieldx, st_gotox, st_iconstx, st_if_icmpx, st_iincx, st_iloadx, st_laloadx, st_landx, st_lastorex, st_lxorx, am_put, am_nlg, kb_Theory_bar_2, og_47_0, og_67_0, oa_47, oa_67, oa_48, or_48, ow_48, os_48, oa_68, or_68, ow_68, os_68, show ((4 : Int32) ≤ nI (k)) = (4 ≤ k) from nk_le (a := 4) (b := k) (by omega) (by omega), show ¬ 4 ≤ k by omega, tO hth, gf8, tJ1 hth, hget, oq_rJ, oq_wJ, nk_neg (show k < 2147483648 by omega), nk_cl (show k < 2147483648 by omega), hk, show 23 ≤ th + 1 by omega, tW1 hth, upz_eq, upz_upd, nk_succ, ovr_out (show ¬ (0 ≤ k ∧ k < 0 + k) by omega)]
    exact go
  · rw [jx_Theory_bar_2]
    simp only [isO_c, ax0, ex_cons, am_get, upz_at, true_and, and_true, Nat.reduceAdd, Nat.reduceLeDiff, Nat.reduceEqDiff, Nat.reduceSub, Int32.reduceOfInt, Int32.reduceAdd, Int32.reduceMul, Int32.reduceSub, ↓reduceIte, Int32.reduceLT, Int32.reduceLE, Int32.reduceToNatClampNeg, Nat.reduceMod, Nat.reduceLT, List.length_cons, List.length_nil, eq_self, true_or, or_true, and_self, implies_true, not_true_eq_false, not_false_eq_true, false_implies, true_implies, forall_const, st_aloadx, st_bipushx, st_dup2x, st_dup2_1x, st_getfieldx, st_gotox, st_iconstx, st_if_icmpx, st_iincx, st_iloadx, st_laloadx, st_landx, st_lastorex, st_lxorx, st_return_x, am_put, am_nlg, kb_Theory_bar_2, og_47_0, og_67_0, jx_Theory_bar_29, kb_Theory_bar_29, oa_47, oa_67, oa_48, or_48, ow_48, os_48, oa_68, or_68, ow_68, os_68, show ((4 : Int32) ≤ nI (4)) = (4 ≤ 4) from nk_le (a := 4) (b := 4) (by omega) (by omega)]
    refine K _ ⟨fun r hr => ?_, t2, t3, fun i hi r hr => ?_, fun n hn r hr => ?_, t6, t7, t8⟩ ⟨fun _ _ => rfl, fun _ _ _ => rfl, fun x h1 _ _ => upz_ne _ _ h1⟩
    · rw [upz_eq]
      refine bJ_at (y := fun k => J (th + 1) k &&& (f k ^^^ -1)) hr (fun k hk => ovr_in (by omega) (by omega)) ?_
      rw [bJ_and (J (th + 1)) (fun k => f k ^^^ -1), bJ_not, t1 r hr, hf2 r hr]
      show _ = !(T.1 r || set r)
      cases T.1 r <;> cases set r <;> rfl
    · rw [upz_ne _ _ (by omega)]; exact t4 i hi r hr
    · rw [upz_ne _ _ (by omega)]; exact t5 n hn r hr
theorem ar_get {α : Type} (n : Nat) (f : Nat → α) (i : Nat) : (am_ar n f)[i]? = if i < n then some (f i) else none := by
  unfold am_ar
  rw [List.getElem?_map]
  by_cases e : i < n
  · rw [if_pos e, List.getElem?_range e]; rfl
  · rw [if_neg e, List.getElem?_eq_none (by rw [List.length_range]; omega)]; rfl
theorem cpy_at {n k : Nat} {f g : Nat → Int64} (h : k + 4 ≤ n) : am_cpy (am_ar 4 f) (am_ar n g) 0 k 4 = am_ar n (ovr g (fun i => f (i - k)) k 4) := by
  apply List.ext_getElem?
  intro i
  unfold am_cpy
  rw [ar_get, List.drop_zero]
  have l1 : ((am_ar n g).take k).length = k := by rw [List.length_take, am_ar_len]; omega
  have l2 : ((am_ar 4 f).take 4).length = 4 := by rw [List.length_take, am_ar_len]; rfl
  by_cases e1 : i < k
  · rw [List.getElem?_append_left (by rw [List.length_append, l1, l2]; omega), List.getElem?_append_left (by rw [l1]; exact e1), List.getElem?_take_of_lt e1, ar_get, if_pos (by omega), if_pos (by omega), ovr_out (by omega)]
  · by_cases e2 : i < k + 4
    · rw [List.getElem?_append_left (by rw [List.length_append, l1, l2]; omega), List.getElem?_append_right (by rw [l1]; omega), l1, List.getElem?_take_of_lt (by omega), ar_get, if_pos (by omega), if_pos (by omega), ovr_in (by omega) (by omega)]
    · rw [List.getElem?_append_right (by rw [List.length_append, l1, l2]; omega), List.length_append, l1, l2, List.getElem?_drop, ar_get]
      rw [show k + 4 + (i - (k + 4)) = i by omega]
      by_cases e3 : i < n
      · rw [if_pos e3, if_pos e3, ovr_out (by omega)]
      · rw [if_neg e3, if_neg e3]
theorem acJ {i k n : Int32} {m p : Nat} {f g : Nat → Int64} {K : am_E → Prop} (hi : i = 0) (hk : k = nI p) (hn : n = 4) (hp : p + 4 ≤ m) (hm : m ≤ 1000) : am_ac i k n K (aJ (am_ar 4 f)) (aJ (am_ar m g)) = K (aJ (am_ar m (ovr g (fun i => f (i - p)) p 4))) := by
  subst hi; subst hk; subst hn
  show ((3 : Nat) = 3 ∧ (3 : Nat) = 3 ∧ 0 ≤ (0 : Int32).toInt ∧ 0 ≤ (nI p).toInt ∧ 0 ≤ (4 : Int32).toInt ∧ (0 : Int32).toInt + (4 : Int32).toInt ≤ ((am_ar 4 f).length : Int) ∧ (nI p).toInt + (4 : Int32).toInt ≤ ((am_ar m g).length : Int) ∧ K (aJ (am_cpy (am_ar 4 f) (am_ar m g) (0 : Int32).toNatClampNeg (nI p).toNatClampNeg (4 : Int32).toNatClampNeg))) = _
  have e4 : (4 : Int32).toInt = 4 := by decide
  have e0 : (0 : Int32).toInt = 0 := by decide
  rw [nk_cl (by omega), show (0 : Int32).toNatClampNeg = 0 from rfl, show (4 : Int32).toNatClampNeg = 4 from rfl, cpy_at hp, am_ar_len, am_ar_len, nk_toInt (by omega), e4, e0]
  exact propext ⟨fun z => z.2.2.2.2.2.2.2, fun z => ⟨rfl, rfl, by decide, by omega, by decide, by decide, by omega, z⟩⟩
set_option maxRecDepth 20000 in
theorem c_want (hth : th = 47 ∨ th = 67) {T : tT} {P : Nat} (hT : TT F J th T P) (hl : T.2.1.length < 13) {a : Nat} {set : Nat → Bool} (ha : SJ (ov h F J V) a set) (hna : ¬ isTh a) (h23 : 23 ≤ a) (K : ∀ F' J', TT F' J' th (T.1, T.2.1 ++ [set], T.2.2) P → Tth th F F' J J' → Q none (ov h F' J' V)) : am_cl (d + 1) 143 [.ref th, .ref a] (ov h F J V) Q := by
  obtain ⟨f, hf1, hf2⟩ := ha
  obtain ⟨t1, t2, t3, t4, t5, t6, t7, t8⟩ := hT
  have hna2 : ¬ ((47 ≤ a ∧ a ≤ 50) ∨ (67 ≤ a ∧ a ≤ 70)) := hna
  simp only [isO_c, ax0, ex_cons, am_get, upz_at, true_and, and_true, Nat.reduceAdd, Nat.reduceLeDiff, Nat.reduceEqDiff, Nat.reduceSub, Int32.reduceOfInt, Int32.reduceAdd, Int32.reduceMul, Int32.reduceSub, ↓reduceIte, Int32.reduceLT, Int32.reduceLE, Int32.reduceToNatClampNeg, Nat.reduceMod, Nat.reduceLT, List.length_cons, List.length_nil, eq_self, true_or, or_true, and_self, implies_true, not_true_eq_false, not_false_eq_true, false_implies, true_implies, forall_const, st_aloadx, st_dupx, st_dup_1x, st_getfieldx, st_goto_wx, st_iaddx, st_iconstx, st_if_icmpx, st_imulx, st_monitorexitx, st_putfieldx, st_return_x, kb_Theory_want_0, og_47_2, og_67_2, og_47_1, og_67_1, op_47_2, op_67_2, jx_Theory_want_35, kb_Theory_want_35, oa_47, oa_67, os_47, os_67, oa_49, oa_69, cx_Theory_want, tO hth, gf8, t2, show ((13 : Int32) ≤ nI (T.2.1.length)) = (13 ≤ T.2.1.length) from nk_le (a := 13) (b := T.2.1.length) (by omega) (by omega), show ¬ 13 ≤ T.2.1.length by omega, show nI T.2.1.length * (4 : Int32) = nI (T.2.1.length * 4) from nk_mul _ 4, h23, show 23 ≤ th + 2 by omega, show a ≠ th + 2 by omega, ne_eq, show (a = th + 2) = False from ax_f (by omega), hf1, tJ2 hth, acJ (p := T.2.1.length * 4) (m := 52) rfl rfl rfl (by omega) (by decide), tW2 hth, pf8, show 23 ≤ th by omega, tS2 hth, nk_succ]
  refine K _ _ ?_ ?_
  · refine ⟨fun r hr => ?_, ?_, ?_, fun i hi r hr => ?_, fun n hn r hr => ?_, ?_, t7, t8⟩
    · rw [upz_ne _ _ (by omega)]; exact t1 r hr
    · rw [upz_eq, upz_eq, List.length_append]; rfl
    · rw [List.length_append]; show T.2.1.length + 1 ≤ 13; omega
    · rw [List.length_append] at hi
      have hi : i < T.2.1.length + 1 := hi
      rw [upz_eq]
      by_cases e : i = T.2.1.length
      · subst e
        show _ = (T.2.1 ++ [set]).getD T.2.1.length (fun _ => false) r
        rw [show (T.2.1 ++ [set]).getD T.2.1.length (fun _ => false) = set by
          rw [List.getD_eq_getElem?_getD, List.getElem?_append_right (Nat.le_refl _), Nat.sub_self]; rfl]
        refine bJ_at (y := f) hr (fun k hk => ?_) (hf2 r hr)
        rw [ovr_in (by omega) (by omega), show 4 * T.2.1.length + k - T.2.1.length * 4 = k by omega]
      · show _ = (T.2.1 ++ [set]).getD i (fun _ => false) r
        rw [show (T.2.1 ++ [set]).getD i (fun _ => false) = T.2.1.getD i (fun _ => false) by
          rw [List.getD_eq_getElem?_getD, List.getD_eq_getElem?_getD, List.getElem?_append_left (by omega)]]
        exact bJ_at hr (fun k hk => ovr_out (by omega)) (t4 i (by omega) r hr)
    · rw [upz_ne _ _ (by omega)]; exact t5 n hn r hr
    · rw [upz_eq, upz_ne _ _ (by decide)]; exact t6
  · exact ⟨fun x hx => upz_ne _ _ hx, fun i h1 h2 => by rw [upz_eq, upz_ne _ _ h1], fun x h1 h2 h3 => upz_ne _ _ h2⟩
end CTK
