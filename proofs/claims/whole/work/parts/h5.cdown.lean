/-! ===== the class: a sentence is written down ===== -/
theorem tx_b (t : eT) : ∀ br l, wfT t → (txT t br l).length + 3 ≤ l.length + wsT t + 3 * lvT t + (if br && !isBin t then 3 else 0) := by
  induction t with
  | var i =>
    intro br l hw
    have hw : i < 8 := hw
    have h1 := pwd_len (13 + i) (opB br l)
    have h2 := opB_len br l
    have h3 : lnW (13 + i) = 1 := (by decide : ∀ i : Fin 8, lnW (13 + i.val) = 1) ⟨i, hw⟩
    show (clB br (pwd (13 + i) (opB br l))).length + 3 ≤ l.length + 2 + 3 * 1 + _
    rw [clB_len]
    cases br <;> simp [isBin] at * <;> omega
  | neg a ih =>
    intro br l hw
    have h0 := ih (isBin a) (pwd 8 (opB br l)) hw
    have h1 := pwd_len 8 (opB br l)
    have h2 := opB_len br l
    have h3 : lnW 8 = 3 := by decide
    have h7 : (if isBin a && !isBin a then 3 else 0) = 0 := by cases isBin a <;> rfl
    rw [h7] at h0
    cases br
    · show (clB false (txT a (isBin a) (pwd 8 (opB false l)))).length + 3 ≤ l.length + (4 + wsT a) + 3 * lvT a + 0
      rw [clB_len, if_neg Bool.false_ne_true]
      rw [if_neg Bool.false_ne_true] at h2
      omega
    · show (clB true (txT a (isBin a) (pwd 8 (opB true l)))).length + 3 ≤ l.length + (4 + wsT a) + 3 * lvT a + 3
      rw [clB_len, if_pos rfl]
      rw [if_pos rfl] at h2
      omega
  | sub a b iha ihb =>
    intro br l hw
    have h0 := iha (isAdd a) (opB br l) hw.1
    have h4 := ihb (isBin b) (pwd 7 (pwd 12 (txT a (isAdd a) (opB br l)))) hw.2
    have h1 := pwd_len 7 (pwd 12 (txT a (isAdd a) (opB br l)))
    have h5 := pwd_len 12 (txT a (isAdd a) (opB br l))
    have h2 := opB_len br l
    have h3 : lnW 7 = 3 := by decide
    have h6 : lnW 12 = 3 := by decide
    have h7 : (if isAdd a && !isBin a then 3 else 0) = 0 := by cases a <;> rfl
    have h8 : (if isBin b && !isBin b then 3 else 0) = 0 := by cases b <;> rfl
    rw [h7] at h0
    rw [h8] at h4
    have h10 : (if br && !isBin (.sub a b) then 3 else 0) = 0 := by cases br <;> rfl
    show (clB br (txT b (isBin b) (pwd 7 (pwd 12 (txT a (isAdd a) (opB br l)))))).length + 3 ≤ l.length + (wsT a + wsT b + 8) + 3 * (lvT a + lvT b) + _
    rw [clB_len, h10]
    cases br
    · rw [if_neg Bool.false_ne_true]
      rw [if_neg Bool.false_ne_true] at h2
      omega
    · rw [if_pos rfl]
      rw [if_pos rfl] at h2
      omega
  | add a b iha ihb =>
    intro br l hw
    have h0 := iha false (opB br l) hw.1
    have h4 := ihb (isAdd b) (pwd 11 (txT a false (opB br l))) hw.2
    have h1 := pwd_len 11 (txT a false (opB br l))
    have h2 := opB_len br l
    have h3 : lnW 11 = 2 := by decide
    have h8 : (if isAdd b && !isBin b then 3 else 0) = 0 := by cases b <;> rfl
    have h7 : (if false && !isBin a then 3 else 0) = 0 := rfl
    rw [h7] at h0
    rw [h8] at h4
    have h10 : (if br && !isBin (.add a b) then 3 else 0) = 0 := by cases br <;> rfl
    show (clB br (txT b (isAdd b) (pwd 11 (txT a false (opB br l))))).length + 3 ≤ l.length + (wsT a + wsT b + 3) + 3 * (lvT a + lvT b) + _
    rw [clB_len, h10]
    cases br
    · rw [if_neg Bool.false_ne_true]
      rw [if_neg Bool.false_ne_true] at h2
      omega
    · rw [if_pos rfl]
      rw [if_pos rfl] at h2
      omega
  | num _ => intro br l hw; exact hw.elim
  | mulL _ _ _ => intro br l hw; exact hw.elim
  | mulR _ _ _ => intro br l hw; exact hw.elim
/-- how long a sentence is at most -/
def okR (R : rT) : Prop := wfR R ∧ (if R.1 < 9 then wsT R.2.2.2.1 else 0) + wsT R.2.2.2.2 ≤ 401 ∧ (if R.1 < 9 then lvT R.2.2.2.1 else 0) + lvT R.2.2.2.2 ≤ 24
theorem tx3_b {R : rT} (h : wfR R) : (tx3 R).length ≤ 11 + (if R.1 < 9 then wsT R.2.2.2.1 else 0) + 3 * (if R.1 < 9 then lvT R.2.2.2.1 else 0) := by
  have h2 := tx2_len R
  unfold tx3
  by_cases z : R.1 < 9
  · rw [if_pos z, if_pos z, if_pos z]
    have := tx_b R.2.2.2.1 false (tx2 R) (h.2.1 z).1
    rw [Bool.false_and, if_neg Bool.false_ne_true] at this
    omega
  · rw [if_neg z, if_neg z, if_neg z]; omega
theorem tx5_b {R : rT} (h : wfR R) : (tx5 R).length ≤ 19 + (if R.1 < 9 then wsT R.2.2.2.1 else 0) + 3 * (if R.1 < 9 then lvT R.2.2.2.1 else 0) := by
  have h3 := tx3_b h
  have h4 := pwd_len (if R.1 = 10 then 10 else 7) (tx3 R)
  have l1 : lnW (if R.1 = 10 then 10 else 7) ≤ 3 := by split <;> decide
  have h4 : (tx4 R).length ≤ (tx3 R).length + 4 := by unfold tx4; omega
  have h5 := pwd_len (if R.1 = 9 then 2 else 8) (tx4 R)
  have l2 : lnW (if R.1 = 9 then 2 else 8) ≤ 3 := by split <;> decide
  unfold tx5
  split <;> omega
theorem txR_b {R : rT} (h : okR R) : (txR R).length ≤ 511 := by
  have h5 := tx5_b h.1
  have := tx_b R.2.2.2.2 (gdR R && bgT R.2.2.2.2) (tx5 R) h.1.2.2.1.1
  have h6 := h.2.1
  have h7 := h.2.2
  unfold txR
  split at this <;> omega
theorem okS_R {m : Nat} {x : rT × Nat} (h : okS m (.inr x)) : okR x.1 := ⟨h.1, h.2.2.1, h.2.2.2⟩
theorem cpy_n {m n : Nat} {f g : Nat → Int32} (h : n ≤ m) : am_cpy (am_ar m f) (am_ar n g) 0 0 n = am_ar n f := by
  apply List.ext_getElem?
  intro i
  unfold am_cpy
  rw [ar_get, List.drop_zero, List.take_zero, List.nil_append, Nat.zero_add]
  have l2 : ((am_ar m f).take n).length = n := by rw [List.length_take, am_ar_len]; omega
  by_cases e2 : i < n
  · rw [List.getElem?_append_left (by rw [l2]; exact e2), List.getElem?_take_of_lt e2, ar_get, if_pos (by omega), if_pos (by omega)]
  · rw [List.getElem?_append_right (by rw [l2]; omega), l2, List.getElem?_drop, ar_get, if_neg (by omega), if_neg (by omega)]
theorem acB {n : Nat} {f g : Nat → Int32} {K : am_E → Prop} (hn : n ≤ 512) : am_ac 0 0 (nI n) K (aI 1 (am_ar 512 f)) (aI 1 (am_ar n g)) = K (aI 1 (am_ar n f)) := by
  show ((1 : Nat) = 1 ∧ ((1 : Nat) = 1 ∨ (1 : Nat) = 2) ∧ 0 ≤ (0 : Int32).toInt ∧ 0 ≤ (0 : Int32).toInt ∧ 0 ≤ (nI n).toInt ∧ (0 : Int32).toInt + (nI n).toInt ≤ ((am_ar 512 f).length : Int) ∧ (0 : Int32).toInt + (nI n).toInt ≤ ((am_ar n g).length : Int) ∧ K (aI 1 (am_cpy (am_ar 512 f) (am_ar n g) (0 : Int32).toNatClampNeg (0 : Int32).toNatClampNeg (nI n).toNatClampNeg))) = _
  have e0 : (0 : Int32).toInt = 0 := by decide
  rw [nk_cl (by omega), show (0 : Int32).toNatClampNeg = 0 from rfl, cpy_n hn, am_ar_len, am_ar_len, nk_toInt (by omega), e0]
  exact propext ⟨fun z => z.2.2.2.2.2.2.2, fun z => ⟨rfl, Or.inl rfl, by decide, by decide, by omega, by omega, by omega, z⟩⟩
theorem set_new (h : am_H) (E E' : am_E) (n : Nat) : am_set (am_new h E n) h.2.1 E' = am_new h E' n := by
  refine Prod.ext (funext fun x => ?_) rfl
  show (if x = h.2.1 then E' else if x = h.2.1 then E else h.1 x) = if x = h.2.1 then E' else h.1 x
  by_cases z : x = h.2.1
  · rw [if_pos z, if_pos z]
  · rw [if_neg z, if_neg z, if_neg z]
section CDN
variable {d : Nat} {h : am_H} {F : Nat → Nat → Int32} {J : Nat → Nat → Int64} {V : Nat → Nat → Value} {Q : am_Q}
set_option maxRecDepth 20000 in
theorem c_copyOf {n : Nat} (hh : 108 ≤ h.2.1) (hn : n ≤ 511) (K : Q (some (.ref h.2.1)) (ov (am_new h (aI 1 (am_ar n (F 33))) n) F J V)) : am_cl (d + 1) 7 [.ref 33, .int (nI n)] (ov h F J V) Q := by
  have l33 : ∀ (h : am_H) (K : Nat → Prop), am_len K ((ov h F J V).1 33) = K 512 := fun h K => by
    rw [oa_33]
    show (1 < 3 ∧ (am_ar 512 (F 33)).length < 2147483648 ∧ K (am_ar 512 (F 33)).length) = K 512
    rw [am_ar_len]
    exact propext ⟨fun z => z.2.2, fun z => ⟨by decide, by decide, z⟩⟩
  have e1 : ¬ nI n = nI 512 := by rw [nk_eq (by omega) (by decide)]; omega
  have e2 : (if nI n < nI 512 then nI n else nI 512) = nI n := if_pos (by rw [nk_lt (by omega) (by decide)]; omega)
  have rd : ∀ (f : Nat → Int32), (ov (am_new h (aI 1 (am_ar n f)) n) F J V).1 h.2.1 = aI 1 (am_ar n f) := fun f => by rw [ov_hi (by omega)]; exact if_pos rfl
  have r33 : ∀ (h : am_H), (ov h F J V).1 33 = aI 1 (am_ar 512 (F 33)) := fun h => oa_33
  have st : ∀ (f g : Nat → Int32), am_set (ov (am_new h (aI 1 (am_ar n f)) n) F J V) h.2.1 (aI 1 (am_ar n g)) = ov (am_new h (aI 1 (am_ar n g)) n) F J V := fun f g => by rw [ov_setH (by omega), set_new]
  simp only [isO_c, ax0, ex_cons, am_get, upz_at, true_and, and_true, Nat.reduceAdd, Nat.reduceLeDiff, Nat.reduceEqDiff, Nat.reduceSub, Int32.reduceOfInt, Int32.reduceAdd, Int32.reduceMul, Int32.reduceSub, ↓reduceIte, Int32.reduceLT, Int32.reduceLE, Int32.reduceToNatClampNeg, Nat.reduceMod, Nat.reduceLT, List.length_cons, List.length_nil, eq_self, true_or, or_true, and_self, implies_true, not_true_eq_false, not_false_eq_true, false_implies, true_implies, forall_const, st_aloadx, st_areturnx, st_areturn_1x, st_arraylengthx, st_astorex, st_astore_1x, st_ddivx, st_iconstx, st_if_icmpx, st_iloadx, st_monitorexitx, st_newarrayx, st_newarray_1, am_put, am_nlg, kb_Arrays_copyOf_0, jx_Arrays_copyOf_14, kb_Arrays_copyOf_14, cx_Arrays_copyOf, l33, e1, st_newB, nk_neg (show n < 2147483648 by omega), nk_cl (show n < 2147483648 by omega), show n ≤ 65536 by omega, ov_new hh, ov_2, am_ar_repl, e2]
  refine ⟨by show 2 < 3; decide, ?_⟩
  show 33 ≠ h.2.1 ∧ 23 ≤ h.2.1 ∧ am_ac 0 0 (nI n) (fun c => Q (some (.ref h.2.1)) (am_set (ov (am_new h (aI 1 (am_ar n fun x => 0)) n) F J V) h.2.1 c)) ((ov (am_new h (aI 1 (am_ar n fun x => 0)) n) F J V).1 33) ((ov (am_new h (aI 1 (am_ar n fun x => 0)) n) F J V).1 h.2.1)
  refine ⟨by omega, by omega, ?_⟩
  rw [r33, rd, acB (by omega), st]
  exact K
set_option maxRecDepth 20000 in
theorem c_wcopy {l : List Nat} (hh : 108 ≤ h.2.1) (hW : WX F l) (hl : l.length ≤ 511) (K : Q (some (.ref h.2.1)) (ov (am_new h (aI 1 (am_ar l.length (fun i => nI (l.getD i 0)))) l.length) F J V)) : am_cl (d + 2) 168 [.ref 32] (ov h F J V) Q := by
  simp only [isO_c, ax0, ex_cons, am_get, upz_at, true_and, and_true, Nat.reduceAdd, Nat.reduceLeDiff, Nat.reduceEqDiff, Nat.reduceSub, Int32.reduceOfInt, Int32.reduceAdd, Int32.reduceMul, Int32.reduceSub, ↓reduceIte, Int32.reduceLT, Int32.reduceLE, Int32.reduceToNatClampNeg, Nat.reduceMod, Nat.reduceLT, List.length_cons, List.length_nil, eq_self, true_or, or_true, and_self, implies_true, not_true_eq_false, not_false_eq_true, false_implies, true_implies, forall_const, st_aloadx, st_areturnx, st_areturn_1x, st_getfieldx, st_st2, kb_Writer_copy_0, og_32_0, og_32_1, oa_32, oa_33, cx_Writer_copy, hW.1]
  refine c_copyOf hh hl ?_
  simp only [isO_c, ax0, ex_cons, am_get, upz_at, true_and, and_true, Nat.reduceAdd, Nat.reduceLeDiff, Nat.reduceEqDiff, Nat.reduceSub, Int32.reduceOfInt, Int32.reduceAdd, Int32.reduceMul, Int32.reduceSub, ↓reduceIte, Int32.reduceLT, Int32.reduceLE, Int32.reduceToNatClampNeg, Nat.reduceMod, Nat.reduceLT, List.length_cons, List.length_nil, eq_self, true_or, or_true, and_self, implies_true, not_true_eq_false, not_false_eq_true, false_implies, true_implies, forall_const, st_aloadx, st_areturnx, st_areturn_1x, st_getfieldx, st_st2, kb_Writer_copy_0, og_32_0, og_32_1, oa_32, oa_33]
  rw [am_ar_congr (n := l.length) (f := F 33) (g := fun i => nI (l.getD i 0)) (fun i hi => hW.2.1 i hi)]
  exact K
end CDN
