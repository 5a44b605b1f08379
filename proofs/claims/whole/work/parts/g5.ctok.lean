/-! ===== the class: tokens ===== -/
def bkB (b : Int32) : Bool := decide (b = 32)
def teC (t : Nat → Int32) (n q : Nat) : Nat := if sml (t q) then rn sml t n (q + 1) else q + 1
def enP (t : Nat → Int32) (n q : Nat) : Nat := if q < n then teC t n q else n
theorem rn_S (q : Int32 → Bool) (t : Nat → Int32) (n p : Nat) : rn q t n p = if decide (p < n) && q (t p) then rn q t n (p + 1) else p := by
  unfold rn
  by_cases h : p < n
  · rw [show n - p = (n - (p + 1)) + 1 by omega]
    rfl
  · rw [decide_eq_false h, Bool.false_and, if_neg Bool.false_ne_true, show n - p = 0 by omega]
    rfl
theorem rn_le (q : Int32 → Bool) (t : Nat → Int32) {n p : Nat} (h : p ≤ n) : p ≤ rn q t n p ∧ rn q t n p ≤ n := ⟨(rnF_ok q t n (n - p) p (Nat.le_refl _)).1, (rnF_ok q t n (n - p) p (Nat.le_refl _)).2.1 h⟩
theorem tk_f2 (t : Nat → Int32) (n : Nat) : ∀ f g p, n - p ≤ f → n - p ≤ g → tkL t n f p = tkL t n g p
  | 0, 0, _, _, _ => rfl
  | 0, g + 1, p, h, _ => by
    show [] = (if n ≤ p then [] else _)
    rw [if_pos (by omega)]
  | f + 1, 0, p, _, h => by
    show (if n ≤ p then [] else _) = []
    rw [if_pos (by omega)]
  | f + 1, g + 1, p, h1, h2 => by
    unfold tkL
    by_cases e : n ≤ p
    · rw [if_pos e, if_pos e]
    · rw [if_neg e, if_neg e]
      by_cases e2 : t p = 32
      · rw [if_pos e2, if_pos e2]
        exact tk_f2 t n f g (p + 1) (by omega) (by omega)
      · have := teP_gt t n p
        rw [if_neg e2, if_neg e2, tk_f2 t n f g (teP t n p) (by omega) (by omega)]
theorem tk_hd (t : Nat → Int32) (n : Nat) : ∀ f p, n - p ≤ f → p ≤ n → tkL t n f p = if rn bkB t n p < n then (rn bkB t n p, tcP t n (rn bkB t n p)) :: tkL t n (n - teP t n (rn bkB t n p)) (teP t n (rn bkB t n p)) else []
  | 0, p, h, hp => by
    have : rn bkB t n p = p := by rw [rn_S, decide_eq_false (by omega), Bool.false_and, if_neg Bool.false_ne_true]
    rw [this, if_neg (by omega)]
    rfl
  | f + 1, p, h, hp => by
    show (if n ≤ p then [] else if t p = 32 then tkL t n f (p + 1) else (p, tcP t n p) :: tkL t n f (teP t n p)) = _
    by_cases e : n ≤ p
    · have : rn bkB t n p = p := by rw [rn_S, decide_eq_false (by omega), Bool.false_and, if_neg Bool.false_ne_true]
      rw [if_pos e, this, if_neg (by omega)]
    · rw [if_neg e]
      by_cases e2 : t p = 32
      · have : rn bkB t n p = rn bkB t n (p + 1) := by
          rw [rn_S, decide_eq_true (by omega), Bool.true_and, show bkB (t p) = true by unfold bkB; rw [decide_eq_true e2], if_pos rfl]
        rw [if_pos e2, this]
        exact tk_hd t n f (p + 1) (by omega) (by omega)
      · have : rn bkB t n p = p := by
          rw [rn_S, show bkB (t p) = false by unfold bkB; rw [decide_eq_false e2], Bool.and_false, if_neg Bool.false_ne_true]
        have g := teP_gt t n p
        rw [if_neg e2, this, if_pos (by omega), tk_f2 t n f (n - teP t n p) (teP t n p) (by omega) (Nat.le_refl _)]
theorem pl_drop {n k : Nat} {l : List (Nat × Nat)} : plL n l k = plL n (l.drop k) 0 := by
  unfold plL
  rw [List.getD_eq_getElem?_getD, List.getD_eq_getElem?_getD, List.getElem?_drop, Nat.add_zero]
theorem cd_drop {k : Nat} {l : List (Nat × Nat)} : cdL l k = cdL (l.drop k) 0 := by
  unfold cdL
  rw [List.getD_eq_getElem?_getD, List.getD_eq_getElem?_getD, List.getElem?_drop, Nat.add_zero]
theorem tk_pl {t : Nat → Int32} {n p : Nat} (hp : p ≤ n) : plL n (tkL t n (n - p) p) 0 = rn bkB t n p := by
  have h := rn_le bkB t hp
  rw [tk_hd t n (n - p) p (Nat.le_refl _) hp]
  by_cases e : rn bkB t n p < n
  · rw [if_pos e]; rfl
  · rw [if_neg e]; show n = _; omega
theorem dr_S {t : Nat → Int32} {n k p : Nat} (hk : k < (tkA t n).length) (hp : p ≤ n) (hd : (tkA t n).drop k = tkL t n (n - p) p) : plL n (tkA t n) k < n ∧ cdL (tkA t n) k = tcP t n (plL n (tkA t n) k) ∧ (tkA t n).drop (k + 1) = tkL t n (n - teP t n (plL n (tkA t n) k)) (teP t n (plL n (tkA t n) k)) := by
  have e1 : plL n (tkA t n) k = rn bkB t n p := by rw [pl_drop, hd, tk_pl hp]
  have hh := tk_hd t n (n - p) p (Nat.le_refl _) hp
  rw [← hd] at hh
  by_cases e : rn bkB t n p < n
  · rw [if_pos e] at hh
    rw [e1]
    refine ⟨e, by rw [cd_drop, hh]; rfl, ?_⟩
    have : (tkA t n).drop (k + 1) = ((tkA t n).drop k).drop 1 := by rw [List.drop_drop]
    rw [this, hh]
    rfl
  · rw [if_neg e] at hh
    have := congrArg List.length hh
    rw [List.length_drop] at this
    have : (tkA t n).length - k = 0 := this
    omega
theorem dr_ok (t : Nat → Int32) (n : Nat) : ∀ k, k ≤ (tkA t n).length → ∃ p, p ≤ n ∧ (tkA t n).drop k = tkL t n (n - p) p
  | 0, _ => ⟨0, Nat.zero_le _, rfl⟩
  | k + 1, hk => by
    obtain ⟨p, hp, hd⟩ := dr_ok t n k (by omega)
    obtain ⟨a1, a2, a3⟩ := dr_S (by omega) hp hd
    exact ⟨_, teP_le a1, a3⟩
theorem at_k {t : Nat → Int32} {n k : Nat} (hk : k < (tkA t n).length) : plL n (tkA t n) k < n ∧ cdL (tkA t n) k = tcP t n (plL n (tkA t n) k) ∧ plL n (tkA t n) (k + 1) = rn bkB t n (teP t n (plL n (tkA t n) k)) := by
  obtain ⟨p, hp, hd⟩ := dr_ok t n k (by omega)
  obtain ⟨a1, a2, a3⟩ := dr_S hk hp hd
  refine ⟨a1, a2, ?_⟩
  rw [pl_drop, a3, tk_pl (teP_le a1)]
theorem at_0 (t : Nat → Int32) (n : Nat) : plL n (tkA t n) 0 = rn bkB t n 0 := tk_pl (t := t) (Nat.zero_le n)
theorem teC_P {t : Nat → Int32} {n q : Nat} (h : ¬ tcP t n q = 90) : teC t n q = teP t n q := by
  unfold teC teP
  cases e : sml (t q)
  · rw [if_neg Bool.false_ne_true, if_neg Bool.false_ne_true]
    cases e2 : dgt (t q)
    · rw [if_neg Bool.false_ne_true]
    · exfalso
      apply h
      unfold tcP
      rw [e, if_neg Bool.false_ne_true, e2, if_pos rfl]
  · rw [if_pos rfl, if_pos rfl]
theorem teC_gt (t : Nat → Int32) (n q : Nat) : q < teC t n q := by
  unfold teC rn
  split
  · have := (rnF_ok sml t n (n - (q + 1)) (q + 1) (Nat.le_refl _)).1; omega
  · omega
theorem teC_le {t : Nat → Int32} {n q : Nat} (h : q < n) : teC t n q ≤ n := by
  unfold teC rn
  split
  · exact (rnF_ok sml t n (n - (q + 1)) (q + 1) (Nat.le_refl _)).2.1 h
  · exact h
theorem enP_le {t : Nat → Int32} {n q : Nat} (h : q ≤ n) : q ≤ enP t n q ∧ enP t n q ≤ n := by
  unfold enP
  split
  · rename_i g
    have := teC_gt t n q
    have := teC_le (t := t) g
    omega
  · omega
/-- the tape, and the token that is looked at -/
def RT (t : Nat → Int32) (n : Nat) (F : Nat → Nat → Int32) : Prop := F 24 1 = nI n ∧ n ≤ 400 ∧ ∀ i, i < n → F 25 i = t i
def AT (t : Nat → Int32) (n : Nat) (F : Nat → Nat → Int32) (k : Nat) : Prop := k ≤ (tkA t n).length ∧ F 24 3 = nI (plL n (tkA t n) k) ∧ F 24 4 = nI (enP t n (plL n (tkA t n) k))
def Rs (F F' : Nat → Nat → Int32) : Prop := (∀ x, x ≠ 24 → F' x = F x) ∧ ∀ i, i ≠ 3 → i ≠ 4 → F' 24 i = F 24 i
theorem Rs.rf {F : Nat → Nat → Int32} : Rs F F := ⟨fun _ _ => rfl, fun _ _ _ => rfl⟩
theorem Rs.tr {F F1 F2 : Nat → Nat → Int32} (a : Rs F F1) (b : Rs F1 F2) : Rs F F2 := ⟨fun x hx => (b.1 x hx).trans (a.1 x hx), fun i h1 h2 => (b.2 i h1 h2).trans (a.2 i h1 h2)⟩
theorem RT.rs {t : Nat → Int32} {n : Nat} {F F' : Nat → Nat → Int32} (h : RT t n F) (s : Rs F F') : RT t n F' := ⟨by rw [s.2 1 (by decide) (by decide)]; exact h.1, h.2.1, by rw [s.1 25 (by decide)]; exact h.2.2⟩
theorem pl_le {t : Nat → Int32} {n k : Nat} : plL n (tkA t n) k ≤ n := by
  by_cases h : k < (tkA t n).length
  · exact Nat.le_of_lt (at_k h).1
  · rw [pl_out (by omega)]; exact Nat.le_refl _
section CTK
variable {d : Nat} {h : am_H} {F : Nat → Nat → Int32} {J : Nat → Nat → Int64} {V : Nat → Nat → Value} {Q : am_Q}
set_option maxRecDepth 20000 in
theorem c_step {t : Nat → Int32} {n p : Nat} (hR : RT t n F) (hp : p ≤ n) (h4 : F 24 4 = nI p) (K : ∀ F', Rs F F' → F' 24 3 = nI (rn bkB t n p) → F' 24 4 = nI (enP t n (rn bkB t n p)) → Q none (ov h F' J V)) : am_cl (d + 1) 121 [.ref 24] (ov h F J V) Q := by
  have hn := hR.2.1
  simp only [isO_c, ax0, ex_cons, am_get, upz_at, true_and, and_true, Nat.reduceAdd, Nat.reduceLeDiff, Nat.reduceEqDiff, Nat.reduceSub, Int32.reduceOfInt, Int32.reduceAdd, Int32.reduceMul, Int32.reduceSub, ↓reduceIte, Int32.reduceLT, Int32.reduceLE, Int32.reduceToNatClampNeg, Nat.reduceMod, Nat.reduceLT, List.length_cons, List.length_nil, eq_self, true_or, or_true, and_self, implies_true, not_true_eq_false, not_false_eq_true, false_implies, true_implies, forall_const, st_aloadx, st_getfieldx, st_goto_wx, st_putfieldx, kb_Reader_step_0, og_24_4, op_24_3, oa_24, os_24, cx_Reader_step, h4]
  have s0 : Rs F (upz F 24 (upz (F 24) 3 (nI p))) := ⟨fun x hx => upz_ne _ _ hx, fun i h1 _ => by rw [upz_eq, upz_ne _ _ h1]⟩
  have fin : ∀ F3 q, Rs F F3 → F3 24 3 = nI q → F3 24 4 = nI (rn sml t n q) → q ≤ n → q = rn bkB t n p → am_W kc_Reader_step (am_cl d) Q 106 [.ref 24] [] (ov h F3 J V) := by
    intro F3 q s3 g3 g4 hq eq
    have rl := rn_le sml t hq
    have f1 : F3 24 1 = nI n := (hR.rs s3).1
    rw [← eq] at K
    simp only [isO_c, ax0, ex_cons, am_get, upz_at, true_and, and_true, Nat.reduceAdd, Nat.reduceLeDiff, Nat.reduceEqDiff, Nat.reduceSub, Int32.reduceOfInt, Int32.reduceAdd, Int32.reduceMul, Int32.reduceSub, ↓reduceIte, Int32.reduceLT, Int32.reduceLE, Int32.reduceToNatClampNeg, Nat.reduceMod, Nat.reduceLT, List.length_cons, List.length_nil, eq_self, true_or, or_true, and_self, implies_true, not_true_eq_false, not_false_eq_true, false_implies, true_implies, forall_const, st_aloadx, st_dupx, st_dup_1x, st_getfieldx, st_goto_wx, st_iaddx, st_iconstx, st_if_icmpx, st_putfieldx, st_return_x, jx_Reader_step_106, kb_Reader_step_106, og_24_4, og_24_3, og_24_1, op_24_4, jx_Reader_step_138, kb_Reader_step_138, oa_24, os_24, g3, g4, f1, show (nI (rn sml t n q) = nI q) = (rn sml t n q = q) from nk_eq (by omega) (by omega), (nk_le (by omega) (by omega) : (nI (n) ≤ nI (rn sml t n q)) = (n ≤ rn sml t n q)), nk_succ]
    refine ⟨fun w => ?_, fun w => ⟨fun y => ?_, fun y => ?_⟩⟩
    · refine K F3 s3 g3 ?_
      rw [g4]
      congr 1
      have hs : decide (q < n) && sml (t q) := by
        cases e : (decide (q < n) && sml (t q))
        · exfalso
          apply w
          rw [rn_S, e, if_neg Bool.false_ne_true]
        · rfl
      have hs2 := hs
      rw [Bool.and_eq_true] at hs
      unfold enP teC
      rw [if_pos (of_decide_eq_true hs.1), hs.2, if_pos rfl, rn_S sml t n q, hs2, if_pos rfl]
    · have w := Classical.not_not.mp w
      refine K F3 s3 g3 ?_
      rw [g4]
      congr 1
      unfold enP
      rw [if_neg (by omega)]
      omega
    · have w := Classical.not_not.mp w
      have hqn : q < n := by omega
      have sq : sml (t q) = false := by
        cases e : sml (t q)
        · rfl
        · exfalso
          rw [rn_S, decide_eq_true hqn, e, Bool.and_self, if_pos rfl] at w
          have := (rn_le sml t (n := n) (p := q + 1) (by omega)).1
          omega
      refine K _ (s3.tr ⟨fun x hx => upz_ne _ _ hx, fun i _ h2 => by rw [upz_eq, upz_ne _ _ h2]⟩) (by rw [upz_eq, upz_ne _ _ (by decide)]; exact g3) ?_
      rw [upz_eq, upz_eq, w]
      congr 1
      unfold enP teC
      rw [if_pos hqn, sq, if_neg Bool.false_ne_true]
  have lp : ∀ j k F2 q, k + j = n → Rs F F2 → F2 24 3 = nI q → F2 24 4 = nI k → q ≤ k → rn sml t n q = rn sml t n k → q = rn bkB t n p → am_W kc_Reader_step (am_cl d) Q 54 [.ref 24] [] (ov h F2 J V) := by
    intro j
    induction j with
    | zero =>
      intro k F2 q ek s2 g3 g4 hq er eq
      have ek : k = n := ek
      have f1 : F2 24 1 = nI n := (hR.rs s2).1
      rw [jx_Reader_step_54]
      simp only [isO_c, ax0, ex_cons, am_get, upz_at, true_and, and_true, Nat.reduceAdd, Nat.reduceLeDiff, Nat.reduceEqDiff, Nat.reduceSub, Int32.reduceOfInt, Int32.reduceAdd, Int32.reduceMul, Int32.reduceSub, ↓reduceIte, Int32.reduceLT, Int32.reduceLE, Int32.reduceToNatClampNeg, Nat.reduceMod, Nat.reduceLT, List.length_cons, List.length_nil, eq_self, true_or, or_true, and_self, implies_true, not_true_eq_false, not_false_eq_true, false_implies, true_implies, forall_const, st_aloadx, st_baloadx, st_dupx, st_dup_1x, st_getfieldx, st_gotox, st_iaddx, st_iconstx, st_if_icmpx, st_putfieldx, kb_Reader_step_54, og_24_4, og_24_1, og_24_0, op_24_4, oa_24, os_24, oa_25, or_25, g4, f1, (nk_le (by omega) (by omega) : (nI (n) ≤ nI (k)) = (n ≤ k)), show n ≤ k by omega]
      refine fin F2 q s2 g3 ?_ (by omega) eq
      rw [g4, er]
      congr 1
      rw [rn_S, decide_eq_false (by omega), Bool.false_and, if_neg Bool.false_ne_true]
    | succ j ih =>
      intro k F2 q ek s2 g3 g4 hq er eq
      have f1 : F2 24 1 = nI n := (hR.rs s2).1
      have ft : F2 25 k = t k := (hR.rs s2).2.2 k (by omega)
      have no : sml (t k) = false → am_W kc_Reader_step (am_cl d) Q 106 [.ref 24] [] (ov h F2 J V) := fun z => by
        refine fin F2 q s2 g3 ?_ (by omega) eq
        rw [g4, er]
        congr 1
        rw [rn_S, z, Bool.and_false, if_neg Bool.false_ne_true]
      rw [jx_Reader_step_54]
      simp only [isO_c, ax0, ex_cons, am_get, upz_at, true_and, and_true, Nat.reduceAdd, Nat.reduceLeDiff, Nat.reduceEqDiff, Nat.reduceSub, Int32.reduceOfInt, Int32.reduceAdd, Int32.reduceMul, Int32.reduceSub, ↓reduceIte, Int32.reduceLT, Int32.reduceLE, Int32.reduceToNatClampNeg, Nat.reduceMod, Nat.reduceLT, List.length_cons, List.length_nil, eq_self, true_or, or_true, and_self, implies_true, not_true_eq_false, not_false_eq_true, false_implies, true_implies, forall_const, st_aloadx, st_baloadx, st_dupx, st_dup_1x, st_getfieldx, st_gotox, st_iaddx, st_iconstx, st_if_icmpx, st_putfieldx, kb_Reader_step_54, og_24_4, og_24_1, og_24_0, op_24_4, oa_24, os_24, oa_25, or_25, g4, f1, (nk_le (by omega) (by omega) : (nI (n) ≤ nI (k)) = (n ≤ k)), show ¬ n ≤ k by omega, nk_neg (show k < 2147483648 by omega), nk_cl (show k < 2147483648 by omega), show k < 400 by omega, ft, nk_succ]
      refine ⟨fun w => no (by unfold sml; rw [decide_eq_true w]; rfl), fun w => ⟨fun y => no (by unfold sml; rw [decide_eq_true y, Bool.not_true, Bool.and_false]), fun y => ?_⟩⟩
      have sk : sml (t k) = true := by unfold sml; rw [decide_eq_false w, decide_eq_false y]; rfl
      refine ih (k + 1) _ q (by omega) (s2.tr ⟨fun x hx => upz_ne _ _ hx, fun i _ h2 => by rw [upz_eq, upz_ne _ _ h2]⟩) (by rw [upz_eq, upz_ne _ _ (by decide)]; exact g3) (by rw [upz_eq, upz_eq]) (by omega) ?_ eq
      rw [er, rn_S, decide_eq_true (by omega), sk]
      rfl
  have bl : ∀ j k F1, k + j = n → Rs F F1 → F1 24 3 = nI k → rn bkB t n p = rn bkB t n k → am_W kc_Reader_step (am_cl d) Q 8 [.ref 24] [] (ov h F1 J V) := by
    intro j
    induction j with
    | zero =>
      intro k F1 ek s1 g3 er
      have ek : k = n := ek
      have f1 : F1 24 1 = nI n := (hR.rs s1).1
      have e1 : rn bkB t n k = k := by rw [rn_S, decide_eq_false (by omega), Bool.false_and, if_neg Bool.false_ne_true]
      rw [jx_Reader_step_8]
      simp only [isO_c, ax0, ex_cons, am_get, upz_at, true_and, and_true, Nat.reduceAdd, Nat.reduceLeDiff, Nat.reduceEqDiff, Nat.reduceSub, Int32.reduceOfInt, Int32.reduceAdd, Int32.reduceMul, Int32.reduceSub, ↓reduceIte, Int32.reduceLT, Int32.reduceLE, Int32.reduceToNatClampNeg, Nat.reduceMod, Nat.reduceLT, List.length_cons, List.length_nil, eq_self, true_or, or_true, and_self, implies_true, not_true_eq_false, not_false_eq_true, false_implies, true_implies, forall_const, st_aloadx, st_baloadx, st_dupx, st_dup_1x, st_getfieldx, st_gotox, st_goto_wx, st_iaddx, st_iconstx, st_if_icmpx, st_putfieldx, kb_Reader_step_8, og_24_3, og_24_1, og_24_0, op_24_3, jx_Reader_step_46, kb_Reader_step_46, op_24_4, oa_24, os_24, oa_25, or_25, g3, f1, (nk_le (by omega) (by omega) : (nI (n) ≤ nI (k)) = (n ≤ k)), show n ≤ k by omega]
      refine lp 0 k _ k (by omega) (s1.tr ⟨fun x hx => upz_ne _ _ hx, fun i _ h2 => by rw [upz_eq, upz_ne _ _ h2]⟩) (by rw [upz_eq, upz_ne _ _ (by decide)]; exact g3) (by rw [upz_eq, upz_eq]) (Nat.le_refl _) rfl (by rw [er, e1])
    | succ j ih =>
      intro k F1 ek s1 g3 er
      have f1 : F1 24 1 = nI n := (hR.rs s1).1
      have ft : F1 25 k = t k := (hR.rs s1).2.2 k (by omega)
      rw [jx_Reader_step_8]
      simp only [isO_c, ax0, ex_cons, am_get, upz_at, true_and, and_true, Nat.reduceAdd, Nat.reduceLeDiff, Nat.reduceEqDiff, Nat.reduceSub, Int32.reduceOfInt, Int32.reduceAdd, Int32.reduceMul, Int32.reduceSub, ↓reduceIte, Int32.reduceLT, Int32.reduceLE, Int32.reduceToNatClampNeg, Nat.reduceMod, Nat.reduceLT, List.length_cons, List.length_nil, eq_self, true_or, or_true, and_self, implies_true, not_true_eq_false, not_false_eq_true, false_implies, true_implies, forall_const, st_aloadx, st_baloadx, st_dupx, st_dup_1x, st_getfieldx, st_gotox, st_goto_wx, st_iaddx, st_iconstx, st_if_icmpx, st_putfieldx, kb_Reader_step_8, og_24_3, og_24_1, og_24_0, op_24_3, jx_Reader_step_46, kb_Reader_step_46, op_24_4, oa_24, os_24, oa_25, or_25, g3, f1, (nk_le (by omega) (by omega) : (nI (n) ≤ nI (k)) = (n ≤ k)), show ¬ n ≤ k by omega, nk_neg (show k < 2147483648 by omega), nk_cl (show k < 2147483648 by omega), show k < 400 by omega, ft, nk_succ]
      refine ⟨fun w => ?_, fun w => ?_⟩
      · have e1 : rn bkB t n k = k := by rw [rn_S, show bkB (t k) = false by unfold bkB; rw [decide_eq_false w], Bool.and_false, if_neg Bool.false_ne_true]
        refine lp (j + 1) k _ k (by omega) (s1.tr ⟨fun x hx => upz_ne _ _ hx, fun i _ h2 => by rw [upz_eq, upz_ne _ _ h2]⟩) (by rw [upz_eq, upz_ne _ _ (by decide)]; exact g3) (by rw [upz_eq, upz_eq]) (Nat.le_refl _) rfl (by rw [er, e1])
      · have w := Classical.not_not.mp w
        refine ih (k + 1) _ (by omega) (s1.tr ⟨fun x hx => upz_ne _ _ hx, fun i h1 _ => by rw [upz_eq, upz_ne _ _ h1]⟩) (by rw [upz_eq, upz_eq]) ?_
        rw [er, rn_S, decide_eq_true (by omega), show bkB (t k) = true by unfold bkB; rw [decide_eq_true w]]
        rfl
  exact bl (n - p) p _ (by omega) s0 (by rw [upz_eq, upz_eq]) rfl
set_option maxRecDepth 20000 in
theorem c_next {t : Nat → Int32} {n k : Nat} (hR : RT t n F) (hA : AT t n F k) (hk : k < (tkA t n).length) (hc : ¬ cdL (tkA t n) k = 90) (K : ∀ F', Rs F F' → AT t n F' (k + 1) → Q none (ov h F' J V)) : am_cl (d + 1) 121 [.ref 24] (ov h F J V) Q := by
  obtain ⟨a1, a2, a3⟩ := at_k hk
  rw [a2] at hc
  have e : enP t n (plL n (tkA t n) k) = teP t n (plL n (tkA t n) k) := by
    unfold enP
    rw [if_pos a1, teC_P hc]
  refine c_step hR (teP_le a1) (by rw [hA.2.2, e]) (fun F' s g3 g4 => K F' s ⟨hk, ?_, ?_⟩)
  · rw [g3, a3]
  · rw [g4, a3]
set_option maxRecDepth 20000 in
theorem c_first {t : Nat → Int32} {n : Nat} (hR : RT t n F) (h4 : F 24 4 = 0) (K : ∀ F', Rs F F' → AT t n F' 0 → Q none (ov h F' J V)) : am_cl (d + 1) 121 [.ref 24] (ov h F J V) Q := by
  refine c_step hR (Nat.zero_le n) h4 (fun F' s g3 g4 => K F' s ⟨Nat.zero_le _, ?_, ?_⟩)
  · rw [g3, at_0]
  · rw [g4, at_0]
end CTK
