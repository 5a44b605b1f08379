/-! ===== a row of bytes that may be made anew ===== -/
theorem st_newB {call : am_C} {J : Nat → am_K} {Q : am_Q} {x : Nat} {ls : List Value} {h : am_H} {K : am_K} {n : Int32} {st : List Value} : am_st call J Q (.newarray .byte) x ls (.int n :: st) h K = (¬ n < 0 ∧ n.toNatClampNeg ≤ 65536 ∧ K ls (.ref h.2.1 :: st) (am_new h (aI 1 (List.replicate n.toNatClampNeg 0)) n.toNatClampNeg)) := (st_newarray_1 (t := .byte) (by decide)).trans (oq_t (by decide))
/-- one cell alone may differ -/
def Hq (q : Nat) (h h1 : am_H) : Prop := h1.2 = h.2 ∧ ∀ x, x ≠ q → h1.1 x = h.1 x
theorem Hq.rf {q : Nat} {h : am_H} : Hq q h h := ⟨rfl, fun _ _ => rfl⟩
theorem Hq.tr {q : Nat} {h h1 h2 : am_H} (a : Hq q h h1) (b : Hq q h1 h2) : Hq q h h2 := ⟨b.1.trans a.1, fun x hx => (b.2 x hx).trans (a.2 x hx)⟩
theorem HB.hq {q : Nat} {h h1 : am_H} (hb : HB h) (k : Hq q h h1) (hq : 23 ≤ q) : HB h1 := (k.2 2 (by omega)).trans hb
theorem HP.hq {q : Nat} {h h1 : am_H} (hb : HP h) (k : Hq q h h1) (hq : 23 ≤ q) : HP h1 := (k.2 1 (by omega)).trans hb
theorem Hk.hq {e h h1 : am_H} {q : Nat} (k : Hk e h) (z : Hq q h h1) (hq : q < 108 ∨ e.1 q = aO 0 []) : Hk e h1 := ⟨fun x x1 x2 x3 => by
  rw [z.2 x (fun w => by
    subst w
    rcases hq with g | g
    · omega
    · exact x3 g)]
  exact k.1 x x1 x2 x3, by rw [z.1]; exact k.2⟩
theorem Hk.tr {h h1 h2 : am_H} (a : Hk h h1) (b : Hk h1 h2) : Hk h h2 := ⟨fun x x1 x2 x3 => by
  have e := a.1 x x1 x2 x3
  have l := a.2
  rw [b.1 x x1 (by omega) (by rw [e]; exact x3), e], Nat.le_trans a.2 b.2⟩
theorem Hk.rf {h : am_H} : Hk h h := ⟨fun _ _ _ _ => rfl, Nat.le_refl _⟩
def rwC (c n0 : Nat) : Prop := c = 62 ∧ n0 = 1 ∨ c = 59 ∧ n0 = 2
/-- the row of bytes: in the fixed cell c, or in a cell made later, which is junk to the sentences -/
def Mq (e h : am_H) (F : Nat → Nat → Int32) (c n0 q L : Nat) (g : Nat → Int32) : Prop := L ≤ 8192 ∧ ((q = c ∧ L = n0 ∧ ∀ i, i < n0 → F c i = g i) ∨ (108 ≤ q ∧ q < h.2.1 ∧ e.1 q = aO 0 [] ∧ h.1 q = aI 1 (am_ar L g)))
section RWS
variable {e h : am_H} {F : Nat → Nat → Int32} {J : Nat → Nat → Int64} {V : Nat → Nat → Value} {c n0 q L : Nat} {g : Nat → Int32}
theorem Mq.q23 (hc : rwC c n0) (m : Mq e h F c n0 q L g) : 23 ≤ q := by
  rcases hc with ⟨a, b⟩ | ⟨a, b⟩ <;> rcases m with ⟨_, ⟨e1, _⟩ | ⟨e1, _⟩⟩ <;> omega
theorem Mq.jk (hc : rwC c n0) (m : Mq e h F c n0 q L g) : q < 108 ∨ e.1 q = aO 0 [] := by
  rcases m with ⟨_, ⟨e1, _⟩ | ⟨_, _, e1, _⟩⟩
  · rcases hc with ⟨a, b⟩ | ⟨a, b⟩ <;> omega
  · exact Or.inr e1
theorem Mq.get (hc : rwC c n0) (m : Mq e h F c n0 q L g) : (ov h F J V).1 q = aI 1 (am_ar L g) := by
  rcases m with ⟨_, ⟨e1, e2, e3⟩ | ⟨h1, h2, h3, h4⟩⟩
  · subst e1; subst e2
    rcases hc with ⟨a, b⟩ | ⟨a, b⟩ <;> subst a <;> subst b
    · rw [oa_62]; show aI 1 (am_ar 1 (F 62)) = _; rw [am_ar_congr e3]
    · rw [oa_59]; show aI 1 (am_ar 2 (F 59)) = _; rw [am_ar_congr e3]
  · rw [ov_hi (by omega)]; exact h4
theorem Mq.len (hc : rwC c n0) (m : Mq e h F c n0 q L g) (K : Nat → Prop) : am_len K ((ov h F J V).1 q) = K L := by
  rw [m.get hc]
  have := m.1
  show (1 < 3 ∧ (am_ar L g).length < 2147483648 ∧ K (am_ar L g).length) = K L
  rw [am_ar_len]
  exact propext ⟨fun z => z.2.2, fun z => ⟨by decide, by omega, z⟩⟩
theorem Mq.fn {g' : Nat → Int32} (hc : rwC c n0) (m : Mq e h F c n0 q L g) (eg : ∀ i, i < L → g i = g' i) : Mq e h F c n0 q L g' := by
  rcases m with ⟨l, ⟨e1, e2, e3⟩ | ⟨h1, h2, h3, h4⟩⟩
  · exact ⟨l, Or.inl ⟨e1, e2, fun i hi => by rw [e3 i hi, eg i (by omega)]⟩⟩
  · exact ⟨l, Or.inr ⟨h1, h2, h3, by rw [h4, am_ar_congr eg]⟩⟩
theorem Mq.cg {F' : Nat → Nat → Int32} (m : Mq e h F c n0 q L g) (ef : F' c = F c) : Mq e h F' c n0 q L g := by
  rcases m with ⟨l, ⟨e1, e2, e3⟩ | h1⟩
  · exact ⟨l, Or.inl ⟨e1, e2, fun i hi => by rw [ef]; exact e3 i hi⟩⟩
  · exact ⟨l, Or.inr h1⟩
theorem Mq.set (hc : rwC c n0) (m : Mq e h F c n0 q L g) (g' : Nat → Int32) : ∃ h1 F1, am_set (ov h F J V) q (aI 1 (am_ar L g')) = ov h1 F1 J V ∧ Hq q h h1 ∧ (∀ x, x ≠ c → F1 x = F x) ∧ Mq e h1 F1 c n0 q L g' := by
  rcases m with ⟨l, ⟨e1, e2, e3⟩ | ⟨h1, h2, h3, h4⟩⟩
  · subst e1; subst e2
    rcases hc with ⟨a, b⟩ | ⟨a, b⟩ <;> subst a <;> subst b
    · exact ⟨h, upz F 62 g', os_62, Hq.rf, fun x hx => upz_ne _ _ hx, l, Or.inl ⟨rfl, rfl, fun i _ => by rw [upz_eq]⟩⟩
    · exact ⟨h, upz F 59 g', os_59, Hq.rf, fun x hx => upz_ne _ _ hx, l, Or.inl ⟨rfl, rfl, fun i _ => by rw [upz_eq]⟩⟩
  · exact ⟨am_set h q (aI 1 (am_ar L g')), F, ov_setH (by omega), ⟨rfl, fun x hx => am_set_ne _ _ hx⟩, fun _ _ => rfl, l, Or.inr ⟨h1, h2, h3, am_set_eq _ _ _⟩⟩
/-- another row stays -/
theorem Mq.hq {h1 : am_H} {p : Nat} (m : Mq e h F c n0 q L g) (z : Hq p h h1) (ne : q ≠ p) : Mq e h1 F c n0 q L g := by
  rcases m with ⟨l, h1 | ⟨h1, h2, h3, h4⟩⟩
  · exact ⟨l, Or.inl h1⟩
  · exact ⟨l, Or.inr ⟨h1, by rw [z.1]; exact h2, h3, by rw [z.2 q ne]; exact h4⟩⟩
end RWS
/-- cells are made, and the cell q is written -/
def Gw (q : Nat) (e h e' h' : am_H) : Prop := Hk e e' ∧ Hk e' h' ∧ e'.2 = h'.2 ∧ (∀ x, x < h.2.1 → e'.1 x = e.1 x) ∧ (∀ x, x < h.2.1 → x ≠ q → h'.1 x = h.1 x) ∧ h.2.1 ≤ h'.2.1
theorem Gw.rf {q : Nat} {e h : am_H} (k : Hk e h) (e2 : e.2 = h.2) : Gw q e h e h := ⟨Hk.rf, k, e2, fun _ _ => rfl, fun _ _ _ => rfl, Nat.le_refl _⟩
theorem Gw.hq {q : Nat} {e h e' h' h2 : am_H} (k : Gw q e h e' h') (z : Hq q h' h2) (hq : q < 108 ∨ e'.1 q = aO 0 []) : Gw q e h e' h2 := by
  obtain ⟨k1, k2, k3, k4, k5, k6⟩ := k
  exact ⟨k1, k2.hq z hq, by rw [z.1]; exact k3, k4, fun x x1 x2 => (z.2 x x2).trans (k5 x x1 x2), by rw [z.1]; exact k6⟩
theorem Gw.mq {e h e' h' : am_H} {F F' : Nat → Nat → Int32} {c n0 q p L : Nat} {g : Nat → Int32} (k : Gw p e h e' h') (m : Mq e h F c n0 q L g) (ne : q ≠ p) (ef : F' c = F c) : Mq e' h' F' c n0 q L g := by
  obtain ⟨k1, k2, k3, k4, k5, k6⟩ := k
  rcases m with ⟨l, ⟨e1, e2, e3⟩ | ⟨h1, h2, h3, h4⟩⟩
  · exact ⟨l, Or.inl ⟨e1, e2, fun i hi => by rw [ef]; exact e3 i hi⟩⟩
  · exact ⟨l, Or.inr ⟨h1, Nat.lt_of_lt_of_le h2 k6, by rw [k4 q h2]; exact h3, by rw [k5 q h2 ne]; exact h4⟩⟩
theorem Gw.hb {q : Nat} {e h e' h' : am_H} (k : Gw q e h e' h') (hq : 23 ≤ q) (hh : 108 ≤ h.2.1) (hb : HB h) : HB h' := (k.2.2.2.2.1 2 (by omega) (by omega)).trans hb
theorem Gw.hp {q : Nat} {e h e' h' : am_H} (k : Gw q e h e' h') (hq : 23 ≤ q) (hh : 108 ≤ h.2.1) (hb : HP h) : HP h' := (k.2.2.2.2.1 1 (by omega) (by omega)).trans hb
theorem Gw.new {q : Nat} {e h : am_H} (k : Hk e h) (e2 : e.2 = h.2) (E : am_E) (n : Nat) : Gw q e h (am_new e (aO 0 []) n) (am_new h E n) ∧ (am_new e (aO 0 []) n).1 h.2.1 = aO 0 [] := by
  have e3 : e.2.1 = h.2.1 := by rw [e2]
  refine ⟨⟨Hk.new _ _, ⟨fun x x1 x2 x3 => ?_, ?_⟩, ?_, fun x hx => if_neg (by omega), fun x hx _ => if_neg (by omega), Nat.le_succ _⟩, if_pos (by rw [e3])⟩
  · have x2 : x < e.2.1 + 1 := x2
    by_cases w : x = e.2.1
    · exact absurd (if_pos w) x3
    · have x3 : (if x = e.2.1 then aO 0 [] else e.1 x) ≠ aO 0 [] := x3
      rw [if_neg w] at x3
      show (if x = h.2.1 then E else h.1 x) = (if x = e.2.1 then aO 0 [] else e.1 x)
      rw [if_neg w, if_neg (by omega)]
      exact k.1 x x1 (by omega) x3
  · show e.2.1 + 1 ≤ h.2.1 + 1
    omega
  · show (e.2.1 + 1, e.2.2 + n) = (h.2.1 + 1, h.2.2 + n)
    rw [e2]
section FLB
variable {d : Nat} {h : am_H} {F : Nat → Nat → Int32} {J : Nat → Nat → Int64} {V : Nat → Nat → Value} {Q : am_Q}
set_option maxRecDepth 20000 in
theorem c_fillB {e : am_H} {c n0 q L : Nat} {g : Nat → Int32} (hc : rwC c n0) (m : Mq e h F c n0 q L g) (K : ∀ h' F', Hq q h h' → (∀ x, x ≠ c → F' x = F x) → Mq e h' F' c n0 q L (fun _ => 0) → Q none (ov h' F' J V)) : am_cl (d + 1) 6 [.ref q, .int 0] (ov h F J V) Q := by
  have hL := m.1
  simp only [isO_c, ax0, ex_cons, am_get, upz_at, true_and, and_true, Nat.reduceAdd, Nat.reduceLeDiff, Nat.reduceEqDiff, Nat.reduceSub, Int32.reduceOfInt, Int32.reduceAdd, Int32.reduceMul, Int32.reduceSub, ↓reduceIte, Int32.reduceLT, Int32.reduceLE, Int32.reduceToNatClampNeg, Nat.reduceMod, Nat.reduceLT, List.length_cons, List.length_nil, eq_self, true_or, or_true, and_self, implies_true, not_true_eq_false, not_false_eq_true, false_implies, true_implies, forall_const, st_aloadx, st_arraylengthx, st_goto_wx, st_iconstx, st_istorex, am_put, am_nlg, kb_Arrays_fill_B_0, cx_Arrays_fill_B, m.len hc]
  have key : ∀ j k h1 F1 g1, k + j = L → Hq q h h1 → (∀ x, x ≠ c → F1 x = F x) → Mq e h1 F1 c n0 q L g1 → (∀ i, i < k → g1 i = 0) → am_W kc_Arrays_fill_B (am_cl d) Q 5 [.ref q, .int 0, .int (nI k), .int (nI L)] [] (ov h1 F1 J V) := by
    intro j
    induction j with
    | zero =>
      intro k h1 F1 g1 ek z1 f1 m1 g0
      have ek : k = L := ek
      rw [jx_Arrays_fill_B_5]
      simp only [isO_c, ax0, ex_cons, am_get, upz_at, true_and, and_true, Nat.reduceAdd, Nat.reduceLeDiff, Nat.reduceEqDiff, Nat.reduceSub, Int32.reduceOfInt, Int32.reduceAdd, Int32.reduceMul, Int32.reduceSub, ↓reduceIte, Int32.reduceLT, Int32.reduceLE, Int32.reduceToNatClampNeg, Nat.reduceMod, Nat.reduceLT, List.length_cons, List.length_nil, eq_self, true_or, or_true, and_self, implies_true, not_true_eq_false, not_false_eq_true, false_implies, true_implies, forall_const, st_aloadx, st_bastorex, st_gotox, st_if_icmpx, st_iincx, st_iloadx, st_return_x, am_put, am_nlg, kb_Arrays_fill_B_5, jx_Arrays_fill_B_20, kb_Arrays_fill_B_20, (nk_le (by omega) (by omega) : (nI (L) ≤ nI (k)) = (L ≤ k)), show L ≤ k by omega]
      exact K h1 F1 z1 f1 (m1.fn hc (fun i hi => g0 i (by omega)))
    | succ j ih =>
      intro k h1 F1 g1 ek z1 f1 m1 g0
      obtain ⟨h2, F2, e2, z2, f2, m2⟩ := m1.set hc (J := J) (V := V) (upz g1 k 0)
      rw [jx_Arrays_fill_B_5]
      simp only [isO_c, ax0, ex_cons, am_get, upz_at, true_and, and_true, Nat.reduceAdd, Nat.reduceLeDiff, Nat.reduceEqDiff, Nat.reduceSub, Int32.reduceOfInt, Int32.reduceAdd, Int32.reduceMul, Int32.reduceSub, ↓reduceIte, Int32.reduceLT, Int32.reduceLE, Int32.reduceToNatClampNeg, Nat.reduceMod, Nat.reduceLT, List.length_cons, List.length_nil, eq_self, true_or, or_true, and_self, implies_true, not_true_eq_false, not_false_eq_true, false_implies, true_implies, forall_const, st_aloadx, st_bastorex, st_gotox, st_if_icmpx, st_iincx, st_iloadx, am_put, am_nlg, kb_Arrays_fill_B_5, (nk_le (by omega) (by omega) : (nI (L) ≤ nI (k)) = (L ≤ k)), show ¬ L ≤ k by omega, m1.get hc, oq_wB1, nk_neg (show k < 2147483648 by omega), nk_cl (show k < 2147483648 by omega), show k < L by omega, m1.q23 hc, show (0 : Int32).toInt8.toInt32 = 0 from by decide, e2, nk_succ]
      refine ih (k + 1) h2 F2 _ (by omega) (z1.tr z2) (fun x hx => (f2 x hx).trans (f1 x hx)) m2 (fun i hi => ?_)
      rw [upz_at]
      split
      · rfl
      · exact g0 i (by omega)
  exact key L 0 h F g (by omega) Hq.rf (fun _ _ => rfl) m (fun i hi => absurd hi (Nat.not_lt_zero i))
end FLB
