/-! ===== counting bits ===== -/
def vlB : List Nat → Nat
  | [] => 0
  | a :: l => a + 256 * vlB l
theorem b256 {a y i : Nat} (ha : a < 256) : (a + 256 * y).testBit i = if i < 8 then a.testBit i else y.testBit (i - 8) := by
  have := Nat.testBit_two_pow_mul_add (i := 8) y (b := a) ha i
  rw [show (2 : Nat) ^ 8 = 256 by decide, Nat.add_comm] at this
  exact this
theorem hiF {a n i : Nat} (ha : a < 2 ^ n) (h : n ≤ i) : a.testBit i = false := Nat.testBit_lt_two_pow (Nat.lt_of_lt_of_le ha (Nat.pow_le_pow_right (by decide) h))
theorem B1 {a y c m s : Nat} (ha : a < 256) (hs : s ≤ 8) (hc : c < 2 ^ (8 - s)) : ((a + 256 * y) >>> s) &&& (c + 256 * m) = ((a >>> s) &&& c) + 256 * ((y >>> s) &&& m) := by
  have hc2 : c < 256 := Nat.lt_of_lt_of_le hc (Nat.pow_le_pow_right (by decide) (by omega) : 2 ^ (8 - s) ≤ 2 ^ 8)
  have hl : (a >>> s) &&& c < 256 := Nat.lt_of_le_of_lt Nat.and_le_right hc2
  apply Nat.eq_of_testBit_eq
  intro i
  rw [Nat.testBit_and, Nat.testBit_shiftRight, b256 ha, b256 hc2, b256 hl, Nat.testBit_and, Nat.testBit_and, Nat.testBit_shiftRight, Nat.testBit_shiftRight]
  by_cases e : i < 8
  · rw [if_pos e, if_pos e]
    by_cases e2 : s + i < 8
    · rw [if_pos e2]
    · rw [hiF hc (by omega), Bool.and_false, Bool.and_false]
  · rw [if_neg e, if_neg e, if_neg (by omega), show s + i - 8 = s + (i - 8) by omega]
def mkB (c : Nat) : Nat → Nat
  | 0 => 0
  | n + 1 => c + 256 * mkB c n
theorem vl_and {c s : Nat} (hs : s ≤ 8) (hc : c < 2 ^ (8 - s)) : ∀ l : List Nat, (∀ a ∈ l, a < 256) → (vlB l >>> s) &&& mkB c l.length = vlB (l.map (fun a => (a >>> s) &&& c))
  | [], _ => by show (0 >>> s) &&& 0 = 0; rw [Nat.and_zero]
  | a :: l, h => by
    show ((a + 256 * vlB l) >>> s) &&& (c + 256 * mkB c l.length) = ((a >>> s) &&& c) + 256 * vlB (l.map (fun a => (a >>> s) &&& c))
    rw [B1 (h a List.mem_cons_self) hs hc, vl_and hs hc l (fun x hx => h x (List.mem_cons_of_mem _ hx))]
theorem vl_sub {f : Nat → Nat} : ∀ l : List Nat, (∀ a ∈ l, f a ≤ a) → vlB l - vlB (l.map f) = vlB (l.map (fun a => a - f a)) ∧ vlB (l.map f) ≤ vlB l
  | [], _ => ⟨rfl, Nat.le_refl _⟩
  | a :: l, h => by
    obtain ⟨h1, h2⟩ := vl_sub l (fun x hx => h x (List.mem_cons_of_mem _ hx))
    have h3 := h a List.mem_cons_self
    show (a + 256 * vlB l) - (f a + 256 * vlB (l.map f)) = (a - f a) + 256 * vlB (l.map (fun a => a - f a)) ∧ f a + 256 * vlB (l.map f) ≤ a + 256 * vlB l
    rw [← h1]
    omega
theorem vl_add {f g : Nat → Nat} : ∀ l : List Nat, vlB (l.map f) + vlB (l.map g) = vlB (l.map (fun a => f a + g a))
  | [] => rfl
  | a :: l => by
    have h1 := vl_add (f := f) (g := g) l
    show (f a + 256 * vlB (l.map f)) + (g a + 256 * vlB (l.map g)) = (f a + g a) + 256 * vlB (l.map (fun a => f a + g a))
    rw [← h1]
    omega
theorem andF {x m : Nat} : x &&& (15 + 256 * m) = x % 16 + 256 * ((x / 256) &&& m) := by
  have e1 : x = x % 256 + 256 * (x / 256) := by omega
  have h1 : x % 256 < 256 := Nat.mod_lt _ (by decide)
  have := B1 (a := x % 256) (y := x / 256) (c := 15) (m := m) (s := 0) h1 (by decide) (by decide)
  rw [← e1, Nat.shiftRight_zero, Nat.shiftRight_zero, Nat.shiftRight_zero] at this
  rw [this]
  have e2 : x % 256 &&& 15 = x % 16 := by
    have : (15 : Nat) = 2 ^ 4 - 1 := by decide
    rw [this, Nat.and_two_pow_sub_one_eq_mod]
    show x % 256 % 16 = x % 16
    omega
  rw [e2]
theorem vl_nib : ∀ l : List Nat, (∀ a ∈ l, a % 16 ≤ 4 ∧ a / 16 ≤ 4) → (vlB l + vlB l / 16) &&& mkB 15 l.length = vlB (l.map (fun a => a % 16 + a / 16))
  | [], _ => rfl
  | a :: l, h => by
    have h1 := h a List.mem_cons_self
    have ih := vl_nib l (fun x hx => h x (List.mem_cons_of_mem _ hx))
    have hy : vlB l % 16 ≤ 4 := by
      cases l with
      | nil => exact Nat.zero_le _
      | cons b l =>
        have := h b (List.mem_cons_of_mem _ List.mem_cons_self)
        show (b + 256 * vlB l) % 16 ≤ 4
        omega
    show (a + 256 * vlB l + (a + 256 * vlB l) / 16) &&& (15 + 256 * mkB 15 l.length) = (a % 16 + a / 16) + 256 * vlB (l.map (fun a => a % 16 + a / 16))
    rw [andF, ← ih]
    generalize vlB l = y at *
    have e1 : (a + 256 * y + (a + 256 * y) / 16) % 16 = a % 16 + a / 16 := by omega
    have e2 : (a + 256 * y + (a + 256 * y) / 16) / 256 = y + y / 16 := by omega
    rw [e1, e2]
def p1B (a : Nat) : Nat := a - ((a >>> 1) &&& 85)
def p2B (a : Nat) : Nat := ((a >>> 0) &&& 51) + ((a >>> 2) &&& 51)
def p3B (a : Nat) : Nat := a % 16 + a / 16
theorem pB_dec : ∀ a : Fin 256, (a.val >>> 1) &&& 85 ≤ a.val ∧ p1B a.val < 256 ∧ p2B (p1B a.val) < 256 ∧ p2B (p1B a.val) % 16 ≤ 4 ∧ p2B (p1B a.val) / 16 ≤ 4 ∧ p3B (p2B (p1B a.val)) = cn (fun i => a.val.testBit i) 8 := by decide +kernel
theorem cn_8 {a y : Nat} (ha : a < 256) (n : Nat) : cn (fun i => (a + 256 * y).testBit i) (8 + n) = cn (fun i => a.testBit i) 8 + cn (fun i => y.testBit i) n := by
  rw [cn_add]
  congr 1
  · exact cn_congr (fun i hi => by rw [b256 ha, if_pos hi])
  · exact cn_congr (fun i _ => by rw [b256 ha, if_neg (by omega), show 8 + i - 8 = i by omega])
def byL (n : Nat) : List Nat := [n % 256, n / 256 % 256, n / 65536 % 256, n / 16777216 % 256, n / 4294967296 % 256, n / 1099511627776 % 256, n / 281474976710656 % 256, n / 72057594037927936 % 256]
theorem byL_v {n : Nat} (h : n < 18446744073709551616) : vlB (byL n) = n := by
  show n % 256 + 256 * (n / 256 % 256 + 256 * (n / 65536 % 256 + 256 * (n / 16777216 % 256 + 256 * (n / 4294967296 % 256 + 256 * (n / 1099511627776 % 256 + 256 * (n / 281474976710656 % 256 + 256 * (n / 72057594037927936 % 256 + 256 * 0))))))) = n
  omega
theorem byL_lt (n : Nat) : ∀ a ∈ byL n, a < 256 := by
  intro a ha
  unfold byL at ha
  simp only [List.mem_cons, List.mem_nil_iff, or_false] at ha
  omega
/-- the bits, counted as the library does -/
def swA1 (n : Nat) : Nat := n - ((n >>> 1) &&& 6148914691236517205)
def swA2 (n : Nat) : Nat := (n &&& 3689348814741910323) + ((n >>> 2) &&& 3689348814741910323)
def swA3 (n : Nat) : Nat := (n + n / 16) &&& 1085102592571150095
theorem sw_ok {n : Nat} (h : n < 18446744073709551616) : swA3 (swA2 (swA1 n)) = vlB ((byL n).map (fun a => p3B (p2B (p1B a)))) ∧ (n >>> 1) &&& 6148914691236517205 ≤ n := by
  have hlt := byL_lt n
  have hv := byL_v h
  have hd : ∀ a ∈ byL n, (a >>> 1) &&& 85 ≤ a ∧ p1B a < 256 ∧ p2B (p1B a) < 256 ∧ p2B (p1B a) % 16 ≤ 4 ∧ p2B (p1B a) / 16 ≤ 4 ∧ p3B (p2B (p1B a)) = cn (fun i => a.testBit i) 8 := fun a ha => pB_dec ⟨a, hlt a ha⟩
  have e5 : (n >>> 1) &&& 6148914691236517205 = vlB ((byL n).map (fun a => (a >>> 1) &&& 85)) := by
    have := vl_and (c := 85) (s := 1) (by decide) (by decide) (byL n) hlt
    rw [hv] at this
    exact this
  obtain ⟨s1, s2⟩ := vl_sub (f := fun a => (a >>> 1) &&& 85) (byL n) (fun a ha => (hd a ha).1)
  have a1 : swA1 n = vlB ((byL n).map p1B) := by
    unfold swA1
    rw [e5]
    rw [hv] at s1
    exact s1
  have hl1 : ∀ a ∈ (byL n).map p1B, a < 256 := fun a ha => by
    obtain ⟨b, hb, e⟩ := List.mem_map.mp ha
    rw [← e]; exact (hd b hb).2.1
  have a2 : swA2 (swA1 n) = vlB ((byL n).map (fun a => p2B (p1B a))) := by
    unfold swA2
    rw [a1]
    have g0 := vl_and (c := 51) (s := 0) (by decide) (by decide) ((byL n).map p1B) hl1
    have g2 := vl_and (c := 51) (s := 2) (by decide) (by decide) ((byL n).map p1B) hl1
    rw [Nat.shiftRight_zero] at g0
    have e0 : vlB ((byL n).map p1B) &&& 3689348814741910323 = _ := g0
    have e2 : (vlB ((byL n).map p1B) >>> 2) &&& 3689348814741910323 = _ := g2
    rw [e0, e2, vl_add, List.map_map]
    rfl
  refine ⟨?_, by rw [e5]; rw [hv] at s2; exact s2⟩
  rw [a2]
  have g := vl_nib ((byL n).map (fun a => p2B (p1B a))) (fun a ha => by
    obtain ⟨b, hb, e⟩ := List.mem_map.mp ha
    rw [← e]; exact ⟨(hd b hb).2.2.2.1, (hd b hb).2.2.2.2.1⟩)
  rw [List.map_map] at g
  exact g
def sw8 (n : Nat) : Nat := n + n / 256
theorem sw_cn {n : Nat} (h : n < 18446744073709551616) : ∃ q0 q1 q2 q3 q4 q5 q6 q7, q0 ≤ 8 ∧ q1 ≤ 8 ∧ q2 ≤ 8 ∧ q3 ≤ 8 ∧ q4 ≤ 8 ∧ q5 ≤ 8 ∧ q6 ≤ 8 ∧ q7 ≤ 8 ∧ swA3 (swA2 (swA1 n)) = q0 + 256 * (q1 + 256 * (q2 + 256 * (q3 + 256 * (q4 + 256 * (q5 + 256 * (q6 + 256 * q7)))))) ∧ cn (fun i => n.testBit i) 64 = q0 + q1 + q2 + q3 + q4 + q5 + q6 + q7 := by
  have hlt := byL_lt n
  obtain ⟨s1, _⟩ := sw_ok h
  have hv := byL_v h
  have hd : ∀ a, a < 256 → p3B (p2B (p1B a)) = cn (fun i => a.testBit i) 8 := fun a ha => (pB_dec ⟨a, ha⟩).2.2.2.2.2
  have hl : ∀ a : Nat, cn (fun i => a.testBit i) 8 ≤ 8 := fun a => cn_le _ 8
  have hm : ∀ x, x % 256 < 256 := fun x => Nat.mod_lt _ (by decide)
  refine ⟨_, _, _, _, _, _, _, _, hl (n % 256), hl (n / 256 % 256), hl (n / 65536 % 256), hl (n / 16777216 % 256), hl (n / 4294967296 % 256), hl (n / 1099511627776 % 256), hl (n / 281474976710656 % 256), hl (n / 72057594037927936 % 256), ?_, ?_⟩
  · rw [s1]
    show p3B (p2B (p1B (n % 256))) + 256 * (p3B (p2B (p1B (n / 256 % 256))) + 256 * (p3B (p2B (p1B (n / 65536 % 256))) + 256 * (p3B (p2B (p1B (n / 16777216 % 256))) + 256 * (p3B (p2B (p1B (n / 4294967296 % 256))) + 256 * (p3B (p2B (p1B (n / 1099511627776 % 256))) + 256 * (p3B (p2B (p1B (n / 281474976710656 % 256))) + 256 * (p3B (p2B (p1B (n / 72057594037927936 % 256))) + 256 * 0))))))) = _
    rw [hd _ (hm _), hd _ (hm _), hd _ (hm _), hd _ (hm _), hd _ (hm _), hd _ (hm _), hd _ (hm _), hd _ (hm _), Nat.mul_zero, Nat.add_zero]
  · have e : cn (fun i => n.testBit i) 64 = cn (fun i => (vlB (byL n)).testBit i) (8 + (8 + (8 + (8 + (8 + (8 + (8 + (8 + 0)))))))) := by rw [hv]
    rw [e]
    unfold byL vlB vlB vlB vlB vlB vlB vlB vlB vlB
    rw [cn_8 (hm _), cn_8 (hm _), cn_8 (hm _), cn_8 (hm _), cn_8 (hm _), cn_8 (hm _), cn_8 (hm _), cn_8 (hm _)]
    show _ = _
    have z : cn (fun i => Nat.testBit 0 i) 0 = 0 := rfl
    rw [z]
    omega
