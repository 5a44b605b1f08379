/-! ===== numbers, loops ===== -/
theorem nk_add (a b : Nat) : nI a + nI b = nI (a + b) := (Int32.ofNat_add a b).symm
theorem nk_mul (a b : Nat) : nI a * nI b = nI (a * b) := (Int32.ofNat_mul a b).symm
theorem nk_succ (a : Nat) : nI a + 1 = nI (a + 1) := nk_add a 1
theorem nk_toInt {k : Nat} (h : k < 2147483648) : (nI k).toInt = (k : Int) := Int32.toInt_ofNat_of_lt h
theorem nk_neg {k : Nat} (h : k < 2147483648) : (nI k < 0) = False := by
  refine propext ⟨fun q => ?_, False.elim⟩
  rw [Int32.lt_iff_toInt_lt, nk_toInt h, Int32.toInt_zero] at q
  omega
theorem nk_cl {k : Nat} (h : k < 2147483648) : (nI k).toNatClampNeg = k := by
  show (nI k).toInt.toNat = k
  rw [nk_toInt h]; omega
theorem nk_lt {a b : Nat} (ha : a < 2147483648) (hb : b < 2147483648) : (nI a < nI b) = (a < b) := by
  rw [Int32.lt_iff_toInt_lt, nk_toInt ha, nk_toInt hb]
  exact propext ⟨fun h => by omega, fun h => by omega⟩
theorem nk_le {a b : Nat} (ha : a < 2147483648) (hb : b < 2147483648) : (nI a ≤ nI b) = (a ≤ b) := by
  rw [Int32.le_iff_toInt_le, nk_toInt ha, nk_toInt hb]
  exact propext ⟨fun h => by omega, fun h => by omega⟩
theorem nk_eq {a b : Nat} (ha : a < 2147483648) (hb : b < 2147483648) : (nI a = nI b) = (a = b) := by
  refine propext ⟨fun h => ?_, fun h => by rw [h]⟩
  have := congrArg Int32.toInt h
  rw [nk_toInt ha, nk_toInt hb] at this
  omega
theorem nk_sub {a b : Nat} (h : b ≤ a) : nI a - nI b = nI (a - b) := by
  have e : nI a = nI (a - b) + nI b := by rw [nk_add]; congr 1; omega
  rw [e]
  exact Int32.add_sub_cancel _ _
theorem nk_of {x : Int32} (h : ¬ x < 0) : x = nI x.toNatClampNeg ∧ x.toNatClampNeg < 2147483648 := by
  have h0 : 0 ≤ x.toInt := by rw [Int32.lt_iff_toInt_lt, Int32.toInt_zero] at h; omega
  have hl : x.toInt < 2147483648 := Int32.toInt_lt x
  have e : (x.toNatClampNeg : Int) = x.toInt := by show ((x.toInt.toNat : Nat) : Int) = _; omega
  have hk : x.toNatClampNeg < 2147483648 := by omega
  refine ⟨?_, hk⟩
  rw [← Int32.toInt_inj, nk_toInt hk, e]
theorem nk_div {a b : Nat} (ha : a < 2147483648) (hb : b < 2147483648) (hb0 : 0 < b) : nI a / nI b = nI (a / b) := by
  have h1 : a / b < 2147483648 := Nat.lt_of_le_of_lt (Nat.div_le_self a b) ha
  rw [← Int32.toInt_inj, nk_toInt h1]
  rw [Int32.toInt_div_of_ne_right _ _ (by
    intro q
    have := congrArg Int32.toInt q
    rw [nk_toInt hb] at this
    have e : (-1 : Int32).toInt = -1 := by decide
    rw [e] at this
    omega), nk_toInt ha, nk_toInt hb]
  exact (Int.ofNat_tdiv a b).symm
theorem nk_ne0 {b : Nat} (hb : b < 2147483648) (hb0 : 0 < b) : ¬ nI b = 0 := by
  intro q
  have : nI b = nI 0 := q
  rw [nk_eq hb (by decide)] at this
  omega
/-- the remainder as the machine has it -/
theorem nk_rem {a b : Nat} (ha : a < 2147483648) (hb : b < 2147483648) (hb0 : 0 < b) : nI a - nI a / nI b * nI b = nI (a % b) := by
  rw [nk_div ha hb hb0, nk_mul, nk_sub (Nat.div_mul_le_self a b)]
  congr 1
  have := Nat.div_add_mod a b
  have e : a / b * b = b * (a / b) := Nat.mul_comm _ _
  omega
def b2i (b : Bool) : Int32 := if b then 1 else 0
theorem b2i_t : b2i true = 1 := rfl
theorem b2i_f : b2i false = 0 := rfl
theorem am_iter {code : Nat → List am_I} {call : am_C} {Q : am_Q} {pc : Nat} (N : Nat) (L : Nat → List Value) (Hh : Nat → am_H) (I : Nat → Prop) (step : ∀ k, k < N → I k → (I (k + 1) → am_W code call Q pc (L (k + 1)) [] (Hh (k + 1))) → am_W code call Q pc (L k) [] (Hh k)) (fin : I N → am_W code call Q pc (L N) [] (Hh N)) : ∀ m, m ≤ N → I m → am_W code call Q pc (L m) [] (Hh m) := by
  have key : ∀ j m, m + j = N → I m → am_W code call Q pc (L m) [] (Hh m) := by
    intro j
    induction j with
    | zero => intro m e h; have e' : m = N := e; subst e'; exact fin h
    | succ j ih => intro m e h; exact step m (by omega) h (ih (m + 1) (by omega))
  intro m hm h
  exact key (N - m) m (by omega) h
theorem rg_any {p : Nat → Bool} {n : Nat} : (List.range n).any p = true ↔ ∃ i, i < n ∧ p i = true := by
  rw [List.any_eq_true]
  exact ⟨fun ⟨x, h1, h2⟩ => ⟨x, List.mem_range.mp h1, h2⟩, fun ⟨x, h1, h2⟩ => ⟨x, List.mem_range.mpr h1, h2⟩⟩
theorem rg_all {p : Nat → Bool} {n : Nat} : (List.range n).all p = true ↔ ∀ i, i < n → p i = true := by
  rw [List.all_eq_true]
  exact ⟨fun h x hx => h x (List.mem_range.mpr hx), fun h x hx => h x (List.mem_range.mp hx)⟩
theorem rg_anyf {p : Nat → Bool} {n : Nat} (h : ∀ i, i < n → p i = false) : (List.range n).any p = false := by
  rw [Bool.eq_false_iff]
  intro q
  obtain ⟨i, h1, h2⟩ := rg_any.mp q
  rw [h i h1] at h2
  cases h2
