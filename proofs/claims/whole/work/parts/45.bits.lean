/-! ===== bits of small numbers ===== -/
theorem nk_bv (a : Nat) : (nI a).toBitVec = BitVec.ofNat 32 a := rfl
theorem nk_and (a b : Nat) : nI a &&& nI b = nI (a &&& b) := by
  apply Int32.toBitVec_inj.mp
  rw [Int32.toBitVec_and, nk_bv, nk_bv, nk_bv, BitVec.ofNat_and]
theorem nk_or (a b : Nat) : nI a ||| nI b = nI (a ||| b) := by
  apply Int32.toBitVec_inj.mp
  rw [Int32.toBitVec_or, nk_bv, nk_bv, nk_bv, BitVec.ofNat_or]
theorem nk_sm {k : Nat} (hk : k < 32) : ((nI k &&& 31).toBitVec.smod 32).toNat = k := by
  have : ∀ k : Fin 32, ((nI k.val &&& 31).toBitVec.smod 32).toNat = k.val := by decide
  exact this ⟨k, hk⟩
theorem nk_shr {n k : Nat} (h : n < 2147483648) (hk : k < 32) : nI n >>> (nI k &&& 31) = nI (n / 2 ^ k) := pk_shrN h _ k (nk_sm hk)
theorem nk_and1 (n : Nat) : nI n &&& 1 = nI (n % 2) := by
  have := nk_and n 1
  rw [Nat.and_one_is_mod] at this
  exact this
theorem nk_bit {n k : Nat} (h : n < 2147483648) (hk : k < 32) : nI n >>> (nI k &&& 31) &&& 1 = b2i (n.testBit k) := by
  rw [nk_shr h hk, nk_and1, Nat.testBit_eq_decide_div_mod_eq]
  rcases Nat.mod_two_eq_zero_or_one (n / 2 ^ k) with e | e <;> rw [e] <;> rfl
theorem nk_shl {a k : Nat} (hk : k < 32) : nI a <<< (nI k &&& 31) = nI (a * 2 ^ k) := by
  apply Int32.toBitVec_inj.mp
  rw [Int32.toBitVec_shiftLeft]
  have e : ((nI k &&& 31).toBitVec.smod (↑32)).toNat = k := nk_sm hk
  show (nI a).toBitVec <<< ((nI k &&& 31).toBitVec.smod (↑32)) = _
  rw [BitVec.shiftLeft_eq', e, nk_bv, nk_bv]
  apply BitVec.eq_of_toNat_eq
  rw [BitVec.toNat_shiftLeft, BitVec.toNat_ofNat, BitVec.toNat_ofNat, Nat.shiftLeft_eq, Nat.mod_mul_mod]
theorem nk_1shl {k : Nat} (hk : k < 32) : (1 : Int32) <<< (nI k &&& 31) = nI (2 ^ k) := by
  have := nk_shl (a := 1) hk
  rw [Nat.one_mul] at this
  exact this
theorem ifb1 {b : Bool} {A B : Prop} (hA : b = true → A) (hB : b = false → B) : (b2i b = 1 → A) ∧ (¬ b2i b = 1 → B) := by
  cases b
  · exact ⟨fun q => absurd q (by decide), fun _ => hB rfl⟩
  · exact ⟨fun _ => hA rfl, fun q => absurd rfl q⟩
theorem ifnb1 {b : Bool} {A B : Prop} (hA : b = false → A) (hB : b = true → B) : (¬ b2i b = 1 → A) ∧ (¬ ¬ b2i b = 1 → B) := by
  cases b
  · exact ⟨fun _ => hA rfl, fun q => absurd (by decide) q⟩
  · exact ⟨fun q => absurd rfl q, fun _ => hB rfl⟩
theorem ifnb {b : Bool} {A B : Prop} (hA : b = true → A) (hB : b = false → B) : (¬ b2i b = 0 → A) ∧ (¬ ¬ b2i b = 0 → B) := by
  cases b
  · exact ⟨fun q => absurd rfl q, fun _ => hB rfl⟩
  · exact ⟨fun _ => hA rfl, fun q => absurd (by decide) q⟩
theorem b2i_01 (b : Bool) : b2i b = 0 ∨ b2i b = 1 := by cases b <;> simp [b2i]
