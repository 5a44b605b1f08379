/-! ===== the class: trailing zeros, small counts ===== -/
def iu (a b : Int32) : Int32 := (a.toUInt32 >>> (b.toUInt32 &&& Int32.toUInt32 31)).toInt32
def nt5 (n i : Int32) : Int32 := n + iu i 1
def nt4 (n i : Int32) : Int32 := if i ≤ 4 then nt5 n i else nt5 (n + 2) (iu i 2)
def nt3 (n i : Int32) : Int32 := if i ≤ 16 then nt4 n i else nt4 (n + 4) (iu i 4)
def nt2 (n i : Int32) : Int32 := if i ≤ 256 then nt3 n i else nt3 (n + 8) (iu i 8)
def nt1 (i : Int32) : Int32 := if i ≤ 65536 then nt2 1 i else nt2 (1 + 16) (iu i 16)
def nt0 (i : Int32) : Int32 := if 0 < i then nt1 i else i &&& 32
theorem nt_dec : ∀ k : Fin 32, nt0 (nI (2 ^ k.val - 1)) = nI k.val := by decide +kernel
def bcI1 (x : Int32) : Int32 := x - (iu x 1 &&& 1431655765)
def bcI2 (x : Int32) : Int32 := (x &&& 858993459) + (iu x 2 &&& 858993459)
def bcI3 (x : Int32) : Int32 := (x + iu x 4) &&& 252645135
def bcI4 (x : Int32) : Int32 := x + iu x 8
def bcI5 (x : Int32) : Int32 := (x + iu x 16) &&& 63
theorem bc_d2 : ∀ a b : Fin 64, bcI5 (bcI4 (bcI3 (bcI2 (bcI1 (nI (64 * a.val + b.val)))))) = nI (cn (fun i => (64 * a.val + b.val).testBit i) 12) := by decide +kernel
theorem bc_dec (n : Fin 4096) : bcI5 (bcI4 (bcI3 (bcI2 (bcI1 (nI n.val))))) = nI (cn (fun i => n.val.testBit i) 12) := by
  have := bc_d2 ⟨n.val / 64, by have := n.isLt; omega⟩ ⟨n.val % 64, Nat.mod_lt _ (by decide)⟩
  dsimp only at this
  rw [show 64 * (n.val / 64) + n.val % 64 = n.val by omega] at this
  exact this
theorem pop_12 {n : Nat} (h : n < 4096) : pop n = cn (fun i => n.testBit i) 12 := by
  unfold pop
  rw [show 32 = 12 + 20 by decide, cn_add]
  have : cn (fun i => n.testBit (12 + i)) 20 = cn (fun _ => false) 20 := cn_congr (fun i _ => hiF (n := 12) h (by omega))
  rw [this, show cn (fun _ => false) 20 = 0 by decide, Nat.add_zero]
/-- the lowest bit -/
theorem low_bit {n k : Nat} (h0 : ∀ i, i < k → n.testBit i = false) (h1 : n.testBit k = true) : ∃ m, n = 2 ^ (k + 1) * m + 2 ^ k := by
  refine ⟨n / 2 ^ (k + 1), ?_⟩
  have e1 := Nat.div_add_mod n (2 ^ (k + 1))
  have e2 : n % 2 ^ (k + 1) = 2 ^ k := by
    apply Nat.eq_of_testBit_eq
    intro i
    rw [Nat.testBit_mod_two_pow]
    by_cases e : i = k
    · subst e; rw [h1, Nat.testBit_two_pow_self, decide_eq_true (by omega)]; rfl
    · rw [Nat.testBit_two_pow_of_ne (by omega)]
      by_cases g : i < k
      · rw [h0 i g, Bool.and_false]
      · rw [decide_eq_false (by omega), Bool.false_and]
  rw [e2] at e1
  exact e1.symm
theorem low_and {x : Int32} {k : Nat} (hk : k < 32) (h0 : ∀ i, i < k → x.toBitVec.getLsbD i = false) (h1 : x.toBitVec.getLsbD k = true) : (x ^^^ -1) &&& (x - 1) = nI (2 ^ k - 1) := by
  have hn : x.toBitVec.toNat < 2 ^ 32 := x.toBitVec.isLt
  obtain ⟨m, hm⟩ := low_bit (n := x.toBitVec.toNat) h0 h1
  have hp : 0 < 2 ^ k := Nat.two_pow_pos k
  have hs : (x - 1).toBitVec.toNat = 2 ^ (k + 1) * m + (2 ^ k - 1) := by
    rw [Int32.toBitVec_sub, BitVec.toNat_sub]
    have e1 : (1 : Int32).toBitVec.toNat = 1 := by decide
    rw [e1, hm]
    rw [hm] at hn
    generalize 2 ^ (k + 1) * m = A at *
    generalize 2 ^ k = B at *
    have e2 : (2 : Nat) ^ 32 = 4294967296 := by decide
    rw [e2] at hn ⊢
    omega
  apply Int32.toBitVec_inj.mp
  apply BitVec.eq_of_getLsbD_eq
  intro i hi
  rw [Int32.toBitVec_and, BitVec.getLsbD_and, i32_not hi, nk_tb hi]
  have ex : x.toBitVec.getLsbD i = (2 ^ (k + 1) * m + 2 ^ k).testBit i := by rw [← hm]; rfl
  have es : (x - 1).toBitVec.getLsbD i = (2 ^ (k + 1) * m + (2 ^ k - 1)).testBit i := by rw [← hs]; rfl
  rw [ex, es, Nat.testBit_two_pow_mul_add _ (Nat.pow_lt_pow_right (by decide) (by omega)), Nat.testBit_two_pow_mul_add _ (Nat.lt_of_lt_of_le (Nat.sub_lt hp (by decide)) (Nat.pow_le_pow_right (by decide) (by omega))), Nat.testBit_two_pow_sub_one]
  by_cases e : i < k + 1
  · rw [if_pos e, if_pos e]
    by_cases g : i = k
    · subst g; rw [Nat.testBit_two_pow_self, decide_eq_false (by omega)]; rfl
    · rw [Nat.testBit_two_pow_of_ne (by omega)]; rfl
  · rw [if_neg e, if_neg e, decide_eq_false (by omega)]
    cases m.testBit (i - (k + 1)) <;> rfl
section CNT
variable {d : Nat} {hp : am_H} {Q : am_Q}
set_option maxRecDepth 20000 in
theorem c_ntzI {x : Int32} (K : Q (some (.int (nt0 ((x ^^^ -1) &&& (x - 1))))) hp) : am_cl (d + 1) 0 [.int x] hp Q := by
  simp only [isO_c, ax0, ex_cons, am_get, upz_at, true_and, and_true, Nat.reduceAdd, Nat.reduceLeDiff, Nat.reduceEqDiff, Nat.reduceSub, Int32.reduceOfInt, Int32.reduceAdd, Int32.reduceMul, Int32.reduceSub, ↓reduceIte, Int32.reduceLT, Int32.reduceLE, Int32.reduceToNatClampNeg, Nat.reduceMod, Nat.reduceLT, List.length_cons, List.length_nil, eq_self, true_or, or_true, and_self, implies_true, not_true_eq_false, not_false_eq_true, false_implies, true_implies, forall_const, st_iandx, st_iconstx, st_ifCondx, st_iloadx, st_ireturnx, st_istorex, st_isubx, st_ixorx, am_put, am_nlg, kb_Integer_numberOfTrailingZeros_0, cx_Integer_numberOfTrailingZeros]
  generalize (x ^^^ -1) &&& (x - 1) = i at K
  unfold nt0 at K
  have s74 : ∀ n j : Int32, Q (some (.int (nt5 n j))) hp → am_W kc_Integer_numberOfTrailingZeros (am_cl d) Q 74 [.int j, .int n] [] hp := by
    intro n j K
    simp only [isO_c, ax0, ex_cons, am_get, upz_at, true_and, and_true, Nat.reduceAdd, Nat.reduceLeDiff, Nat.reduceEqDiff, Nat.reduceSub, Int32.reduceOfInt, Int32.reduceAdd, Int32.reduceMul, Int32.reduceSub, ↓reduceIte, Int32.reduceLT, Int32.reduceLE, Int32.reduceToNatClampNeg, Nat.reduceMod, Nat.reduceLT, List.length_cons, List.length_nil, eq_self, true_or, or_true, and_self, implies_true, not_true_eq_false, not_false_eq_true, false_implies, true_implies, forall_const, st_iaddx, st_iconstx, st_iloadx, st_ireturnx, st_iushrx, jx_Integer_numberOfTrailingZeros_74, kb_Integer_numberOfTrailingZeros_74]
    exact K
  have s62 : ∀ n j : Int32, Q (some (.int (nt4 n j))) hp → am_W kc_Integer_numberOfTrailingZeros (am_cl d) Q 62 [.int j, .int n] [] hp := by
    intro n j K
    unfold nt4 at K
    simp only [isO_c, ax0, ex_cons, am_get, upz_at, true_and, and_true, Nat.reduceAdd, Nat.reduceLeDiff, Nat.reduceEqDiff, Nat.reduceSub, Int32.reduceOfInt, Int32.reduceAdd, Int32.reduceMul, Int32.reduceSub, ↓reduceIte, Int32.reduceLT, Int32.reduceLE, Int32.reduceToNatClampNeg, Nat.reduceMod, Nat.reduceLT, List.length_cons, List.length_nil, eq_self, true_or, or_true, and_self, implies_true, not_true_eq_false, not_false_eq_true, false_implies, true_implies, forall_const, st_goto_wx, st_iconstx, st_if_icmpx, st_iincx, st_iloadx, st_istorex, st_iushrx, am_put, am_nlg, jx_Integer_numberOfTrailingZeros_62, kb_Integer_numberOfTrailingZeros_62]
    refine And.intro (fun q => ?_) (fun q => ?_)
    · rw [if_pos q] at K; exact s74 _ _ K
    · rw [if_neg q] at K; exact s74 _ _ K
  have s49 : ∀ n j : Int32, Q (some (.int (nt3 n j))) hp → am_W kc_Integer_numberOfTrailingZeros (am_cl d) Q 49 [.int j, .int n] [] hp := by
    intro n j K
    unfold nt3 at K
    simp only [isO_c, ax0, ex_cons, am_get, upz_at, true_and, and_true, Nat.reduceAdd, Nat.reduceLeDiff, Nat.reduceEqDiff, Nat.reduceSub, Int32.reduceOfInt, Int32.reduceAdd, Int32.reduceMul, Int32.reduceSub, ↓reduceIte, Int32.reduceLT, Int32.reduceLE, Int32.reduceToNatClampNeg, Nat.reduceMod, Nat.reduceLT, List.length_cons, List.length_nil, eq_self, true_or, or_true, and_self, implies_true, not_true_eq_false, not_false_eq_true, false_implies, true_implies, forall_const, st_goto_wx, st_iconstx, st_if_icmpx, st_iincx, st_iloadx, st_istorex, st_iushrx, am_put, am_nlg, jx_Integer_numberOfTrailingZeros_49, kb_Integer_numberOfTrailingZeros_49]
    refine And.intro (fun q => ?_) (fun q => ?_)
    · rw [if_pos q] at K; exact s62 _ _ K
    · rw [if_neg q] at K; exact s62 _ _ K
  have s34 : ∀ n j : Int32, Q (some (.int (nt2 n j))) hp → am_W kc_Integer_numberOfTrailingZeros (am_cl d) Q 34 [.int j, .int n] [] hp := by
    intro n j K
    unfold nt2 at K
    simp only [isO_c, ax0, ex_cons, am_get, upz_at, true_and, and_true, Nat.reduceAdd, Nat.reduceLeDiff, Nat.reduceEqDiff, Nat.reduceSub, Int32.reduceOfInt, Int32.reduceAdd, Int32.reduceMul, Int32.reduceSub, ↓reduceIte, Int32.reduceLT, Int32.reduceLE, Int32.reduceToNatClampNeg, Nat.reduceMod, Nat.reduceLT, List.length_cons, List.length_nil, eq_self, true_or, or_true, and_self, implies_true, not_true_eq_false, not_false_eq_true, false_implies, true_implies, forall_const, st_goto_wx, st_iconstx, st_if_icmpx, st_iincx, st_iloadx, st_istorex, st_iushrx, am_put, am_nlg, jx_Integer_numberOfTrailingZeros_34, kb_Integer_numberOfTrailingZeros_34]
    refine And.intro (fun q => ?_) (fun q => ?_)
    · rw [if_pos q] at K; exact s49 _ _ K
    · rw [if_neg q] at K; exact s49 _ _ K
  refine And.intro (fun q => ?_) (fun q => ?_)
  · rw [if_pos q] at K
    unfold nt1 at K
    simp only [isO_c, ax0, ex_cons, am_get, upz_at, true_and, and_true, Nat.reduceAdd, Nat.reduceLeDiff, Nat.reduceEqDiff, Nat.reduceSub, Int32.reduceOfInt, Int32.reduceAdd, Int32.reduceMul, Int32.reduceSub, ↓reduceIte, Int32.reduceLT, Int32.reduceLE, Int32.reduceToNatClampNeg, Nat.reduceMod, Nat.reduceLT, List.length_cons, List.length_nil, eq_self, true_or, or_true, and_self, implies_true, not_true_eq_false, not_false_eq_true, false_implies, true_implies, forall_const, st_goto_wx, st_iconstx, st_if_icmpx, st_iincx, st_iloadx, st_istorex, st_iushrx, am_put, am_nlg, jx_Integer_numberOfTrailingZeros_17, kb_Integer_numberOfTrailingZeros_17]
    refine And.intro (fun q => ?_) (fun q => ?_)
    · rw [if_pos q] at K; exact s34 _ _ K
    · rw [if_neg q] at K; exact s34 _ _ K
  · rw [if_neg q] at K
    exact K
set_option maxRecDepth 20000 in
theorem c_bitCountI {n : Nat} (hn : n < 4096) (K : Q (some (.int (nI (pop n)))) hp) : am_cl (d + 1) 1 [.int (nI n)] hp Q := by
  have e := bc_dec ⟨n, hn⟩
  dsimp only at e
  rw [pop_12 hn, ← e] at K
  simp only [isO_c, ax0, ex_cons, am_get, upz_at, true_and, and_true, Nat.reduceAdd, Nat.reduceLeDiff, Nat.reduceEqDiff, Nat.reduceSub, Int32.reduceOfInt, Int32.reduceAdd, Int32.reduceMul, Int32.reduceSub, ↓reduceIte, Int32.reduceLT, Int32.reduceLE, Int32.reduceToNatClampNeg, Nat.reduceMod, Nat.reduceLT, List.length_cons, List.length_nil, eq_self, true_or, or_true, and_self, implies_true, not_true_eq_false, not_false_eq_true, false_implies, true_implies, forall_const, st_iaddx, st_iandx, st_iconstx, st_iloadx, st_ireturnx, st_istorex, st_isubx, st_iushrx, am_put, am_nlg, kb_Integer_bitCount_0, cx_Integer_bitCount]
  exact K
set_option maxRecDepth 20000 in
theorem c_ntzJ {x : Int64} {k : Nat} (hk : k < 64) (h0 : ∀ i, i < k → x.toBitVec.getLsbD i = false) (h1 : x.toBitVec.getLsbD k = true) (K : Q (some (.int (nI k))) hp) : am_cl (d + 2) 2 [.long x] hp Q := by
  have lo : ∀ i, i < 32 → x.toInt32.toBitVec.getLsbD i = x.toBitVec.getLsbD i := fun i hi => by
    rw [Int64.toBitVec_toInt32, BitVec.getLsbD_signExtend, if_pos (by omega), decide_eq_true hi, Bool.true_and]
  have hi : ∀ i, i < 32 → (x.toUInt64 >>> ((32 : Int32).toInt64.toUInt64 &&& Int64.toUInt64 63)).toInt64.toInt32.toBitVec.getLsbD i = x.toBitVec.getLsbD (32 + i) := fun i hi => by
    rw [Int64.toBitVec_toInt32, BitVec.getLsbD_signExtend, if_pos (by omega), decide_eq_true hi, Bool.true_and, ← tnJ_bit, tnJ_shr x (k := 32) (by decide) (by decide), ← Nat.shiftRight_eq_div_pow, Nat.testBit_shiftRight, tnJ_bit]
  simp only [isO_c, ax0, ex_cons, am_get, upz_at, true_and, and_true, Nat.reduceAdd, Nat.reduceLeDiff, Nat.reduceEqDiff, Nat.reduceSub, Int32.reduceOfInt, Int32.reduceAdd, Int32.reduceMul, Int32.reduceSub, ↓reduceIte, Int32.reduceLT, Int32.reduceLE, Int32.reduceToNatClampNeg, Nat.reduceMod, Nat.reduceLT, List.length_cons, List.length_nil, eq_self, true_or, or_true, and_self, implies_true, not_true_eq_false, not_false_eq_true, false_implies, true_implies, forall_const, st_gotox, st_goto_wx, st_iaddx, st_iconstx, st_ifCondx, st_iloadx, st_st1, st_istorex, st_l2ix, st_lloadx, st_lushrx, am_put, am_nlg, kb_Long_numberOfTrailingZeros_0, jx_Long_numberOfTrailingZeros_21, kb_Long_numberOfTrailingZeros_21, cx_Long_numberOfTrailingZeros]
  refine And.intro (fun q => ?_) (fun q => ?_)
  · have hk32 : k < 32 := by
      refine Nat.lt_of_not_le fun z => q (i32_zero.mpr (fun i hi => ?_))
      rw [lo i hi]; exact h0 i (by omega)
    refine c_ntzI ?_
    rw [low_and hk32 (fun i hi => by rw [lo i (by omega)]; exact h0 i hi) (by rw [lo k hk32]; exact h1), nt_dec ⟨k, hk32⟩]
    simp only [isO_c, ax0, ex_cons, am_get, upz_at, true_and, and_true, Nat.reduceAdd, Nat.reduceLeDiff, Nat.reduceEqDiff, Nat.reduceSub, Int32.reduceOfInt, Int32.reduceAdd, Int32.reduceMul, Int32.reduceSub, ↓reduceIte, Int32.reduceLT, Int32.reduceLE, Int32.reduceToNatClampNeg, Nat.reduceMod, Nat.reduceLT, List.length_cons, List.length_nil, eq_self, true_or, or_true, and_self, implies_true, not_true_eq_false, not_false_eq_true, false_implies, true_implies, forall_const, st_goto_wx, st_iloadx, st_st1, st_ireturnx, jx_Long_numberOfTrailingZeros_21, kb_Long_numberOfTrailingZeros_21, jx_Long_numberOfTrailingZeros_25, kb_Long_numberOfTrailingZeros_25]
    exact K
  · have q := Classical.not_not.mp q
    have hk32 : 32 ≤ k := by
      refine Nat.le_of_not_lt fun z => ?_
      have := i32_zero.mp q k z
      rw [lo k z, h1] at this
      cases this
    refine c_ntzI ?_
    rw [low_and (k := k - 32) (by omega) (fun i hi2 => by rw [hi i (by omega)]; exact h0 _ (by omega)) (by rw [hi (k - 32) (by omega), show 32 + (k - 32) = k by omega]; exact h1), nt_dec ⟨k - 32, by omega⟩]
    simp only [isO_c, ax0, ex_cons, am_get, upz_at, true_and, and_true, Nat.reduceAdd, Nat.reduceLeDiff, Nat.reduceEqDiff, Nat.reduceSub, Int32.reduceOfInt, Int32.reduceAdd, Int32.reduceMul, Int32.reduceSub, ↓reduceIte, Int32.reduceLT, Int32.reduceLE, Int32.reduceToNatClampNeg, Nat.reduceMod, Nat.reduceLT, List.length_cons, List.length_nil, eq_self, true_or, or_true, and_self, implies_true, not_true_eq_false, not_false_eq_true, false_implies, true_implies, forall_const, st_gotox, st_iaddx, st_iconstx, st_ifCondx, st_iloadx, st_st1, st_ireturnx, st_istorex, st_l2ix, st_lloadx, st_lushrx, am_put, am_nlg, kb_Long_numberOfTrailingZeros_0, jx_Long_numberOfTrailingZeros_25, kb_Long_numberOfTrailingZeros_25, show (32 : Int32) + nI (k - 32) = nI (32 + (k - 32)) from nk_add 32 _]
    rw [show 32 + (k - 32) = k by omega]
    exact K
end CNT
