/-! ===== the class: bit counts ===== -/
def tnJ (a : Int64) : Nat := a.toBitVec.toNat
theorem tnJ_lt (a : Int64) : tnJ a < 18446744073709551616 := a.toBitVec.isLt
theorem tnJ_and (a b : Int64) : tnJ (a &&& b) = tnJ a &&& tnJ b := by unfold tnJ; rw [Int64.toBitVec_and, BitVec.toNat_and]
theorem tnJ_add (a b : Int64) : tnJ (a + b) = (tnJ a + tnJ b) % 18446744073709551616 := by unfold tnJ; rw [Int64.toBitVec_add, BitVec.toNat_add]
theorem tnJ_sub {a b : Int64} (h : tnJ b ≤ tnJ a) : tnJ (a - b) = tnJ a - tnJ b := by
  have h1 := tnJ_lt a
  have h2 := tnJ_lt b
  unfold tnJ at *
  rw [Int64.toBitVec_sub, BitVec.toNat_sub]
  have e : (2 : Nat) ^ 64 = 18446744073709551616 := by decide
  rw [e]
  omega
theorem tnJ_shr (a : Int64) {b : Int32} {k : Nat} (hb : (b.toInt64.toUInt64 &&& Int64.toUInt64 63) = UInt64.ofNat k) (hk : k < 64) : tnJ (a.toUInt64 >>> (b.toInt64.toUInt64 &&& Int64.toUInt64 63)).toInt64 = tnJ a / 2 ^ k := by
  rw [hb]
  unfold tnJ
  show (a.toUInt64 >>> UInt64.ofNat k).toNat = a.toUInt64.toNat / 2 ^ k
  rw [UInt64.toNat_shiftRight]
  have e : (UInt64.ofNat k).toNat = k := UInt64.toNat_ofNat_of_lt' (by show k < 2 ^ 64; exact Nat.lt_trans hk (by decide))
  rw [e, Nat.mod_eq_of_lt hk, Nat.shiftRight_eq_div_pow]
theorem tnJ_bit (a : Int64) (i : Nat) : (tnJ a).testBit i = a.toBitVec.getLsbD i := rfl
theorem tn_i32 {a : Int64} {m : Nat} (h : tnJ a % 128 = m) : a.toInt32 &&& 127 = nI m := by
  apply Int32.toBitVec_inj.mp
  apply BitVec.eq_of_getLsbD_eq
  intro i hi
  have e1 : (127 : Int32).toBitVec.getLsbD i = (127 : Nat).testBit i := nk_tb (a := 127) hi
  rw [Int32.toBitVec_and, BitVec.getLsbD_and, e1, nk_tb hi, ← h, show (128 : Nat) = 2 ^ 7 by decide, Nat.testBit_mod_two_pow]
  have e2 : a.toInt32.toBitVec.getLsbD i = (tnJ a).testBit i := by
    rw [Int64.toBitVec_toInt32, BitVec.getLsbD_signExtend, tnJ_bit, if_pos (by omega), decide_eq_true hi, Bool.true_and]
  rw [e2]
  have e3 : (127 : Nat).testBit i = decide (i < 7) := by
    have : (127 : Nat) = 2 ^ 7 - 1 := by decide
    rw [this, Nat.testBit_two_pow_sub_one]
  rw [e3, Bool.and_comm]
theorem dv1 {a b : Nat} (h : a < 256) : (a + 256 * b) / 256 = b := by omega
theorem dv2 {a b c : Nat} (h : a < 256) (h2 : b < 256) : (a + 256 * (b + 256 * c)) / 65536 = c := by omega
theorem dv4 {a b c e f : Nat} (h : a < 256) (h2 : b < 256) (h3 : c < 256) (h4 : e < 256) : (a + 256 * (b + 256 * (c + 256 * (e + 256 * f)))) / 4294967296 = f := by omega
theorem ad8 {a0 a1 a2 a3 a4 a5 a6 a7 b0 b1 b2 b3 b4 b5 b6 : Nat} : a0 + 256 * (a1 + 256 * (a2 + 256 * (a3 + 256 * (a4 + 256 * (a5 + 256 * (a6 + 256 * a7)))))) + (b0 + 256 * (b1 + 256 * (b2 + 256 * (b3 + 256 * (b4 + 256 * (b5 + 256 * b6)))))) = (a0 + b0) + 256 * ((a1 + b1) + 256 * ((a2 + b2) + 256 * ((a3 + b3) + 256 * ((a4 + b4) + 256 * ((a5 + b5) + 256 * ((a6 + b6) + 256 * a7)))))) := by omega
theorem ad6 {a0 a1 a2 a3 a4 a5 a6 a7 b0 b1 b2 b3 b4 b5 : Nat} : a0 + 256 * (a1 + 256 * (a2 + 256 * (a3 + 256 * (a4 + 256 * (a5 + 256 * (a6 + 256 * a7)))))) + (b0 + 256 * (b1 + 256 * (b2 + 256 * (b3 + 256 * (b4 + 256 * b5))))) = (a0 + b0) + 256 * ((a1 + b1) + 256 * ((a2 + b2) + 256 * ((a3 + b3) + 256 * ((a4 + b4) + 256 * ((a5 + b5) + 256 * (a6 + 256 * a7)))))) := by omega
theorem md8 {a b c d : Nat} (h : a + c < 128) : (a + 256 * b + (c + 256 * d)) % 128 = a + c := by omega
theorem sw_fin {q0 q1 q2 q3 q4 q5 q6 q7 x3 x4 x5 x6 : Nat} (l0 : q0 ≤ 8) (l1 : q1 ≤ 8) (l2 : q2 ≤ 8) (l3 : q3 ≤ 8) (l4 : q4 ≤ 8) (l5 : q5 ≤ 8) (l6 : q6 ≤ 8) (l7 : q7 ≤ 8) (v3 : x3 = q0 + 256 * (q1 + 256 * (q2 + 256 * (q3 + 256 * (q4 + 256 * (q5 + 256 * (q6 + 256 * q7))))))) (t4 : x4 = x3 + x3 / 256) (t5 : x5 = x4 + x4 / 65536) (t6 : x6 = x5 + x5 / 4294967296) : x6 % 128 = q0 + q1 + q2 + q3 + q4 + q5 + q6 + q7 := by
  have b2 : ∀ {x y : Nat}, x ≤ 8 → y ≤ 8 → x + y ≤ 16 := fun h1 h2 => Nat.add_le_add h1 h2
  have b4 : ∀ {x y : Nat}, x ≤ 16 → y ≤ 16 → x + y ≤ 32 := fun h1 h2 => Nat.add_le_add h1 h2
  have c8 : ∀ {x : Nat}, x ≤ 8 → x < 256 := fun h => Nat.lt_of_le_of_lt h (by decide)
  have c16 : ∀ {x : Nat}, x ≤ 16 → x < 256 := fun h => Nat.lt_of_le_of_lt h (by decide)
  have c32 : ∀ {x : Nat}, x ≤ 32 → x < 256 := fun h => Nat.lt_of_le_of_lt h (by decide)
  rw [v3, dv1 (c8 l0), ad8] at t4
  rw [t4, dv2 (c16 (b2 l0 l1)) (c16 (b2 l1 l2)), ad6] at t5
  rw [t5, dv4 (c32 (b4 (b2 l0 l1) (b2 l2 l3))) (c32 (b4 (b2 l1 l2) (b2 l3 l4))) (c32 (b4 (b2 l2 l3) (b2 l4 l5))) (c32 (b4 (b2 l3 l4) (b2 l5 l6)))] at t6
  rw [t6, md8 (Nat.lt_of_le_of_lt (Nat.add_le_add (b4 (b2 l0 l1) (b2 l2 l3)) (b4 (b2 l4 l5) (b2 l6 l7))) (by decide))]
  clear t4 t5 t6 v3
  omega
section CBC
variable {d : Nat} {hp : am_H} {Q : am_Q}
set_option maxRecDepth 20000 in
theorem c_bitCountJ {x : Int64} (K : Q (some (.int (nI (cn (fun i => x.toBitVec.getLsbD i) 64)))) hp) : am_cl (d + 1) 3 [.long x] hp Q := by
  simp only [isO_c, ax0, ex_cons, am_get, upz_at, true_and, and_true, Nat.reduceAdd, Nat.reduceLeDiff, Nat.reduceEqDiff, Nat.reduceSub, Int32.reduceOfInt, Int32.reduceAdd, Int32.reduceMul, Int32.reduceSub, ↓reduceIte, Int32.reduceLT, Int32.reduceLE, Int32.reduceToNatClampNeg, Nat.reduceMod, Nat.reduceLT, List.length_cons, List.length_nil, eq_self, true_or, or_true, and_self, implies_true, not_true_eq_false, not_false_eq_true, false_implies, true_implies, forall_const, st_bipushx, st_iandx, st_iconstx, st_ireturnx, st_l2ix, st_laddx, st_landx, st_lloadx, st_lstorex, st_lsubx, st_lushrx, am_putL, am_nlg, kb_Long_bitCount_0, cx_Long_bitCount]
  obtain ⟨q0, q1, q2, q3, q4, q5, q6, q7, l0, l1, l2, l3, l4, l5, l6, l7, hs, hc⟩ := sw_cn (tnJ_lt x)
  have hle := (sw_ok (tnJ_lt x)).2
  have ec : cn (fun i => x.toBitVec.getLsbD i) 64 = q0 + q1 + q2 + q3 + q4 + q5 + q6 + q7 := hc
  rw [ec] at K
  generalize e1 : x - ((x.toUInt64 >>> ((1 : Int32).toInt64.toUInt64 &&& Int64.toUInt64 63)).toInt64 &&& Int64.ofInt 6148914691236517205) = x1
  have t1 : tnJ x1 = swA1 (tnJ x) := by
    have ea : tnJ ((x.toUInt64 >>> ((1 : Int32).toInt64.toUInt64 &&& Int64.toUInt64 63)).toInt64 &&& Int64.ofInt 6148914691236517205) = (tnJ x >>> 1) &&& 6148914691236517205 := by
      rw [tnJ_and, tnJ_shr x (k := 1) (by decide) (by decide), Nat.shiftRight_eq_div_pow]; rfl
    rw [← e1, tnJ_sub (by rw [ea]; exact hle), ea]; rfl
  generalize e2 : (x1 &&& Int64.ofInt 3689348814741910323) + ((x1.toUInt64 >>> ((2 : Int32).toInt64.toUInt64 &&& Int64.toUInt64 63)).toInt64 &&& Int64.ofInt 3689348814741910323) = x2
  have t2 : tnJ x2 = swA2 (tnJ x1) := by
    have ea : tnJ ((x1.toUInt64 >>> ((2 : Int32).toInt64.toUInt64 &&& Int64.toUInt64 63)).toInt64 &&& Int64.ofInt 3689348814741910323) = (tnJ x1 >>> 2) &&& 3689348814741910323 := by
      rw [tnJ_and, tnJ_shr x1 (k := 2) (by decide) (by decide), Nat.shiftRight_eq_div_pow]; rfl
    have eb : tnJ (x1 &&& Int64.ofInt 3689348814741910323) = tnJ x1 &&& 3689348814741910323 := by rw [tnJ_and]; rfl
    rw [← e2, tnJ_add, ea, eb]
    have b1 : tnJ x1 &&& 3689348814741910323 ≤ 3689348814741910323 := Nat.and_le_right
    have b2 : (tnJ x1 >>> 2) &&& 3689348814741910323 ≤ 3689348814741910323 := Nat.and_le_right
    rw [Nat.mod_eq_of_lt (by omega)]; rfl
  generalize e3 : (x2 + (x2.toUInt64 >>> ((4 : Int32).toInt64.toUInt64 &&& Int64.toUInt64 63)).toInt64) &&& Int64.ofInt 1085102592571150095 = x3
  have b2 : tnJ x2 ≤ 7378697629483820646 := by
    rw [t2]
    have b1 : tnJ x1 &&& 3689348814741910323 ≤ 3689348814741910323 := Nat.and_le_right
    have b2 : (tnJ x1 >>> 2) &&& 3689348814741910323 ≤ 3689348814741910323 := Nat.and_le_right
    unfold swA2
    omega
  have t3 : tnJ x3 = swA3 (tnJ x2) := by
    rw [← e3, tnJ_and, tnJ_add, tnJ_shr x2 (k := 4) (by decide) (by decide), Nat.mod_eq_of_lt (by omega)]; rfl
  have v3 : tnJ x3 = q0 + 256 * (q1 + 256 * (q2 + 256 * (q3 + 256 * (q4 + 256 * (q5 + 256 * (q6 + 256 * q7)))))) := by rw [t3, t2, t1]; exact hs
  generalize e4 : x3 + (x3.toUInt64 >>> ((8 : Int32).toInt64.toUInt64 &&& Int64.toUInt64 63)).toInt64 = x4
  have t4 : tnJ x4 = tnJ x3 + tnJ x3 / 256 := by
    rw [← e4, tnJ_add, tnJ_shr x3 (k := 8) (by decide) (by decide), Nat.mod_eq_of_lt (by omega)]
  generalize e5 : x4 + (x4.toUInt64 >>> ((16 : Int32).toInt64.toUInt64 &&& Int64.toUInt64 63)).toInt64 = x5
  have t5 : tnJ x5 = tnJ x4 + tnJ x4 / 65536 := by
    rw [← e5, tnJ_add, tnJ_shr x4 (k := 16) (by decide) (by decide), Nat.mod_eq_of_lt (by omega)]
  generalize e6 : x5 + (x5.toUInt64 >>> ((32 : Int32).toInt64.toUInt64 &&& Int64.toUInt64 63)).toInt64 = x6
  have t6 : tnJ x6 = tnJ x5 + tnJ x5 / 4294967296 := by
    rw [← e6, tnJ_add, tnJ_shr x5 (k := 32) (by decide) (by decide), Nat.mod_eq_of_lt (by omega)]
  have v6 := sw_fin l0 l1 l2 l3 l4 l5 l6 l7 v3 t4 t5 t6
  rw [tn_i32 v6]
  exact K
end CBC
