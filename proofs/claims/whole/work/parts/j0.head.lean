/-! ===== the law's loop, whole ===== -/
theorem ar3 {a k : Nat} (h : a ≤ 108 + 4 * k) (hk : k ≤ 64) : a ≤ 600023 := by
  have : a ≤ 364 := by omega
  exact Nat.le_trans this (by decide)
theorem ar4 {a k : Nat} (h : a ≤ 6000000 + 16384 * k) (hk : k ≤ 64) : a ≤ 7302250 := Nat.le_trans h (Nat.le_trans (Nat.add_le_add_left (Nat.mul_le_mul_left 16384 hk) 6000000) (by decide))
section LWH
variable {ys : List Int32}
set_option maxRecDepth 20000 in
theorem lw_head (hl : ys.length ≤ 384) : ∀ (n k : Nat), n + k = 65 → 6 * k ≤ ys.length → ∀ (h : am_H) (F : Nat → Nat → Int32) (J : Nat → Nat → Int64) (V : Nat → Nat → Value), LwS ys k h F V → LwH k h F J V 18
  | 0, k, hn, hk, h, F, J, V, S => by omega
  | n + 1, k, hn, hk0, h, F, J, V, S => by
    have l0 := S.1
    have b1 := S.2.1
    have b2 := S.2.2.1
    have h0 : (ov h F J V).1 0 = aI 2 ys := by rw [ov_hi (by decide)]; exact l0
    show am_W kc_MoodSlipsLaw_law (am_cl 1000) LwQ 18 [.ref 0, .ref 23, .ref 82, .int (nI (6 * k))] [] (ov h F J V)
    rw [jx_MoodSlipsLaw_law_18]
    by_cases z : ys.length < 6 * k + 6
    · simp only [isO_c, ax0, ex_cons, am_get, upz_at, true_and, and_true, Nat.reduceAdd, Nat.reduceLeDiff, Nat.reduceEqDiff, Nat.reduceSub, Int32.reduceOfInt, Int32.reduceAdd, Int32.reduceMul, Int32.reduceSub, ↓reduceIte, Int32.reduceLT, Int32.reduceLE, Int32.reduceToNatClampNeg, Nat.reduceMod, Nat.reduceLT, List.length_cons, List.length_nil, eq_self, true_or, or_true, and_self, implies_true, not_true_eq_false, not_false_eq_true, false_implies, true_implies, forall_const, st_aloadx, st_arraylengthx, st_freturnx, st_ialoadx, st_iandx, st_iconstx, st_if_icmpx, st_iloadx, st_isubx, st_lookupswitchx, kb_MoodSlipsLaw_law_18, jx_MoodSlipsLaw_law_1354, kb_MoodSlipsLaw_law_1354, h0, lnY hl, lt6 hl (show 6 * k ≤ 400 by omega), z]
      exact ⟨rfl, ar3 b1 (by omega), ar4 b2 (by omega)⟩
    · have hk : 6 * k + 6 ≤ ys.length := by omega
      have N : ∀ h F J V, LwS ys (k + 1) h F V → LwH (k + 1) h F J V 18 := fun h F J V s => lw_head hl n (k + 1) (by omega) (by omega) h F J V s
      have dflt : LwH k h F J V 1348 := lw_nx (N h F J V ⟨l0, ar1 (Nat.le_add_right _ _) b1, ar2 (Nat.le_add_right _ _) b2, S.2.2.2⟩)
      simp only [isO_c, ax0, ex_cons, am_get, upz_at, true_and, and_true, Nat.reduceAdd, Nat.reduceLeDiff, Nat.reduceEqDiff, Nat.reduceSub, Int32.reduceOfInt, Int32.reduceAdd, Int32.reduceMul, Int32.reduceSub, ↓reduceIte, Int32.reduceLT, Int32.reduceLE, Int32.reduceToNatClampNeg, Nat.reduceMod, Nat.reduceLT, List.length_cons, List.length_nil, eq_self, true_or, or_true, and_self, implies_true, not_true_eq_false, not_false_eq_true, false_implies, true_implies, forall_const, st_aloadx, st_arraylengthx, st_ialoadx, st_iandx, st_iconstx, st_if_icmpx, st_iloadx, st_isubx, st_lookupswitchx, kb_MoodSlipsLaw_law_18, h0, lnY hl, lt6 hl (show 6 * k ≤ 400 by omega), z, rdY (m := 6 * k) (show 6 * k < ys.length by omega) hl, am_sw]
      exact ⟨fun _ => lw_208 hl hk S N, fun _ => ⟨fun _ => lw_271 hl hk S N, fun _ => ⟨fun _ => lw_294 hl hk S N, fun _ => ⟨fun _ => lw_307 hl hk S N, fun _ => ⟨fun _ => lw_320 hl hk S N, fun _ => ⟨fun _ => lw_333 hl hk S N, fun _ => ⟨fun _ => lw_356 hl hk S N, fun _ => ⟨fun _ => lw_379 hl hk S N, fun _ => ⟨fun _ => lw_402 hl hk S N, fun _ => ⟨fun _ => lw_435 hl hk S N, fun _ => ⟨fun _ => lw_468 hl hk S N, fun _ => ⟨fun _ => lw_501 hl hk S N, fun _ => ⟨fun _ => lw_524 hl hk S N, fun _ => ⟨fun _ => lw_547 hl hk S N, fun _ => ⟨fun _ => lw_570 hl hk S N, fun _ => ⟨fun _ => lw_593 hl hk S N, fun _ => ⟨fun _ => lw_616 hl hk S N, fun _ => ⟨fun _ => lw_639 hl hk S N, fun _ => ⟨fun _ => lw_662 hl hk S N, fun _ => ⟨fun _ => lw_685 hl hk S N, fun _ => ⟨fun _ => lw_708 hl hk S N, fun _ => ⟨fun _ => lw_751 hl hk S N, fun _ => ⟨fun _ => lw_784 hl hk S N, fun _ => ⟨fun _ => lw_837 hl hk S N, fun _ => ⟨fun _ => lw_870 hl hk S N, fun _ => ⟨fun _ => lw_903 hl hk S N, fun _ => ⟨fun _ => lw_946 hl hk S N, fun _ => ⟨fun _ => lw_989 hl hk S N, fun _ => ⟨fun _ => lw_1032 hl hk S N, fun _ => ⟨fun _ => lw_1075 hl hk S N, fun _ => ⟨fun _ => lw_1128 hl hk S N, fun _ => ⟨fun _ => lw_1151 hl hk S N, fun _ => ⟨fun _ => lw_1164 hl hk S N, fun _ => ⟨fun _ => lw_1177 hl hk S N, fun _ => ⟨fun _ => lw_1200 hl hk S N, fun _ => ⟨fun _ => lw_1233 hl hk S N, fun _ => ⟨fun _ => lw_1266 hl hk S N, fun _ => ⟨fun _ => lw_1289 hl hk S N, fun _ => ⟨fun _ => lw_1312 hl hk S N, fun _ => ⟨fun _ => lw_1335 hl hk S N, fun _ => dflt⟩⟩⟩⟩⟩⟩⟩⟩⟩⟩⟩⟩⟩⟩⟩⟩⟩⟩⟩⟩⟩⟩⟩⟩⟩⟩⟩⟩⟩⟩⟩⟩⟩⟩⟩⟩⟩⟩⟩⟩
end LWH
