/-! ===== the class: theories ===== -/
theorem i64_zero {x : Int64} : x = 0 ↔ ∀ i, i < 64 → x.toBitVec.getLsbD i = false := by
  constructor
  · rintro rfl i hi
    simp
  · intro h
    apply Int64.toBitVec_inj.mp
    apply BitVec.eq_of_getLsbD_eq
    intro i hi
    rw [h i hi]
    simp
theorem bJ_and (x y : Nat → Int64) (r : Nat) : bJ (fun k => x k &&& y k) r = (bJ x r && bJ y r) := by
  unfold bJ; rw [Int64.toBitVec_and, BitVec.getLsbD_and]
theorem bJ_or (x y : Nat → Int64) (r : Nat) : bJ (fun k => x k ||| y k) r = (bJ x r || bJ y r) := by
  unfold bJ; rw [Int64.toBitVec_or, BitVec.getLsbD_or]
theorem bJ_not (x : Nat → Int64) (r : Nat) : bJ (fun k => x k ^^^ -1) r = !bJ x r := by
  unfold bJ; exact i64_not (Nat.mod_lt _ (by decide))
theorem bJ_xor0 (x : Nat → Int64) (r : Nat) : bJ (fun k => x k ^^^ 0) r = bJ x r := by
  unfold bJ; dsimp only; rw [Int64.xor_zero]
theorem bJ_zero (r : Nat) : bJ (fun _ => 0) r = false := by unfold bJ; simp
theorem bJ_ones (r : Nat) : bJ (fun _ => -1) r = true := by
  unfold bJ
  have e : (-1 : Int64).toBitVec = BitVec.allOnes 64 := by decide
  rw [e, BitVec.getLsbD_allOnes]
  simp [Nat.mod_lt]
theorem bJ_congr {x y : Nat → Int64} {r : Nat} (hr : r < 256) (h : ∀ k, k < 4 → x k = y k) : bJ x r = bJ y r := by
  unfold bJ; rw [h _ (by omega)]
theorem bJ_at {x y : Nat → Int64} {r : Nat} {b : Bool} (hr : r < 256) (h : ∀ k, k < 4 → x k = y k) (e : bJ y r = b) : bJ x r = b := (bJ_congr hr h).trans e
theorem bJ_all0 {x : Nat → Int64} : (∀ k, k < 4 → x k = 0) ↔ ∀ r, r < 256 → bJ x r = false := by
  constructor
  · intro h r hr
    unfold bJ
    rw [h _ (by omega)]
    simp
  · intro h k hk
    rw [i64_zero]
    intro i hi
    have := h (64 * k + i) (by omega)
    unfold bJ at this
    rw [show (64 * k + i) / 64 = k by omega, show (64 * k + i) % 64 = i by omega] at this
    exact this
def orJ (x : Nat → Int64) : Nat → Int64
  | 0 => 0
  | k + 1 => orJ x k ||| x k
theorem or_0 {a b : Int64} : a ||| b = 0 ↔ a = 0 ∧ b = 0 := by
  rw [i64_zero, i64_zero, i64_zero]
  constructor
  · intro h
    refine ⟨fun i hi => ?_, fun i hi => ?_⟩
    · have := h i hi
      rw [Int64.toBitVec_or, BitVec.getLsbD_or, Bool.or_eq_false_iff] at this
      exact this.1
    · have := h i hi
      rw [Int64.toBitVec_or, BitVec.getLsbD_or, Bool.or_eq_false_iff] at this
      exact this.2
  · rintro ⟨h1, h2⟩ i hi
    rw [Int64.toBitVec_or, BitVec.getLsbD_or, h1 i hi, h2 i hi]; rfl
theorem orJ_0 (x : Nat → Int64) : ∀ n, orJ x n = 0 ↔ ∀ k, k < n → x k = 0
  | 0 => ⟨fun _ k hk => absurd hk (Nat.not_lt_zero k), fun _ => rfl⟩
  | n + 1 => by
    show orJ x n ||| x n = 0 ↔ _
    rw [or_0, orJ_0 x n]
    constructor
    · rintro ⟨h1, h2⟩ k hk
      by_cases e : k = n
      · rw [e]; exact h2
      · exact h1 k (by omega)
    · intro h
      exact ⟨fun k hk => h k (by omega), h n (by omega)⟩
theorem lgc0 (x : Int64) : (lg_cmp x (Int64.ofInt 0) = 0) = (x = 0) := by
  show (lg_cmp x 0 = 0) = (x = 0)
  unfold lg_cmp
  refine propext ⟨fun h => ?_, fun h => ?_⟩
  · split at h
    · exact absurd h (by decide)
    · split at h
      · assumption
      · exact absurd h (by decide)
  · subst h; decide
/-- whether something is free of both -/
def mt4 (f fr g : Nat → Int64) : Bool := !decide (orJ (fun k => f k &&& fr k &&& (g k ^^^ -1)) 4 = 0)
theorem orJ_al {x : Nat → Int64} {p : Nat → Bool} (h : ∀ r, r < 256 → bJ x r = p r) : decide (orJ x 4 = 0) = al (fun r => !p r) := by
  rw [Bool.eq_iff_iff, decide_eq_true_iff, orJ_0, bJ_all0, al_iff]
  constructor
  · intro g r hr
    rw [← h r hr, g r hr]; rfl
  · intro g r hr
    have := g r hr
    rw [h r hr]
    rw [Bool.not_eq_true'] at this
    exact this
theorem mt4_al {f fr g : Nat → Int64} {a b c : Nat → Bool} (ha : ∀ r, r < 256 → bJ f r = a r) (hb : ∀ r, r < 256 → bJ fr r = !b r) (hc : ∀ r, r < 256 → bJ g r = c r) : mt4 f fr g = !al (fun r => !(a r && !b r && !c r)) := by
  unfold mt4
  rw [orJ_al (p := fun r => a r && !b r && !c r) (fun r hr => ?_)]
  rw [bJ_and (fun k => f k &&& fr k) (fun k => g k ^^^ -1), bJ_and, bJ_not, ha r hr, hb r hr, hc r hr]
def isTh (x : Nat) : Prop := (47 ≤ x ∧ x ≤ 50) ∨ (67 ≤ x ∧ x ≤ 70)
/-- a theory of the class's: what it frees, wants and places; which names are placed -/
def TT (F : Nat → Nat → Int32) (J : Nat → Nat → Int64) (th : Nat) (T : tT) (P : Nat) : Prop := (∀ r, r < 256 → bJ (J (th + 1)) r = !T.1 r) ∧ F th 2 = nI T.2.1.length ∧ T.2.1.length ≤ 13 ∧ (∀ i, i < T.2.1.length → ∀ r, r < 256 → bJ (fun k => J (th + 2) (4 * i + k)) r = T.2.1.getD i (fun _ => false) r) ∧ (∀ n, n < 4 → ∀ r, r < 256 → bJ (fun k => J (th + 3) (4 * n + k)) r = T.2.2 n r) ∧ F th 4 = nI P ∧ P < 16 ∧ ∀ n, n < 4 → P.testBit n = false → ∀ r, r < 256 → T.2.2 n r = true
/-- a set of regions somewhere -/
def SJ (hp : am_H) (a : Nat) (p : Nat → Bool) : Prop := ∃ f, hp.1 a = aJ (am_ar 4 f) ∧ ∀ r, r < 256 → bJ f r = p r
/-- a claim of the class's -/
def CL (hp : am_H) (s : Nat) (C : cT) : Prop := ∃ (be m sk pk : Int32) (a b c : Nat), hp.1 s = aO 6 [.int (nI C.1), .int be, .int (b2i C.2.1), .int m, .int sk, .int pk, .ref a, .ref b, .ref c] ∧ C.1 ≤ 2 ∧ (C.1 = 2 → be = nI C.2.2.1 ∧ C.2.2.1 < 4) ∧ SJ hp a C.2.2.2.1 ∧ (∃ f, hp.1 b = aJ (am_ar 4 f) ∧ (C.2.1 = true → ∀ r, r < 256 → bJ f r = C.2.2.2.2 r)) ∧ ¬ isTh s ∧ ¬ isTh a ∧ ¬ isTh b ∧ 23 ≤ a ∧ 23 ≤ b
/-- the theories' cells alone may differ -/
def Eth (hp hp' : am_H) : Prop := ∀ x, ¬ isTh x → hp'.1 x = hp.1 x
theorem CL.eth {hp hp' : am_H} {s : Nat} {C : cT} (h : CL hp s C) (e : Eth hp hp') : CL hp' s C := by
  obtain ⟨be, m, sk, pk, a, b, c, h1, h2, h3, ⟨f, h4, h5⟩, ⟨g, h6, h7⟩, h8, h9, h10, h11, h12⟩ := h
  exact ⟨be, m, sk, pk, a, b, c, by rw [e s h8]; exact h1, h2, h3, ⟨f, by rw [e a h9]; exact h4, h5⟩, ⟨g, by rw [e b h10]; exact h6, h7⟩, h8, h9, h10, h11, h12⟩
theorem gf6 {v0 v1 v2 v3 v4 v5 v6 v7 v8 : Value} {K : Value → Prop} : am_gf 6 0 K (aO 6 [v0, v1, v2, v3, v4, v5, v6, v7, v8]) = K v0 ∧ am_gf 6 1 K (aO 6 [v0, v1, v2, v3, v4, v5, v6, v7, v8]) = K v1 ∧ am_gf 6 2 K (aO 6 [v0, v1, v2, v3, v4, v5, v6, v7, v8]) = K v2 ∧ am_gf 6 3 K (aO 6 [v0, v1, v2, v3, v4, v5, v6, v7, v8]) = K v3 ∧ am_gf 6 4 K (aO 6 [v0, v1, v2, v3, v4, v5, v6, v7, v8]) = K v4 ∧ am_gf 6 5 K (aO 6 [v0, v1, v2, v3, v4, v5, v6, v7, v8]) = K v5 ∧ am_gf 6 6 K (aO 6 [v0, v1, v2, v3, v4, v5, v6, v7, v8]) = K v6 ∧ am_gf 6 7 K (aO 6 [v0, v1, v2, v3, v4, v5, v6, v7, v8]) = K v7 ∧ am_gf 6 8 K (aO 6 [v0, v1, v2, v3, v4, v5, v6, v7, v8]) = K v8 ∧ am_isO 6 (aO 6 [v0, v1, v2, v3, v4, v5, v6, v7, v8]) = True := ⟨oq_t rfl, oq_t rfl, oq_t rfl, oq_t rfl, oq_t rfl, oq_t rfl, oq_t rfl, oq_t rfl, oq_t rfl, propext ⟨fun _ => trivial, fun _ => rfl⟩⟩
section CTH
variable {d th : Nat} {h : am_H} {F : Nat → Nat → Int32} {J : Nat → Nat → Int64} {V : Nat → Nat → Value} {Q : am_Q}
set_option maxRecDepth 20000 in
theorem c_meets (hth : th = 47 ∨ th = 67) {a at_ m : Nat} {f : Nat → Int64} (ha : (ov h F J V).1 a = aJ (am_ar m f)) (hat : at_ + 4 ≤ m) (hm : m ≤ 1000) {b : Nat} {g : Nat → Int64} (hb : (ov h F J V).1 b = aJ (am_ar 4 g)) (K : Q (some (.int (b2i (mt4 (fun k => f (at_ + k)) (J (th + 1)) g)))) (ov h F J V)) : am_cl (d + 1) 147 [.ref th, .ref a, .int (nI at_), .ref b] (ov h F J V) Q := by
  unfold mt4 at K
  rcases hth with e | e <;> subst e <;> simp only [Nat.reduceAdd] at K
  · simp only [ax0, ex_cons, am_get, upz_at, true_and, and_true, Nat.reduceAdd, Nat.reduceLeDiff, Nat.reduceEqDiff, Nat.reduceSub, Int32.reduceOfInt, Int32.reduceAdd, Int32.reduceMul, Int32.reduceSub, ↓reduceIte, Int32.reduceLT, Int32.reduceLE, Int32.reduceToNatClampNeg, Nat.reduceMod, Nat.reduceLT, List.length_cons, List.length_nil, eq_self, true_or, or_true, and_self, implies_true, not_true_eq_false, not_false_eq_true, false_implies, true_implies, forall_const, st_bipushx, st_freturnx, st_gotox, st_goto_wx, st_iconstx, st_ifCondx, st_istorex, st_lcmpx, st_lloadx, st_lstorex, am_put, am_nlg, am_putL, am_nlg, cx_Theory_meets, kb_Theory_meets_0, jx_Theory_meets_46, kb_Theory_meets_46, jx_Theory_meets_57, kb_Theory_meets_57, jx_Theory_meets_58, kb_Theory_meets_58]
    refine am_iter 4 (fun k => [.ref 47, .ref a, .int (nI at_), .ref b, .long (orJ (fun k => f (at_ + k) &&& J 48 k &&& (g k ^^^ -1)) k), am_dum, .int (nI k)]) (fun _ => ov h F J V) (fun _ => True) (fun k hk hI go => ?_) (fun hI => ?_) 0 (by decide) trivial
    · rw [jx_Theory_meets_6]
      simp only [ax0, ex_cons, am_get, upz_at, true_and, and_true, Nat.reduceAdd, Nat.reduceLeDiff, Nat.reduceEqDiff, Nat.reduceSub, Int32.reduceOfInt, Int32.reduceAdd, Int32.reduceMul, Int32.reduceSub, ↓reduceIte, Int32.reduceLT, Int32.reduceLE, Int32.reduceToNatClampNeg, Nat.reduceMod, Nat.reduceLT, List.length_cons, List.length_nil, eq_self, true_or, or_true, and_self, implies_true, not_true_eq_false, not_false_eq_true, false_implies, true_implies, forall_const, st_aloadx, st_bipushx, st_getfieldx, st_gotox, st_iaddx, st_iconstx, st_if_icmpx, st_iincx, st_iloadx, st_laloadx, st_landx, st_lloadx, st_lorx, st_lstorex, st_lxorx, am_put, am_nlg, am_putL, am_nlg, kb_Theory_meets_6, og_47_0, og_67_0, oa_47, oa_67, oa_48, or_48, oa_68, or_68, show ((4 : Int32) ≤ nI (k)) = (4 ≤ k) from nk_le (a := 4) (b := k) (by omega) (by omega), show ¬ 4 ≤ k by omega, show nI at_ + nI k = nI (at_ + k) from nk_add _ _, ha, hb, oq_rJ, nk_neg (show at_ + k < 2147483648 by omega), nk_cl (show at_ + k < 2147483648 by omega), nk_neg (show k < 2147483648 by omega), nk_cl (show k < 2147483648 by omega), show at_ + k < m by omega, hk, nk_succ]
      exact go trivial
    · rw [jx_Theory_meets_6]
      simp only [ax0, ex_cons, am_get, upz_at, true_and, and_true, Nat.reduceAdd, Nat.reduceLeDiff, Nat.reduceEqDiff, Nat.reduceSub, Int32.reduceOfInt, Int32.reduceAdd, Int32.reduceMul, Int32.reduceSub, ↓reduceIte, Int32.reduceLT, Int32.reduceLE, Int32.reduceToNatClampNeg, Nat.reduceMod, Nat.reduceLT, List.length_cons, List.length_nil, eq_self, true_or, or_true, and_self, implies_true, not_true_eq_false, not_false_eq_true, false_implies, true_implies, forall_const, st_aloadx, st_bipushx, st_freturnx, st_getfieldx, st_gotox, st_goto_wx, st_iaddx, st_iconstx, st_ifCondx, st_if_icmpx, st_iincx, st_iloadx, st_laloadx, st_landx, st_lcmpx, st_lloadx, st_lorx, st_lstorex, st_lxorx, am_put, am_nlg, am_putL, am_nlg, kb_Theory_meets_6, og_47_0, og_67_0, jx_Theory_meets_46, kb_Theory_meets_46, jx_Theory_meets_57, kb_Theory_meets_57, jx_Theory_meets_58, kb_Theory_meets_58, oa_47, oa_67, oa_48, or_48, oa_68, or_68, show ((4 : Int32) ≤ nI (4)) = (4 ≤ 4) from nk_le (a := 4) (b := 4) (by omega) (by omega), lgc0]
      refine And.intro (fun q => ?_) (fun q => ?_)
      · rw [decide_eq_true q] at K; exact K
      · rw [decide_eq_false q] at K; exact K
  · simp only [ax0, ex_cons, am_get, upz_at, true_and, and_true, Nat.reduceAdd, Nat.reduceLeDiff, Nat.reduceEqDiff, Nat.reduceSub, Int32.reduceOfInt, Int32.reduceAdd, Int32.reduceMul, Int32.reduceSub, ↓reduceIte, Int32.reduceLT, Int32.reduceLE, Int32.reduceToNatClampNeg, Nat.reduceMod, Nat.reduceLT, List.length_cons, List.length_nil, eq_self, true_or, or_true, and_self, implies_true, not_true_eq_false, not_false_eq_true, false_implies, true_implies, forall_const, st_bipushx, st_freturnx, st_gotox, st_goto_wx, st_iconstx, st_ifCondx, st_istorex, st_lcmpx, st_lloadx, st_lstorex, am_put, am_nlg, am_putL, am_nlg, cx_Theory_meets, kb_Theory_meets_0, jx_Theory_meets_46, kb_Theory_meets_46, jx_Theory_meets_57, kb_Theory_meets_57, jx_Theory_meets_58, kb_Theory_meets_58]
    refine am_iter 4 (fun k => [.ref 67, .ref a, .int (nI at_), .ref b, .long (orJ (fun k => f (at_ + k) &&& J 68 k &&& (g k ^^^ -1)) k), am_dum, .int (nI k)]) (fun _ => ov h F J V) (fun _ => True) (fun k hk hI go => ?_) (fun hI => ?_) 0 (by decide) trivial
    · rw [jx_Theory_meets_6]
      simp only [ax0, ex_cons, am_get, upz_at, true_and, and_true, Nat.reduceAdd, Nat.reduceLeDiff, Nat.reduceEqDiff, Nat.reduceSub, Int32.reduceOfInt, Int32.reduceAdd, Int32.reduceMul, Int32.reduceSub, ↓reduceIte, Int32.reduceLT, Int32.reduceLE, Int32.reduceToNatClampNeg, Nat.reduceMod, Nat.reduceLT, List.length_cons, List.length_nil, eq_self, true_or, or_true, and_self, implies_true, not_true_eq_false, not_false_eq_true, false_implies, true_implies, forall_const, st_aloadx, st_bipushx, st_getfieldx, st_gotox, st_iaddx, st_iconstx, st_if_icmpx, st_iincx, st_iloadx, st_laloadx, st_landx, st_lloadx, st_lorx, st_lstorex, st_lxorx, am_put, am_nlg, am_putL, am_nlg, kb_Theory_meets_6, og_47_0, og_67_0, oa_47, oa_67, oa_48, or_48, oa_68, or_68, show ((4 : Int32) ≤ nI (k)) = (4 ≤ k) from nk_le (a := 4) (b := k) (by omega) (by omega), show ¬ 4 ≤ k by omega, show nI at_ + nI k = nI (at_ + k) from nk_add _ _, ha, hb, oq_rJ, nk_neg (show at_ + k < 2147483648 by omega), nk_cl (show at_ + k < 2147483648 by omega), nk_neg (show k < 2147483648 by omega), nk_cl (show k < 2147483648 by omega), show at_ + k < m by omega, hk, nk_succ]
      exact go trivial
    · rw [jx_Theory_meets_6]
      simp only [ax0, ex_cons, am_get, upz_at, true_and, and_true, Nat.reduceAdd, Nat.reduceLeDiff, Nat.reduceEqDiff, Nat.reduceSub, Int32.reduceOfInt, Int32.reduceAdd, Int32.reduceMul, Int32.reduceSub, ↓reduceIte, Int32.reduceLT, Int32.reduceLE, Int32.reduceToNatClampNeg, Nat.reduceMod, Nat.reduceLT, List.length_cons, List.length_nil, eq_self, true_or, or_true, and_self, implies_true, not_true_eq_false, not_false_eq_true, false_implies, true_implies, forall_const, st_aloadx, st_bipushx, st_freturnx, st_getfieldx, st_gotox, st_goto_wx, st_iaddx, st_iconstx, st_ifCondx, st_if_icmpx, st_iincx, st_iloadx, st_laloadx, st_landx, st_lcmpx, st_lloadx, st_lorx, st_lstorex, st_lxorx, am_put, am_nlg, am_putL, am_nlg, kb_Theory_meets_6, og_47_0, og_67_0, jx_Theory_meets_46, kb_Theory_meets_46, jx_Theory_meets_57, kb_Theory_meets_57, jx_Theory_meets_58, kb_Theory_meets_58, oa_47, oa_67, oa_48, or_48, oa_68, or_68, show ((4 : Int32) ≤ nI (4)) = (4 ≤ 4) from nk_le (a := 4) (b := 4) (by omega) (by omega), lgc0]
      refine And.intro (fun q => ?_) (fun q => ?_)
      · rw [decide_eq_true q] at K; exact K
      · rw [decide_eq_false q] at K; exact K
end CTH
