/-! ===== regions as bits of words ===== -/
def bI (f : Nat → Int32) (r : Nat) : Bool := (f (r / 32)).toBitVec.getLsbD (r % 32)
def bJ (f : Nat → Int64) (r : Nat) : Bool := (f (r / 64)).toBitVec.getLsbD (r % 64)
def al (p : Nat → Bool) : Bool := (List.range 256).all p
theorem al_iff {p : Nat → Bool} : al p = true ↔ ∀ r, r < 256 → p r = true := rg_all
theorem al_congr {p q : Nat → Bool} (h : ∀ r, r < 256 → p r = q r) : al p = al q := by
  rw [Bool.eq_iff_iff, al_iff, al_iff]
  exact ⟨fun g r hr => by rw [← h r hr]; exact g r hr, fun g r hr => by rw [h r hr]; exact g r hr⟩
theorem i32_zero {x : Int32} : x = 0 ↔ ∀ i, i < 32 → x.toBitVec.getLsbD i = false := by
  constructor
  · rintro rfl i hi
    simp
  · intro h
    apply Int32.toBitVec_inj.mp
    apply BitVec.eq_of_getLsbD_eq
    intro i hi
    rw [h i hi]
    simp
theorem i32_not {x : Int32} {i : Nat} (h : i < 32) : (x ^^^ -1).toBitVec.getLsbD i = !x.toBitVec.getLsbD i := by
  have e : (-1 : Int32).toBitVec = BitVec.allOnes 32 := by decide
  rw [Int32.toBitVec_xor, BitVec.getLsbD_xor, e, BitVec.getLsbD_allOnes]
  simp [h]
theorem i64_not {x : Int64} {i : Nat} (h : i < 64) : (x ^^^ -1).toBitVec.getLsbD i = !x.toBitVec.getLsbD i := by
  have e : (-1 : Int64).toBitVec = BitVec.allOnes 64 := by decide
  rw [Int64.toBitVec_xor, BitVec.getLsbD_xor, e, BitVec.getLsbD_allOnes]
  simp [h]
theorem bI_and (x y : Nat → Int32) (r : Nat) : bI (fun k => x k &&& y k) r = (bI x r && bI y r) := by
  unfold bI; rw [Int32.toBitVec_and, BitVec.getLsbD_and]
theorem bI_or (x y : Nat → Int32) (r : Nat) : bI (fun k => x k ||| y k) r = (bI x r || bI y r) := by
  unfold bI; rw [Int32.toBitVec_or, BitVec.getLsbD_or]
theorem bI_not (x : Nat → Int32) (r : Nat) : bI (fun k => x k ^^^ -1) r = !bI x r := by
  unfold bI; exact i32_not (Nat.mod_lt _ (by decide))
theorem bI_zero (r : Nat) : bI (fun _ => 0) r = false := by unfold bI; simp
theorem bI_ones (r : Nat) : bI (fun _ => -1) r = true := by
  unfold bI
  have e : (-1 : Int32).toBitVec = BitVec.allOnes 32 := by decide
  rw [e, BitVec.getLsbD_allOnes]
  simp [Nat.mod_lt]
theorem bI_congr {x y : Nat → Int32} {r : Nat} (hr : r < 256) (h : ∀ k, k < 8 → x k = y k) : bI x r = bI y r := by
  unfold bI; rw [h _ (by omega)]
theorem bI_all0 {x : Nat → Int32} : (∀ k, k < 8 → x k = 0) ↔ ∀ r, r < 256 → bI x r = false := by
  constructor
  · intro h r hr
    unfold bI
    rw [h _ (by omega)]
    simp
  · intro h k hk
    rw [i32_zero]
    intro i hi
    have := h (32 * k + i) (by omega)
    unfold bI at this
    rw [show (32 * k + i) / 32 = k by omega, show (32 * k + i) % 32 = i by omega] at this
    exact this
/-! ===== the model: what is told, quarrels ===== -/
def sh8 (row bar bes : Nat → Int32) : Bool := (List.range 8).all (fun k => decide (row k &&& (bar k ^^^ -1) &&& (bes k ^^^ -1) = 0))
theorem sh8_al (row bar bes : Nat → Int32) : sh8 row bar bes = al (fun r => !(bI row r && !bI bar r && !bI bes r)) := by
  rw [Bool.eq_iff_iff]
  unfold sh8
  rw [rg_all, al_iff]
  have h1 : (∀ i, i < 8 → decide (row i &&& (bar i ^^^ -1) &&& (bes i ^^^ -1) = 0) = true) ↔ ∀ i, i < 8 → (fun k => row k &&& (bar k ^^^ -1) &&& (bes k ^^^ -1)) i = 0 := by
    simp only [decide_eq_true_eq]
  rw [h1, bI_all0]
  have h2 : ∀ r, bI (fun k => row k &&& (bar k ^^^ -1) &&& (bes k ^^^ -1)) r = (bI row r && !bI bar r && !bI bes r) := fun r => by
    rw [bI_and (fun k => row k &&& (bar k ^^^ -1)) (fun k => bes k ^^^ -1), bI_and row (fun k => bar k ^^^ -1), bI_not, bI_not]
  constructor
  · intro h r hr
    rw [← h2, h r hr]; rfl
  · intro h r hr
    have := h r hr
    rw [h2]
    revert this
    cases bI row r <;> cases bI bar r <;> cases bI bes r <;> simp
/-- part of a row written anew -/
def ovr {α : Type} (f g : Nat → α) (lo n : Nat) : Nat → α := fun i => if lo ≤ i ∧ i < lo + n then g i else f i
theorem ovr_0 {α : Type} (f g : Nat → α) (lo : Nat) : ovr f g lo 0 = f := by
  funext i; unfold ovr; rw [if_neg (by omega)]
theorem ovr_in {α : Type} {f g : Nat → α} {lo n i : Nat} (h1 : lo ≤ i) (h2 : i < lo + n) : ovr f g lo n i = g i := if_pos ⟨h1, h2⟩
theorem ovr_out {α : Type} {f g : Nat → α} {lo n i : Nat} (h : ¬ (lo ≤ i ∧ i < lo + n)) : ovr f g lo n i = f i := if_neg h
theorem ovr_S {α : Type} (f g : Nat → α) (lo n : Nat) {x : α} (hx : g (lo + n) = x) : upz (ovr f g lo n) (lo + n) x = ovr f g lo (n + 1) := by
  funext i
  unfold ovr upz
  by_cases h : i = lo + n
  · subst h; rw [if_pos rfl, if_pos (by omega), hx]
  · rw [if_neg h]
    show (if lo ≤ i ∧ i < lo + n then g i else f i) = _
    by_cases h2 : lo ≤ i ∧ i < lo + n
    · rw [if_pos h2, if_pos (by omega)]
    · rw [if_neg h2, if_neg (by omega)]
theorem upz_ovr0 (F : Nat → Nat → Int32) (a : Nat) (g : Nat → Int32) (lo : Nat) : upz F a (ovr (F a) g lo 0) = F := by rw [ovr_0, upz_self]
section MT
variable {d : Nat} {h : am_H} {F : Nat → Nat → Int32} {J : Nat → Nat → Int64} {V : Nat → Nat → Value} {Q : am_Q}
set_option maxRecDepth 20000 in
theorem m_isShut98 {a : Nat} (ha : a + 8 ≤ 320) (K : Q (some (.int (b2i (sh8 (fun k => F 98 (a + k)) (F 97) (F 100))))) (ov h F J V)) : am_cl (d + 1) 233 [.ref 82, .ref 98, .int (nI a)] (ov h F J V) Q := by
  simp only [ax0, ex_cons, am_get, upz_at, true_and, and_true, Nat.reduceAdd, Nat.reduceLeDiff, Nat.reduceEqDiff, Nat.reduceSub, Int32.reduceOfInt, ↓reduceIte, Int32.reduceLT, Int32.reduceLE, Int32.reduceToNatClampNeg, Nat.reduceMod, Nat.reduceLT, List.length_cons, List.length_nil, eq_self, true_or, or_true, and_self, implies_true, not_true_eq_false, not_false_eq_true, false_implies, true_implies, forall_const, st_freturn, st_goto, st_goto_w, st_iconst, st_iinc, st_istore, am_put, am_nlg, cx_Model_isShut, kb_Model_isShut_0, jx_Model_isShut_36, kb_Model_isShut_36, jx_Model_isShut_42, kb_Model_isShut_42]
  refine am_iter 8 (fun k => [.ref 82, .ref 98, .int (nI a), .int (nI k)]) (fun _ => ov h F J V) (fun k => ∀ i, i < k → F 98 (a + i) &&& (F 97 i ^^^ -1) &&& (F 100 i ^^^ -1) = 0) (fun k hk hI go => ?_) (fun hI => ?_) 0 (by decide) (fun i hi => by omega)
  · rw [jx_Model_isShut_2]
    simp only [ax0, ex_cons, am_get, upz_at, true_and, and_true, Nat.reduceAdd, Nat.reduceLeDiff, Nat.reduceEqDiff, Nat.reduceSub, Int32.reduceOfInt, ↓reduceIte, Int32.reduceLT, Int32.reduceLE, Int32.reduceToNatClampNeg, Nat.reduceMod, Nat.reduceLT, List.length_cons, List.length_nil, eq_self, true_or, or_true, and_self, implies_true, not_true_eq_false, not_false_eq_true, false_implies, true_implies, forall_const, st_aload, st_freturn, st_getfield, st_goto, st_iadd, st_iaload, st_iand, st_iconst, st_ifCond, st_if_icmp, st_iinc, st_iload, st_ixor, am_put, am_nlg, kb_Model_isShut_2, og_82_28, og_82_32, jx_Model_isShut_36, kb_Model_isShut_36, jx_Model_isShut_42, kb_Model_isShut_42, oa_82, oa_97, or_97, oa_100, or_100, oa_98, or_98, nk_add, nk_succ, nk_neg (show a + k < 2147483648 by omega), nk_cl (show a + k < 2147483648 by omega), nk_neg (show k < 2147483648 by omega), nk_cl (show k < 2147483648 by omega), show ((8 : Int32) ≤ nI (k)) = (8 ≤ k) from nk_le (a := 8) (b := k) (by omega) (by omega), show ¬ 8 ≤ k by omega, hk, show a + k < 320 by omega]
    refine ⟨fun hc => go (fun i hi => ?_), fun hc => ?_⟩
    · by_cases e : i = k
      · subst e; exact hc
      · exact hI i (by omega)
    · have e : sh8 (fun k => F 98 (a + k)) (F 97) (F 100) = false := by
        rw [Bool.eq_false_iff]
        intro q
        have := rg_all.mp q k hk
        simp only [decide_eq_true_eq] at this
        exact hc this
      rw [e] at K
      exact K
  · rw [jx_Model_isShut_2]
    simp only [ax0, ex_cons, am_get, upz_at, true_and, and_true, Nat.reduceAdd, Nat.reduceLeDiff, Nat.reduceEqDiff, Nat.reduceSub, Int32.reduceOfInt, ↓reduceIte, Int32.reduceLT, Int32.reduceLE, Int32.reduceToNatClampNeg, Nat.reduceMod, Nat.reduceLT, List.length_cons, List.length_nil, eq_self, true_or, or_true, and_self, implies_true, not_true_eq_false, not_false_eq_true, false_implies, true_implies, forall_const, st_aload, st_freturn, st_getfield, st_goto, st_iadd, st_iaload, st_iand, st_iconst, st_ifCond, st_if_icmp, st_iinc, st_iload, st_ixor, am_put, am_nlg, kb_Model_isShut_2, og_82_28, og_82_32, jx_Model_isShut_36, kb_Model_isShut_36, jx_Model_isShut_42, kb_Model_isShut_42, oa_82, oa_97, or_97, oa_100, or_100, show ((8 : Int32) ≤ nI (8)) = (8 ≤ 8) from nk_le (a := 8) (b := 8) (by omega) (by omega)]
    have e : sh8 (fun k => F 98 (a + k)) (F 97) (F 100) = true := rg_all.mpr (fun i hi => by simp only [decide_eq_true_eq]; exact hI i hi)
    rw [e] at K
    exact K
set_option maxRecDepth 20000 in
theorem m_isShut99 {a : Nat} (ha : a + 8 ≤ 32) (K : Q (some (.int (b2i (sh8 (fun k => F 99 (a + k)) (F 97) (F 100))))) (ov h F J V)) : am_cl (d + 1) 233 [.ref 82, .ref 99, .int (nI a)] (ov h F J V) Q := by
  simp only [ax0, ex_cons, am_get, upz_at, true_and, and_true, Nat.reduceAdd, Nat.reduceLeDiff, Nat.reduceEqDiff, Nat.reduceSub, Int32.reduceOfInt, ↓reduceIte, Int32.reduceLT, Int32.reduceLE, Int32.reduceToNatClampNeg, Nat.reduceMod, Nat.reduceLT, List.length_cons, List.length_nil, eq_self, true_or, or_true, and_self, implies_true, not_true_eq_false, not_false_eq_true, false_implies, true_implies, forall_const, st_freturn, st_goto, st_goto_w, st_iconst, st_iinc, st_istore, am_put, am_nlg, cx_Model_isShut, kb_Model_isShut_0, jx_Model_isShut_36, kb_Model_isShut_36, jx_Model_isShut_42, kb_Model_isShut_42]
  refine am_iter 8 (fun k => [.ref 82, .ref 99, .int (nI a), .int (nI k)]) (fun _ => ov h F J V) (fun k => ∀ i, i < k → F 99 (a + i) &&& (F 97 i ^^^ -1) &&& (F 100 i ^^^ -1) = 0) (fun k hk hI go => ?_) (fun hI => ?_) 0 (by decide) (fun i hi => by omega)
  · rw [jx_Model_isShut_2]
    simp only [ax0, ex_cons, am_get, upz_at, true_and, and_true, Nat.reduceAdd, Nat.reduceLeDiff, Nat.reduceEqDiff, Nat.reduceSub, Int32.reduceOfInt, ↓reduceIte, Int32.reduceLT, Int32.reduceLE, Int32.reduceToNatClampNeg, Nat.reduceMod, Nat.reduceLT, List.length_cons, List.length_nil, eq_self, true_or, or_true, and_self, implies_true, not_true_eq_false, not_false_eq_true, false_implies, true_implies, forall_const, st_aload, st_freturn, st_getfield, st_goto, st_iadd, st_iaload, st_iand, st_iconst, st_ifCond, st_if_icmp, st_iinc, st_iload, st_ixor, am_put, am_nlg, kb_Model_isShut_2, og_82_28, og_82_32, jx_Model_isShut_36, kb_Model_isShut_36, jx_Model_isShut_42, kb_Model_isShut_42, oa_82, oa_97, or_97, oa_100, or_100, oa_99, or_99, nk_add, nk_succ, nk_neg (show a + k < 2147483648 by omega), nk_cl (show a + k < 2147483648 by omega), nk_neg (show k < 2147483648 by omega), nk_cl (show k < 2147483648 by omega), show ((8 : Int32) ≤ nI (k)) = (8 ≤ k) from nk_le (a := 8) (b := k) (by omega) (by omega), show ¬ 8 ≤ k by omega, hk, show a + k < 32 by omega]
    refine ⟨fun hc => go (fun i hi => ?_), fun hc => ?_⟩
    · by_cases e : i = k
      · subst e; exact hc
      · exact hI i (by omega)
    · have e : sh8 (fun k => F 99 (a + k)) (F 97) (F 100) = false := by
        rw [Bool.eq_false_iff]
        intro q
        have := rg_all.mp q k hk
        simp only [decide_eq_true_eq] at this
        exact hc this
      rw [e] at K
      exact K
  · rw [jx_Model_isShut_2]
    simp only [ax0, ex_cons, am_get, upz_at, true_and, and_true, Nat.reduceAdd, Nat.reduceLeDiff, Nat.reduceEqDiff, Nat.reduceSub, Int32.reduceOfInt, ↓reduceIte, Int32.reduceLT, Int32.reduceLE, Int32.reduceToNatClampNeg, Nat.reduceMod, Nat.reduceLT, List.length_cons, List.length_nil, eq_self, true_or, or_true, and_self, implies_true, not_true_eq_false, not_false_eq_true, false_implies, true_implies, forall_const, st_aload, st_freturn, st_getfield, st_goto, st_iadd, st_iaload, st_iand, st_iconst, st_ifCond, st_if_icmp, st_iinc, st_iload, st_ixor, am_put, am_nlg, kb_Model_isShut_2, og_82_28, og_82_32, jx_Model_isShut_36, kb_Model_isShut_36, jx_Model_isShut_42, kb_Model_isShut_42, oa_82, oa_97, or_97, oa_100, or_100, show ((8 : Int32) ≤ nI (8)) = (8 ≤ 8) from nk_le (a := 8) (b := 8) (by omega) (by omega)]
    have e : sh8 (fun k => F 99 (a + k)) (F 97) (F 100) = true := rg_all.mpr (fun i hi => by simp only [decide_eq_true_eq]; exact hI i hi)
    rw [e] at K
    exact K
/-- quarrelsNow, by words -/
def wq (n : Nat) (F : Nat → Nat → Int32) : Bool := (List.range n).any (fun k => sh8 (fun i => F 98 (8 * k + i)) (F 97) (F 100)) || (List.range 4).any (fun k => sh8 (fun i => F 99 (8 * k + i)) (F 97) (F 100))
theorem ifb {b : Bool} {A B : Prop} (hA : b = false → A) (hB : b = true → B) : (b2i b = 0 → A) ∧ (¬ b2i b = 0 → B) := by
  cases b
  · exact ⟨fun _ => hA rfl, fun q => absurd rfl q⟩
  · exact ⟨fun q => absurd q (by decide), fun _ => hB rfl⟩
set_option maxRecDepth 20000 in
theorem m_quarrelsNow {n : Nat} (hn : F 82 31 = nI n) (hn2 : n ≤ 40) (K : Q (some (.int (b2i (wq n F)))) (ov h F J V)) : am_cl (d + 2) 234 [.ref 82] (ov h F J V) Q := by
  simp only [ax0, ex_cons, am_get, upz_at, true_and, and_true, Nat.reduceAdd, Nat.reduceLeDiff, Nat.reduceEqDiff, Nat.reduceSub, Int32.reduceOfInt, ↓reduceIte, Int32.reduceLT, Int32.reduceLE, Int32.reduceToNatClampNeg, Nat.reduceMod, Nat.reduceLT, List.length_cons, List.length_nil, eq_self, true_or, or_true, and_self, implies_true, not_true_eq_false, not_false_eq_true, false_implies, true_implies, forall_const, st_freturn, st_goto, st_goto_w, st_iconst, st_iinc, st_istore, am_put, am_nlg, cx_Model_quarrelsNow, kb_Model_quarrelsNow_0, jx_Model_quarrelsNow_27, kb_Model_quarrelsNow_27, jx_Model_quarrelsNow_33, kb_Model_quarrelsNow_33, jx_Model_quarrelsNow_57, kb_Model_quarrelsNow_57, jx_Model_quarrelsNow_63, kb_Model_quarrelsNow_63]
  refine am_iter n (fun k => [.ref 82, .int (nI k)]) (fun _ => ov h F J V) (fun k => ∀ i, i < k → sh8 (fun j => F 98 (8 * i + j)) (F 97) (F 100) = false) (fun k hk hI go => ?_) (fun hI => ?_) 0 (by omega) (fun i hi => by omega)
  · rw [jx_Model_quarrelsNow_2]
    simp only [ax0, ex_cons, am_get, upz_at, true_and, and_true, Nat.reduceAdd, Nat.reduceLeDiff, Nat.reduceEqDiff, Nat.reduceSub, Int32.reduceOfInt, ↓reduceIte, Int32.reduceLT, Int32.reduceLE, Int32.reduceToNatClampNeg, Nat.reduceMod, Nat.reduceLT, List.length_cons, List.length_nil, eq_self, true_or, or_true, and_self, implies_true, not_true_eq_false, not_false_eq_true, false_implies, true_implies, forall_const, st_aload, st_freturn, st_getfield, st_goto, st_iconst, st_ifCond, st_if_icmp, st_iinc, st_iload, st_imul, st_in3, am_put, am_nlg, kb_Model_quarrelsNow_2, og_82_31, og_82_29, oo_82, jx_Model_quarrelsNow_27, kb_Model_quarrelsNow_27, oa_82, oa_98, hn, (nk_le (by omega) (by omega) : (nI (n) ≤ nI (k)) = (n ≤ k)), show ¬ n ≤ k by omega, show (8 : Int32) * nI (k) = nI (8 * (k)) from nk_mul (8) (k)]
    refine m_isShut98 (by omega) ?_
    simp only [ax0, ex_cons, am_get, upz_at, true_and, and_true, Nat.reduceAdd, Nat.reduceLeDiff, Nat.reduceEqDiff, Nat.reduceSub, Int32.reduceOfInt, ↓reduceIte, Int32.reduceLT, Int32.reduceLE, Int32.reduceToNatClampNeg, Nat.reduceMod, Nat.reduceLT, List.length_cons, List.length_nil, eq_self, true_or, or_true, and_self, implies_true, not_true_eq_false, not_false_eq_true, false_implies, true_implies, forall_const, st_goto, st_iinc, am_put, am_nlg, jx_Model_quarrelsNow_27, kb_Model_quarrelsNow_27, st_ifCond, st_iconst, st_freturn, nk_succ]
    refine ifb (fun e => go (fun i hi => ?_)) (fun e => ?_)
    · by_cases q : i = k
      · subst q; exact e
      · exact hI i (by omega)
    · have e2 : wq n F = true := by
        unfold wq
        rw [rg_any.mpr ⟨k, hk, e⟩]; rfl
      rw [e2] at K
      exact K
  · rw [jx_Model_quarrelsNow_2]
    simp only [ax0, ex_cons, am_get, upz_at, true_and, and_true, Nat.reduceAdd, Nat.reduceLeDiff, Nat.reduceEqDiff, Nat.reduceSub, Int32.reduceOfInt, ↓reduceIte, Int32.reduceLT, Int32.reduceLE, Int32.reduceToNatClampNeg, Nat.reduceMod, Nat.reduceLT, List.length_cons, List.length_nil, eq_self, true_or, or_true, and_self, implies_true, not_true_eq_false, not_false_eq_true, false_implies, true_implies, forall_const, st_aload, st_freturn, st_getfield, st_goto, st_goto_w, st_iconst, st_ifCond, st_if_icmp, st_iinc, st_iload, st_imul, st_in3, st_istore, am_put, am_nlg, kb_Model_quarrelsNow_2, og_82_31, og_82_29, oo_82, jx_Model_quarrelsNow_27, kb_Model_quarrelsNow_27, jx_Model_quarrelsNow_33, kb_Model_quarrelsNow_33, oa_82, oa_98, hn, (nk_le (by omega) (by omega) : (nI (n) ≤ nI (n)) = (n ≤ n)), Nat.le_refl]
    refine am_iter 4 (fun k => [.ref 82, .int (nI k)]) (fun _ => ov h F J V) (fun k => ∀ i, i < k → sh8 (fun j => F 99 (8 * i + j)) (F 97) (F 100) = false) (fun k hk hI2 go => ?_) (fun hI2 => ?_) 0 (by omega) (fun i hi => by omega)
    · rw [jx_Model_quarrelsNow_35]
      simp only [ax0, ex_cons, am_get, upz_at, true_and, and_true, Nat.reduceAdd, Nat.reduceLeDiff, Nat.reduceEqDiff, Nat.reduceSub, Int32.reduceOfInt, ↓reduceIte, Int32.reduceLT, Int32.reduceLE, Int32.reduceToNatClampNeg, Nat.reduceMod, Nat.reduceLT, List.length_cons, List.length_nil, eq_self, true_or, or_true, and_self, implies_true, not_true_eq_false, not_false_eq_true, false_implies, true_implies, forall_const, st_aload, st_freturn, st_getfield, st_goto, st_iconst, st_ifCond, st_if_icmp, st_iinc, st_iload, st_imul, st_in3, am_put, am_nlg, kb_Model_quarrelsNow_35, og_82_30, oo_82, jx_Model_quarrelsNow_57, kb_Model_quarrelsNow_57, oa_82, oa_99, show ((4 : Int32) ≤ nI (k)) = (4 ≤ k) from nk_le (a := 4) (b := k) (by omega) (by omega), show ¬ 4 ≤ k by omega, show (8 : Int32) * nI (k) = nI (8 * (k)) from nk_mul (8) (k)]
      refine m_isShut99 (by omega) ?_
      simp only [ax0, ex_cons, am_get, upz_at, true_and, and_true, Nat.reduceAdd, Nat.reduceLeDiff, Nat.reduceEqDiff, Nat.reduceSub, Int32.reduceOfInt, ↓reduceIte, Int32.reduceLT, Int32.reduceLE, Int32.reduceToNatClampNeg, Nat.reduceMod, Nat.reduceLT, List.length_cons, List.length_nil, eq_self, true_or, or_true, and_self, implies_true, not_true_eq_false, not_false_eq_true, false_implies, true_implies, forall_const, st_goto, st_iinc, am_put, am_nlg, jx_Model_quarrelsNow_57, kb_Model_quarrelsNow_57, st_ifCond, st_iconst, st_freturn, nk_succ]
      refine ifb (fun e => go (fun i hi => ?_)) (fun e => ?_)
      · by_cases q : i = k
        · subst q; exact e
        · exact hI2 i (by omega)
      · have e2 : wq n F = true := by
          unfold wq
          rw [(rg_any (n := 4)).mpr ⟨k, hk, e⟩, Bool.or_true]
        rw [e2] at K
        exact K
    · rw [jx_Model_quarrelsNow_35]
      simp only [ax0, ex_cons, am_get, upz_at, true_and, and_true, Nat.reduceAdd, Nat.reduceLeDiff, Nat.reduceEqDiff, Nat.reduceSub, Int32.reduceOfInt, ↓reduceIte, Int32.reduceLT, Int32.reduceLE, Int32.reduceToNatClampNeg, Nat.reduceMod, Nat.reduceLT, List.length_cons, List.length_nil, eq_self, true_or, or_true, and_self, implies_true, not_true_eq_false, not_false_eq_true, false_implies, true_implies, forall_const, st_aload, st_freturn, st_getfield, st_goto, st_iconst, st_ifCond, st_if_icmp, st_iinc, st_iload, st_imul, st_in3, am_put, am_nlg, kb_Model_quarrelsNow_35, og_82_30, oo_82, jx_Model_quarrelsNow_57, kb_Model_quarrelsNow_57, jx_Model_quarrelsNow_63, kb_Model_quarrelsNow_63, oa_82, oa_99, show ((4 : Int32) ≤ nI (4)) = (4 ≤ 4) from nk_le (a := 4) (b := 4) (by omega) (by omega)]
      have e2 : wq n F = false := by
        unfold wq
        rw [rg_anyf hI, rg_anyf hI2]; rfl
      rw [e2] at K
      exact K
set_option maxRecDepth 20000 in
theorem m_nothingBesides (K : Q none (ov h (upz F 100 (ovr (F 100) (fun _ => 0) 0 8)) J V)) : am_cl (d + 1) 232 [.ref 82] (ov h F J V) Q := by
  simp only [ax0, ex_cons, am_get, upz_at, true_and, and_true, Nat.reduceAdd, Nat.reduceLeDiff, Nat.reduceEqDiff, Nat.reduceSub, Int32.reduceOfInt, ↓reduceIte, Int32.reduceLT, Int32.reduceLE, Int32.reduceToNatClampNeg, Nat.reduceMod, Nat.reduceLT, List.length_cons, List.length_nil, eq_self, true_or, or_true, and_self, implies_true, not_true_eq_false, not_false_eq_true, false_implies, true_implies, forall_const, st_goto_w, st_iconst, st_istore, st_return_, am_put, am_nlg, cx_Model_nothingBesides, kb_Model_nothingBesides_0, jx_Model_nothingBesides_21, kb_Model_nothingBesides_21]
  have e0 : ov h F J V = ov h (upz F 100 (ovr (F 100) (fun _ => 0) 0 0)) J V := by rw [upz_ovr0]
  rw [e0]
  refine am_iter 8 (fun k => [.ref 82, .int (nI k)]) (fun k => ov h (upz F 100 (ovr (F 100) (fun _ => 0) 0 k)) J V) (fun _ => True) (fun k hk hI go => ?_) (fun hI => ?_) 0 (by omega) trivial
  · rw [jx_Model_nothingBesides_2]
    simp only [ax0, ex_cons, am_get, upz_at, true_and, and_true, Nat.reduceAdd, Nat.reduceLeDiff, Nat.reduceEqDiff, Nat.reduceSub, Int32.reduceOfInt, ↓reduceIte, Int32.reduceLT, Int32.reduceLE, Int32.reduceToNatClampNeg, Nat.reduceMod, Nat.reduceLT, List.length_cons, List.length_nil, eq_self, true_or, or_true, and_self, implies_true, not_true_eq_false, not_false_eq_true, false_implies, true_implies, forall_const, st_aload, st_getfield, st_goto, st_iastore, st_iconst, st_if_icmp, st_iinc, st_iload, st_return_, am_put, am_nlg, kb_Model_nothingBesides_2, og_82_32, jx_Model_nothingBesides_21, kb_Model_nothingBesides_21, oa_82, oa_100, ow_100, os_100, nk_neg (show k < 2147483648 by omega), nk_cl (show k < 2147483648 by omega), show ((8 : Int32) ≤ nI (k)) = (8 ≤ k) from nk_le (a := 8) (b := k) (by omega) (by omega), show ¬ 8 ≤ k by omega, hk, nk_succ, upz_upd]
    have e := ovr_S (F 100) (fun _ => (0 : Int32)) 0 k rfl
    rw [Nat.zero_add] at e
    rw [e]
    exact go trivial
  · rw [jx_Model_nothingBesides_2]
    simp only [ax0, ex_cons, am_get, upz_at, true_and, and_true, Nat.reduceAdd, Nat.reduceLeDiff, Nat.reduceEqDiff, Nat.reduceSub, Int32.reduceOfInt, ↓reduceIte, Int32.reduceLT, Int32.reduceLE, Int32.reduceToNatClampNeg, Nat.reduceMod, Nat.reduceLT, List.length_cons, List.length_nil, eq_self, true_or, or_true, and_self, implies_true, not_true_eq_false, not_false_eq_true, false_implies, true_implies, forall_const, st_aload, st_getfield, st_goto, st_iastore, st_iconst, st_if_icmp, st_iinc, st_iload, st_return_, am_put, am_nlg, kb_Model_nothingBesides_2, og_82_32, jx_Model_nothingBesides_21, kb_Model_nothingBesides_21, oa_82, oa_100, ow_100, os_100, show ((8 : Int32) ≤ nI (8)) = (8 ≤ 8) from nk_le (a := 8) (b := 8) (by omega) (by omega)]
    exact K
end MT
