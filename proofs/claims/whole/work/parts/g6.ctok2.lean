/-! ===== the class: words ===== -/
def HS (h : am_H) : Prop := ∀ a, 3 ≤ a → a < 23 → h.1 a = aI 9 (st_byt.getD (a - 3) [])
def isB (t : Nat → Int32) (p e : Nat) (xs : List Int32) : Bool := decide (e - p = xs.length) && (List.range xs.length).all (fun i => decide (t (p + i) = xs.getD i 0))
theorem isB_t {t : Nat → Int32} {p e : Nat} {xs : List Int32} : isB t p e xs = true ↔ e - p = xs.length ∧ ∀ i, i < xs.length → t (p + i) = xs.getD i 0 := by
  unfold isB
  rw [Bool.and_eq_true, decide_eq_true_eq, rg_all]
  exact ⟨fun z => ⟨z.1, fun i hi => of_decide_eq_true (z.2 i hi)⟩, fun z => ⟨z.1, fun i hi => decide_eq_true (z.2 i hi)⟩⟩
theorem sl9 {xs : List Int32} (h : xs.length < 1000) {K : Nat → Prop} : am_sl K (aI 9 xs) = K xs.length := by
  show ((9 : Nat) = 9 ∧ xs.length < 2147483648 ∧ K xs.length) = _
  exact propext ⟨fun z => z.2.2, fun z => ⟨rfl, by omega, z⟩⟩
theorem sc9 {xs : List Int32} {j : Int32} {K : Int32 → Prop} : am_sc j K (aI 9 xs) = (vp_in j xs.length ∧ K (xs.getD j.toNatClampNeg 0)) := by
  show ((9 : Nat) = 9 ∧ vp_in j xs.length ∧ K (xs.getD j.toNatClampNeg 0)) = _
  exact propext ⟨fun z => z.2, fun z => ⟨rfl, z⟩⟩
theorem wd_uq : ∀ w w' : Fin 25, 0 < w.val → 0 < w'.val → lnW w.val = lnW w'.val → (∀ i : Fin 5, i.val < lnW w.val → wdL.getD (stW w.val + i.val) 0 = wdL.getD (stW w'.val + i.val) 0) → w = w' := by decide +kernel
theorem wd_1 : ∀ w : Fin 25, 0 < w.val → 1 ≤ lnW w.val ∧ sml (nI (wdL.getD (stW w.val) 0)) = true := by decide +kernel
theorem wd_128 : ∀ w : Fin 25, ∀ i : Fin 5, wdL.getD (stW w.val + i.val) 0 < 128 := by decide +kernel
theorem wcF_hit {t : Nat → Int32} {p len w : Nat} (h1 : lnW w = len) (h2 : mtW t p w = true) : ∀ j w0, w0 ≤ w → w < w0 + j → 1 ≤ w0 → wcF t p len j w0 ≠ 0
  | 0, w0, a, b, _ => by omega
  | j + 1, w0, a, b, c => by
    unfold wcF
    by_cases z : (decide (lnW w0 = len) && mtW t p w0) = true
    · rw [if_pos z]; omega
    · rw [if_neg z]
      by_cases e : w0 = w
      · subst e
        exact absurd (by rw [decide_eq_true h1, h2]; rfl) z
      · exact wcF_hit h1 h2 j (w0 + 1) (by omega) (by omega) (by omega)
theorem mtW_t {t : Nat → Int32} {p w : Nat} : mtW t p w = true ↔ ∀ i, i < lnW w → nI (wdL.getD (stW w + i) 0) = t (p + i) := by
  unfold mtW
  rw [rg_all]
  exact ⟨fun z i hi => of_decide_eq_true (z i hi), fun z i hi => decide_eq_true (z i hi)⟩
/-- the signs of a word -/
def isWd (w : Nat) (xs : List Int32) : Prop := xs.length = lnW w ∧ ∀ i, i < lnW w → xs.getD i 0 = nI (wdL.getD (stW w + i) 0)
theorem isB_word {t : Nat → Int32} {n k w : Nat} (hw : 1 ≤ w) (hw2 : w ≤ 24) {xs : List Int32} (hx : isWd w xs) (hk : k ≤ (tkA t n).length) : isB t (plL n (tkA t n) k) (enP t n (plL n (tkA t n) k)) xs = decide (cdL (tkA t n) k = w) := by
  have l5 := lnW_le w
  have f1 := wd_1 ⟨w, by omega⟩ hw
  rw [Bool.eq_iff_iff, decide_eq_true_eq, isB_t, hx.1]
  constructor
  · rintro ⟨h1, h2⟩
    have l1 : 1 ≤ lnW w := f1.1
    have hkm : k < (tkA t n).length := by
      rcases Nat.lt_or_ge k (tkA t n).length with z | z
      · exact z
      · rw [pl_out z] at h1
        unfold enP at h1
        rw [if_neg (Nat.lt_irrefl n)] at h1
        omega
    obtain ⟨a1, a2, a3⟩ := at_k hkm
    have sp : sml (t (plL n (tkA t n) k)) = true := by
      have := h2 0 (by omega)
      rw [Nat.add_zero, hx.2 0 (by omega), Nat.add_zero] at this
      rw [this]; exact f1.2
    unfold enP teC at h1
    rw [if_pos a1, sp, if_pos rfl] at h1
    have et : teP t n (plL n (tkA t n) k) = rn sml t n (plL n (tkA t n) k + 1) := by unfold teP; rw [sp, if_pos rfl]
    have mw : mtW t (plL n (tkA t n) k) w = true := mtW_t.mpr (fun i hi => by rw [h2 i hi, hx.2 i hi])
    have ec : tcP t n (plL n (tkA t n) k) = wcF t (plL n (tkA t n) k) (lnW w) 24 1 := by
      unfold tcP
      rw [sp, if_pos rfl, et, h1]
    rw [a2, ec]
    have nz := wcF_hit (t := t) (p := plL n (tkA t n) k) rfl mw 24 1 hw (by omega) (Nat.le_refl _)
    rcases wcF_ok t (plL n (tkA t n) k) (lnW w) 24 1 with z | ⟨z1, z2, z3, z4⟩
    · exact absurd z nz
    · generalize wcF t (plL n (tkA t n) k) (lnW w) 24 1 = w' at z1 z2 z3 z4
      have := wd_uq ⟨w', by omega⟩ ⟨w, by omega⟩ (by show 0 < w'; omega) hw z3 (fun i hi => by
        have q1 := mtW_t.mp z4 i.val hi
        have hi' : i.val < lnW w := by rw [← z3]; exact hi
        have q2 := mtW_t.mp mw i.val hi'
        have b1 := wd_128 ⟨w', by omega⟩ i
        have b2 := wd_128 ⟨w, by omega⟩ i
        rw [← q2, nk_eq (by show wdL.getD (stW w' + i.val) 0 < 2147483648; exact Nat.lt_of_lt_of_le b1 (by decide)) (by exact Nat.lt_of_lt_of_le b2 (by decide))] at q1
        exact q1)
      exact congrArg Fin.val this
  · intro e
    have hkm : k < (tkA t n).length := by
      rcases Nat.lt_or_ge k (tkA t n).length with z | z
      · exact z
      · rw [cd_out z] at e; omega
    obtain ⟨a1, a2, a3⟩ := at_k hkm
    rw [a2] at e
    obtain ⟨b1, b2, b3⟩ := tcP_word (t := t) (n := n) (p := plL n (tkA t n) k) (by omega) (by omega)
    rw [e] at b2 b3
    refine ⟨?_, fun i hi => by rw [hx.2 i hi]; exact (mtW_t.mp b3 i hi).symm⟩
    unfold enP teC
    rw [if_pos a1, b1, if_pos rfl, b2]
    unfold teP
    rw [b1, if_pos rfl]
/-- signed bytes -/
def byT (t : Nat → Int32) (n : Nat) : Prop := ∀ i, i < n → (t i).toInt8.toInt32 = t i
theorem by_255 {x : Int32} (h : x.toInt8.toInt32 = x) {c : Nat} (hc : c = 40 ∨ c = 41) (e : (x &&& 255).toNatClampNeg = c) : x = nI c := by
  have e1 : (x &&& 255) = nI c := by
    have : (x &&& 255).toInt.toNat = c := e
    have h1 : (x &&& 255).toInt = (c : Int) := by omega
    rw [← Int32.toInt_inj, h1, nk_toInt (by omega)]
  have e2 : x.toInt8 = (x &&& 255).toInt8 := by
    apply Int8.toBitVec_inj.mp
    apply BitVec.eq_of_getLsbD_eq
    intro i hi
    rw [Int32.toBitVec_toInt8, Int32.toBitVec_toInt8, BitVec.getLsbD_signExtend, BitVec.getLsbD_signExtend, if_pos (by omega), if_pos (by omega), Int32.toBitVec_and, BitVec.getLsbD_and]
    have : (255 : Int32).toBitVec.getLsbD i = true := (by decide : ∀ i : Fin 8, (255 : Int32).toBitVec.getLsbD i.val = true) ⟨i, hi⟩
    rw [this, Bool.and_true]
  rw [← h, e2, e1]
  rcases hc with z | z <;> subst z <;> decide
theorem isB_br {t : Nat → Int32} {n k c : Nat} (hb : byT t n) (hc : c = 40 ∨ c = 41) (hk : k ≤ (tkA t n).length) : isB t (plL n (tkA t n) k) (enP t n (plL n (tkA t n) k)) [nI c] = decide (cdL (tkA t n) k = 100 + c) := by
  rw [Bool.eq_iff_iff, decide_eq_true_eq, isB_t]
  constructor
  · rintro ⟨h1, h2⟩
    have h1 : enP t n (plL n (tkA t n) k) - plL n (tkA t n) k = 1 := h1
    have hkm : k < (tkA t n).length := by
      rcases Nat.lt_or_ge k (tkA t n).length with z | z
      · exact z
      · rw [pl_out z] at h1
        unfold enP at h1
        rw [if_neg (Nat.lt_irrefl n)] at h1
        omega
    obtain ⟨a1, a2, a3⟩ := at_k hkm
    have e0 : t (plL n (tkA t n) k) = nI c := h2 0 (by show 0 < 1; decide)
    rw [a2]
    unfold tcP
    rw [e0]
    rcases hc with z | z <;> subst z <;> rfl
  · intro e
    have hkm : k < (tkA t n).length := by
      rcases Nat.lt_or_ge k (tkA t n).length with z | z
      · exact z
      · rw [cd_out z] at e; omega
    obtain ⟨a1, a2, a3⟩ := at_k hkm
    rw [a2] at e
    unfold tcP at e
    cases s : sml (t (plL n (tkA t n) k))
    · rw [s, if_neg Bool.false_ne_true] at e
      cases g : dgt (t (plL n (tkA t n) k))
      · rw [g, if_neg Bool.false_ne_true] at e
        have e0 := by_255 (hb _ a1) hc (by omega)
        refine ⟨?_, fun i hi => ?_⟩
        · unfold enP teC
          rw [if_pos a1, s, if_neg Bool.false_ne_true]
          show _ = 1
          omega
        · have hi : i < 1 := hi
          rw [show i = 0 by omega, Nat.add_zero]
          exact e0
      · rw [g, if_pos rfl] at e; omega
    · rw [s, if_pos rfl] at e
      rcases wcF_ok t (plL n (tkA t n) k) (teP t n (plL n (tkA t n) k) - plL n (tkA t n) k) 24 1 with z | ⟨z1, z2, z3, z4⟩ <;> omega
/-- the code of a string -/
def wcA (a : Nat) : Nat := [140, 141, 1, 7, 0, 6, 10, 0, 2, 5, 0, 8, 4, 11, 3, 9, 0, 0, 12, 0].getD (a - 3) 0
theorem wcA_dec : ∀ a : Fin 23, 5 ≤ a.val → wcA a.val ≠ 0 → wcA a.val ≤ 24 ∧ (st_byt.getD (a.val - 3) []).length = lnW (wcA a.val) ∧ ∀ i : Fin 5, i.val < lnW (wcA a.val) → (st_byt.getD (a.val - 3) []).getD i.val 0 = nI (wdL.getD (stW (wcA a.val) + i.val) 0) := by decide +kernel
theorem isB_a {t : Nat → Int32} {n k a : Nat} (hb : byT t n) (h3 : 3 ≤ a) (ha : a < 23) (hz : wcA a ≠ 0) (hk : k ≤ (tkA t n).length) : isB t (plL n (tkA t n) k) (enP t n (plL n (tkA t n) k)) (st_byt.getD (a - 3) []) = decide (cdL (tkA t n) k = wcA a) := by
  by_cases h5 : 5 ≤ a
  · obtain ⟨w1, w2, w3⟩ := wcA_dec ⟨a, ha⟩ h5 hz
    exact isB_word (by show 1 ≤ wcA a; omega) w1 ⟨w2, fun i hi => w3 ⟨i, by have := lnW_le (wcA a); have hi : i < lnW (wcA a) := hi; omega⟩ hi⟩ hk
  · rcases (show a = 3 ∨ a = 4 by omega) with z | z <;> subst z
    · exact isB_br hb (Or.inl rfl) hk
    · exact isB_br hb (Or.inr rfl) hk
theorem kd_dec : ∀ j : Fin 8, lnW (13 + j.val) = 1 ∧ wdL.getD (stW (13 + j.val) + 0) 0 = 97 + j.val := by decide +kernel
theorem nm_dec : ∀ j : Fin 4, lnW (21 + j.val) = 1 ∧ wdL.getD (stW (21 + j.val) + 0) 0 = 119 + j.val := by decide +kernel
theorem isWd1 {w c : Nat} (h1 : lnW w = 1) (h2 : wdL.getD (stW w + 0) 0 = c) : isWd w [nI c] := ⟨by rw [h1]; rfl, fun i hi => by
  rw [show i = 0 by omega, h2]; rfl⟩
def sgB (t : Nat → Int32) (p e : Nat) (lo hi : Int32) : Bool := decide (e - p = 1) && !decide (t p < lo) && !decide (hi < t p)
theorem bt_nI {x : Int32} {a b : Nat} (hb : b < 1000) (ha : a ≤ b) (h1 : ¬ x < nI a) (h2 : ¬ nI b < x) : ∃ j, j ≤ b - a ∧ x = nI (a + j) := by
  rw [Int32.lt_iff_toInt_lt, nk_toInt (by omega)] at h1 h2
  refine ⟨x.toInt.toNat - a, by omega, ?_⟩
  rw [← Int32.toInt_inj, nk_toInt (by omega)]
  omega
theorem sg_word {t : Nat → Int32} {n k w0 c0 r : Nat} (hr : r = 8 ∧ w0 = 13 ∧ c0 = 97 ∨ r = 4 ∧ w0 = 21 ∧ c0 = 119) (hk : k ≤ (tkA t n).length) : (sgB t (plL n (tkA t n) k) (enP t n (plL n (tkA t n) k)) (nI c0) (nI (c0 + (r - 1))) = true ↔ w0 ≤ cdL (tkA t n) k ∧ cdL (tkA t n) k ≤ w0 + (r - 1)) ∧ (w0 ≤ cdL (tkA t n) k → cdL (tkA t n) k ≤ w0 + (r - 1) → t (plL n (tkA t n) k) = nI (c0 + (cdL (tkA t n) k - w0))) := by
  have wd : ∀ j, j < r → isWd (w0 + j) [nI (c0 + j)] ∧ 1 ≤ w0 + j ∧ w0 + j ≤ 24 := fun j hj => by
    rcases hr with ⟨e1, e2, e3⟩ | ⟨e1, e2, e3⟩ <;> subst e1 <;> subst e2 <;> subst e3
    · exact ⟨isWd1 (kd_dec ⟨j, hj⟩).1 (kd_dec ⟨j, hj⟩).2, by omega, by omega⟩
    · exact ⟨isWd1 (nm_dec ⟨j, hj⟩).1 (nm_dec ⟨j, hj⟩).2, by omega, by omega⟩
  have hr0 : 1 ≤ r ∧ c0 + r < 1000 := by omega
  have bk : ∀ j, j < r → cdL (tkA t n) k = w0 + j → enP t n (plL n (tkA t n) k) - plL n (tkA t n) k = 1 ∧ t (plL n (tkA t n) k) = nI (c0 + j) := fun j hj e => by
    obtain ⟨q1, q2, q3⟩ := wd j hj
    have := isB_word q2 q3 q1 hk
    rw [decide_eq_true e, isB_t] at this
    exact ⟨this.1, this.2 0 (by show 0 < 1; decide)⟩
  refine ⟨⟨fun h => ?_, fun h => ?_⟩, fun h1 h2 => ?_⟩
  · unfold sgB at h
    rw [Bool.and_eq_true, Bool.and_eq_true, decide_eq_true_eq, Bool.not_eq_true', Bool.not_eq_true', decide_eq_false_iff_not, decide_eq_false_iff_not] at h
    obtain ⟨⟨h1, h2⟩, h3⟩ := h
    obtain ⟨j, j1, j2⟩ := bt_nI (by omega) (by omega) h2 h3
    obtain ⟨q1, q2, q3⟩ := wd j (by omega)
    have e : isB t (plL n (tkA t n) k) (enP t n (plL n (tkA t n) k)) [nI (c0 + j)] = true := isB_t.mpr ⟨h1, fun i hi => by
      have hi : i < 1 := hi
      rw [show i = 0 by omega, Nat.add_zero]
      exact j2⟩
    rw [isB_word q2 q3 q1 hk, decide_eq_true_eq] at e
    omega
  · obtain ⟨b1, b2⟩ := bk (cdL (tkA t n) k - w0) (by omega) (by omega)
    unfold sgB
    rw [b1, b2, decide_eq_true rfl, Bool.true_and, Bool.and_eq_true, Bool.not_eq_true', Bool.not_eq_true', decide_eq_false_iff_not, decide_eq_false_iff_not, nk_lt (by omega) (by omega), nk_lt (by omega) (by omega)]
    omega
  · exact (bk (cdL (tkA t n) k - w0) (by omega) (by omega)).2
section CWD
variable {d : Nat} {h : am_H} {F : Nat → Nat → Int32} {J : Nat → Nat → Int64} {V : Nat → Nat → Value} {Q : am_Q}
set_option maxRecDepth 20000 in
theorem c_isAt {t : Nat → Int32} {n p e a : Nat} {xs : List Int32} (hR : RT t n F) (ha : a < 23) (hs : h.1 a = aI 9 xs) (hl : xs.length < 1000) (h3 : F 24 3 = nI p) (h4 : F 24 4 = nI e) (hpe : p ≤ e) (hen : e ≤ n) (K : Q (some (.int (b2i (isB t p e xs)))) (ov h F J V)) : am_cl (d + 1) 119 [.ref 24, .ref a] (ov h F J V) Q := by
  have hn := hR.2.1
  have hsa : (ov h F J V).1 a = aI 9 xs := by rw [ov_hi (by omega)]; exact hs
  simp only [isO_c, ax0, ex_cons, am_get, upz_at, true_and, and_true, Nat.reduceAdd, Nat.reduceLeDiff, Nat.reduceEqDiff, Nat.reduceSub, Int32.reduceOfInt, Int32.reduceAdd, Int32.reduceMul, Int32.reduceSub, ↓reduceIte, Int32.reduceLT, Int32.reduceLE, Int32.reduceToNatClampNeg, Nat.reduceMod, Nat.reduceLT, List.length_cons, List.length_nil, eq_self, true_or, or_true, and_self, implies_true, not_true_eq_false, not_false_eq_true, false_implies, true_implies, forall_const, st_aloadx, st_freturnx, st_getfieldx, st_goto_wx, st_iconstx, st_if_icmpx, st_iloadx, st_istorex, st_isubx, st_saloadx, am_put, am_nlg, kb_Reader_isAt_0, og_24_4, og_24_3, jx_Reader_isAt_20, kb_Reader_isAt_20, oa_24, cx_Reader_isAt, ha, hsa, sl9 hl, h3, h4, show nI e - nI p = nI (e - p) from nk_sub hpe, show (nI (e - p) = nI xs.length) = (e - p = xs.length) from nk_eq (by omega) (by omega)]
  refine ⟨fun w => ?_, fun w => ?_⟩
  · have key : ∀ j k, k + j = xs.length → (∀ i, i < k → t (p + i) = xs.getD i 0) → am_W kc_Reader_isAt (am_cl d) Q 22 [.ref 24, .ref a, .int (nI xs.length), .int (nI k)] [] (ov h F J V) := by
      intro j
      induction j with
      | zero =>
        intro k ek g
        have ek : k = xs.length := ek
        rw [jx_Reader_isAt_22]
        simp only [isO_c, ax0, ex_cons, am_get, upz_at, true_and, and_true, Nat.reduceAdd, Nat.reduceLeDiff, Nat.reduceEqDiff, Nat.reduceSub, Int32.reduceOfInt, Int32.reduceAdd, Int32.reduceMul, Int32.reduceSub, ↓reduceIte, Int32.reduceLT, Int32.reduceLE, Int32.reduceToNatClampNeg, Nat.reduceMod, Nat.reduceLT, List.length_cons, List.length_nil, eq_self, true_or, or_true, and_self, implies_true, not_true_eq_false, not_false_eq_true, false_implies, true_implies, forall_const, st_aloadx, st_baloadx, st_caloadx, st_freturnx, st_getfieldx, st_iaddx, st_iconstx, st_if_icmpx, st_iloadx, kb_Reader_isAt_22, og_24_0, og_24_3, jx_Reader_isAt_54, kb_Reader_isAt_54, oa_24, oa_25, or_25, (nk_le (by omega) (by omega) : (nI (xs.length) ≤ nI (k)) = (xs.length ≤ k)), show xs.length ≤ k by omega]
        have : isB t p e xs = true := isB_t.mpr ⟨w, fun i hi => g i (by omega)⟩
        rw [this] at K
        exact K
      | succ j ih =>
        intro k ek g
        have ft : F 25 (p + k) = t (p + k) := hR.2.2 _ (by omega)
        rw [jx_Reader_isAt_22]
        simp only [isO_c, ax0, ex_cons, am_get, upz_at, true_and, and_true, Nat.reduceAdd, Nat.reduceLeDiff, Nat.reduceEqDiff, Nat.reduceSub, Int32.reduceOfInt, Int32.reduceAdd, Int32.reduceMul, Int32.reduceSub, ↓reduceIte, Int32.reduceLT, Int32.reduceLE, Int32.reduceToNatClampNeg, Nat.reduceMod, Nat.reduceLT, List.length_cons, List.length_nil, eq_self, true_or, or_true, and_self, implies_true, not_true_eq_false, not_false_eq_true, false_implies, true_implies, forall_const, st_aloadx, st_baloadx, st_caloadx, st_freturnx, st_getfieldx, st_gotox, st_iaddx, st_iconstx, st_if_icmpx, st_iincx, st_iloadx, am_put, am_nlg, kb_Reader_isAt_22, og_24_0, og_24_3, jx_Reader_isAt_48, kb_Reader_isAt_48, oa_24, oa_25, or_25, (nk_le (by omega) (by omega) : (nI (xs.length) ≤ nI (k)) = (xs.length ≤ k)), show ¬ xs.length ≤ k by omega, h3, show nI p + nI k = nI (p + k) from nk_add _ _, nk_neg (show p + k < 2147483648 by omega), nk_cl (show p + k < 2147483648 by omega), nk_neg (show k < 2147483648 by omega), nk_cl (show k < 2147483648 by omega), show p + k < 400 by omega, ft, ha, hsa, sc9, show k < xs.length by omega, nk_succ]
        refine ⟨fun y => ?_, fun y => ?_⟩
        · refine ih (k + 1) (by omega) (fun i hi => ?_)
          by_cases z : i = k
          · rw [z]; exact y
          · exact g i (by omega)
        · have : isB t p e xs = false := by
            cases z : isB t p e xs
            · rfl
            · exact absurd ((isB_t.mp z).2 k (by omega)) y
          rw [this] at K
          exact K
    exact key xs.length 0 (by omega) (fun i hi => absurd hi (Nat.not_lt_zero i))
  · have : isB t p e xs = false := by
      cases z : isB t p e xs
      · rfl
      · exact absurd (isB_t.mp z).1 w
    rw [this] at K
    exact K
theorem st_len : ∀ a : Fin 23, (st_byt.getD (a.val - 3) []).length < 1000 := by decide
theorem c_isAtA {t : Nat → Int32} {n k a : Nat} (hs : HS h) (hR : RT t n F) (hb : byT t n) (hA : AT t n F k) (h3 : 3 ≤ a) (ha : a < 23) (hz : wcA a ≠ 0) (K : Q (some (.int (b2i (decide (cdL (tkA t n) k = wcA a))))) (ov h F J V)) : am_cl (d + 1) 119 [.ref 24, .ref a] (ov h F J V) Q := by
  have hl := enP_le (t := t) (n := n) (q := plL n (tkA t n) k) pl_le
  refine c_isAt hR ha (hs a h3 ha) (st_len ⟨a, ha⟩) hA.2.1 hA.2.2 hl.1 hl.2 ?_
  rw [isB_a hb h3 ha hz hA.1]
  exact K
set_option maxRecDepth 20000 in
theorem c_pass {t : Nat → Int32} {n k a : Nat} (hs : HS h) (hR : RT t n F) (hb : byT t n) (hA : AT t n F k) (h3 : 3 ≤ a) (ha : a < 23) (hz : wcA a ≠ 0) (K0 : ¬ cdL (tkA t n) k = wcA a → Q (some (.int 0)) (ov h F J V)) (K1 : ∀ F', cdL (tkA t n) k = wcA a → k < (tkA t n).length → Rs F F' → AT t n F' (k + 1) → Q (some (.int 1)) (ov h F' J V)) : am_cl (d + 2) 118 [.ref 24, .ref a] (ov h F J V) Q := by
  simp only [isO_c, ax0, ex_cons, am_get, upz_at, true_and, and_true, Nat.reduceAdd, Nat.reduceLeDiff, Nat.reduceEqDiff, Nat.reduceSub, Int32.reduceOfInt, Int32.reduceAdd, Int32.reduceMul, Int32.reduceSub, ↓reduceIte, Int32.reduceLT, Int32.reduceLE, Int32.reduceToNatClampNeg, Nat.reduceMod, Nat.reduceLT, List.length_cons, List.length_nil, eq_self, true_or, or_true, and_self, implies_true, not_true_eq_false, not_false_eq_true, false_implies, true_implies, forall_const, st_aloadx, st_freturnx, st_iconstx, st_ifCondx, st_in2, kb_Reader_pass_0, oo_24, oa_24, cx_Reader_pass]
  refine c_isAtA hs hR hb hA h3 ha hz ?_
  simp only [isO_c, ax0, ex_cons, am_get, upz_at, true_and, and_true, Nat.reduceAdd, Nat.reduceLeDiff, Nat.reduceEqDiff, Nat.reduceSub, Int32.reduceOfInt, Int32.reduceAdd, Int32.reduceMul, Int32.reduceSub, ↓reduceIte, Int32.reduceLT, Int32.reduceLE, Int32.reduceToNatClampNeg, Nat.reduceMod, Nat.reduceLT, List.length_cons, List.length_nil, eq_self, true_or, or_true, and_self, implies_true, not_true_eq_false, not_false_eq_true, false_implies, true_implies, forall_const, st_aloadx, st_freturnx, st_iconstx, st_ifCondx, st_in1, st_in2, kb_Reader_pass_0, oo_24, jx_Reader_pass_10, kb_Reader_pass_10, oa_24]
  refine ifnb (fun z => ?_) (fun z => ?_)
  · have z := of_decide_eq_true z
    have hk : k < (tkA t n).length := by
      rcases Nat.lt_or_ge k (tkA t n).length with y | y
      · exact y
      · rw [cd_out y] at z; exact absurd z.symm hz
    have h90 : ¬ cdL (tkA t n) k = 90 := by
      rw [z]
      exact (by decide : ∀ a : Fin 23, ¬ wcA a.val = 90) ⟨a, ha⟩
    refine c_next hR hA hk h90 (fun F' s1 a1 => ?_)
    simp only [isO_c, ax0, ex_cons, am_get, upz_at, true_and, and_true, Nat.reduceAdd, Nat.reduceLeDiff, Nat.reduceEqDiff, Nat.reduceSub, Int32.reduceOfInt, Int32.reduceAdd, Int32.reduceMul, Int32.reduceSub, ↓reduceIte, Int32.reduceLT, Int32.reduceLE, Int32.reduceToNatClampNeg, Nat.reduceMod, Nat.reduceLT, List.length_cons, List.length_nil, eq_self, true_or, or_true, and_self, implies_true, not_true_eq_false, not_false_eq_true, false_implies, true_implies, forall_const, st_aloadx, st_freturnx, st_iconstx, st_in1, jx_Reader_pass_10, kb_Reader_pass_10, oo_24, oa_24]
    exact K1 F' z hk s1 a1
  · exact K0 (of_decide_eq_false z)
set_option maxRecDepth 20000 in
theorem c_isSign {t : Nat → Int32} {n p e : Nat} {lo hi : Int32} (hR : RT t n F) (h3 : F 24 3 = nI p) (h4 : F 24 4 = nI e) (hpe : p ≤ e) (hen : e ≤ n) (K : Q (some (.int (b2i (sgB t p e lo hi)))) (ov h F J V)) : am_cl (d + 1) 120 [.ref 24, .int lo, .int hi] (ov h F J V) Q := by
  have hn := hR.2.1
  unfold sgB at K
  simp only [isO_c, ax0, ex_cons, am_get, upz_at, true_and, and_true, Nat.reduceAdd, Nat.reduceLeDiff, Nat.reduceEqDiff, Nat.reduceSub, Int32.reduceOfInt, Int32.reduceAdd, Int32.reduceMul, Int32.reduceSub, ↓reduceIte, Int32.reduceLT, Int32.reduceLE, Int32.reduceToNatClampNeg, Nat.reduceMod, Nat.reduceLT, List.length_cons, List.length_nil, eq_self, true_or, or_true, and_self, implies_true, not_true_eq_false, not_false_eq_true, false_implies, true_implies, forall_const, st_aloadx, st_baloadx, st_freturnx, st_getfieldx, st_gotox, st_goto_wx, st_iconstx, st_if_icmpx, st_iloadx, st_isubx, kb_Reader_isSign_0, og_24_4, og_24_3, og_24_0, jx_Reader_isSign_43, kb_Reader_isSign_43, jx_Reader_isSign_44, kb_Reader_isSign_44, oa_24, oa_25, or_25, cx_Reader_isSign, h3, h4, show nI e - nI p = nI (e - p) from nk_sub hpe, show (nI (e - p) = (1 : Int32)) = (e - p = 1) from nk_eq (b := 1) (by omega) (by decide)]
  refine ⟨fun w => ?_, fun w => ?_⟩
  · rw [decide_eq_false w] at K; exact K
  · have w := Classical.not_not.mp w
    have ft : F 25 p = t p := hR.2.2 _ (by omega)
    rw [decide_eq_true w, Bool.true_and] at K
    simp only [isO_c, ax0, ex_cons, am_get, upz_at, true_and, and_true, Nat.reduceAdd, Nat.reduceLeDiff, Nat.reduceEqDiff, Nat.reduceSub, Int32.reduceOfInt, Int32.reduceAdd, Int32.reduceMul, Int32.reduceSub, ↓reduceIte, Int32.reduceLT, Int32.reduceLE, Int32.reduceToNatClampNeg, Nat.reduceMod, Nat.reduceLT, List.length_cons, List.length_nil, eq_self, true_or, or_true, and_self, implies_true, not_true_eq_false, not_false_eq_true, false_implies, true_implies, forall_const, st_aloadx, st_baloadx, st_freturnx, st_getfieldx, st_gotox, st_goto_wx, st_iconstx, st_if_icmpx, st_iloadx, st_isubx, kb_Reader_isSign_0, og_24_4, og_24_3, og_24_0, jx_Reader_isSign_43, kb_Reader_isSign_43, jx_Reader_isSign_44, kb_Reader_isSign_44, oa_24, oa_25, or_25, nk_neg (show p < 2147483648 by omega), nk_cl (show p < 2147483648 by omega), show p < 400 by omega, ft]
    refine ⟨fun y => ?_, fun y => ⟨fun z => ?_, fun z => ?_⟩⟩
    · rw [decide_eq_true y] at K; exact K
    · rw [decide_eq_true z, Bool.not_true, Bool.and_false] at K; exact K
    · rw [decide_eq_false y, decide_eq_false z] at K; exact K
end CWD
