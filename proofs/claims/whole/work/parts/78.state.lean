/-! ===== the whole state: what is kept, images, tape, fault, status, counts, riddle ===== -/
abbrev bT : Type := Nat × (Nat → rT × Bool)
abbrev kT : Type := dT × bT
abbrev yT : Type := Nat × (Nat → Nat)
abbrev aT : Type := kT × (Nat → Option kT) × (Nat × (Nat → Int32)) × (Int32 × Int32 × (Nat → Int32)) × Option yT
abbrev aD (A : aT) : dT := A.1.1
abbrev aB (A : aT) : bT := A.1.2
abbrev aIm (A : aT) : Nat → Option kT := A.2.1
abbrev aTp (A : aT) : Nat × (Nat → Int32) := A.2.2.1
abbrev aFt (A : aT) : Int32 := A.2.2.2.1.1
abbrev aSt (A : aT) : Int32 := A.2.2.2.1.2.1
abbrev aRf (A : aT) : Nat → Int32 := A.2.2.2.1.2.2
abbrev aRd (A : aT) : Option yT := A.2.2.2.2
/-- one bound of the model's -/
def MB1 (k : Nat → Int32) (i : Nat) (b : rT × Bool) : Prop := wfR b.1 ∧ k (2562 + 11 * i) = nI (saR b.1) ∧ (saR b.1 = 2 → k (2562 + 11 * i + 1) = nI b.1.2.2.1) ∧ k (2562 + 11 * i + 2) = b2i b.2 ∧ ∀ r, r < 256 → bI (fun j => k (2562 + 11 * i + 3 + j)) r = seR b.1 r
def MB (k : Nat → Int32) (B : bT) : Prop := k 2696 = nI B.1 ∧ B.1 ≤ 12 ∧ ∀ i, i < B.1 → MB1 k i (B.2 i)
def MX (k : Nat → Int32) (X : kT) : Prop := MK k X.1 ∧ MB k X.2
def rzT (f : Nat → Nat) : Nat → tT
  | 0 => tE
  | k + 1 => tellz (rzT f k) (clR (rS (f k))) false
def riC (y : yT) (mood : Nat) : Nat := cn (fun k => isNu (64 * mood + k) && fo (rzT y.2 y.1) (clR (rS (64 * mood + k))) false) 64
def MSd (g q : Nat → Int32) (o : Option yT) : Prop := match o with
  | none => g 43 = -1
  | some y => g 43 = nI y.1 ∧ y.1 ≤ 12 ∧ (∀ i, i < y.1 → q i = nI (y.2 i) ∧ y.2 i < 256 ∧ isNu (y.2 i) = true) ∧ g 44 = nI (riC y 0) ∧ g 45 = nI (riC y 1)
def wdL : List Nat := [97, 108, 108, 32, 110, 111, 32, 115, 111, 109, 101, 32, 111, 110, 108, 121, 32, 110, 111, 110, 101, 32, 98, 117, 116, 32, 97, 114, 101, 32, 110, 111, 116, 32, 116, 104, 101, 114, 101, 32, 105, 115, 32, 111, 114, 32, 119, 104, 111, 32, 97, 32, 98, 32, 99, 32, 100, 32, 101, 32, 102, 32, 103, 32, 104, 32, 119, 32, 120, 32, 121, 32, 122, 32]
def MSi (m b : Nat → Int32) (I : Nat → Option kT) : Prop := ∀ i, i < 2 → b i = b2i (I i).isSome ∧ ∀ X, I i = some X → MX (fun j => m (2698 * i + j)) X
def MSt (n : Int32) (m : Nat → Int32) (t : Nat × (Nat → Int32)) : Prop := n = nI t.1 ∧ t.1 ≤ 400 ∧ ∀ i, i < t.1 → m i = t.2 i
def MS (F : Nat → Nat → Int32) (A : aT) : Prop := MX (F 84) A.1 ∧ MSi (F 85) (F 86) A.2.1 ∧ MSt (F 82 8) (F 88) A.2.2.1 ∧ F 82 9 = aFt A ∧ F 82 0 = aSt A ∧ (∀ i, i < 7 → F 83 i = aRf A i) ∧ MSd (F 82) (F 107) A.2.2.2.2 ∧ ∀ i, i < 74 → F 87 i = nI (wdL.getD i 0)
def Lo (F F' : Nat → Nat → Int32) : Prop := ∀ a, a < 82 → F' a = F a
theorem Lo.rf {F : Nat → Nat → Int32} : Lo F F := fun _ _ => rfl
theorem Lo.tr {F F1 F2 : Nat → Nat → Int32} (a : Lo F F1) (b : Lo F1 F2) : Lo F F2 := fun i hi => (b i hi).trans (a i hi)
theorem Lo.up {F F1 : Nat → Nat → Int32} (a : Lo F F1) {k : Nat} (hk : 82 ≤ k) (f : Nat → Int32) : Lo F (upz F1 k f) := fun i hi => by rw [upz_ne _ _ (by omega)]; exact a i hi
theorem Pm.lo {F F1 : Nat → Nat → Int32} (a : Pm F F1) : Lo F F1 := a.1
theorem MK.cgC {k k' : Nat → Int32} {D : dT} (h : MK k D) (e : ∀ i, i < 2379 ∨ i = 2694 ∨ i = 2695 ∨ i = 2697 → k' i = k i) : MK k' D := by
  obtain ⟨h1, h2, h3, h4, h5, h6⟩ := h
  refine ⟨?_, h2, ?_, ?_, fun i hi => ?_, fun q => ?_⟩
  · rw [e 2694 (by decide)]; exact h1
  · rw [e 2695 (by decide)]; exact h3
  · rw [e 2697 (by decide)]; exact h4
  · exact (h5 i hi).cg (fun j q1 q2 => e j (by omega))
  · exact (h6 q).cg (fun j q1 q2 => e j (by omega))
theorem MK.cgB {k k' : Nat → Int32} {D : dT} (h : MK k D) (e : ∀ i, i < 2698 → ¬ (2379 ≤ i ∧ i < 2562) → k' i = k i) : MK k' D := h.cgC (fun i hi => e i (by omega) (by omega))
theorem MB1.cg {k k' : Nat → Int32} {i : Nat} {b : rT × Bool} (h : MB1 k i b) (e : ∀ j, 2562 + 11 * i ≤ j → j < 2573 + 11 * i → k' j = k j) : MB1 k' i b := by
  obtain ⟨h1, h2, h3, h4, h5⟩ := h
  refine ⟨h1, ?_, fun q => ?_, ?_, fun r hr => ?_⟩
  · rw [e _ (by omega) (by omega)]; exact h2
  · rw [e _ (by omega) (by omega)]; exact h3 q
  · rw [e _ (by omega) (by omega)]; exact h4
  · rw [bI_congr hr (y := fun j => k (2562 + 11 * i + 3 + j)) (fun j hj => e _ (by omega) (by omega))]; exact h5 r hr
theorem MB.cgB {k k' : Nat → Int32} {B : bT} (h : MB k B) (e : ∀ i, i < 2698 → ¬ (2379 ≤ i ∧ i < 2562) → k' i = k i) : MB k' B := by
  obtain ⟨h1, h2, h3⟩ := h
  refine ⟨?_, h2, fun i hi => ?_⟩
  · rw [e 2696 (by decide) (by decide)]; exact h1
  · exact (h3 i hi).cg (fun j q1 q2 => e j (by omega) (by omega))
theorem MX.cgB {k k' : Nat → Int32} {X : kT} (h : MX k X) (e : ∀ i, i < 2698 → ¬ (2379 ≤ i ∧ i < 2562) → k' i = k i) : MX k' X := ⟨h.1.cgB e, h.2.cgB e⟩
theorem MSd.cg {g g' q : Nat → Int32} {o : Option yT} (h : MSd g q o) (e : ∀ i, i = 43 ∨ i = 44 ∨ i = 45 → g' i = g i) : MSd g' q o := by
  cases o with
  | none => show g' 43 = -1; rw [e 43 (by decide)]; exact h
  | some y =>
    obtain ⟨h1, h2, h3, h4, h5⟩ := h
    exact ⟨by rw [e 43 (by decide)]; exact h1, h2, h3, by rw [e 44 (by decide)]; exact h4, by rw [e 45 (by decide)]; exact h5⟩
theorem MS.pm {F F' : Nat → Nat → Int32} {A : aT} (h : MS F A) (p : Pm F F') : MS F' A := by
  obtain ⟨p1, p2, p3, p4⟩ := p
  obtain ⟨h1, h2, h3, h4, h5, h6, h7, h8⟩ := h
  refine ⟨h1.cgB (fun i _ q => p3 i q), ?_, ?_, ?_, ?_, ?_, ?_, ?_⟩
  · rw [p2 85 (by decide), p2 86 (by decide)]; exact h2
  · rw [p4 8 (by decide), p2 88 (by decide)]; exact h3
  · rw [p4 9 (by decide)]; exact h4
  · rw [p4 0 (by decide)]; exact h5
  · rw [p2 83 (by decide)]; exact h6
  · rw [p2 107 (by decide)]; exact h7.cg (fun i hi => p4 i (by omega))
  · rw [p2 87 (by decide)]; exact h8
/-! refused and granted -/
def xRf (A : aT) (k : Int32) (n : Nat) : aT × Int32 := ((A.1, A.2.1, A.2.2.1, (aFt A, k, upz (aRf A) n (aRf A n + 1)), A.2.2.2.2), k)
def xGd (A : aT) (v : Int32) : aT × Int32 := ((A.1, A.2.1, A.2.2.1, (aFt A, 0, aRf A), A.2.2.2.2), v)
def wX (A : aT) (X : kT) : aT := (X, A.2.1, A.2.2.1, A.2.2.2.1, A.2.2.2.2)
def wD (A : aT) (D : dT) : aT := wX A (D, A.1.2)
def wTp (A : aT) (t : Nat × (Nat → Int32)) : aT := (A.1, A.2.1, t, A.2.2.2.1, A.2.2.2.2)
theorem MS.w84 {F : Nat → Nat → Int32} {A : aT} (h : MS F A) {k : Nat → Int32} {X : kT} (hX : MX k X) : MS (upz F 84 k) (wX A X) := by
  obtain ⟨h1, h2, h3, h4, h5, h6, h7, h8⟩ := h
  refine ⟨by rw [upz_eq]; exact hX, ?_, ?_, ?_, ?_, ?_, ?_, ?_⟩
  · rw [upz_ne _ _ (by decide), upz_ne _ _ (by decide)]; exact h2
  · rw [upz_ne _ _ (by decide), upz_ne _ _ (by decide)]; exact h3
  · rw [upz_ne _ _ (by decide)]; exact h4
  · rw [upz_ne _ _ (by decide)]; exact h5
  · rw [upz_ne _ _ (by decide)]; exact h6
  · rw [upz_ne _ _ (by decide), upz_ne _ _ (by decide)]; exact h7
  · rw [upz_ne _ _ (by decide)]; exact h8
section MSA
variable {d : Nat} {h : am_H} {F : Nat → Nat → Int32} {J : Nat → Nat → Int64} {V : Nat → Nat → Value} {Q : am_Q}
set_option maxRecDepth 20000 in
theorem m_refuses {A : aT} (hA : MS F A) {k : Int32} {n : Nat} (hk : -k = nI n) (hn : n < 7) (K : ∀ F', Lo F F' → MS F' (xRf A k n).1 → Q (some (.int (xRf A k n).2)) (ov h F' J V)) : am_cl (d + 1) 176 [.ref 82, .int k] (ov h F J V) Q := by
  simp only [ax0, ex_cons, am_get, upz_at, true_and, and_true, Nat.reduceAdd, Nat.reduceLeDiff, Nat.reduceEqDiff, Nat.reduceSub, Int32.reduceOfInt, Int32.reduceAdd, Int32.reduceMul, Int32.reduceSub, ↓reduceIte, Int32.reduceLT, Int32.reduceLE, Int32.reduceToNatClampNeg, Nat.reduceMod, Nat.reduceLT, List.length_cons, List.length_nil, eq_self, true_or, or_true, and_self, implies_true, not_true_eq_false, not_false_eq_true, false_implies, true_implies, forall_const, st_aloadx, st_dup2x, st_dup2_1x, st_getfieldx, st_iaddx, st_ialoadx, st_iastorex, st_iconstx, st_iloadx, st_inegx, st_ireturnx, st_putfieldx, cx_Model_refuses, kb_Model_refuses_0, op_82_0, og_82_1, oa_82, os_82, oa_83, or_83, ow_83, os_83, hk, nk_neg (show n < 2147483648 by omega), nk_cl (show n < 2147483648 by omega), hn]
  obtain ⟨h1, h2, h3, h4, h5, h6, h7, h8⟩ := hA
  refine K _ ((Lo.rf.up (by decide) _).up (by decide) _) ⟨?_, ?_, ?_, ?_, ?_, ?_, ?_, ?_⟩
  · rw [upz_ne _ _ (by decide), upz_ne _ _ (by decide)]; exact h1
  · rw [upz_ne _ _ (by decide), upz_ne _ _ (by decide), upz_ne _ _ (by decide), upz_ne _ _ (by decide)]; exact h2
  · rw [upz_ne _ _ (by decide), upz_eq, upz_ne _ _ (by decide), upz_ne _ _ (by decide), upz_ne _ _ (by decide)]; exact h3
  · rw [upz_ne _ _ (by decide), upz_eq, upz_ne _ _ (by decide)]; exact h4
  · rw [upz_ne _ _ (by decide), upz_eq, upz_eq]; rfl
  · intro i hi
    rw [upz_eq]
    show _ = upz (aRf A) n (aRf A n + 1) i
    by_cases q : i = n
    · subst q
      rw [upz_eq, upz_eq]
      first
        | rw [upz_ne _ _ (show (83 : Nat) ≠ 82 by decide), h6 i hi]
        | rw [h6 i hi]
    · rw [upz_ne _ _ q, upz_ne _ _ q]
      first
        | rw [upz_ne _ _ (show (83 : Nat) ≠ 82 by decide)]; exact h6 i hi
        | exact h6 i hi
  · rw [upz_ne _ _ (by decide), upz_eq, upz_ne _ _ (by decide), upz_ne _ _ (by decide)]
    exact h7.cg (fun i hi => upz_ne _ _ (by omega))
  · rw [upz_ne _ _ (by decide), upz_ne _ _ (by decide)]; exact h8
set_option maxRecDepth 20000 in
theorem m_good {A : aT} (hA : MS F A) {v : Int32} (K : ∀ F', Lo F F' → MS F' (xGd A v).1 → Q (some (.int (xGd A v).2)) (ov h F' J V)) : am_cl (d + 1) 177 [.ref 82, .int v] (ov h F J V) Q := by
  simp only [ax0, ex_cons, am_get, upz_at, true_and, and_true, Nat.reduceAdd, Nat.reduceLeDiff, Nat.reduceEqDiff, Nat.reduceSub, Int32.reduceOfInt, Int32.reduceAdd, Int32.reduceMul, Int32.reduceSub, ↓reduceIte, Int32.reduceLT, Int32.reduceLE, Int32.reduceToNatClampNeg, Nat.reduceMod, Nat.reduceLT, List.length_cons, List.length_nil, eq_self, true_or, or_true, and_self, implies_true, not_true_eq_false, not_false_eq_true, false_implies, true_implies, forall_const, st_aloadx, st_iconstx, st_iloadx, st_ireturnx, st_putfieldx, cx_Model_good, kb_Model_good_0, op_82_0, oa_82, os_82]
  obtain ⟨h1, h2, h3, h4, h5, h6, h7, h8⟩ := hA
  refine K _ (Lo.rf.up (by decide) _) ⟨?_, ?_, ?_, ?_, ?_, ?_, ?_, ?_⟩
  · rw [upz_ne _ _ (by decide)]; exact h1
  · rw [upz_ne _ _ (by decide), upz_ne _ _ (by decide)]; exact h2
  · rw [upz_eq, upz_ne _ _ (by decide), upz_ne _ _ (by decide)]; exact h3
  · rw [upz_eq, upz_ne _ _ (by decide)]; exact h4
  · rw [upz_eq, upz_eq]; rfl
  · rw [upz_ne _ _ (by decide)]; exact h6
  · rw [upz_eq, upz_ne _ _ (by decide)]
    exact h7.cg (fun i hi => upz_ne _ _ (by omega))
  · rw [upz_ne _ _ (by decide)]; exact h8
end MSA
