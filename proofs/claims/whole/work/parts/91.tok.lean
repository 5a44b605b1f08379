/-! ===== tokens of a tape ===== -/
def sml (b : Int32) : Bool := !decide (b < 97) && !decide (122 < b)
def dgt (b : Int32) : Bool := !decide (b < 48) && !decide (57 < b)
def rnF (q : Int32 → Bool) (t : Nat → Int32) (n : Nat) : Nat → Nat → Nat
  | 0, p => p
  | f + 1, p => if decide (p < n) && q (t p) then rnF q t n f (p + 1) else p
def rn (q : Int32 → Bool) (t : Nat → Int32) (n p : Nat) : Nat := rnF q t n (n - p) p
theorem rnF_ok (q : Int32 → Bool) (t : Nat → Int32) (n : Nat) : ∀ f p, n - p ≤ f → p ≤ rnF q t n f p ∧ (p ≤ n → rnF q t n f p ≤ n) ∧ (rnF q t n f p < n → q (t (rnF q t n f p)) = false) ∧ (∀ i, p ≤ i → i < rnF q t n f p → i < n ∧ q (t i) = true)
  | 0, p, h => ⟨Nat.le_refl _, fun g => g, fun g => by have g : p < n := g; omega, fun i h1 h2 => by have h2 : i < p := h2; omega⟩
  | f + 1, p, h => by
    unfold rnF
    by_cases g : (decide (p < n) && q (t p)) = true
    · rw [if_pos g]
      rw [Bool.and_eq_true] at g
      have gp : p < n := of_decide_eq_true g.1
      obtain ⟨a1, a2, a3, a4⟩ := rnF_ok q t n f (p + 1) (by omega)
      refine ⟨by omega, fun _ => a2 gp, a3, fun i h1 h2 => ?_⟩
      by_cases e : i = p
      · subst e; exact ⟨gp, g.2⟩
      · exact a4 i (by omega) h2
    · rw [if_neg g]
      refine ⟨Nat.le_refl _, fun g => g, fun gp => ?_, fun i h1 h2 => by omega⟩
      rw [decide_eq_true gp, Bool.true_and] at g
      rw [Bool.not_eq_true] at g
      exact g
def teP (t : Nat → Int32) (n p : Nat) : Nat := if sml (t p) then rn sml t n (p + 1) else if dgt (t p) then rn dgt t n (p + 1) else p + 1
def mtW (t : Nat → Int32) (p w : Nat) : Bool := (List.range (lnW w)).all (fun i => decide (nI (wdL.getD (stW w + i) 0) = t (p + i)))
def wcF (t : Nat → Int32) (p len : Nat) : Nat → Nat → Nat
  | 0, _ => 0
  | j + 1, w => if decide (lnW w = len) && mtW t p w then w else wcF t p len j (w + 1)
def tcP (t : Nat → Int32) (n p : Nat) : Nat := if sml (t p) then wcF t p (teP t n p - p) 24 1 else if dgt (t p) then 90 else 100 + (t p &&& 255).toNatClampNeg
def tkL (t : Nat → Int32) (n : Nat) : Nat → Nat → List (Nat × Nat)
  | 0, _ => []
  | f + 1, p => if n ≤ p then [] else if t p = 32 then tkL t n f (p + 1) else (p, tcP t n p) :: tkL t n f (teP t n p)
def tkA (t : Nat → Int32) (n : Nat) : List (Nat × Nat) := tkL t n n 0
def plL (n : Nat) (l : List (Nat × Nat)) (k : Nat) : Nat := (l.getD k (n, 0)).1
def cdL (l : List (Nat × Nat)) (k : Nat) : Nat := (l.getD k (0, 0)).2
def ppL (n : Nat) (l : List (Nat × Nat)) (k : Nat) : Nat := plL n l k + (if 1 ≤ cdL l k ∧ cdL l k ≤ 24 then 0 else 1)
theorem teP_gt (t : Nat → Int32) (n p : Nat) : p < teP t n p := by
  unfold teP rn
  split
  · have := (rnF_ok sml t n (n - (p + 1)) (p + 1) (Nat.le_refl _)).1; omega
  · split
    · have := (rnF_ok dgt t n (n - (p + 1)) (p + 1) (Nat.le_refl _)).1; omega
    · omega
theorem teP_le {t : Nat → Int32} {n p : Nat} (h : p < n) : teP t n p ≤ n := by
  unfold teP rn
  split
  · exact (rnF_ok sml t n (n - (p + 1)) (p + 1) (Nat.le_refl _)).2.1 h
  · split
    · exact (rnF_ok dgt t n (n - (p + 1)) (p + 1) (Nat.le_refl _)).2.1 h
    · exact h
theorem wcF_ok (t : Nat → Int32) (p len : Nat) : ∀ j w, wcF t p len j w = 0 ∨ (w ≤ wcF t p len j w ∧ wcF t p len j w < w + j ∧ lnW (wcF t p len j w) = len ∧ mtW t p (wcF t p len j w) = true)
  | 0, w => Or.inl rfl
  | j + 1, w => by
    unfold wcF
    split
    · rename_i g
      rw [Bool.and_eq_true] at g
      exact Or.inr ⟨Nat.le_refl _, by omega, of_decide_eq_true g.1, g.2⟩
    · rcases wcF_ok t p len j (w + 1) with e | ⟨e1, e2, e3, e4⟩
      · exact Or.inl e
      · exact Or.inr ⟨by omega, by omega, e3, e4⟩
theorem tcP_lt (t : Nat → Int32) (n p : Nat) : tcP t n p < 356 := by
  unfold tcP
  split
  · rcases wcF_ok t p (teP t n p - p) 24 1 with e | ⟨e1, e2, e3, e4⟩ <;> omega
  · split
    · omega
    · have h : (t p &&& 255).toNatClampNeg < 256 := by
        have h1 : (t p &&& 255).toInt = ((t p).toBitVec &&& 255#32).toInt := by
          show (t p &&& 255).toBitVec.toInt = _
          rw [Int32.toBitVec_and]; rfl
        have h2 : ((t p).toBitVec &&& 255#32).toNat < 256 := by
          rw [BitVec.toNat_and]
          exact Nat.lt_of_le_of_lt Nat.and_le_right (by decide)
        have h3 : ((t p).toBitVec &&& 255#32).toInt = (((t p).toBitVec &&& 255#32).toNat : Int) := BitVec.toInt_eq_toNat_of_lt (by omega)
        show (t p &&& 255).toInt.toNat < 256
        rw [h1, h3]
        omega
      omega
theorem tcP_word {t : Nat → Int32} {n p : Nat} (h1 : 1 ≤ tcP t n p) (h2 : tcP t n p ≤ 24) : sml (t p) = true ∧ lnW (tcP t n p) = teP t n p - p ∧ mtW t p (tcP t n p) = true := by
  unfold tcP at h1 h2 ⊢
  cases e : sml (t p)
  · rw [e, if_neg Bool.false_ne_true] at h2
    split at h2 <;> omega
  · rw [e, if_pos rfl] at h1
    rw [if_pos rfl]
    rcases wcF_ok t p (teP t n p - p) 24 1 with g | ⟨e1, e2, e3, e4⟩
    · omega
    · exact ⟨rfl, e3, e4⟩
theorem pl_0 {n : Nat} {x : Nat × Nat} {l : List (Nat × Nat)} : plL n (x :: l) 0 = x.1 := rfl
theorem pl_S {n : Nat} {x : Nat × Nat} {l : List (Nat × Nat)} {k : Nat} : plL n (x :: l) (k + 1) = plL n l k := rfl
theorem cd_0 {x : Nat × Nat} {l : List (Nat × Nat)} : cdL (x :: l) 0 = x.2 := rfl
theorem cd_S {x : Nat × Nat} {l : List (Nat × Nat)} {k : Nat} : cdL (x :: l) (k + 1) = cdL l k := rfl
theorem pp_S {n : Nat} {x : Nat × Nat} {l : List (Nat × Nat)} {k : Nat} : ppL n (x :: l) (k + 1) = ppL n l k := rfl
theorem tk_ok (t : Nat → Int32) (n : Nat) : ∀ f p, n - p ≤ f → p ≤ n → (tkL t n f p).length ≤ n - p ∧ p ≤ plL n (tkL t n f p) 0 ∧ (p < n → sml (t p) = false → 1 ≤ cdL (tkL t n f p) 0 → cdL (tkL t n f p) 0 ≤ 24 → p + 1 ≤ plL n (tkL t n f p) 0) ∧ (∀ k, k ≤ (tkL t n f p).length → ppL n (tkL t n f p) k ≤ n + 1) ∧ ∀ k, k < (tkL t n f p).length → ppL n (tkL t n f p) k + wtC (cdL (tkL t n f p) k) ≤ ppL n (tkL t n f p) (k + 1)
  | 0, p, h, hp => by
    refine ⟨Nat.zero_le _, by show p ≤ n; exact hp, fun h1 _ _ _ => by omega, fun k hk => ?_, fun k hk => absurd hk (Nat.not_lt_zero k)⟩
    have hk : k ≤ 0 := hk
    have : k = 0 := by omega
    subst this
    exact Nat.le_refl _
  | f + 1, p, h, hp => by
    unfold tkL
    by_cases g : n ≤ p
    · rw [if_pos g]
      refine ⟨Nat.zero_le _, by show p ≤ n; exact hp, fun h1 _ _ _ => by omega, fun k hk => ?_, fun k hk => absurd hk (Nat.not_lt_zero k)⟩
      have hk : k ≤ 0 := hk
      have : k = 0 := by omega
      subst this
      exact Nat.le_refl _
    · rw [if_neg g]
      by_cases g2 : t p = 32
      · rw [if_pos g2]
        obtain ⟨a1, a2, a3, a4, a5⟩ := tk_ok t n f (p + 1) (by omega) (by omega)
        exact ⟨by omega, by omega, fun _ _ _ _ => a2, a4, a5⟩
      · rw [if_neg g2]
        have e1 := teP_gt t n p
        have e2 := teP_le (t := t) (n := n) (p := p) (by omega)
        obtain ⟨a1, a2, a3, a4, a5⟩ := tk_ok t n f (teP t n p) (by omega) e2
        have key : ppL n ((p, tcP t n p) :: tkL t n f (teP t n p)) 0 + wtC (tcP t n p) ≤ ppL n (tkL t n f (teP t n p)) 0 := by
          show p + (if 1 ≤ tcP t n p ∧ tcP t n p ≤ 24 then 0 else 1) + wtC (tcP t n p) ≤ plL n (tkL t n f (teP t n p)) 0 + (if 1 ≤ cdL (tkL t n f (teP t n p)) 0 ∧ cdL (tkL t n f (teP t n p)) 0 ≤ 24 then 0 else 1)
          unfold wtC
          by_cases w : 1 ≤ tcP t n p ∧ tcP t n p ≤ 24
          · rw [if_pos w, if_pos w]
            obtain ⟨w1, w2, w3⟩ := tcP_word w.1 w.2
            rw [w2]
            by_cases w4 : 1 ≤ cdL (tkL t n f (teP t n p)) 0 ∧ cdL (tkL t n f (teP t n p)) 0 ≤ 24
            · rw [if_pos w4]
              by_cases w5 : teP t n p < n
              · have w6 : sml (t (teP t n p)) = false := by
                  have z := (rnF_ok sml t n (n - (p + 1)) (p + 1) (Nat.le_refl _)).2.2.1
                  have z1 : teP t n p = rnF sml t n (n - (p + 1)) (p + 1) := by unfold teP rn; rw [w1, if_pos rfl]
                  rw [z1] at w5 ⊢
                  exact z w5
                have := a3 w5 w6 w4.1 w4.2
                omega
              · exfalso
                have : tkL t n f (teP t n p) = [] := by
                  cases f with
                  | zero => rfl
                  | succ f => unfold tkL; rw [if_pos (by omega)]
                rw [this] at w4
                exact absurd w4.1 (by decide)
            · rw [if_neg w4]; omega
          · rw [if_neg w, if_neg w]; omega
        refine ⟨by rw [List.length_cons]; omega, Nat.le_refl p, fun _ q1 q2 q3 => ?_, fun k hk => ?_, fun k hk => ?_⟩
        · have := tcP_word (t := t) (n := n) (p := p) q2 q3
          rw [q1] at this
          exact absurd this.1 Bool.false_ne_true
        · cases k with
          | zero => have := a4 0 (Nat.zero_le _); omega
          | succ k => rw [pp_S]; exact a4 k (by rw [List.length_cons] at hk; omega)
        · cases k with
          | zero => exact key
          | succ k => rw [pp_S, cd_S, pp_S]; exact a5 k (by rw [List.length_cons] at hk; omega)
theorem cd_out {l : List (Nat × Nat)} {k : Nat} (h : l.length ≤ k) : cdL l k = 0 := by
  unfold cdL
  rw [List.getD_eq_getElem?_getD, List.getElem?_eq_none h]; rfl
theorem pl_out {n : Nat} {l : List (Nat × Nat)} {k : Nat} (h : l.length ≤ k) : plL n l k = n := by
  unfold plL
  rw [List.getD_eq_getElem?_getD, List.getElem?_eq_none h]; rfl
theorem tkA_p (t : Nat → Int32) {n : Nat} (hn : n ≤ 400) : TKp (cdL (tkA t n)) (ppL n (tkA t n)) (tkA t n).length := by
  obtain ⟨a1, a2, a3, a4, a5⟩ := tk_ok t n n 0 (by omega) (by omega)
  exact ⟨a5, fun k hk => cd_out hk, by have : (tkA t n).length ≤ n - 0 := a1; omega⟩
theorem tkA_n (t : Nat → Int32) (n : Nat) : (tkA t n).length ≤ n := (tk_ok t n n 0 (by omega) (by omega)).1
theorem tkA_b (t : Nat → Int32) (n : Nat) {k : Nat} (hk : k ≤ (tkA t n).length) : ppL n (tkA t n) k ≤ n + 1 := (tk_ok t n n 0 (by omega) (by omega)).2.2.2.1 k hk
