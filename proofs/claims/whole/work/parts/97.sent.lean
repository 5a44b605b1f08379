/-! ===== sentences, abstractly ===== -/
def pQ (C : Nat → Nat) (m k c : Nat) : Nat ⊕ pT := (pG C (4 * m + 4) 0 0 k c (.var 0)).getD (.inl 0)
theorem pQ_some {C P : Nat → Nat} {m : Nat} (T : TKp C P m) {k c : Nat} (hk : k ≤ m) (hc : c ≤ 24) : pG C (4 * m + 4) 0 0 k c (.var 0) = some (pQ C m k c) := by
  obtain ⟨z, hz⟩ := pG_tot T (4 * m + 4) 0 0 k c (.var 0) hk hc (fun q => by omega) (by omega) (by unfold needP; simp; omega)
  unfold pQ
  rw [hz]; rfl
theorem pQ_ok {C P : Nat → Nat} {m : Nat} (T : TKp C P m) {k c : Nat} (hk : k ≤ m) (hc : c ≤ 24) : okP P m 0 k c (.var 0) (pQ C m k c) := pG_ok T (4 * m + 4) 0 0 k c (.var 0) _ hk hc (fun q => by omega) (by omega) (pQ_some T hk hc)
def thenQ (r : Nat ⊕ pT) (g : pT → Nat ⊕ (rT × Nat)) : Nat ⊕ (rT × Nat) := match r with
  | .inl e => .inl e
  | .inr x => g x
def psN (C : Nat → Nat) (m : Nat) : Nat ⊕ (rT × Nat) := if C 1 = 10 then thenQ (pQ C m (if C 2 = 8 then 3 else 2) 0) (fun x => .inr ((10, decide (C 2 = 8), C 0 - 21, .var 0, x.1), x.2.1)) else .inl 1
def psT (C : Nat → Nat) (m : Nat) : Nat ⊕ (rT × Nat) := if C 1 = 7 then thenQ (pQ C m (if C 2 = 2 then 3 else 2) 0) (fun x => .inr ((9, decide (C 2 = 2), 0, .var 0, x.1), x.2.1)) else .inl 1
def flA (C : Nat → Nat) (k : Nat) : Bool := decide (C 0 = 3) && decide (C k = 8)
def psB (C : Nat → Nat) (m : Nat) (x : pT) : Nat ⊕ (rT × Nat) := if C x.2.1 = 7 then thenQ (pQ C m (if flA C (x.2.1 + 1) then x.2.1 + 2 else x.2.1 + 1) x.2.2) (fun y => .inr ((C 0, flA C (x.2.1 + 1), 0, x.1, y.1), y.2.1)) else .inl x.2.1
def psF (C : Nat → Nat) (m : Nat) : Nat ⊕ (rT × Nat) := if C 0 = 5 then (if C 1 = 6 then thenQ (pQ C m 2 0) (psB C m) else .inl 1) else thenQ (pQ C m 1 0) (psB C m)
def psS (C : Nat → Nat) (m : Nat) : Nat ⊕ (rT × Nat) := if 21 ≤ C 0 ∧ C 0 ≤ 24 then psN C m else if C 0 = 9 then psT C m else if 1 ≤ C 0 ∧ C 0 ≤ 5 then psF C m else .inl 0
def psE (C : Nat → Nat) (m : Nat) : Nat ⊕ rT := match psS C m with
  | .inl e => .inl e
  | .inr x => if x.2 < m then .inl x.2 else .inr x.1
theorem cd_ws {t : eT} (h : wfT t) : 4 * (cdT t).length + 1 ≤ wsT t + 3 * lvT t := by
  induction t with
  | var i => exact Nat.le_refl 5
  | neg a ih => rw [cl_neg]; have := ih h; show _ ≤ 4 + wsT a + 3 * lvT a; omega
  | sub a b iha ihb => rw [cl_sub]; have := iha h.1; have := ihb h.2; show _ ≤ wsT a + wsT b + 8 + 3 * (lvT a + lvT b); omega
  | add a b iha ihb => rw [cl_add]; have := iha h.1; have := ihb h.2; show _ ≤ wsT a + wsT b + 3 + 3 * (lvT a + lvT b); omega
  | num _ => exact h.elim
  | mulL _ _ _ => exact h.elim
  | mulR _ _ _ => exact h.elim
def okS (m : Nat) : Nat ⊕ (rT × Nat) → Prop
  | .inl e => e ≤ m
  | .inr x => wfR x.1 ∧ x.2 ≤ m ∧ (if x.1.1 < 9 then wsT x.1.2.2.2.1 else 0) + wsT x.1.2.2.2.2 ≤ 401 ∧ (if x.1.1 < 9 then lvT x.1.2.2.2.1 else 0) + lvT x.1.2.2.2.2 ≤ 24
theorem psS_ok {C P : Nat → Nat} {m : Nat} (T : TKp C P m) (hP : ∀ k, k ≤ m → P k ≤ 401) : okS m (psS C m) := by
  unfold psS
  have zk : ∀ k, C k ≠ 0 → k + 1 ≤ m := fun k hk => tk_lt T hk
  have one : ∀ (f : Nat) (fl : Bool) (nm k : Nat), (f = 9 ∨ f = 10) → nm < 4 → k ≤ m → okS m (thenQ (pQ C m k 0) (fun x => .inr ((f, fl, nm, .var 0, x.1), x.2.1))) := by
    intro f fl nm k hf hnm hk
    have h1 := pQ_ok T hk (c := 0) (by decide)
    cases e : pQ C m k 0 with
    | inl e1 => rw [e] at h1; exact h1
    | inr x =>
      rw [e] at h1
      obtain ⟨a1, a2, a3, a4⟩ := h1
      rw [if_neg (by omega)] at a4
      have hp := hP _ a2
      have hc := cd_ws a1
      have e1 : rC1 (f, fl, nm, (Int.Internal.Linear.Expr.var 0 : eT), x.1) = [] := by unfold rC1; rw [if_neg (by show ¬ f < 9; omega)]
      have e2 : rC2 (f, fl, nm, (Int.Internal.Linear.Expr.var 0 : eT), x.1) = cdT x.1 := rfl
      refine ⟨⟨?_, fun q => ?_, ⟨a1, by show lvT x.1 ≤ 24; omega⟩, ?_, fun _ => hnm⟩, a2, ?_, ?_⟩
      · show isF f; unfold isF; omega
      · exact absurd q (show ¬ f < 9 by omega)
      · show (rC1 (f, fl, nm, (Int.Internal.Linear.Expr.var 0 : eT), x.1)).length + (rC2 (f, fl, nm, (Int.Internal.Linear.Expr.var 0 : eT), x.1)).length ≤ 160
        rw [e1, e2]
        have : ([] : List Nat).length = 0 := rfl
        omega
      · show (if f < 9 then wsT (Int.Internal.Linear.Expr.var 0) else 0) + wsT x.1 ≤ 401
        rw [if_neg (by omega)]; omega
      · show (if f < 9 then lvT (Int.Internal.Linear.Expr.var 0) else 0) + lvT x.1 ≤ 24
        rw [if_neg (by omega)]; omega
  have two : ∀ k, k ≤ m → 1 ≤ C 0 → C 0 ≤ 5 → okS m (thenQ (pQ C m k 0) (psB C m)) := by
    intro k hk c1 c5
    have h1 := pQ_ok T hk (c := 0) (by decide)
    cases e : pQ C m k 0 with
    | inl e1 => rw [e] at h1; exact h1
    | inr x =>
      rw [e] at h1
      obtain ⟨a1, a2, a3, a4⟩ := h1
      rw [if_neg (by omega)] at a4
      show okS m (psB C m x)
      unfold psB
      by_cases q : C x.2.1 = 7
      · rw [if_pos q]
        have k1 := zk x.2.1 (by omega)
        have w1 := T.1 x.2.1 k1
        have k2 : (if flA C (x.2.1 + 1) then x.2.1 + 2 else x.2.1 + 1) ≤ m ∧ P (x.2.1 + 1) ≤ P (if flA C (x.2.1 + 1) then x.2.1 + 2 else x.2.1 + 1) := by
          cases e : flA C (x.2.1 + 1)
          · rw [if_neg Bool.false_ne_true]; exact ⟨k1, Nat.le_refl _⟩
          · rw [if_pos rfl]
            unfold flA at e
            rw [Bool.and_eq_true] at e
            have e2 := of_decide_eq_true e.2
            have k3 := zk (x.2.1 + 1) (by omega)
            have w2 := T.1 (x.2.1 + 1) k3
            exact ⟨k3, by have : P (x.2.1 + 1 + 1) = P (x.2.1 + 2) := rfl; omega⟩
        have h2 := pQ_ok T k2.1 (c := x.2.2) a3
        cases e2 : pQ C m (if flA C (x.2.1 + 1) then x.2.1 + 2 else x.2.1 + 1) x.2.2 with
        | inl e3 => rw [e2] at h2; exact h2
        | inr y =>
          rw [e2] at h2
          obtain ⟨b1, b2, b3, b4⟩ := h2
          rw [if_neg (by omega)] at b4
          have hp := hP _ b2
          have hc := cd_ws a1
          have hc2 := cd_ws b1
          have e1 : rC1 (C 0, flA C (x.2.1 + 1), 0, x.1, y.1) = cdT x.1 := by unfold rC1; rw [if_pos (by show C 0 < 9; omega)]
          refine ⟨⟨?_, fun _ => ⟨a1, by show lvT x.1 ≤ 24; omega⟩, ⟨b1, by show lvT y.1 ≤ 24; omega⟩, ?_, fun q => ?_⟩, b2, ?_, ?_⟩
          · show isF (C 0); unfold isF; omega
          · show (rC1 (C 0, flA C (x.2.1 + 1), 0, x.1, y.1)).length + (cdT y.1).length ≤ 160
            rw [e1]; omega
          · show (0 : Nat) < 4; decide
          · show (if C 0 < 9 then wsT x.1 else 0) + wsT y.1 ≤ 401
            rw [if_pos (by omega)]; omega
          · show (if C 0 < 9 then lvT x.1 else 0) + lvT y.1 ≤ 24
            rw [if_pos (by omega)]; omega
      · rw [if_neg q]; exact a2
  by_cases q1 : 21 ≤ C 0 ∧ C 0 ≤ 24
  · rw [if_pos q1]
    unfold psN
    have z0 := zk 0 (by omega)
    by_cases q : C 1 = 10
    · rw [if_pos q]
      have z1 := zk 1 (by omega)
      refine one 10 _ _ _ (Or.inr rfl) (by omega) ?_
      split
      · rename_i q3; have := zk 2 (by omega); omega
      · omega
    · rw [if_neg q]; exact z0
  · rw [if_neg q1]
    by_cases q2 : C 0 = 9
    · rw [if_pos q2]
      unfold psT
      have z0 := zk 0 (by omega)
      by_cases q : C 1 = 7
      · rw [if_pos q]
        have z1 := zk 1 (by omega)
        refine one 9 _ _ _ (Or.inl rfl) (by decide) ?_
        split
        · rename_i q3; have := zk 2 (by omega); omega
        · omega
      · rw [if_neg q]; exact z0
    · rw [if_neg q2]
      by_cases q3 : 1 ≤ C 0 ∧ C 0 ≤ 5
      · rw [if_pos q3]
        unfold psF
        have z0 := zk 0 (by omega)
        by_cases q4 : C 0 = 5
        · rw [if_pos q4]
          by_cases q5 : C 1 = 6
          · rw [if_pos q5]
            have z1 := zk 1 (by omega)
            exact two 2 z1 q3.1 q3.2
          · rw [if_neg q5]; exact z0
        · rw [if_neg q4]
          exact two 1 z0 q3.1 q3.2
      · rw [if_neg q3]; exact Nat.zero_le _
