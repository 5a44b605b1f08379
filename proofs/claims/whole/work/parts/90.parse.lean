/-! ===== tokens and the parser, abstractly ===== -/
abbrev eT : Type := Int.Internal.Linear.Expr
abbrev pT : Type := eT × Nat × Nat
def ngT : Nat → eT → eT
  | 0, t => t
  | n + 1, t => .neg (ngT n t)
/-- how many "not" stand from here on -/
def ntC (C : Nat → Nat) : Nat → Nat → Nat
  | 0, _ => 0
  | f + 1, k => if C k = 8 then 1 + ntC C f (k + 1) else 0
def thenP (r : Option (Nat ⊕ pT)) (g : pT → Option (Nat ⊕ pT)) : Option (Nat ⊕ pT) := match r with
  | some (.inr x) => g x
  | some (.inl e) => some (.inl e)
  | none => none
/-- 0 a term, 1 its further "or", 2 a both, 3 its further "who are", 4 a plain -/
def pG (C : Nat → Nat) : Nat → Nat → Nat → Nat → Nat → eT → Option (Nat ⊕ pT)
  | 0, _, _, _, _, _ => none
  | f + 1, mode, dp, k, c, t =>
    if mode = 0 then thenP (pG C f 2 dp k c t) (fun x => pG C f 1 dp x.2.1 x.2.2 x.1)
    else if mode = 1 then (if C k = 11 then thenP (pG C f 2 dp (k + 1) c t) (fun x => pG C f 1 dp x.2.1 x.2.2 (.add t x.1)) else some (.inr (t, k, c)))
    else if mode = 2 then thenP (pG C f 4 dp k c t) (fun x => pG C f 3 dp x.2.1 x.2.2 x.1)
    else if mode = 3 then (if C k = 12 then (if C (k + 1) = 7 then thenP (pG C f 4 dp (k + 2) c t) (fun x => pG C f 3 dp x.2.1 x.2.2 (.sub t x.1)) else some (.inl (k + 1))) else some (.inr (t, k, c)))
    else if C (k + ntC C 401 k) = 140 then (if dp = 8 then some (.inl (k + ntC C 401 k)) else thenP (pG C f 0 (dp + 1) (k + ntC C 401 k + 1) c t) (fun x => if C x.2.1 = 141 then some (.inr (ngT (ntC C 401 k) x.1, x.2.1 + 1, x.2.2)) else some (.inl x.2.1)))
    else if 13 ≤ C (k + ntC C 401 k) ∧ C (k + ntC C 401 k) ≤ 20 then (if c = 24 then some (.inl (k + ntC C 401 k)) else some (.inr (ngT (ntC C 401 k) (.var (C (k + ntC C 401 k) - 13)), k + ntC C 401 k + 1, c + 1)))
    else some (.inl (k + ntC C 401 k))
theorem pG0 {C : Nat → Nat} {f dp k c : Nat} {t : eT} : pG C (f + 1) 0 dp k c t = thenP (pG C f 2 dp k c t) (fun x => pG C f 1 dp x.2.1 x.2.2 x.1) := rfl
theorem pG1 {C : Nat → Nat} {f dp k c : Nat} {t : eT} : pG C (f + 1) 1 dp k c t = (if C k = 11 then thenP (pG C f 2 dp (k + 1) c t) (fun x => pG C f 1 dp x.2.1 x.2.2 (.add t x.1)) else some (.inr (t, k, c))) := rfl
theorem pG2 {C : Nat → Nat} {f dp k c : Nat} {t : eT} : pG C (f + 1) 2 dp k c t = thenP (pG C f 4 dp k c t) (fun x => pG C f 3 dp x.2.1 x.2.2 x.1) := rfl
theorem pG3 {C : Nat → Nat} {f dp k c : Nat} {t : eT} : pG C (f + 1) 3 dp k c t = (if C k = 12 then (if C (k + 1) = 7 then thenP (pG C f 4 dp (k + 2) c t) (fun x => pG C f 3 dp x.2.1 x.2.2 (.sub t x.1)) else some (.inl (k + 1))) else some (.inr (t, k, c))) := rfl
theorem pG4 {C : Nat → Nat} {f dp k c : Nat} {t : eT} : pG C (f + 1) 4 dp k c t = (if C (k + ntC C 401 k) = 140 then (if dp = 8 then some (.inl (k + ntC C 401 k)) else thenP (pG C f 0 (dp + 1) (k + ntC C 401 k + 1) c t) (fun x => if C x.2.1 = 141 then some (.inr (ngT (ntC C 401 k) x.1, x.2.1 + 1, x.2.2)) else some (.inl x.2.1)))
    else if 13 ≤ C (k + ntC C 401 k) ∧ C (k + ntC C 401 k) ≤ 20 then (if c = 24 then some (.inl (k + ntC C 401 k)) else some (.inr (ngT (ntC C 401 k) (.var (C (k + ntC C 401 k) - 13)), k + ntC C 401 k + 1, c + 1)))
    else some (.inl (k + ntC C 401 k))) := rfl
/-- what a term's words take, a blank behind each -/
def wsT : eT → Nat
  | .var _ => 2
  | .neg a => 4 + wsT a
  | .sub a b => wsT a + wsT b + 8
  | .add a b => wsT a + wsT b + 3
  | _ => 0
def wtC (w : Nat) : Nat := if 1 ≤ w ∧ w ≤ 24 then lnW w + 1 else 0
/-- tokens: codes, potential, how many -/
def TKp (C P : Nat → Nat) (m : Nat) : Prop := (∀ k, k < m → P k + wtC (C k) ≤ P (k + 1)) ∧ (∀ k, m ≤ k → C k = 0) ∧ m ≤ 400
def okP (P : Nat → Nat) (m mode k c : Nat) (t : eT) : Nat ⊕ pT → Prop
  | .inl e => e ≤ m
  | .inr x => wfT x.1 ∧ x.2.1 ≤ m ∧ x.2.2 ≤ 24 ∧ (if mode = 1 ∨ mode = 3 then k ≤ x.2.1 ∧ x.2.2 + lvT t = c + lvT x.1 ∧ P k + wsT x.1 ≤ P x.2.1 + wsT t else k < x.2.1 ∧ x.2.2 = c + lvT x.1 ∧ P k + wsT x.1 ≤ P x.2.1)
theorem ng_wf {n : Nat} {t : eT} (h : wfT t) : wfT (ngT n t) := by
  induction n with
  | zero => exact h
  | succ n ih => exact ih
theorem ng_lv {n : Nat} {t : eT} : lvT (ngT n t) = lvT t := by
  induction n with
  | zero => rfl
  | succ n ih => exact ih
theorem ng_ws {n : Nat} {t : eT} : wsT (ngT n t) = 4 * n + wsT t := by
  induction n with
  | zero => rw [Nat.mul_zero, Nat.zero_add]; rfl
  | succ n ih => show 4 + wsT (ngT n t) = _; rw [ih]; omega
theorem tk_lt {C P : Nat → Nat} {m : Nat} (T : TKp C P m) {k : Nat} (h : C k ≠ 0) : k < m := by
  have := T.2.1 k
  omega
theorem nt_ok {C P : Nat → Nat} {m : Nat} (T : TKp C P m) : ∀ f k, k ≤ m → k + ntC C f k ≤ m ∧ P k + 4 * ntC C f k ≤ P (k + ntC C f k)
  | 0, k, h => ⟨h, Nat.le_refl _⟩
  | f + 1, k, h => by
    unfold ntC
    by_cases q : C k = 8
    · rw [if_pos q]
      have hk := tk_lt T (k := k) (by omega)
      obtain ⟨h1, h2⟩ := nt_ok T f (k + 1) hk
      have h3 := T.1 k hk
      have h4 : wtC (C k) = 4 := by rw [q]; decide
      rw [show k + (1 + ntC C f (k + 1)) = k + 1 + ntC C f (k + 1) by omega]
      exact ⟨h1, by omega⟩
    · rw [if_neg q]
      exact ⟨h, Nat.le_refl _⟩
theorem nt_end {C P : Nat → Nat} {m : Nat} (T : TKp C P m) : ∀ f k, m < k + f → k ≤ m → ¬ C (k + ntC C f k) = 8
  | 0, k, h, _ => by omega
  | f + 1, k, h, hk0 => by
    unfold ntC
    by_cases q : C k = 8
    · rw [if_pos q]
      have hk := tk_lt T (k := k) (by omega)
      have := nt_end T f (k + 1) (by omega) hk
      rw [show k + (1 + ntC C f (k + 1)) = k + 1 + ntC C f (k + 1) by omega]
      exact this
    · rw [if_neg q]; exact q
theorem thenP_ok {r : Option (Nat ⊕ pT)} {g : pT → Option (Nat ⊕ pT)} {z : Nat ⊕ pT} (h : thenP r g = some z) : (∃ e, r = some (.inl e) ∧ z = .inl e) ∨ ∃ x, r = some (.inr x) ∧ g x = some z := by
  unfold thenP at h
  cases r with
  | none => cases h
  | some y =>
    cases y with
    | inl e => cases h; exact Or.inl ⟨e, rfl, rfl⟩
    | inr x => exact Or.inr ⟨x, rfl, h⟩
theorem pG_ok {C P : Nat → Nat} {m : Nat} (T : TKp C P m) : ∀ (f mode dp k c : Nat) (t : eT) (z : Nat ⊕ pT), k ≤ m → c ≤ 24 → (mode = 1 ∨ mode = 3 → wfT t) → mode ≤ 4 → pG C f mode dp k c t = some z → okP P m mode k c t z := by
  intro f
  induction f with
  | zero => intro mode dp k c t z _ _ _ _ h; cases h
  | succ f ih =>
    intro mode dp k c t z hk hc ht hm h
    rcases (show mode = 0 ∨ mode = 1 ∨ mode = 2 ∨ mode = 3 ∨ mode = 4 by omega) with e | e | e | e | e <;> subst e
    · rw [pG0] at h
      rcases thenP_ok h with ⟨e, h1, h2⟩ | ⟨x, h1, h2⟩
      · subst h2; exact ih 2 dp k c t _ hk hc (fun q => by omega) (by omega) h1
      · have a1 := ih 2 dp k c t _ hk hc (fun q => by omega) (by omega) h1
        obtain ⟨a1, a2, a3, a4⟩ := a1
        rw [if_neg (by omega)] at a4
        have b1 := ih 1 dp x.2.1 x.2.2 x.1 z a2 a3 (fun _ => a1) (by omega) h2
        cases z with
        | inl e => exact b1
        | inr y =>
          obtain ⟨b1, b2, b3, b4⟩ := b1
          rw [if_pos (Or.inl rfl)] at b4
          refine ⟨b1, b2, b3, ?_⟩
          rw [if_neg (by omega)]
          omega
    · rw [pG1] at h
      have ht := ht (Or.inl rfl)
      by_cases q : C k = 11
      · rw [if_pos q] at h
        have hk1 := tk_lt T (k := k) (by omega)
        have hw := T.1 k hk1
        have hw2 : wtC (C k) = 3 := by rw [q]; decide
        rcases thenP_ok h with ⟨e, h1, h2⟩ | ⟨x, h1, h2⟩
        · subst h2; exact ih 2 dp (k + 1) c t _ hk1 hc (fun q => by omega) (by omega) h1
        · have a1 := ih 2 dp (k + 1) c t _ hk1 hc (fun q => by omega) (by omega) h1
          obtain ⟨a1, a2, a3, a4⟩ := a1
          rw [if_neg (by omega)] at a4
          have b1 := ih 1 dp x.2.1 x.2.2 (.add t x.1) z a2 a3 (fun _ => ⟨ht, a1⟩) (by omega) h2
          cases z with
          | inl e => exact b1
          | inr y =>
            obtain ⟨b1, b2, b3, b4⟩ := b1
            rw [if_pos (Or.inl rfl)] at b4
            have l1 : lvT (.add t x.1) = lvT t + lvT x.1 := rfl
            have l2 : wsT (.add t x.1) = wsT t + wsT x.1 + 3 := rfl
            rw [l1, l2] at b4
            refine ⟨b1, b2, b3, ?_⟩
            rw [if_pos (Or.inl rfl)]
            omega
      · rw [if_neg q] at h
        cases h
        refine ⟨ht, hk, hc, ?_⟩
        rw [if_pos (Or.inl rfl)]
        exact ⟨Nat.le_refl _, rfl, Nat.le_refl _⟩
    · rw [pG2] at h
      rcases thenP_ok h with ⟨e, h1, h2⟩ | ⟨x, h1, h2⟩
      · subst h2; exact ih 4 dp k c t _ hk hc (fun q => by omega) (by omega) h1
      · have a1 := ih 4 dp k c t _ hk hc (fun q => by omega) (by omega) h1
        obtain ⟨a1, a2, a3, a4⟩ := a1
        rw [if_neg (by omega)] at a4
        have b1 := ih 3 dp x.2.1 x.2.2 x.1 z a2 a3 (fun _ => a1) (by omega) h2
        cases z with
        | inl e => exact b1
        | inr y =>
          obtain ⟨b1, b2, b3, b4⟩ := b1
          rw [if_pos (Or.inr rfl)] at b4
          refine ⟨b1, b2, b3, ?_⟩
          rw [if_neg (by omega)]
          omega
    · rw [pG3] at h
      have ht := ht (Or.inr rfl)
      by_cases q : C k = 12
      · rw [if_pos q] at h
        have hk1 := tk_lt T (k := k) (by omega)
        have hw := T.1 k hk1
        have hw2 : wtC (C k) = 4 := by rw [q]; decide
        by_cases q2 : C (k + 1) = 7
        · rw [if_pos q2] at h
          have hk2 := tk_lt T (k := k + 1) (by omega)
          have hw3 := T.1 (k + 1) hk2
          have hw4 : wtC (C (k + 1)) = 4 := by rw [q2]; decide
          rw [show k + 1 + 1 = k + 2 from rfl] at hw3
          rcases thenP_ok h with ⟨e, h1, h2⟩ | ⟨x, h1, h2⟩
          · subst h2; exact ih 4 dp (k + 2) c t _ hk2 hc (fun q => by omega) (by omega) h1
          · have a1 := ih 4 dp (k + 2) c t _ hk2 hc (fun q => by omega) (by omega) h1
            obtain ⟨a1, a2, a3, a4⟩ := a1
            rw [if_neg (by omega)] at a4
            have b1 := ih 3 dp x.2.1 x.2.2 (.sub t x.1) z a2 a3 (fun _ => ⟨ht, a1⟩) (by omega) h2
            cases z with
            | inl e => exact b1
            | inr y =>
              obtain ⟨b1, b2, b3, b4⟩ := b1
              rw [if_pos (Or.inr rfl)] at b4
              have l1 : lvT (.sub t x.1) = lvT t + lvT x.1 := rfl
              have l2 : wsT (.sub t x.1) = wsT t + wsT x.1 + 8 := rfl
              rw [l1, l2] at b4
              refine ⟨b1, b2, b3, ?_⟩
              rw [if_pos (Or.inr rfl)]
              omega
        · rw [if_neg q2] at h
          cases h
          exact hk1
      · rw [if_neg q] at h
        cases h
        refine ⟨ht, hk, hc, ?_⟩
        rw [if_pos (Or.inr rfl)]
        exact ⟨Nat.le_refl _, rfl, Nat.le_refl _⟩
    · rw [pG4] at h
      obtain ⟨n1, n2⟩ := nt_ok T 401 k hk
      generalize ntC C 401 k = n at *
      by_cases q : C (k + n) = 140
      · rw [if_pos q] at h
        have hk1 := tk_lt T (k := k + n) (by omega)
        have hw := T.1 (k + n) hk1
        by_cases q2 : dp = 8
        · rw [if_pos q2] at h
          cases h
          exact n1
        · rw [if_neg q2] at h
          rcases thenP_ok h with ⟨e, h1, h2⟩ | ⟨x, h1, h2⟩
          · subst h2; exact ih 0 (dp + 1) (k + n + 1) c t _ hk1 hc (fun q => by omega) (by omega) h1
          · have a1 := ih 0 (dp + 1) (k + n + 1) c t _ hk1 hc (fun q => by omega) (by omega) h1
            obtain ⟨a1, a2, a3, a4⟩ := a1
            rw [if_neg (by omega)] at a4
            by_cases q3 : C x.2.1 = 141
            · rw [if_pos q3] at h2
              cases h2
              have hk2 := tk_lt T (k := x.2.1) (by omega)
              have hw2 := T.1 x.2.1 hk2
              refine ⟨ng_wf a1, hk2, a3, ?_⟩
              rw [if_neg (by omega)]
              show k < x.2.1 + 1 ∧ x.2.2 = c + lvT (ngT n x.1) ∧ P k + wsT (ngT n x.1) ≤ P (x.2.1 + 1)
              rw [ng_lv, ng_ws]
              omega
            · rw [if_neg q3] at h2
              cases h2
              exact a2
      · rw [if_neg q] at h
        by_cases q2 : 13 ≤ C (k + n) ∧ C (k + n) ≤ 20
        · rw [if_pos q2] at h
          have hk1 := tk_lt T (k := k + n) (by omega)
          have hw := T.1 (k + n) hk1
          have hw2 : wtC (C (k + n)) = 2 := by
            have := (by decide : ∀ w : Fin 21, 13 ≤ w.val → wtC w.val = 2) ⟨C (k + n), by omega⟩ q2.1
            exact this
          by_cases q3 : c = 24
          · rw [if_pos q3] at h
            cases h
            exact n1
          · rw [if_neg q3] at h
            cases h
            refine ⟨ng_wf (by show C (k + n) - 13 < 8; omega), hk1, by show c + 1 ≤ 24; omega, ?_⟩
            rw [if_neg (by omega)]
            show k < k + n + 1 ∧ c + 1 = c + lvT (ngT n (.var (C (k + n) - 13))) ∧ P k + wsT (ngT n (.var (C (k + n) - 13))) ≤ P (k + n + 1)
            rw [ng_lv, ng_ws]
            have l1 : lvT (.var (C (k + n) - 13)) = 1 := rfl
            have l2 : wsT (.var (C (k + n) - 13)) = 2 := rfl
            rw [l1, l2]
            omega
        · rw [if_neg q2] at h
          cases h
          exact n1
def needP (mode r : Nat) : Nat := 4 * r + (if mode = 0 then 3 else if mode = 2 then 2 else 1)
theorem pG_tot {C P : Nat → Nat} {m : Nat} (T : TKp C P m) : ∀ (f mode dp k c : Nat) (t : eT), k ≤ m → c ≤ 24 → (mode = 1 ∨ mode = 3 → wfT t) → mode ≤ 4 → needP mode (m - k) ≤ f → ∃ z, pG C f mode dp k c t = some z := by
  intro f
  induction f with
  | zero => intro mode dp k c t _ _ _ _ h; unfold needP at h; split at h <;> (try split at h) <;> omega
  | succ f ih =>
    intro mode dp k c t hk hc ht hm hf
    unfold needP at ih hf
    rcases (show mode = 0 ∨ mode = 1 ∨ mode = 2 ∨ mode = 3 ∨ mode = 4 by omega) with e | e | e | e | e <;> subst e
    · rw [pG0]
      simp only [if_pos] at hf
      obtain ⟨z, hz⟩ := ih 2 dp k c t hk hc (fun q => by omega) (by omega) (by simp; omega)
      rw [hz]
      cases z with
      | inl e => exact ⟨_, rfl⟩
      | inr x =>
        obtain ⟨a1, a2, a3, a4⟩ := pG_ok T f 2 dp k c t _ hk hc (fun q => by omega) (by omega) hz
        rw [if_neg (by omega)] at a4
        exact ih 1 dp x.2.1 x.2.2 x.1 a2 a3 (fun _ => a1) (by omega) (by simp; omega)
    · rw [pG1]
      have ht := ht (Or.inl rfl)
      by_cases q : C k = 11
      · rw [if_pos q]
        have hk1 := tk_lt T (k := k) (by omega)
        simp at hf
        obtain ⟨z, hz⟩ := ih 2 dp (k + 1) c t hk1 hc (fun q => by omega) (by omega) (by simp; omega)
        rw [hz]
        cases z with
        | inl e => exact ⟨_, rfl⟩
        | inr x =>
          obtain ⟨a1, a2, a3, a4⟩ := pG_ok T f 2 dp (k + 1) c t _ hk1 hc (fun q => by omega) (by omega) hz
          rw [if_neg (by omega)] at a4
          exact ih 1 dp x.2.1 x.2.2 (.add t x.1) a2 a3 (fun _ => ⟨ht, a1⟩) (by omega) (by simp; omega)
      · rw [if_neg q]; exact ⟨_, rfl⟩
    · rw [pG2]
      simp at hf
      obtain ⟨z, hz⟩ := ih 4 dp k c t hk hc (fun q => by omega) (by omega) (by simp; omega)
      rw [hz]
      cases z with
      | inl e => exact ⟨_, rfl⟩
      | inr x =>
        obtain ⟨a1, a2, a3, a4⟩ := pG_ok T f 4 dp k c t _ hk hc (fun q => by omega) (by omega) hz
        rw [if_neg (by omega)] at a4
        exact ih 3 dp x.2.1 x.2.2 x.1 a2 a3 (fun _ => a1) (by omega) (by simp; omega)
    · rw [pG3]
      have ht := ht (Or.inr rfl)
      by_cases q : C k = 12
      · rw [if_pos q]
        have hk1 := tk_lt T (k := k) (by omega)
        by_cases q2 : C (k + 1) = 7
        · rw [if_pos q2]
          have hk2 := tk_lt T (k := k + 1) (by omega)
          simp at hf
          obtain ⟨z, hz⟩ := ih 4 dp (k + 2) c t hk2 hc (fun q => by omega) (by omega) (by simp; omega)
          rw [hz]
          cases z with
          | inl e => exact ⟨_, rfl⟩
          | inr x =>
            obtain ⟨a1, a2, a3, a4⟩ := pG_ok T f 4 dp (k + 2) c t _ hk2 hc (fun q => by omega) (by omega) hz
            rw [if_neg (by omega)] at a4
            exact ih 3 dp x.2.1 x.2.2 (.sub t x.1) a2 a3 (fun _ => ⟨ht, a1⟩) (by omega) (by simp; omega)
        · rw [if_neg q2]; exact ⟨_, rfl⟩
      · rw [if_neg q]; exact ⟨_, rfl⟩
    · rw [pG4]
      obtain ⟨n1, n2⟩ := nt_ok T 401 k hk
      generalize ntC C 401 k = n at *
      by_cases q : C (k + n) = 140
      · rw [if_pos q]
        have hk1 := tk_lt T (k := k + n) (by omega)
        by_cases q2 : dp = 8
        · rw [if_pos q2]; exact ⟨_, rfl⟩
        · rw [if_neg q2]
          simp at hf
          obtain ⟨z, hz⟩ := ih 0 (dp + 1) (k + n + 1) c t hk1 hc (fun q => by omega) (by omega) (by simp; omega)
          rw [hz]
          cases z with
          | inl e => exact ⟨_, rfl⟩
          | inr x =>
            show ∃ z, (if C x.2.1 = 141 then some (Sum.inr (ngT n x.1, x.2.1 + 1, x.2.2)) else some (Sum.inl x.2.1)) = some z
            split <;> exact ⟨_, rfl⟩
      · rw [if_neg q]
        split
        · split <;> exact ⟨_, rfl⟩
        · exact ⟨_, rfl⟩
