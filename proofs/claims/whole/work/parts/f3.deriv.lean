/-! ===== a round of derivation, by what is there ahead of it ===== -/
def prD (ex : Bool) (r : Nat → Int32) (a b x : Nat) : Prop := x < 256 ∧ a < 256 ∧ b < 256 ∧ ¬ r a = -1 ∧ ¬ r b = -1 ∧ cdd ex a b = nI x
def gdD (ex : Bool) (r : Nat → Int32) (rd : Int32) (S : (Nat → Int32) × Bool) : Prop := (∀ x, x < 256 → (¬ r x = -1 → S.1 x = r x) ∧ (r x = -1 → S.1 x = -1 ∨ S.1 x = rd ∧ ∃ a b, prD ex r a b x)) ∧ (S.2 = true ↔ ∃ x, x < 256 ∧ r x = -1 ∧ S.1 x = rd)
theorem cdd_n {ex : Bool} {a b : Nat} (na : isNu a = true) (nb : isNu b = true) (h : ¬ cdd ex a b = -1) : ∃ n, n < 256 ∧ isNu n = true ∧ cdd ex a b = nI n := by
  rcases cdd_or (ex := ex) na nb with z | z
  · exact absurd z h
  · exact z
theorem rOl_r {ex : Bool} {r : Nat → Int32} {rd : Int32} {S : (Nat → Int32) × Bool} (hx : ∀ x, x < 256 → ¬ r x = rd) (g : gdD ex r rd S) {b : Nat} (hb : b < 256) : rOl S.1 rd b = true ↔ ¬ r b = -1 := by
  unfold rOl
  rw [Bool.and_eq_true, Bool.not_eq_true', Bool.not_eq_true', decide_eq_false_iff_not, decide_eq_false_iff_not]
  constructor
  · rintro ⟨h1, h2⟩ e
    rcases (g.1 b hb).2 e with z | ⟨z, _⟩
    · exact h1 z
    · exact h2 z
  · intro e
    rw [(g.1 b hb).1 e]
    exact ⟨e, hx b hb⟩
theorem stB_gd {ex : Bool} {r : Nat → Int32} {rd : Int32} (hr : ¬ rd = -1) (hx : ∀ x, x < 256 → ¬ r x = rd) (hv : nuV r) {S : (Nat → Int32) × Bool} (g : gdD ex r rd S) {a b : Nat} (ha : a < 256) (hb : b < 256) (pa : ¬ r a = -1) : gdD ex r rd (stB ex rd a b S) ∧ (∀ x, ¬ S.1 x = -1 → ¬ (stB ex rd a b S).1 x = -1) ∧ ∀ x, prD ex r a b x → ¬ (stB ex rd a b S).1 x = -1 := by
  have ro := rOl_r hx g hb
  unfold stB
  by_cases q : (rOl S.1 rd b && !decide (cdd ex a b = -1) && decide (S.1 (cdd ex a b).toNatClampNeg = -1)) = true
  · rw [if_pos q]
    rw [Bool.and_eq_true, Bool.and_eq_true, Bool.not_eq_true', decide_eq_false_iff_not, decide_eq_true_eq] at q
    obtain ⟨⟨q1, q2⟩, q3⟩ := q
    have pb := ro.mp q1
    obtain ⟨n, n1, n2, n3⟩ := cdd_n (ex := ex) (hv a ha pa) (hv b hb pb) q2
    have en : (cdd ex a b).toNatClampNeg = n := by rw [n3]; exact nk_cl (by omega)
    rw [en] at q3 ⊢
    have rn : r n = -1 := Classical.byContradiction fun e => e (by rw [← (g.1 n n1).1 e]; exact q3)
    refine ⟨⟨fun x hx => ⟨fun e => ?_, fun e => ?_⟩, ⟨fun _ => ⟨n, n1, rn, upz_eq _ _ _⟩, fun _ => rfl⟩⟩, fun x e => ?_, fun x p => ?_⟩
    · show upz S.1 n rd x = r x
      rw [upz_ne _ _ (fun z => e (by rw [z]; exact rn))]
      exact (g.1 x hx).1 e
    · show upz S.1 n rd x = -1 ∨ upz S.1 n rd x = rd ∧ _
      by_cases z : x = n
      · rw [z, upz_eq]
        exact Or.inr ⟨rfl, a, b, n1, ha, hb, pa, pb, n3⟩
      · rw [upz_ne _ _ z]
        exact (g.1 x hx).2 e
    · show ¬ upz S.1 n rd x = -1
      rw [upz_at]
      split
      · exact hr
      · exact e
    · obtain ⟨p0, _, _, _, _, p5⟩ := p
      rw [n3, nk_eq (by omega) (by omega)] at p5
      show ¬ upz S.1 n rd x = -1
      rw [← p5, upz_eq]
      exact hr
  · rw [if_neg q]
    refine ⟨g, fun x e => e, fun x p e => q ?_⟩
    obtain ⟨p0, _, _, p3, p4, p5⟩ := p
    rw [ro.mpr p4, p5, decide_eq_false (by rw [nI_neg1 (by omega)]; exact id), nk_cl (by omega), decide_eq_true e]
    rfl
theorem swB_gd {ex : Bool} {r : Nat → Int32} {rd : Int32} (hr : ¬ rd = -1) (hx : ∀ x, x < 256 → ¬ r x = rd) (hv : nuV r) {a : Nat} (ha : a < 256) (pa : ¬ r a = -1) : ∀ (j b : Nat) (S : (Nat → Int32) × Bool), b + j = 256 → gdD ex r rd S → gdD ex r rd (swB ex rd a j b S) ∧ (∀ x, ¬ S.1 x = -1 → ¬ (swB ex rd a j b S).1 x = -1) ∧ ∀ b' x, b ≤ b' → prD ex r a b' x → ¬ (swB ex rd a j b S).1 x = -1
  | 0, b, S, e, g => ⟨g, fun _ z => z, fun b' x h1 p => absurd p.2.2.1 (by omega)⟩
  | j + 1, b, S, e, g => by
    obtain ⟨g1, g2, g3⟩ := stB_gd hr hx hv g ha (show b < 256 by omega) pa
    obtain ⟨k1, k2, k3⟩ := swB_gd hr hx hv ha pa j (b + 1) (stB ex rd a b S) (by omega) g1
    unfold swB
    refine ⟨k1, fun x z => k2 x (g2 x z), fun b' x h1 p => ?_⟩
    by_cases z : b' = b
    · subst z; exact k2 x (g3 x p)
    · exact k3 b' x (by omega) p
theorem swA_gd {ex : Bool} {r : Nat → Int32} {rd : Int32} (hr : ¬ rd = -1) (hx : ∀ x, x < 256 → ¬ r x = rd) (hv : nuV r) : ∀ (j a : Nat) (S : (Nat → Int32) × Bool), a + j = 256 → gdD ex r rd S → gdD ex r rd (swA ex rd j a S) ∧ (∀ x, ¬ S.1 x = -1 → ¬ (swA ex rd j a S).1 x = -1) ∧ ∀ a' b' x, a ≤ a' → prD ex r a' b' x → ¬ (swA ex rd j a S).1 x = -1
  | 0, a, S, e, g => ⟨g, fun _ z => z, fun a' b' x h1 p => absurd p.2.1 (by omega)⟩
  | j + 1, a, S, e, g => by
    have ro := rOl_r hx g (show a < 256 by omega)
    unfold swA
    by_cases pa : r a = -1
    · rw [if_neg (fun z => ro.mp z pa)]
      obtain ⟨k1, k2, k3⟩ := swA_gd hr hx hv j (a + 1) S (by omega) g
      refine ⟨k1, k2, fun a' b' x h1 p => ?_⟩
      by_cases z : a' = a
      · subst z; exact absurd pa p.2.2.2.1
      · exact k3 a' b' x (by omega) p
    · rw [if_pos (ro.mpr pa)]
      obtain ⟨g1, g2, g3⟩ := swB_gd hr hx hv (show a < 256 by omega) pa 256 0 S (by omega) g
      obtain ⟨k1, k2, k3⟩ := swA_gd hr hx hv j (a + 1) (swB ex rd a 256 0 S) (by omega) g1
      refine ⟨k1, fun x z => k2 x (g2 x z), fun a' b' x h1 p => ?_⟩
      by_cases z : a' = a
      · subst z; exact k2 x (g3 b' x (Nat.zero_le _) p)
      · exact k3 a' b' x (by omega) p
theorem swA_ch {ex : Bool} {r : Nat → Int32} {rd : Int32} (hr : ¬ rd = -1) (hx : ∀ x, x < 256 → ¬ r x = rd) (hv : nuV r) : gdD ex r rd (swA ex rd 256 0 (r, false)) ∧ ∀ a b x, prD ex r a b x → ¬ (swA ex rd 256 0 (r, false)).1 x = -1 := by
  obtain ⟨g1, _, g3⟩ := swA_gd (ex := ex) hr hx hv 256 0 (r, false) rfl ⟨fun x hx => ⟨fun _ => rfl, fun e => Or.inl e⟩, ⟨fun z => (by cases z), fun ⟨x, h1, h2, h3⟩ => absurd h3 (hx x h1)⟩⟩
  exact ⟨g1, fun a b x p => g3 a b x (Nat.zero_le _) p⟩
/-- a round done otherwise gives the same -/
theorem swA_eq {ex : Bool} {r s : Nat → Int32} {rd : Int32} (hr : ¬ rd = -1) (hx : ∀ x, x < 256 → ¬ r x = rd) (hv : nuV r) (h1 : ∀ x, x < 256 → ¬ r x = -1 → s x = r x) (h2 : ∀ x, x < 256 → r x = -1 → s x = -1 ∨ s x = rd ∧ ∃ a b, prD ex r a b x) (h3 : ∀ a b x, prD ex r a b x → ¬ s x = -1) : ∀ x, x < 256 → s x = (swA ex rd 256 0 (r, false)).1 x := by
  obtain ⟨⟨g1, _⟩, g3⟩ := swA_ch (ex := ex) hr hx hv
  intro x hx
  by_cases e : r x = -1
  · rcases h2 x hx e with z | ⟨z, a, b, p⟩
    · rcases (g1 x hx).2 e with w | ⟨w, a, b, p⟩
      · rw [z, w]
      · exact absurd z (h3 a b x p)
    · rcases (g1 x hx).2 e with w | ⟨w, _⟩
      · exact absurd w (g3 a b x p)
      · rw [z, w]
  · rw [h1 x hx e, (g1 x hx).1 e]
/-! by which two: the first -/
def okB (ex : Bool) (r : Nat → Int32) (x a b : Nat) : Prop := a < 256 ∧ b < 256 ∧ lieB (r a) 0 (r x - 1) = true ∧ lieB (r b) 0 (r x - 1) = true ∧ cdd ex a b = nI x
def byP (ex : Bool) (r : Nat → Int32) (x a b : Nat) : Prop := okB ex r x a b ∧ ∀ a' b', okB ex r x a' b' → a < a' ∨ a = a' ∧ b ≤ b'
theorem byB_none {ex : Bool} {r : Nat → Int32} {x a : Nat} : ∀ (j b : Nat), b + j = 256 → (∀ b', b ≤ b' → b' < 256 → lieB (r b') 0 (r x - 1) = true → ¬ cdd ex a b' = nI x) → byB ex r x a j b = none
  | 0, _, _, _ => rfl
  | j + 1, b, e, h => by
    unfold byB
    rw [if_neg, byB_none j (b + 1) (by omega) (fun b' h1 h2 => h b' (by omega) h2)]
    rw [Bool.and_eq_true, decide_eq_true_eq]
    exact fun z => h b (Nat.le_refl _) (by omega) z.1 z.2
theorem byB_some {ex : Bool} {r : Nat → Int32} {x a c : Nat} (hc : c < 256) (h1 : lieB (r c) 0 (r x - 1) = true) (h2 : cdd ex a c = nI x) : ∀ (j b : Nat), b + j = 256 → b ≤ c → (∀ b', b ≤ b' → b' < c → lieB (r b') 0 (r x - 1) = true → ¬ cdd ex a b' = nI x) → byB ex r x a j b = some c
  | 0, b, e, hb, _ => by omega
  | j + 1, b, e, hb, h => by
    unfold byB
    by_cases z : b = c
    · subst z
      rw [h1, h2, decide_eq_true rfl]
      exact if_pos rfl
    · rw [if_neg, byB_some hc h1 h2 j (b + 1) (by omega) (by omega) (fun b' p1 p2 => h b' (by omega) p2)]
      rw [Bool.and_eq_true, decide_eq_true_eq]
      exact fun y => h b (Nat.le_refl _) (by omega) y.1 y.2
theorem byA_some {ex : Bool} {r : Nat → Int32} {x a c : Nat} (p : byP ex r x a c) : ∀ (j b : Nat), b + j = 256 → b ≤ a → byA ex r x j b = some (a, c)
  | 0, b, e, hb => by have := p.1.1; omega
  | j + 1, b, e, hb => by
    obtain ⟨⟨p1, p2, p3, p4, p5⟩, p6⟩ := id p
    unfold byA
    by_cases z : b = a
    · subst z
      rw [if_pos p3, byB_some p2 p4 p5 256 0 rfl (Nat.zero_le _) (fun b' h1 h2 h3 h4 => by
        rcases p6 b b' ⟨p1, by omega, p3, h3, h4⟩ with w | ⟨_, w⟩ <;> omega)]
    · by_cases y : lieB (r b) 0 (r x - 1) = true
      · rw [if_pos y, byB_none 256 0 rfl (fun b' h1 h2 h3 h4 => by
          rcases p6 b b' ⟨by omega, h2, y, h3, h4⟩ with w | ⟨w, _⟩ <;> omega)]
        exact byA_some p j (b + 1) (by omega) (by omega)
      · rw [if_neg y]
        exact byA_some p j (b + 1) (by omega) (by omega)
theorem byA_P {ex : Bool} {r : Nat → Int32} {x a c : Nat} (p : byP ex r x a c) : byA ex r x 256 0 = some (a, c) := byA_some p 256 0 rfl (Nat.zero_le _)
theorem rdW_S {ex : Bool} {j n : Nat} {r : Nat → Int32} : rdW ex (j + 1) n r = if (swA ex (nI (n + 1)) 256 0 (r, false)).2 then rdW ex j (n + 1) (swA ex (nI (n + 1)) 256 0 (r, false)).1 else ((swA ex (nI (n + 1)) 256 0 (r, false)).1, n) := rfl
