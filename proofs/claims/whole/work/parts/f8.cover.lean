/-! ===== what the class wants of a world: things and placed names ===== -/
def bP (P : Nat) (i : Nat) : Bool := P.testBit i
theorem pcn_cn (P : Nat) : pcn P = cn (bP P) 4 := rfl
def thB (T : tT) (r i : Nat) : Bool := T.2.1.getD i (fun _ => false) r
def nbt (T : tT) (P r : Nat) : Nat → Nat
  | 0 => bt (thB T r) T.2.1.length
  | k + 1 => if bP P k && T.2.2 k r then nbt T P r k ||| 2 ^ (T.2.1.length + cn (bP P) k) else nbt T P r k
theorem nbt_bit {T : tT} {P r i : Nat} : ∀ k, (nbt T P r k).testBit i = true ↔ (i < T.2.1.length ∧ thB T r i = true) ∨ ∃ m, m < k ∧ bP P m = true ∧ T.2.2 m r = true ∧ i = T.2.1.length + cn (bP P) m
  | 0 => by
    show (bt (thB T r) T.2.1.length).testBit i = true ↔ _
    rw [bt_bit, Bool.and_eq_true, decide_eq_true_eq]
    exact ⟨Or.inl, fun z => z.elim id (fun ⟨m, h, _⟩ => absurd h (Nat.not_lt_zero m))⟩
  | k + 1 => by
    have ih := nbt_bit (T := T) (P := P) (r := r) (i := i) k
    unfold nbt
    by_cases z : (bP P k && T.2.2 k r) = true
    · rw [if_pos z, Nat.testBit_or, Bool.or_eq_true, ih]
      rw [Bool.and_eq_true] at z
      constructor
      · rintro ((h | ⟨m, h1, h2⟩) | h)
        · exact Or.inl h
        · exact Or.inr ⟨m, by omega, h2⟩
        · refine Or.inr ⟨k, Nat.lt_succ_self k, z.1, z.2, ?_⟩
          by_cases e : i = T.2.1.length + cn (bP P) k
          · exact e
          · rw [Nat.testBit_two_pow_of_ne (by omega)] at h; cases h
      · rintro (h | ⟨m, h1, h2, h3, h4⟩)
        · exact Or.inl (Or.inl h)
        · by_cases e : m = k
          · subst e
            rw [h4]
            exact Or.inr Nat.testBit_two_pow_self
          · exact Or.inl (Or.inr ⟨m, by omega, h2, h3, h4⟩)
    · rw [if_neg z, ih]
      constructor
      · rintro (h | ⟨m, h1, h2⟩)
        · exact Or.inl h
        · exact Or.inr ⟨m, by omega, h2⟩
      · rintro (h | ⟨m, h1, h2, h3, h4⟩)
        · exact Or.inl h
        · by_cases e : m = k
          · subst e
            exact absurd (by rw [h2, h3]; rfl) z
          · exact Or.inr ⟨m, by omega, h2, h3, h4⟩
def wN (T : tT) (P : Nat) : Nat := T.2.1.length + pcn P
def wN1 (T : tT) (P : Nat) : Nat := if wN T P = 0 then 1 else wN T P
/-- which wants a region meets -/
def cm (T : tT) (P r : Nat) : Nat := if T.1 r then 0 else if wN T P = 0 then 1 else nbt T P r 4
theorem nbt_lt {T : tT} {P r : Nat} : nbt T P r 4 < 2 ^ wN T P := by
  apply Nat.lt_pow_two_of_testBit
  intro i hi
  cases e : (nbt T P r 4).testBit i
  · rfl
  · exfalso
    rcases (nbt_bit 4).mp e with ⟨h, _⟩ | ⟨m, h1, h2, _, h4⟩
    · unfold wN at hi; omega
    · have := cn_lt (p := bP P) h2 h1
      unfold wN at hi
      rw [pcn_cn] at hi
      omega
theorem cm_lt {T : tT} {P r : Nat} : cm T P r < 2 ^ wN1 T P := by
  unfold cm wN1
  split
  · exact Nat.two_pow_pos _
  · split
    · decide
    · exact nbt_lt
theorem cmk_fr {T : tT} {P r : Nat} (h : T.1 r = false) : cm T P r = if wN T P = 0 then 1 else nbt T P r 4 := by
  unfold cm
  rw [h, if_neg Bool.false_ne_true]
theorem cm_ne {T : tT} {P r : Nat} (h : cm T P r ≠ 0) : T.1 r = false := by
  cases e : T.1 r
  · rfl
  · exact absurd (by unfold cm; rw [e, if_pos rfl]) h
/-- names that are not placed can be anywhere -/
def unP (T : tT) (P : Nat) : Prop := ∀ n, n < 4 → P.testBit n = false → ∀ r, r < 256 → T.2.2 n r = true
theorem cov_C {T : tT} {P : Nat} (hP : unP T P) {L : List Nat} (hL : ∀ r ∈ L, ffT T r) : cov T L ↔ ∀ i, i < wN1 T P → ∃ r ∈ L, (cm T P r).testBit i = true := by
  constructor
  · intro h i hi
    unfold wN1 at hi
    by_cases z : wN T P = 0
    · rw [if_pos z] at hi
      obtain ⟨r, r1, _⟩ := h T.2.1.length (by omega)
      refine ⟨r, r1, ?_⟩
      rw [cmk_fr (hL r r1).2, if_pos z, show i = 0 by omega]
      rfl
    · rw [if_neg z] at hi
      by_cases y : i < T.2.1.length
      · obtain ⟨r, r1, r2⟩ := h i (by omega)
        refine ⟨r, r1, ?_⟩
        rw [cmk_fr (hL r r1).2, if_neg z]
        unfold wP at r2
        rw [if_pos y] at r2
        exact (nbt_bit 4).mpr (Or.inl ⟨y, r2⟩)
      · have hi2 : i - T.2.1.length < cn (bP P) 4 := by unfold wN at hi; rw [pcn_cn] at hi; omega
        obtain ⟨m, m1, m2, m3⟩ := cn_at hi2
        obtain ⟨r, r1, r2⟩ := h (T.2.1.length + m) (by omega)
        refine ⟨r, r1, ?_⟩
        rw [cmk_fr (hL r r1).2, if_neg z]
        unfold wP at r2
        rw [if_neg (by omega), Nat.add_sub_cancel_left] at r2
        exact (nbt_bit 4).mpr (Or.inr ⟨m, m1, m2, r2, by omega⟩)
  · intro h i hi
    by_cases y : i < T.2.1.length
    · have z : ¬ wN T P = 0 := by unfold wN; omega
      obtain ⟨r, r1, r2⟩ := h i (by unfold wN1; rw [if_neg z]; unfold wN; omega)
      refine ⟨r, r1, ?_⟩
      rw [cmk_fr (hL r r1).2, if_neg z] at r2
      unfold wP
      rw [if_pos y]
      rcases (nbt_bit 4).mp r2 with ⟨_, w⟩ | ⟨m, _, _, _, w⟩
      · exact w
      · omega
    · unfold wP
      by_cases pm : P.testBit (i - T.2.1.length) = true
      · have lt := cn_lt (p := bP P) (a := i - T.2.1.length) (b := 4) pm (by omega)
        have z : ¬ wN T P = 0 := by unfold wN; rw [pcn_cn]; omega
        obtain ⟨r, r1, r2⟩ := h (T.2.1.length + cn (bP P) (i - T.2.1.length)) (by unfold wN1; rw [if_neg z]; unfold wN; rw [pcn_cn]; omega)
        refine ⟨r, r1, ?_⟩
        rw [cmk_fr (hL r r1).2, if_neg z] at r2
        rw [if_neg y]
        rcases (nbt_bit 4).mp r2 with ⟨w, _⟩ | ⟨m, w1, w2, w3, w4⟩
        · omega
        · have em : m = i - T.2.1.length := by
            rcases Nat.lt_trichotomy m (i - T.2.1.length) with t | t | t
            · have := cn_lt (p := bP P) w2 t; omega
            · exact t
            · have := cn_lt (p := bP P) pm t; omega
          rw [← em]; exact w3
      · rw [Bool.not_eq_true] at pm
        obtain ⟨r, r1, _⟩ := h 0 (by unfold wN1; split <;> omega)
        refine ⟨r, r1, ?_⟩
        rw [if_neg y]
        exact hP _ (by omega) pm r (hL r r1).1
def msA (T : tT) (P : Nat) : List Nat := (List.range 256).map (cm T P)
theorem msA_mem {T : tT} {P x : Nat} : x ∈ msA T P ↔ ∃ r, r < 256 ∧ cm T P r = x := by
  unfold msA
  rw [List.mem_map]
  exact ⟨fun ⟨r, h1, h2⟩ => ⟨r, List.mem_range.mp h1, h2⟩, fun ⟨r, h1, h2⟩ => ⟨r, List.mem_range.mpr h1, h2⟩⟩
def lfC (T : tT) (P : Nat) (pre : List Nat) : Nat := pre.foldl (fun a r => andn a (cm T P r)) (2 ^ wN1 T P - 1)
theorem lfC_app (T : tT) (P : Nat) (pre : List Nat) (r : Nat) : lfC T P (pre ++ [r]) = andn (lfC T P pre) (cm T P r) := by
  unfold lfC; rw [List.foldl_append]; rfl
theorem lfC_bit {T : tT} {P : Nat} {pre : List Nat} (i : Nat) : (lfC T P pre).testBit i = (decide (i < wN1 T P) && pre.all (fun r => !(cm T P r).testBit i)) := by
  unfold lfC
  have : ∀ (l : List Nat) (a : Nat), (l.foldl (fun a r => andn a (cm T P r)) a).testBit i = (a.testBit i && l.all (fun r => !(cm T P r).testBit i)) := by
    intro l
    induction l with
    | nil => intro a; simp
    | cons x l ih => intro a; rw [List.foldl_cons, ih, andn_bit, List.all_cons, Bool.and_assoc]
  rw [this pre _, Nat.testBit_two_pow_sub_one]
theorem lfC_le (T : tT) (P : Nat) (pre : List Nat) : lfC T P pre ≤ 2 ^ wN1 T P - 1 := by
  unfold lfC
  have : ∀ (l : List Nat) (a : Nat), l.foldl (fun a r => andn a (cm T P r)) a ≤ a := by
    intro l
    induction l with
    | nil => intro a; exact Nat.le_refl a
    | cons x l ih => intro a; exact Nat.le_trans (ih _) (andn_le a _)
  exact this pre _
theorem ms_reg {T : tT} {P : Nat} : ∀ l : List Nat, (∀ x ∈ l, x ∈ msA T P) → ∃ l' : List Nat, (∀ r ∈ l', ffT T r) ∧ l'.length ≤ l.length ∧ ∀ x ∈ l, x ≠ 0 → ∃ r ∈ l', cm T P r = x
  | [], _ => ⟨[], fun r hr => (List.not_mem_nil hr).elim, Nat.le_refl _, fun x hx => (List.not_mem_nil hx).elim⟩
  | x :: l, h => by
    obtain ⟨l', h1, h2, h3⟩ := ms_reg l (fun y hy => h y (List.mem_cons_of_mem _ hy))
    by_cases z : x = 0
    · refine ⟨l', h1, by rw [List.length_cons]; omega, fun y hy hn => ?_⟩
      rcases List.mem_cons.mp hy with e | e
      · exact absurd (e.trans z) hn
      · exact h3 y e hn
    · obtain ⟨r, r1, r2⟩ := msA_mem.mp (h x List.mem_cons_self)
      refine ⟨r :: l', fun q hq => ?_, by rw [List.length_cons, List.length_cons]; omega, fun y hy hn => ?_⟩
      · rcases List.mem_cons.mp hq with e | e
        · rw [e]; exact ⟨r1, cm_ne (P := P) (by rw [r2]; exact z)⟩
        · exact h1 q e
      · rcases List.mem_cons.mp hy with e | e
        · exact ⟨r, List.mem_cons_self, by rw [e]; exact r2⟩
        · obtain ⟨q, q1, q2⟩ := h3 y e hn
          exact ⟨q, List.mem_cons_of_mem _ q1, q2⟩
theorem bit_ne0 {x i : Nat} (h : x.testBit i = true) : x ≠ 0 := fun e => by rw [e, Nat.zero_testBit] at h; cases h
/-- worlds are covers -/
theorem ex_C {T : tT} {P : Nat} (hP : unP T P) {pre : List Nat} (hp : ∀ r ∈ pre, ffT T r) {k : Nat} : exW T pre k ↔ CVp (msA T P) k (lfC T P pre) := by
  constructor
  · rintro ⟨l, h1, h2, h3⟩
    have hL : ∀ r ∈ pre ++ l, ffT T r := fun r hr => (List.mem_append.mp hr).elim (hp r) (h1 r)
    rw [cov_C hP hL] at h3
    refine ⟨l.map (cm T P), fun x hx => ?_, by rw [List.length_map]; exact h2, fun i hi => ?_⟩
    · obtain ⟨r, r1, r2⟩ := List.mem_map.mp hx
      exact msA_mem.mpr ⟨r, (h1 r r1).1, r2⟩
    · rw [lfC_bit, Bool.and_eq_true, decide_eq_true_eq, List.all_eq_true] at hi
      obtain ⟨r, r1, r2⟩ := h3 i hi.1
      rcases List.mem_append.mp r1 with e | e
      · have := hi.2 r e
        rw [r2] at this; cases this
      · exact ⟨cm T P r, List.mem_map.mpr ⟨r, e, rfl⟩, r2⟩
  · rintro ⟨l, h1, h2, h3⟩
    obtain ⟨l', g1, g2, g3⟩ := ms_reg l h1
    have hL : ∀ r ∈ pre ++ l', ffT T r := fun r hr => (List.mem_append.mp hr).elim (hp r) (g1 r)
    refine ⟨l', g1, Nat.le_trans g2 h2, (cov_C hP hL).mpr (fun i hi => ?_)⟩
    by_cases e : pre.all (fun r => !(cm T P r).testBit i) = true
    · obtain ⟨x, x1, x2⟩ := h3 i (by rw [lfC_bit, decide_eq_true hi, e]; rfl)
      obtain ⟨r, r1, r2⟩ := g3 x x1 (bit_ne0 x2)
      exact ⟨r, List.mem_append_right _ r1, by rw [r2]; exact x2⟩
    · rw [List.all_eq_true] at e
      have : ∃ r, r ∈ pre ∧ (cm T P r).testBit i = true := by
        refine Classical.byContradiction fun z => e (fun x hx => ?_)
        rw [Bool.not_eq_true', ← Bool.not_eq_true]
        exact fun w => z ⟨x, hx, w⟩
      obtain ⟨r, hr, hw⟩ := this
      exact ⟨r, List.mem_append_left _ hr, hw⟩
/-- the fewest that cover -/
def Lst (T : tT) (P left b : Nat) : Prop := CVp (msA T P) b left ∧ ∀ p, CVp (msA T P) p left → b ≤ p
theorem Lst.uq {T : tT} {P left a b : Nat} (h : Lst T P left a) (g : Lst T P left b) : a = b := Nat.le_antisymm (h.2 b g.1) (g.2 a h.1)
theorem cv_mono {ms : List Nat} {p p' left left' : Nat} (h : CVp ms p left) (hp : p ≤ p') (hl : ∀ k, left'.testBit k = true → left.testBit k = true) : CVp ms p' left' := by
  obtain ⟨l, h1, h2, h3⟩ := h
  exact ⟨l, h1, by omega, fun k hk => h3 k (hl k hk)⟩
theorem cv_fit {T : tT} {P : Nat} (h : ∀ i, i < wN1 T P → ∃ r, r < 256 ∧ (cm T P r).testBit i = true) : ∀ n, n ≤ wN1 T P → ∀ left, left < 2 ^ n → CVp (msA T P) n left
  | 0, _, left, hl => by
    have : left = 0 := by omega
    rw [this]; exact cv_0 _ _
  | n + 1, hn, left, hl => by
    obtain ⟨r, r1, r2⟩ := h n (by omega)
    have hb : ∀ k, n ≤ k → (andn left (cm T P r)).testBit k = false := fun k hk => by
      rw [andn_bit]
      by_cases e : k = n
      · subst e; rw [r2]; simp
      · rw [Nat.testBit_lt_two_pow (Nat.lt_of_lt_of_le hl (Nat.pow_le_pow_right (by decide) (by omega)))]; rfl
    obtain ⟨l, h1, h2, h3⟩ := cv_fit h n (by omega) (andn left (cm T P r)) (Nat.lt_pow_two_of_testBit _ (fun k hk => hb k hk))
    refine ⟨cm T P r :: l, fun x hx => ?_, by rw [List.length_cons]; omega, fun k hk => ?_⟩
    · rcases List.mem_cons.mp hx with e | e
      · rw [e]; exact msA_mem.mpr ⟨r, r1, rfl⟩
      · exact h1 x e
    · cases e : (cm T P r).testBit k
      · obtain ⟨x, x1, x2⟩ := h3 k (by rw [andn_bit, hk, e]; rfl)
        exact ⟨x, List.mem_cons_of_mem _ x1, x2⟩
      · exact ⟨_, List.mem_cons_self, e⟩
theorem nq_C {T : tT} {P : Nat} (h : qz T (fun _ => false) = false) {i : Nat} (hi : i < wN1 T P) : ∃ r, r < 256 ∧ (cm T P r).testBit i = true := by
  unfold wN1 at hi
  by_cases z : wN T P = 0
  · obtain ⟨r, r1, r2⟩ := nq_w h (i := T.2.1.length) (by omega)
    rw [if_pos z] at hi
    exact ⟨r, r1.1, by rw [cmk_fr r1.2, if_pos z, show i = 0 by omega]; rfl⟩
  · rw [if_neg z] at hi
    by_cases y : i < T.2.1.length
    · obtain ⟨r, r1, r2⟩ := nq_w h (i := i) (by omega)
      unfold wP at r2
      rw [if_pos y] at r2
      exact ⟨r, r1.1, by rw [cmk_fr r1.2, if_neg z]; exact (nbt_bit 4).mpr (Or.inl ⟨y, r2⟩)⟩
    · have hi2 : i - T.2.1.length < cn (bP P) 4 := by unfold wN at hi; rw [pcn_cn] at hi; omega
      obtain ⟨m, m1, m2, m3⟩ := cn_at hi2
      obtain ⟨r, r1, r2⟩ := nq_w h (i := T.2.1.length + m) (by omega)
      unfold wP at r2
      rw [if_neg (by omega), Nat.add_sub_cancel_left] at r2
      exact ⟨r, r1.1, by rw [cmk_fr r1.2, if_neg z]; exact (nbt_bit 4).mpr (Or.inr ⟨m, m1, m2, r2, by omega⟩)⟩
