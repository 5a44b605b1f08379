/-! ===== the abstract heap and the machine's ===== -/
abbrev am_D : Type := (Nat → Nat) × Nat × va_G × (Nat → ClassId) × (Nat → ClassId) × (Nat → am_E)
def am_ad (G : am_D) (a : Nat) : Nat := if a < 23 then G.1 a else G.2.1 + (a - 23)
def am_v (G : am_D) : Value → Value
  | .ref a => .ref (am_ad G a)
  | .int x => .int x
  | .long x => .long x
  | .float x => .float x
  | .double x => .double x
  | .null => .null
  | .retAddr n => .retAddr n
theorem am_v_cat (G : am_D) (v : Value) : (am_v G v).category = v.category := by cases v <;> rfl
theorem am_ad_hi {G : am_D} {a : Nat} (h : 23 ≤ a) : am_ad G a = G.2.1 + (a - 23) := if_neg (Nat.not_lt.mpr h)
theorem am_ad_lo {G : am_D} {a : Nat} (h : a < 23) : am_ad G a = G.1 a := if_pos h
theorem am_ad_inj {G : am_D} {a b : Nat} (ha : 23 ≤ a) (hb : 23 ≤ b) (h : am_ad G a = am_ad G b) : a = b := by
  rw [am_ad_hi ha, am_ad_hi hb] at h
  omega
def am_arr (c : ClassId) (vs : List Value) : Cell := { cls := c, slots := vs.toArray, vm := .none }
def am_at (G : am_D) : am_E → Nat → Heap → Prop
  | .inl (c, fs), q, H => ∃ r : vw_C, am_cls[c]? = some r ∧ fs.length = r.2.2 ∧ t_OB q (G.2.2.1.1 c) r.2.2 (G.2.2.1.2 c) H (vp_V (fs.map (am_v G)))
  | .inr (t, .inl xs), q, H => t < 3 ∧ (t = 1 → ∀ x ∈ xs, x.toInt8.toInt32 = x) ∧ H[q]? = some (am_arr (G.2.2.2.1 t) (xs.map .int))
  | .inr (t, .inr (.inl xs)), q, H => t = 3 ∧ H[q]? = some (am_arr (G.2.2.2.1 3) (xs.map .long))
  | .inr (t, .inr (.inr xs)), q, H => (t = 6 ∨ t = 2) ∧ H[q]? = some (am_arr (G.2.2.2.2.1 t) (xs.map (am_v G)))
theorem am_at.kept {G : am_D} {e : am_E} {q : Nat} {H H1 : Heap} (h : am_at G e q H) (hq : H1[q]? = H[q]?) : am_at G e q H1 := by
  match e, h with
  | .inl (c, fs), ⟨r, h1, h2, h3⟩ => exact ⟨r, h1, h2, h3.kept hq⟩
  | .inr (t, .inl xs), ⟨h1, h2, h3⟩ => exact ⟨h1, h2, hq.trans h3⟩
  | .inr (t, .inr (.inl xs)), ⟨h1, h2⟩ => exact ⟨h1, hq.trans h2⟩
  | .inr (t, .inr (.inr xs)), ⟨h1, h2⟩ => exact ⟨h1, hq.trans h2⟩
def am_rel (G : am_D) (h : am_H) (H : Heap) : Prop :=
  23 ≤ h.2.1 ∧ H.size = G.2.1 + (h.2.1 - 23) ∧ (∀ a, 23 ≤ a → a < h.2.1 → am_at G (h.1 a) (am_ad G a) H) ∧ (∀ a, a < 23 → h.1 a = G.2.2.2.2.2 a) ∧ ∀ a, h.2.1 ≤ a → h.1 a = am_bad
theorem am_rel.set {G : am_D} {h : am_H} {H H1 : Heap} {a : Nat} {e : am_E} (hr : am_rel G h H) (h1 : 23 ≤ a) (h2 : a < h.2.1) (hz : H1.size = H.size) (ho : ∀ q, q ≠ am_ad G a → H1[q]? = H[q]?) (he : am_at G e (am_ad G a) H1) : am_rel G (am_set h a e) H1 := by
  obtain ⟨r1, r2, r3, r4, r5⟩ := hr
  refine ⟨r1, by rw [hz]; exact r2, fun b b1 b2 => ?_, fun b hb => ?_, fun b hb => ?_⟩
  · by_cases hba : b = a
    · subst hba
      rw [am_set_eq]
      exact he
    · rw [am_set_ne _ _ hba]
      exact (r3 b b1 b2).kept (ho _ (fun q => hba (am_ad_inj b1 h1 q)))
  · rw [am_set_ne _ _ (by omega)]
    exact r4 b hb
  · have hb' : h.2.1 ≤ b := hb
    rw [am_set_ne _ _ (by omega)]
    exact r5 b hb
theorem am_rel.new {G : am_D} {h : am_H} {H : Heap} {cell : Cell} {e : am_E} {n : Nat} (hr : am_rel G h H) (he : am_at G e H.size (H.push cell)) : am_rel G (am_new h e n) (H.push cell) := by
  obtain ⟨r1, r2, r3, r4, r5⟩ := hr
  have hn : am_ad G h.2.1 = H.size := by rw [am_ad_hi r1, r2]
  refine ⟨Nat.le_succ_of_le r1, by show (H.push cell).size = G.2.1 + (h.2.1 + 1 - 23); rw [Array.size_push, r2]; omega, fun b b1 b2 => ?_, fun b hb => ?_, fun b hb => ?_⟩
  · rw [am_new1]
    by_cases hb : b = h.2.1
    · rw [if_pos hb, hb, hn]
      exact he
    · rw [if_neg hb]
      have b2' : b < h.2.1 + 1 := b2
      have b3 : b < h.2.1 := by omega
      refine (r3 b b1 b3).kept ?_
      have : am_ad G b < H.size := by rw [am_ad_hi b1, r2]; omega
      rw [Array.getElem?_push, if_neg (Nat.ne_of_lt this)]
  · rw [am_new1, if_neg (by omega)]
    exact r4 b hb
  · have hb' : h.2.1 + 1 ≤ b := hb
    rw [am_new1, if_neg (by omega)]
    exact r5 b (by omega)
/-! locals -/
theorem am_get_eq (ls : List Value) (n : Nat) : am_get ls n = (ls[n]?).getD am_dum := by
  induction ls generalizing n with
  | nil => rfl
  | cons v vs ih => cases n with
    | zero => rfl
    | succ n => simpa [am_get] using ih n
theorem am_get_some {ls : List Value} {n : Nat} {v : Value} (h : am_get ls n = v) (hv : ∀ k, v ≠ .retAddr k) : ls[n]? = some v := by
  rw [am_get_eq] at h
  cases hq : ls[n]? with
  | none => rw [hq] at h; exact absurd h.symm (hv 0)
  | some w => rw [hq] at h; exact congrArg some h
theorem am_put_len (ls : List Value) (n : Nat) (x : Value) : (am_put ls n x).length = ls.length := by
  induction ls generalizing n with
  | nil => rfl
  | cons v vs ih => match n with
    | 0 => rfl
    | 1 => simp [am_put, ih]
    | n + 2 => simp [am_put, ih]
theorem am_put_get (ls : List Value) (n : Nat) (x : Value) (j : Nat) : (am_put ls n x)[j]? = if j = n then (if n < ls.length then some x else none) else if j + 1 = n then (ls[j]?).map am_nlg else ls[j]? := by
  induction ls generalizing n j with
  | nil => simp [am_put]
  | cons v vs ih => match n, j with
    | 0, 0 => simp [am_put]
    | 0, j + 1 => simp [am_put]
    | 1, 0 => simp [am_put]
    | 1, j + 1 =>
      have := ih 0 j
      simp only [am_put, List.getElem?_cons_succ, List.length_cons] at this ⊢
      rw [this]
      by_cases hj : j = 0 <;> simp [hj]
    | n + 2, 0 => simp [am_put]
    | n + 2, j + 1 =>
      have := ih (n + 1) j
      simp only [am_put, List.getElem?_cons_succ, List.length_cons] at this ⊢
      rw [this]
      have e : (n + 2 < vs.length + 1) = (n + 1 < vs.length) := propext ⟨fun h => by omega, fun h => by omega⟩
      simp only [Nat.add_right_cancel_iff, e]
theorem am_putL_len (ls : List Value) (n : Nat) (x : Value) : (am_putL ls n x).length = ls.length := by
  induction ls generalizing n with
  | nil => rfl
  | cons v vs ih => match n, vs with
    | 0, [] => rfl
    | 0, w :: ws => rfl
    | 1, vs => simp [am_putL, ih]
    | n + 2, vs => simp [am_putL, ih]
theorem am_putL_get (ls : List Value) (n : Nat) (x : Value) (hn : n + 1 < ls.length) (j : Nat) : (am_putL ls n x)[j]? = if j = n then some x else if j = n + 1 then some am_dum else if j + 1 = n then (ls[j]?).map am_nlg else ls[j]? := by
  induction ls generalizing n j with
  | nil => simp at hn
  | cons v vs ih => match n, j, vs, hn with
    | 0, 0, w :: ws, hn => simp [am_putL]
    | 0, 1, w :: ws, hn => simp [am_putL]
    | 0, j + 2, w :: ws, hn => simp [am_putL]
    | 0, _, [], hn => simp at hn
    | 1, 0, vs, hn => simp [am_putL]
    | 1, j + 1, vs, hn =>
      have := ih 0 (by have := hn; simp only [List.length_cons] at this; omega) j
      simp only [am_putL, List.getElem?_cons_succ] at this ⊢
      rw [this]
      by_cases hj : j = 0 <;> simp [hj]
    | n + 2, 0, vs, hn => simp [am_putL]
    | n + 2, j + 1, vs, hn =>
      have := ih (n + 1) (by have := hn; simp only [List.length_cons] at this; omega) j
      simp only [am_putL, List.getElem?_cons_succ] at this ⊢
      rw [this]
      simp only [Nat.add_right_cancel_iff]
def am_lj (G : am_D) (ls : List Value) (j : Nat) : Option (Nat × Value) := match ls[j]? with
  | none => none
  | some (.retAddr _) => none
  | some (.ref a) => some (j, .ref (am_ad G a))
  | some (.int x) => some (j, .int x)
  | some (.long x) => some (j, .long x)
  | some (.float x) => some (j, .float x)
  | some (.double x) => some (j, .double x)
  | some .null => some (j, .null)
theorem am_lj_iff {G : am_D} {ls : List Value} {j k : Nat} {w : Value} : am_lj G ls j = some (k, w) ↔ k = j ∧ ∃ v, ls[j]? = some v ∧ (∀ n, v ≠ .retAddr n) ∧ w = am_v G v := by
  unfold am_lj
  cases hq : ls[j]? with
  | none => simp
  | some v =>
    cases v <;> simp [am_v, eq_comm]
def am_lls (G : am_D) (ls : List Value) : List (Nat × Value) := (List.range ls.length).filterMap (am_lj G ls)
theorem am_lls_mem {G : am_D} {ls : List Value} {j : Nat} {w : Value} : (j, w) ∈ am_lls G ls ↔ ∃ v, ls[j]? = some v ∧ (∀ n, v ≠ .retAddr n) ∧ w = am_v G v := by
  unfold am_lls
  rw [List.mem_filterMap]
  constructor
  · rintro ⟨i, -, hi⟩
    obtain ⟨rfl, h⟩ := am_lj_iff.mp hi
    exact h
  · rintro ⟨v, hv, h⟩
    exact ⟨j, List.mem_range.mpr (List.getElem?_eq_some_iff.mp hv).1, am_lj_iff.mpr ⟨rfl, v, hv, h⟩⟩
def am_lv (G : am_D) (ls : List Value) (lsR : Array Slot) : Prop := lv_has lsR ls.length (am_lls G ls)
theorem am_lv.at {G : am_D} {ls : List Value} {lsR : Array Slot} (h : am_lv G ls lsR) {n : Nat} {v : Value} (hg : am_get ls n = v) (hv : ∀ k, v ≠ .retAddr k) : lsR[n]? = some (.val (am_v G v)) :=
  h.2.2 (n, am_v G v) (am_lls_mem.mpr ⟨v, am_get_some hg hv, hv, rfl⟩)
theorem am_nlg_ok {v : Value} (h : ∀ n, am_nlg v ≠ .retAddr n) : am_nlg v = v ∧ ¬ v.category = 2 := by
  cases v <;> simp [am_nlg, Value.category] at h ⊢
theorem am_lv.put {G : am_D} {ls : List Value} {lsR : Array Slot} {n : Nat} {x : Value} (hn : n < ls.length) (h : lv_has lsR ls.length ((n, am_v G x) :: (am_lls G ls).filter (fun q => !(q.1 == n) && !(q.1 + 1 == n && q.2.category == 2)))) : am_lv G (am_put ls n x) lsR := by
  refine ⟨by rw [am_put_len]; exact h.1, h.2.1, fun q hq => h.2.2 q ?_⟩
  obtain ⟨j, w⟩ := q
  obtain ⟨v, hv, hr, rfl⟩ := am_lls_mem.mp hq
  rw [am_put_get] at hv
  by_cases hj : j = n
  · subst hj
    simp [hn] at hv
    subst hv
    exact List.mem_cons_self
  · rw [if_neg hj] at hv
    refine List.mem_cons_of_mem _ (List.mem_filter.mpr ?_)
    by_cases hj1 : j + 1 = n
    · rw [if_pos hj1] at hv
      cases hq2 : ls[j]? with
      | none => rw [hq2] at hv; cases hv
      | some u =>
        rw [hq2] at hv
        have hv' : am_nlg u = v := by simpa using hv
        obtain ⟨e1, e2⟩ := am_nlg_ok (v := u) (by rw [hv']; exact hr)
        have e3 : u = v := e1.symm.trans hv'
        subst e3
        refine ⟨am_lls_mem.mpr ⟨u, hq2, hr, rfl⟩, ?_⟩
        simp [hj, am_v_cat, e2]
    · rw [if_neg hj1] at hv
      refine ⟨am_lls_mem.mpr ⟨v, hv, hr, rfl⟩, ?_⟩
      simp [hj, hj1]
theorem am_lv.putL {G : am_D} {ls : List Value} {lsR : Array Slot} {n : Nat} {x : Value} (hn : n + 1 < ls.length) (h : lv_has lsR ls.length ((n, am_v G x) :: (am_lls G ls).filter (fun q => !(q.1 == n) && (!(q.1 == n + 1) && !(q.1 + 1 == n && q.2.category == 2))))) : am_lv G (am_putL ls n x) lsR := by
  refine ⟨by rw [am_putL_len]; exact h.1, h.2.1, fun q hq => h.2.2 q ?_⟩
  obtain ⟨j, w⟩ := q
  obtain ⟨v, hv, hr, rfl⟩ := am_lls_mem.mp hq
  rw [am_putL_get _ _ _ hn] at hv
  by_cases hj : j = n
  · subst hj
    simp at hv
    subst hv
    exact List.mem_cons_self
  · rw [if_neg hj] at hv
    by_cases hj2 : j = n + 1
    · rw [if_pos hj2] at hv
      exact absurd (Option.some.inj hv).symm (hr 0)
    · rw [if_neg hj2] at hv
      refine List.mem_cons_of_mem _ (List.mem_filter.mpr ?_)
      by_cases hj1 : j + 1 = n
      · rw [if_pos hj1] at hv
        cases hq2 : ls[j]? with
        | none => rw [hq2] at hv; cases hv
        | some u =>
          rw [hq2] at hv
          have hv' : am_nlg u = v := by simpa using hv
          obtain ⟨e1, e2⟩ := am_nlg_ok (v := u) (by rw [hv']; exact hr)
          have e3 : u = v := e1.symm.trans hv'
          subst e3
          refine ⟨am_lls_mem.mpr ⟨u, hq2, hr, rfl⟩, ?_⟩
          simp [hj, hj2, am_v_cat, e2]
      · rw [if_neg hj1] at hv
        refine ⟨am_lls_mem.mpr ⟨v, hv, hr, rfl⟩, ?_⟩
        simp [hj, hj1, hj2]
/-! what holds of the machine at a method's start -/
def am_A (G : am_D) : Nat → Prop := fun q => G.2.1 ≤ q
def am_artys (G : am_D) : List (ClassId × FieldType) := [(G.2.2.2.1 0, .boolean), (G.2.2.2.1 1, .byte), (G.2.2.2.1 2, .int), (G.2.2.2.1 3, .long), (G.2.2.2.2.1 6, .object "MoodSlips$Sentence"), (G.2.2.2.2.1 2, .object "MoodSlips$Desk")]
/-- the signs of a String constant -/
def am_str (G : am_D) (a : Nat) (U : State) : Prop := ∃ (xs : List Int32) (av : Nat), G.2.2.2.2.2 a = aI 9 xs ∧ xs.length < 2 ^ 31 ∧ (∀ x ∈ xs, x &&& 255 = x ∧ x.toInt8.toInt32 = x) ∧ va_O "java/lang/String" (G.1 a) (am_A G) U U.heap ∧ va_OF "java/lang/String" "coder" "B" (.int 0) (G.1 a) (am_A G) U U.heap ∧ va_OF "java/lang/String" "value" "[B" (.ref av) (G.1 a) (am_A G) U U.heap ∧ va_T .byte av xs.length (fun j => .int (xs.getD j 0)) (am_A G) U U.heap ∧ va_Z "java/lang/String" "COMPACT_STRINGS" "Z" (.int 1) (am_A G) U U.heap ∧ ∃ fv : Value, (fv = .null ∨ ∃ a, fv = .ref a) ∧ va_Z "jdk/internal/util/Preconditions" "SIOOBE_FORMATTER" "Ljava/util/function/BiFunction;" fv (am_A G) U U.heap
def am_Kn (G : am_D) (U : State) : Prop :=
  va_K G.2.2.1 am_cls (am_artys G) U ∧ (∀ q ∈ am_mn, va_Nw (am_nw q) U) ∧ (∀ q ∈ am_gl, q.2.2.2.1 = 1 → va_Nw (am_gw q) U) ∧ va_AO "MoodSlips$Sentence" U ∧ va_AO "MoodSlips$Desk" U
  ∧ (∀ q ∈ am_tl, vk_R (am_own q.1) q.2.1 q.2.2.2 (G.1 q.2.2.1) U)
  ∧ G.2.1 ≤ U.heap.size ∧ (∀ n, n = 1 ∨ n = 2 → va_Z "MoodSlips" (am_gname n) "[J" (.ref (G.1 n)) (am_A G) U U.heap)
  ∧ (∃ xs : List Int32, G.2.2.2.2.2 0 = aI 2 xs ∧ va_T .int (G.1 0) xs.length (fun j => .int (xs.getD j 0)) (am_A G) U U.heap)
  ∧ (∀ n, n = 1 ∨ n = 2 → ∃ xs : List Int64, G.2.2.2.2.2 n = aJ xs ∧ va_T .long (G.1 n) xs.length (fun j => .long (xs.getD j 0)) (am_A G) U U.heap)
  ∧ (∀ a, 3 ≤ a → a < 23 → am_str G a U)
