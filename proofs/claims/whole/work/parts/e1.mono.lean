/-! ===== more told: more quarrels, more follows ===== -/
def Tle (T T' : tT) : Prop := (∀ r, T.1 r = true → T'.1 r = true) ∧ (∀ w, w ∈ T.2.1 → w ∈ T'.2.1) ∧ ∀ n r, T'.2.2 n r = true → T.2.2 n r = true
theorem Tle.rf {T : tT} : Tle T T := ⟨fun _ h => h, fun _ h => h, fun _ _ h => h⟩
theorem Tle.tr {T1 T2 T3 : tT} (a : Tle T1 T2) (b : Tle T2 T3) : Tle T1 T3 := ⟨fun r h => b.1 r (a.1 r h), fun w h => b.2.1 w (a.2.1 w h), fun n r h => a.2.2 n r (b.2.2 n r h)⟩
theorem im3 {a a' b b' c : Bool} (h1 : a' = true → a = true) (h2 : b = true → b' = true) (h : (!(a && !b && !c)) = true) : (!(a' && !b' && !c)) = true := by
  cases a <;> cases a' <;> cases b <;> cases b' <;> cases c <;> simp_all
theorem shz_mono {T T' : tT} (t : Tle T T') {row row' bes : Nat → Bool} (hr : ∀ r, row' r = true → row r = true) (h : shz T row bes = true) : shz T' row' bes = true := by
  unfold shz at h ⊢
  rw [al_iff] at h ⊢
  exact fun r hr2 => im3 (hr r) (t.1 r) (h r hr2)
theorem qz_mono {T T' : tT} (t : Tle T T') {bes : Nat → Bool} (h : qz T bes = true) : qz T' bes = true := by
  unfold qz at h ⊢
  rw [Bool.or_eq_true, List.any_eq_true, List.any_eq_true] at h ⊢
  rcases h with ⟨w, h1, h2⟩ | ⟨n, h1, h2⟩
  · exact Or.inl ⟨w, t.2.1 w h1, shz_mono t (fun _ h => h) h2⟩
  · exact Or.inr ⟨n, h1, shz_mono t (t.2.2 n) h2⟩
theorem fz_mono {T T' : tT} (t : Tle T T') {how who : Nat} {set : Nat → Bool} (h : fz T how set who = true) : fz T' how set who = true := by
  unfold fz at h ⊢
  by_cases e1 : how = 1
  · rw [if_pos e1] at h ⊢; exact qz_mono t h
  · rw [if_neg e1, Bool.or_eq_true] at h ⊢
    rcases h with h | h
    · exact Or.inl (qz_mono t h)
    · refine Or.inr ?_
      by_cases e0 : how = 0
      · rw [if_pos e0, al_iff] at h ⊢
        intro r hr
        have h1 := h r hr
        have h2 := t.1 r
        revert h1 h2
        cases set r <;> cases T.1 r <;> cases T'.1 r <;> simp
      · rw [if_neg e0, al_iff] at h ⊢
        exact fun r hr => im3 (t.2.2 who r) (t.1 r) (h r hr)
theorem fo_mono {T T' : tT} (t : Tle T T') {C : cT} {ex : Bool} (h : fo T C ex = true) : fo T' C ex = true := by
  unfold fo at h ⊢
  rw [Bool.and_eq_true] at h ⊢
  refine ⟨fz_mono t h.1, ?_⟩
  have h2 := h.2
  have h3 := qz_mono t (bes := C.2.2.2.2)
  revert h2 h3
  cases ex <;> cases C.2.1 <;> cases qz T C.2.2.2.2 <;> cases qz T' C.2.2.2.2 <;> simp
theorem tz_le {T : tT} {how who : Nat} {set : Nat → Bool} {so : Bool} : Tle T (tz T how set who so) := by
  unfold tz
  split
  · refine ⟨fun _ h => h, fun _ h => h, fun n r h => ?_⟩
    have h : (if n = who then T.2.2 n r && (if so then set r else !set r) else T.2.2 n r) = true := h
    split at h
    · rw [Bool.and_eq_true] at h; exact h.1
    · exact h
  · split
    · exact ⟨fun r h => by show (T.1 r || set r) = true; rw [h]; rfl, fun _ h => h, fun _ _ h => h⟩
    · exact ⟨fun _ h => h, fun w h => List.mem_append.mpr (Or.inl h), fun _ _ h => h⟩
theorem tz_mono {T T' : tT} (t : Tle T T') {how who : Nat} {set : Nat → Bool} {so : Bool} : Tle (tz T how set who so) (tz T' how set who so) := by
  unfold tz
  split
  · refine ⟨t.1, t.2.1, fun n r h => ?_⟩
    have h : (if n = who then T'.2.2 n r && (if so then set r else !set r) else T'.2.2 n r) = true := h
    show (if n = who then T.2.2 n r && (if so then set r else !set r) else T.2.2 n r) = true
    by_cases e : n = who
    · rw [if_pos e, Bool.and_eq_true] at h ⊢; exact ⟨t.2.2 n r h.1, h.2⟩
    · rw [if_neg e] at h ⊢; exact t.2.2 n r h
  · split
    · refine ⟨fun r h => ?_, t.2.1, t.2.2⟩
      have h : (T.1 r || set r) = true := h
      show (T'.1 r || set r) = true
      rw [Bool.or_eq_true] at h ⊢
      exact h.imp (t.1 r) id
    · refine ⟨t.1, fun w h => ?_, t.2.2⟩
      rcases List.mem_append.mp h with h | h
      · exact List.mem_append.mpr (Or.inl (t.2.1 w h))
      · exact List.mem_append.mpr (Or.inr h)
theorem tellz_le {T : tT} {C : cT} {ex : Bool} : Tle T (tellz T C ex) := by
  unfold tellz
  split
  · exact tz_le.tr tz_le
  · exact tz_le
theorem tellz_mono {T T' : tT} (t : Tle T T') {C : cT} {ex : Bool} : Tle (tellz T C ex) (tellz T' C ex) := by
  unfold tellz
  split
  · exact tz_mono (tz_mono t)
  · exact tz_mono t
theorem hz_mono {cs : Nat → cT} {ex : Bool} {hp hq : Nat} (h : ∀ i, hp.testBit i = true → hq.testBit i = true) : ∀ k, Tle (hz cs ex hp k) (hz cs ex hq k)
  | 0 => Tle.rf
  | k + 1 => by
    have ih := hz_mono (cs := cs) (ex := ex) h k
    show Tle (if hp.testBit k then tellz (hz cs ex hp k) (cs k) ex else hz cs ex hp k) (if hq.testBit k then tellz (hz cs ex hq k) (cs k) ex else hz cs ex hq k)
    cases e : hp.testBit k
    · rw [if_neg Bool.false_ne_true]
      split
      · exact ih.tr tellz_le
      · exact ih
    · rw [h k e, if_pos rfl, if_pos rfl]
      exact tellz_mono ih
theorem hzD_mono {D : dT} {hp hq : Nat} (h : ∀ i, hp.testBit i = true → hq.testBit i = true) : Tle (hzD D hp) (hzD D hq) := hz_mono h 12
/-- if all slips together do not give the question, no heap suffices -/
theorem suP_none {D : dT} (h : fo (hzD D (2 ^ D.1 - 1)) (csD D 12) D.2.2.2 = false) {k : Nat} (hk : k < 2 ^ D.1) : suP D k = false := by
  cases e : suP D k
  · rfl
  · unfold suP at e
    rw [Bool.and_eq_true] at e
    have := fo_mono (hzD_mono (D := D) (hp := k) (hq := 2 ^ D.1 - 1) (fun i hi => ?_)) e.2
    · rw [this] at h; cases h
    · rw [Nat.testBit_two_pow_sub_one, decide_eq_true_eq]
      exact hp_bit hk hi
