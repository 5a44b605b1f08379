/-! ===== the model: laysWorld ===== -/
theorem ls_ix {T : tT} {q : Nat} (h : q ∈ lsM T 256) : ∃ i, i < (lsM T 256).length ∧ q = (lsM T 256).getD i 0 := by
  obtain ⟨i, hi, e⟩ := List.getElem_of_mem h
  exact ⟨i, hi, by rw [List.getD_eq_getElem?_getD, List.getElem?_eq_getElem hi, e]; rfl⟩
theorem cv_all {T : tT} {pre : List Nat} (hp : ∀ r ∈ pre, T.1 r = false) {k : Nat} : CVp (msF (lsM T 256) (mkM T) 0) k (lfT T pre) ↔ exW T pre k :=
  ⟨cv_ex hp, fun h => ex_cv hp h (fun q hq hm _ _ => by
    obtain ⟨i, hi, e⟩ := ls_ix (dm_ok hq.1 hm).1
    exact ⟨i, Nat.zero_le _, hi, e⟩)⟩
/-- what one picks can be put for what it dominates -/
theorem ex_swap {T : tT} {pre l : List Nat} {q r k : Nat} (hl : ∀ x ∈ l, ffT T x) (hk : l.length ≤ k) (hq : q ∈ l) (hr : ffT T r) (hc : cov T (pre ++ [r] ++ l)) {q' : Nat} (hd : ∀ i, i < T.2.1.length + 4 → wP T q i = true → wP T q' i = true) : exW T (pre ++ [q']) k := by
  refine ⟨r :: l.erase q, fun x hx => ?_, ?_, fun i hi => ?_⟩
  · rcases List.mem_cons.mp hx with e | e
    · rw [e]; exact hr
    · exact hl x (List.mem_of_mem_erase e)
  · rw [List.length_cons, List.length_erase_of_mem hq]
    have : 0 < l.length := List.length_pos_of_mem hq
    omega
  · obtain ⟨x, hx, hw⟩ := hc i hi
    by_cases e : x = q
    · rw [e] at hw
      exact ⟨q', by simp, hd i hi hw⟩
    · refine ⟨x, ?_, hw⟩
      rw [List.append_assoc] at hx
      rcases List.mem_append.mp hx with z | z
      · simp [z]
      · rcases List.mem_append.mp z with z | z
        · rw [List.mem_singleton.mp z]; simp
        · have : x ∈ l.erase q := (List.mem_erase_of_ne e).mpr z
          simp [this]
theorem gr_step {T : tT} {pre : List Nat} (hp : ∀ r ∈ pre, T.1 r = false) {k : Nat} (h1 : exW T pre (k + 1)) (h2 : ¬ exW T pre k) : ∃ j, j < (lsM T 256).length ∧ exW T (pre ++ [(lsM T 256).getD j 0]) k ∧ (∀ q, q < (lsM T 256).getD j 0 → ffT T q → ¬ exW T (pre ++ [q]) k) ∧ CVp (msF (lsM T 256) (mkM T) (j + 1)) k (lfT T (pre ++ [(lsM T 256).getD j 0])) ∧ ∀ i, i < j → ¬ CVp (msF (lsM T 256) (mkM T) (i + 1)) k (lfT T (pre ++ [(lsM T 256).getD i 0])) := by
  -- the least useful one
  have hex : ∃ r, ffT T r ∧ exW T (pre ++ [r]) k := by
    obtain ⟨l, a1, a2, a3⟩ := h1
    cases l with
    | nil => exact absurd ⟨[], a1, Nat.zero_le _, a3⟩ h2
    | cons r l =>
      refine ⟨r, a1 r List.mem_cons_self, l, fun x hx => a1 x (List.mem_cons_of_mem _ hx), by rw [List.length_cons] at a2; omega, ?_⟩
      rw [List.append_assoc]; exact a3
  have hleast : ∃ r, (ffT T r ∧ exW T (pre ++ [r]) k) ∧ ∀ q, q < r → ffT T q → ¬ exW T (pre ++ [q]) k := by
    obtain ⟨r, hr⟩ := hex
    induction r using Nat.strongRecOn with
    | ind r ih =>
      by_cases z : ∃ q, q < r ∧ ffT T q ∧ exW T (pre ++ [q]) k
      · obtain ⟨q, z1, z2⟩ := z
        exact ih q z1 z2
      · exact ⟨r, hr, fun q q1 q2 q3 => z ⟨q, q1, q2, q3⟩⟩
  obtain ⟨r, ⟨hr, hre⟩, hmin⟩ := hleast
  have hre0 := hre
  obtain ⟨l, a1, a2, a3⟩ := hre
  have hm : mkM T r ≠ 0 := by
    intro z
    refine h2 ⟨l, a1, a2, fun i hi => ?_⟩
    obtain ⟨x, hx, hw⟩ := a3 i hi
    rw [List.append_assoc] at hx
    rcases List.mem_append.mp hx with y | y
    · exact ⟨x, List.mem_append_left _ y, hw⟩
    · rcases List.mem_append.mp y with y | y
      · exfalso
        rw [List.mem_singleton.mp y] at hw
        have := mk_bit hr.2 i
        rw [z, Nat.zero_testBit, decide_eq_true hi, hw] at this
        cases this
      · exact ⟨x, List.mem_append_right _ y, hw⟩
  obtain ⟨d1, d2, d3⟩ := dm_ok hr.1 hm
  have hrl : r ∈ lsM T 256 := by
    have hd := ls_ff d1
    have : ¬ dmN T r < r := fun z => hmin _ z hd ⟨l, a1, a2, fun i hi => by
      obtain ⟨x, hx, hw⟩ := a3 i hi
      by_cases e : x = r
      · rw [e] at hw
        exact ⟨dmN T r, by simp, dom_w hr.2 hd.2 d3 hi hw⟩
      · refine ⟨x, ?_, hw⟩
        rw [List.append_assoc] at hx
        rcases List.mem_append.mp hx with y | y
        · simp [y]
        · rcases List.mem_append.mp y with y | y
          · exact absurd (List.mem_singleton.mp y) e
          · simp [y]⟩
    have e : dmN T r = r := by omega
    rw [e] at d1
    exact d1
  obtain ⟨j, hj, ej⟩ := ls_ix hrl
  have hpr : ∀ x ∈ pre ++ [r], T.1 x = false := fun x hx => by
    rcases List.mem_append.mp hx with y | y
    · exact hp x y
    · rw [List.mem_singleton.mp y]; exact hr.2
  refine ⟨j, hj, by rw [← ej]; exact hre0, by rw [← ej]; exact hmin, ?_, fun i hi z => ?_⟩
  · rw [← ej]
    refine ex_cv hpr hre0 (fun q hq hqm hb hl => ?_)
    obtain ⟨i, i1, i2, i3⟩ := hb
    obtain ⟨l', b1, b2, b3, b4⟩ := hl
    obtain ⟨e1, e2, e3⟩ := dm_ok hq.1 hqm
    have hdf := ls_ff e1
    have hge : ¬ dmN T q < r := fun z => hmin _ z hdf (ex_swap b1 b2 b3 hr b4 (fun i hi hw => dom_w hq.2 hdf.2 e3 hi hw))
    have hne : dmN T q ≠ r := by
      intro z
      have w1 := dom_w hq.2 hdf.2 e3 i1 i2
      rw [z] at w1
      rw [lf_app, andn_bit, mk_bit hr.2, decide_eq_true i1, w1, Bool.and_eq_true] at i3
      exact absurd i3.2 (by decide)
    obtain ⟨i', hi', ei'⟩ := ls_ix e1
    refine ⟨i', ?_, hi', ei'⟩
    refine Nat.lt_of_not_le fun z => ?_
    by_cases w : i' = j
    · rw [w, ← ej] at ei'; exact hne ei'
    · have := ls_inc T 256 i' j (by omega) hj
      rw [← ei', ← ej] at this
      omega
  · have hi2 : i < (lsM T 256).length := by omega
    have hf := ls_ff (gD_mem hi2)
    have hpi : ∀ x ∈ pre ++ [(lsM T 256).getD i 0], T.1 x = false := fun x hx => by
      rcases List.mem_append.mp hx with y | y
      · exact hp x y
      · rw [List.mem_singleton.mp y]; exact hf.2
    have hlt := ls_inc T 256 i j hi hj
    rw [← ej] at hlt
    exact hmin _ hlt hf (cv_ex hpi z)
theorem al_f {p : Nat → Bool} (h : al p = false) : ∃ r, r < 256 ∧ p r = false := by
  refine Classical.byContradiction fun z => ?_
  rw [al_iff.mpr (fun r hr => by
    cases e : p r
    · exact absurd ⟨r, hr, e⟩ z
    · rfl)] at h
  cases h
theorem nq_w {T : tT} (h : qz T (fun _ => false) = false) {i : Nat} (hi : i < T.2.1.length + 4) : ∃ r, ffT T r ∧ wP T r i = true := by
  unfold qz at h
  rw [Bool.or_eq_false_iff] at h
  obtain ⟨h1, h2⟩ := h
  have key : ∀ w : Nat → Bool, shz T w (fun _ => false) = false → ∃ r, ffT T r ∧ w r = true := by
    intro w hw
    unfold shz at hw
    obtain ⟨r, hr, e⟩ := al_f hw
    rw [Bool.not_eq_false', Bool.and_eq_true, Bool.and_eq_true, Bool.not_eq_true'] at e
    exact ⟨r, ⟨hr, e.1.2⟩, e.1.1⟩
  unfold wP
  by_cases q : i < T.2.1.length
  · rw [List.any_eq_false] at h1
    have := h1 (T.2.1.getD i (fun _ => false)) (by rw [List.getD_eq_getElem?_getD, List.getElem?_eq_getElem q]; exact List.getElem_mem _)
    obtain ⟨r, a, b⟩ := key _ (by rw [Bool.not_eq_true] at this; exact this)
    exact ⟨r, a, by rw [if_pos q]; exact b⟩
  · rw [List.any_eq_false] at h2
    have := h2 (i - T.2.1.length) (List.mem_range.mpr (by omega))
    obtain ⟨r, a, b⟩ := key _ (by rw [Bool.not_eq_true] at this; exact this)
    exact ⟨r, a, by rw [if_neg q]; exact b⟩
theorem nq_ex {T : tT} (h : qz T (fun _ => false) = false) : exW T [] (T.2.1.length + 4) := by
  have : ∀ n, n ≤ T.2.1.length + 4 → ∃ l : List Nat, (∀ r ∈ l, ffT T r) ∧ l.length ≤ n ∧ ∀ i, i < n → ∃ r ∈ l, wP T r i = true := by
    intro n
    induction n with
    | zero => intro _; exact ⟨[], fun r hr => (List.not_mem_nil hr).elim, Nat.le_refl _, fun i hi => absurd hi (Nat.not_lt_zero i)⟩
    | succ n ih =>
      intro hn
      obtain ⟨l, l1, l2, l3⟩ := ih (by omega)
      obtain ⟨r, r1, r2⟩ := nq_w h (i := n) (by omega)
      refine ⟨r :: l, fun x hx => ?_, by rw [List.length_cons]; omega, fun i hi => ?_⟩
      · rcases List.mem_cons.mp hx with e | e
        · rw [e]; exact r1
        · exact l1 x e
      · by_cases e : i = n
        · exact ⟨r, List.mem_cons_self, by rw [e]; exact r2⟩
        · obtain ⟨x, x1, x2⟩ := l3 i (by omega)
          exact ⟨x, List.mem_cons_of_mem _ x1, x2⟩
  obtain ⟨l, l1, l2, l3⟩ := this _ (Nat.le_refl _)
  exact ⟨l, l1, l2, l3⟩
def Py (F F' : Nat → Nat → Int32) : Prop := (∀ a, a ≠ 82 → a ≠ 101 → a ≠ 102 → a ≠ 103 → F' a = F a) ∧ ∀ i, i ≠ 37 → i ≠ 38 → i ≠ 39 → F' 82 i = F 82 i
theorem Py.tr {F F1 F2 : Nat → Nat → Int32} (a : Py F F1) (b : Py F1 F2) : Py F F2 := ⟨fun i h1 h2 h3 h4 => (b.1 i h1 h2 h3 h4).trans (a.1 i h1 h2 h3 h4), fun i h1 h2 h3 => (b.2 i h1 h2 h3).trans (a.2 i h1 h2 h3)⟩
theorem Pz.py {F F' : Nat → Nat → Int32} (p : Pz F F') : Py F F' := ⟨fun a h1 h2 h3 _ => p.1 a h1 h2 h3, fun i h1 _ h3 => p.2 i h1 h3⟩
def WRow (F : Nat → Nat → Int32) (l : List Nat) : Prop := F 82 38 = nI l.length ∧ l.length ≤ 29 ∧ ∀ i, i < l.length → F 103 i = nI (l.getD i 0) ∧ l.getD i 0 < 256
