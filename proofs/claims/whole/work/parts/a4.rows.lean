/-! ===== the first of the smallest worlds ===== -/
def ffT (T : tT) (r : Nat) : Prop := r < 256 ∧ T.1 r = false
def cov (T : tT) (l : List Nat) : Prop := ∀ i, i < T.2.1.length + 4 → ∃ r ∈ l, wP T r i = true
def exW (T : tT) (pre : List Nat) (k : Nat) : Prop := ∃ l : List Nat, (∀ r ∈ l, ffT T r) ∧ l.length ≤ k ∧ cov T (pre ++ l)
def IsR (T : tT) (l : List Nat) : Prop := exW T [] l.length ∧ (∀ M, M < l.length → ¬ exW T [] M) ∧ ∀ p, p < l.length → ffT T (l.getD p 0) ∧ exW T (l.take (p + 1)) (l.length - (p + 1)) ∧ ∀ r, r < l.getD p 0 → ffT T r → ¬ exW T (l.take p ++ [r]) (l.length - (p + 1))
theorem cov_sub {T : tT} {l l' : List Nat} (h : cov T l) (e : ∀ r ∈ l, r ∈ l') : cov T l' := fun i hi => by
  obtain ⟨r, hr, hw⟩ := h i hi
  exact ⟨r, e r hr, hw⟩
theorem exW_mono {T : tT} {pre : List Nat} {k k' : Nat} (h : exW T pre k) (e : k ≤ k') : exW T pre k' := by
  obtain ⟨l, h1, h2, h3⟩ := h
  exact ⟨l, h1, by omega, h3⟩
theorem exW_sub {T : tT} {pre pre' : List Nat} {k : Nat} (h : exW T pre k) (e : ∀ r ∈ pre, r ∈ pre') : exW T pre' k := by
  obtain ⟨l, h1, h2, h3⟩ := h
  refine ⟨l, h1, h2, cov_sub h3 (fun r hr => ?_)⟩
  rcases List.mem_append.mp hr with q | q
  · exact List.mem_append_left _ (e r q)
  · exact List.mem_append_right _ q
/-- a free one more is a pick more -/
theorem exW_pop {T : tT} {pre : List Nat} {r k : Nat} (hr : ffT T r) (h : exW T (pre ++ [r]) k) : exW T pre (k + 1) := by
  obtain ⟨l, h1, h2, h3⟩ := h
  refine ⟨r :: l, fun q hq => ?_, by rw [List.length_cons]; omega, ?_⟩
  · rcases List.mem_cons.mp hq with e | e
    · rw [e]; exact hr
    · exact h1 q e
  · rw [List.append_assoc] at h3; exact h3
theorem tk_S {l : List Nat} {p : Nat} (hp : p < l.length) : l.take (p + 1) = l.take p ++ [l.getD p 0] := by
  rw [List.take_succ_eq_append_getElem hp, List.getD_eq_getElem?_getD, List.getElem?_eq_getElem hp]; rfl
theorem IsR_u {T : tT} {l l' : List Nat} (h : IsR T l) (h' : IsR T l') : l = l' := by
  obtain ⟨a1, a2, a3⟩ := h
  obtain ⟨b1, b2, b3⟩ := h'
  have hl : l.length = l'.length := by
    rcases Nat.lt_trichotomy l.length l'.length with q | q | q
    · exact absurd a1 (b2 _ q)
    · exact q
    · exact absurd b1 (a2 _ q)
  have key : ∀ p, p ≤ l.length → l.take p = l'.take p := by
    intro p
    induction p with
    | zero => intro _; rfl
    | succ p ih =>
      intro hp
      have e := ih (by omega)
      obtain ⟨c1, c2, c3⟩ := a3 p (by omega)
      obtain ⟨d1, d2, d3⟩ := b3 p (by omega)
      have q : l.getD p 0 = l'.getD p 0 := by
        rcases Nat.lt_trichotomy (l.getD p 0) (l'.getD p 0) with q | q | q
        · refine absurd ?_ (d3 _ q c1)
          rw [← e, ← hl, ← tk_S (by omega)]; exact c2
        · exact q
        · refine absurd ?_ (c3 _ q d1)
          rw [e, hl, ← tk_S (by omega)]; exact d2
      rw [tk_S (by omega), tk_S (by omega), e, q]
  have := key l.length (Nat.le_refl _)
  rw [List.take_length, hl, List.take_length] at this
  exact this
/-! masks and wants -/
theorem mk_bit {T : tT} {r : Nat} (h : T.1 r = false) (i : Nat) : (mkM T r).testBit i = (decide (i < T.2.1.length + 4) && wP T r i) := by
  unfold mkM
  rw [h, if_neg Bool.false_ne_true, bt_bit]
theorem mk_ne {T : tT} {r : Nat} (h : mkM T r ≠ 0) : T.1 r = false := by
  cases e : T.1 r with
  | false => rfl
  | true => exact absurd (by unfold mkM; rw [e, if_pos rfl]) h
theorem ls_ne (T : tT) : ∀ n q, q ∈ lsM T n → mkM T q ≠ 0
  | 0, q, h => (List.not_mem_nil h).elim
  | n + 1, q, h => by
    unfold lsM at h
    split at h
    · rename_i g
      rcases List.mem_append.mp h with e | e
      · exact ls_ne T n q e
      · rw [List.mem_singleton.mp e]
        unfold okL at g
        rw [Bool.and_eq_true, Bool.not_eq_true', decide_eq_false_iff_not] at g
        exact g.1
    · exact ls_ne T n q h
theorem ls_ff {T : tT} {q : Nat} (h : q ∈ lsM T 256) : ffT T q := ⟨(lsM_lt T 256).2 q h, mk_ne (ls_ne T 256 q h)⟩
theorem ls_dom (T : tT) : ∀ n r, r < n → mkM T r ≠ 0 → ∃ q ∈ lsM T n, q ≤ r ∧ andn (mkM T r) (mkM T q) = 0
  | 0, r, h, _ => by omega
  | n + 1, r, h, hm => by
    by_cases e : r = n
    · subst e
      unfold lsM
      cases g : okL T r (lsM T r) with
      | true =>
        rw [if_pos rfl]
        refine ⟨r, List.mem_append_right _ (List.mem_singleton.mpr rfl), Nat.le_refl _, ?_⟩
        apply Nat.eq_of_testBit_eq
        intro i
        rw [andn_bit, Nat.zero_testBit]
        cases (mkM T r).testBit i <;> rfl
      | false =>
        rw [if_neg Bool.false_ne_true]
        unfold okL at g
        rw [decide_eq_false hm, Bool.not_false, Bool.true_and] at g
        rw [← Bool.not_eq_true, List.all_eq_true] at g
        have g2 : ∃ q, q ∈ lsM T r ∧ andn (mkM T r) (mkM T q) = 0 := by
          refine Classical.byContradiction fun z => g (fun x hx => ?_)
          rw [Bool.not_eq_true', decide_eq_false_iff_not]
          exact fun w => z ⟨x, hx, w⟩
        obtain ⟨q, hq, e⟩ := g2
        exact ⟨q, hq, by have := (lsM_lt T r).2 q hq; omega, e⟩
    · obtain ⟨q, h1, h2, h3⟩ := ls_dom T n r (by omega) hm
      refine ⟨q, ?_, h2, h3⟩
      unfold lsM
      split
      · exact List.mem_append_left _ h1
      · exact h1
theorem ls_inc (T : tT) : ∀ n i j, i < j → j < (lsM T n).length → (lsM T n).getD i 0 < (lsM T n).getD j 0
  | 0, i, j, _, h => absurd h (Nat.not_lt_zero j)
  | n + 1, i, j, h, hj => by
    unfold lsM at hj ⊢
    split
    · rename_i g
      rw [if_pos g, List.length_append] at hj
      have hj : j < (lsM T n).length + 1 := hj
      rw [gD_app, gD_app, if_neg (by omega)]
      by_cases e : j = (lsM T n).length
      · rw [if_pos e, List.getD_eq_getElem?_getD, List.getElem?_eq_getElem (by omega)]
        exact (lsM_lt T n).2 _ (List.getElem_mem _)
      · rw [if_neg e]; exact ls_inc T n i j h (by omega)
    · rename_i g
      rw [if_neg g] at hj
      exact ls_inc T n i j h hj
/-- what dominates meets more -/
theorem dom_w {T : tT} {r q : Nat} (hr : T.1 r = false) (hq : T.1 q = false) (h : andn (mkM T r) (mkM T q) = 0) {i : Nat} (hi : i < T.2.1.length + 4) (hw : wP T r i = true) : wP T q i = true := by
  have : (andn (mkM T r) (mkM T q)).testBit i = false := by rw [h, Nat.zero_testBit]
  rw [andn_bit, mk_bit hr, mk_bit hq, decide_eq_true hi, hw, Bool.true_and, Bool.true_and, Bool.true_and] at this
  cases e : wP T q i
  · rw [e] at this; cases this
  · rfl
/-- what is left behind some picks -/
def lfT (T : tT) (pre : List Nat) : Nat := pre.foldl (fun a r => andn a (mkM T r)) (2 ^ (T.2.1.length + 4) - 1)
theorem lf_app (T : tT) (pre : List Nat) (r : Nat) : lfT T (pre ++ [r]) = andn (lfT T pre) (mkM T r) := by
  unfold lfT; rw [List.foldl_append]; rfl
theorem lf_le (T : tT) (pre : List Nat) : lfT T pre ≤ 2 ^ (T.2.1.length + 4) - 1 := by
  unfold lfT
  have : ∀ (l : List Nat) (a : Nat), l.foldl (fun a r => andn a (mkM T r)) a ≤ a := by
    intro l
    induction l with
    | nil => intro a; exact Nat.le_refl a
    | cons x l ih => intro a; exact Nat.le_trans (ih _) (andn_le a _)
  exact this pre _
theorem lf_bit {T : tT} {pre : List Nat} (hp : ∀ r ∈ pre, T.1 r = false) (i : Nat) : (lfT T pre).testBit i = (decide (i < T.2.1.length + 4) && pre.all (fun r => !wP T r i)) := by
  unfold lfT
  have : ∀ (l : List Nat) (a : Nat), (∀ r ∈ l, T.1 r = false) → (l.foldl (fun a r => andn a (mkM T r)) a).testBit i = (a.testBit i && l.all (fun r => !(decide (i < T.2.1.length + 4) && wP T r i))) := by
    intro l
    induction l with
    | nil => intro a _; simp
    | cons x l ih =>
      intro a h
      rw [List.foldl_cons, ih _ (fun r hr => h r (List.mem_cons_of_mem _ hr)), andn_bit, mk_bit (h x List.mem_cons_self), List.all_cons, Bool.and_assoc]
  rw [this pre _ hp, Nat.testBit_two_pow_sub_one]
  by_cases q : i < T.2.1.length + 4
  · rw [decide_eq_true q]; rfl
  · rw [decide_eq_false q]; rfl
/-- a list of masks is one of regions -/
theorem pre_im {lr : List Nat} {mk : Nat → Nat} {fr : Nat} : ∀ l : List Nat, (∀ x ∈ l, x ∈ msF lr mk fr) → ∃ l' : List Nat, (∀ q ∈ l', ∃ i, fr ≤ i ∧ i < lr.length ∧ q = lr.getD i 0) ∧ List.map mk l' = l
  | [], _ => ⟨[], fun q hq => (List.not_mem_nil hq).elim, rfl⟩
  | x :: l, h => by
    obtain ⟨l', h1, h2⟩ := pre_im l (fun y hy => h y (List.mem_cons_of_mem _ hy))
    obtain ⟨i, a1, a2, a3⟩ := ms_mem.mp (h x List.mem_cons_self)
    refine ⟨lr.getD i 0 :: l', fun q hq => ?_, by rw [List.map_cons, h2, a3]⟩
    rcases List.mem_cons.mp hq with e | e
    · exact ⟨i, a1, a2, e⟩
    · exact h1 q e
theorem gD_mem {l : List Nat} {i : Nat} (h : i < l.length) : l.getD i 0 ∈ l := by
  rw [List.getD_eq_getElem?_getD, List.getElem?_eq_getElem h]
  exact List.getElem_mem _
/-- a cover by listed regions from a place on is a world -/
theorem cv_ex {T : tT} {pre : List Nat} (hp : ∀ r ∈ pre, T.1 r = false) {fr k : Nat} (h : CVp (msF (lsM T 256) (mkM T) fr) k (lfT T pre)) : exW T pre k := by
  obtain ⟨l, h1, h2, h3⟩ := h
  obtain ⟨l', g1, g2⟩ := pre_im l h1
  have gf : ∀ q ∈ l', ffT T q := fun q hq => by
    obtain ⟨i, _, a2, a3⟩ := g1 q hq
    rw [a3]; exact ls_ff (gD_mem a2)
  refine ⟨l', gf, by rw [← List.length_map (f := mkM T), g2]; exact h2, fun i hi => ?_⟩
  by_cases e : pre.all (fun r => !wP T r i) = true
  · obtain ⟨x, hx, hxi⟩ := h3 i (by rw [lf_bit hp, decide_eq_true hi, e]; rfl)
    rw [← g2] at hx
    obtain ⟨q, hq, eq⟩ := List.mem_map.mp hx
    rw [← eq, mk_bit (gf q hq).2, Bool.and_eq_true] at hxi
    exact ⟨q, List.mem_append_right _ hq, hxi.2⟩
  · rw [List.all_eq_true] at e
    have : ∃ r, r ∈ pre ∧ wP T r i = true := by
      refine Classical.byContradiction fun z => e (fun x hx => ?_)
      rw [Bool.not_eq_true']
      rw [← Bool.not_eq_true]
      exact fun w => z ⟨x, hx, w⟩
    obtain ⟨r, hr, hw⟩ := this
    exact ⟨r, List.mem_append_left _ hr, hw⟩
noncomputable def dmN (T : tT) (r : Nat) : Nat := @dite _ (∃ q ∈ lsM T 256, q ≤ r ∧ andn (mkM T r) (mkM T q) = 0) (Classical.propDecidable _) (fun h => Classical.choose h) (fun _ => r)
theorem dm_ok {T : tT} {r : Nat} (h : r < 256) (hm : mkM T r ≠ 0) : dmN T r ∈ lsM T 256 ∧ dmN T r ≤ r ∧ andn (mkM T r) (mkM T (dmN T r)) = 0 := by
  have e := ls_dom T 256 r h hm
  unfold dmN
  rw [dif_pos e]
  exact Classical.choose_spec e
/-- listed regions are enough; those beyond r, if all picks must lie there -/
theorem ex_cv {T : tT} {pre : List Nat} (hp : ∀ r ∈ pre, T.1 r = false) {fr k : Nat} (h : exW T pre k) (hfr : ∀ q, ffT T q → mkM T q ≠ 0 → (∃ i, i < T.2.1.length + 4 ∧ wP T q i = true ∧ (lfT T pre).testBit i = true) → (∃ l : List Nat, (∀ r ∈ l, ffT T r) ∧ l.length ≤ k ∧ q ∈ l ∧ cov T (pre ++ l)) → ∃ i, fr ≤ i ∧ i < (lsM T 256).length ∧ dmN T q = (lsM T 256).getD i 0) : CVp (msF (lsM T 256) (mkM T) fr) k (lfT T pre) := by
  obtain ⟨l, h1, h2, h3⟩ := h
  let ok : Nat → Bool := fun q => @decide (∃ i, i < T.2.1.length + 4 ∧ wP T q i = true ∧ (lfT T pre).testBit i = true) (Classical.propDecidable _)
  have hne : ∀ q, ffT T q → ok q = true → mkM T q ≠ 0 := by
    intro q hq ho z
    obtain ⟨i, i1, i2, _⟩ := (@decide_eq_true_iff _ (Classical.propDecidable _)).mp ho
    have := mk_bit hq.2 i
    rw [z, Nat.zero_testBit, decide_eq_true i1, i2] at this
    cases this
  refine ⟨(l.filter ok).map (fun q => mkM T (dmN T q)), fun x hx => ?_, ?_, fun i hi => ?_⟩
  · obtain ⟨q, hq, e⟩ := List.mem_map.mp hx
    obtain ⟨hq1, hq2⟩ := List.mem_filter.mp hq
    have hqf := h1 q hq1
    obtain ⟨i, a1, a2, a3⟩ := hfr q hqf (hne q hqf hq2) ((@decide_eq_true_iff _ (Classical.propDecidable _)).mp hq2) ⟨l, h1, h2, hq1, h3⟩
    rw [ms_mem]
    exact ⟨i, a1, a2, by rw [← a3]; exact e.symm⟩
  · rw [List.length_map]
    exact Nat.le_trans (List.length_filter_le _ _) h2
  · have hi0 := hi
    rw [lf_bit hp, Bool.and_eq_true] at hi
    have hiW := of_decide_eq_true hi.1
    obtain ⟨q, hq, hw⟩ := h3 i hiW
    rcases List.mem_append.mp hq with e | e
    · have := List.all_eq_true.mp hi.2 q e
      rw [hw] at this
      exact absurd this (by decide)
    · have hqf := h1 q e
      have ho : ok q = true := (@decide_eq_true_iff _ (Classical.propDecidable _)).mpr ⟨i, hiW, hw, hi0⟩
      have hm := hne q hqf ho
      obtain ⟨d1, d2, d3⟩ := dm_ok hqf.1 hm
      refine ⟨_, List.mem_map.mpr ⟨q, List.mem_filter.mpr ⟨e, ho⟩, rfl⟩, ?_⟩
      rw [mk_bit (ls_ff d1).2, decide_eq_true hiW, dom_w hqf.2 (ls_ff d1).2 d3 hiW hw]
      rfl
