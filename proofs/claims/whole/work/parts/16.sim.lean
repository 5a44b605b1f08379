theorem am_tl_lt : ∀ q ∈ am_tl, q.2.2.1 < 23 := by decide +kernel
theorem am_gl_12 : ∀ q ∈ am_gl, q.2.2.1 = 1 ∨ q.2.2.1 = 2 := by decide +kernel
theorem am_gl_01 : ∀ q ∈ am_gl, ¬ q.2.2.2.1 = 0 → q.2.2.2.1 = 1 := by decide +kernel
theorem am_fl_13 (q : Nat × Nat × Nat × Nat × Nat) (hq : q ∈ am_fl) {k : Nat} (e : q.2.2.1 = k) : k < 13 := by
  have hw := List.all_eq_true.mp am_fl_ok q hq
  simp only [Bool.and_eq_true, decide_eq_true_eq] at hw
  rw [← e]; exact hw.2
theorem am_w_oi : Cond.instanceMethod Lib.objectInit ∈ am_TBL := List.mem_filter.mpr ⟨List.mem_append_right _ (by decide +kernel), rfl⟩
theorem am_w_oc : Cond.code Lib.objectInit ⟨#[0xb1]⟩ 1 none ∈ am_TBL := List.mem_filter.mpr ⟨List.mem_append_right _ (by decide +kernel), rfl⟩
theorem am_fitB {x : Int32} (h : x.toInt8.toInt32 = x) : fits .byte (.int x) = true := by
  have h1 := Int8.le_toInt x.toInt8
  have h2 := Int8.toInt_lt x.toInt8
  have h3 : x.toInt8.toInt32.toInt = x.toInt8.toInt := Int8.toInt_toInt32 _
  rw [h] at h3
  have e1 : (-128 : Int32) ≤ x := by
    rw [Int32.le_iff_toInt_le, h3]
    exact h1
  have e2 : x ≤ (127 : Int32) := by
    rw [Int32.le_iff_toInt_le, h3]
    exact Int.le_of_lt_add_one h2
  simp [fits, e1, e2]
theorem am_cpy_mem {α : Type} {xs ys : List α} {i k n : Nat} {y : α} (h : y ∈ am_cpy xs ys i k n) : y ∈ xs ∨ y ∈ ys := by
  unfold am_cpy at h
  rcases List.mem_append.mp h with h | h
  · rcases List.mem_append.mp h with h | h
    · exact Or.inr (List.mem_of_mem_take h)
    · exact Or.inl (List.mem_of_mem_drop (List.mem_of_mem_take h))
  · exact Or.inr (List.mem_of_mem_drop h)
/-! ===== one instruction ===== -/
/-- what a method may answer at a return -/
def am_rv : Instr → Option Value → Prop
  | .ireturn, some (.int _) => True
  | .freturn, some (.int v) => v = 0 ∨ v = 1
  | .lreturn, some (.long _) => True
  | .areturn, some (.ref _) => True
  | .areturn, some .null => True
  | .return_, none => True
  | _, _ => False
theorem am_fld_at {fs : List Value} {k : Nat} {K : Value → Prop} (h : am_fld fs k K) : ∃ v, fs[k]? = some v ∧ K v := by
  induction fs generalizing k with
  | nil => exact h.elim
  | cons v vs ih => cases k with
    | zero => exact ⟨v, rfl, h⟩
    | succ n => exact ih h
theorem am_gf_at {c k : Nat} {e : am_E} {K : Value → Prop} (h : am_gf c k K e) : ∃ fs v, e = .inl (c, fs) ∧ fs[k]? = some v ∧ K v := by
  match e, h with
  | .inl (c', fs), h =>
    obtain ⟨v, a, b⟩ := am_fld_at h.2
    exact ⟨fs, v, by rw [h.1], a, b⟩
theorem am_pf_at {c k : Nat} {v : Value} {e : am_E} {K : am_E → Prop} (h : am_pf c k v K e) : ∃ fs, e = .inl (c, fs) ∧ k < fs.length ∧ K (.inl (c, fs.set k v)) := by
  match e, h with
  | .inl (c', fs), h =>
    obtain ⟨h1, h2, h3⟩ := h
    subst h1
    exact ⟨fs, rfl, h2, h3⟩
theorem am_fk0 {k x : Nat} (h : am_fk k x = 0) : am_ty k x = .int := by
  unfold am_fk at h
  split at h <;> first | assumption | (exact absurd h (by decide))
theorem am_fk1 {k x : Nat} (h : am_fk k x = 1) : am_ty k x = .boolean := by
  unfold am_fk at h
  split at h <;> first | assumption | (exact absurd h (by decide))
theorem am_fk2 {k x : Nat} (h : am_fk k x = 2) : (∃ n, am_ty k x = .object n) ∨ ∃ t, am_ty k x = .array t := by
  unfold am_fk at h
  split at h <;> first | (exact Or.inl ⟨_, by assumption⟩) | (exact Or.inr ⟨_, by assumption⟩) | (exact absurd h (by decide))
theorem am_pfin {k x o : Nat} {ini : Bool} {meth : Method} (h : (!((am_cl3 k).2.1 x).2.2.2 || (ini && decide (o = k))) = true) (hi : ini = true → meth.name = "<init>") : ((am_cl3 k).2.1 x).2.2.2 = false ∨ (meth.name = "<init>" ∧ o = k) := by
  simp only [Bool.or_eq_true, Bool.and_eq_true, decide_eq_true_eq, Bool.not_eq_true'] at h
  rcases h with h | h
  · exact Or.inl h
  · exact Or.inr ⟨hi h.1, h.2⟩
set_option maxHeartbeats 4000000 in
theorem am_sim1 {G : am_D} {p : Program} {l : Launch} {e : Env} {R : Room} {s : State} {m : MethodId} {args : Array Value} {below : List Frame} {meth : Method} {c : Code} {Qw : State → Prop} {b : am_B} {o : Nat} {ini : Bool} {rt : Option FieldType} {cc : ByteArray} {d pc len x : Nat} {ri i : Instr} {call : am_C} {Q : am_Q} {ls st : List Value} {h : am_H} {K : am_K}
    (C : am_Cx G (p, l, e, R, s, m, args, below, meth, c, Qw) b o ini cc d) (hdec : decode cc pc = .ok (ri, len)) (hok : am_ok o ini rt pc ri len i x = true)
    (hI : ∀ j k, i = .invokestatic j ∨ i = .invokespecial j ∨ i = .invokeinterface j k ∨ i = .saload ∨ i = .caload → am_RS G (p, l, e, R, s, m, args, below, meth, c, Qw) b pc ls st h)
    (hQ : ∀ r, Q r h → am_rv i r → am_RS G (p, l, e, R, s, m, args, below, meth, c, Qw) b pc ls r.toList h)
    (H0 : am_st call (am_RS G (p, l, e, R, s, m, args, below, meth, c, Qw) b) Q i x ls st h K) (hK : ∀ ls st h, K ls st h → am_RS G (p, l, e, R, s, m, args, below, meth, c, Qw) b (pc + len) ls st h) : am_RS G (p, l, e, R, s, m, args, below, meth, c, Qw) b pc ls st h := by
  obtain ⟨hx, hb, hml, hown, hts, hKn, hini, hR, hfr, hlo⟩ := C
  dsimp only at hx hb hml hown hts hKn hini hR hfr hlo
  unfold am_st at H0
  split at H0
  · rename_i v st
    simp only [am_ok, Bool.or_eq_true, decide_eq_true_eq] at hok
    rcases hok with ((⟨rfl, rfl⟩ | ⟨rfl, hv, rfl⟩) | ⟨rfl, hv, rfl⟩) | hok
    · exact (hK _ _ _ H0).step (fun H locs cs sl lsR _ _ _ _ w => lv_iconst hx hb hdec rfl w)
    · exact (hK _ _ _ H0).step (fun H locs cs sl lsR _ _ _ _ w => lv_bipush hx hb hdec hv w)
    · exact (hK _ _ _ H0).step (fun H locs cs sl lsR _ _ _ _ w => lv_sipush hx hb hdec hv w)
    · obtain ⟨q, hq1, hq2, hq3⟩ := am_all am_il_ok hok
      simp only [decide_eq_true_eq] at hq3
      obtain ⟨e1, e2, e3⟩ := hq3
      have hw := hts _ (am_wat_in hq2)
      rw [e1, e2] at hw
      rcases e3 with ⟨rfl, rfl⟩ | ⟨rfl, rfl⟩
      · exact (hK _ _ _ H0).step (fun H locs cs sl lsR _ _ _ _ w => lv_ldc hx hb hown hw hdec w)
      · exact (hK _ _ _ H0).step (fun H locs cs sl lsR _ _ _ _ w => lv_ldcw hx hb hown hw hdec w)
  · rename_i v st
    simp only [am_ok, Bool.or_eq_true, decide_eq_true_eq] at hok
    rcases hok with (⟨rfl, rfl, rfl⟩ | ⟨rfl, rfl, rfl⟩) | hok
    · exact (hK _ _ _ H0).step (fun H locs cs sl lsR _ _ _ _ w => lv_lconst hx hb hdec rfl w)
    · exact (hK _ _ _ H0).step (fun H locs cs sl lsR _ _ _ _ w => lv_lconst hx hb hdec rfl w)
    · obtain ⟨q, hq1, hq2, hq3⟩ := am_all am_jl_ok hok
      simp only [decide_eq_true_eq] at hq3
      obtain ⟨e1, e2, rfl, rfl⟩ := hq3
      have hw := hts _ (am_wat_in hq2)
      rw [e1, e2] at hw
      exact (hK _ _ _ H0).step (fun H locs cs sl lsR _ _ _ _ w => lv_ldc2 hx hb hown hw hdec w)
  · rename_i st n
    simp only [am_ok, Bool.or_eq_true] at hok
    rcases hok with hok | hok
    · obtain ⟨q, hq, hq3⟩ := List.any_eq_true.mp hok
      simp only [decide_eq_true_eq] at hq3
      obtain ⟨e1, e2, rfl, rfl⟩ := hq3
      have hz := hKn.2.2.2.2.2.1 q hq
      have hlt : q.2.2.1 < 23 := am_tl_lt q hq
      rw [e1, e2] at hz
      rw [e2] at hlt
      exact (hK _ _ _ H0).step (fun H locs cs sl lsR _ _ _ _ w => va_ldcS hx hb hown hz hdec (by rw [List.map_cons, show am_v G (Value.ref n) = Value.ref (am_ad G n) from rfl, am_ad_lo hlt] at w; exact w))
    · obtain ⟨q, hq1, hq2, hq3⟩ := am_all am_gl_ok hok
      simp only [decide_eq_true_eq] at hq3
      obtain ⟨e1, e2, rfl, rfl⟩ := hq3
      have hn12 : n = 1 ∨ n = 2 := by rw [← e2]; exact am_gl_12 q hq1
      have hZ := hKn.2.2.2.2.2.2.2.1 n hn12
      refine (hK _ _ _ H0).step (fun H locs cs sl lsR _ hS _ _ w => ?_)
      rw [List.map_cons, show am_v G (Value.ref n) = Value.ref (am_ad G n) from rfl, am_ad_lo (by omega)] at w
      split at hq2
      · have hw := hts _ (am_wat_in hq2)
        rw [e1, e2] at hw
        exact va_gets hx hb hZ hS hown hw (fun _ z => z) hdec w
      · have hz := hKn.2.2.1 q hq1 (am_gl_01 q hq1 (by assumption))
        unfold am_gw at hz
        rw [e1, e2] at hz
        exact va_getsN hx hb hZ hS hown (va_Nw.use rfl hz) (fun _ z => z) hdec w
  · rename_i st
    simp only [am_ok, decide_eq_true_eq] at hok
    obtain ⟨rfl, rfl⟩ := hok
    exact (hK _ _ _ H0).step (fun H locs cs sl lsR _ _ _ _ w => lv_null hx hb hdec w)
  · rename_i n st
    simp only [am_ok, Bool.or_eq_true, decide_eq_true_eq] at hok
    split at H0
    · rename_i v hg
      rcases hok with ⟨rfl, rfl⟩ | ⟨hn, rfl, rfl⟩
      · exact (hK _ _ _ H0).step (fun H locs cs sl lsR _ _ hl _ w => lv_iload hx hb hdec (hl.at hg (fun _ q => by cases q)) w)
      · exact (hK _ _ _ H0).step (fun H locs cs sl lsR _ _ hl _ w => lv_iload_n hx hb hdec (am_fin4 hn) (hl.at hg (fun _ q => by cases q)) w)
    · exact H0.elim
  · rename_i n st
    simp only [am_ok, Bool.or_eq_true, decide_eq_true_eq] at hok
    split at H0
    · rename_i v hg
      rcases hok with ⟨rfl, rfl⟩ | ⟨hn, rfl, rfl⟩
      · exact (hK _ _ _ H0).step (fun H locs cs sl lsR _ _ hl _ w => lv_lload hx hb hdec (hl.at hg (fun _ q => by cases q)) w)
      · exact (hK _ _ _ H0).step (fun H locs cs sl lsR _ _ hl _ w => lv_lload_n hx hb hdec (am_fin4 hn) (hl.at hg (fun _ q => by cases q)) w)
    · exact H0.elim
  · rename_i n st
    simp only [am_ok, Bool.or_eq_true, decide_eq_true_eq] at hok
    split at H0
    · rename_i v hg
      rcases hok with ⟨rfl, rfl⟩ | ⟨hn, rfl, rfl⟩
      · exact (hK _ _ _ H0).step (fun H locs cs sl lsR _ _ hl _ w => lv_aload hx hb hdec (hl.at hg (fun _ q => by cases q)) w)
      · exact (hK _ _ _ H0).step (fun H locs cs sl lsR _ _ hl _ w => lv_aload_n hx hb hdec (am_fin4 hn) (hl.at hg (fun _ q => by cases q)) w)
    · rename_i hg
      rcases hok with ⟨rfl, rfl⟩ | ⟨hn, rfl, rfl⟩
      · exact (hK _ _ _ H0).step (fun H locs cs sl lsR _ _ hl _ w => lv_aloadN hx hb hdec (hl.at hg (fun _ q => by cases q)) w)
      · exact (hK _ _ _ H0).step (fun H locs cs sl lsR _ _ hl _ w => lv_aload_nN hx hb hdec (am_fin4 hn) (hl.at hg (fun _ q => by cases q)) w)
    · exact H0.elim
  · rename_i n v st
    simp only [am_ok, Bool.or_eq_true, decide_eq_true_eq] at hok
    rcases hok with ⟨rfl, rfl⟩ | ⟨hn, rfl, rfl⟩
    · exact (hK _ _ _ H0.2).stepL (am_put_len _ _ _) (fun H locs cs sl lsR hl w => lv_istore hx hb hdec hl H0.1 rfl (fun lsR' hl' => w lsR' (am_lv.put H0.1 hl')))
    · exact (hK _ _ _ H0.2).stepL (am_put_len _ _ _) (fun H locs cs sl lsR hl w => lv_istore_n hx hb hdec (am_fin4 hn) hl H0.1 rfl (fun lsR' hl' => w lsR' (am_lv.put H0.1 hl')))
  · rename_i n v st
    simp only [am_ok, Bool.or_eq_true, decide_eq_true_eq] at hok
    rcases hok with ⟨rfl, rfl⟩ | ⟨hn, rfl, rfl⟩
    · exact (hK _ _ _ H0.2).stepL (am_putL_len _ _ _) (fun H locs cs sl lsR hl w => lv_lstore hx hb hdec hl H0.1 rfl (fun lsR' hl' => w lsR' (am_lv.putL H0.1 hl')))
    · exact (hK _ _ _ H0.2).stepL (am_putL_len _ _ _) (fun H locs cs sl lsR hl w => lv_lstore_n hx hb hdec (am_fin4 hn) hl H0.1 rfl (fun lsR' hl' => w lsR' (am_lv.putL H0.1 hl')))
  · rename_i n v st
    simp only [am_ok, Bool.or_eq_true, decide_eq_true_eq] at hok
    rcases hok with ⟨rfl, rfl⟩ | ⟨hn, rfl, rfl⟩
    · exact (hK _ _ _ H0.2).stepL (am_put_len _ _ _) (fun H locs cs sl lsR hl w => lv_astore hx hb hdec hl H0.1 rfl (fun lsR' hl' => w lsR' (am_lv.put H0.1 hl')))
    · exact (hK _ _ _ H0.2).stepL (am_put_len _ _ _) (fun H locs cs sl lsR hl w => lv_astore_n hx hb hdec (am_fin4 hn) hl H0.1 rfl (fun lsR' hl' => w lsR' (am_lv.put H0.1 hl')))
  · rename_i n st
    simp only [am_ok, Bool.or_eq_true, decide_eq_true_eq] at hok
    rcases hok with ⟨rfl, rfl⟩ | ⟨hn, rfl, rfl⟩
    · exact (hK _ _ _ H0.2).stepL (am_put_len _ _ _) (fun H locs cs sl lsR hl w => lv_astoreN hx hb hdec hl H0.1 rfl (fun lsR' hl' => w lsR' (am_lv.put H0.1 hl')))
    · exact (hK _ _ _ H0.2).stepL (am_put_len _ _ _) (fun H locs cs sl lsR hl w => lv_astore_nN hx hb hdec (am_fin4 hn) hl H0.1 rfl (fun lsR' hl' => w lsR' (am_lv.put H0.1 hl')))
  · rename_i st n cst
    simp only [am_ok, decide_eq_true_eq] at hok
    obtain ⟨rfl, rfl⟩ := hok
    split at H0
    · rename_i v hg
      refine (hK _ _ _ H0.2).stepL (am_put_len _ _ _) (fun H locs cs sl lsR hl w => ?_)
      obtain ⟨kx, hkx⟩ := List.getElem?_of_mem (am_lls_mem.mpr ⟨Value.int v, am_get_some hg (fun _ q => by cases q), fun _ q => (by cases q), rfl⟩ : (n, am_v G (Value.int v)) ∈ am_lls G ls)
      exact lv_iinc hx hb hdec hl hkx rfl H0.1 rfl (fun lsR' hl' => w lsR' (am_lv.put H0.1 hl'))
    · exact H0.elim
  · rename_i v st
    simp only [am_ok, decide_eq_true_eq] at hok
    obtain ⟨rfl, rfl⟩ := hok
    exact (hK _ _ _ H0).step (fun H locs cs sl lsR _ _ _ _ w => lv_dup hx hb hdec rfl w)
  · rename_i v st
    simp only [am_ok, decide_eq_true_eq] at hok
    obtain ⟨rfl, rfl⟩ := hok
    exact (hK _ _ _ H0).step (fun H locs cs sl lsR _ _ _ _ w => lv_dup hx hb hdec rfl w)
  · rename_i v st
    simp only [am_ok, decide_eq_true_eq] at hok
    obtain ⟨rfl, rfl⟩ := hok
    exact (hK _ _ _ H0).step (fun H locs cs sl lsR _ _ _ _ w => lv_dup2_2 hx hb hdec rfl w)
  · rename_i v v2 st
    simp only [am_ok, decide_eq_true_eq] at hok
    obtain ⟨rfl, rfl⟩ := hok
    exact (hK _ _ _ H0).step (fun H locs cs sl lsR _ _ _ _ w => lv_dup2_11 hx hb hdec rfl rfl w)
  · rename_i v st
    simp only [am_ok, decide_eq_true_eq] at hok
    obtain ⟨rfl, rfl⟩ := hok
    exact (hK _ _ _ H0).step (fun H locs cs sl lsR _ _ _ _ w => lv_pop hx hb hdec rfl w)
  · rename_i y z st
    simp only [am_ok, decide_eq_true_eq] at hok
    obtain ⟨rfl, rfl⟩ := hok
    exact (hK _ _ _ H0).step (fun H locs cs sl lsR _ _ _ _ w => lv_iadd hx hb hdec w)
  · rename_i y z st
    simp only [am_ok, decide_eq_true_eq] at hok
    obtain ⟨rfl, rfl⟩ := hok
    exact (hK _ _ _ H0).step (fun H locs cs sl lsR _ _ _ _ w => lv_isub hx hb hdec w)
  · rename_i y z st
    simp only [am_ok, decide_eq_true_eq] at hok
    obtain ⟨rfl, rfl⟩ := hok
    exact (hK _ _ _ H0).step (fun H locs cs sl lsR _ _ _ _ w => lv_imul hx hb hdec w)
  · rename_i y z st
    simp only [am_ok, decide_eq_true_eq] at hok
    obtain ⟨rfl, rfl⟩ := hok
    exact (hK _ _ _ H0.2).step (fun H locs cs sl lsR _ _ _ _ w => lv_idiv hx hb hdec H0.1 w)
  · rename_i y z st
    simp only [am_ok, decide_eq_true_eq] at hok
    obtain ⟨rfl, rfl⟩ := hok
    exact (hK _ _ _ H0.2).step (fun H locs cs sl lsR _ _ _ _ w => lv_irem hx hb hdec H0.1 w)
  · rename_i y z st
    simp only [am_ok, Bool.and_eq_true, decide_eq_true_eq] at hok
    obtain ⟨hok, rfl⟩ := hok
    obtain ⟨q, hq1, hq2, hq3⟩ := am_all am_xl_ok hok
    simp only [decide_eq_true_eq] at hq3
    obtain ⟨e1, e2, rfl⟩ := hq3
    have hw := hts _ (am_wat_in hq2)
    rw [e1, e2] at hw
    refine ⟨(hK _ _ _ H0.2).1, fun a1 a2 a3 H locs lsR hr hS hl => ?_⟩
    have w := (hK _ _ _ H0.2).2 a1 a2 a3 H locs lsR hr hS hl
    have hbd := (hK _ _ _ H0.2).1
    have hrm := am_d4_room G H0.1
    exact va_mmax hx hb (by rw [hml, hl.1]; exact a3.symm) hown hw (hts _ am_w_maxs) (hts _ am_w_math) (hts _ am_w_maxc) (by dsimp only; omega) (by dsimp only; omega) (by dsimp only; rw [hR.1]; omega) (by dsimp only; rw [hR.2]; omega) hdec w
  · rename_i y z st
    simp only [am_ok, Bool.and_eq_true, decide_eq_true_eq] at hok
    obtain ⟨hok, rfl⟩ := hok
    obtain ⟨q, hq1, hq2, hq3⟩ := am_all am_xl_ok hok
    simp only [decide_eq_true_eq] at hq3
    obtain ⟨e1, e2, rfl⟩ := hq3
    have hw := hts _ (am_wat_in hq2)
    rw [e1, e2] at hw
    refine ⟨(hK _ _ _ H0.2).1, fun a1 a2 a3 H locs lsR hr hS hl => ?_⟩
    have w := (hK _ _ _ H0.2).2 a1 a2 a3 H locs lsR hr hS hl
    have hbd := (hK _ _ _ H0.2).1
    have hrm := am_d4_room G H0.1
    exact va_mmin hx hb (by rw [hml, hl.1]; exact a3.symm) hown hw (hts _ am_w_mins) (hts _ am_w_math) (hts _ am_w_minc) (by dsimp only; omega) (by dsimp only; omega) (by dsimp only; rw [hR.1]; omega) (by dsimp only; rw [hR.2]; omega) hdec w
  · rename_i z st
    simp only [am_ok, decide_eq_true_eq] at hok
    obtain ⟨rfl, rfl⟩ := hok
    exact (hK _ _ _ H0).step (fun H locs cs sl lsR _ _ _ _ w => lv_ineg hx hb hdec w)
  · rename_i y z st
    simp only [am_ok, decide_eq_true_eq] at hok
    obtain ⟨rfl, rfl⟩ := hok
    exact (hK _ _ _ H0).step (fun H locs cs sl lsR _ _ _ _ w => lv_ishl hx hb hdec w)
  · rename_i y z st
    simp only [am_ok, decide_eq_true_eq] at hok
    obtain ⟨rfl, rfl⟩ := hok
    exact (hK _ _ _ H0).step (fun H locs cs sl lsR _ _ _ _ w => lv_ishr hx hb hdec w)
  · rename_i y z st
    simp only [am_ok, decide_eq_true_eq] at hok
    obtain ⟨rfl, rfl⟩ := hok
    exact (hK _ _ _ H0).step (fun H locs cs sl lsR _ _ _ _ w => lv_iushr hx hb hdec rfl w)
  · rename_i y z st
    simp only [am_ok, decide_eq_true_eq] at hok
    obtain ⟨rfl, rfl⟩ := hok
    exact (hK _ _ _ H0).step (fun H locs cs sl lsR _ _ _ _ w => lv_iand hx hb hdec w)
  · rename_i y z st
    simp only [am_ok, decide_eq_true_eq] at hok
    obtain ⟨rfl, rfl⟩ := hok
    exact (hK _ _ _ H0).step (fun H locs cs sl lsR _ _ _ _ w => lv_ior hx hb hdec w)
  · rename_i y z st
    simp only [am_ok, decide_eq_true_eq] at hok
    obtain ⟨rfl, rfl⟩ := hok
    exact (hK _ _ _ H0).step (fun H locs cs sl lsR _ _ _ _ w => lv_ixor hx hb hdec w)
  · rename_i y z st
    simp only [am_ok, decide_eq_true_eq] at hok
    obtain ⟨rfl, rfl⟩ := hok
    exact (hK _ _ _ H0).step (fun H locs cs sl lsR _ _ _ _ w => lv_ladd hx hb hdec w)
  · rename_i y z st
    simp only [am_ok, decide_eq_true_eq] at hok
    obtain ⟨rfl, rfl⟩ := hok
    exact (hK _ _ _ H0).step (fun H locs cs sl lsR _ _ _ _ w => lv_lsub hx hb hdec w)
  · rename_i y z st
    simp only [am_ok, decide_eq_true_eq] at hok
    obtain ⟨rfl, rfl⟩ := hok
    exact (hK _ _ _ H0).step (fun H locs cs sl lsR _ _ _ _ w => lv_lmul hx hb hdec w)
  · rename_i y z st
    simp only [am_ok, decide_eq_true_eq] at hok
    obtain ⟨rfl, rfl⟩ := hok
    exact (hK _ _ _ H0.2).step (fun H locs cs sl lsR _ _ _ _ w => lv_lrem hx hb hdec H0.1 w)
  · rename_i y z st
    simp only [am_ok, decide_eq_true_eq] at hok
    obtain ⟨rfl, rfl⟩ := hok
    exact (hK _ _ _ H0).step (fun H locs cs sl lsR _ _ _ _ w => lv_land hx hb hdec w)
  · rename_i y z st
    simp only [am_ok, decide_eq_true_eq] at hok
    obtain ⟨rfl, rfl⟩ := hok
    exact (hK _ _ _ H0).step (fun H locs cs sl lsR _ _ _ _ w => lv_lor hx hb hdec w)
  · rename_i y z st
    simp only [am_ok, decide_eq_true_eq] at hok
    obtain ⟨rfl, rfl⟩ := hok
    exact (hK _ _ _ H0).step (fun H locs cs sl lsR _ _ _ _ w => lv_lxor hx hb hdec w)
  · rename_i y z st
    simp only [am_ok, decide_eq_true_eq] at hok
    obtain ⟨rfl, rfl⟩ := hok
    exact (hK _ _ _ H0).step (fun H locs cs sl lsR _ _ _ _ w => lv_lushr hx hb hdec rfl w)
  · rename_i y z st
    simp only [am_ok, decide_eq_true_eq] at hok
    obtain ⟨rfl, rfl⟩ := hok
    exact (hK _ _ _ H0).step (fun H locs cs sl lsR _ _ _ _ w => W.lcmp hx hb hdec w)
  · rename_i z st
    simp only [am_ok, decide_eq_true_eq] at hok
    obtain ⟨rfl, rfl⟩ := hok
    exact (hK _ _ _ H0).step (fun H locs cs sl lsR _ _ _ _ w => lv_i2b hx hb hdec rfl w)
  · rename_i z st
    simp only [am_ok, decide_eq_true_eq] at hok
    obtain ⟨rfl, rfl⟩ := hok
    exact (hK _ _ _ H0).step (fun H locs cs sl lsR _ _ _ _ w => lv_i2c hx hb hdec rfl w)
  · rename_i z st
    simp only [am_ok, decide_eq_true_eq] at hok
    obtain ⟨rfl, rfl⟩ := hok
    exact (hK _ _ _ H0).step (fun H locs cs sl lsR _ _ _ _ w => lv_i2l hx hb hdec rfl w)
  · rename_i z st
    simp only [am_ok, decide_eq_true_eq] at hok
    obtain ⟨rfl, rfl⟩ := hok
    exact (hK _ _ _ H0).step (fun H locs cs sl lsR _ _ _ _ w => lv_l2i hx hb hdec rfl w)
  · rename_i j a st
    simp only [am_ok, decide_eq_true_eq] at hok
    obtain ⟨rfl, rfl⟩ := hok
    match hq : h.1 a, H0 with
    | .inr (t, .inl xs), H0 =>
      obtain ⟨rfl, h1, h2⟩ := H0
      exact (hK _ _ _ h2).step (fun H locs cs sl lsR hr hS _ _ w => am_row_ri hx hb hKn hr hS hq h1 hdec w)
  · rename_i j a st
    simp only [am_ok, decide_eq_true_eq] at hok
    obtain ⟨rfl, rfl⟩ := hok
    match hq : h.1 a, H0 with
    | .inr (t, .inl xs), H0 =>
      obtain ⟨h0, h1, h2⟩ := H0
      exact (hK _ _ _ h2).step (fun H locs cs sl lsR hr hS _ _ w => am_row_rb hx hb hKn hr h0 hq h1 hdec w)
  · rename_i j a st
    simp only [am_ok, decide_eq_true_eq] at hok
    obtain ⟨rfl, rfl⟩ := hok
    match hq : h.1 a, H0 with
    | .inr (t, .inr (.inl xs)), H0 =>
      obtain ⟨h1, h2⟩ := H0
      exact (hK _ _ _ h2).step (fun H locs cs sl lsR hr hS _ _ w => am_row_rj hx hb hKn hr hS hq h1 hdec w)
  · rename_i j a st
    simp only [am_ok, decide_eq_true_eq] at hok
    obtain ⟨rfl, rfl⟩ := hok
    match hq : h.1 a, H0 with
    | .inr (t, .inr (.inr xs)), H0 =>
      obtain ⟨h1, h2⟩ := H0
      exact (hK _ _ _ h2).step (fun H locs cs sl lsR hr hS _ _ w => am_row_rr hx hb hKn hr hq h1 hdec w)
  · rename_i v j a st
    simp only [am_ok, decide_eq_true_eq] at hok
    obtain ⟨rfl, rfl⟩ := hok
    obtain ⟨h23, H0⟩ := H0
    match hq : h.1 a, H0 with
    | .inr (t, .inl xs), H0 =>
      obtain ⟨rfl, h1, h2⟩ := H0
      refine ⟨(hK _ _ _ h2).1, fun a1 a2 a3 H locs lsR hr hS hl => ?_⟩
      exact (am_RS.stepH (pc := pc) (st := .int v :: .int j :: .ref a :: st) (hK _ _ _ h2) (fun H locs cs sl lsR hr _ w => am_row_wi hx hb hKn hr h23 hq h1 hdec w) h23 (am_arr_at hr h23 hq).1).2 a1 a2 a3 H locs lsR hr hS hl
  · rename_i v j a st
    simp only [am_ok, decide_eq_true_eq] at hok
    obtain ⟨rfl, rfl⟩ := hok
    obtain ⟨h23, H0⟩ := H0
    match hq : h.1 a, H0 with
    | .inr (t, .inl xs), H0 =>
      obtain ⟨h0, h1, h2⟩ := H0
      refine ⟨(hK _ _ _ h2).1, fun a1 a2 a3 H locs lsR hr hS hl => ?_⟩
      exact (am_RS.stepH (pc := pc) (st := .int v :: .int j :: .ref a :: st) (hK _ _ _ h2) (fun H locs cs sl lsR hr _ w => am_row_wb hx hb hKn hr h23 h0 hq h1 hdec w) h23 (am_arr_at hr h23 hq).1).2 a1 a2 a3 H locs lsR hr hS hl
  · rename_i v j a st
    simp only [am_ok, decide_eq_true_eq] at hok
    obtain ⟨rfl, rfl⟩ := hok
    obtain ⟨h23, H0⟩ := H0
    match hq : h.1 a, H0 with
    | .inr (t, .inr (.inl xs)), H0 =>
      obtain ⟨h1, h2⟩ := H0
      refine ⟨(hK _ _ _ h2).1, fun a1 a2 a3 H locs lsR hr hS hl => ?_⟩
      exact (am_RS.stepH (pc := pc) (st := .long v :: .int j :: .ref a :: st) (hK _ _ _ h2) (fun H locs cs sl lsR hr _ w => am_row_wj hx hb hKn hr h23 hq h1 hdec w) h23 (am_arr_at hr h23 hq).1).2 a1 a2 a3 H locs lsR hr hS hl
  · rename_i v j a st
    simp only [am_ok, decide_eq_true_eq] at hok
    obtain ⟨rfl, rfl⟩ := hok
    obtain ⟨h23, H0⟩ := H0
    match hq : h.1 a, H0 with
    | .inr (t, .inr (.inr xs)), H0 =>
      obtain ⟨h1, h0, h2⟩ := H0
      refine ⟨(hK _ _ _ h2).1, fun a1 a2 a3 H locs lsR hr hS hl => ?_⟩
      exact (am_RS.stepH (pc := pc) (st := .ref v :: .int j :: .ref a :: st) (hK _ _ _ h2) (fun H locs cs sl lsR hr _ w => am_row_wr hx hb hKn hr h23 hq h0 h1 hdec w) h23 (am_arr_at hr h23 hq).1).2 a1 a2 a3 H locs lsR hr hS hl
  · rename_i j a st
    simp only [am_ok, decide_eq_true_eq] at hok
    obtain ⟨rfl, rfl⟩ := hok
    obtain ⟨h23, H0⟩ := H0
    match hq : h.1 a, H0 with
    | .inr (t, .inr (.inr xs)), H0 =>
      obtain ⟨h1, h0, h2⟩ := H0
      refine ⟨(hK _ _ _ h2).1, fun a1 a2 a3 H locs lsR hr hS hl => ?_⟩
      exact (am_RS.stepH (pc := pc) (st := .null :: .int j :: .ref a :: st) (hK _ _ _ h2) (fun H locs cs sl lsR hr _ w => am_row_wn hx hb hKn hr h23 hq h1 hdec w) h23 (am_arr_at hr h23 hq).1).2 a1 a2 a3 H locs lsR hr hS hl
  · rename_i a st
    simp only [am_ok, decide_eq_true_eq] at hok
    obtain ⟨rfl, rfl⟩ := hok
    obtain ⟨n0, hn0, -⟩ := am_len_pt _ H0
    refine ⟨(hK _ _ _ hn0).1, fun a1 a2 a3 H locs lsR hr hS hl => ?_⟩
    exact am_row_len hx hb hKn hr hS H0 hdec (fun n hn => (hK _ _ _ hn).2 a1 a2 a3 H locs lsR hr hS hl)
  · rename_i k a st
    simp only [am_ok, Bool.and_eq_true, decide_eq_true_eq] at hok
    obtain ⟨hok, rfl⟩ := hok
    obtain ⟨q, hq, hq3⟩ := List.any_eq_true.mp hok
    simp only [decide_eq_true_eq] at hq3
    obtain ⟨e1, e2, e3, rfl⟩ := hq3
    obtain ⟨fs, v, g1, g2, g3⟩ := am_gf_at H0
    exact (hK _ _ _ g3).step (fun H locs cs sl lsR hr hS _ _ w => am_row_get hx hb hts hKn hown hr g1 g2 hq e1 e2 e3 hdec w)
  · rename_i k v a st
    simp only [am_ok, Bool.and_eq_true, decide_eq_true_eq] at hok
    obtain ⟨⟨⟨hok, hfk⟩, hfn⟩, rfl⟩ := hok
    obtain ⟨q, hq, hq3⟩ := List.any_eq_true.mp hok
    simp only [decide_eq_true_eq] at hq3
    obtain ⟨e1, e2, e3, rfl⟩ := hq3
    obtain ⟨h23, H0⟩ := H0
    obtain ⟨fs, g1, g2, g3⟩ := am_pf_at H0
    have hk13 : k < 13 := am_fl_13 q hq e2
    refine ⟨(hK _ _ _ g3).1, fun a1 a2 a3 H locs lsR hr hS hl => ?_⟩
    exact (am_RS.stepH (pc := pc) (st := .int v :: .ref a :: st) (hK _ _ _ g3) (fun H locs cs sl lsR hr _ w => am_row_put (v := .int v) hx hb hts hKn hown hr g1 g2 hq e1 e2 e3 hdec (am_pfin hfn hini) (by rw [am_fk0 hfk]; rfl) (by rw [am_fk0 hfk]; rfl) w) h23 (am_obj hKn hr g1 hk13).2.1).2 a1 a2 a3 H locs lsR hr hS hl
  · rename_i k v a st
    simp only [am_ok, Bool.and_eq_true, decide_eq_true_eq] at hok
    obtain ⟨⟨⟨hok, hfk⟩, hfn⟩, rfl⟩ := hok
    obtain ⟨q, hq, hq3⟩ := List.any_eq_true.mp hok
    simp only [decide_eq_true_eq] at hq3
    obtain ⟨e1, e2, e3, rfl⟩ := hq3
    obtain ⟨hv01, h23, H0⟩ := H0
    obtain ⟨fs, g1, g2, g3⟩ := am_pf_at H0
    have hk13 : k < 13 := am_fl_13 q hq e2
    refine ⟨(hK _ _ _ g3).1, fun a1 a2 a3 H locs lsR hr hS hl => ?_⟩
    rcases hv01 with hv | hv <;> subst hv
    · exact (am_RS.stepH (pc := pc) (st := .int 0 :: .ref a :: st) (hK _ _ _ g3) (fun H locs cs sl lsR hr _ w => am_row_put (v := .int 0) hx hb hts hKn hown hr g1 g2 hq e1 e2 e3 hdec (am_pfin hfn hini) (by rw [am_fk1 hfk]; rfl) (by rw [am_fk1 hfk]; rfl) w) h23 (am_obj hKn hr g1 hk13).2.1).2 a1 a2 a3 H locs lsR hr hS hl
    · exact (am_RS.stepH (pc := pc) (st := .int 1 :: .ref a :: st) (hK _ _ _ g3) (fun H locs cs sl lsR hr _ w => am_row_put (v := .int 1) hx hb hts hKn hown hr g1 g2 hq e1 e2 e3 hdec (am_pfin hfn hini) (by rw [am_fk1 hfk]; rfl) (by rw [am_fk1 hfk]; rfl) w) h23 (am_obj hKn hr g1 hk13).2.1).2 a1 a2 a3 H locs lsR hr hS hl
  · rename_i k v a st
    simp only [am_ok, Bool.and_eq_true, decide_eq_true_eq] at hok
    obtain ⟨⟨⟨hok, hfk⟩, hfn⟩, rfl⟩ := hok
    obtain ⟨q, hq, hq3⟩ := List.any_eq_true.mp hok
    simp only [decide_eq_true_eq] at hq3
    obtain ⟨e1, e2, e3, rfl⟩ := hq3
    obtain ⟨h23, H0⟩ := H0
    obtain ⟨fs, g1, g2, g3⟩ := am_pf_at H0
    have hk13 : k < 13 := am_fl_13 q hq e2
    refine ⟨(hK _ _ _ g3).1, fun a1 a2 a3 H locs lsR hr hS hl => ?_⟩
    exact (am_RS.stepH (pc := pc) (st := .ref v :: .ref a :: st) (hK _ _ _ g3) (fun H locs cs sl lsR hr _ w => am_row_put (v := .ref v) hx hb hts hKn hown hr g1 g2 hq e1 e2 e3 hdec (am_pfin hfn hini) (by rcases am_fk2 hfk with ⟨n, hn⟩ | ⟨n, hn⟩ <;> rw [hn] <;> rfl) (by rcases am_fk2 hfk with ⟨n, hn⟩ | ⟨n, hn⟩ <;> rw [hn] <;> rfl) w) h23 (am_obj hKn hr g1 hk13).2.1).2 a1 a2 a3 H locs lsR hr hS hl
  · rename_i k a st
    simp only [am_ok, Bool.and_eq_true, decide_eq_true_eq] at hok
    obtain ⟨⟨⟨hok, hfk⟩, hfn⟩, rfl⟩ := hok
    obtain ⟨q, hq, hq3⟩ := List.any_eq_true.mp hok
    simp only [decide_eq_true_eq] at hq3
    obtain ⟨e1, e2, e3, rfl⟩ := hq3
    obtain ⟨h23, H0⟩ := H0
    obtain ⟨fs, g1, g2, g3⟩ := am_pf_at H0
    have hk13 : k < 13 := am_fl_13 q hq e2
    refine ⟨(hK _ _ _ g3).1, fun a1 a2 a3 H locs lsR hr hS hl => ?_⟩
    exact (am_RS.stepH (pc := pc) (st := .null :: .ref a :: st) (hK _ _ _ g3) (fun H locs cs sl lsR hr _ w => am_row_put (v := .null) hx hb hts hKn hown hr g1 g2 hq e1 e2 e3 hdec (am_pfin hfn hini) (by rcases am_fk2 hfk with ⟨n, hn⟩ | ⟨n, hn⟩ <;> rw [hn] <;> rfl) (by rcases am_fk2 hfk with ⟨n, hn⟩ | ⟨n, hn⟩ <;> rw [hn] <;> rfl) w) h23 (am_obj hKn hr g1 hk13).2.1).2 a1 a2 a3 H locs lsR hr hS hl
  · rename_i st k
    simp only [am_ok, Bool.and_eq_true, decide_eq_true_eq] at hok
    obtain ⟨⟨hok, rfl⟩, rfl⟩ := hok
    obtain ⟨q, hq, hq3⟩ := List.any_eq_true.mp hok
    simp only [decide_eq_true_eq] at hq3
    obtain ⟨e1, e2, rfl⟩ := hq3
    exact am_RS.stepN (hK _ _ _ H0) hR (fun H locs cs sl lsR hr c1 c2 w => am_row_new hx hb hts hKn hown hq e1 e2 hdec c1 c2 (fun cell hat => by
      have ww := w cell hat
      rw [List.map_cons, show am_v G (Value.ref h.2.1) = Value.ref (am_ad G h.2.1) from rfl, am_ad_hi hr.1, ← hr.2.1] at ww
      exact ww))
  · rename_i n st
    simp only [am_ok, decide_eq_true_eq] at hok
    obtain ⟨rfl, rfl⟩ := hok
    exact am_RS.stepN (hK _ _ _ H0.2.2) hR (fun H locs cs sl lsR hr c1 c2 w => am_row_newJ hx hb hts hKn H0.1 H0.2.1 hdec c1 c2 (fun cell hat => by
      have ww := w cell hat
      rw [List.map_cons, show am_v G (Value.ref h.2.1) = Value.ref (am_ad G h.2.1) from rfl, am_ad_hi hr.1, ← hr.2.1] at ww
      exact ww))
  · rename_i t n st _
    simp only [am_ok, decide_eq_true_eq] at hok
    obtain ⟨rfl, rfl⟩ := hok
    exact am_RS.stepN (hK _ _ _ H0.2.2.2) hR (fun H locs cs sl lsR hr c1 c2 w => am_row_newI hx hb hts hKn H0.1 H0.2.1 H0.2.2.1 hdec c1 c2 (fun cell hat => by
      have ww := w cell hat
      rw [List.map_cons, show am_v G (Value.ref h.2.1) = Value.ref (am_ad G h.2.1) from rfl, am_ad_hi hr.1, ← hr.2.1] at ww
      exact ww))
  · rename_i k n st
    simp only [am_ok, Bool.and_eq_true, decide_eq_true_eq] at hok
    obtain ⟨⟨hok, hk62⟩, rfl⟩ := hok
    obtain ⟨q, hq, hq3⟩ := List.any_eq_true.mp hok
    simp only [decide_eq_true_eq] at hq3
    obtain ⟨e1, e2, rfl⟩ := hq3
    exact am_RS.stepN (hK _ _ _ H0.2.2) hR (fun H locs cs sl lsR hr c1 c2 w => am_row_newR hx hb hts hKn hown hk62 hq e1 e2 H0.1 H0.2.1 hdec c1 c2 (fun cell hat => by
      have ww := w cell hat
      rw [List.map_cons, show am_v G (Value.ref h.2.1) = Value.ref (am_ad G h.2.1) from rfl, am_ad_hi hr.1, ← hr.2.1] at ww
      exact ww))
  · rename_i st j
    exact hI j 0 (Or.inl rfl)
  · rename_i st j
    exact hI j 0 (Or.inr (Or.inl rfl))
  · rename_i st j k
    exact hI j k (Or.inr (Or.inr (Or.inl rfl)))
  · rename_i a st
    simp only [am_ok, Bool.and_eq_true, decide_eq_true_eq] at hok
    obtain ⟨hok, rfl⟩ := hok
    obtain ⟨q, hq1, hq2, hq3⟩ := am_all am_ol_ok hok
    simp only [decide_eq_true_eq] at hq3
    obtain ⟨e1, rfl⟩ := hq3
    have hw := hts _ (am_wat_in hq2)
    rw [e1] at hw
    have hrm := am_d4_room G H0.1
    exact (hK _ _ _ H0.2).step (fun H locs cs sl lsR _ _ _ hsz w => W.objInit hx hb hown hw (hts _ am_w_oi) (hts _ am_w_oc) rfl (by rw [hml]; exact hsz) rfl hdec (by dsimp only; omega) (by show 2 * 0 + _ + 12 ≤ R.locals; omega) w)
  · rename_i n k a2 j a1 st
    simp only [am_ok, Bool.and_eq_true, decide_eq_true_eq] at hok
    obtain ⟨hok, rfl⟩ := hok
    obtain ⟨q, hq, hq3⟩ := List.any_eq_true.mp hok
    simp only [decide_eq_true_eq] at hq3
    obtain ⟨e1, rfl⟩ := hq3
    obtain ⟨⟨h23s, hne, hd4⟩, h23, H0⟩ := H0
    have hrm := am_d4_room G hd4
    have hnfw : nativeFrameWords "java/lang/System" "arraycopy" 5 = 7 := by decide +kernel
    match hq1 : h.1 a1, hq2 : h.1 a2, H0 with
    | .inr (t, .inl xs), .inr (t', .inl ys), H0 =>
      obtain ⟨ett, ht, c1, c2, c3, c4, c5, g⟩ := H0
      subst ett
      refine ⟨(hK _ _ _ g).1, fun z1 z2 z3 H locs lsR hr hS hl => ?_⟩
      refine (am_RS.stepH (pc := pc) (st := .int n :: .int k :: .ref a2 :: .int j :: .ref a1 :: st) (hK _ _ _ g) (fun H locs cs sl lsR hr hsz w => ?_) h23 (am_arr_at hr h23 hq2).1).2 z1 z2 z3 H locs lsR hr hS hl
      obtain ⟨-, r1, rb, r2⟩ := am_arr_at hr h23s hq1
      obtain ⟨-, r3, rb', r4⟩ := am_arr_at hr h23 hq2
      have hnr : am_ad G a1 ≠ am_ad G a2 := fun e => hne (am_ad_inj h23s h23 e)
      rcases ht with ht | ht
      · subst ht
        exact am_row_copy (f := Value.int) 0 hx hb (hml.trans hsz.symm) hts hown hq e1 hnr (am_K2 hKn).2.1 rfl r2 r4 (fun x hx' => am_fitB (rb rfl x hx')) c1 c2 c3 c4 c5 (by dsimp only; omega) (by dsimp only; rw [hnfw]; omega) hdec (fun H' L s1 s2 s3 s4 => w H' L s1 s2 ⟨by omega, fun _ y hy => by
          rcases am_cpy_mem hy with q | q
          · exact rb rfl y q
          · exact rb' rfl y q, s3⟩ s4)
      · subst ht
        exact am_row_copy (f := Value.int) 0 hx hb (hml.trans hsz.symm) hts hown hq e1 hnr (am_K2 hKn).2.2.1 rfl r2 r4 (fun _ _ => rfl) c1 c2 c3 c4 c5 (by dsimp only; omega) (by dsimp only; rw [hnfw]; omega) hdec (fun H' L s1 s2 s3 s4 => w H' L s1 s2 ⟨by omega, (fun q => by cases q), s3⟩ s4)
    | .inr (t, .inr (.inl xs)), .inr (t', .inr (.inl ys)), H0 =>
      obtain ⟨ht, ht', c1, c2, c3, c4, c5, g⟩ := H0
      subst ht
      subst ht'
      refine ⟨(hK _ _ _ g).1, fun z1 z2 z3 H locs lsR hr hS hl => ?_⟩
      refine (am_RS.stepH (pc := pc) (st := .int n :: .int k :: .ref a2 :: .int j :: .ref a1 :: st) (hK _ _ _ g) (fun H locs cs sl lsR hr hsz w => ?_) h23 (am_arr_at hr h23 hq2).1).2 z1 z2 z3 H locs lsR hr hS hl
      obtain ⟨-, r1, r2⟩ := am_arr_at hr h23s hq1
      obtain ⟨-, r3, r4⟩ := am_arr_at hr h23 hq2
      have hnr : am_ad G a1 ≠ am_ad G a2 := fun e => hne (am_ad_inj h23s h23 e)
      exact am_row_copy (f := Value.long) 0 hx hb (hml.trans hsz.symm) hts hown hq e1 hnr (am_K2 hKn).2.2.2.1 rfl r2 r4 (fun _ _ => rfl) c1 c2 c3 c4 c5 (by dsimp only; omega) (by dsimp only; rw [hnfw]; omega) hdec (fun H' L s1 s2 s3 s4 => w H' L s1 s2 ⟨rfl, s3⟩ s4)
  · rename_i a st
    exact hI 0 0 (Or.inr (Or.inr (Or.inr (Or.inl rfl))))
  · rename_i j a st
    exact hI 0 0 (Or.inr (Or.inr (Or.inr (Or.inr rfl))))
  · rename_i cn off y z st
    simp only [am_ok, decide_eq_true_eq] at hok
    obtain ⟨rfl, rfl⟩ := hok
    have hbd : (h.2.1 ≤ b.2.2.1 ∧ h.2.2 ≤ b.2.2.2.1) := by
      by_cases hc : am_cmp cn z y
      · exact (H0.1 hc).1
      · exact (hK _ _ _ (H0.2 hc)).1
    refine ⟨hbd, fun a1 a2 a3 H locs lsR hr hS hl => ?_⟩
    cases cn
    · exact lv_icmp_eq hx hb hdec am_off (fun hc => (H0.1 hc).2 a1 a2 a3 H locs lsR hr hS hl) (fun hc => (hK _ _ _ (H0.2 hc)).2 a1 a2 a3 H locs lsR hr hS hl)
    · exact lv_icmp_ne hx hb hdec am_off (fun hc => (H0.1 hc).2 a1 a2 a3 H locs lsR hr hS hl) (fun hc => (hK _ _ _ (H0.2 (fun q => q hc))).2 a1 a2 a3 H locs lsR hr hS hl)
    · exact lv_icmp_lt hx hb hdec am_off (fun hc => (H0.1 hc).2 a1 a2 a3 H locs lsR hr hS hl) (fun hc => (hK _ _ _ (H0.2 hc)).2 a1 a2 a3 H locs lsR hr hS hl)
    · exact lv_icmp_ge hx hb hdec am_off (fun hc => (H0.1 hc).2 a1 a2 a3 H locs lsR hr hS hl) (fun hc => (hK _ _ _ (H0.2 hc)).2 a1 a2 a3 H locs lsR hr hS hl)
    · exact lv_icmp_gt hx hb hdec am_off (fun hc => (H0.1 hc).2 a1 a2 a3 H locs lsR hr hS hl) (fun hc => (hK _ _ _ (H0.2 hc)).2 a1 a2 a3 H locs lsR hr hS hl)
    · exact lv_icmp_le hx hb hdec am_off (fun hc => (H0.1 hc).2 a1 a2 a3 H locs lsR hr hS hl) (fun hc => (hK _ _ _ (H0.2 hc)).2 a1 a2 a3 H locs lsR hr hS hl)
  · rename_i cn off z st
    simp only [am_ok, decide_eq_true_eq] at hok
    obtain ⟨rfl, rfl⟩ := hok
    have hbd : (h.2.1 ≤ b.2.2.1 ∧ h.2.2 ≤ b.2.2.2.1) := by
      by_cases hc : am_cmp cn z 0
      · exact (H0.1 hc).1
      · exact (hK _ _ _ (H0.2 hc)).1
    refine ⟨hbd, fun a1 a2 a3 H locs lsR hr hS hl => ?_⟩
    cases cn
    · exact lv_if_eq hx hb hdec am_off (fun hc => (H0.1 hc).2 a1 a2 a3 H locs lsR hr hS hl) (fun hc => (hK _ _ _ (H0.2 hc)).2 a1 a2 a3 H locs lsR hr hS hl)
    · exact lv_if_ne hx hb hdec am_off (fun hc => (H0.1 hc).2 a1 a2 a3 H locs lsR hr hS hl) (fun hc => (hK _ _ _ (H0.2 (fun q => q hc))).2 a1 a2 a3 H locs lsR hr hS hl)
    · exact lv_if_lt hx hb hdec am_off (fun hc => (H0.1 hc).2 a1 a2 a3 H locs lsR hr hS hl) (fun hc => (hK _ _ _ (H0.2 hc)).2 a1 a2 a3 H locs lsR hr hS hl)
    · exact lv_if_ge hx hb hdec am_off (fun hc => (H0.1 hc).2 a1 a2 a3 H locs lsR hr hS hl) (fun hc => (hK _ _ _ (H0.2 hc)).2 a1 a2 a3 H locs lsR hr hS hl)
    · exact lv_if_gt hx hb hdec am_off (fun hc => (H0.1 hc).2 a1 a2 a3 H locs lsR hr hS hl) (fun hc => (hK _ _ _ (H0.2 hc)).2 a1 a2 a3 H locs lsR hr hS hl)
    · exact lv_if_le hx hb hdec am_off (fun hc => (H0.1 hc).2 a1 a2 a3 H locs lsR hr hS hl) (fun hc => (hK _ _ _ (H0.2 hc)).2 a1 a2 a3 H locs lsR hr hS hl)
  · rename_i off a st
    simp only [am_ok, decide_eq_true_eq] at hok
    obtain ⟨rfl, rfl⟩ := hok
    exact (hK _ _ _ H0).step (fun H locs cs sl lsR _ _ _ _ w => lv_ifnull hx hb hdec w)
  · rename_i off st
    simp only [am_ok, decide_eq_true_eq] at hok
    obtain ⟨rfl, rfl⟩ := hok
    exact am_RS.step H0 (fun H locs cs sl lsR _ _ _ _ w => lv_ifnullN hx hb hdec am_off w)
  · rename_i off a st
    simp only [am_ok, decide_eq_true_eq] at hok
    obtain ⟨rfl, rfl⟩ := hok
    exact am_RS.step H0 (fun H locs cs sl lsR _ _ _ _ w => lv_ifnonnull hx hb hdec am_off w)
  · rename_i off st
    simp only [am_ok, decide_eq_true_eq] at hok
    obtain ⟨rfl, rfl⟩ := hok
    exact (hK _ _ _ H0).step (fun H locs cs sl lsR _ _ _ _ w => lv_ifnonnullN hx hb hdec w)
  · rename_i off st
    simp only [am_ok, decide_eq_true_eq] at hok
    obtain ⟨rfl, rfl⟩ := hok
    exact am_RS.step H0 (fun H locs cs sl lsR _ _ _ _ w => lv_goto hx hb hdec am_off w)
  · rename_i off st
    simp [am_ok] at hok
  · rename_i off ps v st
    simp only [am_ok, Bool.or_eq_true, Bool.and_eq_true, decide_eq_true_eq] at hok
    obtain ⟨⟨hok, hbs⟩, hpos⟩ := hok
    have hbs' : ∀ q ∈ ps.toList, -1000 ≤ q.1 ∧ q.1 ≤ 1000 ∧ 0 ≤ q.2 := fun q hq => by have := List.all_eq_true.mp hbs q hq; simpa using this
    rcases hok with ⟨rfl, hm⟩ | ⟨rfl, hsr⟩
    · rcases am_sw_tab H0 hbs' hm with ⟨hout, hj⟩ | ⟨g1, g2, q, hq, hq0, hj⟩
      · exact am_RS.step hj (fun H locs cs sl lsR _ _ _ _ w => lv_tableOut hx hb hdec hout am_off w)
      · refine am_RS.step hj (fun H locs cs sl lsR _ _ _ _ w => lv_tableIn (off := q.2 - (pc : Int)) hx hb hdec g1 g2 ?_ (by omega) w)
        rw [List.getElem?_toArray, List.getElem?_map, hq]
        rfl
    · obtain ⟨t, hj, ht⟩ := am_sw_off (pc := pc) H0 hbs'
      exact am_RS.step hj (fun H locs cs sl lsR _ _ _ _ w => lv_lookup hx hb hdec hsr rfl ht w)
  · rename_i v
    exact hQ _ H0 trivial
  · rename_i v
    exact hQ _ H0.2 H0.1
  · rename_i v
    exact hQ _ H0 trivial
  · rename_i a
    exact hQ _ H0 trivial
  · exact hQ _ H0 trivial
  · exact hQ _ H0 trivial
  · exact H0.elim
