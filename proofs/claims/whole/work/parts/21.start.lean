/-! ===== the law's start (printed by wip/tools/gen6.py; its first rows are the skeleton's) ===== -/
def R_law : String := "MoodSlipsLaw"
def lw_P (b : Addr) (xs : List Int32) (args : Array Value) (s : State) : Prop := args = #[.ref b] ∧ s.IntsAt b xs ∧ xs.length ≤ 384 ∧ (Jvm.Cond.and given_1 narrow_1).before args s = true
def lw_Q (_ : Array Value) (s : State) (o : Outcome) (t : State) : Prop := o = .returned (some (.int 1)) ∧ Framed s o t [] 600000 7302250
def lw_Z (below : List Frame) (a : Array Value) (s : State) : State → Prop := fun t => ∃ o, t.status = .running ∧ Ended t below o ∧ lw_Q a s o t
/-- the law's own end, with 1 on the stack, nothing written that was there before, its room as the claim has it -/
theorem lw_ret {p : Program} {l : Launch} {e : Env} {s : State} {m : MethodId} {below : List Frame} {meth : Method} {c : Code} {b : Nat} (hx : p.tables.exec = Jvm.exec) (hb : c.code = code) (hr : meth.sig.returnType = ret) (hlocks : meth.locks = false) {pc : Nat} {H : Heap} {ls : Array Slot} (hdg : decode code pc = .ok (.ireturn, 1)) : W p l e room_1 s m #[Value.ref b] below meth c H [] 600000 7302250 (lw_Z below #[Value.ref b] s) (F0 m pc ls [.int 1]) := by
  intro T hT X
  obtain ⟨fs, hret, hrun, hended, hW, hframe⟩ := X.leave (v := some (.int 1)) (hlocks := hlocks) (fun h => by rw [hr] at h; cases h)
  have hmeth' : T.vm.method? m = some meth := X.method'
  refine ⟨T.setFrames fs, ?_, .returned (some (.int 1)), hrun, hended, rfl, ⟨_, rfl⟩, hW, hframe⟩
  jvm_step X.here [X.here.top, hx, hb, hdg, hmeth', hr, ret, narrow_b1]
  (try refine ⟨rfl, ?_⟩); (try refine ⟨rfl, ?_⟩)
  first | (intro acts; rw [hret _ acts rfl rfl rfl]) | rw [hret _ _ rfl rfl rfl]
  exact Steps.refl _
/-- what holds at the law's entry: the machine, the code, the tables' words (any of lw_tbl by 'hts w (by decide +kernel)'), the script of L ints xs at the cell b, what the Statement gives of the start (any of its parts by flat_of_before) -/
def lw_At (p : Program) (s : State) (m : MethodId) (meth : Method) (c : Code) (b L : Nat) (xs : Nat → Int32) : Prop :=
  p.tables.exec = Jvm.exec ∧ c.code = code ∧ meth.sig.returnType = ret ∧ c.maxLocals = 4 ∧ s.vm.findClass R_law = some m.cls ∧ (∀ w ∈ lw_tbl, w.before #[Value.ref b] s = true) ∧ va_X b L xs s s.heap ∧ b < s.heap.size ∧ meth.locks = false ∧ (Jvm.Cond.and given_1 narrow_1).before #[Value.ref b] s = true
def st_tml : List (String × Nat) := [("MoodSlips$Reader", 186), ("MoodSlips$Reader", 188), ("MoodSlips$Reader", 158), ("MoodSlips$Reader", 148), ("MoodSlips$Reader", 226), ("MoodSlips$Reader", 156), ("MoodSlips$Reader", 135), ("MoodSlips$Reader", 208), ("MoodSlips$Reader", 150), ("MoodSlips$Reader", 167), ("MoodSlips$Reader", 231), ("MoodSlips$Reader", 141), ("MoodSlips$Reader", 165), ("MoodSlips$Reader", 172), ("MoodSlips$Reader", 163), ("MoodSlips$Reader", 146), ("MoodSlips$Reader", 220), ("MoodSlips$Reader", 218), ("MoodSlips$Reader", 181), ("MoodSlips$Writer", 74)]
def st_tm (i : Nat) : Term := .string (st_tml.getD i ("", 0)).1 (st_tml.getD i ("", 0)).2
def st_byt : List (List Int32) := [[40], [41], [97, 108, 108], [97, 114, 101], [97, 114, 101, 32, 110, 111, 116], [98, 117, 116], [105, 115], [105, 115, 32, 110, 111, 116], [110, 111], [110, 111, 110, 101], [110, 111, 110, 101, 32, 98, 117, 116], [110, 111, 116], [111, 110, 108, 121], [111, 114], [115, 111, 109, 101], [116, 104, 101, 114, 101], [116, 104, 101, 114, 101, 32, 97, 114, 101], [116, 104, 101, 114, 101, 32, 97, 114, 101, 32, 110, 111], [119, 104, 111], [119, 104, 111, 32, 97, 114, 101]]
/-- 3 "(", 4 ")", 5 "all", 6 "are", 7 "are not", 8 "but", 9 "is", 10 "is not", 11 "no", 12 "none", 13 "none but", 14 "not", 15 "only", 16 "or", 17 "some", 18 "there", 19 "there are", 20 "there are no", 21 "who", 22 "who are" -/
def am_pat : List Int64 := [-6148914691236517206, -3689348814741910324, -1085102592571150096, -71777214294589696, -281470681808896, -4294967296]
def am_c0 (xs : List Int32) : Nat → am_E := fun a => if a = 0 then aI 2 xs else if a = 1 then aJ am_pat else if a = 2 then aJ [0, 0, 0, 0] else if a < 23 then aI 9 (st_byt.getD (a - 3) []) else am_bad
def am_hp0 (xs : List Int32) : am_H := (am_c0 xs, 23, 0)
def am_goal (xs : List Int32) : Prop := am_W kc_MoodSlipsLaw_law (am_cl 1000) (fun r h => r = some (.int 1) ∧ h.2.1 ≤ 600023 ∧ h.2.2 ≤ 7302250) 0 (am_ent [.ref 0] 4) [] (am_hp0 xs)
abbrev st_fl : List Cond := flatC (Jvm.Cond.and given_1 narrow_1)
abbrev st_v (i : Nat) : Term := .field (st_tm i) "java/lang/String" "value" "[B"
theorem sx_1 : (List.range 20).all (fun i => decide (Cond.exactly (st_tm i) "java/lang/String" ∈ st_fl) && decide (Cond.eq (.field (st_tm i) "java/lang/String" "coder" "B") (.int 0) ∈ st_fl) && decide (Cond.arrayOf (st_v i) .byte ∈ st_fl) && decide (Cond.eq (.length (st_v i)) (.int (Int32.ofNat (st_byt.getD i []).length)) ∈ st_fl)) = true := by decide +kernel
theorem sx_2 : (List.range 20).all (fun i => (List.range (st_byt.getD i []).length).all (fun j => decide (Cond.eq (.elem (st_v i) (.int (Int32.ofNat j))) (.int ((st_byt.getD i []).getD j 0)) ∈ st_fl))) = true := by decide +kernel
theorem sx_3 : (List.range 20).all (fun i => decide ((st_byt.getD i []).length < 2 ^ 31) && (st_byt.getD i []).all (fun x => decide (x &&& 255 = x ∧ x.toInt8.toInt32 = x))) = true := by decide +kernel
theorem sx_4 : am_tl.all (fun q => decide (Cond.stringRef (am_own q.1) q.2.1 q.2.2.2 ∈ tables_1) && decide (3 ≤ q.2.2.1 ∧ q.2.2.1 < 23) && (decide (st_tm (q.2.2.1 - 3) = Term.string (am_own q.1) q.2.1) || decide (Cond.eq (st_tm (q.2.2.1 - 3)) (.string (am_own q.1) q.2.1) ∈ st_fl))) = true := by decide +kernel
abbrev st_p : Term := .static "MoodSlips" "PATTERNS" "[J"
abbrev st_n : Term := .static "MoodSlips" "NO_REGIONS" "[J"
theorem sx_5 : (List.range 6).all (fun j => decide (Cond.eq (.elem st_p (.int (Int32.ofNat j))) (.long (am_pat.getD j 0)) ∈ st_fl)) = true := by decide +kernel
theorem sx_6 : (List.range 4).all (fun j => decide (Cond.eq (.elem st_n (.int (Int32.ofNat j))) (.long 0) ∈ st_fl)) = true := by decide +kernel
theorem sx_7 : Cond.arrayOf st_p .long ∈ st_fl ∧ Cond.eq (.length st_p) (.int (Int32.ofNat 6)) ∈ st_fl ∧ Cond.arrayOf st_n .long ∈ st_fl ∧ Cond.eq (.length st_n) (.int (Int32.ofNat 4)) ∈ st_fl ∧ Cond.eq (.static "java/lang/String" "COMPACT_STRINGS" "Z") (.int 1) ∈ st_fl ∧ Cond.isRef (.static "jdk/internal/util/Preconditions" "SIOOBE_FORMATTER" "Ljava/util/function/BiFunction;") ∈ st_fl := by decide +kernel
theorem sx_8 : Cond.laysStatic "MoodSlips" "PATTERNS" "[J" ∈ tables_1 ∧ Cond.laysStatic "MoodSlips" "NO_REGIONS" "[J" ∈ tables_1 ∧ Cond.laysStatic "java/lang/String" "COMPACT_STRINGS" "Z" ∈ tables_1 ∧ Cond.laysStatic "jdk/internal/util/Preconditions" "SIOOBE_FORMATTER" "Ljava/util/function/BiFunction;" ∈ tables_1 ∧ Cond.initialized "MoodSlips" ∈ tables_1 ∧ Cond.arrayOver (.object "MoodSlips$Sentence") ∈ tables_1 ∧ Cond.arrayOver (.object "MoodSlips$Desk") ∈ tables_1 := by decide +kernel
theorem st_same {args : Array Value} {s : State} {t u : Term} {a : Nat} (h : (Cond.eq t u).before args s = true) (ht : t.eval args s none [] s = some (.ref a)) : u.eval args s none [] s = some (.ref a) := by
  cases hv : u.eval args s none [] s with
  | none => simp [Cond.before, Cond.holds, Cond.value, ht, hv] at h
  | some w =>
    simp only [Cond.before, Cond.holds, Cond.value, ht, hv] at h
    cases w <;> simp_all
theorem st_isref {args : Array Value} {s : State} {t : Term} (h : (Cond.isRef t).before args s = true) : ∃ v, t.eval args s none [] s = some v ∧ (v = .null ∨ ∃ a, v = .ref a) := by
  cases hv : t.eval args s none [] s with
  | none => simp [Cond.before, Cond.holds, Cond.value, hv] at h
  | some w =>
    simp only [Cond.before, Cond.holds, Cond.value, hv] at h
    cases w <;> simp_all
theorem am_begin {p : Program} {s : State} {m : MethodId} {meth : Method} {c : Code} {b L : Nat} {xs : Nat → Int32} (hL : L ≤ 384) (C0 : lw_At p s m meth c b L xs) : ∃ G : am_D, G.1 0 = b ∧ G.2.1 = s.heap.size ∧ G.2.2.2.2.2 = am_c0 ((List.range L).map xs) ∧ am_Kn G s := by
  obtain ⟨hx, hb, hr, hml, hown, hts, hX, hbl, hlk, hgn⟩ := C0
  have hs := flat_of_before _ hgn
  have htw : ∀ w ∈ am_TBL, w.before #[Value.ref b] s = true := fun w h => hts w (List.mem_filter.mp h).1
  have ht1 : ∀ w ∈ tables_1, w.before #[Value.ref b] s = true := fun w h => hts w (List.mem_append_right _ h)
  have hcls : ∀ c : Nat, ∃ q : ClassId × (Nat → Nat), c < 13 → u_Kn s (am_cl3 c).1 (am_cl3 c).2.1 (am_cl3 c).2.2 q.1 q.2 := fun c => by
    by_cases hc : c < 13
    · have hi := am_rng am_in_ok hc
      simp only [Bool.and_eq_true] at hi
      obtain ⟨cC, iS, h⟩ := u_known htw (am_hin hc) (htw _ (am_wat_in hi.1))
      exact ⟨(cC, iS), fun _ => h⟩
    · exact ⟨(0, fun _ => 0), fun h => absurd h hc⟩
  obtain ⟨D, hD⟩ := Classical.axiomOfChoice hcls
  obtain ⟨cz, kz, oz, z1, z2, z3⟩ := Cond.arrayClass_spec (htw _ am_w_bool)
  obtain ⟨cb, kb, ob, b1, b2, b3⟩ := Cond.arrayClass_spec (htw _ am_w_byte)
  obtain ⟨ci, ki, oi, i1, i2, i3⟩ := Cond.arrayClass_spec (htw _ am_w_int)
  obtain ⟨cj, kj, oj, j1, j2, j3⟩ := Cond.arrayClass_spec (htw _ am_w_long)
  obtain ⟨x1, x2, x3, x4, x5, x6, x7⟩ := sx_8
  obtain ⟨y1, y2, y3, y4, y5, y6⟩ := sx_7
  obtain ⟨oS, cS, kS, s1, -, s3, s4, s5⟩ := Cond.arrayOver_spec (ht1 _ x6)
  obtain ⟨oD, cD, kD, d1, -, d3, d4, d5⟩ := Cond.arrayOver_spec (ht1 _ x7)
  have hA : ∀ a : Nat, a < s.heap.size → ¬ (fun q => s.heap.size ≤ q) a := fun a h1 h2 => Nat.not_lt.mpr h2 h1
  have h0 : ∀ i : Nat, ∃ q : Nat × Nat, i < 20 → (st_tm i).eval #[Value.ref b] s none [] s = some (.ref q.1) ∧ va_O "java/lang/String" q.1 (fun q => s.heap.size ≤ q) s s.heap ∧ va_OF "java/lang/String" "coder" "B" (.int 0) q.1 (fun q => s.heap.size ≤ q) s s.heap ∧ va_OF "java/lang/String" "value" "[B" (.ref q.2) q.1 (fun q => s.heap.size ≤ q) s s.heap ∧ va_T .byte q.2 (st_byt.getD i []).length (fun j => .int ((st_byt.getD i []).getD j 0)) (fun q => s.heap.size ≤ q) s s.heap := by
    intro i
    by_cases hi : i < 20
    · have e1 := am_rng sx_1 hi
      have e2 := am_rng sx_2 hi
      have e3 := am_rng sx_3 hi
      simp only [Bool.and_eq_true, decide_eq_true_eq] at e1 e3
      obtain ⟨⟨⟨f1, f2⟩, f3⟩, f4⟩ := e1
      obtain ⟨a, cc, cA, kA, q1, q2, q3, q4, q5, q6, -⟩ := Cond.exactly_spec (args := #[Value.ref b]) (first := s) (o := none) (s := s) (idx := []) (t := st_tm i) (cls := "java/lang/String") (hs _ f1)
      obtain ⟨t, ht, hT⟩ := va_Tof (f := fun j => .int ((st_byt.getD i []).getD j 0)) (A := fun q => s.heap.size ≤ q) e3.1 (hs _ f3) (va_eqt (hs _ f4)) (fun j hj => va_eqt (hs _ (by have := am_rng e2 hj; simpa using this))) hA
      exact ⟨(a, t), fun _ => ⟨q1, ⟨cA, q3, q5, by rw [q6]; exact q2, hA a (Array.getElem?_eq_some_iff.mp q3).1⟩, vk_OFof q1 (va_eqt (hs _ f2)) hA, vk_OFof q1 ht hA, hT⟩⟩
    · exact ⟨(0, 0), fun h => absurd h hi⟩
  obtain ⟨ad, had⟩ := Classical.axiomOfChoice h0
  obtain ⟨ap, hp1, hp2⟩ := va_Tof (N := 6) (f := fun j => .long (am_pat.getD j 0)) (A := fun q => s.heap.size ≤ q) (by decide) (hs _ y1) (va_eqt (hs _ y2)) (fun j hj => va_eqtl (hs _ (by have := am_rng sx_5 hj; simpa using this))) hA
  obtain ⟨an, hn1, hn2⟩ := va_Tof (N := 4) (f := fun j => .long (([0, 0, 0, 0] : List Int64).getD j 0)) (A := fun q => s.heap.size ≤ q) (by decide) (hs _ y3) (va_eqt (hs _ y4)) (fun j hj => va_eqtl (hs _ (by
    have h := am_rng sx_6 hj
    have e : ([0, 0, 0, 0] : List Int64).getD j 0 = 0 := by
      rcases (show j = 0 ∨ j = 1 ∨ j = 2 ∨ j = 3 by omega) with q | q | q | q <;> subst q <;> rfl
    rw [e]
    simpa using h))) hA
  obtain ⟨fv, hfv, hfv'⟩ := st_isref (hs _ y6)
  have hcs := va_Zof (A := fun q => s.heap.size ≤ q) (ht1 _ x3) (htw _ sw_10) (va_eqi (hs _ y5)) hA
  have hfm := va_Zof (A := fun q => s.heap.size ≤ q) (ht1 _ x4) (htw _ sw_12) hfv hA
  have hzp := va_Zof (A := fun q => s.heap.size ≤ q) (ht1 _ x1) (ht1 _ x5) hp1 hA
  have hzn := va_Zof (A := fun q => s.heap.size ≤ q) (ht1 _ x2) (ht1 _ x5) hn1 hA
  refine ⟨(fun a => if a = 0 then b else if a = 1 then ap else if a = 2 then an else (ad (a - 3)).1, s.heap.size, (fun c => (D c).1, fun c => (D c).2), (fun t => if t = 0 then cz else if t = 1 then cb else if t = 2 then ci else cj), (fun t => if t = 6 then cS else cD), am_c0 ((List.range L).map xs)), rfl, rfl, rfl, ?_⟩
  refine ⟨⟨fun c q hq => ?_, fun k q hq => ?_⟩, fun q hq => ?_, fun q hq h1 => ?_, va_AO.of (ht1 _ x6), va_AO.of (ht1 _ x7), fun q hq => ?_, Nat.le_refl _, fun n hn => ?_, ?_, fun n hn => ?_, fun a a1 a2 => ?_⟩
  · obtain ⟨hc, rfl⟩ := am_cls_of hq
    exact hD c hc
  · have hk : k < 6 := (List.getElem?_eq_some_iff.mp hq).1
    rcases (show k = 0 ∨ k = 1 ∨ k = 2 ∨ k = 3 ∨ k = 4 ∨ k = 5 by omega) with e | e | e | e | e | e <;> subst e <;> cases hq
    · exact ⟨fun n z => ⟨fun k h => (by cases h), kz, z2, oz, z3⟩, z1⟩
    · exact ⟨fun n z => ⟨fun k h => (by cases h), kb, b2, ob, b3⟩, b1⟩
    · exact ⟨fun n z => ⟨fun k h => (by cases h), ki, i2, oi, i3⟩, i1⟩
    · exact ⟨fun n z => ⟨fun k h => (by cases h), kj, j2, oj, j3⟩, j1⟩
    · exact ⟨fun n z => ⟨fun k h => (by cases h), kS, s3, oS, s4⟩, kS, oS, s3, s4, s1, s5⟩
    · exact ⟨fun n z => ⟨fun k h => (by cases h), kD, d3, oD, d4⟩, kD, oD, d3, d4, d1, d5⟩
  · have h := List.all_eq_true.mp am_mn_ok q hq
    simp only [decide_eq_true_eq] at h
    exact va_Nw.of rfl (ht1 _ (List.mem_of_getElem? h))
  · have h := List.all_eq_true.mp am_gl_ok q hq
    rw [if_neg (by rw [h1]; decide)] at h
    simp only [decide_eq_true_eq] at h
    exact va_Nw.of rfl (ht1 _ (List.mem_of_getElem? h))
  · have h := List.all_eq_true.mp sx_4 q hq
    simp only [Bool.and_eq_true, Bool.or_eq_true, decide_eq_true_eq] at h
    obtain ⟨⟨g1, g2⟩, g3⟩ := h
    have e : (if q.2.2.1 = 0 then b else if q.2.2.1 = 1 then ap else if q.2.2.1 = 2 then an else (ad (q.2.2.1 - 3)).1) = (ad (q.2.2.1 - 3)).1 := by
      rw [if_neg (by omega), if_neg (by omega), if_neg (by omega)]
    have hv := (had (q.2.2.1 - 3) (by omega)).1
    show vk_R (am_own q.1) q.2.1 q.2.2.2 (if q.2.2.1 = 0 then b else if q.2.2.1 = 1 then ap else if q.2.2.1 = 2 then an else (ad (q.2.2.1 - 3)).1) s
    rw [e]
    refine vk_R.of (ht1 _ g1) ?_
    rcases g3 with g3 | g3
    · rw [← g3]; exact hv
    · exact st_same (hs _ g3) hv
  · rcases hn with e | e <;> subst e
    · exact hzp
    · exact hzn
  · obtain ⟨scr, v1, v2, v3, v4, v5⟩ := hX
    have hlen : ((List.range L).map xs).length = L := by simp
    refine ⟨(List.range L).map xs, rfl, scr, v1, v2, v3, ?_, ?_, fun j hj => ?_, hA b hbl⟩
    · rw [hlen, v4]; exact Nat.le_refl _
    · rw [hlen, v4]
    · rw [hlen] at hj
      rw [v5 j hj]
      simp [hj]
  · rcases hn with e | e <;> subst e
    · exact ⟨am_pat, rfl, hp2⟩
    · exact ⟨[0, 0, 0, 0], rfl, hn2⟩
  · have e3 := am_rng sx_3 (show a - 3 < 20 by omega)
    simp only [Bool.and_eq_true, decide_eq_true_eq] at e3
    obtain ⟨-, o1, o2, o3, o4⟩ := had (a - 3) (by omega)
    have e : (if a = 0 then b else if a = 1 then ap else if a = 2 then an else (ad (a - 3)).1) = (ad (a - 3)).1 := by
      rw [if_neg (by omega), if_neg (by omega), if_neg (by omega)]
    refine ⟨st_byt.getD (a - 3) [], (ad (a - 3)).2, ?_, e3.1, fun x hx => by have := List.all_eq_true.mp e3.2 x hx; simpa using this, ?_⟩
    · show am_c0 _ a = _
      unfold am_c0
      rw [if_neg (by omega), if_neg (by omega), if_neg (by omega), if_pos a2]
    · show va_O "java/lang/String" (if a = 0 then b else if a = 1 then ap else if a = 2 then an else (ad (a - 3)).1) _ s s.heap ∧ va_OF _ _ _ _ (if a = 0 then b else if a = 1 then ap else if a = 2 then an else (ad (a - 3)).1) _ s s.heap ∧ va_OF _ _ _ _ (if a = 0 then b else if a = 1 then ap else if a = 2 then an else (ad (a - 3)).1) _ s s.heap ∧ _
      rw [e]
      exact ⟨o1, o2, o3, o4, hcs, fv, hfv', hfm⟩
theorem am_start {p : Program} {e : Env} {s : State} {m : MethodId} {below : List Frame} {meth : Method} {c : Code} (hgoal : ∀ ys : List Int32, ys.length ≤ 384 → am_goal ys) (l : Launch) {b L : Nat} {xs : Nat → Int32} (hL : L ≤ 384) (C0 : lw_At p s m meth c b L xs) : W p l e room_1 s m #[Value.ref b] below meth c s.heap [] 0 0 (lw_Z below #[Value.ref b] s) (entryFrame m ([Value.ref b] : List Value).toArray 4) := by
  obtain ⟨G, g1, g2, g3, hKn⟩ := am_begin hL C0
  obtain ⟨hx, hb, hr, hml, hown, hts, hX, hbl, hlk, hgn⟩ := C0
  have hret := hr
  have htw : ∀ w ∈ am_TBL, w.before #[Value.ref b] s = true := fun w h => hts w (List.mem_filter.mp h).1
  have C : am_Cx G (p, l, e, room_1, s, m, #[Value.ref b], below, meth, c, lw_Z below #[Value.ref b] s) (23, 0, 600023, 7302250, 4) 13 false code 1000 := ⟨hx, hb, hml, hown, htw, hKn, (fun h => by cases h), ⟨rfl, rfl⟩, (by show 1000 + 5 ≤ 2048; omega), (by show 45 * 1000 + 200 ≤ 84000; omega)⟩
  have hck : kt_MoodSlipsLaw_law.all (fun q => am_chk code 13 false (some .boolean) q.1 q.2) = true := ck_MoodSlipsLaw_law
  have hg := hgoal ((List.range L).map xs) (by simpa using hL)
  have key := hg (am_RS G (p, l, e, room_1, s, m, #[Value.ref b], below, meth, c, lw_Z below #[Value.ref b] s) (23, 0, 600023, 7302250, 4)) (fun pc ls st hh hex => by
    have hex : am_ex _ _ _ (am_tab kt_MoodSlipsLaw_law pc) ls st hh := hex
    rcases am_tab_mem (kt := kt_MoodSlipsLaw_law) (pc := pc) with hz | hz
    · rw [hz] at hex
      exact (show False from hex).elim
    · exact am_blk C (am_met l 1000) (rt := some .boolean) (fun i x ri len pc ls h r hdec hok hQ hrv => by
        obtain ⟨e1, e2, e3⟩ := hQ
        subst e1
        refine ⟨⟨e2, e3⟩, fun a1 a2 a3 H locs lsR hr hS hl => ?_⟩
        have hdec' : decode code pc = .ok (.ireturn, 1) := by
          match i, hrv with
          | .ireturn, _ => simp [am_ok] at hok
          | .freturn, _ =>
            simp only [am_ok, decide_eq_true_eq] at hok
            obtain ⟨rfl, -, rfl⟩ := hok
            exact hdec
        refine W.widen (k := 600000) (n := 7302250) (by show h.2.1 - 23 ≤ 600000; omega) (by show h.2.2 - 0 ≤ 7302250; omega) ?_
        exact W.forget (locs := []) (L := locs) (fun q hq => by have := hS.2.2 q hq; unfold am_A at this; rw [g2] at this; exact this) (lw_ret hx hb hret hlk hdec')) _ pc ls st hh (List.all_eq_true.mp hck _ hz) hex)
  obtain ⟨ls, hent, hlv, hlen⟩ := am_entry G m (av := [Value.ref 0]) (n := 4) (by decide) (by decide)
  have hrel : am_rel G (am_hp0 ((List.range L).map xs)) s.heap := ⟨Nat.le_refl _, by rw [g2]; rfl, fun a a1 a2 => absurd a2 (Nat.not_lt.mpr a1), fun a ha => by rw [g3]; rfl, fun a ha => by
    have ha : 23 ≤ a := ha
    show am_c0 _ a = am_bad
    unfold am_c0
    rw [if_neg (by omega), if_neg (by omega), if_neg (by omega), if_neg (by omega)]⟩
  have w := key.2 (Nat.le_refl _) (Nat.le_refl _) hlen s.heap [] ls hrel va_S.rf hlv
  have e0 : (([Value.ref 0] : List Value).map (am_v G)).toArray = ([Value.ref b] : List Value).toArray := by
    show ([Value.ref (am_ad G 0)] : List Value).toArray = _
    rw [am_ad_lo (by decide), g1]
  rw [e0] at hent
  rw [hent]
  exact w
