/-! ===== the JDK's String.length, charAt ===== -/
abbrev sy_length : MethodName := ⟨"java/lang/String", "length", "()I"⟩
abbrev sy_coder : MethodName := ⟨"java/lang/String", "coder", "()B"⟩
abbrev sy_charAt : MethodName := ⟨"java/lang/String", "charAt", "(I)C"⟩
abbrev sy_isLatin1 : MethodName := ⟨"java/lang/String", "isLatin1", "()Z"⟩
abbrev sy_checkIndex : MethodName := ⟨"java/lang/String", "checkIndex", "(II)V"⟩
abbrev sy_lcharAt : MethodName := ⟨"java/lang/StringLatin1", "charAt", "([BI)C"⟩
abbrev sy_pcheck : MethodName := ⟨"jdk/internal/util/Preconditions", "checkIndex", "(IILjava/util/function/BiFunction;)I"⟩
theorem sd_coder_0 : decode prog_20_method_152_code 0 = .ok (.getstatic 38, 3) := by decide +kernel
theorem sd_coder_3 : decode prog_20_method_152_code 3 = .ok (.ifCond .eq 10, 3) := by decide +kernel
theorem sd_coder_6 : decode prog_20_method_152_code 6 = .ok (.aload_n 0, 1) := by decide +kernel
theorem sd_coder_7 : decode prog_20_method_152_code 7 = .ok (.getfield 15, 3) := by decide +kernel
theorem sd_coder_10 : decode prog_20_method_152_code 10 = .ok (.goto 4, 3) := by decide +kernel
theorem sd_coder_14 : decode prog_20_method_152_code 14 = .ok (.ireturn, 1) := by decide +kernel
theorem sd_lat_0 : decode prog_20_method_154_code 0 = .ok (.getstatic 38, 3) := by decide +kernel
theorem sd_lat_3 : decode prog_20_method_154_code 3 = .ok (.ifCond .eq 14, 3) := by decide +kernel
theorem sd_lat_6 : decode prog_20_method_154_code 6 = .ok (.aload_n 0, 1) := by decide +kernel
theorem sd_lat_7 : decode prog_20_method_154_code 7 = .ok (.getfield 15, 3) := by decide +kernel
theorem sd_lat_10 : decode prog_20_method_154_code 10 = .ok (.ifCond .ne 7, 3) := by decide +kernel
theorem sd_lat_13 : decode prog_20_method_154_code 13 = .ok (.iconst 1, 1) := by decide +kernel
theorem sd_lat_14 : decode prog_20_method_154_code 14 = .ok (.goto 4, 3) := by decide +kernel
theorem sd_lat_18 : decode prog_20_method_154_code 18 = .ok (.ireturn, 1) := by decide +kernel
theorem sd_len_0 : decode prog_20_method_54_code 0 = .ok (.aload_n 0, 1) := by decide +kernel
theorem sd_len_1 : decode prog_20_method_54_code 1 = .ok (.getfield 9, 3) := by decide +kernel
theorem sd_len_4 : decode prog_20_method_54_code 4 = .ok (.arraylength, 1) := by decide +kernel
theorem sd_len_5 : decode prog_20_method_54_code 5 = .ok (.aload_n 0, 1) := by decide +kernel
theorem sd_len_6 : decode prog_20_method_54_code 6 = .ok (.invokevirtual 335, 3) := by decide +kernel
theorem sd_len_9 : decode prog_20_method_54_code 9 = .ok (.ishr, 1) := by decide +kernel
theorem sd_len_10 : decode prog_20_method_54_code 10 = .ok (.ireturn, 1) := by decide +kernel
theorem sd_pc_0 : decode prog_25_method_11_code 0 = .ok (.iload_n 0, 1) := by decide +kernel
theorem sd_pc_1 : decode prog_25_method_11_code 1 = .ok (.ifCond .lt 8, 3) := by decide +kernel
theorem sd_pc_4 : decode prog_25_method_11_code 4 = .ok (.iload_n 0, 1) := by decide +kernel
theorem sd_pc_5 : decode prog_25_method_11_code 5 = .ok (.iload_n 1, 1) := by decide +kernel
theorem sd_pc_6 : decode prog_25_method_11_code 6 = .ok (.if_icmp .lt 10, 3) := by decide +kernel
theorem sd_pc_16 : decode prog_25_method_11_code 16 = .ok (.iload_n 0, 1) := by decide +kernel
theorem sd_pc_17 : decode prog_25_method_11_code 17 = .ok (.ireturn, 1) := by decide +kernel
theorem sd_ck_0 : decode prog_20_method_155_code 0 = .ok (.iload_n 0, 1) := by decide +kernel
theorem sd_ck_1 : decode prog_20_method_155_code 1 = .ok (.iload_n 1, 1) := by decide +kernel
theorem sd_ck_2 : decode prog_20_method_155_code 2 = .ok (.getstatic 1053, 3) := by decide +kernel
theorem sd_ck_5 : decode prog_20_method_155_code 5 = .ok (.invokestatic 1059, 3) := by decide +kernel
theorem sd_ck_8 : decode prog_20_method_155_code 8 = .ok (.pop, 1) := by decide +kernel
theorem sd_ck_9 : decode prog_20_method_155_code 9 = .ok (.return_, 1) := by decide +kernel
theorem sd_lc_0 : decode prog_21_method_2_code 0 = .ok (.iload_n 1, 1) := by decide +kernel
theorem sd_lc_1 : decode prog_21_method_2_code 1 = .ok (.aload_n 0, 1) := by decide +kernel
theorem sd_lc_2 : decode prog_21_method_2_code 2 = .ok (.arraylength, 1) := by decide +kernel
theorem sd_lc_3 : decode prog_21_method_2_code 3 = .ok (.invokestatic 9, 3) := by decide +kernel
theorem sd_lc_6 : decode prog_21_method_2_code 6 = .ok (.aload_n 0, 1) := by decide +kernel
theorem sd_lc_7 : decode prog_21_method_2_code 7 = .ok (.iload_n 1, 1) := by decide +kernel
theorem sd_lc_8 : decode prog_21_method_2_code 8 = .ok (.baload, 1) := by decide +kernel
theorem sd_lc_9 : decode prog_21_method_2_code 9 = .ok (.sipush 255, 3) := by decide +kernel
theorem sd_lc_12 : decode prog_21_method_2_code 12 = .ok (.iand, 1) := by decide +kernel
theorem sd_lc_13 : decode prog_21_method_2_code 13 = .ok (.i2c, 1) := by decide +kernel
theorem sd_lc_14 : decode prog_21_method_2_code 14 = .ok (.ireturn, 1) := by decide +kernel
theorem sd_ca_0 : decode prog_20_method_56_code 0 = .ok (.aload_n 0, 1) := by decide +kernel
theorem sd_ca_1 : decode prog_20_method_56_code 1 = .ok (.invokevirtual 492, 3) := by decide +kernel
theorem sd_ca_4 : decode prog_20_method_56_code 4 = .ok (.ifCond .eq 12, 3) := by decide +kernel
theorem sd_ca_7 : decode prog_20_method_56_code 7 = .ok (.aload_n 0, 1) := by decide +kernel
theorem sd_ca_8 : decode prog_20_method_56_code 8 = .ok (.getfield 9, 3) := by decide +kernel
theorem sd_ca_11 : decode prog_20_method_56_code 11 = .ok (.iload_n 1, 1) := by decide +kernel
theorem sd_ca_12 : decode prog_20_method_56_code 12 = .ok (.invokestatic 495, 3) := by decide +kernel
theorem sd_ca_15 : decode prog_20_method_56_code 15 = .ok (.ireturn, 1) := by decide +kernel
theorem am_tb {w : Cond} (h : w ∈ tables_1) (hg : goodWord w = true) : w ∈ am_TBL := List.mem_filter.mpr ⟨List.mem_append_right _ h, hg⟩
theorem sw_1 : Cond.fieldLink "java/lang/String" 38 "java/lang/String" "COMPACT_STRINGS" "Z" ∈ am_TBL := am_tb (by decide +kernel) rfl
theorem sw_2 : Cond.fieldLink "java/lang/String" 15 "java/lang/String" "coder" "B" ∈ am_TBL := am_tb (by decide +kernel) rfl
theorem sw_3 : Cond.fieldLink "java/lang/String" 9 "java/lang/String" "value" "[B" ∈ am_TBL := am_tb (by decide +kernel) rfl
theorem sw_4 : Cond.fieldLink "java/lang/String" 1053 "jdk/internal/util/Preconditions" "SIOOBE_FORMATTER" "Ljava/util/function/BiFunction;" ∈ am_TBL := am_tb (by decide +kernel) rfl
theorem sw_5 : Cond.methodLink "java/lang/String" 335 sy_coder ∈ am_TBL := am_tb (by decide +kernel) rfl
theorem sw_6 : Cond.methodLink "java/lang/String" 492 sy_isLatin1 ∈ am_TBL := am_tb (by decide +kernel) rfl
theorem sw_7 : Cond.methodLink "java/lang/String" 495 sy_lcharAt ∈ am_TBL := am_tb (by decide +kernel) rfl
theorem sw_8 : Cond.methodLink "java/lang/StringLatin1" 9 sy_checkIndex ∈ am_TBL := am_tb (by decide +kernel) rfl
theorem sw_9 : Cond.methodLink "java/lang/String" 1059 sy_pcheck ∈ am_TBL := am_tb (by decide +kernel) rfl
theorem sw_10 : Cond.initialized "java/lang/String" ∈ am_TBL := am_tb (by decide +kernel) rfl
theorem sw_11 : Cond.initialized "java/lang/StringLatin1" ∈ am_TBL := am_tb (by decide +kernel) rfl
theorem sw_12 : Cond.initialized "jdk/internal/util/Preconditions" ∈ am_TBL := am_tb (by decide +kernel) rfl
theorem sw_13 : Cond.instanceMethod sy_coder ∈ am_TBL ∧ Cond.selects "java/lang/String" sy_coder sy_coder ∈ am_TBL := ⟨am_tb (by decide +kernel) rfl, am_tb (by decide +kernel) rfl⟩
theorem sw_14 : Cond.instanceMethod sy_isLatin1 ∈ am_TBL ∧ Cond.selects "java/lang/String" sy_isLatin1 sy_isLatin1 ∈ am_TBL := ⟨am_tb (by decide +kernel) rfl, am_tb (by decide +kernel) rfl⟩
theorem sw_15 : Cond.instanceMethod sy_length ∈ am_TBL ∧ Cond.selects "java/lang/String" sy_length sy_length ∈ am_TBL := ⟨am_tb (by decide +kernel) rfl, am_tb (by decide +kernel) rfl⟩
theorem sw_16 : Cond.instanceMethod sy_charAt ∈ am_TBL ∧ Cond.selects "java/lang/String" sy_charAt sy_charAt ∈ am_TBL := ⟨am_tb (by decide +kernel) rfl, am_tb (by decide +kernel) rfl⟩
theorem sw_17 : Cond.static sy_lcharAt ∈ am_TBL := am_tb (by decide +kernel) rfl
theorem sw_18 : Cond.static sy_checkIndex ∈ am_TBL := am_tb (by decide +kernel) rfl
theorem sw_19 : Cond.static sy_pcheck ∈ am_TBL := am_tb (by decide +kernel) rfl
theorem sc_coder : Cond.code sy_coder prog_20_method_152_code 1 (some .byte) ∈ am_TBL := am_tb (by decide +kernel) rfl
theorem sc_lat : Cond.code sy_isLatin1 prog_20_method_154_code 1 (some .boolean) ∈ am_TBL := am_tb (by decide +kernel) rfl
theorem sc_len : Cond.code sy_length prog_20_method_54_code 1 (some .int) ∈ am_TBL := am_tb (by decide +kernel) rfl
theorem sc_ca : Cond.code sy_charAt prog_20_method_56_code 2 (some .char) ∈ am_TBL := am_tb (by decide +kernel) rfl
theorem sc_ck : Cond.code sy_checkIndex prog_20_method_155_code 2 none ∈ am_TBL := am_tb (by decide +kernel) rfl
theorem sc_lc : Cond.code sy_lcharAt prog_21_method_2_code 2 (some .char) ∈ am_TBL := am_tb (by decide +kernel) rfl
theorem sc_pk : Cond.code sy_pcheck prog_25_method_11_code 3 (some .int) ∈ am_TBL := am_tb (by decide +kernel) rfl
theorem sg_in {w : Cond} (h : w ∈ am_TBL) : GoodIn am_TBL (w :: am_TBL) := fun v hv => by
  rcases List.mem_cons.mp hv with e | e
  · subst e; exact am_tgood h
  · exact am_tgood e
def sB (A : Nat → Prop) (q : Nat) (xs : List Int32) (av : Nat) (fv : Value) (U : State) : Prop := va_O "java/lang/String" q A U U.heap ∧ va_OF "java/lang/String" "coder" "B" (.int 0) q A U U.heap ∧ va_OF "java/lang/String" "value" "[B" (.ref av) q A U U.heap ∧ va_T .byte av xs.length (fun j => .int (xs.getD j 0)) A U U.heap ∧ va_Z "java/lang/String" "COMPACT_STRINGS" "Z" (.int 1) A U U.heap ∧ va_Z "jdk/internal/util/Preconditions" "SIOOBE_FORMATTER" "Ljava/util/function/BiFunction;" fv A U U.heap ∧ (fv = .null ∨ ∃ a, fv = .ref a)
theorem sB.move {A : Nat → Prop} {q : Nat} {xs : List Int32} {av : Nat} {fv : Value} {s U : State} (h : sB A q xs av fv s) (hW : s.WarmedH U.vm) (hq : ∀ a : Nat, a < s.heap.size → ¬ A a → U.heap[a]? = s.heap[a]?) : sB A q xs av fv U := by
  obtain ⟨o1, o2, o3, o4, o5, o6, o7⟩ := h
  have hv := hW.alike
  exact ⟨(o1.moved hv).kept hq, (o2.moved hv).kept hq, (o3.moved hv).kept hq, (o4.moved hv).kept hq, (o5.moved hv).kept hq, (o6.moved hv).kept hq, o7⟩
theorem sB.blind {A : Nat → Prop} {q : Nat} {xs : List Int32} {av : Nat} {fv : Value} {vs : List Value} : FrameBlind (va_Pc vs (sB A q xs av fv)) := fun a U g mk h => ⟨h.1, h.2.move (U := U.calling g mk a) (State.WarmedH.refl U) (fun _ _ _ => rfl)⟩
theorem sB.pre {A : Nat → Prop} {q : Nat} {xs : List Int32} {av : Nat} {fv : Value} {s : State} {H : Heap} {locs : List Loc} (h : sB A q xs av fv s) (hS : va_S A s.heap H locs) {vs : List Value} : PreS s H (va_Pc vs (sB A q xs av fv)) vs := ⟨sB.blind, fun U hU hW => ⟨rfl, h.move hW (fun a h1 h2 => by rw [hU]; exact hS.2.1 a h1 h2)⟩⟩
theorem sB.preV {A : Nat → Prop} {q : Nat} {xs : List Int32} {av : Nat} {fv : Value} {s : State} {H : Heap} {locs : List Loc} (h : sB A q xs av fv s) (hS : va_S A s.heap H locs) {vs : List Value} : PreV s H "java/lang/String" q (va_Pc (.ref q :: vs) (sB A q xs av fv)) vs := ⟨sB.blind, by
  obtain ⟨cell, h1, h2, h3, -⟩ := h.1.kept hS.2.1
  exact ⟨cell, h1, h2, h3⟩, fun U hU hW => ⟨rfl, h.move hW (fun a h1 h2 => by rw [hU]; exact hS.2.1 a h1 h2)⟩⟩
abbrev sNo : Addr → Prop := fun _ => False
def sQN : Array Value → State → Outcome → State → Prop := fun _ st o t => o = .returned none ∧ t.heap = st.heap
abbrev sR (f n : Nat) : Room := { frames := f, cells := 0, slots := 0, locals := n }
section AMS
variable {p : Program} {l : Launch} {e : Env} {R : Room} {s : State} {m : MethodId} {args : Array Value} {below : List Frame} {meth : Method} {c : Code} {H : Heap} {locs : List Loc} {cells slots : Nat} {Q : State → Prop}
variable {pc : Nat} {ls : Array Slot} {rest st0 : List Value} {a : Array Value}
theorem s_callV {r : Value} (hr : CallRun p l e R s m args below meth c H locs cells slots 0 0 (F0 m pc ls st0) rest (k2_QcV r a) sNo) (kk : W p l e R s m args below meth c H locs cells slots Q (F0 m (pc + 3) ls (r :: rest))) : W p l e R s m args below meth c H locs cells slots Q (F0 m pc ls st0) := W.callV hr kk
theorem s_callN (hr : CallRun p l e R s m args below meth c H locs cells slots 0 0 (F0 m pc ls st0) rest (sQN a) sNo) (kk : W p l e R s m args below meth c H locs cells slots Q (F0 m (pc + 3) ls rest)) : W p l e R s m args below meth c H locs cells slots Q (F0 m pc ls st0) := by
  intro T hT X
  obtain ⟨v, st₀, t, T', L, h0, X', hL, e1, ⟨hv, hh⟩, st⟩ := hr T hT X
  cases hv
  obtain ⟨t2, a1, b1⟩ := kk T' (by rw [e1, hh, h0]) (Stand.forget X' (fun q h => (hL q h).elim))
  exact ⟨t2, st t2 a1, b1⟩
end AMS
theorem sm_coder (l : Launch) (A : Nat → Prop) (q : Nat) (xs : List Int32) (av : Nat) (fv : Value) : Met l sy_coder (Cond.code sy_coder prog_20_method_152_code 1 (some .byte) :: am_TBL) (sR 0 0) (va_Pc [.ref q] (sB A q xs av fv)) (k2_QcV (.int 0)) 0 0 sNo := by
  refine Met.ofW (cc := prog_20_method_152_code) (maxL := 1) (ret := some .byte) (by decide) rfl ?_
  intro p e s m args below meth c s₁ B hml hv
  obtain ⟨rfl, o1, o2, o3, o4, o5, o6, o7⟩ := hv
  have hx := B.exec
  have hb := B.bytes
  have hr := B.returns
  have hts := atoms_spec B.pre
  have ht : ∀ w ∈ am_TBL, w.before _ s = true := fun w h => hts w (List.mem_cons_of_mem _ h)
  have hown : s.vm.findClass "java/lang/String" = some m.cls := findClass_of_methodNamed B.named
  have hlocks := B.notSynchronized
  have hS : va_S A s.heap s.heap [] := va_S.rf
  have hl := lv_entry ([.ref q]) (n := 1) (Nat.le_of_ble_eq_true rfl)
  rw [lg_entry_eq]
  generalize (lg_sl ([.ref q]) ++ List.replicate (1 - (lg_sl ([.ref q])).length) Slot.unset).toArray = ls at hl ⊢
  have hl : lv_has ls 1 [(0, .ref q)] := hl
  refine va_gets hx hb o5 hS hown (ht _ sw_1) (fun _ z => z) sd_coder_0 ?_
  refine lv_if_eq (tgt := 13) hx hb sd_coder_3 rfl (fun hc => absurd hc (by decide)) (fun _ => ?_)
  refine lv_aload_n hx hb sd_coder_6 rfl (lv_at hl 0 rfl) ?_
  refine vk_getf hx hb o2 hS hown (ht _ sw_2) (fun _ z => z) sd_coder_7 ?_
  refine lv_goto (tgt := 14) hx hb sd_coder_10 rfl ?_
  exact W.zret (ty := .byte) hx hb hr rfl (fun t h1 hW => ⟨rfl, h1⟩) (fun _ z => by cases z) sd_coder_14
theorem sm_lat (l : Launch) (A : Nat → Prop) (q : Nat) (xs : List Int32) (av : Nat) (fv : Value) : Met l sy_isLatin1 (Cond.code sy_isLatin1 prog_20_method_154_code 1 (some .boolean) :: am_TBL) (sR 0 0) (va_Pc [.ref q] (sB A q xs av fv)) (k2_QcV (.int 1)) 0 0 sNo := by
  refine Met.ofW (cc := prog_20_method_154_code) (maxL := 1) (ret := some .boolean) (by decide) rfl ?_
  intro p e s m args below meth c s₁ B hml hv
  obtain ⟨rfl, o1, o2, o3, o4, o5, o6, o7⟩ := hv
  have hx := B.exec
  have hb := B.bytes
  have hr := B.returns
  have hts := atoms_spec B.pre
  have ht : ∀ w ∈ am_TBL, w.before _ s = true := fun w h => hts w (List.mem_cons_of_mem _ h)
  have hown : s.vm.findClass "java/lang/String" = some m.cls := findClass_of_methodNamed B.named
  have hlocks := B.notSynchronized
  have hS : va_S A s.heap s.heap [] := va_S.rf
  have hl := lv_entry ([.ref q]) (n := 1) (Nat.le_of_ble_eq_true rfl)
  rw [lg_entry_eq]
  generalize (lg_sl ([.ref q]) ++ List.replicate (1 - (lg_sl ([.ref q])).length) Slot.unset).toArray = ls at hl ⊢
  have hl : lv_has ls 1 [(0, .ref q)] := hl
  refine va_gets hx hb o5 hS hown (ht _ sw_1) (fun _ z => z) sd_lat_0 ?_
  refine lv_if_eq (tgt := 17) hx hb sd_lat_3 rfl (fun hc => absurd hc (by decide)) (fun _ => ?_)
  refine lv_aload_n hx hb sd_lat_6 rfl (lv_at hl 0 rfl) ?_
  refine vk_getf hx hb o2 hS hown (ht _ sw_2) (fun _ z => z) sd_lat_7 ?_
  refine lv_if_ne (tgt := 17) hx hb sd_lat_10 rfl (fun hc => absurd rfl hc) (fun _ => ?_)
  refine lv_iconst hx hb sd_lat_13 rfl ?_
  refine lv_goto (tgt := 18) hx hb sd_lat_14 rfl ?_
  exact W.zret (ty := .boolean) hx hb hr rfl (fun t h1 hW => ⟨rfl, h1⟩) (fun _ z => by cases z) sd_lat_18
theorem sm_len (l : Launch) (A : Nat → Prop) (q : Nat) (xs : List Int32) (av : Nat) (fv : Value) (hxs : xs.length < 2 ^ 31) : Met l sy_length (Cond.code sy_length prog_20_method_54_code 1 (some .int) :: am_TBL) (sR 1 20) (va_Pc [.ref q] (sB A q xs av fv)) (k2_QcV (.int (nI xs.length))) 0 0 sNo := by
  refine Met.ofW (cc := prog_20_method_54_code) (maxL := 1) (ret := some .int) (by decide) rfl ?_
  intro p e s m args below meth c s₁ B hml hv
  obtain ⟨rfl, hB⟩ := hv
  obtain ⟨o1, o2, o3, o4, o5, o6, o7⟩ := id hB
  have hx := B.exec
  have hb := B.bytes
  have hr := B.returns
  have hts := atoms_spec B.pre
  have ht : ∀ w ∈ am_TBL, w.before _ s = true := fun w h => hts w (List.mem_cons_of_mem _ h)
  have hown : s.vm.findClass "java/lang/String" = some m.cls := findClass_of_methodNamed B.named
  have hlocks := B.notSynchronized
  have hS : va_S A s.heap s.heap [] := va_S.rf
  have hl := lv_entry ([.ref q]) (n := 1) (Nat.le_of_ble_eq_true rfl)
  rw [lg_entry_eq]
  generalize (lg_sl ([.ref q]) ++ List.replicate (1 - (lg_sl ([.ref q])).length) Slot.unset).toArray = ls at hl ⊢
  have hl : lv_has ls 1 [(0, .ref q)] := hl
  refine lv_aload_n hx hb sd_len_0 rfl (lv_at hl 0 rfl) ?_
  refine vk_getf hx hb o3 hS hown (ht _ sw_3) (fun _ z => z) sd_len_1 ?_
  refine va_tlen hx hb o4 hS (v := nI xs.length) rfl sd_len_4 ?_
  refine lv_aload_n hx hb sd_len_5 rfl (lv_at hl 0 rfl) ?_
  refine s_callV (W.runV (Ts := am_TBL) (As := []) (rest := [.int (nI xs.length)]) ⟨hx, hb, hml, hown, ht⟩ (sm_coder l A q xs av fv) ⟨callB_of 0 ht (sg_in sc_coder) rfl rfl rfl (ht _ sw_10) (ht _ sw_5) ⟨by decide, by decide, by decide +kernel⟩ ⟨Nat.le_of_ble_eq_true rfl, Nat.le_of_ble_eq_true rfl⟩, ht _ sw_13.1, ht _ sw_13.2⟩ (hB.preV hS) rfl rfl hl.1 rfl (lv_room (Nat.le_of_ble_eq_true rfl)) sd_len_6 ⟨Nat.le_of_ble_eq_true rfl, Nat.le_of_ble_eq_true rfl⟩) ?_
  refine lv_ishr hx hb sd_len_9 ?_
  exact W.iret hx hb hr (fun t h1 hW => ⟨by rw [sc_shr0 hxs], h1⟩) (fun _ z => by cases z) sd_len_10
theorem sm_pck (l : Launch) (A : Nat → Prop) (q : Nat) (xs : List Int32) (av : Nat) (fv : Value) (j : Int32) (hj : vp_in j xs.length) (hxs : xs.length < 2 ^ 31) : Met l sy_pcheck (Cond.code sy_pcheck prog_25_method_11_code 3 (some .int) :: am_TBL) (sR 0 0) (va_Pc [.int j, .int (nI xs.length), fv] (sB A q xs av fv)) (k2_QcV (.int j)) 0 0 sNo := by
  refine Met.ofW (cc := prog_25_method_11_code) (maxL := 3) (ret := some .int) (by decide) rfl ?_
  intro p e s m args below meth c s₁ B hml hv
  obtain ⟨rfl, -, -, -, -, -, -, o7⟩ := hv
  have hx := B.exec
  have hb := B.bytes
  have hr := B.returns
  have hlocks := B.notSynchronized
  have go : ∀ fv : Value, fv.category ≠ 2 → W p l e (headSpec (Cond.code sy_pcheck prog_25_method_11_code 3 (some .int) :: am_TBL) (sR 0 0)).room s m ([.int j, .int (nI xs.length), fv] : List Value).toArray below meth c s.heap [] 0 0 (MQ below (k2_QcV (.int j)) ([.int j, .int (nI xs.length), fv] : List Value).toArray s 0 0 sNo) (entryFrame m ([.int j, .int (nI xs.length), fv] : List Value).toArray 3) := by
    intro fv hcat
    have hle : (lg_sl ([.int j, .int (nI xs.length), fv])).length ≤ 3 := by simp [lg_sl, Value.category] at hcat ⊢; simp [hcat]
    have hl := lv_entry ([.int j, .int (nI xs.length), fv]) (n := 3) hle
    rw [lg_entry_eq]
    generalize (lg_sl ([.int j, .int (nI xs.length), fv]) ++ List.replicate (3 - (lg_sl ([.int j, .int (nI xs.length), fv])).length) Slot.unset).toArray = ls at hl ⊢
    have hl : lv_has ls 3 [(0, .int j), (1, .int (nI xs.length)), (2, fv)] := hl
    have hlt : j < nI xs.length := by
      have h0 : ¬ j < 0 := fun z => hj (Or.inl z)
      have h1 : j.toNatClampNeg < xs.length := am_in_lt hj
      have h2 : j.toInt = (j.toNatClampNeg : Int) := (am_nn (by rw [Int32.lt_iff_toInt_lt, Int32.toInt_zero] at h0; omega)).1
      have h3 : (nI xs.length).toInt = (xs.length : Int) := Int32.toInt_ofNat_of_lt hxs
      rw [Int32.lt_iff_toInt_lt, h2, h3]
      omega
    refine lv_iload_n hx hb sd_pc_0 rfl (lv_at hl 0 rfl) ?_
    refine lv_if_lt (tgt := 9) hx hb sd_pc_1 rfl (fun hc => absurd hc (fun z => hj (Or.inl z))) (fun _ => ?_)
    refine lv_iload_n hx hb sd_pc_4 rfl (lv_at hl 0 rfl) ?_
    refine lv_iload_n hx hb sd_pc_5 rfl (lv_at hl 1 rfl) ?_
    refine lv_icmp_lt (tgt := 16) hx hb sd_pc_6 rfl (fun _ => ?_) (fun hc => absurd hlt hc)
    refine lv_iload_n hx hb sd_pc_16 rfl (lv_at hl 0 rfl) ?_
    exact W.iret hx hb hr (fun t h1 hW => ⟨rfl, h1⟩) (fun _ z => by cases z) sd_pc_17
  rcases o7 with rfl | ⟨a, rfl⟩
  · exact go .null (by decide)
  · exact go (.ref a) (by simp [Value.category])
theorem sm_ck (l : Launch) (A : Nat → Prop) (q : Nat) (xs : List Int32) (av : Nat) (fv : Value) (j : Int32) (hj : vp_in j xs.length) (hxs : xs.length < 2 ^ 31) : Met l sy_checkIndex (Cond.code sy_checkIndex prog_20_method_155_code 2 none :: am_TBL) (sR 1 22) (va_Pc [.int j, .int (nI xs.length)] (sB A q xs av fv)) sQN 0 0 sNo := by
  refine Met.ofW (cc := prog_20_method_155_code) (maxL := 2) (ret := none) (by decide) rfl ?_
  intro p e s m args below meth c s₁ B hml hv
  obtain ⟨rfl, hB⟩ := hv
  obtain ⟨o1, o2, o3, o4, o5, o6, o7⟩ := id hB
  have hx := B.exec
  have hb := B.bytes
  have hr := B.returns
  have hts := atoms_spec B.pre
  have ht : ∀ w ∈ am_TBL, w.before _ s = true := fun w h => hts w (List.mem_cons_of_mem _ h)
  have hown : s.vm.findClass "java/lang/String" = some m.cls := findClass_of_methodNamed B.named
  have hlocks := B.notSynchronized
  have hS : va_S A s.heap s.heap [] := va_S.rf
  have hl := lv_entry ([.int j, .int (nI xs.length)]) (n := 2) (Nat.le_of_ble_eq_true rfl)
  rw [lg_entry_eq]
  generalize (lg_sl ([.int j, .int (nI xs.length)]) ++ List.replicate (2 - (lg_sl ([.int j, .int (nI xs.length)])).length) Slot.unset).toArray = ls at hl ⊢
  have hl : lv_has ls 2 [(0, .int j), (1, .int (nI xs.length))] := hl
  refine lv_iload_n hx hb sd_ck_0 rfl (lv_at hl 0 rfl) ?_
  refine lv_iload_n hx hb sd_ck_1 rfl (lv_at hl 1 rfl) ?_
  refine va_gets hx hb o6 hS hown (ht _ sw_4) (fun _ z => z) sd_ck_2 ?_
  refine s_callV (W.runS (Ts := am_TBL) (As := [.int j, .int (nI xs.length), fv]) (rest := []) ⟨hx, hb, hml, hown, ht⟩ (sm_pck l A q xs av fv j hj hxs) ⟨callB_of 3 ht (sg_in sc_pk) rfl rfl rfl (ht _ sw_12) (ht _ sw_9) ⟨by decide, by decide, by decide +kernel⟩ ⟨Nat.le_of_ble_eq_true rfl, Nat.le_of_ble_eq_true rfl⟩, ht _ sw_19⟩ (hB.pre hS) rfl rfl hl.1 rfl (lv_room (Nat.le_of_ble_eq_true rfl)) sd_ck_5 ⟨Nat.le_of_ble_eq_true rfl, Nat.le_of_ble_eq_true rfl⟩) ?_
  refine lv_pop hx hb sd_ck_8 rfl ?_
  exact W.vret hx hb hr (fun t h1 hW => ⟨rfl, h1⟩) (fun _ z => by cases z) sd_ck_9
theorem sm_lc (l : Launch) (A : Nat → Prop) (q : Nat) (xs : List Int32) (av : Nat) (fv : Value) (j : Int32) (hj : vp_in j xs.length) (hxs : xs.length < 2 ^ 31) (h255 : ∀ x ∈ xs, x &&& 255 = x ∧ x.toInt8.toInt32 = x) : Met l sy_lcharAt (Cond.code sy_lcharAt prog_21_method_2_code 2 (some .char) :: am_TBL) (sR 2 43) (va_Pc [.ref av, .int j] (sB A q xs av fv)) (k2_QcV (.int (xs.getD j.toNatClampNeg 0))) 0 0 sNo := by
  refine Met.ofW (cc := prog_21_method_2_code) (maxL := 2) (ret := some .char) (by decide) rfl ?_
  intro p e s m args below meth c s₁ B hml hv
  obtain ⟨rfl, hB⟩ := hv
  obtain ⟨o1, o2, o3, o4, o5, o6, o7⟩ := id hB
  have hx := B.exec
  have hb := B.bytes
  have hr := B.returns
  have hts := atoms_spec B.pre
  have ht : ∀ w ∈ am_TBL, w.before _ s = true := fun w h => hts w (List.mem_cons_of_mem _ h)
  have hown : s.vm.findClass "java/lang/StringLatin1" = some m.cls := findClass_of_methodNamed B.named
  have hlocks := B.notSynchronized
  have hS : va_S A s.heap s.heap [] := va_S.rf
  have hl := lv_entry ([.ref av, .int j]) (n := 2) (Nat.le_of_ble_eq_true rfl)
  rw [lg_entry_eq]
  generalize (lg_sl ([.ref av, .int j]) ++ List.replicate (2 - (lg_sl ([.ref av, .int j])).length) Slot.unset).toArray = ls at hl ⊢
  have hl : lv_has ls 2 [(0, .ref av), (1, .int j)] := hl
  have hmem : xs.getD j.toNatClampNeg 0 ∈ xs := by
    rw [List.getD_eq_getElem?_getD, List.getElem?_eq_getElem (am_in_lt hj)]
    exact List.getElem_mem _
  have he := (h255 _ hmem).1
  refine lv_iload_n hx hb sd_lc_0 rfl (lv_at hl 1 rfl) ?_
  refine lv_aload_n hx hb sd_lc_1 rfl (lv_at hl 0 rfl) ?_
  refine va_tlen hx hb o4 hS (v := nI xs.length) rfl sd_lc_2 ?_
  refine s_callN (W.runS (Ts := am_TBL) (As := [.int j, .int (nI xs.length)]) (rest := []) ⟨hx, hb, hml, hown, ht⟩ (sm_ck l A q xs av fv j hj hxs) ⟨callB_of 2 ht (sg_in sc_ck) rfl rfl rfl (ht _ sw_10) (ht _ sw_8) ⟨by decide, by decide, by decide +kernel⟩ ⟨Nat.le_of_ble_eq_true rfl, Nat.le_of_ble_eq_true rfl⟩, ht _ sw_18⟩ (hB.pre hS) rfl rfl hl.1 rfl (lv_room (Nat.le_of_ble_eq_true rfl)) sd_lc_3 ⟨Nat.le_of_ble_eq_true rfl, Nat.le_of_ble_eq_true rfl⟩) ?_
  refine lv_aload_n hx hb sd_lc_6 rfl (lv_at hl 0 rfl) ?_
  refine lv_iload_n hx hb sd_lc_7 rfl (lv_at hl 1 rfl) ?_
  refine va_tb hx hb o4 hS hj (v := .int (xs.getD j.toNatClampNeg 0)) rfl sd_lc_8 ?_
  refine lv_sipush hx hb sd_lc_9 (v := 255) rfl ?_
  refine lv_iand hx hb sd_lc_12 ?_
  refine lv_i2c hx hb sd_lc_13 (v := xs.getD j.toNatClampNeg 0) (by rw [sc_c2, he]) ?_
  exact W.zret (ty := .char) hx hb hr (by rw [← he]; exact sc_nar _) (fun t h1 hW => ⟨rfl, h1⟩) (fun _ z => by cases z) sd_lc_14
theorem sm_ca (l : Launch) (A : Nat → Prop) (q : Nat) (xs : List Int32) (av : Nat) (fv : Value) (j : Int32) (hj : vp_in j xs.length) (hxs : xs.length < 2 ^ 31) (h255 : ∀ x ∈ xs, x &&& 255 = x ∧ x.toInt8.toInt32 = x) : Met l sy_charAt (Cond.code sy_charAt prog_20_method_56_code 2 (some .char) :: am_TBL) (sR 3 64) (va_Pc [.ref q, .int j] (sB A q xs av fv)) (k2_QcV (.int (xs.getD j.toNatClampNeg 0))) 0 0 sNo := by
  refine Met.ofW (cc := prog_20_method_56_code) (maxL := 2) (ret := some .char) (by decide) rfl ?_
  intro p e s m args below meth c s₁ B hml hv
  obtain ⟨rfl, hB⟩ := hv
  obtain ⟨o1, o2, o3, o4, o5, o6, o7⟩ := id hB
  have hx := B.exec
  have hb := B.bytes
  have hr := B.returns
  have hts := atoms_spec B.pre
  have ht : ∀ w ∈ am_TBL, w.before _ s = true := fun w h => hts w (List.mem_cons_of_mem _ h)
  have hown : s.vm.findClass "java/lang/String" = some m.cls := findClass_of_methodNamed B.named
  have hlocks := B.notSynchronized
  have hS : va_S A s.heap s.heap [] := va_S.rf
  have hl := lv_entry ([.ref q, .int j]) (n := 2) (Nat.le_of_ble_eq_true rfl)
  rw [lg_entry_eq]
  generalize (lg_sl ([.ref q, .int j]) ++ List.replicate (2 - (lg_sl ([.ref q, .int j])).length) Slot.unset).toArray = ls at hl ⊢
  have hl : lv_has ls 2 [(0, .ref q), (1, .int j)] := hl
  have hmem : xs.getD j.toNatClampNeg 0 ∈ xs := by
    rw [List.getD_eq_getElem?_getD, List.getElem?_eq_getElem (am_in_lt hj)]
    exact List.getElem_mem _
  have he := (h255 _ hmem).1
  refine lv_aload_n hx hb sd_ca_0 rfl (lv_at hl 0 rfl) ?_
  refine s_callV (W.runV (Ts := am_TBL) (As := []) (rest := []) ⟨hx, hb, hml, hown, ht⟩ (sm_lat l A q xs av fv) ⟨callB_of 0 ht (sg_in sc_lat) rfl rfl rfl (ht _ sw_10) (ht _ sw_6) ⟨by decide, by decide, by decide +kernel⟩ ⟨Nat.le_of_ble_eq_true rfl, Nat.le_of_ble_eq_true rfl⟩, ht _ sw_14.1, ht _ sw_14.2⟩ (hB.preV hS) rfl rfl hl.1 rfl (lv_room (Nat.le_of_ble_eq_true rfl)) sd_ca_1 ⟨Nat.le_of_ble_eq_true rfl, Nat.le_of_ble_eq_true rfl⟩) ?_
  refine lv_if_eq (tgt := 16) hx hb sd_ca_4 rfl (fun hc => absurd hc (by decide)) (fun _ => ?_)
  refine lv_aload_n hx hb sd_ca_7 rfl (lv_at hl 0 rfl) ?_
  refine vk_getf hx hb o3 hS hown (ht _ sw_3) (fun _ z => z) sd_ca_8 ?_
  refine lv_iload_n hx hb sd_ca_11 rfl (lv_at hl 1 rfl) ?_
  refine s_callV (W.runS (Ts := am_TBL) (As := [.ref av, .int j]) (rest := []) ⟨hx, hb, hml, hown, ht⟩ (sm_lc l A q xs av fv j hj hxs h255) ⟨callB_of 2 ht (sg_in sc_lc) rfl rfl rfl (ht _ sw_11) (ht _ sw_7) ⟨by decide, by decide, by decide +kernel⟩ ⟨Nat.le_of_ble_eq_true rfl, Nat.le_of_ble_eq_true rfl⟩, ht _ sw_17⟩ (hB.pre hS) rfl rfl hl.1 rfl (lv_room (Nat.le_of_ble_eq_true rfl)) sd_ca_12 ⟨Nat.le_of_ble_eq_true rfl, Nat.le_of_ble_eq_true rfl⟩) ?_
  exact W.zret (ty := .char) hx hb hr (by rw [← he]; exact sc_nar _) (fun t h1 hW => ⟨rfl, h1⟩) (fun _ z => by cases z) sd_ca_15
