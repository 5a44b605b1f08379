/-! ===== the class: Fewest ===== -/
def FW (f : Nat → Int32) (o : Option Nat × Nat) : Prop := f 2 = nI o.2 ∧ o.2 ≤ 4096 ∧ match o.1 with
  | none => f 1 = -1 ∧ f 3 = -1 ∧ o.2 = 0
  | some b => f 1 = nI (pop b) ∧ f 3 = nI b ∧ 0 < o.2
def fwA (o : Option Nat × Nat) (k : Nat) : Option Nat × Nat := match o.1 with
  | none => (some k, 1)
  | some b => (some b, o.2 + 1)
section CFW
variable {d : Nat} {h : am_H} {F : Nat → Nat → Int32} {J : Nat → Nat → Int64} {V : Nat → Nat → Value} {Q : am_Q}
set_option maxRecDepth 20000 in
theorem c_fwClear {a : Nat} (ha : a = 63 ∨ a = 64) (K : ∀ F', (∀ x, x ≠ a → F' x = F x) → F' a 0 = F a 0 → FW (F' a) (none, 0) → Q none (ov h F' J V)) : am_cl (d + 1) 98 [.ref a] (ov h F J V) Q := by
  rcases ha with e | e <;> subst e <;> simp only [isO_c, ax0, ex_cons, am_get, upz_at, true_and, and_true, Nat.reduceAdd, Nat.reduceLeDiff, Nat.reduceEqDiff, Nat.reduceSub, Int32.reduceOfInt, Int32.reduceAdd, Int32.reduceMul, Int32.reduceSub, ↓reduceIte, Int32.reduceLT, Int32.reduceLE, Int32.reduceToNatClampNeg, Nat.reduceMod, Nat.reduceLT, List.length_cons, List.length_nil, eq_self, true_or, or_true, and_self, implies_true, not_true_eq_false, not_false_eq_true, false_implies, true_implies, forall_const, st_aloadx, st_iconstx, st_putfieldx, st_return_x, cx_Fewest_clear, kb_Fewest_clear_0, op_63_1, op_64_1, op_63_2, op_64_2, op_63_3, op_64_3, oa_63, oa_64, os_63, os_64, upz_upd]
  · refine K _ (fun x hx => upz_ne _ _ hx) ?_ ⟨?_, by decide, ?_, ?_, rfl⟩ <;> rw [upz_eq] <;> simp only [upz_at, Nat.reduceEqDiff, ↓reduceIte] <;> rfl
  · refine K _ (fun x hx => upz_ne _ _ hx) ?_ ⟨?_, by decide, ?_, ?_, rfl⟩ <;> rw [upz_eq] <;> simp only [upz_at, Nat.reduceEqDiff, ↓reduceIte] <;> rfl
set_option maxRecDepth 20000 in
theorem c_fwNote {a : Nat} (ha : a = 63 ∨ a = 64) {o : Option Nat × Nat} (ho : FW (F a) o) (hl : o.2 < 4096) {k : Nat} (K : ∀ F', (∀ x, x ≠ a → F' x = F x) → F' a 0 = F a 0 → FW (F' a) (fwA o k) → Q none (ov h F' J V)) : am_cl (d + 1) 99 [.ref a, .int (nI (pop k)), .int (nI k)] (ov h F J V) Q := by
  obtain ⟨o1, on⟩ := o
  have hl : on < 4096 := hl
  obtain ⟨h2, h3, h4⟩ := ho
  have h2 : F a 2 = nI on := h2
  cases o1 with
  | none =>
    obtain ⟨g1, g2, g3⟩ := h4
    have g3 : on = 0 := g3
    subst g3
    have h2 : F a 2 = 0 := h2
    rcases ha with e | e <;> subst e <;> simp only [isO_c, ax0, ex_cons, am_get, upz_at, true_and, and_true, Nat.reduceAdd, Nat.reduceLeDiff, Nat.reduceEqDiff, Nat.reduceSub, Int32.reduceOfInt, Int32.reduceAdd, Int32.reduceMul, Int32.reduceSub, ↓reduceIte, Int32.reduceLT, Int32.reduceLE, Int32.reduceToNatClampNeg, Nat.reduceMod, Nat.reduceLT, List.length_cons, List.length_nil, eq_self, true_or, or_true, and_self, implies_true, not_true_eq_false, not_false_eq_true, false_implies, true_implies, forall_const, st_aloadx, st_dupx, st_dup_1x, st_getfieldx, st_goto_wx, st_iaddx, st_iconstx, st_ifCondx, st_iloadx, st_putfieldx, st_return_x, cx_Fewest_note, kb_Fewest_note_0, og_63_2, og_64_2, op_63_1, op_64_1, op_63_3, op_64_3, jx_Fewest_note_17, kb_Fewest_note_17, op_63_2, op_64_2, oa_63, oa_64, os_63, os_64, h2, upz_upd, upz_eq]
    · refine K _ (fun x hx => upz_ne _ _ hx) ?_ ⟨?_, by show 1 ≤ 4096; decide, ?_, ?_, by show 0 < 1; decide⟩ <;> rw [upz_eq] <;> simp only [upz_at, Nat.reduceEqDiff, ↓reduceIte] <;> rfl
    · refine K _ (fun x hx => upz_ne _ _ hx) ?_ ⟨?_, by show 1 ≤ 4096; decide, ?_, ?_, by show 0 < 1; decide⟩ <;> rw [upz_eq] <;> simp only [upz_at, Nat.reduceEqDiff, ↓reduceIte] <;> rfl
  | some b =>
    obtain ⟨g1, g2, g3⟩ := h4
    have g3 : 0 < on := g3
    have z : ¬ nI on = 0 := nk_ne0 (by omega) g3
    rcases ha with e | e <;> subst e <;> simp only [isO_c, ax0, ex_cons, am_get, upz_at, true_and, and_true, Nat.reduceAdd, Nat.reduceLeDiff, Nat.reduceEqDiff, Nat.reduceSub, Int32.reduceOfInt, Int32.reduceAdd, Int32.reduceMul, Int32.reduceSub, ↓reduceIte, Int32.reduceLT, Int32.reduceLE, Int32.reduceToNatClampNeg, Nat.reduceMod, Nat.reduceLT, List.length_cons, List.length_nil, eq_self, true_or, or_true, and_self, implies_true, not_true_eq_false, not_false_eq_true, false_implies, true_implies, forall_const, st_aloadx, st_dupx, st_dup_1x, st_getfieldx, st_goto_wx, st_iaddx, st_iconstx, st_ifCondx, st_iloadx, st_putfieldx, st_return_x, cx_Fewest_note, kb_Fewest_note_0, og_63_2, og_64_2, op_63_1, op_64_1, op_63_3, op_64_3, jx_Fewest_note_17, kb_Fewest_note_17, op_63_2, op_64_2, oa_63, oa_64, os_63, os_64, h2, z, upz_upd, upz_eq, nk_succ]
    · refine K _ (fun x hx => upz_ne _ _ hx) ?_ ⟨?_, by show on + 1 ≤ 4096; omega, ?_, ?_, by show 0 < on + 1; omega⟩ <;> rw [upz_eq] <;> simp only [upz_at, Nat.reduceEqDiff, ↓reduceIte]
      all_goals first | rfl | exact g1 | exact g2
    · refine K _ (fun x hx => upz_ne _ _ hx) ?_ ⟨?_, by show on + 1 ≤ 4096; omega, ?_, ?_, by show 0 < on + 1; omega⟩ <;> rw [upz_eq] <;> simp only [upz_at, Nat.reduceEqDiff, ↓reduceIte]
      all_goals first | rfl | exact g1 | exact g2
set_option maxRecDepth 20000 in
theorem c_fwTell {a : Nat} (ha : a = 63 ∨ a = 64) {o : Option Nat × Nat} (ho : FW (F a) o) {x : Int32} (K : Q (some (.int (if lieB x 0 2 then leO o x else -1))) (ov h F J V)) : am_cl (d + 1) 100 [.ref a, .int x] (ov h F J V) Q := by
  have lo : leO o 0 = F a 1 ∧ leO o 1 = F a 2 ∧ leO o 2 = F a 3 := by
    obtain ⟨o1, on⟩ := o
    obtain ⟨h2, h3, h4⟩ := ho
    unfold leO
    cases o1 with
    | none =>
      obtain ⟨g1, g2, g3⟩ := h4
      rw [g1, g2, h2]
      exact ⟨rfl, rfl, rfl⟩
    | some b =>
      obtain ⟨g1, g2, g3⟩ := h4
      rw [g1, g2, h2]
      exact ⟨rfl, rfl, rfl⟩
  have ne : ¬ x = 0 → ¬ x = 1 → ¬ x = 2 → lieB x 0 2 = false := fun q0 q1 q2 => by
    cases z : lieB x 0 2
    · rfl
    · obtain ⟨c, ec, hc, _⟩ := lieB_nI (m := 2) (by decide) z
      rcases (show c = 0 ∨ c = 1 ∨ c = 2 by omega) with t | t | t <;> subst t
      · exact absurd ec q0
      · exact absurd ec q1
      · exact absurd ec q2
  rcases ha with e | e <;> subst e <;> simp only [isO_c, ax0, ex_cons, am_get, upz_at, true_and, and_true, Nat.reduceAdd, Nat.reduceLeDiff, Nat.reduceEqDiff, Nat.reduceSub, Int32.reduceOfInt, Int32.reduceAdd, Int32.reduceMul, Int32.reduceSub, ↓reduceIte, Int32.reduceLT, Int32.reduceLE, Int32.reduceToNatClampNeg, Nat.reduceMod, Nat.reduceLT, List.length_cons, List.length_nil, eq_self, true_or, or_true, and_self, implies_true, not_true_eq_false, not_false_eq_true, false_implies, true_implies, forall_const, st_iloadx, st_lookupswitchx, kb_Fewest_tell_0, cx_Fewest_tell, am_sw]
  all_goals refine ⟨fun q0 => ?_, fun q0 => ⟨fun q1 => ?_, fun q1 => ⟨fun q2 => ?_, fun q2 => ?_⟩⟩⟩
  all_goals first
    | (rw [ne q0 q1 q2, if_neg Bool.false_ne_true] at K; simp only [isO_c, ax0, ex_cons, am_get, upz_at, true_and, and_true, Nat.reduceAdd, Nat.reduceLeDiff, Nat.reduceEqDiff, Nat.reduceSub, Int32.reduceOfInt, Int32.reduceAdd, Int32.reduceMul, Int32.reduceSub, ↓reduceIte, Int32.reduceLT, Int32.reduceLE, Int32.reduceToNatClampNeg, Nat.reduceMod, Nat.reduceLT, List.length_cons, List.length_nil, eq_self, true_or, or_true, and_self, implies_true, not_true_eq_false, not_false_eq_true, false_implies, true_implies, forall_const, st_iconstx, st_ireturnx, jx_Fewest_tell_43, kb_Fewest_tell_43]; exact K)
    | (subst q0; rw [show lieB 0 0 2 = true from rfl, if_pos rfl, lo.1] at K; simp only [show Int.toNat 28 = 28 from rfl, isO_c, ax0, ex_cons, am_get, upz_at, true_and, and_true, Nat.reduceAdd, Nat.reduceLeDiff, Nat.reduceEqDiff, Nat.reduceSub, Int32.reduceOfInt, Int32.reduceAdd, Int32.reduceMul, Int32.reduceSub, ↓reduceIte, Int32.reduceLT, Int32.reduceLE, Int32.reduceToNatClampNeg, Nat.reduceMod, Nat.reduceLT, List.length_cons, List.length_nil, eq_self, true_or, or_true, and_self, implies_true, not_true_eq_false, not_false_eq_true, false_implies, true_implies, forall_const, st_aloadx, st_getfieldx, st_ireturnx, jx_Fewest_tell_28, kb_Fewest_tell_28, og_63_1, og_64_1, oa_63, oa_64]; exact K)
    | (subst q1; rw [show lieB 1 0 2 = true from rfl, if_pos rfl, lo.2.1] at K; simp only [show Int.toNat 33 = 33 from rfl, isO_c, ax0, ex_cons, am_get, upz_at, true_and, and_true, Nat.reduceAdd, Nat.reduceLeDiff, Nat.reduceEqDiff, Nat.reduceSub, Int32.reduceOfInt, Int32.reduceAdd, Int32.reduceMul, Int32.reduceSub, ↓reduceIte, Int32.reduceLT, Int32.reduceLE, Int32.reduceToNatClampNeg, Nat.reduceMod, Nat.reduceLT, List.length_cons, List.length_nil, eq_self, true_or, or_true, and_self, implies_true, not_true_eq_false, not_false_eq_true, false_implies, true_implies, forall_const, st_aloadx, st_getfieldx, st_ireturnx, jx_Fewest_tell_33, kb_Fewest_tell_33, og_63_2, og_64_2, oa_63, oa_64]; exact K)
    | (subst q2; rw [show lieB 2 0 2 = true from rfl, if_pos rfl, lo.2.2] at K; simp only [show Int.toNat 38 = 38 from rfl, isO_c, ax0, ex_cons, am_get, upz_at, true_and, and_true, Nat.reduceAdd, Nat.reduceLeDiff, Nat.reduceEqDiff, Nat.reduceSub, Int32.reduceOfInt, Int32.reduceAdd, Int32.reduceMul, Int32.reduceSub, ↓reduceIte, Int32.reduceLT, Int32.reduceLE, Int32.reduceToNatClampNeg, Nat.reduceMod, Nat.reduceLT, List.length_cons, List.length_nil, eq_self, true_or, or_true, and_self, implies_true, not_true_eq_false, not_false_eq_true, false_implies, true_implies, forall_const, st_aloadx, st_getfieldx, st_ireturnx, jx_Fewest_tell_38, kb_Fewest_tell_38, og_63_3, og_64_3, oa_63, oa_64]; exact K)
end CFW
