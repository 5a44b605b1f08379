/-! ===== one instruction of the abstract machine is one of the machine ===== -/
abbrev am_T : Type := Program × Launch × Env × Room × State × MethodId × Array Value × List Frame × Method × Code × (State → Prop)
def am_WT (E : am_T) (H : Heap) (locs : List Loc) (cells slots : Nat) (g : JFrame) : Prop := W E.1 E.2.1 E.2.2.1 E.2.2.2.1 E.2.2.2.2.1 E.2.2.2.2.2.1 E.2.2.2.2.2.2.1 E.2.2.2.2.2.2.2.1 E.2.2.2.2.2.2.2.2.1 E.2.2.2.2.2.2.2.2.2.1 H locs cells slots E.2.2.2.2.2.2.2.2.2.2 g
/-- bounds: where the method began, where it ends; how many locals -/
abbrev am_B : Type := Nat × Nat × Nat × Nat × Nat
def am_RS (G : am_D) (E : am_T) (b : am_B) (pc : Nat) : am_K := fun ls st h =>
  (h.2.1 ≤ b.2.2.1 ∧ h.2.2 ≤ b.2.2.2.1) ∧ (b.1 ≤ h.2.1 → b.2.1 ≤ h.2.2 → ls.length = b.2.2.2.2 → ∀ (H : Heap) (locs : List Loc) (lsR : Array Slot), am_rel G h H → va_S (am_A G) E.2.2.2.2.1.heap H locs → am_lv G ls lsR → am_WT E H locs (h.2.1 - b.1) (h.2.2 - b.2.1) (F0 E.2.2.2.2.2.1 pc lsR (st.map (am_v G))))
theorem am_RS.step {G : am_D} {E : am_T} {b : am_B} {pc pc' : Nat} {ls st st' : List Value} {h : am_H} (k : am_RS G E b pc' ls st' h) (f : ∀ (H : Heap) (locs : List Loc) (cs sl : Nat) (lsR : Array Slot), am_rel G h H → va_S (am_A G) E.2.2.2.2.1.heap H locs → am_lv G ls lsR → lsR.size = b.2.2.2.2 → am_WT E H locs cs sl (F0 E.2.2.2.2.2.1 pc' lsR (st'.map (am_v G))) → am_WT E H locs cs sl (F0 E.2.2.2.2.2.1 pc lsR (st.map (am_v G)))) : am_RS G E b pc ls st h :=
  ⟨k.1, fun a1 a2 a3 H locs lsR hr hS hl => f H locs _ _ lsR hr hS hl (hl.1.trans a3) (k.2 a1 a2 a3 H locs lsR hr hS hl)⟩
theorem am_RS.stepL {G : am_D} {E : am_T} {b : am_B} {pc pc' : Nat} {ls ls' st st' : List Value} {h : am_H} (k : am_RS G E b pc' ls' st' h) (hL : ls'.length = ls.length) (f : ∀ (H : Heap) (locs : List Loc) (cs sl : Nat) (lsR : Array Slot), am_lv G ls lsR → (∀ lsR', am_lv G ls' lsR' → am_WT E H locs cs sl (F0 E.2.2.2.2.2.1 pc' lsR' (st'.map (am_v G)))) → am_WT E H locs cs sl (F0 E.2.2.2.2.2.1 pc lsR (st.map (am_v G)))) : am_RS G E b pc ls st h :=
  ⟨k.1, fun a1 a2 a3 H locs lsR hr hS hl => f H locs _ _ lsR hl (fun lsR' hl' => k.2 a1 a2 (hL.trans a3) H locs lsR' hr hS hl')⟩
theorem am_RS.stepH {G : am_D} {E : am_T} {b : am_B} {pc pc' : Nat} {ls st st' : List Value} {h : am_H} {a : Nat} {e : am_E} (k : am_RS G E b pc' ls st' (am_set h a e)) (f : ∀ (H : Heap) (locs : List Loc) (cs sl : Nat) (lsR : Array Slot), am_rel G h H → lsR.size = b.2.2.2.2 → (∀ (H' : Heap) (L : List Loc), H'.size = H.size → (∀ q, q ≠ am_ad G a → H'[q]? = H[q]?) → am_at G e (am_ad G a) H' → (∀ q ∈ L, q.base = am_ad G a) → am_WT E H' (locs ++ L) cs sl (F0 E.2.2.2.2.2.1 pc' lsR (st'.map (am_v G)))) → am_WT E H locs cs sl (F0 E.2.2.2.2.2.1 pc lsR (st.map (am_v G)))) (h1 : 23 ≤ a) (h2 : a < h.2.1) : am_RS G E b pc ls st h :=
  ⟨k.1, fun a1 a2 a3 H locs lsR hr hS hl => f H locs _ _ lsR hr (hl.1.trans a3) (fun H' L z o at' hL => k.2 a1 a2 a3 H' (locs ++ L) lsR (hr.set h1 h2 z o at') (by
    have hA : am_A G (am_ad G a) := by rw [am_ad_hi h1]; exact Nat.le_add_right _ _
    refine ⟨by rw [z]; exact hS.1, fun q q1 q2 => ?_, fun q hq => ?_⟩
    · rw [o q (fun e => q2 (e ▸ hA))]; exact hS.2.1 q q1 q2
    · rcases List.mem_append.mp hq with g | g
      · exact hS.2.2 q g
      · rw [hL q g]; exact hA) hl)⟩
theorem am_RS.stepN {G : am_D} {E : am_T} {b : am_B} {pc pc' n : Nat} {ls st st' : List Value} {h : am_H} {e : am_E} (k : am_RS G E b pc' ls st' (am_new h e n)) (hR : E.2.2.2.1.cells = b.2.2.1 - b.1 ∧ E.2.2.2.1.slots = b.2.2.2.1 - b.2.1) (f : ∀ (H : Heap) (locs : List Loc) (cs sl : Nat) (lsR : Array Slot), am_rel G h H → cs + 1 ≤ E.2.2.2.1.cells → sl + n ≤ E.2.2.2.1.slots → (∀ cell : Cell, am_at G e H.size (H.push cell) → am_WT E (H.push cell) locs (cs + 1) (sl + n) (F0 E.2.2.2.2.2.1 pc' lsR (st'.map (am_v G)))) → am_WT E H locs cs sl (F0 E.2.2.2.2.2.1 pc lsR (st.map (am_v G)))) : am_RS G E b pc ls st h := by
  obtain ⟨⟨k1, k2⟩, k3⟩ := k
  have k1' : h.2.1 + 1 ≤ b.2.2.1 := k1
  have k2' : h.2.2 + n ≤ b.2.2.2.1 := k2
  refine ⟨⟨by omega, by omega⟩, fun a1 a2 a3 H locs lsR hr hS hl => f H locs _ _ lsR hr (by omega) (by omega) (fun cell hat => ?_)⟩
  have hk := k3 (Nat.le_trans a1 (Nat.le_succ _)) (Nat.le_trans a2 (Nat.le_add_right _ _)) a3 (H.push cell) locs lsR (hr.new hat) (by
    have hA : am_A G H.size := by show G.2.1 ≤ H.size; rw [hr.2.1]; exact Nat.le_add_right _ _
    refine ⟨by rw [Array.size_push]; exact Nat.le_succ_of_le hS.1, fun q q1 q2 => ?_, hS.2.2⟩
    rw [Array.getElem?_push, if_neg (by have := hS.1; omega)]
    exact hS.2.1 q q1 q2) hl
  have e1 : (am_new h e n).2.1 - b.1 = h.2.1 - b.1 + 1 := by show h.2.1 + 1 - b.1 = _; omega
  have e2 : (am_new h e n).2.2 - b.2.1 = h.2.2 - b.2.1 + n := by show h.2.2 + n - b.2.1 = _; omega
  rw [e1, e2] at hk
  exact hk
/-- the context of a method's body -/
def am_Cx (G : am_D) (E : am_T) (b : am_B) (o : Nat) (ini : Bool) (cc : ByteArray) (d : Nat) : Prop :=
  E.1.tables.exec = Jvm.exec ∧ E.2.2.2.2.2.2.2.2.2.1.code = cc ∧ E.2.2.2.2.2.2.2.2.2.1.maxLocals = b.2.2.2.2 ∧ E.2.2.2.2.1.vm.findClass (am_own o) = some E.2.2.2.2.2.1.cls ∧ (∀ w ∈ am_TBL, w.before E.2.2.2.2.2.2.1 E.2.2.2.2.1 = true) ∧ am_Kn G E.2.2.2.2.1 ∧ (ini = true → E.2.2.2.2.2.2.2.2.1.name = "<init>") ∧ (E.2.2.2.1.cells = b.2.2.1 - b.1 ∧ E.2.2.2.1.slots = b.2.2.2.1 - b.2.1) ∧ d + 5 ≤ E.2.2.2.1.frames ∧ 45 * d + 200 ≤ E.2.2.2.1.locals
theorem am_all {α : Type} {l : List α} {p q : α → Bool} (h : l.all p = true) (hq : l.any q = true) : ∃ x, x ∈ l ∧ p x = true ∧ q x = true := by
  obtain ⟨x, hx, hqx⟩ := List.any_eq_true.mp hq
  exact ⟨x, hx, List.all_eq_true.mp h x hx, hqx⟩
theorem am_off {pc x : Nat} : (pc : Int) + ((x : Int) - (pc : Int)) = (x : Int) := by omega
theorem am_fin4 {n : Nat} (h : n < 4) : ((Fin.ofNat 4 n : Fin 4) : Nat) = n := Nat.mod_eq_of_lt h
theorem am_isArr {U : State} {cA : ClassId} {ty : FieldType} (h : ArrOfT U cA ty) (vs : List Value) : U.isArrayOf (am_arr cA vs) ty := ⟨fun k => by simp [am_arr], (h 0 (fun _ => .null)).2⟩
theorem am_live {G : am_D} {h : am_H} {H : Heap} (hr : am_rel G h H) {a : Nat} (hb : h.1 a ≠ am_bad) : a < h.2.1 := Nat.lt_of_not_le fun g => hb (hr.2.2.2.2 a g)
theorem am_arr_size (c : ClassId) (vs : List Value) : (am_arr c vs).slots.size = vs.length := by simp [am_arr]
theorem am_arr_get (c : ClassId) (vs : List Value) (j : Nat) : (am_arr c vs).slots[j]? = vs[j]? := by simp [am_arr]
theorem am_arr_set (c : ClassId) (vs : List Value) (j : Nat) (v : Value) : (am_arr c vs).setSlot j v = am_arr c (vs.set j v) := by simp [am_arr, Cell.setSlot]
theorem am_in_lt {j : Int32} {n : Nat} (h : vp_in j n) : j.toNatClampNeg < n := Nat.lt_of_not_le fun g => h (Or.inr g)
theorem am_sz_room {st : List Value} (G : am_D) (h : am_sz st ≤ 8) : ((st.map (am_v G)).map fun v => v.category).sum ≤ am_sz st := by
  induction st with
  | nil => simp [am_sz]
  | cons v vs ih =>
    cases v with
    | int x => simp only [am_sz] at h ⊢; have := ih (by omega); simp [am_v, Value.category] at this ⊢; omega
    | ref x => simp only [am_sz] at h ⊢; have := ih (by omega); simp [am_v, Value.category] at this ⊢; omega
    | null => simp only [am_sz] at h ⊢; have := ih (by omega); simp [am_v, Value.category] at this ⊢; omega
    | long x => simp only [am_sz] at h ⊢; have := ih (by omega); simp [am_v, Value.category] at this ⊢; omega
    | float x => simp only [am_sz] at h; omega
    | double x => simp only [am_sz] at h; omega
    | retAddr x => simp only [am_sz] at h; omega
theorem am_d4_room {st : List Value} (G : am_D) (h : am_d4 st) : ((st.map (am_v G)).map fun v => v.category).sum ≤ 8 :=
  Nat.le_trans (am_sz_room G (Nat.le_of_ble_eq_true h)) (Nat.le_of_ble_eq_true h)
