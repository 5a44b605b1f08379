/-! ===== one step of both: the calls that change the state ===== -/
theorem Vx.vz {V V' : Nat → Nat → Value} (v : Vx V V') : Vz V V' := fun a ha => v a (by omega)
theorem SC.by {h : am_H} {F : Nat → Nat → Int32} {V : Nat → Nat → Value} {A : aT} {e : am_H} {q1 q2 : Nat} (S : SC h F V A e q1 q2) : byT (aTp A).2 (aTp A).1 := S.2.2.2.2.1
theorem Kb.op {h h' : am_H} {F F' : Nat → Nat → Int32} {J' : Nat → Nat → Int64} {V' : Nat → Nat → Value} {A' : aT} {v : Int32} {Q : am_Q} {e' : am_H} {q1 q2 : Nat} (K : Kb h F A' v Q) (S : SC h' F' V' A' e' q1 q2) (l : ∀ x, x < 108 → h'.1 x = h.1 x) (c1 : h'.2.1 ≤ h.2.1 + 4) (c2 : h'.2.2 ≤ h.2.2 + 528) (c : ∀ a, 82 ≤ a → F' a = F a) : Q (some (.int v)) (ov h' F' J' V') := K h' F' J' V' e' q1 q2 S (fun x hx => l x (by omega)) c1 (by omega) c
theorem by_0 {t : Nat → Int32} : byT t 0 := fun i hi => absurd hi (Nat.not_lt_zero i)
theorem tp_write (A : aT) (x : Int32) : aTp (xWrite A x).1 = aTp A := by
  unfold xWrite
  split
  · split <;> rfl
  · rfl
theorem tp_take (A : aT) (x : Int32) : aTp (xTake A x).1 = aTp A := by
  unfold xTake
  split <;> rfl
theorem tp_exist (A : aT) (x : Int32) : aTp (xExist A x).1 = aTp A := by
  unfold xExist
  split <;> rfl
theorem tp_image (A : aT) (x : Int32) : aTp (xImage A x).1 = aTp A ∧ aD (xImage A x).1 = aD A := by
  unfold xImage
  split <;> exact ⟨rfl, rfl⟩
theorem tp_back (A : aT) (x : Int32) : aTp (xBack A x).1 = aTp A := by
  unfold xBack
  split
  · split <;> rfl
  · rfl
theorem tp_posit (A : aT) : aTp (xPosit A).1 = aTp A ∧ aD (xPosit A).1 = aD A := by
  unfold xPosit
  split <;> exact ⟨rfl, rfl⟩
theorem tp_propose (A : aT) : aTp (xPropose A).1 = aTp A ∧ aD (xPropose A).1 = aD A := by
  unfold xPropose
  split
  · split
    · exact ⟨rfl, rfl⟩
    · split
      · exact ⟨rfl, rfl⟩
      · split <;> exact ⟨rfl, rfl⟩
  · exact ⟨rfl, rfl⟩
theorem tp_riddle (A : aT) (x n : Int32) : aTp (xRiddle A x n).1 = aTp A ∧ aD (xRiddle A x n).1 = aD A := by
  unfold xRiddle
  split <;> exact ⟨rfl, rfl⟩
theorem d_write {A : aT} {x : Int32} (h : xWb A x = false) : aD (xWrite A x).1 = aD A := by
  unfold xWb at h
  unfold xWrite
  by_cases z : slB (aD A).1 x = true
  · rw [z, Bool.true_and] at h
    rw [if_pos z, if_neg (by rw [h]; exact Bool.false_ne_true)]
    rfl
  · rw [if_neg z]; rfl
theorem d_take (A : aT) (x : Int32) : Dsm (aD A) (aD (xTake A x).1) := by
  unfold xTake
  split
  · exact ⟨rfl, rfl, fun i hi => upz_ne _ _ (by omega)⟩
  · exact Dsm.rf
theorem d_take0 {A : aT} {x : Int32} (h : slB (aD A).1 x = false) : aD (xTake A x).1 = aD A := by
  unfold xTake
  rw [if_neg (by rw [h]; exact Bool.false_ne_true)]
  rfl
theorem d_exist {A : aT} {x : Int32} (h : xEb A x = false) : aD (xExist A x).1 = aD A := by
  unfold xEb at h
  unfold xExist
  by_cases z : lieB x 0 1 = true
  · rw [z, Bool.true_and] at h
    rw [if_pos z]
    have e : decide (x = 1) = (aD A).2.2.2 := by
      revert h
      cases (aD A).2.2.2 <;> cases decide (x = 1) <;> intro h <;> first | rfl | cases h
    show ((aD A).1, (aD A).2.1, (aD A).2.2.1, decide (x = 1)) = aD A
    rw [e]
  · rw [if_neg z]; rfl
theorem d_back {A : aT} {x : Int32} (h : xBb A x = false) : aD (xBack A x).1 = aD A := by
  unfold xBb at h
  unfold xBack
  by_cases z : lieB x 0 1 = true
  · rw [z, Bool.true_and] at h
    rw [if_pos z]
    generalize A.2.1 x.toNatClampNeg = o at h
    cases o with
    | none => rfl
    | some X => cases h
  · rw [if_neg z]; rfl
theorem Dsm.of {D D' : dT} (e : D' = D) : Dsm D D' := by rw [e]; exact Dsm.rf
theorem or_f {b q : Bool} (h : (b || q) = false) : b = false ∧ q = false := by
  cases b
  · exact ⟨rfl, h⟩
  · cases h
theorem sta_write (A : aT) (x : Int32) : StA 15 208 [.int x] A := ⟨(xWrite A x).2, (xWrite A x).1, fun h F J V e q1 q2 Q S K => S.op (fun g gb gp gs gh gc Q' k => co_write gc (fun F' V' c v m => k g F' J V' Nw.rf c v.vz m)) (by rw [tp_write]; exact S.by) (fun z => Dsm.of (d_write z)) (fun z => d_write (or_f z).1) (fun h' F' J' V' e' s l c1 c2 c => K.op s l c1 c2 c), fun h F J V Q M K => mo_write M K⟩
theorem sta_take (A : aT) (x : Int32) : StA 16 209 [.int x] A := ⟨(xTake A x).2, (xTake A x).1, fun h F J V e q1 q2 Q S K => S.op (fun g gb gp gs gh gc Q' k => co_take gc (fun F' V' c v m => k g F' J V' Nw.rf c v.vz m)) (by rw [tp_take]; exact S.by) (fun z => d_take A x) (fun z => d_take0 (or_f z).2) (fun h' F' J' V' e' s l c1 c2 c => K.op s l c1 c2 c), fun h F J V Q M K => mo_take M K⟩
theorem sta_existence (A : aT) (x : Int32) : StA 17 210 [.int x] A := ⟨(xExist A x).2, (xExist A x).1, fun h F J V e q1 q2 Q S K => S.op (fun g gb gp gs gh gc Q' k => co_existence gc (fun F' c m => k g F' J V Nw.rf c (fun _ _ => rfl) m)) (by rw [tp_exist]; exact S.by) (fun z => Dsm.of (d_exist z)) (fun z => d_exist (or_f z).1) (fun h' F' J' V' e' s l c1 c2 c => K.op s l c1 c2 c), fun h F J V Q M K => mo_existence M K⟩
theorem sta_image (A : aT) (x : Int32) : StA 59 179 [.int x] A := ⟨(xImage A x).2, (xImage A x).1, fun h F J V e q1 q2 Q S K => S.op (fun g gb gp gs gh gc Q' k => co_image gc (fun F' V' c v m => k g F' J V' Nw.rf c v m)) (by rw [(tp_image A x).1]; exact S.by) (fun z => Dsm.of (tp_image A x).2) (fun z => (tp_image A x).2) (fun h' F' J' V' e' s l c1 c2 c => K.op s l c1 c2 c), fun h F J V Q M K => mo_image M K⟩
theorem sta_back (A : aT) (x : Int32) : StA 60 180 [.int x] A := ⟨(xBack A x).2, (xBack A x).1, fun h F J V e q1 q2 Q S K => S.op (fun g gb gp gs gh gc Q' k => co_back gc (fun F' V' c v m => k g F' J V' Nw.rf c v m)) (by rw [tp_back]; exact S.by) (fun z => Dsm.of (d_back z)) (fun z => d_back (or_f z).1) (fun h' F' J' V' e' s l c1 c2 c => K.op s l c1 c2 c), fun h F J V Q M K => mo_back M K⟩
theorem sta_posit (A : aT) : StA 51 281 [] A := ⟨(xPosit A).2, (xPosit A).1, fun h F J V e q1 q2 Q S K => S.op (fun g gb gp gs gh gc Q' k => co_posit gb gc (fun F' J' V' c v m => k g F' J' V' Nw.rf c v m)) (by rw [(tp_posit A).1]; exact S.by) (fun z => Dsm.of (tp_posit A).2) (fun z => (tp_posit A).2) (fun h' F' J' V' e' s l c1 c2 c => K.op s l c1 c2 c), fun h F J V Q M K => mo_posit M K⟩
theorem sta_propose (A : aT) : StA 52 282 [] A := ⟨(xPropose A).2, (xPropose A).1, fun h F J V e q1 q2 Q S K => S.op (fun g gb gp gs gh gc Q' k => co_propose gb gc (fun F' J' V' c v m => k g F' J' V' Nw.rf c v m)) (by rw [(tp_propose A).1]; exact S.by) (fun z => Dsm.of (tp_propose A).2) (fun z => (tp_propose A).2) (fun h' F' J' V' e' s l c1 c2 c => K.op s l c1 c2 c), fun h F J V Q M K => mo_propose M K⟩
theorem sta_riddle (A : aT) (x y : Int32) : StA 55 287 [.int x, .int y] A := ⟨(xRiddle A x y).2, (xRiddle A x y).1, fun h F J V e q1 q2 Q S K => S.op (fun g gb gp gs gh gc Q' k => co_riddle gb gp gc (fun F' J' c m => k g F' J' V Nw.rf c (fun _ _ => rfl) m)) (by rw [(tp_riddle A x y).1]; exact S.by) (fun z => Dsm.of (tp_riddle A x y).2) (fun z => (tp_riddle A x y).2) (fun h' F' J' V' e' s l c1 c2 c => K.op s l c1 c2 c), fun h F J V Q M K => mo_riddle M K⟩
theorem by_end {A : aT} {x : Int32} (hn : (aTp A).1 ≤ 400) (h : byT (aTp A).2 (aTp A).1) : byT (aTp (xEnd A x).1).2 (aTp (xEnd A x).1).1 := by
  unfold xEnd
  by_cases z : lieB x 0 (nI (aTp A).1) = true
  · rw [if_pos z]
    obtain ⟨k, e, hk, ck⟩ := lieB_nI (by omega) z
    show byT (aTp A).2 x.toNatClampNeg
    rw [ck]
    exact fun i hi => h i (by omega)
  · rw [if_neg z]; exact h
theorem d_end (A : aT) (x : Int32) : aD (xEnd A x).1 = aD A := by
  unfold xEnd
  split <;> rfl
theorem i8_i8 (x : Int32) : (x.toInt8.toInt32).toInt8.toInt32 = x.toInt8.toInt32 := by rw [Int8.toInt8_toInt32]
theorem by_feed {A : aT} {a b c x e : Int32} (h : byT (aTp A).2 (aTp A).1) : byT (aTp (xFeed A a b c x e).1).2 (aTp (xFeed A a b c x e).1).1 := by
  unfold xFeed
  by_cases z : (aTp A).1 ≤ 380
  · rw [if_pos z]
    show byT (ovr (aTp A).2 (fun k => fdF a b c x e (k - (aTp A).1)) (aTp A).1 20) ((aTp A).1 + 20)
    intro i hi
    unfold ovr
    split
    · unfold fdF fdB
      exact i8_i8 _
    · exact h i (by omega)
  · rw [if_neg z]; exact h
theorem d_feed (A : aT) (a b c x e : Int32) : aD (xFeed A a b c x e).1 = aD A := by
  unfold xFeed
  split <;> rfl
theorem sta_end (A : aT) (x : Int32) : StA 10 188 [.int x] A := ⟨(xEnd A x).2, (xEnd A x).1, fun h F J V e q1 q2 Q S K => S.op (fun g gb gp gs gh gc Q' k => co_end gc (fun F' c m => k g F' J V Nw.rf c (fun _ _ => rfl) m)) (by_end S.cb.2.2.1.2.1 S.by) (fun z => Dsm.of (d_end A x)) (fun z => d_end A x) (fun h' F' J' V' e' s l c1 c2 c => K.op s l c1 c2 c), fun h F J V Q M K => mo_end M K⟩
theorem sta_feed (A : aT) (x y z w u : Int32) : StA 9 187 [.int x, .int y, .int z, .int w, .int u] A := ⟨(xFeed A x y z w u).2, (xFeed A x y z w u).1, fun h F J V e q1 q2 Q S K => S.op (fun g gb gp gs gh gc Q' k => co_feed gc (fun F' c m => k g F' J V Nw.rf c (fun _ _ => rfl) m)) (by_feed S.by) (fun _ => Dsm.of (d_feed A x y z w u)) (fun _ => d_feed A x y z w u) (fun h' F' J' V' e' s l c1 c2 c => K.op s l c1 c2 c), fun h F J V Q M K => mo_feed M K⟩
theorem tp_slip (A : aT) : (aTp (xSlip A).1).1 = 0 := by
  unfold xSlip
  split
  · rfl
  · split <;> rfl
theorem tp_quest (A : aT) : (aTp (xQuest A).1).1 = 0 := by
  unfold xQuest
  split <;> rfl
theorem d_slip {A : aT} (h : xSb A = false) : aD (xSlip A).1 = aD A := by
  unfold xSb rdB at h
  unfold xSlip
  by_cases z : (aD A).1 = 12
  · rw [if_pos z]; rfl
  · rw [decide_eq_false z] at h
    rw [if_neg z]
    generalize rdT (aTp A).2 (aTp A).1 = o at h
    cases o with
    | inl e => rfl
    | inr R => cases h
theorem d_quest (A : aT) : Dsm (aD A) (aD (xQuest A).1) := by
  unfold xQuest
  split
  · exact Dsm.rf
  · exact ⟨rfl, rfl, fun i hi => upz_ne _ _ (by omega)⟩
theorem d_quest0 {A : aT} (h : rdB A = false) : aD (xQuest A).1 = aD A := by
  unfold rdB at h
  unfold xQuest
  generalize rdT (aTp A).2 (aTp A).1 = o at h
  cases o with
  | inl e => rfl
  | inr R => cases h
theorem sta_slip (A : aT) : StA 11 204 [] A := ⟨(xSlip A).2, (xSlip A).1, fun h F J V e q1 q2 Q S K => S.op (fun g gb gp gs gh gc Q' k => co_slip gs gp gh gc S.by (fun h' F' J' V' n c v m => k h' F' J' V' n c v.vz m)) (by rw [tp_slip]; exact by_0) (fun z => Dsm.of (d_slip z)) (fun z => d_slip (or_f z).1) (fun h' F' J' V' e' s l c1 c2 c => K.op s l c1 c2 c), fun h F J V Q M K => mo_slip M K⟩
theorem sta_question (A : aT) : StA 12 205 [] A := ⟨(xQuest A).2, (xQuest A).1, fun h F J V e q1 q2 Q S K => S.op (fun g gb gp gs gh gc Q' k => co_question gs gp gh gc S.by (fun h' F' J' V' n c v m => k h' F' J' V' n c v.vz m)) (by rw [tp_quest]; exact by_0) (fun _ => d_quest A) (fun z => d_quest0 (or_f z).2) (fun h' F' J' V' e' s l c1 c2 c => K.op s l c1 c2 c), fun h F J V Q M K => mo_question M K⟩
