/-! ===== the model: world ===== -/
noncomputable def wlN (T : tT) : List Nat := @dite _ (∃ l, IsR T l) (Classical.propDecidable _) (fun h => Classical.choose h) (fun _ => [])
theorem wlN_eq {T : tT} {l : List Nat} (h : IsR T l) : wlN T = l := by
  unfold wlN
  rw [dif_pos ⟨l, h⟩]
  exact IsR_u (Classical.choose_spec (⟨l, h⟩ : ∃ l, IsR T l)) h
noncomputable def wlO (T : tT) : Option (List Nat) := if qz T (fun _ => false) then none else some (wlN T)
/-- whether a row is ahead of one as long -/
def lxB : List Nat → List Nat → Bool
  | x :: l, y :: b => if x = y then lxB l b else decide (x < y)
  | _, _ => false
def stW2 (best o : Option (List Nat)) : Option (List Nat) := match o with
  | none => best
  | some l => match best with
    | none => some l
    | some b => if l.length < b.length ∨ (l.length = b.length ∧ lxB l b = true) then some l else some b
noncomputable def bestW (D : dT) (hp : Nat) : Nat → Option (List Nat)
  | 0 => none
  | w + 1 => stW2 (bestW D hp w) (wlO (tnZ (hzD D hp) (csD D 12) w))
def woO (o : Option (List Nat)) (i : Int32) : Int32 := match o with
  | none => -1
  | some l => if i = -1 then nI l.length else if i < nI l.length then nI (l.getD i.toNatClampNeg 0) else -1
noncomputable def aWorld (D : dT) (x i : Int32) : Int32 := if hpB D.1 x && D.2.2.1 && !decide (i < -1) then woO (bestW D x.toNatClampNeg (owZ (csD D 12) D.2.2.2)) i else -1
/-- the first difference -/
def dfF (l b : Nat → Nat) : Nat → Nat → Option (Nat × Nat)
  | 0, _ => none
  | j + 1, k => if l k = b k then dfF l b j (k + 1) else some (l k, b k)
theorem lx_df : ∀ (l b : List Nat), l.length = b.length → lxB l b = (match dfF (fun i => l.getD i 0) (fun i => b.getD i 0) l.length 0 with
  | none => false
  | some p => decide (p.1 < p.2))
  | [], [], _ => rfl
  | x :: l, y :: b, h => by
    have ih := lx_df l b (by simpa using h)
    have sh : ∀ j k, dfF (fun i => (x :: l).getD i 0) (fun i => (y :: b).getD i 0) j (k + 1) = dfF (fun i => l.getD i 0) (fun i => b.getD i 0) j k := by
      intro j
      induction j with
      | zero => intro k; rfl
      | succ j ih => intro k; unfold dfF; rw [ih (k + 1)]; rfl
    show (if x = y then lxB l b else decide (x < y)) = _
    rw [List.length_cons]
    unfold dfF
    rw [sh]
    by_cases e : x = y
    · rw [if_pos e, ih]
      show _ = match (if x = y then _ else some (x, y)) with
        | none => false
        | some p => decide (p.1 < p.2)
      rw [if_pos e]
    · rw [if_neg e]
      show _ = match (if x = y then _ else some (x, y)) with
        | none => false
        | some p => decide (p.1 < p.2)
      rw [if_neg e]
/-- the best row as the model has it -/
def BW (F : Nat → Nat → Int32) (v : Int32) (o : Option (List Nat)) : Prop := match o with
  | none => v = -1
  | some l => v = nI l.length ∧ l.length ≤ 29 ∧ ∀ i, i < l.length → F 104 i = nI (l.getD i 0) ∧ l.getD i 0 < 256
section MWX
variable {d : Nat} {h : am_H} {F : Nat → Nat → Int32} {J : Nat → Nat → Int64} {V : Nat → Nat → Value} {Q : am_Q}
theorem Py.pm {F F' : Nat → Nat → Int32} (p : Py F F') : Pm F F' := ⟨fun a ha => p.1 a (by omega) (by omega) (by omega) (by omega), fun a ha => p.1 a (by omega) (by omega) (by omega) (by omega), fun i _ => by rw [p.1 84 (by decide) (by decide) (by decide) (by decide)], fun i hi => p.2 i (by omega) (by omega) (by omega)⟩
theorem Pm.s104 {F F1 : Nat → Nat → Int32} (a : Pm F F1) (f : Nat → Int32) : Pm F (upz F1 104 f) := ⟨fun i hi => by rw [upz_ne _ _ (by omega)]; exact a.1 i hi, fun i hi => by rw [upz_ne _ _ (by omega)]; exact a.2.1 i hi, fun i hi => by rw [upz_ne _ _ (by decide)]; exact a.2.2.1 i hi, fun i hi => by rw [upz_ne _ _ (by decide)]; exact a.2.2.2 i hi⟩
set_option maxRecDepth 20000 in
theorem m_woCopy {l : List Nat} (hW : WRow F l) {hp x : Int32} {way : Nat} {lessv bestv : Int32} (K : ∀ f v6, (∀ i, i < l.length → f i = nI (l.getD i 0)) → am_W kc_Model_world (am_cl d) Q 182 [.ref 82, .int hp, .int x, .int (nI l.length), .int (nI way), .int lessv, v6] [] (ov h (upz F 104 f) J V)) : am_W kc_Model_world (am_cl d) Q 145 [.ref 82, .int hp, .int x, .int bestv, .int (nI way), .int lessv, .int 0] [] (ov h F J V) := by
  obtain ⟨h38, hl, hr⟩ := hW
  simp only [ax0, ex_cons, am_get, upz_at, true_and, and_true, Nat.reduceAdd, Nat.reduceLeDiff, Nat.reduceEqDiff, Nat.reduceSub, Int32.reduceOfInt, Int32.reduceAdd, Int32.reduceMul, Int32.reduceSub, ↓reduceIte, Int32.reduceLT, Int32.reduceLE, Int32.reduceToNatClampNeg, Nat.reduceMod, Nat.reduceLT, List.length_cons, List.length_nil, eq_self, true_or, or_true, and_self, implies_true, not_true_eq_false, not_false_eq_true, false_implies, true_implies, forall_const, st_aloadx, st_getfieldx, st_goto_wx, st_iconstx, st_istorex, am_put, am_nlg, jx_Model_world_145, kb_Model_world_145, og_82_38, oa_82, h38]
  have e0 : ov h F J V = ov h (upz F 104 (ovr (F 104) (F 103) 0 0)) J V := by rw [upz_ovr0]
  rw [e0]
  refine am_iter l.length (fun k => [.ref 82, .int hp, .int x, .int (nI l.length), .int (nI way), .int lessv, .int (nI k)]) (fun k => ov h (upz F 104 (ovr (F 104) (F 103) 0 k)) J V) (fun _ => True) (fun k hk hI go => ?_) (fun hI => ?_) 0 (by omega) trivial
  · have go := go trivial
    have ee := ovr_S (F 104) (F 103) 0 k rfl
    rw [Nat.zero_add] at ee
    rw [← ee] at go
    rw [jx_Model_world_153]
    simp only [ax0, ex_cons, am_get, upz_at, true_and, and_true, Nat.reduceAdd, Nat.reduceLeDiff, Nat.reduceEqDiff, Nat.reduceSub, Int32.reduceOfInt, Int32.reduceAdd, Int32.reduceMul, Int32.reduceSub, ↓reduceIte, Int32.reduceLT, Int32.reduceLE, Int32.reduceToNatClampNeg, Nat.reduceMod, Nat.reduceLT, List.length_cons, List.length_nil, eq_self, true_or, or_true, and_self, implies_true, not_true_eq_false, not_false_eq_true, false_implies, true_implies, forall_const, st_aloadx, st_getfieldx, st_gotox, st_ialoadx, st_iastorex, st_if_icmpx, st_iincx, st_iloadx, am_put, am_nlg, kb_Model_world_153, og_82_38, og_82_36, og_82_35, oa_82, oa_103, or_103, ow_103, os_103, oa_104, or_104, ow_104, os_104, h38, (nk_le (by omega) (by omega) : (nI (l.length) ≤ nI (k)) = (l.length ≤ k)), show ¬ l.length ≤ k by omega, nk_neg (show k < 2147483648 by omega), nk_cl (show k < 2147483648 by omega), show k < 40 by omega, upz_upd, nk_succ]
    exact go
  · rw [jx_Model_world_153]
    simp only [ax0, ex_cons, am_get, upz_at, true_and, and_true, Nat.reduceAdd, Nat.reduceLeDiff, Nat.reduceEqDiff, Nat.reduceSub, Int32.reduceOfInt, Int32.reduceAdd, Int32.reduceMul, Int32.reduceSub, ↓reduceIte, Int32.reduceLT, Int32.reduceLE, Int32.reduceToNatClampNeg, Nat.reduceMod, Nat.reduceLT, List.length_cons, List.length_nil, eq_self, true_or, or_true, and_self, implies_true, not_true_eq_false, not_false_eq_true, false_implies, true_implies, forall_const, st_aloadx, st_getfieldx, st_gotox, st_ialoadx, st_iastorex, st_if_icmpx, st_iincx, st_iloadx, am_put, am_nlg, kb_Model_world_153, og_82_38, og_82_36, og_82_35, oa_82, oa_103, or_103, ow_103, os_103, oa_104, or_104, ow_104, os_104, h38, (nk_le (by omega) (by omega) : (nI (l.length) ≤ nI (l.length)) = (l.length ≤ l.length)), Nat.le_refl]
    exact K _ _ (fun i hi => by rw [ovr_in (by omega) (by omega)]; exact (hr i hi).1)
def lsV (o : Option (Nat × Nat)) : Int32 := match o with
  | none => 0
  | some p => nI p.1 - nI p.2
set_option maxRecDepth 20000 in
theorem m_woLess {l b : List Nat} (hW : WRow F l) (hb : BW F (nI b.length) (some b)) (he : l.length = b.length) {hp x : Int32} {way : Nat} (K : ∀ v6, am_W kc_Model_world (am_cl d) Q 116 [.ref 82, .int hp, .int x, .int (nI b.length), .int (nI way), .int (lsV (dfF (fun i => l.getD i 0) (fun i => b.getD i 0) l.length 0)), .int v6] [] (ov h F J V)) : am_W kc_Model_world (am_cl d) Q 71 [.ref 82, .int hp, .int x, .int (nI b.length), .int (nI way), .int 0, .int 0] [] (ov h F J V) := by
  obtain ⟨h38, hl, hr⟩ := hW
  obtain ⟨_, hb2, hb3⟩ := hb
  rw [he] at h38
  have key : ∀ j k, k + j = l.length → dfF (fun i => l.getD i 0) (fun i => b.getD i 0) l.length 0 = dfF (fun i => l.getD i 0) (fun i => b.getD i 0) j k → am_W kc_Model_world (am_cl d) Q 71 [.ref 82, .int hp, .int x, .int (nI b.length), .int (nI way), .int 0, .int (nI k)] [] (ov h F J V) := by
    generalize dfF (fun i => l.getD i 0) (fun i => b.getD i 0) l.length 0 = o at K
    intro j
    induction j with
    | zero =>
      intro k ek eo
      have ek : k = l.length := ek
      subst ek
      rw [jx_Model_world_71]
      simp only [ax0, ex_cons, am_get, upz_at, true_and, and_true, Nat.reduceAdd, Nat.reduceLeDiff, Nat.reduceEqDiff, Nat.reduceSub, Int32.reduceOfInt, Int32.reduceAdd, Int32.reduceMul, Int32.reduceSub, ↓reduceIte, Int32.reduceLT, Int32.reduceLE, Int32.reduceToNatClampNeg, Nat.reduceMod, Nat.reduceLT, List.length_cons, List.length_nil, eq_self, true_or, or_true, and_self, implies_true, not_true_eq_false, not_false_eq_true, false_implies, true_implies, forall_const, st_aloadx, st_getfieldx, st_gotox, st_ialoadx, st_ifCondx, st_if_icmpx, st_iincx, st_iloadx, st_istorex, st_isubx, am_put, am_nlg, kb_Model_world_71, og_82_38, og_82_35, og_82_36, oa_82, oa_103, or_103, oa_104, or_104, h38, (nk_le (by omega) (by omega) : (nI (b.length) ≤ nI (l.length)) = (b.length ≤ l.length)), show b.length ≤ l.length by omega]
      rw [eo] at K
      exact K _
    | succ j ih =>
      intro k ek eo
      unfold dfF at eo
      obtain ⟨a1, a2⟩ := hr k (by omega)
      obtain ⟨c1, c2⟩ := hb3 k (by omega)
      rw [jx_Model_world_71]
      simp only [ax0, ex_cons, am_get, upz_at, true_and, and_true, Nat.reduceAdd, Nat.reduceLeDiff, Nat.reduceEqDiff, Nat.reduceSub, Int32.reduceOfInt, Int32.reduceAdd, Int32.reduceMul, Int32.reduceSub, ↓reduceIte, Int32.reduceLT, Int32.reduceLE, Int32.reduceToNatClampNeg, Nat.reduceMod, Nat.reduceLT, List.length_cons, List.length_nil, eq_self, true_or, or_true, and_self, implies_true, not_true_eq_false, not_false_eq_true, false_implies, true_implies, forall_const, st_aloadx, st_getfieldx, st_gotox, st_ialoadx, st_ifCondx, st_if_icmpx, st_iincx, st_iloadx, st_istorex, st_isubx, am_put, am_nlg, kb_Model_world_71, og_82_38, og_82_35, og_82_36, oa_82, oa_103, or_103, oa_104, or_104, h38, (nk_le (by omega) (by omega) : (nI (b.length) ≤ nI (k)) = (b.length ≤ k)), show ¬ b.length ≤ k by omega, nk_neg (show k < 2147483648 by omega), nk_cl (show k < 2147483648 by omega), show k < 40 by omega, a1, c1, nk_succ]
      by_cases e : l.getD k 0 = b.getD k 0
      · rw [if_pos e] at eo
        have e2 : nI (l.getD k 0) - nI (b.getD k 0) = 0 := by rw [e]; exact Int32.sub_self _
        rw [e2]
        exact ih (k + 1) (by omega) eo
      · rw [if_neg e] at eo
        have e2 : ¬ nI (l.getD k 0) - nI (b.getD k 0) = 0 := by
          intro z
          have : nI (l.getD k 0) = nI (b.getD k 0) := by
            have := congrArg (· + nI (b.getD k 0)) z
            simpa using this
          rw [nk_eq (by omega) (by omega)] at this
          exact e this
        rw [eo] at K
        -- once more at the head, which ends it
        rw [jx_Model_world_71]
        by_cases g : k + 1 < l.length
        · simp only [ax0, ex_cons, am_get, upz_at, true_and, and_true, Nat.reduceAdd, Nat.reduceLeDiff, Nat.reduceEqDiff, Nat.reduceSub, Int32.reduceOfInt, Int32.reduceAdd, Int32.reduceMul, Int32.reduceSub, ↓reduceIte, Int32.reduceLT, Int32.reduceLE, Int32.reduceToNatClampNeg, Nat.reduceMod, Nat.reduceLT, List.length_cons, List.length_nil, eq_self, true_or, or_true, and_self, implies_true, not_true_eq_false, not_false_eq_true, false_implies, true_implies, forall_const, st_aloadx, st_getfieldx, st_gotox, st_ialoadx, st_ifCondx, st_if_icmpx, st_iincx, st_iloadx, st_istorex, st_isubx, am_put, am_nlg, kb_Model_world_71, og_82_38, og_82_35, og_82_36, oa_82, oa_103, or_103, oa_104, or_104, h38, (nk_le (by omega) (by omega) : (nI (b.length) ≤ nI (k + 1)) = (b.length ≤ k + 1)), show ¬ b.length ≤ k + 1 by omega, e2]
          exact K _
        · simp only [ax0, ex_cons, am_get, upz_at, true_and, and_true, Nat.reduceAdd, Nat.reduceLeDiff, Nat.reduceEqDiff, Nat.reduceSub, Int32.reduceOfInt, Int32.reduceAdd, Int32.reduceMul, Int32.reduceSub, ↓reduceIte, Int32.reduceLT, Int32.reduceLE, Int32.reduceToNatClampNeg, Nat.reduceMod, Nat.reduceLT, List.length_cons, List.length_nil, eq_self, true_or, or_true, and_self, implies_true, not_true_eq_false, not_false_eq_true, false_implies, true_implies, forall_const, st_aloadx, st_getfieldx, st_gotox, st_ialoadx, st_ifCondx, st_if_icmpx, st_iincx, st_iloadx, st_istorex, st_isubx, am_put, am_nlg, kb_Model_world_71, og_82_38, og_82_35, og_82_36, oa_82, oa_103, or_103, oa_104, or_104, h38, (nk_le (by omega) (by omega) : (nI (b.length) ≤ nI (k + 1)) = (b.length ≤ k + 1)), show b.length ≤ k + 1 by omega]
          exact K _
  exact key l.length 0 (by omega) rfl
theorem lsV_lt {l b : List Nat} (he : l.length = b.length) (hl : ∀ i, i < l.length → l.getD i 0 < 256) (hb : ∀ i, i < b.length → b.getD i 0 < 256) : (lsV (dfF (fun i => l.getD i 0) (fun i => b.getD i 0) l.length 0) < 0) = (lxB l b = true) := by
  rw [lx_df l b he]
  have key : ∀ j k p, k + j ≤ l.length → dfF (fun i => l.getD i 0) (fun i => b.getD i 0) j k = some p → p.1 < 256 ∧ p.2 < 256 := by
    intro j
    induction j with
    | zero => intro k p _ h; cases h
    | succ j ih =>
      intro k p hk h
      unfold dfF at h
      split at h
      · exact ih (k + 1) p (by omega) h
      · cases h
        exact ⟨hl k (by omega), hb k (by omega)⟩
  cases e : dfF (fun i => l.getD i 0) (fun i => b.getD i 0) l.length 0 with
  | none => exact propext ⟨fun z => absurd z (by decide), fun z => by cases z⟩
  | some p =>
    obtain ⟨h1, h2⟩ := key l.length 0 p (by omega) e
    show (nI p.1 - nI p.2 < 0) = (decide (p.1 < p.2) = true)
    rw [decide_eq_true_eq]
    by_cases g : p.1 < p.2
    · refine propext ⟨fun _ => g, fun _ => ?_⟩
      rw [Int32.lt_iff_toInt_lt, Int32.toInt_zero, Int32.toInt_sub, nk_toInt (by omega), nk_toInt (by omega)]
      have e3 : (2 : Nat) ^ 32 = 4294967296 := by decide
      rw [e3]
      unfold Int.bmod
      dsimp only
      split <;> omega
    · refine propext ⟨fun z => ?_, fun z => absurd z g⟩
      rw [nk_sub (by omega), nk_neg (by omega)] at z
      exact z.elim
end MWX
