/-! ===== the class: the rounds of derivation ===== -/
theorem cn_le2 {p q : Nat → Bool} : ∀ {k : Nat}, (∀ x, x < k → p x = true → q x = true) → cn p k ≤ cn q k
  | 0, _ => Nat.le_refl _
  | k + 1, h => by
    have ih := cn_le2 (p := p) (q := q) (k := k) (fun x hx => h x (by omega))
    cases e : p k
    · rw [cn_f e]
      exact Nat.le_trans ih (cn_mn (Nat.le_succ k))
    · rw [cn_t e, cn_t (h k (Nat.lt_succ_self k) e)]
      omega
theorem cn_lt2 {p q : Nat → Bool} {x : Nat} (hp : p x = false) (hq : q x = true) : ∀ {k : Nat}, x < k → (∀ x, x < k → p x = true → q x = true) → cn p k < cn q k
  | 0, hx, _ => absurd hx (Nat.not_lt_zero x)
  | k + 1, hx, h => by
    by_cases z : x = k
    · subst z
      rw [cn_f hp, cn_t hq]
      have := cn_le2 (p := p) (q := q) (k := x) (fun y hy => h y (by omega))
      omega
    · have ih := cn_lt2 hp hq (k := k) (by omega) (fun y hy => h y (by omega))
      cases e : p k
      · rw [cn_f e]
        exact Nat.lt_of_lt_of_le ih (cn_mn (Nat.le_succ k))
      · rw [cn_t e, cn_t (h k (Nat.lt_succ_self k) e)]
        omega
theorem lie_neg1 {y : Int32} : lieB (-1) 0 y = false := by
  unfold lieB
  rw [decide_eq_true (show (-1 : Int32) < 0 by decide)]
  rfl
theorem lie_nk {a b : Nat} (ha : a < 2147483648) (hb : b < 2147483648) : lieB (nI a) 0 (nI b) = decide (a ≤ b) := by
  unfold lieB
  rw [decide_eq_false (show ¬ nI a < 0 by rw [nk_neg ha]; exact id), Bool.not_false, Bool.true_and, Bool.eq_iff_iff, Bool.not_eq_true', decide_eq_false_iff_not, decide_eq_true_eq, nk_lt hb ha]
  omega
theorem prD_cg {ex : Bool} {r s : Nat → Int32} (h : ∀ x, x < 256 → r x = s x) {a b x : Nat} (p : prD ex r a b x) : prD ex s a b x := by
  obtain ⟨p0, p1, p2, p3, p4, p5⟩ := p
  exact ⟨p0, p1, p2, by rw [← h a p1]; exact p3, by rw [← h b p2]; exact p4, p5⟩
def ByI (ex : Bool) (F : Nat → Nat → Int32) (n : Nat) : Prop := ∀ x k, x < 256 → 1 ≤ k → k ≤ n → F 76 x = nI k → ∃ a b, F 77 x = nI a ∧ F 78 x = nI b ∧ byP ex (F 76) x a b
theorem LI.lie {ex : Bool} {n i j : Nat} {F F1 : Nat → Nat → Int32} (hn : n < 1000) (hI : RInv ex (F 76) n) (l : LI ex n F F1 i j) {z k : Nat} (hz : z < 256) (h1 : 1 ≤ k) (hk : k ≤ n + 1) : lieB (F1 76 z) 0 (nI k - 1) = true ↔ ∃ k', k' < k ∧ F 76 z = nI k' := by
  rw [show nI k - 1 = nI (k - 1) from nk_sub (b := 1) h1]
  rcases hI.1 z hz with e | ⟨k', e1, e2⟩
  · have no : ¬ ∃ k', k' < k ∧ F 76 z = nI k' := by
      rintro ⟨k', a1, a2⟩
      rw [e] at a2
      have := nI_neg1 (b := k') (by omega)
      exact absurd a2.symm (by rw [this]; exact id)
    rcases l.2.1 z hz e with w | ⟨w, _⟩
    · rw [w, lie_neg1]
      exact ⟨fun t => (by cases t), fun t => absurd t no⟩
    · rw [w, lie_nk (by omega) (by omega), decide_eq_true_eq]
      exact ⟨fun t => by omega, fun t => absurd t no⟩
  · have ne : ¬ F 76 z = -1 := by rw [e2, nI_neg1 (by omega)]; exact id
    rw [(l.1 z hz ne).1, e2, lie_nk (by omega) (by omega), decide_eq_true_eq]
    constructor
    · exact fun t => ⟨k', by omega, rfl⟩
    · rintro ⟨k2, a1, a2⟩
      rw [nk_eq (by omega) (by omega)] at a2
      omega
theorem LI.rf {ex : Bool} {n : Nat} {F : Nat → Nat → Int32} (h5 : F 75 5 = nI (cn (pD (F 76)) 256)) (h79 : lsD (pD (F 76)) (F 79)) : LI ex n F F 0 0 := ⟨fun _ _ _ => ⟨rfl, rfl, rfl⟩, fun _ _ e => Or.inl e, fun _ _ _ _ q => by omega, h5, ⟨fun _ _ _ _ _ _ _ => rfl, rfl, rfl, fun _ _ => rfl⟩, h79⟩
theorem RInv.lie {ex : Bool} {n : Nat} {r : Nat → Int32} (hn : n < 1000) (hI : RInv ex r n) {z k : Nat} (hz : z < 256) (h1 : 1 ≤ k) (hk : k ≤ n + 1) : lieB (r z) 0 (nI k - 1) = true ↔ ∃ k', k' < k ∧ r z = nI k' := by
  rw [show nI k - 1 = nI (k - 1) from nk_sub (b := 1) h1]
  rcases hI.1 z hz with e | ⟨k', e1, e2⟩
  · rw [e, lie_neg1]
    refine ⟨fun t => (by cases t), ?_⟩
    rintro ⟨k', a1, a2⟩
    have := nI_neg1 (b := k') (by omega)
    exact absurd a2.symm (by rw [this]; exact id)
  · rw [e2, lie_nk (by omega) (by omega), decide_eq_true_eq]
    constructor
    · exact fun t => ⟨k', by omega, rfl⟩
    · rintro ⟨k2, a1, a2⟩
      rw [nk_eq (by omega) (by omega)] at a2
      omega
/-- behind a round -/
theorem LI.nx {ex : Bool} {n : Nat} {F F1 : Nat → Nat → Int32} (hn : n < 1000) (hI : RInv ex (F 76) n) (hB : ByI ex F n) (l : LI ex n F F1 (cn (pD (F 76)) 256) 0) : RInv ex (F1 76) (n + 1) ∧ ByI ex F1 (n + 1) := by
  have all : ∀ a b x, prD ex (F 76) a b x → ¬ F1 76 x = -1 := fun a b x p => l.2.2.1 a b x p (Or.inl (cn_lt (pD_t.mpr p.2.2.2.1) p.2.1))
  refine ⟨⟨fun x hx => ?_, fun x hx e => ?_, fun a b x k1 k2 hx ha hb r1 l1 r2 l2 ec => ?_⟩, fun x k hx h1 hk e => ?_⟩
  · by_cases e : F 76 x = -1
    · rcases l.2.1 x hx e with w | ⟨w, _⟩
      · exact Or.inl w
      · exact Or.inr ⟨n + 1, Nat.le_refl _, w⟩
    · rw [(l.1 x hx e).1]
      rcases hI.1 x hx with w | ⟨k, w1, w2⟩
      · exact Or.inl w
      · exact Or.inr ⟨k, by omega, w2⟩
  · by_cases z : F 76 x = -1
    · rcases l.2.1 x hx z with w | ⟨_, a, b, _, _, p, _⟩
      · exact absurd w e
      · obtain ⟨p0, p1, p2, p3, p4, p5⟩ := p
        rcases cdd_or (ex := ex) (hI.2.1 a p1 p3) (hI.2.1 b p2 p4) with w | ⟨m, m1, m2, m3⟩
        · rw [w] at p5
          have := nI_neg1 (b := x) (by omega)
          exact absurd p5.symm (by rw [this]; exact id)
        · rw [m3, nk_eq (by omega) (by omega)] at p5
          rw [← p5]; exact m2
    · exact hI.2.1 x hx z
  · have ge : ∀ z k, z < 256 → F1 76 z = nI k → k < n + 1 → ¬ F 76 z = -1 := fun z k hz r1 l1 e => by
      rcases l.2.1 z hz e with w | ⟨w, _⟩
      · rw [w] at r1
        have := nI_neg1 (b := k) (by omega)
        exact absurd r1.symm (by rw [this]; exact id)
      · rw [w, nk_eq (by omega) (by omega)] at r1
        omega
    exact all a b x ⟨hx, ha, hb, ge a k1 ha r1 l1, ge b k2 hb r2 l2, ec⟩
  · by_cases z : F 76 x = -1
    · rcases l.2.1 x hx z with w | ⟨w, a, b, e1, e2, p, mi⟩
      · rw [w] at e
        have := nI_neg1 (b := k) (by omega)
        exact absurd e.symm (by rw [this]; exact id)
      · have ek : k = n + 1 := by
          rw [w, nk_eq (by omega) (by omega)] at e
          exact e.symm
        have ok : ∀ a' b', okB ex (F1 76) x a' b' ↔ prD ex (F 76) a' b' x := fun a' b' => by
          unfold okB prD
          rw [w]
          constructor
          · rintro ⟨q1, q2, q3, q4, q5⟩
            obtain ⟨k1, _, f1⟩ := (l.lie hn hI q1 (by omega) (Nat.le_refl _)).mp q3
            obtain ⟨k2, _, f2⟩ := (l.lie hn hI q2 (by omega) (Nat.le_refl _)).mp q4
            exact ⟨hx, q1, q2, by rw [f1, nI_neg1 (by omega)]; exact id, by rw [f2, nI_neg1 (by omega)]; exact id, q5⟩
          · rintro ⟨_, q1, q2, q3, q4, q5⟩
            have gg : ∀ z, z < 256 → ¬ F 76 z = -1 → ∃ k', k' < n + 1 ∧ F 76 z = nI k' := fun z z1 z2 => by
              rcases hI.1 z z1 with y | ⟨k', y1, y2⟩
              · exact absurd y z2
              · exact ⟨k', by omega, y2⟩
            exact ⟨q1, q2, (l.lie hn hI q1 (by omega) (Nat.le_refl _)).mpr (gg a' q1 q3), (l.lie hn hI q2 (by omega) (Nat.le_refl _)).mpr (gg b' q2 q4), q5⟩
        exact ⟨a, b, e1, e2, (ok a b).mpr p, fun a' b' q => mi a' b' ((ok a' b').mp q)⟩
    · obtain ⟨g1, g2, g3⟩ := l.1 x hx z
      rw [g1] at e
      have kn : k ≤ n := by
        rcases hI.1 x hx with w | ⟨k', w1, w2⟩
        · exact absurd w z
        · rw [w2, nk_eq (by omega) (by omega)] at e
          omega
      obtain ⟨a, b, e1, e2, p⟩ := hB x k hx h1 kn e
      have ok : ∀ a' b', okB ex (F1 76) x a' b' ↔ okB ex (F 76) x a' b' := fun a' b' => by
        unfold okB
        rw [g1, e]
        constructor
        · rintro ⟨q1, q2, q3, q4, q5⟩
          exact ⟨q1, q2, (hI.lie hn q1 h1 (by omega)).mpr ((l.lie hn hI q1 h1 (by omega)).mp q3), (hI.lie hn q2 h1 (by omega)).mpr ((l.lie hn hI q2 h1 (by omega)).mp q4), q5⟩
        · rintro ⟨q1, q2, q3, q4, q5⟩
          exact ⟨q1, q2, (l.lie hn hI q1 h1 (by omega)).mpr ((hI.lie hn q1 h1 (by omega)).mp q3), (l.lie hn hI q2 h1 (by omega)).mpr ((hI.lie hn q2 h1 (by omega)).mp q4), q5⟩
      exact ⟨a, b, by rw [g2]; exact e1, by rw [g3]; exact e2, (ok a b).mpr p.1, fun a' b' q => p.2 a' b' ((ok a' b').mp q)⟩
/-- the derivation's cells and the syllogism's pair alone differ -/
def Dw (F F1 : Nat → Nat → Int32) : Prop := (∀ x, x ≠ 65 → x ≠ 75 → x ≠ 76 → x ≠ 77 → x ≠ 78 → x ≠ 79 → F1 x = F x) ∧ F1 65 7 = F 65 7 ∧ F1 65 8 = F 65 8 ∧ F1 75 0 = F 75 0
/-- what stands when it is done -/
def DvD (ex : Bool) (F : Nat → Nat → Int32) (R : (Nat → Int32) × Nat) : Prop := (∀ x, x < 256 → F 76 x = R.1 x) ∧ F 75 5 = nI (cn (pD R.1) 256) ∧ F 75 6 = nI R.2 ∧ ∀ x, x < 256 → ¬ R.1 x < 1 → ∃ a b, F 77 x = nI a ∧ F 78 x = nI b ∧ byA ex R.1 x 256 0 = some (a, b)
theorem pD_cg {r s : Nat → Int32} (h : ∀ x, x < 256 → r x = s x) : cn (pD r) 256 = cn (pD s) 256 := cn_congr (fun x hx => by unfold pD; rw [h x hx])
theorem byP_cg {ex : Bool} {r s : Nat → Int32} (h : ∀ x, x < 256 → r x = s x) {x a b : Nat} (hx : x < 256) (p : byP ex r x a b) : byP ex s x a b := by
  have ok : ∀ a' b', okB ex s x a' b' ↔ okB ex r x a' b' := fun a' b' => by
    unfold okB
    constructor
    · rintro ⟨q1, q2, q3, q4, q5⟩
      exact ⟨q1, q2, by rw [h a' q1, h x hx]; exact q3, by rw [h b' q2, h x hx]; exact q4, q5⟩
    · rintro ⟨q1, q2, q3, q4, q5⟩
      exact ⟨q1, q2, by rw [← h a' q1, ← h x hx]; exact q3, by rw [← h b' q2, ← h x hx]; exact q4, q5⟩
  exact ⟨(ok a b).mpr p.1, fun a' b' q => p.2 a' b' ((ok a' b').mp q)⟩
theorem DvD.mk {ex : Bool} {F : Nat → Nat → Int32} {r : Nat → Int32} {n : Nat} (hn : n < 1000) (hr : ∀ x, x < 256 → F 76 x = r x) (hI : RInv ex (F 76) n) (hB : ByI ex F n) (h5 : F 75 5 = nI (cn (pD (F 76)) 256)) (h6 : F 75 6 = nI n) : DvD ex F (r, n) := by
  refine ⟨hr, by rw [h5, pD_cg hr], h6, fun x hx ne => ?_⟩
  have ne : ¬ r x < 1 := ne
  rw [← hr x hx] at ne
  rcases hI.1 x hx with w | ⟨k, k1, k2⟩
  · rw [w] at ne; exact absurd (by decide) ne
  · rw [k2, show (nI k < (1 : Int32)) = (k < 1) from nk_lt (b := 1) (by omega) (by decide)] at ne
    obtain ⟨a, b, e1, e2, p⟩ := hB x k hx (by omega) k1 k2
    exact ⟨a, b, e1, e2, byA_P (byP_cg hr hx p)⟩
section CDX
variable {d : Nat} {h : am_H} {F : Nat → Nat → Int32} {J : Nat → Nat → Int64} {V : Nat → Nat → Value} {Q : am_Q}
set_option maxRecDepth 20000 in
theorem c_run {ex : Bool} {r0 : Nat → Int32} (ht : ∀ k, k < 64 → F 66 k = tcV ex k) (hr : ∀ x, x < 256 → F 76 x = r0 x) (hI : RInv ex (F 76) 0) (h5 : F 75 5 = nI (cn (pD (F 76)) 256)) (h6 : F 75 6 = 0) (K : ∀ F', Dw F F' → DvD ex F' (rdW ex 257 0 r0) → Q none (ov h F' J V)) : am_cl (d + 5) 87 [.ref 75, .ref 65] (ov h F J V) Q := by
  have key : ∀ j n F1 r bef, n + j = 257 → (∀ x, x < 256 → F1 76 x = r x) → RInv ex (F1 76) n → ByI ex F1 n → F1 75 5 = nI (cn (pD (F1 76)) 256) → F1 75 6 = nI n → bef < cn (pD (F1 76)) 256 → n + 1 ≤ cn (pD (F1 76)) 256 → Dw F F1 → (∀ F', Dw F F' → DvD ex F' (rdW ex j n r) → Q none (ov h F' J V)) → am_W kc_Derivation_run (am_cl (d + 4)) Q 4 [.ref 75, .ref 65, .int (nI bef), .int (nI (n + 1))] [] (ov h F1 J V) := by
    intro j
    induction j with
    | zero =>
      intro n F1 r bef en g1 g2 g3 g4 g5 g6 g7
      have : cn (pD (F1 76)) 256 ≤ 256 := cn_le _ _
      omega
    | succ j ih =>
      intro n F1 r bef en g1 g2 g3 g4 g5 g6 g7 g8 K
      have hc : cn (pD (F1 76)) 256 ≤ 256 := cn_le _ _
      have lt : ((256 : Int32) < nI (n + 1)) = (256 < n + 1) := nk_lt (a := 256) (by omega) (by omega)
      have t1 : ∀ k, k < 64 → F1 66 k = tcV ex k := fun k hk => by rw [g8.1 66 (by decide) (by decide) (by decide) (by decide) (by decide) (by decide)]; exact ht k hk
      rw [jx_Derivation_run_4]
      simp only [isO_c, ax0, ex_cons, am_get, upz_at, true_and, and_true, Nat.reduceAdd, Nat.reduceLeDiff, Nat.reduceEqDiff, Nat.reduceSub, Int32.reduceOfInt, Int32.reduceAdd, Int32.reduceMul, Int32.reduceSub, ↓reduceIte, Int32.reduceLT, Int32.reduceLE, Int32.reduceToNatClampNeg, Nat.reduceMod, Nat.reduceLT, List.length_cons, List.length_nil, eq_self, true_or, or_true, and_self, implies_true, not_true_eq_false, not_false_eq_true, false_implies, true_implies, forall_const, st_aloadx, st_getfieldx, st_goto_wx, st_iconstx, st_if_icmpx, st_iloadx, st_in3, st_istorex, st_putfieldx, am_put, am_nlg, kb_Derivation_run_4, og_75_5, oo_75, op_75_6, oa_75, os_75, lt, show ¬ 256 < n + 1 by omega, g4, (nk_le (by omega) (by omega) : (nI (cn (pD (F1 76)) 256) ≤ nI (bef)) = (cn (pD (F1 76)) 256 ≤ bef)), show ¬ cn (pD (F1 76)) 256 ≤ bef by omega]
      refine c_deriveRound (show n < 1000 by omega) g2 t1 g4 (fun F2 l2 => ?_)
      obtain ⟨i2, b2⟩ := l2.nx (by omega) g2 g3
      obtain ⟨q1, q2, q3, q4, q5, q6⟩ := id l2
      have all : ∀ a b x, prD ex (F1 76) a b x → ¬ F2 76 x = -1 := fun a b x p => q3 a b x p (Or.inl (cn_lt (pD_t.mpr p.2.2.2.1) p.2.1))
      have hrd : ¬ nI (n + 1) = -1 := by rw [nI_neg1 (by omega)]; exact id
      have hxr : ∀ x, x < 256 → ¬ r x = nI (n + 1) := fun x hx e => by
        rw [← g1 x hx] at e
        rcases g2.1 x hx with w | ⟨k, w1, w2⟩
        · rw [w] at e; exact hrd e.symm
        · rw [w2, nk_eq (by omega) (by omega)] at e; omega
      have hvr : nuV r := fun x hx e => g2.2.1 x hx (by rw [g1 x hx]; exact e)
      have g1' : ∀ x, x < 256 → r x = F1 76 x := fun x hx => (g1 x hx).symm
      have es := swA_eq (ex := ex) (s := F2 76) hrd hxr hvr (fun x hx e => by rw [← g1 x hx] at e ⊢; exact (q1 x hx e).1) (fun x hx e => by
        rw [← g1 x hx] at e
        rcases q2 x hx e with w | ⟨w, a, b, _, _, p, _⟩
        · exact Or.inl w
        · exact Or.inr ⟨w, a, b, prD_cg g1 p⟩) (fun a b x p => all a b x (prD_cg g1' p))
      obtain ⟨⟨c1, c2⟩, c3⟩ := swA_ch (ex := ex) hrd hxr hvr
      have dw2 : Dw F F2 := ⟨fun x x1 x2 x3 x4 x5 x6 => (q5.1 x x1 x2 x3 x4 x5 x6).trans (g8.1 x x1 x2 x3 x4 x5 x6), q5.2.1.trans g8.2.1, q5.2.2.1.trans g8.2.2.1, (q5.2.2.2 0 (by decide)).trans g8.2.2.2⟩
      have le2 : ∀ x, x < 256 → pD (F1 76) x = true → pD (F2 76) x = true := fun x hx e => by
        rw [pD_t] at e ⊢
        rw [(q1 x hx e).1]; exact e
      have hc2 : cn (pD (F2 76)) 256 ≤ 256 := cn_le _ _
      rw [rdW_S] at K
      cases fl : (swA ex (nI (n + 1)) 256 0 (r, false)).2
      · rw [fl, if_neg Bool.false_ne_true] at K
        have no : ∀ x, x < 256 → F1 76 x = -1 → F2 76 x = -1 := fun x hx e => by
          rcases q2 x hx e with w | ⟨w, _⟩
          · exact w
          · have : (swA ex (nI (n + 1)) 256 0 (r, false)).2 = true := c2.mpr ⟨x, hx, by rw [← g1 x hx]; exact e, by rw [← es x hx]; exact w⟩
            rw [fl] at this; cases this
        have ec : cn (pD (F2 76)) 256 = cn (pD (F1 76)) 256 := cn_congr (fun x hx => by
          cases e : pD (F1 76) x
          · have e1 : F1 76 x = -1 := Classical.byContradiction fun z => by rw [pD_t.mpr z] at e; cases e
            unfold pD; rw [no x hx e1]; rfl
          · exact le2 x hx e)
        have f5 : F2 75 5 = nI (cn (pD (F1 76)) 256) := by rw [q4, ec]
        have lt2 : ((256 : Int32) < nI (n + 1 + 1)) = (256 < n + 1 + 1) := nk_lt (a := 256) (by omega) (by omega)
        simp only [isO_c, ax0, ex_cons, am_get, upz_at, true_and, and_true, Nat.reduceAdd, Nat.reduceLeDiff, Nat.reduceEqDiff, Nat.reduceSub, Int32.reduceOfInt, Int32.reduceAdd, Int32.reduceMul, Int32.reduceSub, ↓reduceIte, Int32.reduceLT, Int32.reduceLE, Int32.reduceToNatClampNeg, Nat.reduceMod, Nat.reduceLT, List.length_cons, List.length_nil, eq_self, true_or, or_true, and_self, implies_true, not_true_eq_false, not_false_eq_true, false_implies, true_implies, forall_const, st_aloadx, st_getfieldx, st_gotox, st_goto_wx, st_iconstx, st_if_icmpx, st_iincx, st_iloadx, st_in3, st_istorex, st_putfieldx, am_put, am_nlg, kb_Derivation_run_4, og_75_5, oo_75, op_75_6, jx_Derivation_run_43, kb_Derivation_run_43, oa_75, os_75, f5, (nk_le (by omega) (by omega) : (nI (cn (pD (F1 76)) 256) ≤ nI (cn (pD (F1 76)) 256)) = (cn (pD (F1 76)) 256 ≤ cn (pD (F1 76)) 256)), Nat.le_refl, nk_succ]
        rw [jx_Derivation_run_4]
        have fin : Q none (ov h F2 J V) := by
          refine K F2 dw2 ?_
          refine DvD.mk (n := n) (by omega) es ?_ ?_ q4 (by rw [q5.2.2.2 6 (by decide)]; exact g5)
          · have i1 := g2
            have ee : ∀ x, x < 256 → F2 76 x = F1 76 x := fun x hx => by
              by_cases e : F1 76 x = -1
              · rw [no x hx e, e]
              · exact (q1 x hx e).1
            refine ⟨fun x hx => by rw [ee x hx]; exact i1.1 x hx, fun x hx e => i1.2.1 x hx (by rw [← ee x hx]; exact e), fun a b x k1 k2 hx ha hb r1 l1 r2 l2 ecd => ?_⟩
            rw [ee x hx]
            rw [ee a ha] at r1
            rw [ee b hb] at r2
            exact i1.2.2 a b x k1 k2 hx ha hb r1 l1 r2 l2 ecd
          · exact fun x k hx h1 hk e => b2 x k hx h1 (by omega) e
        simp only [isO_c, ax0, ex_cons, am_get, upz_at, true_and, and_true, Nat.reduceAdd, Nat.reduceLeDiff, Nat.reduceEqDiff, Nat.reduceSub, Int32.reduceOfInt, Int32.reduceAdd, Int32.reduceMul, Int32.reduceSub, ↓reduceIte, Int32.reduceLT, Int32.reduceLE, Int32.reduceToNatClampNeg, Nat.reduceMod, Nat.reduceLT, List.length_cons, List.length_nil, eq_self, true_or, or_true, and_self, implies_true, not_true_eq_false, not_false_eq_true, false_implies, true_implies, forall_const, st_aloadx, st_getfieldx, st_goto_wx, st_iconstx, st_if_icmpx, st_iloadx, st_in3, st_istorex, st_putfieldx, st_return_x, am_put, am_nlg, kb_Derivation_run_4, og_75_5, oo_75, op_75_6, jx_Derivation_run_49, kb_Derivation_run_49, oa_75, os_75, lt2, f5, (nk_le (by omega) (by omega) : (nI (cn (pD (F1 76)) 256) ≤ nI (cn (pD (F1 76)) 256)) = (cn (pD (F1 76)) 256 ≤ cn (pD (F1 76)) 256)), Nat.le_refl]
        exact ⟨fun _ => fin, fun _ => fin⟩
      · rw [fl, if_pos rfl] at K
        obtain ⟨x, hx, e1, e2⟩ := c2.mp fl
        rw [← g1 x hx] at e1
        have e3 : ¬ F2 76 x = -1 := by rw [es x hx, e2]; exact hrd
        have lt3 := cn_lt2 (p := pD (F1 76)) (q := pD (F2 76)) (x := x) (by unfold pD; rw [e1]; rfl) (pD_t.mpr e3) hx le2
        simp only [isO_c, ax0, ex_cons, am_get, upz_at, true_and, and_true, Nat.reduceAdd, Nat.reduceLeDiff, Nat.reduceEqDiff, Nat.reduceSub, Int32.reduceOfInt, Int32.reduceAdd, Int32.reduceMul, Int32.reduceSub, ↓reduceIte, Int32.reduceLT, Int32.reduceLE, Int32.reduceToNatClampNeg, Nat.reduceMod, Nat.reduceLT, List.length_cons, List.length_nil, eq_self, true_or, or_true, and_self, implies_true, not_true_eq_false, not_false_eq_true, false_implies, true_implies, forall_const, st_aloadx, st_getfieldx, st_gotox, st_goto_wx, st_iconstx, st_if_icmpx, st_iincx, st_iloadx, st_in3, st_istorex, st_putfieldx, am_put, am_nlg, kb_Derivation_run_4, og_75_5, oo_75, op_75_6, jx_Derivation_run_43, kb_Derivation_run_43, oa_75, os_75, q4, (nk_le (by omega) (by omega) : (nI (cn (pD (F2 76)) 256) ≤ nI (cn (pD (F1 76)) 256)) = (cn (pD (F2 76)) 256 ≤ cn (pD (F1 76)) 256)), show ¬ cn (pD (F2 76)) 256 ≤ cn (pD (F1 76)) 256 by omega, nk_succ]
        have u : ∀ z, z ≠ 75 → upz F2 75 (upz (F2 75) 6 (nI (n + 1))) z = F2 z := fun z hz => upz_ne _ _ hz
        refine ih (n + 1) _ (swA ex (nI (n + 1)) 256 0 (r, false)).1 _ (by omega) ?_ ?_ ?_ ?_ ?_ ?_ ?_ ?_ K
        · rw [u 76 (by decide)]; exact es
        · rw [u 76 (by decide)]; exact i2
        · unfold ByI
          rw [u 76 (by decide), u 77 (by decide), u 78 (by decide)]; exact b2
        · rw [u 76 (by decide), upz_eq, upz_ne _ _ (by decide)]; exact q4
        · rw [upz_eq, upz_eq]
        · rw [u 76 (by decide)]; omega
        · rw [u 76 (by decide)]; omega
        · refine ⟨fun x x1 x2 x3 x4 x5 x6 => by rw [u x x2]; exact dw2.1 x x1 x2 x3 x4 x5 x6, by rw [u 65 (by decide)]; exact dw2.2.1, by rw [u 65 (by decide)]; exact dw2.2.2.1, by rw [upz_eq, upz_ne _ _ (by decide)]; exact dw2.2.2.2⟩
  have hB : ByI ex F 0 := fun x k _ h1 h2 => by omega
  have dw0 : Dw F F := ⟨fun _ _ _ _ _ _ _ => rfl, rfl, rfl, rfl⟩
  simp only [isO_c, ax0, ex_cons, am_get, upz_at, true_and, and_true, Nat.reduceAdd, Nat.reduceLeDiff, Nat.reduceEqDiff, Nat.reduceSub, Int32.reduceOfInt, Int32.reduceAdd, Int32.reduceMul, Int32.reduceSub, ↓reduceIte, Int32.reduceLT, Int32.reduceLE, Int32.reduceToNatClampNeg, Nat.reduceMod, Nat.reduceLT, List.length_cons, List.length_nil, eq_self, true_or, or_true, and_self, implies_true, not_true_eq_false, not_false_eq_true, false_implies, true_implies, forall_const, st_goto_wx, st_iconstx, st_istorex, am_put, am_nlg, kb_Derivation_run_0, cx_Derivation_run]
  by_cases z : cn (pD (F 76)) 256 = 0
  · have fin : Q none (ov h F J V) := by
      refine K F dw0 ?_
      have no : ∀ x, x < 256 → F 76 x = -1 := fun x hx => Classical.byContradiction fun e => by
        have := cn_lt (p := pD (F 76)) (pD_t.mpr e) hx
        omega
      have hrd : ¬ nI (0 + 1) = -1 := by decide
      have hxr : ∀ x, x < 256 → ¬ r0 x = nI (0 + 1) := fun x hx e => by
        rw [← hr x hx, no x hx] at e
        exact absurd e (by decide)
      have hvr : nuV r0 := fun x hx e => absurd (by rw [← hr x hx]; exact no x hx) e
      obtain ⟨⟨c1, c2⟩, c3⟩ := swA_ch (ex := ex) hrd hxr hvr
      have nop : ∀ a b x, ¬ prD ex r0 a b x := fun a b x p => p.2.2.2.1 (by rw [← hr a p.2.1]; exact no a p.2.1)
      have fl : (swA ex (nI (0 + 1)) 256 0 (r0, false)).2 = false := by
        cases e : (swA ex (nI (0 + 1)) 256 0 (r0, false)).2
        · rfl
        · obtain ⟨x, hx, e1, e2⟩ := c2.mp e
          rcases (c1 x hx).2 e1 with w | ⟨_, a, b, p⟩
          · rw [w] at e2; exact absurd e2.symm hrd
          · exact absurd p (nop a b x)
      rw [show rdW ex 257 0 r0 = ((swA ex (nI (0 + 1)) 256 0 (r0, false)).1, 0) by rw [rdW_S (j := 256), fl, if_neg Bool.false_ne_true]]
      refine DvD.mk (n := 0) (by decide) (fun x hx => ?_) hI hB h5 h6
      have e1 : r0 x = -1 := by rw [← hr x hx]; exact no x hx
      rcases (c1 x hx).2 e1 with w | ⟨_, a, b, p⟩
      · rw [w, no x hx]
      · exact absurd p (nop a b x)
    show am_W kc_Derivation_run (am_cl (d + 4)) Q 4 [.ref 75, .ref 65, .int (nI 0), .int (nI 1)] [] (ov h F J V)
    rw [jx_Derivation_run_4]
    rw [z] at h5
    simp only [isO_c, ax0, ex_cons, am_get, upz_at, true_and, and_true, Nat.reduceAdd, Nat.reduceLeDiff, Nat.reduceEqDiff, Nat.reduceSub, Int32.reduceOfInt, Int32.reduceAdd, Int32.reduceMul, Int32.reduceSub, ↓reduceIte, Int32.reduceLT, Int32.reduceLE, Int32.reduceToNatClampNeg, Nat.reduceMod, Nat.reduceLT, List.length_cons, List.length_nil, eq_self, true_or, or_true, and_self, implies_true, not_true_eq_false, not_false_eq_true, false_implies, true_implies, forall_const, st_aloadx, st_getfieldx, st_goto_wx, st_iconstx, st_if_icmpx, st_iloadx, st_in3, st_istorex, st_putfieldx, st_return_x, am_put, am_nlg, kb_Derivation_run_4, og_75_5, oo_75, op_75_6, jx_Derivation_run_49, kb_Derivation_run_49, oa_75, os_75, h5, (nk_le (by omega) (by omega) : (nI (0) ≤ nI (0)) = (0 ≤ 0)), Nat.le_refl, show ¬ (256 : Int32) < nI 1 by decide]
    exact fin
  · exact key 257 0 F r0 0 rfl hr hI hB h5 h6 (by omega) (by omega) dw0 K
end CDX
