/-! ===== two sentences with a middle: three kinds alone matter ===== -/
def nb1 (b : Bool) : Nat := if b then 1 else 0
def p3 (s m p r : Nat) : Nat := nb1 (r.testBit s) + 2 * nb1 (r.testBit m) + 4 * nb1 (r.testBit p)
theorem p3_bit (s m p r : Nat) : (p3 s m p r).testBit 0 = r.testBit s ∧ (p3 s m p r).testBit 1 = r.testBit m ∧ (p3 s m p r).testBit 2 = r.testBit p ∧ p3 s m p r < 8 := by
  unfold p3
  generalize r.testBit s = a
  generalize r.testBit m = b
  generalize r.testBit p = c
  cases a <;> cases b <;> cases c <;> decide
def q3 (s m p k : Nat) : Nat := nb1 (k.testBit 0) * 2 ^ s + nb1 (k.testBit 1) * 2 ^ m + nb1 (k.testBit 2) * 2 ^ p
theorem q3_dec : ∀ s m p : Fin 8, s ≠ m → s ≠ p → m ≠ p → ∀ k : Fin 8, q3 s.val m.val p.val k.val < 256 ∧ p3 s.val m.val p.val (q3 s.val m.val p.val k.val) = k.val := by decide +kernel
theorem al_p3 {s m p : Nat} (hs : s < 8) (hm : m < 8) (hp : p < 8) (h1 : s ≠ m) (h2 : s ≠ p) (h3 : m ≠ p) (q : Nat → Bool) : al (fun r => q (p3 s m p r)) = (List.range 8).all q := by
  rw [Bool.eq_iff_iff, al_iff, rg_all]
  constructor
  · intro h k hk
    obtain ⟨e1, e2⟩ := q3_dec ⟨s, hs⟩ ⟨m, hm⟩ ⟨p, hp⟩ (fun e => h1 (congrArg Fin.val e)) (fun e => h2 (congrArg Fin.val e)) (fun e => h3 (congrArg Fin.val e)) ⟨k, hk⟩
    have := h _ e1
    rw [show p3 s m p (q3 s m p k) = k from e2] at this
    exact this
  · intro h r _
    exact h _ (p3_bit s m p r).2.2.2
def cpT (f : Nat → Nat) (U : tT) : tT := (fun r => U.1 (f r), U.2.1.map (fun w r => w (f r)), fun n r => U.2.2 n (f r))
def cpC (f : Nat → Nat) (C : cT) : cT := (C.1, C.2.1, C.2.2.1, fun r => C.2.2.2.1 (f r), fun r => C.2.2.2.2 (f r))
def Ok8 (f : Nat → Nat) : Prop := ∀ q : Nat → Bool, al (fun r => q (f r)) = (List.range 8).all q
section PRM
variable {f g : Nat → Nat} {U : tT}
theorem shz_cp (hf : Ok8 f) (hg : Ok8 g) (w b : Nat → Bool) : shz (cpT f U) (fun r => w (f r)) (fun r => b (f r)) = shz (cpT g U) (fun r => w (g r)) (fun r => b (g r)) := (hf (fun r => !(w r && !U.1 r && !b r))).trans (hg _).symm
theorem qz_cp (hf : Ok8 f) (hg : Ok8 g) (b : Nat → Bool) : qz (cpT f U) (fun r => b (f r)) = qz (cpT g U) (fun r => b (g r)) := by
  have h1 : ∀ (f : Nat → Nat) (bes : Nat → Bool), (cpT f U).2.1.any (fun w => shz (cpT f U) w bes) = U.2.1.any (fun w => shz (cpT f U) (fun r => w (f r)) bes) := fun f bes => by
    show (U.2.1.map (fun w r => w (f r))).any _ = _
    rw [List.any_map]
    rfl
  unfold qz
  rw [h1, h1]
  have h2 : (fun w : Nat → Bool => shz (cpT f U) (fun r => w (f r)) (fun r => b (f r))) = (fun w => shz (cpT g U) (fun r => w (g r)) (fun r => b (g r))) := funext fun w => shz_cp hf hg w b
  have h3 : (fun n : Nat => shz (cpT f U) ((cpT f U).2.2 n) (fun r => b (f r))) = (fun n => shz (cpT g U) ((cpT g U).2.2 n) (fun r => b (g r))) := funext fun n => shz_cp hf hg (U.2.2 n) b
  rw [h2, h3]
theorem fz_cp (hf : Ok8 f) (hg : Ok8 g) (how who : Nat) (set : Nat → Bool) : fz (cpT f U) how (fun r => set (f r)) who = fz (cpT g U) how (fun r => set (g r)) who := by
  unfold fz
  rw [qz_cp hf hg set]
  have h0 : qz (cpT f U) (fun _ => false) = qz (cpT g U) (fun _ => false) := qz_cp hf hg (fun _ => false)
  have h1 : al (fun r => !(set (f r) && !(cpT f U).1 r)) = al (fun r => !(set (g r) && !(cpT g U).1 r)) := (hf (fun r => !(set r && !U.1 r))).trans (hg _).symm
  have h2 : al (fun r => !((cpT f U).2.2 who r && !(cpT f U).1 r && !set (f r))) = al (fun r => !((cpT g U).2.2 who r && !(cpT g U).1 r && !set (g r))) := (hf (fun r => !(U.2.2 who r && !U.1 r && !set r))).trans (hg _).symm
  rw [h0, h1, h2]
theorem fo_cp (hf : Ok8 f) (hg : Ok8 g) (C : cT) (ex : Bool) : fo (cpT f U) (cpC f C) ex = fo (cpT g U) (cpC g C) ex := by
  unfold fo
  have h1 : fz (cpT f U) (cpC f C).1 (cpC f C).2.2.2.1 (cpC f C).2.2.1 = fz (cpT g U) (cpC g C).1 (cpC g C).2.2.2.1 (cpC g C).2.2.1 := fz_cp hf hg C.1 C.2.2.1 C.2.2.2.1
  have h2 : qz (cpT f U) (cpC f C).2.2.2.2 = qz (cpT g U) (cpC g C).2.2.2.2 := qz_cp hf hg C.2.2.2.2
  rw [h1, h2]
  rfl
theorem tz_cp (how who : Nat) (set : Nat → Bool) (so : Bool) : tz (cpT f U) how (fun r => set (f r)) who so = cpT f (tz U how set who so) := by
  unfold tz
  by_cases e2 : how = 2
  · rw [if_pos e2, if_pos e2]
    rfl
  · rw [if_neg e2, if_neg e2]
    by_cases e0 : decide (how = 0) = so
    · rw [if_pos e0, if_pos e0]
      rfl
    · rw [if_neg e0, if_neg e0]
      unfold cpT
      rw [List.map_append]
      rfl
theorem tellz_cp (C : cT) (ex : Bool) : tellz (cpT f U) (cpC f C) ex = cpT f (tellz U C ex) := by
  unfold tellz
  have h1 : tz (cpT f U) (cpC f C).1 (cpC f C).2.2.2.1 (cpC f C).2.2.1 true = cpT f (tz U C.1 C.2.2.2.1 C.2.2.1 true) := tz_cp C.1 C.2.2.1 C.2.2.2.1 true
  have h2 : (cpC f C).2.1 = C.2.1 := rfl
  rw [h1, h2]
  cases e : (ex && C.2.1)
  · rfl
  · rw [if_pos rfl, if_pos rfl]
    exact tz_cp 1 0 C.2.2.2.2 true
end PRM
/-- a simple sentence of a mood and two kinds -/
def mS (m u v : Nat) : rT := (if m = 0 then 1 else if m = 1 then 2 else 3, decide (m = 3), 0, .var u, .var v)
theorem rS_mS {m u v n : Nat} (hu : u < 8) (hv : v < 8) (e : n = 64 * m + 8 * u + v) : rS n = mS m u v := by
  unfold rS mS
  rw [show n / 64 = m by omega, show n / 8 % 8 = u by omega, show n % 8 = v by omega]
theorem rS_at (n : Nat) : rS n = mS (n / 64) (n / 8 % 8) (n % 8) := rfl
theorem cl_cp {f : Nat → Nat} {m u v u0 v0 : Nat} (hu : ∀ r, (f r).testBit u0 = r.testBit u) (hv : ∀ r, (f r).testBit v0 = r.testBit v) : clR (mS m u v) = cpC f (clR (mS m u0 v0)) := by
  have e1 : ∀ r, evT (mS m u v).2.2.2.1 r = evT (mS m u0 v0).2.2.2.1 (f r) := fun r => (hu r).symm
  have e2 : ∀ r, evT (mS m u v).2.2.2.2 r = evT (mS m u0 v0).2.2.2.2 (f r) := fun r => (hv r).symm
  have a1 : ∀ r, avR (mS m u v) r = avR (mS m u0 v0) (f r) := fun r => by
    unfold avR; rw [e1]; rfl
  have s1 : ∀ r, seR (mS m u v) r = seR (mS m u0 v0) (f r) := fun r => by
    unfold seR; rw [a1, e2]; rfl
  have s2 : ∀ r, suR (mS m u v) r = suR (mS m u0 v0) (f r) := fun r => by
    unfold suR; rw [a1, e2]; rfl
  show (saR (mS m u v), hsR (mS m u v), (mS m u v).2.2.1, seR (mS m u v), suR (mS m u v)) = (saR (mS m u0 v0), hsR (mS m u0 v0), (mS m u0 v0).2.2.1, fun r => seR (mS m u0 v0) (f r), fun r => suR (mS m u0 v0) (f r))
  rw [show seR (mS m u v) = fun r => seR (mS m u0 v0) (f r) from funext s1, show suR (mS m u v) = fun r => suR (mS m u0 v0) (f r) from funext s2]
  rfl
theorem ccF_cp {f g : Nat → Nat} {U : tT} (hf : Ok8 f) (hg : Ok8 g) {ex : Bool} {s p s' p' u0 v0 : Nat} (hs : s < 8) (hp : p < 8) (hs' : s' < 8) (hp' : p' < 8) (f1 : ∀ r, (f r).testBit u0 = r.testBit s) (f2 : ∀ r, (f r).testBit v0 = r.testBit p) (g1 : ∀ r, (g r).testBit u0 = r.testBit s') (g2 : ∀ r, (g r).testBit v0 = r.testBit p') : ∀ j i, ccF (cpT f U) ex (8 * s + p) j i = ccF (cpT g U) ex (8 * s' + p') j i
  | 0, _ => rfl
  | j + 1, i => by
    show (if fN (cpT f U) ex (64 * i + (8 * s + p)) then nI i else _) = (if fN (cpT g U) ex (64 * i + (8 * s' + p')) then nI i else _)
    have h1 : fN (cpT f U) ex (64 * i + (8 * s + p)) = fN (cpT g U) ex (64 * i + (8 * s' + p')) := by
      unfold fN
      rw [rS_mS (m := i) hs hp (by omega), rS_mS (m := i) hs' hp' (by omega), cl_cp (m := i) f1 f2, cl_cp (m := i) g1 g2]
      exact fo_cp hf hg _ ex
    rw [h1, ccF_cp hf hg hs hp hs' hp' f1 f2 g1 g2 j (i + 1)]
/-- what two concludes: the kinds of subject, middle, predicate -/
def ccV (ex : Bool) (m1 m2 : Nat) (lM lm : Bool) (s m p : Nat) : Int32 := ccF (tellz (tellz tE (clR (mS m1 (if lM then m else p) (if lM then p else m))) ex) (clR (mS m2 (if lm then m else s) (if lm then s else m))) ex) ex (8 * s + p) 4 0
theorem ccV_cp {ex : Bool} {m1 m2 : Nat} {lM lm : Bool} {s m p s' m' p' : Nat} (hs : s < 8) (hm : m < 8) (hp : p < 8) (h1 : s ≠ m) (h2 : s ≠ p) (h3 : m ≠ p) (hs' : s' < 8) (hm' : m' < 8) (hp' : p' < 8) (h1' : s' ≠ m') (h2' : s' ≠ p') (h3' : m' ≠ p') : ccV ex m1 m2 lM lm s m p = ccV ex m1 m2 lM lm s' m' p' := by
  have key : ∀ (s m p : Nat), tellz (tellz tE (clR (mS m1 (if lM then m else p) (if lM then p else m))) ex) (clR (mS m2 (if lm then m else s) (if lm then s else m))) ex = cpT (p3 s m p) (tellz (tellz tE (clR (mS m1 (if lM then 1 else 2) (if lM then 2 else 1))) ex) (clR (mS m2 (if lm then 1 else 0) (if lm then 0 else 1))) ex) := by
    intro s m p
    have b0 : ∀ r, (p3 s m p r).testBit 0 = r.testBit s := fun r => (p3_bit s m p r).1
    have b1 : ∀ r, (p3 s m p r).testBit 1 = r.testBit m := fun r => (p3_bit s m p r).2.1
    have b2 : ∀ r, (p3 s m p r).testBit 2 = r.testBit p := fun r => (p3_bit s m p r).2.2.1
    have c1 : clR (mS m1 (if lM then m else p) (if lM then p else m)) = cpC (p3 s m p) (clR (mS m1 (if lM then 1 else 2) (if lM then 2 else 1))) := by
      cases lM
      · exact cl_cp b2 b1
      · exact cl_cp b1 b2
    have c2 : clR (mS m2 (if lm then m else s) (if lm then s else m)) = cpC (p3 s m p) (clR (mS m2 (if lm then 1 else 0) (if lm then 0 else 1))) := by
      cases lm
      · exact cl_cp b0 b1
      · exact cl_cp b1 b0
    rw [c1, c2, show tE = cpT (p3 s m p) tE from rfl, tellz_cp, tellz_cp]
    rfl
  unfold ccV
  rw [key s m p, key s' m' p']
  exact ccF_cp (al_p3 hs hm hp h1 h2 h3) (al_p3 hs' hm' hp' h1' h2' h3') hs hp hs' hp' (fun r => (p3_bit s m p r).1) (fun r => (p3_bit s m p r).2.2.1) (fun r => (p3_bit s' m' p' r).1) (fun r => (p3_bit s' m' p' r).2.2.1) 4 0
/-- the class's table -/
def tcV (ex : Bool) (k : Nat) : Int32 := ccV ex (k / 16) (k / 4 % 4) (decide (k % 4 = 0 ∨ k % 4 = 2)) (decide (k % 4 = 2 ∨ k % 4 = 3)) 0 1 2
theorem ccN_V {a b : Nat} (na : isNu a = true) (nb : isNu b = true) {ex : Bool} (h : ¬ fgN a b = -1) : ∃ f, fgN a b = nI f ∧ 1 ≤ f ∧ f ≤ 4 ∧ ccN a b ex = ccV ex (a / 64) (b / 64) (decide (f = 1 ∨ f = 3)) (decide (f = 3 ∨ f = 4)) (otN b (mdN a b)) (mdN a b) (otN a (mdN a b)) ∧ otN b (mdN a b) ≠ mdN a b ∧ otN a (mdN a b) ≠ mdN a b := by
  have na := isNu_ne na
  have nb := isNu_ne nb
  have key : ∀ f, fgN a b = nI f → (f = 1 ∧ a / 8 % 8 = b % 8 ∨ f = 3 ∧ a / 8 % 8 = b / 8 % 8 ∨ f = 2 ∧ a % 8 = b % 8 ∨ f = 4 ∧ a % 8 = b / 8 % 8) → ∃ f, fgN a b = nI f ∧ 1 ≤ f ∧ f ≤ 4 ∧ ccN a b ex = ccV ex (a / 64) (b / 64) (decide (f = 1 ∨ f = 3)) (decide (f = 3 ∨ f = 4)) (otN b (mdN a b)) (mdN a b) (otN a (mdN a b)) ∧ otN b (mdN a b) ≠ mdN a b ∧ otN a (mdN a b) ≠ mdN a b := by
    intro f e1 e2
    have ccE : ∀ (u v u' v' : Nat), u = a / 8 % 8 → v = a % 8 → u' = b / 8 % 8 → v' = b % 8 → ccN a b ex = ccF (tellz (tellz tE (clR (mS (a / 64) u v)) ex) (clR (mS (b / 64) u' v')) ex) ex (8 * otN b (mdN a b) + otN a (mdN a b)) 4 0 := by
      intro u v u' v' z1 z2 z3 z4
      subst z1; subst z2; subst z3; subst z4
      rfl
    rcases e2 with ⟨z, e3⟩ | ⟨z, e3⟩ | ⟨z, e3⟩ | ⟨z, e3⟩ <;> subst z
    · have md : mdN a b = a / 8 % 8 := by unfold mdN; exact if_pos (Or.inl e1)
      have oa : otN a (mdN a b) = a % 8 := by unfold otN; rw [if_pos md.symm]
      have ob : otN b (mdN a b) = b / 8 % 8 := by unfold otN; rw [if_neg (by rw [md]; omega)]
      exact ⟨1, e1, by decide, by decide, ccE (mdN a b) (otN a (mdN a b)) (otN b (mdN a b)) (mdN a b) md oa ob (by omega), by omega, by omega⟩
    · have md : mdN a b = a / 8 % 8 := by unfold mdN; exact if_pos (Or.inr e1)
      have oa : otN a (mdN a b) = a % 8 := by unfold otN; rw [if_pos md.symm]
      have ob : otN b (mdN a b) = b % 8 := by unfold otN; rw [if_pos (by rw [md]; omega)]
      exact ⟨3, e1, by decide, by decide, ccE (mdN a b) (otN a (mdN a b)) (mdN a b) (otN b (mdN a b)) md oa (by omega) ob, by omega, by omega⟩
    · have md : mdN a b = a % 8 := by unfold mdN; rw [if_neg (by rw [e1]; decide)]
      have oa : otN a (mdN a b) = a / 8 % 8 := by unfold otN; rw [if_neg (by rw [md]; omega)]
      have ob : otN b (mdN a b) = b / 8 % 8 := by unfold otN; rw [if_neg (by rw [md]; omega)]
      exact ⟨2, e1, by decide, by decide, ccE (otN a (mdN a b)) (mdN a b) (otN b (mdN a b)) (mdN a b) oa md ob (by omega), by omega, by omega⟩
    · have md : mdN a b = a % 8 := by unfold mdN; rw [if_neg (by rw [e1]; decide)]
      have oa : otN a (mdN a b) = a / 8 % 8 := by unfold otN; rw [if_neg (by rw [md]; omega)]
      have ob : otN b (mdN a b) = b % 8 := by unfold otN; rw [if_pos (by rw [md]; omega)]
      exact ⟨4, e1, by decide, by decide, ccE (otN a (mdN a b)) (mdN a b) (mdN a b) (otN b (mdN a b)) oa md (by omega) ob, by omega, by omega⟩
  unfold fgN fg at h
  by_cases c1 : a / 8 % 8 = b % 8
  · rw [if_pos c1] at h
    by_cases c2 : a % 8 = b / 8 % 8
    · rw [if_pos c2] at h; exact absurd rfl h
    · exact key 1 (by unfold fgN fg; rw [if_pos c1, if_neg c2]; rfl) (Or.inl ⟨rfl, c1⟩)
  · rw [if_neg c1] at h
    by_cases c3 : a / 8 % 8 = b / 8 % 8
    · rw [if_pos c3] at h
      by_cases c4 : a % 8 = b % 8
      · rw [if_pos c4] at h; exact absurd rfl h
      · exact key 3 (by unfold fgN fg; rw [if_neg c1, if_pos c3, if_neg c4]; rfl) (Or.inr (Or.inl ⟨rfl, c3⟩))
    · rw [if_neg c3] at h
      by_cases c5 : a % 8 = b % 8
      · exact key 2 (by unfold fgN fg; rw [if_neg c1, if_neg c3, if_pos c5]; rfl) (Or.inr (Or.inr (Or.inl ⟨rfl, c5⟩)))
      · rw [if_neg c5] at h
        by_cases c6 : a % 8 = b / 8 % 8
        · exact key 4 (by unfold fgN fg; rw [if_neg c1, if_neg c3, if_neg c5, if_pos c6]; rfl) (Or.inr (Or.inr (Or.inr ⟨rfl, c6⟩)))
        · rw [if_neg c6] at h; exact absurd rfl h
theorem ccN_tc {a b : Nat} (ha : a < 256) (hb : b < 256) (na : isNu a = true) (nb : isNu b = true) {ex : Bool} {f : Nat} (hf : fgN a b = nI f) (h1 : 1 ≤ f) (h4 : f ≤ 4) : ccN a b ex = tcV ex ((a / 64 * 4 + b / 64) * 4 + (f - 1)) := by
  have h : ¬ fgN a b = -1 := by rw [hf, nI_neg1 (by omega)]; exact id
  have h5 := ot_ne na nb h
  obtain ⟨f', e1, e2, e3, e4, e5, e6⟩ := ccN_V na nb (ex := ex) h
  have ef : f' = f := by
    have := hf.symm.trans e1
    rw [nk_eq (by omega) (by omega)] at this
    exact this.symm
  subst ef
  rw [e4, ccV_cp (otN_lt _ _) (mdN_lt _ _) (otN_lt _ _) e5 h5 (Ne.symm e6) (s' := 0) (m' := 1) (p' := 2) (by decide) (by decide) (by decide) (by decide) (by decide) (by decide)]
  unfold tcV
  have z1 : a / 64 < 4 := by omega
  have z2 : b / 64 < 4 := by omega
  rw [show ((a / 64 * 4 + b / 64) * 4 + (f' - 1)) / 16 = a / 64 by omega, show ((a / 64 * 4 + b / 64) * 4 + (f' - 1)) / 4 % 4 = b / 64 by omega, show ((a / 64 * 4 + b / 64) * 4 + (f' - 1)) % 4 = f' - 1 by omega]
  congr 1
  · exact decide_eq_decide.mpr (by omega)
  · exact decide_eq_decide.mpr (by omega)
theorem tb_dec : ∀ k : Fin 64, fgN (tbA k.val) (tbB k.val) = nI (k.val / 16 + 1) := by decide +kernel
theorem tbV_tc {k : Nat} (hk : k < 64) (ex : Bool) : tbV ex k = tcV ex ((k / 4 % 4 * 4 + k % 4) * 4 + k / 16) := by
  unfold tbV
  rw [ccN_tc (tbA_ok k).1 (tbB_ok k).1 (tbA_ok k).2 (tbB_ok k).2 (tb_dec ⟨k, hk⟩) (by omega) (show k / 16 + 1 ≤ 4 by omega)]
  congr 1
  have e1 : tbA k / 64 = k / 4 % 4 := by unfold tbA; split <;> omega
  have e2 : tbB k / 64 = k % 4 := by unfold tbB; split <;> omega
  rw [e1, e2]
  rfl
/-- what is concluded by number, by the class's table -/
theorem cdd_tc {a b : Nat} (ha : a < 256) (hb : b < 256) {ex : Bool} {f : Nat} (hf : fgN a b = nI f) (h1 : 1 ≤ f) (h4 : f ≤ 4) : cdd ex a b = if tcV ex ((a / 64 * 4 + b / 64) * 4 + (f - 1)) = -1 then -1 else nI (64 * (tcV ex ((a / 64 * 4 + b / 64) * 4 + (f - 1))).toNatClampNeg + ccK a b) := by
  have h : ¬ fgN a b = -1 := by rw [hf, nI_neg1 (by omega)]; exact id
  have e0 : (fgN a b).toNatClampNeg = f := by rw [hf]; exact nk_cl (by omega)
  have e1 : tbV ex (tbI a b) = tcV ex ((a / 64 * 4 + b / 64) * 4 + (f - 1)) := by
    unfold tbI
    rw [e0, tbV_tc (by omega)]
    congr 1
    omega
  unfold cdd
  rw [if_neg h, e1]
theorem tcV_or (ex : Bool) (k : Nat) : tcV ex k = -1 ∨ ∃ i, i < 4 ∧ tcV ex k = nI i := by
  unfold tcV ccV
  rcases ccF_or (tellz (tellz tE (clR (mS (k / 16) (if decide (k % 4 = 0 ∨ k % 4 = 2) then 1 else 2) (if decide (k % 4 = 0 ∨ k % 4 = 2) then 2 else 1))) ex) (clR (mS (k / 4 % 4) (if decide (k % 4 = 2 ∨ k % 4 = 3) then 1 else 0) (if decide (k % 4 = 2 ∨ k % 4 = 3) then 0 else 1))) ex) ex (8 * 0 + 2) 4 0 with z | ⟨i, z1, z2⟩
  · exact Or.inl z
  · exact Or.inr ⟨i, by omega, z2⟩
