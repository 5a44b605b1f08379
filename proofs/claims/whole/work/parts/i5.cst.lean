/-! ===== the class's whole state; a call that changes it ===== -/
def SC (h : am_H) (F : Nat → Nat → Int32) (V : Nat → Nat → Value) (A : aT) (e : am_H) (q1 q2 : Nat) : Prop := HB h ∧ HP h ∧ HS h ∧ 108 ≤ h.2.1 ∧ byT (aTp A).2 (aTp A).1 ∧ Hk e h ∧ e.2 = h.2 ∧ CB e F V A ∧ CSf F (aD A) ∧ CQf e h F V (aD A) q1 ∧ SYf F ∧ DVf F (aD A) ∧ DNf e h F V q2 ∧ q1 ≠ q2
def Hj (h h' : am_H) : Prop := (∀ x, 108 ≤ x → x < h.2.1 → h.1 x ≠ jk → h'.1 x = h.1 x) ∧ h.2.1 ≤ h'.2.1
theorem jk_ne1 {l : List Int32} : aI 1 l ≠ jk := fun e => by
  unfold jk at e
  injection e with e
  injection e with a b
  exact absurd a (by decide)
theorem jk_neJ {l : List Int64} : aJ l ≠ jk := fun e => by
  unfold jk at e
  injection e with e
  injection e with a b
  exact absurd a (by decide)
theorem jk_neO {c : Nat} {l : List Value} : aO c l ≠ jk := fun e => by
  unfold jk at e
  cases e
theorem SR.hj {h h' : am_H} {p : Nat} {R : rT} (hs : SR h p R) (k : Hj h h') : SR h' p R := by
  obtain ⟨hw, a, b, c, fs, fb, h1, h2, h3, h4, h5, h6, h7, h8, h9, h10⟩ := hs
  have l := k.2
  refine ⟨hw, a, b, c, fs, fb, ⟨h1.1, by omega⟩, ⟨h2.1, by omega⟩, ⟨h3.1, by omega⟩, ⟨h4.1, by omega⟩, ?_, ?_, h7, ?_, h9, ?_⟩
  · rw [k.1 p h1.1 h1.2 (by rw [h5]; exact jk_neO)]; exact h5
  · rw [k.1 a h2.1 h2.2 (by rw [h6]; exact jk_neJ)]; exact h6
  · rw [k.1 b h3.1 h3.2 (by rw [h8]; exact jk_neJ)]; exact h8
  · rw [k.1 c h4.1 h4.2 (by rw [h10]; exact jk_ne1)]; exact h10
theorem vS.hj {h h' : am_H} {v : Value} (hs : vS h v) (k : Hj h h') : vS h' v := by
  rcases hs with e | ⟨p, R, e, hs⟩
  · exact Or.inl e
  · exact Or.inr ⟨p, R, e, hs.hj k⟩
theorem DK.hj {h h' : am_H} {F : Nat → Nat → Int32} {V : Nat → Nat → Value} {δ : Nat} {X : kT} (hD : DK h F V δ X) (k : Hj h h') : DK h' F V δ X := by
  obtain ⟨⟨d1, d2, d3⟩, d4, d5, ⟨d6, d7, d8⟩, d9, d10⟩ := hD
  refine ⟨⟨d1, d2, fun i hi => ?_⟩, ?_, d5, ⟨d6, d7, fun i hi => ?_⟩, fun i hi => ⟨(d9 i hi).1.hj k, (d9 i hi).2.hj k⟩, d10⟩
  · obtain ⟨p, e, hs⟩ := d3 i hi
    exact ⟨p, e, hs.hj k⟩
  · split at d4
    · rename_i e
      rw [if_pos e]
      obtain ⟨p, e, hs⟩ := d4
      exact ⟨p, e, hs.hj k⟩
    · rename_i e
      rw [if_neg e]
      exact d4
  · obtain ⟨⟨p, e, hs⟩, g⟩ := d8 i hi
    exact ⟨⟨p, e, hs.hj k⟩, g⟩
theorem CB.hj {h h' : am_H} {F : Nat → Nat → Int32} {V : Nat → Nat → Value} {A : aT} (hA : CB h F V A) (k : Hj h h') : CB h' F V A := by
  obtain ⟨h1, h2, h3⟩ := hA
  exact ⟨h1.hj k, fun i hi => ⟨(h2 i hi).1, (h2 i hi).2.1, fun X hX => ((h2 i hi).2.2 X hX).hj k⟩, h3⟩
def fl (q : Nat) (E : am_E) (h : am_H) : am_H := (fun x => if 108 ≤ q ∧ x = q then E else h.1 x, h.2)
theorem fl_lo {q : Nat} (hq : q < 108) (E : am_E) (h : am_H) : fl q E h = h := Prod.ext (funext fun x => if_neg (fun z => by omega)) rfl
theorem fl_hi {q : Nat} (hq : 108 ≤ q) (E : am_E) (h : am_H) : fl q E h = am_set h q E := by
  refine Prod.ext (funext fun x => ?_) rfl
  show (if 108 ≤ q ∧ x = q then E else h.1 x) = if x = q then E else h.1 x
  by_cases z : x = q
  · rw [if_pos ⟨hq, z⟩, if_pos z]
  · rw [if_neg (fun u => z u.2), if_neg z]
theorem fl_at {q : Nat} {E : am_E} {h : am_H} (hq : 108 ≤ q) : (fl q E h).1 q = E := if_pos ⟨hq, rfl⟩
theorem fl_ne {q x : Nat} {E : am_E} {h : am_H} (z : x < 108 ∨ x ≠ q) : (fl q E h).1 x = h.1 x := if_neg (fun u => by omega)
theorem fr1 {d j : Nat} {args : List Value} {h : am_H} {F : Nat → Nat → Int32} {J : Nat → Nat → Int64} {V : Nat → Nat → Value} {P : Option Value → am_H → (Nat → Nat → Int32) → (Nat → Nat → Int64) → (Nat → Nat → Value) → Prop} {q : Nat} (hq : q < 108 ∨ q < h.2.1) (H : am_cl d j args (ov (fl q jk h) F J V) (fun r H' => ∃ g' F' J' V', H' = ov g' F' J' V' ∧ P r g' F' J' V')) : am_cl d j args (ov h F J V) (fun r H' => ∃ g' F' J' V', H' = ov g' F' J' V' ∧ ∃ g0, g' = fl q (h.1 q) g0 ∧ (q < 108 ∨ g0.1 q = jk ∧ q < g0.2.1) ∧ P r g0 F' J' V') := by
  by_cases z : q < 108
  · rw [fl_lo z] at H
    refine am_call_mono am_pr d _ _ _ _ _ (fun r H' => ?_) H
    rintro ⟨g', F', J', V', e, p⟩
    exact ⟨g', F', J', V', e, g', (fl_lo z _ _).symm, Or.inl z, p⟩
  · have z : 108 ≤ q := by omega
    have hh : q < h.2.1 := by omega
    rw [fl_hi z] at H
    have o : okq q (ov (am_set h q jk) F J V) := ⟨by rw [ov_hi (by omega)]; exact am_set_eq _ _ _, hh⟩
    have H := am_cl_fr (E := h.1 q) o H
    rw [ov_setH (by omega), am_set_set, am_set_self h rfl] at H
    refine am_call_mono am_pr d _ _ _ _ _ (fun r H' => ?_) H
    rintro ⟨H1, o1, ⟨g', F', J', V', e, p⟩, e1⟩
    subst e
    refine ⟨fl q (h.1 q) g', F', J', V', ?_, g', rfl, Or.inr ⟨?_, o1.2⟩, p⟩
    · rw [e1, ov_setH (by omega), fl_hi z]
    · have := o1.1
      rwa [ov_hi (by omega)] at this
theorem cx_ne {b q : Bool} {F F' : Nat → Nat → Int32} (c : Cx b q F F') {a : Nat} (ha : 55 ≤ a ∧ a ≤ 79 ∨ 82 ≤ a) (h1 : a ≠ 67) (h2 : a ≠ 71) (h3 : a ≠ 61) (h4 : a ≠ 64) (h5 : a ≠ 75) : F' a = F a := funext fun i => by
  rw [c a ha h1 h2 i, if_neg]
  rintro ⟨_, ⟨z | z, _⟩ | ⟨z, _⟩⟩
  · exact h3 z
  · exact h5 z
  · exact h4 z
theorem cx_t {q : Bool} {F F' : Nat → Nat → Int32} (c : Cx true q F F') : F' 61 0 = 0 ∧ F' 75 0 = 0 := ⟨by rw [c 61 (by decide) (by decide) (by decide) 0, if_pos ⟨rfl, Or.inl ⟨Or.inl rfl, rfl⟩⟩], by rw [c 75 (by decide) (by decide) (by decide) 0, if_pos ⟨rfl, Or.inl ⟨Or.inr rfl, rfl⟩⟩]⟩
theorem cx_f {q : Bool} {F F' : Nat → Nat → Int32} (c : Cx false q F F') : F' 61 = F 61 ∧ F' 75 = F 75 := by
  refine ⟨funext fun i => ?_, funext fun i => ?_⟩
  · rw [c 61 (by decide) (by decide) (by decide) i, if_neg]
    rintro ⟨_, ⟨_, z⟩ | ⟨z, _⟩⟩
    · cases z
    · exact absurd z (by decide)
  · rw [c 75 (by decide) (by decide) (by decide) i, if_neg]
    rintro ⟨_, ⟨_, z⟩ | ⟨z, _⟩⟩
    · cases z
    · exact absurd z (by decide)
theorem cx_64 {b q : Bool} {F F' : Nat → Nat → Int32} (c : Cx b q F F') (z : (b || q) = true) : F' 64 0 = 0 := by rw [c 64 (by decide) (by decide) (by decide) 0, if_pos ⟨rfl, Or.inr ⟨rfl, z⟩⟩]
theorem cx_64f {F F' : Nat → Nat → Int32} (c : Cx false false F F') : F' 64 = F 64 := funext fun i => by
  rw [c 64 (by decide) (by decide) (by decide) i, if_neg]
  rintro ⟨_, ⟨_, z⟩ | ⟨_, z⟩⟩ <;> cases z
theorem Mq.b {e h : am_H} {F : Nat → Nat → Int32} {c n0 q L : Nat} {g : Nat → Int32} (m : Mq e h F c n0 q L g) (hc : c < 108) : q < 108 ∨ q < h.2.1 ∧ e.1 q = aO 0 [] := by
  rcases m.2 with z | z
  · exact Or.inl (by omega)
  · exact Or.inr ⟨z.2.1, z.2.2.1⟩
section SCO
variable {d : Nat} {h : am_H} {F : Nat → Nat → Int32} {J : Nat → Nat → Int64} {V : Nat → Nat → Value} {Q : am_Q}
theorem SC.op {A A' : aT} {e : am_H} {q1 q2 : Nat} (S : SC h F V A e q1 q2) {j : Nat} {args : List Value} {v : Int32} {b q : Bool} (H : ∀ g, HB g → HP g → HS g → 108 ≤ g.2.1 → CB g F V A → ∀ Q' : am_Q, (∀ g' F' J' V', Nw g g' → Cx b q F F' → Vz V V' → CB g' F' V' A' → Q' (some (.int v)) (ov g' F' J' V')) → am_cl d j args (ov g F J V) Q') (hby : byT (aTp A').2 (aTp A').1) (hD : b = false → Dsm (aD A) (aD A')) (hE : (b || q) = false → aD A' = aD A) (K : ∀ h' F' J' V' e', SC h' F' V' A' e' q1 q2 → (∀ x, x < 108 → h'.1 x = h.1 x) → h'.2.1 ≤ h.2.1 + 4 → h'.2.2 ≤ h.2.2 + 528 → (∀ a, 82 ≤ a → F' a = F a) → Q (some (.int v)) (ov h' F' J' V')) : am_cl d j args (ov h F J V) Q := by
  obtain ⟨hb, hp, hs, hh, _, ke, e2, cb, cs, ⟨v1, L1, g1, mq1, cq⟩, sy, dv, ⟨v2, L2, g2, mq2⟩, ne⟩ := S
  have m1 := mq1.b (by decide)
  have m2 := mq2.b (by decide)
  have e21 : e.2.1 = h.2.1 := by rw [e2]
  have lo : ∀ x, x < 108 → (fl q2 jk (fl q1 jk h)).1 x = h.1 x := fun x hx => by rw [fl_ne (Or.inl hx), fl_ne (Or.inl hx)]
  have k2 : Hk e (fl q2 jk (fl q1 jk h)) := ⟨fun x x1 x2 x3 => by
    have n1 : x ≠ q1 := fun z => by
      rcases m1 with w | w
      · omega
      · exact x3 (by rw [z]; exact w.2)
    have n2 : x ≠ q2 := fun z => by
      rcases m2 with w | w
      · omega
      · exact x3 (by rw [z]; exact w.2)
    rw [fl_ne (Or.inr n2), fl_ne (Or.inr n1)]
    exact ke.1 x x1 x2 x3, by show e.2.1 ≤ h.2.1; omega⟩
  have run := H (fl q2 jk (fl q1 jk h)) ((lo 2 (by decide)).trans hb) ((lo 1 (by decide)).trans hp) (fun a a1 a2 => by rw [lo a (by omega)]; exact hs a a1 a2) hh (cb.hk k2) (fun r H' => ∃ g' F' J' V', H' = ov g' F' J' V' ∧ (r = some (.int v) ∧ Nw (fl q2 jk (fl q1 jk h)) g' ∧ Cx b q F F' ∧ Vz V V' ∧ CB g' F' V' A')) (fun g' F' J' V' a1 a2 a3 a4 => ⟨g', F', J', V', rfl, rfl, a1, a2, a3, a4⟩)
  have r1 := fr1 (h := fl q1 jk h) (q := q2) (P := fun r g' F' _ V' => r = some (.int v) ∧ Nw (fl q2 jk (fl q1 jk h)) g' ∧ Cx b q F F' ∧ Vz V V' ∧ CB g' F' V' A') (by rcases m2 with w | w; exact Or.inl w; exact Or.inr w.1) run
  have r2 := fr1 (h := h) (q := q1) (P := fun r g' F' _ V' => ∃ g0, g' = fl q2 ((fl q1 jk h).1 q2) g0 ∧ (q2 < 108 ∨ g0.1 q2 = jk ∧ q2 < g0.2.1) ∧ (r = some (.int v) ∧ Nw (fl q2 jk (fl q1 jk h)) g0 ∧ Cx b q F F' ∧ Vz V V' ∧ CB g0 F' V' A')) (by rcases m1 with w | w; exact Or.inl w; exact Or.inr w.1) r1
  refine am_call_mono am_pr d _ _ _ _ _ (fun r H' => ?_) r2
  rintro ⟨g', F', J', V', eH, gx, eg', o1, g0, egx, o2, er, nw, cx, vz, cb'⟩
  subst er
  subst egx
  subst eg'
  subst eH
  have nb : h.2.1 ≤ g0.2.1 := nw.2.1
  have j2 : 108 ≤ q2 → g0.1 q2 = jk := fun z => by
    rcases o2 with w | w
    · omega
    · exact w.1
  have j1 : 108 ≤ q1 → g0.1 q1 = jk := fun z => by
    rcases o1 with w | w
    · omega
    · have := w.1
      rwa [fl_ne (Or.inr ne)] at this
  have lo' : ∀ x, x < 108 → (fl q1 (h.1 q1) (fl q2 ((fl q1 jk h).1 q2) g0)).1 x = h.1 x := fun x hx => by
    rw [fl_ne (Or.inl hx), fl_ne (Or.inl hx), nw.1 x (by show x < h.2.1; omega), lo x hx]
  have f62 : F' 62 = F 62 := cx_ne cx (by decide) (by decide) (by decide) (by decide) (by decide) (by decide)
  have f59 : F' 59 = F 59 := cx_ne cx (by decide) (by decide) (by decide) (by decide) (by decide) (by decide)
  have f63 : F' 63 = F 63 := cx_ne cx (by decide) (by decide) (by decide) (by decide) (by decide) (by decide)
  refine K _ F' J' V' (fl q1 (aO 0 []) (fl q2 (aO 0 []) g0)) ⟨(lo' 2 (by decide)).trans hb, (lo' 1 (by decide)).trans hp, fun a a1 a2 => by rw [lo' a (by omega)]; exact hs a a1 a2, by show 108 ≤ g0.2.1; omega, hby, ?_, rfl, ?_, ?_, ?_, ?_, ?_, ?_, ne⟩ lo' nw.2.2.1 nw.2.2.2 (fun a ha => cx_ne cx (Or.inr ha) (by omega) (by omega) (by omega) (by omega) (by omega))
  · refine ⟨fun x x1 x2 x3 => ?_, Nat.le_refl _⟩
    have n1 : x ≠ q1 := fun z => x3 (by rw [z]; exact fl_at (by omega))
    have n2 : x ≠ q2 := fun z => x3 (by rw [fl_ne (Or.inr n1), z]; exact fl_at (by omega))
    rw [fl_ne (Or.inr n1), fl_ne (Or.inr n2), fl_ne (Or.inr n1), fl_ne (Or.inr n2)]
  · refine cb'.hj ⟨fun x x1 x2 x3 => ?_, Nat.le_refl _⟩
    have n1 : x ≠ q1 := fun z => x3 (by rw [z]; exact j1 (by omega))
    have n2 : x ≠ q2 := fun z => x3 (by rw [z]; exact j2 (by omega))
    rw [fl_ne (Or.inr n1), fl_ne (Or.inr n2)]
  · cases hbq : (b || q)
    · have b0 : b = false := by cases b; rfl; cases hbq
      have q0 : q = false := by cases q; rfl; rw [Bool.or_true] at hbq; cases hbq
      rw [b0, q0] at cx
      rw [hE hbq]
      unfold CSf
      rw [cx_64f cx]
      exact cs
    · exact Or.inl (cx_64 cx hbq)
  · refine ⟨by rw [vz 61 (by decide)]; exact v1, L1, g1, ⟨mq1.1, ?_⟩, ?_⟩
    · rcases mq1.2 with w | w
      · exact Or.inl ⟨w.1, w.2.1, fun i hi => by rw [f62]; exact w.2.2 i hi⟩
      · exact Or.inr ⟨w.1, by show q1 < g0.2.1; omega, fl_at w.1, (fl_at w.1).trans w.2.2.2⟩
    · cases b
      · obtain ⟨c1, c2⟩ := cx_f cx
        rw [c1]
        rcases cq with w | w
        · exact Or.inl w
        · exact Or.inr ⟨w.1, w.2.cg (hD rfl) c1 f63⟩
      · exact Or.inl (cx_t cx).1
  · unfold SYf
    rw [cx_ne cx (a := 65) (by decide) (by decide) (by decide) (by decide) (by decide) (by decide), cx_ne cx (a := 66) (by decide) (by decide) (by decide) (by decide) (by decide) (by decide)]
    exact sy
  · cases b
    · obtain ⟨c1, c2⟩ := cx_f cx
      have sm := hD rfl
      unfold DVf DvD
      rw [c2, rdD_cg sm cb.1.1.2.1, sm.2.1, cx_ne cx (a := 76) (by decide) (by decide) (by decide) (by decide) (by decide) (by decide), cx_ne cx (a := 77) (by decide) (by decide) (by decide) (by decide) (by decide) (by decide), cx_ne cx (a := 78) (by decide) (by decide) (by decide) (by decide) (by decide) (by decide)]
      exact dv
    · exact Or.inl (cx_t cx).2
  · refine ⟨by rw [vz 55 (by decide)]; exact v2, L2, g2, ⟨mq2.1, ?_⟩⟩
    rcases mq2.2 with w | w
    · exact Or.inl ⟨w.1, w.2.1, fun i hi => by rw [f59]; exact w.2.2 i hi⟩
    · refine Or.inr ⟨w.1, by show q2 < g0.2.1; omega, ?_, ?_⟩
      · rw [fl_ne (Or.inr ne.symm)]; exact fl_at w.1
      · rw [fl_ne (Or.inr ne.symm), fl_at w.1, fl_ne (Or.inr ne.symm)]; exact w.2.2.2
end SCO
