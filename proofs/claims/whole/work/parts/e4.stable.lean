/-! ===== sentences and desks stay when another cell changes ===== -/
def Hk (h h' : am_H) : Prop := (∀ x, 108 ≤ x → x < h.2.1 → h.1 x ≠ aO 0 [] → h'.1 x = h.1 x) ∧ h.2.1 ≤ h'.2.1
theorem SR.hk {h h' : am_H} {p : Nat} {R : rT} (hs : SR h p R) (k : Hk h h') : SR h' p R := by
  obtain ⟨hw, a, b, c, fs, fb, h1, h2, h3, h4, h5, h6, h7, h8, h9, h10⟩ := hs
  have l := k.2
  refine ⟨hw, a, b, c, fs, fb, ⟨h1.1, by omega⟩, ⟨h2.1, by omega⟩, ⟨h3.1, by omega⟩, ⟨h4.1, by omega⟩, ?_, ?_, h7, ?_, h9, ?_⟩
  · rw [k.1 p h1.1 h1.2 (by rw [h5]; intro e; cases e)]; exact h5
  · rw [k.1 a h2.1 h2.2 (by rw [h6]; intro e; cases e)]; exact h6
  · rw [k.1 b h3.1 h3.2 (by rw [h8]; intro e; cases e)]; exact h8
  · rw [k.1 c h4.1 h4.2 (by rw [h10]; intro e; cases e)]; exact h10
theorem vS.hk {h h' : am_H} {v : Value} (hs : vS h v) (k : Hk h h') : vS h' v := by
  rcases hs with e | ⟨p, R, e, hs⟩
  · exact Or.inl e
  · exact Or.inr ⟨p, R, e, hs.hk k⟩
theorem DK.hk {h h' : am_H} {F : Nat → Nat → Int32} {V : Nat → Nat → Value} {δ : Nat} {X : kT} (hD : DK h F V δ X) (k : Hk h h') : DK h' F V δ X := by
  obtain ⟨⟨d1, d2, d3⟩, d4, d5, ⟨d6, d7, d8⟩, d9, d10⟩ := hD
  refine ⟨⟨d1, d2, fun i hi => ?_⟩, ?_, d5, ⟨d6, d7, fun i hi => ?_⟩, fun i hi => ⟨(d9 i hi).1.hk k, (d9 i hi).2.hk k⟩, d10⟩
  · obtain ⟨p, e, hs⟩ := d3 i hi
    exact ⟨p, e, hs.hk k⟩
  · split at d4
    · rename_i e
      rw [if_pos e]
      obtain ⟨p, e, hs⟩ := d4
      exact ⟨p, e, hs.hk k⟩
    · rename_i e
      rw [if_neg e]
      exact d4
  · obtain ⟨⟨p, e, hs⟩, g⟩ := d8 i hi
    exact ⟨⟨p, e, hs.hk k⟩, g⟩
theorem CB.hk {h h' : am_H} {F : Nat → Nat → Int32} {V : Nat → Nat → Value} {A : aT} (hA : CB h F V A) (k : Hk h h') : CB h' F V A := by
  obtain ⟨h1, h2, h3⟩ := hA
  exact ⟨h1.hk k, fun i hi => ⟨(h2 i hi).1, (h2 i hi).2.1, fun X hX => ((h2 i hi).2.2 X hX).hk k⟩, h3⟩
/-- a junk cell may be filled -/
theorem Hk.set {h : am_H} {x : Nat} (hx : h.1 x = aO 0 []) (e : am_E) : Hk h (am_set h x e) := ⟨fun y _ _ hy => by
  rw [am_set1, if_neg (fun z => by subst z; exact hy hx)], Nat.le_refl _⟩
/-- a new cell -/
theorem Hk.new {h : am_H} (e : am_E) (n : Nat) : Hk h (am_new h e n) := ⟨fun y _ h2 _ => if_neg (show ¬ y = h.2.1 by omega), Nat.le_succ _⟩
