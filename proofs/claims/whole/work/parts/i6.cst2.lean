/-! ===== the class's whole state behind a question ===== -/
theorem CB.kp {h : am_H} {F F' : Nat → Nat → Int32} {V V' : Nat → Nat → Value} {A : aT} (hA : CB h F V A) (e : ∀ a, a < 47 ∨ a = 80 ∨ a = 81 → F' a = F a) (v : ∀ a, a < 47 → V' a = V a) : CB h F' V' A := by
  obtain ⟨h1, h2, h3, h4, h5, h6, h7⟩ := hA
  refine ⟨h1.cg (fun i _ => by rw [e 34 (by decide)]) (e 37 (by decide)) (v 34 (by decide)) (v 35 (by decide)) (v 36 (by decide)), h2.cg (fun a q1 q2 => e a (by omega)) (fun a q1 q2 => v a (by omega)), ?_, ?_, ?_, ?_, ?_⟩
  · rw [e 24 (by decide), e 25 (by decide)]; exact h3
  · rw [e 24 (by decide)]; exact h4
  · rw [e 23 (by decide)]; exact h5
  · rw [e 81 (by decide)]; exact h6
  · rw [e 23 (by decide), e 80 (by decide)]; exact h7
theorem CSf.cg {F F' : Nat → Nat → Int32} {D : dT} (h : CSf F D) (e : F' 64 = F 64) : CSf F' D := by
  unfold CSf
  rw [e]; exact h
theorem SYf.cg {F F' : Nat → Nat → Int32} (h : SYf F) (e : F' 65 = F 65) (e1 : F' 66 = F 66) : SYf F' := by
  unfold SYf
  rw [e, e1]; exact h
theorem DVf.cg {F F' : Nat → Nat → Int32} {D : dT} (h : DVf F D) (e : ∀ a, 75 ≤ a → a ≤ 78 → F' a = F a) : DVf F' D := by
  unfold DVf DvD
  rw [e 75 (by decide) (by decide), e 76 (by decide) (by decide), e 77 (by decide) (by decide), e 78 (by decide) (by decide)]; exact h
theorem Mq.cg' {e h : am_H} {F F' : Nat → Nat → Int32} {c n0 q L : Nat} {g : Nat → Int32} (m : Mq e h F c n0 q L g) (ef : F' c = F c) : Mq e h F' c n0 q L g := by
  unfold Mq
  rw [ef]; exact m
theorem SC.kp {h : am_H} {F F' : Nat → Nat → Int32} {V : Nat → Nat → Value} {A : aT} {e : am_H} {q1 q2 : Nat} (S : SC h F V A e q1 q2) (c : ∀ x, x ≠ 47 → x ≠ 51 → x ≠ 67 → x ≠ 71 → x ≠ 64 → x ≠ 65 → x ≠ 66 → x ≠ 75 → x ≠ 76 → x ≠ 77 → x ≠ 78 → x ≠ 79 → x < 82 → F' x = F x) (cs : CSf F' (aD A)) (sy : SYf F') (dv : DVf F' (aD A)) : SC h F' V A e q1 q2 := by
  obtain ⟨hb, hp, hs, hh, hy, ke, e2, cb, _, ⟨v1, L1, g1, mq1, cq⟩, _, _, ⟨v2, L2, g2, mq2⟩, ne⟩ := S
  have c' : ∀ x, x < 47 ∨ 55 ≤ x ∧ x < 64 ∨ x = 80 ∨ x = 81 → F' x = F x := fun x hx => c x (by omega) (by omega) (by omega) (by omega) (by omega) (by omega) (by omega) (by omega) (by omega) (by omega) (by omega) (by omega) (by omega)
  refine ⟨hb, hp, hs, hh, hy, ke, e2, cb.kp (fun a ha => c' a (by omega)) (fun _ _ => rfl), cs, ⟨v1, L1, g1, mq1.cg' (c' 62 (by decide)), ?_⟩, sy, dv, ⟨v2, L2, g2, mq2.cg' (c' 59 (by decide))⟩, ne⟩
  rw [c' 61 (by decide)]
  rcases cq with w | w
  · exact Or.inl w
  · exact Or.inr ⟨w.1, w.2.cg Dsm.rf (c' 61 (by decide)) (c' 63 (by decide))⟩
theorem SC.lo {h : am_H} {F F' : Nat → Nat → Int32} {V : Nat → Nat → Value} {A : aT} {e : am_H} {q1 q2 : Nat} (S : SC h F V A e q1 q2) (c : ∀ x, x < 82 → F' x = F x) : SC h F' V A e q1 q2 :=
  S.kp (fun x _ _ _ _ _ _ _ _ _ _ _ _ hx => c x hx) (S.2.2.2.2.2.2.2.2.1.cg (c 64 (by decide))) (S.2.2.2.2.2.2.2.2.2.2.1.cg (c 65 (by decide)) (c 66 (by decide))) (S.2.2.2.2.2.2.2.2.2.2.2.1.cg (fun a a1 a2 => c a (by omega)))
theorem SC.cf {h : am_H} {F F' : Nat → Nat → Int32} {V : Nat → Nat → Value} {A : aT} {e : am_H} {q1 q2 : Nat} (S : SC h F V A e q1 q2) (c : Cf F F') : SC h F' V A e q1 q2 :=
  S.kp (fun x h1 h2 h3 h4 _ _ _ _ _ _ _ _ hx => c x h1 h2 h3 h4) (S.2.2.2.2.2.2.2.2.1.cg (c 64 (by decide) (by decide) (by decide) (by decide))) (S.2.2.2.2.2.2.2.2.2.2.1.cg (c 65 (by decide) (by decide) (by decide) (by decide)) (c 66 (by decide) (by decide) (by decide) (by decide))) (S.2.2.2.2.2.2.2.2.2.2.2.1.cg (fun a a1 a2 => c a (by omega) (by omega) (by omega) (by omega)))
theorem SC.cg {h : am_H} {F F' : Nat → Nat → Int32} {V : Nat → Nat → Value} {A : aT} {e : am_H} {q1 q2 : Nat} (S : SC h F V A e q1 q2) (c : Cg F F') (cs : CSf F' (aD A)) : SC h F' V A e q1 q2 :=
  S.kp (fun x h1 h2 h3 h4 h5 _ _ _ _ _ _ _ hx => c x h1 h2 h3 h4 h5) cs (S.2.2.2.2.2.2.2.2.2.2.1.cg (c 65 (by decide) (by decide) (by decide) (by decide) (by decide)) (c 66 (by decide) (by decide) (by decide) (by decide) (by decide))) (S.2.2.2.2.2.2.2.2.2.2.2.1.cg (fun a a1 a2 => c a (by omega) (by omega) (by omega) (by omega) (by omega)))
theorem SC.cp {h : am_H} {F F' : Nat → Nat → Int32} {V : Nat → Nat → Value} {A : aT} {e : am_H} {q1 q2 : Nat} (S : SC h F V A e q1 q2) (c : Cp F F') (sy : SYf F') : SC h F' V A e q1 q2 :=
  S.kp (fun x h1 h2 h3 h4 _ h5 h6 _ _ _ _ _ hx => c x h1 h2 h3 h4 h5 h6) (S.2.2.2.2.2.2.2.2.1.cg (c 64 (by decide) (by decide) (by decide) (by decide) (by decide) (by decide))) sy (S.2.2.2.2.2.2.2.2.2.2.2.1.cg (fun a a1 a2 => c a (by omega) (by omega) (by omega) (by omega) (by omega) (by omega)))
theorem SC.cd {h : am_H} {F F' : Nat → Nat → Int32} {V : Nat → Nat → Value} {A : aT} {e : am_H} {q1 q2 : Nat} (S : SC h F V A e q1 q2) (c : Cd F F') (sy : SYf F') (dv : DVf F' (aD A)) : SC h F' V A e q1 q2 :=
  S.kp (fun x h1 h2 h3 h4 _ h5 h6 h7 h8 h9 h10 h11 hx => c x h1 h2 h3 h4 h5 h6 h7 h8 h9 h10 h11) (S.2.2.2.2.2.2.2.2.1.cg (c 64 (by decide) (by decide) (by decide) (by decide) (by decide) (by decide) (by decide) (by decide) (by decide) (by decide) (by decide))) sy dv
theorem Gw.hs {q : Nat} {e h e' h' : am_H} (k : Gw q e h e' h') (hq : 23 ≤ q) (hh : 108 ≤ h.2.1) (hb : HS h) : HS h' := fun a a1 a2 => (k.2.2.2.2.1 a (by omega) (by omega)).trans (hb a a1 a2)
theorem SC.ch {h h' : am_H} {F F' : Nat → Nat → Int32} {V V' : Nat → Nat → Value} {A : aT} {e e' : am_H} {q1 q1' q2 : Nat} (S : SC h F V A e q1 q2) (k : Gw q1' e h e' h') (hq : q1' = q1 ∨ q1' = h.2.1) (v : ∀ x, x ≠ 61 → V' x = V x) (c : Ch F F') (cq : CQf e' h' F' V' (aD A) q1') : SC h' F' V' A e' q1' q2 := by
  obtain ⟨hb, hp, hs, hh, hy, ke, e2, cb, cs, ⟨_, _, _, mq1, _⟩, sy, dv, ⟨v2, L2, g2, mq2⟩, ne⟩ := S
  have c' : ∀ x, x < 47 ∨ 55 ≤ x ∧ x < 61 ∨ x = 64 ∨ x = 65 ∨ x = 66 ∨ 72 ≤ x → F' x = F x := fun x hx => c x (by omega) (by omega) (by omega) (by omega) (by omega) (by omega) (by omega)
  have q23 : 23 ≤ q1' := by
    obtain ⟨_, L, g, m, _⟩ := cq
    rcases m.2 with w | w <;> omega
  have n2 : q2 ≠ q1' := by
    rcases hq with w | w
    · rw [w]; exact ne.symm
    · have := mq2.b (by decide)
      omega
  have hl := k.2.2.2.2.2
  exact ⟨k.hb q23 hh hb, k.hp q23 hh hp, k.hs q23 hh hs, by omega, hy, k.2.1, k.2.2.1, (cb.hk k.1).kp (fun a ha => c' a (by omega)) (fun a ha => v a (by omega)), cs.cg (c' 64 (by decide)), cq, sy.cg (c' 65 (by decide)) (c' 66 (by decide)), dv.cg (fun a a1 a2 => c' a (by omega)), ⟨by rw [v 55 (by decide)]; exact v2, L2, g2, k.mq mq2 n2 (c' 59 (by decide))⟩, n2.symm⟩
theorem SC.cw {h h' : am_H} {F F' : Nat → Nat → Int32} {V V' : Nat → Nat → Value} {A : aT} {e e' : am_H} {q1 q2 q2' : Nat} (S : SC h F V A e q1 q2) (k : Gw q2 e h e' h') (hq : q2' = q2 ∨ h.2.1 ≤ q2') (v : ∀ x, x ≠ 55 → V' x = V x) (c : Cw F F') (dn : DNf e' h' F' V' q2') : SC h' F' V' A e' q1 q2' := by
  obtain ⟨hb, hp, hs, hh, hy, ke, e2, cb, cs, ⟨v1, L1, g1, mq1, cq⟩, sy, dv, ⟨v2, L2, g2, mq2⟩, ne⟩ := S
  have c' : ∀ x, x < 47 ∨ 60 < x → F' x = F x := fun x hx => c x (by omega) (by omega)
  have q23 : 23 ≤ q2 := by rcases mq2.2 with w | w <;> omega
  have n2 : q1 ≠ q2' := by
    rcases hq with w | w
    · rw [w]; exact ne
    · have := mq1.b (by decide)
      omega
  have hl := k.2.2.2.2.2
  refine ⟨k.hb q23 hh hb, k.hp q23 hh hp, k.hs q23 hh hs, by omega, hy, k.2.1, k.2.2.1, (cb.hk k.1).kp (fun a ha => c' a (by omega)) (fun a ha => v a (by omega)), cs.cg (c' 64 (by decide)), ⟨by rw [v 61 (by decide)]; exact v1, L1, g1, k.mq mq1 ne (c' 62 (by decide)), ?_⟩, sy.cg (c' 65 (by decide)) (c' 66 (by decide)), dv.cg (fun a a1 a2 => c' a (by omega)), dn, n2⟩
  rw [c' 61 (by decide)]
  rcases cq with w | w
  · exact Or.inl w
  · exact Or.inr ⟨w.1, w.2.cg Dsm.rf (c' 61 (by decide)) (c' 63 (by decide))⟩
