/-! ===== the class: world ===== -/
theorem Gw.q {q q1 : Nat} {e h e1 h1 : am_H} (k : Gw q1 e h e1 h1) (hq : q1 = q ∨ h.2.1 ≤ q1) : Gw q e h e1 h1 := by
  obtain ⟨k1, k2, k3, k4, k5, k6⟩ := k
  exact ⟨k1, k2, k3, k4, fun x x1 x2 => k5 x x1 (by omega), k6⟩
theorem Gw.tr {q q1 : Nat} {e h e1 h1 e2 h2 : am_H} (a : Gw q e h e1 h1) (b : Gw q1 e1 h1 e2 h2) (hq : q1 = q ∨ h.2.1 ≤ q1) : Gw q e h e2 h2 := by
  obtain ⟨a1, a2, a3, a4, a5, a6⟩ := a
  obtain ⟨b1, b2, b3, b4, b5, b6⟩ := b
  exact ⟨a1.tr b1, b2, b3, fun x hx => (b4 x (by omega)).trans (a4 x hx), fun x x1 x2 => (b5 x (by omega) (by omega)).trans (a5 x x1 x2), by omega⟩
theorem dn_sz {T : tT} {P : Nat} {C : cT} : (tz T C.1 C.2.2.2.1 C.2.2.1 false).2.1.length + pcn (plC P C) ≤ T.2.1.length + pcn P + 1 := by
  unfold plC
  by_cases e2 : C.1 = 2
  · rw [if_pos e2, e2]
    have e3 : (tz T 2 C.2.2.2.1 C.2.2.1 false).2.1 = T.2.1 := rfl
    rw [e3]
    have := cn_or (P := P) (w := C.2.2.1) 4
    unfold pcn
    split at this <;> omega
  · rw [if_neg e2]
    have := tz_len T C.1 C.2.2.2.1 C.2.2.1 false
    omega
/-- the theory and the denial alone differ -/
def Cw (F F' : Nat → Nat → Int32) : Prop := ∀ x, x ≠ 47 → x < 55 ∨ 60 < x → F' x = F x
theorem Cw.tr {F F1 F2 : Nat → Nat → Int32} (a : Cw F F1) (b : Cw F1 F2) : Cw F F2 := fun x h1 h2 => (b x h1 h2).trans (a x h1 h2)
theorem DK.cw {h : am_H} {F F' : Nat → Nat → Int32} {V V' : Nat → Nat → Value} {X : kT} (hD : DK h F V 34 X) (c : Cw F F') (v : ∀ x, x ≠ 55 → V' x = V x) : DK h F' V' 34 X := hD.cg (fun i _ => by rw [c 34 (by decide) (by decide)]) (c 37 (by decide) (by decide)) (v 34 (by decide)) (v 35 (by decide)) (v 36 (by decide))
theorem BC.cg {F F' : Nat → Nat → Int32} {o : Option (List Nat)} (hB : BC F o) (e1 : F' 55 = F 55) (e2 : F' 56 = F 56) : BC F' o := by
  unfold BC at hB ⊢
  rw [e1, e2]
  exact hB
theorem DNf.cg {e h : am_H} {F F' : Nat → Nat → Int32} {V : Nat → Nat → Value} {q : Nat} (hq : DNf e h F V q) (e1 : F' 59 = F 59) : DNf e h F' V q := by
  obtain ⟨a, L, g, m⟩ := hq
  exact ⟨a, L, g, m.cg e1⟩
theorem DNf.q23 {e h : am_H} {F : Nat → Nat → Int32} {V : Nat → Nat → Value} {q : Nat} (hq : DNf e h F V q) : 23 ≤ q := by
  obtain ⟨a, L, g, m⟩ := hq
  exact m.q23 (Or.inr ⟨rfl, rfl⟩)
section CWO
variable {d : Nat} {h : am_H} {F : Nat → Nat → Int32} {J : Nat → Nat → Int64} {V : Nat → Nat → Value} {Q : am_Q}
set_option maxRecDepth 20000 in
theorem cp_world {e : am_H} (ke : Hk e h) (e2 : e.2 = h.2) (hh : 108 ≤ h.2.1) (hb : HB h) {X : kT} (hD : DK e F V 34 X) {q : Nat} (hq : DNf e h F V q) {x i : Int32} (K : ∀ e' h' F' J' V' q', Gw q e h e' h' → (q' = q ∨ h.2.1 ≤ q') → h'.2.1 ≤ h.2.1 + 2 → h'.2.2 ≤ h.2.2 + 16384 → (∀ x, x ≠ 55 → V' x = V x) → Cw F F' → DNf e' h' F' V' q' → Q (some (.int (aWorld X.1 x i))) (ov h' F' J' V')) : am_cl (d + 6) 42 [.ref 23, .int x, .int i] (ov h F J V) Q := by
  have K0 : aWorld X.1 x i = -1 → Q (some (.int (-1))) (ov h F J V) := fun z => by
    have := K e h F J V q (Gw.rf ke e2) (Or.inl rfl) (Nat.le_add_right _ _) (Nat.le_add_right _ _) (fun _ _ => rfl) (fun _ _ _ => rfl) hq
    rw [z] at this
    exact this
  unfold aWorld at K K0
  have h12 := hD.1.2.1
  have h343 : F 34 3 = b2i X.1.2.2.2 := hD.2.2.1
  rcases hD.asked with ⟨ea, ev⟩ | ⟨ea, p, ev, hs⟩
  · rw [ea, Bool.and_false, Bool.false_and, if_neg Bool.false_ne_true] at K0
    simp only [isO_c, ax0, ex_cons, am_get, upz_at, true_and, and_true, Nat.reduceAdd, Nat.reduceLeDiff, Nat.reduceEqDiff, Nat.reduceSub, Int32.reduceOfInt, Int32.reduceAdd, Int32.reduceMul, Int32.reduceSub, ↓reduceIte, Int32.reduceLT, Int32.reduceLE, Int32.reduceToNatClampNeg, Nat.reduceMod, Nat.reduceLT, List.length_cons, List.length_nil, eq_self, true_or, or_true, and_self, implies_true, not_true_eq_false, not_false_eq_true, false_implies, true_implies, forall_const, st_aloadx, st_astorex, st_astore_1x, st_getfieldx, st_goto_wx, st_iconstx, st_ifCondx, st_ifnullx, st_ifnull_1x, st_iloadx, st_in2, st_ireturnx, am_put, am_nlg, kb_Slips_world_0, og_23_1, og_34_2, oo_34, jx_Slips_world_23, kb_Slips_world_23, oa_23, oa_34, cx_Slips_world, ev]
    exact K0 rfl
  · rw [ea, Bool.and_true] at K K0
    simp only [isO_c, ax0, ex_cons, am_get, upz_at, true_and, and_true, Nat.reduceAdd, Nat.reduceLeDiff, Nat.reduceEqDiff, Nat.reduceSub, Int32.reduceOfInt, Int32.reduceAdd, Int32.reduceMul, Int32.reduceSub, ↓reduceIte, Int32.reduceLT, Int32.reduceLE, Int32.reduceToNatClampNeg, Nat.reduceMod, Nat.reduceLT, List.length_cons, List.length_nil, eq_self, true_or, or_true, and_self, implies_true, not_true_eq_false, not_false_eq_true, false_implies, true_implies, forall_const, st_aloadx, st_astorex, st_astore_1x, st_getfieldx, st_goto_wx, st_ifCondx, st_ifnullx, st_ifnull_1x, st_iloadx, st_in2, am_put, am_nlg, kb_Slips_world_0, og_23_1, og_34_2, oo_34, oa_23, oa_34, cx_Slips_world, ev]
    refine c_hasHeap (hD.hk ke) ?_
    simp only [isO_c, ax0, ex_cons, am_get, upz_at, true_and, and_true, Nat.reduceAdd, Nat.reduceLeDiff, Nat.reduceEqDiff, Nat.reduceSub, Int32.reduceOfInt, Int32.reduceAdd, Int32.reduceMul, Int32.reduceSub, ↓reduceIte, Int32.reduceLT, Int32.reduceLE, Int32.reduceToNatClampNeg, Nat.reduceMod, Nat.reduceLT, List.length_cons, List.length_nil, eq_self, true_or, or_true, and_self, implies_true, not_true_eq_false, not_false_eq_true, false_implies, true_implies, forall_const, st_aloadx, st_astorex, st_astore_1x, st_getfieldx, st_goto_wx, st_iconstx, st_ifCondx, st_ifnullx, st_ifnull_1x, st_iloadx, st_in2, st_ireturnx, am_put, am_nlg, kb_Slips_world_0, og_23_1, og_34_2, oo_34, jx_Slips_world_23, kb_Slips_world_23, oa_23, oa_34]
    refine ifnb (fun eh => ?_) (fun eh => ?_)
    · rw [eh, Bool.true_and] at K
      obtain ⟨hp, x1, x2, x3⟩ := hpB_nI h12 eh
      subst x1
      rw [x3] at K
      simp only [isO_c, ax0, ex_cons, am_get, upz_at, true_and, and_true, Nat.reduceAdd, Nat.reduceLeDiff, Nat.reduceEqDiff, Nat.reduceSub, Int32.reduceOfInt, Int32.reduceAdd, Int32.reduceMul, Int32.reduceSub, ↓reduceIte, Int32.reduceLT, Int32.reduceLE, Int32.reduceToNatClampNeg, Nat.reduceMod, Nat.reduceLT, List.length_cons, List.length_nil, eq_self, true_or, or_true, and_self, implies_true, not_true_eq_false, not_false_eq_true, false_implies, true_implies, forall_const, st_aloadx, st_getfieldx, st_goto_wx, st_iconstx, st_ifCondx, st_iloadx, st_in1, st_in2, st_putfieldx, st_return_x, jx_Slips_world_25, kb_Slips_world_25, og_23_5, oo_55, oo_23, og_23_3, og_23_1, og_34_3, cx_Denial_clear, kb_Denial_clear_0, op_55_1, oa_23, oa_34, oa_55, os_55]
      have c0 : Cw F (upz F 55 (upz (F 55) 1 0)) := fun x _ h2 => upz_ne _ _ (by omega)
      have D0 := hD.cw c0 (fun _ _ => rfl)
      have B0 : BC (upz F 55 (upz (F 55) 1 0)) none := by show upz F 55 (upz (F 55) 1 0) 55 1 = 0; rw [upz_eq, upz_eq]
      have Q0 : DNf e h (upz F 55 (upz (F 55) 1 0)) V q := hq.cg (upz_ne _ _ (by decide))
      generalize upz F 55 (upz (F 55) 1 0) = F0 at c0 D0 B0 Q0
      refine c_assume (D0.hk ke) x2 (fun F1 J1 P1 t1 l1 s1 => ?_)
      have cf1 : Cw F0 F1 := fun x h1 _ => s1.1 x h1
      simp only [isO_c, ax0, ex_cons, am_get, upz_at, true_and, and_true, Nat.reduceAdd, Nat.reduceLeDiff, Nat.reduceEqDiff, Nat.reduceSub, Int32.reduceOfInt, Int32.reduceAdd, Int32.reduceMul, Int32.reduceSub, ↓reduceIte, Int32.reduceLT, Int32.reduceLE, Int32.reduceToNatClampNeg, Nat.reduceMod, Nat.reduceLT, List.length_cons, List.length_nil, eq_self, true_or, or_true, and_self, implies_true, not_true_eq_false, not_false_eq_true, false_implies, true_implies, forall_const, st_aloadx, st_getfieldx, st_goto_wx, st_ifCondx, st_iloadx, st_in1, st_in2, jx_Slips_world_25, kb_Slips_world_25, og_23_5, oo_55, oo_23, og_23_3, oo_47, og_23_1, og_34_3, oa_23, oa_34, oa_47, oa_55]
      refine c_denyClaim (Or.inl rfl) t1 (by omega) ((hs.hk ke).cl) (fun F2 J2 t2 s2 => ?_)
      have cf2 := cf1.tr (fun x h1 _ => s2.1 x h1 : Cw F1 F2)
      have hsz := dn_sz (T := hzD X.1 hp) (P := P1) (C := clR (X.1.2.1 12))
      simp only [isO_c, ax0, ex_cons, am_get, upz_at, true_and, and_true, Nat.reduceAdd, Nat.reduceLeDiff, Nat.reduceEqDiff, Nat.reduceSub, Int32.reduceOfInt, Int32.reduceAdd, Int32.reduceMul, Int32.reduceSub, ↓reduceIte, Int32.reduceLT, Int32.reduceLE, Int32.reduceToNatClampNeg, Nat.reduceMod, Nat.reduceLT, List.length_cons, List.length_nil, eq_self, true_or, or_true, and_self, implies_true, not_true_eq_false, not_false_eq_true, false_implies, true_implies, forall_const, st_aloadx, st_getfieldx, st_goto_wx, st_ifCondx, st_iloadx, st_in1, st_in2, jx_Slips_world_25, kb_Slips_world_25, og_23_5, oo_55, oo_23, og_23_3, oo_47, og_23_1, og_34_3, oa_23, oa_34, oa_47, oa_55]
      refine c_consider ke e2 hh hb t2 (by unfold wN; omega) (o := none) (B0.cg ((s2.1 55 (by decide)).trans (s1.1 55 (by decide))) ((s2.1 56 (by decide)).trans (s1.1 56 (by decide)))) (Q0.cg ((s2.1 59 (by decide)).trans (s1.1 59 (by decide)))) (fun e3 h3 F3 V3 q3 w1 w2 w3 w4 w5 w6 w7 w8 => ?_)
      have q3 : q3 = q ∨ h.2.1 ≤ q3 := by omega
      have g3 := w1.q q3
      have cf3 : Cw F F3 := (c0.tr cf2).tr (fun x _ h2 => w8 x h2)
      have D3 : DK e3 F3 V3 34 X := (hD.hk w1.1).cw cf3 w5
      have f343 : F3 34 3 = b2i X.1.2.2.2 := D3.2.2.1
      have hb3 := g3.hb hq.q23 hh hb
      have k3 := w1.2.1
      have e3' := w1.2.2.1
      have hs3 : SR e3 p (X.1.2.1 12) := hs.hk w1.1
      have hb1 : stW2 none (wlO (tz (hzD X.1 hp) (clR (X.1.2.1 12)).1 (clR (X.1.2.1 12)).2.2.2.1 (clR (X.1.2.1 12)).2.2.1 false)) = bestW X.1 hp 1 := rfl
      rw [hb1] at w7
      -- the answer
      have fin : ∀ e4 h4 F4 J4 V4 q4 n, Gw q e h e4 h4 → (q4 = q ∨ h.2.1 ≤ q4) → h4.2.1 ≤ h.2.1 + 2 → h4.2.2 ≤ h.2.2 + 16384 → (∀ x, x ≠ 55 → V4 x = V x) → Cw F F4 → DNf e4 h4 F4 V4 q4 → n = owZ (csD X.1 12) X.1.2.2.2 → BC F4 (bestW X.1 hp n) → am_W kc_Slips_world (am_cl (d + 5)) Q 97 [.ref 23, .int (nI hp), .int i, .ref p] [] (ov h4 F4 J4 V4) := by
        intro e4 h4 F4 J4 V4 q4 n y1 y2 y3 y4 y5 y6 y7 en y8
        have K := K e4 h4 F4 J4 V4 q4 y1 y2 y3 y4 y5 y6 y7
        rw [← en] at K
        cases eo : bestW X.1 hp n with
        | none =>
          rw [eo] at y8 K
          have y8 : F4 55 1 = 0 := y8
          simp only [isO_c, ax0, ex_cons, am_get, upz_at, true_and, and_true, Nat.reduceAdd, Nat.reduceLeDiff, Nat.reduceEqDiff, Nat.reduceSub, Int32.reduceOfInt, Int32.reduceAdd, Int32.reduceMul, Int32.reduceSub, ↓reduceIte, Int32.reduceLT, Int32.reduceLE, Int32.reduceToNatClampNeg, Nat.reduceMod, Nat.reduceLT, List.length_cons, List.length_nil, eq_self, true_or, or_true, and_self, implies_true, not_true_eq_false, not_false_eq_true, false_implies, true_implies, forall_const, st_aloadx, st_getfieldx, st_iconstx, st_ifCondx, st_ireturnx, jx_Slips_world_97, kb_Slips_world_97, og_23_5, og_55_1, oa_23, oa_55, y8]
          have e1 : woO none i = -1 := rfl
          rw [e1, ite_self] at K
          exact K
        | some l =>
          rw [eo] at y8 K
          obtain ⟨z1, z2, z3, z4⟩ := y8
          have K : Q (some (.int (if (!decide (i < -1)) = true then (if i = -1 then nI l.length else if i < nI l.length then nI (l.getD i.toNatClampNeg 0) else -1) else -1))) (ov h4 F4 J4 V4) := K
          simp only [isO_c, ax0, ex_cons, am_get, upz_at, true_and, and_true, Nat.reduceAdd, Nat.reduceLeDiff, Nat.reduceEqDiff, Nat.reduceSub, Int32.reduceOfInt, Int32.reduceAdd, Int32.reduceMul, Int32.reduceSub, ↓reduceIte, Int32.reduceLT, Int32.reduceLE, Int32.reduceToNatClampNeg, Nat.reduceMod, Nat.reduceLT, List.length_cons, List.length_nil, eq_self, true_or, or_true, and_self, implies_true, not_true_eq_false, not_false_eq_true, false_implies, true_implies, forall_const, st_aloadx, st_getfieldx, st_gotox, st_goto_wx, st_ialoadx, st_iconstx, st_ifCondx, st_if_icmpx, st_iloadx, st_ireturnx, jx_Slips_world_97, kb_Slips_world_97, og_23_5, og_55_1, jx_Slips_world_109, kb_Slips_world_109, jx_Slips_world_122, kb_Slips_world_122, og_55_0, jx_Slips_world_149, kb_Slips_world_149, jx_Slips_world_150, kb_Slips_world_150, oa_23, oa_55, oa_56, or_56, z1, show (nI l.length = (0 : Int32)) = (l.length = 0) from nk_eq (b := 0) (by omega) (by decide), show ¬ l.length = 0 by omega]
          refine ⟨fun u => ⟨fun v => ?_, fun v => ⟨fun t => ?_, fun t => ?_⟩⟩, fun u => ?_⟩
          · have lt : i < -1 := by
              rw [Int32.lt_iff_toInt_lt, Int32.toInt_zero] at v
              have h1 : i.toInt ≠ -1 := fun e => u (Int32.toInt_inj.mp (e.trans (show (-1 : Int) = (-1 : Int32).toInt by decide)))
              rw [Int32.lt_iff_toInt_lt, show (-1 : Int32).toInt = -1 by decide]
              omega
            rw [decide_eq_true lt] at K
            exact K
          · obtain ⟨i1, i2⟩ := nk_of v
            have ge : ¬ i < -1 := by
              rw [Int32.lt_iff_toInt_lt, show (-1 : Int32).toInt = -1 by decide]
              rw [Int32.lt_iff_toInt_lt, Int32.toInt_zero] at v
              omega
            rw [decide_eq_false ge, Bool.not_false, if_pos rfl, if_neg u, if_neg (Int32.not_lt.mpr t)] at K
            exact K
          · obtain ⟨i1, i2⟩ := nk_of v
            have ge : ¬ i < -1 := by
              rw [Int32.lt_iff_toInt_lt, show (-1 : Int32).toInt = -1 by decide]
              rw [Int32.lt_iff_toInt_lt, Int32.toInt_zero] at v
              omega
            have lt := Int32.not_le.mp t
            rw [decide_eq_false ge, Bool.not_false, if_pos rfl, if_neg u, if_pos lt] at K
            have hk : i.toNatClampNeg < l.length := by
              rw [i1, nk_lt i2 (by omega)] at lt
              exact lt
            generalize i.toNatClampNeg = k at i1 i2 hk K
            refine ⟨⟨v, by omega⟩, ?_⟩
            rw [(z4 k hk).1]
            exact K
          · have u := Classical.not_not.mp u
            subst u
            exact K
      obtain ⟨_, pb, _, ob⟩ := (hs3.hk k3).obj
      simp only [isO_c, ax0, ex_cons, am_get, upz_at, true_and, and_true, Nat.reduceAdd, Nat.reduceLeDiff, Nat.reduceEqDiff, Nat.reduceSub, Int32.reduceOfInt, Int32.reduceAdd, Int32.reduceMul, Int32.reduceSub, ↓reduceIte, Int32.reduceLT, Int32.reduceLE, Int32.reduceToNatClampNeg, Nat.reduceMod, Nat.reduceLT, List.length_cons, List.length_nil, eq_self, true_or, or_true, and_self, implies_true, not_true_eq_false, not_false_eq_true, false_implies, true_implies, forall_const, st_aloadx, st_getfieldx, st_goto_wx, st_ifCondx, st_iloadx, st_in1, st_in2, jx_Slips_world_25, kb_Slips_world_25, og_23_5, oo_55, oo_23, og_23_3, oo_47, og_23_1, og_34_3, oa_23, oa_34, oa_47, oa_55, f343, ob]
      refine c_tellsSubject ((hs3.hk k3).cl) ?_
      simp only [isO_c, ax0, ex_cons, am_get, upz_at, true_and, and_true, Nat.reduceAdd, Nat.reduceLeDiff, Nat.reduceEqDiff, Nat.reduceSub, Int32.reduceOfInt, Int32.reduceAdd, Int32.reduceMul, Int32.reduceSub, ↓reduceIte, Int32.reduceLT, Int32.reduceLE, Int32.reduceToNatClampNeg, Nat.reduceMod, Nat.reduceLT, List.length_cons, List.length_nil, eq_self, true_or, or_true, and_self, implies_true, not_true_eq_false, not_false_eq_true, false_implies, true_implies, forall_const, st_aloadx, st_getfieldx, st_goto_wx, st_ifCondx, st_iloadx, st_in1, st_in2, jx_Slips_world_25, kb_Slips_world_25, og_23_5, oo_55, oo_23, og_23_3, oo_47, og_23_1, og_34_3, oa_23, oa_34, oa_47, oa_55]
      have ecs : csD X.1 12 = clR (X.1.2.1 12) := rfl
      refine ifb (fun t => ?_) (fun t => ?_)
      · refine fin e3 h3 F3 J2 V3 _ 1 g3 q3 (by omega) (by omega) w5 cf3 w6 ?_ w7
        unfold owZ
        rw [ecs, t, if_neg Bool.false_ne_true]
      · refine c_assume (D3.hk k3) x2 (fun F4 J4 P4 t4 l4 s4 => ?_)
        have cf4 : Cw F3 F4 := fun x h1 _ => s4.1 x h1
        obtain ⟨hwf, aa, bb, cc, fs, fb, r1, r2, r3, r4, r5, r6, r7, r8, r9, r10⟩ := id (hs3.hk k3)
        have r5' : (ov h3 F4 J4 V3).1 p = _ := (ov_hi (F := F4) (J := J4) (V := V3) (fun z => absurd z.2 (Nat.not_lt.mpr r1.1))).trans r5
        have hsR1 : hsR (X.1.2.1 12) = true := by
          rw [Bool.and_eq_true] at t
          exact t.2
        simp only [isO_c, ax0, ex_cons, am_get, upz_at, true_and, and_true, Nat.reduceAdd, Nat.reduceLeDiff, Nat.reduceEqDiff, Nat.reduceSub, Int32.reduceOfInt, Int32.reduceAdd, Int32.reduceMul, Int32.reduceSub, ↓reduceIte, Int32.reduceLT, Int32.reduceLE, Int32.reduceToNatClampNeg, Nat.reduceMod, Nat.reduceLT, List.length_cons, List.length_nil, eq_self, true_or, or_true, and_self, implies_true, not_true_eq_false, not_false_eq_true, false_implies, true_implies, forall_const, st_aloadx, st_getfieldx, st_goto_wx, st_ifCondx, st_iloadx, st_in1, st_in2, jx_Slips_world_25, kb_Slips_world_25, og_23_5, oo_55, oo_23, og_23_3, oo_47, og_23_1, og_34_3, oa_23, oa_34, oa_47, oa_55, r5', gf6]
        refine c_bar (Or.inl rfl) t4 (a := bb) (set := suR (X.1.2.1 12)) ⟨fb, by rw [ov_hi (by omega)]; exact r8, r9 hsR1⟩ (by unfold isTh; omega) (fun J5 t5 s5 => ?_)
        have hb2 : stW2 (bestW X.1 hp 1) (wlO (fun r => (hzD X.1 hp).1 r || suR (X.1.2.1 12) r, (hzD X.1 hp).2.1, (hzD X.1 hp).2.2)) = bestW X.1 hp 2 := rfl
        simp only [isO_c, ax0, ex_cons, am_get, upz_at, true_and, and_true, Nat.reduceAdd, Nat.reduceLeDiff, Nat.reduceEqDiff, Nat.reduceSub, Int32.reduceOfInt, Int32.reduceAdd, Int32.reduceMul, Int32.reduceSub, ↓reduceIte, Int32.reduceLT, Int32.reduceLE, Int32.reduceToNatClampNeg, Nat.reduceMod, Nat.reduceLT, List.length_cons, List.length_nil, eq_self, true_or, or_true, and_self, implies_true, not_true_eq_false, not_false_eq_true, false_implies, true_implies, forall_const, st_aloadx, st_getfieldx, st_goto_wx, st_ifCondx, st_iloadx, st_in1, st_in2, jx_Slips_world_25, kb_Slips_world_25, og_23_5, oo_55, oo_23, og_23_3, oo_47, og_23_1, og_34_3, oa_23, oa_34, oa_47, oa_55]
        refine c_consider k3 e3' (Nat.le_trans hh w1.2.2.2.2.2) hb3 t5 (by show (hzD X.1 hp).2.1.length + pcn P4 ≤ 13; omega) (w7.cg (s4.1 55 (by decide)) (s4.1 56 (by decide))) (w6.cg (s4.1 59 (by decide))) (fun e6 h6 F6 V6 q6 u1 u2 u3 u4 u5 u6 u7 u8 => ?_)
        rw [hb2] at u7
        have gr := w1.2.2.2.2.2
        simp only [isO_c, ax0, ex_cons, am_get, upz_at, true_and, and_true, Nat.reduceAdd, Nat.reduceLeDiff, Nat.reduceEqDiff, Nat.reduceSub, Int32.reduceOfInt, Int32.reduceAdd, Int32.reduceMul, Int32.reduceSub, ↓reduceIte, Int32.reduceLT, Int32.reduceLE, Int32.reduceToNatClampNeg, Nat.reduceMod, Nat.reduceLT, List.length_cons, List.length_nil, eq_self, true_or, or_true, and_self, implies_true, not_true_eq_false, not_false_eq_true, false_implies, true_implies, forall_const, st_aloadx, st_getfieldx, st_goto_wx, st_ifCondx, st_iloadx, st_in1, st_in2, jx_Slips_world_25, kb_Slips_world_25, og_23_5, oo_55, oo_23, og_23_3, oo_47, og_23_1, og_34_3, oa_23, oa_34, oa_47, oa_55]
        refine fin e6 h6 F6 J5 V6 q6 2 (g3.tr u1 (by omega)) (by omega) (by omega) (by omega) (fun x hx => (u5 x hx).trans (w5 x hx)) ((cf3.tr cf4).tr (fun x _ h2 => u8 x h2)) u6 ?_ u7
        unfold owZ
        rw [ecs, t, if_pos rfl]
    · rw [eh, Bool.false_and, if_neg Bool.false_ne_true] at K0
      exact K0 rfl
end CWO
