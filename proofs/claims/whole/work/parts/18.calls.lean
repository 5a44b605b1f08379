/-! ===== calls, blocks, and the contract of every method ===== -/
theorem am_Kn.move {G : am_D} {s U : State} (hK : am_Kn G s) (hW : s.WarmedH U.vm) (hz : s.heap.size ≤ U.heap.size) (hq : ∀ q : Nat, q < s.heap.size → ¬ am_A G q → U.heap[q]? = s.heap[q]?) : am_Kn G U := by
  obtain ⟨k1, k2, k3, k4, k5, k6, k7, k8, ⟨xs, k9, k10⟩, k11, k12⟩ := hK
  have hv := hW.alike
  refine ⟨va_K.moved hv k1, fun q h => va_Nw.warmM hW (k2 q h), fun q h e => va_Nw.warmF hW (k3 q h e), va_AO.moved hv k4, va_AO.moved hv k5, fun q h => vk_R.warm hW (k6 q h), Nat.le_trans k7 hz, fun n hn => ((k8 n hn).moved hv).kept hq, ⟨xs, k9, (k10.moved hv).kept hq⟩, fun n hn => ?_, fun a a1 a2 => ?_⟩
  · obtain ⟨ys, e, hT⟩ := k11 n hn
    exact ⟨ys, e, (hT.moved hv).kept hq⟩
  · obtain ⟨ys, av, e, e2, e3, o1, o2, o3, o4, o5, fv, hfv, o6⟩ := k12 a a1 a2
    exact ⟨ys, av, e, e2, e3, (o1.moved hv).kept hq, (o2.moved hv).kept hq, (o3.moved hv).kept hq, (o4.moved hv).kept hq, (o5.moved hv).kept hq, fv, hfv, (o6.moved hv).kept hq⟩
def am_Pc (G : am_D) (h : am_H) (av : List Value) : Array Value → State → Prop := fun a U => a = (av.map (am_v G)).toArray ∧ am_rel G h U.heap ∧ am_Kn G U
def am_Qc (G : am_D) (r : Option Value) (h' : am_H) : Array Value → State → Outcome → State → Prop := fun _ st oc t => oc = .returned (r.map (am_v G)) ∧ am_rel G h' t.heap ∧ va_F (am_A G) st t
def am_rm (d : Nat) (h h' : am_H) : Room := { frames := d + 4, cells := h'.2.1 - h.2.1, slots := h'.2.2 - h.2.2, locals := 45 * d + 155 }
def am_MetD (l : Launch) (d : Nat) : Prop := ∀ (G : am_D) (j : Nat) (av : List Value) (h h' : am_H) (r : Option Value), j < 291 → am_cl d j av h (fun r1 h1 => r1 = r ∧ h1 = h') → Met l (am_m j).2.1 (am_ws j) (am_rm d h h') (am_Pc G h av) (am_Qc G r h') (h'.2.1 - h.2.1) (h'.2.2 - h.2.2) (am_A G)
theorem am_Pc.blind {G : am_D} {h : am_H} {av : List Value} : FrameBlind (am_Pc G h av) := fun a U g mk q => ⟨q.1, q.2.1, am_Kn.move (U := U.calling g mk a) q.2.2 (State.WarmedH.refl U) (Nat.le_refl _) (fun _ _ _ => rfl)⟩
section AMC
variable {p : Program} {l : Launch} {e : Env} {R : Room} {s : State} {m : MethodId} {args : Array Value} {below : List Frame} {meth : Method} {c : Code} {H : Heap} {locs : List Loc} {cells slots : Nat} {Q : State → Prop}
variable {pc mc ms : Nat} {ls : Array Slot} {rest st0 : List Value} {G : am_D} {h h1 : am_H} {r : Option Value} {a : Array Value}
theorem am_goes (hr : va_Run p l e R s m args below meth c H locs cells slots mc ms (F0 m pc ls st0) rest (am_Qc G r h1 a) (am_A G)) (hS : va_S (am_A G) s.heap H locs)
    (kk : ∀ (H1 : Heap) (locs1 : List Loc), am_rel G h1 H1 → va_S (am_A G) s.heap H1 locs1 → W p l e R s m args below meth c H1 locs1 (cells + mc) (slots + ms) Q (F0 m (pc + 3) ls ((r.map (am_v G)).toList ++ rest))) : W p l e R s m args below meth c H locs cells slots Q (F0 m pc ls st0) := by
  intro T hT X
  obtain ⟨v, st₀, t, T', L, h0, X', hL, e1, e2, ⟨hv, hb, hz, hk⟩, st⟩ := hr T hT X
  cases hv
  rw [h0] at hz hk
  obtain ⟨t2, a1, b1⟩ := kk T'.heap (locs ++ L) (by rw [e1]; exact hb)
    ⟨Nat.le_trans hS.1 (by rw [e1]; exact hz), fun q h1 h2 => by rw [e1, hk q (Nat.lt_of_lt_of_le h1 hS.1) h2]; exact hS.2.1 q h1 h2, fun q hq => by
      rcases List.mem_append.mp hq with h | h
      · exact hS.2.2 q h
      · exact hL q h⟩ T' rfl X'
  exact ⟨t2, st t2 a1, b1⟩
end AMC
theorem am_rmap (G : am_D) (r : Option Value) (st : List Value) : (r.toList ++ st).map (am_v G) = (r.map (am_v G)).toList ++ st.map (am_v G) := by cases r <;> rfl
section AMI
variable {G : am_D} {p : Program} {l : Launch} {e : Env} {R : Room} {s : State} {m : MethodId} {args : Array Value} {below : List Frame} {meth : Method} {c : Code} {Qw : State → Prop} {b : am_B} {o : Nat} {ini : Bool} {rt : Option FieldType} {cc : ByteArray} {d pc len x : Nat} {ri : Instr} {ls st : List Value} {h : am_H} {K : am_K} {J : Nat → am_K} {Q : am_Q}
/-- behind a call: what the abstract machine goes on with -/
theorem am_inv (C : am_Cx G (p, l, e, R, s, m, args, below, meth, c, Qw) b o ini cc d) (IH : am_MetD l d) {j : Nat} (hj : j < 291) {av rest : List Value} (H0 : am_cl d j av h (fun r h' => K ls (r.toList ++ rest) h'))
    (hK : ∀ ls st h, K ls st h → am_RS G (p, l, e, R, s, m, args, below, meth, c, Qw) b (pc + 3) ls st h)
    (go : ∀ (r : Option Value) (h1 : am_H) (H : Heap) (locs : List Loc) (cs sl : Nat) (lsR : Array Slot), Met l (am_m j).2.1 (am_ws j) (am_rm d h h1) (am_Pc G h av) (am_Qc G r h1) (h1.2.1 - h.2.1) (h1.2.2 - h.2.2) (am_A G) → am_rel G h H → va_S (am_A G) s.heap H locs → lsR.size = b.2.2.2.2 → cs + (h1.2.1 - h.2.1) ≤ R.cells → sl + (h1.2.2 - h.2.2) ≤ R.slots → d ≠ 0 → va_Run p l e R s m args below meth c H locs cs sl (h1.2.1 - h.2.1) (h1.2.2 - h.2.2) (F0 m pc lsR (st.map (am_v G))) (rest.map (am_v G)) (am_Qc G r h1 (av.map (am_v G)).toArray) (am_A G)) :
    am_RS G (p, l, e, R, s, m, args, below, meth, c, Qw) b pc ls st h := by
  have hd0 : d ≠ 0 := fun e0 => by subst e0; exact H0.elim
  obtain ⟨hx, hb, hml, hown, hts, hKn, hini, hR, hfr, hlo⟩ := C
  dsimp only at hx hb hml hown hts hKn hini hR hfr hlo
  obtain ⟨r, h1, g1, g2, g3⟩ := am_call_det am_pr d _ _ _ _ H0
  have hM := IH G j av h h1 r hj (g3 _ ⟨rfl, rfl⟩)
  have hk := hK _ _ _ g1
  refine ⟨⟨Nat.le_trans g2.1 hk.1.1, Nat.le_trans g2.2 hk.1.2⟩, fun a1 a2 a3 H locs lsR hr hS hl => ?_⟩
  have k1 := hk.1.1
  have k2 := hk.1.2
  have k3 := g2.1
  have k4 := g2.2
  refine am_goes (go r h1 H locs _ _ lsR hM hr hS (hl.1.trans a3) (by rw [hR.1]; omega) (by rw [hR.2]; omega) hd0) hS (fun H1 locs1 hr1 hS1 => ?_)
  have w := hk.2 (Nat.le_trans a1 k3) (Nat.le_trans a2 k4) a3 H1 locs1 lsR hr1 hS1 hl
  rw [am_rmap] at w
  have e1 : h.2.1 - b.1 + (h1.2.1 - h.2.1) = h1.2.1 - b.1 := by omega
  have e2 : h.2.2 - b.2.1 + (h1.2.2 - h.2.2) = h1.2.2 - b.2.1 := by omega
  rw [e1, e2]
  exact w
theorem am_room3 {m : MethodId} {pc : Nat} {lsR : Array Slot} {st : List Value} (G : am_D) {rest : List Value} (hd : am_d4 rest) : 2 * (F0 m pc lsR st).monitorRoom + ((rest.map (am_v G)).map fun v => v.category).sum ≤ 8 := by
  have := am_d4_room G hd
  show 2 * 0 + _ ≤ 8
  omega
theorem am_invS (C : am_Cx G (p, l, e, R, s, m, args, below, meth, c, Qw) b o ini cc d) (IH : am_MetD l d) (hdec : decode cc pc = .ok (ri, len)) {j : Nat} (hok : am_ok o ini rt pc ri len (.invokestatic j) x = true)
    (H0 : x ≤ st.length ∧ am_d4 (st.drop x) ∧ am_cl d j (st.take x).reverse h (fun r h' => K ls (r.toList ++ st.drop x) h'))
    (hK : ∀ ls st h, K ls st h → am_RS G (p, l, e, R, s, m, args, below, meth, c, Qw) b (pc + len) ls st h) : am_RS G (p, l, e, R, s, m, args, below, meth, c, Qw) b pc ls st h := by
  simp only [am_ok, Bool.and_eq_true, Bool.or_eq_true, decide_eq_true_eq] at hok
  obtain ⟨⟨⟨⟨hlk, hk0⟩, hxn⟩, hj⟩, rfl⟩ := hok
  obtain ⟨⟨m1, m2, m3, m4, m5, m6⟩, -⟩ := am_mok hj
  refine am_inv C IH hj H0.2.2 hK (fun r h1 H locs cs sl lsR hM hr hS hsz hc1 hc2 hd0 => ?_)
  obtain ⟨hx, hb, hml, hown, hts, hKn, hini, hR, hfr, hlo⟩ := C
  dsimp only at hx hb hml hown hts hKn hini hR hfr hlo
  have hroom : (am_rm d h h1).frames + 1 ≤ R.frames ∧ 8 + ((am_m j).2.2.2.1 + 11) + (am_rm d h h1).locals ≤ R.locals := ⟨by show d + 4 + 1 ≤ _; omega, by show 8 + (_ + 11) + (45 * d + 155) ≤ _; omega⟩
  have hpre : PreS s H (am_Pc G h (st.take x).reverse) ((st.take x).reverse.map (am_v G)) := ⟨am_Pc.blind, fun U hU hW => ⟨rfl, by rw [hU]; exact hr, am_Kn.move hKn hW (by rw [hU]; exact hS.1) (fun q h1 h2 => by rw [hU]; exact hS.2.1 q h1 h2)⟩⟩
  have hlen : ((st.take x).reverse.map (am_v G)).length = (am_m j).2.2.2.2.2.1 := by
    rw [List.length_map, List.length_reverse, List.length_take, Nat.min_eq_left H0.1]; exact hxn
  have hstk : st.map (am_v G) = ((st.take x).reverse.map (am_v G)).reverse ++ (st.drop x).map (am_v G) := by
    rw [← List.map_reverse, List.reverse_reverse, ← List.map_append, List.take_append_drop]
  rcases hlk with hlk | hlk
  · obtain ⟨q, hq1, hq2, hq3⟩ := am_all am_ml_ok hlk
    simp only [decide_eq_true_eq] at hq3
    obtain ⟨e1, e2, rfl⟩ := hq3
    have hw := hts _ (am_wat_in hq2)
    rw [e1, e2] at hw
    exact va_runS (Ts := am_TBL) ⟨hx, hb, hml, hown, hts⟩ hM ⟨callB_of _ hts (am_gin hj) rfl rfl rfl (hts _ (am_wat_in m1)) hw ⟨m5.1, m5.2, m6⟩ hroom, hts _ (am_stt hj hk0)⟩ hpre rfl hlen hsz hstk (am_room3 G H0.2.1) hdec ⟨hc1, hc2⟩
  · obtain ⟨q, hq1, hq3⟩ := List.any_eq_true.mp hlk
    simp only [decide_eq_true_eq] at hq3
    obtain ⟨e1, e2, rfl⟩ := hq3
    have hw := hKn.2.1 q hq1
    unfold am_nw at hw
    rw [e1, e2] at hw
    exact va_runSN (Ts := am_TBL) ⟨hx, hb, hml, hown, hts⟩ hM ⟨va_cnB _ hts (am_gin hj) rfl rfl rfl hw (hts _ (am_wat_in m1)) ⟨m5.1, m5.2, m6⟩ hroom, hts _ (am_stt hj hk0), trivial⟩ hpre rfl hlen hsz hstk (am_room3 G H0.2.1) hdec ⟨hc1, hc2⟩
theorem am_head {st : List Value} {x : Nat} {a : Nat} {as : List Value} (h : (st.take x).reverse = .ref a :: as) (G : am_D) : st.map (am_v G) = (as.map (am_v G)).reverse ++ .ref (am_ad G a) :: (st.drop x).map (am_v G) := by
  have h1 : st.take x = as.reverse ++ [.ref a] := by
    have := congrArg List.reverse h
    rw [List.reverse_reverse, List.reverse_cons] at this
    exact this
  have h2 : st = as.reverse ++ [Value.ref a] ++ st.drop x := by rw [← h1, List.take_append_drop]
  calc st.map (am_v G) = (as.reverse ++ [Value.ref a] ++ st.drop x).map (am_v G) := by rw [← h2]
    _ = _ := by simp [am_v]
theorem am_hlen {st : List Value} {x n : Nat} {a : Nat} {as : List Value} (h : (st.take x).reverse = .ref a :: as) (hx : x ≤ st.length) (hn : x = n + 1) (G : am_D) : (as.map (am_v G)).length = n := by
  have := congrArg List.length h
  rw [List.length_reverse, List.length_take, Nat.min_eq_left hx, List.length_cons] at this
  rw [List.length_map]
  omega
theorem am_invI (C : am_Cx G (p, l, e, R, s, m, args, below, meth, c, Qw) b o ini cc d) (IH : am_MetD l d) (hdec : decode cc pc = .ok (ri, len)) {j : Nat} (hok : am_ok o ini rt pc ri len (.invokespecial j) x = true)
    (H0 : x ≤ st.length ∧ am_d4 (st.drop x) ∧ am_rc0 (st.take x).reverse ∧ am_cl d j (st.take x).reverse h (fun r h' => K ls (r.toList ++ st.drop x) h'))
    (hK : ∀ ls st h, K ls st h → am_RS G (p, l, e, R, s, m, args, below, meth, c, Qw) b (pc + len) ls st h) : am_RS G (p, l, e, R, s, m, args, below, meth, c, Qw) b pc ls st h := by
  simp only [am_ok, Bool.and_eq_true, Bool.or_eq_true, decide_eq_true_eq] at hok
  obtain ⟨⟨⟨⟨hlk, hk0⟩, hxn⟩, hj⟩, rfl⟩ := hok
  obtain ⟨⟨m1, m2, m3, m4, m5, m6⟩, -⟩ := am_mok hj
  obtain ⟨n1, n2, n3⟩ := am_ini hj hk0
  obtain ⟨hx0, hd4, hrc, Hc⟩ := H0
  generalize hav : (st.take x).reverse = av at hrc Hc
  match av, hrc with
  | .ref a :: as, _ =>
  refine am_inv C IH hj Hc hK (fun r h1 H locs cs sl lsR hM hr hS hsz hc1 hc2 hd0 => ?_)
  obtain ⟨hx, hb, hml, hown, hts, hKn, hini, hR, hfr, hlo⟩ := C
  dsimp only at hx hb hml hown hts hKn hini hR hfr hlo
  have hroom : (am_rm d h h1).frames + 1 ≤ R.frames ∧ 8 + ((am_m j).2.2.2.1 + 11) + (am_rm d h h1).locals ≤ R.locals := ⟨by show d + 4 + 1 ≤ _; omega, by show 8 + (_ + 11) + (45 * d + 155) ≤ _; omega⟩
  have hpre : PreS s H (am_Pc G h (.ref a :: as)) (.ref (am_ad G a) :: as.map (am_v G)) := ⟨am_Pc.blind, fun U hU hW => ⟨rfl, by rw [hU]; exact hr, am_Kn.move hKn hW (by rw [hU]; exact hS.1) (fun q h1 h2 => by rw [hU]; exact hS.2.1 q h1 h2)⟩⟩
  have hws : am_ws j = Cond.code (am_m j).2.1 (am_m j).2.2.1 (am_m j).2.2.2.1 none :: am_TBL := by unfold am_ws; rw [n3]
  rcases hlk with hlk | hlk
  · obtain ⟨q, hq1, hq2, hq3⟩ := am_all am_ml_ok hlk
    simp only [decide_eq_true_eq] at hq3
    obtain ⟨e1, e2, rfl⟩ := hq3
    have hw := hts _ (am_wat_in hq2)
    rw [e1, e2] at hw
    exact va_runI (Ts := am_TBL) ⟨hx, hb, hml, hown, hts⟩ hM ⟨callB_of _ hts (am_gin hj) hws rfl rfl (hts _ (am_wat_in m1)) hw ⟨m5.1, m5.2, m6⟩ hroom, n2, hts _ n1⟩ hpre rfl (am_hlen hav hx0 hxn G) hsz (am_head hav G) (am_room3 G hd4) hdec ⟨hc1, hc2⟩
  · obtain ⟨q, hq1, hq3⟩ := List.any_eq_true.mp hlk
    simp only [decide_eq_true_eq] at hq3
    obtain ⟨e1, e2, rfl⟩ := hq3
    have hw := hKn.2.1 q hq1
    unfold am_nw at hw
    rw [e1, e2] at hw
    exact va_runIN (Ts := am_TBL) ⟨hx, hb, hml, hown, hts⟩ hM ⟨va_cnB _ hts (am_gin hj) hws rfl rfl hw (hts _ (am_wat_in m1)) ⟨m5.1, m5.2, m6⟩ hroom, n2, hts _ n1⟩ hpre rfl (am_hlen hav hx0 hxn G) hsz (am_head hav G) (am_room3 G hd4) hdec ⟨hc1, hc2⟩
theorem am_invV (C : am_Cx G (p, l, e, R, s, m, args, below, meth, c, Qw) b o ini cc d) (IH : am_MetD l d) (hdec : decode cc pc = .ok (ri, len)) {j k : Nat} (hok : am_ok o ini rt pc ri len (.invokeinterface j k) x = true)
    (H0 : x ≤ st.length ∧ am_d4 (st.drop x) ∧ am_rcv k (st.take x).reverse h ∧ am_cl d j (st.take x).reverse h (fun r h' => K ls (r.toList ++ st.drop x) h'))
    (hK : ∀ ls st h, K ls st h → am_RS G (p, l, e, R, s, m, args, below, meth, c, Qw) b (pc + len) ls st h) : am_RS G (p, l, e, R, s, m, args, below, meth, c, Qw) b pc ls st h := by
  simp only [am_ok, Bool.and_eq_true, Bool.or_eq_true, decide_eq_true_eq] at hok
  obtain ⟨⟨⟨⟨⟨⟨hlk, hk0⟩, hxn⟩, hjk⟩, hk13⟩, hj⟩, rfl⟩ := hok
  obtain ⟨⟨m1, m2, m3, m4, m5, m6⟩, -⟩ := am_mok hj
  obtain ⟨n1, n2⟩ := am_sel hj hk0
  obtain ⟨hx0, hd4, hrc, Hc⟩ := H0
  generalize hav : (st.take x).reverse = av at hrc Hc
  match av, hrc with
  | .ref a :: as, hrc =>
  refine am_inv C IH hj Hc hK (fun r h1 H locs cs sl lsR hM hr hS hsz hc1 hc2 hd0 => ?_)
  obtain ⟨hx, hb, hml, hown, hts, hKn, hini, hR, hfr, hlo⟩ := C
  dsimp only at hx hb hml hown hts hKn hini hR hfr hlo
  have hroom : (am_rm d h h1).frames + 1 ≤ R.frames ∧ 8 + ((am_m j).2.2.2.1 + 11) + (am_rm d h h1).locals ≤ R.locals := ⟨by show d + 4 + 1 ≤ _; omega, by show 8 + (_ + 11) + (45 * d + 155) ≤ _; omega⟩
  have hcell : ∃ cellB : Cell, H[am_ad G a]? = some cellB ∧ cellB.vm.isStatics = false ∧ s.vm.findClass (am_m j).2.1.cls = some cellB.cls := by
    have hrc' : am_isO k (h.1 a) := hrc
    match hq : h.1 a, hrc' with
    | .inl (k', fs), hkk =>
      have hkk' : k' = k := hkk
      subst hkk'
      obtain ⟨-, -, -, cellV, g1, g2, g3, -⟩ := am_obj hKn hr hq hk13
      have hcls := (hKn.1.1 k' _ (am_cls_at hk13)).2.1
      have ho : am_own k' = (am_cl3 k').1 := by have := am_rng am_own13 hk13; simpa using this
      refine ⟨cellV, g1, by rw [g3]; rfl, ?_⟩
      rw [← m2, hjk, ho, g2]
      exact hcls
  have hpre : PreV s H (am_m j).2.1.cls (am_ad G a) (am_Pc G h (.ref a :: as)) (as.map (am_v G)) := ⟨am_Pc.blind, hcell, fun U hU hW => ⟨rfl, by rw [hU]; exact hr, am_Kn.move hKn hW (by rw [hU]; exact hS.1) (fun q h1 h2 => by rw [hU]; exact hS.2.1 q h1 h2)⟩⟩
  rcases hlk with hlk | hlk
  · obtain ⟨q, hq1, hq2, hq3⟩ := am_all am_ml_ok hlk
    simp only [decide_eq_true_eq] at hq3
    obtain ⟨e1, e2, rfl⟩ := hq3
    have hw := hts _ (am_wat_in hq2)
    rw [e1, e2] at hw
    exact va_runV (Ts := am_TBL) ⟨hx, hb, hml, hown, hts⟩ hM ⟨callB_of _ hts (am_gin hj) rfl rfl rfl (hts _ (am_wat_in m1)) hw ⟨m5.1, m5.2, m6⟩ hroom, hts _ n1, hts _ n2⟩ hpre rfl (am_hlen hav hx0 hxn G) hsz (am_head hav G) (am_room3 G hd4) hdec ⟨hc1, hc2⟩
  · obtain ⟨q, hq1, hq3⟩ := List.any_eq_true.mp hlk
    simp only [decide_eq_true_eq] at hq3
    obtain ⟨e1, e2, rfl⟩ := hq3
    have hw := hKn.2.1 q hq1
    unfold am_nw at hw
    rw [e1, e2] at hw
    exact va_runVN (Ts := am_TBL) ⟨hx, hb, hml, hown, hts⟩ hM ⟨va_cnB _ hts (am_gin hj) rfl rfl rfl hw (hts _ (am_wat_in m1)) ⟨m5.1, m5.2, m6⟩ hroom, hts _ n1, hts _ n2⟩ hpre rfl (am_hlen hav hx0 hxn G) hsz (am_head hav G) (am_room3 G hd4) hdec ⟨hc1, hc2⟩
end AMI
