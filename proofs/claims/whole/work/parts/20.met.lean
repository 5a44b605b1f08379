/-! ===== the contract of every method, out of the abstract machine ===== -/
theorem am_ent_len {av : List Value} {n : Nat} (h : am_sz av ≤ n) (hn : n ≤ 20) : (am_ent av n).length = n := by
  induction av generalizing n with
  | nil => simp [am_ent]
  | cons v vs ih =>
    cases v with
    | int x =>
      match n, h with
      | 0, h => simp [am_sz] at h
      | n + 1, h => simp only [am_sz] at h; simp only [am_ent, List.length_cons]; rw [ih (by omega) (by omega)]
    | ref x =>
      match n, h with
      | 0, h => simp [am_sz] at h
      | n + 1, h => simp only [am_sz] at h; simp only [am_ent, List.length_cons]; rw [ih (by omega) (by omega)]
    | null =>
      match n, h with
      | 0, h => simp [am_sz] at h
      | n + 1, h => simp only [am_sz] at h; simp only [am_ent, List.length_cons]; rw [ih (by omega) (by omega)]
    | long x =>
      match n, h with
      | 0, h => simp only [am_sz] at h; omega
      | 1, h => simp only [am_sz] at h; omega
      | n + 2, h => simp only [am_sz] at h; simp only [am_ent, List.length_cons]; rw [ih (by omega) (by omega)]
    | float x => simp only [am_sz] at h; omega
    | double x => simp only [am_sz] at h; omega
    | retAddr x => simp only [am_sz] at h; omega
theorem am_ent_sl (G : am_D) {av : List Value} (h : am_sz av ≤ 20) : (lg_sl (av.map (am_v G))).length ≤ am_sz av := by
  induction av with
  | nil => simp [lg_sl, am_sz]
  | cons v vs ih =>
    have e : lg_sl ((v :: vs).map (am_v G)) = (if (am_v G v).category = 2 then [Slot.val (am_v G v), Slot.second] else [Slot.val (am_v G v)]) ++ lg_sl (vs.map (am_v G)) := by simp [lg_sl]
    rw [e]
    cases v with
    | int x => simp only [am_sz] at h ⊢; have := ih (by omega); simp [am_v, Value.category]; omega
    | ref x => simp only [am_sz] at h ⊢; have := ih (by omega); simp [am_v, Value.category]; omega
    | null => simp only [am_sz] at h ⊢; have := ih (by omega); simp [am_v, Value.category]; omega
    | long x => simp only [am_sz] at h ⊢; have := ih (by omega); simp [am_v, Value.category]; omega
    | float x => simp only [am_sz] at h; omega
    | double x => simp only [am_sz] at h; omega
    | retAddr x => simp only [am_sz] at h; omega
theorem am_ent_mem (G : am_D) {av : List Value} {n off i : Nat} {v : Value} (h : am_sz av ≤ 20) (hv : (am_ent av n)[i]? = some v) (hr : ∀ k, v ≠ .retAddr k) : (off + i, am_v G v) ∈ lv_args off (av.map (am_v G)) := by
  induction av generalizing n off i with
  | nil =>
    simp only [am_ent, List.getElem?_replicate] at hv
    split at hv
    · cases hv; exact absurd rfl (hr 0)
    · cases hv
  | cons w vs ih =>
    have one : ∀ (u : Value), u.category ≠ 2 → (∀ m, am_ent (w :: vs) (m + 1) = w :: am_ent vs m) → am_v G w = u → am_sz vs ≤ 20 → (off + i, am_v G v) ∈ lv_args off ((w :: vs).map (am_v G)) := by
      intro u hu he hw hz
      match n, hv with
      | 0, hv => simp [am_ent] at hv
      | n + 1, hv =>
        rw [he] at hv
        rw [List.map_cons, lv_args, hw, if_neg hu]
        cases i with
        | zero => cases hv; rw [← hw]; exact List.mem_cons_self
        | succ i =>
          have := ih (off := off + 1) hz hv
          rw [show off + 1 + i = off + (i + 1) by omega] at this
          exact List.mem_cons_of_mem _ this
    cases w with
    | int x => simp only [am_sz] at h; exact one (.int x) (by simp [Value.category]) (fun _ => by simp [am_ent]) rfl (by omega)
    | ref x => simp only [am_sz] at h; exact one (.ref (am_ad G x)) (by simp [Value.category]) (fun _ => by simp [am_ent]) rfl (by omega)
    | null => simp only [am_sz] at h; exact one .null (by simp [Value.category]) (fun _ => by simp [am_ent]) rfl (by omega)
    | long x =>
      simp only [am_sz] at h
      match n, hv with
      | 0, hv => simp [am_ent] at hv
      | 1, hv =>
        cases i with
        | zero => simp [am_ent] at hv; subst hv; exact absurd rfl (hr 0)
        | succ i => simp [am_ent] at hv
      | n + 2, hv =>
        rw [List.map_cons, lv_args]
        match i, hv with
        | 0, hv => simp [am_ent] at hv; subst hv; exact List.mem_cons_self
        | 1, hv => simp [am_ent] at hv; subst hv; exact absurd rfl (hr 0)
        | i + 2, hv =>
          have := ih (off := off + 2) (by omega) (show (am_ent vs n)[i]? = some v from hv)
          rw [show off + 2 + i = off + (i + 2) by omega] at this
          exact List.mem_cons_of_mem _ this
    | float x => simp only [am_sz] at h; omega
    | double x => simp only [am_sz] at h; omega
    | retAddr x => simp only [am_sz] at h; omega
theorem am_entry (G : am_D) (m : MethodId) {av : List Value} {n : Nat} (h : am_sz av ≤ n) (hn : n ≤ 20) : ∃ ls : Array Slot, entryFrame m (av.map (am_v G)).toArray n = F0 m 0 ls [] ∧ am_lv G (am_ent av n) ls ∧ (am_ent av n).length = n := by
  have hl := lv_entry (av.map (am_v G)) (n := n) (Nat.le_trans (am_ent_sl G (by omega)) h)
  refine ⟨_, lg_entry_eq m _ n, ⟨hl.1.trans (am_ent_len h hn).symm, hl.2.1, fun q hq => hl.2.2 q ?_⟩, am_ent_len h hn⟩
  obtain ⟨j, w⟩ := q
  obtain ⟨v, hv, hr, rfl⟩ := am_lls_mem.mp hq
  have := am_ent_mem G (off := 0) (by omega) hv hr
  rw [Nat.zero_add] at this
  exact this
theorem am_shape1 {call : am_C} {J : Nat → am_K} {Q : am_Q} {x : Nat} {ls st : List Value} {h : am_H} {K : am_K} (hex : am_st call J Q .saload x ls st h K) : ∃ a st', st = .ref a :: st' ∧ a < 23 ∧ am_d4 st' ∧ am_sl (fun n => K ls (.int (nI n) :: st') h) (h.1 a) := by
  match st, hex with
  | .ref a :: st', hex => exact ⟨a, st', rfl, hex⟩
  | [], hex => exact (show False from hex).elim
  | .int _ :: _, hex => exact (show False from hex).elim
  | .long _ :: _, hex => exact (show False from hex).elim
  | .float _ :: _, hex => exact (show False from hex).elim
  | .double _ :: _, hex => exact (show False from hex).elim
  | .null :: _, hex => exact (show False from hex).elim
  | .retAddr _ :: _, hex => exact (show False from hex).elim
theorem am_shape2 {call : am_C} {J : Nat → am_K} {Q : am_Q} {x : Nat} {ls st : List Value} {h : am_H} {K : am_K} (hex : am_st call J Q .caload x ls st h K) : ∃ j a st', st = .int j :: .ref a :: st' ∧ a < 23 ∧ am_d4 st' ∧ am_sc j (fun v => K ls (.int v :: st') h) (h.1 a) := by
  match st, hex with
  | .int j :: .ref a :: st', hex => exact ⟨j, a, st', rfl, hex⟩
  | [], hex => exact (show False from hex).elim
  | [.int _], hex => exact (show False from hex).elim
  | .int _ :: .int _ :: _, hex => exact (show False from hex).elim
  | .int _ :: .long _ :: _, hex => exact (show False from hex).elim
  | .int _ :: .float _ :: _, hex => exact (show False from hex).elim
  | .int _ :: .double _ :: _, hex => exact (show False from hex).elim
  | .int _ :: .null :: _, hex => exact (show False from hex).elim
  | .int _ :: .retAddr _ :: _, hex => exact (show False from hex).elim
  | .ref _ :: _, hex => exact (show False from hex).elim
  | .long _ :: _, hex => exact (show False from hex).elim
  | .float _ :: _, hex => exact (show False from hex).elim
  | .double _ :: _, hex => exact (show False from hex).elim
  | .null :: _, hex => exact (show False from hex).elim
  | .retAddr _ :: _, hex => exact (show False from hex).elim
/-- the string at a low address, as the JDK has it -/
theorem am_sB {G : am_D} {U : State} (hK : am_Kn G U) {a : Nat} {xs : List Int32} (ha : a < 23) (hc : G.2.2.2.2.2 a = .inr (9, .inl xs)) : xs.length < 2 ^ 31 ∧ (∀ x ∈ xs, x &&& 255 = x ∧ x.toInt8.toInt32 = x) ∧ ∃ av fv, sB (am_A G) (G.1 a) xs av fv U := by
  obtain ⟨-, -, -, -, -, -, -, -, ⟨ys, ey, -⟩, h12, hs⟩ := hK
  have h3 : 3 ≤ a := Nat.le_of_not_lt fun g => by
    rcases (show a = 0 ∨ a = 1 ∨ a = 2 by omega) with q | q
    · subst q; rw [ey] at hc; cases hc
    · obtain ⟨zs, ez, -⟩ := h12 a q; rw [ez] at hc; cases hc
  obtain ⟨zs, av, ez, e1, e2, o1, o2, o3, o4, o5, fv, hfv, o6⟩ := hs a h3 ha
  rw [ez] at hc
  cases hc
  exact ⟨e1, e2, av, fv, o1, o2, o3, o4, o5, o6, hfv⟩
section AMB
variable {G : am_D} {p : Program} {l : Launch} {e : Env} {R : Room} {s : State} {m : MethodId} {args : Array Value} {below : List Frame} {meth : Method} {c : Code} {Qw : State → Prop} {b : am_B} {o : Nat} {ini : Bool} {rt : Option FieldType} {cc : ByteArray} {d : Nat}
theorem am_invL {pc len x : Nat} {ri : Instr} {ls st : List Value} {h : am_H} {K : am_K} {a : Nat} (C : am_Cx G (p, l, e, R, s, m, args, below, meth, c, Qw) b o ini cc d) (hdec : decode cc pc = .ok (ri, len)) (hok : am_ok o ini rt pc ri len .saload x = true)
    (H0 : a < 23 ∧ am_d4 st ∧ am_sl (fun n => K ls (.int (nI n) :: st) h) (h.1 a))
    (hK : ∀ ls st h, K ls st h → am_RS G (p, l, e, R, s, m, args, below, meth, c, Qw) b (pc + len) ls st h) : am_RS G (p, l, e, R, s, m, args, below, meth, c, Qw) b pc ls (.ref a :: st) h := by
  simp only [am_ok, Bool.and_eq_true, decide_eq_true_eq] at hok
  obtain ⟨hlk, rfl⟩ := hok
  obtain ⟨ha, hd4, hsl⟩ := H0
  match hq : h.1 a, hsl with
  | .inr (t, .inl xs), ⟨ht, hlen, hk⟩ =>
  subst ht
  obtain ⟨hx, hb, hml, hown, hts, hKn, hini, hR, hfr, hlo⟩ := C
  dsimp only at hx hb hml hown hts hKn hini hR hfr hlo
  refine ⟨(hK _ _ _ hk).1, fun a1 a2 a3 H locs lsR hr hS hl => ?_⟩
  have w := (hK _ _ _ hk).2 a1 a2 a3 H locs lsR hr hS hl
  rw [hr.2.2.2.1 a ha] at hq
  obtain ⟨-, -, av, fv, hB⟩ := am_sB hKn ha hq
  obtain ⟨q, hq1, hq2, hq3⟩ := am_all am_sl2_ok hlk
  simp only [decide_eq_true_eq] at hq3
  obtain ⟨e1, e2, rfl⟩ := hq3
  have hw := hts _ (am_wat_in hq2)
  rw [e1, e2] at hw
  have hb1 := (hK _ _ _ hk).1
  rw [List.map_cons, show am_v G (Value.ref a) = Value.ref (G.1 a) by show Value.ref (am_ad G a) = _; rw [am_ad_lo ha]]
  exact s_callV (W.runV (Ts := am_TBL) (As := []) (rest := st.map (am_v G)) ⟨hx, hb, hml, hown, hts⟩ (sm_len l (am_A G) (G.1 a) xs av fv hlen) ⟨callB_of 0 hts (sg_in sc_len) rfl rfl rfl (hts _ sw_10) hw ⟨by decide, by decide, by decide +kernel⟩ ⟨by show 1 + 1 ≤ R.frames; omega, by show 8 + (1 + 11) + 20 ≤ R.locals; omega⟩, hts _ sw_15.1, hts _ sw_15.2⟩ (hB.preV hS) rfl rfl (hl.1.trans a3) rfl (am_room3 G hd4) hdec ⟨by show _ + 0 ≤ R.cells; rw [hR.1]; omega, by show _ + 0 ≤ R.slots; rw [hR.2]; omega⟩) w
theorem am_invC {pc len x : Nat} {ri : Instr} {ls st : List Value} {h : am_H} {K : am_K} {a : Nat} {j : Int32} (C : am_Cx G (p, l, e, R, s, m, args, below, meth, c, Qw) b o ini cc d) (hdec : decode cc pc = .ok (ri, len)) (hok : am_ok o ini rt pc ri len .caload x = true)
    (H0 : a < 23 ∧ am_d4 st ∧ am_sc j (fun v => K ls (.int v :: st) h) (h.1 a))
    (hK : ∀ ls st h, K ls st h → am_RS G (p, l, e, R, s, m, args, below, meth, c, Qw) b (pc + len) ls st h) : am_RS G (p, l, e, R, s, m, args, below, meth, c, Qw) b pc ls (.int j :: .ref a :: st) h := by
  simp only [am_ok, Bool.and_eq_true, decide_eq_true_eq] at hok
  obtain ⟨hlk, rfl⟩ := hok
  obtain ⟨ha, hd4, hsl⟩ := H0
  match hq : h.1 a, hsl with
  | .inr (t, .inl xs), ⟨ht, hj, hk⟩ =>
  subst ht
  obtain ⟨hx, hb, hml, hown, hts, hKn, hini, hR, hfr, hlo⟩ := C
  dsimp only at hx hb hml hown hts hKn hini hR hfr hlo
  refine ⟨(hK _ _ _ hk).1, fun a1 a2 a3 H locs lsR hr hS hl => ?_⟩
  have w := (hK _ _ _ hk).2 a1 a2 a3 H locs lsR hr hS hl
  rw [hr.2.2.2.1 a ha] at hq
  obtain ⟨hlen, h255, av, fv, hB⟩ := am_sB hKn ha hq
  obtain ⟨q, hq1, hq2, hq3⟩ := am_all am_sl2_ok hlk
  simp only [decide_eq_true_eq] at hq3
  obtain ⟨e1, e2, rfl⟩ := hq3
  have hw := hts _ (am_wat_in hq2)
  rw [e1, e2] at hw
  have hb1 := (hK _ _ _ hk).1
  rw [List.map_cons, List.map_cons, show am_v G (Value.ref a) = Value.ref (G.1 a) by show Value.ref (am_ad G a) = _; rw [am_ad_lo ha]]
  exact s_callV (W.runV (Ts := am_TBL) (As := [.int j]) (rest := st.map (am_v G)) ⟨hx, hb, hml, hown, hts⟩ (sm_ca l (am_A G) (G.1 a) xs av fv j hj hlen h255) ⟨callB_of 1 hts (sg_in sc_ca) rfl rfl rfl (hts _ sw_10) hw ⟨by decide, by decide, by decide +kernel⟩ ⟨by show 3 + 1 ≤ R.frames; omega, by show 8 + (2 + 11) + 64 ≤ R.locals; omega⟩, hts _ sw_16.1, hts _ sw_16.2⟩ (hB.preV hS) rfl rfl (hl.1.trans a3) rfl (am_room3 G hd4) hdec ⟨by show _ + 0 ≤ R.cells; rw [hR.1]; omega, by show _ + 0 ≤ R.slots; rw [hR.2]; omega⟩) w
theorem am_blk {Q : am_Q} (C : am_Cx G (p, l, e, R, s, m, args, below, meth, c, Qw) b o ini cc d) (IH : am_MetD l d)
    (hQ : ∀ (i : Instr) (x : Nat) (ri : Instr) (len pc : Nat) (ls : List Value) (h : am_H) (r : Option Value), decode cc pc = .ok (ri, len) → am_ok o ini rt pc ri len i x = true → Q r h → am_rv i r → am_RS G (p, l, e, R, s, m, args, below, meth, c, Qw) b pc ls r.toList h) :
    ∀ (is : List am_I) (pc : Nat) (ls st : List Value) (h : am_H), am_chk cc o ini rt pc is = true → am_ex (am_cl d) (am_RS G (p, l, e, R, s, m, args, below, meth, c, Qw) b) Q is ls st h → am_RS G (p, l, e, R, s, m, args, below, meth, c, Qw) b pc ls st h := by
  intro is
  induction is with
  | nil => intro pc ls st h _ hex; exact (show False from hex).elim
  | cons q is ih =>
    intro pc ls st h hck hex
    obtain ⟨i, x⟩ := q
    unfold am_chk at hck
    split at hck
    · rename_i heq
      cases heq
      have e1 : x = pc := by simpa using hck
      subst e1
      exact hex
    · rename_i heq
      cases heq
      exact (show False from hex).elim
    · rename_i i' x' hn1 hn2 heq
      cases heq
      split at hck
      · rename_i ri len hdec
        rw [Bool.and_eq_true] at hck
        have hK : ∀ ls st h, am_ex (am_cl d) (am_RS G (p, l, e, R, s, m, args, below, meth, c, Qw) b) Q is ls st h → am_RS G (p, l, e, R, s, m, args, below, meth, c, Qw) b (pc + len) ls st h := fun ls st h g => ih (pc + len) ls st h hck.2 g
        refine am_sim1 C hdec hck.1 (fun j k hi => ?_) (fun r hq hrv => hQ i x ri len pc ls h r hdec hck.1 hq hrv) hex hK
        rcases hi with hi | hi | hi | hi | hi <;> subst hi
        · exact am_invS C IH hdec hck.1 hex hK
        · exact am_invI C IH hdec hck.1 hex hK
        · exact am_invV C IH hdec hck.1 hex hK
        · obtain ⟨a, st', rfl, H0⟩ := am_shape1 hex
          exact am_invL C hdec hck.1 H0 hK
        · obtain ⟨j, a, st', rfl, H0⟩ := am_shape2 hex
          exact am_invC C hdec hck.1 H0 hK
      · cases hck
end AMB
theorem am_tab_mem {kt : List (Nat × List am_I)} {pc : Nat} : am_tab kt pc = [] ∨ (pc, am_tab kt pc) ∈ kt := by
  induction kt with
  | nil => exact Or.inl rfl
  | cons q r ih =>
    unfold am_tab
    split
    · rename_i e
      exact Or.inr (by rw [e]; exact List.mem_cons_self)
    · rcases ih with ih | ih
      · exact Or.inl ih
      · exact Or.inr (List.mem_cons_of_mem _ ih)
theorem am_retn {G : am_D} {p : Program} {l : Launch} {e : Env} {R : Room} {s : State} {m : MethodId} {args : Array Value} {below : List Frame} {meth : Method} {c : Code} {o : Nat} {ini : Bool} {rt : Option FieldType} {cc : ByteArray} {d n0 n1 nL : Nat} {r : Option Value} {h' : am_H}
    (C : am_Cx G (p, l, e, R, s, m, args, below, meth, c, MQ below (am_Qc G r h') args s (h'.2.1 - n0) (h'.2.2 - n1) (am_A G)) (n0, n1, h'.2.1, h'.2.2, nL) o ini cc d) (hrt : meth.sig.returnType = rt) (hlk : meth.locks = false)
    {i ri : Instr} {x len pc : Nat} {ls : List Value} (hdec : decode cc pc = .ok (ri, len)) (hok : am_ok o ini rt pc ri len i x = true) (hrv : am_rv i r) : am_RS G (p, l, e, R, s, m, args, below, meth, c, MQ below (am_Qc G r h') args s (h'.2.1 - n0) (h'.2.2 - n1) (am_A G)) (n0, n1, h'.2.1, h'.2.2, nL) pc ls r.toList h' := by
  obtain ⟨hx, hb, hml, hown, hts, hKn, hini, hR, hfr, hlo⟩ := C
  dsimp only at hx hb hml hown hts hKn hini hR hfr hlo
  refine ⟨⟨Nat.le_refl _, Nat.le_refl _⟩, fun a1 a2 a3 H locs lsR hr hS hl => ?_⟩
  have hq : ∀ t : State, t.heap = H → s.WarmedH t.vm → am_Qc G r h' args s (.returned (r.map (am_v G))) t := fun t ht _ => ⟨rfl, by rw [ht]; exact hr, hS.F ht⟩
  match i, r, hrv, hq with
  | .ireturn, some (.int v), _, hq =>
    simp only [am_ok, decide_eq_true_eq] at hok
    obtain ⟨rfl, hrt', rfl⟩ := hok
    exact W.iret hx hb (hrt.trans hrt') hq hS.2.2 hdec hlk
  | .freturn, some (.int v), hv, hq =>
    simp only [am_ok, decide_eq_true_eq] at hok
    obtain ⟨rfl, hrt', rfl⟩ := hok
    refine W.zret (ty := .boolean) hx hb (hrt.trans hrt') ?_ hq hS.2.2 hdec hlk
    rcases hv with hv | hv <;> subst hv <;> rfl
  | .lreturn, some (.long v), _, hq =>
    simp only [am_ok, decide_eq_true_eq] at hok
    obtain ⟨rfl, hrt', rfl⟩ := hok
    exact W.lret hx hb (hrt.trans hrt') hq hS.2.2 hdec hlk
  | .areturn, some (.ref a), _, hq =>
    simp only [am_ok, Bool.and_eq_true, decide_eq_true_eq] at hok
    obtain ⟨⟨rfl, rfl⟩, hty⟩ := hok
    match rt, hrt, hty with
    | some (.object n), hrt, _ => exact W.aret hx hb hrt (Or.inl ⟨_, rfl⟩) (Or.inr ⟨_, rfl⟩) hq hS.2.2 hdec hlk
    | some (.array n), hrt, _ => exact W.aret hx hb hrt (Or.inr ⟨_, rfl⟩) (Or.inr ⟨_, rfl⟩) hq hS.2.2 hdec hlk
  | .areturn, some .null, _, hq =>
    simp only [am_ok, Bool.and_eq_true, decide_eq_true_eq] at hok
    obtain ⟨⟨rfl, rfl⟩, hty⟩ := hok
    match rt, hrt, hty with
    | some (.object n), hrt, _ => exact W.aret hx hb hrt (Or.inl ⟨_, rfl⟩) (Or.inl rfl) hq hS.2.2 hdec hlk
    | some (.array n), hrt, _ => exact W.aret hx hb hrt (Or.inr ⟨_, rfl⟩) (Or.inl rfl) hq hS.2.2 hdec hlk
  | .return_, none, _, hq =>
    simp only [am_ok, decide_eq_true_eq] at hok
    obtain ⟨rfl, hrt', rfl⟩ := hok
    exact W.vret hx hb (hrt.trans hrt') hq hS.2.2 hdec hlk
theorem am_met (l : Launch) : ∀ d, am_MetD l d := by
  intro d
  induction d with
  | zero => intro G j av h h' r hj H; exact (show False from H).elim
  | succ d IH =>
    intro G j av h h' r hj H
    obtain ⟨⟨m1, m2, m3, m4, m5, m6⟩, -⟩ := am_mok hj
    obtain ⟨hcw, kt, hpr, hck⟩ := am_good hj
    have H1 : Nat.ble (am_sz av) (am_pr j).1 = true ∧ am_W (am_pr j).2 (am_cl d) (fun r1 h1 => r1 = r ∧ h1 = h') 0 (am_ent av (am_pr j).1) [] h := H
    rw [hpr] at H1
    obtain ⟨hsz, HW⟩ := H1
    have hsz : am_sz av ≤ (am_m j).2.2.2.1 := Nat.le_of_ble_eq_true hsz
    refine Met.ofW (cc := (am_m j).2.2.1) (maxL := (am_m j).2.2.2.1) (ret := (am_m j).2.2.2.2.1) m4 rfl ?_
    intro p e s m args below meth c s₁ B hml hv
    obtain ⟨rfl, hrel, hKn⟩ := hv
    have hts := atoms_spec B.pre
    have ht : ∀ w ∈ am_TBL, w.before (av.map (am_v G)).toArray s = true := fun w h => hts w (List.mem_cons_of_mem _ h)
    have hown : s.vm.findClass (am_own (am_m j).1) = some m.cls := by rw [m2]; exact findClass_of_methodNamed B.named
    have C : am_Cx G (p, l, e, am_rm (d + 1) h h', s, m, (av.map (am_v G)).toArray, below, meth, c, MQ below (am_Qc G r h') (av.map (am_v G)).toArray s (h'.2.1 - h.2.1) (h'.2.2 - h.2.2) (am_A G)) (h.2.1, h.2.2, h'.2.1, h'.2.2, (am_m j).2.2.2.1) (am_m j).1 (decide ((am_m j).2.2.2.2.2.2 = 2)) (am_m j).2.2.1 d :=
      ⟨B.exec, B.bytes, hml, hown, ht, hKn, fun hi => by
        have hi' : (am_m j).2.2.2.2.2.2 = 2 := by simpa using hi
        exact (name_of_methodNamed B.named B.method).1.trans (am_ini hj hi').2.1, ⟨rfl, rfl⟩, (by show d + 5 ≤ d + 1 + 4; omega), (by show 45 * d + 200 ≤ 45 * (d + 1) + 155; omega)⟩
    obtain ⟨ls, hent, hlv, hlen⟩ := am_entry G m hsz m3
    have key := HW (am_RS G (p, l, e, am_rm (d + 1) h h', s, m, (av.map (am_v G)).toArray, below, meth, c, MQ below (am_Qc G r h') (av.map (am_v G)).toArray s (h'.2.1 - h.2.1) (h'.2.2 - h.2.2) (am_A G)) (h.2.1, h.2.2, h'.2.1, h'.2.2, (am_m j).2.2.2.1)) (fun pc ls st hh hex => by
      have hex : am_ex _ _ _ (am_tab kt pc) ls st hh := hex
      rcases am_tab_mem (kt := kt) (pc := pc) with hz | hz
      · rw [hz] at hex
        exact (show False from hex).elim
      · have hck1 := List.all_eq_true.mp hck _ hz
        exact am_blk C IH (rt := (am_m j).2.2.2.2.1) (fun i x ri len pc ls hq rr hdec hok hQ hrv => by
          obtain ⟨e1, e2⟩ := hQ
          subst e1
          subst e2
          exact am_retn C B.returns B.notSynchronized hdec hok hrv) _ pc ls st hh hck1 hex)
    have w := key.2 (Nat.le_refl _) (Nat.le_refl _) hlen s.heap [] ls hrel va_S.rf hlv
    rw [hent]
    have e1 : h.2.1 - h.2.1 = 0 := Nat.sub_self _
    have e2 : h.2.2 - h.2.2 = 0 := Nat.sub_self _
    dsimp only at w
    rw [e1, e2] at w
    exact w
