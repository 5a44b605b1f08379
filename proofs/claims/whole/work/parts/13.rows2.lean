/-! ===== switches and arrays ===== -/
theorem am_toInt {m : Int} (h : -1000 ≤ m ∧ m ≤ 1000) : (Int32.ofInt m).toInt = m := Int32.toInt_ofInt_of_le (by omega) (by omega)
theorem am_sw_none {v : Int32} {J : Nat → Prop} {d : Nat} {ps : List (Int × Int)} (h : am_sw v J d ps) (hn : ∀ q ∈ ps, ¬ v = Int32.ofInt q.1) : J d := by
  induction ps with
  | nil => exact h
  | cons q r ih => exact ih (h.2 (hn q List.mem_cons_self)) (fun z hz => hn z (List.mem_cons_of_mem _ hz))
theorem am_sw_at {v : Int32} {J : Nat → Prop} {d : Nat} {ps : List (Int × Int)} (h : am_sw v J d ps) {k : Nat} {q : Int × Int} (hk : ps[k]? = some q) (hv : v = Int32.ofInt q.1) (hn : ∀ (j : Nat) (z : Int × Int), j < k → ps[j]? = some z → ¬ v = Int32.ofInt z.1) : J q.2.toNat := by
  induction ps generalizing k with
  | nil => cases hk
  | cons z r ih => cases k with
    | zero => cases hk; exact h.1 hv
    | succ k => exact ih (h.2 (hn 0 z (Nat.succ_pos _) rfl)) hk (fun j w hj hw => hn (j + 1) w (Nat.succ_lt_succ hj) hw)
/-- a lookupswitch's offset -/
theorem am_sw_off {v : Int32} {J : Nat → Prop} {x pc : Nat} {ps : List (Int × Int)} (h : am_sw v J x ps) (hb : ∀ q ∈ ps, -1000 ≤ q.1 ∧ q.1 ≤ 1000 ∧ 0 ≤ q.2) : ∃ t : Nat, J t ∧ (pc : Int) + Op.lookupswitch.offset (ps.map (fun q => (q.1, q.2 - (pc : Int)))) ((x : Int) - (pc : Int)) v.toInt = (t : Int) := by
  induction ps with
  | nil => exact ⟨x, h, by show (pc : Int) + ((x : Int) - (pc : Int)) = x; omega⟩
  | cons q r ih =>
    obtain ⟨b1, b2, b3⟩ := hb q List.mem_cons_self
    rw [List.map_cons, Op.lookupswitch.offset_cons]
    by_cases hv : v = Int32.ofInt q.1
    · refine ⟨q.2.toNat, h.1 hv, ?_⟩
      rw [if_pos (by rw [hv, am_toInt ⟨b1, b2⟩])]
      omega
    · rw [if_neg (fun e => hv (by rw [← Int32.toInt_inj, am_toInt ⟨b1, b2⟩]; exact e.symm))]
      exact ih (h.2 hv) (fun z hz => hb z (List.mem_cons_of_mem _ hz))
/-- where a tableswitch goes -/
theorem am_sw_tab {v : Int32} {J : Nat → Prop} {x : Nat} {ps : List (Int × Int)} {lo : Int} (h : am_sw v J x ps) (hb : ∀ q ∈ ps, -1000 ≤ q.1 ∧ q.1 ≤ 1000 ∧ 0 ≤ q.2) (hm : ps.map (fun q => q.1) = (List.range ps.length).map (fun (k : Nat) => lo + (k : Int))) :
    ((v.toInt < lo ∨ lo + (ps.length : Int) - 1 < v.toInt) ∧ J x) ∨ (¬ v.toInt < lo ∧ ¬ lo + (ps.length : Int) - 1 < v.toInt ∧ ∃ q, ps[(v.toInt - lo).toNat]? = some q ∧ 0 ≤ q.2 ∧ J q.2.toNat) := by
  have hk : ∀ (k : Nat) (q : Int × Int), ps[k]? = some q → q.1 = lo + (k : Int) := by
    intro k q hq
    have hl := (List.getElem?_eq_some_iff.mp hq).1
    have h1 : (ps.map (fun q => q.1))[k]? = some q.1 := by rw [List.getElem?_map, hq]; rfl
    rw [hm, List.getElem?_map, List.getElem?_range hl] at h1
    exact (Option.some.inj h1).symm
  by_cases hout : v.toInt < lo ∨ lo + (ps.length : Int) - 1 < v.toInt
  · refine Or.inl ⟨hout, am_sw_none h (fun q hq e => ?_)⟩
    obtain ⟨k, hk1, hk2⟩ := List.getElem_of_mem hq
    have h1 := hk k q (by rw [List.getElem?_eq_getElem hk1, hk2])
    obtain ⟨b1, b2, -⟩ := hb q hq
    have h2 : v.toInt = q.1 := by rw [e]; exact am_toInt ⟨b1, b2⟩
    omega
  · have h1 : ¬ v.toInt < lo := fun q => hout (Or.inl q)
    have h2 : ¬ lo + (ps.length : Int) - 1 < v.toInt := fun q => hout (Or.inr q)
    have hlt : (v.toInt - lo).toNat < ps.length := by omega
    obtain ⟨q, hq⟩ : ∃ q, ps[(v.toInt - lo).toNat]? = some q := ⟨_, List.getElem?_eq_getElem hlt⟩
    have e1 := hk _ q hq
    obtain ⟨b1, b2, b3⟩ := hb q (List.mem_of_getElem? hq)
    refine Or.inr ⟨h1, h2, q, hq, b3, am_sw_at h hq ?_ (fun j z hj hz e => ?_)⟩
    · rw [← Int32.toInt_inj, am_toInt ⟨b1, b2⟩]; omega
    · have e2 := hk j z hz
      obtain ⟨c1, c2, -⟩ := hb z (List.mem_of_getElem? hz)
      have e3 : v.toInt = z.1 := by rw [e]; exact am_toInt ⟨c1, c2⟩
      omega
theorem am_K2 {G : am_D} {U : State} (hK : am_Kn G U) : ArrOfT U (G.2.2.2.1 0) .boolean ∧ ArrOfT U (G.2.2.2.1 1) .byte ∧ ArrOfT U (G.2.2.2.1 2) .int ∧ ArrOfT U (G.2.2.2.1 3) .long ∧ ArrOfT U (G.2.2.2.2.1 6) (.object "MoodSlips$Sentence") ∧ ArrOfT U (G.2.2.2.2.1 2) (.object "MoodSlips$Desk") :=
  ⟨(hK.1.2 0 _ rfl).1, (hK.1.2 1 _ rfl).1, (hK.1.2 2 _ rfl).1, (hK.1.2 3 _ rfl).1, (hK.1.2 4 _ rfl).1, (hK.1.2 5 _ rfl).1⟩
/-- a cell that is no object -/
theorem am_arr_at {G : am_D} {h : am_H} {H : Heap} (hr : am_rel G h H) {a : Nat} (ha : 23 ≤ a) {q : Nat × (List Int32 ⊕ (List Int64 ⊕ List Value))} (hc : h.1 a = .inr q) : a < h.2.1 ∧ am_at G (.inr q) (am_ad G a) H := by
  have h2 : a < h.2.1 := am_live hr (fun e => by rw [hc] at e; cases e)
  have h3 := hr.2.2.1 a ha h2
  rw [hc] at h3
  exact ⟨h2, h3⟩
section AMR2
variable {p : Program} {l : Launch} {e : Env} {R : Room} {s : State} {m : MethodId} {args : Array Value} {below : List Frame} {meth : Method} {c : Code} {H : Heap} {locs : List Loc} {cells slots : Nat} {Q : State → Prop}
variable {cc : ByteArray} {pc : Nat} {ls : Array Slot} {rest : List Value} {G : am_D} {h : am_H} {a : Nat}
theorem am_vin {G : am_D} {α : Type} {f : α → Value} {xs : List α} {cA : ClassId} {j : Int32} (h : vp_in j xs.length) : ¬ (j < 0 ∨ (am_arr cA (xs.map f)).slots.size ≤ j.toNatClampNeg) := by
  rw [am_arr_size, List.length_map]; exact h
theorem am_rdm {α : Type} {f : α → Value} {xs : List α} {cA : ClassId} {j : Nat} (d : α) (h : j < xs.length) : (am_arr cA (xs.map f)).slots[j]? = some (f (xs.getD j d)) := by
  rw [am_arr_get, List.getElem?_map, List.getD_eq_getElem?_getD, List.getElem?_eq_getElem h]; rfl
theorem am_row_ri (hx : p.tables.exec = Jvm.exec) (hb : c.code = cc) (hK : am_Kn G s) (hr : am_rel G h H) (hS : va_S (am_A G) s.heap H locs) {xs : List Int32} (hc : h.1 a = aI 2 xs) {j : Int32} (hin : vp_in j xs.length) (hdg : decode cc pc = .ok (.iaload, 1))
    (kk : W p l e R s m args below meth c H locs cells slots Q (F0 m (pc + 1) ls (.int (xs.getD j.toNatClampNeg 0) :: rest))) : W p l e R s m args below meth c H locs cells slots Q (F0 m pc ls (.int j :: .ref (am_ad G a) :: rest)) := by
  by_cases ha : 23 ≤ a
  · obtain ⟨-, h1, -, h2⟩ := am_arr_at hr ha hc
    exact W.iald hx hb h2 (am_isArr (am_K2 hK).2.2.1 _) (fun q => by cases q) (am_vin (G := G) hin) (am_rdm 0 (am_in_lt hin)) rfl rfl hdg kk
  · rw [hr.2.2.2.1 a (by omega)] at hc
    have ha0 : a = 0 := by
      obtain ⟨-, -, -, -, -, -, -, -, -, h12, hs⟩ := hK
      rcases Nat.lt_or_ge a 3 with g | g
      · rcases (show a = 0 ∨ a = 1 ∨ a = 2 by omega) with q | q
        · exact q
        · obtain ⟨ys, ey, -⟩ := h12 a q; rw [ey] at hc; cases hc
      · obtain ⟨ys, av, ey, -⟩ := hs a g (by omega); rw [ey] at hc; cases hc
    subst ha0
    obtain ⟨-, -, -, -, -, -, -, -, ⟨ys, ey, hT⟩, -⟩ := hK
    rw [ey] at hc
    cases hc
    rw [am_ad_lo (by omega)]
    exact va_ti hx hb hT hS hin rfl hdg kk
theorem am_row_rj (hx : p.tables.exec = Jvm.exec) (hb : c.code = cc) (hK : am_Kn G s) (hr : am_rel G h H) (hS : va_S (am_A G) s.heap H locs) {t : Nat} {xs : List Int64} (hc : h.1 a = .inr (t, .inr (.inl xs))) {j : Int32} (hin : vp_in j xs.length) (hdg : decode cc pc = .ok (.laload, 1))
    (kk : W p l e R s m args below meth c H locs cells slots Q (F0 m (pc + 1) ls (.long (xs.getD j.toNatClampNeg 0) :: rest))) : W p l e R s m args below meth c H locs cells slots Q (F0 m pc ls (.int j :: .ref (am_ad G a) :: rest)) := by
  by_cases ha : 23 ≤ a
  · obtain ⟨-, h1, h2⟩ := am_arr_at hr ha hc
    exact W.lald hx hb h2 (am_isArr (am_K2 hK).2.2.2.1 _) (fun q => by cases q) (am_vin (G := G) hin) (am_rdm 0 (am_in_lt hin)) rfl rfl hdg kk
  · rw [hr.2.2.2.1 a (by omega)] at hc
    have ha0 : a = 1 ∨ a = 2 := by
      obtain ⟨-, -, -, -, -, -, -, -, ⟨ys, ey, -⟩, h12, hs⟩ := hK
      rcases Nat.lt_or_ge a 3 with g | g
      · rcases (show a = 0 ∨ a = 1 ∨ a = 2 by omega) with q | q
        · subst q; rw [ey] at hc; cases hc
        · exact q
      · obtain ⟨ys, av, ey, -⟩ := hs a g (by omega); rw [ey] at hc; cases hc
    obtain ⟨-, -, -, -, -, -, -, -, -, h12, -⟩ := hK
    obtain ⟨ys, ey, hT⟩ := h12 a ha0
    rw [ey] at hc
    cases hc
    rw [am_ad_lo (by omega)]
    exact va_tl hx hb hT hS hin rfl hdg kk
theorem am_lo_int {G : am_D} {U : State} (hK : am_Kn G U) {a t : Nat} {xs : List Int32} (ha : a < 23) (ht : t < 2) (hc : G.2.2.2.2.2 a = .inr (t, .inl xs)) : False := by
  obtain ⟨-, -, -, -, -, -, -, -, ⟨ys, ey, -⟩, h12, hs⟩ := hK
  rcases Nat.lt_or_ge a 3 with g | g
  · rcases (show a = 0 ∨ a = 1 ∨ a = 2 by omega) with q | q
    · subst q; rw [ey] at hc; cases hc; omega
    · obtain ⟨ys, ey, -⟩ := h12 a q; rw [ey] at hc; cases hc
  · obtain ⟨ys, av, ey, -⟩ := hs a g ha; rw [ey] at hc; cases hc; omega
theorem am_lo_ref {G : am_D} {U : State} (hK : am_Kn G U) {a t : Nat} {xs : List Value} (ha : a < 23) (hc : G.2.2.2.2.2 a = .inr (t, .inr (.inr xs))) : False := by
  obtain ⟨-, -, -, -, -, -, -, -, ⟨ys, ey, -⟩, h12, hs⟩ := hK
  rcases Nat.lt_or_ge a 3 with g | g
  · rcases (show a = 0 ∨ a = 1 ∨ a = 2 by omega) with q | q
    · subst q; rw [ey] at hc; cases hc
    · obtain ⟨ys, ey, -⟩ := h12 a q; rw [ey] at hc; cases hc
  · obtain ⟨ys, av, ey, -⟩ := hs a g ha; rw [ey] at hc; cases hc
theorem am_row_rb (hx : p.tables.exec = Jvm.exec) (hb : c.code = cc) (hK : am_Kn G s) (hr : am_rel G h H) {t : Nat} (ht : t < 2) {xs : List Int32} (hc : h.1 a = .inr (t, .inl xs)) {j : Int32} (hin : vp_in j xs.length) (hdg : decode cc pc = .ok (.baload, 1))
    (kk : W p l e R s m args below meth c H locs cells slots Q (F0 m (pc + 1) ls (.int (xs.getD j.toNatClampNeg 0) :: rest))) : W p l e R s m args below meth c H locs cells slots Q (F0 m pc ls (.int j :: .ref (am_ad G a) :: rest)) := by
  by_cases ha : 23 ≤ a
  · obtain ⟨-, h1, -, h2⟩ := am_arr_at hr ha hc
    rcases (show t = 0 ∨ t = 1 by omega) with q | q
    · subst q
      exact W.zald hx hb h2 (am_isArr (am_K2 hK).1 _) (fun q => by cases q) (am_vin (G := G) hin) (am_rdm 0 (am_in_lt hin)) rfl rfl hdg kk
    · subst q
      exact W.bald hx hb h2 (am_isArr (am_K2 hK).2.1 _) (fun q => by cases q) (am_vin (G := G) hin) (am_rdm 0 (am_in_lt hin)) rfl rfl hdg kk
  · rw [hr.2.2.2.1 a (by omega)] at hc
    exact (am_lo_int hK (by omega) ht hc).elim
theorem am_row_rr (hx : p.tables.exec = Jvm.exec) (hb : c.code = cc) (hK : am_Kn G s) (hr : am_rel G h H) {t : Nat} {xs : List Value} (hc : h.1 a = .inr (t, .inr (.inr xs))) {j : Int32} (hin : vp_in j xs.length) (hdg : decode cc pc = .ok (.aaload, 1))
    (kk : W p l e R s m args below meth c H locs cells slots Q (F0 m (pc + 1) ls (am_v G (xs.getD j.toNatClampNeg .null) :: rest))) : W p l e R s m args below meth c H locs cells slots Q (F0 m pc ls (.int j :: .ref (am_ad G a) :: rest)) := by
  by_cases ha : 23 ≤ a
  · obtain ⟨-, h1, h2⟩ := am_arr_at hr ha hc
    rcases h1 with q | q
    · subst q
      exact W.aald hx hb h2 (am_isArr (am_K2 hK).2.2.2.2.1 _) rfl (fun q => by cases q) (am_vin (G := G) hin) (am_rdm .null (am_in_lt hin)) rfl rfl hdg kk
    · subst q
      exact W.aald hx hb h2 (am_isArr (am_K2 hK).2.2.2.2.2 _) rfl (fun q => by cases q) (am_vin (G := G) hin) (am_rdm .null (am_in_lt hin)) rfl rfl hdg kk
  · rw [hr.2.2.2.1 a (by omega)] at hc
    exact (am_lo_ref hK (by omega) hc).elim
end AMR2
