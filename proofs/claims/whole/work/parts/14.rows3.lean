/-! ===== stores, lengths, new arrays, copies ===== -/
section AMR3
variable {p : Program} {l : Launch} {e : Env} {R : Room} {s : State} {m : MethodId} {args : Array Value} {below : List Frame} {meth : Method} {c : Code} {H : Heap} {locs : List Loc} {cells slots : Nat} {Q : State → Prop}
variable {cc : ByteArray} {pc : Nat} {ls : Array Slot} {rest : List Value} {G : am_D} {h : am_H} {a : Nat}
theorem am_one {q : Loc} {a i : Nat} (h : q ∈ [(⟨a, i⟩ : Loc)]) : q.base = a := by rw [List.mem_singleton] at h; rw [h]
theorem am_row_wi (hx : p.tables.exec = Jvm.exec) (hb : c.code = cc) (hK : am_Kn G s) (hr : am_rel G h H) (ha : 23 ≤ a) {xs : List Int32} (hc : h.1 a = aI 2 xs) {j v : Int32} (hin : vp_in j xs.length) (hdg : decode cc pc = .ok (.iastore, 1))
    (kk : ∀ (H' : Heap) (L : List Loc), H'.size = H.size → (∀ q, q ≠ am_ad G a → H'[q]? = H[q]?) → am_at G (aI 2 (xs.set j.toNatClampNeg v)) (am_ad G a) H' → (∀ q ∈ L, q.base = am_ad G a) → W p l e R s m args below meth c H' (locs ++ L) cells slots Q (F0 m (pc + 1) ls rest)) : W p l e R s m args below meth c H locs cells slots Q (F0 m pc ls (.int v :: .int j :: .ref (am_ad G a) :: rest)) := by
  obtain ⟨-, h1, -, h2⟩ := am_arr_at hr ha hc
  refine W.iast hx hb h2 (am_isArr (am_K2 hK).2.2.1 _) (fun q => by cases q) (am_vin (G := G) hin) rfl rfl hdg (fun H' e1 e2 e3 => kk H' _ e2 e3 ⟨h1, (fun q => by cases q), ?_⟩ (fun q => am_one))
  rw [e1, am_arr_set, List.map_set]
theorem am_row_wj (hx : p.tables.exec = Jvm.exec) (hb : c.code = cc) (hK : am_Kn G s) (hr : am_rel G h H) (ha : 23 ≤ a) {t : Nat} {xs : List Int64} (hc : h.1 a = .inr (t, .inr (.inl xs))) {j : Int32} {v : Int64} (hin : vp_in j xs.length) (hdg : decode cc pc = .ok (.lastore, 1))
    (kk : ∀ (H' : Heap) (L : List Loc), H'.size = H.size → (∀ q, q ≠ am_ad G a → H'[q]? = H[q]?) → am_at G (.inr (t, .inr (.inl (xs.set j.toNatClampNeg v)))) (am_ad G a) H' → (∀ q ∈ L, q.base = am_ad G a) → W p l e R s m args below meth c H' (locs ++ L) cells slots Q (F0 m (pc + 1) ls rest)) : W p l e R s m args below meth c H locs cells slots Q (F0 m pc ls (.long v :: .int j :: .ref (am_ad G a) :: rest)) := by
  obtain ⟨-, h1, h2⟩ := am_arr_at hr ha hc
  refine W.last hx hb h2 (am_isArr (am_K2 hK).2.2.2.1 _) (fun q => by cases q) (am_vin (G := G) hin) rfl rfl hdg (fun H' e1 e2 e3 => kk H' _ e2 e3 ⟨h1, ?_⟩ (fun q => am_one))
  rw [e1, am_arr_set, List.map_set]
theorem am_row_wb (hx : p.tables.exec = Jvm.exec) (hb : c.code = cc) (hK : am_Kn G s) (hr : am_rel G h H) (ha : 23 ≤ a) {t : Nat} (ht : t < 2) {xs : List Int32} (hc : h.1 a = .inr (t, .inl xs)) {j v : Int32} (hin : vp_in j xs.length) (hdg : decode cc pc = .ok (.bastore, 1))
    (kk : ∀ (H' : Heap) (L : List Loc), H'.size = H.size → (∀ q, q ≠ am_ad G a → H'[q]? = H[q]?) → am_at G (.inr (t, .inl (xs.set j.toNatClampNeg (if t = 0 then v &&& 1 else v.toInt8.toInt32)))) (am_ad G a) H' → (∀ q ∈ L, q.base = am_ad G a) → W p l e R s m args below meth c H' (locs ++ L) cells slots Q (F0 m (pc + 1) ls rest)) : W p l e R s m args below meth c H locs cells slots Q (F0 m pc ls (.int v :: .int j :: .ref (am_ad G a) :: rest)) := by
  obtain ⟨-, h1, h3, h2⟩ := am_arr_at hr ha hc
  rcases (show t = 0 ∨ t = 1 by omega) with q | q
  · subst q
    refine W.zast hx hb h2 (am_isArr (am_K2 hK).1 _) (fun q => by cases q) (am_vin (G := G) hin) rfl rfl hdg (fun H' e1 e2 e3 => kk H' _ e2 e3 ⟨h1, (fun q => by cases q), ?_⟩ (fun q => am_one))
    rw [e1, am_arr_set, List.map_set]
    rfl
  · subst q
    refine W.bast hx hb h2 (am_isArr (am_K2 hK).2.1 _) (fun q => by cases q) (am_vin (G := G) hin) rfl rfl hdg (fun H' e1 e2 e3 => kk H' _ e2 e3 ⟨h1, fun _ y hy => ?_, ?_⟩ (fun q => am_one))
    · rcases List.mem_or_eq_of_mem_set hy with g | g
      · exact h3 rfl y g
      · rw [g]; simp
    · rw [e1, am_arr_set, List.map_set]
      rfl
theorem am_row_len (hx : p.tables.exec = Jvm.exec) (hb : c.code = cc) (hK : am_Kn G s) (hr : am_rel G h H) (hS : va_S (am_A G) s.heap H locs) {P : Nat → Prop} (hc : am_len P (h.1 a)) (hdg : decode cc pc = .ok (.arraylength, 1))
    (kk : ∀ n, P n → W p l e R s m args below meth c H locs cells slots Q (F0 m (pc + 1) ls (.int (nI n) :: rest))) : W p l e R s m args below meth c H locs cells slots Q (F0 m pc ls (.ref (am_ad G a) :: rest)) := by
  by_cases ha : 23 ≤ a
  · match hq : h.1 a, hc with
    | .inr (t, .inl xs), hc =>
      obtain ⟨c1, c2, c3⟩ := hc
      obtain ⟨-, h1, -, h2⟩ := am_arr_at hr ha hq
      have hsz : (am_arr (G.2.2.2.1 t) (xs.map Value.int)).slots.size.toInt32 = nI xs.length := by rw [am_arr_size, List.length_map]; rfl
      rcases (show t = 0 ∨ t = 1 ∨ t = 2 by omega) with q | q | q <;> subst q
      · exact W.alen hx hb h2 (am_isArr (am_K2 hK).1 _) hsz rfl rfl hdg (kk _ c3)
      · exact W.alen hx hb h2 (am_isArr (am_K2 hK).2.1 _) hsz rfl rfl hdg (kk _ c3)
      · exact W.alen hx hb h2 (am_isArr (am_K2 hK).2.2.1 _) hsz rfl rfl hdg (kk _ c3)
    | .inr (t, .inr (.inl xs)), hc =>
      obtain ⟨-, h1, h2⟩ := am_arr_at hr ha hq
      exact W.alen hx hb h2 (am_isArr (am_K2 hK).2.2.2.1 _) (by rw [am_arr_size, List.length_map]; rfl) rfl rfl hdg (kk _ hc.2)
    | .inr (t, .inr (.inr xs)), hc =>
      obtain ⟨-, h1, h2⟩ := am_arr_at hr ha hq
      have hsz : (am_arr (G.2.2.2.2.1 t) (xs.map (am_v G))).slots.size.toInt32 = nI xs.length := by rw [am_arr_size, List.length_map]; rfl
      rcases h1 with q | q <;> subst q
      · exact W.alen hx hb h2 (am_isArr (am_K2 hK).2.2.2.2.1 _) hsz rfl rfl hdg (kk _ hc.2)
      · exact W.alen hx hb h2 (am_isArr (am_K2 hK).2.2.2.2.2 _) hsz rfl rfl hdg (kk _ hc.2)
  · rw [hr.2.2.2.1 a (by omega)] at hc
    rw [am_ad_lo (by omega)]
    obtain ⟨-, -, -, -, -, -, -, -, ⟨ys, ey, hT⟩, h12, hs⟩ := hK
    rcases Nat.lt_or_ge a 3 with g | g
    · rcases (show a = 0 ∨ a = 1 ∨ a = 2 by omega) with q | q
      · subst q; rw [ey] at hc; exact va_tlen hx hb hT hS rfl hdg (kk _ hc.2.2)
      · obtain ⟨zs, ez, hT2⟩ := h12 a q; rw [ez] at hc; exact va_tlen hx hb hT2 hS rfl hdg (kk _ hc.2)
    · obtain ⟨zs, av, ez, -⟩ := hs a g (by omega); rw [ez] at hc; exact absurd hc.1 (by omega)
end AMR3
