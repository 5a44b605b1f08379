/-! ===== the machine's rows over the abstract heap ===== -/
theorem am_h0 {G : am_D} {U : State} (hK : am_Kn G U) {a : Nat} (ha : a < 23) : ∃ q, G.2.2.2.2.2 a = .inr q := by
  obtain ⟨-, -, -, -, -, -, -, -, ⟨xs, h0, -⟩, h12, hs⟩ := hK
  by_cases h : a = 0
  · subst h; exact ⟨_, h0⟩
  · by_cases h2 : a = 1 ∨ a = 2
    · obtain ⟨xs, e, -⟩ := h12 a h2; exact ⟨_, e⟩
    · obtain ⟨xs, av, e, -⟩ := hs a (by omega) ha; exact ⟨_, e⟩
theorem am_obj {G : am_D} {U : State} (hK : am_Kn G U) {h : am_H} {H : Heap} (hr : am_rel G h H) {a c : Nat} {fs : List Value} (hc : h.1 a = .inl (c, fs)) (h99 : c < 13) : 23 ≤ a ∧ a < h.2.1 ∧ fs.length = (am_cl3 c).2.2 ∧ t_OB (am_ad G a) (G.2.2.1.1 c) (am_cl3 c).2.2 (G.2.2.1.2 c) H (vp_V (fs.map (am_v G))) := by
  have h1 : 23 ≤ a := Nat.le_of_not_lt fun ha => by
    obtain ⟨q, hq⟩ := am_h0 hK ha
    rw [hr.2.2.2.1 a ha, hq] at hc
    cases hc
  have h2 : a < h.2.1 := am_live hr (fun e => by rw [hc] at e; cases e; omega)
  have h3 := hr.2.2.1 a h1 h2
  rw [hc] at h3
  obtain ⟨r, e1, e2, e3⟩ := h3
  obtain ⟨-, rfl⟩ := am_cls_of e1
  exact ⟨h1, h2, e2, e3⟩
section AMR
variable {p : Program} {l : Launch} {e : Env} {R : Room} {s : State} {m : MethodId} {args : Array Value} {below : List Frame} {meth : Method} {c : Code} {H : Heap} {locs : List Loc} {cells slots : Nat} {Q : State → Prop}
variable {cc : ByteArray} {pc : Nat} {ls : Array Slot} {rest : List Value} {G : am_D} {h : am_H} {a : Nat}
theorem am_row_get (hx : p.tables.exec = Jvm.exec) (hb : c.code = cc) (hts : ∀ w ∈ am_TBL, w.before args s = true) (hK : am_Kn G s) {o : Nat} (hown : s.vm.findClass (am_own o) = some m.cls) (hr : am_rel G h H) {k x : Nat} {fs : List Value} (hc : h.1 a = .inl (k, fs)) {v : Value} (hv : fs[x]? = some v) {q : Nat × Nat × Nat × Nat × Nat} (hq : q ∈ am_fl) (h1 : q.1 = o) (h2 : q.2.2.1 = k) (h3 : q.2.2.2.1 = x) (hdg : decode cc pc = .ok (.getfield q.2.1, 3))
    (kk : W p l e R s m args below meth c H locs cells slots Q (F0 m (pc + 3) ls (am_v G v :: rest))) : W p l e R s m args below meth c H locs cells slots Q (F0 m pc ls (.ref (am_ad G a) :: rest)) := by
  have hw := List.all_eq_true.mp am_fl_ok q hq
  simp only [Bool.and_eq_true, decide_eq_true_eq] at hw
  obtain ⟨⟨⟨w1, w2⟩, w3⟩, w4⟩ := hw
  rw [h1, h2, h3] at w1
  rw [h2, h3] at w2 w3
  rw [h2] at w4
  obtain ⟨-, -, -, hO⟩ := am_obj hK hr hc w4
  refine va_get (own := am_own o) (ref := (am_cl3 k).1) (C := (am_cl3 k).1) (T := (am_cl3 k).2.1) (N := (am_cl3 k).2.2) (ci := k) (ws := [(am_ad G a, .inr (k, fs.map (am_v G)))]) (D := G.2.2.1) (cl := am_cls) hx hb hts (am_hin w4) hown hK.1 (fun i z hz => ?_) 0 rfl (am_cls_at w4) x w2 (hts _ (am_wat_in w1)) (fun y hy => by rw [am_hdc w4 x w2] at hy; exact hy) (v := am_v G v) (by rw [List.getElem?_map, hv]; rfl) hdg kk
  have hi : i = 0 := by have := (List.getElem?_eq_some_iff.mp hz).1; simp at this; omega
  subst hi
  cases hz
  exact ⟨am_cl3 k, am_cls_at w4, hO⟩
theorem am_row_put (hx : p.tables.exec = Jvm.exec) (hb : c.code = cc) (hts : ∀ w ∈ am_TBL, w.before args s = true) (hK : am_Kn G s) {o : Nat} (hown : s.vm.findClass (am_own o) = some m.cls) (hr : am_rel G h H) {k x : Nat} {fs : List Value} (hc : h.1 a = .inl (k, fs)) {v : Value} (hl : x < fs.length) {q : Nat × Nat × Nat × Nat × Nat} (hq : q ∈ am_fl) (h1 : q.1 = o) (h2 : q.2.2.1 = k) (h3 : q.2.2.2.1 = x) (hdg : decode cc pc = .ok (.putfield q.2.1, 3))
    (hfin : ((am_cl3 k).2.1 x).2.2.2 = false ∨ (meth.name = "<init>" ∧ o = k)) (hn : narrow (am_ty k x) (am_v G v) = am_v G v) (hfit : fits (am_ty k x) (am_v G v) = true)
    (kk : ∀ (H' : Heap) (L : List Loc), H'.size = H.size → (∀ q, q ≠ am_ad G a → H'[q]? = H[q]?) → am_at G (.inl (k, fs.set x v)) (am_ad G a) H' → (∀ q ∈ L, q.base = am_ad G a) → W p l e R s m args below meth c H' (locs ++ L) cells slots Q (F0 m (pc + 3) ls rest)) : W p l e R s m args below meth c H locs cells slots Q (F0 m pc ls (am_v G v :: .ref (am_ad G a) :: rest)) := by
  have hw := List.all_eq_true.mp am_fl_ok q hq
  simp only [Bool.and_eq_true, decide_eq_true_eq] at hw
  obtain ⟨⟨⟨w1, w2⟩, w3⟩, w4⟩ := hw
  rw [h1, h2, h3] at w1
  rw [h2, h3] at w2 w3
  rw [h2] at w4
  obtain ⟨-, -, hlen, cell, q1, q2, q3, q4⟩ := am_obj hK hr hc w4
  have hap := va_apart (own := am_own o) hts (am_hin w4) (am_ty k) (am_hty w4) (am_hnm w4) hK.1 (am_cls_at w4)
  obtain ⟨hS, hfc, kC, hkC, hkind⟩ := hK.1.1 k _ (am_cls_at w4)
  obtain ⟨cf, kf, fi, f, hi, hsl⟩ := hS x w2
  have hlay := hts _ (am_hin w4 _ (u_in_lay w2))
  have hlays := u_lays hts (am_hin w4) w2
  have hst := (u_facts hfc hkC hlays hi).1
  have hi' : s.fieldFound? (am_cl3 k).1 ((am_cl3 k).2.1 x).2.1 ((am_cl3 k).2.1 x).2.2.1 = some (cf, kf, fi, f) := by rw [am_hdc w4 x w2] at hi; exact hi
  have fin : ∀ H' : Heap, H'[am_ad G a]? = some (cell.setSlot f.slot (am_v G v)) → H'.size = H.size → (∀ q, q ≠ am_ad G a → H'[q]? = H[q]?) → W p l e R s m args below meth c H' (locs ++ [⟨am_ad G a, f.slot⟩]) cells slots Q (F0 m (pc + 3) ls rest) := by
    intro H' e1 e2 e3
    refine kk H' [⟨am_ad G a, f.slot⟩] e2 e3 ⟨am_cl3 k, am_cls_at w4, by rw [List.length_set]; exact hlen, ?_⟩ (fun z hz => by rw [List.mem_singleton] at hz; rw [hz])
    rw [hsl] at e1
    rw [List.map_set]
    exact t_OB.to (V := updV (vp_V (fs.map (am_v G))) x (am_v G v)) ⟨_, e1, q2, q3, t_set q4 hap w2 (am_v G v)⟩ (fun j _ => vp_updV_set (by rw [List.length_map]; exact hl) (am_v G v) j)
  rcases hfin with hf | ⟨hm, ho⟩
  · unfold u_lay at hlay
    rw [if_neg (by rw [hf]; decide)] at hlay
    exact W.putK hx hb (f := f) ⟨hown, hts _ (am_wat_in w1), ⟨_, _, _, hi'⟩, hst⟩ (by rw [q2]; exact u_store hfc hkC hkind hlay hi (am_hty w4 x w2) hn hfit) q1 q3 (by rw [hsl]; exact k2_hasslot (q4 x w2)) rfl rfl hdg fin
  · by_cases hf : ((am_cl3 k).2.1 x).2.2.2 = true
    · unfold u_lay at hlay
      rw [if_pos hf] at hlay
      have hcf : m.cls = cf := by
        obtain ⟨_, _, c', _, _, _, -, -, hf', -, -, -, hown2, -⟩ := Cond.laysFinal_spec hlay
        have e1 : c' = cf := by have := hi.symm.trans hf'; simp at this; exact this.1.symm
        rw [am_hdc w4 x w2] at hown2
        have ho' : am_own o = (am_cl3 k).1 := by rw [ho]; have := am_rng am_own13 w4; simpa using this
        rw [← e1]; exact Option.some.inj (hown.symm.trans (by rw [ho']; exact hown2))
      exact W.putFinK hx hb hown (hts _ (am_wat_in w1)) hi' hst hcf hm (by rw [q2]; exact u_fits hfc hkC hkind (Or.inr hlay) hi (am_hty w4 x w2) hn hfit) q1 q3 (by rw [hsl]; exact k2_hasslot (q4 x w2)) rfl rfl hdg fin
    · unfold u_lay at hlay
      rw [if_neg hf] at hlay
      exact W.putK hx hb (f := f) ⟨hown, hts _ (am_wat_in w1), ⟨_, _, _, hi'⟩, hst⟩ (by rw [q2]; exact u_store hfc hkC hkind hlay hi (am_hty w4 x w2) hn hfit) q1 q3 (by rw [hsl]; exact k2_hasslot (q4 x w2)) rfl rfl hdg fin
theorem am_row_new (hx : p.tables.exec = Jvm.exec) (hb : c.code = cc) (hts : ∀ w ∈ am_TBL, w.before args s = true) (hK : am_Kn G s) {o : Nat} (hown : s.vm.findClass (am_own o) = some m.cls) {k : Nat} {q : Nat × Nat × Nat × Nat} (hq : q ∈ am_kl2) (h1 : q.1 = o) (h2 : q.2.2.1 = k) (hdg : decode cc pc = .ok (.new q.2.1, 3)) (hcells : cells + 1 ≤ R.cells) (hslots : slots + (am_cl3 k).2.2 ≤ R.slots)
    (kk : ∀ cell : Cell, am_at G (.inl (k, am_dflt k)) H.size (H.push cell) → W p l e R s m args below meth c (H.push cell) locs (cells + 1) (slots + (am_cl3 k).2.2) Q (F0 m (pc + 3) ls (.ref H.size :: rest))) : W p l e R s m args below meth c H locs cells slots Q (F0 m pc ls rest) := by
  have hw := List.all_eq_true.mp am_kl2_ok q hq
  simp only [Bool.and_eq_true, decide_eq_true_eq] at hw
  obtain ⟨w1, w2⟩ := hw
  rw [h1, h2] at w1
  rw [h2] at w2
  have hi := am_rng am_in_ok w2
  simp only [Bool.and_eq_true] at hi
  refine W.newc hx hb hown (hts _ (am_wat_in w1)) (hts _ (am_wat_in hi.1)) (hts _ (am_wat_in hi.2)) rfl hdg hcells hslots (fun cC kC f1 f2 f3 f4 => ?_)
  have hKn := hK.1.1 k _ (am_cls_at w2)
  have e0 : cC = G.2.2.1.1 k := Option.some.inj (f1.symm.trans hKn.2.1)
  subst e0
  refine kk _ ⟨am_cl3 k, am_cls_at w2, by rw [am_hdf w2]; simp, ?_⟩
  have hborn := u_born (am_ty k) hts (am_hin w2) hKn f2 (H := H.push (blank (G.2.2.1.1 k) kC)) (o := H.size) (by simp) (am_hty w2)
  refine hborn.to (fun j hj => ?_)
  rw [am_hdf w2]
  unfold vp_V
  rw [List.map_map, List.getD_eq_getElem?_getD, List.getElem?_map, List.getElem?_range hj]
  show _ = am_v G (defaultValue (am_ty k j))
  cases am_ty k j <;> rfl
end AMR
