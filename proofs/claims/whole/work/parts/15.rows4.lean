/-! ===== new arrays, references in arrays, copies, Math ===== -/
theorem am_w_native : Cond.native arraycopyName ∈ am_TBL := am_wat_in (i := 681) (by decide +kernel)
theorem am_w_acstat : Cond.static arraycopyName ∈ am_TBL := am_wat_in (i := 680) (by decide +kernel)
theorem am_w_system : Cond.initialized "java/lang/System" ∈ am_TBL := am_wat_in (i := 20) (by decide +kernel)
theorem am_w_math : Cond.initialized "java/lang/Math" ∈ am_TBL := am_wat_in (i := 19) (by decide +kernel)
theorem am_w_maxs : Cond.static Lib.Math.max.name ∈ am_TBL := am_wat_in (i := 1020) (by decide +kernel)
theorem am_w_mins : Cond.static Lib.Math.min.name ∈ am_TBL := am_wat_in (i := 677) (by decide +kernel)
theorem am_w_maxc : Cond.code Lib.Math.max.name Lib.Math.max.code 2 (some .int) ∈ am_TBL := am_wat_in (i := 1021) (by decide +kernel)
theorem am_w_minc : Cond.code Lib.Math.min.name Lib.Math.min.code 2 (some .int) ∈ am_TBL := am_wat_in (i := 678) (by decide +kernel)
theorem am_w_bool : Cond.arrayClass .boolean ∈ am_TBL := List.mem_filter.mpr ⟨List.mem_append_right _ (by decide +kernel), rfl⟩
theorem am_w_byte : Cond.arrayClass .byte ∈ am_TBL := List.mem_filter.mpr ⟨List.mem_append_right _ (by decide +kernel), rfl⟩
theorem am_w_int : Cond.arrayClass .int ∈ am_TBL := List.mem_filter.mpr ⟨List.mem_append_right _ (by decide +kernel), rfl⟩
theorem am_w_long : Cond.arrayClass .long ∈ am_TBL := List.mem_filter.mpr ⟨List.mem_append_right _ (by decide +kernel), rfl⟩
theorem am_repl {α : Type} (f : α → Value) (x : α) (n : Nat) : Array.replicate n (f x) = ((List.replicate n x).map f).toArray := by
  rw [List.map_replicate, ← List.toArray_replicate]
/-- a copied row -/
theorem am_cpy_eq {α : Type} (f : α → Value) (d : α) (hd : f d = Value.null ∨ True) (c0 c1 : ClassId) (xs ys : List α) {sp dp n : Nat} (h1 : sp + n ≤ xs.length) (h2 : dp + n ≤ ys.length) :
    (am_arr c1 (ys.map f)).storeRun dp ((am_arr c0 (xs.map f)).stretch sp n) = am_arr c1 ((am_cpy xs ys sp dp n).map f) := by
  have conv : ∀ (c : ClassId) (zs : List α), am_arr c (zs.map f) = arrV c zs.length (fun j => f (zs.getD j d)) := by
    intro c zs
    unfold am_arr arrV
    congr 1
    apply Array.ext
    · simp
    · intro j j1 j2
      simp at j1
      simp [j1, List.getD_eq_getElem?_getD]
  have hl : (am_cpy xs ys sp dp n).length = ys.length := by
    unfold am_cpy
    simp
    omega
  rw [conv c0 xs, conv c1 ys, conv c1, hl, va_copied f c0 c1 (fun j => xs.getD j d) (fun j => ys.getD j d) h1]
  unfold arrV
  congr 1
  apply Array.ext
  · simp
  · intro j j1 j2
    simp at j1
    simp only [Array.getElem_ofFn]
    congr 1
    unfold va_cpy am_cpy
    simp only [List.getD_eq_getElem?_getD]
    by_cases hj : dp ≤ j ∧ j < dp + n
    · rw [if_pos hj, List.append_assoc, List.getElem?_append_right (by simp; omega), List.getElem?_append_left (by simp; omega), List.getElem?_take, if_pos (by simp; omega), List.getElem?_drop]
      congr 2
      simp
      omega
    · rw [if_neg hj]
      by_cases hj2 : j < dp
      · rw [List.append_assoc, List.getElem?_append_left (by simp; omega), List.getElem?_take, if_pos hj2]
      · rw [List.getElem?_append_right (by simp; omega), List.getElem?_drop]
        congr 2
        simp
        omega
section AMR4
variable {p : Program} {l : Launch} {e : Env} {R : Room} {s : State} {m : MethodId} {args : Array Value} {below : List Frame} {meth : Method} {c : Code} {H : Heap} {locs : List Loc} {cells slots : Nat} {Q : State → Prop}
variable {cc : ByteArray} {pc : Nat} {ls : Array Slot} {rest : List Value} {G : am_D} {h : am_H} {a : Nat}
theorem am_row_newI (hx : p.tables.exec = Jvm.exec) (hb : c.code = cc) (hts : ∀ w ∈ am_TBL, w.before args s = true) (hK : am_Kn G s) {t : ArrayType} (ht : am_atag t < 3) {n : Int32} (hn : ¬ n < 0) (hs : n.toNatClampNeg ≤ 65536) (hdg : decode cc pc = .ok (.newarray t, 2)) (hcells : cells + 1 ≤ R.cells) (hslots : slots + n.toNatClampNeg ≤ R.slots)
    (kk : ∀ cell : Cell, am_at G (aI (am_atag t) (List.replicate n.toNatClampNeg 0)) H.size (H.push cell) → W p l e R s m args below meth c (H.push cell) locs (cells + 1) (slots + n.toNatClampNeg) Q (F0 m (pc + 2) ls (.ref H.size :: rest))) : W p l e R s m args below meth c H locs cells slots Q (F0 m pc ls (.int n :: rest)) := by
  have hb0 : componentBytes (newarray.typeOf t) ≤ 8 := by cases t <;> decide
  have hbytes : n.toNatClampNeg * componentBytes (newarray.typeOf t) ≤ 536870912 := Nat.le_trans (Nat.mul_le_mul hs hb0) (by decide)
  have harr : Cond.arrayClass (newarray.typeOf t) ∈ am_TBL := by
    cases t <;> first | exact am_w_bool | exact am_w_byte | exact am_w_int | exact absurd ht (by decide)
  refine W.newa hx hb (hts _ harr) rfl hdg rfl hn hbytes hcells hslots (fun cA kA comp f1 f2 f3 => kk _ ?_)
  have hd : Array.replicate n.toNatClampNeg (defaultValue (newarray.typeOf t)) = ((List.replicate n.toNatClampNeg (0 : Int32)).map Value.int).toArray := by
    rw [← am_repl]
    cases t <;> first | rfl | exact absurd ht (by decide)
  refine ⟨ht, fun _ y hy => ?_, ?_⟩
  · rw [(List.mem_replicate.mp hy).2]; rfl
  · rw [hd]
    have hcA : cA = G.2.2.2.1 (am_atag t) := by
      cases t <;> first | exact Option.some.inj (f1.symm.trans (hK.1.2 0 _ rfl).2) | exact Option.some.inj (f1.symm.trans (hK.1.2 1 _ rfl).2) | exact Option.some.inj (f1.symm.trans (hK.1.2 2 _ rfl).2) | exact absurd ht (by decide)
    rw [hcA]
    simp [am_arr]
theorem am_row_newJ (hx : p.tables.exec = Jvm.exec) (hb : c.code = cc) (hts : ∀ w ∈ am_TBL, w.before args s = true) (hK : am_Kn G s) {n : Int32} (hn : ¬ n < 0) (hs : n.toNatClampNeg ≤ 65536) (hdg : decode cc pc = .ok (.newarray .long, 2)) (hcells : cells + 1 ≤ R.cells) (hslots : slots + n.toNatClampNeg ≤ R.slots)
    (kk : ∀ cell : Cell, am_at G (aJ (List.replicate n.toNatClampNeg 0)) H.size (H.push cell) → W p l e R s m args below meth c (H.push cell) locs (cells + 1) (slots + n.toNatClampNeg) Q (F0 m (pc + 2) ls (.ref H.size :: rest))) : W p l e R s m args below meth c H locs cells slots Q (F0 m pc ls (.int n :: rest)) := by
  have hbytes : n.toNatClampNeg * componentBytes (newarray.typeOf .long) ≤ 536870912 := Nat.le_trans (Nat.mul_le_mul hs (show _ ≤ 8 by decide)) (by decide)
  refine W.newa (atype := .long) hx hb (hts _ am_w_long) rfl hdg rfl hn hbytes hcells hslots (fun cA kA comp f1 f2 f3 => kk _ ⟨rfl, ?_⟩)
  have hcA : cA = G.2.2.2.1 3 := Option.some.inj (f1.symm.trans (hK.1.2 3 _ rfl).2)
  have hd : Array.replicate n.toNatClampNeg (defaultValue (newarray.typeOf .long)) = ((List.replicate n.toNatClampNeg (0 : Int64)).map Value.long).toArray := by
    rw [← am_repl]; rfl
  rw [hd, hcA]
  simp [am_arr]
theorem am_row_newR (hx : p.tables.exec = Jvm.exec) (hb : c.code = cc) (hts : ∀ w ∈ am_TBL, w.before args s = true) (hK : am_Kn G s) {o : Nat} (hown : s.vm.findClass (am_own o) = some m.cls) {k : Nat} (hk : k = 6 ∨ k = 2) {q : Nat × Nat × Nat × Nat} (hq : q ∈ am_kl2) (h1 : q.1 = o) (h2 : q.2.2.1 = k) {n : Int32} (hn : ¬ n < 0) (hs : n.toNatClampNeg ≤ 65536) (hdg : decode cc pc = .ok (.anewarray q.2.1, 3)) (hcells : cells + 1 ≤ R.cells) (hslots : slots + n.toNatClampNeg ≤ R.slots)
    (kk : ∀ cell : Cell, am_at G (aR k (List.replicate n.toNatClampNeg .null)) H.size (H.push cell) → W p l e R s m args below meth c (H.push cell) locs (cells + 1) (slots + n.toNatClampNeg) Q (F0 m (pc + 3) ls (.ref H.size :: rest))) : W p l e R s m args below meth c H locs cells slots Q (F0 m pc ls (.int n :: rest)) := by
  have hw := List.all_eq_true.mp am_kl2_ok q hq
  simp only [Bool.and_eq_true, decide_eq_true_eq] at hw
  have w1 := hw.1
  rw [h1, h2] at w1
  have hrep : ∀ cA : ClassId, ({ cls := cA, slots := Array.replicate n.toNatClampNeg .null, vm := .none } : Cell) = am_arr cA ((List.replicate n.toNatClampNeg Value.null).map (am_v G)) := by
    intro cA
    rw [List.map_replicate]
    simp [am_arr, am_v]
  obtain ⟨-, -, -, hA1, hA2, -⟩ := id hK
  rcases hk with hk | hk <;> subst hk
  · refine W.anew hx hb hown (hts _ (am_wat_in w1)) hA1.use rfl hdg rfl hn (by omega) hcells hslots (fun cA kA comp f1 f2 f3 f4 => kk _ ⟨Or.inl rfl, ?_⟩)
    obtain ⟨_, _, -, -, -, g⟩ := (hK.1.2 4 _ rfl).2
    rw [Option.some.inj (f1.symm.trans g), hrep]
    simp
  · refine W.anew hx hb hown (hts _ (am_wat_in w1)) hA2.use rfl hdg rfl hn (by omega) hcells hslots (fun cA kA comp f1 f2 f3 f4 => kk _ ⟨Or.inr rfl, ?_⟩)
    obtain ⟨_, _, -, -, -, g⟩ := (hK.1.2 5 _ rfl).2
    rw [Option.some.inj (f1.symm.trans g), hrep]
    simp
theorem am_row_wr (hx : p.tables.exec = Jvm.exec) (hb : c.code = cc) (hK : am_Kn G s) (hr : am_rel G h H) (ha : 23 ≤ a) {t v : Nat} {xs : List Value} (hc : h.1 a = .inr (t, .inr (.inr xs))) (hv : am_isO t (h.1 v)) {j : Int32} (hin : vp_in j xs.length) (hdg : decode cc pc = .ok (.aastore, 1))
    (kk : ∀ (H' : Heap) (L : List Loc), H'.size = H.size → (∀ q, q ≠ am_ad G a → H'[q]? = H[q]?) → am_at G (.inr (t, .inr (.inr (xs.set j.toNatClampNeg (.ref v))))) (am_ad G a) H' → (∀ q ∈ L, q.base = am_ad G a) → W p l e R s m args below meth c H' (locs ++ L) cells slots Q (F0 m (pc + 1) ls rest)) : W p l e R s m args below meth c H locs cells slots Q (F0 m pc ls (.ref (am_ad G v) :: .int j :: .ref (am_ad G a) :: rest)) := by
  obtain ⟨-, h1, h2⟩ := am_arr_at hr ha hc
  have ht : t < 13 := by omega
  match hq : h.1 v, hv with
  | .inl (k, fs), hv =>
    have hv' : k = t := hv
    subst hv'
    obtain ⟨-, -, -, cellV, g1, g2, g3, -⟩ := am_obj hK hr hq ht
    have hcls := (hK.1.1 k _ (am_cls_at ht)).2
    have fin : ∀ H' : Heap, H'[am_ad G a]? = some ((am_arr (G.2.2.2.2.1 k) (xs.map (am_v G))).setSlot j.toNatClampNeg (.ref (am_ad G v))) → H'.size = H.size → (∀ q, q ≠ am_ad G a → H'[q]? = H[q]?) → W p l e R s m args below meth c H' (locs ++ [⟨am_ad G a, j.toNatClampNeg⟩]) cells slots Q (F0 m (pc + 1) ls rest) := fun H' e1 e2 e3 => kk H' _ e2 e3 ⟨h1, by rw [e1, am_arr_set, List.map_set]; rfl⟩ (fun q => am_one)
    have hin' : ¬ j < 0 ∧ j.toNatClampNeg < (am_arr (G.2.2.2.2.1 k) (xs.map (am_v G))).slots.size := ⟨fun q => hin (Or.inl q), by rw [am_arr_size, List.length_map]; exact am_in_lt hin⟩
    obtain ⟨kC, hkC, -⟩ := hcls.2
    have key : ∃ (kA : Class) (C : String), s.vm.classes[G.2.2.2.2.1 k]? = some kA ∧ kA.kind = .array (G.2.2.1.1 k) (.object C) := by
      rcases h1 with q | q
      · subst q
        obtain ⟨kA, comp, k1, k2, k3, -⟩ := (hK.1.2 4 _ rfl).2
        exact ⟨kA, _, k1, by rw [← Option.some.inj (k3.symm.trans hcls.1)]; exact k2⟩
      · subst q
        obtain ⟨kA, comp, k1, k2, k3, -⟩ := (hK.1.2 5 _ rfl).2
        exact ⟨kA, _, k1, by rw [← Option.some.inj (k3.symm.trans hcls.1)]; exact k2⟩
    obtain ⟨kA, C, k1, k2⟩ := key
    exact W.aast hx hb h2 (fun q h => by cases h) (fun h => by cases h) k1 k2 rfl hkC hin' g1 (fun q h => by rw [g3] at h; cases h) (by rw [g2]; exact hkC) (by rw [g2]; exact va_assign hcls) rfl rfl hdg fin
theorem am_row_wn (hx : p.tables.exec = Jvm.exec) (hb : c.code = cc) (hK : am_Kn G s) (hr : am_rel G h H) (ha : 23 ≤ a) {t : Nat} {xs : List Value} (hc : h.1 a = .inr (t, .inr (.inr xs))) {j : Int32} (hin : vp_in j xs.length) (hdg : decode cc pc = .ok (.aastore, 1))
    (kk : ∀ (H' : Heap) (L : List Loc), H'.size = H.size → (∀ q, q ≠ am_ad G a → H'[q]? = H[q]?) → am_at G (.inr (t, .inr (.inr (xs.set j.toNatClampNeg .null)))) (am_ad G a) H' → (∀ q ∈ L, q.base = am_ad G a) → W p l e R s m args below meth c H' (locs ++ L) cells slots Q (F0 m (pc + 1) ls rest)) : W p l e R s m args below meth c H locs cells slots Q (F0 m pc ls (.null :: .int j :: .ref (am_ad G a) :: rest)) := by
  obtain ⟨-, h1, h2⟩ := am_arr_at hr ha hc
  have fin : ∀ H' : Heap, H'[am_ad G a]? = some ((am_arr (G.2.2.2.2.1 t) (xs.map (am_v G))).setSlot j.toNatClampNeg .null) → H'.size = H.size → (∀ q, q ≠ am_ad G a → H'[q]? = H[q]?) → W p l e R s m args below meth c H' (locs ++ [⟨am_ad G a, j.toNatClampNeg⟩]) cells slots Q (F0 m (pc + 1) ls rest) := fun H' e1 e2 e3 => kk H' _ e2 e3 ⟨h1, by rw [e1, am_arr_set, List.map_set]; rfl⟩ (fun q => am_one)
  rcases h1 with q | q <;> subst q
  · exact va_WaastN hx hb h2 (am_isArr (am_K2 hK).2.2.2.2.1 _) (fun h => by cases h) (am_vin (G := G) hin) rfl rfl hdg fin
  · exact va_WaastN hx hb h2 (am_isArr (am_K2 hK).2.2.2.2.2 _) (fun h => by cases h) (am_vin (G := G) hin) rfl rfl hdg fin
theorem am_nn {z : Int32} (hz : 0 ≤ z.toInt) : z.toInt = (z.toNatClampNeg : Int) ∧ ¬ z < 0 := by
  refine ⟨?_, fun q => ?_⟩
  · show z.toInt = ((z.toInt.toNat : Nat) : Int)
    omega
  · rw [Int32.lt_iff_toInt_lt, Int32.toInt_zero] at q
    omega
theorem am_row_copy {α : Type} {f : α → Value} (dd : α) (hx : p.tables.exec = Jvm.exec) (hb : c.code = cc) (hml : c.maxLocals = ls.size) (hts : ∀ w ∈ am_TBL, w.before args s = true) {o : Nat} (hown : s.vm.findClass (am_own o) = some m.cls) {q : Nat × Nat × Nat} (hq : q ∈ am_al) (h1 : q.1 = o) {src dst : Nat} (hne : src ≠ dst) {cA : ClassId} {ty : FieldType} (hA : ArrOfT s cA ty) (hprim : refKind ty = false) {xs ys : List α} (hsrc : H[src]? = some (am_arr cA (xs.map f))) (hdst : H[dst]? = some (am_arr cA (ys.map f))) (hfit : ∀ x ∈ xs, fits ty (f x) = true)
    {sp dp n : Int32} (b1 : 0 ≤ sp.toInt) (b2 : 0 ≤ dp.toInt) (b3 : 0 ≤ n.toInt) (b4 : sp.toInt + n.toInt ≤ xs.length) (b5 : dp.toInt + n.toInt ≤ ys.length) (hframes : 1 ≤ R.frames) (hlocals : (rest.map fun v => v.category).sum + (nativeFrameWords "java/lang/System" "arraycopy" 5 + 11) ≤ R.locals) (hdg : decode cc pc = .ok (.invokestatic q.2.1, 3))
    (kk : ∀ (H' : Heap) (L : List Loc), H'.size = H.size → (∀ q, q ≠ dst → H'[q]? = H[q]?) → H'[dst]? = some (am_arr cA ((am_cpy xs ys sp.toNatClampNeg dp.toNatClampNeg n.toNatClampNeg).map f)) → (∀ q ∈ L, q.base = dst) → W p l e R s m args below meth c H' (locs ++ L) cells slots Q (F0 m (pc + 3) ls rest)) : W p l e R s m args below meth c H locs cells slots Q (F0 m pc ls (.int n :: .int dp :: .ref dst :: .int sp :: .ref src :: rest)) := by
  have hw := List.all_eq_true.mp am_al_ok q hq
  rw [h1] at hw
  obtain ⟨e1, n1⟩ := am_nn b1
  obtain ⟨e2, n2⟩ := am_nn b2
  obtain ⟨e3, n3⟩ := am_nn b3
  intro T hT X
  obtain ⟨-, k0, hk0, cm0, hkk0⟩ := hA 0 (fun _ => .null)
  obtain ⟨vm', X', step⟩ := X.arraycopy hx hown (hts _ (am_wat_in hw)) (hts _ am_w_native) (hts _ am_w_acstat) (hts _ am_w_system) (src := src) (dst := dst) (cs := am_arr cA (xs.map f)) (cd := am_arr cA (ys.map f)) (srcPos := sp) (destPos := dp) (n := n) (by rw [hT]; exact hsrc) (by rw [hT]; exact hdst)
    (fun _ h => by cases h) (fun _ h => by cases h) (fun h => by cases h) (fun h => by cases h) hk0 hk0 hkk0 hkk0 (by simp [hprim]) n1 n2 n3
    (by rw [am_arr_size, List.length_map]; omega)
    (by rw [am_arr_size, List.length_map]; omega)
    (fun vm₁ _ i hi => by
      have hlt : sp.toNatClampNeg + i < xs.length := by omega
      have e : (am_arr cA (xs.map f)).slots.getD (sp.toNatClampNeg + i) .null = f (xs[sp.toNatClampNeg + i]) := by
        rw [Array.getD_eq_getD_getElem?, am_arr_get, List.getElem?_map, List.getElem?_eq_getElem hlt]
        rfl
      have hf := hfit _ (List.getElem_mem hlt)
      rw [e]
      refine ⟨hf, ?_⟩
      cases ty <;> first | (simp [refKind] at hprim; done) | (cases hv : f (xs[sp.toNatClampNeg + i]) <;> rw [hv] at hf <;> first | exact trivial | (simp [fits] at hf; done)))
    (g := F0 m pc ls (.int n :: .int dp :: .ref dst :: .int sp :: .ref src :: rest)) rfl (by rw [hml]) (rest := rest) rfl (by rw [hb]; exact hdg) hframes (by show 2 * 0 + _ + _ ≤ _; omega)
  have ec : copied (am_arr cA (xs.map f)) (am_arr cA (ys.map f)) sp dp n = am_arr cA ((am_cpy xs ys sp.toNatClampNeg dp.toNatClampNeg n.toNatClampNeg).map f) := am_cpy_eq f dd (Or.inr trivial) cA cA xs ys (by omega) (by omega)
  rw [ec] at X' step
  have hl : dst < H.size := (Array.getElem?_eq_some_iff.mp hdst).1
  obtain ⟨t, a1, b1⟩ := kk (H.setIfInBounds dst (am_arr cA ((am_cpy xs ys sp.toNatClampNeg dp.toNatClampNeg n.toNatClampNeg).map f))) _ (by simp) (fun q hq => by simp [Array.getElem?_setIfInBounds, Ne.symm hq]) (show (H.setIfInBounds dst _)[dst]? = some _ by simp [Array.getElem?_setIfInBounds, hl]) (fun q hq => by
      obtain ⟨z, -, hz⟩ := List.mem_map.mp hq
      rw [← hz]) _ (by rw [← hT]; rfl) X'
  exact ⟨t, step t a1, b1⟩
end AMR4
