/-! ===== the fixed part of the heap as functions (printed by wip/tools/gen7.py) ===== -/
def upz {α : Type} (f : Nat → α) (k : Nat) (x : α) : Nat → α := fun i => if i = k then x else f i
def am_ar {α : Type} (n : Nat) (f : Nat → α) : List α := (List.range n).map f
theorem upz_at {α : Type} (f : Nat → α) (k : Nat) (x : α) (i : Nat) : upz f k x i = if i = k then x else f i := rfl
theorem upz_eq {α : Type} (f : Nat → α) (k : Nat) (x : α) : upz f k x k = x := if_pos rfl
theorem upz_ne {α : Type} (f : Nat → α) {k i : Nat} (x : α) (h : i ≠ k) : upz f k x i = f i := if_neg h
theorem upz_upd {α : Type} (f : Nat → α) (k : Nat) (x y : α) : upz (upz f k x) k y = upz f k y := by
  funext i; unfold upz; split <;> rfl
theorem upz_self {α : Type} (f : Nat → α) (k : Nat) : upz f k (f k) = f := by
  funext i; unfold upz; split
  · rename_i h; rw [h]
  · rfl
theorem upz_comm {α : Type} (f : Nat → α) {j k : Nat} (x y : α) (h : j ≠ k) : upz (upz f j x) k y = upz (upz f k y) j x := by
  funext i
  unfold upz
  by_cases h1 : i = k
  · subst h1; simp [Ne.symm h]
  · simp [h1]
theorem am_ar_len {α : Type} (n : Nat) (f : Nat → α) : (am_ar n f).length = n := by simp [am_ar]
theorem am_ar_getD {α : Type} (n : Nat) (f : Nat → α) (i : Nat) (d : α) : (am_ar n f).getD i d = if i < n then f i else d := by
  unfold am_ar
  rw [List.getD_eq_getElem?_getD, List.getElem?_map]
  by_cases h : i < n
  · rw [List.getElem?_range h, if_pos h]; rfl
  · rw [List.getElem?_eq_none (by simpa using h), if_neg h]; rfl
theorem am_ar_set {α : Type} (n : Nat) (f : Nat → α) (i : Nat) (x : α) : (am_ar n f).set i x = am_ar n (upz f i x) := by
  apply List.ext_getElem?
  intro j
  unfold am_ar upz
  rw [List.getElem?_set]
  by_cases h : i = j
  · subst h
    by_cases h2 : i < n
    · simp [h2]
    · simp [h2]
  · rw [if_neg h]
    by_cases h2 : j < n
    · simp [h2, Ne.symm h]
    · simp [h2]
theorem am_ar_congr {α : Type} {n : Nat} {f g : Nat → α} (h : ∀ i, i < n → f i = g i) : am_ar n f = am_ar n g := by
  unfold am_ar
  exact List.map_congr_left (fun i hi => h i (List.mem_range.mp hi))
theorem am_ar_repl {α : Type} (n : Nat) (x : α) : List.replicate n x = am_ar n (fun _ => x) := by
  apply List.ext_getElem?
  intro j
  unfold am_ar
  by_cases h2 : j < n <;> simp [h2]
abbrev oE : Type := (Nat → Int32) → (Nat → Int64) → (Nat → Value) → am_E
def oc_23 : oE := fun f j v => aO 11 [.ref 24, .ref 34, .ref 38, .ref 47, .ref 51, .ref 55, .ref 61, .ref 64, .ref 65, .ref 75, .ref 80, .int (f 11), .ref 81, .int (f 13)]
def oc_24 : oE := fun f j v => aO 5 [.ref 25, .int (f 1), .int (f 2), .int (f 3), .int (f 4), .int (f 5), .int (f 6), .int (f 7), .int (f 8), .int (f 9), .int (f 10), .ref 26, .ref 32]
def oc_25 : oE := fun f j v => aI 1 (am_ar 400 f)
def oc_26 : oE := fun f j v => aO 9 [.ref 27, .ref 28, .ref 29, .ref 30, .ref 31, .int (f 5)]
def oc_27 : oE := fun f j v => aI 2 (am_ar 48 f)
def oc_28 : oE := fun f j v => aI 2 (am_ar 48 f)
def oc_29 : oE := fun f j v => aI 2 (am_ar 48 f)
def oc_30 : oE := fun f j v => aI 2 (am_ar 48 f)
def oc_31 : oE := fun f j v => aJ (am_ar 192 j)
def oc_32 : oE := fun f j v => aO 10 [.ref 33, .int (f 1)]
def oc_33 : oE := fun f j v => aI 1 (am_ar 512 f)
def oc_34 : oE := fun f j v => aO 2 [.ref 35, .int (f 1), v 2, .int (f 3), .ref 36, .ref 37, .int (f 6), .int (f 7)]
def oc_35 : oE := fun f j v => aR 6 (am_ar 12 v)
def oc_36 : oE := fun f j v => aR 6 (am_ar 12 v)
def oc_37 : oE := fun f j v => aI 0 (am_ar 12 f)
def oc_38 : oE := fun f j v => aR 2 (am_ar 2 v)
def oc_39 : oE := fun f j v => aO 2 [.ref 40, .int (f 1), v 2, .int (f 3), .ref 41, .ref 42, .int (f 6), .int (f 7)]
def oc_40 : oE := fun f j v => aR 6 (am_ar 12 v)
def oc_41 : oE := fun f j v => aR 6 (am_ar 12 v)
def oc_42 : oE := fun f j v => aI 0 (am_ar 12 f)
def oc_43 : oE := fun f j v => aO 2 [.ref 44, .int (f 1), v 2, .int (f 3), .ref 45, .ref 46, .int (f 6), .int (f 7)]
def oc_44 : oE := fun f j v => aR 6 (am_ar 12 v)
def oc_45 : oE := fun f j v => aR 6 (am_ar 12 v)
def oc_46 : oE := fun f j v => aI 0 (am_ar 12 f)
def oc_47 : oE := fun f j v => aO 8 [.ref 48, .ref 49, .int (f 2), .ref 50, .int (f 4)]
def oc_48 : oE := fun f j v => aJ (am_ar 4 j)
def oc_49 : oE := fun f j v => aJ (am_ar 52 j)
def oc_50 : oE := fun f j v => aJ (am_ar 16 j)
def oc_51 : oE := fun f j v => aO 6 [.int (f 0), .int (f 1), .int (f 2), .int (f 3), .int (f 4), .int (f 5), .ref 53, .ref 54, .ref 52]
def oc_52 : oE := fun f j v => aI 1 (am_ar 0 f)
def oc_53 : oE := fun f j v => aJ (am_ar 4 j)
def oc_54 : oE := fun f j v => aJ (am_ar 4 j)
def oc_55 : oE := fun f j v => aO 0 [.ref 56, .int (f 1), .ref 57, .ref 58, .int (f 4), v 5, .ref 60, .int (f 7)]
def oc_56 : oE := fun f j v => aI 2 (am_ar 13 f)
def oc_57 : oE := fun f j v => aI 2 (am_ar 256 f)
def oc_58 : oE := fun f j v => aI 2 (am_ar 256 f)
def oc_59 : oE := fun f j v => aI 1 (am_ar 2 f)
def oc_60 : oE := fun f j v => aI 2 (am_ar 13 f)
def oc_61 : oE := fun f j v => aO 4 [.int (f 0), v 1, .int (f 2), .int (f 3), .ref 63]
def oc_62 : oE := fun f j v => aI 1 (am_ar 1 f)
def oc_63 : oE := fun f j v => aO 3 [.int (f 0), .int (f 1), .int (f 2), .int (f 3)]
def oc_64 : oE := fun f j v => aO 3 [.int (f 0), .int (f 1), .int (f 2), .int (f 3)]
def oc_65 : oE := fun f j v => aO 7 [.int (f 0), .int (f 1), .int (f 2), .int (f 3), .int (f 4), .int (f 5), .ref 66, .int (f 7), .int (f 8), .ref 67, .ref 71]
def oc_66 : oE := fun f j v => aI 1 (am_ar 64 f)
def oc_67 : oE := fun f j v => aO 8 [.ref 68, .ref 69, .int (f 2), .ref 70, .int (f 4)]
def oc_68 : oE := fun f j v => aJ (am_ar 4 j)
def oc_69 : oE := fun f j v => aJ (am_ar 52 j)
def oc_70 : oE := fun f j v => aJ (am_ar 16 j)
def oc_71 : oE := fun f j v => aO 6 [.int (f 0), .int (f 1), .int (f 2), .int (f 3), .int (f 4), .int (f 5), .ref 73, .ref 74, .ref 72]
def oc_72 : oE := fun f j v => aI 1 (am_ar 0 f)
def oc_73 : oE := fun f j v => aJ (am_ar 4 j)
def oc_74 : oE := fun f j v => aJ (am_ar 4 j)
def oc_75 : oE := fun f j v => aO 1 [.int (f 0), .ref 76, .ref 77, .ref 78, .ref 79, .int (f 5), .int (f 6)]
def oc_76 : oE := fun f j v => aI 2 (am_ar 256 f)
def oc_77 : oE := fun f j v => aI 2 (am_ar 256 f)
def oc_78 : oE := fun f j v => aI 2 (am_ar 256 f)
def oc_79 : oE := fun f j v => aI 2 (am_ar 256 f)
def oc_80 : oE := fun f j v => aI 2 (am_ar 12 f)
def oc_81 : oE := fun f j v => aI 2 (am_ar 5 f)
def oc_82 : oE := fun f j v => aO 12 [.int (f 0), .ref 83, .ref 84, .ref 85, .ref 86, .ref 87, .ref 88, .ref 89, .int (f 8), .int (f 9), .ref 90, .ref 91, .ref 92, .int (f 13), .int (f 14), .int (f 15), .int (f 16), .ref 93, .int (f 18), .int (f 19), .int (f 20), .int (f 21), .int (f 22), .int (f 23), .ref 94, .ref 95, .ref 96, .int (f 27), .ref 97, .ref 98, .ref 99, .int (f 31), .ref 100, .ref 101, .ref 102, .ref 103, .ref 104, .int (f 37), .int (f 38), .int (f 39), .ref 105, .ref 106, .ref 107, .int (f 43), .int (f 44), .int (f 45), .int (f 46)]
def oc_83 : oE := fun f j v => aI 2 (am_ar 7 f)
def oc_84 : oE := fun f j v => aI 2 (am_ar 2698 f)
def oc_85 : oE := fun f j v => aI 2 (am_ar 5396 f)
def oc_86 : oE := fun f j v => aI 0 (am_ar 2 f)
def oc_87 : oE := fun f j v => aI 1 (am_ar 74 f)
def oc_88 : oE := fun f j v => aI 1 (am_ar 400 f)
def oc_89 : oE := fun f j v => aI 2 (am_ar 5 f)
def oc_90 : oE := fun f j v => aI 2 (am_ar 401 f)
def oc_91 : oE := fun f j v => aI 2 (am_ar 401 f)
def oc_92 : oE := fun f j v => aI 2 (am_ar 401 f)
def oc_93 : oE := fun f j v => aI 2 (am_ar 260 f)
def oc_94 : oE := fun f j v => aI 0 (am_ar 32 f)
def oc_95 : oE := fun f j v => aI 1 (am_ar 1200 f)
def oc_96 : oE := fun f j v => aI 2 (am_ar 260 f)
def oc_97 : oE := fun f j v => aI 2 (am_ar 8 f)
def oc_98 : oE := fun f j v => aI 2 (am_ar 320 f)
def oc_99 : oE := fun f j v => aI 2 (am_ar 32 f)
def oc_100 : oE := fun f j v => aI 2 (am_ar 8 f)
def oc_101 : oE := fun f j v => aI 2 (am_ar 256 f)
def oc_102 : oE := fun f j v => aI 2 (am_ar 256 f)
def oc_103 : oE := fun f j v => aI 2 (am_ar 40 f)
def oc_104 : oE := fun f j v => aI 2 (am_ar 40 f)
def oc_105 : oE := fun f j v => aI 2 (am_ar 256 f)
def oc_106 : oE := fun f j v => aI 2 (am_ar 64 f)
def oc_107 : oE := fun f j v => aI 2 (am_ar 12 f)
def ocl : List oE := [oc_23, oc_24, oc_25, oc_26, oc_27, oc_28, oc_29, oc_30, oc_31, oc_32, oc_33, oc_34, oc_35, oc_36, oc_37, oc_38, oc_39, oc_40, oc_41, oc_42, oc_43, oc_44, oc_45, oc_46, oc_47, oc_48, oc_49, oc_50, oc_51, oc_52, oc_53, oc_54, oc_55, oc_56, oc_57, oc_58, oc_59, oc_60, oc_61, oc_62, oc_63, oc_64, oc_65, oc_66, oc_67, oc_68, oc_69, oc_70, oc_71, oc_72, oc_73, oc_74, oc_75, oc_76, oc_77, oc_78, oc_79, oc_80, oc_81, oc_82, oc_83, oc_84, oc_85, oc_86, oc_87, oc_88, oc_89, oc_90, oc_91, oc_92, oc_93, oc_94, oc_95, oc_96, oc_97, oc_98, oc_99, oc_100, oc_101, oc_102, oc_103, oc_104, oc_105, oc_106, oc_107]
def oc (a : Nat) (f : Nat → Int32) (j : Nat → Int64) (v : Nat → Value) : am_E := ocl.getD (a - 23) (fun _ _ _ => am_bad) f j v
def ov (h : am_H) (F : Nat → Nat → Int32) (J : Nat → Nat → Int64) (V : Nat → Nat → Value) : am_H := (fun a => if 23 ≤ a ∧ a < 108 then oc a (F a) (J a) (V a) else h.1 a, h.2)
theorem ov_lo {h : am_H} {F : Nat → Nat → Int32} {J : Nat → Nat → Int64} {V : Nat → Nat → Value} {a : Nat} (h1 : 23 ≤ a) (h2 : a < 108) : (ov h F J V).1 a = oc a (F a) (J a) (V a) := if_pos ⟨h1, h2⟩
theorem ov_hi {h : am_H} {F : Nat → Nat → Int32} {J : Nat → Nat → Int64} {V : Nat → Nat → Value} {a : Nat} (h1 : ¬ (23 ≤ a ∧ a < 108)) : (ov h F J V).1 a = h.1 a := if_neg h1
theorem ov_2 {h : am_H} {F : Nat → Nat → Int32} {J : Nat → Nat → Int64} {V : Nat → Nat → Value} : (ov h F J V).2 = h.2 := rfl
theorem ov_setF {h : am_H} {F : Nat → Nat → Int32} {J : Nat → Nat → Int64} {V : Nat → Nat → Value} {a : Nat} {f : Nat → Int32} (h1 : 23 ≤ a) (h2 : a < 108) : am_set (ov h F J V) a (oc a f (J a) (V a)) = ov h (upz F a f) J V := by
  refine Prod.ext (funext fun b => ?_) rfl
  rw [am_set1]
  by_cases hb : b = a
  · subst hb; rw [if_pos rfl, ov_lo h1 h2, upz_eq]
  · rw [if_neg hb]
    by_cases hr : 23 ≤ b ∧ b < 108
    · rw [ov_lo hr.1 hr.2, ov_lo hr.1 hr.2, upz_ne _ _ hb]
    · rw [ov_hi hr, ov_hi hr]
theorem ov_setJ {h : am_H} {F : Nat → Nat → Int32} {J : Nat → Nat → Int64} {V : Nat → Nat → Value} {a : Nat} {f : Nat → Int64} (h1 : 23 ≤ a) (h2 : a < 108) : am_set (ov h F J V) a (oc a (F a) f (V a)) = ov h F (upz J a f) V := by
  refine Prod.ext (funext fun b => ?_) rfl
  rw [am_set1]
  by_cases hb : b = a
  · subst hb; rw [if_pos rfl, ov_lo h1 h2, upz_eq]
  · rw [if_neg hb]
    by_cases hr : 23 ≤ b ∧ b < 108
    · rw [ov_lo hr.1 hr.2, ov_lo hr.1 hr.2, upz_ne _ _ hb]
    · rw [ov_hi hr, ov_hi hr]
theorem ov_setV {h : am_H} {F : Nat → Nat → Int32} {J : Nat → Nat → Int64} {V : Nat → Nat → Value} {a : Nat} {f : Nat → Value} (h1 : 23 ≤ a) (h2 : a < 108) : am_set (ov h F J V) a (oc a (F a) (J a) f) = ov h F J (upz V a f) := by
  refine Prod.ext (funext fun b => ?_) rfl
  rw [am_set1]
  by_cases hb : b = a
  · subst hb; rw [if_pos rfl, ov_lo h1 h2, upz_eq]
  · rw [if_neg hb]
    by_cases hr : 23 ≤ b ∧ b < 108
    · rw [ov_lo hr.1 hr.2, ov_lo hr.1 hr.2, upz_ne _ _ hb]
    · rw [ov_hi hr, ov_hi hr]
theorem ov_setH {h : am_H} {F : Nat → Nat → Int32} {J : Nat → Nat → Int64} {V : Nat → Nat → Value} {a : Nat} {e : am_E} (h1 : ¬ (23 ≤ a ∧ a < 108)) : am_set (ov h F J V) a e = ov (am_set h a e) F J V := by
  refine Prod.ext (funext fun b => ?_) rfl
  rw [am_set1]
  by_cases hr : 23 ≤ b ∧ b < 108
  · rw [ov_lo hr.1 hr.2, ov_lo hr.1 hr.2, if_neg (fun e : b = a => h1 (by rw [← e]; exact hr))]
  · rw [ov_hi hr, ov_hi hr, am_set1]
theorem ov_new {h : am_H} {F : Nat → Nat → Int32} {J : Nat → Nat → Int64} {V : Nat → Nat → Value} {e : am_E} {n : Nat} (h1 : 108 ≤ h.2.1) : am_new (ov h F J V) e n = ov (am_new h e n) F J V := by
  refine Prod.ext (funext fun b => ?_) rfl
  rw [am_new1, ov_2]
  by_cases hr : 23 ≤ b ∧ b < 108
  · rw [ov_lo hr.1 hr.2, ov_lo hr.1 hr.2, if_neg (by omega)]
  · rw [ov_hi hr, ov_hi hr, am_new1]
section OVR
variable {f : Nat → Int32} {jj : Nat → Int64} {v : Nat → Value}
theorem oq_rI {n : Nat} {j : Int32} {K : Int32 → Prop} : am_rI j K (aI 2 (am_ar n f)) = (vp_in j n ∧ K (f j.toNatClampNeg)) := by
  show (2 = 2 ∧ vp_in j (am_ar n f).length ∧ K ((am_ar n f).getD j.toNatClampNeg 0)) = _
  rw [am_ar_len, am_ar_getD]
  refine propext ⟨fun q => ⟨q.2.1, ?_⟩, fun q => ⟨rfl, q.1, ?_⟩⟩
  · have := q.2.2; rw [if_pos (Nat.lt_of_not_le fun g => q.2.1 (Or.inr g))] at this; exact this
  · rw [if_pos (Nat.lt_of_not_le fun g => q.1 (Or.inr g))]; exact q.2
theorem oq_rB {t n : Nat} (ht : t < 2) {j : Int32} {K : Int32 → Prop} : am_rB j K (aI t (am_ar n f)) = (vp_in j n ∧ K (f j.toNatClampNeg)) := by
  show (t < 2 ∧ vp_in j (am_ar n f).length ∧ K ((am_ar n f).getD j.toNatClampNeg 0)) = _
  rw [am_ar_len, am_ar_getD]
  refine propext ⟨fun q => ⟨q.2.1, ?_⟩, fun q => ⟨ht, q.1, ?_⟩⟩
  · have := q.2.2; rw [if_pos (Nat.lt_of_not_le fun g => q.2.1 (Or.inr g))] at this; exact this
  · rw [if_pos (Nat.lt_of_not_le fun g => q.1 (Or.inr g))]; exact q.2
theorem oq_rJ {n : Nat} {j : Int32} {K : Int64 → Prop} : am_rJ j K (aJ (am_ar n jj)) = (vp_in j n ∧ K (jj j.toNatClampNeg)) := by
  show (vp_in j (am_ar n jj).length ∧ K ((am_ar n jj).getD j.toNatClampNeg 0)) = _
  rw [am_ar_len, am_ar_getD]
  refine propext ⟨fun q => ⟨q.1, ?_⟩, fun q => ⟨q.1, ?_⟩⟩
  · have := q.2; rw [if_pos (Nat.lt_of_not_le fun g => q.1 (Or.inr g))] at this; exact this
  · rw [if_pos (Nat.lt_of_not_le fun g => q.1 (Or.inr g))]; exact q.2
theorem oq_rR {t n : Nat} {j : Int32} {K : Value → Prop} : am_rR j K (aR t (am_ar n v)) = (vp_in j n ∧ K (v j.toNatClampNeg)) := by
  show (vp_in j (am_ar n v).length ∧ K ((am_ar n v).getD j.toNatClampNeg .null)) = _
  rw [am_ar_len, am_ar_getD]
  refine propext ⟨fun q => ⟨q.1, ?_⟩, fun q => ⟨q.1, ?_⟩⟩
  · have := q.2; rw [if_pos (Nat.lt_of_not_le fun g => q.1 (Or.inr g))] at this; exact this
  · rw [if_pos (Nat.lt_of_not_le fun g => q.1 (Or.inr g))]; exact q.2
theorem oq_wI {n : Nat} {j x : Int32} {K : am_E → Prop} : am_wI j x K (aI 2 (am_ar n f)) = (vp_in j n ∧ K (aI 2 (am_ar n (upz f j.toNatClampNeg x)))) := by
  show (2 = 2 ∧ vp_in j (am_ar n f).length ∧ K (aI 2 ((am_ar n f).set j.toNatClampNeg x))) = _
  rw [am_ar_len, am_ar_set]
  exact propext ⟨fun q => q.2, fun q => ⟨rfl, q⟩⟩
theorem oq_wB0 {n : Nat} {j x : Int32} {K : am_E → Prop} : am_wB j x K (aI 0 (am_ar n f)) = (vp_in j n ∧ K (aI 0 (am_ar n (upz f j.toNatClampNeg (x &&& 1))))) := by
  show (0 < 2 ∧ vp_in j (am_ar n f).length ∧ K (aI 0 ((am_ar n f).set j.toNatClampNeg (x &&& 1)))) = _
  rw [am_ar_len, am_ar_set]
  exact propext ⟨fun q => q.2, fun q => ⟨by decide, q⟩⟩
theorem oq_wB1 {n : Nat} {j x : Int32} {K : am_E → Prop} : am_wB j x K (aI 1 (am_ar n f)) = (vp_in j n ∧ K (aI 1 (am_ar n (upz f j.toNatClampNeg x.toInt8.toInt32)))) := by
  show (1 < 2 ∧ vp_in j (am_ar n f).length ∧ K (aI 1 ((am_ar n f).set j.toNatClampNeg x.toInt8.toInt32))) = _
  rw [am_ar_len, am_ar_set]
  exact propext ⟨fun q => q.2, fun q => ⟨by decide, q⟩⟩
theorem oq_wJ {n : Nat} {j : Int32} {x : Int64} {K : am_E → Prop} : am_wJ j x K (aJ (am_ar n jj)) = (vp_in j n ∧ K (aJ (am_ar n (upz jj j.toNatClampNeg x)))) := by
  show (vp_in j (am_ar n jj).length ∧ K (aJ ((am_ar n jj).set j.toNatClampNeg x))) = _
  rw [am_ar_len, am_ar_set]
theorem oq_wR {t n : Nat} {j : Int32} {x : Value} {ok : Nat → Prop} {K : am_E → Prop} : am_wR j x ok K (aR t (am_ar n v)) = (vp_in j n ∧ ok t ∧ K (aR t (am_ar n (upz v j.toNatClampNeg x)))) := by
  show (vp_in j (am_ar n v).length ∧ ok t ∧ K (aR t ((am_ar n v).set j.toNatClampNeg x))) = _
  rw [am_ar_len, am_ar_set]
end OVR
theorem oq_t {p q : Prop} (h : p) : (p ∧ q) = q := propext ⟨fun z => z.2, fun z => ⟨h, z⟩⟩
theorem oa_23 {h : am_H} {F : Nat → Nat → Int32} {J : Nat → Nat → Int64} {V : Nat → Nat → Value} : (ov h F J V).1 23 = oc 23 (F 23) (J 23) (V 23) := ov_lo (by decide) (by decide)
theorem os_23 {h : am_H} {F : Nat → Nat → Int32} {J : Nat → Nat → Int64} {V : Nat → Nat → Value} {f : Nat → Int32} : am_set (ov h F J V) 23 (oc 23 f (J 23) (V 23)) = ov h (upz F 23 f) J V := ov_setF (by decide) (by decide)
theorem oa_24 {h : am_H} {F : Nat → Nat → Int32} {J : Nat → Nat → Int64} {V : Nat → Nat → Value} : (ov h F J V).1 24 = oc 24 (F 24) (J 24) (V 24) := ov_lo (by decide) (by decide)
theorem os_24 {h : am_H} {F : Nat → Nat → Int32} {J : Nat → Nat → Int64} {V : Nat → Nat → Value} {f : Nat → Int32} : am_set (ov h F J V) 24 (oc 24 f (J 24) (V 24)) = ov h (upz F 24 f) J V := ov_setF (by decide) (by decide)
theorem oa_25 {h : am_H} {F : Nat → Nat → Int32} {J : Nat → Nat → Int64} {V : Nat → Nat → Value} : (ov h F J V).1 25 = oc 25 (F 25) (J 25) (V 25) := ov_lo (by decide) (by decide)
theorem os_25 {h : am_H} {F : Nat → Nat → Int32} {J : Nat → Nat → Int64} {V : Nat → Nat → Value} {f : Nat → Int32} : am_set (ov h F J V) 25 (oc 25 f (J 25) (V 25)) = ov h (upz F 25 f) J V := ov_setF (by decide) (by decide)
theorem oa_26 {h : am_H} {F : Nat → Nat → Int32} {J : Nat → Nat → Int64} {V : Nat → Nat → Value} : (ov h F J V).1 26 = oc 26 (F 26) (J 26) (V 26) := ov_lo (by decide) (by decide)
theorem os_26 {h : am_H} {F : Nat → Nat → Int32} {J : Nat → Nat → Int64} {V : Nat → Nat → Value} {f : Nat → Int32} : am_set (ov h F J V) 26 (oc 26 f (J 26) (V 26)) = ov h (upz F 26 f) J V := ov_setF (by decide) (by decide)
theorem oa_27 {h : am_H} {F : Nat → Nat → Int32} {J : Nat → Nat → Int64} {V : Nat → Nat → Value} : (ov h F J V).1 27 = oc 27 (F 27) (J 27) (V 27) := ov_lo (by decide) (by decide)
theorem os_27 {h : am_H} {F : Nat → Nat → Int32} {J : Nat → Nat → Int64} {V : Nat → Nat → Value} {f : Nat → Int32} : am_set (ov h F J V) 27 (oc 27 f (J 27) (V 27)) = ov h (upz F 27 f) J V := ov_setF (by decide) (by decide)
theorem oa_28 {h : am_H} {F : Nat → Nat → Int32} {J : Nat → Nat → Int64} {V : Nat → Nat → Value} : (ov h F J V).1 28 = oc 28 (F 28) (J 28) (V 28) := ov_lo (by decide) (by decide)
theorem os_28 {h : am_H} {F : Nat → Nat → Int32} {J : Nat → Nat → Int64} {V : Nat → Nat → Value} {f : Nat → Int32} : am_set (ov h F J V) 28 (oc 28 f (J 28) (V 28)) = ov h (upz F 28 f) J V := ov_setF (by decide) (by decide)
theorem oa_29 {h : am_H} {F : Nat → Nat → Int32} {J : Nat → Nat → Int64} {V : Nat → Nat → Value} : (ov h F J V).1 29 = oc 29 (F 29) (J 29) (V 29) := ov_lo (by decide) (by decide)
theorem os_29 {h : am_H} {F : Nat → Nat → Int32} {J : Nat → Nat → Int64} {V : Nat → Nat → Value} {f : Nat → Int32} : am_set (ov h F J V) 29 (oc 29 f (J 29) (V 29)) = ov h (upz F 29 f) J V := ov_setF (by decide) (by decide)
theorem oa_30 {h : am_H} {F : Nat → Nat → Int32} {J : Nat → Nat → Int64} {V : Nat → Nat → Value} : (ov h F J V).1 30 = oc 30 (F 30) (J 30) (V 30) := ov_lo (by decide) (by decide)
theorem os_30 {h : am_H} {F : Nat → Nat → Int32} {J : Nat → Nat → Int64} {V : Nat → Nat → Value} {f : Nat → Int32} : am_set (ov h F J V) 30 (oc 30 f (J 30) (V 30)) = ov h (upz F 30 f) J V := ov_setF (by decide) (by decide)
theorem oa_31 {h : am_H} {F : Nat → Nat → Int32} {J : Nat → Nat → Int64} {V : Nat → Nat → Value} : (ov h F J V).1 31 = oc 31 (F 31) (J 31) (V 31) := ov_lo (by decide) (by decide)
theorem os_31 {h : am_H} {F : Nat → Nat → Int32} {J : Nat → Nat → Int64} {V : Nat → Nat → Value} {f : Nat → Int64} : am_set (ov h F J V) 31 (oc 31 (F 31) f (V 31)) = ov h F (upz J 31 f) V := ov_setJ (by decide) (by decide)
theorem oa_32 {h : am_H} {F : Nat → Nat → Int32} {J : Nat → Nat → Int64} {V : Nat → Nat → Value} : (ov h F J V).1 32 = oc 32 (F 32) (J 32) (V 32) := ov_lo (by decide) (by decide)
theorem os_32 {h : am_H} {F : Nat → Nat → Int32} {J : Nat → Nat → Int64} {V : Nat → Nat → Value} {f : Nat → Int32} : am_set (ov h F J V) 32 (oc 32 f (J 32) (V 32)) = ov h (upz F 32 f) J V := ov_setF (by decide) (by decide)
theorem oa_33 {h : am_H} {F : Nat → Nat → Int32} {J : Nat → Nat → Int64} {V : Nat → Nat → Value} : (ov h F J V).1 33 = oc 33 (F 33) (J 33) (V 33) := ov_lo (by decide) (by decide)
theorem os_33 {h : am_H} {F : Nat → Nat → Int32} {J : Nat → Nat → Int64} {V : Nat → Nat → Value} {f : Nat → Int32} : am_set (ov h F J V) 33 (oc 33 f (J 33) (V 33)) = ov h (upz F 33 f) J V := ov_setF (by decide) (by decide)
theorem oa_34 {h : am_H} {F : Nat → Nat → Int32} {J : Nat → Nat → Int64} {V : Nat → Nat → Value} : (ov h F J V).1 34 = oc 34 (F 34) (J 34) (V 34) := ov_lo (by decide) (by decide)
theorem os_34 {h : am_H} {F : Nat → Nat → Int32} {J : Nat → Nat → Int64} {V : Nat → Nat → Value} {f : Nat → Int32} : am_set (ov h F J V) 34 (oc 34 f (J 34) (V 34)) = ov h (upz F 34 f) J V := ov_setF (by decide) (by decide)
theorem osV_34 {h : am_H} {F : Nat → Nat → Int32} {J : Nat → Nat → Int64} {V : Nat → Nat → Value} {f : Nat → Value} : am_set (ov h F J V) 34 (oc 34 (F 34) (J 34) f) = ov h F J (upz V 34 f) := ov_setV (by decide) (by decide)
theorem oa_35 {h : am_H} {F : Nat → Nat → Int32} {J : Nat → Nat → Int64} {V : Nat → Nat → Value} : (ov h F J V).1 35 = oc 35 (F 35) (J 35) (V 35) := ov_lo (by decide) (by decide)
theorem os_35 {h : am_H} {F : Nat → Nat → Int32} {J : Nat → Nat → Int64} {V : Nat → Nat → Value} {f : Nat → Value} : am_set (ov h F J V) 35 (oc 35 (F 35) (J 35) f) = ov h F J (upz V 35 f) := ov_setV (by decide) (by decide)
theorem oa_36 {h : am_H} {F : Nat → Nat → Int32} {J : Nat → Nat → Int64} {V : Nat → Nat → Value} : (ov h F J V).1 36 = oc 36 (F 36) (J 36) (V 36) := ov_lo (by decide) (by decide)
theorem os_36 {h : am_H} {F : Nat → Nat → Int32} {J : Nat → Nat → Int64} {V : Nat → Nat → Value} {f : Nat → Value} : am_set (ov h F J V) 36 (oc 36 (F 36) (J 36) f) = ov h F J (upz V 36 f) := ov_setV (by decide) (by decide)
theorem oa_37 {h : am_H} {F : Nat → Nat → Int32} {J : Nat → Nat → Int64} {V : Nat → Nat → Value} : (ov h F J V).1 37 = oc 37 (F 37) (J 37) (V 37) := ov_lo (by decide) (by decide)
theorem os_37 {h : am_H} {F : Nat → Nat → Int32} {J : Nat → Nat → Int64} {V : Nat → Nat → Value} {f : Nat → Int32} : am_set (ov h F J V) 37 (oc 37 f (J 37) (V 37)) = ov h (upz F 37 f) J V := ov_setF (by decide) (by decide)
theorem oa_38 {h : am_H} {F : Nat → Nat → Int32} {J : Nat → Nat → Int64} {V : Nat → Nat → Value} : (ov h F J V).1 38 = oc 38 (F 38) (J 38) (V 38) := ov_lo (by decide) (by decide)
theorem os_38 {h : am_H} {F : Nat → Nat → Int32} {J : Nat → Nat → Int64} {V : Nat → Nat → Value} {f : Nat → Value} : am_set (ov h F J V) 38 (oc 38 (F 38) (J 38) f) = ov h F J (upz V 38 f) := ov_setV (by decide) (by decide)
theorem oa_39 {h : am_H} {F : Nat → Nat → Int32} {J : Nat → Nat → Int64} {V : Nat → Nat → Value} : (ov h F J V).1 39 = oc 39 (F 39) (J 39) (V 39) := ov_lo (by decide) (by decide)
theorem os_39 {h : am_H} {F : Nat → Nat → Int32} {J : Nat → Nat → Int64} {V : Nat → Nat → Value} {f : Nat → Int32} : am_set (ov h F J V) 39 (oc 39 f (J 39) (V 39)) = ov h (upz F 39 f) J V := ov_setF (by decide) (by decide)
theorem osV_39 {h : am_H} {F : Nat → Nat → Int32} {J : Nat → Nat → Int64} {V : Nat → Nat → Value} {f : Nat → Value} : am_set (ov h F J V) 39 (oc 39 (F 39) (J 39) f) = ov h F J (upz V 39 f) := ov_setV (by decide) (by decide)
theorem oa_40 {h : am_H} {F : Nat → Nat → Int32} {J : Nat → Nat → Int64} {V : Nat → Nat → Value} : (ov h F J V).1 40 = oc 40 (F 40) (J 40) (V 40) := ov_lo (by decide) (by decide)
theorem os_40 {h : am_H} {F : Nat → Nat → Int32} {J : Nat → Nat → Int64} {V : Nat → Nat → Value} {f : Nat → Value} : am_set (ov h F J V) 40 (oc 40 (F 40) (J 40) f) = ov h F J (upz V 40 f) := ov_setV (by decide) (by decide)
theorem oa_41 {h : am_H} {F : Nat → Nat → Int32} {J : Nat → Nat → Int64} {V : Nat → Nat → Value} : (ov h F J V).1 41 = oc 41 (F 41) (J 41) (V 41) := ov_lo (by decide) (by decide)
theorem os_41 {h : am_H} {F : Nat → Nat → Int32} {J : Nat → Nat → Int64} {V : Nat → Nat → Value} {f : Nat → Value} : am_set (ov h F J V) 41 (oc 41 (F 41) (J 41) f) = ov h F J (upz V 41 f) := ov_setV (by decide) (by decide)
theorem oa_42 {h : am_H} {F : Nat → Nat → Int32} {J : Nat → Nat → Int64} {V : Nat → Nat → Value} : (ov h F J V).1 42 = oc 42 (F 42) (J 42) (V 42) := ov_lo (by decide) (by decide)
theorem os_42 {h : am_H} {F : Nat → Nat → Int32} {J : Nat → Nat → Int64} {V : Nat → Nat → Value} {f : Nat → Int32} : am_set (ov h F J V) 42 (oc 42 f (J 42) (V 42)) = ov h (upz F 42 f) J V := ov_setF (by decide) (by decide)
theorem oa_43 {h : am_H} {F : Nat → Nat → Int32} {J : Nat → Nat → Int64} {V : Nat → Nat → Value} : (ov h F J V).1 43 = oc 43 (F 43) (J 43) (V 43) := ov_lo (by decide) (by decide)
theorem os_43 {h : am_H} {F : Nat → Nat → Int32} {J : Nat → Nat → Int64} {V : Nat → Nat → Value} {f : Nat → Int32} : am_set (ov h F J V) 43 (oc 43 f (J 43) (V 43)) = ov h (upz F 43 f) J V := ov_setF (by decide) (by decide)
theorem osV_43 {h : am_H} {F : Nat → Nat → Int32} {J : Nat → Nat → Int64} {V : Nat → Nat → Value} {f : Nat → Value} : am_set (ov h F J V) 43 (oc 43 (F 43) (J 43) f) = ov h F J (upz V 43 f) := ov_setV (by decide) (by decide)
theorem oa_44 {h : am_H} {F : Nat → Nat → Int32} {J : Nat → Nat → Int64} {V : Nat → Nat → Value} : (ov h F J V).1 44 = oc 44 (F 44) (J 44) (V 44) := ov_lo (by decide) (by decide)
theorem os_44 {h : am_H} {F : Nat → Nat → Int32} {J : Nat → Nat → Int64} {V : Nat → Nat → Value} {f : Nat → Value} : am_set (ov h F J V) 44 (oc 44 (F 44) (J 44) f) = ov h F J (upz V 44 f) := ov_setV (by decide) (by decide)
theorem oa_45 {h : am_H} {F : Nat → Nat → Int32} {J : Nat → Nat → Int64} {V : Nat → Nat → Value} : (ov h F J V).1 45 = oc 45 (F 45) (J 45) (V 45) := ov_lo (by decide) (by decide)
theorem os_45 {h : am_H} {F : Nat → Nat → Int32} {J : Nat → Nat → Int64} {V : Nat → Nat → Value} {f : Nat → Value} : am_set (ov h F J V) 45 (oc 45 (F 45) (J 45) f) = ov h F J (upz V 45 f) := ov_setV (by decide) (by decide)
theorem oa_46 {h : am_H} {F : Nat → Nat → Int32} {J : Nat → Nat → Int64} {V : Nat → Nat → Value} : (ov h F J V).1 46 = oc 46 (F 46) (J 46) (V 46) := ov_lo (by decide) (by decide)
theorem os_46 {h : am_H} {F : Nat → Nat → Int32} {J : Nat → Nat → Int64} {V : Nat → Nat → Value} {f : Nat → Int32} : am_set (ov h F J V) 46 (oc 46 f (J 46) (V 46)) = ov h (upz F 46 f) J V := ov_setF (by decide) (by decide)
theorem oa_47 {h : am_H} {F : Nat → Nat → Int32} {J : Nat → Nat → Int64} {V : Nat → Nat → Value} : (ov h F J V).1 47 = oc 47 (F 47) (J 47) (V 47) := ov_lo (by decide) (by decide)
theorem os_47 {h : am_H} {F : Nat → Nat → Int32} {J : Nat → Nat → Int64} {V : Nat → Nat → Value} {f : Nat → Int32} : am_set (ov h F J V) 47 (oc 47 f (J 47) (V 47)) = ov h (upz F 47 f) J V := ov_setF (by decide) (by decide)
theorem oa_48 {h : am_H} {F : Nat → Nat → Int32} {J : Nat → Nat → Int64} {V : Nat → Nat → Value} : (ov h F J V).1 48 = oc 48 (F 48) (J 48) (V 48) := ov_lo (by decide) (by decide)
theorem os_48 {h : am_H} {F : Nat → Nat → Int32} {J : Nat → Nat → Int64} {V : Nat → Nat → Value} {f : Nat → Int64} : am_set (ov h F J V) 48 (oc 48 (F 48) f (V 48)) = ov h F (upz J 48 f) V := ov_setJ (by decide) (by decide)
theorem oa_49 {h : am_H} {F : Nat → Nat → Int32} {J : Nat → Nat → Int64} {V : Nat → Nat → Value} : (ov h F J V).1 49 = oc 49 (F 49) (J 49) (V 49) := ov_lo (by decide) (by decide)
theorem os_49 {h : am_H} {F : Nat → Nat → Int32} {J : Nat → Nat → Int64} {V : Nat → Nat → Value} {f : Nat → Int64} : am_set (ov h F J V) 49 (oc 49 (F 49) f (V 49)) = ov h F (upz J 49 f) V := ov_setJ (by decide) (by decide)
theorem oa_50 {h : am_H} {F : Nat → Nat → Int32} {J : Nat → Nat → Int64} {V : Nat → Nat → Value} : (ov h F J V).1 50 = oc 50 (F 50) (J 50) (V 50) := ov_lo (by decide) (by decide)
theorem os_50 {h : am_H} {F : Nat → Nat → Int32} {J : Nat → Nat → Int64} {V : Nat → Nat → Value} {f : Nat → Int64} : am_set (ov h F J V) 50 (oc 50 (F 50) f (V 50)) = ov h F (upz J 50 f) V := ov_setJ (by decide) (by decide)
theorem oa_51 {h : am_H} {F : Nat → Nat → Int32} {J : Nat → Nat → Int64} {V : Nat → Nat → Value} : (ov h F J V).1 51 = oc 51 (F 51) (J 51) (V 51) := ov_lo (by decide) (by decide)
theorem os_51 {h : am_H} {F : Nat → Nat → Int32} {J : Nat → Nat → Int64} {V : Nat → Nat → Value} {f : Nat → Int32} : am_set (ov h F J V) 51 (oc 51 f (J 51) (V 51)) = ov h (upz F 51 f) J V := ov_setF (by decide) (by decide)
theorem oa_52 {h : am_H} {F : Nat → Nat → Int32} {J : Nat → Nat → Int64} {V : Nat → Nat → Value} : (ov h F J V).1 52 = oc 52 (F 52) (J 52) (V 52) := ov_lo (by decide) (by decide)
theorem os_52 {h : am_H} {F : Nat → Nat → Int32} {J : Nat → Nat → Int64} {V : Nat → Nat → Value} {f : Nat → Int32} : am_set (ov h F J V) 52 (oc 52 f (J 52) (V 52)) = ov h (upz F 52 f) J V := ov_setF (by decide) (by decide)
theorem oa_53 {h : am_H} {F : Nat → Nat → Int32} {J : Nat → Nat → Int64} {V : Nat → Nat → Value} : (ov h F J V).1 53 = oc 53 (F 53) (J 53) (V 53) := ov_lo (by decide) (by decide)
theorem os_53 {h : am_H} {F : Nat → Nat → Int32} {J : Nat → Nat → Int64} {V : Nat → Nat → Value} {f : Nat → Int64} : am_set (ov h F J V) 53 (oc 53 (F 53) f (V 53)) = ov h F (upz J 53 f) V := ov_setJ (by decide) (by decide)
theorem oa_54 {h : am_H} {F : Nat → Nat → Int32} {J : Nat → Nat → Int64} {V : Nat → Nat → Value} : (ov h F J V).1 54 = oc 54 (F 54) (J 54) (V 54) := ov_lo (by decide) (by decide)
theorem os_54 {h : am_H} {F : Nat → Nat → Int32} {J : Nat → Nat → Int64} {V : Nat → Nat → Value} {f : Nat → Int64} : am_set (ov h F J V) 54 (oc 54 (F 54) f (V 54)) = ov h F (upz J 54 f) V := ov_setJ (by decide) (by decide)
theorem oa_55 {h : am_H} {F : Nat → Nat → Int32} {J : Nat → Nat → Int64} {V : Nat → Nat → Value} : (ov h F J V).1 55 = oc 55 (F 55) (J 55) (V 55) := ov_lo (by decide) (by decide)
theorem os_55 {h : am_H} {F : Nat → Nat → Int32} {J : Nat → Nat → Int64} {V : Nat → Nat → Value} {f : Nat → Int32} : am_set (ov h F J V) 55 (oc 55 f (J 55) (V 55)) = ov h (upz F 55 f) J V := ov_setF (by decide) (by decide)
theorem osV_55 {h : am_H} {F : Nat → Nat → Int32} {J : Nat → Nat → Int64} {V : Nat → Nat → Value} {f : Nat → Value} : am_set (ov h F J V) 55 (oc 55 (F 55) (J 55) f) = ov h F J (upz V 55 f) := ov_setV (by decide) (by decide)
theorem oa_56 {h : am_H} {F : Nat → Nat → Int32} {J : Nat → Nat → Int64} {V : Nat → Nat → Value} : (ov h F J V).1 56 = oc 56 (F 56) (J 56) (V 56) := ov_lo (by decide) (by decide)
theorem os_56 {h : am_H} {F : Nat → Nat → Int32} {J : Nat → Nat → Int64} {V : Nat → Nat → Value} {f : Nat → Int32} : am_set (ov h F J V) 56 (oc 56 f (J 56) (V 56)) = ov h (upz F 56 f) J V := ov_setF (by decide) (by decide)
theorem oa_57 {h : am_H} {F : Nat → Nat → Int32} {J : Nat → Nat → Int64} {V : Nat → Nat → Value} : (ov h F J V).1 57 = oc 57 (F 57) (J 57) (V 57) := ov_lo (by decide) (by decide)
theorem os_57 {h : am_H} {F : Nat → Nat → Int32} {J : Nat → Nat → Int64} {V : Nat → Nat → Value} {f : Nat → Int32} : am_set (ov h F J V) 57 (oc 57 f (J 57) (V 57)) = ov h (upz F 57 f) J V := ov_setF (by decide) (by decide)
theorem oa_58 {h : am_H} {F : Nat → Nat → Int32} {J : Nat → Nat → Int64} {V : Nat → Nat → Value} : (ov h F J V).1 58 = oc 58 (F 58) (J 58) (V 58) := ov_lo (by decide) (by decide)
theorem os_58 {h : am_H} {F : Nat → Nat → Int32} {J : Nat → Nat → Int64} {V : Nat → Nat → Value} {f : Nat → Int32} : am_set (ov h F J V) 58 (oc 58 f (J 58) (V 58)) = ov h (upz F 58 f) J V := ov_setF (by decide) (by decide)
theorem oa_59 {h : am_H} {F : Nat → Nat → Int32} {J : Nat → Nat → Int64} {V : Nat → Nat → Value} : (ov h F J V).1 59 = oc 59 (F 59) (J 59) (V 59) := ov_lo (by decide) (by decide)
theorem os_59 {h : am_H} {F : Nat → Nat → Int32} {J : Nat → Nat → Int64} {V : Nat → Nat → Value} {f : Nat → Int32} : am_set (ov h F J V) 59 (oc 59 f (J 59) (V 59)) = ov h (upz F 59 f) J V := ov_setF (by decide) (by decide)
theorem oa_60 {h : am_H} {F : Nat → Nat → Int32} {J : Nat → Nat → Int64} {V : Nat → Nat → Value} : (ov h F J V).1 60 = oc 60 (F 60) (J 60) (V 60) := ov_lo (by decide) (by decide)
theorem os_60 {h : am_H} {F : Nat → Nat → Int32} {J : Nat → Nat → Int64} {V : Nat → Nat → Value} {f : Nat → Int32} : am_set (ov h F J V) 60 (oc 60 f (J 60) (V 60)) = ov h (upz F 60 f) J V := ov_setF (by decide) (by decide)
theorem oa_61 {h : am_H} {F : Nat → Nat → Int32} {J : Nat → Nat → Int64} {V : Nat → Nat → Value} : (ov h F J V).1 61 = oc 61 (F 61) (J 61) (V 61) := ov_lo (by decide) (by decide)
theorem os_61 {h : am_H} {F : Nat → Nat → Int32} {J : Nat → Nat → Int64} {V : Nat → Nat → Value} {f : Nat → Int32} : am_set (ov h F J V) 61 (oc 61 f (J 61) (V 61)) = ov h (upz F 61 f) J V := ov_setF (by decide) (by decide)
theorem osV_61 {h : am_H} {F : Nat → Nat → Int32} {J : Nat → Nat → Int64} {V : Nat → Nat → Value} {f : Nat → Value} : am_set (ov h F J V) 61 (oc 61 (F 61) (J 61) f) = ov h F J (upz V 61 f) := ov_setV (by decide) (by decide)
theorem oa_62 {h : am_H} {F : Nat → Nat → Int32} {J : Nat → Nat → Int64} {V : Nat → Nat → Value} : (ov h F J V).1 62 = oc 62 (F 62) (J 62) (V 62) := ov_lo (by decide) (by decide)
theorem os_62 {h : am_H} {F : Nat → Nat → Int32} {J : Nat → Nat → Int64} {V : Nat → Nat → Value} {f : Nat → Int32} : am_set (ov h F J V) 62 (oc 62 f (J 62) (V 62)) = ov h (upz F 62 f) J V := ov_setF (by decide) (by decide)
theorem oa_63 {h : am_H} {F : Nat → Nat → Int32} {J : Nat → Nat → Int64} {V : Nat → Nat → Value} : (ov h F J V).1 63 = oc 63 (F 63) (J 63) (V 63) := ov_lo (by decide) (by decide)
theorem os_63 {h : am_H} {F : Nat → Nat → Int32} {J : Nat → Nat → Int64} {V : Nat → Nat → Value} {f : Nat → Int32} : am_set (ov h F J V) 63 (oc 63 f (J 63) (V 63)) = ov h (upz F 63 f) J V := ov_setF (by decide) (by decide)
theorem oa_64 {h : am_H} {F : Nat → Nat → Int32} {J : Nat → Nat → Int64} {V : Nat → Nat → Value} : (ov h F J V).1 64 = oc 64 (F 64) (J 64) (V 64) := ov_lo (by decide) (by decide)
theorem os_64 {h : am_H} {F : Nat → Nat → Int32} {J : Nat → Nat → Int64} {V : Nat → Nat → Value} {f : Nat → Int32} : am_set (ov h F J V) 64 (oc 64 f (J 64) (V 64)) = ov h (upz F 64 f) J V := ov_setF (by decide) (by decide)
theorem oa_65 {h : am_H} {F : Nat → Nat → Int32} {J : Nat → Nat → Int64} {V : Nat → Nat → Value} : (ov h F J V).1 65 = oc 65 (F 65) (J 65) (V 65) := ov_lo (by decide) (by decide)
theorem os_65 {h : am_H} {F : Nat → Nat → Int32} {J : Nat → Nat → Int64} {V : Nat → Nat → Value} {f : Nat → Int32} : am_set (ov h F J V) 65 (oc 65 f (J 65) (V 65)) = ov h (upz F 65 f) J V := ov_setF (by decide) (by decide)
theorem oa_66 {h : am_H} {F : Nat → Nat → Int32} {J : Nat → Nat → Int64} {V : Nat → Nat → Value} : (ov h F J V).1 66 = oc 66 (F 66) (J 66) (V 66) := ov_lo (by decide) (by decide)
theorem os_66 {h : am_H} {F : Nat → Nat → Int32} {J : Nat → Nat → Int64} {V : Nat → Nat → Value} {f : Nat → Int32} : am_set (ov h F J V) 66 (oc 66 f (J 66) (V 66)) = ov h (upz F 66 f) J V := ov_setF (by decide) (by decide)
theorem oa_67 {h : am_H} {F : Nat → Nat → Int32} {J : Nat → Nat → Int64} {V : Nat → Nat → Value} : (ov h F J V).1 67 = oc 67 (F 67) (J 67) (V 67) := ov_lo (by decide) (by decide)
theorem os_67 {h : am_H} {F : Nat → Nat → Int32} {J : Nat → Nat → Int64} {V : Nat → Nat → Value} {f : Nat → Int32} : am_set (ov h F J V) 67 (oc 67 f (J 67) (V 67)) = ov h (upz F 67 f) J V := ov_setF (by decide) (by decide)
theorem oa_68 {h : am_H} {F : Nat → Nat → Int32} {J : Nat → Nat → Int64} {V : Nat → Nat → Value} : (ov h F J V).1 68 = oc 68 (F 68) (J 68) (V 68) := ov_lo (by decide) (by decide)
theorem os_68 {h : am_H} {F : Nat → Nat → Int32} {J : Nat → Nat → Int64} {V : Nat → Nat → Value} {f : Nat → Int64} : am_set (ov h F J V) 68 (oc 68 (F 68) f (V 68)) = ov h F (upz J 68 f) V := ov_setJ (by decide) (by decide)
theorem oa_69 {h : am_H} {F : Nat → Nat → Int32} {J : Nat → Nat → Int64} {V : Nat → Nat → Value} : (ov h F J V).1 69 = oc 69 (F 69) (J 69) (V 69) := ov_lo (by decide) (by decide)
theorem os_69 {h : am_H} {F : Nat → Nat → Int32} {J : Nat → Nat → Int64} {V : Nat → Nat → Value} {f : Nat → Int64} : am_set (ov h F J V) 69 (oc 69 (F 69) f (V 69)) = ov h F (upz J 69 f) V := ov_setJ (by decide) (by decide)
theorem oa_70 {h : am_H} {F : Nat → Nat → Int32} {J : Nat → Nat → Int64} {V : Nat → Nat → Value} : (ov h F J V).1 70 = oc 70 (F 70) (J 70) (V 70) := ov_lo (by decide) (by decide)
theorem os_70 {h : am_H} {F : Nat → Nat → Int32} {J : Nat → Nat → Int64} {V : Nat → Nat → Value} {f : Nat → Int64} : am_set (ov h F J V) 70 (oc 70 (F 70) f (V 70)) = ov h F (upz J 70 f) V := ov_setJ (by decide) (by decide)
theorem oa_71 {h : am_H} {F : Nat → Nat → Int32} {J : Nat → Nat → Int64} {V : Nat → Nat → Value} : (ov h F J V).1 71 = oc 71 (F 71) (J 71) (V 71) := ov_lo (by decide) (by decide)
theorem os_71 {h : am_H} {F : Nat → Nat → Int32} {J : Nat → Nat → Int64} {V : Nat → Nat → Value} {f : Nat → Int32} : am_set (ov h F J V) 71 (oc 71 f (J 71) (V 71)) = ov h (upz F 71 f) J V := ov_setF (by decide) (by decide)
theorem oa_72 {h : am_H} {F : Nat → Nat → Int32} {J : Nat → Nat → Int64} {V : Nat → Nat → Value} : (ov h F J V).1 72 = oc 72 (F 72) (J 72) (V 72) := ov_lo (by decide) (by decide)
theorem os_72 {h : am_H} {F : Nat → Nat → Int32} {J : Nat → Nat → Int64} {V : Nat → Nat → Value} {f : Nat → Int32} : am_set (ov h F J V) 72 (oc 72 f (J 72) (V 72)) = ov h (upz F 72 f) J V := ov_setF (by decide) (by decide)
theorem oa_73 {h : am_H} {F : Nat → Nat → Int32} {J : Nat → Nat → Int64} {V : Nat → Nat → Value} : (ov h F J V).1 73 = oc 73 (F 73) (J 73) (V 73) := ov_lo (by decide) (by decide)
theorem os_73 {h : am_H} {F : Nat → Nat → Int32} {J : Nat → Nat → Int64} {V : Nat → Nat → Value} {f : Nat → Int64} : am_set (ov h F J V) 73 (oc 73 (F 73) f (V 73)) = ov h F (upz J 73 f) V := ov_setJ (by decide) (by decide)
theorem oa_74 {h : am_H} {F : Nat → Nat → Int32} {J : Nat → Nat → Int64} {V : Nat → Nat → Value} : (ov h F J V).1 74 = oc 74 (F 74) (J 74) (V 74) := ov_lo (by decide) (by decide)
theorem os_74 {h : am_H} {F : Nat → Nat → Int32} {J : Nat → Nat → Int64} {V : Nat → Nat → Value} {f : Nat → Int64} : am_set (ov h F J V) 74 (oc 74 (F 74) f (V 74)) = ov h F (upz J 74 f) V := ov_setJ (by decide) (by decide)
theorem oa_75 {h : am_H} {F : Nat → Nat → Int32} {J : Nat → Nat → Int64} {V : Nat → Nat → Value} : (ov h F J V).1 75 = oc 75 (F 75) (J 75) (V 75) := ov_lo (by decide) (by decide)
theorem os_75 {h : am_H} {F : Nat → Nat → Int32} {J : Nat → Nat → Int64} {V : Nat → Nat → Value} {f : Nat → Int32} : am_set (ov h F J V) 75 (oc 75 f (J 75) (V 75)) = ov h (upz F 75 f) J V := ov_setF (by decide) (by decide)
theorem oa_76 {h : am_H} {F : Nat → Nat → Int32} {J : Nat → Nat → Int64} {V : Nat → Nat → Value} : (ov h F J V).1 76 = oc 76 (F 76) (J 76) (V 76) := ov_lo (by decide) (by decide)
theorem os_76 {h : am_H} {F : Nat → Nat → Int32} {J : Nat → Nat → Int64} {V : Nat → Nat → Value} {f : Nat → Int32} : am_set (ov h F J V) 76 (oc 76 f (J 76) (V 76)) = ov h (upz F 76 f) J V := ov_setF (by decide) (by decide)
theorem oa_77 {h : am_H} {F : Nat → Nat → Int32} {J : Nat → Nat → Int64} {V : Nat → Nat → Value} : (ov h F J V).1 77 = oc 77 (F 77) (J 77) (V 77) := ov_lo (by decide) (by decide)
theorem os_77 {h : am_H} {F : Nat → Nat → Int32} {J : Nat → Nat → Int64} {V : Nat → Nat → Value} {f : Nat → Int32} : am_set (ov h F J V) 77 (oc 77 f (J 77) (V 77)) = ov h (upz F 77 f) J V := ov_setF (by decide) (by decide)
theorem oa_78 {h : am_H} {F : Nat → Nat → Int32} {J : Nat → Nat → Int64} {V : Nat → Nat → Value} : (ov h F J V).1 78 = oc 78 (F 78) (J 78) (V 78) := ov_lo (by decide) (by decide)
theorem os_78 {h : am_H} {F : Nat → Nat → Int32} {J : Nat → Nat → Int64} {V : Nat → Nat → Value} {f : Nat → Int32} : am_set (ov h F J V) 78 (oc 78 f (J 78) (V 78)) = ov h (upz F 78 f) J V := ov_setF (by decide) (by decide)
theorem oa_79 {h : am_H} {F : Nat → Nat → Int32} {J : Nat → Nat → Int64} {V : Nat → Nat → Value} : (ov h F J V).1 79 = oc 79 (F 79) (J 79) (V 79) := ov_lo (by decide) (by decide)
theorem os_79 {h : am_H} {F : Nat → Nat → Int32} {J : Nat → Nat → Int64} {V : Nat → Nat → Value} {f : Nat → Int32} : am_set (ov h F J V) 79 (oc 79 f (J 79) (V 79)) = ov h (upz F 79 f) J V := ov_setF (by decide) (by decide)
theorem oa_80 {h : am_H} {F : Nat → Nat → Int32} {J : Nat → Nat → Int64} {V : Nat → Nat → Value} : (ov h F J V).1 80 = oc 80 (F 80) (J 80) (V 80) := ov_lo (by decide) (by decide)
theorem os_80 {h : am_H} {F : Nat → Nat → Int32} {J : Nat → Nat → Int64} {V : Nat → Nat → Value} {f : Nat → Int32} : am_set (ov h F J V) 80 (oc 80 f (J 80) (V 80)) = ov h (upz F 80 f) J V := ov_setF (by decide) (by decide)
theorem oa_81 {h : am_H} {F : Nat → Nat → Int32} {J : Nat → Nat → Int64} {V : Nat → Nat → Value} : (ov h F J V).1 81 = oc 81 (F 81) (J 81) (V 81) := ov_lo (by decide) (by decide)
theorem os_81 {h : am_H} {F : Nat → Nat → Int32} {J : Nat → Nat → Int64} {V : Nat → Nat → Value} {f : Nat → Int32} : am_set (ov h F J V) 81 (oc 81 f (J 81) (V 81)) = ov h (upz F 81 f) J V := ov_setF (by decide) (by decide)
theorem oa_82 {h : am_H} {F : Nat → Nat → Int32} {J : Nat → Nat → Int64} {V : Nat → Nat → Value} : (ov h F J V).1 82 = oc 82 (F 82) (J 82) (V 82) := ov_lo (by decide) (by decide)
theorem os_82 {h : am_H} {F : Nat → Nat → Int32} {J : Nat → Nat → Int64} {V : Nat → Nat → Value} {f : Nat → Int32} : am_set (ov h F J V) 82 (oc 82 f (J 82) (V 82)) = ov h (upz F 82 f) J V := ov_setF (by decide) (by decide)
theorem oa_83 {h : am_H} {F : Nat → Nat → Int32} {J : Nat → Nat → Int64} {V : Nat → Nat → Value} : (ov h F J V).1 83 = oc 83 (F 83) (J 83) (V 83) := ov_lo (by decide) (by decide)
theorem os_83 {h : am_H} {F : Nat → Nat → Int32} {J : Nat → Nat → Int64} {V : Nat → Nat → Value} {f : Nat → Int32} : am_set (ov h F J V) 83 (oc 83 f (J 83) (V 83)) = ov h (upz F 83 f) J V := ov_setF (by decide) (by decide)
theorem oa_84 {h : am_H} {F : Nat → Nat → Int32} {J : Nat → Nat → Int64} {V : Nat → Nat → Value} : (ov h F J V).1 84 = oc 84 (F 84) (J 84) (V 84) := ov_lo (by decide) (by decide)
theorem os_84 {h : am_H} {F : Nat → Nat → Int32} {J : Nat → Nat → Int64} {V : Nat → Nat → Value} {f : Nat → Int32} : am_set (ov h F J V) 84 (oc 84 f (J 84) (V 84)) = ov h (upz F 84 f) J V := ov_setF (by decide) (by decide)
theorem oa_85 {h : am_H} {F : Nat → Nat → Int32} {J : Nat → Nat → Int64} {V : Nat → Nat → Value} : (ov h F J V).1 85 = oc 85 (F 85) (J 85) (V 85) := ov_lo (by decide) (by decide)
theorem os_85 {h : am_H} {F : Nat → Nat → Int32} {J : Nat → Nat → Int64} {V : Nat → Nat → Value} {f : Nat → Int32} : am_set (ov h F J V) 85 (oc 85 f (J 85) (V 85)) = ov h (upz F 85 f) J V := ov_setF (by decide) (by decide)
theorem oa_86 {h : am_H} {F : Nat → Nat → Int32} {J : Nat → Nat → Int64} {V : Nat → Nat → Value} : (ov h F J V).1 86 = oc 86 (F 86) (J 86) (V 86) := ov_lo (by decide) (by decide)
theorem os_86 {h : am_H} {F : Nat → Nat → Int32} {J : Nat → Nat → Int64} {V : Nat → Nat → Value} {f : Nat → Int32} : am_set (ov h F J V) 86 (oc 86 f (J 86) (V 86)) = ov h (upz F 86 f) J V := ov_setF (by decide) (by decide)
theorem oa_87 {h : am_H} {F : Nat → Nat → Int32} {J : Nat → Nat → Int64} {V : Nat → Nat → Value} : (ov h F J V).1 87 = oc 87 (F 87) (J 87) (V 87) := ov_lo (by decide) (by decide)
theorem os_87 {h : am_H} {F : Nat → Nat → Int32} {J : Nat → Nat → Int64} {V : Nat → Nat → Value} {f : Nat → Int32} : am_set (ov h F J V) 87 (oc 87 f (J 87) (V 87)) = ov h (upz F 87 f) J V := ov_setF (by decide) (by decide)
theorem oa_88 {h : am_H} {F : Nat → Nat → Int32} {J : Nat → Nat → Int64} {V : Nat → Nat → Value} : (ov h F J V).1 88 = oc 88 (F 88) (J 88) (V 88) := ov_lo (by decide) (by decide)
theorem os_88 {h : am_H} {F : Nat → Nat → Int32} {J : Nat → Nat → Int64} {V : Nat → Nat → Value} {f : Nat → Int32} : am_set (ov h F J V) 88 (oc 88 f (J 88) (V 88)) = ov h (upz F 88 f) J V := ov_setF (by decide) (by decide)
theorem oa_89 {h : am_H} {F : Nat → Nat → Int32} {J : Nat → Nat → Int64} {V : Nat → Nat → Value} : (ov h F J V).1 89 = oc 89 (F 89) (J 89) (V 89) := ov_lo (by decide) (by decide)
theorem os_89 {h : am_H} {F : Nat → Nat → Int32} {J : Nat → Nat → Int64} {V : Nat → Nat → Value} {f : Nat → Int32} : am_set (ov h F J V) 89 (oc 89 f (J 89) (V 89)) = ov h (upz F 89 f) J V := ov_setF (by decide) (by decide)
theorem oa_90 {h : am_H} {F : Nat → Nat → Int32} {J : Nat → Nat → Int64} {V : Nat → Nat → Value} : (ov h F J V).1 90 = oc 90 (F 90) (J 90) (V 90) := ov_lo (by decide) (by decide)
theorem os_90 {h : am_H} {F : Nat → Nat → Int32} {J : Nat → Nat → Int64} {V : Nat → Nat → Value} {f : Nat → Int32} : am_set (ov h F J V) 90 (oc 90 f (J 90) (V 90)) = ov h (upz F 90 f) J V := ov_setF (by decide) (by decide)
theorem oa_91 {h : am_H} {F : Nat → Nat → Int32} {J : Nat → Nat → Int64} {V : Nat → Nat → Value} : (ov h F J V).1 91 = oc 91 (F 91) (J 91) (V 91) := ov_lo (by decide) (by decide)
theorem os_91 {h : am_H} {F : Nat → Nat → Int32} {J : Nat → Nat → Int64} {V : Nat → Nat → Value} {f : Nat → Int32} : am_set (ov h F J V) 91 (oc 91 f (J 91) (V 91)) = ov h (upz F 91 f) J V := ov_setF (by decide) (by decide)
theorem oa_92 {h : am_H} {F : Nat → Nat → Int32} {J : Nat → Nat → Int64} {V : Nat → Nat → Value} : (ov h F J V).1 92 = oc 92 (F 92) (J 92) (V 92) := ov_lo (by decide) (by decide)
theorem os_92 {h : am_H} {F : Nat → Nat → Int32} {J : Nat → Nat → Int64} {V : Nat → Nat → Value} {f : Nat → Int32} : am_set (ov h F J V) 92 (oc 92 f (J 92) (V 92)) = ov h (upz F 92 f) J V := ov_setF (by decide) (by decide)
theorem oa_93 {h : am_H} {F : Nat → Nat → Int32} {J : Nat → Nat → Int64} {V : Nat → Nat → Value} : (ov h F J V).1 93 = oc 93 (F 93) (J 93) (V 93) := ov_lo (by decide) (by decide)
theorem os_93 {h : am_H} {F : Nat → Nat → Int32} {J : Nat → Nat → Int64} {V : Nat → Nat → Value} {f : Nat → Int32} : am_set (ov h F J V) 93 (oc 93 f (J 93) (V 93)) = ov h (upz F 93 f) J V := ov_setF (by decide) (by decide)
theorem oa_94 {h : am_H} {F : Nat → Nat → Int32} {J : Nat → Nat → Int64} {V : Nat → Nat → Value} : (ov h F J V).1 94 = oc 94 (F 94) (J 94) (V 94) := ov_lo (by decide) (by decide)
theorem os_94 {h : am_H} {F : Nat → Nat → Int32} {J : Nat → Nat → Int64} {V : Nat → Nat → Value} {f : Nat → Int32} : am_set (ov h F J V) 94 (oc 94 f (J 94) (V 94)) = ov h (upz F 94 f) J V := ov_setF (by decide) (by decide)
theorem oa_95 {h : am_H} {F : Nat → Nat → Int32} {J : Nat → Nat → Int64} {V : Nat → Nat → Value} : (ov h F J V).1 95 = oc 95 (F 95) (J 95) (V 95) := ov_lo (by decide) (by decide)
theorem os_95 {h : am_H} {F : Nat → Nat → Int32} {J : Nat → Nat → Int64} {V : Nat → Nat → Value} {f : Nat → Int32} : am_set (ov h F J V) 95 (oc 95 f (J 95) (V 95)) = ov h (upz F 95 f) J V := ov_setF (by decide) (by decide)
theorem oa_96 {h : am_H} {F : Nat → Nat → Int32} {J : Nat → Nat → Int64} {V : Nat → Nat → Value} : (ov h F J V).1 96 = oc 96 (F 96) (J 96) (V 96) := ov_lo (by decide) (by decide)
theorem os_96 {h : am_H} {F : Nat → Nat → Int32} {J : Nat → Nat → Int64} {V : Nat → Nat → Value} {f : Nat → Int32} : am_set (ov h F J V) 96 (oc 96 f (J 96) (V 96)) = ov h (upz F 96 f) J V := ov_setF (by decide) (by decide)
theorem oa_97 {h : am_H} {F : Nat → Nat → Int32} {J : Nat → Nat → Int64} {V : Nat → Nat → Value} : (ov h F J V).1 97 = oc 97 (F 97) (J 97) (V 97) := ov_lo (by decide) (by decide)
theorem os_97 {h : am_H} {F : Nat → Nat → Int32} {J : Nat → Nat → Int64} {V : Nat → Nat → Value} {f : Nat → Int32} : am_set (ov h F J V) 97 (oc 97 f (J 97) (V 97)) = ov h (upz F 97 f) J V := ov_setF (by decide) (by decide)
theorem oa_98 {h : am_H} {F : Nat → Nat → Int32} {J : Nat → Nat → Int64} {V : Nat → Nat → Value} : (ov h F J V).1 98 = oc 98 (F 98) (J 98) (V 98) := ov_lo (by decide) (by decide)
theorem os_98 {h : am_H} {F : Nat → Nat → Int32} {J : Nat → Nat → Int64} {V : Nat → Nat → Value} {f : Nat → Int32} : am_set (ov h F J V) 98 (oc 98 f (J 98) (V 98)) = ov h (upz F 98 f) J V := ov_setF (by decide) (by decide)
theorem oa_99 {h : am_H} {F : Nat → Nat → Int32} {J : Nat → Nat → Int64} {V : Nat → Nat → Value} : (ov h F J V).1 99 = oc 99 (F 99) (J 99) (V 99) := ov_lo (by decide) (by decide)
theorem os_99 {h : am_H} {F : Nat → Nat → Int32} {J : Nat → Nat → Int64} {V : Nat → Nat → Value} {f : Nat → Int32} : am_set (ov h F J V) 99 (oc 99 f (J 99) (V 99)) = ov h (upz F 99 f) J V := ov_setF (by decide) (by decide)
theorem oa_100 {h : am_H} {F : Nat → Nat → Int32} {J : Nat → Nat → Int64} {V : Nat → Nat → Value} : (ov h F J V).1 100 = oc 100 (F 100) (J 100) (V 100) := ov_lo (by decide) (by decide)
theorem os_100 {h : am_H} {F : Nat → Nat → Int32} {J : Nat → Nat → Int64} {V : Nat → Nat → Value} {f : Nat → Int32} : am_set (ov h F J V) 100 (oc 100 f (J 100) (V 100)) = ov h (upz F 100 f) J V := ov_setF (by decide) (by decide)
theorem oa_101 {h : am_H} {F : Nat → Nat → Int32} {J : Nat → Nat → Int64} {V : Nat → Nat → Value} : (ov h F J V).1 101 = oc 101 (F 101) (J 101) (V 101) := ov_lo (by decide) (by decide)
theorem os_101 {h : am_H} {F : Nat → Nat → Int32} {J : Nat → Nat → Int64} {V : Nat → Nat → Value} {f : Nat → Int32} : am_set (ov h F J V) 101 (oc 101 f (J 101) (V 101)) = ov h (upz F 101 f) J V := ov_setF (by decide) (by decide)
theorem oa_102 {h : am_H} {F : Nat → Nat → Int32} {J : Nat → Nat → Int64} {V : Nat → Nat → Value} : (ov h F J V).1 102 = oc 102 (F 102) (J 102) (V 102) := ov_lo (by decide) (by decide)
theorem os_102 {h : am_H} {F : Nat → Nat → Int32} {J : Nat → Nat → Int64} {V : Nat → Nat → Value} {f : Nat → Int32} : am_set (ov h F J V) 102 (oc 102 f (J 102) (V 102)) = ov h (upz F 102 f) J V := ov_setF (by decide) (by decide)
theorem oa_103 {h : am_H} {F : Nat → Nat → Int32} {J : Nat → Nat → Int64} {V : Nat → Nat → Value} : (ov h F J V).1 103 = oc 103 (F 103) (J 103) (V 103) := ov_lo (by decide) (by decide)
theorem os_103 {h : am_H} {F : Nat → Nat → Int32} {J : Nat → Nat → Int64} {V : Nat → Nat → Value} {f : Nat → Int32} : am_set (ov h F J V) 103 (oc 103 f (J 103) (V 103)) = ov h (upz F 103 f) J V := ov_setF (by decide) (by decide)
theorem oa_104 {h : am_H} {F : Nat → Nat → Int32} {J : Nat → Nat → Int64} {V : Nat → Nat → Value} : (ov h F J V).1 104 = oc 104 (F 104) (J 104) (V 104) := ov_lo (by decide) (by decide)
theorem os_104 {h : am_H} {F : Nat → Nat → Int32} {J : Nat → Nat → Int64} {V : Nat → Nat → Value} {f : Nat → Int32} : am_set (ov h F J V) 104 (oc 104 f (J 104) (V 104)) = ov h (upz F 104 f) J V := ov_setF (by decide) (by decide)
theorem oa_105 {h : am_H} {F : Nat → Nat → Int32} {J : Nat → Nat → Int64} {V : Nat → Nat → Value} : (ov h F J V).1 105 = oc 105 (F 105) (J 105) (V 105) := ov_lo (by decide) (by decide)
theorem os_105 {h : am_H} {F : Nat → Nat → Int32} {J : Nat → Nat → Int64} {V : Nat → Nat → Value} {f : Nat → Int32} : am_set (ov h F J V) 105 (oc 105 f (J 105) (V 105)) = ov h (upz F 105 f) J V := ov_setF (by decide) (by decide)
theorem oa_106 {h : am_H} {F : Nat → Nat → Int32} {J : Nat → Nat → Int64} {V : Nat → Nat → Value} : (ov h F J V).1 106 = oc 106 (F 106) (J 106) (V 106) := ov_lo (by decide) (by decide)
theorem os_106 {h : am_H} {F : Nat → Nat → Int32} {J : Nat → Nat → Int64} {V : Nat → Nat → Value} {f : Nat → Int32} : am_set (ov h F J V) 106 (oc 106 f (J 106) (V 106)) = ov h (upz F 106 f) J V := ov_setF (by decide) (by decide)
theorem oa_107 {h : am_H} {F : Nat → Nat → Int32} {J : Nat → Nat → Int64} {V : Nat → Nat → Value} : (ov h F J V).1 107 = oc 107 (F 107) (J 107) (V 107) := ov_lo (by decide) (by decide)
theorem os_107 {h : am_H} {F : Nat → Nat → Int32} {J : Nat → Nat → Int64} {V : Nat → Nat → Value} {f : Nat → Int32} : am_set (ov h F J V) 107 (oc 107 f (J 107) (V 107)) = ov h (upz F 107 f) J V := ov_setF (by decide) (by decide)
theorem og_23_0 {f : Nat → Int32} {j : Nat → Int64} {v : Nat → Value} {K : Value → Prop} : am_gf 11 0 K (oc 23 f j v) = K (.ref 24) := oq_t rfl
theorem og_23_1 {f : Nat → Int32} {j : Nat → Int64} {v : Nat → Value} {K : Value → Prop} : am_gf 11 1 K (oc 23 f j v) = K (.ref 34) := oq_t rfl
theorem og_23_2 {f : Nat → Int32} {j : Nat → Int64} {v : Nat → Value} {K : Value → Prop} : am_gf 11 2 K (oc 23 f j v) = K (.ref 38) := oq_t rfl
theorem og_23_3 {f : Nat → Int32} {j : Nat → Int64} {v : Nat → Value} {K : Value → Prop} : am_gf 11 3 K (oc 23 f j v) = K (.ref 47) := oq_t rfl
theorem og_23_4 {f : Nat → Int32} {j : Nat → Int64} {v : Nat → Value} {K : Value → Prop} : am_gf 11 4 K (oc 23 f j v) = K (.ref 51) := oq_t rfl
theorem og_23_5 {f : Nat → Int32} {j : Nat → Int64} {v : Nat → Value} {K : Value → Prop} : am_gf 11 5 K (oc 23 f j v) = K (.ref 55) := oq_t rfl
theorem og_23_6 {f : Nat → Int32} {j : Nat → Int64} {v : Nat → Value} {K : Value → Prop} : am_gf 11 6 K (oc 23 f j v) = K (.ref 61) := oq_t rfl
theorem og_23_7 {f : Nat → Int32} {j : Nat → Int64} {v : Nat → Value} {K : Value → Prop} : am_gf 11 7 K (oc 23 f j v) = K (.ref 64) := oq_t rfl
theorem og_23_8 {f : Nat → Int32} {j : Nat → Int64} {v : Nat → Value} {K : Value → Prop} : am_gf 11 8 K (oc 23 f j v) = K (.ref 65) := oq_t rfl
theorem og_23_9 {f : Nat → Int32} {j : Nat → Int64} {v : Nat → Value} {K : Value → Prop} : am_gf 11 9 K (oc 23 f j v) = K (.ref 75) := oq_t rfl
theorem og_23_10 {f : Nat → Int32} {j : Nat → Int64} {v : Nat → Value} {K : Value → Prop} : am_gf 11 10 K (oc 23 f j v) = K (.ref 80) := oq_t rfl
theorem og_23_11 {f : Nat → Int32} {j : Nat → Int64} {v : Nat → Value} {K : Value → Prop} : am_gf 11 11 K (oc 23 f j v) = K (.int (f 11)) := oq_t rfl
theorem og_23_12 {f : Nat → Int32} {j : Nat → Int64} {v : Nat → Value} {K : Value → Prop} : am_gf 11 12 K (oc 23 f j v) = K (.ref 81) := oq_t rfl
theorem og_23_13 {f : Nat → Int32} {j : Nat → Int64} {v : Nat → Value} {K : Value → Prop} : am_gf 11 13 K (oc 23 f j v) = K (.int (f 13)) := oq_t rfl
theorem oo_23 {f : Nat → Int32} {j : Nat → Int64} {v : Nat → Value} : am_isO 11 (oc 23 f j v) = True := propext ⟨fun _ => trivial, fun _ => rfl⟩
theorem og_24_0 {f : Nat → Int32} {j : Nat → Int64} {v : Nat → Value} {K : Value → Prop} : am_gf 5 0 K (oc 24 f j v) = K (.ref 25) := oq_t rfl
theorem og_24_1 {f : Nat → Int32} {j : Nat → Int64} {v : Nat → Value} {K : Value → Prop} : am_gf 5 1 K (oc 24 f j v) = K (.int (f 1)) := oq_t rfl
theorem og_24_2 {f : Nat → Int32} {j : Nat → Int64} {v : Nat → Value} {K : Value → Prop} : am_gf 5 2 K (oc 24 f j v) = K (.int (f 2)) := oq_t rfl
theorem og_24_3 {f : Nat → Int32} {j : Nat → Int64} {v : Nat → Value} {K : Value → Prop} : am_gf 5 3 K (oc 24 f j v) = K (.int (f 3)) := oq_t rfl
theorem og_24_4 {f : Nat → Int32} {j : Nat → Int64} {v : Nat → Value} {K : Value → Prop} : am_gf 5 4 K (oc 24 f j v) = K (.int (f 4)) := oq_t rfl
theorem og_24_5 {f : Nat → Int32} {j : Nat → Int64} {v : Nat → Value} {K : Value → Prop} : am_gf 5 5 K (oc 24 f j v) = K (.int (f 5)) := oq_t rfl
theorem og_24_6 {f : Nat → Int32} {j : Nat → Int64} {v : Nat → Value} {K : Value → Prop} : am_gf 5 6 K (oc 24 f j v) = K (.int (f 6)) := oq_t rfl
theorem og_24_7 {f : Nat → Int32} {j : Nat → Int64} {v : Nat → Value} {K : Value → Prop} : am_gf 5 7 K (oc 24 f j v) = K (.int (f 7)) := oq_t rfl
theorem og_24_8 {f : Nat → Int32} {j : Nat → Int64} {v : Nat → Value} {K : Value → Prop} : am_gf 5 8 K (oc 24 f j v) = K (.int (f 8)) := oq_t rfl
theorem og_24_9 {f : Nat → Int32} {j : Nat → Int64} {v : Nat → Value} {K : Value → Prop} : am_gf 5 9 K (oc 24 f j v) = K (.int (f 9)) := oq_t rfl
theorem og_24_10 {f : Nat → Int32} {j : Nat → Int64} {v : Nat → Value} {K : Value → Prop} : am_gf 5 10 K (oc 24 f j v) = K (.int (f 10)) := oq_t rfl
theorem og_24_11 {f : Nat → Int32} {j : Nat → Int64} {v : Nat → Value} {K : Value → Prop} : am_gf 5 11 K (oc 24 f j v) = K (.ref 26) := oq_t rfl
theorem og_24_12 {f : Nat → Int32} {j : Nat → Int64} {v : Nat → Value} {K : Value → Prop} : am_gf 5 12 K (oc 24 f j v) = K (.ref 32) := oq_t rfl
theorem oo_24 {f : Nat → Int32} {j : Nat → Int64} {v : Nat → Value} : am_isO 5 (oc 24 f j v) = True := propext ⟨fun _ => trivial, fun _ => rfl⟩
theorem og_26_0 {f : Nat → Int32} {j : Nat → Int64} {v : Nat → Value} {K : Value → Prop} : am_gf 9 0 K (oc 26 f j v) = K (.ref 27) := oq_t rfl
theorem og_26_1 {f : Nat → Int32} {j : Nat → Int64} {v : Nat → Value} {K : Value → Prop} : am_gf 9 1 K (oc 26 f j v) = K (.ref 28) := oq_t rfl
theorem og_26_2 {f : Nat → Int32} {j : Nat → Int64} {v : Nat → Value} {K : Value → Prop} : am_gf 9 2 K (oc 26 f j v) = K (.ref 29) := oq_t rfl
theorem og_26_3 {f : Nat → Int32} {j : Nat → Int64} {v : Nat → Value} {K : Value → Prop} : am_gf 9 3 K (oc 26 f j v) = K (.ref 30) := oq_t rfl
theorem og_26_4 {f : Nat → Int32} {j : Nat → Int64} {v : Nat → Value} {K : Value → Prop} : am_gf 9 4 K (oc 26 f j v) = K (.ref 31) := oq_t rfl
theorem og_26_5 {f : Nat → Int32} {j : Nat → Int64} {v : Nat → Value} {K : Value → Prop} : am_gf 9 5 K (oc 26 f j v) = K (.int (f 5)) := oq_t rfl
theorem oo_26 {f : Nat → Int32} {j : Nat → Int64} {v : Nat → Value} : am_isO 9 (oc 26 f j v) = True := propext ⟨fun _ => trivial, fun _ => rfl⟩
theorem og_32_0 {f : Nat → Int32} {j : Nat → Int64} {v : Nat → Value} {K : Value → Prop} : am_gf 10 0 K (oc 32 f j v) = K (.ref 33) := oq_t rfl
theorem og_32_1 {f : Nat → Int32} {j : Nat → Int64} {v : Nat → Value} {K : Value → Prop} : am_gf 10 1 K (oc 32 f j v) = K (.int (f 1)) := oq_t rfl
theorem oo_32 {f : Nat → Int32} {j : Nat → Int64} {v : Nat → Value} : am_isO 10 (oc 32 f j v) = True := propext ⟨fun _ => trivial, fun _ => rfl⟩
theorem og_34_0 {f : Nat → Int32} {j : Nat → Int64} {v : Nat → Value} {K : Value → Prop} : am_gf 2 0 K (oc 34 f j v) = K (.ref 35) := oq_t rfl
theorem og_34_1 {f : Nat → Int32} {j : Nat → Int64} {v : Nat → Value} {K : Value → Prop} : am_gf 2 1 K (oc 34 f j v) = K (.int (f 1)) := oq_t rfl
theorem og_34_2 {f : Nat → Int32} {j : Nat → Int64} {v : Nat → Value} {K : Value → Prop} : am_gf 2 2 K (oc 34 f j v) = K ((v 2)) := oq_t rfl
theorem og_34_3 {f : Nat → Int32} {j : Nat → Int64} {v : Nat → Value} {K : Value → Prop} : am_gf 2 3 K (oc 34 f j v) = K (.int (f 3)) := oq_t rfl
theorem og_34_4 {f : Nat → Int32} {j : Nat → Int64} {v : Nat → Value} {K : Value → Prop} : am_gf 2 4 K (oc 34 f j v) = K (.ref 36) := oq_t rfl
theorem og_34_5 {f : Nat → Int32} {j : Nat → Int64} {v : Nat → Value} {K : Value → Prop} : am_gf 2 5 K (oc 34 f j v) = K (.ref 37) := oq_t rfl
theorem og_34_6 {f : Nat → Int32} {j : Nat → Int64} {v : Nat → Value} {K : Value → Prop} : am_gf 2 6 K (oc 34 f j v) = K (.int (f 6)) := oq_t rfl
theorem og_34_7 {f : Nat → Int32} {j : Nat → Int64} {v : Nat → Value} {K : Value → Prop} : am_gf 2 7 K (oc 34 f j v) = K (.int (f 7)) := oq_t rfl
theorem oo_34 {f : Nat → Int32} {j : Nat → Int64} {v : Nat → Value} : am_isO 2 (oc 34 f j v) = True := propext ⟨fun _ => trivial, fun _ => rfl⟩
theorem og_39_0 {f : Nat → Int32} {j : Nat → Int64} {v : Nat → Value} {K : Value → Prop} : am_gf 2 0 K (oc 39 f j v) = K (.ref 40) := oq_t rfl
theorem og_39_1 {f : Nat → Int32} {j : Nat → Int64} {v : Nat → Value} {K : Value → Prop} : am_gf 2 1 K (oc 39 f j v) = K (.int (f 1)) := oq_t rfl
theorem og_39_2 {f : Nat → Int32} {j : Nat → Int64} {v : Nat → Value} {K : Value → Prop} : am_gf 2 2 K (oc 39 f j v) = K ((v 2)) := oq_t rfl
theorem og_39_3 {f : Nat → Int32} {j : Nat → Int64} {v : Nat → Value} {K : Value → Prop} : am_gf 2 3 K (oc 39 f j v) = K (.int (f 3)) := oq_t rfl
theorem og_39_4 {f : Nat → Int32} {j : Nat → Int64} {v : Nat → Value} {K : Value → Prop} : am_gf 2 4 K (oc 39 f j v) = K (.ref 41) := oq_t rfl
theorem og_39_5 {f : Nat → Int32} {j : Nat → Int64} {v : Nat → Value} {K : Value → Prop} : am_gf 2 5 K (oc 39 f j v) = K (.ref 42) := oq_t rfl
theorem og_39_6 {f : Nat → Int32} {j : Nat → Int64} {v : Nat → Value} {K : Value → Prop} : am_gf 2 6 K (oc 39 f j v) = K (.int (f 6)) := oq_t rfl
theorem og_39_7 {f : Nat → Int32} {j : Nat → Int64} {v : Nat → Value} {K : Value → Prop} : am_gf 2 7 K (oc 39 f j v) = K (.int (f 7)) := oq_t rfl
theorem oo_39 {f : Nat → Int32} {j : Nat → Int64} {v : Nat → Value} : am_isO 2 (oc 39 f j v) = True := propext ⟨fun _ => trivial, fun _ => rfl⟩
theorem og_43_0 {f : Nat → Int32} {j : Nat → Int64} {v : Nat → Value} {K : Value → Prop} : am_gf 2 0 K (oc 43 f j v) = K (.ref 44) := oq_t rfl
theorem og_43_1 {f : Nat → Int32} {j : Nat → Int64} {v : Nat → Value} {K : Value → Prop} : am_gf 2 1 K (oc 43 f j v) = K (.int (f 1)) := oq_t rfl
theorem og_43_2 {f : Nat → Int32} {j : Nat → Int64} {v : Nat → Value} {K : Value → Prop} : am_gf 2 2 K (oc 43 f j v) = K ((v 2)) := oq_t rfl
theorem og_43_3 {f : Nat → Int32} {j : Nat → Int64} {v : Nat → Value} {K : Value → Prop} : am_gf 2 3 K (oc 43 f j v) = K (.int (f 3)) := oq_t rfl
theorem og_43_4 {f : Nat → Int32} {j : Nat → Int64} {v : Nat → Value} {K : Value → Prop} : am_gf 2 4 K (oc 43 f j v) = K (.ref 45) := oq_t rfl
theorem og_43_5 {f : Nat → Int32} {j : Nat → Int64} {v : Nat → Value} {K : Value → Prop} : am_gf 2 5 K (oc 43 f j v) = K (.ref 46) := oq_t rfl
theorem og_43_6 {f : Nat → Int32} {j : Nat → Int64} {v : Nat → Value} {K : Value → Prop} : am_gf 2 6 K (oc 43 f j v) = K (.int (f 6)) := oq_t rfl
theorem og_43_7 {f : Nat → Int32} {j : Nat → Int64} {v : Nat → Value} {K : Value → Prop} : am_gf 2 7 K (oc 43 f j v) = K (.int (f 7)) := oq_t rfl
theorem oo_43 {f : Nat → Int32} {j : Nat → Int64} {v : Nat → Value} : am_isO 2 (oc 43 f j v) = True := propext ⟨fun _ => trivial, fun _ => rfl⟩
theorem og_47_0 {f : Nat → Int32} {j : Nat → Int64} {v : Nat → Value} {K : Value → Prop} : am_gf 8 0 K (oc 47 f j v) = K (.ref 48) := oq_t rfl
theorem og_47_1 {f : Nat → Int32} {j : Nat → Int64} {v : Nat → Value} {K : Value → Prop} : am_gf 8 1 K (oc 47 f j v) = K (.ref 49) := oq_t rfl
theorem og_47_2 {f : Nat → Int32} {j : Nat → Int64} {v : Nat → Value} {K : Value → Prop} : am_gf 8 2 K (oc 47 f j v) = K (.int (f 2)) := oq_t rfl
theorem og_47_3 {f : Nat → Int32} {j : Nat → Int64} {v : Nat → Value} {K : Value → Prop} : am_gf 8 3 K (oc 47 f j v) = K (.ref 50) := oq_t rfl
theorem og_47_4 {f : Nat → Int32} {j : Nat → Int64} {v : Nat → Value} {K : Value → Prop} : am_gf 8 4 K (oc 47 f j v) = K (.int (f 4)) := oq_t rfl
theorem oo_47 {f : Nat → Int32} {j : Nat → Int64} {v : Nat → Value} : am_isO 8 (oc 47 f j v) = True := propext ⟨fun _ => trivial, fun _ => rfl⟩
theorem og_51_0 {f : Nat → Int32} {j : Nat → Int64} {v : Nat → Value} {K : Value → Prop} : am_gf 6 0 K (oc 51 f j v) = K (.int (f 0)) := oq_t rfl
theorem og_51_1 {f : Nat → Int32} {j : Nat → Int64} {v : Nat → Value} {K : Value → Prop} : am_gf 6 1 K (oc 51 f j v) = K (.int (f 1)) := oq_t rfl
theorem og_51_2 {f : Nat → Int32} {j : Nat → Int64} {v : Nat → Value} {K : Value → Prop} : am_gf 6 2 K (oc 51 f j v) = K (.int (f 2)) := oq_t rfl
theorem og_51_3 {f : Nat → Int32} {j : Nat → Int64} {v : Nat → Value} {K : Value → Prop} : am_gf 6 3 K (oc 51 f j v) = K (.int (f 3)) := oq_t rfl
theorem og_51_4 {f : Nat → Int32} {j : Nat → Int64} {v : Nat → Value} {K : Value → Prop} : am_gf 6 4 K (oc 51 f j v) = K (.int (f 4)) := oq_t rfl
theorem og_51_5 {f : Nat → Int32} {j : Nat → Int64} {v : Nat → Value} {K : Value → Prop} : am_gf 6 5 K (oc 51 f j v) = K (.int (f 5)) := oq_t rfl
theorem og_51_6 {f : Nat → Int32} {j : Nat → Int64} {v : Nat → Value} {K : Value → Prop} : am_gf 6 6 K (oc 51 f j v) = K (.ref 53) := oq_t rfl
theorem og_51_7 {f : Nat → Int32} {j : Nat → Int64} {v : Nat → Value} {K : Value → Prop} : am_gf 6 7 K (oc 51 f j v) = K (.ref 54) := oq_t rfl
theorem og_51_8 {f : Nat → Int32} {j : Nat → Int64} {v : Nat → Value} {K : Value → Prop} : am_gf 6 8 K (oc 51 f j v) = K (.ref 52) := oq_t rfl
theorem oo_51 {f : Nat → Int32} {j : Nat → Int64} {v : Nat → Value} : am_isO 6 (oc 51 f j v) = True := propext ⟨fun _ => trivial, fun _ => rfl⟩
theorem og_55_0 {f : Nat → Int32} {j : Nat → Int64} {v : Nat → Value} {K : Value → Prop} : am_gf 0 0 K (oc 55 f j v) = K (.ref 56) := oq_t rfl
theorem og_55_1 {f : Nat → Int32} {j : Nat → Int64} {v : Nat → Value} {K : Value → Prop} : am_gf 0 1 K (oc 55 f j v) = K (.int (f 1)) := oq_t rfl
theorem og_55_2 {f : Nat → Int32} {j : Nat → Int64} {v : Nat → Value} {K : Value → Prop} : am_gf 0 2 K (oc 55 f j v) = K (.ref 57) := oq_t rfl
theorem og_55_3 {f : Nat → Int32} {j : Nat → Int64} {v : Nat → Value} {K : Value → Prop} : am_gf 0 3 K (oc 55 f j v) = K (.ref 58) := oq_t rfl
theorem og_55_4 {f : Nat → Int32} {j : Nat → Int64} {v : Nat → Value} {K : Value → Prop} : am_gf 0 4 K (oc 55 f j v) = K (.int (f 4)) := oq_t rfl
theorem og_55_5 {f : Nat → Int32} {j : Nat → Int64} {v : Nat → Value} {K : Value → Prop} : am_gf 0 5 K (oc 55 f j v) = K ((v 5)) := oq_t rfl
theorem og_55_6 {f : Nat → Int32} {j : Nat → Int64} {v : Nat → Value} {K : Value → Prop} : am_gf 0 6 K (oc 55 f j v) = K (.ref 60) := oq_t rfl
theorem og_55_7 {f : Nat → Int32} {j : Nat → Int64} {v : Nat → Value} {K : Value → Prop} : am_gf 0 7 K (oc 55 f j v) = K (.int (f 7)) := oq_t rfl
theorem oo_55 {f : Nat → Int32} {j : Nat → Int64} {v : Nat → Value} : am_isO 0 (oc 55 f j v) = True := propext ⟨fun _ => trivial, fun _ => rfl⟩
theorem og_61_0 {f : Nat → Int32} {j : Nat → Int64} {v : Nat → Value} {K : Value → Prop} : am_gf 4 0 K (oc 61 f j v) = K (.int (f 0)) := oq_t rfl
theorem og_61_1 {f : Nat → Int32} {j : Nat → Int64} {v : Nat → Value} {K : Value → Prop} : am_gf 4 1 K (oc 61 f j v) = K ((v 1)) := oq_t rfl
theorem og_61_2 {f : Nat → Int32} {j : Nat → Int64} {v : Nat → Value} {K : Value → Prop} : am_gf 4 2 K (oc 61 f j v) = K (.int (f 2)) := oq_t rfl
theorem og_61_3 {f : Nat → Int32} {j : Nat → Int64} {v : Nat → Value} {K : Value → Prop} : am_gf 4 3 K (oc 61 f j v) = K (.int (f 3)) := oq_t rfl
theorem og_61_4 {f : Nat → Int32} {j : Nat → Int64} {v : Nat → Value} {K : Value → Prop} : am_gf 4 4 K (oc 61 f j v) = K (.ref 63) := oq_t rfl
theorem oo_61 {f : Nat → Int32} {j : Nat → Int64} {v : Nat → Value} : am_isO 4 (oc 61 f j v) = True := propext ⟨fun _ => trivial, fun _ => rfl⟩
theorem og_63_0 {f : Nat → Int32} {j : Nat → Int64} {v : Nat → Value} {K : Value → Prop} : am_gf 3 0 K (oc 63 f j v) = K (.int (f 0)) := oq_t rfl
theorem og_63_1 {f : Nat → Int32} {j : Nat → Int64} {v : Nat → Value} {K : Value → Prop} : am_gf 3 1 K (oc 63 f j v) = K (.int (f 1)) := oq_t rfl
theorem og_63_2 {f : Nat → Int32} {j : Nat → Int64} {v : Nat → Value} {K : Value → Prop} : am_gf 3 2 K (oc 63 f j v) = K (.int (f 2)) := oq_t rfl
theorem og_63_3 {f : Nat → Int32} {j : Nat → Int64} {v : Nat → Value} {K : Value → Prop} : am_gf 3 3 K (oc 63 f j v) = K (.int (f 3)) := oq_t rfl
theorem oo_63 {f : Nat → Int32} {j : Nat → Int64} {v : Nat → Value} : am_isO 3 (oc 63 f j v) = True := propext ⟨fun _ => trivial, fun _ => rfl⟩
theorem og_64_0 {f : Nat → Int32} {j : Nat → Int64} {v : Nat → Value} {K : Value → Prop} : am_gf 3 0 K (oc 64 f j v) = K (.int (f 0)) := oq_t rfl
theorem og_64_1 {f : Nat → Int32} {j : Nat → Int64} {v : Nat → Value} {K : Value → Prop} : am_gf 3 1 K (oc 64 f j v) = K (.int (f 1)) := oq_t rfl
theorem og_64_2 {f : Nat → Int32} {j : Nat → Int64} {v : Nat → Value} {K : Value → Prop} : am_gf 3 2 K (oc 64 f j v) = K (.int (f 2)) := oq_t rfl
theorem og_64_3 {f : Nat → Int32} {j : Nat → Int64} {v : Nat → Value} {K : Value → Prop} : am_gf 3 3 K (oc 64 f j v) = K (.int (f 3)) := oq_t rfl
theorem oo_64 {f : Nat → Int32} {j : Nat → Int64} {v : Nat → Value} : am_isO 3 (oc 64 f j v) = True := propext ⟨fun _ => trivial, fun _ => rfl⟩
theorem og_65_0 {f : Nat → Int32} {j : Nat → Int64} {v : Nat → Value} {K : Value → Prop} : am_gf 7 0 K (oc 65 f j v) = K (.int (f 0)) := oq_t rfl
theorem og_65_1 {f : Nat → Int32} {j : Nat → Int64} {v : Nat → Value} {K : Value → Prop} : am_gf 7 1 K (oc 65 f j v) = K (.int (f 1)) := oq_t rfl
theorem og_65_2 {f : Nat → Int32} {j : Nat → Int64} {v : Nat → Value} {K : Value → Prop} : am_gf 7 2 K (oc 65 f j v) = K (.int (f 2)) := oq_t rfl
theorem og_65_3 {f : Nat → Int32} {j : Nat → Int64} {v : Nat → Value} {K : Value → Prop} : am_gf 7 3 K (oc 65 f j v) = K (.int (f 3)) := oq_t rfl
theorem og_65_4 {f : Nat → Int32} {j : Nat → Int64} {v : Nat → Value} {K : Value → Prop} : am_gf 7 4 K (oc 65 f j v) = K (.int (f 4)) := oq_t rfl
theorem og_65_5 {f : Nat → Int32} {j : Nat → Int64} {v : Nat → Value} {K : Value → Prop} : am_gf 7 5 K (oc 65 f j v) = K (.int (f 5)) := oq_t rfl
theorem og_65_6 {f : Nat → Int32} {j : Nat → Int64} {v : Nat → Value} {K : Value → Prop} : am_gf 7 6 K (oc 65 f j v) = K (.ref 66) := oq_t rfl
theorem og_65_7 {f : Nat → Int32} {j : Nat → Int64} {v : Nat → Value} {K : Value → Prop} : am_gf 7 7 K (oc 65 f j v) = K (.int (f 7)) := oq_t rfl
theorem og_65_8 {f : Nat → Int32} {j : Nat → Int64} {v : Nat → Value} {K : Value → Prop} : am_gf 7 8 K (oc 65 f j v) = K (.int (f 8)) := oq_t rfl
theorem og_65_9 {f : Nat → Int32} {j : Nat → Int64} {v : Nat → Value} {K : Value → Prop} : am_gf 7 9 K (oc 65 f j v) = K (.ref 67) := oq_t rfl
theorem og_65_10 {f : Nat → Int32} {j : Nat → Int64} {v : Nat → Value} {K : Value → Prop} : am_gf 7 10 K (oc 65 f j v) = K (.ref 71) := oq_t rfl
theorem oo_65 {f : Nat → Int32} {j : Nat → Int64} {v : Nat → Value} : am_isO 7 (oc 65 f j v) = True := propext ⟨fun _ => trivial, fun _ => rfl⟩
theorem og_67_0 {f : Nat → Int32} {j : Nat → Int64} {v : Nat → Value} {K : Value → Prop} : am_gf 8 0 K (oc 67 f j v) = K (.ref 68) := oq_t rfl
theorem og_67_1 {f : Nat → Int32} {j : Nat → Int64} {v : Nat → Value} {K : Value → Prop} : am_gf 8 1 K (oc 67 f j v) = K (.ref 69) := oq_t rfl
theorem og_67_2 {f : Nat → Int32} {j : Nat → Int64} {v : Nat → Value} {K : Value → Prop} : am_gf 8 2 K (oc 67 f j v) = K (.int (f 2)) := oq_t rfl
theorem og_67_3 {f : Nat → Int32} {j : Nat → Int64} {v : Nat → Value} {K : Value → Prop} : am_gf 8 3 K (oc 67 f j v) = K (.ref 70) := oq_t rfl
theorem og_67_4 {f : Nat → Int32} {j : Nat → Int64} {v : Nat → Value} {K : Value → Prop} : am_gf 8 4 K (oc 67 f j v) = K (.int (f 4)) := oq_t rfl
theorem oo_67 {f : Nat → Int32} {j : Nat → Int64} {v : Nat → Value} : am_isO 8 (oc 67 f j v) = True := propext ⟨fun _ => trivial, fun _ => rfl⟩
theorem og_71_0 {f : Nat → Int32} {j : Nat → Int64} {v : Nat → Value} {K : Value → Prop} : am_gf 6 0 K (oc 71 f j v) = K (.int (f 0)) := oq_t rfl
theorem og_71_1 {f : Nat → Int32} {j : Nat → Int64} {v : Nat → Value} {K : Value → Prop} : am_gf 6 1 K (oc 71 f j v) = K (.int (f 1)) := oq_t rfl
theorem og_71_2 {f : Nat → Int32} {j : Nat → Int64} {v : Nat → Value} {K : Value → Prop} : am_gf 6 2 K (oc 71 f j v) = K (.int (f 2)) := oq_t rfl
theorem og_71_3 {f : Nat → Int32} {j : Nat → Int64} {v : Nat → Value} {K : Value → Prop} : am_gf 6 3 K (oc 71 f j v) = K (.int (f 3)) := oq_t rfl
theorem og_71_4 {f : Nat → Int32} {j : Nat → Int64} {v : Nat → Value} {K : Value → Prop} : am_gf 6 4 K (oc 71 f j v) = K (.int (f 4)) := oq_t rfl
theorem og_71_5 {f : Nat → Int32} {j : Nat → Int64} {v : Nat → Value} {K : Value → Prop} : am_gf 6 5 K (oc 71 f j v) = K (.int (f 5)) := oq_t rfl
theorem og_71_6 {f : Nat → Int32} {j : Nat → Int64} {v : Nat → Value} {K : Value → Prop} : am_gf 6 6 K (oc 71 f j v) = K (.ref 73) := oq_t rfl
theorem og_71_7 {f : Nat → Int32} {j : Nat → Int64} {v : Nat → Value} {K : Value → Prop} : am_gf 6 7 K (oc 71 f j v) = K (.ref 74) := oq_t rfl
theorem og_71_8 {f : Nat → Int32} {j : Nat → Int64} {v : Nat → Value} {K : Value → Prop} : am_gf 6 8 K (oc 71 f j v) = K (.ref 72) := oq_t rfl
theorem oo_71 {f : Nat → Int32} {j : Nat → Int64} {v : Nat → Value} : am_isO 6 (oc 71 f j v) = True := propext ⟨fun _ => trivial, fun _ => rfl⟩
theorem og_75_0 {f : Nat → Int32} {j : Nat → Int64} {v : Nat → Value} {K : Value → Prop} : am_gf 1 0 K (oc 75 f j v) = K (.int (f 0)) := oq_t rfl
theorem og_75_1 {f : Nat → Int32} {j : Nat → Int64} {v : Nat → Value} {K : Value → Prop} : am_gf 1 1 K (oc 75 f j v) = K (.ref 76) := oq_t rfl
theorem og_75_2 {f : Nat → Int32} {j : Nat → Int64} {v : Nat → Value} {K : Value → Prop} : am_gf 1 2 K (oc 75 f j v) = K (.ref 77) := oq_t rfl
theorem og_75_3 {f : Nat → Int32} {j : Nat → Int64} {v : Nat → Value} {K : Value → Prop} : am_gf 1 3 K (oc 75 f j v) = K (.ref 78) := oq_t rfl
theorem og_75_4 {f : Nat → Int32} {j : Nat → Int64} {v : Nat → Value} {K : Value → Prop} : am_gf 1 4 K (oc 75 f j v) = K (.ref 79) := oq_t rfl
theorem og_75_5 {f : Nat → Int32} {j : Nat → Int64} {v : Nat → Value} {K : Value → Prop} : am_gf 1 5 K (oc 75 f j v) = K (.int (f 5)) := oq_t rfl
theorem og_75_6 {f : Nat → Int32} {j : Nat → Int64} {v : Nat → Value} {K : Value → Prop} : am_gf 1 6 K (oc 75 f j v) = K (.int (f 6)) := oq_t rfl
theorem oo_75 {f : Nat → Int32} {j : Nat → Int64} {v : Nat → Value} : am_isO 1 (oc 75 f j v) = True := propext ⟨fun _ => trivial, fun _ => rfl⟩
theorem og_82_0 {f : Nat → Int32} {j : Nat → Int64} {v : Nat → Value} {K : Value → Prop} : am_gf 12 0 K (oc 82 f j v) = K (.int (f 0)) := oq_t rfl
theorem og_82_1 {f : Nat → Int32} {j : Nat → Int64} {v : Nat → Value} {K : Value → Prop} : am_gf 12 1 K (oc 82 f j v) = K (.ref 83) := oq_t rfl
theorem og_82_2 {f : Nat → Int32} {j : Nat → Int64} {v : Nat → Value} {K : Value → Prop} : am_gf 12 2 K (oc 82 f j v) = K (.ref 84) := oq_t rfl
theorem og_82_3 {f : Nat → Int32} {j : Nat → Int64} {v : Nat → Value} {K : Value → Prop} : am_gf 12 3 K (oc 82 f j v) = K (.ref 85) := oq_t rfl
theorem og_82_4 {f : Nat → Int32} {j : Nat → Int64} {v : Nat → Value} {K : Value → Prop} : am_gf 12 4 K (oc 82 f j v) = K (.ref 86) := oq_t rfl
theorem og_82_5 {f : Nat → Int32} {j : Nat → Int64} {v : Nat → Value} {K : Value → Prop} : am_gf 12 5 K (oc 82 f j v) = K (.ref 87) := oq_t rfl
theorem og_82_6 {f : Nat → Int32} {j : Nat → Int64} {v : Nat → Value} {K : Value → Prop} : am_gf 12 6 K (oc 82 f j v) = K (.ref 88) := oq_t rfl
theorem og_82_7 {f : Nat → Int32} {j : Nat → Int64} {v : Nat → Value} {K : Value → Prop} : am_gf 12 7 K (oc 82 f j v) = K (.ref 89) := oq_t rfl
theorem og_82_8 {f : Nat → Int32} {j : Nat → Int64} {v : Nat → Value} {K : Value → Prop} : am_gf 12 8 K (oc 82 f j v) = K (.int (f 8)) := oq_t rfl
theorem og_82_9 {f : Nat → Int32} {j : Nat → Int64} {v : Nat → Value} {K : Value → Prop} : am_gf 12 9 K (oc 82 f j v) = K (.int (f 9)) := oq_t rfl
theorem og_82_10 {f : Nat → Int32} {j : Nat → Int64} {v : Nat → Value} {K : Value → Prop} : am_gf 12 10 K (oc 82 f j v) = K (.ref 90) := oq_t rfl
theorem og_82_11 {f : Nat → Int32} {j : Nat → Int64} {v : Nat → Value} {K : Value → Prop} : am_gf 12 11 K (oc 82 f j v) = K (.ref 91) := oq_t rfl
theorem og_82_12 {f : Nat → Int32} {j : Nat → Int64} {v : Nat → Value} {K : Value → Prop} : am_gf 12 12 K (oc 82 f j v) = K (.ref 92) := oq_t rfl
theorem og_82_13 {f : Nat → Int32} {j : Nat → Int64} {v : Nat → Value} {K : Value → Prop} : am_gf 12 13 K (oc 82 f j v) = K (.int (f 13)) := oq_t rfl
theorem og_82_14 {f : Nat → Int32} {j : Nat → Int64} {v : Nat → Value} {K : Value → Prop} : am_gf 12 14 K (oc 82 f j v) = K (.int (f 14)) := oq_t rfl
theorem og_82_15 {f : Nat → Int32} {j : Nat → Int64} {v : Nat → Value} {K : Value → Prop} : am_gf 12 15 K (oc 82 f j v) = K (.int (f 15)) := oq_t rfl
theorem og_82_16 {f : Nat → Int32} {j : Nat → Int64} {v : Nat → Value} {K : Value → Prop} : am_gf 12 16 K (oc 82 f j v) = K (.int (f 16)) := oq_t rfl
theorem og_82_17 {f : Nat → Int32} {j : Nat → Int64} {v : Nat → Value} {K : Value → Prop} : am_gf 12 17 K (oc 82 f j v) = K (.ref 93) := oq_t rfl
theorem og_82_18 {f : Nat → Int32} {j : Nat → Int64} {v : Nat → Value} {K : Value → Prop} : am_gf 12 18 K (oc 82 f j v) = K (.int (f 18)) := oq_t rfl
theorem og_82_19 {f : Nat → Int32} {j : Nat → Int64} {v : Nat → Value} {K : Value → Prop} : am_gf 12 19 K (oc 82 f j v) = K (.int (f 19)) := oq_t rfl
theorem og_82_20 {f : Nat → Int32} {j : Nat → Int64} {v : Nat → Value} {K : Value → Prop} : am_gf 12 20 K (oc 82 f j v) = K (.int (f 20)) := oq_t rfl
theorem og_82_21 {f : Nat → Int32} {j : Nat → Int64} {v : Nat → Value} {K : Value → Prop} : am_gf 12 21 K (oc 82 f j v) = K (.int (f 21)) := oq_t rfl
theorem og_82_22 {f : Nat → Int32} {j : Nat → Int64} {v : Nat → Value} {K : Value → Prop} : am_gf 12 22 K (oc 82 f j v) = K (.int (f 22)) := oq_t rfl
theorem og_82_23 {f : Nat → Int32} {j : Nat → Int64} {v : Nat → Value} {K : Value → Prop} : am_gf 12 23 K (oc 82 f j v) = K (.int (f 23)) := oq_t rfl
theorem og_82_24 {f : Nat → Int32} {j : Nat → Int64} {v : Nat → Value} {K : Value → Prop} : am_gf 12 24 K (oc 82 f j v) = K (.ref 94) := oq_t rfl
theorem og_82_25 {f : Nat → Int32} {j : Nat → Int64} {v : Nat → Value} {K : Value → Prop} : am_gf 12 25 K (oc 82 f j v) = K (.ref 95) := oq_t rfl
theorem og_82_26 {f : Nat → Int32} {j : Nat → Int64} {v : Nat → Value} {K : Value → Prop} : am_gf 12 26 K (oc 82 f j v) = K (.ref 96) := oq_t rfl
theorem og_82_27 {f : Nat → Int32} {j : Nat → Int64} {v : Nat → Value} {K : Value → Prop} : am_gf 12 27 K (oc 82 f j v) = K (.int (f 27)) := oq_t rfl
theorem og_82_28 {f : Nat → Int32} {j : Nat → Int64} {v : Nat → Value} {K : Value → Prop} : am_gf 12 28 K (oc 82 f j v) = K (.ref 97) := oq_t rfl
theorem og_82_29 {f : Nat → Int32} {j : Nat → Int64} {v : Nat → Value} {K : Value → Prop} : am_gf 12 29 K (oc 82 f j v) = K (.ref 98) := oq_t rfl
theorem og_82_30 {f : Nat → Int32} {j : Nat → Int64} {v : Nat → Value} {K : Value → Prop} : am_gf 12 30 K (oc 82 f j v) = K (.ref 99) := oq_t rfl
theorem og_82_31 {f : Nat → Int32} {j : Nat → Int64} {v : Nat → Value} {K : Value → Prop} : am_gf 12 31 K (oc 82 f j v) = K (.int (f 31)) := oq_t rfl
theorem og_82_32 {f : Nat → Int32} {j : Nat → Int64} {v : Nat → Value} {K : Value → Prop} : am_gf 12 32 K (oc 82 f j v) = K (.ref 100) := oq_t rfl
theorem og_82_33 {f : Nat → Int32} {j : Nat → Int64} {v : Nat → Value} {K : Value → Prop} : am_gf 12 33 K (oc 82 f j v) = K (.ref 101) := oq_t rfl
theorem og_82_34 {f : Nat → Int32} {j : Nat → Int64} {v : Nat → Value} {K : Value → Prop} : am_gf 12 34 K (oc 82 f j v) = K (.ref 102) := oq_t rfl
theorem og_82_35 {f : Nat → Int32} {j : Nat → Int64} {v : Nat → Value} {K : Value → Prop} : am_gf 12 35 K (oc 82 f j v) = K (.ref 103) := oq_t rfl
theorem og_82_36 {f : Nat → Int32} {j : Nat → Int64} {v : Nat → Value} {K : Value → Prop} : am_gf 12 36 K (oc 82 f j v) = K (.ref 104) := oq_t rfl
theorem og_82_37 {f : Nat → Int32} {j : Nat → Int64} {v : Nat → Value} {K : Value → Prop} : am_gf 12 37 K (oc 82 f j v) = K (.int (f 37)) := oq_t rfl
theorem og_82_38 {f : Nat → Int32} {j : Nat → Int64} {v : Nat → Value} {K : Value → Prop} : am_gf 12 38 K (oc 82 f j v) = K (.int (f 38)) := oq_t rfl
theorem og_82_39 {f : Nat → Int32} {j : Nat → Int64} {v : Nat → Value} {K : Value → Prop} : am_gf 12 39 K (oc 82 f j v) = K (.int (f 39)) := oq_t rfl
theorem og_82_40 {f : Nat → Int32} {j : Nat → Int64} {v : Nat → Value} {K : Value → Prop} : am_gf 12 40 K (oc 82 f j v) = K (.ref 105) := oq_t rfl
theorem og_82_41 {f : Nat → Int32} {j : Nat → Int64} {v : Nat → Value} {K : Value → Prop} : am_gf 12 41 K (oc 82 f j v) = K (.ref 106) := oq_t rfl
theorem og_82_42 {f : Nat → Int32} {j : Nat → Int64} {v : Nat → Value} {K : Value → Prop} : am_gf 12 42 K (oc 82 f j v) = K (.ref 107) := oq_t rfl
theorem og_82_43 {f : Nat → Int32} {j : Nat → Int64} {v : Nat → Value} {K : Value → Prop} : am_gf 12 43 K (oc 82 f j v) = K (.int (f 43)) := oq_t rfl
theorem og_82_44 {f : Nat → Int32} {j : Nat → Int64} {v : Nat → Value} {K : Value → Prop} : am_gf 12 44 K (oc 82 f j v) = K (.int (f 44)) := oq_t rfl
theorem og_82_45 {f : Nat → Int32} {j : Nat → Int64} {v : Nat → Value} {K : Value → Prop} : am_gf 12 45 K (oc 82 f j v) = K (.int (f 45)) := oq_t rfl
theorem og_82_46 {f : Nat → Int32} {j : Nat → Int64} {v : Nat → Value} {K : Value → Prop} : am_gf 12 46 K (oc 82 f j v) = K (.int (f 46)) := oq_t rfl
theorem oo_82 {f : Nat → Int32} {j : Nat → Int64} {v : Nat → Value} : am_isO 12 (oc 82 f j v) = True := propext ⟨fun _ => trivial, fun _ => rfl⟩
theorem op_23_11 {f : Nat → Int32} {j : Nat → Int64} {v : Nat → Value} {x : Int32} {K : am_E → Prop} : am_pf 11 11 (.int x) K (oc 23 f j v) = K (oc 23 (upz f 11 x) j v) := (oq_t rfl).trans (oq_t (show 11 < 14 by decide))
theorem op_23_13 {f : Nat → Int32} {j : Nat → Int64} {v : Nat → Value} {x : Int32} {K : am_E → Prop} : am_pf 11 13 (.int x) K (oc 23 f j v) = K (oc 23 (upz f 13 x) j v) := (oq_t rfl).trans (oq_t (show 13 < 14 by decide))
theorem op_24_1 {f : Nat → Int32} {j : Nat → Int64} {v : Nat → Value} {x : Int32} {K : am_E → Prop} : am_pf 5 1 (.int x) K (oc 24 f j v) = K (oc 24 (upz f 1 x) j v) := (oq_t rfl).trans (oq_t (show 1 < 13 by decide))
theorem op_24_2 {f : Nat → Int32} {j : Nat → Int64} {v : Nat → Value} {x : Int32} {K : am_E → Prop} : am_pf 5 2 (.int x) K (oc 24 f j v) = K (oc 24 (upz f 2 x) j v) := (oq_t rfl).trans (oq_t (show 2 < 13 by decide))
theorem op_24_3 {f : Nat → Int32} {j : Nat → Int64} {v : Nat → Value} {x : Int32} {K : am_E → Prop} : am_pf 5 3 (.int x) K (oc 24 f j v) = K (oc 24 (upz f 3 x) j v) := (oq_t rfl).trans (oq_t (show 3 < 13 by decide))
theorem op_24_4 {f : Nat → Int32} {j : Nat → Int64} {v : Nat → Value} {x : Int32} {K : am_E → Prop} : am_pf 5 4 (.int x) K (oc 24 f j v) = K (oc 24 (upz f 4 x) j v) := (oq_t rfl).trans (oq_t (show 4 < 13 by decide))
theorem op_24_5 {f : Nat → Int32} {j : Nat → Int64} {v : Nat → Value} {x : Int32} {K : am_E → Prop} : am_pf 5 5 (.int x) K (oc 24 f j v) = K (oc 24 (upz f 5 x) j v) := (oq_t rfl).trans (oq_t (show 5 < 13 by decide))
theorem op_24_6 {f : Nat → Int32} {j : Nat → Int64} {v : Nat → Value} {x : Int32} {K : am_E → Prop} : am_pf 5 6 (.int x) K (oc 24 f j v) = K (oc 24 (upz f 6 x) j v) := (oq_t rfl).trans (oq_t (show 6 < 13 by decide))
theorem op_24_7 {f : Nat → Int32} {j : Nat → Int64} {v : Nat → Value} {x : Int32} {K : am_E → Prop} : am_pf 5 7 (.int x) K (oc 24 f j v) = K (oc 24 (upz f 7 x) j v) := (oq_t rfl).trans (oq_t (show 7 < 13 by decide))
theorem op_24_8 {f : Nat → Int32} {j : Nat → Int64} {v : Nat → Value} {x : Int32} {K : am_E → Prop} : am_pf 5 8 (.int x) K (oc 24 f j v) = K (oc 24 (upz f 8 x) j v) := (oq_t rfl).trans (oq_t (show 8 < 13 by decide))
theorem op_24_9 {f : Nat → Int32} {j : Nat → Int64} {v : Nat → Value} {x : Int32} {K : am_E → Prop} : am_pf 5 9 (.int x) K (oc 24 f j v) = K (oc 24 (upz f 9 x) j v) := (oq_t rfl).trans (oq_t (show 9 < 13 by decide))
theorem op_24_10 {f : Nat → Int32} {j : Nat → Int64} {v : Nat → Value} {x : Int32} {K : am_E → Prop} : am_pf 5 10 (.int x) K (oc 24 f j v) = K (oc 24 (upz f 10 x) j v) := (oq_t rfl).trans (oq_t (show 10 < 13 by decide))
theorem op_26_5 {f : Nat → Int32} {j : Nat → Int64} {v : Nat → Value} {x : Int32} {K : am_E → Prop} : am_pf 9 5 (.int x) K (oc 26 f j v) = K (oc 26 (upz f 5 x) j v) := (oq_t rfl).trans (oq_t (show 5 < 6 by decide))
theorem op_32_1 {f : Nat → Int32} {j : Nat → Int64} {v : Nat → Value} {x : Int32} {K : am_E → Prop} : am_pf 10 1 (.int x) K (oc 32 f j v) = K (oc 32 (upz f 1 x) j v) := (oq_t rfl).trans (oq_t (show 1 < 2 by decide))
theorem op_34_1 {f : Nat → Int32} {j : Nat → Int64} {v : Nat → Value} {x : Int32} {K : am_E → Prop} : am_pf 2 1 (.int x) K (oc 34 f j v) = K (oc 34 (upz f 1 x) j v) := (oq_t rfl).trans (oq_t (show 1 < 8 by decide))
theorem op_34_2 {f : Nat → Int32} {j : Nat → Int64} {v : Nat → Value} {x : Value} {K : am_E → Prop} : am_pf 2 2 x K (oc 34 f j v) = K (oc 34 f j (upz v 2 x)) := (oq_t rfl).trans (oq_t (show 2 < 8 by decide))
theorem op_34_3 {f : Nat → Int32} {j : Nat → Int64} {v : Nat → Value} {x : Int32} {K : am_E → Prop} : am_pf 2 3 (.int x) K (oc 34 f j v) = K (oc 34 (upz f 3 x) j v) := (oq_t rfl).trans (oq_t (show 3 < 8 by decide))
theorem op_34_6 {f : Nat → Int32} {j : Nat → Int64} {v : Nat → Value} {x : Int32} {K : am_E → Prop} : am_pf 2 6 (.int x) K (oc 34 f j v) = K (oc 34 (upz f 6 x) j v) := (oq_t rfl).trans (oq_t (show 6 < 8 by decide))
theorem op_34_7 {f : Nat → Int32} {j : Nat → Int64} {v : Nat → Value} {x : Int32} {K : am_E → Prop} : am_pf 2 7 (.int x) K (oc 34 f j v) = K (oc 34 (upz f 7 x) j v) := (oq_t rfl).trans (oq_t (show 7 < 8 by decide))
theorem op_39_1 {f : Nat → Int32} {j : Nat → Int64} {v : Nat → Value} {x : Int32} {K : am_E → Prop} : am_pf 2 1 (.int x) K (oc 39 f j v) = K (oc 39 (upz f 1 x) j v) := (oq_t rfl).trans (oq_t (show 1 < 8 by decide))
theorem op_39_2 {f : Nat → Int32} {j : Nat → Int64} {v : Nat → Value} {x : Value} {K : am_E → Prop} : am_pf 2 2 x K (oc 39 f j v) = K (oc 39 f j (upz v 2 x)) := (oq_t rfl).trans (oq_t (show 2 < 8 by decide))
theorem op_39_3 {f : Nat → Int32} {j : Nat → Int64} {v : Nat → Value} {x : Int32} {K : am_E → Prop} : am_pf 2 3 (.int x) K (oc 39 f j v) = K (oc 39 (upz f 3 x) j v) := (oq_t rfl).trans (oq_t (show 3 < 8 by decide))
theorem op_39_6 {f : Nat → Int32} {j : Nat → Int64} {v : Nat → Value} {x : Int32} {K : am_E → Prop} : am_pf 2 6 (.int x) K (oc 39 f j v) = K (oc 39 (upz f 6 x) j v) := (oq_t rfl).trans (oq_t (show 6 < 8 by decide))
theorem op_39_7 {f : Nat → Int32} {j : Nat → Int64} {v : Nat → Value} {x : Int32} {K : am_E → Prop} : am_pf 2 7 (.int x) K (oc 39 f j v) = K (oc 39 (upz f 7 x) j v) := (oq_t rfl).trans (oq_t (show 7 < 8 by decide))
theorem op_43_1 {f : Nat → Int32} {j : Nat → Int64} {v : Nat → Value} {x : Int32} {K : am_E → Prop} : am_pf 2 1 (.int x) K (oc 43 f j v) = K (oc 43 (upz f 1 x) j v) := (oq_t rfl).trans (oq_t (show 1 < 8 by decide))
theorem op_43_2 {f : Nat → Int32} {j : Nat → Int64} {v : Nat → Value} {x : Value} {K : am_E → Prop} : am_pf 2 2 x K (oc 43 f j v) = K (oc 43 f j (upz v 2 x)) := (oq_t rfl).trans (oq_t (show 2 < 8 by decide))
theorem op_43_3 {f : Nat → Int32} {j : Nat → Int64} {v : Nat → Value} {x : Int32} {K : am_E → Prop} : am_pf 2 3 (.int x) K (oc 43 f j v) = K (oc 43 (upz f 3 x) j v) := (oq_t rfl).trans (oq_t (show 3 < 8 by decide))
theorem op_43_6 {f : Nat → Int32} {j : Nat → Int64} {v : Nat → Value} {x : Int32} {K : am_E → Prop} : am_pf 2 6 (.int x) K (oc 43 f j v) = K (oc 43 (upz f 6 x) j v) := (oq_t rfl).trans (oq_t (show 6 < 8 by decide))
theorem op_43_7 {f : Nat → Int32} {j : Nat → Int64} {v : Nat → Value} {x : Int32} {K : am_E → Prop} : am_pf 2 7 (.int x) K (oc 43 f j v) = K (oc 43 (upz f 7 x) j v) := (oq_t rfl).trans (oq_t (show 7 < 8 by decide))
theorem op_47_2 {f : Nat → Int32} {j : Nat → Int64} {v : Nat → Value} {x : Int32} {K : am_E → Prop} : am_pf 8 2 (.int x) K (oc 47 f j v) = K (oc 47 (upz f 2 x) j v) := (oq_t rfl).trans (oq_t (show 2 < 5 by decide))
theorem op_47_4 {f : Nat → Int32} {j : Nat → Int64} {v : Nat → Value} {x : Int32} {K : am_E → Prop} : am_pf 8 4 (.int x) K (oc 47 f j v) = K (oc 47 (upz f 4 x) j v) := (oq_t rfl).trans (oq_t (show 4 < 5 by decide))
theorem op_51_0 {f : Nat → Int32} {j : Nat → Int64} {v : Nat → Value} {x : Int32} {K : am_E → Prop} : am_pf 6 0 (.int x) K (oc 51 f j v) = K (oc 51 (upz f 0 x) j v) := (oq_t rfl).trans (oq_t (show 0 < 9 by decide))
theorem op_51_1 {f : Nat → Int32} {j : Nat → Int64} {v : Nat → Value} {x : Int32} {K : am_E → Prop} : am_pf 6 1 (.int x) K (oc 51 f j v) = K (oc 51 (upz f 1 x) j v) := (oq_t rfl).trans (oq_t (show 1 < 9 by decide))
theorem op_51_2 {f : Nat → Int32} {j : Nat → Int64} {v : Nat → Value} {x : Int32} {K : am_E → Prop} : am_pf 6 2 (.int x) K (oc 51 f j v) = K (oc 51 (upz f 2 x) j v) := (oq_t rfl).trans (oq_t (show 2 < 9 by decide))
theorem op_51_3 {f : Nat → Int32} {j : Nat → Int64} {v : Nat → Value} {x : Int32} {K : am_E → Prop} : am_pf 6 3 (.int x) K (oc 51 f j v) = K (oc 51 (upz f 3 x) j v) := (oq_t rfl).trans (oq_t (show 3 < 9 by decide))
theorem op_51_4 {f : Nat → Int32} {j : Nat → Int64} {v : Nat → Value} {x : Int32} {K : am_E → Prop} : am_pf 6 4 (.int x) K (oc 51 f j v) = K (oc 51 (upz f 4 x) j v) := (oq_t rfl).trans (oq_t (show 4 < 9 by decide))
theorem op_51_5 {f : Nat → Int32} {j : Nat → Int64} {v : Nat → Value} {x : Int32} {K : am_E → Prop} : am_pf 6 5 (.int x) K (oc 51 f j v) = K (oc 51 (upz f 5 x) j v) := (oq_t rfl).trans (oq_t (show 5 < 9 by decide))
theorem op_55_1 {f : Nat → Int32} {j : Nat → Int64} {v : Nat → Value} {x : Int32} {K : am_E → Prop} : am_pf 0 1 (.int x) K (oc 55 f j v) = K (oc 55 (upz f 1 x) j v) := (oq_t rfl).trans (oq_t (show 1 < 8 by decide))
theorem op_55_4 {f : Nat → Int32} {j : Nat → Int64} {v : Nat → Value} {x : Int32} {K : am_E → Prop} : am_pf 0 4 (.int x) K (oc 55 f j v) = K (oc 55 (upz f 4 x) j v) := (oq_t rfl).trans (oq_t (show 4 < 8 by decide))
theorem op_55_5 {f : Nat → Int32} {j : Nat → Int64} {v : Nat → Value} {x : Value} {K : am_E → Prop} : am_pf 0 5 x K (oc 55 f j v) = K (oc 55 f j (upz v 5 x)) := (oq_t rfl).trans (oq_t (show 5 < 8 by decide))
theorem op_55_7 {f : Nat → Int32} {j : Nat → Int64} {v : Nat → Value} {x : Int32} {K : am_E → Prop} : am_pf 0 7 (.int x) K (oc 55 f j v) = K (oc 55 (upz f 7 x) j v) := (oq_t rfl).trans (oq_t (show 7 < 8 by decide))
theorem op_61_0 {f : Nat → Int32} {j : Nat → Int64} {v : Nat → Value} {x : Int32} {K : am_E → Prop} : am_pf 4 0 (.int x) K (oc 61 f j v) = K (oc 61 (upz f 0 x) j v) := (oq_t rfl).trans (oq_t (show 0 < 5 by decide))
theorem op_61_1 {f : Nat → Int32} {j : Nat → Int64} {v : Nat → Value} {x : Value} {K : am_E → Prop} : am_pf 4 1 x K (oc 61 f j v) = K (oc 61 f j (upz v 1 x)) := (oq_t rfl).trans (oq_t (show 1 < 5 by decide))
theorem op_61_2 {f : Nat → Int32} {j : Nat → Int64} {v : Nat → Value} {x : Int32} {K : am_E → Prop} : am_pf 4 2 (.int x) K (oc 61 f j v) = K (oc 61 (upz f 2 x) j v) := (oq_t rfl).trans (oq_t (show 2 < 5 by decide))
theorem op_61_3 {f : Nat → Int32} {j : Nat → Int64} {v : Nat → Value} {x : Int32} {K : am_E → Prop} : am_pf 4 3 (.int x) K (oc 61 f j v) = K (oc 61 (upz f 3 x) j v) := (oq_t rfl).trans (oq_t (show 3 < 5 by decide))
theorem op_63_0 {f : Nat → Int32} {j : Nat → Int64} {v : Nat → Value} {x : Int32} {K : am_E → Prop} : am_pf 3 0 (.int x) K (oc 63 f j v) = K (oc 63 (upz f 0 x) j v) := (oq_t rfl).trans (oq_t (show 0 < 4 by decide))
theorem op_63_1 {f : Nat → Int32} {j : Nat → Int64} {v : Nat → Value} {x : Int32} {K : am_E → Prop} : am_pf 3 1 (.int x) K (oc 63 f j v) = K (oc 63 (upz f 1 x) j v) := (oq_t rfl).trans (oq_t (show 1 < 4 by decide))
theorem op_63_2 {f : Nat → Int32} {j : Nat → Int64} {v : Nat → Value} {x : Int32} {K : am_E → Prop} : am_pf 3 2 (.int x) K (oc 63 f j v) = K (oc 63 (upz f 2 x) j v) := (oq_t rfl).trans (oq_t (show 2 < 4 by decide))
theorem op_63_3 {f : Nat → Int32} {j : Nat → Int64} {v : Nat → Value} {x : Int32} {K : am_E → Prop} : am_pf 3 3 (.int x) K (oc 63 f j v) = K (oc 63 (upz f 3 x) j v) := (oq_t rfl).trans (oq_t (show 3 < 4 by decide))
theorem op_64_0 {f : Nat → Int32} {j : Nat → Int64} {v : Nat → Value} {x : Int32} {K : am_E → Prop} : am_pf 3 0 (.int x) K (oc 64 f j v) = K (oc 64 (upz f 0 x) j v) := (oq_t rfl).trans (oq_t (show 0 < 4 by decide))
theorem op_64_1 {f : Nat → Int32} {j : Nat → Int64} {v : Nat → Value} {x : Int32} {K : am_E → Prop} : am_pf 3 1 (.int x) K (oc 64 f j v) = K (oc 64 (upz f 1 x) j v) := (oq_t rfl).trans (oq_t (show 1 < 4 by decide))
theorem op_64_2 {f : Nat → Int32} {j : Nat → Int64} {v : Nat → Value} {x : Int32} {K : am_E → Prop} : am_pf 3 2 (.int x) K (oc 64 f j v) = K (oc 64 (upz f 2 x) j v) := (oq_t rfl).trans (oq_t (show 2 < 4 by decide))
theorem op_64_3 {f : Nat → Int32} {j : Nat → Int64} {v : Nat → Value} {x : Int32} {K : am_E → Prop} : am_pf 3 3 (.int x) K (oc 64 f j v) = K (oc 64 (upz f 3 x) j v) := (oq_t rfl).trans (oq_t (show 3 < 4 by decide))
theorem op_65_0 {f : Nat → Int32} {j : Nat → Int64} {v : Nat → Value} {x : Int32} {K : am_E → Prop} : am_pf 7 0 (.int x) K (oc 65 f j v) = K (oc 65 (upz f 0 x) j v) := (oq_t rfl).trans (oq_t (show 0 < 11 by decide))
theorem op_65_1 {f : Nat → Int32} {j : Nat → Int64} {v : Nat → Value} {x : Int32} {K : am_E → Prop} : am_pf 7 1 (.int x) K (oc 65 f j v) = K (oc 65 (upz f 1 x) j v) := (oq_t rfl).trans (oq_t (show 1 < 11 by decide))
theorem op_65_2 {f : Nat → Int32} {j : Nat → Int64} {v : Nat → Value} {x : Int32} {K : am_E → Prop} : am_pf 7 2 (.int x) K (oc 65 f j v) = K (oc 65 (upz f 2 x) j v) := (oq_t rfl).trans (oq_t (show 2 < 11 by decide))
theorem op_65_3 {f : Nat → Int32} {j : Nat → Int64} {v : Nat → Value} {x : Int32} {K : am_E → Prop} : am_pf 7 3 (.int x) K (oc 65 f j v) = K (oc 65 (upz f 3 x) j v) := (oq_t rfl).trans (oq_t (show 3 < 11 by decide))
theorem op_65_4 {f : Nat → Int32} {j : Nat → Int64} {v : Nat → Value} {x : Int32} {K : am_E → Prop} : am_pf 7 4 (.int x) K (oc 65 f j v) = K (oc 65 (upz f 4 x) j v) := (oq_t rfl).trans (oq_t (show 4 < 11 by decide))
theorem op_65_5 {f : Nat → Int32} {j : Nat → Int64} {v : Nat → Value} {x : Int32} {K : am_E → Prop} : am_pf 7 5 (.int x) K (oc 65 f j v) = K (oc 65 (upz f 5 x) j v) := (oq_t rfl).trans (oq_t (show 5 < 11 by decide))
theorem op_65_7 {f : Nat → Int32} {j : Nat → Int64} {v : Nat → Value} {x : Int32} {K : am_E → Prop} : am_pf 7 7 (.int x) K (oc 65 f j v) = K (oc 65 (upz f 7 x) j v) := (oq_t rfl).trans (oq_t (show 7 < 11 by decide))
theorem op_65_8 {f : Nat → Int32} {j : Nat → Int64} {v : Nat → Value} {x : Int32} {K : am_E → Prop} : am_pf 7 8 (.int x) K (oc 65 f j v) = K (oc 65 (upz f 8 x) j v) := (oq_t rfl).trans (oq_t (show 8 < 11 by decide))
theorem op_67_2 {f : Nat → Int32} {j : Nat → Int64} {v : Nat → Value} {x : Int32} {K : am_E → Prop} : am_pf 8 2 (.int x) K (oc 67 f j v) = K (oc 67 (upz f 2 x) j v) := (oq_t rfl).trans (oq_t (show 2 < 5 by decide))
theorem op_67_4 {f : Nat → Int32} {j : Nat → Int64} {v : Nat → Value} {x : Int32} {K : am_E → Prop} : am_pf 8 4 (.int x) K (oc 67 f j v) = K (oc 67 (upz f 4 x) j v) := (oq_t rfl).trans (oq_t (show 4 < 5 by decide))
theorem op_71_0 {f : Nat → Int32} {j : Nat → Int64} {v : Nat → Value} {x : Int32} {K : am_E → Prop} : am_pf 6 0 (.int x) K (oc 71 f j v) = K (oc 71 (upz f 0 x) j v) := (oq_t rfl).trans (oq_t (show 0 < 9 by decide))
theorem op_71_1 {f : Nat → Int32} {j : Nat → Int64} {v : Nat → Value} {x : Int32} {K : am_E → Prop} : am_pf 6 1 (.int x) K (oc 71 f j v) = K (oc 71 (upz f 1 x) j v) := (oq_t rfl).trans (oq_t (show 1 < 9 by decide))
theorem op_71_2 {f : Nat → Int32} {j : Nat → Int64} {v : Nat → Value} {x : Int32} {K : am_E → Prop} : am_pf 6 2 (.int x) K (oc 71 f j v) = K (oc 71 (upz f 2 x) j v) := (oq_t rfl).trans (oq_t (show 2 < 9 by decide))
theorem op_71_3 {f : Nat → Int32} {j : Nat → Int64} {v : Nat → Value} {x : Int32} {K : am_E → Prop} : am_pf 6 3 (.int x) K (oc 71 f j v) = K (oc 71 (upz f 3 x) j v) := (oq_t rfl).trans (oq_t (show 3 < 9 by decide))
theorem op_71_4 {f : Nat → Int32} {j : Nat → Int64} {v : Nat → Value} {x : Int32} {K : am_E → Prop} : am_pf 6 4 (.int x) K (oc 71 f j v) = K (oc 71 (upz f 4 x) j v) := (oq_t rfl).trans (oq_t (show 4 < 9 by decide))
theorem op_71_5 {f : Nat → Int32} {j : Nat → Int64} {v : Nat → Value} {x : Int32} {K : am_E → Prop} : am_pf 6 5 (.int x) K (oc 71 f j v) = K (oc 71 (upz f 5 x) j v) := (oq_t rfl).trans (oq_t (show 5 < 9 by decide))
theorem op_75_0 {f : Nat → Int32} {j : Nat → Int64} {v : Nat → Value} {x : Int32} {K : am_E → Prop} : am_pf 1 0 (.int x) K (oc 75 f j v) = K (oc 75 (upz f 0 x) j v) := (oq_t rfl).trans (oq_t (show 0 < 7 by decide))
theorem op_75_5 {f : Nat → Int32} {j : Nat → Int64} {v : Nat → Value} {x : Int32} {K : am_E → Prop} : am_pf 1 5 (.int x) K (oc 75 f j v) = K (oc 75 (upz f 5 x) j v) := (oq_t rfl).trans (oq_t (show 5 < 7 by decide))
theorem op_75_6 {f : Nat → Int32} {j : Nat → Int64} {v : Nat → Value} {x : Int32} {K : am_E → Prop} : am_pf 1 6 (.int x) K (oc 75 f j v) = K (oc 75 (upz f 6 x) j v) := (oq_t rfl).trans (oq_t (show 6 < 7 by decide))
theorem op_82_0 {f : Nat → Int32} {j : Nat → Int64} {v : Nat → Value} {x : Int32} {K : am_E → Prop} : am_pf 12 0 (.int x) K (oc 82 f j v) = K (oc 82 (upz f 0 x) j v) := (oq_t rfl).trans (oq_t (show 0 < 47 by decide))
theorem op_82_8 {f : Nat → Int32} {j : Nat → Int64} {v : Nat → Value} {x : Int32} {K : am_E → Prop} : am_pf 12 8 (.int x) K (oc 82 f j v) = K (oc 82 (upz f 8 x) j v) := (oq_t rfl).trans (oq_t (show 8 < 47 by decide))
theorem op_82_9 {f : Nat → Int32} {j : Nat → Int64} {v : Nat → Value} {x : Int32} {K : am_E → Prop} : am_pf 12 9 (.int x) K (oc 82 f j v) = K (oc 82 (upz f 9 x) j v) := (oq_t rfl).trans (oq_t (show 9 < 47 by decide))
theorem op_82_13 {f : Nat → Int32} {j : Nat → Int64} {v : Nat → Value} {x : Int32} {K : am_E → Prop} : am_pf 12 13 (.int x) K (oc 82 f j v) = K (oc 82 (upz f 13 x) j v) := (oq_t rfl).trans (oq_t (show 13 < 47 by decide))
theorem op_82_14 {f : Nat → Int32} {j : Nat → Int64} {v : Nat → Value} {x : Int32} {K : am_E → Prop} : am_pf 12 14 (.int x) K (oc 82 f j v) = K (oc 82 (upz f 14 x) j v) := (oq_t rfl).trans (oq_t (show 14 < 47 by decide))
theorem op_82_15 {f : Nat → Int32} {j : Nat → Int64} {v : Nat → Value} {x : Int32} {K : am_E → Prop} : am_pf 12 15 (.int x) K (oc 82 f j v) = K (oc 82 (upz f 15 x) j v) := (oq_t rfl).trans (oq_t (show 15 < 47 by decide))
theorem op_82_16 {f : Nat → Int32} {j : Nat → Int64} {v : Nat → Value} {x : Int32} {K : am_E → Prop} : am_pf 12 16 (.int x) K (oc 82 f j v) = K (oc 82 (upz f 16 x) j v) := (oq_t rfl).trans (oq_t (show 16 < 47 by decide))
theorem op_82_18 {f : Nat → Int32} {j : Nat → Int64} {v : Nat → Value} {x : Int32} {K : am_E → Prop} : am_pf 12 18 (.int x) K (oc 82 f j v) = K (oc 82 (upz f 18 x) j v) := (oq_t rfl).trans (oq_t (show 18 < 47 by decide))
theorem op_82_19 {f : Nat → Int32} {j : Nat → Int64} {v : Nat → Value} {x : Int32} {K : am_E → Prop} : am_pf 12 19 (.int x) K (oc 82 f j v) = K (oc 82 (upz f 19 x) j v) := (oq_t rfl).trans (oq_t (show 19 < 47 by decide))
theorem op_82_20 {f : Nat → Int32} {j : Nat → Int64} {v : Nat → Value} {x : Int32} {K : am_E → Prop} : am_pf 12 20 (.int x) K (oc 82 f j v) = K (oc 82 (upz f 20 x) j v) := (oq_t rfl).trans (oq_t (show 20 < 47 by decide))
theorem op_82_21 {f : Nat → Int32} {j : Nat → Int64} {v : Nat → Value} {x : Int32} {K : am_E → Prop} : am_pf 12 21 (.int x) K (oc 82 f j v) = K (oc 82 (upz f 21 x) j v) := (oq_t rfl).trans (oq_t (show 21 < 47 by decide))
theorem op_82_22 {f : Nat → Int32} {j : Nat → Int64} {v : Nat → Value} {x : Int32} {K : am_E → Prop} : am_pf 12 22 (.int x) K (oc 82 f j v) = K (oc 82 (upz f 22 x) j v) := (oq_t rfl).trans (oq_t (show 22 < 47 by decide))
theorem op_82_23 {f : Nat → Int32} {j : Nat → Int64} {v : Nat → Value} {x : Int32} {K : am_E → Prop} : am_pf 12 23 (.int x) K (oc 82 f j v) = K (oc 82 (upz f 23 x) j v) := (oq_t rfl).trans (oq_t (show 23 < 47 by decide))
theorem op_82_27 {f : Nat → Int32} {j : Nat → Int64} {v : Nat → Value} {x : Int32} {K : am_E → Prop} : am_pf 12 27 (.int x) K (oc 82 f j v) = K (oc 82 (upz f 27 x) j v) := (oq_t rfl).trans (oq_t (show 27 < 47 by decide))
theorem op_82_31 {f : Nat → Int32} {j : Nat → Int64} {v : Nat → Value} {x : Int32} {K : am_E → Prop} : am_pf 12 31 (.int x) K (oc 82 f j v) = K (oc 82 (upz f 31 x) j v) := (oq_t rfl).trans (oq_t (show 31 < 47 by decide))
theorem op_82_37 {f : Nat → Int32} {j : Nat → Int64} {v : Nat → Value} {x : Int32} {K : am_E → Prop} : am_pf 12 37 (.int x) K (oc 82 f j v) = K (oc 82 (upz f 37 x) j v) := (oq_t rfl).trans (oq_t (show 37 < 47 by decide))
theorem op_82_38 {f : Nat → Int32} {j : Nat → Int64} {v : Nat → Value} {x : Int32} {K : am_E → Prop} : am_pf 12 38 (.int x) K (oc 82 f j v) = K (oc 82 (upz f 38 x) j v) := (oq_t rfl).trans (oq_t (show 38 < 47 by decide))
theorem op_82_39 {f : Nat → Int32} {j : Nat → Int64} {v : Nat → Value} {x : Int32} {K : am_E → Prop} : am_pf 12 39 (.int x) K (oc 82 f j v) = K (oc 82 (upz f 39 x) j v) := (oq_t rfl).trans (oq_t (show 39 < 47 by decide))
theorem op_82_43 {f : Nat → Int32} {j : Nat → Int64} {v : Nat → Value} {x : Int32} {K : am_E → Prop} : am_pf 12 43 (.int x) K (oc 82 f j v) = K (oc 82 (upz f 43 x) j v) := (oq_t rfl).trans (oq_t (show 43 < 47 by decide))
theorem op_82_44 {f : Nat → Int32} {j : Nat → Int64} {v : Nat → Value} {x : Int32} {K : am_E → Prop} : am_pf 12 44 (.int x) K (oc 82 f j v) = K (oc 82 (upz f 44 x) j v) := (oq_t rfl).trans (oq_t (show 44 < 47 by decide))
theorem op_82_45 {f : Nat → Int32} {j : Nat → Int64} {v : Nat → Value} {x : Int32} {K : am_E → Prop} : am_pf 12 45 (.int x) K (oc 82 f j v) = K (oc 82 (upz f 45 x) j v) := (oq_t rfl).trans (oq_t (show 45 < 47 by decide))
theorem op_82_46 {f : Nat → Int32} {j : Nat → Int64} {v : Nat → Value} {x : Int32} {K : am_E → Prop} : am_pf 12 46 (.int x) K (oc 82 f j v) = K (oc 82 (upz f 46 x) j v) := (oq_t rfl).trans (oq_t (show 46 < 47 by decide))
theorem or_25 {f : Nat → Int32} {j : Nat → Int64} {v : Nat → Value} {i : Int32} {K : Int32 → Prop} : am_rB i K (oc 25 f j v) = (vp_in i 400 ∧ K (f i.toNatClampNeg)) := oq_rB (by decide)
theorem ow_25 {f : Nat → Int32} {j : Nat → Int64} {v : Nat → Value} {i x : Int32} {K : am_E → Prop} : am_wB i x K (oc 25 f j v) = (vp_in i 400 ∧ K (oc 25 (upz f i.toNatClampNeg x.toInt8.toInt32) j v)) := oq_wB1
theorem ol_25 {f : Nat → Int32} {j : Nat → Int64} {v : Nat → Value} {K : Nat → Prop} : am_len K (oc 25 f j v) = K 400 := by show (1 < 3 ∧ (am_ar 400 f).length < 2147483648 ∧ K (am_ar 400 f).length) = K 400; rw [am_ar_len]; exact (oq_t (by decide)).trans (oq_t (by decide))
theorem or_27 {f : Nat → Int32} {j : Nat → Int64} {v : Nat → Value} {i : Int32} {K : Int32 → Prop} : am_rI i K (oc 27 f j v) = (vp_in i 48 ∧ K (f i.toNatClampNeg)) := oq_rI
theorem ow_27 {f : Nat → Int32} {j : Nat → Int64} {v : Nat → Value} {i x : Int32} {K : am_E → Prop} : am_wI i x K (oc 27 f j v) = (vp_in i 48 ∧ K (oc 27 (upz f i.toNatClampNeg x) j v)) := oq_wI
theorem ol_27 {f : Nat → Int32} {j : Nat → Int64} {v : Nat → Value} {K : Nat → Prop} : am_len K (oc 27 f j v) = K 48 := by show (2 < 3 ∧ (am_ar 48 f).length < 2147483648 ∧ K (am_ar 48 f).length) = K 48; rw [am_ar_len]; exact (oq_t (by decide)).trans (oq_t (by decide))
theorem or_28 {f : Nat → Int32} {j : Nat → Int64} {v : Nat → Value} {i : Int32} {K : Int32 → Prop} : am_rI i K (oc 28 f j v) = (vp_in i 48 ∧ K (f i.toNatClampNeg)) := oq_rI
theorem ow_28 {f : Nat → Int32} {j : Nat → Int64} {v : Nat → Value} {i x : Int32} {K : am_E → Prop} : am_wI i x K (oc 28 f j v) = (vp_in i 48 ∧ K (oc 28 (upz f i.toNatClampNeg x) j v)) := oq_wI
theorem ol_28 {f : Nat → Int32} {j : Nat → Int64} {v : Nat → Value} {K : Nat → Prop} : am_len K (oc 28 f j v) = K 48 := by show (2 < 3 ∧ (am_ar 48 f).length < 2147483648 ∧ K (am_ar 48 f).length) = K 48; rw [am_ar_len]; exact (oq_t (by decide)).trans (oq_t (by decide))
theorem or_29 {f : Nat → Int32} {j : Nat → Int64} {v : Nat → Value} {i : Int32} {K : Int32 → Prop} : am_rI i K (oc 29 f j v) = (vp_in i 48 ∧ K (f i.toNatClampNeg)) := oq_rI
theorem ow_29 {f : Nat → Int32} {j : Nat → Int64} {v : Nat → Value} {i x : Int32} {K : am_E → Prop} : am_wI i x K (oc 29 f j v) = (vp_in i 48 ∧ K (oc 29 (upz f i.toNatClampNeg x) j v)) := oq_wI
theorem ol_29 {f : Nat → Int32} {j : Nat → Int64} {v : Nat → Value} {K : Nat → Prop} : am_len K (oc 29 f j v) = K 48 := by show (2 < 3 ∧ (am_ar 48 f).length < 2147483648 ∧ K (am_ar 48 f).length) = K 48; rw [am_ar_len]; exact (oq_t (by decide)).trans (oq_t (by decide))
theorem or_30 {f : Nat → Int32} {j : Nat → Int64} {v : Nat → Value} {i : Int32} {K : Int32 → Prop} : am_rI i K (oc 30 f j v) = (vp_in i 48 ∧ K (f i.toNatClampNeg)) := oq_rI
theorem ow_30 {f : Nat → Int32} {j : Nat → Int64} {v : Nat → Value} {i x : Int32} {K : am_E → Prop} : am_wI i x K (oc 30 f j v) = (vp_in i 48 ∧ K (oc 30 (upz f i.toNatClampNeg x) j v)) := oq_wI
theorem ol_30 {f : Nat → Int32} {j : Nat → Int64} {v : Nat → Value} {K : Nat → Prop} : am_len K (oc 30 f j v) = K 48 := by show (2 < 3 ∧ (am_ar 48 f).length < 2147483648 ∧ K (am_ar 48 f).length) = K 48; rw [am_ar_len]; exact (oq_t (by decide)).trans (oq_t (by decide))
theorem or_31 {f : Nat → Int32} {j : Nat → Int64} {v : Nat → Value} {i : Int32} {K : Int64 → Prop} : am_rJ i K (oc 31 f j v) = (vp_in i 192 ∧ K (j i.toNatClampNeg)) := oq_rJ
theorem ow_31 {f : Nat → Int32} {j : Nat → Int64} {v : Nat → Value} {i : Int32} {x : Int64} {K : am_E → Prop} : am_wJ i x K (oc 31 f j v) = (vp_in i 192 ∧ K (oc 31 f (upz j i.toNatClampNeg x) v)) := oq_wJ
theorem ol_31 {f : Nat → Int32} {j : Nat → Int64} {v : Nat → Value} {K : Nat → Prop} : am_len K (oc 31 f j v) = K 192 := by show ((am_ar 192 j).length < 2147483648 ∧ K (am_ar 192 j).length) = K 192; rw [am_ar_len]; exact oq_t (by decide)
theorem or_33 {f : Nat → Int32} {j : Nat → Int64} {v : Nat → Value} {i : Int32} {K : Int32 → Prop} : am_rB i K (oc 33 f j v) = (vp_in i 512 ∧ K (f i.toNatClampNeg)) := oq_rB (by decide)
theorem ow_33 {f : Nat → Int32} {j : Nat → Int64} {v : Nat → Value} {i x : Int32} {K : am_E → Prop} : am_wB i x K (oc 33 f j v) = (vp_in i 512 ∧ K (oc 33 (upz f i.toNatClampNeg x.toInt8.toInt32) j v)) := oq_wB1
theorem ol_33 {f : Nat → Int32} {j : Nat → Int64} {v : Nat → Value} {K : Nat → Prop} : am_len K (oc 33 f j v) = K 512 := by show (1 < 3 ∧ (am_ar 512 f).length < 2147483648 ∧ K (am_ar 512 f).length) = K 512; rw [am_ar_len]; exact (oq_t (by decide)).trans (oq_t (by decide))
theorem or_35 {f : Nat → Int32} {j : Nat → Int64} {v : Nat → Value} {i : Int32} {K : Value → Prop} : am_rR i K (oc 35 f j v) = (vp_in i 12 ∧ K (v i.toNatClampNeg)) := oq_rR
theorem ow_35 {f : Nat → Int32} {j : Nat → Int64} {v : Nat → Value} {i : Int32} {x : Value} {ok : Nat → Prop} {K : am_E → Prop} : am_wR i x ok K (oc 35 f j v) = (vp_in i 12 ∧ ok 6 ∧ K (oc 35 f j (upz v i.toNatClampNeg x))) := oq_wR
theorem ol_35 {f : Nat → Int32} {j : Nat → Int64} {v : Nat → Value} {K : Nat → Prop} : am_len K (oc 35 f j v) = K 12 := by show ((am_ar 12 v).length < 2147483648 ∧ K (am_ar 12 v).length) = K 12; rw [am_ar_len]; exact oq_t (by decide)
theorem or_36 {f : Nat → Int32} {j : Nat → Int64} {v : Nat → Value} {i : Int32} {K : Value → Prop} : am_rR i K (oc 36 f j v) = (vp_in i 12 ∧ K (v i.toNatClampNeg)) := oq_rR
theorem ow_36 {f : Nat → Int32} {j : Nat → Int64} {v : Nat → Value} {i : Int32} {x : Value} {ok : Nat → Prop} {K : am_E → Prop} : am_wR i x ok K (oc 36 f j v) = (vp_in i 12 ∧ ok 6 ∧ K (oc 36 f j (upz v i.toNatClampNeg x))) := oq_wR
theorem ol_36 {f : Nat → Int32} {j : Nat → Int64} {v : Nat → Value} {K : Nat → Prop} : am_len K (oc 36 f j v) = K 12 := by show ((am_ar 12 v).length < 2147483648 ∧ K (am_ar 12 v).length) = K 12; rw [am_ar_len]; exact oq_t (by decide)
theorem or_37 {f : Nat → Int32} {j : Nat → Int64} {v : Nat → Value} {i : Int32} {K : Int32 → Prop} : am_rB i K (oc 37 f j v) = (vp_in i 12 ∧ K (f i.toNatClampNeg)) := oq_rB (by decide)
theorem ow_37 {f : Nat → Int32} {j : Nat → Int64} {v : Nat → Value} {i x : Int32} {K : am_E → Prop} : am_wB i x K (oc 37 f j v) = (vp_in i 12 ∧ K (oc 37 (upz f i.toNatClampNeg (x &&& 1)) j v)) := oq_wB0
theorem ol_37 {f : Nat → Int32} {j : Nat → Int64} {v : Nat → Value} {K : Nat → Prop} : am_len K (oc 37 f j v) = K 12 := by show (0 < 3 ∧ (am_ar 12 f).length < 2147483648 ∧ K (am_ar 12 f).length) = K 12; rw [am_ar_len]; exact (oq_t (by decide)).trans (oq_t (by decide))
theorem or_38 {f : Nat → Int32} {j : Nat → Int64} {v : Nat → Value} {i : Int32} {K : Value → Prop} : am_rR i K (oc 38 f j v) = (vp_in i 2 ∧ K (v i.toNatClampNeg)) := oq_rR
theorem ow_38 {f : Nat → Int32} {j : Nat → Int64} {v : Nat → Value} {i : Int32} {x : Value} {ok : Nat → Prop} {K : am_E → Prop} : am_wR i x ok K (oc 38 f j v) = (vp_in i 2 ∧ ok 2 ∧ K (oc 38 f j (upz v i.toNatClampNeg x))) := oq_wR
theorem ol_38 {f : Nat → Int32} {j : Nat → Int64} {v : Nat → Value} {K : Nat → Prop} : am_len K (oc 38 f j v) = K 2 := by show ((am_ar 2 v).length < 2147483648 ∧ K (am_ar 2 v).length) = K 2; rw [am_ar_len]; exact oq_t (by decide)
theorem or_40 {f : Nat → Int32} {j : Nat → Int64} {v : Nat → Value} {i : Int32} {K : Value → Prop} : am_rR i K (oc 40 f j v) = (vp_in i 12 ∧ K (v i.toNatClampNeg)) := oq_rR
theorem ow_40 {f : Nat → Int32} {j : Nat → Int64} {v : Nat → Value} {i : Int32} {x : Value} {ok : Nat → Prop} {K : am_E → Prop} : am_wR i x ok K (oc 40 f j v) = (vp_in i 12 ∧ ok 6 ∧ K (oc 40 f j (upz v i.toNatClampNeg x))) := oq_wR
theorem ol_40 {f : Nat → Int32} {j : Nat → Int64} {v : Nat → Value} {K : Nat → Prop} : am_len K (oc 40 f j v) = K 12 := by show ((am_ar 12 v).length < 2147483648 ∧ K (am_ar 12 v).length) = K 12; rw [am_ar_len]; exact oq_t (by decide)
theorem or_41 {f : Nat → Int32} {j : Nat → Int64} {v : Nat → Value} {i : Int32} {K : Value → Prop} : am_rR i K (oc 41 f j v) = (vp_in i 12 ∧ K (v i.toNatClampNeg)) := oq_rR
theorem ow_41 {f : Nat → Int32} {j : Nat → Int64} {v : Nat → Value} {i : Int32} {x : Value} {ok : Nat → Prop} {K : am_E → Prop} : am_wR i x ok K (oc 41 f j v) = (vp_in i 12 ∧ ok 6 ∧ K (oc 41 f j (upz v i.toNatClampNeg x))) := oq_wR
theorem ol_41 {f : Nat → Int32} {j : Nat → Int64} {v : Nat → Value} {K : Nat → Prop} : am_len K (oc 41 f j v) = K 12 := by show ((am_ar 12 v).length < 2147483648 ∧ K (am_ar 12 v).length) = K 12; rw [am_ar_len]; exact oq_t (by decide)
theorem or_42 {f : Nat → Int32} {j : Nat → Int64} {v : Nat → Value} {i : Int32} {K : Int32 → Prop} : am_rB i K (oc 42 f j v) = (vp_in i 12 ∧ K (f i.toNatClampNeg)) := oq_rB (by decide)
theorem ow_42 {f : Nat → Int32} {j : Nat → Int64} {v : Nat → Value} {i x : Int32} {K : am_E → Prop} : am_wB i x K (oc 42 f j v) = (vp_in i 12 ∧ K (oc 42 (upz f i.toNatClampNeg (x &&& 1)) j v)) := oq_wB0
theorem ol_42 {f : Nat → Int32} {j : Nat → Int64} {v : Nat → Value} {K : Nat → Prop} : am_len K (oc 42 f j v) = K 12 := by show (0 < 3 ∧ (am_ar 12 f).length < 2147483648 ∧ K (am_ar 12 f).length) = K 12; rw [am_ar_len]; exact (oq_t (by decide)).trans (oq_t (by decide))
theorem or_44 {f : Nat → Int32} {j : Nat → Int64} {v : Nat → Value} {i : Int32} {K : Value → Prop} : am_rR i K (oc 44 f j v) = (vp_in i 12 ∧ K (v i.toNatClampNeg)) := oq_rR
theorem ow_44 {f : Nat → Int32} {j : Nat → Int64} {v : Nat → Value} {i : Int32} {x : Value} {ok : Nat → Prop} {K : am_E → Prop} : am_wR i x ok K (oc 44 f j v) = (vp_in i 12 ∧ ok 6 ∧ K (oc 44 f j (upz v i.toNatClampNeg x))) := oq_wR
theorem ol_44 {f : Nat → Int32} {j : Nat → Int64} {v : Nat → Value} {K : Nat → Prop} : am_len K (oc 44 f j v) = K 12 := by show ((am_ar 12 v).length < 2147483648 ∧ K (am_ar 12 v).length) = K 12; rw [am_ar_len]; exact oq_t (by decide)
theorem or_45 {f : Nat → Int32} {j : Nat → Int64} {v : Nat → Value} {i : Int32} {K : Value → Prop} : am_rR i K (oc 45 f j v) = (vp_in i 12 ∧ K (v i.toNatClampNeg)) := oq_rR
theorem ow_45 {f : Nat → Int32} {j : Nat → Int64} {v : Nat → Value} {i : Int32} {x : Value} {ok : Nat → Prop} {K : am_E → Prop} : am_wR i x ok K (oc 45 f j v) = (vp_in i 12 ∧ ok 6 ∧ K (oc 45 f j (upz v i.toNatClampNeg x))) := oq_wR
theorem ol_45 {f : Nat → Int32} {j : Nat → Int64} {v : Nat → Value} {K : Nat → Prop} : am_len K (oc 45 f j v) = K 12 := by show ((am_ar 12 v).length < 2147483648 ∧ K (am_ar 12 v).length) = K 12; rw [am_ar_len]; exact oq_t (by decide)
theorem or_46 {f : Nat → Int32} {j : Nat → Int64} {v : Nat → Value} {i : Int32} {K : Int32 → Prop} : am_rB i K (oc 46 f j v) = (vp_in i 12 ∧ K (f i.toNatClampNeg)) := oq_rB (by decide)
theorem ow_46 {f : Nat → Int32} {j : Nat → Int64} {v : Nat → Value} {i x : Int32} {K : am_E → Prop} : am_wB i x K (oc 46 f j v) = (vp_in i 12 ∧ K (oc 46 (upz f i.toNatClampNeg (x &&& 1)) j v)) := oq_wB0
theorem ol_46 {f : Nat → Int32} {j : Nat → Int64} {v : Nat → Value} {K : Nat → Prop} : am_len K (oc 46 f j v) = K 12 := by show (0 < 3 ∧ (am_ar 12 f).length < 2147483648 ∧ K (am_ar 12 f).length) = K 12; rw [am_ar_len]; exact (oq_t (by decide)).trans (oq_t (by decide))
theorem or_48 {f : Nat → Int32} {j : Nat → Int64} {v : Nat → Value} {i : Int32} {K : Int64 → Prop} : am_rJ i K (oc 48 f j v) = (vp_in i 4 ∧ K (j i.toNatClampNeg)) := oq_rJ
theorem ow_48 {f : Nat → Int32} {j : Nat → Int64} {v : Nat → Value} {i : Int32} {x : Int64} {K : am_E → Prop} : am_wJ i x K (oc 48 f j v) = (vp_in i 4 ∧ K (oc 48 f (upz j i.toNatClampNeg x) v)) := oq_wJ
theorem ol_48 {f : Nat → Int32} {j : Nat → Int64} {v : Nat → Value} {K : Nat → Prop} : am_len K (oc 48 f j v) = K 4 := by show ((am_ar 4 j).length < 2147483648 ∧ K (am_ar 4 j).length) = K 4; rw [am_ar_len]; exact oq_t (by decide)
theorem or_49 {f : Nat → Int32} {j : Nat → Int64} {v : Nat → Value} {i : Int32} {K : Int64 → Prop} : am_rJ i K (oc 49 f j v) = (vp_in i 52 ∧ K (j i.toNatClampNeg)) := oq_rJ
theorem ow_49 {f : Nat → Int32} {j : Nat → Int64} {v : Nat → Value} {i : Int32} {x : Int64} {K : am_E → Prop} : am_wJ i x K (oc 49 f j v) = (vp_in i 52 ∧ K (oc 49 f (upz j i.toNatClampNeg x) v)) := oq_wJ
theorem ol_49 {f : Nat → Int32} {j : Nat → Int64} {v : Nat → Value} {K : Nat → Prop} : am_len K (oc 49 f j v) = K 52 := by show ((am_ar 52 j).length < 2147483648 ∧ K (am_ar 52 j).length) = K 52; rw [am_ar_len]; exact oq_t (by decide)
theorem or_50 {f : Nat → Int32} {j : Nat → Int64} {v : Nat → Value} {i : Int32} {K : Int64 → Prop} : am_rJ i K (oc 50 f j v) = (vp_in i 16 ∧ K (j i.toNatClampNeg)) := oq_rJ
theorem ow_50 {f : Nat → Int32} {j : Nat → Int64} {v : Nat → Value} {i : Int32} {x : Int64} {K : am_E → Prop} : am_wJ i x K (oc 50 f j v) = (vp_in i 16 ∧ K (oc 50 f (upz j i.toNatClampNeg x) v)) := oq_wJ
theorem ol_50 {f : Nat → Int32} {j : Nat → Int64} {v : Nat → Value} {K : Nat → Prop} : am_len K (oc 50 f j v) = K 16 := by show ((am_ar 16 j).length < 2147483648 ∧ K (am_ar 16 j).length) = K 16; rw [am_ar_len]; exact oq_t (by decide)
theorem or_52 {f : Nat → Int32} {j : Nat → Int64} {v : Nat → Value} {i : Int32} {K : Int32 → Prop} : am_rB i K (oc 52 f j v) = (vp_in i 0 ∧ K (f i.toNatClampNeg)) := oq_rB (by decide)
theorem ow_52 {f : Nat → Int32} {j : Nat → Int64} {v : Nat → Value} {i x : Int32} {K : am_E → Prop} : am_wB i x K (oc 52 f j v) = (vp_in i 0 ∧ K (oc 52 (upz f i.toNatClampNeg x.toInt8.toInt32) j v)) := oq_wB1
theorem ol_52 {f : Nat → Int32} {j : Nat → Int64} {v : Nat → Value} {K : Nat → Prop} : am_len K (oc 52 f j v) = K 0 := by show (1 < 3 ∧ (am_ar 0 f).length < 2147483648 ∧ K (am_ar 0 f).length) = K 0; rw [am_ar_len]; exact (oq_t (by decide)).trans (oq_t (by decide))
theorem or_53 {f : Nat → Int32} {j : Nat → Int64} {v : Nat → Value} {i : Int32} {K : Int64 → Prop} : am_rJ i K (oc 53 f j v) = (vp_in i 4 ∧ K (j i.toNatClampNeg)) := oq_rJ
theorem ow_53 {f : Nat → Int32} {j : Nat → Int64} {v : Nat → Value} {i : Int32} {x : Int64} {K : am_E → Prop} : am_wJ i x K (oc 53 f j v) = (vp_in i 4 ∧ K (oc 53 f (upz j i.toNatClampNeg x) v)) := oq_wJ
theorem ol_53 {f : Nat → Int32} {j : Nat → Int64} {v : Nat → Value} {K : Nat → Prop} : am_len K (oc 53 f j v) = K 4 := by show ((am_ar 4 j).length < 2147483648 ∧ K (am_ar 4 j).length) = K 4; rw [am_ar_len]; exact oq_t (by decide)
theorem or_54 {f : Nat → Int32} {j : Nat → Int64} {v : Nat → Value} {i : Int32} {K : Int64 → Prop} : am_rJ i K (oc 54 f j v) = (vp_in i 4 ∧ K (j i.toNatClampNeg)) := oq_rJ
theorem ow_54 {f : Nat → Int32} {j : Nat → Int64} {v : Nat → Value} {i : Int32} {x : Int64} {K : am_E → Prop} : am_wJ i x K (oc 54 f j v) = (vp_in i 4 ∧ K (oc 54 f (upz j i.toNatClampNeg x) v)) := oq_wJ
theorem ol_54 {f : Nat → Int32} {j : Nat → Int64} {v : Nat → Value} {K : Nat → Prop} : am_len K (oc 54 f j v) = K 4 := by show ((am_ar 4 j).length < 2147483648 ∧ K (am_ar 4 j).length) = K 4; rw [am_ar_len]; exact oq_t (by decide)
theorem or_56 {f : Nat → Int32} {j : Nat → Int64} {v : Nat → Value} {i : Int32} {K : Int32 → Prop} : am_rI i K (oc 56 f j v) = (vp_in i 13 ∧ K (f i.toNatClampNeg)) := oq_rI
theorem ow_56 {f : Nat → Int32} {j : Nat → Int64} {v : Nat → Value} {i x : Int32} {K : am_E → Prop} : am_wI i x K (oc 56 f j v) = (vp_in i 13 ∧ K (oc 56 (upz f i.toNatClampNeg x) j v)) := oq_wI
theorem ol_56 {f : Nat → Int32} {j : Nat → Int64} {v : Nat → Value} {K : Nat → Prop} : am_len K (oc 56 f j v) = K 13 := by show (2 < 3 ∧ (am_ar 13 f).length < 2147483648 ∧ K (am_ar 13 f).length) = K 13; rw [am_ar_len]; exact (oq_t (by decide)).trans (oq_t (by decide))
theorem or_57 {f : Nat → Int32} {j : Nat → Int64} {v : Nat → Value} {i : Int32} {K : Int32 → Prop} : am_rI i K (oc 57 f j v) = (vp_in i 256 ∧ K (f i.toNatClampNeg)) := oq_rI
theorem ow_57 {f : Nat → Int32} {j : Nat → Int64} {v : Nat → Value} {i x : Int32} {K : am_E → Prop} : am_wI i x K (oc 57 f j v) = (vp_in i 256 ∧ K (oc 57 (upz f i.toNatClampNeg x) j v)) := oq_wI
theorem ol_57 {f : Nat → Int32} {j : Nat → Int64} {v : Nat → Value} {K : Nat → Prop} : am_len K (oc 57 f j v) = K 256 := by show (2 < 3 ∧ (am_ar 256 f).length < 2147483648 ∧ K (am_ar 256 f).length) = K 256; rw [am_ar_len]; exact (oq_t (by decide)).trans (oq_t (by decide))
theorem or_58 {f : Nat → Int32} {j : Nat → Int64} {v : Nat → Value} {i : Int32} {K : Int32 → Prop} : am_rI i K (oc 58 f j v) = (vp_in i 256 ∧ K (f i.toNatClampNeg)) := oq_rI
theorem ow_58 {f : Nat → Int32} {j : Nat → Int64} {v : Nat → Value} {i x : Int32} {K : am_E → Prop} : am_wI i x K (oc 58 f j v) = (vp_in i 256 ∧ K (oc 58 (upz f i.toNatClampNeg x) j v)) := oq_wI
theorem ol_58 {f : Nat → Int32} {j : Nat → Int64} {v : Nat → Value} {K : Nat → Prop} : am_len K (oc 58 f j v) = K 256 := by show (2 < 3 ∧ (am_ar 256 f).length < 2147483648 ∧ K (am_ar 256 f).length) = K 256; rw [am_ar_len]; exact (oq_t (by decide)).trans (oq_t (by decide))
theorem or_59 {f : Nat → Int32} {j : Nat → Int64} {v : Nat → Value} {i : Int32} {K : Int32 → Prop} : am_rB i K (oc 59 f j v) = (vp_in i 2 ∧ K (f i.toNatClampNeg)) := oq_rB (by decide)
theorem ow_59 {f : Nat → Int32} {j : Nat → Int64} {v : Nat → Value} {i x : Int32} {K : am_E → Prop} : am_wB i x K (oc 59 f j v) = (vp_in i 2 ∧ K (oc 59 (upz f i.toNatClampNeg x.toInt8.toInt32) j v)) := oq_wB1
theorem ol_59 {f : Nat → Int32} {j : Nat → Int64} {v : Nat → Value} {K : Nat → Prop} : am_len K (oc 59 f j v) = K 2 := by show (1 < 3 ∧ (am_ar 2 f).length < 2147483648 ∧ K (am_ar 2 f).length) = K 2; rw [am_ar_len]; exact (oq_t (by decide)).trans (oq_t (by decide))
theorem or_60 {f : Nat → Int32} {j : Nat → Int64} {v : Nat → Value} {i : Int32} {K : Int32 → Prop} : am_rI i K (oc 60 f j v) = (vp_in i 13 ∧ K (f i.toNatClampNeg)) := oq_rI
theorem ow_60 {f : Nat → Int32} {j : Nat → Int64} {v : Nat → Value} {i x : Int32} {K : am_E → Prop} : am_wI i x K (oc 60 f j v) = (vp_in i 13 ∧ K (oc 60 (upz f i.toNatClampNeg x) j v)) := oq_wI
theorem ol_60 {f : Nat → Int32} {j : Nat → Int64} {v : Nat → Value} {K : Nat → Prop} : am_len K (oc 60 f j v) = K 13 := by show (2 < 3 ∧ (am_ar 13 f).length < 2147483648 ∧ K (am_ar 13 f).length) = K 13; rw [am_ar_len]; exact (oq_t (by decide)).trans (oq_t (by decide))
theorem or_62 {f : Nat → Int32} {j : Nat → Int64} {v : Nat → Value} {i : Int32} {K : Int32 → Prop} : am_rB i K (oc 62 f j v) = (vp_in i 1 ∧ K (f i.toNatClampNeg)) := oq_rB (by decide)
theorem ow_62 {f : Nat → Int32} {j : Nat → Int64} {v : Nat → Value} {i x : Int32} {K : am_E → Prop} : am_wB i x K (oc 62 f j v) = (vp_in i 1 ∧ K (oc 62 (upz f i.toNatClampNeg x.toInt8.toInt32) j v)) := oq_wB1
theorem ol_62 {f : Nat → Int32} {j : Nat → Int64} {v : Nat → Value} {K : Nat → Prop} : am_len K (oc 62 f j v) = K 1 := by show (1 < 3 ∧ (am_ar 1 f).length < 2147483648 ∧ K (am_ar 1 f).length) = K 1; rw [am_ar_len]; exact (oq_t (by decide)).trans (oq_t (by decide))
theorem or_66 {f : Nat → Int32} {j : Nat → Int64} {v : Nat → Value} {i : Int32} {K : Int32 → Prop} : am_rB i K (oc 66 f j v) = (vp_in i 64 ∧ K (f i.toNatClampNeg)) := oq_rB (by decide)
theorem ow_66 {f : Nat → Int32} {j : Nat → Int64} {v : Nat → Value} {i x : Int32} {K : am_E → Prop} : am_wB i x K (oc 66 f j v) = (vp_in i 64 ∧ K (oc 66 (upz f i.toNatClampNeg x.toInt8.toInt32) j v)) := oq_wB1
theorem ol_66 {f : Nat → Int32} {j : Nat → Int64} {v : Nat → Value} {K : Nat → Prop} : am_len K (oc 66 f j v) = K 64 := by show (1 < 3 ∧ (am_ar 64 f).length < 2147483648 ∧ K (am_ar 64 f).length) = K 64; rw [am_ar_len]; exact (oq_t (by decide)).trans (oq_t (by decide))
theorem or_68 {f : Nat → Int32} {j : Nat → Int64} {v : Nat → Value} {i : Int32} {K : Int64 → Prop} : am_rJ i K (oc 68 f j v) = (vp_in i 4 ∧ K (j i.toNatClampNeg)) := oq_rJ
theorem ow_68 {f : Nat → Int32} {j : Nat → Int64} {v : Nat → Value} {i : Int32} {x : Int64} {K : am_E → Prop} : am_wJ i x K (oc 68 f j v) = (vp_in i 4 ∧ K (oc 68 f (upz j i.toNatClampNeg x) v)) := oq_wJ
theorem ol_68 {f : Nat → Int32} {j : Nat → Int64} {v : Nat → Value} {K : Nat → Prop} : am_len K (oc 68 f j v) = K 4 := by show ((am_ar 4 j).length < 2147483648 ∧ K (am_ar 4 j).length) = K 4; rw [am_ar_len]; exact oq_t (by decide)
theorem or_69 {f : Nat → Int32} {j : Nat → Int64} {v : Nat → Value} {i : Int32} {K : Int64 → Prop} : am_rJ i K (oc 69 f j v) = (vp_in i 52 ∧ K (j i.toNatClampNeg)) := oq_rJ
theorem ow_69 {f : Nat → Int32} {j : Nat → Int64} {v : Nat → Value} {i : Int32} {x : Int64} {K : am_E → Prop} : am_wJ i x K (oc 69 f j v) = (vp_in i 52 ∧ K (oc 69 f (upz j i.toNatClampNeg x) v)) := oq_wJ
theorem ol_69 {f : Nat → Int32} {j : Nat → Int64} {v : Nat → Value} {K : Nat → Prop} : am_len K (oc 69 f j v) = K 52 := by show ((am_ar 52 j).length < 2147483648 ∧ K (am_ar 52 j).length) = K 52; rw [am_ar_len]; exact oq_t (by decide)
theorem or_70 {f : Nat → Int32} {j : Nat → Int64} {v : Nat → Value} {i : Int32} {K : Int64 → Prop} : am_rJ i K (oc 70 f j v) = (vp_in i 16 ∧ K (j i.toNatClampNeg)) := oq_rJ
theorem ow_70 {f : Nat → Int32} {j : Nat → Int64} {v : Nat → Value} {i : Int32} {x : Int64} {K : am_E → Prop} : am_wJ i x K (oc 70 f j v) = (vp_in i 16 ∧ K (oc 70 f (upz j i.toNatClampNeg x) v)) := oq_wJ
theorem ol_70 {f : Nat → Int32} {j : Nat → Int64} {v : Nat → Value} {K : Nat → Prop} : am_len K (oc 70 f j v) = K 16 := by show ((am_ar 16 j).length < 2147483648 ∧ K (am_ar 16 j).length) = K 16; rw [am_ar_len]; exact oq_t (by decide)
theorem or_72 {f : Nat → Int32} {j : Nat → Int64} {v : Nat → Value} {i : Int32} {K : Int32 → Prop} : am_rB i K (oc 72 f j v) = (vp_in i 0 ∧ K (f i.toNatClampNeg)) := oq_rB (by decide)
theorem ow_72 {f : Nat → Int32} {j : Nat → Int64} {v : Nat → Value} {i x : Int32} {K : am_E → Prop} : am_wB i x K (oc 72 f j v) = (vp_in i 0 ∧ K (oc 72 (upz f i.toNatClampNeg x.toInt8.toInt32) j v)) := oq_wB1
theorem ol_72 {f : Nat → Int32} {j : Nat → Int64} {v : Nat → Value} {K : Nat → Prop} : am_len K (oc 72 f j v) = K 0 := by show (1 < 3 ∧ (am_ar 0 f).length < 2147483648 ∧ K (am_ar 0 f).length) = K 0; rw [am_ar_len]; exact (oq_t (by decide)).trans (oq_t (by decide))
theorem or_73 {f : Nat → Int32} {j : Nat → Int64} {v : Nat → Value} {i : Int32} {K : Int64 → Prop} : am_rJ i K (oc 73 f j v) = (vp_in i 4 ∧ K (j i.toNatClampNeg)) := oq_rJ
theorem ow_73 {f : Nat → Int32} {j : Nat → Int64} {v : Nat → Value} {i : Int32} {x : Int64} {K : am_E → Prop} : am_wJ i x K (oc 73 f j v) = (vp_in i 4 ∧ K (oc 73 f (upz j i.toNatClampNeg x) v)) := oq_wJ
theorem ol_73 {f : Nat → Int32} {j : Nat → Int64} {v : Nat → Value} {K : Nat → Prop} : am_len K (oc 73 f j v) = K 4 := by show ((am_ar 4 j).length < 2147483648 ∧ K (am_ar 4 j).length) = K 4; rw [am_ar_len]; exact oq_t (by decide)
theorem or_74 {f : Nat → Int32} {j : Nat → Int64} {v : Nat → Value} {i : Int32} {K : Int64 → Prop} : am_rJ i K (oc 74 f j v) = (vp_in i 4 ∧ K (j i.toNatClampNeg)) := oq_rJ
theorem ow_74 {f : Nat → Int32} {j : Nat → Int64} {v : Nat → Value} {i : Int32} {x : Int64} {K : am_E → Prop} : am_wJ i x K (oc 74 f j v) = (vp_in i 4 ∧ K (oc 74 f (upz j i.toNatClampNeg x) v)) := oq_wJ
theorem ol_74 {f : Nat → Int32} {j : Nat → Int64} {v : Nat → Value} {K : Nat → Prop} : am_len K (oc 74 f j v) = K 4 := by show ((am_ar 4 j).length < 2147483648 ∧ K (am_ar 4 j).length) = K 4; rw [am_ar_len]; exact oq_t (by decide)
theorem or_76 {f : Nat → Int32} {j : Nat → Int64} {v : Nat → Value} {i : Int32} {K : Int32 → Prop} : am_rI i K (oc 76 f j v) = (vp_in i 256 ∧ K (f i.toNatClampNeg)) := oq_rI
theorem ow_76 {f : Nat → Int32} {j : Nat → Int64} {v : Nat → Value} {i x : Int32} {K : am_E → Prop} : am_wI i x K (oc 76 f j v) = (vp_in i 256 ∧ K (oc 76 (upz f i.toNatClampNeg x) j v)) := oq_wI
theorem ol_76 {f : Nat → Int32} {j : Nat → Int64} {v : Nat → Value} {K : Nat → Prop} : am_len K (oc 76 f j v) = K 256 := by show (2 < 3 ∧ (am_ar 256 f).length < 2147483648 ∧ K (am_ar 256 f).length) = K 256; rw [am_ar_len]; exact (oq_t (by decide)).trans (oq_t (by decide))
theorem or_77 {f : Nat → Int32} {j : Nat → Int64} {v : Nat → Value} {i : Int32} {K : Int32 → Prop} : am_rI i K (oc 77 f j v) = (vp_in i 256 ∧ K (f i.toNatClampNeg)) := oq_rI
theorem ow_77 {f : Nat → Int32} {j : Nat → Int64} {v : Nat → Value} {i x : Int32} {K : am_E → Prop} : am_wI i x K (oc 77 f j v) = (vp_in i 256 ∧ K (oc 77 (upz f i.toNatClampNeg x) j v)) := oq_wI
theorem ol_77 {f : Nat → Int32} {j : Nat → Int64} {v : Nat → Value} {K : Nat → Prop} : am_len K (oc 77 f j v) = K 256 := by show (2 < 3 ∧ (am_ar 256 f).length < 2147483648 ∧ K (am_ar 256 f).length) = K 256; rw [am_ar_len]; exact (oq_t (by decide)).trans (oq_t (by decide))
theorem or_78 {f : Nat → Int32} {j : Nat → Int64} {v : Nat → Value} {i : Int32} {K : Int32 → Prop} : am_rI i K (oc 78 f j v) = (vp_in i 256 ∧ K (f i.toNatClampNeg)) := oq_rI
theorem ow_78 {f : Nat → Int32} {j : Nat → Int64} {v : Nat → Value} {i x : Int32} {K : am_E → Prop} : am_wI i x K (oc 78 f j v) = (vp_in i 256 ∧ K (oc 78 (upz f i.toNatClampNeg x) j v)) := oq_wI
theorem ol_78 {f : Nat → Int32} {j : Nat → Int64} {v : Nat → Value} {K : Nat → Prop} : am_len K (oc 78 f j v) = K 256 := by show (2 < 3 ∧ (am_ar 256 f).length < 2147483648 ∧ K (am_ar 256 f).length) = K 256; rw [am_ar_len]; exact (oq_t (by decide)).trans (oq_t (by decide))
theorem or_79 {f : Nat → Int32} {j : Nat → Int64} {v : Nat → Value} {i : Int32} {K : Int32 → Prop} : am_rI i K (oc 79 f j v) = (vp_in i 256 ∧ K (f i.toNatClampNeg)) := oq_rI
theorem ow_79 {f : Nat → Int32} {j : Nat → Int64} {v : Nat → Value} {i x : Int32} {K : am_E → Prop} : am_wI i x K (oc 79 f j v) = (vp_in i 256 ∧ K (oc 79 (upz f i.toNatClampNeg x) j v)) := oq_wI
theorem ol_79 {f : Nat → Int32} {j : Nat → Int64} {v : Nat → Value} {K : Nat → Prop} : am_len K (oc 79 f j v) = K 256 := by show (2 < 3 ∧ (am_ar 256 f).length < 2147483648 ∧ K (am_ar 256 f).length) = K 256; rw [am_ar_len]; exact (oq_t (by decide)).trans (oq_t (by decide))
theorem or_80 {f : Nat → Int32} {j : Nat → Int64} {v : Nat → Value} {i : Int32} {K : Int32 → Prop} : am_rI i K (oc 80 f j v) = (vp_in i 12 ∧ K (f i.toNatClampNeg)) := oq_rI
theorem ow_80 {f : Nat → Int32} {j : Nat → Int64} {v : Nat → Value} {i x : Int32} {K : am_E → Prop} : am_wI i x K (oc 80 f j v) = (vp_in i 12 ∧ K (oc 80 (upz f i.toNatClampNeg x) j v)) := oq_wI
theorem ol_80 {f : Nat → Int32} {j : Nat → Int64} {v : Nat → Value} {K : Nat → Prop} : am_len K (oc 80 f j v) = K 12 := by show (2 < 3 ∧ (am_ar 12 f).length < 2147483648 ∧ K (am_ar 12 f).length) = K 12; rw [am_ar_len]; exact (oq_t (by decide)).trans (oq_t (by decide))
theorem or_81 {f : Nat → Int32} {j : Nat → Int64} {v : Nat → Value} {i : Int32} {K : Int32 → Prop} : am_rI i K (oc 81 f j v) = (vp_in i 5 ∧ K (f i.toNatClampNeg)) := oq_rI
theorem ow_81 {f : Nat → Int32} {j : Nat → Int64} {v : Nat → Value} {i x : Int32} {K : am_E → Prop} : am_wI i x K (oc 81 f j v) = (vp_in i 5 ∧ K (oc 81 (upz f i.toNatClampNeg x) j v)) := oq_wI
theorem ol_81 {f : Nat → Int32} {j : Nat → Int64} {v : Nat → Value} {K : Nat → Prop} : am_len K (oc 81 f j v) = K 5 := by show (2 < 3 ∧ (am_ar 5 f).length < 2147483648 ∧ K (am_ar 5 f).length) = K 5; rw [am_ar_len]; exact (oq_t (by decide)).trans (oq_t (by decide))
theorem or_83 {f : Nat → Int32} {j : Nat → Int64} {v : Nat → Value} {i : Int32} {K : Int32 → Prop} : am_rI i K (oc 83 f j v) = (vp_in i 7 ∧ K (f i.toNatClampNeg)) := oq_rI
theorem ow_83 {f : Nat → Int32} {j : Nat → Int64} {v : Nat → Value} {i x : Int32} {K : am_E → Prop} : am_wI i x K (oc 83 f j v) = (vp_in i 7 ∧ K (oc 83 (upz f i.toNatClampNeg x) j v)) := oq_wI
theorem ol_83 {f : Nat → Int32} {j : Nat → Int64} {v : Nat → Value} {K : Nat → Prop} : am_len K (oc 83 f j v) = K 7 := by show (2 < 3 ∧ (am_ar 7 f).length < 2147483648 ∧ K (am_ar 7 f).length) = K 7; rw [am_ar_len]; exact (oq_t (by decide)).trans (oq_t (by decide))
theorem or_84 {f : Nat → Int32} {j : Nat → Int64} {v : Nat → Value} {i : Int32} {K : Int32 → Prop} : am_rI i K (oc 84 f j v) = (vp_in i 2698 ∧ K (f i.toNatClampNeg)) := oq_rI
theorem ow_84 {f : Nat → Int32} {j : Nat → Int64} {v : Nat → Value} {i x : Int32} {K : am_E → Prop} : am_wI i x K (oc 84 f j v) = (vp_in i 2698 ∧ K (oc 84 (upz f i.toNatClampNeg x) j v)) := oq_wI
theorem ol_84 {f : Nat → Int32} {j : Nat → Int64} {v : Nat → Value} {K : Nat → Prop} : am_len K (oc 84 f j v) = K 2698 := by show (2 < 3 ∧ (am_ar 2698 f).length < 2147483648 ∧ K (am_ar 2698 f).length) = K 2698; rw [am_ar_len]; exact (oq_t (by decide)).trans (oq_t (by decide))
theorem or_85 {f : Nat → Int32} {j : Nat → Int64} {v : Nat → Value} {i : Int32} {K : Int32 → Prop} : am_rI i K (oc 85 f j v) = (vp_in i 5396 ∧ K (f i.toNatClampNeg)) := oq_rI
theorem ow_85 {f : Nat → Int32} {j : Nat → Int64} {v : Nat → Value} {i x : Int32} {K : am_E → Prop} : am_wI i x K (oc 85 f j v) = (vp_in i 5396 ∧ K (oc 85 (upz f i.toNatClampNeg x) j v)) := oq_wI
theorem ol_85 {f : Nat → Int32} {j : Nat → Int64} {v : Nat → Value} {K : Nat → Prop} : am_len K (oc 85 f j v) = K 5396 := by show (2 < 3 ∧ (am_ar 5396 f).length < 2147483648 ∧ K (am_ar 5396 f).length) = K 5396; rw [am_ar_len]; exact (oq_t (by decide)).trans (oq_t (by decide))
theorem or_86 {f : Nat → Int32} {j : Nat → Int64} {v : Nat → Value} {i : Int32} {K : Int32 → Prop} : am_rB i K (oc 86 f j v) = (vp_in i 2 ∧ K (f i.toNatClampNeg)) := oq_rB (by decide)
theorem ow_86 {f : Nat → Int32} {j : Nat → Int64} {v : Nat → Value} {i x : Int32} {K : am_E → Prop} : am_wB i x K (oc 86 f j v) = (vp_in i 2 ∧ K (oc 86 (upz f i.toNatClampNeg (x &&& 1)) j v)) := oq_wB0
theorem ol_86 {f : Nat → Int32} {j : Nat → Int64} {v : Nat → Value} {K : Nat → Prop} : am_len K (oc 86 f j v) = K 2 := by show (0 < 3 ∧ (am_ar 2 f).length < 2147483648 ∧ K (am_ar 2 f).length) = K 2; rw [am_ar_len]; exact (oq_t (by decide)).trans (oq_t (by decide))
theorem or_87 {f : Nat → Int32} {j : Nat → Int64} {v : Nat → Value} {i : Int32} {K : Int32 → Prop} : am_rB i K (oc 87 f j v) = (vp_in i 74 ∧ K (f i.toNatClampNeg)) := oq_rB (by decide)
theorem ow_87 {f : Nat → Int32} {j : Nat → Int64} {v : Nat → Value} {i x : Int32} {K : am_E → Prop} : am_wB i x K (oc 87 f j v) = (vp_in i 74 ∧ K (oc 87 (upz f i.toNatClampNeg x.toInt8.toInt32) j v)) := oq_wB1
theorem ol_87 {f : Nat → Int32} {j : Nat → Int64} {v : Nat → Value} {K : Nat → Prop} : am_len K (oc 87 f j v) = K 74 := by show (1 < 3 ∧ (am_ar 74 f).length < 2147483648 ∧ K (am_ar 74 f).length) = K 74; rw [am_ar_len]; exact (oq_t (by decide)).trans (oq_t (by decide))
theorem or_88 {f : Nat → Int32} {j : Nat → Int64} {v : Nat → Value} {i : Int32} {K : Int32 → Prop} : am_rB i K (oc 88 f j v) = (vp_in i 400 ∧ K (f i.toNatClampNeg)) := oq_rB (by decide)
theorem ow_88 {f : Nat → Int32} {j : Nat → Int64} {v : Nat → Value} {i x : Int32} {K : am_E → Prop} : am_wB i x K (oc 88 f j v) = (vp_in i 400 ∧ K (oc 88 (upz f i.toNatClampNeg x.toInt8.toInt32) j v)) := oq_wB1
theorem ol_88 {f : Nat → Int32} {j : Nat → Int64} {v : Nat → Value} {K : Nat → Prop} : am_len K (oc 88 f j v) = K 400 := by show (1 < 3 ∧ (am_ar 400 f).length < 2147483648 ∧ K (am_ar 400 f).length) = K 400; rw [am_ar_len]; exact (oq_t (by decide)).trans (oq_t (by decide))
theorem or_89 {f : Nat → Int32} {j : Nat → Int64} {v : Nat → Value} {i : Int32} {K : Int32 → Prop} : am_rI i K (oc 89 f j v) = (vp_in i 5 ∧ K (f i.toNatClampNeg)) := oq_rI
theorem ow_89 {f : Nat → Int32} {j : Nat → Int64} {v : Nat → Value} {i x : Int32} {K : am_E → Prop} : am_wI i x K (oc 89 f j v) = (vp_in i 5 ∧ K (oc 89 (upz f i.toNatClampNeg x) j v)) := oq_wI
theorem ol_89 {f : Nat → Int32} {j : Nat → Int64} {v : Nat → Value} {K : Nat → Prop} : am_len K (oc 89 f j v) = K 5 := by show (2 < 3 ∧ (am_ar 5 f).length < 2147483648 ∧ K (am_ar 5 f).length) = K 5; rw [am_ar_len]; exact (oq_t (by decide)).trans (oq_t (by decide))
theorem or_90 {f : Nat → Int32} {j : Nat → Int64} {v : Nat → Value} {i : Int32} {K : Int32 → Prop} : am_rI i K (oc 90 f j v) = (vp_in i 401 ∧ K (f i.toNatClampNeg)) := oq_rI
theorem ow_90 {f : Nat → Int32} {j : Nat → Int64} {v : Nat → Value} {i x : Int32} {K : am_E → Prop} : am_wI i x K (oc 90 f j v) = (vp_in i 401 ∧ K (oc 90 (upz f i.toNatClampNeg x) j v)) := oq_wI
theorem ol_90 {f : Nat → Int32} {j : Nat → Int64} {v : Nat → Value} {K : Nat → Prop} : am_len K (oc 90 f j v) = K 401 := by show (2 < 3 ∧ (am_ar 401 f).length < 2147483648 ∧ K (am_ar 401 f).length) = K 401; rw [am_ar_len]; exact (oq_t (by decide)).trans (oq_t (by decide))
theorem or_91 {f : Nat → Int32} {j : Nat → Int64} {v : Nat → Value} {i : Int32} {K : Int32 → Prop} : am_rI i K (oc 91 f j v) = (vp_in i 401 ∧ K (f i.toNatClampNeg)) := oq_rI
theorem ow_91 {f : Nat → Int32} {j : Nat → Int64} {v : Nat → Value} {i x : Int32} {K : am_E → Prop} : am_wI i x K (oc 91 f j v) = (vp_in i 401 ∧ K (oc 91 (upz f i.toNatClampNeg x) j v)) := oq_wI
theorem ol_91 {f : Nat → Int32} {j : Nat → Int64} {v : Nat → Value} {K : Nat → Prop} : am_len K (oc 91 f j v) = K 401 := by show (2 < 3 ∧ (am_ar 401 f).length < 2147483648 ∧ K (am_ar 401 f).length) = K 401; rw [am_ar_len]; exact (oq_t (by decide)).trans (oq_t (by decide))
theorem or_92 {f : Nat → Int32} {j : Nat → Int64} {v : Nat → Value} {i : Int32} {K : Int32 → Prop} : am_rI i K (oc 92 f j v) = (vp_in i 401 ∧ K (f i.toNatClampNeg)) := oq_rI
theorem ow_92 {f : Nat → Int32} {j : Nat → Int64} {v : Nat → Value} {i x : Int32} {K : am_E → Prop} : am_wI i x K (oc 92 f j v) = (vp_in i 401 ∧ K (oc 92 (upz f i.toNatClampNeg x) j v)) := oq_wI
theorem ol_92 {f : Nat → Int32} {j : Nat → Int64} {v : Nat → Value} {K : Nat → Prop} : am_len K (oc 92 f j v) = K 401 := by show (2 < 3 ∧ (am_ar 401 f).length < 2147483648 ∧ K (am_ar 401 f).length) = K 401; rw [am_ar_len]; exact (oq_t (by decide)).trans (oq_t (by decide))
theorem or_93 {f : Nat → Int32} {j : Nat → Int64} {v : Nat → Value} {i : Int32} {K : Int32 → Prop} : am_rI i K (oc 93 f j v) = (vp_in i 260 ∧ K (f i.toNatClampNeg)) := oq_rI
theorem ow_93 {f : Nat → Int32} {j : Nat → Int64} {v : Nat → Value} {i x : Int32} {K : am_E → Prop} : am_wI i x K (oc 93 f j v) = (vp_in i 260 ∧ K (oc 93 (upz f i.toNatClampNeg x) j v)) := oq_wI
theorem ol_93 {f : Nat → Int32} {j : Nat → Int64} {v : Nat → Value} {K : Nat → Prop} : am_len K (oc 93 f j v) = K 260 := by show (2 < 3 ∧ (am_ar 260 f).length < 2147483648 ∧ K (am_ar 260 f).length) = K 260; rw [am_ar_len]; exact (oq_t (by decide)).trans (oq_t (by decide))
theorem or_94 {f : Nat → Int32} {j : Nat → Int64} {v : Nat → Value} {i : Int32} {K : Int32 → Prop} : am_rB i K (oc 94 f j v) = (vp_in i 32 ∧ K (f i.toNatClampNeg)) := oq_rB (by decide)
theorem ow_94 {f : Nat → Int32} {j : Nat → Int64} {v : Nat → Value} {i x : Int32} {K : am_E → Prop} : am_wB i x K (oc 94 f j v) = (vp_in i 32 ∧ K (oc 94 (upz f i.toNatClampNeg (x &&& 1)) j v)) := oq_wB0
theorem ol_94 {f : Nat → Int32} {j : Nat → Int64} {v : Nat → Value} {K : Nat → Prop} : am_len K (oc 94 f j v) = K 32 := by show (0 < 3 ∧ (am_ar 32 f).length < 2147483648 ∧ K (am_ar 32 f).length) = K 32; rw [am_ar_len]; exact (oq_t (by decide)).trans (oq_t (by decide))
theorem or_95 {f : Nat → Int32} {j : Nat → Int64} {v : Nat → Value} {i : Int32} {K : Int32 → Prop} : am_rB i K (oc 95 f j v) = (vp_in i 1200 ∧ K (f i.toNatClampNeg)) := oq_rB (by decide)
theorem ow_95 {f : Nat → Int32} {j : Nat → Int64} {v : Nat → Value} {i x : Int32} {K : am_E → Prop} : am_wB i x K (oc 95 f j v) = (vp_in i 1200 ∧ K (oc 95 (upz f i.toNatClampNeg x.toInt8.toInt32) j v)) := oq_wB1
theorem ol_95 {f : Nat → Int32} {j : Nat → Int64} {v : Nat → Value} {K : Nat → Prop} : am_len K (oc 95 f j v) = K 1200 := by show (1 < 3 ∧ (am_ar 1200 f).length < 2147483648 ∧ K (am_ar 1200 f).length) = K 1200; rw [am_ar_len]; exact (oq_t (by decide)).trans (oq_t (by decide))
theorem or_96 {f : Nat → Int32} {j : Nat → Int64} {v : Nat → Value} {i : Int32} {K : Int32 → Prop} : am_rI i K (oc 96 f j v) = (vp_in i 260 ∧ K (f i.toNatClampNeg)) := oq_rI
theorem ow_96 {f : Nat → Int32} {j : Nat → Int64} {v : Nat → Value} {i x : Int32} {K : am_E → Prop} : am_wI i x K (oc 96 f j v) = (vp_in i 260 ∧ K (oc 96 (upz f i.toNatClampNeg x) j v)) := oq_wI
theorem ol_96 {f : Nat → Int32} {j : Nat → Int64} {v : Nat → Value} {K : Nat → Prop} : am_len K (oc 96 f j v) = K 260 := by show (2 < 3 ∧ (am_ar 260 f).length < 2147483648 ∧ K (am_ar 260 f).length) = K 260; rw [am_ar_len]; exact (oq_t (by decide)).trans (oq_t (by decide))
theorem or_97 {f : Nat → Int32} {j : Nat → Int64} {v : Nat → Value} {i : Int32} {K : Int32 → Prop} : am_rI i K (oc 97 f j v) = (vp_in i 8 ∧ K (f i.toNatClampNeg)) := oq_rI
theorem ow_97 {f : Nat → Int32} {j : Nat → Int64} {v : Nat → Value} {i x : Int32} {K : am_E → Prop} : am_wI i x K (oc 97 f j v) = (vp_in i 8 ∧ K (oc 97 (upz f i.toNatClampNeg x) j v)) := oq_wI
theorem ol_97 {f : Nat → Int32} {j : Nat → Int64} {v : Nat → Value} {K : Nat → Prop} : am_len K (oc 97 f j v) = K 8 := by show (2 < 3 ∧ (am_ar 8 f).length < 2147483648 ∧ K (am_ar 8 f).length) = K 8; rw [am_ar_len]; exact (oq_t (by decide)).trans (oq_t (by decide))
theorem or_98 {f : Nat → Int32} {j : Nat → Int64} {v : Nat → Value} {i : Int32} {K : Int32 → Prop} : am_rI i K (oc 98 f j v) = (vp_in i 320 ∧ K (f i.toNatClampNeg)) := oq_rI
theorem ow_98 {f : Nat → Int32} {j : Nat → Int64} {v : Nat → Value} {i x : Int32} {K : am_E → Prop} : am_wI i x K (oc 98 f j v) = (vp_in i 320 ∧ K (oc 98 (upz f i.toNatClampNeg x) j v)) := oq_wI
theorem ol_98 {f : Nat → Int32} {j : Nat → Int64} {v : Nat → Value} {K : Nat → Prop} : am_len K (oc 98 f j v) = K 320 := by show (2 < 3 ∧ (am_ar 320 f).length < 2147483648 ∧ K (am_ar 320 f).length) = K 320; rw [am_ar_len]; exact (oq_t (by decide)).trans (oq_t (by decide))
theorem or_99 {f : Nat → Int32} {j : Nat → Int64} {v : Nat → Value} {i : Int32} {K : Int32 → Prop} : am_rI i K (oc 99 f j v) = (vp_in i 32 ∧ K (f i.toNatClampNeg)) := oq_rI
theorem ow_99 {f : Nat → Int32} {j : Nat → Int64} {v : Nat → Value} {i x : Int32} {K : am_E → Prop} : am_wI i x K (oc 99 f j v) = (vp_in i 32 ∧ K (oc 99 (upz f i.toNatClampNeg x) j v)) := oq_wI
theorem ol_99 {f : Nat → Int32} {j : Nat → Int64} {v : Nat → Value} {K : Nat → Prop} : am_len K (oc 99 f j v) = K 32 := by show (2 < 3 ∧ (am_ar 32 f).length < 2147483648 ∧ K (am_ar 32 f).length) = K 32; rw [am_ar_len]; exact (oq_t (by decide)).trans (oq_t (by decide))
theorem or_100 {f : Nat → Int32} {j : Nat → Int64} {v : Nat → Value} {i : Int32} {K : Int32 → Prop} : am_rI i K (oc 100 f j v) = (vp_in i 8 ∧ K (f i.toNatClampNeg)) := oq_rI
theorem ow_100 {f : Nat → Int32} {j : Nat → Int64} {v : Nat → Value} {i x : Int32} {K : am_E → Prop} : am_wI i x K (oc 100 f j v) = (vp_in i 8 ∧ K (oc 100 (upz f i.toNatClampNeg x) j v)) := oq_wI
theorem ol_100 {f : Nat → Int32} {j : Nat → Int64} {v : Nat → Value} {K : Nat → Prop} : am_len K (oc 100 f j v) = K 8 := by show (2 < 3 ∧ (am_ar 8 f).length < 2147483648 ∧ K (am_ar 8 f).length) = K 8; rw [am_ar_len]; exact (oq_t (by decide)).trans (oq_t (by decide))
theorem or_101 {f : Nat → Int32} {j : Nat → Int64} {v : Nat → Value} {i : Int32} {K : Int32 → Prop} : am_rI i K (oc 101 f j v) = (vp_in i 256 ∧ K (f i.toNatClampNeg)) := oq_rI
theorem ow_101 {f : Nat → Int32} {j : Nat → Int64} {v : Nat → Value} {i x : Int32} {K : am_E → Prop} : am_wI i x K (oc 101 f j v) = (vp_in i 256 ∧ K (oc 101 (upz f i.toNatClampNeg x) j v)) := oq_wI
theorem ol_101 {f : Nat → Int32} {j : Nat → Int64} {v : Nat → Value} {K : Nat → Prop} : am_len K (oc 101 f j v) = K 256 := by show (2 < 3 ∧ (am_ar 256 f).length < 2147483648 ∧ K (am_ar 256 f).length) = K 256; rw [am_ar_len]; exact (oq_t (by decide)).trans (oq_t (by decide))
theorem or_102 {f : Nat → Int32} {j : Nat → Int64} {v : Nat → Value} {i : Int32} {K : Int32 → Prop} : am_rI i K (oc 102 f j v) = (vp_in i 256 ∧ K (f i.toNatClampNeg)) := oq_rI
theorem ow_102 {f : Nat → Int32} {j : Nat → Int64} {v : Nat → Value} {i x : Int32} {K : am_E → Prop} : am_wI i x K (oc 102 f j v) = (vp_in i 256 ∧ K (oc 102 (upz f i.toNatClampNeg x) j v)) := oq_wI
theorem ol_102 {f : Nat → Int32} {j : Nat → Int64} {v : Nat → Value} {K : Nat → Prop} : am_len K (oc 102 f j v) = K 256 := by show (2 < 3 ∧ (am_ar 256 f).length < 2147483648 ∧ K (am_ar 256 f).length) = K 256; rw [am_ar_len]; exact (oq_t (by decide)).trans (oq_t (by decide))
theorem or_103 {f : Nat → Int32} {j : Nat → Int64} {v : Nat → Value} {i : Int32} {K : Int32 → Prop} : am_rI i K (oc 103 f j v) = (vp_in i 40 ∧ K (f i.toNatClampNeg)) := oq_rI
theorem ow_103 {f : Nat → Int32} {j : Nat → Int64} {v : Nat → Value} {i x : Int32} {K : am_E → Prop} : am_wI i x K (oc 103 f j v) = (vp_in i 40 ∧ K (oc 103 (upz f i.toNatClampNeg x) j v)) := oq_wI
theorem ol_103 {f : Nat → Int32} {j : Nat → Int64} {v : Nat → Value} {K : Nat → Prop} : am_len K (oc 103 f j v) = K 40 := by show (2 < 3 ∧ (am_ar 40 f).length < 2147483648 ∧ K (am_ar 40 f).length) = K 40; rw [am_ar_len]; exact (oq_t (by decide)).trans (oq_t (by decide))
theorem or_104 {f : Nat → Int32} {j : Nat → Int64} {v : Nat → Value} {i : Int32} {K : Int32 → Prop} : am_rI i K (oc 104 f j v) = (vp_in i 40 ∧ K (f i.toNatClampNeg)) := oq_rI
theorem ow_104 {f : Nat → Int32} {j : Nat → Int64} {v : Nat → Value} {i x : Int32} {K : am_E → Prop} : am_wI i x K (oc 104 f j v) = (vp_in i 40 ∧ K (oc 104 (upz f i.toNatClampNeg x) j v)) := oq_wI
theorem ol_104 {f : Nat → Int32} {j : Nat → Int64} {v : Nat → Value} {K : Nat → Prop} : am_len K (oc 104 f j v) = K 40 := by show (2 < 3 ∧ (am_ar 40 f).length < 2147483648 ∧ K (am_ar 40 f).length) = K 40; rw [am_ar_len]; exact (oq_t (by decide)).trans (oq_t (by decide))
theorem or_105 {f : Nat → Int32} {j : Nat → Int64} {v : Nat → Value} {i : Int32} {K : Int32 → Prop} : am_rI i K (oc 105 f j v) = (vp_in i 256 ∧ K (f i.toNatClampNeg)) := oq_rI
theorem ow_105 {f : Nat → Int32} {j : Nat → Int64} {v : Nat → Value} {i x : Int32} {K : am_E → Prop} : am_wI i x K (oc 105 f j v) = (vp_in i 256 ∧ K (oc 105 (upz f i.toNatClampNeg x) j v)) := oq_wI
theorem ol_105 {f : Nat → Int32} {j : Nat → Int64} {v : Nat → Value} {K : Nat → Prop} : am_len K (oc 105 f j v) = K 256 := by show (2 < 3 ∧ (am_ar 256 f).length < 2147483648 ∧ K (am_ar 256 f).length) = K 256; rw [am_ar_len]; exact (oq_t (by decide)).trans (oq_t (by decide))
theorem or_106 {f : Nat → Int32} {j : Nat → Int64} {v : Nat → Value} {i : Int32} {K : Int32 → Prop} : am_rI i K (oc 106 f j v) = (vp_in i 64 ∧ K (f i.toNatClampNeg)) := oq_rI
theorem ow_106 {f : Nat → Int32} {j : Nat → Int64} {v : Nat → Value} {i x : Int32} {K : am_E → Prop} : am_wI i x K (oc 106 f j v) = (vp_in i 64 ∧ K (oc 106 (upz f i.toNatClampNeg x) j v)) := oq_wI
theorem ol_106 {f : Nat → Int32} {j : Nat → Int64} {v : Nat → Value} {K : Nat → Prop} : am_len K (oc 106 f j v) = K 64 := by show (2 < 3 ∧ (am_ar 64 f).length < 2147483648 ∧ K (am_ar 64 f).length) = K 64; rw [am_ar_len]; exact (oq_t (by decide)).trans (oq_t (by decide))
theorem or_107 {f : Nat → Int32} {j : Nat → Int64} {v : Nat → Value} {i : Int32} {K : Int32 → Prop} : am_rI i K (oc 107 f j v) = (vp_in i 12 ∧ K (f i.toNatClampNeg)) := oq_rI
theorem ow_107 {f : Nat → Int32} {j : Nat → Int64} {v : Nat → Value} {i x : Int32} {K : am_E → Prop} : am_wI i x K (oc 107 f j v) = (vp_in i 12 ∧ K (oc 107 (upz f i.toNatClampNeg x) j v)) := oq_wI
theorem ol_107 {f : Nat → Int32} {j : Nat → Int64} {v : Nat → Value} {K : Nat → Prop} : am_len K (oc 107 f j v) = K 12 := by show (2 < 3 ∧ (am_ar 12 f).length < 2147483648 ∧ K (am_ar 12 f).length) = K 12; rw [am_ar_len]; exact (oq_t (by decide)).trans (oq_t (by decide))
