/-! ===== the heap behind the law's first block, and the law's whole run (printed by wip/tools/gen9.py) ===== -/
def bL0 (a i : Nat) : Int64 := 0
def LS0 : am_E := aO 11 [.ref 24, .ref 34, .ref 38, .ref 47, .ref 51, .ref 55, .ref 61, .ref 64, .ref 65, .ref 75, .ref 80, .int (-1), .ref 81, .int 0]
def LS1 : List (am_E × Nat) := [(aO 5 [.ref 25, .int 0, .int (-1), .int 0, .int 0, .int 0, .int 0, .int 0, .int 0, .int 0, .int 0, .ref 26, .ref 32], 13), (aI 1 (am_ar 400 (fun _ => 0)), 400), (aO 9 [.ref 27, .ref 28, .ref 29, .ref 30, .ref 31, .int 0], 6), (aI 2 (am_ar 48 (fun _ => 0)), 48), (aI 2 (am_ar 48 (fun _ => 0)), 48), (aI 2 (am_ar 48 (fun _ => 0)), 48), (aI 2 (am_ar 48 (fun _ => 0)), 48), (aJ (am_ar 192 (fun _ => 0)), 192), (aO 10 [.ref 33, .int 0], 2), (aI 1 (am_ar 512 (fun _ => 0)), 512), (aO 2 [.ref 35, .int 0, .null, .int 0, .ref 36, .ref 37, .int 0, .int 0], 8), (aR 6 (am_ar 12 (fun _ => .null)), 12), (aR 6 (am_ar 12 (fun _ => .null)), 12), (aI 0 (am_ar 12 (fun _ => 0)), 12), (aR 2 (am_ar 2 (upz (upz (fun _ => .null) 0 (.ref 39)) 1 (.ref 43))), 2), (aO 2 [.ref 40, .int 0, .null, .int 0, .ref 41, .ref 42, .int 0, .int 0], 8), (aR 6 (am_ar 12 (fun _ => .null)), 12), (aR 6 (am_ar 12 (fun _ => .null)), 12), (aI 0 (am_ar 12 (fun _ => 0)), 12), (aO 2 [.ref 44, .int 0, .null, .int 0, .ref 45, .ref 46, .int 0, .int 0], 8), (aR 6 (am_ar 12 (fun _ => .null)), 12), (aR 6 (am_ar 12 (fun _ => .null)), 12), (aI 0 (am_ar 12 (fun _ => 0)), 12), (aO 8 [.ref 48, .ref 49, .int 0, .ref 50, .int 0], 5), (aJ (am_ar 4 (fun _ => 0)), 4), (aJ (am_ar 52 (fun _ => 0)), 52), (aJ (am_ar 16 (fun _ => 0)), 16), (aO 6 [.int 0, .int (-1), .int 0, .int (-1), .int (-1), .int (-1), .ref 53, .ref 54, .ref 52], 9), (aI 1 (am_ar 0 (fun _ => 0)), 0), (aJ (am_ar 4 (fun _ => 0)), 4), (aJ (am_ar 4 (fun _ => 0)), 4), (aO 0 [.ref 56, .int 0, .ref 57, .ref 58, .int 0, .ref 59, .ref 60, .int 0], 8), (aI 2 (am_ar 13 (fun _ => 0)), 13), (aI 2 (am_ar 256 (fun _ => 0)), 256), (aI 2 (am_ar 256 (fun _ => 0)), 256), (aI 1 (am_ar 2 (fun _ => 0)), 2), (aI 2 (am_ar 13 (fun _ => 0)), 13), (aO 4 [.int 0, .ref 62, .int 1, .int 0, .ref 63], 5), (aI 1 (am_ar 1 (fun _ => 0)), 1), (aO 3 [.int 0, .int 0, .int 0, .int 0], 4), (aO 3 [.int 0, .int 0, .int 0, .int 0], 4), (aO 7 [.int 0, .int 0, .int 1, .int 0, .int 0, .int 0, .ref 66, .int 0, .int 0, .ref 67, .ref 71], 11), (aI 1 (am_ar 64 (fun _ => 0)), 64), (aO 8 [.ref 68, .ref 69, .int 0, .ref 70, .int 0], 5), (aJ (am_ar 4 (fun _ => 0)), 4), (aJ (am_ar 52 (fun _ => 0)), 52), (aJ (am_ar 16 (fun _ => 0)), 16), (aO 6 [.int 0, .int (-1), .int 0, .int (-1), .int (-1), .int (-1), .ref 73, .ref 74, .ref 72], 9), (aI 1 (am_ar 0 (fun _ => 0)), 0), (aJ (am_ar 4 (fun _ => 0)), 4), (aJ (am_ar 4 (fun _ => 0)), 4), (aO 1 [.int 0, .ref 76, .ref 77, .ref 78, .ref 79, .int 0, .int 0], 7), (aI 2 (am_ar 256 (fun _ => 0)), 256), (aI 2 (am_ar 256 (fun _ => 0)), 256), (aI 2 (am_ar 256 (fun _ => 0)), 256), (aI 2 (am_ar 256 (fun _ => 0)), 256), (aI 2 (am_ar 12 (fun _ => 0)), 12), (aI 2 (am_ar 5 (fun _ => 0)), 5)]
def LM0 : am_E := aO 12 [.int 0, .ref 83, .ref 84, .ref 85, .ref 86, .ref 87, .ref 88, .ref 89, .int 0, .int (-1), .ref 90, .ref 91, .ref 92, .int 0, .int 0, .int 0, .int 0, .ref 93, .int 0, .int 0, .int 0, .int 0, .int 0, .int 0, .ref 94, .ref 95, .ref 96, .int 0, .ref 97, .ref 98, .ref 99, .int 0, .ref 100, .ref 101, .ref 102, .ref 103, .ref 104, .int 0, .int 0, .int 0, .ref 105, .ref 106, .ref 107, .int (-1), .int 0, .int 0, .int 0]
def LM1 (w : Nat → Int32) : List (am_E × Nat) := [(aI 2 (am_ar 7 (fun _ => 0)), 7), (aI 2 (am_ar 2698 (fun _ => 0)), 2698), (aI 2 (am_ar 5396 (fun _ => 0)), 5396), (aI 0 (am_ar 2 (fun _ => 0)), 2), (aI 1 (am_ar 74 w), 74), (aI 1 (am_ar 400 (fun _ => 0)), 400), (aI 2 (am_ar 5 (fun _ => 0)), 5), (aI 2 (am_ar 401 (fun _ => 0)), 401), (aI 2 (am_ar 401 (fun _ => 0)), 401), (aI 2 (am_ar 401 (fun _ => 0)), 401), (aI 2 (am_ar 260 (fun _ => 0)), 260), (aI 0 (am_ar 32 (fun _ => 0)), 32), (aI 1 (am_ar 1200 (fun _ => 0)), 1200), (aI 2 (am_ar 260 (fun _ => 0)), 260), (aI 2 (am_ar 8 (fun _ => 0)), 8), (aI 2 (am_ar 320 (fun _ => 0)), 320), (aI 2 (am_ar 32 (fun _ => 0)), 32), (aI 2 (am_ar 8 (fun _ => 0)), 8), (aI 2 (am_ar 256 (fun _ => 0)), 256), (aI 2 (am_ar 256 (fun _ => 0)), 256), (aI 2 (am_ar 40 (fun _ => 0)), 40), (aI 2 (am_ar 40 (fun _ => 0)), 40), (aI 2 (am_ar 256 (fun _ => 0)), 256), (aI 2 (am_ar 64 (fun _ => 0)), 64), (aI 2 (am_ar 12 (fun _ => 0)), 12)]
theorem set_newc {h : am_H} {a : Nat} (hc : h.2.1 = a) (E E' : am_E) (n : Nat) : am_set (am_new h E n) a E' = am_new h E' n := by
  subst hc
  exact set_new h E E' n
theorem jx_law_0 {d : Nat} {Q : am_Q} : am_W kc_MoodSlipsLaw_law (am_cl d) Q 0 = am_ex (am_cl d) (am_W kc_MoodSlipsLaw_law (am_cl d) Q) Q kb_MoodSlipsLaw_law_0 := am_wx rfl
section CIW
variable {d : Nat} {h : am_H} {Q : am_Q}
set_option maxRecDepth 20000 in
theorem c_slI (hc : h.2.1 = 23) (K : Q none (nwL (am_new h LS0 14) LS1)) : am_cl (d + 3) 8 [.ref 23] (am_new h (.inl (11, am_dflt 11)) 14) Q := by
  have e : (am_new h (.inl (11, am_dflt 11)) 14).2.1 = 24 := by rw [nw_c, hc]
  refine c_slInit ?_ (by decide) (by rw [e]; decide) ?_
  · have q := nw_hd h (.inl (11, am_dflt 11)) 14
    rw [hc] at q
    exact q.trans rfl
  · rw [set_newc hc, e]
    exact K
set_option maxRecDepth 20000 in
theorem c_moI (hc : h.2.1 = 82) (K : ∀ w : Nat → Int32, (∀ i, i < 74 → w i = nI (wdL.getD i 0)) → Q none (nwL (am_new h LM0 47) (LM1 w))) : am_cl (d + 1) 174 [.ref 82] (am_new h (.inl (12, am_dflt 12)) 47) Q := by
  have e : (am_new h (.inl (12, am_dflt 12)) 47).2.1 = 83 := by rw [nw_c, hc]
  refine c_moInit ?_ (by decide) (by rw [e]; decide) (fun w hw => ?_)
  · have q := nw_hd h (.inl (12, am_dflt 12)) 47
    rw [hc] at q
    exact q.trans rfl
  · rw [set_newc hc, e]
    exact K w hw
end CIW
def LL (w : Nat → Int32) : List (am_E × Nat) := (LS0, 14) :: (LS1 ++ (LM0, 47) :: LM1 w)
set_option maxRecDepth 20000 in
theorem LL_eq (h : am_H) (w : Nat → Int32) : nwL (am_new (nwL (am_new h LS0 14) LS1) LM0 47) (LM1 w) = nwL h (LL w) := nwL_app h ((LS0, 14) :: LS1) ((LM0, 47) :: LM1 w)
/-- cell by cell: a row of makings against the shapes -/
def alB : List (am_E × Nat) → List oE → Nat → Prop
  | [], [], _ => True
  | p :: l, o :: m, a => p.1 = o (bF a) (bL0 a) (bV a) ∧ alB l m (a + 1)
  | _, _, _ => False
theorem alB_get : ∀ (l : List (am_E × Nat)) (m : List oE) (a i : Nat), alB l m a → i < l.length → (l.getD i (am_bad, 0)).1 = m.getD i (fun _ _ _ => am_bad) (bF (a + i)) (bL0 (a + i)) (bV (a + i))
  | [], _, _, _, _, hi => absurd hi (Nat.not_lt_zero _)
  | _ :: _, [], _, _, H, _ => (show False from H).elim
  | p :: l, o :: m, a, 0, H, _ => (show p.1 = o (bF a) (bL0 a) (bV a) ∧ alB l m (a + 1) from H).1
  | p :: l, o :: m, a, i + 1, H, hi => by
    have H : p.1 = o (bF a) (bL0 a) (bV a) ∧ alB l m (a + 1) := H
    have q := alB_get l m (a + 1) i H.2 (Nat.lt_of_succ_lt_succ hi)
    rw [show a + (i + 1) = a + 1 + i by omega]
    exact q
theorem alB_c {p : am_E × Nat} {l : List (am_E × Nat)} {o : oE} {m : List oE} {a b : Nat} (hb : a + 1 = b) (h1 : p.1 = o (bF a) (bL0 a) (bV a)) (h2 : alB l m b) : alB (p :: l) (o :: m) a := by
  subst hb
  exact ⟨h1, h2⟩
theorem oz_23 : (aO 11 [.ref 24, .ref 34, .ref 38, .ref 47, .ref 51, .ref 55, .ref 61, .ref 64, .ref 65, .ref 75, .ref 80, .int (-1), .ref 81, .int 0] : am_E) = oc_23 (bF 23) (bL0 23) (bV 23) := rfl
theorem oz_24 : (aO 5 [.ref 25, .int 0, .int (-1), .int 0, .int 0, .int 0, .int 0, .int 0, .int 0, .int 0, .int 0, .ref 26, .ref 32] : am_E) = oc_24 (bF 24) (bL0 24) (bV 24) := rfl
theorem oz_25 : (aI 1 (am_ar 400 (fun _ => 0)) : am_E) = oc_25 (bF 25) (bL0 25) (bV 25) := congrArg (aI 1) (am_ar_congr (fun i hi => rfl))
theorem oz_26 : (aO 9 [.ref 27, .ref 28, .ref 29, .ref 30, .ref 31, .int 0] : am_E) = oc_26 (bF 26) (bL0 26) (bV 26) := rfl
theorem oz_27 : (aI 2 (am_ar 48 (fun _ => 0)) : am_E) = oc_27 (bF 27) (bL0 27) (bV 27) := congrArg (aI 2) (am_ar_congr (fun i hi => rfl))
theorem oz_28 : (aI 2 (am_ar 48 (fun _ => 0)) : am_E) = oc_28 (bF 28) (bL0 28) (bV 28) := congrArg (aI 2) (am_ar_congr (fun i hi => rfl))
theorem oz_29 : (aI 2 (am_ar 48 (fun _ => 0)) : am_E) = oc_29 (bF 29) (bL0 29) (bV 29) := congrArg (aI 2) (am_ar_congr (fun i hi => rfl))
theorem oz_30 : (aI 2 (am_ar 48 (fun _ => 0)) : am_E) = oc_30 (bF 30) (bL0 30) (bV 30) := congrArg (aI 2) (am_ar_congr (fun i hi => rfl))
theorem oz_31 : (aJ (am_ar 192 (fun _ => 0)) : am_E) = oc_31 (bF 31) (bL0 31) (bV 31) := congrArg (aJ) (am_ar_congr (fun i hi => rfl))
theorem oz_32 : (aO 10 [.ref 33, .int 0] : am_E) = oc_32 (bF 32) (bL0 32) (bV 32) := rfl
theorem oz_33 : (aI 1 (am_ar 512 (fun _ => 0)) : am_E) = oc_33 (bF 33) (bL0 33) (bV 33) := congrArg (aI 1) (am_ar_congr (fun i hi => rfl))
theorem oz_34 : (aO 2 [.ref 35, .int 0, .null, .int 0, .ref 36, .ref 37, .int 0, .int 0] : am_E) = oc_34 (bF 34) (bL0 34) (bV 34) := rfl
theorem oz_35 : (aR 6 (am_ar 12 (fun _ => .null)) : am_E) = oc_35 (bF 35) (bL0 35) (bV 35) := congrArg (aR 6) (am_ar_congr (fun i hi => rfl))
theorem oz_36 : (aR 6 (am_ar 12 (fun _ => .null)) : am_E) = oc_36 (bF 36) (bL0 36) (bV 36) := congrArg (aR 6) (am_ar_congr (fun i hi => rfl))
theorem oz_37 : (aI 0 (am_ar 12 (fun _ => 0)) : am_E) = oc_37 (bF 37) (bL0 37) (bV 37) := congrArg (aI 0) (am_ar_congr (fun i hi => rfl))
theorem oz_38 : (aR 2 (am_ar 2 (upz (upz (fun _ => .null) 0 (.ref 39)) 1 (.ref 43))) : am_E) = oc_38 (bF 38) (bL0 38) (bV 38) := congrArg (aR 2) (am_ar_congr (fun i hi => by
  rcases (show i = 0 ∨ i = 1 by omega) with e | e <;> rw [e] <;> rfl))
theorem oz_39 : (aO 2 [.ref 40, .int 0, .null, .int 0, .ref 41, .ref 42, .int 0, .int 0] : am_E) = oc_39 (bF 39) (bL0 39) (bV 39) := rfl
theorem oz_40 : (aR 6 (am_ar 12 (fun _ => .null)) : am_E) = oc_40 (bF 40) (bL0 40) (bV 40) := congrArg (aR 6) (am_ar_congr (fun i hi => rfl))
theorem oz_41 : (aR 6 (am_ar 12 (fun _ => .null)) : am_E) = oc_41 (bF 41) (bL0 41) (bV 41) := congrArg (aR 6) (am_ar_congr (fun i hi => rfl))
theorem oz_42 : (aI 0 (am_ar 12 (fun _ => 0)) : am_E) = oc_42 (bF 42) (bL0 42) (bV 42) := congrArg (aI 0) (am_ar_congr (fun i hi => rfl))
theorem oz_43 : (aO 2 [.ref 44, .int 0, .null, .int 0, .ref 45, .ref 46, .int 0, .int 0] : am_E) = oc_43 (bF 43) (bL0 43) (bV 43) := rfl
theorem oz_44 : (aR 6 (am_ar 12 (fun _ => .null)) : am_E) = oc_44 (bF 44) (bL0 44) (bV 44) := congrArg (aR 6) (am_ar_congr (fun i hi => rfl))
theorem oz_45 : (aR 6 (am_ar 12 (fun _ => .null)) : am_E) = oc_45 (bF 45) (bL0 45) (bV 45) := congrArg (aR 6) (am_ar_congr (fun i hi => rfl))
theorem oz_46 : (aI 0 (am_ar 12 (fun _ => 0)) : am_E) = oc_46 (bF 46) (bL0 46) (bV 46) := congrArg (aI 0) (am_ar_congr (fun i hi => rfl))
theorem oz_47 : (aO 8 [.ref 48, .ref 49, .int 0, .ref 50, .int 0] : am_E) = oc_47 (bF 47) (bL0 47) (bV 47) := rfl
theorem oz_48 : (aJ (am_ar 4 (fun _ => 0)) : am_E) = oc_48 (bF 48) (bL0 48) (bV 48) := congrArg (aJ) (am_ar_congr (fun i hi => rfl))
theorem oz_49 : (aJ (am_ar 52 (fun _ => 0)) : am_E) = oc_49 (bF 49) (bL0 49) (bV 49) := congrArg (aJ) (am_ar_congr (fun i hi => rfl))
theorem oz_50 : (aJ (am_ar 16 (fun _ => 0)) : am_E) = oc_50 (bF 50) (bL0 50) (bV 50) := congrArg (aJ) (am_ar_congr (fun i hi => rfl))
theorem oz_51 : (aO 6 [.int 0, .int (-1), .int 0, .int (-1), .int (-1), .int (-1), .ref 53, .ref 54, .ref 52] : am_E) = oc_51 (bF 51) (bL0 51) (bV 51) := rfl
theorem oz_52 : (aI 1 (am_ar 0 (fun _ => 0)) : am_E) = oc_52 (bF 52) (bL0 52) (bV 52) := congrArg (aI 1) (am_ar_congr (fun i hi => rfl))
theorem oz_53 : (aJ (am_ar 4 (fun _ => 0)) : am_E) = oc_53 (bF 53) (bL0 53) (bV 53) := congrArg (aJ) (am_ar_congr (fun i hi => rfl))
theorem oz_54 : (aJ (am_ar 4 (fun _ => 0)) : am_E) = oc_54 (bF 54) (bL0 54) (bV 54) := congrArg (aJ) (am_ar_congr (fun i hi => rfl))
theorem oz_55 : (aO 0 [.ref 56, .int 0, .ref 57, .ref 58, .int 0, .ref 59, .ref 60, .int 0] : am_E) = oc_55 (bF 55) (bL0 55) (bV 55) := rfl
theorem oz_56 : (aI 2 (am_ar 13 (fun _ => 0)) : am_E) = oc_56 (bF 56) (bL0 56) (bV 56) := congrArg (aI 2) (am_ar_congr (fun i hi => rfl))
theorem oz_57 : (aI 2 (am_ar 256 (fun _ => 0)) : am_E) = oc_57 (bF 57) (bL0 57) (bV 57) := congrArg (aI 2) (am_ar_congr (fun i hi => rfl))
theorem oz_58 : (aI 2 (am_ar 256 (fun _ => 0)) : am_E) = oc_58 (bF 58) (bL0 58) (bV 58) := congrArg (aI 2) (am_ar_congr (fun i hi => rfl))
theorem oz_59 : (aI 1 (am_ar 2 (fun _ => 0)) : am_E) = oc_59 (bF 59) (bL0 59) (bV 59) := congrArg (aI 1) (am_ar_congr (fun i hi => rfl))
theorem oz_60 : (aI 2 (am_ar 13 (fun _ => 0)) : am_E) = oc_60 (bF 60) (bL0 60) (bV 60) := congrArg (aI 2) (am_ar_congr (fun i hi => rfl))
theorem oz_61 : (aO 4 [.int 0, .ref 62, .int 1, .int 0, .ref 63] : am_E) = oc_61 (bF 61) (bL0 61) (bV 61) := rfl
theorem oz_62 : (aI 1 (am_ar 1 (fun _ => 0)) : am_E) = oc_62 (bF 62) (bL0 62) (bV 62) := congrArg (aI 1) (am_ar_congr (fun i hi => rfl))
theorem oz_63 : (aO 3 [.int 0, .int 0, .int 0, .int 0] : am_E) = oc_63 (bF 63) (bL0 63) (bV 63) := rfl
theorem oz_64 : (aO 3 [.int 0, .int 0, .int 0, .int 0] : am_E) = oc_64 (bF 64) (bL0 64) (bV 64) := rfl
theorem oz_65 : (aO 7 [.int 0, .int 0, .int 1, .int 0, .int 0, .int 0, .ref 66, .int 0, .int 0, .ref 67, .ref 71] : am_E) = oc_65 (bF 65) (bL0 65) (bV 65) := rfl
theorem oz_66 : (aI 1 (am_ar 64 (fun _ => 0)) : am_E) = oc_66 (bF 66) (bL0 66) (bV 66) := congrArg (aI 1) (am_ar_congr (fun i hi => rfl))
theorem oz_67 : (aO 8 [.ref 68, .ref 69, .int 0, .ref 70, .int 0] : am_E) = oc_67 (bF 67) (bL0 67) (bV 67) := rfl
theorem oz_68 : (aJ (am_ar 4 (fun _ => 0)) : am_E) = oc_68 (bF 68) (bL0 68) (bV 68) := congrArg (aJ) (am_ar_congr (fun i hi => rfl))
theorem oz_69 : (aJ (am_ar 52 (fun _ => 0)) : am_E) = oc_69 (bF 69) (bL0 69) (bV 69) := congrArg (aJ) (am_ar_congr (fun i hi => rfl))
theorem oz_70 : (aJ (am_ar 16 (fun _ => 0)) : am_E) = oc_70 (bF 70) (bL0 70) (bV 70) := congrArg (aJ) (am_ar_congr (fun i hi => rfl))
theorem oz_71 : (aO 6 [.int 0, .int (-1), .int 0, .int (-1), .int (-1), .int (-1), .ref 73, .ref 74, .ref 72] : am_E) = oc_71 (bF 71) (bL0 71) (bV 71) := rfl
theorem oz_72 : (aI 1 (am_ar 0 (fun _ => 0)) : am_E) = oc_72 (bF 72) (bL0 72) (bV 72) := congrArg (aI 1) (am_ar_congr (fun i hi => rfl))
theorem oz_73 : (aJ (am_ar 4 (fun _ => 0)) : am_E) = oc_73 (bF 73) (bL0 73) (bV 73) := congrArg (aJ) (am_ar_congr (fun i hi => rfl))
theorem oz_74 : (aJ (am_ar 4 (fun _ => 0)) : am_E) = oc_74 (bF 74) (bL0 74) (bV 74) := congrArg (aJ) (am_ar_congr (fun i hi => rfl))
theorem oz_75 : (aO 1 [.int 0, .ref 76, .ref 77, .ref 78, .ref 79, .int 0, .int 0] : am_E) = oc_75 (bF 75) (bL0 75) (bV 75) := rfl
theorem oz_76 : (aI 2 (am_ar 256 (fun _ => 0)) : am_E) = oc_76 (bF 76) (bL0 76) (bV 76) := congrArg (aI 2) (am_ar_congr (fun i hi => rfl))
theorem oz_77 : (aI 2 (am_ar 256 (fun _ => 0)) : am_E) = oc_77 (bF 77) (bL0 77) (bV 77) := congrArg (aI 2) (am_ar_congr (fun i hi => rfl))
theorem oz_78 : (aI 2 (am_ar 256 (fun _ => 0)) : am_E) = oc_78 (bF 78) (bL0 78) (bV 78) := congrArg (aI 2) (am_ar_congr (fun i hi => rfl))
theorem oz_79 : (aI 2 (am_ar 256 (fun _ => 0)) : am_E) = oc_79 (bF 79) (bL0 79) (bV 79) := congrArg (aI 2) (am_ar_congr (fun i hi => rfl))
theorem oz_80 : (aI 2 (am_ar 12 (fun _ => 0)) : am_E) = oc_80 (bF 80) (bL0 80) (bV 80) := congrArg (aI 2) (am_ar_congr (fun i hi => rfl))
theorem oz_81 : (aI 2 (am_ar 5 (fun _ => 0)) : am_E) = oc_81 (bF 81) (bL0 81) (bV 81) := congrArg (aI 2) (am_ar_congr (fun i hi => rfl))
theorem oz_82 : (aO 12 [.int 0, .ref 83, .ref 84, .ref 85, .ref 86, .ref 87, .ref 88, .ref 89, .int 0, .int (-1), .ref 90, .ref 91, .ref 92, .int 0, .int 0, .int 0, .int 0, .ref 93, .int 0, .int 0, .int 0, .int 0, .int 0, .int 0, .ref 94, .ref 95, .ref 96, .int 0, .ref 97, .ref 98, .ref 99, .int 0, .ref 100, .ref 101, .ref 102, .ref 103, .ref 104, .int 0, .int 0, .int 0, .ref 105, .ref 106, .ref 107, .int (-1), .int 0, .int 0, .int 0] : am_E) = oc_82 (bF 82) (bL0 82) (bV 82) := rfl
theorem oz_83 : (aI 2 (am_ar 7 (fun _ => 0)) : am_E) = oc_83 (bF 83) (bL0 83) (bV 83) := congrArg (aI 2) (am_ar_congr (fun i hi => rfl))
theorem oz_84 : (aI 2 (am_ar 2698 (fun _ => 0)) : am_E) = oc_84 (bF 84) (bL0 84) (bV 84) := congrArg (aI 2) (am_ar_congr (fun i hi => rfl))
theorem oz_85 : (aI 2 (am_ar 5396 (fun _ => 0)) : am_E) = oc_85 (bF 85) (bL0 85) (bV 85) := congrArg (aI 2) (am_ar_congr (fun i hi => rfl))
theorem oz_86 : (aI 0 (am_ar 2 (fun _ => 0)) : am_E) = oc_86 (bF 86) (bL0 86) (bV 86) := congrArg (aI 0) (am_ar_congr (fun i hi => rfl))
theorem oz_87 {w : Nat → Int32} (hw : ∀ i, i < 74 → w i = nI (wdL.getD i 0)) : (aI 1 (am_ar 74 w) : am_E) = oc_87 (bF 87) (bL0 87) (bV 87) := congrArg (aI 1) (am_ar_congr (fun i hi => (hw i hi).trans rfl))
theorem oz_88 : (aI 1 (am_ar 400 (fun _ => 0)) : am_E) = oc_88 (bF 88) (bL0 88) (bV 88) := congrArg (aI 1) (am_ar_congr (fun i hi => rfl))
theorem oz_89 : (aI 2 (am_ar 5 (fun _ => 0)) : am_E) = oc_89 (bF 89) (bL0 89) (bV 89) := congrArg (aI 2) (am_ar_congr (fun i hi => rfl))
theorem oz_90 : (aI 2 (am_ar 401 (fun _ => 0)) : am_E) = oc_90 (bF 90) (bL0 90) (bV 90) := congrArg (aI 2) (am_ar_congr (fun i hi => rfl))
theorem oz_91 : (aI 2 (am_ar 401 (fun _ => 0)) : am_E) = oc_91 (bF 91) (bL0 91) (bV 91) := congrArg (aI 2) (am_ar_congr (fun i hi => rfl))
theorem oz_92 : (aI 2 (am_ar 401 (fun _ => 0)) : am_E) = oc_92 (bF 92) (bL0 92) (bV 92) := congrArg (aI 2) (am_ar_congr (fun i hi => rfl))
theorem oz_93 : (aI 2 (am_ar 260 (fun _ => 0)) : am_E) = oc_93 (bF 93) (bL0 93) (bV 93) := congrArg (aI 2) (am_ar_congr (fun i hi => rfl))
theorem oz_94 : (aI 0 (am_ar 32 (fun _ => 0)) : am_E) = oc_94 (bF 94) (bL0 94) (bV 94) := congrArg (aI 0) (am_ar_congr (fun i hi => rfl))
theorem oz_95 : (aI 1 (am_ar 1200 (fun _ => 0)) : am_E) = oc_95 (bF 95) (bL0 95) (bV 95) := congrArg (aI 1) (am_ar_congr (fun i hi => rfl))
theorem oz_96 : (aI 2 (am_ar 260 (fun _ => 0)) : am_E) = oc_96 (bF 96) (bL0 96) (bV 96) := congrArg (aI 2) (am_ar_congr (fun i hi => rfl))
theorem oz_97 : (aI 2 (am_ar 8 (fun _ => 0)) : am_E) = oc_97 (bF 97) (bL0 97) (bV 97) := congrArg (aI 2) (am_ar_congr (fun i hi => rfl))
theorem oz_98 : (aI 2 (am_ar 320 (fun _ => 0)) : am_E) = oc_98 (bF 98) (bL0 98) (bV 98) := congrArg (aI 2) (am_ar_congr (fun i hi => rfl))
theorem oz_99 : (aI 2 (am_ar 32 (fun _ => 0)) : am_E) = oc_99 (bF 99) (bL0 99) (bV 99) := congrArg (aI 2) (am_ar_congr (fun i hi => rfl))
theorem oz_100 : (aI 2 (am_ar 8 (fun _ => 0)) : am_E) = oc_100 (bF 100) (bL0 100) (bV 100) := congrArg (aI 2) (am_ar_congr (fun i hi => rfl))
theorem oz_101 : (aI 2 (am_ar 256 (fun _ => 0)) : am_E) = oc_101 (bF 101) (bL0 101) (bV 101) := congrArg (aI 2) (am_ar_congr (fun i hi => rfl))
theorem oz_102 : (aI 2 (am_ar 256 (fun _ => 0)) : am_E) = oc_102 (bF 102) (bL0 102) (bV 102) := congrArg (aI 2) (am_ar_congr (fun i hi => rfl))
theorem oz_103 : (aI 2 (am_ar 40 (fun _ => 0)) : am_E) = oc_103 (bF 103) (bL0 103) (bV 103) := congrArg (aI 2) (am_ar_congr (fun i hi => rfl))
theorem oz_104 : (aI 2 (am_ar 40 (fun _ => 0)) : am_E) = oc_104 (bF 104) (bL0 104) (bV 104) := congrArg (aI 2) (am_ar_congr (fun i hi => rfl))
theorem oz_105 : (aI 2 (am_ar 256 (fun _ => 0)) : am_E) = oc_105 (bF 105) (bL0 105) (bV 105) := congrArg (aI 2) (am_ar_congr (fun i hi => rfl))
theorem oz_106 : (aI 2 (am_ar 64 (fun _ => 0)) : am_E) = oc_106 (bF 106) (bL0 106) (bV 106) := congrArg (aI 2) (am_ar_congr (fun i hi => rfl))
theorem oz_107 : (aI 2 (am_ar 12 (fun _ => 0)) : am_E) = oc_107 (bF 107) (bL0 107) (bV 107) := congrArg (aI 2) (am_ar_congr (fun i hi => rfl))
set_option maxRecDepth 20000 in
theorem LL_al {w : Nat → Int32} (hw : ∀ i, i < 74 → w i = nI (wdL.getD i 0)) : alB (LL w) ocl 23 := alB_c rfl oz_23 (alB_c rfl oz_24 (alB_c rfl oz_25 (alB_c rfl oz_26 (alB_c rfl oz_27 (alB_c rfl oz_28 (alB_c rfl oz_29 (alB_c rfl oz_30 (alB_c rfl oz_31 (alB_c rfl oz_32 (alB_c rfl oz_33 (alB_c rfl oz_34 (alB_c rfl oz_35 (alB_c rfl oz_36 (alB_c rfl oz_37 (alB_c rfl oz_38 (alB_c rfl oz_39 (alB_c rfl oz_40 (alB_c rfl oz_41 (alB_c rfl oz_42 (alB_c rfl oz_43 (alB_c rfl oz_44 (alB_c rfl oz_45 (alB_c rfl oz_46 (alB_c rfl oz_47 (alB_c rfl oz_48 (alB_c rfl oz_49 (alB_c rfl oz_50 (alB_c rfl oz_51 (alB_c rfl oz_52 (alB_c rfl oz_53 (alB_c rfl oz_54 (alB_c rfl oz_55 (alB_c rfl oz_56 (alB_c rfl oz_57 (alB_c rfl oz_58 (alB_c rfl oz_59 (alB_c rfl oz_60 (alB_c rfl oz_61 (alB_c rfl oz_62 (alB_c rfl oz_63 (alB_c rfl oz_64 (alB_c rfl oz_65 (alB_c rfl oz_66 (alB_c rfl oz_67 (alB_c rfl oz_68 (alB_c rfl oz_69 (alB_c rfl oz_70 (alB_c rfl oz_71 (alB_c rfl oz_72 (alB_c rfl oz_73 (alB_c rfl oz_74 (alB_c rfl oz_75 (alB_c rfl oz_76 (alB_c rfl oz_77 (alB_c rfl oz_78 (alB_c rfl oz_79 (alB_c rfl oz_80 (alB_c rfl oz_81 (alB_c rfl oz_82 (alB_c rfl oz_83 (alB_c rfl oz_84 (alB_c rfl oz_85 (alB_c rfl oz_86 (alB_c rfl (oz_87 hw) (alB_c rfl oz_88 (alB_c rfl oz_89 (alB_c rfl oz_90 (alB_c rfl oz_91 (alB_c rfl oz_92 (alB_c rfl oz_93 (alB_c rfl oz_94 (alB_c rfl oz_95 (alB_c rfl oz_96 (alB_c rfl oz_97 (alB_c rfl oz_98 (alB_c rfl oz_99 (alB_c rfl oz_100 (alB_c rfl oz_101 (alB_c rfl oz_102 (alB_c rfl oz_103 (alB_c rfl oz_104 (alB_c rfl oz_105 (alB_c rfl oz_106 (alB_c rfl oz_107 (show alB [] [] 108 from trivial)))))))))))))))))))))))))))))))))))))))))))))))))))))))))))))))))))))))))))))))))))))
theorem nwL_s : ∀ (l : List (am_E × Nat)) (h : am_H), (nwL h l).2.2 = (l.map Prod.snd).foldl (· + ·) h.2.2
  | [], h => rfl
  | p :: l, h => nwL_s l (am_new h p.1 p.2)
set_option maxRecDepth 20000 in
theorem LL_s (w : Nat → Int32) : (LL w).map Prod.snd = [14, 13, 400, 6, 48, 48, 48, 48, 192, 2, 512, 8, 12, 12, 12, 2, 8, 12, 12, 12, 8, 12, 12, 12, 5, 4, 52, 16, 9, 0, 4, 4, 8, 13, 256, 256, 2, 13, 5, 1, 4, 4, 11, 64, 5, 4, 52, 16, 9, 0, 4, 4, 7, 256, 256, 256, 256, 12, 5, 47, 7, 2698, 5396, 2, 74, 400, 5, 401, 401, 401, 260, 32, 1200, 260, 8, 320, 32, 8, 256, 256, 40, 40, 256, 64, 12] := rfl
theorem LL_len (w : Nat → Int32) : (LL w).length = 85 := rfl
theorem hp_c (ys : List Int32) : (am_hp0 ys).2.1 = 23 := rfl
theorem hp_c2 (ys : List Int32) : (nwL (am_new (am_hp0 ys) LS0 14) LS1).2.1 = 82 := by rw [nwL_c]; rfl
theorem bg_ov {ys : List Int32} {w : Nat → Int32} (hw : ∀ i, i < 74 → w i = nI (wdL.getD i 0)) : ∃ s, s ≤ 6000000 ∧ nwL (am_hp0 ys) (LL w) = ov (am_c0 ys, 108, s) bF bL0 bV := by
  refine ⟨(nwL (am_hp0 ys) (LL w)).2.2, ?_, Prod.ext (funext fun x => ?_) (Prod.ext ?_ rfl)⟩
  · rw [nwL_s, LL_s]
    show List.foldl (fun x y => x + y) 0 _ ≤ _
    decide +kernel
  · by_cases h1 : x < 23
    · rw [nwL_lo _ (show x < (am_hp0 ys).2.1 from h1), ov_hi (by omega)]
      rfl
    · by_cases h2 : x < 108
      · rw [ov_lo (by omega) h2]
        have q := nwL_rdI (LL w) (am_hp0 ys) (x - 23) (by rw [LL_len]; omega)
        rw [show (am_hp0 ys).2.1 + (x - 23) = x by rw [hp_c]; omega] at q
        have z := alB_get (LL w) ocl 23 (x - 23) (LL_al hw) (by rw [LL_len]; omega)
        rw [show 23 + (x - 23) = x by omega] at z
        exact q.trans z
      · rw [ov_hi (by omega)]
        have hl : ∀ (l : List (am_E × Nat)) (h : am_H), h.2.1 + l.length ≤ x → (nwL h l).1 x = h.1 x := by
          intro l
          induction l with
          | nil => intro h _; rfl
          | cons p l ih =>
            intro h hx
            have hx : h.2.1 + (l.length + 1) ≤ x := hx
            have q := ih (am_new h p.1 p.2) (by rw [nw_c]; omega)
            exact q.trans (if_neg (by omega))
        exact hl _ _ (by rw [LL_len, hp_c]; omega)
  · show (nwL (am_hp0 ys) (LL w)).2.1 = 108
    rw [nwL_c, LL_len, hp_c]
set_option maxRecDepth 20000 in
theorem am_goal_all (ys : List Int32) (hl : ys.length ≤ 384) : am_goal ys := by
  unfold am_goal
  rw [jx_law_0]
  show am_ex (am_cl 1000) (am_W kc_MoodSlipsLaw_law (am_cl 1000) LwQ) LwQ kb_MoodSlipsLaw_law_0 [.ref 0, am_dum, am_dum, am_dum] [] (am_hp0 ys)
  simp only [isO_c, ax0, ex_cons, am_get, upz_at, true_and, and_true, Nat.reduceAdd, Nat.reduceLeDiff, Nat.reduceEqDiff, Nat.reduceSub, Int32.reduceOfInt, Int32.reduceAdd, Int32.reduceMul, Int32.reduceSub, ↓reduceIte, Int32.reduceLT, Int32.reduceLE, Int32.reduceToNatClampNeg, Nat.reduceMod, Nat.reduceLT, List.length_cons, List.length_nil, eq_self, true_or, or_true, and_self, implies_true, not_true_eq_false, not_false_eq_true, false_implies, true_implies, forall_const, st_astorex, st_astore_1x, st_dupx, st_dup_1x, st_goto_wx, st_iconstx, st_sp1, st_istorex, st_newx, am_put, am_nlg, kb_MoodSlipsLaw_law_0, hp_c]
  refine c_slI (d := 997) rfl ?_
  simp only [isO_c, ax0, ex_cons, am_get, upz_at, true_and, and_true, Nat.reduceAdd, Nat.reduceLeDiff, Nat.reduceEqDiff, Nat.reduceSub, Int32.reduceOfInt, Int32.reduceAdd, Int32.reduceMul, Int32.reduceSub, ↓reduceIte, Int32.reduceLT, Int32.reduceLE, Int32.reduceToNatClampNeg, Nat.reduceMod, Nat.reduceLT, List.length_cons, List.length_nil, eq_self, true_or, or_true, and_self, implies_true, not_true_eq_false, not_false_eq_true, false_implies, true_implies, forall_const, st_astorex, st_astore_1x, st_dupx, st_dup_1x, st_goto_wx, st_iconstx, st_sp1, st_istorex, st_newx, am_put, am_nlg, kb_MoodSlipsLaw_law_0, hp_c2]
  refine c_moI (d := 999) (hp_c2 ys) (fun w hw => ?_)
  simp only [isO_c, ax0, ex_cons, am_get, upz_at, true_and, and_true, Nat.reduceAdd, Nat.reduceLeDiff, Nat.reduceEqDiff, Nat.reduceSub, Int32.reduceOfInt, Int32.reduceAdd, Int32.reduceMul, Int32.reduceSub, ↓reduceIte, Int32.reduceLT, Int32.reduceLE, Int32.reduceToNatClampNeg, Nat.reduceMod, Nat.reduceLT, List.length_cons, List.length_nil, eq_self, true_or, or_true, and_self, implies_true, not_true_eq_false, not_false_eq_true, false_implies, true_implies, forall_const, st_astorex, st_astore_1x, st_dupx, st_dup_1x, st_goto_wx, st_iconstx, st_sp1, st_istorex, st_newx, am_put, am_nlg, kb_MoodSlipsLaw_law_0, hp_c2]
  rw [LL_eq]
  obtain ⟨s, s1, s2⟩ := bg_ov (ys := ys) hw
  rw [s2]
  exact lw_head hl 65 0 rfl (Nat.zero_le _) _ _ _ _ (lw_begin s1)
