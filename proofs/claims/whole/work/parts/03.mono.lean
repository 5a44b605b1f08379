/-! ===== monotony ===== -/
theorem am_fld_mono {fs : List Value} {k : Nat} {K K' : Value → Prop} (hK : ∀ v, K v → K' v) (h : am_fld fs k K) : am_fld fs k K' := by
  induction fs generalizing k with
  | nil => exact h
  | cons v vs ih => cases k with
    | zero => exact hK _ h
    | succ n => exact ih h
theorem am_gf_mono {c k : Nat} {e : am_E} {K K' : Value → Prop} (hK : ∀ v, K v → K' v) (h : am_gf c k K e) : am_gf c k K' e := by
  match e, h with
  | .inl (c', fs), h => exact ⟨h.1, am_fld_mono hK h.2⟩
theorem am_pf_mono {c k : Nat} {v : Value} {e : am_E} {K K' : am_E → Prop} (hK : ∀ v, K v → K' v) (h : am_pf c k v K e) : am_pf c k v K' e := by
  match e, h with
  | .inl (c', fs), h => exact ⟨h.1, h.2.1, hK _ h.2.2⟩
theorem am_rI_mono {j : Int32} {e : am_E} {K K' : Int32 → Prop} (hK : ∀ v, K v → K' v) (h : am_rI j K e) : am_rI j K' e := by
  match e, h with
  | .inr (t, .inl xs), h => exact ⟨h.1, h.2.1, hK _ h.2.2⟩
theorem am_rB_mono {j : Int32} {e : am_E} {K K' : Int32 → Prop} (hK : ∀ v, K v → K' v) (h : am_rB j K e) : am_rB j K' e := by
  match e, h with
  | .inr (t, .inl xs), h => exact ⟨h.1, h.2.1, hK _ h.2.2⟩
theorem am_rJ_mono {j : Int32} {e : am_E} {K K' : Int64 → Prop} (hK : ∀ v, K v → K' v) (h : am_rJ j K e) : am_rJ j K' e := by
  match e, h with
  | .inr (t, .inr (.inl xs)), h => exact ⟨h.1, hK _ h.2⟩
theorem am_rR_mono {j : Int32} {e : am_E} {K K' : Value → Prop} (hK : ∀ v, K v → K' v) (h : am_rR j K e) : am_rR j K' e := by
  match e, h with
  | .inr (t, .inr (.inr xs)), h => exact ⟨h.1, hK _ h.2⟩
theorem am_wI_mono {j v : Int32} {e : am_E} {K K' : am_E → Prop} (hK : ∀ v, K v → K' v) (h : am_wI j v K e) : am_wI j v K' e := by
  match e, h with
  | .inr (t, .inl xs), h => exact ⟨h.1, h.2.1, hK _ h.2.2⟩
theorem am_wB_mono {j v : Int32} {e : am_E} {K K' : am_E → Prop} (hK : ∀ v, K v → K' v) (h : am_wB j v K e) : am_wB j v K' e := by
  match e, h with
  | .inr (t, .inl xs), h => exact ⟨h.1, h.2.1, hK _ h.2.2⟩
theorem am_wJ_mono {j : Int32} {v : Int64} {e : am_E} {K K' : am_E → Prop} (hK : ∀ v, K v → K' v) (h : am_wJ j v K e) : am_wJ j v K' e := by
  match e, h with
  | .inr (t, .inr (.inl xs)), h => exact ⟨h.1, hK _ h.2⟩
theorem am_wR_mono {j : Int32} {v : Value} {ok : Nat → Prop} {e : am_E} {K K' : am_E → Prop} (hK : ∀ v, K v → K' v) (h : am_wR j v ok K e) : am_wR j v ok K' e := by
  match e, h with
  | .inr (t, .inr (.inr xs)), h => exact ⟨h.1, h.2.1, hK _ h.2.2⟩
theorem am_len_mono {e : am_E} {K K' : Nat → Prop} (hK : ∀ v, K v → K' v) (h : am_len K e) : am_len K' e := by
  match e, h with
  | .inr (t, .inl xs), h => exact ⟨h.1, h.2.1, hK _ h.2.2⟩
  | .inr (t, .inr (.inl xs)), h => exact ⟨h.1, hK _ h.2⟩
  | .inr (t, .inr (.inr xs)), h => exact ⟨h.1, hK _ h.2⟩
theorem am_sl_mono {e : am_E} {K K' : Nat → Prop} (hK : ∀ v, K v → K' v) (h : am_sl K e) : am_sl K' e := by
  match e, h with
  | .inr (t, .inl xs), h => exact ⟨h.1, h.2.1, hK _ h.2.2⟩
theorem am_sc_mono {j : Int32} {e : am_E} {K K' : Int32 → Prop} (hK : ∀ v, K v → K' v) (h : am_sc j K e) : am_sc j K' e := by
  match e, h with
  | .inr (t, .inl xs), h => exact ⟨h.1, h.2.1, hK _ h.2.2⟩
theorem am_ac_mono {i k n : Int32} {e e' : am_E} {K K' : am_E → Prop} (hK : ∀ v, K v → K' v) (h : am_ac i k n K e e') : am_ac i k n K' e e' := by
  match e, e', h with
  | .inr (t, .inl xs), .inr (t', .inl ys), ⟨h1, h2, h3, h4, h5, h6, h7, h8⟩ => exact ⟨h1, h2, h3, h4, h5, h6, h7, hK _ h8⟩
  | .inr (t, .inr (.inl xs)), .inr (t', .inr (.inl ys)), ⟨h1, h2, h3, h4, h5, h6, h7, h8⟩ => exact ⟨h1, h2, h3, h4, h5, h6, h7, hK _ h8⟩
theorem am_sw_mono {v : Int32} {J J' : Nat → Prop} {d : Nat} {ps : List (Int × Int)} (hJ : ∀ t, J t → J' t) (h : am_sw v J d ps) : am_sw v J' d ps := by
  induction ps with
  | nil => exact hJ _ h
  | cons q r ih => exact ⟨fun e => hJ _ (h.1 e), fun e => ih (h.2 e)⟩
def am_Cmono (call : am_C) : Prop := ∀ j args h (Q Q' : am_Q), (∀ r h', Q r h' → Q' r h') → call j args h Q → call j args h Q'
set_option maxHeartbeats 1000000 in
theorem am_st_mono {call : am_C} (hc : am_Cmono call) {J J' : Nat → am_K} (hJ : ∀ p ls st h, J p ls st h → J' p ls st h) {Q Q' : am_Q} (hQ : ∀ r h, Q r h → Q' r h) {i : Instr} {x : Nat} {ls st : List Value} {h : am_H} {K K' : am_K} (hK : ∀ ls st h, K ls st h → K' ls st h) (H : am_st call J Q i x ls st h K) : am_st call J' Q' i x ls st h K' := by
  unfold am_st at H ⊢
  split at H <;> first
    | exact hK _ _ _ H
    | exact ⟨H.1, hK _ _ _ H.2⟩
    | exact hQ _ _ H
    | exact ⟨H.1, hQ _ _ H.2⟩
    | exact hJ _ _ _ _ H
    | exact ⟨fun c => hJ _ _ _ _ (H.1 c), fun c => hK _ _ _ (H.2 c)⟩
    | exact am_rI_mono (fun _ q => hK _ _ _ q) H
    | exact am_rB_mono (fun _ q => hK _ _ _ q) H
    | exact am_rJ_mono (fun _ q => hK _ _ _ q) H
    | exact am_rR_mono (fun _ q => hK _ _ _ q) H
    | exact ⟨H.1, am_wI_mono (fun _ q => hK _ _ _ q) H.2⟩
    | exact ⟨H.1, am_wB_mono (fun _ q => hK _ _ _ q) H.2⟩
    | exact ⟨H.1, am_wJ_mono (fun _ q => hK _ _ _ q) H.2⟩
    | exact ⟨H.1, am_wR_mono (fun _ q => hK _ _ _ q) H.2⟩
    | exact am_len_mono (fun _ q => hK _ _ _ q) H
    | exact am_gf_mono (fun _ q => hK _ _ _ q) H
    | exact ⟨H.1, am_pf_mono (fun _ q => hK _ _ _ q) H.2⟩
    | exact ⟨H.1, H.2.1, am_pf_mono (fun _ q => hK _ _ _ q) H.2.2⟩
    | exact ⟨H.1, H.2.1, hK _ _ _ H.2.2⟩
    | exact ⟨H.1, H.2.1, H.2.2.1, hK _ _ _ H.2.2.2⟩
    | exact ⟨H.1, H.2.1, hc _ _ _ _ _ (fun _ _ q => hK _ _ _ q) H.2.2⟩
    | exact ⟨H.1, H.2.1, H.2.2.1, hc _ _ _ _ _ (fun _ _ q => hK _ _ _ q) H.2.2.2⟩
    | exact ⟨H.1, H.2.1, am_ac_mono (fun _ q => hK _ _ _ q) H.2.2⟩
    | exact ⟨H.1, H.2.1, am_sl_mono (fun _ q => hK _ _ _ q) H.2.2⟩
    | exact ⟨H.1, H.2.1, am_sc_mono (fun _ q => hK _ _ _ q) H.2.2⟩
    | exact am_sw_mono (fun _ q => hJ _ _ _ _ q) H
    | (split at H <;> first | exact hK _ _ _ H | exact ⟨H.1, hK _ _ _ H.2⟩ | exact H)
    | exact H
theorem am_ex_mono {call : am_C} (hc : am_Cmono call) {J J' : Nat → am_K} (hJ : ∀ p ls st h, J p ls st h → J' p ls st h) {Q Q' : am_Q} (hQ : ∀ r h, Q r h → Q' r h) {is : List am_I} : ∀ {ls st : List Value} {h : am_H}, am_ex call J Q is ls st h → am_ex call J' Q' is ls st h := by
  induction is with
  | nil => exact fun h => h
  | cons q is ih => exact fun h => am_st_mono hc hJ hQ (fun _ _ _ g => ih g) h
theorem am_W_mono {code : Nat → List am_I} {call : am_C} (hc : am_Cmono call) {Q Q' : am_Q} (hQ : ∀ r h, Q r h → Q' r h) {pc : Nat} {ls st : List Value} {h : am_H} (H : am_W code call Q pc ls st h) : am_W code call Q' pc ls st h :=
  fun P hP => H P (fun pc ls st h g => hP pc ls st h (am_ex_mono hc (fun _ _ _ _ q => q) hQ g))
theorem am_call_mono (pr : Nat → Nat × (Nat → List am_I)) (d : Nat) : am_Cmono (am_call pr d) := by
  induction d with
  | zero => exact fun _ _ _ _ _ _ h => h
  | succ d ih => exact fun _ _ _ _ _ hQ h => ⟨h.1, am_W_mono ih hQ h.2⟩
theorem am_fold0 {pr : Nat → Nat × (Nat → List am_I)} {d : Nat} {code : Nat → List am_I} {b : List am_I} {Q : am_Q} {pc : Nat} {ls st : List Value} {h : am_H} (hb : code pc = b) (K : am_ex (am_call pr d) (am_W code (am_call pr d) Q) Q b ls st h) : am_W code (am_call pr d) Q pc ls st h := by
  subst hb
  intro P hP
  exact hP _ _ _ _ (am_ex_mono (am_call_mono pr d) (fun p ls st h g => g P hP) (fun _ _ q => q) K)
theorem am_fold {d : Nat} {code : Nat → List am_I} {b : List am_I} {Q : am_Q} {pc : Nat} {ls st : List Value} {h : am_H} (hb : code pc = b) (K : am_ex (am_cl d) (am_W code (am_cl d) Q) Q b ls st h) : am_W code (am_cl d) Q pc ls st h := am_fold0 hb K
theorem am_wx {d : Nat} {code : Nat → List am_I} {b : List am_I} {Q : am_Q} {pc : Nat} (hb : code pc = b) : am_W code (am_cl d) Q pc = am_ex (am_cl d) (am_W code (am_cl d) Q) Q b := by
  funext ls st h
  refine propext ⟨fun H => ?_, am_fold hb⟩
  subst hb
  exact H (fun pc ls st h => am_ex (am_cl d) (am_W code (am_cl d) Q) Q (code pc) ls st h) (fun pc ls st h g => am_ex_mono (am_call_mono am_pr d) (fun p ls st h k => am_fold rfl k) (fun _ _ q => q) g)
theorem am_clx {d j n : Nat} {kc : Nat → List am_I} {b : List am_I} (hj : am_pr j = (n, kc)) (hb : kc 0 = b) {args : List Value} {h : am_H} {Q : am_Q} : am_cl (d + 1) j args h Q = (Nat.ble (am_sz args) n = true ∧ am_ex (am_cl d) (am_W kc (am_cl d) Q) Q b (am_ent args n) [] h) := by
  show (Nat.ble (am_sz args) (am_pr j).1 = true ∧ am_W (am_pr j).2 (am_cl d) Q 0 (am_ent args (am_pr j).1) [] h) = _
  rw [hj, ← am_wx hb]
