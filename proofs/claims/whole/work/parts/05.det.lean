/-! ===== the machine is deterministic, and its heap grows ===== -/
def am_le (h h' : am_H) : Prop := h.2.1 ≤ h'.2.1 ∧ h.2.2 ≤ h'.2.2
theorem am_le_rf {h : am_H} : am_le h h := ⟨Nat.le_refl _, Nat.le_refl _⟩
theorem am_le_tr {h h1 h2 : am_H} (a : am_le h h1) (b : am_le h1 h2) : am_le h h2 := ⟨Nat.le_trans a.1 b.1, Nat.le_trans a.2 b.2⟩
theorem am_le_set {h : am_H} {a : Nat} {e : am_E} : am_le h (am_set h a e) := am_le_rf
theorem am_le_new {h : am_H} {e : am_E} {n : Nat} : am_le h (am_new h e n) := ⟨Nat.le_add_right _ _, Nat.le_add_right _ _⟩
def am_pt {α : Type} (F : (α → Prop) → Prop) : Prop := ∀ K, F K → ∃ v, K v ∧ ∀ K', K' v → F K'
theorem am_fld_pt {fs : List Value} {k : Nat} : am_pt (am_fld fs k) := by
  induction fs generalizing k with
  | nil => exact fun K h => h.elim
  | cons v vs ih => cases k with
    | zero => exact fun K h => ⟨v, h, fun K' q => q⟩
    | succ n => exact ih
theorem am_gf_pt {c k : Nat} {e : am_E} : am_pt (fun K => am_gf c k K e) := fun K h => by
  match e, h with
  | .inl (c', fs), h => obtain ⟨v, a, b⟩ := am_fld_pt _ h.2; exact ⟨v, a, fun K' q => ⟨h.1, b K' q⟩⟩
theorem am_pf_pt {c k : Nat} {v : Value} {e : am_E} : am_pt (fun K => am_pf c k v K e) := fun K h => by
  match e, h with
  | .inl (c', fs), h => exact ⟨_, h.2.2, fun K' q => ⟨h.1, h.2.1, q⟩⟩
theorem am_rI_pt {j : Int32} {e : am_E} : am_pt (fun K => am_rI j K e) := fun K h => by
  match e, h with
  | .inr (t, .inl xs), h => exact ⟨_, h.2.2, fun K' q => ⟨h.1, h.2.1, q⟩⟩
theorem am_rB_pt {j : Int32} {e : am_E} : am_pt (fun K => am_rB j K e) := fun K h => by
  match e, h with
  | .inr (t, .inl xs), h => exact ⟨_, h.2.2, fun K' q => ⟨h.1, h.2.1, q⟩⟩
theorem am_rJ_pt {j : Int32} {e : am_E} : am_pt (fun K => am_rJ j K e) := fun K h => by
  match e, h with
  | .inr (t, .inr (.inl xs)), h => exact ⟨_, h.2, fun K' q => ⟨h.1, q⟩⟩
theorem am_rR_pt {j : Int32} {e : am_E} : am_pt (fun K => am_rR j K e) := fun K h => by
  match e, h with
  | .inr (t, .inr (.inr xs)), h => exact ⟨_, h.2, fun K' q => ⟨h.1, q⟩⟩
theorem am_wI_pt {j v : Int32} {e : am_E} : am_pt (fun K => am_wI j v K e) := fun K h => by
  match e, h with
  | .inr (t, .inl xs), h => exact ⟨_, h.2.2, fun K' q => ⟨h.1, h.2.1, q⟩⟩
theorem am_wB_pt {j v : Int32} {e : am_E} : am_pt (fun K => am_wB j v K e) := fun K h => by
  match e, h with
  | .inr (t, .inl xs), h => exact ⟨_, h.2.2, fun K' q => ⟨h.1, h.2.1, q⟩⟩
theorem am_wJ_pt {j : Int32} {v : Int64} {e : am_E} : am_pt (fun K => am_wJ j v K e) := fun K h => by
  match e, h with
  | .inr (t, .inr (.inl xs)), h => exact ⟨_, h.2, fun K' q => ⟨h.1, q⟩⟩
theorem am_wR_pt {j : Int32} {v : Value} {ok : Nat → Prop} {e : am_E} : am_pt (fun K => am_wR j v ok K e) := fun K h => by
  match e, h with
  | .inr (t, .inr (.inr xs)), h => exact ⟨_, h.2.2, fun K' q => ⟨h.1, h.2.1, q⟩⟩
theorem am_len_pt {e : am_E} : am_pt (fun K => am_len K e) := fun K h => by
  match e, h with
  | .inr (t, .inl xs), h => exact ⟨_, h.2.2, fun K' q => ⟨h.1, h.2.1, q⟩⟩
  | .inr (t, .inr (.inl xs)), h => exact ⟨_, h.2, fun K' q => ⟨h.1, q⟩⟩
  | .inr (t, .inr (.inr xs)), h => exact ⟨_, h.2, fun K' q => ⟨h.1, q⟩⟩
theorem am_sl_pt {e : am_E} : am_pt (fun K => am_sl K e) := fun K h => by
  match e, h with
  | .inr (t, .inl xs), h => exact ⟨_, h.2.2, fun K' q => ⟨h.1, h.2.1, q⟩⟩
theorem am_sc_pt {j : Int32} {e : am_E} : am_pt (fun K => am_sc j K e) := fun K h => by
  match e, h with
  | .inr (t, .inl xs), h => exact ⟨_, h.2.2, fun K' q => ⟨h.1, h.2.1, q⟩⟩
theorem am_ac_pt {i k n : Int32} {e e' : am_E} : am_pt (fun K => am_ac i k n K e e') := fun K h => by
  match e, e', h with
  | .inr (t, .inl xs), .inr (t', .inl ys), ⟨h1, h2, h3, h4, h5, h6, h7, h8⟩ => exact ⟨_, h8, fun K' q => ⟨h1, h2, h3, h4, h5, h6, h7, q⟩⟩
  | .inr (t, .inr (.inl xs)), .inr (t', .inr (.inl ys)), ⟨h1, h2, h3, h4, h5, h6, h7, h8⟩ => exact ⟨_, h8, fun K' q => ⟨h1, h2, h3, h4, h5, h6, h7, q⟩⟩
theorem am_sw_pt {v : Int32} {d : Nat} {ps : List (Int × Int)} : am_pt (fun J => am_sw v J d ps) := fun J h => by
  induction ps with
  | nil => exact ⟨d, h, fun J' q => q⟩
  | cons q r ih =>
    by_cases hv : v = Int32.ofInt q.1
    · exact ⟨_, h.1 hv, fun J' g => ⟨fun _ => g, fun n => absurd hv n⟩⟩
    · obtain ⟨t, a, b⟩ := ih (h.2 hv)
      exact ⟨t, a, fun J' g => ⟨fun n => absurd n hv, fun _ => b J' g⟩⟩
def am_Cdet (call : am_C) : Prop := ∀ j args h (Q : am_Q), call j args h Q → ∃ r h', Q r h' ∧ am_le h h' ∧ ∀ Q' : am_Q, Q' r h' → call j args h Q'
/-- the end that a state comes to -/
def am_end (Q : am_Q) (h : am_H) (F : am_Q → Prop) : Prop := ∃ r h', Q r h' ∧ am_le h h' ∧ ∀ Q' : am_Q, Q' r h' → F Q'
theorem am_end.by {Q : am_Q} {h h1 : am_H} {F F' : am_Q → Prop} (e : am_end Q h1 F) (l : am_le h h1) (g : ∀ Q', F Q' → F' Q') : am_end Q h F' := by
  obtain ⟨r, h', a, b, c⟩ := e
  exact ⟨r, h', a, am_le_tr l b, fun Q' q => g Q' (c Q' q)⟩
theorem am_end.pt {α : Type} {F : (α → Prop) → Prop} (hF : am_pt F) {K : α → Prop} (H : F K) {Q : am_Q} {h : am_H} {K' : am_Q → α → Prop} {G : am_Q → Prop} (e : ∀ v, K v → am_end Q h (fun Q' => K' Q' v)) (g : ∀ Q', F (K' Q') → G Q') : am_end Q h G := by
  obtain ⟨v, a, b⟩ := hF K H
  exact (e v a).by am_le_rf (fun Q' q => g Q' (b _ q))
theorem am_end.br {c A B : Prop} (H : (c → A) ∧ (¬ c → B)) {Q : am_Q} {h : am_H} {A' B' : am_Q → Prop} (ha : A → am_end Q h A') (hb : B → am_end Q h B') : am_end Q h (fun Q' => (c → A' Q') ∧ (¬ c → B' Q')) := by
  by_cases hc : c
  · exact (ha (H.1 hc)).by am_le_rf (fun _ q => ⟨fun _ => q, fun n => absurd hc n⟩)
  · exact (hb (H.2 hc)).by am_le_rf (fun _ q => ⟨fun n => absurd n hc, fun _ => q⟩)
set_option maxHeartbeats 4000000 in
theorem am_st_det {call : am_C} (hc : am_Cdet call) {J : Nat → am_K} {J' : am_Q → Nat → am_K} {Q : am_Q} (hJ : ∀ p ls st h, J p ls st h → am_end Q h (fun Q' => J' Q' p ls st h)) {i : Instr} {x : Nat} {ls st : List Value} {h : am_H} {K : am_K} {K' : am_Q → am_K} (hK : ∀ ls st h, K ls st h → am_end Q h (fun Q' => K' Q' ls st h)) (H : am_st call J Q i x ls st h K) : am_end Q h (fun Q' => am_st call (J' Q') Q' i x ls st h (K' Q')) := by
  unfold am_st at H ⊢
  split at H <;> first
    | exact hK _ _ _ H
    | exact (hK _ _ _ H.2).by am_le_rf (fun _ q => ⟨H.1, q⟩)
    | exact ⟨_, h, H, am_le_rf, fun _ q => q⟩
    | exact ⟨_, h, H.2, am_le_rf, fun _ q => ⟨H.1, q⟩⟩
    | exact hJ _ _ _ _ H
    | exact am_end.br H (fun q => hJ _ _ _ _ q) (fun q => hK _ _ _ q)
    | exact am_end.pt am_rI_pt H (fun _ q => hK _ _ _ q) (fun _ q => q)
    | exact am_end.pt am_rB_pt H (fun _ q => hK _ _ _ q) (fun _ q => q)
    | exact am_end.pt am_rJ_pt H (fun _ q => hK _ _ _ q) (fun _ q => q)
    | exact am_end.pt am_rR_pt H (fun _ q => hK _ _ _ q) (fun _ q => q)
    | exact am_end.pt am_wI_pt H.2 (fun _ q => (hK _ _ _ q).by am_le_set (fun _ z => z)) (fun _ q => ⟨H.1, q⟩)
    | exact am_end.pt am_wB_pt H.2 (fun _ q => (hK _ _ _ q).by am_le_set (fun _ z => z)) (fun _ q => ⟨H.1, q⟩)
    | exact am_end.pt am_wJ_pt H.2 (fun _ q => (hK _ _ _ q).by am_le_set (fun _ z => z)) (fun _ q => ⟨H.1, q⟩)
    | exact am_end.pt am_wR_pt H.2 (fun _ q => (hK _ _ _ q).by am_le_set (fun _ z => z)) (fun _ q => ⟨H.1, q⟩)
    | exact am_end.pt am_len_pt H (fun _ q => hK _ _ _ q) (fun _ q => q)
    | exact am_end.pt am_gf_pt H (fun _ q => hK _ _ _ q) (fun _ q => q)
    | exact am_end.pt am_pf_pt H.2 (fun _ q => (hK _ _ _ q).by am_le_set (fun _ z => z)) (fun _ q => ⟨H.1, q⟩)
    | exact am_end.pt am_pf_pt H.2.2 (fun _ q => (hK _ _ _ q).by am_le_set (fun _ z => z)) (fun _ q => ⟨H.1, H.2.1, q⟩)
    | exact (hK _ _ _ H).by am_le_new (fun _ q => q)
    | exact (hK _ _ _ H.2.2).by am_le_new (fun _ q => ⟨H.1, H.2.1, q⟩)
    | exact (hK _ _ _ H.2.2.2).by am_le_new (fun _ q => ⟨H.1, H.2.1, H.2.2.1, q⟩)
    | (obtain ⟨r, h1, a, b, g⟩ := hc _ _ _ _ H.2.2; exact (hK _ _ _ a).by b (fun _ q => ⟨H.1, H.2.1, g _ q⟩))
    | (obtain ⟨r, h1, a, b, g⟩ := hc _ _ _ _ H.2.2.2; exact (hK _ _ _ a).by b (fun _ q => ⟨H.1, H.2.1, H.2.2.1, g _ q⟩))
    | exact am_end.pt am_ac_pt H.2.2 (fun _ q => (hK _ _ _ q).by am_le_set (fun _ z => z)) (fun _ q => ⟨H.1, H.2.1, q⟩)
    | exact am_end.pt am_sl_pt H.2.2 (fun _ q => hK _ _ _ q) (fun _ q => ⟨H.1, H.2.1, q⟩)
    | exact am_end.pt am_sc_pt H.2.2 (fun _ q => hK _ _ _ q) (fun _ q => ⟨H.1, H.2.1, q⟩)
    | exact am_end.pt am_sw_pt H (fun _ q => hJ _ _ _ _ q) (fun _ q => q)
    | (split at H <;> first | exact hK _ _ _ H | exact (hK _ _ _ H.2).by am_le_rf (fun _ q => ⟨H.1, q⟩) | exact H.elim)
    | exact H.elim
theorem am_ex_det {call : am_C} (hc : am_Cdet call) {J : Nat → am_K} {J' : am_Q → Nat → am_K} {Q : am_Q} (hJ : ∀ p ls st h, J p ls st h → am_end Q h (fun Q' => J' Q' p ls st h)) {is : List am_I} : ∀ {ls st : List Value} {h : am_H}, am_ex call J Q is ls st h → am_end Q h (fun Q' => am_ex call (J' Q') Q' is ls st h) := by
  induction is with
  | nil => exact fun h => h.elim
  | cons q is ih => exact fun h => am_st_det hc hJ (fun _ _ _ g => ih g) h
theorem am_W_det {pr : Nat → Nat × (Nat → List am_I)} {d : Nat} {code : Nat → List am_I} (hc : am_Cdet (am_call pr d)) {Q : am_Q} {pc : Nat} {ls st : List Value} {h : am_H} (H : am_W code (am_call pr d) Q pc ls st h) : am_end Q h (fun Q' => am_W code (am_call pr d) Q' pc ls st h) :=
  H (fun pc ls st h => am_end Q h (fun Q' => am_W code (am_call pr d) Q' pc ls st h)) (fun pc ls st h g => (am_ex_det hc (J' := fun Q' => am_W code (am_call pr d) Q') (fun _ _ _ _ q => q) g).by am_le_rf (fun Q' q => am_fold0 rfl q))
theorem am_call_det (pr : Nat → Nat × (Nat → List am_I)) (d : Nat) : am_Cdet (am_call pr d) := by
  induction d with
  | zero => exact fun _ _ _ _ h => h.elim
  | succ d ih => exact fun _ _ _ _ h => (am_W_det ih h.2).by am_le_rf (fun _ q => ⟨h.1, q⟩)
