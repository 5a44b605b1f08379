/-! ===== a cell that nothing can touch may hold anything ===== -/
def jk : am_E := aI 99 []
section FRM
variable {q : Nat} {E : am_E}
def okq (q : Nat) (h : am_H) : Prop := h.1 q = jk ∧ q < h.2.1
theorem fr_ne {h : am_H} {a : Nat} {P : am_E → Prop} (o : okq q h) (H : P (h.1 a)) (n : ¬ P jk) : a ≠ q := fun z => by
  rw [z, o.1] at H
  exact n H
theorem fr_at {h : am_H} {a : Nat} (z : a ≠ q) : (am_set h q E).1 a = h.1 a := am_set_ne h E z
theorem fr_set {h : am_H} {a : Nat} {c : am_E} (z : a ≠ q) : am_set (am_set h q E) a c = am_set (am_set h a c) q E := am_set_comm h E c (fun e => z e.symm)
theorem ok_set {h : am_H} {a : Nat} {c : am_E} (o : okq q h) (z : a ≠ q) : okq q (am_set h a c) := ⟨by rw [am_set_ne h c (fun e => z e.symm)]; exact o.1, o.2⟩
theorem fr_new {h : am_H} {c : am_E} {n : Nat} (o : okq q h) : am_new (am_set h q E) c n = am_set (am_new h c n) q E := (nw_set o.2).symm
theorem ok_new {h : am_H} {c : am_E} {n : Nat} (o : okq q h) : okq q (am_new h c n) := ⟨by rw [nw_lo o.2]; exact o.1, Nat.lt_succ_of_lt o.2⟩
theorem jk_rI {j : Int32} {K : Int32 → Prop} : ¬ am_rI j K jk := fun z => absurd z.1 (by decide)
theorem jk_rB {j : Int32} {K : Int32 → Prop} : ¬ am_rB j K jk := fun z => absurd z.1 (by decide)
theorem jk_rJ {j : Int32} {K : Int64 → Prop} : ¬ am_rJ j K jk := fun z => z
theorem jk_rR {j : Int32} {K : Value → Prop} : ¬ am_rR j K jk := fun z => z
theorem jk_wI {j v : Int32} {K : am_E → Prop} : ¬ am_wI j v K jk := fun z => absurd z.1 (by decide)
theorem jk_wB {j v : Int32} {K : am_E → Prop} : ¬ am_wB j v K jk := fun z => absurd z.1 (by decide)
theorem jk_wJ {j : Int32} {v : Int64} {K : am_E → Prop} : ¬ am_wJ j v K jk := fun z => z
theorem jk_wR {j : Int32} {v : Value} {ok : Nat → Prop} {K : am_E → Prop} : ¬ am_wR j v ok K jk := fun z => z
theorem jk_len {K : Nat → Prop} : ¬ am_len K jk := fun z => absurd z.1 (by decide)
theorem jk_gf {c k : Nat} {K : Value → Prop} : ¬ am_gf c k K jk := fun z => z
theorem jk_pf {c k : Nat} {v : Value} {K : am_E → Prop} : ¬ am_pf c k v K jk := fun z => z
theorem jk_isO {c : Nat} : ¬ am_isO c jk := fun z => z
theorem jk_sl {K : Nat → Prop} : ¬ am_sl K jk := fun z => absurd z.1 (by decide)
theorem jk_sc {j : Int32} {K : Int32 → Prop} : ¬ am_sc j K jk := fun z => absurd z.1 (by decide)
theorem jk_ac1 {i k n : Int32} {K : am_E → Prop} {e : am_E} : ¬ am_ac i k n K jk e := fun z => by
  match e, z with
  | .inr (t', .inl ys), z => rcases z.2.1 with y | y <;> exact absurd y (by decide)
theorem jk_ac2 {i k n : Int32} {K : am_E → Prop} {e : am_E} : ¬ am_ac i k n K e jk := fun z => by
  match e, z with
  | .inr (t', .inl ys), z =>
    have e1 : t' = 99 := z.1
    rcases z.2.1 with y | y <;> rw [e1] at y <;> exact absurd y (by decide)
variable {h : am_H} {a : Nat}
theorem fr_rI {j : Int32} {K K' : Int32 → Prop} (o : okq q h) (H : am_rI j K (h.1 a)) (hK : ∀ v, K v → K' v) : am_rI j K' ((am_set h q E).1 a) := by
  rw [fr_at (fr_ne o H jk_rI)]; exact am_rI_mono hK H
theorem fr_rB {j : Int32} {K K' : Int32 → Prop} (o : okq q h) (H : am_rB j K (h.1 a)) (hK : ∀ v, K v → K' v) : am_rB j K' ((am_set h q E).1 a) := by
  rw [fr_at (fr_ne o H jk_rB)]; exact am_rB_mono hK H
theorem fr_rJ {j : Int32} {K K' : Int64 → Prop} (o : okq q h) (H : am_rJ j K (h.1 a)) (hK : ∀ v, K v → K' v) : am_rJ j K' ((am_set h q E).1 a) := by
  rw [fr_at (fr_ne o H jk_rJ)]; exact am_rJ_mono hK H
theorem fr_rR {j : Int32} {K K' : Value → Prop} (o : okq q h) (H : am_rR j K (h.1 a)) (hK : ∀ v, K v → K' v) : am_rR j K' ((am_set h q E).1 a) := by
  rw [fr_at (fr_ne o H jk_rR)]; exact am_rR_mono hK H
theorem fr_len {K K' : Nat → Prop} (o : okq q h) (H : am_len K (h.1 a)) (hK : ∀ v, K v → K' v) : am_len K' ((am_set h q E).1 a) := by
  rw [fr_at (fr_ne o H jk_len)]; exact am_len_mono hK H
theorem fr_gf {c k : Nat} {K K' : Value → Prop} (o : okq q h) (H : am_gf c k K (h.1 a)) (hK : ∀ v, K v → K' v) : am_gf c k K' ((am_set h q E).1 a) := by
  rw [fr_at (fr_ne o H jk_gf)]; exact am_gf_mono hK H
theorem fr_sl {K K' : Nat → Prop} (o : okq q h) (H : am_sl K (h.1 a)) (hK : ∀ v, K v → K' v) : am_sl K' ((am_set h q E).1 a) := by
  rw [fr_at (fr_ne o H jk_sl)]; exact am_sl_mono hK H
theorem fr_sc {j : Int32} {K K' : Int32 → Prop} (o : okq q h) (H : am_sc j K (h.1 a)) (hK : ∀ v, K v → K' v) : am_sc j K' ((am_set h q E).1 a) := by
  rw [fr_at (fr_ne o H jk_sc)]; exact am_sc_mono hK H
theorem fr_isO {c : Nat} (o : okq q h) (H : am_isO c (h.1 a)) : am_isO c ((am_set h q E).1 a) := by
  rw [fr_at (fr_ne o H jk_isO)]; exact H
/-- what comes behind a store -/
theorem fr_k {K K' : am_H → Prop} (o : okq q h) (z : a ≠ q) (hK : ∀ H, okq q H → K H → K' (am_set H q E)) : ∀ c, K (am_set h a c) → K' (am_set (am_set h q E) a c) := fun c k => by
  rw [fr_set z]; exact hK _ (ok_set o z) k
theorem fr_wI {j v : Int32} {K K' : am_H → Prop} (o : okq q h) (H : am_wI j v (fun c => K (am_set h a c)) (h.1 a)) (hK : ∀ H, okq q H → K H → K' (am_set H q E)) : am_wI j v (fun c => K' (am_set (am_set h q E) a c)) ((am_set h q E).1 a) := by
  have z := fr_ne o H jk_wI
  rw [fr_at z]; exact am_wI_mono (fr_k o z hK) H
theorem fr_wB {j v : Int32} {K K' : am_H → Prop} (o : okq q h) (H : am_wB j v (fun c => K (am_set h a c)) (h.1 a)) (hK : ∀ H, okq q H → K H → K' (am_set H q E)) : am_wB j v (fun c => K' (am_set (am_set h q E) a c)) ((am_set h q E).1 a) := by
  have z := fr_ne o H jk_wB
  rw [fr_at z]; exact am_wB_mono (fr_k o z hK) H
theorem fr_wJ {j : Int32} {v : Int64} {K K' : am_H → Prop} (o : okq q h) (H : am_wJ j v (fun c => K (am_set h a c)) (h.1 a)) (hK : ∀ H, okq q H → K H → K' (am_set H q E)) : am_wJ j v (fun c => K' (am_set (am_set h q E) a c)) ((am_set h q E).1 a) := by
  have z := fr_ne o H jk_wJ
  rw [fr_at z]; exact am_wJ_mono (fr_k o z hK) H
theorem wR_ok {j : Int32} {v : Value} {ok ok' : Nat → Prop} {K : am_E → Prop} {e : am_E} (g : ∀ t, ok t → ok' t) (H : am_wR j v ok K e) : am_wR j v ok' K e := by
  match e, H with
  | .inr (t, .inr (.inr xs)), H => exact ⟨H.1, g _ H.2.1, H.2.2⟩
theorem fr_wR {j : Int32} {v : Value} {ok ok' : Nat → Prop} {K K' : am_H → Prop} (o : okq q h) (H : am_wR j v ok (fun c => K (am_set h a c)) (h.1 a)) (g : ∀ t, ok t → ok' t) (hK : ∀ H, okq q H → K H → K' (am_set H q E)) : am_wR j v ok' (fun c => K' (am_set (am_set h q E) a c)) ((am_set h q E).1 a) := by
  have z := fr_ne o H jk_wR
  rw [fr_at z]; exact wR_ok g (am_wR_mono (fr_k o z hK) H)
theorem fr_pf {c k : Nat} {v : Value} {K K' : am_H → Prop} (o : okq q h) (H : am_pf c k v (fun c => K (am_set h a c)) (h.1 a)) (hK : ∀ H, okq q H → K H → K' (am_set H q E)) : am_pf c k v (fun c => K' (am_set (am_set h q E) a c)) ((am_set h q E).1 a) := by
  have z := fr_ne o H jk_pf
  rw [fr_at z]; exact am_pf_mono (fr_k o z hK) H
theorem fr_ac {i k n : Int32} {b : Nat} {K K' : am_H → Prop} (o : okq q h) (H : am_ac i k n (fun c => K (am_set h b c)) (h.1 a) (h.1 b)) (hK : ∀ H, okq q H → K H → K' (am_set H q E)) : am_ac i k n (fun c => K' (am_set (am_set h q E) b c)) ((am_set h q E).1 a) ((am_set h q E).1 b) := by
  have za : a ≠ q := fr_ne (P := fun e => am_ac i k n (fun c => K (am_set h b c)) e (h.1 b)) o H jk_ac1
  have zb : b ≠ q := fr_ne (P := fun e => am_ac i k n (fun c => K (am_set h b c)) (h.1 a) e) o H jk_ac2
  rw [fr_at za, fr_at zb]; exact am_ac_mono (fr_k o zb hK) H
theorem fr_rcv {c : Nat} {l : List Value} (o : okq q h) (H : am_rcv c l h) : am_rcv c l (am_set h q E) := by
  match l, H with
  | .ref a :: _, H => exact fr_isO o H
def am_Cfr (q : Nat) (E : am_E) (call : am_C) : Prop := ∀ j args h (Q Q' : am_Q), (∀ r h', okq q h' → Q r h' → Q' r (am_set h' q E)) → okq q h → call j args h Q → call j args (am_set h q E) Q'
set_option maxHeartbeats 4000000 in
theorem am_st_fr {call : am_C} (hc : am_Cfr q E call) {J J' : Nat → am_K} (hJ : ∀ p ls st h, okq q h → J p ls st h → J' p ls st (am_set h q E)) {Q Q' : am_Q} (hQ : ∀ r h, okq q h → Q r h → Q' r (am_set h q E)) {i : Instr} {x : Nat} {ls st : List Value} {K K' : am_K} (hK : ∀ ls st h, okq q h → K ls st h → K' ls st (am_set h q E)) (o : okq q h) (H : am_st call J Q i x ls st h K) : am_st call J' Q' i x ls st (am_set h q E) K' := by
  unfold am_st at H ⊢
  split at H <;> first
    | exact hK _ _ _ o H
    | exact ⟨H.1, hK _ _ _ o H.2⟩
    | exact hQ _ _ o H
    | exact ⟨H.1, hQ _ _ o H.2⟩
    | exact hJ _ _ _ _ o H
    | exact ⟨fun c => hJ _ _ _ _ o (H.1 c), fun c => hK _ _ _ o (H.2 c)⟩
    | exact fr_rI o H (fun _ k => hK _ _ _ o k)
    | exact fr_rB o H (fun _ k => hK _ _ _ o k)
    | exact fr_rJ o H (fun _ k => hK _ _ _ o k)
    | exact fr_rR o H (fun _ k => hK _ _ _ o k)
    | exact ⟨H.1, fr_wI (K := K _ _) (K' := K' _ _) o H.2 (fun _ p k => hK _ _ _ p k)⟩
    | exact ⟨H.1, fr_wB (K := K _ _) (K' := K' _ _) o H.2 (fun _ p k => hK _ _ _ p k)⟩
    | exact ⟨H.1, fr_wJ (K := K _ _) (K' := K' _ _) o H.2 (fun _ p k => hK _ _ _ p k)⟩
    | exact ⟨H.1, fr_wR (K := K _ _) (K' := K' _ _) o H.2 (fun _ k => fr_isO o k) (fun _ p k => hK _ _ _ p k)⟩
    | exact ⟨H.1, fr_wR (K := K _ _) (K' := K' _ _) o H.2 (fun _ k => k) (fun _ p k => hK _ _ _ p k)⟩
    | exact fr_len o H (fun _ k => hK _ _ _ o k)
    | exact fr_gf o H (fun _ k => hK _ _ _ o k)
    | exact ⟨H.1, fr_pf (K := K _ _) (K' := K' _ _) o H.2 (fun _ p k => hK _ _ _ p k)⟩
    | exact ⟨H.1, H.2.1, fr_pf (K := K _ _) (K' := K' _ _) o H.2.2 (fun _ p k => hK _ _ _ p k)⟩
    | (rw [fr_new o]; exact hK _ _ _ (ok_new o) H)
    | exact ⟨H.1, H.2.1, by rw [fr_new o]; exact hK _ _ _ (ok_new o) H.2.2⟩
    | exact ⟨H.1, H.2.1, H.2.2.1, by rw [fr_new o]; exact hK _ _ _ (ok_new o) H.2.2.2⟩
    | exact ⟨H.1, H.2.1, hc _ _ _ _ _ (fun _ _ p k => hK _ _ _ p k) o H.2.2⟩
    | exact ⟨H.1, H.2.1, H.2.2.1, hc _ _ _ _ _ (fun _ _ p k => hK _ _ _ p k) o H.2.2.2⟩
    | exact ⟨H.1, H.2.1, fr_rcv o H.2.2.1, hc _ _ _ _ _ (fun _ _ p k => hK _ _ _ p k) o H.2.2.2⟩
    | exact ⟨H.1, H.2.1, fr_ac (K := K _ _) (K' := K' _ _) o H.2.2 (fun _ p k => hK _ _ _ p k)⟩
    | exact ⟨H.1, H.2.1, fr_sl o H.2.2 (fun _ k => hK _ _ _ o k)⟩
    | exact ⟨H.1, H.2.1, fr_sc o H.2.2 (fun _ k => hK _ _ _ o k)⟩
    | exact am_sw_mono (fun _ k => hJ _ _ _ _ o k) H
    | (split at H <;> first | exact hK _ _ _ o H | exact ⟨H.1, hK _ _ _ o H.2⟩ | exact H)
    | exact H
theorem am_ex_fr {call : am_C} (hc : am_Cfr q E call) {J J' : Nat → am_K} (hJ : ∀ p ls st h, okq q h → J p ls st h → J' p ls st (am_set h q E)) {Q Q' : am_Q} (hQ : ∀ r h, okq q h → Q r h → Q' r (am_set h q E)) {is : List am_I} : ∀ {ls st : List Value} {h : am_H}, okq q h → am_ex call J Q is ls st h → am_ex call J' Q' is ls st (am_set h q E) := by
  induction is with
  | nil => exact fun _ h => h
  | cons q is ih => exact fun o h => am_st_fr hc hJ hQ (fun _ _ _ p g => ih p g) o h
theorem am_W_fr {pr : Nat → Nat × (Nat → List am_I)} {d : Nat} {code : Nat → List am_I} (hc : am_Cfr q E (am_call pr d)) {Q Q' : am_Q} (hQ : ∀ r h, okq q h → Q r h → Q' r (am_set h q E)) {pc : Nat} {ls st : List Value} {h : am_H} (o : okq q h) (H : am_W code (am_call pr d) Q pc ls st h) : am_W code (am_call pr d) Q' pc ls st (am_set h q E) :=
  H (fun pc ls st h => okq q h → am_W code (am_call pr d) Q' pc ls st (am_set h q E)) (fun pc ls st h g p => am_fold0 rfl (am_ex_fr hc (fun _ _ _ _ p z => z p) hQ p g)) o
theorem am_call_fr (pr : Nat → Nat × (Nat → List am_I)) (d : Nat) : am_Cfr q E (am_call pr d) := by
  induction d with
  | zero => exact fun _ _ _ _ _ _ _ h => h
  | succ d ih => exact fun _ _ _ _ _ hQ o h => ⟨h.1, am_W_fr ih hQ o h.2⟩
/-- a call that runs while cell q holds what nothing can touch, runs with anything in it -/
theorem am_cl_fr {d j : Nat} {args : List Value} {h : am_H} {Q : am_Q} (o : okq q h) (H : am_cl d j args h Q) : am_cl d j args (am_set h q E) (fun r h2 => ∃ h', okq q h' ∧ Q r h' ∧ h2 = am_set h' q E) :=
  am_call_fr am_pr d j args h Q _ (fun r h' p k => ⟨h', p, k, rfl⟩) o H
end FRM
