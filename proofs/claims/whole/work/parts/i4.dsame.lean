/-! ===== what is found depends on the slips and on what is told alone ===== -/
def Dsm (D D' : dT) : Prop := D'.1 = D.1 ∧ D'.2.2.2 = D.2.2.2 ∧ ∀ i, i < 12 → D'.2.1 i = D.2.1 i
theorem Dsm.rf {D : dT} : Dsm D D := ⟨rfl, rfl, fun _ _ => rfl⟩
theorem hz_cg {cs cs' : Nat → cT} {ex : Bool} {hp : Nat} : ∀ n, (∀ k, k < n → cs' k = cs k) → hz cs' ex hp n = hz cs ex hp n
  | 0, _ => rfl
  | n + 1, e => by
    show (if hp.testBit n then tellz (hz cs' ex hp n) (cs' n) ex else hz cs' ex hp n) = (if hp.testBit n then tellz (hz cs ex hp n) (cs n) ex else hz cs ex hp n)
    rw [hz_cg n (fun k hk => e k (by omega)), e n (by omega)]
theorem hzD_cg {D D' : dT} (s : Dsm D D') (hp : Nat) : hzD D' hp = hzD D hp := by
  unfold hzD
  rw [s.2.1]
  exact hz_cg 12 (fun k hk => by unfold csD; rw [s.2.2 k hk])
theorem lqF_cg {D D' : dT} (s : Dsm D D') (hp : Nat) : ∀ k, lqF D' hp k = lqF D hp k
  | 0 => by show qz (hzD D' hp) _ = qz (hzD D hp) _; rw [hzD_cg s]
  | k + 1 => by
    show (lqF D' hp k && (!hp.testBit k || !qz (hzD D' (clr hp k)) (fun _ => false))) = (lqF D hp k && (!hp.testBit k || !qz (hzD D (clr hp k)) (fun _ => false)))
    rw [lqF_cg s hp k, hzD_cg s]
theorem lq_cg {D D' : dT} (s : Dsm D D') (hp : Nat) : lq D' hp = lq D hp := by
  unfold lq
  rw [s.1, lqF_cg s]
theorem mkQ_cg {D D' : dT} (s : Dsm D D') (hp : Nat) : mkQ D' hp = mkQ D hp := by
  unfold mkQ
  rw [hzD_cg s, lq_cg s]
theorem cq_cg {D D' : dT} (s : Dsm D D') (k : Nat) : cq D' k = cq D k := by
  unfold cq
  rw [show (fun i => decide (0 < i) && lq D' i) = (fun i => decide (0 < i) && lq D i) from funext (fun i => by rw [lq_cg s])]
theorem caP_cg {D D' : dT} (s : Dsm D D') : caP D' = caP D := funext fun o => by
  unfold caP
  rw [s.1, hzD_cg s]
theorem CQg.cg {F F' : Nat → Nat → Int32} {D D' : dT} {L : Nat} {g : Nat → Int32} (s : Dsm D D') (h : CQg F D L g) (e1 : F' 61 = F 61) (e3 : F' 63 = F 63) : CQg F' D' L g := by
  unfold CQg at h ⊢
  rw [s.1, e1, e3, cq_cg s, caP_cg s]
  exact ⟨h.1, fun i hi => by rw [mkQ_cg s]; exact h.2.1 i hi, h.2.2⟩
theorem hasN_cg {D D' : dT} (s : Dsm D D') (x : Nat) : ∀ k, k ≤ 12 → hasN D' k x = hasN D k x
  | 0, _ => rfl
  | k + 1, hk => by
    unfold hasN
    rw [hasN_cg s x k (by omega), s.2.2 k (by omega)]
theorem rdD_cg {D D' : dT} (s : Dsm D D') (hn : D.1 ≤ 12) : rdD D' = rdD D := by
  unfold rdD
  rw [s.1, s.2.1]
  congr 1
  funext x
  unfold rd0
  rw [hasN_cg s x D.1 hn]
