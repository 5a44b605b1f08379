/-! ===== what is concluded is a number ===== -/
theorem fg_mid (s p t r : Fin 8) : s ≠ p → t ≠ r → ¬ fg s.val p.val t.val r.val = -1 → (if t.val = (if fg s.val p.val t.val r.val = 1 ∨ fg s.val p.val t.val r.val = 3 then s.val else p.val) then r.val else t.val) ≠ (if s.val = (if fg s.val p.val t.val r.val = 1 ∨ fg s.val p.val t.val r.val = 3 then s.val else p.val) then p.val else s.val) := by
  revert s p t r
  decide +kernel
theorem ot_ne {a b : Nat} (na : isNu a = true) (nb : isNu b = true) (q : ¬ fgN a b = -1) : otN b (mdN a b) ≠ otN a (mdN a b) :=
  fg_mid ⟨a / 8 % 8, Nat.mod_lt _ (by decide)⟩ ⟨a % 8, Nat.mod_lt _ (by decide)⟩ ⟨b / 8 % 8, Nat.mod_lt _ (by decide)⟩ ⟨b % 8, Nat.mod_lt _ (by decide)⟩ (fun e => isNu_ne na (congrArg Fin.val e)) (fun e => isNu_ne nb (congrArg Fin.val e)) q
theorem cdd_or {ex : Bool} {a b : Nat} (na : isNu a = true) (nb : isNu b = true) : cdd ex a b = -1 ∨ ∃ n, n < 256 ∧ isNu n = true ∧ cdd ex a b = nI n := by
  unfold cdd
  by_cases q : fgN a b = -1
  · rw [if_pos q]; exact Or.inl rfl
  · rw [if_neg q]
    rcases ccN_or (tbA (tbI a b)) (tbB (tbI a b)) ex with z | ⟨i, z1, z2⟩
    · have z3 : tbV ex (tbI a b) = -1 := z
      rw [if_pos z3]; exact Or.inl rfl
    · have z3 : tbV ex (tbI a b) = nI i := z2
      have hi : ¬ nI i = -1 := by rw [nI_neg1 (show i < 2147483648 by omega)]; exact not_false
      rw [z3, if_neg hi, nk_cl (show i < 2147483648 by omega)]
      obtain ⟨h1, h2⟩ := isNu_mk (k := i) (n := 64 * i + ccK a b) z1 (otN_lt b (mdN a b)) (otN_lt a (mdN a b)) (ot_ne na nb q) (by unfold ccK; omega)
      exact Or.inr ⟨_, h1, h2, rfl⟩
/-! one step of a sweep -/
def rOl (r : Nat → Int32) (rd : Int32) (x : Nat) : Bool := !decide (r x = -1) && !decide (r x = rd)
def stB (ex : Bool) (rd : Int32) (a b : Nat) (S : (Nat → Int32) × Bool) : (Nat → Int32) × Bool := if rOl S.1 rd b && !decide (cdd ex a b = -1) && decide (S.1 (cdd ex a b).toNatClampNeg = -1) then (upz S.1 (cdd ex a b).toNatClampNeg rd, true) else S
def swB (ex : Bool) (rd : Int32) (a : Nat) : Nat → Nat → (Nat → Int32) × Bool → (Nat → Int32) × Bool
  | 0, _, S => S
  | j + 1, b, S => swB ex rd a j (b + 1) (stB ex rd a b S)
