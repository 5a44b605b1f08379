/-! ===== the abstract machine: cells by relative addresses, wp-semantics of resolved bytecode ===== -/
abbrev am_E : Type := (Nat × List Value) ⊕ (Nat × (List Int32 ⊕ (List Int64 ⊕ List Value)))
abbrev am_H : Type := (Nat → am_E) × Nat × Nat
abbrev am_K : Type := List Value → List Value → am_H → Prop
abbrev am_Q : Type := Option Value → am_H → Prop
abbrev am_C : Type := Nat → List Value → am_H → am_Q → Prop
abbrev am_I : Type := Instr × Nat
abbrev am_dum : Value := .retAddr 0
/-- a cell of an object, of an int (byte, boolean) array, of a long array, of an array of references -/
abbrev aO (c : Nat) (fs : List Value) : am_E := .inl (c, fs)
abbrev aI (t : Nat) (xs : List Int32) : am_E := .inr (t, .inl xs)
abbrev aJ (xs : List Int64) : am_E := .inr (3, .inr (.inl xs))
abbrev aR (t : Nat) (xs : List Value) : am_E := .inr (t, .inr (.inr xs))
def am_set (h : am_H) (a : Nat) (c : am_E) : am_H := (fun b => if b = a then c else h.1 b, h.2)
def am_new (h : am_H) (c : am_E) (n : Nat) : am_H := (fun b => if b = h.2.1 then c else h.1 b, h.2.1 + 1, h.2.2 + n)
theorem am_set1 (h : am_H) (a b : Nat) (c : am_E) : (am_set h a c).1 b = if b = a then c else h.1 b := rfl
theorem am_set2 (h : am_H) (a : Nat) (c : am_E) : (am_set h a c).2 = h.2 := rfl
theorem am_new1 (h : am_H) (b : Nat) (c : am_E) (n : Nat) : (am_new h c n).1 b = if b = h.2.1 then c else h.1 b := rfl
theorem am_new2 (h : am_H) (c : am_E) (n : Nat) : (am_new h c n).2 = (h.2.1 + 1, h.2.2 + n) := rfl
theorem am_set_eq (h : am_H) (a : Nat) (c : am_E) : (am_set h a c).1 a = c := if_pos rfl
theorem am_set_ne (h : am_H) {a b : Nat} (c : am_E) (hn : b ≠ a) : (am_set h a c).1 b = h.1 b := if_neg hn
theorem am_set_set (h : am_H) (a : Nat) (c c' : am_E) : am_set (am_set h a c) a c' = am_set h a c' := by
  unfold am_set
  refine Prod.ext (funext fun b => ?_) rfl
  by_cases hb : b = a
  · simp [hb]
  · simp [hb]
theorem am_set_self (h : am_H) {a : Nat} {c : am_E} (hc : h.1 a = c) : am_set h a c = h := by
  unfold am_set
  refine Prod.ext (funext fun b => ?_) rfl
  by_cases hb : b = a
  · subst hb; simp [hc]
  · simp [hb]
theorem am_set_comm (h : am_H) {a b : Nat} (c c' : am_E) (hn : a ≠ b) : am_set (am_set h a c) b c' = am_set (am_set h b c') a c := by
  unfold am_set
  refine Prod.ext (funext fun q => ?_) rfl
  by_cases h1 : q = b
  · subst h1; simp [Ne.symm hn]
  · simp [h1]
/-- locals -/
def am_get : List Value → Nat → Value
  | [], _ => am_dum
  | v :: _, 0 => v
  | _ :: vs, n + 1 => am_get vs n
def am_nlg : Value → Value
  | .long _ => am_dum
  | .int x => .int x
  | .ref a => .ref a
  | .null => .null
  | .float x => .float x
  | .double _ => am_dum
  | .retAddr n => .retAddr n
def am_put : List Value → Nat → Value → List Value
  | [], _, _ => []
  | _ :: vs, 0, x => x :: vs
  | v :: vs, 1, x => am_nlg v :: am_put vs 0 x
  | v :: vs, n + 2, x => v :: am_put vs (n + 1) x
def am_putL : List Value → Nat → Value → List Value
  | [], _, _ => []
  | [_], 0, _ => [am_dum]
  | _ :: _ :: vs, 0, x => x :: am_dum :: vs
  | v :: vs, 1, x => am_nlg v :: am_putL vs 0 x
  | v :: vs, n + 2, x => v :: am_putL vs (n + 1) x
def am_ent : List Value → Nat → List Value
  | [], n => List.replicate n am_dum
  | _ :: _, 0 => []
  | .long x :: vs, 1 => [am_dum]
  | .long x :: vs, n + 2 => .long x :: am_dum :: am_ent vs n
  | .int x :: vs, n + 1 => .int x :: am_ent vs n
  | .ref x :: vs, n + 1 => .ref x :: am_ent vs n
  | .null :: vs, n + 1 => .null :: am_ent vs n
  | _ :: vs, n + 1 => am_dum :: am_ent vs n
/-- the words of a call's arguments -/
def am_sz : List Value → Nat
  | [] => 0
  | .long _ :: vs => 2 + am_sz vs
  | .int _ :: vs => 1 + am_sz vs
  | .ref _ :: vs => 1 + am_sz vs
  | .null :: vs => 1 + am_sz vs
  | _ :: _ => 1000
/-- at most eight words under a call's arguments -/
def am_d4 (st : List Value) : Prop := Nat.ble (am_sz st) 8 = true
/-- fields -/
def am_fld : List Value → Nat → (Value → Prop) → Prop
  | [], _, _ => False
  | v :: _, 0, K => K v
  | _ :: vs, n + 1, K => am_fld vs n K
def am_gf (c k : Nat) (K : Value → Prop) : am_E → Prop
  | .inl (c', fs) => c' = c ∧ am_fld fs k K
  | .inr _ => False
def am_pf (c k : Nat) (v : Value) (K : am_E → Prop) : am_E → Prop
  | .inl (c', fs) => c' = c ∧ k < fs.length ∧ K (.inl (c', fs.set k v))
  | .inr _ => False
/-- arrays -/
def am_rI (j : Int32) (K : Int32 → Prop) : am_E → Prop
  | .inr (t, .inl xs) => t = 2 ∧ vp_in j xs.length ∧ K (xs.getD j.toNatClampNeg 0)
  | _ => False
def am_rB (j : Int32) (K : Int32 → Prop) : am_E → Prop
  | .inr (t, .inl xs) => t < 2 ∧ vp_in j xs.length ∧ K (xs.getD j.toNatClampNeg 0)
  | _ => False
def am_rJ (j : Int32) (K : Int64 → Prop) : am_E → Prop
  | .inr (_, .inr (.inl xs)) => vp_in j xs.length ∧ K (xs.getD j.toNatClampNeg 0)
  | _ => False
def am_rR (j : Int32) (K : Value → Prop) : am_E → Prop
  | .inr (_, .inr (.inr xs)) => vp_in j xs.length ∧ K (xs.getD j.toNatClampNeg .null)
  | _ => False
def am_wI (j v : Int32) (K : am_E → Prop) : am_E → Prop
  | .inr (t, .inl xs) => t = 2 ∧ vp_in j xs.length ∧ K (.inr (t, .inl (xs.set j.toNatClampNeg v)))
  | _ => False
def am_wB (j v : Int32) (K : am_E → Prop) : am_E → Prop
  | .inr (t, .inl xs) => t < 2 ∧ vp_in j xs.length ∧ K (.inr (t, .inl (xs.set j.toNatClampNeg (if t = 0 then v &&& 1 else v.toInt8.toInt32))))
  | _ => False
def am_wJ (j : Int32) (v : Int64) (K : am_E → Prop) : am_E → Prop
  | .inr (t, .inr (.inl xs)) => vp_in j xs.length ∧ K (.inr (t, .inr (.inl (xs.set j.toNatClampNeg v))))
  | _ => False
/-- a reference into an array: its object is of the array's class, or null -/
def am_wR (j : Int32) (v : Value) (ok : Nat → Prop) (K : am_E → Prop) : am_E → Prop
  | .inr (t, .inr (.inr xs)) => vp_in j xs.length ∧ ok t ∧ K (.inr (t, .inr (.inr (xs.set j.toNatClampNeg v))))
  | _ => False
def am_isO (c : Nat) : am_E → Prop
  | .inl (c', _) => c' = c
  | .inr _ => False
/-- a call's receiver -/
def am_rcv (c : Nat) : List Value → am_H → Prop
  | .ref a :: _, h => am_isO c (h.1 a)
  | _, _ => False
def am_rc0 : List Value → Prop
  | .ref _ :: _ => True
  | _ => False
def am_bad : am_E := .inl (99, [])
def am_len (K : Nat → Prop) : am_E → Prop
  | .inr (t, .inl xs) => t < 3 ∧ xs.length < 2147483648 ∧ K xs.length
  | .inr (_, .inr (.inl xs)) => xs.length < 2147483648 ∧ K xs.length
  | .inr (_, .inr (.inr xs)) => xs.length < 2147483648 ∧ K xs.length
  | .inl _ => False
/-- System.arraycopy between two rows of one kind, not the same cell -/
def am_cpy {α : Type} (xs ys : List α) (i k n : Nat) : List α := ys.take k ++ (xs.drop i).take n ++ ys.drop (k + n)
def am_ac (i k n : Int32) (K : am_E → Prop) : am_E → am_E → Prop
  | .inr (t, .inl xs), .inr (t', .inl ys) => t = t' ∧ (t = 1 ∨ t = 2) ∧ 0 ≤ i.toInt ∧ 0 ≤ k.toInt ∧ 0 ≤ n.toInt ∧ i.toInt + n.toInt ≤ xs.length ∧ k.toInt + n.toInt ≤ ys.length ∧ K (.inr (t', .inl (am_cpy xs ys i.toNatClampNeg k.toNatClampNeg n.toNatClampNeg)))
  | .inr (t, .inr (.inl xs)), .inr (t', .inr (.inl ys)) => t = 3 ∧ t' = 3 ∧ 0 ≤ i.toInt ∧ 0 ≤ k.toInt ∧ 0 ≤ n.toInt ∧ i.toInt + n.toInt ≤ xs.length ∧ k.toInt + n.toInt ≤ ys.length ∧ K (.inr (t', .inr (.inl (am_cpy xs ys i.toNatClampNeg k.toNatClampNeg n.toNatClampNeg))))
  | _, _ => False
/-- a String constant is a row of signs of kind 9 -/
def am_sl (K : Nat → Prop) : am_E → Prop
  | .inr (t, .inl xs) => t = 9 ∧ xs.length < 2147483648 ∧ K xs.length
  | _ => False
def am_sc (j : Int32) (K : Int32 → Prop) : am_E → Prop
  | .inr (t, .inl xs) => t = 9 ∧ vp_in j xs.length ∧ K (xs.getD j.toNatClampNeg 0)
  | _ => False
def am_cmp : ClassFile.Cond → Int32 → Int32 → Prop
  | .eq, x, y => x = y
  | .ne, x, y => ¬ x = y
  | .lt, x, y => x < y
  | .ge, x, y => y ≤ x
  | .gt, x, y => y < x
  | .le, x, y => x ≤ y
def am_sw (v : Int32) (J : Nat → Prop) (d : Nat) : List (Int × Int) → Prop
  | [] => J d
  | q :: r => (v = Int32.ofInt q.1 → J q.2.toNat) ∧ (¬ v = Int32.ofInt q.1 → am_sw v J d r)
/-- a new object's fields -/
def am_dflt : Nat → List Value
  | 0 => [.null, .int 0, .null, .null, .int 0, .null, .null, .int 0]
  | 1 => [.int 0, .null, .null, .null, .null, .int 0, .int 0]
  | 2 => [.null, .int 0, .null, .int 0, .null, .null, .int 0, .int 0]
  | 3 => [.int 0, .int 0, .int 0, .int 0]
  | 4 => [.int 0, .null, .int 0, .int 0, .null]
  | 5 => [.null, .int 0, .int 0, .int 0, .int 0, .int 0, .int 0, .int 0, .int 0, .int 0, .int 0, .null, .null]
  | 6 => [.int 0, .int 0, .int 0, .int 0, .int 0, .int 0, .null, .null, .null]
  | 7 => [.int 0, .int 0, .int 0, .int 0, .int 0, .int 0, .null, .int 0, .int 0, .null, .null]
  | 8 => [.null, .null, .int 0, .null, .int 0]
  | 9 => [.null, .null, .null, .null, .null, .int 0]
  | 10 => [.null, .int 0]
  | 11 => [.null, .null, .null, .null, .null, .null, .null, .null, .null, .null, .null, .int 0, .null, .int 0]
  | 12 => [.int 0, .null, .null, .null, .null, .null, .null, .null, .int 0, .int 0, .null, .null, .null, .int 0, .int 0, .int 0, .int 0, .null, .int 0, .int 0, .int 0, .int 0, .int 0, .int 0, .null, .null, .null, .int 0, .null, .null, .null, .int 0, .null, .null, .null, .null, .null, .int 0, .int 0, .int 0, .null, .null, .null, .int 0, .int 0, .int 0, .int 0]
  | _ => []
def am_atag : ArrayType → Nat
  | .boolean => 0
  | .byte => 1
  | .int => 2
  | _ => 8
/-- one instruction, what goes on behind it: K (the next one), J (a jump), Q (the method's end) -/
def am_st (call : am_C) (J : Nat → am_K) (Q : am_Q) (i : Instr) (x : Nat) (ls st : List Value) (h : am_H) (K : am_K) : Prop :=
  match i, st with
  | .iconst v, st => K ls (.int (Int32.ofInt v) :: st) h
  | .bipush v, st => K ls (.long (Int64.ofInt v) :: st) h
  | .ldc n, st => K ls (.ref n :: st) h
  | .aconst_null, st => K ls (.null :: st) h
  | .iload n, st => match am_get ls n with
    | .int v => K ls (.int v :: st) h
    | _ => False
  | .lload n, st => match am_get ls n with
    | .long v => K ls (.long v :: st) h
    | _ => False
  | .aload n, st => match am_get ls n with
    | .ref a => K ls (.ref a :: st) h
    | .null => K ls (.null :: st) h
    | _ => False
  | .istore n, .int v :: st => n < ls.length ∧ K (am_put ls n (.int v)) st h
  | .lstore n, .long v :: st => n + 1 < ls.length ∧ K (am_putL ls n (.long v)) st h
  | .astore n, .ref a :: st => n < ls.length ∧ K (am_put ls n (.ref a)) st h
  | .astore n, .null :: st => n < ls.length ∧ K (am_put ls n .null) st h
  | .iinc n c, st => match am_get ls n with
    | .int v => n < ls.length ∧ K (am_put ls n (.int (v + Int32.ofInt c))) st h
    | _ => False
  | .dup, .int v :: st => K ls (.int v :: .int v :: st) h
  | .dup, .ref v :: st => K ls (.ref v :: .ref v :: st) h
  | .dup2, .long v :: st => K ls (.long v :: .long v :: st) h
  | .dup2, .int v :: .ref w :: st => K ls (.int v :: .ref w :: .int v :: .ref w :: st) h
  | .pop, .int _ :: st => K ls st h
  | .iadd, .int b :: .int a :: st => K ls (.int (a + b) :: st) h
  | .isub, .int b :: .int a :: st => K ls (.int (a - b) :: st) h
  | .imul, .int b :: .int a :: st => K ls (.int (a * b) :: st) h
  | .idiv, .int b :: .int a :: st => ¬ b = 0 ∧ K ls (.int (a / b) :: st) h
  | .irem, .int b :: .int a :: st => ¬ b = 0 ∧ K ls (.int (a - a / b * b) :: st) h
  | .dmul, .int b :: .int a :: st => am_d4 st ∧ K ls (.int (if a < b then b else a) :: st) h
  | .ddiv, .int b :: .int a :: st => am_d4 st ∧ K ls (.int (if b < a then b else a) :: st) h
  | .ineg, .int a :: st => K ls (.int (-a) :: st) h
  | .ishl, .int b :: .int a :: st => K ls (.int (a <<< (b &&& 31)) :: st) h
  | .ishr, .int b :: .int a :: st => K ls (.int (a >>> (b &&& 31)) :: st) h
  | .iushr, .int b :: .int a :: st => K ls (.int (a.toUInt32 >>> (b.toUInt32 &&& Int32.toUInt32 31)).toInt32 :: st) h
  | .iand, .int b :: .int a :: st => K ls (.int (a &&& b) :: st) h
  | .ior, .int b :: .int a :: st => K ls (.int (a ||| b) :: st) h
  | .ixor, .int b :: .int a :: st => K ls (.int (a ^^^ b) :: st) h
  | .ladd, .long b :: .long a :: st => K ls (.long (a + b) :: st) h
  | .lsub, .long b :: .long a :: st => K ls (.long (a - b) :: st) h
  | .lmul, .long b :: .long a :: st => K ls (.long (a * b) :: st) h
  | .lrem, .long b :: .long a :: st => ¬ b = 0 ∧ K ls (.long (a - a / b * b) :: st) h
  | .land, .long b :: .long a :: st => K ls (.long (a &&& b) :: st) h
  | .lor, .long b :: .long a :: st => K ls (.long (a ||| b) :: st) h
  | .lxor, .long b :: .long a :: st => K ls (.long (a ^^^ b) :: st) h
  | .lushr, .int b :: .long a :: st => K ls (.long (a.toUInt64 >>> (b.toInt64.toUInt64 &&& Int64.toUInt64 63)).toInt64 :: st) h
  | .lcmp, .long b :: .long a :: st => K ls (.int (lg_cmp a b) :: st) h
  | .i2b, .int a :: st => K ls (.int a.toInt8.toInt32 :: st) h
  | .i2c, .int a :: st => K ls (.int (a.toUInt32 % 65536).toInt32 :: st) h
  | .i2l, .int a :: st => K ls (.long a.toInt64 :: st) h
  | .l2i, .long a :: st => K ls (.int a.toInt32 :: st) h
  | .iaload, .int j :: .ref a :: st => am_rI j (fun v => K ls (.int v :: st) h) (h.1 a)
  | .baload, .int j :: .ref a :: st => am_rB j (fun v => K ls (.int v :: st) h) (h.1 a)
  | .laload, .int j :: .ref a :: st => am_rJ j (fun v => K ls (.long v :: st) h) (h.1 a)
  | .aaload, .int j :: .ref a :: st => am_rR j (fun v => K ls (v :: st) h) (h.1 a)
  | .iastore, .int v :: .int j :: .ref a :: st => 23 ≤ a ∧ am_wI j v (fun c => K ls st (am_set h a c)) (h.1 a)
  | .bastore, .int v :: .int j :: .ref a :: st => 23 ≤ a ∧ am_wB j v (fun c => K ls st (am_set h a c)) (h.1 a)
  | .lastore, .long v :: .int j :: .ref a :: st => 23 ≤ a ∧ am_wJ j v (fun c => K ls st (am_set h a c)) (h.1 a)
  | .aastore, .ref v :: .int j :: .ref a :: st => 23 ≤ a ∧ am_wR j (.ref v) (fun t => am_isO t (h.1 v)) (fun c => K ls st (am_set h a c)) (h.1 a)
  | .aastore, .null :: .int j :: .ref a :: st => 23 ≤ a ∧ am_wR j .null (fun _ => True) (fun c => K ls st (am_set h a c)) (h.1 a)
  | .arraylength, .ref a :: st => am_len (fun n => K ls (.int (nI n) :: st) h) (h.1 a)
  | .getfield c, .ref a :: st => am_gf c x (fun v => K ls (v :: st) h) (h.1 a)
  | .putfield c, .int v :: .ref a :: st => 23 ≤ a ∧ am_pf c x (.int v) (fun e => K ls st (am_set h a e)) (h.1 a)
  | .putstatic c, .int v :: .ref a :: st => (v = 0 ∨ v = 1) ∧ 23 ≤ a ∧ am_pf c x (.int v) (fun e => K ls st (am_set h a e)) (h.1 a)
  | .invokedynamic c, .ref v :: .ref a :: st => 23 ≤ a ∧ am_pf c x (.ref v) (fun e => K ls st (am_set h a e)) (h.1 a)
  | .invokedynamic c, .null :: .ref a :: st => 23 ≤ a ∧ am_pf c x .null (fun e => K ls st (am_set h a e)) (h.1 a)
  | .new c, st => K ls (.ref h.2.1 :: st) (am_new h (.inl (c, am_dflt c)) x)
  | .newarray .long, .int n :: st => ¬ n < 0 ∧ n.toNatClampNeg ≤ 65536 ∧ K ls (.ref h.2.1 :: st) (am_new h (aJ (List.replicate n.toNatClampNeg 0)) n.toNatClampNeg)
  | .newarray t, .int n :: st => am_atag t < 3 ∧ ¬ n < 0 ∧ n.toNatClampNeg ≤ 65536 ∧ K ls (.ref h.2.1 :: st) (am_new h (aI (am_atag t) (List.replicate n.toNatClampNeg 0)) n.toNatClampNeg)
  | .anewarray c, .int n :: st => ¬ n < 0 ∧ n.toNatClampNeg ≤ 65536 ∧ K ls (.ref h.2.1 :: st) (am_new h (aR c (List.replicate n.toNatClampNeg .null)) n.toNatClampNeg)
  | .invokestatic j, st => x ≤ st.length ∧ am_d4 (st.drop x) ∧ call j (st.take x).reverse h (fun r h' => K ls (r.toList ++ st.drop x) h')
  | .invokespecial j, st => x ≤ st.length ∧ am_d4 (st.drop x) ∧ am_rc0 (st.take x).reverse ∧ call j (st.take x).reverse h (fun r h' => K ls (r.toList ++ st.drop x) h')
  | .invokeinterface j c, st => x ≤ st.length ∧ am_d4 (st.drop x) ∧ am_rcv c (st.take x).reverse h ∧ call j (st.take x).reverse h (fun r h' => K ls (r.toList ++ st.drop x) h')
  | .monitorenter, .ref _ :: st => am_d4 st ∧ K ls st h
  | .monitorexit, .int n :: .int k :: .ref b :: .int j :: .ref a :: st => (23 ≤ a ∧ a ≠ b ∧ am_d4 st) ∧ 23 ≤ b ∧ am_ac j k n (fun c => K ls st (am_set h b c)) (h.1 a) (h.1 b)
  | .saload, .ref a :: st => a < 23 ∧ am_d4 st ∧ am_sl (fun n => K ls (.int (nI n) :: st) h) (h.1 a)
  | .caload, .int j :: .ref a :: st => a < 23 ∧ am_d4 st ∧ am_sc j (fun v => K ls (.int v :: st) h) (h.1 a)
  | .if_icmp c _, .int b :: .int a :: st => (am_cmp c a b → J x ls st h) ∧ (¬ am_cmp c a b → K ls st h)
  | .ifCond c _, .int a :: st => (am_cmp c a 0 → J x ls st h) ∧ (¬ am_cmp c a 0 → K ls st h)
  | .ifnull _, .ref _ :: st => K ls st h
  | .ifnull _, .null :: st => J x ls st h
  | .ifnonnull _, .ref _ :: st => J x ls st h
  | .ifnonnull _, .null :: st => K ls st h
  | .goto _, st => J x ls st h
  | .goto_w _, st => J x ls st h
  | .lookupswitch _ ps, .int v :: st => am_sw v (fun t => J t ls st h) x ps.toList
  | .ireturn, [.int v] => Q (some (.int v)) h
  | .freturn, [.int v] => (v = 0 ∨ v = 1) ∧ Q (some (.int v)) h
  | .lreturn, [.long v] => Q (some (.long v)) h
  | .areturn, [.ref a] => Q (some (.ref a)) h
  | .areturn, [.null] => Q (some .null) h
  | .return_, [] => Q none h
  | _, _ => False
/-- a block -/
def am_ex (call : am_C) (J : Nat → am_K) (Q : am_Q) : List am_I → List Value → List Value → am_H → Prop
  | [], _, _, _ => False
  | q :: is, ls, st, h => am_st call J Q q.1 q.2 ls st h (am_ex call J Q is)
/-- a method's body from a place on: the least predicate that its blocks close -/
def am_W (code : Nat → List am_I) (call : am_C) (Q : am_Q) (pc : Nat) : am_K := fun ls st h =>
  ∀ P : Nat → am_K, (∀ pc ls st h, am_ex call P Q (code pc) ls st h → P pc ls st h) → P pc ls st h
/-- a call, d deep at most -/
def am_call (pr : Nat → Nat × (Nat → List am_I)) : Nat → am_C
  | 0 => fun _ _ _ _ => False
  | d + 1 => fun j args h Q => Nat.ble (am_sz args) (pr j).1 = true ∧ am_W (pr j).2 (am_call pr d) Q 0 (am_ent args (pr j).1) [] h
