theorem cx_Integer_numberOfTrailingZeros {d : Nat} {args : List Value} {h : am_H} {Q : am_Q} : am_cl (d + 1) 0 args h Q = (Nat.ble (am_sz args) 2 = true ∧ am_ex (am_cl d) (am_W kc_Integer_numberOfTrailingZeros (am_cl d) Q) Q kb_Integer_numberOfTrailingZeros_0 (am_ent args 2) [] h) := am_clx rfl rfl
theorem jx_Integer_numberOfTrailingZeros_17 {d : Nat} {Q : am_Q} : am_W kc_Integer_numberOfTrailingZeros (am_cl d) Q 17 = am_ex (am_cl d) (am_W kc_Integer_numberOfTrailingZeros (am_cl d) Q) Q kb_Integer_numberOfTrailingZeros_17 := am_wx rfl
theorem jx_Integer_numberOfTrailingZeros_34 {d : Nat} {Q : am_Q} : am_W kc_Integer_numberOfTrailingZeros (am_cl d) Q 34 = am_ex (am_cl d) (am_W kc_Integer_numberOfTrailingZeros (am_cl d) Q) Q kb_Integer_numberOfTrailingZeros_34 := am_wx rfl
theorem jx_Integer_numberOfTrailingZeros_49 {d : Nat} {Q : am_Q} : am_W kc_Integer_numberOfTrailingZeros (am_cl d) Q 49 = am_ex (am_cl d) (am_W kc_Integer_numberOfTrailingZeros (am_cl d) Q) Q kb_Integer_numberOfTrailingZeros_49 := am_wx rfl
theorem jx_Integer_numberOfTrailingZeros_62 {d : Nat} {Q : am_Q} : am_W kc_Integer_numberOfTrailingZeros (am_cl d) Q 62 = am_ex (am_cl d) (am_W kc_Integer_numberOfTrailingZeros (am_cl d) Q) Q kb_Integer_numberOfTrailingZeros_62 := am_wx rfl
theorem jx_Integer_numberOfTrailingZeros_74 {d : Nat} {Q : am_Q} : am_W kc_Integer_numberOfTrailingZeros (am_cl d) Q 74 = am_ex (am_cl d) (am_W kc_Integer_numberOfTrailingZeros (am_cl d) Q) Q kb_Integer_numberOfTrailingZeros_74 := am_wx rfl
theorem cx_Integer_bitCount {d : Nat} {args : List Value} {h : am_H} {Q : am_Q} : am_cl (d + 1) 1 args h Q = (Nat.ble (am_sz args) 1 = true ∧ am_ex (am_cl d) (am_W kc_Integer_bitCount (am_cl d) Q) Q kb_Integer_bitCount_0 (am_ent args 1) [] h) := am_clx rfl rfl
theorem cx_Long_numberOfTrailingZeros {d : Nat} {args : List Value} {h : am_H} {Q : am_Q} : am_cl (d + 1) 2 args h Q = (Nat.ble (am_sz args) 3 = true ∧ am_ex (am_cl d) (am_W kc_Long_numberOfTrailingZeros (am_cl d) Q) Q kb_Long_numberOfTrailingZeros_0 (am_ent args 3) [] h) := am_clx rfl rfl
theorem jx_Long_numberOfTrailingZeros_21 {d : Nat} {Q : am_Q} : am_W kc_Long_numberOfTrailingZeros (am_cl d) Q 21 = am_ex (am_cl d) (am_W kc_Long_numberOfTrailingZeros (am_cl d) Q) Q kb_Long_numberOfTrailingZeros_21 := am_wx rfl
theorem jx_Long_numberOfTrailingZeros_25 {d : Nat} {Q : am_Q} : am_W kc_Long_numberOfTrailingZeros (am_cl d) Q 25 = am_ex (am_cl d) (am_W kc_Long_numberOfTrailingZeros (am_cl d) Q) Q kb_Long_numberOfTrailingZeros_25 := am_wx rfl
theorem cx_Long_bitCount {d : Nat} {args : List Value} {h : am_H} {Q : am_Q} : am_cl (d + 1) 3 args h Q = (Nat.ble (am_sz args) 2 = true ∧ am_ex (am_cl d) (am_W kc_Long_bitCount (am_cl d) Q) Q kb_Long_bitCount_0 (am_ent args 2) [] h) := am_clx rfl rfl
theorem cx_Arrays_fill_J {d : Nat} {args : List Value} {h : am_H} {Q : am_Q} : am_cl (d + 1) 4 args h Q = (Nat.ble (am_sz args) 5 = true ∧ am_ex (am_cl d) (am_W kc_Arrays_fill_J (am_cl d) Q) Q kb_Arrays_fill_J_0 (am_ent args 5) [] h) := am_clx rfl rfl
theorem jx_Arrays_fill_J_6 {d : Nat} {Q : am_Q} : am_W kc_Arrays_fill_J (am_cl d) Q 6 = am_ex (am_cl d) (am_W kc_Arrays_fill_J (am_cl d) Q) Q kb_Arrays_fill_J_6 := am_wx rfl
theorem jx_Arrays_fill_J_22 {d : Nat} {Q : am_Q} : am_W kc_Arrays_fill_J (am_cl d) Q 22 = am_ex (am_cl d) (am_W kc_Arrays_fill_J (am_cl d) Q) Q kb_Arrays_fill_J_22 := am_wx rfl
theorem cx_Arrays_fill_I {d : Nat} {args : List Value} {h : am_H} {Q : am_Q} : am_cl (d + 1) 5 args h Q = (Nat.ble (am_sz args) 4 = true ∧ am_ex (am_cl d) (am_W kc_Arrays_fill_I (am_cl d) Q) Q kb_Arrays_fill_I_0 (am_ent args 4) [] h) := am_clx rfl rfl
theorem jx_Arrays_fill_I_5 {d : Nat} {Q : am_Q} : am_W kc_Arrays_fill_I (am_cl d) Q 5 = am_ex (am_cl d) (am_W kc_Arrays_fill_I (am_cl d) Q) Q kb_Arrays_fill_I_5 := am_wx rfl
theorem jx_Arrays_fill_I_20 {d : Nat} {Q : am_Q} : am_W kc_Arrays_fill_I (am_cl d) Q 20 = am_ex (am_cl d) (am_W kc_Arrays_fill_I (am_cl d) Q) Q kb_Arrays_fill_I_20 := am_wx rfl
theorem cx_Arrays_fill_B {d : Nat} {args : List Value} {h : am_H} {Q : am_Q} : am_cl (d + 1) 6 args h Q = (Nat.ble (am_sz args) 4 = true ∧ am_ex (am_cl d) (am_W kc_Arrays_fill_B (am_cl d) Q) Q kb_Arrays_fill_B_0 (am_ent args 4) [] h) := am_clx rfl rfl
theorem jx_Arrays_fill_B_5 {d : Nat} {Q : am_Q} : am_W kc_Arrays_fill_B (am_cl d) Q 5 = am_ex (am_cl d) (am_W kc_Arrays_fill_B (am_cl d) Q) Q kb_Arrays_fill_B_5 := am_wx rfl
theorem jx_Arrays_fill_B_20 {d : Nat} {Q : am_Q} : am_W kc_Arrays_fill_B (am_cl d) Q 20 = am_ex (am_cl d) (am_W kc_Arrays_fill_B (am_cl d) Q) Q kb_Arrays_fill_B_20 := am_wx rfl
theorem cx_Arrays_copyOf {d : Nat} {args : List Value} {h : am_H} {Q : am_Q} : am_cl (d + 1) 7 args h Q = (Nat.ble (am_sz args) 3 = true ∧ am_ex (am_cl d) (am_W kc_Arrays_copyOf (am_cl d) Q) Q kb_Arrays_copyOf_0 (am_ent args 3) [] h) := am_clx rfl rfl
theorem jx_Arrays_copyOf_14 {d : Nat} {Q : am_Q} : am_W kc_Arrays_copyOf (am_cl d) Q 14 = am_ex (am_cl d) (am_W kc_Arrays_copyOf (am_cl d) Q) Q kb_Arrays_copyOf_14 := am_wx rfl
theorem cx_Slips_init {d : Nat} {args : List Value} {h : am_H} {Q : am_Q} : am_cl (d + 1) 8 args h Q = (Nat.ble (am_sz args) 1 = true ∧ am_ex (am_cl d) (am_W kc_Slips_init (am_cl d) Q) Q kb_Slips_init_0 (am_ent args 1) [] h) := am_clx rfl rfl
theorem cx_Slips_feed {d : Nat} {args : List Value} {h : am_H} {Q : am_Q} : am_cl (d + 1) 9 args h Q = (Nat.ble (am_sz args) 6 = true ∧ am_ex (am_cl d) (am_W kc_Slips_feed (am_cl d) Q) Q kb_Slips_feed_0 (am_ent args 6) [] h) := am_clx rfl rfl
theorem jx_Slips_feed_18 {d : Nat} {Q : am_Q} : am_W kc_Slips_feed (am_cl d) Q 18 = am_ex (am_cl d) (am_W kc_Slips_feed (am_cl d) Q) Q kb_Slips_feed_18 := am_wx rfl
theorem cx_Slips_end {d : Nat} {args : List Value} {h : am_H} {Q : am_Q} : am_cl (d + 1) 10 args h Q = (Nat.ble (am_sz args) 2 = true ∧ am_ex (am_cl d) (am_W kc_Slips_end (am_cl d) Q) Q kb_Slips_end_0 (am_ent args 2) [] h) := am_clx rfl rfl
theorem jx_Slips_end_15 {d : Nat} {Q : am_Q} : am_W kc_Slips_end (am_cl d) Q 15 = am_ex (am_cl d) (am_W kc_Slips_end (am_cl d) Q) Q kb_Slips_end_15 := am_wx rfl
theorem jx_Slips_end_17 {d : Nat} {Q : am_Q} : am_W kc_Slips_end (am_cl d) Q 17 = am_ex (am_cl d) (am_W kc_Slips_end (am_cl d) Q) Q kb_Slips_end_17 := am_wx rfl
theorem cx_Slips_slip {d : Nat} {args : List Value} {h : am_H} {Q : am_Q} : am_cl (d + 1) 11 args h Q = (Nat.ble (am_sz args) 3 = true ∧ am_ex (am_cl d) (am_W kc_Slips_slip (am_cl d) Q) Q kb_Slips_slip_0 (am_ent args 3) [] h) := am_clx rfl rfl
theorem jx_Slips_slip_27 {d : Nat} {Q : am_Q} : am_W kc_Slips_slip (am_cl d) Q 27 = am_ex (am_cl d) (am_W kc_Slips_slip (am_cl d) Q) Q kb_Slips_slip_27 := am_wx rfl
theorem jx_Slips_slip_46 {d : Nat} {Q : am_Q} : am_W kc_Slips_slip (am_cl d) Q 46 = am_ex (am_cl d) (am_W kc_Slips_slip (am_cl d) Q) Q kb_Slips_slip_46 := am_wx rfl
theorem cx_Slips_question {d : Nat} {args : List Value} {h : am_H} {Q : am_Q} : am_cl (d + 1) 12 args h Q = (Nat.ble (am_sz args) 2 = true ∧ am_ex (am_cl d) (am_W kc_Slips_question (am_cl d) Q) Q kb_Slips_question_0 (am_ent args 2) [] h) := am_clx rfl rfl
theorem jx_Slips_question_19 {d : Nat} {Q : am_Q} : am_W kc_Slips_question (am_cl d) Q 19 = am_ex (am_cl d) (am_W kc_Slips_question (am_cl d) Q) Q kb_Slips_question_19 := am_wx rfl
theorem cx_Slips_fault {d : Nat} {args : List Value} {h : am_H} {Q : am_Q} : am_cl (d + 1) 13 args h Q = (Nat.ble (am_sz args) 1 = true ∧ am_ex (am_cl d) (am_W kc_Slips_fault (am_cl d) Q) Q kb_Slips_fault_0 (am_ent args 1) [] h) := am_clx rfl rfl
theorem cx_Slips_ask {d : Nat} {args : List Value} {h : am_H} {Q : am_Q} : am_cl (d + 1) 14 args h Q = (Nat.ble (am_sz args) 2 = true ∧ am_ex (am_cl d) (am_W kc_Slips_ask (am_cl d) Q) Q kb_Slips_ask_0 (am_ent args 2) [] h) := am_clx rfl rfl
theorem cx_Slips_write {d : Nat} {args : List Value} {h : am_H} {Q : am_Q} : am_cl (d + 1) 15 args h Q = (Nat.ble (am_sz args) 2 = true ∧ am_ex (am_cl d) (am_W kc_Slips_write (am_cl d) Q) Q kb_Slips_write_0 (am_ent args 2) [] h) := am_clx rfl rfl
theorem jx_Slips_write_15 {d : Nat} {Q : am_Q} : am_W kc_Slips_write (am_cl d) Q 15 = am_ex (am_cl d) (am_W kc_Slips_write (am_cl d) Q) Q kb_Slips_write_15 := am_wx rfl
theorem jx_Slips_write_22 {d : Nat} {Q : am_Q} : am_W kc_Slips_write (am_cl d) Q 22 = am_ex (am_cl d) (am_W kc_Slips_write (am_cl d) Q) Q kb_Slips_write_22 := am_wx rfl
theorem jx_Slips_write_39 {d : Nat} {Q : am_Q} : am_W kc_Slips_write (am_cl d) Q 39 = am_ex (am_cl d) (am_W kc_Slips_write (am_cl d) Q) Q kb_Slips_write_39 := am_wx rfl
theorem cx_Slips_take {d : Nat} {args : List Value} {h : am_H} {Q : am_Q} : am_cl (d + 1) 16 args h Q = (Nat.ble (am_sz args) 3 = true ∧ am_ex (am_cl d) (am_W kc_Slips_take (am_cl d) Q) Q kb_Slips_take_0 (am_ent args 3) [] h) := am_clx rfl rfl
theorem jx_Slips_take_20 {d : Nat} {Q : am_Q} : am_W kc_Slips_take (am_cl d) Q 20 = am_ex (am_cl d) (am_W kc_Slips_take (am_cl d) Q) Q kb_Slips_take_20 := am_wx rfl
theorem cx_Slips_existence {d : Nat} {args : List Value} {h : am_H} {Q : am_Q} : am_cl (d + 1) 17 args h Q = (Nat.ble (am_sz args) 3 = true ∧ am_ex (am_cl d) (am_W kc_Slips_existence (am_cl d) Q) Q kb_Slips_existence_0 (am_ent args 3) [] h) := am_clx rfl rfl
theorem jx_Slips_existence_15 {d : Nat} {Q : am_Q} : am_W kc_Slips_existence (am_cl d) Q 15 = am_ex (am_cl d) (am_W kc_Slips_existence (am_cl d) Q) Q kb_Slips_existence_15 := am_wx rfl
theorem jx_Slips_existence_29 {d : Nat} {Q : am_Q} : am_W kc_Slips_existence (am_cl d) Q 29 = am_ex (am_cl d) (am_W kc_Slips_existence (am_cl d) Q) Q kb_Slips_existence_29 := am_wx rfl
theorem jx_Slips_existence_30 {d : Nat} {Q : am_Q} : am_W kc_Slips_existence (am_cl d) Q 30 = am_ex (am_cl d) (am_W kc_Slips_existence (am_cl d) Q) Q kb_Slips_existence_30 := am_wx rfl
theorem jx_Slips_existence_44 {d : Nat} {Q : am_Q} : am_W kc_Slips_existence (am_cl d) Q 44 = am_ex (am_cl d) (am_W kc_Slips_existence (am_cl d) Q) Q kb_Slips_existence_44 := am_wx rfl
theorem jx_Slips_existence_45 {d : Nat} {Q : am_Q} : am_W kc_Slips_existence (am_cl d) Q 45 = am_ex (am_cl d) (am_W kc_Slips_existence (am_cl d) Q) Q kb_Slips_existence_45 := am_wx rfl
theorem jx_Slips_existence_57 {d : Nat} {Q : am_Q} : am_W kc_Slips_existence (am_cl d) Q 57 = am_ex (am_cl d) (am_W kc_Slips_existence (am_cl d) Q) Q kb_Slips_existence_57 := am_wx rfl
theorem cx_Slips_of {d : Nat} {args : List Value} {h : am_H} {Q : am_Q} : am_cl (d + 1) 18 args h Q = (Nat.ble (am_sz args) 4 = true ∧ am_ex (am_cl d) (am_W kc_Slips_of (am_cl d) Q) Q kb_Slips_of_0 (am_ent args 4) [] h) := am_clx rfl rfl
theorem jx_Slips_of_15 {d : Nat} {Q : am_Q} : am_W kc_Slips_of (am_cl d) Q 15 = am_ex (am_cl d) (am_W kc_Slips_of (am_cl d) Q) Q kb_Slips_of_15 := am_wx rfl
theorem jx_Slips_of_56 {d : Nat} {Q : am_Q} : am_W kc_Slips_of (am_cl d) Q 56 = am_ex (am_cl d) (am_W kc_Slips_of (am_cl d) Q) Q kb_Slips_of_56 := am_wx rfl
theorem jx_Slips_of_61 {d : Nat} {Q : am_Q} : am_W kc_Slips_of (am_cl d) Q 61 = am_ex (am_cl d) (am_W kc_Slips_of (am_cl d) Q) Q kb_Slips_of_61 := am_wx rfl
theorem jx_Slips_of_66 {d : Nat} {Q : am_Q} : am_W kc_Slips_of (am_cl d) Q 66 = am_ex (am_cl d) (am_W kc_Slips_of (am_cl d) Q) Q kb_Slips_of_66 := am_wx rfl
theorem jx_Slips_of_71 {d : Nat} {Q : am_Q} : am_W kc_Slips_of (am_cl d) Q 71 = am_ex (am_cl d) (am_W kc_Slips_of (am_cl d) Q) Q kb_Slips_of_71 := am_wx rfl
theorem jx_Slips_of_76 {d : Nat} {Q : am_Q} : am_W kc_Slips_of (am_cl d) Q 76 = am_ex (am_cl d) (am_W kc_Slips_of (am_cl d) Q) Q kb_Slips_of_76 := am_wx rfl
theorem jx_Slips_of_81 {d : Nat} {Q : am_Q} : am_W kc_Slips_of (am_cl d) Q 81 = am_ex (am_cl d) (am_W kc_Slips_of (am_cl d) Q) Q kb_Slips_of_81 := am_wx rfl
theorem jx_Slips_of_89 {d : Nat} {Q : am_Q} : am_W kc_Slips_of (am_cl d) Q 89 = am_ex (am_cl d) (am_W kc_Slips_of (am_cl d) Q) Q kb_Slips_of_89 := am_wx rfl
theorem cx_Slips_has {d : Nat} {args : List Value} {h : am_H} {Q : am_Q} : am_cl (d + 1) 19 args h Q = (Nat.ble (am_sz args) 4 = true ∧ am_ex (am_cl d) (am_W kc_Slips_has (am_cl d) Q) Q kb_Slips_has_0 (am_ent args 4) [] h) := am_clx rfl rfl
theorem jx_Slips_has_24 {d : Nat} {Q : am_Q} : am_W kc_Slips_has (am_cl d) Q 24 = am_ex (am_cl d) (am_W kc_Slips_has (am_cl d) Q) Q kb_Slips_has_24 := am_wx rfl
theorem jx_Slips_has_26 {d : Nat} {Q : am_Q} : am_W kc_Slips_has (am_cl d) Q 26 = am_ex (am_cl d) (am_W kc_Slips_has (am_cl d) Q) Q kb_Slips_has_26 := am_wx rfl
theorem jx_Slips_has_41 {d : Nat} {Q : am_Q} : am_W kc_Slips_has (am_cl d) Q 41 = am_ex (am_cl d) (am_W kc_Slips_has (am_cl d) Q) Q kb_Slips_has_41 := am_wx rfl
theorem jx_Slips_has_42 {d : Nat} {Q : am_Q} : am_W kc_Slips_has (am_cl d) Q 42 = am_ex (am_cl d) (am_W kc_Slips_has (am_cl d) Q) Q kb_Slips_has_42 := am_wx rfl
theorem cx_Slips_letter {d : Nat} {args : List Value} {h : am_H} {Q : am_Q} : am_cl (d + 1) 20 args h Q = (Nat.ble (am_sz args) 4 = true ∧ am_ex (am_cl d) (am_W kc_Slips_letter (am_cl d) Q) Q kb_Slips_letter_0 (am_ent args 4) [] h) := am_clx rfl rfl
theorem jx_Slips_letter_15 {d : Nat} {Q : am_Q} : am_W kc_Slips_letter (am_cl d) Q 15 = am_ex (am_cl d) (am_W kc_Slips_letter (am_cl d) Q) Q kb_Slips_letter_15 := am_wx rfl
theorem jx_Slips_letter_26 {d : Nat} {Q : am_Q} : am_W kc_Slips_letter (am_cl d) Q 26 = am_ex (am_cl d) (am_W kc_Slips_letter (am_cl d) Q) Q kb_Slips_letter_26 := am_wx rfl
theorem jx_Slips_letter_48 {d : Nat} {Q : am_Q} : am_W kc_Slips_letter (am_cl d) Q 48 = am_ex (am_cl d) (am_W kc_Slips_letter (am_cl d) Q) Q kb_Slips_letter_48 := am_wx rfl
theorem jx_Slips_letter_49 {d : Nat} {Q : am_Q} : am_W kc_Slips_letter (am_cl d) Q 49 = am_ex (am_cl d) (am_W kc_Slips_letter (am_cl d) Q) Q kb_Slips_letter_49 := am_wx rfl
theorem cx_Slips_quarrels {d : Nat} {args : List Value} {h : am_H} {Q : am_Q} : am_cl (d + 1) 21 args h Q = (Nat.ble (am_sz args) 2 = true ∧ am_ex (am_cl d) (am_W kc_Slips_quarrels (am_cl d) Q) Q kb_Slips_quarrels_0 (am_ent args 2) [] h) := am_clx rfl rfl
theorem jx_Slips_quarrels_13 {d : Nat} {Q : am_Q} : am_W kc_Slips_quarrels (am_cl d) Q 13 = am_ex (am_cl d) (am_W kc_Slips_quarrels (am_cl d) Q) Q kb_Slips_quarrels_13 := am_wx rfl
theorem jx_Slips_quarrels_32 {d : Nat} {Q : am_Q} : am_W kc_Slips_quarrels (am_cl d) Q 32 = am_ex (am_cl d) (am_W kc_Slips_quarrels (am_cl d) Q) Q kb_Slips_quarrels_32 := am_wx rfl
theorem jx_Slips_quarrels_33 {d : Nat} {Q : am_Q} : am_W kc_Slips_quarrels (am_cl d) Q 33 = am_ex (am_cl d) (am_W kc_Slips_quarrels (am_cl d) Q) Q kb_Slips_quarrels_33 := am_wx rfl
theorem cx_Slips_follows {d : Nat} {args : List Value} {h : am_H} {Q : am_Q} : am_cl (d + 1) 22 args h Q = (Nat.ble (am_sz args) 3 = true ∧ am_ex (am_cl d) (am_W kc_Slips_follows (am_cl d) Q) Q kb_Slips_follows_0 (am_ent args 3) [] h) := am_clx rfl rfl
theorem jx_Slips_follows_23 {d : Nat} {Q : am_Q} : am_W kc_Slips_follows (am_cl d) Q 23 = am_ex (am_cl d) (am_W kc_Slips_follows (am_cl d) Q) Q kb_Slips_follows_23 := am_wx rfl
theorem jx_Slips_follows_25 {d : Nat} {Q : am_Q} : am_W kc_Slips_follows (am_cl d) Q 25 = am_ex (am_cl d) (am_W kc_Slips_follows (am_cl d) Q) Q kb_Slips_follows_25 := am_wx rfl
theorem jx_Slips_follows_52 {d : Nat} {Q : am_Q} : am_W kc_Slips_follows (am_cl d) Q 52 = am_ex (am_cl d) (am_W kc_Slips_follows (am_cl d) Q) Q kb_Slips_follows_52 := am_wx rfl
theorem jx_Slips_follows_53 {d : Nat} {Q : am_Q} : am_W kc_Slips_follows (am_cl d) Q 53 = am_ex (am_cl d) (am_W kc_Slips_follows (am_cl d) Q) Q kb_Slips_follows_53 := am_wx rfl
theorem cx_Slips_denied {d : Nat} {args : List Value} {h : am_H} {Q : am_Q} : am_cl (d + 1) 23 args h Q = (Nat.ble (am_sz args) 3 = true ∧ am_ex (am_cl d) (am_W kc_Slips_denied (am_cl d) Q) Q kb_Slips_denied_0 (am_ent args 3) [] h) := am_clx rfl rfl
theorem jx_Slips_denied_23 {d : Nat} {Q : am_Q} : am_W kc_Slips_denied (am_cl d) Q 23 = am_ex (am_cl d) (am_W kc_Slips_denied (am_cl d) Q) Q kb_Slips_denied_23 := am_wx rfl
theorem jx_Slips_denied_25 {d : Nat} {Q : am_Q} : am_W kc_Slips_denied (am_cl d) Q 25 = am_ex (am_cl d) (am_W kc_Slips_denied (am_cl d) Q) Q kb_Slips_denied_25 := am_wx rfl
theorem jx_Slips_denied_52 {d : Nat} {Q : am_Q} : am_W kc_Slips_denied (am_cl d) Q 52 = am_ex (am_cl d) (am_W kc_Slips_denied (am_cl d) Q) Q kb_Slips_denied_52 := am_wx rfl
theorem jx_Slips_denied_53 {d : Nat} {Q : am_Q} : am_W kc_Slips_denied (am_cl d) Q 53 = am_ex (am_cl d) (am_W kc_Slips_denied (am_cl d) Q) Q kb_Slips_denied_53 := am_wx rfl
theorem cx_Slips_open {d : Nat} {args : List Value} {h : am_H} {Q : am_Q} : am_cl (d + 1) 24 args h Q = (Nat.ble (am_sz args) 2 = true ∧ am_ex (am_cl d) (am_W kc_Slips_open (am_cl d) Q) Q kb_Slips_open_0 (am_ent args 2) [] h) := am_clx rfl rfl
theorem jx_Slips_open_13 {d : Nat} {Q : am_Q} : am_W kc_Slips_open (am_cl d) Q 13 = am_ex (am_cl d) (am_W kc_Slips_open (am_cl d) Q) Q kb_Slips_open_13 := am_wx rfl
theorem cx_Slips_idle {d : Nat} {args : List Value} {h : am_H} {Q : am_Q} : am_cl (d + 1) 25 args h Q = (Nat.ble (am_sz args) 6 = true ∧ am_ex (am_cl d) (am_W kc_Slips_idle (am_cl d) Q) Q kb_Slips_idle_0 (am_ent args 6) [] h) := am_clx rfl rfl
theorem jx_Slips_idle_13 {d : Nat} {Q : am_Q} : am_W kc_Slips_idle (am_cl d) Q 13 = am_ex (am_cl d) (am_W kc_Slips_idle (am_cl d) Q) Q kb_Slips_idle_13 := am_wx rfl
theorem jx_Slips_idle_17 {d : Nat} {Q : am_Q} : am_W kc_Slips_idle (am_cl d) Q 17 = am_ex (am_cl d) (am_W kc_Slips_idle (am_cl d) Q) Q kb_Slips_idle_17 := am_wx rfl
theorem jx_Slips_idle_59 {d : Nat} {Q : am_Q} : am_W kc_Slips_idle (am_cl d) Q 59 = am_ex (am_cl d) (am_W kc_Slips_idle (am_cl d) Q) Q kb_Slips_idle_59 := am_wx rfl
theorem jx_Slips_idle_93 {d : Nat} {Q : am_Q} : am_W kc_Slips_idle (am_cl d) Q 93 = am_ex (am_cl d) (am_W kc_Slips_idle (am_cl d) Q) Q kb_Slips_idle_93 := am_wx rfl
theorem jx_Slips_idle_99 {d : Nat} {Q : am_Q} : am_W kc_Slips_idle (am_cl d) Q 99 = am_ex (am_cl d) (am_W kc_Slips_idle (am_cl d) Q) Q kb_Slips_idle_99 := am_wx rfl
theorem cx_Slips_assume {d : Nat} {args : List Value} {h : am_H} {Q : am_Q} : am_cl (d + 1) 26 args h Q = (Nat.ble (am_sz args) 4 = true ∧ am_ex (am_cl d) (am_W kc_Slips_assume (am_cl d) Q) Q kb_Slips_assume_0 (am_ent args 4) [] h) := am_clx rfl rfl
theorem jx_Slips_assume_9 {d : Nat} {Q : am_Q} : am_W kc_Slips_assume (am_cl d) Q 9 = am_ex (am_cl d) (am_W kc_Slips_assume (am_cl d) Q) Q kb_Slips_assume_9 := am_wx rfl
theorem jx_Slips_assume_57 {d : Nat} {Q : am_Q} : am_W kc_Slips_assume (am_cl d) Q 57 = am_ex (am_cl d) (am_W kc_Slips_assume (am_cl d) Q) Q kb_Slips_assume_57 := am_wx rfl
theorem jx_Slips_assume_63 {d : Nat} {Q : am_Q} : am_W kc_Slips_assume (am_cl d) Q 63 = am_ex (am_cl d) (am_W kc_Slips_assume (am_cl d) Q) Q kb_Slips_assume_63 := am_wx rfl
theorem cx_Slips_least {d : Nat} {args : List Value} {h : am_H} {Q : am_Q} : am_cl (d + 1) 27 args h Q = (Nat.ble (am_sz args) 3 = true ∧ am_ex (am_cl d) (am_W kc_Slips_least (am_cl d) Q) Q kb_Slips_least_0 (am_ent args 3) [] h) := am_clx rfl rfl
theorem jx_Slips_least_14 {d : Nat} {Q : am_Q} : am_W kc_Slips_least (am_cl d) Q 14 = am_ex (am_cl d) (am_W kc_Slips_least (am_cl d) Q) Q kb_Slips_least_14 := am_wx rfl
theorem jx_Slips_least_29 {d : Nat} {Q : am_Q} : am_W kc_Slips_least (am_cl d) Q 29 = am_ex (am_cl d) (am_W kc_Slips_least (am_cl d) Q) Q kb_Slips_least_29 := am_wx rfl
theorem cx_Slips_findSufficing {d : Nat} {args : List Value} {h : am_H} {Q : am_Q} : am_cl (d + 1) 28 args h Q = (Nat.ble (am_sz args) 5 = true ∧ am_ex (am_cl d) (am_W kc_Slips_findSufficing (am_cl d) Q) Q kb_Slips_findSufficing_0 (am_ent args 5) [] h) := am_clx rfl rfl
theorem jx_Slips_findSufficing_51 {d : Nat} {Q : am_Q} : am_W kc_Slips_findSufficing (am_cl d) Q 51 = am_ex (am_cl d) (am_W kc_Slips_findSufficing (am_cl d) Q) Q kb_Slips_findSufficing_51 := am_wx rfl
theorem jx_Slips_findSufficing_53 {d : Nat} {Q : am_Q} : am_W kc_Slips_findSufficing (am_cl d) Q 53 = am_ex (am_cl d) (am_W kc_Slips_findSufficing (am_cl d) Q) Q kb_Slips_findSufficing_53 := am_wx rfl
theorem jx_Slips_findSufficing_77 {d : Nat} {Q : am_Q} : am_W kc_Slips_findSufficing (am_cl d) Q 77 = am_ex (am_cl d) (am_W kc_Slips_findSufficing (am_cl d) Q) Q kb_Slips_findSufficing_77 := am_wx rfl
theorem jx_Slips_findSufficing_112 {d : Nat} {Q : am_Q} : am_W kc_Slips_findSufficing (am_cl d) Q 112 = am_ex (am_cl d) (am_W kc_Slips_findSufficing (am_cl d) Q) Q kb_Slips_findSufficing_112 := am_wx rfl
theorem jx_Slips_findSufficing_118 {d : Nat} {Q : am_Q} : am_W kc_Slips_findSufficing (am_cl d) Q 118 = am_ex (am_cl d) (am_W kc_Slips_findSufficing (am_cl d) Q) Q kb_Slips_findSufficing_118 := am_wx rfl
theorem jx_Slips_findSufficing_124 {d : Nat} {Q : am_Q} : am_W kc_Slips_findSufficing (am_cl d) Q 124 = am_ex (am_cl d) (am_W kc_Slips_findSufficing (am_cl d) Q) Q kb_Slips_findSufficing_124 := am_wx rfl
theorem cx_Slips_suffices {d : Nat} {args : List Value} {h : am_H} {Q : am_Q} : am_cl (d + 1) 29 args h Q = (Nat.ble (am_sz args) 3 = true ∧ am_ex (am_cl d) (am_W kc_Slips_suffices (am_cl d) Q) Q kb_Slips_suffices_0 (am_ent args 3) [] h) := am_clx rfl rfl
theorem jx_Slips_suffices_37 {d : Nat} {Q : am_Q} : am_W kc_Slips_suffices (am_cl d) Q 37 = am_ex (am_cl d) (am_W kc_Slips_suffices (am_cl d) Q) Q kb_Slips_suffices_37 := am_wx rfl
theorem jx_Slips_suffices_38 {d : Nat} {Q : am_Q} : am_W kc_Slips_suffices (am_cl d) Q 38 = am_ex (am_cl d) (am_W kc_Slips_suffices (am_cl d) Q) Q kb_Slips_suffices_38 := am_wx rfl
theorem cx_Slips_quarrel {d : Nat} {args : List Value} {h : am_H} {Q : am_Q} : am_cl (d + 1) 30 args h Q = (Nat.ble (am_sz args) 2 = true ∧ am_ex (am_cl d) (am_W kc_Slips_quarrel (am_cl d) Q) Q kb_Slips_quarrel_0 (am_ent args 2) [] h) := am_clx rfl rfl
theorem jx_Slips_quarrel_19 {d : Nat} {Q : am_Q} : am_W kc_Slips_quarrel (am_cl d) Q 19 = am_ex (am_cl d) (am_W kc_Slips_quarrel (am_cl d) Q) Q kb_Slips_quarrel_19 := am_wx rfl
theorem jx_Slips_quarrel_27 {d : Nat} {Q : am_Q} : am_W kc_Slips_quarrel (am_cl d) Q 27 = am_ex (am_cl d) (am_W kc_Slips_quarrel (am_cl d) Q) Q kb_Slips_quarrel_27 := am_wx rfl
theorem cx_Slips_calm {d : Nat} {args : List Value} {h : am_H} {Q : am_Q} : am_cl (d + 1) 31 args h Q = (Nat.ble (am_sz args) 2 = true ∧ am_ex (am_cl d) (am_W kc_Slips_calm (am_cl d) Q) Q kb_Slips_calm_0 (am_ent args 2) [] h) := am_clx rfl rfl
theorem cx_Slips_findQuarrels {d : Nat} {args : List Value} {h : am_H} {Q : am_Q} : am_cl (d + 1) 32 args h Q = (Nat.ble (am_sz args) 3 = true ∧ am_ex (am_cl d) (am_W kc_Slips_findQuarrels (am_cl d) Q) Q kb_Slips_findQuarrels_0 (am_ent args 3) [] h) := am_clx rfl rfl
theorem jx_Slips_findQuarrels_11 {d : Nat} {Q : am_Q} : am_W kc_Slips_findQuarrels (am_cl d) Q 11 = am_ex (am_cl d) (am_W kc_Slips_findQuarrels (am_cl d) Q) Q kb_Slips_findQuarrels_11 := am_wx rfl
theorem jx_Slips_findQuarrels_48 {d : Nat} {Q : am_Q} : am_W kc_Slips_findQuarrels (am_cl d) Q 48 = am_ex (am_cl d) (am_W kc_Slips_findQuarrels (am_cl d) Q) Q kb_Slips_findQuarrels_48 := am_wx rfl
theorem jx_Slips_findQuarrels_84 {d : Nat} {Q : am_Q} : am_W kc_Slips_findQuarrels (am_cl d) Q 84 = am_ex (am_cl d) (am_W kc_Slips_findQuarrels (am_cl d) Q) Q kb_Slips_findQuarrels_84 := am_wx rfl
theorem jx_Slips_findQuarrels_90 {d : Nat} {Q : am_Q} : am_W kc_Slips_findQuarrels (am_cl d) Q 90 = am_ex (am_cl d) (am_W kc_Slips_findQuarrels (am_cl d) Q) Q kb_Slips_findQuarrels_90 := am_wx rfl
theorem cx_Slips_forgetFindings {d : Nat} {args : List Value} {h : am_H} {Q : am_Q} : am_cl (d + 1) 33 args h Q = (Nat.ble (am_sz args) 1 = true ∧ am_ex (am_cl d) (am_W kc_Slips_forgetFindings (am_cl d) Q) Q kb_Slips_forgetFindings_0 (am_ent args 1) [] h) := am_clx rfl rfl
theorem cx_Slips_hint {d : Nat} {args : List Value} {h : am_H} {Q : am_Q} : am_cl (d + 1) 34 args h Q = (Nat.ble (am_sz args) 5 = true ∧ am_ex (am_cl d) (am_W kc_Slips_hint (am_cl d) Q) Q kb_Slips_hint_0 (am_ent args 5) [] h) := am_clx rfl rfl
theorem jx_Slips_hint_23 {d : Nat} {Q : am_Q} : am_W kc_Slips_hint (am_cl d) Q 23 = am_ex (am_cl d) (am_W kc_Slips_hint (am_cl d) Q) Q kb_Slips_hint_23 := am_wx rfl
theorem jx_Slips_hint_25 {d : Nat} {Q : am_Q} : am_W kc_Slips_hint (am_cl d) Q 25 = am_ex (am_cl d) (am_W kc_Slips_hint (am_cl d) Q) Q kb_Slips_hint_25 := am_wx rfl
theorem jx_Slips_hint_33 {d : Nat} {Q : am_Q} : am_W kc_Slips_hint (am_cl d) Q 33 = am_ex (am_cl d) (am_W kc_Slips_hint (am_cl d) Q) Q kb_Slips_hint_33 := am_wx rfl
theorem jx_Slips_hint_58 {d : Nat} {Q : am_Q} : am_W kc_Slips_hint (am_cl d) Q 58 = am_ex (am_cl d) (am_W kc_Slips_hint (am_cl d) Q) Q kb_Slips_hint_58 := am_wx rfl
theorem jx_Slips_hint_121 {d : Nat} {Q : am_Q} : am_W kc_Slips_hint (am_cl d) Q 121 = am_ex (am_cl d) (am_W kc_Slips_hint (am_cl d) Q) Q kb_Slips_hint_121 := am_wx rfl
theorem jx_Slips_hint_127 {d : Nat} {Q : am_Q} : am_W kc_Slips_hint (am_cl d) Q 127 = am_ex (am_cl d) (am_W kc_Slips_hint (am_cl d) Q) Q kb_Slips_hint_127 := am_wx rfl
theorem cx_Slips_between {d : Nat} {args : List Value} {h : am_H} {Q : am_Q} : am_cl (d + 1) 35 args h Q = (Nat.ble (am_sz args) 6 = true ∧ am_ex (am_cl d) (am_W kc_Slips_between (am_cl d) Q) Q kb_Slips_between_0 (am_ent args 6) [] h) := am_clx rfl rfl
theorem jx_Slips_between_19 {d : Nat} {Q : am_Q} : am_W kc_Slips_between (am_cl d) Q 19 = am_ex (am_cl d) (am_W kc_Slips_between (am_cl d) Q) Q kb_Slips_between_19 := am_wx rfl
theorem jx_Slips_between_21 {d : Nat} {Q : am_Q} : am_W kc_Slips_between (am_cl d) Q 21 = am_ex (am_cl d) (am_W kc_Slips_between (am_cl d) Q) Q kb_Slips_between_21 := am_wx rfl
theorem jx_Slips_between_32 {d : Nat} {Q : am_Q} : am_W kc_Slips_between (am_cl d) Q 32 = am_ex (am_cl d) (am_W kc_Slips_between (am_cl d) Q) Q kb_Slips_between_32 := am_wx rfl
theorem jx_Slips_between_65 {d : Nat} {Q : am_Q} : am_W kc_Slips_between (am_cl d) Q 65 = am_ex (am_cl d) (am_W kc_Slips_between (am_cl d) Q) Q kb_Slips_between_65 := am_wx rfl
theorem jx_Slips_between_71 {d : Nat} {Q : am_Q} : am_W kc_Slips_between (am_cl d) Q 71 = am_ex (am_cl d) (am_W kc_Slips_between (am_cl d) Q) Q kb_Slips_between_71 := am_wx rfl
theorem jx_Slips_between_95 {d : Nat} {Q : am_Q} : am_W kc_Slips_between (am_cl d) Q 95 = am_ex (am_cl d) (am_W kc_Slips_between (am_cl d) Q) Q kb_Slips_between_95 := am_wx rfl
theorem jx_Slips_between_119 {d : Nat} {Q : am_Q} : am_W kc_Slips_between (am_cl d) Q 119 = am_ex (am_cl d) (am_W kc_Slips_between (am_cl d) Q) Q kb_Slips_between_119 := am_wx rfl
theorem cx_Slips_square {d : Nat} {args : List Value} {h : am_H} {Q : am_Q} : am_cl (d + 1) 36 args h Q = (Nat.ble (am_sz args) 10 = true ∧ am_ex (am_cl d) (am_W kc_Slips_square (am_cl d) Q) Q kb_Slips_square_0 (am_ent args 10) [] h) := am_clx rfl rfl
theorem jx_Slips_square_28 {d : Nat} {Q : am_Q} : am_W kc_Slips_square (am_cl d) Q 28 = am_ex (am_cl d) (am_W kc_Slips_square (am_cl d) Q) Q kb_Slips_square_28 := am_wx rfl
theorem jx_Slips_square_30 {d : Nat} {Q : am_Q} : am_W kc_Slips_square (am_cl d) Q 30 = am_ex (am_cl d) (am_W kc_Slips_square (am_cl d) Q) Q kb_Slips_square_30 := am_wx rfl
theorem jx_Slips_square_74 {d : Nat} {Q : am_Q} : am_W kc_Slips_square (am_cl d) Q 74 = am_ex (am_cl d) (am_W kc_Slips_square (am_cl d) Q) Q kb_Slips_square_74 := am_wx rfl
theorem jx_Slips_square_75 {d : Nat} {Q : am_Q} : am_W kc_Slips_square (am_cl d) Q 75 = am_ex (am_cl d) (am_W kc_Slips_square (am_cl d) Q) Q kb_Slips_square_75 := am_wx rfl
theorem jx_Slips_square_112 {d : Nat} {Q : am_Q} : am_W kc_Slips_square (am_cl d) Q 112 = am_ex (am_cl d) (am_W kc_Slips_square (am_cl d) Q) Q kb_Slips_square_112 := am_wx rfl
theorem jx_Slips_square_113 {d : Nat} {Q : am_Q} : am_W kc_Slips_square (am_cl d) Q 113 = am_ex (am_cl d) (am_W kc_Slips_square (am_cl d) Q) Q kb_Slips_square_113 := am_wx rfl
theorem jx_Slips_square_149 {d : Nat} {Q : am_Q} : am_W kc_Slips_square (am_cl d) Q 149 = am_ex (am_cl d) (am_W kc_Slips_square (am_cl d) Q) Q kb_Slips_square_149 := am_wx rfl
theorem jx_Slips_square_163 {d : Nat} {Q : am_Q} : am_W kc_Slips_square (am_cl d) Q 163 = am_ex (am_cl d) (am_W kc_Slips_square (am_cl d) Q) Q kb_Slips_square_163 := am_wx rfl
theorem jx_Slips_square_165 {d : Nat} {Q : am_Q} : am_W kc_Slips_square (am_cl d) Q 165 = am_ex (am_cl d) (am_W kc_Slips_square (am_cl d) Q) Q kb_Slips_square_165 := am_wx rfl
theorem jx_Slips_square_166 {d : Nat} {Q : am_Q} : am_W kc_Slips_square (am_cl d) Q 166 = am_ex (am_cl d) (am_W kc_Slips_square (am_cl d) Q) Q kb_Slips_square_166 := am_wx rfl
theorem jx_Slips_square_173 {d : Nat} {Q : am_Q} : am_W kc_Slips_square (am_cl d) Q 173 = am_ex (am_cl d) (am_W kc_Slips_square (am_cl d) Q) Q kb_Slips_square_173 := am_wx rfl
theorem jx_Slips_square_182 {d : Nat} {Q : am_Q} : am_W kc_Slips_square (am_cl d) Q 182 = am_ex (am_cl d) (am_W kc_Slips_square (am_cl d) Q) Q kb_Slips_square_182 := am_wx rfl
theorem jx_Slips_square_191 {d : Nat} {Q : am_Q} : am_W kc_Slips_square (am_cl d) Q 191 = am_ex (am_cl d) (am_W kc_Slips_square (am_cl d) Q) Q kb_Slips_square_191 := am_wx rfl
theorem jx_Slips_square_192 {d : Nat} {Q : am_Q} : am_W kc_Slips_square (am_cl d) Q 192 = am_ex (am_cl d) (am_W kc_Slips_square (am_cl d) Q) Q kb_Slips_square_192 := am_wx rfl
theorem cx_Slips_canBothFail {d : Nat} {args : List Value} {h : am_H} {Q : am_Q} : am_cl (d + 1) 37 args h Q = (Nat.ble (am_sz args) 3 = true ∧ am_ex (am_cl d) (am_W kc_Slips_canBothFail (am_cl d) Q) Q kb_Slips_canBothFail_0 (am_ent args 3) [] h) := am_clx rfl rfl
theorem jx_Slips_canBothFail_35 {d : Nat} {Q : am_Q} : am_W kc_Slips_canBothFail (am_cl d) Q 35 = am_ex (am_cl d) (am_W kc_Slips_canBothFail (am_cl d) Q) Q kb_Slips_canBothFail_35 := am_wx rfl
theorem jx_Slips_canBothFail_51 {d : Nat} {Q : am_Q} : am_W kc_Slips_canBothFail (am_cl d) Q 51 = am_ex (am_cl d) (am_W kc_Slips_canBothFail (am_cl d) Q) Q kb_Slips_canBothFail_51 := am_wx rfl
theorem cx_Slips_says {d : Nat} {args : List Value} {h : am_H} {Q : am_Q} : am_cl (d + 1) 38 args h Q = (Nat.ble (am_sz args) 5 = true ∧ am_ex (am_cl d) (am_W kc_Slips_says (am_cl d) Q) Q kb_Slips_says_0 (am_ent args 5) [] h) := am_clx rfl rfl
theorem jx_Slips_says_27 {d : Nat} {Q : am_Q} : am_W kc_Slips_says (am_cl d) Q 27 = am_ex (am_cl d) (am_W kc_Slips_says (am_cl d) Q) Q kb_Slips_says_27 := am_wx rfl
theorem jx_Slips_says_29 {d : Nat} {Q : am_Q} : am_W kc_Slips_says (am_cl d) Q 29 = am_ex (am_cl d) (am_W kc_Slips_says (am_cl d) Q) Q kb_Slips_says_29 := am_wx rfl
theorem jx_Slips_says_56 {d : Nat} {Q : am_Q} : am_W kc_Slips_says (am_cl d) Q 56 = am_ex (am_cl d) (am_W kc_Slips_says (am_cl d) Q) Q kb_Slips_says_56 := am_wx rfl
theorem jx_Slips_says_57 {d : Nat} {Q : am_Q} : am_W kc_Slips_says (am_cl d) Q 57 = am_ex (am_cl d) (am_W kc_Slips_says (am_cl d) Q) Q kb_Slips_says_57 := am_wx rfl
theorem cx_Slips_all {d : Nat} {args : List Value} {h : am_H} {Q : am_Q} : am_cl (d + 1) 39 args h Q = (Nat.ble (am_sz args) 3 = true ∧ am_ex (am_cl d) (am_W kc_Slips_all (am_cl d) Q) Q kb_Slips_all_0 (am_ent args 3) [] h) := am_clx rfl rfl
theorem jx_Slips_all_18 {d : Nat} {Q : am_Q} : am_W kc_Slips_all (am_cl d) Q 18 = am_ex (am_cl d) (am_W kc_Slips_all (am_cl d) Q) Q kb_Slips_all_18 := am_wx rfl
theorem jx_Slips_all_20 {d : Nat} {Q : am_Q} : am_W kc_Slips_all (am_cl d) Q 20 = am_ex (am_cl d) (am_W kc_Slips_all (am_cl d) Q) Q kb_Slips_all_20 := am_wx rfl
theorem cx_Slips_countFollowing {d : Nat} {args : List Value} {h : am_H} {Q : am_Q} : am_cl (d + 1) 40 args h Q = (Nat.ble (am_sz args) 6 = true ∧ am_ex (am_cl d) (am_W kc_Slips_countFollowing (am_cl d) Q) Q kb_Slips_countFollowing_0 (am_ent args 6) [] h) := am_clx rfl rfl
theorem jx_Slips_countFollowing_5 {d : Nat} {Q : am_Q} : am_W kc_Slips_countFollowing (am_cl d) Q 5 = am_ex (am_cl d) (am_W kc_Slips_countFollowing (am_cl d) Q) Q kb_Slips_countFollowing_5 := am_wx rfl
theorem jx_Slips_countFollowing_15 {d : Nat} {Q : am_Q} : am_W kc_Slips_countFollowing (am_cl d) Q 15 = am_ex (am_cl d) (am_W kc_Slips_countFollowing (am_cl d) Q) Q kb_Slips_countFollowing_15 := am_wx rfl
theorem jx_Slips_countFollowing_45 {d : Nat} {Q : am_Q} : am_W kc_Slips_countFollowing (am_cl d) Q 45 = am_ex (am_cl d) (am_W kc_Slips_countFollowing (am_cl d) Q) Q kb_Slips_countFollowing_45 := am_wx rfl
theorem jx_Slips_countFollowing_51 {d : Nat} {Q : am_Q} : am_W kc_Slips_countFollowing (am_cl d) Q 51 = am_ex (am_cl d) (am_W kc_Slips_countFollowing (am_cl d) Q) Q kb_Slips_countFollowing_51 := am_wx rfl
theorem jx_Slips_countFollowing_57 {d : Nat} {Q : am_Q} : am_W kc_Slips_countFollowing (am_cl d) Q 57 = am_ex (am_cl d) (am_W kc_Slips_countFollowing (am_cl d) Q) Q kb_Slips_countFollowing_57 := am_wx rfl
theorem cx_Slips_simpleFollows {d : Nat} {args : List Value} {h : am_H} {Q : am_Q} : am_cl (d + 1) 41 args h Q = (Nat.ble (am_sz args) 5 = true ∧ am_ex (am_cl d) (am_W kc_Slips_simpleFollows (am_cl d) Q) Q kb_Slips_simpleFollows_0 (am_ent args 5) [] h) := am_clx rfl rfl
theorem jx_Slips_simpleFollows_30 {d : Nat} {Q : am_Q} : am_W kc_Slips_simpleFollows (am_cl d) Q 30 = am_ex (am_cl d) (am_W kc_Slips_simpleFollows (am_cl d) Q) Q kb_Slips_simpleFollows_30 := am_wx rfl
theorem jx_Slips_simpleFollows_31 {d : Nat} {Q : am_Q} : am_W kc_Slips_simpleFollows (am_cl d) Q 31 = am_ex (am_cl d) (am_W kc_Slips_simpleFollows (am_cl d) Q) Q kb_Slips_simpleFollows_31 := am_wx rfl
theorem cx_Slips_world {d : Nat} {args : List Value} {h : am_H} {Q : am_Q} : am_cl (d + 1) 42 args h Q = (Nat.ble (am_sz args) 4 = true ∧ am_ex (am_cl d) (am_W kc_Slips_world (am_cl d) Q) Q kb_Slips_world_0 (am_ent args 4) [] h) := am_clx rfl rfl
theorem jx_Slips_world_23 {d : Nat} {Q : am_Q} : am_W kc_Slips_world (am_cl d) Q 23 = am_ex (am_cl d) (am_W kc_Slips_world (am_cl d) Q) Q kb_Slips_world_23 := am_wx rfl
theorem jx_Slips_world_25 {d : Nat} {Q : am_Q} : am_W kc_Slips_world (am_cl d) Q 25 = am_ex (am_cl d) (am_W kc_Slips_world (am_cl d) Q) Q kb_Slips_world_25 := am_wx rfl
theorem jx_Slips_world_97 {d : Nat} {Q : am_Q} : am_W kc_Slips_world (am_cl d) Q 97 = am_ex (am_cl d) (am_W kc_Slips_world (am_cl d) Q) Q kb_Slips_world_97 := am_wx rfl
theorem jx_Slips_world_109 {d : Nat} {Q : am_Q} : am_W kc_Slips_world (am_cl d) Q 109 = am_ex (am_cl d) (am_W kc_Slips_world (am_cl d) Q) Q kb_Slips_world_109 := am_wx rfl
theorem jx_Slips_world_122 {d : Nat} {Q : am_Q} : am_W kc_Slips_world (am_cl d) Q 122 = am_ex (am_cl d) (am_W kc_Slips_world (am_cl d) Q) Q kb_Slips_world_122 := am_wx rfl
theorem jx_Slips_world_149 {d : Nat} {Q : am_Q} : am_W kc_Slips_world (am_cl d) Q 149 = am_ex (am_cl d) (am_W kc_Slips_world (am_cl d) Q) Q kb_Slips_world_149 := am_wx rfl
theorem jx_Slips_world_150 {d : Nat} {Q : am_Q} : am_W kc_Slips_world (am_cl d) Q 150 = am_ex (am_cl d) (am_W kc_Slips_world (am_cl d) Q) Q kb_Slips_world_150 := am_wx rfl
theorem cx_Slips_name {d : Nat} {args : List Value} {h : am_H} {Q : am_Q} : am_cl (d + 1) 43 args h Q = (Nat.ble (am_sz args) 4 = true ∧ am_ex (am_cl d) (am_W kc_Slips_name (am_cl d) Q) Q kb_Slips_name_0 (am_ent args 4) [] h) := am_clx rfl rfl
theorem jx_Slips_name_20 {d : Nat} {Q : am_Q} : am_W kc_Slips_name (am_cl d) Q 20 = am_ex (am_cl d) (am_W kc_Slips_name (am_cl d) Q) Q kb_Slips_name_20 := am_wx rfl
theorem jx_Slips_name_22 {d : Nat} {Q : am_Q} : am_W kc_Slips_name (am_cl d) Q 22 = am_ex (am_cl d) (am_W kc_Slips_name (am_cl d) Q) Q kb_Slips_name_22 := am_wx rfl
theorem jx_Slips_name_39 {d : Nat} {Q : am_Q} : am_W kc_Slips_name (am_cl d) Q 39 = am_ex (am_cl d) (am_W kc_Slips_name (am_cl d) Q) Q kb_Slips_name_39 := am_wx rfl
theorem jx_Slips_name_68 {d : Nat} {Q : am_Q} : am_W kc_Slips_name (am_cl d) Q 68 = am_ex (am_cl d) (am_W kc_Slips_name (am_cl d) Q) Q kb_Slips_name_68 := am_wx rfl
theorem jx_Slips_name_77 {d : Nat} {Q : am_Q} : am_W kc_Slips_name (am_cl d) Q 77 = am_ex (am_cl d) (am_W kc_Slips_name (am_cl d) Q) Q kb_Slips_name_77 := am_wx rfl
theorem jx_Slips_name_86 {d : Nat} {Q : am_Q} : am_W kc_Slips_name (am_cl d) Q 86 = am_ex (am_cl d) (am_W kc_Slips_name (am_cl d) Q) Q kb_Slips_name_86 := am_wx rfl
theorem cx_Slips_pair {d : Nat} {args : List Value} {h : am_H} {Q : am_Q} : am_cl (d + 1) 44 args h Q = (Nat.ble (am_sz args) 4 = true ∧ am_ex (am_cl d) (am_W kc_Slips_pair (am_cl d) Q) Q kb_Slips_pair_0 (am_ent args 4) [] h) := am_clx rfl rfl
theorem jx_Slips_pair_11 {d : Nat} {Q : am_Q} : am_W kc_Slips_pair (am_cl d) Q 11 = am_ex (am_cl d) (am_W kc_Slips_pair (am_cl d) Q) Q kb_Slips_pair_11 := am_wx rfl
theorem jx_Slips_pair_48 {d : Nat} {Q : am_Q} : am_W kc_Slips_pair (am_cl d) Q 48 = am_ex (am_cl d) (am_W kc_Slips_pair (am_cl d) Q) Q kb_Slips_pair_48 := am_wx rfl
theorem jx_Slips_pair_56 {d : Nat} {Q : am_Q} : am_W kc_Slips_pair (am_cl d) Q 56 = am_ex (am_cl d) (am_W kc_Slips_pair (am_cl d) Q) Q kb_Slips_pair_56 := am_wx rfl
theorem jx_Slips_pair_64 {d : Nat} {Q : am_Q} : am_W kc_Slips_pair (am_cl d) Q 64 = am_ex (am_cl d) (am_W kc_Slips_pair (am_cl d) Q) Q kb_Slips_pair_64 := am_wx rfl
theorem jx_Slips_pair_86 {d : Nat} {Q : am_Q} : am_W kc_Slips_pair (am_cl d) Q 86 = am_ex (am_cl d) (am_W kc_Slips_pair (am_cl d) Q) Q kb_Slips_pair_86 := am_wx rfl
theorem jx_Slips_pair_94 {d : Nat} {Q : am_Q} : am_W kc_Slips_pair (am_cl d) Q 94 = am_ex (am_cl d) (am_W kc_Slips_pair (am_cl d) Q) Q kb_Slips_pair_94 := am_wx rfl
theorem jx_Slips_pair_102 {d : Nat} {Q : am_Q} : am_W kc_Slips_pair (am_cl d) Q 102 = am_ex (am_cl d) (am_W kc_Slips_pair (am_cl d) Q) Q kb_Slips_pair_102 := am_wx rfl
theorem cx_Slips_wrong {d : Nat} {args : List Value} {h : am_H} {Q : am_Q} : am_cl (d + 1) 45 args h Q = (Nat.ble (am_sz args) 4 = true ∧ am_ex (am_cl d) (am_W kc_Slips_wrong (am_cl d) Q) Q kb_Slips_wrong_0 (am_ent args 4) [] h) := am_clx rfl rfl
theorem jx_Slips_wrong_16 {d : Nat} {Q : am_Q} : am_W kc_Slips_wrong (am_cl d) Q 16 = am_ex (am_cl d) (am_W kc_Slips_wrong (am_cl d) Q) Q kb_Slips_wrong_16 := am_wx rfl
theorem jx_Slips_wrong_18 {d : Nat} {Q : am_Q} : am_W kc_Slips_wrong (am_cl d) Q 18 = am_ex (am_cl d) (am_W kc_Slips_wrong (am_cl d) Q) Q kb_Slips_wrong_18 := am_wx rfl
theorem cx_Slips_pairSlips {d : Nat} {args : List Value} {h : am_H} {Q : am_Q} : am_cl (d + 1) 46 args h Q = (Nat.ble (am_sz args) 5 = true ∧ am_ex (am_cl d) (am_W kc_Slips_pairSlips (am_cl d) Q) Q kb_Slips_pairSlips_0 (am_ent args 5) [] h) := am_clx rfl rfl
theorem jx_Slips_pairSlips_51 {d : Nat} {Q : am_Q} : am_W kc_Slips_pairSlips (am_cl d) Q 51 = am_ex (am_cl d) (am_W kc_Slips_pairSlips (am_cl d) Q) Q kb_Slips_pairSlips_51 := am_wx rfl
theorem jx_Slips_pairSlips_52 {d : Nat} {Q : am_Q} : am_W kc_Slips_pairSlips (am_cl d) Q 52 = am_ex (am_cl d) (am_W kc_Slips_pairSlips (am_cl d) Q) Q kb_Slips_pairSlips_52 := am_wx rfl
theorem cx_Slips_derived {d : Nat} {args : List Value} {h : am_H} {Q : am_Q} : am_cl (d + 1) 47 args h Q = (Nat.ble (am_sz args) 4 = true ∧ am_ex (am_cl d) (am_W kc_Slips_derived (am_cl d) Q) Q kb_Slips_derived_0 (am_ent args 4) [] h) := am_clx rfl rfl
theorem jx_Slips_derived_15 {d : Nat} {Q : am_Q} : am_W kc_Slips_derived (am_cl d) Q 15 = am_ex (am_cl d) (am_W kc_Slips_derived (am_cl d) Q) Q kb_Slips_derived_15 := am_wx rfl
theorem jx_Slips_derived_17 {d : Nat} {Q : am_Q} : am_W kc_Slips_derived (am_cl d) Q 17 = am_ex (am_cl d) (am_W kc_Slips_derived (am_cl d) Q) Q kb_Slips_derived_17 := am_wx rfl
theorem cx_Slips_by {d : Nat} {args : List Value} {h : am_H} {Q : am_Q} : am_cl (d + 1) 48 args h Q = (Nat.ble (am_sz args) 6 = true ∧ am_ex (am_cl d) (am_W kc_Slips_by (am_cl d) Q) Q kb_Slips_by_0 (am_ent args 6) [] h) := am_clx rfl rfl
theorem jx_Slips_by_15 {d : Nat} {Q : am_Q} : am_W kc_Slips_by (am_cl d) Q 15 = am_ex (am_cl d) (am_W kc_Slips_by (am_cl d) Q) Q kb_Slips_by_15 := am_wx rfl
theorem jx_Slips_by_17 {d : Nat} {Q : am_Q} : am_W kc_Slips_by (am_cl d) Q 17 = am_ex (am_cl d) (am_W kc_Slips_by (am_cl d) Q) Q kb_Slips_by_17 := am_wx rfl
theorem jx_Slips_by_45 {d : Nat} {Q : am_Q} : am_W kc_Slips_by (am_cl d) Q 45 = am_ex (am_cl d) (am_W kc_Slips_by (am_cl d) Q) Q kb_Slips_by_45 := am_wx rfl
theorem jx_Slips_by_63 {d : Nat} {Q : am_Q} : am_W kc_Slips_by (am_cl d) Q 63 = am_ex (am_cl d) (am_W kc_Slips_by (am_cl d) Q) Q kb_Slips_by_63 := am_wx rfl
theorem jx_Slips_by_82 {d : Nat} {Q : am_Q} : am_W kc_Slips_by (am_cl d) Q 82 = am_ex (am_cl d) (am_W kc_Slips_by (am_cl d) Q) Q kb_Slips_by_82 := am_wx rfl
theorem jx_Slips_by_83 {d : Nat} {Q : am_Q} : am_W kc_Slips_by (am_cl d) Q 83 = am_ex (am_cl d) (am_W kc_Slips_by (am_cl d) Q) Q kb_Slips_by_83 := am_wx rfl
theorem cx_Slips_derive {d : Nat} {args : List Value} {h : am_H} {Q : am_Q} : am_cl (d + 1) 49 args h Q = (Nat.ble (am_sz args) 2 = true ∧ am_ex (am_cl d) (am_W kc_Slips_derive (am_cl d) Q) Q kb_Slips_derive_0 (am_ent args 2) [] h) := am_clx rfl rfl
theorem jx_Slips_derive_18 {d : Nat} {Q : am_Q} : am_W kc_Slips_derive (am_cl d) Q 18 = am_ex (am_cl d) (am_W kc_Slips_derive (am_cl d) Q) Q kb_Slips_derive_18 := am_wx rfl
theorem jx_Slips_derive_33 {d : Nat} {Q : am_Q} : am_W kc_Slips_derive (am_cl d) Q 33 = am_ex (am_cl d) (am_W kc_Slips_derive (am_cl d) Q) Q kb_Slips_derive_33 := am_wx rfl
theorem jx_Slips_derive_34 {d : Nat} {Q : am_Q} : am_W kc_Slips_derive (am_cl d) Q 34 = am_ex (am_cl d) (am_W kc_Slips_derive (am_cl d) Q) Q kb_Slips_derive_34 := am_wx rfl
theorem cx_Slips_findDerived {d : Nat} {args : List Value} {h : am_H} {Q : am_Q} : am_cl (d + 1) 50 args h Q = (Nat.ble (am_sz args) 3 = true ∧ am_ex (am_cl d) (am_W kc_Slips_findDerived (am_cl d) Q) Q kb_Slips_findDerived_0 (am_ent args 3) [] h) := am_clx rfl rfl
theorem jx_Slips_findDerived_11 {d : Nat} {Q : am_Q} : am_W kc_Slips_findDerived (am_cl d) Q 11 = am_ex (am_cl d) (am_W kc_Slips_findDerived (am_cl d) Q) Q kb_Slips_findDerived_11 := am_wx rfl
theorem jx_Slips_findDerived_20 {d : Nat} {Q : am_Q} : am_W kc_Slips_findDerived (am_cl d) Q 20 = am_ex (am_cl d) (am_W kc_Slips_findDerived (am_cl d) Q) Q kb_Slips_findDerived_20 := am_wx rfl
theorem jx_Slips_findDerived_56 {d : Nat} {Q : am_Q} : am_W kc_Slips_findDerived (am_cl d) Q 56 = am_ex (am_cl d) (am_W kc_Slips_findDerived (am_cl d) Q) Q kb_Slips_findDerived_56 := am_wx rfl
theorem jx_Slips_findDerived_62 {d : Nat} {Q : am_Q} : am_W kc_Slips_findDerived (am_cl d) Q 62 = am_ex (am_cl d) (am_W kc_Slips_findDerived (am_cl d) Q) Q kb_Slips_findDerived_62 := am_wx rfl
theorem cx_Slips_posit {d : Nat} {args : List Value} {h : am_H} {Q : am_Q} : am_cl (d + 1) 51 args h Q = (Nat.ble (am_sz args) 2 = true ∧ am_ex (am_cl d) (am_W kc_Slips_posit (am_cl d) Q) Q kb_Slips_posit_0 (am_ent args 2) [] h) := am_clx rfl rfl
theorem jx_Slips_posit_19 {d : Nat} {Q : am_Q} : am_W kc_Slips_posit (am_cl d) Q 19 = am_ex (am_cl d) (am_W kc_Slips_posit (am_cl d) Q) Q kb_Slips_posit_19 := am_wx rfl
theorem jx_Slips_posit_45 {d : Nat} {Q : am_Q} : am_W kc_Slips_posit (am_cl d) Q 45 = am_ex (am_cl d) (am_W kc_Slips_posit (am_cl d) Q) Q kb_Slips_posit_45 := am_wx rfl
theorem cx_Slips_propose {d : Nat} {args : List Value} {h : am_H} {Q : am_Q} : am_cl (d + 1) 52 args h Q = (Nat.ble (am_sz args) 2 = true ∧ am_ex (am_cl d) (am_W kc_Slips_propose (am_cl d) Q) Q kb_Slips_propose_0 (am_ent args 2) [] h) := am_clx rfl rfl
theorem jx_Slips_propose_22 {d : Nat} {Q : am_Q} : am_W kc_Slips_propose (am_cl d) Q 22 = am_ex (am_cl d) (am_W kc_Slips_propose (am_cl d) Q) Q kb_Slips_propose_22 := am_wx rfl
theorem jx_Slips_propose_29 {d : Nat} {Q : am_Q} : am_W kc_Slips_propose (am_cl d) Q 29 = am_ex (am_cl d) (am_W kc_Slips_propose (am_cl d) Q) Q kb_Slips_propose_29 := am_wx rfl
theorem jx_Slips_propose_48 {d : Nat} {Q : am_Q} : am_W kc_Slips_propose (am_cl d) Q 48 = am_ex (am_cl d) (am_W kc_Slips_propose (am_cl d) Q) Q kb_Slips_propose_48 := am_wx rfl
theorem jx_Slips_propose_79 {d : Nat} {Q : am_Q} : am_W kc_Slips_propose (am_cl d) Q 79 = am_ex (am_cl d) (am_W kc_Slips_propose (am_cl d) Q) Q kb_Slips_propose_79 := am_wx rfl
theorem jx_Slips_propose_106 {d : Nat} {Q : am_Q} : am_W kc_Slips_propose (am_cl d) Q 106 = am_ex (am_cl d) (am_W kc_Slips_propose (am_cl d) Q) Q kb_Slips_propose_106 := am_wx rfl
theorem cx_Slips_bound {d : Nat} {args : List Value} {h : am_H} {Q : am_Q} : am_cl (d + 1) 53 args h Q = (Nat.ble (am_sz args) 2 = true ∧ am_ex (am_cl d) (am_W kc_Slips_bound (am_cl d) Q) Q kb_Slips_bound_0 (am_ent args 2) [] h) := am_clx rfl rfl
theorem jx_Slips_bound_13 {d : Nat} {Q : am_Q} : am_W kc_Slips_bound (am_cl d) Q 13 = am_ex (am_cl d) (am_W kc_Slips_bound (am_cl d) Q) Q kb_Slips_bound_13 := am_wx rfl
theorem jx_Slips_bound_28 {d : Nat} {Q : am_Q} : am_W kc_Slips_bound (am_cl d) Q 28 = am_ex (am_cl d) (am_W kc_Slips_bound (am_cl d) Q) Q kb_Slips_bound_28 := am_wx rfl
theorem jx_Slips_bound_30 {d : Nat} {Q : am_Q} : am_W kc_Slips_bound (am_cl d) Q 30 = am_ex (am_cl d) (am_W kc_Slips_bound (am_cl d) Q) Q kb_Slips_bound_30 := am_wx rfl
theorem jx_Slips_bound_46 {d : Nat} {Q : am_Q} : am_W kc_Slips_bound (am_cl d) Q 46 = am_ex (am_cl d) (am_W kc_Slips_bound (am_cl d) Q) Q kb_Slips_bound_46 := am_wx rfl
theorem jx_Slips_bound_47 {d : Nat} {Q : am_Q} : am_W kc_Slips_bound (am_cl d) Q 47 = am_ex (am_cl d) (am_W kc_Slips_bound (am_cl d) Q) Q kb_Slips_bound_47 := am_wx rfl
theorem cx_Slips_assumeBound {d : Nat} {args : List Value} {h : am_H} {Q : am_Q} : am_cl (d + 1) 54 args h Q = (Nat.ble (am_sz args) 3 = true ∧ am_ex (am_cl d) (am_W kc_Slips_assumeBound (am_cl d) Q) Q kb_Slips_assumeBound_0 (am_ent args 3) [] h) := am_clx rfl rfl
theorem jx_Slips_assumeBound_9 {d : Nat} {Q : am_Q} : am_W kc_Slips_assumeBound (am_cl d) Q 9 = am_ex (am_cl d) (am_W kc_Slips_assumeBound (am_cl d) Q) Q kb_Slips_assumeBound_9 := am_wx rfl
theorem jx_Slips_assumeBound_37 {d : Nat} {Q : am_Q} : am_W kc_Slips_assumeBound (am_cl d) Q 37 = am_ex (am_cl d) (am_W kc_Slips_assumeBound (am_cl d) Q) Q kb_Slips_assumeBound_37 := am_wx rfl
theorem jx_Slips_assumeBound_61 {d : Nat} {Q : am_Q} : am_W kc_Slips_assumeBound (am_cl d) Q 61 = am_ex (am_cl d) (am_W kc_Slips_assumeBound (am_cl d) Q) Q kb_Slips_assumeBound_61 := am_wx rfl
theorem jx_Slips_assumeBound_69 {d : Nat} {Q : am_Q} : am_W kc_Slips_assumeBound (am_cl d) Q 69 = am_ex (am_cl d) (am_W kc_Slips_assumeBound (am_cl d) Q) Q kb_Slips_assumeBound_69 := am_wx rfl
theorem jx_Slips_assumeBound_75 {d : Nat} {Q : am_Q} : am_W kc_Slips_assumeBound (am_cl d) Q 75 = am_ex (am_cl d) (am_W kc_Slips_assumeBound (am_cl d) Q) Q kb_Slips_assumeBound_75 := am_wx rfl
theorem cx_Slips_riddle {d : Nat} {args : List Value} {h : am_H} {Q : am_Q} : am_cl (d + 1) 55 args h Q = (Nat.ble (am_sz args) 8 = true ∧ am_ex (am_cl d) (am_W kc_Slips_riddle (am_cl d) Q) Q kb_Slips_riddle_0 (am_ent args 8) [] h) := am_clx rfl rfl
theorem jx_Slips_riddle_21 {d : Nat} {Q : am_Q} : am_W kc_Slips_riddle (am_cl d) Q 21 = am_ex (am_cl d) (am_W kc_Slips_riddle (am_cl d) Q) Q kb_Slips_riddle_21 := am_wx rfl
theorem jx_Slips_riddle_27 {d : Nat} {Q : am_Q} : am_W kc_Slips_riddle (am_cl d) Q 27 = am_ex (am_cl d) (am_W kc_Slips_riddle (am_cl d) Q) Q kb_Slips_riddle_27 := am_wx rfl
theorem jx_Slips_riddle_44 {d : Nat} {Q : am_Q} : am_W kc_Slips_riddle (am_cl d) Q 44 = am_ex (am_cl d) (am_W kc_Slips_riddle (am_cl d) Q) Q kb_Slips_riddle_44 := am_wx rfl
theorem jx_Slips_riddle_92 {d : Nat} {Q : am_Q} : am_W kc_Slips_riddle (am_cl d) Q 92 = am_ex (am_cl d) (am_W kc_Slips_riddle (am_cl d) Q) Q kb_Slips_riddle_92 := am_wx rfl
theorem jx_Slips_riddle_160 {d : Nat} {Q : am_Q} : am_W kc_Slips_riddle (am_cl d) Q 160 = am_ex (am_cl d) (am_W kc_Slips_riddle (am_cl d) Q) Q kb_Slips_riddle_160 := am_wx rfl
theorem jx_Slips_riddle_166 {d : Nat} {Q : am_Q} : am_W kc_Slips_riddle (am_cl d) Q 166 = am_ex (am_cl d) (am_W kc_Slips_riddle (am_cl d) Q) Q kb_Slips_riddle_166 := am_wx rfl
theorem cx_Slips_nextState {d : Nat} {args : List Value} {h : am_H} {Q : am_Q} : am_cl (d + 1) 56 args h Q = (Nat.ble (am_sz args) 1 = true ∧ am_ex (am_cl d) (am_W kc_Slips_nextState (am_cl d) Q) Q kb_Slips_nextState_0 (am_ent args 1) [] h) := am_clx rfl rfl
theorem cx_Slips_drawn {d : Nat} {args : List Value} {h : am_H} {Q : am_Q} : am_cl (d + 1) 57 args h Q = (Nat.ble (am_sz args) 4 = true ∧ am_ex (am_cl d) (am_W kc_Slips_drawn (am_cl d) Q) Q kb_Slips_drawn_0 (am_ent args 4) [] h) := am_clx rfl rfl
theorem jx_Slips_drawn_10 {d : Nat} {Q : am_Q} : am_W kc_Slips_drawn (am_cl d) Q 10 = am_ex (am_cl d) (am_W kc_Slips_drawn (am_cl d) Q) Q kb_Slips_drawn_10 := am_wx rfl
theorem jx_Slips_drawn_24 {d : Nat} {Q : am_Q} : am_W kc_Slips_drawn (am_cl d) Q 24 = am_ex (am_cl d) (am_W kc_Slips_drawn (am_cl d) Q) Q kb_Slips_drawn_24 := am_wx rfl
theorem jx_Slips_drawn_32 {d : Nat} {Q : am_Q} : am_W kc_Slips_drawn (am_cl d) Q 32 = am_ex (am_cl d) (am_W kc_Slips_drawn (am_cl d) Q) Q kb_Slips_drawn_32 := am_wx rfl
theorem jx_Slips_drawn_33 {d : Nat} {Q : am_Q} : am_W kc_Slips_drawn (am_cl d) Q 33 = am_ex (am_cl d) (am_W kc_Slips_drawn (am_cl d) Q) Q kb_Slips_drawn_33 := am_wx rfl
theorem jx_Slips_drawn_34 {d : Nat} {Q : am_Q} : am_W kc_Slips_drawn (am_cl d) Q 34 = am_ex (am_cl d) (am_W kc_Slips_drawn (am_cl d) Q) Q kb_Slips_drawn_34 := am_wx rfl
theorem jx_Slips_drawn_46 {d : Nat} {Q : am_Q} : am_W kc_Slips_drawn (am_cl d) Q 46 = am_ex (am_cl d) (am_W kc_Slips_drawn (am_cl d) Q) Q kb_Slips_drawn_46 := am_wx rfl
theorem jx_Slips_drawn_48 {d : Nat} {Q : am_Q} : am_W kc_Slips_drawn (am_cl d) Q 48 = am_ex (am_cl d) (am_W kc_Slips_drawn (am_cl d) Q) Q kb_Slips_drawn_48 := am_wx rfl
theorem jx_Slips_drawn_84 {d : Nat} {Q : am_Q} : am_W kc_Slips_drawn (am_cl d) Q 84 = am_ex (am_cl d) (am_W kc_Slips_drawn (am_cl d) Q) Q kb_Slips_drawn_84 := am_wx rfl
theorem jx_Slips_drawn_89 {d : Nat} {Q : am_Q} : am_W kc_Slips_drawn (am_cl d) Q 89 = am_ex (am_cl d) (am_W kc_Slips_drawn (am_cl d) Q) Q kb_Slips_drawn_89 := am_wx rfl
theorem jx_Slips_drawn_94 {d : Nat} {Q : am_Q} : am_W kc_Slips_drawn (am_cl d) Q 94 = am_ex (am_cl d) (am_W kc_Slips_drawn (am_cl d) Q) Q kb_Slips_drawn_94 := am_wx rfl
theorem jx_Slips_drawn_99 {d : Nat} {Q : am_Q} : am_W kc_Slips_drawn (am_cl d) Q 99 = am_ex (am_cl d) (am_W kc_Slips_drawn (am_cl d) Q) Q kb_Slips_drawn_99 := am_wx rfl
theorem cx_Slips_countInRiddle {d : Nat} {args : List Value} {h : am_H} {Q : am_Q} : am_cl (d + 1) 58 args h Q = (Nat.ble (am_sz args) 3 = true ∧ am_ex (am_cl d) (am_W kc_Slips_countInRiddle (am_cl d) Q) Q kb_Slips_countInRiddle_0 (am_ent args 3) [] h) := am_clx rfl rfl
theorem jx_Slips_countInRiddle_9 {d : Nat} {Q : am_Q} : am_W kc_Slips_countInRiddle (am_cl d) Q 9 = am_ex (am_cl d) (am_W kc_Slips_countInRiddle (am_cl d) Q) Q kb_Slips_countInRiddle_9 := am_wx rfl
theorem jx_Slips_countInRiddle_48 {d : Nat} {Q : am_Q} : am_W kc_Slips_countInRiddle (am_cl d) Q 48 = am_ex (am_cl d) (am_W kc_Slips_countInRiddle (am_cl d) Q) Q kb_Slips_countInRiddle_48 := am_wx rfl
theorem cx_Slips_image {d : Nat} {args : List Value} {h : am_H} {Q : am_Q} : am_cl (d + 1) 59 args h Q = (Nat.ble (am_sz args) 2 = true ∧ am_ex (am_cl d) (am_W kc_Slips_image (am_cl d) Q) Q kb_Slips_image_0 (am_ent args 2) [] h) := am_clx rfl rfl
theorem jx_Slips_image_9 {d : Nat} {Q : am_Q} : am_W kc_Slips_image (am_cl d) Q 9 = am_ex (am_cl d) (am_W kc_Slips_image (am_cl d) Q) Q kb_Slips_image_9 := am_wx rfl
theorem jx_Slips_image_15 {d : Nat} {Q : am_Q} : am_W kc_Slips_image (am_cl d) Q 15 = am_ex (am_cl d) (am_W kc_Slips_image (am_cl d) Q) Q kb_Slips_image_15 := am_wx rfl
theorem cx_Slips_back {d : Nat} {args : List Value} {h : am_H} {Q : am_Q} : am_cl (d + 1) 60 args h Q = (Nat.ble (am_sz args) 2 = true ∧ am_ex (am_cl d) (am_W kc_Slips_back (am_cl d) Q) Q kb_Slips_back_0 (am_ent args 2) [] h) := am_clx rfl rfl
theorem jx_Slips_back_9 {d : Nat} {Q : am_Q} : am_W kc_Slips_back (am_cl d) Q 9 = am_ex (am_cl d) (am_W kc_Slips_back (am_cl d) Q) Q kb_Slips_back_9 := am_wx rfl
theorem jx_Slips_back_15 {d : Nat} {Q : am_Q} : am_W kc_Slips_back (am_cl d) Q 15 = am_ex (am_cl d) (am_W kc_Slips_back (am_cl d) Q) Q kb_Slips_back_15 := am_wx rfl
theorem jx_Slips_back_34 {d : Nat} {Q : am_Q} : am_W kc_Slips_back (am_cl d) Q 34 = am_ex (am_cl d) (am_W kc_Slips_back (am_cl d) Q) Q kb_Slips_back_34 := am_wx rfl
theorem cx_Slips_count {d : Nat} {args : List Value} {h : am_H} {Q : am_Q} : am_cl (d + 1) 61 args h Q = (Nat.ble (am_sz args) 2 = true ∧ am_ex (am_cl d) (am_W kc_Slips_count (am_cl d) Q) Q kb_Slips_count_0 (am_ent args 2) [] h) := am_clx rfl rfl
theorem jx_Slips_count_36 {d : Nat} {Q : am_Q} : am_W kc_Slips_count (am_cl d) Q 36 = am_ex (am_cl d) (am_W kc_Slips_count (am_cl d) Q) Q kb_Slips_count_36 := am_wx rfl
theorem jx_Slips_count_44 {d : Nat} {Q : am_Q} : am_W kc_Slips_count (am_cl d) Q 44 = am_ex (am_cl d) (am_W kc_Slips_count (am_cl d) Q) Q kb_Slips_count_44 := am_wx rfl
theorem jx_Slips_count_58 {d : Nat} {Q : am_Q} : am_W kc_Slips_count (am_cl d) Q 58 = am_ex (am_cl d) (am_W kc_Slips_count (am_cl d) Q) Q kb_Slips_count_58 := am_wx rfl
theorem jx_Slips_count_59 {d : Nat} {Q : am_Q} : am_W kc_Slips_count (am_cl d) Q 59 = am_ex (am_cl d) (am_W kc_Slips_count (am_cl d) Q) Q kb_Slips_count_59 := am_wx rfl
theorem jx_Slips_count_60 {d : Nat} {Q : am_Q} : am_W kc_Slips_count (am_cl d) Q 60 = am_ex (am_cl d) (am_W kc_Slips_count (am_cl d) Q) Q kb_Slips_count_60 := am_wx rfl
theorem jx_Slips_count_68 {d : Nat} {Q : am_Q} : am_W kc_Slips_count (am_cl d) Q 68 = am_ex (am_cl d) (am_W kc_Slips_count (am_cl d) Q) Q kb_Slips_count_68 := am_wx rfl
theorem jx_Slips_count_82 {d : Nat} {Q : am_Q} : am_W kc_Slips_count (am_cl d) Q 82 = am_ex (am_cl d) (am_W kc_Slips_count (am_cl d) Q) Q kb_Slips_count_82 := am_wx rfl
theorem jx_Slips_count_83 {d : Nat} {Q : am_Q} : am_W kc_Slips_count (am_cl d) Q 83 = am_ex (am_cl d) (am_W kc_Slips_count (am_cl d) Q) Q kb_Slips_count_83 := am_wx rfl
theorem jx_Slips_count_84 {d : Nat} {Q : am_Q} : am_W kc_Slips_count (am_cl d) Q 84 = am_ex (am_cl d) (am_W kc_Slips_count (am_cl d) Q) Q kb_Slips_count_84 := am_wx rfl
theorem jx_Slips_count_92 {d : Nat} {Q : am_Q} : am_W kc_Slips_count (am_cl d) Q 92 = am_ex (am_cl d) (am_W kc_Slips_count (am_cl d) Q) Q kb_Slips_count_92 := am_wx rfl
theorem jx_Slips_count_114 {d : Nat} {Q : am_Q} : am_W kc_Slips_count (am_cl d) Q 114 = am_ex (am_cl d) (am_W kc_Slips_count (am_cl d) Q) Q kb_Slips_count_114 := am_wx rfl
theorem jx_Slips_count_115 {d : Nat} {Q : am_Q} : am_W kc_Slips_count (am_cl d) Q 115 = am_ex (am_cl d) (am_W kc_Slips_count (am_cl d) Q) Q kb_Slips_count_115 := am_wx rfl
theorem cx_Slips_status {d : Nat} {args : List Value} {h : am_H} {Q : am_Q} : am_cl (d + 1) 62 args h Q = (Nat.ble (am_sz args) 1 = true ∧ am_ex (am_cl d) (am_W kc_Slips_status (am_cl d) Q) Q kb_Slips_status_0 (am_ent args 1) [] h) := am_clx rfl rfl
theorem cx_Slips_grant {d : Nat} {args : List Value} {h : am_H} {Q : am_Q} : am_cl (d + 1) 63 args h Q = (Nat.ble (am_sz args) 2 = true ∧ am_ex (am_cl d) (am_W kc_Slips_grant (am_cl d) Q) Q kb_Slips_grant_0 (am_ent args 2) [] h) := am_clx rfl rfl
theorem cx_Slips_refuse {d : Nat} {args : List Value} {h : am_H} {Q : am_Q} : am_cl (d + 1) 64 args h Q = (Nat.ble (am_sz args) 3 = true ∧ am_ex (am_cl d) (am_W kc_Slips_refuse (am_cl d) Q) Q kb_Slips_refuse_0 (am_ent args 3) [] h) := am_clx rfl rfl
theorem jx_Slips_refuse_17 {d : Nat} {Q : am_Q} : am_W kc_Slips_refuse (am_cl d) Q 17 = am_ex (am_cl d) (am_W kc_Slips_refuse (am_cl d) Q) Q kb_Slips_refuse_17 := am_wx rfl
theorem jx_Slips_refuse_21 {d : Nat} {Q : am_Q} : am_W kc_Slips_refuse (am_cl d) Q 21 = am_ex (am_cl d) (am_W kc_Slips_refuse (am_cl d) Q) Q kb_Slips_refuse_21 := am_wx rfl
theorem jx_Slips_refuse_45 {d : Nat} {Q : am_Q} : am_W kc_Slips_refuse (am_cl d) Q 45 = am_ex (am_cl d) (am_W kc_Slips_refuse (am_cl d) Q) Q kb_Slips_refuse_45 := am_wx rfl
theorem cx_Slips_isMood {d : Nat} {args : List Value} {h : am_H} {Q : am_Q} : am_cl (d + 1) 65 args h Q = (Nat.ble (am_sz args) 1 = true ∧ am_ex (am_cl d) (am_W kc_Slips_isMood (am_cl d) Q) Q kb_Slips_isMood_0 (am_ent args 1) [] h) := am_clx rfl rfl
theorem jx_Slips_isMood_13 {d : Nat} {Q : am_Q} : am_W kc_Slips_isMood (am_cl d) Q 13 = am_ex (am_cl d) (am_W kc_Slips_isMood (am_cl d) Q) Q kb_Slips_isMood_13 := am_wx rfl
theorem jx_Slips_isMood_14 {d : Nat} {Q : am_Q} : am_W kc_Slips_isMood (am_cl d) Q 14 = am_ex (am_cl d) (am_W kc_Slips_isMood (am_cl d) Q) Q kb_Slips_isMood_14 := am_wx rfl
theorem cx_Slips_areTwoKinds {d : Nat} {args : List Value} {h : am_H} {Q : am_Q} : am_cl (d + 1) 66 args h Q = (Nat.ble (am_sz args) 2 = true ∧ am_ex (am_cl d) (am_W kc_Slips_areTwoKinds (am_cl d) Q) Q kb_Slips_areTwoKinds_0 (am_ent args 2) [] h) := am_clx rfl rfl
theorem jx_Slips_areTwoKinds_29 {d : Nat} {Q : am_Q} : am_W kc_Slips_areTwoKinds (am_cl d) Q 29 = am_ex (am_cl d) (am_W kc_Slips_areTwoKinds (am_cl d) Q) Q kb_Slips_areTwoKinds_29 := am_wx rfl
theorem jx_Slips_areTwoKinds_30 {d : Nat} {Q : am_Q} : am_W kc_Slips_areTwoKinds (am_cl d) Q 30 = am_ex (am_cl d) (am_W kc_Slips_areTwoKinds (am_cl d) Q) Q kb_Slips_areTwoKinds_30 := am_wx rfl
theorem cx_Slips_numberOf {d : Nat} {args : List Value} {h : am_H} {Q : am_Q} : am_cl (d + 1) 67 args h Q = (Nat.ble (am_sz args) 3 = true ∧ am_ex (am_cl d) (am_W kc_Slips_numberOf (am_cl d) Q) Q kb_Slips_numberOf_0 (am_ent args 3) [] h) := am_clx rfl rfl
theorem cx_Slips_moodOf {d : Nat} {args : List Value} {h : am_H} {Q : am_Q} : am_cl (d + 1) 68 args h Q = (Nat.ble (am_sz args) 1 = true ∧ am_ex (am_cl d) (am_W kc_Slips_moodOf (am_cl d) Q) Q kb_Slips_moodOf_0 (am_ent args 1) [] h) := am_clx rfl rfl
theorem cx_Slips_subjectOf {d : Nat} {args : List Value} {h : am_H} {Q : am_Q} : am_cl (d + 1) 69 args h Q = (Nat.ble (am_sz args) 1 = true ∧ am_ex (am_cl d) (am_W kc_Slips_subjectOf (am_cl d) Q) Q kb_Slips_subjectOf_0 (am_ent args 1) [] h) := am_clx rfl rfl
theorem cx_Slips_predicateOf {d : Nat} {args : List Value} {h : am_H} {Q : am_Q} : am_cl (d + 1) 70 args h Q = (Nat.ble (am_sz args) 1 = true ∧ am_ex (am_cl d) (am_W kc_Slips_predicateOf (am_cl d) Q) Q kb_Slips_predicateOf_0 (am_ent args 1) [] h) := am_clx rfl rfl
theorem cx_Slips_isSimple {d : Nat} {args : List Value} {h : am_H} {Q : am_Q} : am_cl (d + 1) 71 args h Q = (Nat.ble (am_sz args) 1 = true ∧ am_ex (am_cl d) (am_W kc_Slips_isSimple (am_cl d) Q) Q kb_Slips_isSimple_0 (am_ent args 1) [] h) := am_clx rfl rfl
theorem jx_Slips_isSimple_26 {d : Nat} {Q : am_Q} : am_W kc_Slips_isSimple (am_cl d) Q 26 = am_ex (am_cl d) (am_W kc_Slips_isSimple (am_cl d) Q) Q kb_Slips_isSimple_26 := am_wx rfl
theorem jx_Slips_isSimple_27 {d : Nat} {Q : am_Q} : am_W kc_Slips_isSimple (am_cl d) Q 27 = am_ex (am_cl d) (am_W kc_Slips_isSimple (am_cl d) Q) Q kb_Slips_isSimple_27 := am_wx rfl
theorem cx_Slips_isUniversal {d : Nat} {args : List Value} {h : am_H} {Q : am_Q} : am_cl (d + 1) 72 args h Q = (Nat.ble (am_sz args) 1 = true ∧ am_ex (am_cl d) (am_W kc_Slips_isUniversal (am_cl d) Q) Q kb_Slips_isUniversal_0 (am_ent args 1) [] h) := am_clx rfl rfl
theorem jx_Slips_isUniversal_9 {d : Nat} {Q : am_Q} : am_W kc_Slips_isUniversal (am_cl d) Q 9 = am_ex (am_cl d) (am_W kc_Slips_isUniversal (am_cl d) Q) Q kb_Slips_isUniversal_9 := am_wx rfl
theorem jx_Slips_isUniversal_13 {d : Nat} {Q : am_Q} : am_W kc_Slips_isUniversal (am_cl d) Q 13 = am_ex (am_cl d) (am_W kc_Slips_isUniversal (am_cl d) Q) Q kb_Slips_isUniversal_13 := am_wx rfl
theorem jx_Slips_isUniversal_14 {d : Nat} {Q : am_Q} : am_W kc_Slips_isUniversal (am_cl d) Q 14 = am_ex (am_cl d) (am_W kc_Slips_isUniversal (am_cl d) Q) Q kb_Slips_isUniversal_14 := am_wx rfl
theorem cx_Slips_isNegative {d : Nat} {args : List Value} {h : am_H} {Q : am_Q} : am_cl (d + 1) 73 args h Q = (Nat.ble (am_sz args) 1 = true ∧ am_ex (am_cl d) (am_W kc_Slips_isNegative (am_cl d) Q) Q kb_Slips_isNegative_0 (am_ent args 1) [] h) := am_clx rfl rfl
theorem jx_Slips_isNegative_10 {d : Nat} {Q : am_Q} : am_W kc_Slips_isNegative (am_cl d) Q 10 = am_ex (am_cl d) (am_W kc_Slips_isNegative (am_cl d) Q) Q kb_Slips_isNegative_10 := am_wx rfl
theorem jx_Slips_isNegative_14 {d : Nat} {Q : am_Q} : am_W kc_Slips_isNegative (am_cl d) Q 14 = am_ex (am_cl d) (am_W kc_Slips_isNegative (am_cl d) Q) Q kb_Slips_isNegative_14 := am_wx rfl
theorem jx_Slips_isNegative_15 {d : Nat} {Q : am_Q} : am_W kc_Slips_isNegative (am_cl d) Q 15 = am_ex (am_cl d) (am_W kc_Slips_isNegative (am_cl d) Q) Q kb_Slips_isNegative_15 := am_wx rfl
theorem cx_Slips_kindWord {d : Nat} {args : List Value} {h : am_H} {Q : am_Q} : am_cl (d + 1) 74 args h Q = (Nat.ble (am_sz args) 3 = true ∧ am_ex (am_cl d) (am_W kc_Slips_kindWord (am_cl d) Q) Q kb_Slips_kindWord_0 (am_ent args 3) [] h) := am_clx rfl rfl
theorem jx_Slips_kindWord_18 {d : Nat} {Q : am_Q} : am_W kc_Slips_kindWord (am_cl d) Q 18 = am_ex (am_cl d) (am_W kc_Slips_kindWord (am_cl d) Q) Q kb_Slips_kindWord_18 := am_wx rfl
theorem jx_Slips_kindWord_28 {d : Nat} {Q : am_Q} : am_W kc_Slips_kindWord (am_cl d) Q 28 = am_ex (am_cl d) (am_W kc_Slips_kindWord (am_cl d) Q) Q kb_Slips_kindWord_28 := am_wx rfl
theorem jx_Slips_kindWord_29 {d : Nat} {Q : am_Q} : am_W kc_Slips_kindWord (am_cl d) Q 29 = am_ex (am_cl d) (am_W kc_Slips_kindWord (am_cl d) Q) Q kb_Slips_kindWord_29 := am_wx rfl
theorem jx_Slips_kindWord_42 {d : Nat} {Q : am_Q} : am_W kc_Slips_kindWord (am_cl d) Q 42 = am_ex (am_cl d) (am_W kc_Slips_kindWord (am_cl d) Q) Q kb_Slips_kindWord_42 := am_wx rfl
theorem jx_Slips_kindWord_43 {d : Nat} {Q : am_Q} : am_W kc_Slips_kindWord (am_cl d) Q 43 = am_ex (am_cl d) (am_W kc_Slips_kindWord (am_cl d) Q) Q kb_Slips_kindWord_43 := am_wx rfl
theorem cx_Slips_sizeOf {d : Nat} {args : List Value} {h : am_H} {Q : am_Q} : am_cl (d + 1) 75 args h Q = (Nat.ble (am_sz args) 3 = true ∧ am_ex (am_cl d) (am_W kc_Slips_sizeOf (am_cl d) Q) Q kb_Slips_sizeOf_0 (am_ent args 3) [] h) := am_clx rfl rfl
theorem jx_Slips_sizeOf_4 {d : Nat} {Q : am_Q} : am_W kc_Slips_sizeOf (am_cl d) Q 4 = am_ex (am_cl d) (am_W kc_Slips_sizeOf (am_cl d) Q) Q kb_Slips_sizeOf_4 := am_wx rfl
theorem jx_Slips_sizeOf_25 {d : Nat} {Q : am_Q} : am_W kc_Slips_sizeOf (am_cl d) Q 25 = am_ex (am_cl d) (am_W kc_Slips_sizeOf (am_cl d) Q) Q kb_Slips_sizeOf_25 := am_wx rfl
theorem cx_Slips_isIn {d : Nat} {args : List Value} {h : am_H} {Q : am_Q} : am_cl (d + 1) 76 args h Q = (Nat.ble (am_sz args) 3 = true ∧ am_ex (am_cl d) (am_W kc_Slips_isIn (am_cl d) Q) Q kb_Slips_isIn_0 (am_ent args 3) [] h) := am_clx rfl rfl
theorem jx_Slips_isIn_34 {d : Nat} {Q : am_Q} : am_W kc_Slips_isIn (am_cl d) Q 34 = am_ex (am_cl d) (am_W kc_Slips_isIn (am_cl d) Q) Q kb_Slips_isIn_34 := am_wx rfl
theorem jx_Slips_isIn_35 {d : Nat} {Q : am_Q} : am_W kc_Slips_isIn (am_cl d) Q 35 = am_ex (am_cl d) (am_W kc_Slips_isIn (am_cl d) Q) Q kb_Slips_isIn_35 := am_wx rfl
theorem cx_Denial_init {d : Nat} {args : List Value} {h : am_H} {Q : am_Q} : am_cl (d + 1) 77 args h Q = (Nat.ble (am_sz args) 1 = true ∧ am_ex (am_cl d) (am_W kc_Denial_init (am_cl d) Q) Q kb_Denial_init_0 (am_ent args 1) [] h) := am_clx rfl rfl
theorem cx_Denial_clear {d : Nat} {args : List Value} {h : am_H} {Q : am_Q} : am_cl (d + 1) 78 args h Q = (Nat.ble (am_sz args) 1 = true ∧ am_ex (am_cl d) (am_W kc_Denial_clear (am_cl d) Q) Q kb_Denial_clear_0 (am_ent args 1) [] h) := am_clx rfl rfl
theorem cx_Denial_consider {d : Nat} {args : List Value} {h : am_H} {Q : am_Q} : am_cl (d + 1) 79 args h Q = (Nat.ble (am_sz args) 6 = true ∧ am_ex (am_cl d) (am_W kc_Denial_consider (am_cl d) Q) Q kb_Denial_consider_0 (am_ent args 6) [] h) := am_clx rfl rfl
theorem jx_Denial_consider_18 {d : Nat} {Q : am_Q} : am_W kc_Denial_consider (am_cl d) Q 18 = am_ex (am_cl d) (am_W kc_Denial_consider (am_cl d) Q) Q kb_Denial_consider_18 := am_wx rfl
theorem jx_Denial_consider_19 {d : Nat} {Q : am_Q} : am_W kc_Denial_consider (am_cl d) Q 19 = am_ex (am_cl d) (am_W kc_Denial_consider (am_cl d) Q) Q kb_Denial_consider_19 := am_wx rfl
theorem jx_Denial_consider_37 {d : Nat} {Q : am_Q} : am_W kc_Denial_consider (am_cl d) Q 37 = am_ex (am_cl d) (am_W kc_Denial_consider (am_cl d) Q) Q kb_Denial_consider_37 := am_wx rfl
theorem jx_Denial_consider_58 {d : Nat} {Q : am_Q} : am_W kc_Denial_consider (am_cl d) Q 58 = am_ex (am_cl d) (am_W kc_Denial_consider (am_cl d) Q) Q kb_Denial_consider_58 := am_wx rfl
theorem jx_Denial_consider_74 {d : Nat} {Q : am_Q} : am_W kc_Denial_consider (am_cl d) Q 74 = am_ex (am_cl d) (am_W kc_Denial_consider (am_cl d) Q) Q kb_Denial_consider_74 := am_wx rfl
theorem jx_Denial_consider_75 {d : Nat} {Q : am_Q} : am_W kc_Denial_consider (am_cl d) Q 75 = am_ex (am_cl d) (am_W kc_Denial_consider (am_cl d) Q) Q kb_Denial_consider_75 := am_wx rfl
theorem jx_Denial_consider_98 {d : Nat} {Q : am_Q} : am_W kc_Denial_consider (am_cl d) Q 98 = am_ex (am_cl d) (am_W kc_Denial_consider (am_cl d) Q) Q kb_Denial_consider_98 := am_wx rfl
theorem jx_Denial_consider_144 {d : Nat} {Q : am_Q} : am_W kc_Denial_consider (am_cl d) Q 144 = am_ex (am_cl d) (am_W kc_Denial_consider (am_cl d) Q) Q kb_Denial_consider_144 := am_wx rfl
theorem jx_Denial_consider_169 {d : Nat} {Q : am_Q} : am_W kc_Denial_consider (am_cl d) Q 169 = am_ex (am_cl d) (am_W kc_Denial_consider (am_cl d) Q) Q kb_Denial_consider_169 := am_wx rfl
theorem cx_Denial_noteMask {d : Nat} {args : List Value} {h : am_H} {Q : am_Q} : am_cl (d + 1) 80 args h Q = (Nat.ble (am_sz args) 4 = true ∧ am_ex (am_cl d) (am_W kc_Denial_noteMask (am_cl d) Q) Q kb_Denial_noteMask_0 (am_ent args 4) [] h) := am_clx rfl rfl
theorem jx_Denial_noteMask_5 {d : Nat} {Q : am_Q} : am_W kc_Denial_noteMask (am_cl d) Q 5 = am_ex (am_cl d) (am_W kc_Denial_noteMask (am_cl d) Q) Q kb_Denial_noteMask_5 := am_wx rfl
theorem jx_Denial_noteMask_9 {d : Nat} {Q : am_Q} : am_W kc_Denial_noteMask (am_cl d) Q 9 = am_ex (am_cl d) (am_W kc_Denial_noteMask (am_cl d) Q) Q kb_Denial_noteMask_9 := am_wx rfl
theorem jx_Denial_noteMask_31 {d : Nat} {Q : am_Q} : am_W kc_Denial_noteMask (am_cl d) Q 31 = am_ex (am_cl d) (am_W kc_Denial_noteMask (am_cl d) Q) Q kb_Denial_noteMask_31 := am_wx rfl
theorem jx_Denial_noteMask_59 {d : Nat} {Q : am_Q} : am_W kc_Denial_noteMask (am_cl d) Q 59 = am_ex (am_cl d) (am_W kc_Denial_noteMask (am_cl d) Q) Q kb_Denial_noteMask_59 := am_wx rfl
theorem jx_Denial_noteMask_65 {d : Nat} {Q : am_Q} : am_W kc_Denial_noteMask (am_cl d) Q 65 = am_ex (am_cl d) (am_W kc_Denial_noteMask (am_cl d) Q) Q kb_Denial_noteMask_65 := am_wx rfl
theorem jx_Denial_noteMask_82 {d : Nat} {Q : am_Q} : am_W kc_Denial_noteMask (am_cl d) Q 82 = am_ex (am_cl d) (am_W kc_Denial_noteMask (am_cl d) Q) Q kb_Denial_noteMask_82 := am_wx rfl
theorem cx_Denial_countFewest {d : Nat} {args : List Value} {h : am_H} {Q : am_Q} : am_cl (d + 1) 81 args h Q = (Nat.ble (am_sz args) 6 = true ∧ am_ex (am_cl d) (am_W kc_Denial_countFewest (am_cl d) Q) Q kb_Denial_countFewest_0 (am_ent args 6) [] h) := am_clx rfl rfl
theorem jx_Denial_countFewest_18 {d : Nat} {Q : am_Q} : am_W kc_Denial_countFewest (am_cl d) Q 18 = am_ex (am_cl d) (am_W kc_Denial_countFewest (am_cl d) Q) Q kb_Denial_countFewest_18 := am_wx rfl
theorem jx_Denial_countFewest_27 {d : Nat} {Q : am_Q} : am_W kc_Denial_countFewest (am_cl d) Q 27 = am_ex (am_cl d) (am_W kc_Denial_countFewest (am_cl d) Q) Q kb_Denial_countFewest_27 := am_wx rfl
theorem jx_Denial_countFewest_44 {d : Nat} {Q : am_Q} : am_W kc_Denial_countFewest (am_cl d) Q 44 = am_ex (am_cl d) (am_W kc_Denial_countFewest (am_cl d) Q) Q kb_Denial_countFewest_44 := am_wx rfl
theorem jx_Denial_countFewest_89 {d : Nat} {Q : am_Q} : am_W kc_Denial_countFewest (am_cl d) Q 89 = am_ex (am_cl d) (am_W kc_Denial_countFewest (am_cl d) Q) Q kb_Denial_countFewest_89 := am_wx rfl
theorem jx_Denial_countFewest_95 {d : Nat} {Q : am_Q} : am_W kc_Denial_countFewest (am_cl d) Q 95 = am_ex (am_cl d) (am_W kc_Denial_countFewest (am_cl d) Q) Q kb_Denial_countFewest_95 := am_wx rfl
theorem jx_Denial_countFewest_109 {d : Nat} {Q : am_Q} : am_W kc_Denial_countFewest (am_cl d) Q 109 = am_ex (am_cl d) (am_W kc_Denial_countFewest (am_cl d) Q) Q kb_Denial_countFewest_109 := am_wx rfl
theorem cx_Denial_fillTrial {d : Nat} {args : List Value} {h : am_H} {Q : am_Q} : am_cl (d + 1) 82 args h Q = (Nat.ble (am_sz args) 5 = true ∧ am_ex (am_cl d) (am_W kc_Denial_fillTrial (am_cl d) Q) Q kb_Denial_fillTrial_0 (am_ent args 5) [] h) := am_clx rfl rfl
theorem jx_Denial_fillTrial_9 {d : Nat} {Q : am_Q} : am_W kc_Denial_fillTrial (am_cl d) Q 9 = am_ex (am_cl d) (am_W kc_Denial_fillTrial (am_cl d) Q) Q kb_Denial_fillTrial_9 := am_wx rfl
theorem jx_Denial_fillTrial_86 {d : Nat} {Q : am_Q} : am_W kc_Denial_fillTrial (am_cl d) Q 86 = am_ex (am_cl d) (am_W kc_Denial_fillTrial (am_cl d) Q) Q kb_Denial_fillTrial_86 := am_wx rfl
theorem jx_Denial_fillTrial_92 {d : Nat} {Q : am_Q} : am_W kc_Denial_fillTrial (am_cl d) Q 92 = am_ex (am_cl d) (am_W kc_Denial_fillTrial (am_cl d) Q) Q kb_Denial_fillTrial_92 := am_wx rfl
theorem cx_Denial_trialIsAhead {d : Nat} {args : List Value} {h : am_H} {Q : am_Q} : am_cl (d + 1) 83 args h Q = (Nat.ble (am_sz args) 2 = true ∧ am_ex (am_cl d) (am_W kc_Denial_trialIsAhead (am_cl d) Q) Q kb_Denial_trialIsAhead_0 (am_ent args 2) [] h) := am_clx rfl rfl
theorem jx_Denial_trialIsAhead_2 {d : Nat} {Q : am_Q} : am_W kc_Denial_trialIsAhead (am_cl d) Q 2 = am_ex (am_cl d) (am_W kc_Denial_trialIsAhead (am_cl d) Q) Q kb_Denial_trialIsAhead_2 := am_wx rfl
theorem jx_Denial_trialIsAhead_44 {d : Nat} {Q : am_Q} : am_W kc_Denial_trialIsAhead (am_cl d) Q 44 = am_ex (am_cl d) (am_W kc_Denial_trialIsAhead (am_cl d) Q) Q kb_Denial_trialIsAhead_44 := am_wx rfl
theorem jx_Denial_trialIsAhead_45 {d : Nat} {Q : am_Q} : am_W kc_Denial_trialIsAhead (am_cl d) Q 45 = am_ex (am_cl d) (am_W kc_Denial_trialIsAhead (am_cl d) Q) Q kb_Denial_trialIsAhead_45 := am_wx rfl
theorem jx_Denial_trialIsAhead_46 {d : Nat} {Q : am_Q} : am_W kc_Denial_trialIsAhead (am_cl d) Q 46 = am_ex (am_cl d) (am_W kc_Denial_trialIsAhead (am_cl d) Q) Q kb_Denial_trialIsAhead_46 := am_wx rfl
theorem jx_Denial_trialIsAhead_52 {d : Nat} {Q : am_Q} : am_W kc_Denial_trialIsAhead (am_cl d) Q 52 = am_ex (am_cl d) (am_W kc_Denial_trialIsAhead (am_cl d) Q) Q kb_Denial_trialIsAhead_52 := am_wx rfl
theorem cx_Derivation_init {d : Nat} {args : List Value} {h : am_H} {Q : am_Q} : am_cl (d + 1) 84 args h Q = (Nat.ble (am_sz args) 1 = true ∧ am_ex (am_cl d) (am_W kc_Derivation_init (am_cl d) Q) Q kb_Derivation_init_0 (am_ent args 1) [] h) := am_clx rfl rfl
theorem cx_Derivation_start {d : Nat} {args : List Value} {h : am_H} {Q : am_Q} : am_cl (d + 1) 85 args h Q = (Nat.ble (am_sz args) 1 = true ∧ am_ex (am_cl d) (am_W kc_Derivation_start (am_cl d) Q) Q kb_Derivation_start_0 (am_ent args 1) [] h) := am_clx rfl rfl
theorem cx_Derivation_addGiven {d : Nat} {args : List Value} {h : am_H} {Q : am_Q} : am_cl (d + 1) 86 args h Q = (Nat.ble (am_sz args) 2 = true ∧ am_ex (am_cl d) (am_W kc_Derivation_addGiven (am_cl d) Q) Q kb_Derivation_addGiven_0 (am_ent args 2) [] h) := am_clx rfl rfl
theorem jx_Derivation_addGiven_34 {d : Nat} {Q : am_Q} : am_W kc_Derivation_addGiven (am_cl d) Q 34 = am_ex (am_cl d) (am_W kc_Derivation_addGiven (am_cl d) Q) Q kb_Derivation_addGiven_34 := am_wx rfl
theorem cx_Derivation_run {d : Nat} {args : List Value} {h : am_H} {Q : am_Q} : am_cl (d + 1) 87 args h Q = (Nat.ble (am_sz args) 4 = true ∧ am_ex (am_cl d) (am_W kc_Derivation_run (am_cl d) Q) Q kb_Derivation_run_0 (am_ent args 4) [] h) := am_clx rfl rfl
theorem jx_Derivation_run_4 {d : Nat} {Q : am_Q} : am_W kc_Derivation_run (am_cl d) Q 4 = am_ex (am_cl d) (am_W kc_Derivation_run (am_cl d) Q) Q kb_Derivation_run_4 := am_wx rfl
theorem jx_Derivation_run_43 {d : Nat} {Q : am_Q} : am_W kc_Derivation_run (am_cl d) Q 43 = am_ex (am_cl d) (am_W kc_Derivation_run (am_cl d) Q) Q kb_Derivation_run_43 := am_wx rfl
theorem jx_Derivation_run_49 {d : Nat} {Q : am_Q} : am_W kc_Derivation_run (am_cl d) Q 49 = am_ex (am_cl d) (am_W kc_Derivation_run (am_cl d) Q) Q kb_Derivation_run_49 := am_wx rfl
theorem cx_Derivation_deriveRound {d : Nat} {args : List Value} {h : am_H} {Q : am_Q} : am_cl (d + 1) 88 args h Q = (Nat.ble (am_sz args) 9 = true ∧ am_ex (am_cl d) (am_W kc_Derivation_deriveRound (am_cl d) Q) Q kb_Derivation_deriveRound_0 (am_ent args 9) [] h) := am_clx rfl rfl
theorem jx_Derivation_deriveRound_8 {d : Nat} {Q : am_Q} : am_W kc_Derivation_deriveRound (am_cl d) Q 8 = am_ex (am_cl d) (am_W kc_Derivation_deriveRound (am_cl d) Q) Q kb_Derivation_deriveRound_8 := am_wx rfl
theorem jx_Derivation_deriveRound_17 {d : Nat} {Q : am_Q} : am_W kc_Derivation_deriveRound (am_cl d) Q 17 = am_ex (am_cl d) (am_W kc_Derivation_deriveRound (am_cl d) Q) Q kb_Derivation_deriveRound_17 := am_wx rfl
theorem jx_Derivation_deriveRound_67 {d : Nat} {Q : am_Q} : am_W kc_Derivation_deriveRound (am_cl d) Q 67 = am_ex (am_cl d) (am_W kc_Derivation_deriveRound (am_cl d) Q) Q kb_Derivation_deriveRound_67 := am_wx rfl
theorem jx_Derivation_deriveRound_71 {d : Nat} {Q : am_Q} : am_W kc_Derivation_deriveRound (am_cl d) Q 71 = am_ex (am_cl d) (am_W kc_Derivation_deriveRound (am_cl d) Q) Q kb_Derivation_deriveRound_71 := am_wx rfl
theorem jx_Derivation_deriveRound_72 {d : Nat} {Q : am_Q} : am_W kc_Derivation_deriveRound (am_cl d) Q 72 = am_ex (am_cl d) (am_W kc_Derivation_deriveRound (am_cl d) Q) Q kb_Derivation_deriveRound_72 := am_wx rfl
theorem jx_Derivation_deriveRound_100 {d : Nat} {Q : am_Q} : am_W kc_Derivation_deriveRound (am_cl d) Q 100 = am_ex (am_cl d) (am_W kc_Derivation_deriveRound (am_cl d) Q) Q kb_Derivation_deriveRound_100 := am_wx rfl
theorem jx_Derivation_deriveRound_106 {d : Nat} {Q : am_Q} : am_W kc_Derivation_deriveRound (am_cl d) Q 106 = am_ex (am_cl d) (am_W kc_Derivation_deriveRound (am_cl d) Q) Q kb_Derivation_deriveRound_106 := am_wx rfl
theorem jx_Derivation_deriveRound_112 {d : Nat} {Q : am_Q} : am_W kc_Derivation_deriveRound (am_cl d) Q 112 = am_ex (am_cl d) (am_W kc_Derivation_deriveRound (am_cl d) Q) Q kb_Derivation_deriveRound_112 := am_wx rfl
theorem cx_Derivation_addConclusion {d : Nat} {args : List Value} {h : am_H} {Q : am_Q} : am_cl (d + 1) 89 args h Q = (Nat.ble (am_sz args) 7 = true ∧ am_ex (am_cl d) (am_W kc_Derivation_addConclusion (am_cl d) Q) Q kb_Derivation_addConclusion_0 (am_ent args 7) [] h) := am_clx rfl rfl
theorem jx_Derivation_addConclusion_13 {d : Nat} {Q : am_Q} : am_W kc_Derivation_addConclusion (am_cl d) Q 13 = am_ex (am_cl d) (am_W kc_Derivation_addConclusion (am_cl d) Q) Q kb_Derivation_addConclusion_13 := am_wx rfl
theorem jx_Derivation_addConclusion_82 {d : Nat} {Q : am_Q} : am_W kc_Derivation_addConclusion (am_cl d) Q 82 = am_ex (am_cl d) (am_W kc_Derivation_addConclusion (am_cl d) Q) Q kb_Derivation_addConclusion_82 := am_wx rfl
theorem cx_Derivation_listAhead {d : Nat} {args : List Value} {h : am_H} {Q : am_Q} : am_cl (d + 1) 90 args h Q = (Nat.ble (am_sz args) 3 = true ∧ am_ex (am_cl d) (am_W kc_Derivation_listAhead (am_cl d) Q) Q kb_Derivation_listAhead_0 (am_ent args 3) [] h) := am_clx rfl rfl
theorem jx_Derivation_listAhead_4 {d : Nat} {Q : am_Q} : am_W kc_Derivation_listAhead (am_cl d) Q 4 = am_ex (am_cl d) (am_W kc_Derivation_listAhead (am_cl d) Q) Q kb_Derivation_listAhead_4 := am_wx rfl
theorem jx_Derivation_listAhead_31 {d : Nat} {Q : am_Q} : am_W kc_Derivation_listAhead (am_cl d) Q 31 = am_ex (am_cl d) (am_W kc_Derivation_listAhead (am_cl d) Q) Q kb_Derivation_listAhead_31 := am_wx rfl
theorem jx_Derivation_listAhead_37 {d : Nat} {Q : am_Q} : am_W kc_Derivation_listAhead (am_cl d) Q 37 = am_ex (am_cl d) (am_W kc_Derivation_listAhead (am_cl d) Q) Q kb_Derivation_listAhead_37 := am_wx rfl
theorem cx_Desk_init {d : Nat} {args : List Value} {h : am_H} {Q : am_Q} : am_cl (d + 1) 91 args h Q = (Nat.ble (am_sz args) 1 = true ∧ am_ex (am_cl d) (am_W kc_Desk_init (am_cl d) Q) Q kb_Desk_init_0 (am_ent args 1) [] h) := am_clx rfl rfl
theorem cx_Desk_hasHeap {d : Nat} {args : List Value} {h : am_H} {Q : am_Q} : am_cl (d + 1) 92 args h Q = (Nat.ble (am_sz args) 2 = true ∧ am_ex (am_cl d) (am_W kc_Desk_hasHeap (am_cl d) Q) Q kb_Desk_hasHeap_0 (am_ent args 2) [] h) := am_clx rfl rfl
theorem jx_Desk_hasHeap_18 {d : Nat} {Q : am_Q} : am_W kc_Desk_hasHeap (am_cl d) Q 18 = am_ex (am_cl d) (am_W kc_Desk_hasHeap (am_cl d) Q) Q kb_Desk_hasHeap_18 := am_wx rfl
theorem jx_Desk_hasHeap_19 {d : Nat} {Q : am_Q} : am_W kc_Desk_hasHeap (am_cl d) Q 19 = am_ex (am_cl d) (am_W kc_Desk_hasHeap (am_cl d) Q) Q kb_Desk_hasHeap_19 := am_wx rfl
theorem cx_Desk_slipAt {d : Nat} {args : List Value} {h : am_H} {Q : am_Q} : am_cl (d + 1) 93 args h Q = (Nat.ble (am_sz args) 2 = true ∧ am_ex (am_cl d) (am_W kc_Desk_slipAt (am_cl d) Q) Q kb_Desk_slipAt_0 (am_ent args 2) [] h) := am_clx rfl rfl
theorem jx_Desk_slipAt_21 {d : Nat} {Q : am_Q} : am_W kc_Desk_slipAt (am_cl d) Q 21 = am_ex (am_cl d) (am_W kc_Desk_slipAt (am_cl d) Q) Q kb_Desk_slipAt_21 := am_wx rfl
theorem jx_Desk_slipAt_22 {d : Nat} {Q : am_Q} : am_W kc_Desk_slipAt (am_cl d) Q 22 = am_ex (am_cl d) (am_W kc_Desk_slipAt (am_cl d) Q) Q kb_Desk_slipAt_22 := am_wx rfl
theorem cx_Desk_sentenceAt {d : Nat} {args : List Value} {h : am_H} {Q : am_Q} : am_cl (d + 1) 94 args h Q = (Nat.ble (am_sz args) 2 = true ∧ am_ex (am_cl d) (am_W kc_Desk_sentenceAt (am_cl d) Q) Q kb_Desk_sentenceAt_0 (am_ent args 2) [] h) := am_clx rfl rfl
theorem jx_Desk_sentenceAt_12 {d : Nat} {Q : am_Q} : am_W kc_Desk_sentenceAt (am_cl d) Q 12 = am_ex (am_cl d) (am_W kc_Desk_sentenceAt (am_cl d) Q) Q kb_Desk_sentenceAt_12 := am_wx rfl
theorem jx_Desk_sentenceAt_17 {d : Nat} {Q : am_Q} : am_W kc_Desk_sentenceAt (am_cl d) Q 17 = am_ex (am_cl d) (am_W kc_Desk_sentenceAt (am_cl d) Q) Q kb_Desk_sentenceAt_17 := am_wx rfl
theorem cx_Desk_bind {d : Nat} {args : List Value} {h : am_H} {Q : am_Q} : am_cl (d + 1) 95 args h Q = (Nat.ble (am_sz args) 3 = true ∧ am_ex (am_cl d) (am_W kc_Desk_bind (am_cl d) Q) Q kb_Desk_bind_0 (am_ent args 3) [] h) := am_clx rfl rfl
theorem jx_Desk_bind_39 {d : Nat} {Q : am_Q} : am_W kc_Desk_bind (am_cl d) Q 39 = am_ex (am_cl d) (am_W kc_Desk_bind (am_cl d) Q) Q kb_Desk_bind_39 := am_wx rfl
theorem cx_Desk_copyFrom {d : Nat} {args : List Value} {h : am_H} {Q : am_Q} : am_cl (d + 1) 96 args h Q = (Nat.ble (am_sz args) 3 = true ∧ am_ex (am_cl d) (am_W kc_Desk_copyFrom (am_cl d) Q) Q kb_Desk_copyFrom_0 (am_ent args 3) [] h) := am_clx rfl rfl
theorem jx_Desk_copyFrom_2 {d : Nat} {Q : am_Q} : am_W kc_Desk_copyFrom (am_cl d) Q 2 = am_ex (am_cl d) (am_W kc_Desk_copyFrom (am_cl d) Q) Q kb_Desk_copyFrom_2 := am_wx rfl
theorem jx_Desk_copyFrom_26 {d : Nat} {Q : am_Q} : am_W kc_Desk_copyFrom (am_cl d) Q 26 = am_ex (am_cl d) (am_W kc_Desk_copyFrom (am_cl d) Q) Q kb_Desk_copyFrom_26 := am_wx rfl
theorem jx_Desk_copyFrom_52 {d : Nat} {Q : am_Q} : am_W kc_Desk_copyFrom (am_cl d) Q 52 = am_ex (am_cl d) (am_W kc_Desk_copyFrom (am_cl d) Q) Q kb_Desk_copyFrom_52 := am_wx rfl
theorem jx_Desk_copyFrom_88 {d : Nat} {Q : am_Q} : am_W kc_Desk_copyFrom (am_cl d) Q 88 = am_ex (am_cl d) (am_W kc_Desk_copyFrom (am_cl d) Q) Q kb_Desk_copyFrom_88 := am_wx rfl
theorem cx_Fewest_init {d : Nat} {args : List Value} {h : am_H} {Q : am_Q} : am_cl (d + 1) 97 args h Q = (Nat.ble (am_sz args) 1 = true ∧ am_ex (am_cl d) (am_W kc_Fewest_init (am_cl d) Q) Q kb_Fewest_init_0 (am_ent args 1) [] h) := am_clx rfl rfl
theorem cx_Fewest_clear {d : Nat} {args : List Value} {h : am_H} {Q : am_Q} : am_cl (d + 1) 98 args h Q = (Nat.ble (am_sz args) 1 = true ∧ am_ex (am_cl d) (am_W kc_Fewest_clear (am_cl d) Q) Q kb_Fewest_clear_0 (am_ent args 1) [] h) := am_clx rfl rfl
theorem cx_Fewest_note {d : Nat} {args : List Value} {h : am_H} {Q : am_Q} : am_cl (d + 1) 99 args h Q = (Nat.ble (am_sz args) 3 = true ∧ am_ex (am_cl d) (am_W kc_Fewest_note (am_cl d) Q) Q kb_Fewest_note_0 (am_ent args 3) [] h) := am_clx rfl rfl
theorem jx_Fewest_note_17 {d : Nat} {Q : am_Q} : am_W kc_Fewest_note (am_cl d) Q 17 = am_ex (am_cl d) (am_W kc_Fewest_note (am_cl d) Q) Q kb_Fewest_note_17 := am_wx rfl
theorem cx_Fewest_tell {d : Nat} {args : List Value} {h : am_H} {Q : am_Q} : am_cl (d + 1) 100 args h Q = (Nat.ble (am_sz args) 2 = true ∧ am_ex (am_cl d) (am_W kc_Fewest_tell (am_cl d) Q) Q kb_Fewest_tell_0 (am_ent args 2) [] h) := am_clx rfl rfl
theorem jx_Fewest_tell_28 {d : Nat} {Q : am_Q} : am_W kc_Fewest_tell (am_cl d) Q 28 = am_ex (am_cl d) (am_W kc_Fewest_tell (am_cl d) Q) Q kb_Fewest_tell_28 := am_wx rfl
theorem jx_Fewest_tell_33 {d : Nat} {Q : am_Q} : am_W kc_Fewest_tell (am_cl d) Q 33 = am_ex (am_cl d) (am_W kc_Fewest_tell (am_cl d) Q) Q kb_Fewest_tell_33 := am_wx rfl
theorem jx_Fewest_tell_38 {d : Nat} {Q : am_Q} : am_W kc_Fewest_tell (am_cl d) Q 38 = am_ex (am_cl d) (am_W kc_Fewest_tell (am_cl d) Q) Q kb_Fewest_tell_38 := am_wx rfl
theorem jx_Fewest_tell_43 {d : Nat} {Q : am_Q} : am_W kc_Fewest_tell (am_cl d) Q 43 = am_ex (am_cl d) (am_W kc_Fewest_tell (am_cl d) Q) Q kb_Fewest_tell_43 := am_wx rfl
theorem cx_Quarrels_init {d : Nat} {args : List Value} {h : am_H} {Q : am_Q} : am_cl (d + 1) 101 args h Q = (Nat.ble (am_sz args) 1 = true ∧ am_ex (am_cl d) (am_W kc_Quarrels_init (am_cl d) Q) Q kb_Quarrels_init_0 (am_ent args 1) [] h) := am_clx rfl rfl
theorem cx_Quarrels_start {d : Nat} {args : List Value} {h : am_H} {Q : am_Q} : am_cl (d + 1) 102 args h Q = (Nat.ble (am_sz args) 2 = true ∧ am_ex (am_cl d) (am_W kc_Quarrels_start (am_cl d) Q) Q kb_Quarrels_start_0 (am_ent args 2) [] h) := am_clx rfl rfl
theorem jx_Quarrels_start_16 {d : Nat} {Q : am_Q} : am_W kc_Quarrels_start (am_cl d) Q 16 = am_ex (am_cl d) (am_W kc_Quarrels_start (am_cl d) Q) Q kb_Quarrels_start_16 := am_wx rfl
theorem cx_Quarrels_markByPart {d : Nat} {args : List Value} {h : am_H} {Q : am_Q} : am_cl (d + 1) 103 args h Q = (Nat.ble (am_sz args) 4 = true ∧ am_ex (am_cl d) (am_W kc_Quarrels_markByPart (am_cl d) Q) Q kb_Quarrels_markByPart_0 (am_ent args 4) [] h) := am_clx rfl rfl
theorem jx_Quarrels_markByPart_12 {d : Nat} {Q : am_Q} : am_W kc_Quarrels_markByPart (am_cl d) Q 12 = am_ex (am_cl d) (am_W kc_Quarrels_markByPart (am_cl d) Q) Q kb_Quarrels_markByPart_12 := am_wx rfl
theorem jx_Quarrels_markByPart_14 {d : Nat} {Q : am_Q} : am_W kc_Quarrels_markByPart (am_cl d) Q 14 = am_ex (am_cl d) (am_W kc_Quarrels_markByPart (am_cl d) Q) Q kb_Quarrels_markByPart_14 := am_wx rfl
theorem jx_Quarrels_markByPart_16 {d : Nat} {Q : am_Q} : am_W kc_Quarrels_markByPart (am_cl d) Q 16 = am_ex (am_cl d) (am_W kc_Quarrels_markByPart (am_cl d) Q) Q kb_Quarrels_markByPart_16 := am_wx rfl
theorem jx_Quarrels_markByPart_54 {d : Nat} {Q : am_Q} : am_W kc_Quarrels_markByPart (am_cl d) Q 54 = am_ex (am_cl d) (am_W kc_Quarrels_markByPart (am_cl d) Q) Q kb_Quarrels_markByPart_54 := am_wx rfl
theorem jx_Quarrels_markByPart_60 {d : Nat} {Q : am_Q} : am_W kc_Quarrels_markByPart (am_cl d) Q 60 = am_ex (am_cl d) (am_W kc_Quarrels_markByPart (am_cl d) Q) Q kb_Quarrels_markByPart_60 := am_wx rfl
theorem cx_Quarrels_mark {d : Nat} {args : List Value} {h : am_H} {Q : am_Q} : am_cl (d + 1) 104 args h Q = (Nat.ble (am_sz args) 3 = true ∧ am_ex (am_cl d) (am_W kc_Quarrels_mark (am_cl d) Q) Q kb_Quarrels_mark_0 (am_ent args 3) [] h) := am_clx rfl rfl
theorem jx_Quarrels_mark_33 {d : Nat} {Q : am_Q} : am_W kc_Quarrels_mark (am_cl d) Q 33 = am_ex (am_cl d) (am_W kc_Quarrels_mark (am_cl d) Q) Q kb_Quarrels_mark_33 := am_wx rfl
theorem cx_Quarrels_leastAt {d : Nat} {args : List Value} {h : am_H} {Q : am_Q} : am_cl (d + 1) 105 args h Q = (Nat.ble (am_sz args) 4 = true ∧ am_ex (am_cl d) (am_W kc_Quarrels_leastAt (am_cl d) Q) Q kb_Quarrels_leastAt_0 (am_ent args 4) [] h) := am_clx rfl rfl
theorem jx_Quarrels_leastAt_12 {d : Nat} {Q : am_Q} : am_W kc_Quarrels_leastAt (am_cl d) Q 12 = am_ex (am_cl d) (am_W kc_Quarrels_leastAt (am_cl d) Q) Q kb_Quarrels_leastAt_12 := am_wx rfl
theorem jx_Quarrels_leastAt_14 {d : Nat} {Q : am_Q} : am_W kc_Quarrels_leastAt (am_cl d) Q 14 = am_ex (am_cl d) (am_W kc_Quarrels_leastAt (am_cl d) Q) Q kb_Quarrels_leastAt_14 := am_wx rfl
theorem jx_Quarrels_leastAt_18 {d : Nat} {Q : am_Q} : am_W kc_Quarrels_leastAt (am_cl d) Q 18 = am_ex (am_cl d) (am_W kc_Quarrels_leastAt (am_cl d) Q) Q kb_Quarrels_leastAt_18 := am_wx rfl
theorem jx_Quarrels_leastAt_43 {d : Nat} {Q : am_Q} : am_W kc_Quarrels_leastAt (am_cl d) Q 43 = am_ex (am_cl d) (am_W kc_Quarrels_leastAt (am_cl d) Q) Q kb_Quarrels_leastAt_43 := am_wx rfl
theorem jx_Quarrels_leastAt_46 {d : Nat} {Q : am_Q} : am_W kc_Quarrels_leastAt (am_cl d) Q 46 = am_ex (am_cl d) (am_W kc_Quarrels_leastAt (am_cl d) Q) Q kb_Quarrels_leastAt_46 := am_wx rfl
theorem jx_Quarrels_leastAt_52 {d : Nat} {Q : am_Q} : am_W kc_Quarrels_leastAt (am_cl d) Q 52 = am_ex (am_cl d) (am_W kc_Quarrels_leastAt (am_cl d) Q) Q kb_Quarrels_leastAt_52 := am_wx rfl
theorem cx_Quarrels_findLeftOut {d : Nat} {args : List Value} {h : am_H} {Q : am_Q} : am_cl (d + 1) 106 args h Q = (Nat.ble (am_sz args) 3 = true ∧ am_ex (am_cl d) (am_W kc_Quarrels_findLeftOut (am_cl d) Q) Q kb_Quarrels_findLeftOut_0 (am_ent args 3) [] h) := am_clx rfl rfl
theorem jx_Quarrels_findLeftOut_9 {d : Nat} {Q : am_Q} : am_W kc_Quarrels_findLeftOut (am_cl d) Q 9 = am_ex (am_cl d) (am_W kc_Quarrels_findLeftOut (am_cl d) Q) Q kb_Quarrels_findLeftOut_9 := am_wx rfl
theorem jx_Quarrels_findLeftOut_27 {d : Nat} {Q : am_Q} : am_W kc_Quarrels_findLeftOut (am_cl d) Q 27 = am_ex (am_cl d) (am_W kc_Quarrels_findLeftOut (am_cl d) Q) Q kb_Quarrels_findLeftOut_27 := am_wx rfl
theorem jx_Quarrels_findLeftOut_68 {d : Nat} {Q : am_Q} : am_W kc_Quarrels_findLeftOut (am_cl d) Q 68 = am_ex (am_cl d) (am_W kc_Quarrels_findLeftOut (am_cl d) Q) Q kb_Quarrels_findLeftOut_68 := am_wx rfl
theorem jx_Quarrels_findLeftOut_74 {d : Nat} {Q : am_Q} : am_W kc_Quarrels_findLeftOut (am_cl d) Q 74 = am_ex (am_cl d) (am_W kc_Quarrels_findLeftOut (am_cl d) Q) Q kb_Quarrels_findLeftOut_74 := am_wx rfl
theorem jx_Quarrels_findLeftOut_80 {d : Nat} {Q : am_Q} : am_W kc_Quarrels_findLeftOut (am_cl d) Q 80 = am_ex (am_cl d) (am_W kc_Quarrels_findLeftOut (am_cl d) Q) Q kb_Quarrels_findLeftOut_80 := am_wx rfl
theorem cx_Reader_init {d : Nat} {args : List Value} {h : am_H} {Q : am_Q} : am_cl (d + 1) 107 args h Q = (Nat.ble (am_sz args) 1 = true ∧ am_ex (am_cl d) (am_W kc_Reader_init (am_cl d) Q) Q kb_Reader_init_0 (am_ent args 1) [] h) := am_clx rfl rfl
theorem cx_Reader_append {d : Nat} {args : List Value} {h : am_H} {Q : am_Q} : am_cl (d + 1) 108 args h Q = (Nat.ble (am_sz args) 3 = true ∧ am_ex (am_cl d) (am_W kc_Reader_append (am_cl d) Q) Q kb_Reader_append_0 (am_ent args 3) [] h) := am_clx rfl rfl
theorem jx_Reader_append_3 {d : Nat} {Q : am_Q} : am_W kc_Reader_append (am_cl d) Q 3 = am_ex (am_cl d) (am_W kc_Reader_append (am_cl d) Q) Q kb_Reader_append_3 := am_wx rfl
theorem jx_Reader_append_40 {d : Nat} {Q : am_Q} : am_W kc_Reader_append (am_cl d) Q 40 = am_ex (am_cl d) (am_W kc_Reader_append (am_cl d) Q) Q kb_Reader_append_40 := am_wx rfl
theorem jx_Reader_append_46 {d : Nat} {Q : am_Q} : am_W kc_Reader_append (am_cl d) Q 46 = am_ex (am_cl d) (am_W kc_Reader_append (am_cl d) Q) Q kb_Reader_append_46 := am_wx rfl
theorem cx_Reader_read {d : Nat} {args : List Value} {h : am_H} {Q : am_Q} : am_cl (d + 1) 109 args h Q = (Nat.ble (am_sz args) 6 = true ∧ am_ex (am_cl d) (am_W kc_Reader_read (am_cl d) Q) Q kb_Reader_read_0 (am_ent args 6) [] h) := am_clx rfl rfl
theorem jx_Reader_read_63 {d : Nat} {Q : am_Q} : am_W kc_Reader_read (am_cl d) Q 63 = am_ex (am_cl d) (am_W kc_Reader_read (am_cl d) Q) Q kb_Reader_read_63 := am_wx rfl
theorem jx_Reader_read_64 {d : Nat} {Q : am_Q} : am_W kc_Reader_read (am_cl d) Q 64 = am_ex (am_cl d) (am_W kc_Reader_read (am_cl d) Q) Q kb_Reader_read_64 := am_wx rfl
theorem jx_Reader_read_74 {d : Nat} {Q : am_Q} : am_W kc_Reader_read (am_cl d) Q 74 = am_ex (am_cl d) (am_W kc_Reader_read (am_cl d) Q) Q kb_Reader_read_74 := am_wx rfl
theorem jx_Reader_read_78 {d : Nat} {Q : am_Q} : am_W kc_Reader_read (am_cl d) Q 78 = am_ex (am_cl d) (am_W kc_Reader_read (am_cl d) Q) Q kb_Reader_read_78 := am_wx rfl
theorem jx_Reader_read_92 {d : Nat} {Q : am_Q} : am_W kc_Reader_read (am_cl d) Q 92 = am_ex (am_cl d) (am_W kc_Reader_read (am_cl d) Q) Q kb_Reader_read_92 := am_wx rfl
theorem jx_Reader_read_127 {d : Nat} {Q : am_Q} : am_W kc_Reader_read (am_cl d) Q 127 = am_ex (am_cl d) (am_W kc_Reader_read (am_cl d) Q) Q kb_Reader_read_127 := am_wx rfl
theorem jx_Reader_read_131 {d : Nat} {Q : am_Q} : am_W kc_Reader_read (am_cl d) Q 131 = am_ex (am_cl d) (am_W kc_Reader_read (am_cl d) Q) Q kb_Reader_read_131 := am_wx rfl
theorem jx_Reader_read_132 {d : Nat} {Q : am_Q} : am_W kc_Reader_read (am_cl d) Q 132 = am_ex (am_cl d) (am_W kc_Reader_read (am_cl d) Q) Q kb_Reader_read_132 := am_wx rfl
theorem jx_Reader_read_144 {d : Nat} {Q : am_Q} : am_W kc_Reader_read (am_cl d) Q 144 = am_ex (am_cl d) (am_W kc_Reader_read (am_cl d) Q) Q kb_Reader_read_144 := am_wx rfl
theorem jx_Reader_read_148 {d : Nat} {Q : am_Q} : am_W kc_Reader_read (am_cl d) Q 148 = am_ex (am_cl d) (am_W kc_Reader_read (am_cl d) Q) Q kb_Reader_read_148 := am_wx rfl
theorem jx_Reader_read_161 {d : Nat} {Q : am_Q} : am_W kc_Reader_read (am_cl d) Q 161 = am_ex (am_cl d) (am_W kc_Reader_read (am_cl d) Q) Q kb_Reader_read_161 := am_wx rfl
theorem jx_Reader_read_165 {d : Nat} {Q : am_Q} : am_W kc_Reader_read (am_cl d) Q 165 = am_ex (am_cl d) (am_W kc_Reader_read (am_cl d) Q) Q kb_Reader_read_165 := am_wx rfl
theorem cx_Reader_tellSimple {d : Nat} {args : List Value} {h : am_H} {Q : am_Q} : am_cl (d + 1) 110 args h Q = (Nat.ble (am_sz args) 4 = true ∧ am_ex (am_cl d) (am_W kc_Reader_tellSimple (am_cl d) Q) Q kb_Reader_tellSimple_0 (am_ent args 4) [] h) := am_clx rfl rfl
theorem jx_Reader_tellSimple_38 {d : Nat} {Q : am_Q} : am_W kc_Reader_tellSimple (am_cl d) Q 38 = am_ex (am_cl d) (am_W kc_Reader_tellSimple (am_cl d) Q) Q kb_Reader_tellSimple_38 := am_wx rfl
theorem jx_Reader_tellSimple_39 {d : Nat} {Q : am_Q} : am_W kc_Reader_tellSimple (am_cl d) Q 39 = am_ex (am_cl d) (am_W kc_Reader_tellSimple (am_cl d) Q) Q kb_Reader_tellSimple_39 := am_wx rfl
theorem jx_Reader_tellSimple_45 {d : Nat} {Q : am_Q} : am_W kc_Reader_tellSimple (am_cl d) Q 45 = am_ex (am_cl d) (am_W kc_Reader_tellSimple (am_cl d) Q) Q kb_Reader_tellSimple_45 := am_wx rfl
theorem jx_Reader_tellSimple_58 {d : Nat} {Q : am_Q} : am_W kc_Reader_tellSimple (am_cl d) Q 58 = am_ex (am_cl d) (am_W kc_Reader_tellSimple (am_cl d) Q) Q kb_Reader_tellSimple_58 := am_wx rfl
theorem jx_Reader_tellSimple_59 {d : Nat} {Q : am_Q} : am_W kc_Reader_tellSimple (am_cl d) Q 59 = am_ex (am_cl d) (am_W kc_Reader_tellSimple (am_cl d) Q) Q kb_Reader_tellSimple_59 := am_wx rfl
theorem jx_Reader_tellSimple_62 {d : Nat} {Q : am_Q} : am_W kc_Reader_tellSimple (am_cl d) Q 62 = am_ex (am_cl d) (am_W kc_Reader_tellSimple (am_cl d) Q) Q kb_Reader_tellSimple_62 := am_wx rfl
theorem cx_Reader_tellSet {d : Nat} {args : List Value} {h : am_H} {Q : am_Q} : am_cl (d + 1) 111 args h Q = (Nat.ble (am_sz args) 9 = true ∧ am_ex (am_cl d) (am_W kc_Reader_tellSet (am_cl d) Q) Q kb_Reader_tellSet_0 (am_ent args 9) [] h) := am_clx rfl rfl
theorem jx_Reader_tellSet_25 {d : Nat} {Q : am_Q} : am_W kc_Reader_tellSet (am_cl d) Q 25 = am_ex (am_cl d) (am_W kc_Reader_tellSet (am_cl d) Q) Q kb_Reader_tellSet_25 := am_wx rfl
theorem jx_Reader_tellSet_49 {d : Nat} {Q : am_Q} : am_W kc_Reader_tellSet (am_cl d) Q 49 = am_ex (am_cl d) (am_W kc_Reader_tellSet (am_cl d) Q) Q kb_Reader_tellSet_49 := am_wx rfl
theorem jx_Reader_tellSet_53 {d : Nat} {Q : am_Q} : am_W kc_Reader_tellSet (am_cl d) Q 53 = am_ex (am_cl d) (am_W kc_Reader_tellSet (am_cl d) Q) Q kb_Reader_tellSet_53 := am_wx rfl
theorem jx_Reader_tellSet_54 {d : Nat} {Q : am_Q} : am_W kc_Reader_tellSet (am_cl d) Q 54 = am_ex (am_cl d) (am_W kc_Reader_tellSet (am_cl d) Q) Q kb_Reader_tellSet_54 := am_wx rfl
theorem jx_Reader_tellSet_57 {d : Nat} {Q : am_Q} : am_W kc_Reader_tellSet (am_cl d) Q 57 = am_ex (am_cl d) (am_W kc_Reader_tellSet (am_cl d) Q) Q kb_Reader_tellSet_57 := am_wx rfl
theorem jx_Reader_tellSet_87 {d : Nat} {Q : am_Q} : am_W kc_Reader_tellSet (am_cl d) Q 87 = am_ex (am_cl d) (am_W kc_Reader_tellSet (am_cl d) Q) Q kb_Reader_tellSet_87 := am_wx rfl
theorem jx_Reader_tellSet_88 {d : Nat} {Q : am_Q} : am_W kc_Reader_tellSet (am_cl d) Q 88 = am_ex (am_cl d) (am_W kc_Reader_tellSet (am_cl d) Q) Q kb_Reader_tellSet_88 := am_wx rfl
theorem jx_Reader_tellSet_94 {d : Nat} {Q : am_Q} : am_W kc_Reader_tellSet (am_cl d) Q 94 = am_ex (am_cl d) (am_W kc_Reader_tellSet (am_cl d) Q) Q kb_Reader_tellSet_94 := am_wx rfl
theorem jx_Reader_tellSet_154 {d : Nat} {Q : am_Q} : am_W kc_Reader_tellSet (am_cl d) Q 154 = am_ex (am_cl d) (am_W kc_Reader_tellSet (am_cl d) Q) Q kb_Reader_tellSet_154 := am_wx rfl
theorem cx_Reader_meant {d : Nat} {args : List Value} {h : am_H} {Q : am_Q} : am_cl (d + 1) 112 args h Q = (Nat.ble (am_sz args) 5 = true ∧ am_ex (am_cl d) (am_W kc_Reader_meant (am_cl d) Q) Q kb_Reader_meant_0 (am_ent args 5) [] h) := am_clx rfl rfl
theorem jx_Reader_meant_44 {d : Nat} {Q : am_Q} : am_W kc_Reader_meant (am_cl d) Q 44 = am_ex (am_cl d) (am_W kc_Reader_meant (am_cl d) Q) Q kb_Reader_meant_44 := am_wx rfl
theorem jx_Reader_meant_59 {d : Nat} {Q : am_Q} : am_W kc_Reader_meant (am_cl d) Q 59 = am_ex (am_cl d) (am_W kc_Reader_meant (am_cl d) Q) Q kb_Reader_meant_59 := am_wx rfl
theorem jx_Reader_meant_60 {d : Nat} {Q : am_Q} : am_W kc_Reader_meant (am_cl d) Q 60 = am_ex (am_cl d) (am_W kc_Reader_meant (am_cl d) Q) Q kb_Reader_meant_60 := am_wx rfl
theorem jx_Reader_meant_61 {d : Nat} {Q : am_Q} : am_W kc_Reader_meant (am_cl d) Q 61 = am_ex (am_cl d) (am_W kc_Reader_meant (am_cl d) Q) Q kb_Reader_meant_61 := am_wx rfl
theorem jx_Reader_meant_63 {d : Nat} {Q : am_Q} : am_W kc_Reader_meant (am_cl d) Q 63 = am_ex (am_cl d) (am_W kc_Reader_meant (am_cl d) Q) Q kb_Reader_meant_63 := am_wx rfl
theorem jx_Reader_meant_67 {d : Nat} {Q : am_Q} : am_W kc_Reader_meant (am_cl d) Q 67 = am_ex (am_cl d) (am_W kc_Reader_meant (am_cl d) Q) Q kb_Reader_meant_67 := am_wx rfl
theorem jx_Reader_meant_83 {d : Nat} {Q : am_Q} : am_W kc_Reader_meant (am_cl d) Q 83 = am_ex (am_cl d) (am_W kc_Reader_meant (am_cl d) Q) Q kb_Reader_meant_83 := am_wx rfl
theorem jx_Reader_meant_84 {d : Nat} {Q : am_Q} : am_W kc_Reader_meant (am_cl d) Q 84 = am_ex (am_cl d) (am_W kc_Reader_meant (am_cl d) Q) Q kb_Reader_meant_84 := am_wx rfl
theorem jx_Reader_meant_86 {d : Nat} {Q : am_Q} : am_W kc_Reader_meant (am_cl d) Q 86 = am_ex (am_cl d) (am_W kc_Reader_meant (am_cl d) Q) Q kb_Reader_meant_86 := am_wx rfl
theorem cx_Reader_parse {d : Nat} {args : List Value} {h : am_H} {Q : am_Q} : am_cl (d + 1) 113 args h Q = (Nat.ble (am_sz args) 1 = true ∧ am_ex (am_cl d) (am_W kc_Reader_parse (am_cl d) Q) Q kb_Reader_parse_0 (am_ent args 1) [] h) := am_clx rfl rfl
theorem jx_Reader_parse_48 {d : Nat} {Q : am_Q} : am_W kc_Reader_parse (am_cl d) Q 48 = am_ex (am_cl d) (am_W kc_Reader_parse (am_cl d) Q) Q kb_Reader_parse_48 := am_wx rfl
theorem jx_Reader_parse_78 {d : Nat} {Q : am_Q} : am_W kc_Reader_parse (am_cl d) Q 78 = am_ex (am_cl d) (am_W kc_Reader_parse (am_cl d) Q) Q kb_Reader_parse_78 := am_wx rfl
theorem jx_Reader_parse_79 {d : Nat} {Q : am_Q} : am_W kc_Reader_parse (am_cl d) Q 79 = am_ex (am_cl d) (am_W kc_Reader_parse (am_cl d) Q) Q kb_Reader_parse_79 := am_wx rfl
theorem jx_Reader_parse_80 {d : Nat} {Q : am_Q} : am_W kc_Reader_parse (am_cl d) Q 80 = am_ex (am_cl d) (am_W kc_Reader_parse (am_cl d) Q) Q kb_Reader_parse_80 := am_wx rfl
theorem jx_Reader_parse_105 {d : Nat} {Q : am_Q} : am_W kc_Reader_parse (am_cl d) Q 105 = am_ex (am_cl d) (am_W kc_Reader_parse (am_cl d) Q) Q kb_Reader_parse_105 := am_wx rfl
theorem jx_Reader_parse_135 {d : Nat} {Q : am_Q} : am_W kc_Reader_parse (am_cl d) Q 135 = am_ex (am_cl d) (am_W kc_Reader_parse (am_cl d) Q) Q kb_Reader_parse_135 := am_wx rfl
theorem jx_Reader_parse_136 {d : Nat} {Q : am_Q} : am_W kc_Reader_parse (am_cl d) Q 136 = am_ex (am_cl d) (am_W kc_Reader_parse (am_cl d) Q) Q kb_Reader_parse_136 := am_wx rfl
theorem jx_Reader_parse_137 {d : Nat} {Q : am_Q} : am_W kc_Reader_parse (am_cl d) Q 137 = am_ex (am_cl d) (am_W kc_Reader_parse (am_cl d) Q) Q kb_Reader_parse_137 := am_wx rfl
theorem jx_Reader_parse_155 {d : Nat} {Q : am_Q} : am_W kc_Reader_parse (am_cl d) Q 155 = am_ex (am_cl d) (am_W kc_Reader_parse (am_cl d) Q) Q kb_Reader_parse_155 := am_wx rfl
theorem jx_Reader_parse_178 {d : Nat} {Q : am_Q} : am_W kc_Reader_parse (am_cl d) Q 178 = am_ex (am_cl d) (am_W kc_Reader_parse (am_cl d) Q) Q kb_Reader_parse_178 := am_wx rfl
theorem jx_Reader_parse_203 {d : Nat} {Q : am_Q} : am_W kc_Reader_parse (am_cl d) Q 203 = am_ex (am_cl d) (am_W kc_Reader_parse (am_cl d) Q) Q kb_Reader_parse_203 := am_wx rfl
theorem jx_Reader_parse_205 {d : Nat} {Q : am_Q} : am_W kc_Reader_parse (am_cl d) Q 205 = am_ex (am_cl d) (am_W kc_Reader_parse (am_cl d) Q) Q kb_Reader_parse_205 := am_wx rfl
theorem jx_Reader_parse_227 {d : Nat} {Q : am_Q} : am_W kc_Reader_parse (am_cl d) Q 227 = am_ex (am_cl d) (am_W kc_Reader_parse (am_cl d) Q) Q kb_Reader_parse_227 := am_wx rfl
theorem jx_Reader_parse_228 {d : Nat} {Q : am_Q} : am_W kc_Reader_parse (am_cl d) Q 228 = am_ex (am_cl d) (am_W kc_Reader_parse (am_cl d) Q) Q kb_Reader_parse_228 := am_wx rfl
theorem jx_Reader_parse_251 {d : Nat} {Q : am_Q} : am_W kc_Reader_parse (am_cl d) Q 251 = am_ex (am_cl d) (am_W kc_Reader_parse (am_cl d) Q) Q kb_Reader_parse_251 := am_wx rfl
theorem jx_Reader_parse_252 {d : Nat} {Q : am_Q} : am_W kc_Reader_parse (am_cl d) Q 252 = am_ex (am_cl d) (am_W kc_Reader_parse (am_cl d) Q) Q kb_Reader_parse_252 := am_wx rfl
theorem cx_Reader_formHere {d : Nat} {args : List Value} {h : am_H} {Q : am_Q} : am_cl (d + 1) 114 args h Q = (Nat.ble (am_sz args) 1 = true ∧ am_ex (am_cl d) (am_W kc_Reader_formHere (am_cl d) Q) Q kb_Reader_formHere_0 (am_ent args 1) [] h) := am_clx rfl rfl
theorem jx_Reader_formHere_11 {d : Nat} {Q : am_Q} : am_W kc_Reader_formHere (am_cl d) Q 11 = am_ex (am_cl d) (am_W kc_Reader_formHere (am_cl d) Q) Q kb_Reader_formHere_11 := am_wx rfl
theorem jx_Reader_formHere_22 {d : Nat} {Q : am_Q} : am_W kc_Reader_formHere (am_cl d) Q 22 = am_ex (am_cl d) (am_W kc_Reader_formHere (am_cl d) Q) Q kb_Reader_formHere_22 := am_wx rfl
theorem jx_Reader_formHere_33 {d : Nat} {Q : am_Q} : am_W kc_Reader_formHere (am_cl d) Q 33 = am_ex (am_cl d) (am_W kc_Reader_formHere (am_cl d) Q) Q kb_Reader_formHere_33 := am_wx rfl
theorem jx_Reader_formHere_44 {d : Nat} {Q : am_Q} : am_W kc_Reader_formHere (am_cl d) Q 44 = am_ex (am_cl d) (am_W kc_Reader_formHere (am_cl d) Q) Q kb_Reader_formHere_44 := am_wx rfl
theorem jx_Reader_formHere_57 {d : Nat} {Q : am_Q} : am_W kc_Reader_formHere (am_cl d) Q 57 = am_ex (am_cl d) (am_W kc_Reader_formHere (am_cl d) Q) Q kb_Reader_formHere_57 := am_wx rfl
theorem jx_Reader_formHere_58 {d : Nat} {Q : am_Q} : am_W kc_Reader_formHere (am_cl d) Q 58 = am_ex (am_cl d) (am_W kc_Reader_formHere (am_cl d) Q) Q kb_Reader_formHere_58 := am_wx rfl
theorem cx_Reader_term {d : Nat} {args : List Value} {h : am_H} {Q : am_Q} : am_cl (d + 1) 115 args h Q = (Nat.ble (am_sz args) 4 = true ∧ am_ex (am_cl d) (am_W kc_Reader_term (am_cl d) Q) Q kb_Reader_term_0 (am_ent args 4) [] h) := am_clx rfl rfl
theorem jx_Reader_term_8 {d : Nat} {Q : am_Q} : am_W kc_Reader_term (am_cl d) Q 8 = am_ex (am_cl d) (am_W kc_Reader_term (am_cl d) Q) Q kb_Reader_term_8 := am_wx rfl
theorem jx_Reader_term_49 {d : Nat} {Q : am_Q} : am_W kc_Reader_term (am_cl d) Q 49 = am_ex (am_cl d) (am_W kc_Reader_term (am_cl d) Q) Q kb_Reader_term_49 := am_wx rfl
theorem cx_Reader_both {d : Nat} {args : List Value} {h : am_H} {Q : am_Q} : am_cl (d + 1) 116 args h Q = (Nat.ble (am_sz args) 4 = true ∧ am_ex (am_cl d) (am_W kc_Reader_both (am_cl d) Q) Q kb_Reader_both_0 (am_ent args 4) [] h) := am_clx rfl rfl
theorem jx_Reader_both_8 {d : Nat} {Q : am_Q} : am_W kc_Reader_both (am_cl d) Q 8 = am_ex (am_cl d) (am_W kc_Reader_both (am_cl d) Q) Q kb_Reader_both_8 := am_wx rfl
theorem jx_Reader_both_54 {d : Nat} {Q : am_Q} : am_W kc_Reader_both (am_cl d) Q 54 = am_ex (am_cl d) (am_W kc_Reader_both (am_cl d) Q) Q kb_Reader_both_54 := am_wx rfl
theorem jx_Reader_both_55 {d : Nat} {Q : am_Q} : am_W kc_Reader_both (am_cl d) Q 55 = am_ex (am_cl d) (am_W kc_Reader_both (am_cl d) Q) Q kb_Reader_both_55 := am_wx rfl
theorem jx_Reader_both_62 {d : Nat} {Q : am_Q} : am_W kc_Reader_both (am_cl d) Q 62 = am_ex (am_cl d) (am_W kc_Reader_both (am_cl d) Q) Q kb_Reader_both_62 := am_wx rfl
theorem cx_Reader_plain {d : Nat} {args : List Value} {h : am_H} {Q : am_Q} : am_cl (d + 1) 117 args h Q = (Nat.ble (am_sz args) 4 = true ∧ am_ex (am_cl d) (am_W kc_Reader_plain (am_cl d) Q) Q kb_Reader_plain_0 (am_ent args 4) [] h) := am_clx rfl rfl
theorem jx_Reader_plain_2 {d : Nat} {Q : am_Q} : am_W kc_Reader_plain (am_cl d) Q 2 = am_ex (am_cl d) (am_W kc_Reader_plain (am_cl d) Q) Q kb_Reader_plain_2 := am_wx rfl
theorem jx_Reader_plain_24 {d : Nat} {Q : am_Q} : am_W kc_Reader_plain (am_cl d) Q 24 = am_ex (am_cl d) (am_W kc_Reader_plain (am_cl d) Q) Q kb_Reader_plain_24 := am_wx rfl
theorem jx_Reader_plain_85 {d : Nat} {Q : am_Q} : am_W kc_Reader_plain (am_cl d) Q 85 = am_ex (am_cl d) (am_W kc_Reader_plain (am_cl d) Q) Q kb_Reader_plain_85 := am_wx rfl
theorem jx_Reader_plain_123 {d : Nat} {Q : am_Q} : am_W kc_Reader_plain (am_cl d) Q 123 = am_ex (am_cl d) (am_W kc_Reader_plain (am_cl d) Q) Q kb_Reader_plain_123 := am_wx rfl
theorem cx_Reader_pass {d : Nat} {args : List Value} {h : am_H} {Q : am_Q} : am_cl (d + 1) 118 args h Q = (Nat.ble (am_sz args) 2 = true ∧ am_ex (am_cl d) (am_W kc_Reader_pass (am_cl d) Q) Q kb_Reader_pass_0 (am_ent args 2) [] h) := am_clx rfl rfl
theorem jx_Reader_pass_10 {d : Nat} {Q : am_Q} : am_W kc_Reader_pass (am_cl d) Q 10 = am_ex (am_cl d) (am_W kc_Reader_pass (am_cl d) Q) Q kb_Reader_pass_10 := am_wx rfl
theorem cx_Reader_isAt {d : Nat} {args : List Value} {h : am_H} {Q : am_Q} : am_cl (d + 1) 119 args h Q = (Nat.ble (am_sz args) 4 = true ∧ am_ex (am_cl d) (am_W kc_Reader_isAt (am_cl d) Q) Q kb_Reader_isAt_0 (am_ent args 4) [] h) := am_clx rfl rfl
theorem jx_Reader_isAt_20 {d : Nat} {Q : am_Q} : am_W kc_Reader_isAt (am_cl d) Q 20 = am_ex (am_cl d) (am_W kc_Reader_isAt (am_cl d) Q) Q kb_Reader_isAt_20 := am_wx rfl
theorem jx_Reader_isAt_22 {d : Nat} {Q : am_Q} : am_W kc_Reader_isAt (am_cl d) Q 22 = am_ex (am_cl d) (am_W kc_Reader_isAt (am_cl d) Q) Q kb_Reader_isAt_22 := am_wx rfl
theorem jx_Reader_isAt_48 {d : Nat} {Q : am_Q} : am_W kc_Reader_isAt (am_cl d) Q 48 = am_ex (am_cl d) (am_W kc_Reader_isAt (am_cl d) Q) Q kb_Reader_isAt_48 := am_wx rfl
theorem jx_Reader_isAt_54 {d : Nat} {Q : am_Q} : am_W kc_Reader_isAt (am_cl d) Q 54 = am_ex (am_cl d) (am_W kc_Reader_isAt (am_cl d) Q) Q kb_Reader_isAt_54 := am_wx rfl
theorem cx_Reader_isSign {d : Nat} {args : List Value} {h : am_H} {Q : am_Q} : am_cl (d + 1) 120 args h Q = (Nat.ble (am_sz args) 3 = true ∧ am_ex (am_cl d) (am_W kc_Reader_isSign (am_cl d) Q) Q kb_Reader_isSign_0 (am_ent args 3) [] h) := am_clx rfl rfl
theorem jx_Reader_isSign_43 {d : Nat} {Q : am_Q} : am_W kc_Reader_isSign (am_cl d) Q 43 = am_ex (am_cl d) (am_W kc_Reader_isSign (am_cl d) Q) Q kb_Reader_isSign_43 := am_wx rfl
theorem jx_Reader_isSign_44 {d : Nat} {Q : am_Q} : am_W kc_Reader_isSign (am_cl d) Q 44 = am_ex (am_cl d) (am_W kc_Reader_isSign (am_cl d) Q) Q kb_Reader_isSign_44 := am_wx rfl
theorem cx_Reader_step {d : Nat} {args : List Value} {h : am_H} {Q : am_Q} : am_cl (d + 1) 121 args h Q = (Nat.ble (am_sz args) 1 = true ∧ am_ex (am_cl d) (am_W kc_Reader_step (am_cl d) Q) Q kb_Reader_step_0 (am_ent args 1) [] h) := am_clx rfl rfl
theorem jx_Reader_step_8 {d : Nat} {Q : am_Q} : am_W kc_Reader_step (am_cl d) Q 8 = am_ex (am_cl d) (am_W kc_Reader_step (am_cl d) Q) Q kb_Reader_step_8 := am_wx rfl
theorem jx_Reader_step_46 {d : Nat} {Q : am_Q} : am_W kc_Reader_step (am_cl d) Q 46 = am_ex (am_cl d) (am_W kc_Reader_step (am_cl d) Q) Q kb_Reader_step_46 := am_wx rfl
theorem jx_Reader_step_54 {d : Nat} {Q : am_Q} : am_W kc_Reader_step (am_cl d) Q 54 = am_ex (am_cl d) (am_W kc_Reader_step (am_cl d) Q) Q kb_Reader_step_54 := am_wx rfl
theorem jx_Reader_step_106 {d : Nat} {Q : am_Q} : am_W kc_Reader_step (am_cl d) Q 106 = am_ex (am_cl d) (am_W kc_Reader_step (am_cl d) Q) Q kb_Reader_step_106 := am_wx rfl
theorem jx_Reader_step_138 {d : Nat} {Q : am_Q} : am_W kc_Reader_step (am_cl d) Q 138 = am_ex (am_cl d) (am_W kc_Reader_step (am_cl d) Q) Q kb_Reader_step_138 := am_wx rfl
theorem cx_Reader_writeDown {d : Nat} {args : List Value} {h : am_H} {Q : am_Q} : am_cl (d + 1) 122 args h Q = (Nat.ble (am_sz args) 1 = true ∧ am_ex (am_cl d) (am_W kc_Reader_writeDown (am_cl d) Q) Q kb_Reader_writeDown_0 (am_ent args 1) [] h) := am_clx rfl rfl
theorem jx_Reader_writeDown_47 {d : Nat} {Q : am_Q} : am_W kc_Reader_writeDown (am_cl d) Q 47 = am_ex (am_cl d) (am_W kc_Reader_writeDown (am_cl d) Q) Q kb_Reader_writeDown_47 := am_wx rfl
theorem jx_Reader_writeDown_49 {d : Nat} {Q : am_Q} : am_W kc_Reader_writeDown (am_cl d) Q 49 = am_ex (am_cl d) (am_W kc_Reader_writeDown (am_cl d) Q) Q kb_Reader_writeDown_49 := am_wx rfl
theorem jx_Reader_writeDown_75 {d : Nat} {Q : am_Q} : am_W kc_Reader_writeDown (am_cl d) Q 75 = am_ex (am_cl d) (am_W kc_Reader_writeDown (am_cl d) Q) Q kb_Reader_writeDown_75 := am_wx rfl
theorem jx_Reader_writeDown_76 {d : Nat} {Q : am_Q} : am_W kc_Reader_writeDown (am_cl d) Q 76 = am_ex (am_cl d) (am_W kc_Reader_writeDown (am_cl d) Q) Q kb_Reader_writeDown_76 := am_wx rfl
theorem jx_Reader_writeDown_82 {d : Nat} {Q : am_Q} : am_W kc_Reader_writeDown (am_cl d) Q 82 = am_ex (am_cl d) (am_W kc_Reader_writeDown (am_cl d) Q) Q kb_Reader_writeDown_82 := am_wx rfl
theorem jx_Reader_writeDown_106 {d : Nat} {Q : am_Q} : am_W kc_Reader_writeDown (am_cl d) Q 106 = am_ex (am_cl d) (am_W kc_Reader_writeDown (am_cl d) Q) Q kb_Reader_writeDown_106 := am_wx rfl
theorem jx_Reader_writeDown_108 {d : Nat} {Q : am_Q} : am_W kc_Reader_writeDown (am_cl d) Q 108 = am_ex (am_cl d) (am_W kc_Reader_writeDown (am_cl d) Q) Q kb_Reader_writeDown_108 := am_wx rfl
theorem jx_Reader_writeDown_130 {d : Nat} {Q : am_Q} : am_W kc_Reader_writeDown (am_cl d) Q 130 = am_ex (am_cl d) (am_W kc_Reader_writeDown (am_cl d) Q) Q kb_Reader_writeDown_130 := am_wx rfl
theorem jx_Reader_writeDown_173 {d : Nat} {Q : am_Q} : am_W kc_Reader_writeDown (am_cl d) Q 173 = am_ex (am_cl d) (am_W kc_Reader_writeDown (am_cl d) Q) Q kb_Reader_writeDown_173 := am_wx rfl
theorem jx_Reader_writeDown_175 {d : Nat} {Q : am_Q} : am_W kc_Reader_writeDown (am_cl d) Q 175 = am_ex (am_cl d) (am_W kc_Reader_writeDown (am_cl d) Q) Q kb_Reader_writeDown_175 := am_wx rfl
theorem jx_Reader_writeDown_209 {d : Nat} {Q : am_Q} : am_W kc_Reader_writeDown (am_cl d) Q 209 = am_ex (am_cl d) (am_W kc_Reader_writeDown (am_cl d) Q) Q kb_Reader_writeDown_209 := am_wx rfl
theorem jx_Reader_writeDown_210 {d : Nat} {Q : am_Q} : am_W kc_Reader_writeDown (am_cl d) Q 210 = am_ex (am_cl d) (am_W kc_Reader_writeDown (am_cl d) Q) Q kb_Reader_writeDown_210 := am_wx rfl
theorem jx_Reader_writeDown_213 {d : Nat} {Q : am_Q} : am_W kc_Reader_writeDown (am_cl d) Q 213 = am_ex (am_cl d) (am_W kc_Reader_writeDown (am_cl d) Q) Q kb_Reader_writeDown_213 := am_wx rfl
theorem cx_Reader_leadingWords {d : Nat} {args : List Value} {h : am_H} {Q : am_Q} : am_cl (d + 1) 123 args h Q = (Nat.ble (am_sz args) 1 = true ∧ am_ex (am_cl d) (am_W kc_Reader_leadingWords (am_cl d) Q) Q kb_Reader_leadingWords_0 (am_ent args 1) [] h) := am_clx rfl rfl
theorem jx_Reader_leadingWords_36 {d : Nat} {Q : am_Q} : am_W kc_Reader_leadingWords (am_cl d) Q 36 = am_ex (am_cl d) (am_W kc_Reader_leadingWords (am_cl d) Q) Q kb_Reader_leadingWords_36 := am_wx rfl
theorem jx_Reader_leadingWords_39 {d : Nat} {Q : am_Q} : am_W kc_Reader_leadingWords (am_cl d) Q 39 = am_ex (am_cl d) (am_W kc_Reader_leadingWords (am_cl d) Q) Q kb_Reader_leadingWords_39 := am_wx rfl
theorem jx_Reader_leadingWords_42 {d : Nat} {Q : am_Q} : am_W kc_Reader_leadingWords (am_cl d) Q 42 = am_ex (am_cl d) (am_W kc_Reader_leadingWords (am_cl d) Q) Q kb_Reader_leadingWords_42 := am_wx rfl
theorem jx_Reader_leadingWords_45 {d : Nat} {Q : am_Q} : am_W kc_Reader_leadingWords (am_cl d) Q 45 = am_ex (am_cl d) (am_W kc_Reader_leadingWords (am_cl d) Q) Q kb_Reader_leadingWords_45 := am_wx rfl
theorem jx_Reader_leadingWords_48 {d : Nat} {Q : am_Q} : am_W kc_Reader_leadingWords (am_cl d) Q 48 = am_ex (am_cl d) (am_W kc_Reader_leadingWords (am_cl d) Q) Q kb_Reader_leadingWords_48 := am_wx rfl
theorem cx_Sentence_init {d : Nat} {args : List Value} {h : am_H} {Q : am_Q} : am_cl (d + 1) 124 args h Q = (Nat.ble (am_sz args) 2 = true ∧ am_ex (am_cl d) (am_W kc_Sentence_init (am_cl d) Q) Q kb_Sentence_init_0 (am_ent args 2) [] h) := am_clx rfl rfl
theorem cx_Sentence_number {d : Nat} {args : List Value} {h : am_H} {Q : am_Q} : am_cl (d + 1) 125 args h Q = (Nat.ble (am_sz args) 1 = true ∧ am_ex (am_cl d) (am_W kc_Sentence_number (am_cl d) Q) Q kb_Sentence_number_0 (am_ent args 1) [] h) := am_clx rfl rfl
theorem jx_Sentence_number_12 {d : Nat} {Q : am_Q} : am_W kc_Sentence_number (am_cl d) Q 12 = am_ex (am_cl d) (am_W kc_Sentence_number (am_cl d) Q) Q kb_Sentence_number_12 := am_wx rfl
theorem jx_Sentence_number_27 {d : Nat} {Q : am_Q} : am_W kc_Sentence_number (am_cl d) Q 27 = am_ex (am_cl d) (am_W kc_Sentence_number (am_cl d) Q) Q kb_Sentence_number_27 := am_wx rfl
theorem cx_Sentence_setNumber {d : Nat} {args : List Value} {h : am_H} {Q : am_Q} : am_cl (d + 1) 126 args h Q = (Nat.ble (am_sz args) 2 = true ∧ am_ex (am_cl d) (am_W kc_Sentence_setNumber (am_cl d) Q) Q kb_Sentence_setNumber_0 (am_ent args 2) [] h) := am_clx rfl rfl
theorem cx_Sentence_setSimple {d : Nat} {args : List Value} {h : am_H} {Q : am_Q} : am_cl (d + 1) 127 args h Q = (Nat.ble (am_sz args) 10 = true ∧ am_ex (am_cl d) (am_W kc_Sentence_setSimple (am_cl d) Q) Q kb_Sentence_setSimple_0 (am_ent args 10) [] h) := am_clx rfl rfl
theorem jx_Sentence_setSimple_30 {d : Nat} {Q : am_Q} : am_W kc_Sentence_setSimple (am_cl d) Q 30 = am_ex (am_cl d) (am_W kc_Sentence_setSimple (am_cl d) Q) Q kb_Sentence_setSimple_30 := am_wx rfl
theorem jx_Sentence_setSimple_31 {d : Nat} {Q : am_Q} : am_W kc_Sentence_setSimple (am_cl d) Q 31 = am_ex (am_cl d) (am_W kc_Sentence_setSimple (am_cl d) Q) Q kb_Sentence_setSimple_31 := am_wx rfl
theorem jx_Sentence_setSimple_60 {d : Nat} {Q : am_Q} : am_W kc_Sentence_setSimple (am_cl d) Q 60 = am_ex (am_cl d) (am_W kc_Sentence_setSimple (am_cl d) Q) Q kb_Sentence_setSimple_60 := am_wx rfl
theorem jx_Sentence_setSimple_64 {d : Nat} {Q : am_Q} : am_W kc_Sentence_setSimple (am_cl d) Q 64 = am_ex (am_cl d) (am_W kc_Sentence_setSimple (am_cl d) Q) Q kb_Sentence_setSimple_64 := am_wx rfl
theorem jx_Sentence_setSimple_65 {d : Nat} {Q : am_Q} : am_W kc_Sentence_setSimple (am_cl d) Q 65 = am_ex (am_cl d) (am_W kc_Sentence_setSimple (am_cl d) Q) Q kb_Sentence_setSimple_65 := am_wx rfl
theorem jx_Sentence_setSimple_70 {d : Nat} {Q : am_Q} : am_W kc_Sentence_setSimple (am_cl d) Q 70 = am_ex (am_cl d) (am_W kc_Sentence_setSimple (am_cl d) Q) Q kb_Sentence_setSimple_70 := am_wx rfl
theorem jx_Sentence_setSimple_129 {d : Nat} {Q : am_Q} : am_W kc_Sentence_setSimple (am_cl d) Q 129 = am_ex (am_cl d) (am_W kc_Sentence_setSimple (am_cl d) Q) Q kb_Sentence_setSimple_129 := am_wx rfl
theorem jx_Sentence_setSimple_131 {d : Nat} {Q : am_Q} : am_W kc_Sentence_setSimple (am_cl d) Q 131 = am_ex (am_cl d) (am_W kc_Sentence_setSimple (am_cl d) Q) Q kb_Sentence_setSimple_131 := am_wx rfl
theorem jx_Sentence_setSimple_139 {d : Nat} {Q : am_Q} : am_W kc_Sentence_setSimple (am_cl d) Q 139 = am_ex (am_cl d) (am_W kc_Sentence_setSimple (am_cl d) Q) Q kb_Sentence_setSimple_139 := am_wx rfl
theorem cx_Sentence_tellsSubject {d : Nat} {args : List Value} {h : am_H} {Q : am_Q} : am_cl (d + 1) 128 args h Q = (Nat.ble (am_sz args) 2 = true ∧ am_ex (am_cl d) (am_W kc_Sentence_tellsSubject (am_cl d) Q) Q kb_Sentence_tellsSubject_0 (am_ent args 2) [] h) := am_clx rfl rfl
theorem jx_Sentence_tellsSubject_15 {d : Nat} {Q : am_Q} : am_W kc_Sentence_tellsSubject (am_cl d) Q 15 = am_ex (am_cl d) (am_W kc_Sentence_tellsSubject (am_cl d) Q) Q kb_Sentence_tellsSubject_15 := am_wx rfl
theorem jx_Sentence_tellsSubject_16 {d : Nat} {Q : am_Q} : am_W kc_Sentence_tellsSubject (am_cl d) Q 16 = am_ex (am_cl d) (am_W kc_Sentence_tellsSubject (am_cl d) Q) Q kb_Sentence_tellsSubject_16 := am_wx rfl
theorem cx_Syllogism_init {d : Nat} {args : List Value} {h : am_H} {Q : am_Q} : am_cl (d + 1) 129 args h Q = (Nat.ble (am_sz args) 1 = true ∧ am_ex (am_cl d) (am_W kc_Syllogism_init (am_cl d) Q) Q kb_Syllogism_init_0 (am_ent args 1) [] h) := am_clx rfl rfl
theorem cx_Syllogism_join {d : Nat} {args : List Value} {h : am_H} {Q : am_Q} : am_cl (d + 1) 130 args h Q = (Nat.ble (am_sz args) 9 = true ∧ am_ex (am_cl d) (am_W kc_Syllogism_join (am_cl d) Q) Q kb_Syllogism_join_0 (am_ent args 9) [] h) := am_clx rfl rfl
theorem jx_Syllogism_join_14 {d : Nat} {Q : am_Q} : am_W kc_Syllogism_join (am_cl d) Q 14 = am_ex (am_cl d) (am_W kc_Syllogism_join (am_cl d) Q) Q kb_Syllogism_join_14 := am_wx rfl
theorem jx_Syllogism_join_16 {d : Nat} {Q : am_Q} : am_W kc_Syllogism_join (am_cl d) Q 16 = am_ex (am_cl d) (am_W kc_Syllogism_join (am_cl d) Q) Q kb_Syllogism_join_16 := am_wx rfl
theorem jx_Syllogism_join_52 {d : Nat} {Q : am_Q} : am_W kc_Syllogism_join (am_cl d) Q 52 = am_ex (am_cl d) (am_W kc_Syllogism_join (am_cl d) Q) Q kb_Syllogism_join_52 := am_wx rfl
theorem jx_Syllogism_join_56 {d : Nat} {Q : am_Q} : am_W kc_Syllogism_join (am_cl d) Q 56 = am_ex (am_cl d) (am_W kc_Syllogism_join (am_cl d) Q) Q kb_Syllogism_join_56 := am_wx rfl
theorem jx_Syllogism_join_57 {d : Nat} {Q : am_Q} : am_W kc_Syllogism_join (am_cl d) Q 57 = am_ex (am_cl d) (am_W kc_Syllogism_join (am_cl d) Q) Q kb_Syllogism_join_57 := am_wx rfl
theorem jx_Syllogism_join_72 {d : Nat} {Q : am_Q} : am_W kc_Syllogism_join (am_cl d) Q 72 = am_ex (am_cl d) (am_W kc_Syllogism_join (am_cl d) Q) Q kb_Syllogism_join_72 := am_wx rfl
theorem jx_Syllogism_join_76 {d : Nat} {Q : am_Q} : am_W kc_Syllogism_join (am_cl d) Q 76 = am_ex (am_cl d) (am_W kc_Syllogism_join (am_cl d) Q) Q kb_Syllogism_join_76 := am_wx rfl
theorem jx_Syllogism_join_77 {d : Nat} {Q : am_Q} : am_W kc_Syllogism_join (am_cl d) Q 77 = am_ex (am_cl d) (am_W kc_Syllogism_join (am_cl d) Q) Q kb_Syllogism_join_77 := am_wx rfl
theorem jx_Syllogism_join_88 {d : Nat} {Q : am_Q} : am_W kc_Syllogism_join (am_cl d) Q 88 = am_ex (am_cl d) (am_W kc_Syllogism_join (am_cl d) Q) Q kb_Syllogism_join_88 := am_wx rfl
theorem jx_Syllogism_join_115 {d : Nat} {Q : am_Q} : am_W kc_Syllogism_join (am_cl d) Q 115 = am_ex (am_cl d) (am_W kc_Syllogism_join (am_cl d) Q) Q kb_Syllogism_join_115 := am_wx rfl
theorem jx_Syllogism_join_117 {d : Nat} {Q : am_Q} : am_W kc_Syllogism_join (am_cl d) Q 117 = am_ex (am_cl d) (am_W kc_Syllogism_join (am_cl d) Q) Q kb_Syllogism_join_117 := am_wx rfl
theorem jx_Syllogism_join_131 {d : Nat} {Q : am_Q} : am_W kc_Syllogism_join (am_cl d) Q 131 = am_ex (am_cl d) (am_W kc_Syllogism_join (am_cl d) Q) Q kb_Syllogism_join_131 := am_wx rfl
theorem jx_Syllogism_join_133 {d : Nat} {Q : am_Q} : am_W kc_Syllogism_join (am_cl d) Q 133 = am_ex (am_cl d) (am_W kc_Syllogism_join (am_cl d) Q) Q kb_Syllogism_join_133 := am_wx rfl
theorem jx_Syllogism_join_150 {d : Nat} {Q : am_Q} : am_W kc_Syllogism_join (am_cl d) Q 150 = am_ex (am_cl d) (am_W kc_Syllogism_join (am_cl d) Q) Q kb_Syllogism_join_150 := am_wx rfl
theorem jx_Syllogism_join_152 {d : Nat} {Q : am_Q} : am_W kc_Syllogism_join (am_cl d) Q 152 = am_ex (am_cl d) (am_W kc_Syllogism_join (am_cl d) Q) Q kb_Syllogism_join_152 := am_wx rfl
theorem jx_Syllogism_join_174 {d : Nat} {Q : am_Q} : am_W kc_Syllogism_join (am_cl d) Q 174 = am_ex (am_cl d) (am_W kc_Syllogism_join (am_cl d) Q) Q kb_Syllogism_join_174 := am_wx rfl
theorem jx_Syllogism_join_175 {d : Nat} {Q : am_Q} : am_W kc_Syllogism_join (am_cl d) Q 175 = am_ex (am_cl d) (am_W kc_Syllogism_join (am_cl d) Q) Q kb_Syllogism_join_175 := am_wx rfl
theorem jx_Syllogism_join_181 {d : Nat} {Q : am_Q} : am_W kc_Syllogism_join (am_cl d) Q 181 = am_ex (am_cl d) (am_W kc_Syllogism_join (am_cl d) Q) Q kb_Syllogism_join_181 := am_wx rfl
theorem jx_Syllogism_join_191 {d : Nat} {Q : am_Q} : am_W kc_Syllogism_join (am_cl d) Q 191 = am_ex (am_cl d) (am_W kc_Syllogism_join (am_cl d) Q) Q kb_Syllogism_join_191 := am_wx rfl
theorem jx_Syllogism_join_192 {d : Nat} {Q : am_Q} : am_W kc_Syllogism_join (am_cl d) Q 192 = am_ex (am_cl d) (am_W kc_Syllogism_join (am_cl d) Q) Q kb_Syllogism_join_192 := am_wx rfl
theorem jx_Syllogism_join_195 {d : Nat} {Q : am_Q} : am_W kc_Syllogism_join (am_cl d) Q 195 = am_ex (am_cl d) (am_W kc_Syllogism_join (am_cl d) Q) Q kb_Syllogism_join_195 := am_wx rfl
theorem cx_Syllogism_learn {d : Nat} {args : List Value} {h : am_H} {Q : am_Q} : am_cl (d + 1) 131 args h Q = (Nat.ble (am_sz args) 3 = true ∧ am_ex (am_cl d) (am_W kc_Syllogism_learn (am_cl d) Q) Q kb_Syllogism_learn_0 (am_ent args 3) [] h) := am_clx rfl rfl
theorem jx_Syllogism_learn_16 {d : Nat} {Q : am_Q} : am_W kc_Syllogism_learn (am_cl d) Q 16 = am_ex (am_cl d) (am_W kc_Syllogism_learn (am_cl d) Q) Q kb_Syllogism_learn_16 := am_wx rfl
theorem jx_Syllogism_learn_18 {d : Nat} {Q : am_Q} : am_W kc_Syllogism_learn (am_cl d) Q 18 = am_ex (am_cl d) (am_W kc_Syllogism_learn (am_cl d) Q) Q kb_Syllogism_learn_18 := am_wx rfl
theorem jx_Syllogism_learn_60 {d : Nat} {Q : am_Q} : am_W kc_Syllogism_learn (am_cl d) Q 60 = am_ex (am_cl d) (am_W kc_Syllogism_learn (am_cl d) Q) Q kb_Syllogism_learn_60 := am_wx rfl
theorem cx_Syllogism_conclude {d : Nat} {args : List Value} {h : am_H} {Q : am_Q} : am_cl (d + 1) 132 args h Q = (Nat.ble (am_sz args) 2 = true ∧ am_ex (am_cl d) (am_W kc_Syllogism_conclude (am_cl d) Q) Q kb_Syllogism_conclude_0 (am_ent args 2) [] h) := am_clx rfl rfl
theorem jx_Syllogism_conclude_43 {d : Nat} {Q : am_Q} : am_W kc_Syllogism_conclude (am_cl d) Q 43 = am_ex (am_cl d) (am_W kc_Syllogism_conclude (am_cl d) Q) Q kb_Syllogism_conclude_43 := am_wx rfl
theorem jx_Syllogism_conclude_44 {d : Nat} {Q : am_Q} : am_W kc_Syllogism_conclude (am_cl d) Q 44 = am_ex (am_cl d) (am_W kc_Syllogism_conclude (am_cl d) Q) Q kb_Syllogism_conclude_44 := am_wx rfl
theorem cx_Syllogism_firstMood {d : Nat} {args : List Value} {h : am_H} {Q : am_Q} : am_cl (d + 1) 133 args h Q = (Nat.ble (am_sz args) 8 = true ∧ am_ex (am_cl d) (am_W kc_Syllogism_firstMood (am_cl d) Q) Q kb_Syllogism_firstMood_0 (am_ent args 8) [] h) := am_clx rfl rfl
theorem jx_Syllogism_firstMood_33 {d : Nat} {Q : am_Q} : am_W kc_Syllogism_firstMood (am_cl d) Q 33 = am_ex (am_cl d) (am_W kc_Syllogism_firstMood (am_cl d) Q) Q kb_Syllogism_firstMood_33 := am_wx rfl
theorem jx_Syllogism_firstMood_34 {d : Nat} {Q : am_Q} : am_W kc_Syllogism_firstMood (am_cl d) Q 34 = am_ex (am_cl d) (am_W kc_Syllogism_firstMood (am_cl d) Q) Q kb_Syllogism_firstMood_34 := am_wx rfl
theorem jx_Syllogism_firstMood_43 {d : Nat} {Q : am_Q} : am_W kc_Syllogism_firstMood (am_cl d) Q 43 = am_ex (am_cl d) (am_W kc_Syllogism_firstMood (am_cl d) Q) Q kb_Syllogism_firstMood_43 := am_wx rfl
theorem jx_Syllogism_firstMood_44 {d : Nat} {Q : am_Q} : am_W kc_Syllogism_firstMood (am_cl d) Q 44 = am_ex (am_cl d) (am_W kc_Syllogism_firstMood (am_cl d) Q) Q kb_Syllogism_firstMood_44 := am_wx rfl
theorem jx_Syllogism_firstMood_74 {d : Nat} {Q : am_Q} : am_W kc_Syllogism_firstMood (am_cl d) Q 74 = am_ex (am_cl d) (am_W kc_Syllogism_firstMood (am_cl d) Q) Q kb_Syllogism_firstMood_74 := am_wx rfl
theorem jx_Syllogism_firstMood_75 {d : Nat} {Q : am_Q} : am_W kc_Syllogism_firstMood (am_cl d) Q 75 = am_ex (am_cl d) (am_W kc_Syllogism_firstMood (am_cl d) Q) Q kb_Syllogism_firstMood_75 := am_wx rfl
theorem jx_Syllogism_firstMood_84 {d : Nat} {Q : am_Q} : am_W kc_Syllogism_firstMood (am_cl d) Q 84 = am_ex (am_cl d) (am_W kc_Syllogism_firstMood (am_cl d) Q) Q kb_Syllogism_firstMood_84 := am_wx rfl
theorem jx_Syllogism_firstMood_85 {d : Nat} {Q : am_Q} : am_W kc_Syllogism_firstMood (am_cl d) Q 85 = am_ex (am_cl d) (am_W kc_Syllogism_firstMood (am_cl d) Q) Q kb_Syllogism_firstMood_85 := am_wx rfl
theorem jx_Syllogism_firstMood_104 {d : Nat} {Q : am_Q} : am_W kc_Syllogism_firstMood (am_cl d) Q 104 = am_ex (am_cl d) (am_W kc_Syllogism_firstMood (am_cl d) Q) Q kb_Syllogism_firstMood_104 := am_wx rfl
theorem jx_Syllogism_firstMood_140 {d : Nat} {Q : am_Q} : am_W kc_Syllogism_firstMood (am_cl d) Q 140 = am_ex (am_cl d) (am_W kc_Syllogism_firstMood (am_cl d) Q) Q kb_Syllogism_firstMood_140 := am_wx rfl
theorem jx_Syllogism_firstMood_146 {d : Nat} {Q : am_Q} : am_W kc_Syllogism_firstMood (am_cl d) Q 146 = am_ex (am_cl d) (am_W kc_Syllogism_firstMood (am_cl d) Q) Q kb_Syllogism_firstMood_146 := am_wx rfl
theorem cx_Syllogism_leadsMajor {d : Nat} {args : List Value} {h : am_H} {Q : am_Q} : am_cl (d + 1) 134 args h Q = (Nat.ble (am_sz args) 1 = true ∧ am_ex (am_cl d) (am_W kc_Syllogism_leadsMajor (am_cl d) Q) Q kb_Syllogism_leadsMajor_0 (am_ent args 1) [] h) := am_clx rfl rfl
theorem jx_Syllogism_leadsMajor_10 {d : Nat} {Q : am_Q} : am_W kc_Syllogism_leadsMajor (am_cl d) Q 10 = am_ex (am_cl d) (am_W kc_Syllogism_leadsMajor (am_cl d) Q) Q kb_Syllogism_leadsMajor_10 := am_wx rfl
theorem jx_Syllogism_leadsMajor_14 {d : Nat} {Q : am_Q} : am_W kc_Syllogism_leadsMajor (am_cl d) Q 14 = am_ex (am_cl d) (am_W kc_Syllogism_leadsMajor (am_cl d) Q) Q kb_Syllogism_leadsMajor_14 := am_wx rfl
theorem jx_Syllogism_leadsMajor_15 {d : Nat} {Q : am_Q} : am_W kc_Syllogism_leadsMajor (am_cl d) Q 15 = am_ex (am_cl d) (am_W kc_Syllogism_leadsMajor (am_cl d) Q) Q kb_Syllogism_leadsMajor_15 := am_wx rfl
theorem cx_Syllogism_leadsMinor {d : Nat} {args : List Value} {h : am_H} {Q : am_Q} : am_cl (d + 1) 135 args h Q = (Nat.ble (am_sz args) 1 = true ∧ am_ex (am_cl d) (am_W kc_Syllogism_leadsMinor (am_cl d) Q) Q kb_Syllogism_leadsMinor_0 (am_ent args 1) [] h) := am_clx rfl rfl
theorem jx_Syllogism_leadsMinor_10 {d : Nat} {Q : am_Q} : am_W kc_Syllogism_leadsMinor (am_cl d) Q 10 = am_ex (am_cl d) (am_W kc_Syllogism_leadsMinor (am_cl d) Q) Q kb_Syllogism_leadsMinor_10 := am_wx rfl
theorem jx_Syllogism_leadsMinor_14 {d : Nat} {Q : am_Q} : am_W kc_Syllogism_leadsMinor (am_cl d) Q 14 = am_ex (am_cl d) (am_W kc_Syllogism_leadsMinor (am_cl d) Q) Q kb_Syllogism_leadsMinor_14 := am_wx rfl
theorem jx_Syllogism_leadsMinor_15 {d : Nat} {Q : am_Q} : am_W kc_Syllogism_leadsMinor (am_cl d) Q 15 = am_ex (am_cl d) (am_W kc_Syllogism_leadsMinor (am_cl d) Q) Q kb_Syllogism_leadsMinor_15 := am_wx rfl
theorem cx_Syllogism_judge {d : Nat} {args : List Value} {h : am_H} {Q : am_Q} : am_cl (d + 1) 136 args h Q = (Nat.ble (am_sz args) 7 = true ∧ am_ex (am_cl d) (am_W kc_Syllogism_judge (am_cl d) Q) Q kb_Syllogism_judge_0 (am_ent args 7) [] h) := am_clx rfl rfl
theorem jx_Syllogism_judge_37 {d : Nat} {Q : am_Q} : am_W kc_Syllogism_judge (am_cl d) Q 37 = am_ex (am_cl d) (am_W kc_Syllogism_judge (am_cl d) Q) Q kb_Syllogism_judge_37 := am_wx rfl
theorem jx_Syllogism_judge_41 {d : Nat} {Q : am_Q} : am_W kc_Syllogism_judge (am_cl d) Q 41 = am_ex (am_cl d) (am_W kc_Syllogism_judge (am_cl d) Q) Q kb_Syllogism_judge_41 := am_wx rfl
theorem jx_Syllogism_judge_42 {d : Nat} {Q : am_Q} : am_W kc_Syllogism_judge (am_cl d) Q 42 = am_ex (am_cl d) (am_W kc_Syllogism_judge (am_cl d) Q) Q kb_Syllogism_judge_42 := am_wx rfl
theorem jx_Syllogism_judge_66 {d : Nat} {Q : am_Q} : am_W kc_Syllogism_judge (am_cl d) Q 66 = am_ex (am_cl d) (am_W kc_Syllogism_judge (am_cl d) Q) Q kb_Syllogism_judge_66 := am_wx rfl
theorem jx_Syllogism_judge_91 {d : Nat} {Q : am_Q} : am_W kc_Syllogism_judge (am_cl d) Q 91 = am_ex (am_cl d) (am_W kc_Syllogism_judge (am_cl d) Q) Q kb_Syllogism_judge_91 := am_wx rfl
theorem jx_Syllogism_judge_111 {d : Nat} {Q : am_Q} : am_W kc_Syllogism_judge (am_cl d) Q 111 = am_ex (am_cl d) (am_W kc_Syllogism_judge (am_cl d) Q) Q kb_Syllogism_judge_111 := am_wx rfl
theorem jx_Syllogism_judge_112 {d : Nat} {Q : am_Q} : am_W kc_Syllogism_judge (am_cl d) Q 112 = am_ex (am_cl d) (am_W kc_Syllogism_judge (am_cl d) Q) Q kb_Syllogism_judge_112 := am_wx rfl
theorem jx_Syllogism_judge_120 {d : Nat} {Q : am_Q} : am_W kc_Syllogism_judge (am_cl d) Q 120 = am_ex (am_cl d) (am_W kc_Syllogism_judge (am_cl d) Q) Q kb_Syllogism_judge_120 := am_wx rfl
theorem jx_Syllogism_judge_141 {d : Nat} {Q : am_Q} : am_W kc_Syllogism_judge (am_cl d) Q 141 = am_ex (am_cl d) (am_W kc_Syllogism_judge (am_cl d) Q) Q kb_Syllogism_judge_141 := am_wx rfl
theorem jx_Syllogism_judge_142 {d : Nat} {Q : am_Q} : am_W kc_Syllogism_judge (am_cl d) Q 142 = am_ex (am_cl d) (am_W kc_Syllogism_judge (am_cl d) Q) Q kb_Syllogism_judge_142 := am_wx rfl
theorem jx_Syllogism_judge_150 {d : Nat} {Q : am_Q} : am_W kc_Syllogism_judge (am_cl d) Q 150 = am_ex (am_cl d) (am_W kc_Syllogism_judge (am_cl d) Q) Q kb_Syllogism_judge_150 := am_wx rfl
theorem jx_Syllogism_judge_164 {d : Nat} {Q : am_Q} : am_W kc_Syllogism_judge (am_cl d) Q 164 = am_ex (am_cl d) (am_W kc_Syllogism_judge (am_cl d) Q) Q kb_Syllogism_judge_164 := am_wx rfl
theorem jx_Syllogism_judge_179 {d : Nat} {Q : am_Q} : am_W kc_Syllogism_judge (am_cl d) Q 179 = am_ex (am_cl d) (am_W kc_Syllogism_judge (am_cl d) Q) Q kb_Syllogism_judge_179 := am_wx rfl
theorem jx_Syllogism_judge_210 {d : Nat} {Q : am_Q} : am_W kc_Syllogism_judge (am_cl d) Q 210 = am_ex (am_cl d) (am_W kc_Syllogism_judge (am_cl d) Q) Q kb_Syllogism_judge_210 := am_wx rfl
theorem jx_Syllogism_judge_211 {d : Nat} {Q : am_Q} : am_W kc_Syllogism_judge (am_cl d) Q 211 = am_ex (am_cl d) (am_W kc_Syllogism_judge (am_cl d) Q) Q kb_Syllogism_judge_211 := am_wx rfl
theorem jx_Syllogism_judge_227 {d : Nat} {Q : am_Q} : am_W kc_Syllogism_judge (am_cl d) Q 227 = am_ex (am_cl d) (am_W kc_Syllogism_judge (am_cl d) Q) Q kb_Syllogism_judge_227 := am_wx rfl
theorem jx_Syllogism_judge_228 {d : Nat} {Q : am_Q} : am_W kc_Syllogism_judge (am_cl d) Q 228 = am_ex (am_cl d) (am_W kc_Syllogism_judge (am_cl d) Q) Q kb_Syllogism_judge_228 := am_wx rfl
theorem cx_Syllogism_isDistributed {d : Nat} {args : List Value} {h : am_H} {Q : am_Q} : am_cl (d + 1) 137 args h Q = (Nat.ble (am_sz args) 2 = true ∧ am_ex (am_cl d) (am_W kc_Syllogism_isDistributed (am_cl d) Q) Q kb_Syllogism_isDistributed_0 (am_ent args 2) [] h) := am_clx rfl rfl
theorem jx_Syllogism_isDistributed_11 {d : Nat} {Q : am_Q} : am_W kc_Syllogism_isDistributed (am_cl d) Q 11 = am_ex (am_cl d) (am_W kc_Syllogism_isDistributed (am_cl d) Q) Q kb_Syllogism_isDistributed_11 := am_wx rfl
theorem jx_Syllogism_isDistributed_15 {d : Nat} {Q : am_Q} : am_W kc_Syllogism_isDistributed (am_cl d) Q 15 = am_ex (am_cl d) (am_W kc_Syllogism_isDistributed (am_cl d) Q) Q kb_Syllogism_isDistributed_15 := am_wx rfl
theorem cx_Theory_init {d : Nat} {args : List Value} {h : am_H} {Q : am_Q} : am_cl (d + 1) 138 args h Q = (Nat.ble (am_sz args) 1 = true ∧ am_ex (am_cl d) (am_W kc_Theory_init (am_cl d) Q) Q kb_Theory_init_0 (am_ent args 1) [] h) := am_clx rfl rfl
theorem cx_Theory_clear {d : Nat} {args : List Value} {h : am_H} {Q : am_Q} : am_cl (d + 1) 139 args h Q = (Nat.ble (am_sz args) 1 = true ∧ am_ex (am_cl d) (am_W kc_Theory_clear (am_cl d) Q) Q kb_Theory_clear_0 (am_ent args 1) [] h) := am_clx rfl rfl
theorem cx_Theory_grantClaim {d : Nat} {args : List Value} {h : am_H} {Q : am_Q} : am_cl (d + 1) 140 args h Q = (Nat.ble (am_sz args) 3 = true ∧ am_ex (am_cl d) (am_W kc_Theory_grantClaim (am_cl d) Q) Q kb_Theory_grantClaim_0 (am_ent args 3) [] h) := am_clx rfl rfl
theorem jx_Theory_grantClaim_34 {d : Nat} {Q : am_Q} : am_W kc_Theory_grantClaim (am_cl d) Q 34 = am_ex (am_cl d) (am_W kc_Theory_grantClaim (am_cl d) Q) Q kb_Theory_grantClaim_34 := am_wx rfl
theorem jx_Theory_grantClaim_53 {d : Nat} {Q : am_Q} : am_W kc_Theory_grantClaim (am_cl d) Q 53 = am_ex (am_cl d) (am_W kc_Theory_grantClaim (am_cl d) Q) Q kb_Theory_grantClaim_53 := am_wx rfl
theorem jx_Theory_grantClaim_66 {d : Nat} {Q : am_Q} : am_W kc_Theory_grantClaim (am_cl d) Q 66 = am_ex (am_cl d) (am_W kc_Theory_grantClaim (am_cl d) Q) Q kb_Theory_grantClaim_66 := am_wx rfl
theorem cx_Theory_denyClaim {d : Nat} {args : List Value} {h : am_H} {Q : am_Q} : am_cl (d + 1) 141 args h Q = (Nat.ble (am_sz args) 2 = true ∧ am_ex (am_cl d) (am_W kc_Theory_denyClaim (am_cl d) Q) Q kb_Theory_denyClaim_0 (am_ent args 2) [] h) := am_clx rfl rfl
theorem jx_Theory_denyClaim_18 {d : Nat} {Q : am_Q} : am_W kc_Theory_denyClaim (am_cl d) Q 18 = am_ex (am_cl d) (am_W kc_Theory_denyClaim (am_cl d) Q) Q kb_Theory_denyClaim_18 := am_wx rfl
theorem jx_Theory_denyClaim_37 {d : Nat} {Q : am_Q} : am_W kc_Theory_denyClaim (am_cl d) Q 37 = am_ex (am_cl d) (am_W kc_Theory_denyClaim (am_cl d) Q) Q kb_Theory_denyClaim_37 := am_wx rfl
theorem jx_Theory_denyClaim_52 {d : Nat} {Q : am_Q} : am_W kc_Theory_denyClaim (am_cl d) Q 52 = am_ex (am_cl d) (am_W kc_Theory_denyClaim (am_cl d) Q) Q kb_Theory_denyClaim_52 := am_wx rfl
theorem cx_Theory_bar {d : Nat} {args : List Value} {h : am_H} {Q : am_Q} : am_cl (d + 1) 142 args h Q = (Nat.ble (am_sz args) 3 = true ∧ am_ex (am_cl d) (am_W kc_Theory_bar (am_cl d) Q) Q kb_Theory_bar_0 (am_ent args 3) [] h) := am_clx rfl rfl
theorem jx_Theory_bar_2 {d : Nat} {Q : am_Q} : am_W kc_Theory_bar (am_cl d) Q 2 = am_ex (am_cl d) (am_W kc_Theory_bar (am_cl d) Q) Q kb_Theory_bar_2 := am_wx rfl
theorem jx_Theory_bar_29 {d : Nat} {Q : am_Q} : am_W kc_Theory_bar (am_cl d) Q 29 = am_ex (am_cl d) (am_W kc_Theory_bar (am_cl d) Q) Q kb_Theory_bar_29 := am_wx rfl
theorem cx_Theory_want {d : Nat} {args : List Value} {h : am_H} {Q : am_Q} : am_cl (d + 1) 143 args h Q = (Nat.ble (am_sz args) 2 = true ∧ am_ex (am_cl d) (am_W kc_Theory_want (am_cl d) Q) Q kb_Theory_want_0 (am_ent args 2) [] h) := am_clx rfl rfl
theorem jx_Theory_want_35 {d : Nat} {Q : am_Q} : am_W kc_Theory_want (am_cl d) Q 35 = am_ex (am_cl d) (am_W kc_Theory_want (am_cl d) Q) Q kb_Theory_want_35 := am_wx rfl
theorem cx_Theory_place {d : Nat} {args : List Value} {h : am_H} {Q : am_Q} : am_cl (d + 1) 144 args h Q = (Nat.ble (am_sz args) 6 = true ∧ am_ex (am_cl d) (am_W kc_Theory_place (am_cl d) Q) Q kb_Theory_place_0 (am_ent args 6) [] h) := am_clx rfl rfl
theorem jx_Theory_place_24 {d : Nat} {Q : am_Q} : am_W kc_Theory_place (am_cl d) Q 24 = am_ex (am_cl d) (am_W kc_Theory_place (am_cl d) Q) Q kb_Theory_place_24 := am_wx rfl
theorem jx_Theory_place_56 {d : Nat} {Q : am_Q} : am_W kc_Theory_place (am_cl d) Q 56 = am_ex (am_cl d) (am_W kc_Theory_place (am_cl d) Q) Q kb_Theory_place_56 := am_wx rfl
theorem cx_Theory_fits {d : Nat} {args : List Value} {h : am_H} {Q : am_Q} : am_cl (d + 1) 145 args h Q = (Nat.ble (am_sz args) 1 = true ∧ am_ex (am_cl d) (am_W kc_Theory_fits (am_cl d) Q) Q kb_Theory_fits_0 (am_ent args 1) [] h) := am_clx rfl rfl
theorem cx_Theory_fitsWithout {d : Nat} {args : List Value} {h : am_H} {Q : am_Q} : am_cl (d + 1) 146 args h Q = (Nat.ble (am_sz args) 3 = true ∧ am_ex (am_cl d) (am_W kc_Theory_fitsWithout (am_cl d) Q) Q kb_Theory_fitsWithout_0 (am_ent args 3) [] h) := am_clx rfl rfl
theorem jx_Theory_fitsWithout_2 {d : Nat} {Q : am_Q} : am_W kc_Theory_fitsWithout (am_cl d) Q 2 = am_ex (am_cl d) (am_W kc_Theory_fitsWithout (am_cl d) Q) Q kb_Theory_fitsWithout_2 := am_wx rfl
theorem jx_Theory_fitsWithout_27 {d : Nat} {Q : am_Q} : am_W kc_Theory_fitsWithout (am_cl d) Q 27 = am_ex (am_cl d) (am_W kc_Theory_fitsWithout (am_cl d) Q) Q kb_Theory_fitsWithout_27 := am_wx rfl
theorem jx_Theory_fitsWithout_33 {d : Nat} {Q : am_Q} : am_W kc_Theory_fitsWithout (am_cl d) Q 33 = am_ex (am_cl d) (am_W kc_Theory_fitsWithout (am_cl d) Q) Q kb_Theory_fitsWithout_33 := am_wx rfl
theorem jx_Theory_fitsWithout_35 {d : Nat} {Q : am_Q} : am_W kc_Theory_fitsWithout (am_cl d) Q 35 = am_ex (am_cl d) (am_W kc_Theory_fitsWithout (am_cl d) Q) Q kb_Theory_fitsWithout_35 := am_wx rfl
theorem jx_Theory_fitsWithout_57 {d : Nat} {Q : am_Q} : am_W kc_Theory_fitsWithout (am_cl d) Q 57 = am_ex (am_cl d) (am_W kc_Theory_fitsWithout (am_cl d) Q) Q kb_Theory_fitsWithout_57 := am_wx rfl
theorem jx_Theory_fitsWithout_63 {d : Nat} {Q : am_Q} : am_W kc_Theory_fitsWithout (am_cl d) Q 63 = am_ex (am_cl d) (am_W kc_Theory_fitsWithout (am_cl d) Q) Q kb_Theory_fitsWithout_63 := am_wx rfl
theorem cx_Theory_meets {d : Nat} {args : List Value} {h : am_H} {Q : am_Q} : am_cl (d + 1) 147 args h Q = (Nat.ble (am_sz args) 7 = true ∧ am_ex (am_cl d) (am_W kc_Theory_meets (am_cl d) Q) Q kb_Theory_meets_0 (am_ent args 7) [] h) := am_clx rfl rfl
theorem jx_Theory_meets_6 {d : Nat} {Q : am_Q} : am_W kc_Theory_meets (am_cl d) Q 6 = am_ex (am_cl d) (am_W kc_Theory_meets (am_cl d) Q) Q kb_Theory_meets_6 := am_wx rfl
theorem jx_Theory_meets_46 {d : Nat} {Q : am_Q} : am_W kc_Theory_meets (am_cl d) Q 46 = am_ex (am_cl d) (am_W kc_Theory_meets (am_cl d) Q) Q kb_Theory_meets_46 := am_wx rfl
theorem jx_Theory_meets_57 {d : Nat} {Q : am_Q} : am_W kc_Theory_meets (am_cl d) Q 57 = am_ex (am_cl d) (am_W kc_Theory_meets (am_cl d) Q) Q kb_Theory_meets_57 := am_wx rfl
theorem jx_Theory_meets_58 {d : Nat} {Q : am_Q} : am_W kc_Theory_meets (am_cl d) Q 58 = am_ex (am_cl d) (am_W kc_Theory_meets (am_cl d) Q) Q kb_Theory_meets_58 := am_wx rfl
theorem cx_Theory_canHold {d : Nat} {args : List Value} {h : am_H} {Q : am_Q} : am_cl (d + 1) 148 args h Q = (Nat.ble (am_sz args) 3 = true ∧ am_ex (am_cl d) (am_W kc_Theory_canHold (am_cl d) Q) Q kb_Theory_canHold_0 (am_ent args 3) [] h) := am_clx rfl rfl
theorem jx_Theory_canHold_42 {d : Nat} {Q : am_Q} : am_W kc_Theory_canHold (am_cl d) Q 42 = am_ex (am_cl d) (am_W kc_Theory_canHold (am_cl d) Q) Q kb_Theory_canHold_42 := am_wx rfl
theorem jx_Theory_canHold_46 {d : Nat} {Q : am_Q} : am_W kc_Theory_canHold (am_cl d) Q 46 = am_ex (am_cl d) (am_W kc_Theory_canHold (am_cl d) Q) Q kb_Theory_canHold_46 := am_wx rfl
theorem jx_Theory_canHold_47 {d : Nat} {Q : am_Q} : am_W kc_Theory_canHold (am_cl d) Q 47 = am_ex (am_cl d) (am_W kc_Theory_canHold (am_cl d) Q) Q kb_Theory_canHold_47 := am_wx rfl
theorem jx_Theory_canHold_48 {d : Nat} {Q : am_Q} : am_W kc_Theory_canHold (am_cl d) Q 48 = am_ex (am_cl d) (am_W kc_Theory_canHold (am_cl d) Q) Q kb_Theory_canHold_48 := am_wx rfl
theorem jx_Theory_canHold_85 {d : Nat} {Q : am_Q} : am_W kc_Theory_canHold (am_cl d) Q 85 = am_ex (am_cl d) (am_W kc_Theory_canHold (am_cl d) Q) Q kb_Theory_canHold_85 := am_wx rfl
theorem jx_Theory_canHold_86 {d : Nat} {Q : am_Q} : am_W kc_Theory_canHold (am_cl d) Q 86 = am_ex (am_cl d) (am_W kc_Theory_canHold (am_cl d) Q) Q kb_Theory_canHold_86 := am_wx rfl
theorem jx_Theory_canHold_87 {d : Nat} {Q : am_Q} : am_W kc_Theory_canHold (am_cl d) Q 87 = am_ex (am_cl d) (am_W kc_Theory_canHold (am_cl d) Q) Q kb_Theory_canHold_87 := am_wx rfl
theorem jx_Theory_canHold_110 {d : Nat} {Q : am_Q} : am_W kc_Theory_canHold (am_cl d) Q 110 = am_ex (am_cl d) (am_W kc_Theory_canHold (am_cl d) Q) Q kb_Theory_canHold_110 := am_wx rfl
theorem jx_Theory_canHold_111 {d : Nat} {Q : am_Q} : am_W kc_Theory_canHold (am_cl d) Q 111 = am_ex (am_cl d) (am_W kc_Theory_canHold (am_cl d) Q) Q kb_Theory_canHold_111 := am_wx rfl
theorem cx_Theory_canFail {d : Nat} {args : List Value} {h : am_H} {Q : am_Q} : am_cl (d + 1) 149 args h Q = (Nat.ble (am_sz args) 3 = true ∧ am_ex (am_cl d) (am_W kc_Theory_canFail (am_cl d) Q) Q kb_Theory_canFail_0 (am_ent args 3) [] h) := am_clx rfl rfl
theorem jx_Theory_canFail_32 {d : Nat} {Q : am_Q} : am_W kc_Theory_canFail (am_cl d) Q 32 = am_ex (am_cl d) (am_W kc_Theory_canFail (am_cl d) Q) Q kb_Theory_canFail_32 := am_wx rfl
theorem jx_Theory_canFail_51 {d : Nat} {Q : am_Q} : am_W kc_Theory_canFail (am_cl d) Q 51 = am_ex (am_cl d) (am_W kc_Theory_canFail (am_cl d) Q) Q kb_Theory_canFail_51 := am_wx rfl
theorem jx_Theory_canFail_55 {d : Nat} {Q : am_Q} : am_W kc_Theory_canFail (am_cl d) Q 55 = am_ex (am_cl d) (am_W kc_Theory_canFail (am_cl d) Q) Q kb_Theory_canFail_55 := am_wx rfl
theorem jx_Theory_canFail_56 {d : Nat} {Q : am_Q} : am_W kc_Theory_canFail (am_cl d) Q 56 = am_ex (am_cl d) (am_W kc_Theory_canFail (am_cl d) Q) Q kb_Theory_canFail_56 := am_wx rfl
theorem jx_Theory_canFail_57 {d : Nat} {Q : am_Q} : am_W kc_Theory_canFail (am_cl d) Q 57 = am_ex (am_cl d) (am_W kc_Theory_canFail (am_cl d) Q) Q kb_Theory_canFail_57 := am_wx rfl
theorem jx_Theory_canFail_74 {d : Nat} {Q : am_Q} : am_W kc_Theory_canFail (am_cl d) Q 74 = am_ex (am_cl d) (am_W kc_Theory_canFail (am_cl d) Q) Q kb_Theory_canFail_74 := am_wx rfl
theorem jx_Theory_canFail_99 {d : Nat} {Q : am_Q} : am_W kc_Theory_canFail (am_cl d) Q 99 = am_ex (am_cl d) (am_W kc_Theory_canFail (am_cl d) Q) Q kb_Theory_canFail_99 := am_wx rfl
theorem jx_Theory_canFail_100 {d : Nat} {Q : am_Q} : am_W kc_Theory_canFail (am_cl d) Q 100 = am_ex (am_cl d) (am_W kc_Theory_canFail (am_cl d) Q) Q kb_Theory_canFail_100 := am_wx rfl
theorem cx_Theory_canBePlaced {d : Nat} {args : List Value} {h : am_H} {Q : am_Q} : am_cl (d + 1) 150 args h Q = (Nat.ble (am_sz args) 7 = true ∧ am_ex (am_cl d) (am_W kc_Theory_canBePlaced (am_cl d) Q) Q kb_Theory_canBePlaced_0 (am_ent args 7) [] h) := am_clx rfl rfl
theorem jx_Theory_canBePlaced_6 {d : Nat} {Q : am_Q} : am_W kc_Theory_canBePlaced (am_cl d) Q 6 = am_ex (am_cl d) (am_W kc_Theory_canBePlaced (am_cl d) Q) Q kb_Theory_canBePlaced_6 := am_wx rfl
theorem jx_Theory_canBePlaced_43 {d : Nat} {Q : am_Q} : am_W kc_Theory_canBePlaced (am_cl d) Q 43 = am_ex (am_cl d) (am_W kc_Theory_canBePlaced (am_cl d) Q) Q kb_Theory_canBePlaced_43 := am_wx rfl
theorem jx_Theory_canBePlaced_54 {d : Nat} {Q : am_Q} : am_W kc_Theory_canBePlaced (am_cl d) Q 54 = am_ex (am_cl d) (am_W kc_Theory_canBePlaced (am_cl d) Q) Q kb_Theory_canBePlaced_54 := am_wx rfl
theorem jx_Theory_canBePlaced_55 {d : Nat} {Q : am_Q} : am_W kc_Theory_canBePlaced (am_cl d) Q 55 = am_ex (am_cl d) (am_W kc_Theory_canBePlaced (am_cl d) Q) Q kb_Theory_canBePlaced_55 := am_wx rfl
theorem cx_Theory_placeWord {d : Nat} {args : List Value} {h : am_H} {Q : am_Q} : am_cl (d + 1) 151 args h Q = (Nat.ble (am_sz args) 3 = true ∧ am_ex (am_cl d) (am_W kc_Theory_placeWord (am_cl d) Q) Q kb_Theory_placeWord_0 (am_ent args 3) [] h) := am_clx rfl rfl
theorem jx_Theory_placeWord_18 {d : Nat} {Q : am_Q} : am_W kc_Theory_placeWord (am_cl d) Q 18 = am_ex (am_cl d) (am_W kc_Theory_placeWord (am_cl d) Q) Q kb_Theory_placeWord_18 := am_wx rfl
theorem jx_Theory_placeWord_20 {d : Nat} {Q : am_Q} : am_W kc_Theory_placeWord (am_cl d) Q 20 = am_ex (am_cl d) (am_W kc_Theory_placeWord (am_cl d) Q) Q kb_Theory_placeWord_20 := am_wx rfl
theorem cx_Theory_countPlaces {d : Nat} {args : List Value} {h : am_H} {Q : am_Q} : am_cl (d + 1) 152 args h Q = (Nat.ble (am_sz args) 4 = true ∧ am_ex (am_cl d) (am_W kc_Theory_countPlaces (am_cl d) Q) Q kb_Theory_countPlaces_0 (am_ent args 4) [] h) := am_clx rfl rfl
theorem jx_Theory_countPlaces_4 {d : Nat} {Q : am_Q} : am_W kc_Theory_countPlaces (am_cl d) Q 4 = am_ex (am_cl d) (am_W kc_Theory_countPlaces (am_cl d) Q) Q kb_Theory_countPlaces_4 := am_wx rfl
theorem jx_Theory_countPlaces_27 {d : Nat} {Q : am_Q} : am_W kc_Theory_countPlaces (am_cl d) Q 27 = am_ex (am_cl d) (am_W kc_Theory_countPlaces (am_cl d) Q) Q kb_Theory_countPlaces_27 := am_wx rfl
theorem cx_Theory_lowestPlace {d : Nat} {args : List Value} {h : am_H} {Q : am_Q} : am_cl (d + 1) 153 args h Q = (Nat.ble (am_sz args) 5 = true ∧ am_ex (am_cl d) (am_W kc_Theory_lowestPlace (am_cl d) Q) Q kb_Theory_lowestPlace_0 (am_ent args 5) [] h) := am_clx rfl rfl
theorem jx_Theory_lowestPlace_2 {d : Nat} {Q : am_Q} : am_W kc_Theory_lowestPlace (am_cl d) Q 2 = am_ex (am_cl d) (am_W kc_Theory_lowestPlace (am_cl d) Q) Q kb_Theory_lowestPlace_2 := am_wx rfl
theorem jx_Theory_lowestPlace_30 {d : Nat} {Q : am_Q} : am_W kc_Theory_lowestPlace (am_cl d) Q 30 = am_ex (am_cl d) (am_W kc_Theory_lowestPlace (am_cl d) Q) Q kb_Theory_lowestPlace_30 := am_wx rfl
theorem jx_Theory_lowestPlace_36 {d : Nat} {Q : am_Q} : am_W kc_Theory_lowestPlace (am_cl d) Q 36 = am_ex (am_cl d) (am_W kc_Theory_lowestPlace (am_cl d) Q) Q kb_Theory_lowestPlace_36 := am_wx rfl
theorem cx_Theory_countWants {d : Nat} {args : List Value} {h : am_H} {Q : am_Q} : am_cl (d + 1) 154 args h Q = (Nat.ble (am_sz args) 1 = true ∧ am_ex (am_cl d) (am_W kc_Theory_countWants (am_cl d) Q) Q kb_Theory_countWants_0 (am_ent args 1) [] h) := am_clx rfl rfl
theorem cx_Theory_wantsMet {d : Nat} {args : List Value} {h : am_H} {Q : am_Q} : am_cl (d + 1) 155 args h Q = (Nat.ble (am_sz args) 7 = true ∧ am_ex (am_cl d) (am_W kc_Theory_wantsMet (am_cl d) Q) Q kb_Theory_wantsMet_0 (am_ent args 7) [] h) := am_clx rfl rfl
theorem jx_Theory_wantsMet_13 {d : Nat} {Q : am_Q} : am_W kc_Theory_wantsMet (am_cl d) Q 13 = am_ex (am_cl d) (am_W kc_Theory_wantsMet (am_cl d) Q) Q kb_Theory_wantsMet_13 := am_wx rfl
theorem jx_Theory_wantsMet_29 {d : Nat} {Q : am_Q} : am_W kc_Theory_wantsMet (am_cl d) Q 29 = am_ex (am_cl d) (am_W kc_Theory_wantsMet (am_cl d) Q) Q kb_Theory_wantsMet_29 := am_wx rfl
theorem jx_Theory_wantsMet_68 {d : Nat} {Q : am_Q} : am_W kc_Theory_wantsMet (am_cl d) Q 68 = am_ex (am_cl d) (am_W kc_Theory_wantsMet (am_cl d) Q) Q kb_Theory_wantsMet_68 := am_wx rfl
theorem jx_Theory_wantsMet_77 {d : Nat} {Q : am_Q} : am_W kc_Theory_wantsMet (am_cl d) Q 77 = am_ex (am_cl d) (am_W kc_Theory_wantsMet (am_cl d) Q) Q kb_Theory_wantsMet_77 := am_wx rfl
theorem jx_Theory_wantsMet_122 {d : Nat} {Q : am_Q} : am_W kc_Theory_wantsMet (am_cl d) Q 122 = am_ex (am_cl d) (am_W kc_Theory_wantsMet (am_cl d) Q) Q kb_Theory_wantsMet_122 := am_wx rfl
theorem jx_Theory_wantsMet_128 {d : Nat} {Q : am_Q} : am_W kc_Theory_wantsMet (am_cl d) Q 128 = am_ex (am_cl d) (am_W kc_Theory_wantsMet (am_cl d) Q) Q kb_Theory_wantsMet_128 := am_wx rfl
theorem cx_Tree_init {d : Nat} {args : List Value} {h : am_H} {Q : am_Q} : am_cl (d + 1) 156 args h Q = (Nat.ble (am_sz args) 1 = true ∧ am_ex (am_cl d) (am_W kc_Tree_init (am_cl d) Q) Q kb_Tree_init_0 (am_ent args 1) [] h) := am_clx rfl rfl
theorem cx_Tree_hasNode {d : Nat} {args : List Value} {h : am_H} {Q : am_Q} : am_cl (d + 1) 157 args h Q = (Nat.ble (am_sz args) 2 = true ∧ am_ex (am_cl d) (am_W kc_Tree_hasNode (am_cl d) Q) Q kb_Tree_hasNode_0 (am_ent args 2) [] h) := am_clx rfl rfl
theorem jx_Tree_hasNode_16 {d : Nat} {Q : am_Q} : am_W kc_Tree_hasNode (am_cl d) Q 16 = am_ex (am_cl d) (am_W kc_Tree_hasNode (am_cl d) Q) Q kb_Tree_hasNode_16 := am_wx rfl
theorem jx_Tree_hasNode_17 {d : Nat} {Q : am_Q} : am_W kc_Tree_hasNode (am_cl d) Q 17 = am_ex (am_cl d) (am_W kc_Tree_hasNode (am_cl d) Q) Q kb_Tree_hasNode_17 := am_wx rfl
theorem cx_Tree_clear {d : Nat} {args : List Value} {h : am_H} {Q : am_Q} : am_cl (d + 1) 158 args h Q = (Nat.ble (am_sz args) 1 = true ∧ am_ex (am_cl d) (am_W kc_Tree_clear (am_cl d) Q) Q kb_Tree_clear_0 (am_ent args 1) [] h) := am_clx rfl rfl
theorem cx_Tree_join {d : Nat} {args : List Value} {h : am_H} {Q : am_Q} : am_cl (d + 1) 159 args h Q = (Nat.ble (am_sz args) 4 = true ∧ am_ex (am_cl d) (am_W kc_Tree_join (am_cl d) Q) Q kb_Tree_join_0 (am_ent args 4) [] h) := am_clx rfl rfl
theorem jx_Tree_join_26 {d : Nat} {Q : am_Q} : am_W kc_Tree_join (am_cl d) Q 26 = am_ex (am_cl d) (am_W kc_Tree_join (am_cl d) Q) Q kb_Tree_join_26 := am_wx rfl
theorem jx_Tree_join_27 {d : Nat} {Q : am_Q} : am_W kc_Tree_join (am_cl d) Q 27 = am_ex (am_cl d) (am_W kc_Tree_join (am_cl d) Q) Q kb_Tree_join_27 := am_wx rfl
theorem cx_Tree_make {d : Nat} {args : List Value} {h : am_H} {Q : am_Q} : am_cl (d + 1) 160 args h Q = (Nat.ble (am_sz args) 5 = true ∧ am_ex (am_cl d) (am_W kc_Tree_make (am_cl d) Q) Q kb_Tree_make_0 (am_ent args 5) [] h) := am_clx rfl rfl
theorem jx_Tree_make_11 {d : Nat} {Q : am_Q} : am_W kc_Tree_make (am_cl d) Q 11 = am_ex (am_cl d) (am_W kc_Tree_make (am_cl d) Q) Q kb_Tree_make_11 := am_wx rfl
theorem cx_Tree_negate {d : Nat} {args : List Value} {h : am_H} {Q : am_Q} : am_cl (d + 1) 161 args h Q = (Nat.ble (am_sz args) 3 = true ∧ am_ex (am_cl d) (am_W kc_Tree_negate (am_cl d) Q) Q kb_Tree_negate_0 (am_ent args 3) [] h) := am_clx rfl rfl
theorem jx_Tree_negate_18 {d : Nat} {Q : am_Q} : am_W kc_Tree_negate (am_cl d) Q 18 = am_ex (am_cl d) (am_W kc_Tree_negate (am_cl d) Q) Q kb_Tree_negate_18 := am_wx rfl
theorem cx_Tree_kindAt {d : Nat} {args : List Value} {h : am_H} {Q : am_Q} : am_cl (d + 1) 162 args h Q = (Nat.ble (am_sz args) 2 = true ∧ am_ex (am_cl d) (am_W kc_Tree_kindAt (am_cl d) Q) Q kb_Tree_kindAt_0 (am_ent args 2) [] h) := am_clx rfl rfl
theorem jx_Tree_kindAt_37 {d : Nat} {Q : am_Q} : am_W kc_Tree_kindAt (am_cl d) Q 37 = am_ex (am_cl d) (am_W kc_Tree_kindAt (am_cl d) Q) Q kb_Tree_kindAt_37 := am_wx rfl
theorem jx_Tree_kindAt_38 {d : Nat} {Q : am_Q} : am_W kc_Tree_kindAt (am_cl d) Q 38 = am_ex (am_cl d) (am_W kc_Tree_kindAt (am_cl d) Q) Q kb_Tree_kindAt_38 := am_wx rfl
theorem cx_Tree_findSets {d : Nat} {args : List Value} {h : am_H} {Q : am_Q} : am_cl (d + 1) 163 args h Q = (Nat.ble (am_sz args) 5 = true ∧ am_ex (am_cl d) (am_W kc_Tree_findSets (am_cl d) Q) Q kb_Tree_findSets_0 (am_ent args 5) [] h) := am_clx rfl rfl
theorem jx_Tree_findSets_2 {d : Nat} {Q : am_Q} : am_W kc_Tree_findSets (am_cl d) Q 2 = am_ex (am_cl d) (am_W kc_Tree_findSets (am_cl d) Q) Q kb_Tree_findSets_2 := am_wx rfl
theorem jx_Tree_findSets_12 {d : Nat} {Q : am_Q} : am_W kc_Tree_findSets (am_cl d) Q 12 = am_ex (am_cl d) (am_W kc_Tree_findSets (am_cl d) Q) Q kb_Tree_findSets_12 := am_wx rfl
theorem jx_Tree_findSets_55 {d : Nat} {Q : am_Q} : am_W kc_Tree_findSets (am_cl d) Q 55 = am_ex (am_cl d) (am_W kc_Tree_findSets (am_cl d) Q) Q kb_Tree_findSets_55 := am_wx rfl
theorem jx_Tree_findSets_93 {d : Nat} {Q : am_Q} : am_W kc_Tree_findSets (am_cl d) Q 93 = am_ex (am_cl d) (am_W kc_Tree_findSets (am_cl d) Q) Q kb_Tree_findSets_93 := am_wx rfl
theorem jx_Tree_findSets_104 {d : Nat} {Q : am_Q} : am_W kc_Tree_findSets (am_cl d) Q 104 = am_ex (am_cl d) (am_W kc_Tree_findSets (am_cl d) Q) Q kb_Tree_findSets_104 := am_wx rfl
theorem jx_Tree_findSets_128 {d : Nat} {Q : am_Q} : am_W kc_Tree_findSets (am_cl d) Q 128 = am_ex (am_cl d) (am_W kc_Tree_findSets (am_cl d) Q) Q kb_Tree_findSets_128 := am_wx rfl
theorem jx_Tree_findSets_133 {d : Nat} {Q : am_Q} : am_W kc_Tree_findSets (am_cl d) Q 133 = am_ex (am_cl d) (am_W kc_Tree_findSets (am_cl d) Q) Q kb_Tree_findSets_133 := am_wx rfl
theorem jx_Tree_findSets_140 {d : Nat} {Q : am_Q} : am_W kc_Tree_findSets (am_cl d) Q 140 = am_ex (am_cl d) (am_W kc_Tree_findSets (am_cl d) Q) Q kb_Tree_findSets_140 := am_wx rfl
theorem jx_Tree_findSets_146 {d : Nat} {Q : am_Q} : am_W kc_Tree_findSets (am_cl d) Q 146 = am_ex (am_cl d) (am_W kc_Tree_findSets (am_cl d) Q) Q kb_Tree_findSets_146 := am_wx rfl
theorem cx_Tree_setWord {d : Nat} {args : List Value} {h : am_H} {Q : am_Q} : am_cl (d + 1) 164 args h Q = (Nat.ble (am_sz args) 3 = true ∧ am_ex (am_cl d) (am_W kc_Tree_setWord (am_cl d) Q) Q kb_Tree_setWord_0 (am_ent args 3) [] h) := am_clx rfl rfl
theorem jx_Tree_setWord_30 {d : Nat} {Q : am_Q} : am_W kc_Tree_setWord (am_cl d) Q 30 = am_ex (am_cl d) (am_W kc_Tree_setWord (am_cl d) Q) Q kb_Tree_setWord_30 := am_wx rfl
theorem jx_Tree_setWord_31 {d : Nat} {Q : am_Q} : am_W kc_Tree_setWord (am_cl d) Q 31 = am_ex (am_cl d) (am_W kc_Tree_setWord (am_cl d) Q) Q kb_Tree_setWord_31 := am_wx rfl
theorem cx_Tree_beginsWithNot {d : Nat} {args : List Value} {h : am_H} {Q : am_Q} : am_cl (d + 1) 165 args h Q = (Nat.ble (am_sz args) 6 = true ∧ am_ex (am_cl d) (am_W kc_Tree_beginsWithNot (am_cl d) Q) Q kb_Tree_beginsWithNot_0 (am_ent args 6) [] h) := am_clx rfl rfl
theorem jx_Tree_beginsWithNot_4 {d : Nat} {Q : am_Q} : am_W kc_Tree_beginsWithNot (am_cl d) Q 4 = am_ex (am_cl d) (am_W kc_Tree_beginsWithNot (am_cl d) Q) Q kb_Tree_beginsWithNot_4 := am_wx rfl
theorem jx_Tree_beginsWithNot_29 {d : Nat} {Q : am_Q} : am_W kc_Tree_beginsWithNot (am_cl d) Q 29 = am_ex (am_cl d) (am_W kc_Tree_beginsWithNot (am_cl d) Q) Q kb_Tree_beginsWithNot_29 := am_wx rfl
theorem jx_Tree_beginsWithNot_83 {d : Nat} {Q : am_Q} : am_W kc_Tree_beginsWithNot (am_cl d) Q 83 = am_ex (am_cl d) (am_W kc_Tree_beginsWithNot (am_cl d) Q) Q kb_Tree_beginsWithNot_83 := am_wx rfl
theorem jx_Tree_beginsWithNot_84 {d : Nat} {Q : am_Q} : am_W kc_Tree_beginsWithNot (am_cl d) Q 84 = am_ex (am_cl d) (am_W kc_Tree_beginsWithNot (am_cl d) Q) Q kb_Tree_beginsWithNot_84 := am_wx rfl
theorem jx_Tree_beginsWithNot_93 {d : Nat} {Q : am_Q} : am_W kc_Tree_beginsWithNot (am_cl d) Q 93 = am_ex (am_cl d) (am_W kc_Tree_beginsWithNot (am_cl d) Q) Q kb_Tree_beginsWithNot_93 := am_wx rfl
theorem jx_Tree_beginsWithNot_102 {d : Nat} {Q : am_Q} : am_W kc_Tree_beginsWithNot (am_cl d) Q 102 = am_ex (am_cl d) (am_W kc_Tree_beginsWithNot (am_cl d) Q) Q kb_Tree_beginsWithNot_102 := am_wx rfl
theorem cx_Writer_init {d : Nat} {args : List Value} {h : am_H} {Q : am_Q} : am_cl (d + 1) 166 args h Q = (Nat.ble (am_sz args) 1 = true ∧ am_ex (am_cl d) (am_W kc_Writer_init (am_cl d) Q) Q kb_Writer_init_0 (am_ent args 1) [] h) := am_clx rfl rfl
theorem cx_Writer_clear {d : Nat} {args : List Value} {h : am_H} {Q : am_Q} : am_cl (d + 1) 167 args h Q = (Nat.ble (am_sz args) 1 = true ∧ am_ex (am_cl d) (am_W kc_Writer_clear (am_cl d) Q) Q kb_Writer_clear_0 (am_ent args 1) [] h) := am_clx rfl rfl
theorem cx_Writer_copy {d : Nat} {args : List Value} {h : am_H} {Q : am_Q} : am_cl (d + 1) 168 args h Q = (Nat.ble (am_sz args) 1 = true ∧ am_ex (am_cl d) (am_W kc_Writer_copy (am_cl d) Q) Q kb_Writer_copy_0 (am_ent args 1) [] h) := am_clx rfl rfl
theorem cx_Writer_putSign {d : Nat} {args : List Value} {h : am_H} {Q : am_Q} : am_cl (d + 1) 169 args h Q = (Nat.ble (am_sz args) 2 = true ∧ am_ex (am_cl d) (am_W kc_Writer_putSign (am_cl d) Q) Q kb_Writer_putSign_0 (am_ent args 2) [] h) := am_clx rfl rfl
theorem jx_Writer_putSign_31 {d : Nat} {Q : am_Q} : am_W kc_Writer_putSign (am_cl d) Q 31 = am_ex (am_cl d) (am_W kc_Writer_putSign (am_cl d) Q) Q kb_Writer_putSign_31 := am_wx rfl
theorem cx_Writer_putBlank {d : Nat} {args : List Value} {h : am_H} {Q : am_Q} : am_cl (d + 1) 170 args h Q = (Nat.ble (am_sz args) 1 = true ∧ am_ex (am_cl d) (am_W kc_Writer_putBlank (am_cl d) Q) Q kb_Writer_putBlank_0 (am_ent args 1) [] h) := am_clx rfl rfl
theorem jx_Writer_putBlank_39 {d : Nat} {Q : am_Q} : am_W kc_Writer_putBlank (am_cl d) Q 39 = am_ex (am_cl d) (am_W kc_Writer_putBlank (am_cl d) Q) Q kb_Writer_putBlank_39 := am_wx rfl
theorem cx_Writer_putWord {d : Nat} {args : List Value} {h : am_H} {Q : am_Q} : am_cl (d + 1) 171 args h Q = (Nat.ble (am_sz args) 3 = true ∧ am_ex (am_cl d) (am_W kc_Writer_putWord (am_cl d) Q) Q kb_Writer_putWord_0 (am_ent args 3) [] h) := am_clx rfl rfl
theorem jx_Writer_putWord_6 {d : Nat} {Q : am_Q} : am_W kc_Writer_putWord (am_cl d) Q 6 = am_ex (am_cl d) (am_W kc_Writer_putWord (am_cl d) Q) Q kb_Writer_putWord_6 := am_wx rfl
theorem jx_Writer_putWord_29 {d : Nat} {Q : am_Q} : am_W kc_Writer_putWord (am_cl d) Q 29 = am_ex (am_cl d) (am_W kc_Writer_putWord (am_cl d) Q) Q kb_Writer_putWord_29 := am_wx rfl
theorem cx_Writer_putTerm {d : Nat} {args : List Value} {h : am_H} {Q : am_Q} : am_cl (d + 1) 172 args h Q = (Nat.ble (am_sz args) 5 = true ∧ am_ex (am_cl d) (am_W kc_Writer_putTerm (am_cl d) Q) Q kb_Writer_putTerm_0 (am_ent args 5) [] h) := am_clx rfl rfl
theorem jx_Writer_putTerm_16 {d : Nat} {Q : am_Q} : am_W kc_Writer_putTerm (am_cl d) Q 16 = am_ex (am_cl d) (am_W kc_Writer_putTerm (am_cl d) Q) Q kb_Writer_putTerm_16 := am_wx rfl
theorem jx_Writer_putTerm_17 {d : Nat} {Q : am_Q} : am_W kc_Writer_putTerm (am_cl d) Q 17 = am_ex (am_cl d) (am_W kc_Writer_putTerm (am_cl d) Q) Q kb_Writer_putTerm_17 := am_wx rfl
theorem jx_Writer_putTerm_30 {d : Nat} {Q : am_Q} : am_W kc_Writer_putTerm (am_cl d) Q 30 = am_ex (am_cl d) (am_W kc_Writer_putTerm (am_cl d) Q) Q kb_Writer_putTerm_30 := am_wx rfl
theorem jx_Writer_putTerm_50 {d : Nat} {Q : am_Q} : am_W kc_Writer_putTerm (am_cl d) Q 50 = am_ex (am_cl d) (am_W kc_Writer_putTerm (am_cl d) Q) Q kb_Writer_putTerm_50 := am_wx rfl
theorem cx_Writer_putNode {d : Nat} {args : List Value} {h : am_H} {Q : am_Q} : am_cl (d + 1) 173 args h Q = (Nat.ble (am_sz args) 10 = true ∧ am_ex (am_cl d) (am_W kc_Writer_putNode (am_cl d) Q) Q kb_Writer_putNode_0 (am_ent args 10) [] h) := am_clx rfl rfl
theorem jx_Writer_putNode_15 {d : Nat} {Q : am_Q} : am_W kc_Writer_putNode (am_cl d) Q 15 = am_ex (am_cl d) (am_W kc_Writer_putNode (am_cl d) Q) Q kb_Writer_putNode_15 := am_wx rfl
theorem jx_Writer_putNode_16 {d : Nat} {Q : am_Q} : am_W kc_Writer_putNode (am_cl d) Q 16 = am_ex (am_cl d) (am_W kc_Writer_putNode (am_cl d) Q) Q kb_Writer_putNode_16 := am_wx rfl
theorem jx_Writer_putNode_27 {d : Nat} {Q : am_Q} : am_W kc_Writer_putNode (am_cl d) Q 27 = am_ex (am_cl d) (am_W kc_Writer_putNode (am_cl d) Q) Q kb_Writer_putNode_27 := am_wx rfl
theorem jx_Writer_putNode_46 {d : Nat} {Q : am_Q} : am_W kc_Writer_putNode (am_cl d) Q 46 = am_ex (am_cl d) (am_W kc_Writer_putNode (am_cl d) Q) Q kb_Writer_putNode_46 := am_wx rfl
theorem jx_Writer_putNode_76 {d : Nat} {Q : am_Q} : am_W kc_Writer_putNode (am_cl d) Q 76 = am_ex (am_cl d) (am_W kc_Writer_putNode (am_cl d) Q) Q kb_Writer_putNode_76 := am_wx rfl
theorem jx_Writer_putNode_87 {d : Nat} {Q : am_Q} : am_W kc_Writer_putNode (am_cl d) Q 87 = am_ex (am_cl d) (am_W kc_Writer_putNode (am_cl d) Q) Q kb_Writer_putNode_87 := am_wx rfl
theorem jx_Writer_putNode_88 {d : Nat} {Q : am_Q} : am_W kc_Writer_putNode (am_cl d) Q 88 = am_ex (am_cl d) (am_W kc_Writer_putNode (am_cl d) Q) Q kb_Writer_putNode_88 := am_wx rfl
theorem jx_Writer_putNode_107 {d : Nat} {Q : am_Q} : am_W kc_Writer_putNode (am_cl d) Q 107 = am_ex (am_cl d) (am_W kc_Writer_putNode (am_cl d) Q) Q kb_Writer_putNode_107 := am_wx rfl
theorem jx_Writer_putNode_112 {d : Nat} {Q : am_Q} : am_W kc_Writer_putNode (am_cl d) Q 112 = am_ex (am_cl d) (am_W kc_Writer_putNode (am_cl d) Q) Q kb_Writer_putNode_112 := am_wx rfl
theorem jx_Writer_putNode_116 {d : Nat} {Q : am_Q} : am_W kc_Writer_putNode (am_cl d) Q 116 = am_ex (am_cl d) (am_W kc_Writer_putNode (am_cl d) Q) Q kb_Writer_putNode_116 := am_wx rfl
theorem jx_Writer_putNode_117 {d : Nat} {Q : am_Q} : am_W kc_Writer_putNode (am_cl d) Q 117 = am_ex (am_cl d) (am_W kc_Writer_putNode (am_cl d) Q) Q kb_Writer_putNode_117 := am_wx rfl
theorem jx_Writer_putNode_130 {d : Nat} {Q : am_Q} : am_W kc_Writer_putNode (am_cl d) Q 130 = am_ex (am_cl d) (am_W kc_Writer_putNode (am_cl d) Q) Q kb_Writer_putNode_130 := am_wx rfl
theorem jx_Writer_putNode_147 {d : Nat} {Q : am_Q} : am_W kc_Writer_putNode (am_cl d) Q 147 = am_ex (am_cl d) (am_W kc_Writer_putNode (am_cl d) Q) Q kb_Writer_putNode_147 := am_wx rfl
theorem jx_Writer_putNode_148 {d : Nat} {Q : am_Q} : am_W kc_Writer_putNode (am_cl d) Q 148 = am_ex (am_cl d) (am_W kc_Writer_putNode (am_cl d) Q) Q kb_Writer_putNode_148 := am_wx rfl
theorem jx_Writer_putNode_167 {d : Nat} {Q : am_Q} : am_W kc_Writer_putNode (am_cl d) Q 167 = am_ex (am_cl d) (am_W kc_Writer_putNode (am_cl d) Q) Q kb_Writer_putNode_167 := am_wx rfl
theorem jx_Writer_putNode_169 {d : Nat} {Q : am_Q} : am_W kc_Writer_putNode (am_cl d) Q 169 = am_ex (am_cl d) (am_W kc_Writer_putNode (am_cl d) Q) Q kb_Writer_putNode_169 := am_wx rfl
theorem jx_Writer_putNode_190 {d : Nat} {Q : am_Q} : am_W kc_Writer_putNode (am_cl d) Q 190 = am_ex (am_cl d) (am_W kc_Writer_putNode (am_cl d) Q) Q kb_Writer_putNode_190 := am_wx rfl
theorem jx_Writer_putNode_191 {d : Nat} {Q : am_Q} : am_W kc_Writer_putNode (am_cl d) Q 191 = am_ex (am_cl d) (am_W kc_Writer_putNode (am_cl d) Q) Q kb_Writer_putNode_191 := am_wx rfl
theorem jx_Writer_putNode_209 {d : Nat} {Q : am_Q} : am_W kc_Writer_putNode (am_cl d) Q 209 = am_ex (am_cl d) (am_W kc_Writer_putNode (am_cl d) Q) Q kb_Writer_putNode_209 := am_wx rfl
theorem cx_Model_init {d : Nat} {args : List Value} {h : am_H} {Q : am_Q} : am_cl (d + 1) 174 args h Q = (Nat.ble (am_sz args) 1 = true ∧ am_ex (am_cl d) (am_W kc_Model_init (am_cl d) Q) Q kb_Model_init_0 (am_ent args 1) [] h) := am_clx rfl rfl
theorem cx_Model_lies {d : Nat} {args : List Value} {h : am_H} {Q : am_Q} : am_cl (d + 1) 175 args h Q = (Nat.ble (am_sz args) 3 = true ∧ am_ex (am_cl d) (am_W kc_Model_lies (am_cl d) Q) Q kb_Model_lies_0 (am_ent args 3) [] h) := am_clx rfl rfl
theorem jx_Model_lies_14 {d : Nat} {Q : am_Q} : am_W kc_Model_lies (am_cl d) Q 14 = am_ex (am_cl d) (am_W kc_Model_lies (am_cl d) Q) Q kb_Model_lies_14 := am_wx rfl
theorem jx_Model_lies_15 {d : Nat} {Q : am_Q} : am_W kc_Model_lies (am_cl d) Q 15 = am_ex (am_cl d) (am_W kc_Model_lies (am_cl d) Q) Q kb_Model_lies_15 := am_wx rfl
theorem cx_Model_refuses {d : Nat} {args : List Value} {h : am_H} {Q : am_Q} : am_cl (d + 1) 176 args h Q = (Nat.ble (am_sz args) 2 = true ∧ am_ex (am_cl d) (am_W kc_Model_refuses (am_cl d) Q) Q kb_Model_refuses_0 (am_ent args 2) [] h) := am_clx rfl rfl
theorem cx_Model_good {d : Nat} {args : List Value} {h : am_H} {Q : am_Q} : am_cl (d + 1) 177 args h Q = (Nat.ble (am_sz args) 2 = true ∧ am_ex (am_cl d) (am_W kc_Model_good (am_cl d) Q) Q kb_Model_good_0 (am_ent args 2) [] h) := am_clx rfl rfl
theorem cx_Model_ones {d : Nat} {args : List Value} {h : am_H} {Q : am_Q} : am_cl (d + 1) 178 args h Q = (Nat.ble (am_sz args) 3 = true ∧ am_ex (am_cl d) (am_W kc_Model_ones (am_cl d) Q) Q kb_Model_ones_0 (am_ent args 3) [] h) := am_clx rfl rfl
theorem jx_Model_ones_4 {d : Nat} {Q : am_Q} : am_W kc_Model_ones (am_cl d) Q 4 = am_ex (am_cl d) (am_W kc_Model_ones (am_cl d) Q) Q kb_Model_ones_4 := am_wx rfl
theorem jx_Model_ones_24 {d : Nat} {Q : am_Q} : am_W kc_Model_ones (am_cl d) Q 24 = am_ex (am_cl d) (am_W kc_Model_ones (am_cl d) Q) Q kb_Model_ones_24 := am_wx rfl
theorem cx_Model_image {d : Nat} {args : List Value} {h : am_H} {Q : am_Q} : am_cl (d + 1) 179 args h Q = (Nat.ble (am_sz args) 3 = true ∧ am_ex (am_cl d) (am_W kc_Model_image (am_cl d) Q) Q kb_Model_image_0 (am_ent args 3) [] h) := am_clx rfl rfl
theorem jx_Model_image_15 {d : Nat} {Q : am_Q} : am_W kc_Model_image (am_cl d) Q 15 = am_ex (am_cl d) (am_W kc_Model_image (am_cl d) Q) Q kb_Model_image_15 := am_wx rfl
theorem jx_Model_image_17 {d : Nat} {Q : am_Q} : am_W kc_Model_image (am_cl d) Q 17 = am_ex (am_cl d) (am_W kc_Model_image (am_cl d) Q) Q kb_Model_image_17 := am_wx rfl
theorem jx_Model_image_48 {d : Nat} {Q : am_Q} : am_W kc_Model_image (am_cl d) Q 48 = am_ex (am_cl d) (am_W kc_Model_image (am_cl d) Q) Q kb_Model_image_48 := am_wx rfl
theorem cx_Model_back {d : Nat} {args : List Value} {h : am_H} {Q : am_Q} : am_cl (d + 1) 180 args h Q = (Nat.ble (am_sz args) 3 = true ∧ am_ex (am_cl d) (am_W kc_Model_back (am_cl d) Q) Q kb_Model_back_0 (am_ent args 3) [] h) := am_clx rfl rfl
theorem jx_Model_back_15 {d : Nat} {Q : am_Q} : am_W kc_Model_back (am_cl d) Q 15 = am_ex (am_cl d) (am_W kc_Model_back (am_cl d) Q) Q kb_Model_back_15 := am_wx rfl
theorem jx_Model_back_31 {d : Nat} {Q : am_Q} : am_W kc_Model_back (am_cl d) Q 31 = am_ex (am_cl d) (am_W kc_Model_back (am_cl d) Q) Q kb_Model_back_31 := am_wx rfl
theorem jx_Model_back_33 {d : Nat} {Q : am_Q} : am_W kc_Model_back (am_cl d) Q 33 = am_ex (am_cl d) (am_W kc_Model_back (am_cl d) Q) Q kb_Model_back_33 := am_wx rfl
theorem jx_Model_back_64 {d : Nat} {Q : am_Q} : am_W kc_Model_back (am_cl d) Q 64 = am_ex (am_cl d) (am_W kc_Model_back (am_cl d) Q) Q kb_Model_back_64 := am_wx rfl
theorem cx_Model_slips {d : Nat} {args : List Value} {h : am_H} {Q : am_Q} : am_cl (d + 1) 181 args h Q = (Nat.ble (am_sz args) 1 = true ∧ am_ex (am_cl d) (am_W kc_Model_slips (am_cl d) Q) Q kb_Model_slips_0 (am_ent args 1) [] h) := am_clx rfl rfl
theorem cx_Model_isSlip {d : Nat} {args : List Value} {h : am_H} {Q : am_Q} : am_cl (d + 1) 182 args h Q = (Nat.ble (am_sz args) 2 = true ∧ am_ex (am_cl d) (am_W kc_Model_isSlip (am_cl d) Q) Q kb_Model_isSlip_0 (am_ent args 2) [] h) := am_clx rfl rfl
theorem cx_Model_isAsked {d : Nat} {args : List Value} {h : am_H} {Q : am_Q} : am_cl (d + 1) 183 args h Q = (Nat.ble (am_sz args) 1 = true ∧ am_ex (am_cl d) (am_W kc_Model_isAsked (am_cl d) Q) Q kb_Model_isAsked_0 (am_ent args 1) [] h) := am_clx rfl rfl
theorem jx_Model_isAsked_16 {d : Nat} {Q : am_Q} : am_W kc_Model_isAsked (am_cl d) Q 16 = am_ex (am_cl d) (am_W kc_Model_isAsked (am_cl d) Q) Q kb_Model_isAsked_16 := am_wx rfl
theorem jx_Model_isAsked_17 {d : Nat} {Q : am_Q} : am_W kc_Model_isAsked (am_cl d) Q 17 = am_ex (am_cl d) (am_W kc_Model_isAsked (am_cl d) Q) Q kb_Model_isAsked_17 := am_wx rfl
theorem cx_Model_slotOf {d : Nat} {args : List Value} {h : am_H} {Q : am_Q} : am_cl (d + 1) 184 args h Q = (Nat.ble (am_sz args) 2 = true ∧ am_ex (am_cl d) (am_W kc_Model_slotOf (am_cl d) Q) Q kb_Model_slotOf_0 (am_ent args 2) [] h) := am_clx rfl rfl
theorem jx_Model_slotOf_17 {d : Nat} {Q : am_Q} : am_W kc_Model_slotOf (am_cl d) Q 17 = am_ex (am_cl d) (am_W kc_Model_slotOf (am_cl d) Q) Q kb_Model_slotOf_17 := am_wx rfl
theorem jx_Model_slotOf_21 {d : Nat} {Q : am_Q} : am_W kc_Model_slotOf (am_cl d) Q 21 = am_ex (am_cl d) (am_W kc_Model_slotOf (am_cl d) Q) Q kb_Model_slotOf_21 := am_wx rfl
theorem jx_Model_slotOf_33 {d : Nat} {Q : am_Q} : am_W kc_Model_slotOf (am_cl d) Q 33 = am_ex (am_cl d) (am_W kc_Model_slotOf (am_cl d) Q) Q kb_Model_slotOf_33 := am_wx rfl
theorem jx_Model_slotOf_34 {d : Nat} {Q : am_Q} : am_W kc_Model_slotOf (am_cl d) Q 34 = am_ex (am_cl d) (am_W kc_Model_slotOf (am_cl d) Q) Q kb_Model_slotOf_34 := am_wx rfl
theorem cx_Model_isHeap {d : Nat} {args : List Value} {h : am_H} {Q : am_Q} : am_cl (d + 1) 185 args h Q = (Nat.ble (am_sz args) 2 = true ∧ am_ex (am_cl d) (am_W kc_Model_isHeap (am_cl d) Q) Q kb_Model_isHeap_0 (am_ent args 2) [] h) := am_clx rfl rfl
theorem cx_Model_part {d : Nat} {args : List Value} {h : am_H} {Q : am_Q} : am_cl (d + 1) 186 args h Q = (Nat.ble (am_sz args) 3 = true ∧ am_ex (am_cl d) (am_W kc_Model_part (am_cl d) Q) Q kb_Model_part_0 (am_ent args 3) [] h) := am_clx rfl rfl
theorem cx_Model_feed {d : Nat} {args : List Value} {h : am_H} {Q : am_Q} : am_cl (d + 1) 187 args h Q = (Nat.ble (am_sz args) 7 = true ∧ am_ex (am_cl d) (am_W kc_Model_feed (am_cl d) Q) Q kb_Model_feed_0 (am_ent args 7) [] h) := am_clx rfl rfl
theorem jx_Model_feed_15 {d : Nat} {Q : am_Q} : am_W kc_Model_feed (am_cl d) Q 15 = am_ex (am_cl d) (am_W kc_Model_feed (am_cl d) Q) Q kb_Model_feed_15 := am_wx rfl
theorem jx_Model_feed_55 {d : Nat} {Q : am_Q} : am_W kc_Model_feed (am_cl d) Q 55 = am_ex (am_cl d) (am_W kc_Model_feed (am_cl d) Q) Q kb_Model_feed_55 := am_wx rfl
theorem jx_Model_feed_101 {d : Nat} {Q : am_Q} : am_W kc_Model_feed (am_cl d) Q 101 = am_ex (am_cl d) (am_W kc_Model_feed (am_cl d) Q) Q kb_Model_feed_101 := am_wx rfl
theorem cx_Model_end {d : Nat} {args : List Value} {h : am_H} {Q : am_Q} : am_cl (d + 1) 188 args h Q = (Nat.ble (am_sz args) 2 = true ∧ am_ex (am_cl d) (am_W kc_Model_end (am_cl d) Q) Q kb_Model_end_0 (am_ent args 2) [] h) := am_clx rfl rfl
theorem jx_Model_end_14 {d : Nat} {Q : am_Q} : am_W kc_Model_end (am_cl d) Q 14 = am_ex (am_cl d) (am_W kc_Model_end (am_cl d) Q) Q kb_Model_end_14 := am_wx rfl
theorem cx_Model_isSmall {d : Nat} {args : List Value} {h : am_H} {Q : am_Q} : am_cl (d + 1) 189 args h Q = (Nat.ble (am_sz args) 1 = true ∧ am_ex (am_cl d) (am_W kc_Model_isSmall (am_cl d) Q) Q kb_Model_isSmall_0 (am_ent args 1) [] h) := am_clx rfl rfl
theorem jx_Model_isSmall_16 {d : Nat} {Q : am_Q} : am_W kc_Model_isSmall (am_cl d) Q 16 = am_ex (am_cl d) (am_W kc_Model_isSmall (am_cl d) Q) Q kb_Model_isSmall_16 := am_wx rfl
theorem jx_Model_isSmall_17 {d : Nat} {Q : am_Q} : am_W kc_Model_isSmall (am_cl d) Q 17 = am_ex (am_cl d) (am_W kc_Model_isSmall (am_cl d) Q) Q kb_Model_isSmall_17 := am_wx rfl
theorem cx_Model_isDigit {d : Nat} {args : List Value} {h : am_H} {Q : am_Q} : am_cl (d + 1) 190 args h Q = (Nat.ble (am_sz args) 1 = true ∧ am_ex (am_cl d) (am_W kc_Model_isDigit (am_cl d) Q) Q kb_Model_isDigit_0 (am_ent args 1) [] h) := am_clx rfl rfl
theorem jx_Model_isDigit_16 {d : Nat} {Q : am_Q} : am_W kc_Model_isDigit (am_cl d) Q 16 = am_ex (am_cl d) (am_W kc_Model_isDigit (am_cl d) Q) Q kb_Model_isDigit_16 := am_wx rfl
theorem jx_Model_isDigit_17 {d : Nat} {Q : am_Q} : am_W kc_Model_isDigit (am_cl d) Q 17 = am_ex (am_cl d) (am_W kc_Model_isDigit (am_cl d) Q) Q kb_Model_isDigit_17 := am_wx rfl
theorem cx_Model_wordOf {d : Nat} {args : List Value} {h : am_H} {Q : am_Q} : am_cl (d + 1) 191 args h Q = (Nat.ble (am_sz args) 8 = true ∧ am_ex (am_cl d) (am_W kc_Model_wordOf (am_cl d) Q) Q kb_Model_wordOf_0 (am_ent args 8) [] h) := am_clx rfl rfl
theorem jx_Model_wordOf_5 {d : Nat} {Q : am_Q} : am_W kc_Model_wordOf (am_cl d) Q 5 = am_ex (am_cl d) (am_W kc_Model_wordOf (am_cl d) Q) Q kb_Model_wordOf_5 := am_wx rfl
theorem jx_Model_wordOf_18 {d : Nat} {Q : am_Q} : am_W kc_Model_wordOf (am_cl d) Q 18 = am_ex (am_cl d) (am_W kc_Model_wordOf (am_cl d) Q) Q kb_Model_wordOf_18 := am_wx rfl
theorem jx_Model_wordOf_39 {d : Nat} {Q : am_Q} : am_W kc_Model_wordOf (am_cl d) Q 39 = am_ex (am_cl d) (am_W kc_Model_wordOf (am_cl d) Q) Q kb_Model_wordOf_39 := am_wx rfl
theorem jx_Model_wordOf_51 {d : Nat} {Q : am_Q} : am_W kc_Model_wordOf (am_cl d) Q 51 = am_ex (am_cl d) (am_W kc_Model_wordOf (am_cl d) Q) Q kb_Model_wordOf_51 := am_wx rfl
theorem jx_Model_wordOf_52 {d : Nat} {Q : am_Q} : am_W kc_Model_wordOf (am_cl d) Q 52 = am_ex (am_cl d) (am_W kc_Model_wordOf (am_cl d) Q) Q kb_Model_wordOf_52 := am_wx rfl
theorem jx_Model_wordOf_57 {d : Nat} {Q : am_Q} : am_W kc_Model_wordOf (am_cl d) Q 57 = am_ex (am_cl d) (am_W kc_Model_wordOf (am_cl d) Q) Q kb_Model_wordOf_57 := am_wx rfl
theorem jx_Model_wordOf_95 {d : Nat} {Q : am_Q} : am_W kc_Model_wordOf (am_cl d) Q 95 = am_ex (am_cl d) (am_W kc_Model_wordOf (am_cl d) Q) Q kb_Model_wordOf_95 := am_wx rfl
theorem jx_Model_wordOf_96 {d : Nat} {Q : am_Q} : am_W kc_Model_wordOf (am_cl d) Q 96 = am_ex (am_cl d) (am_W kc_Model_wordOf (am_cl d) Q) Q kb_Model_wordOf_96 := am_wx rfl
theorem jx_Model_wordOf_104 {d : Nat} {Q : am_Q} : am_W kc_Model_wordOf (am_cl d) Q 104 = am_ex (am_cl d) (am_W kc_Model_wordOf (am_cl d) Q) Q kb_Model_wordOf_104 := am_wx rfl
theorem jx_Model_wordOf_111 {d : Nat} {Q : am_Q} : am_W kc_Model_wordOf (am_cl d) Q 111 = am_ex (am_cl d) (am_W kc_Model_wordOf (am_cl d) Q) Q kb_Model_wordOf_111 := am_wx rfl
theorem jx_Model_wordOf_126 {d : Nat} {Q : am_Q} : am_W kc_Model_wordOf (am_cl d) Q 126 = am_ex (am_cl d) (am_W kc_Model_wordOf (am_cl d) Q) Q kb_Model_wordOf_126 := am_wx rfl
theorem cx_Model_splits {d : Nat} {args : List Value} {h : am_H} {Q : am_Q} : am_cl (d + 1) 192 args h Q = (Nat.ble (am_sz args) 6 = true ∧ am_ex (am_cl d) (am_W kc_Model_splits (am_cl d) Q) Q kb_Model_splits_0 (am_ent args 6) [] h) := am_clx rfl rfl
theorem jx_Model_splits_7 {d : Nat} {Q : am_Q} : am_W kc_Model_splits (am_cl d) Q 7 = am_ex (am_cl d) (am_W kc_Model_splits (am_cl d) Q) Q kb_Model_splits_7 := am_wx rfl
theorem jx_Model_splits_31 {d : Nat} {Q : am_Q} : am_W kc_Model_splits (am_cl d) Q 31 = am_ex (am_cl d) (am_W kc_Model_splits (am_cl d) Q) Q kb_Model_splits_31 := am_wx rfl
theorem jx_Model_splits_43 {d : Nat} {Q : am_Q} : am_W kc_Model_splits (am_cl d) Q 43 = am_ex (am_cl d) (am_W kc_Model_splits (am_cl d) Q) Q kb_Model_splits_43 := am_wx rfl
theorem jx_Model_splits_68 {d : Nat} {Q : am_Q} : am_W kc_Model_splits (am_cl d) Q 68 = am_ex (am_cl d) (am_W kc_Model_splits (am_cl d) Q) Q kb_Model_splits_68 := am_wx rfl
theorem jx_Model_splits_75 {d : Nat} {Q : am_Q} : am_W kc_Model_splits (am_cl d) Q 75 = am_ex (am_cl d) (am_W kc_Model_splits (am_cl d) Q) Q kb_Model_splits_75 := am_wx rfl
theorem jx_Model_splits_100 {d : Nat} {Q : am_Q} : am_W kc_Model_splits (am_cl d) Q 100 = am_ex (am_cl d) (am_W kc_Model_splits (am_cl d) Q) Q kb_Model_splits_100 := am_wx rfl
theorem jx_Model_splits_145 {d : Nat} {Q : am_Q} : am_W kc_Model_splits (am_cl d) Q 145 = am_ex (am_cl d) (am_W kc_Model_splits (am_cl d) Q) Q kb_Model_splits_145 := am_wx rfl
theorem jx_Model_splits_157 {d : Nat} {Q : am_Q} : am_W kc_Model_splits (am_cl d) Q 157 = am_ex (am_cl d) (am_W kc_Model_splits (am_cl d) Q) Q kb_Model_splits_157 := am_wx rfl
theorem jx_Model_splits_165 {d : Nat} {Q : am_Q} : am_W kc_Model_splits (am_cl d) Q 165 = am_ex (am_cl d) (am_W kc_Model_splits (am_cl d) Q) Q kb_Model_splits_165 := am_wx rfl
theorem jx_Model_splits_169 {d : Nat} {Q : am_Q} : am_W kc_Model_splits (am_cl d) Q 169 = am_ex (am_cl d) (am_W kc_Model_splits (am_cl d) Q) Q kb_Model_splits_169 := am_wx rfl
theorem jx_Model_splits_217 {d : Nat} {Q : am_Q} : am_W kc_Model_splits (am_cl d) Q 217 = am_ex (am_cl d) (am_W kc_Model_splits (am_cl d) Q) Q kb_Model_splits_217 := am_wx rfl
theorem jx_Model_splits_240 {d : Nat} {Q : am_Q} : am_W kc_Model_splits (am_cl d) Q 240 = am_ex (am_cl d) (am_W kc_Model_splits (am_cl d) Q) Q kb_Model_splits_240 := am_wx rfl
theorem jx_Model_splits_247 {d : Nat} {Q : am_Q} : am_W kc_Model_splits (am_cl d) Q 247 = am_ex (am_cl d) (am_W kc_Model_splits (am_cl d) Q) Q kb_Model_splits_247 := am_wx rfl
theorem jx_Model_splits_263 {d : Nat} {Q : am_Q} : am_W kc_Model_splits (am_cl d) Q 263 = am_ex (am_cl d) (am_W kc_Model_splits (am_cl d) Q) Q kb_Model_splits_263 := am_wx rfl
theorem cx_Model_fine {d : Nat} {args : List Value} {h : am_H} {Q : am_Q} : am_cl (d + 1) 193 args h Q = (Nat.ble (am_sz args) 1 = true ∧ am_ex (am_cl d) (am_W kc_Model_fine (am_cl d) Q) Q kb_Model_fine_0 (am_ent args 1) [] h) := am_clx rfl rfl
theorem jx_Model_fine_12 {d : Nat} {Q : am_Q} : am_W kc_Model_fine (am_cl d) Q 12 = am_ex (am_cl d) (am_W kc_Model_fine (am_cl d) Q) Q kb_Model_fine_12 := am_wx rfl
theorem jx_Model_fine_13 {d : Nat} {Q : am_Q} : am_W kc_Model_fine (am_cl d) Q 13 = am_ex (am_cl d) (am_W kc_Model_fine (am_cl d) Q) Q kb_Model_fine_13 := am_wx rfl
theorem cx_Model_faults {d : Nat} {args : List Value} {h : am_H} {Q : am_Q} : am_cl (d + 1) 194 args h Q = (Nat.ble (am_sz args) 1 = true ∧ am_ex (am_cl d) (am_W kc_Model_faults (am_cl d) Q) Q kb_Model_faults_0 (am_ent args 1) [] h) := am_clx rfl rfl
theorem jx_Model_faults_20 {d : Nat} {Q : am_Q} : am_W kc_Model_faults (am_cl d) Q 20 = am_ex (am_cl d) (am_W kc_Model_faults (am_cl d) Q) Q kb_Model_faults_20 := am_wx rfl
theorem cx_Model_takes0 {d : Nat} {args : List Value} {h : am_H} {Q : am_Q} : am_cl (d + 1) 195 args h Q = (Nat.ble (am_sz args) 3 = true ∧ am_ex (am_cl d) (am_W kc_Model_takes0 (am_cl d) Q) Q kb_Model_takes0_0 (am_ent args 3) [] h) := am_clx rfl rfl
theorem jx_Model_takes0_24 {d : Nat} {Q : am_Q} : am_W kc_Model_takes0 (am_cl d) Q 24 = am_ex (am_cl d) (am_W kc_Model_takes0 (am_cl d) Q) Q kb_Model_takes0_24 := am_wx rfl
theorem jx_Model_takes0_25 {d : Nat} {Q : am_Q} : am_W kc_Model_takes0 (am_cl d) Q 25 = am_ex (am_cl d) (am_W kc_Model_takes0 (am_cl d) Q) Q kb_Model_takes0_25 := am_wx rfl
theorem jx_Model_takes0_40 {d : Nat} {Q : am_Q} : am_W kc_Model_takes0 (am_cl d) Q 40 = am_ex (am_cl d) (am_W kc_Model_takes0 (am_cl d) Q) Q kb_Model_takes0_40 := am_wx rfl
theorem cx_Model_must {d : Nat} {args : List Value} {h : am_H} {Q : am_Q} : am_cl (d + 1) 196 args h Q = (Nat.ble (am_sz args) 2 = true ∧ am_ex (am_cl d) (am_W kc_Model_must (am_cl d) Q) Q kb_Model_must_0 (am_ent args 2) [] h) := am_clx rfl rfl
theorem jx_Model_must_12 {d : Nat} {Q : am_Q} : am_W kc_Model_must (am_cl d) Q 12 = am_ex (am_cl d) (am_W kc_Model_must (am_cl d) Q) Q kb_Model_must_12 := am_wx rfl
theorem cx_Model_sign {d : Nat} {args : List Value} {h : am_H} {Q : am_Q} : am_cl (d + 1) 197 args h Q = (Nat.ble (am_sz args) 1 = true ∧ am_ex (am_cl d) (am_W kc_Model_sign (am_cl d) Q) Q kb_Model_sign_0 (am_ent args 1) [] h) := am_clx rfl rfl
theorem cx_Model_makes {d : Nat} {args : List Value} {h : am_H} {Q : am_Q} : am_cl (d + 1) 198 args h Q = (Nat.ble (am_sz args) 2 = true ∧ am_ex (am_cl d) (am_W kc_Model_makes (am_cl d) Q) Q kb_Model_makes_0 (am_ent args 2) [] h) := am_clx rfl rfl
theorem jx_Model_makes_17 {d : Nat} {Q : am_Q} : am_W kc_Model_makes (am_cl d) Q 17 = am_ex (am_cl d) (am_W kc_Model_makes (am_cl d) Q) Q kb_Model_makes_17 := am_wx rfl
theorem jx_Model_makes_18 {d : Nat} {Q : am_Q} : am_W kc_Model_makes (am_cl d) Q 18 = am_ex (am_cl d) (am_W kc_Model_makes (am_cl d) Q) Q kb_Model_makes_18 := am_wx rfl
theorem cx_Model_readsTerm {d : Nat} {args : List Value} {h : am_H} {Q : am_Q} : am_cl (d + 1) 199 args h Q = (Nat.ble (am_sz args) 2 = true ∧ am_ex (am_cl d) (am_W kc_Model_readsTerm (am_cl d) Q) Q kb_Model_readsTerm_0 (am_ent args 2) [] h) := am_clx rfl rfl
theorem jx_Model_readsTerm_5 {d : Nat} {Q : am_Q} : am_W kc_Model_readsTerm (am_cl d) Q 5 = am_ex (am_cl d) (am_W kc_Model_readsTerm (am_cl d) Q) Q kb_Model_readsTerm_5 := am_wx rfl
theorem jx_Model_readsTerm_28 {d : Nat} {Q : am_Q} : am_W kc_Model_readsTerm (am_cl d) Q 28 = am_ex (am_cl d) (am_W kc_Model_readsTerm (am_cl d) Q) Q kb_Model_readsTerm_28 := am_wx rfl
theorem cx_Model_readBoth {d : Nat} {args : List Value} {h : am_H} {Q : am_Q} : am_cl (d + 1) 200 args h Q = (Nat.ble (am_sz args) 2 = true ∧ am_ex (am_cl d) (am_W kc_Model_readBoth (am_cl d) Q) Q kb_Model_readBoth_0 (am_ent args 2) [] h) := am_clx rfl rfl
theorem jx_Model_readBoth_5 {d : Nat} {Q : am_Q} : am_W kc_Model_readBoth (am_cl d) Q 5 = am_ex (am_cl d) (am_W kc_Model_readBoth (am_cl d) Q) Q kb_Model_readBoth_5 := am_wx rfl
theorem jx_Model_readBoth_34 {d : Nat} {Q : am_Q} : am_W kc_Model_readBoth (am_cl d) Q 34 = am_ex (am_cl d) (am_W kc_Model_readBoth (am_cl d) Q) Q kb_Model_readBoth_34 := am_wx rfl
theorem cx_Model_readPlain {d : Nat} {args : List Value} {h : am_H} {Q : am_Q} : am_cl (d + 1) 201 args h Q = (Nat.ble (am_sz args) 5 = true ∧ am_ex (am_cl d) (am_W kc_Model_readPlain (am_cl d) Q) Q kb_Model_readPlain_0 (am_ent args 5) [] h) := am_clx rfl rfl
theorem jx_Model_readPlain_2 {d : Nat} {Q : am_Q} : am_W kc_Model_readPlain (am_cl d) Q 2 = am_ex (am_cl d) (am_W kc_Model_readPlain (am_cl d) Q) Q kb_Model_readPlain_2 := am_wx rfl
theorem jx_Model_readPlain_17 {d : Nat} {Q : am_Q} : am_W kc_Model_readPlain (am_cl d) Q 17 = am_ex (am_cl d) (am_W kc_Model_readPlain (am_cl d) Q) Q kb_Model_readPlain_17 := am_wx rfl
theorem jx_Model_readPlain_25 {d : Nat} {Q : am_Q} : am_W kc_Model_readPlain (am_cl d) Q 25 = am_ex (am_cl d) (am_W kc_Model_readPlain (am_cl d) Q) Q kb_Model_readPlain_25 := am_wx rfl
theorem jx_Model_readPlain_54 {d : Nat} {Q : am_Q} : am_W kc_Model_readPlain (am_cl d) Q 54 = am_ex (am_cl d) (am_W kc_Model_readPlain (am_cl d) Q) Q kb_Model_readPlain_54 := am_wx rfl
theorem jx_Model_readPlain_62 {d : Nat} {Q : am_Q} : am_W kc_Model_readPlain (am_cl d) Q 62 = am_ex (am_cl d) (am_W kc_Model_readPlain (am_cl d) Q) Q kb_Model_readPlain_62 := am_wx rfl
theorem jx_Model_readPlain_91 {d : Nat} {Q : am_Q} : am_W kc_Model_readPlain (am_cl d) Q 91 = am_ex (am_cl d) (am_W kc_Model_readPlain (am_cl d) Q) Q kb_Model_readPlain_91 := am_wx rfl
theorem jx_Model_readPlain_115 {d : Nat} {Q : am_Q} : am_W kc_Model_readPlain (am_cl d) Q 115 = am_ex (am_cl d) (am_W kc_Model_readPlain (am_cl d) Q) Q kb_Model_readPlain_115 := am_wx rfl
theorem jx_Model_readPlain_133 {d : Nat} {Q : am_Q} : am_W kc_Model_readPlain (am_cl d) Q 133 = am_ex (am_cl d) (am_W kc_Model_readPlain (am_cl d) Q) Q kb_Model_readPlain_133 := am_wx rfl
theorem jx_Model_readPlain_154 {d : Nat} {Q : am_Q} : am_W kc_Model_readPlain (am_cl d) Q 154 = am_ex (am_cl d) (am_W kc_Model_readPlain (am_cl d) Q) Q kb_Model_readPlain_154 := am_wx rfl
theorem jx_Model_readPlain_158 {d : Nat} {Q : am_Q} : am_W kc_Model_readPlain (am_cl d) Q 158 = am_ex (am_cl d) (am_W kc_Model_readPlain (am_cl d) Q) Q kb_Model_readPlain_158 := am_wx rfl
theorem jx_Model_readPlain_161 {d : Nat} {Q : am_Q} : am_W kc_Model_readPlain (am_cl d) Q 161 = am_ex (am_cl d) (am_W kc_Model_readPlain (am_cl d) Q) Q kb_Model_readPlain_161 := am_wx rfl
theorem jx_Model_readPlain_179 {d : Nat} {Q : am_Q} : am_W kc_Model_readPlain (am_cl d) Q 179 = am_ex (am_cl d) (am_W kc_Model_readPlain (am_cl d) Q) Q kb_Model_readPlain_179 := am_wx rfl
theorem cx_Model_readSentence {d : Nat} {args : List Value} {h : am_H} {Q : am_Q} : am_cl (d + 1) 202 args h Q = (Nat.ble (am_sz args) 1 = true ∧ am_ex (am_cl d) (am_W kc_Model_readSentence (am_cl d) Q) Q kb_Model_readSentence_0 (am_ent args 1) [] h) := am_clx rfl rfl
theorem jx_Model_readSentence_89 {d : Nat} {Q : am_Q} : am_W kc_Model_readSentence (am_cl d) Q 89 = am_ex (am_cl d) (am_W kc_Model_readSentence (am_cl d) Q) Q kb_Model_readSentence_89 := am_wx rfl
theorem jx_Model_readSentence_90 {d : Nat} {Q : am_Q} : am_W kc_Model_readSentence (am_cl d) Q 90 = am_ex (am_cl d) (am_W kc_Model_readSentence (am_cl d) Q) Q kb_Model_readSentence_90 := am_wx rfl
theorem jx_Model_readSentence_101 {d : Nat} {Q : am_Q} : am_W kc_Model_readSentence (am_cl d) Q 101 = am_ex (am_cl d) (am_W kc_Model_readSentence (am_cl d) Q) Q kb_Model_readSentence_101 := am_wx rfl
theorem jx_Model_readSentence_129 {d : Nat} {Q : am_Q} : am_W kc_Model_readSentence (am_cl d) Q 129 = am_ex (am_cl d) (am_W kc_Model_readSentence (am_cl d) Q) Q kb_Model_readSentence_129 := am_wx rfl
theorem jx_Model_readSentence_130 {d : Nat} {Q : am_Q} : am_W kc_Model_readSentence (am_cl d) Q 130 = am_ex (am_cl d) (am_W kc_Model_readSentence (am_cl d) Q) Q kb_Model_readSentence_130 := am_wx rfl
theorem jx_Model_readSentence_141 {d : Nat} {Q : am_Q} : am_W kc_Model_readSentence (am_cl d) Q 141 = am_ex (am_cl d) (am_W kc_Model_readSentence (am_cl d) Q) Q kb_Model_readSentence_141 := am_wx rfl
theorem jx_Model_readSentence_177 {d : Nat} {Q : am_Q} : am_W kc_Model_readSentence (am_cl d) Q 177 = am_ex (am_cl d) (am_W kc_Model_readSentence (am_cl d) Q) Q kb_Model_readSentence_177 := am_wx rfl
theorem jx_Model_readSentence_218 {d : Nat} {Q : am_Q} : am_W kc_Model_readSentence (am_cl d) Q 218 = am_ex (am_cl d) (am_W kc_Model_readSentence (am_cl d) Q) Q kb_Model_readSentence_218 := am_wx rfl
theorem jx_Model_readSentence_219 {d : Nat} {Q : am_Q} : am_W kc_Model_readSentence (am_cl d) Q 219 = am_ex (am_cl d) (am_W kc_Model_readSentence (am_cl d) Q) Q kb_Model_readSentence_219 := am_wx rfl
theorem jx_Model_readSentence_230 {d : Nat} {Q : am_Q} : am_W kc_Model_readSentence (am_cl d) Q 230 = am_ex (am_cl d) (am_W kc_Model_readSentence (am_cl d) Q) Q kb_Model_readSentence_230 := am_wx rfl
theorem jx_Model_readSentence_234 {d : Nat} {Q : am_Q} : am_W kc_Model_readSentence (am_cl d) Q 234 = am_ex (am_cl d) (am_W kc_Model_readSentence (am_cl d) Q) Q kb_Model_readSentence_234 := am_wx rfl
theorem cx_Model_reads {d : Nat} {args : List Value} {h : am_H} {Q : am_Q} : am_cl (d + 1) 203 args h Q = (Nat.ble (am_sz args) 4 = true ∧ am_ex (am_cl d) (am_W kc_Model_reads (am_cl d) Q) Q kb_Model_reads_0 (am_ent args 4) [] h) := am_clx rfl rfl
theorem jx_Model_reads_59 {d : Nat} {Q : am_Q} : am_W kc_Model_reads (am_cl d) Q 59 = am_ex (am_cl d) (am_W kc_Model_reads (am_cl d) Q) Q kb_Model_reads_59 := am_wx rfl
theorem jx_Model_reads_76 {d : Nat} {Q : am_Q} : am_W kc_Model_reads (am_cl d) Q 76 = am_ex (am_cl d) (am_W kc_Model_reads (am_cl d) Q) Q kb_Model_reads_76 := am_wx rfl
theorem jx_Model_reads_142 {d : Nat} {Q : am_Q} : am_W kc_Model_reads (am_cl d) Q 142 = am_ex (am_cl d) (am_W kc_Model_reads (am_cl d) Q) Q kb_Model_reads_142 := am_wx rfl
theorem jx_Model_reads_172 {d : Nat} {Q : am_Q} : am_W kc_Model_reads (am_cl d) Q 172 = am_ex (am_cl d) (am_W kc_Model_reads (am_cl d) Q) Q kb_Model_reads_172 := am_wx rfl
theorem cx_Model_slip {d : Nat} {args : List Value} {h : am_H} {Q : am_Q} : am_cl (d + 1) 204 args h Q = (Nat.ble (am_sz args) 1 = true ∧ am_ex (am_cl d) (am_W kc_Model_slip (am_cl d) Q) Q kb_Model_slip_0 (am_ent args 1) [] h) := am_clx rfl rfl
theorem jx_Model_slip_21 {d : Nat} {Q : am_Q} : am_W kc_Model_slip (am_cl d) Q 21 = am_ex (am_cl d) (am_W kc_Model_slip (am_cl d) Q) Q kb_Model_slip_21 := am_wx rfl
theorem jx_Model_slip_39 {d : Nat} {Q : am_Q} : am_W kc_Model_slip (am_cl d) Q 39 = am_ex (am_cl d) (am_W kc_Model_slip (am_cl d) Q) Q kb_Model_slip_39 := am_wx rfl
theorem cx_Model_question {d : Nat} {args : List Value} {h : am_H} {Q : am_Q} : am_cl (d + 1) 205 args h Q = (Nat.ble (am_sz args) 1 = true ∧ am_ex (am_cl d) (am_W kc_Model_question (am_cl d) Q) Q kb_Model_question_0 (am_ent args 1) [] h) := am_clx rfl rfl
theorem jx_Model_question_16 {d : Nat} {Q : am_Q} : am_W kc_Model_question (am_cl d) Q 16 = am_ex (am_cl d) (am_W kc_Model_question (am_cl d) Q) Q kb_Model_question_16 := am_wx rfl
theorem cx_Model_fault {d : Nat} {args : List Value} {h : am_H} {Q : am_Q} : am_cl (d + 1) 206 args h Q = (Nat.ble (am_sz args) 1 = true ∧ am_ex (am_cl d) (am_W kc_Model_fault (am_cl d) Q) Q kb_Model_fault_0 (am_ent args 1) [] h) := am_clx rfl rfl
theorem cx_Model_copies {d : Nat} {args : List Value} {h : am_H} {Q : am_Q} : am_cl (d + 1) 207 args h Q = (Nat.ble (am_sz args) 4 = true ∧ am_ex (am_cl d) (am_W kc_Model_copies (am_cl d) Q) Q kb_Model_copies_0 (am_ent args 4) [] h) := am_clx rfl rfl
theorem jx_Model_copies_2 {d : Nat} {Q : am_Q} : am_W kc_Model_copies (am_cl d) Q 2 = am_ex (am_cl d) (am_W kc_Model_copies (am_cl d) Q) Q kb_Model_copies_2 := am_wx rfl
theorem jx_Model_copies_39 {d : Nat} {Q : am_Q} : am_W kc_Model_copies (am_cl d) Q 39 = am_ex (am_cl d) (am_W kc_Model_copies (am_cl d) Q) Q kb_Model_copies_39 := am_wx rfl
theorem cx_Model_write {d : Nat} {args : List Value} {h : am_H} {Q : am_Q} : am_cl (d + 1) 208 args h Q = (Nat.ble (am_sz args) 2 = true ∧ am_ex (am_cl d) (am_W kc_Model_write (am_cl d) Q) Q kb_Model_write_0 (am_ent args 2) [] h) := am_clx rfl rfl
theorem jx_Model_write_15 {d : Nat} {Q : am_Q} : am_W kc_Model_write (am_cl d) Q 15 = am_ex (am_cl d) (am_W kc_Model_write (am_cl d) Q) Q kb_Model_write_15 := am_wx rfl
theorem jx_Model_write_29 {d : Nat} {Q : am_Q} : am_W kc_Model_write (am_cl d) Q 29 = am_ex (am_cl d) (am_W kc_Model_write (am_cl d) Q) Q kb_Model_write_29 := am_wx rfl
theorem cx_Model_take {d : Nat} {args : List Value} {h : am_H} {Q : am_Q} : am_cl (d + 1) 209 args h Q = (Nat.ble (am_sz args) 2 = true ∧ am_ex (am_cl d) (am_W kc_Model_take (am_cl d) Q) Q kb_Model_take_0 (am_ent args 2) [] h) := am_clx rfl rfl
theorem jx_Model_take_15 {d : Nat} {Q : am_Q} : am_W kc_Model_take (am_cl d) Q 15 = am_ex (am_cl d) (am_W kc_Model_take (am_cl d) Q) Q kb_Model_take_15 := am_wx rfl
theorem cx_Model_existence {d : Nat} {args : List Value} {h : am_H} {Q : am_Q} : am_cl (d + 1) 210 args h Q = (Nat.ble (am_sz args) 3 = true ∧ am_ex (am_cl d) (am_W kc_Model_existence (am_cl d) Q) Q kb_Model_existence_0 (am_ent args 3) [] h) := am_clx rfl rfl
theorem jx_Model_existence_15 {d : Nat} {Q : am_Q} : am_W kc_Model_existence (am_cl d) Q 15 = am_ex (am_cl d) (am_W kc_Model_existence (am_cl d) Q) Q kb_Model_existence_15 := am_wx rfl
theorem cx_Model_isRegion {d : Nat} {args : List Value} {h : am_H} {Q : am_Q} : am_cl (d + 1) 211 args h Q = (Nat.ble (am_sz args) 7 = true ∧ am_ex (am_cl d) (am_W kc_Model_isRegion (am_cl d) Q) Q kb_Model_isRegion_0 (am_ent args 7) [] h) := am_clx rfl rfl
theorem jx_Model_isRegion_6 {d : Nat} {Q : am_Q} : am_W kc_Model_isRegion (am_cl d) Q 6 = am_ex (am_cl d) (am_W kc_Model_isRegion (am_cl d) Q) Q kb_Model_isRegion_6 := am_wx rfl
theorem jx_Model_isRegion_48 {d : Nat} {Q : am_Q} : am_W kc_Model_isRegion (am_cl d) Q 48 = am_ex (am_cl d) (am_W kc_Model_isRegion (am_cl d) Q) Q kb_Model_isRegion_48 := am_wx rfl
theorem jx_Model_isRegion_49 {d : Nat} {Q : am_Q} : am_W kc_Model_isRegion (am_cl d) Q 49 = am_ex (am_cl d) (am_W kc_Model_isRegion (am_cl d) Q) Q kb_Model_isRegion_49 := am_wx rfl
theorem jx_Model_isRegion_56 {d : Nat} {Q : am_Q} : am_W kc_Model_isRegion (am_cl d) Q 56 = am_ex (am_cl d) (am_W kc_Model_isRegion (am_cl d) Q) Q kb_Model_isRegion_56 := am_wx rfl
theorem jx_Model_isRegion_87 {d : Nat} {Q : am_Q} : am_W kc_Model_isRegion (am_cl d) Q 87 = am_ex (am_cl d) (am_W kc_Model_isRegion (am_cl d) Q) Q kb_Model_isRegion_87 := am_wx rfl
theorem jx_Model_isRegion_88 {d : Nat} {Q : am_Q} : am_W kc_Model_isRegion (am_cl d) Q 88 = am_ex (am_cl d) (am_W kc_Model_isRegion (am_cl d) Q) Q kb_Model_isRegion_88 := am_wx rfl
theorem jx_Model_isRegion_92 {d : Nat} {Q : am_Q} : am_W kc_Model_isRegion (am_cl d) Q 92 = am_ex (am_cl d) (am_W kc_Model_isRegion (am_cl d) Q) Q kb_Model_isRegion_92 := am_wx rfl
theorem jx_Model_isRegion_136 {d : Nat} {Q : am_Q} : am_W kc_Model_isRegion (am_cl d) Q 136 = am_ex (am_cl d) (am_W kc_Model_isRegion (am_cl d) Q) Q kb_Model_isRegion_136 := am_wx rfl
theorem jx_Model_isRegion_140 {d : Nat} {Q : am_Q} : am_W kc_Model_isRegion (am_cl d) Q 140 = am_ex (am_cl d) (am_W kc_Model_isRegion (am_cl d) Q) Q kb_Model_isRegion_140 := am_wx rfl
theorem jx_Model_isRegion_162 {d : Nat} {Q : am_Q} : am_W kc_Model_isRegion (am_cl d) Q 162 = am_ex (am_cl d) (am_W kc_Model_isRegion (am_cl d) Q) Q kb_Model_isRegion_162 := am_wx rfl
theorem jx_Model_isRegion_166 {d : Nat} {Q : am_Q} : am_W kc_Model_isRegion (am_cl d) Q 166 = am_ex (am_cl d) (am_W kc_Model_isRegion (am_cl d) Q) Q kb_Model_isRegion_166 := am_wx rfl
theorem jx_Model_isRegion_167 {d : Nat} {Q : am_Q} : am_W kc_Model_isRegion (am_cl d) Q 167 = am_ex (am_cl d) (am_W kc_Model_isRegion (am_cl d) Q) Q kb_Model_isRegion_167 := am_wx rfl
theorem jx_Model_isRegion_168 {d : Nat} {Q : am_Q} : am_W kc_Model_isRegion (am_cl d) Q 168 = am_ex (am_cl d) (am_W kc_Model_isRegion (am_cl d) Q) Q kb_Model_isRegion_168 := am_wx rfl
theorem jx_Model_isRegion_174 {d : Nat} {Q : am_Q} : am_W kc_Model_isRegion (am_cl d) Q 174 = am_ex (am_cl d) (am_W kc_Model_isRegion (am_cl d) Q) Q kb_Model_isRegion_174 := am_wx rfl
theorem cx_Model_laysSays {d : Nat} {args : List Value} {h : am_H} {Q : am_Q} : am_cl (d + 1) 212 args h Q = (Nat.ble (am_sz args) 12 = true ∧ am_ex (am_cl d) (am_W kc_Model_laysSays (am_cl d) Q) Q kb_Model_laysSays_0 (am_ent args 12) [] h) := am_clx rfl rfl
theorem jx_Model_laysSays_54 {d : Nat} {Q : am_Q} : am_W kc_Model_laysSays (am_cl d) Q 54 = am_ex (am_cl d) (am_W kc_Model_laysSays (am_cl d) Q) Q kb_Model_laysSays_54 := am_wx rfl
theorem jx_Model_laysSays_58 {d : Nat} {Q : am_Q} : am_W kc_Model_laysSays (am_cl d) Q 58 = am_ex (am_cl d) (am_W kc_Model_laysSays (am_cl d) Q) Q kb_Model_laysSays_58 := am_wx rfl
theorem jx_Model_laysSays_59 {d : Nat} {Q : am_Q} : am_W kc_Model_laysSays (am_cl d) Q 59 = am_ex (am_cl d) (am_W kc_Model_laysSays (am_cl d) Q) Q kb_Model_laysSays_59 := am_wx rfl
theorem jx_Model_laysSays_80 {d : Nat} {Q : am_Q} : am_W kc_Model_laysSays (am_cl d) Q 80 = am_ex (am_cl d) (am_W kc_Model_laysSays (am_cl d) Q) Q kb_Model_laysSays_80 := am_wx rfl
theorem jx_Model_laysSays_102 {d : Nat} {Q : am_Q} : am_W kc_Model_laysSays (am_cl d) Q 102 = am_ex (am_cl d) (am_W kc_Model_laysSays (am_cl d) Q) Q kb_Model_laysSays_102 := am_wx rfl
theorem jx_Model_laysSays_106 {d : Nat} {Q : am_Q} : am_W kc_Model_laysSays (am_cl d) Q 106 = am_ex (am_cl d) (am_W kc_Model_laysSays (am_cl d) Q) Q kb_Model_laysSays_106 := am_wx rfl
theorem jx_Model_laysSays_107 {d : Nat} {Q : am_Q} : am_W kc_Model_laysSays (am_cl d) Q 107 = am_ex (am_cl d) (am_W kc_Model_laysSays (am_cl d) Q) Q kb_Model_laysSays_107 := am_wx rfl
theorem jx_Model_laysSays_134 {d : Nat} {Q : am_Q} : am_W kc_Model_laysSays (am_cl d) Q 134 = am_ex (am_cl d) (am_W kc_Model_laysSays (am_cl d) Q) Q kb_Model_laysSays_134 := am_wx rfl
theorem jx_Model_laysSays_138 {d : Nat} {Q : am_Q} : am_W kc_Model_laysSays (am_cl d) Q 138 = am_ex (am_cl d) (am_W kc_Model_laysSays (am_cl d) Q) Q kb_Model_laysSays_138 := am_wx rfl
theorem jx_Model_laysSays_139 {d : Nat} {Q : am_Q} : am_W kc_Model_laysSays (am_cl d) Q 139 = am_ex (am_cl d) (am_W kc_Model_laysSays (am_cl d) Q) Q kb_Model_laysSays_139 := am_wx rfl
theorem jx_Model_laysSays_143 {d : Nat} {Q : am_Q} : am_W kc_Model_laysSays (am_cl d) Q 143 = am_ex (am_cl d) (am_W kc_Model_laysSays (am_cl d) Q) Q kb_Model_laysSays_143 := am_wx rfl
theorem jx_Model_laysSays_170 {d : Nat} {Q : am_Q} : am_W kc_Model_laysSays (am_cl d) Q 170 = am_ex (am_cl d) (am_W kc_Model_laysSays (am_cl d) Q) Q kb_Model_laysSays_170 := am_wx rfl
theorem jx_Model_laysSays_173 {d : Nat} {Q : am_Q} : am_W kc_Model_laysSays (am_cl d) Q 173 = am_ex (am_cl d) (am_W kc_Model_laysSays (am_cl d) Q) Q kb_Model_laysSays_173 := am_wx rfl
theorem jx_Model_laysSays_212 {d : Nat} {Q : am_Q} : am_W kc_Model_laysSays (am_cl d) Q 212 = am_ex (am_cl d) (am_W kc_Model_laysSays (am_cl d) Q) Q kb_Model_laysSays_212 := am_wx rfl
theorem jx_Model_laysSays_216 {d : Nat} {Q : am_Q} : am_W kc_Model_laysSays (am_cl d) Q 216 = am_ex (am_cl d) (am_W kc_Model_laysSays (am_cl d) Q) Q kb_Model_laysSays_216 := am_wx rfl
theorem jx_Model_laysSays_217 {d : Nat} {Q : am_Q} : am_W kc_Model_laysSays (am_cl d) Q 217 = am_ex (am_cl d) (am_W kc_Model_laysSays (am_cl d) Q) Q kb_Model_laysSays_217 := am_wx rfl
theorem jx_Model_laysSays_238 {d : Nat} {Q : am_Q} : am_W kc_Model_laysSays (am_cl d) Q 238 = am_ex (am_cl d) (am_W kc_Model_laysSays (am_cl d) Q) Q kb_Model_laysSays_238 := am_wx rfl
theorem jx_Model_laysSays_242 {d : Nat} {Q : am_Q} : am_W kc_Model_laysSays (am_cl d) Q 242 = am_ex (am_cl d) (am_W kc_Model_laysSays (am_cl d) Q) Q kb_Model_laysSays_242 := am_wx rfl
theorem jx_Model_laysSays_261 {d : Nat} {Q : am_Q} : am_W kc_Model_laysSays (am_cl d) Q 261 = am_ex (am_cl d) (am_W kc_Model_laysSays (am_cl d) Q) Q kb_Model_laysSays_261 := am_wx rfl
theorem jx_Model_laysSays_265 {d : Nat} {Q : am_Q} : am_W kc_Model_laysSays (am_cl d) Q 265 = am_ex (am_cl d) (am_W kc_Model_laysSays (am_cl d) Q) Q kb_Model_laysSays_265 := am_wx rfl
theorem jx_Model_laysSays_276 {d : Nat} {Q : am_Q} : am_W kc_Model_laysSays (am_cl d) Q 276 = am_ex (am_cl d) (am_W kc_Model_laysSays (am_cl d) Q) Q kb_Model_laysSays_276 := am_wx rfl
theorem jx_Model_laysSays_299 {d : Nat} {Q : am_Q} : am_W kc_Model_laysSays (am_cl d) Q 299 = am_ex (am_cl d) (am_W kc_Model_laysSays (am_cl d) Q) Q kb_Model_laysSays_299 := am_wx rfl
theorem jx_Model_laysSays_300 {d : Nat} {Q : am_Q} : am_W kc_Model_laysSays (am_cl d) Q 300 = am_ex (am_cl d) (am_W kc_Model_laysSays (am_cl d) Q) Q kb_Model_laysSays_300 := am_wx rfl
theorem jx_Model_laysSays_307 {d : Nat} {Q : am_Q} : am_W kc_Model_laysSays (am_cl d) Q 307 = am_ex (am_cl d) (am_W kc_Model_laysSays (am_cl d) Q) Q kb_Model_laysSays_307 := am_wx rfl
theorem jx_Model_laysSays_311 {d : Nat} {Q : am_Q} : am_W kc_Model_laysSays (am_cl d) Q 311 = am_ex (am_cl d) (am_W kc_Model_laysSays (am_cl d) Q) Q kb_Model_laysSays_311 := am_wx rfl
theorem jx_Model_laysSays_325 {d : Nat} {Q : am_Q} : am_W kc_Model_laysSays (am_cl d) Q 325 = am_ex (am_cl d) (am_W kc_Model_laysSays (am_cl d) Q) Q kb_Model_laysSays_325 := am_wx rfl
theorem jx_Model_laysSays_326 {d : Nat} {Q : am_Q} : am_W kc_Model_laysSays (am_cl d) Q 326 = am_ex (am_cl d) (am_W kc_Model_laysSays (am_cl d) Q) Q kb_Model_laysSays_326 := am_wx rfl
theorem jx_Model_laysSays_359 {d : Nat} {Q : am_Q} : am_W kc_Model_laysSays (am_cl d) Q 359 = am_ex (am_cl d) (am_W kc_Model_laysSays (am_cl d) Q) Q kb_Model_laysSays_359 := am_wx rfl
theorem jx_Model_laysSays_372 {d : Nat} {Q : am_Q} : am_W kc_Model_laysSays (am_cl d) Q 372 = am_ex (am_cl d) (am_W kc_Model_laysSays (am_cl d) Q) Q kb_Model_laysSays_372 := am_wx rfl
theorem jx_Model_laysSays_377 {d : Nat} {Q : am_Q} : am_W kc_Model_laysSays (am_cl d) Q 377 = am_ex (am_cl d) (am_W kc_Model_laysSays (am_cl d) Q) Q kb_Model_laysSays_377 := am_wx rfl
theorem jx_Model_laysSays_406 {d : Nat} {Q : am_Q} : am_W kc_Model_laysSays (am_cl d) Q 406 = am_ex (am_cl d) (am_W kc_Model_laysSays (am_cl d) Q) Q kb_Model_laysSays_406 := am_wx rfl
theorem jx_Model_laysSays_412 {d : Nat} {Q : am_Q} : am_W kc_Model_laysSays (am_cl d) Q 412 = am_ex (am_cl d) (am_W kc_Model_laysSays (am_cl d) Q) Q kb_Model_laysSays_412 := am_wx rfl
theorem cx_Model_isAlone {d : Nat} {args : List Value} {h : am_H} {Q : am_Q} : am_cl (d + 1) 213 args h Q = (Nat.ble (am_sz args) 4 = true ∧ am_ex (am_cl d) (am_W kc_Model_isAlone (am_cl d) Q) Q kb_Model_isAlone_0 (am_ent args 4) [] h) := am_clx rfl rfl
theorem jx_Model_isAlone_26 {d : Nat} {Q : am_Q} : am_W kc_Model_isAlone (am_cl d) Q 26 = am_ex (am_cl d) (am_W kc_Model_isAlone (am_cl d) Q) Q kb_Model_isAlone_26 := am_wx rfl
theorem jx_Model_isAlone_27 {d : Nat} {Q : am_Q} : am_W kc_Model_isAlone (am_cl d) Q 27 = am_ex (am_cl d) (am_W kc_Model_isAlone (am_cl d) Q) Q kb_Model_isAlone_27 := am_wx rfl
theorem cx_Model_numberOf {d : Nat} {args : List Value} {h : am_H} {Q : am_Q} : am_cl (d + 1) 214 args h Q = (Nat.ble (am_sz args) 9 = true ∧ am_ex (am_cl d) (am_W kc_Model_numberOf (am_cl d) Q) Q kb_Model_numberOf_0 (am_ent args 9) [] h) := am_clx rfl rfl
theorem jx_Model_numberOf_91 {d : Nat} {Q : am_Q} : am_W kc_Model_numberOf (am_cl d) Q 91 = am_ex (am_cl d) (am_W kc_Model_numberOf (am_cl d) Q) Q kb_Model_numberOf_91 := am_wx rfl
theorem jx_Model_numberOf_93 {d : Nat} {Q : am_Q} : am_W kc_Model_numberOf (am_cl d) Q 93 = am_ex (am_cl d) (am_W kc_Model_numberOf (am_cl d) Q) Q kb_Model_numberOf_93 := am_wx rfl
theorem jx_Model_numberOf_127 {d : Nat} {Q : am_Q} : am_W kc_Model_numberOf (am_cl d) Q 127 = am_ex (am_cl d) (am_W kc_Model_numberOf (am_cl d) Q) Q kb_Model_numberOf_127 := am_wx rfl
theorem jx_Model_numberOf_146 {d : Nat} {Q : am_Q} : am_W kc_Model_numberOf (am_cl d) Q 146 = am_ex (am_cl d) (am_W kc_Model_numberOf (am_cl d) Q) Q kb_Model_numberOf_146 := am_wx rfl
theorem jx_Model_numberOf_169 {d : Nat} {Q : am_Q} : am_W kc_Model_numberOf (am_cl d) Q 169 = am_ex (am_cl d) (am_W kc_Model_numberOf (am_cl d) Q) Q kb_Model_numberOf_169 := am_wx rfl
theorem jx_Model_numberOf_172 {d : Nat} {Q : am_Q} : am_W kc_Model_numberOf (am_cl d) Q 172 = am_ex (am_cl d) (am_W kc_Model_numberOf (am_cl d) Q) Q kb_Model_numberOf_172 := am_wx rfl
theorem jx_Model_numberOf_184 {d : Nat} {Q : am_Q} : am_W kc_Model_numberOf (am_cl d) Q 184 = am_ex (am_cl d) (am_W kc_Model_numberOf (am_cl d) Q) Q kb_Model_numberOf_184 := am_wx rfl
theorem jx_Model_numberOf_192 {d : Nat} {Q : am_Q} : am_W kc_Model_numberOf (am_cl d) Q 192 = am_ex (am_cl d) (am_W kc_Model_numberOf (am_cl d) Q) Q kb_Model_numberOf_192 := am_wx rfl
theorem cx_Model_simple {d : Nat} {args : List Value} {h : am_H} {Q : am_Q} : am_cl (d + 1) 215 args h Q = (Nat.ble (am_sz args) 4 = true ∧ am_ex (am_cl d) (am_W kc_Model_simple (am_cl d) Q) Q kb_Model_simple_0 (am_ent args 4) [] h) := am_clx rfl rfl
theorem jx_Model_simple_22 {d : Nat} {Q : am_Q} : am_W kc_Model_simple (am_cl d) Q 22 = am_ex (am_cl d) (am_W kc_Model_simple (am_cl d) Q) Q kb_Model_simple_22 := am_wx rfl
theorem jx_Model_simple_31 {d : Nat} {Q : am_Q} : am_W kc_Model_simple (am_cl d) Q 31 = am_ex (am_cl d) (am_W kc_Model_simple (am_cl d) Q) Q kb_Model_simple_31 := am_wx rfl
theorem jx_Model_simple_32 {d : Nat} {Q : am_Q} : am_W kc_Model_simple (am_cl d) Q 32 = am_ex (am_cl d) (am_W kc_Model_simple (am_cl d) Q) Q kb_Model_simple_32 := am_wx rfl
theorem jx_Model_simple_49 {d : Nat} {Q : am_Q} : am_W kc_Model_simple (am_cl d) Q 49 = am_ex (am_cl d) (am_W kc_Model_simple (am_cl d) Q) Q kb_Model_simple_49 := am_wx rfl
theorem jx_Model_simple_50 {d : Nat} {Q : am_Q} : am_W kc_Model_simple (am_cl d) Q 50 = am_ex (am_cl d) (am_W kc_Model_simple (am_cl d) Q) Q kb_Model_simple_50 := am_wx rfl
theorem cx_Model_of {d : Nat} {args : List Value} {h : am_H} {Q : am_Q} : am_cl (d + 1) 216 args h Q = (Nat.ble (am_sz args) 7 = true ∧ am_ex (am_cl d) (am_W kc_Model_of (am_cl d) Q) Q kb_Model_of_0 (am_ent args 7) [] h) := am_clx rfl rfl
theorem jx_Model_of_20 {d : Nat} {Q : am_Q} : am_W kc_Model_of (am_cl d) Q 20 = am_ex (am_cl d) (am_W kc_Model_of (am_cl d) Q) Q kb_Model_of_20 := am_wx rfl
theorem jx_Model_of_22 {d : Nat} {Q : am_Q} : am_W kc_Model_of (am_cl d) Q 22 = am_ex (am_cl d) (am_W kc_Model_of (am_cl d) Q) Q kb_Model_of_22 := am_wx rfl
theorem jx_Model_of_42 {d : Nat} {Q : am_Q} : am_W kc_Model_of (am_cl d) Q 42 = am_ex (am_cl d) (am_W kc_Model_of (am_cl d) Q) Q kb_Model_of_42 := am_wx rfl
theorem jx_Model_of_54 {d : Nat} {Q : am_Q} : am_W kc_Model_of (am_cl d) Q 54 = am_ex (am_cl d) (am_W kc_Model_of (am_cl d) Q) Q kb_Model_of_54 := am_wx rfl
theorem jx_Model_of_65 {d : Nat} {Q : am_Q} : am_W kc_Model_of (am_cl d) Q 65 = am_ex (am_cl d) (am_W kc_Model_of (am_cl d) Q) Q kb_Model_of_65 := am_wx rfl
theorem jx_Model_of_97 {d : Nat} {Q : am_Q} : am_W kc_Model_of (am_cl d) Q 97 = am_ex (am_cl d) (am_W kc_Model_of (am_cl d) Q) Q kb_Model_of_97 := am_wx rfl
theorem jx_Model_of_100 {d : Nat} {Q : am_Q} : am_W kc_Model_of (am_cl d) Q 100 = am_ex (am_cl d) (am_W kc_Model_of (am_cl d) Q) Q kb_Model_of_100 := am_wx rfl
theorem jx_Model_of_110 {d : Nat} {Q : am_Q} : am_W kc_Model_of (am_cl d) Q 110 = am_ex (am_cl d) (am_W kc_Model_of (am_cl d) Q) Q kb_Model_of_110 := am_wx rfl
theorem jx_Model_of_123 {d : Nat} {Q : am_Q} : am_W kc_Model_of (am_cl d) Q 123 = am_ex (am_cl d) (am_W kc_Model_of (am_cl d) Q) Q kb_Model_of_123 := am_wx rfl
theorem jx_Model_of_139 {d : Nat} {Q : am_Q} : am_W kc_Model_of (am_cl d) Q 139 = am_ex (am_cl d) (am_W kc_Model_of (am_cl d) Q) Q kb_Model_of_139 := am_wx rfl
theorem jx_Model_of_144 {d : Nat} {Q : am_Q} : am_W kc_Model_of (am_cl d) Q 144 = am_ex (am_cl d) (am_W kc_Model_of (am_cl d) Q) Q kb_Model_of_144 := am_wx rfl
theorem cx_Model_has {d : Nat} {args : List Value} {h : am_H} {Q : am_Q} : am_cl (d + 1) 217 args h Q = (Nat.ble (am_sz args) 4 = true ∧ am_ex (am_cl d) (am_W kc_Model_has (am_cl d) Q) Q kb_Model_has_0 (am_ent args 4) [] h) := am_clx rfl rfl
theorem jx_Model_has_22 {d : Nat} {Q : am_Q} : am_W kc_Model_has (am_cl d) Q 22 = am_ex (am_cl d) (am_W kc_Model_has (am_cl d) Q) Q kb_Model_has_22 := am_wx rfl
theorem jx_Model_has_26 {d : Nat} {Q : am_Q} : am_W kc_Model_has (am_cl d) Q 26 = am_ex (am_cl d) (am_W kc_Model_has (am_cl d) Q) Q kb_Model_has_26 := am_wx rfl
theorem jx_Model_has_46 {d : Nat} {Q : am_Q} : am_W kc_Model_has (am_cl d) Q 46 = am_ex (am_cl d) (am_W kc_Model_has (am_cl d) Q) Q kb_Model_has_46 := am_wx rfl
theorem cx_Model_puts {d : Nat} {args : List Value} {h : am_H} {Q : am_Q} : am_cl (d + 1) 218 args h Q = (Nat.ble (am_sz args) 2 = true ∧ am_ex (am_cl d) (am_W kc_Model_puts (am_cl d) Q) Q kb_Model_puts_0 (am_ent args 2) [] h) := am_clx rfl rfl
theorem jx_Model_puts_21 {d : Nat} {Q : am_Q} : am_W kc_Model_puts (am_cl d) Q 21 = am_ex (am_cl d) (am_W kc_Model_puts (am_cl d) Q) Q kb_Model_puts_21 := am_wx rfl
theorem cx_Model_blank {d : Nat} {args : List Value} {h : am_H} {Q : am_Q} : am_cl (d + 1) 219 args h Q = (Nat.ble (am_sz args) 1 = true ∧ am_ex (am_cl d) (am_W kc_Model_blank (am_cl d) Q) Q kb_Model_blank_0 (am_ent args 1) [] h) := am_clx rfl rfl
theorem jx_Model_blank_29 {d : Nat} {Q : am_Q} : am_W kc_Model_blank (am_cl d) Q 29 = am_ex (am_cl d) (am_W kc_Model_blank (am_cl d) Q) Q kb_Model_blank_29 := am_wx rfl
theorem cx_Model_writesWord {d : Nat} {args : List Value} {h : am_H} {Q : am_Q} : am_cl (d + 1) 220 args h Q = (Nat.ble (am_sz args) 4 = true ∧ am_ex (am_cl d) (am_W kc_Model_writesWord (am_cl d) Q) Q kb_Model_writesWord_0 (am_ent args 4) [] h) := am_clx rfl rfl
theorem jx_Model_writesWord_8 {d : Nat} {Q : am_Q} : am_W kc_Model_writesWord (am_cl d) Q 8 = am_ex (am_cl d) (am_W kc_Model_writesWord (am_cl d) Q) Q kb_Model_writesWord_8 := am_wx rfl
theorem jx_Model_writesWord_29 {d : Nat} {Q : am_Q} : am_W kc_Model_writesWord (am_cl d) Q 29 = am_ex (am_cl d) (am_W kc_Model_writesWord (am_cl d) Q) Q kb_Model_writesWord_29 := am_wx rfl
theorem jx_Model_writesWord_30 {d : Nat} {Q : am_Q} : am_W kc_Model_writesWord (am_cl d) Q 30 = am_ex (am_cl d) (am_W kc_Model_writesWord (am_cl d) Q) Q kb_Model_writesWord_30 := am_wx rfl
theorem jx_Model_writesWord_38 {d : Nat} {Q : am_Q} : am_W kc_Model_writesWord (am_cl d) Q 38 = am_ex (am_cl d) (am_W kc_Model_writesWord (am_cl d) Q) Q kb_Model_writesWord_38 := am_wx rfl
theorem jx_Model_writesWord_66 {d : Nat} {Q : am_Q} : am_W kc_Model_writesWord (am_cl d) Q 66 = am_ex (am_cl d) (am_W kc_Model_writesWord (am_cl d) Q) Q kb_Model_writesWord_66 := am_wx rfl
theorem cx_Model_laysStarts {d : Nat} {args : List Value} {h : am_H} {Q : am_Q} : am_cl (d + 1) 221 args h Q = (Nat.ble (am_sz args) 6 = true ∧ am_ex (am_cl d) (am_W kc_Model_laysStarts (am_cl d) Q) Q kb_Model_laysStarts_0 (am_ent args 6) [] h) := am_clx rfl rfl
theorem jx_Model_laysStarts_2 {d : Nat} {Q : am_Q} : am_W kc_Model_laysStarts (am_cl d) Q 2 = am_ex (am_cl d) (am_W kc_Model_laysStarts (am_cl d) Q) Q kb_Model_laysStarts_2 := am_wx rfl
theorem jx_Model_laysStarts_38 {d : Nat} {Q : am_Q} : am_W kc_Model_laysStarts (am_cl d) Q 38 = am_ex (am_cl d) (am_W kc_Model_laysStarts (am_cl d) Q) Q kb_Model_laysStarts_38 := am_wx rfl
theorem jx_Model_laysStarts_57 {d : Nat} {Q : am_Q} : am_W kc_Model_laysStarts (am_cl d) Q 57 = am_ex (am_cl d) (am_W kc_Model_laysStarts (am_cl d) Q) Q kb_Model_laysStarts_57 := am_wx rfl
theorem jx_Model_laysStarts_73 {d : Nat} {Q : am_Q} : am_W kc_Model_laysStarts (am_cl d) Q 73 = am_ex (am_cl d) (am_W kc_Model_laysStarts (am_cl d) Q) Q kb_Model_laysStarts_73 := am_wx rfl
theorem jx_Model_laysStarts_80 {d : Nat} {Q : am_Q} : am_W kc_Model_laysStarts (am_cl d) Q 80 = am_ex (am_cl d) (am_W kc_Model_laysStarts (am_cl d) Q) Q kb_Model_laysStarts_80 := am_wx rfl
theorem cx_Model_writes {d : Nat} {args : List Value} {h : am_H} {Q : am_Q} : am_cl (d + 1) 222 args h Q = (Nat.ble (am_sz args) 7 = true ∧ am_ex (am_cl d) (am_W kc_Model_writes (am_cl d) Q) Q kb_Model_writes_0 (am_ent args 7) [] h) := am_clx rfl rfl
theorem jx_Model_writes_24 {d : Nat} {Q : am_Q} : am_W kc_Model_writes (am_cl d) Q 24 = am_ex (am_cl d) (am_W kc_Model_writes (am_cl d) Q) Q kb_Model_writes_24 := am_wx rfl
theorem jx_Model_writes_43 {d : Nat} {Q : am_Q} : am_W kc_Model_writes (am_cl d) Q 43 = am_ex (am_cl d) (am_W kc_Model_writes (am_cl d) Q) Q kb_Model_writes_43 := am_wx rfl
theorem jx_Model_writes_80 {d : Nat} {Q : am_Q} : am_W kc_Model_writes (am_cl d) Q 80 = am_ex (am_cl d) (am_W kc_Model_writes (am_cl d) Q) Q kb_Model_writes_80 := am_wx rfl
theorem jx_Model_writes_81 {d : Nat} {Q : am_Q} : am_W kc_Model_writes (am_cl d) Q 81 = am_ex (am_cl d) (am_W kc_Model_writes (am_cl d) Q) Q kb_Model_writes_81 := am_wx rfl
theorem jx_Model_writes_87 {d : Nat} {Q : am_Q} : am_W kc_Model_writes (am_cl d) Q 87 = am_ex (am_cl d) (am_W kc_Model_writes (am_cl d) Q) Q kb_Model_writes_87 := am_wx rfl
theorem jx_Model_writes_128 {d : Nat} {Q : am_Q} : am_W kc_Model_writes (am_cl d) Q 128 = am_ex (am_cl d) (am_W kc_Model_writes (am_cl d) Q) Q kb_Model_writes_128 := am_wx rfl
theorem jx_Model_writes_129 {d : Nat} {Q : am_Q} : am_W kc_Model_writes (am_cl d) Q 129 = am_ex (am_cl d) (am_W kc_Model_writes (am_cl d) Q) Q kb_Model_writes_129 := am_wx rfl
theorem jx_Model_writes_145 {d : Nat} {Q : am_Q} : am_W kc_Model_writes (am_cl d) Q 145 = am_ex (am_cl d) (am_W kc_Model_writes (am_cl d) Q) Q kb_Model_writes_145 := am_wx rfl
theorem jx_Model_writes_147 {d : Nat} {Q : am_Q} : am_W kc_Model_writes (am_cl d) Q 147 = am_ex (am_cl d) (am_W kc_Model_writes (am_cl d) Q) Q kb_Model_writes_147 := am_wx rfl
theorem jx_Model_writes_163 {d : Nat} {Q : am_Q} : am_W kc_Model_writes (am_cl d) Q 163 = am_ex (am_cl d) (am_W kc_Model_writes (am_cl d) Q) Q kb_Model_writes_163 := am_wx rfl
theorem jx_Model_writes_198 {d : Nat} {Q : am_Q} : am_W kc_Model_writes (am_cl d) Q 198 = am_ex (am_cl d) (am_W kc_Model_writes (am_cl d) Q) Q kb_Model_writes_198 := am_wx rfl
theorem jx_Model_writes_202 {d : Nat} {Q : am_Q} : am_W kc_Model_writes (am_cl d) Q 202 = am_ex (am_cl d) (am_W kc_Model_writes (am_cl d) Q) Q kb_Model_writes_202 := am_wx rfl
theorem jx_Model_writes_213 {d : Nat} {Q : am_Q} : am_W kc_Model_writes (am_cl d) Q 213 = am_ex (am_cl d) (am_W kc_Model_writes (am_cl d) Q) Q kb_Model_writes_213 := am_wx rfl
theorem jx_Model_writes_214 {d : Nat} {Q : am_Q} : am_W kc_Model_writes (am_cl d) Q 214 = am_ex (am_cl d) (am_W kc_Model_writes (am_cl d) Q) Q kb_Model_writes_214 := am_wx rfl
theorem jx_Model_writes_217 {d : Nat} {Q : am_Q} : am_W kc_Model_writes (am_cl d) Q 217 = am_ex (am_cl d) (am_W kc_Model_writes (am_cl d) Q) Q kb_Model_writes_217 := am_wx rfl
theorem jx_Model_writes_227 {d : Nat} {Q : am_Q} : am_W kc_Model_writes (am_cl d) Q 227 = am_ex (am_cl d) (am_W kc_Model_writes (am_cl d) Q) Q kb_Model_writes_227 := am_wx rfl
theorem cx_Model_begins {d : Nat} {args : List Value} {h : am_H} {Q : am_Q} : am_cl (d + 1) 223 args h Q = (Nat.ble (am_sz args) 5 = true ∧ am_ex (am_cl d) (am_W kc_Model_begins (am_cl d) Q) Q kb_Model_begins_0 (am_ent args 5) [] h) := am_clx rfl rfl
theorem jx_Model_begins_2 {d : Nat} {Q : am_Q} : am_W kc_Model_begins (am_cl d) Q 2 = am_ex (am_cl d) (am_W kc_Model_begins (am_cl d) Q) Q kb_Model_begins_2 := am_wx rfl
theorem jx_Model_begins_56 {d : Nat} {Q : am_Q} : am_W kc_Model_begins (am_cl d) Q 56 = am_ex (am_cl d) (am_W kc_Model_begins (am_cl d) Q) Q kb_Model_begins_56 := am_wx rfl
theorem jx_Model_begins_62 {d : Nat} {Q : am_Q} : am_W kc_Model_begins (am_cl d) Q 62 = am_ex (am_cl d) (am_W kc_Model_begins (am_cl d) Q) Q kb_Model_begins_62 := am_wx rfl
theorem jx_Model_begins_79 {d : Nat} {Q : am_Q} : am_W kc_Model_begins (am_cl d) Q 79 = am_ex (am_cl d) (am_W kc_Model_begins (am_cl d) Q) Q kb_Model_begins_79 := am_wx rfl
theorem jx_Model_begins_80 {d : Nat} {Q : am_Q} : am_W kc_Model_begins (am_cl d) Q 80 = am_ex (am_cl d) (am_W kc_Model_begins (am_cl d) Q) Q kb_Model_begins_80 := am_wx rfl
theorem cx_Model_writesTerm {d : Nat} {args : List Value} {h : am_H} {Q : am_Q} : am_cl (d + 1) 224 args h Q = (Nat.ble (am_sz args) 4 = true ∧ am_ex (am_cl d) (am_W kc_Model_writesTerm (am_cl d) Q) Q kb_Model_writesTerm_0 (am_ent args 4) [] h) := am_clx rfl rfl
theorem jx_Model_writesTerm_34 {d : Nat} {Q : am_Q} : am_W kc_Model_writesTerm (am_cl d) Q 34 = am_ex (am_cl d) (am_W kc_Model_writesTerm (am_cl d) Q) Q kb_Model_writesTerm_34 := am_wx rfl
theorem jx_Model_writesTerm_35 {d : Nat} {Q : am_Q} : am_W kc_Model_writesTerm (am_cl d) Q 35 = am_ex (am_cl d) (am_W kc_Model_writesTerm (am_cl d) Q) Q kb_Model_writesTerm_35 := am_wx rfl
theorem cx_Model_writesAll {d : Nat} {args : List Value} {h : am_H} {Q : am_Q} : am_cl (d + 1) 225 args h Q = (Nat.ble (am_sz args) 8 = true ∧ am_ex (am_cl d) (am_W kc_Model_writesAll (am_cl d) Q) Q kb_Model_writesAll_0 (am_ent args 8) [] h) := am_clx rfl rfl
theorem jx_Model_writesAll_34 {d : Nat} {Q : am_Q} : am_W kc_Model_writesAll (am_cl d) Q 34 = am_ex (am_cl d) (am_W kc_Model_writesAll (am_cl d) Q) Q kb_Model_writesAll_34 := am_wx rfl
theorem jx_Model_writesAll_35 {d : Nat} {Q : am_Q} : am_W kc_Model_writesAll (am_cl d) Q 35 = am_ex (am_cl d) (am_W kc_Model_writesAll (am_cl d) Q) Q kb_Model_writesAll_35 := am_wx rfl
theorem jx_Model_writesAll_89 {d : Nat} {Q : am_Q} : am_W kc_Model_writesAll (am_cl d) Q 89 = am_ex (am_cl d) (am_W kc_Model_writesAll (am_cl d) Q) Q kb_Model_writesAll_89 := am_wx rfl
theorem jx_Model_writesAll_90 {d : Nat} {Q : am_Q} : am_W kc_Model_writesAll (am_cl d) Q 90 = am_ex (am_cl d) (am_W kc_Model_writesAll (am_cl d) Q) Q kb_Model_writesAll_90 := am_wx rfl
theorem jx_Model_writesAll_104 {d : Nat} {Q : am_Q} : am_W kc_Model_writesAll (am_cl d) Q 104 = am_ex (am_cl d) (am_W kc_Model_writesAll (am_cl d) Q) Q kb_Model_writesAll_104 := am_wx rfl
theorem jx_Model_writesAll_119 {d : Nat} {Q : am_Q} : am_W kc_Model_writesAll (am_cl d) Q 119 = am_ex (am_cl d) (am_W kc_Model_writesAll (am_cl d) Q) Q kb_Model_writesAll_119 := am_wx rfl
theorem jx_Model_writesAll_131 {d : Nat} {Q : am_Q} : am_W kc_Model_writesAll (am_cl d) Q 131 = am_ex (am_cl d) (am_W kc_Model_writesAll (am_cl d) Q) Q kb_Model_writesAll_131 := am_wx rfl
theorem jx_Model_writesAll_133 {d : Nat} {Q : am_Q} : am_W kc_Model_writesAll (am_cl d) Q 133 = am_ex (am_cl d) (am_W kc_Model_writesAll (am_cl d) Q) Q kb_Model_writesAll_133 := am_wx rfl
theorem jx_Model_writesAll_152 {d : Nat} {Q : am_Q} : am_W kc_Model_writesAll (am_cl d) Q 152 = am_ex (am_cl d) (am_W kc_Model_writesAll (am_cl d) Q) Q kb_Model_writesAll_152 := am_wx rfl
theorem jx_Model_writesAll_154 {d : Nat} {Q : am_Q} : am_W kc_Model_writesAll (am_cl d) Q 154 = am_ex (am_cl d) (am_W kc_Model_writesAll (am_cl d) Q) Q kb_Model_writesAll_154 := am_wx rfl
theorem jx_Model_writesAll_157 {d : Nat} {Q : am_Q} : am_W kc_Model_writesAll (am_cl d) Q 157 = am_ex (am_cl d) (am_W kc_Model_writesAll (am_cl d) Q) Q kb_Model_writesAll_157 := am_wx rfl
theorem jx_Model_writesAll_178 {d : Nat} {Q : am_Q} : am_W kc_Model_writesAll (am_cl d) Q 178 = am_ex (am_cl d) (am_W kc_Model_writesAll (am_cl d) Q) Q kb_Model_writesAll_178 := am_wx rfl
theorem jx_Model_writesAll_182 {d : Nat} {Q : am_Q} : am_W kc_Model_writesAll (am_cl d) Q 182 = am_ex (am_cl d) (am_W kc_Model_writesAll (am_cl d) Q) Q kb_Model_writesAll_182 := am_wx rfl
theorem jx_Model_writesAll_183 {d : Nat} {Q : am_Q} : am_W kc_Model_writesAll (am_cl d) Q 183 = am_ex (am_cl d) (am_W kc_Model_writesAll (am_cl d) Q) Q kb_Model_writesAll_183 := am_wx rfl
theorem cx_Model_letter {d : Nat} {args : List Value} {h : am_H} {Q : am_Q} : am_cl (d + 1) 226 args h Q = (Nat.ble (am_sz args) 4 = true ∧ am_ex (am_cl d) (am_W kc_Model_letter (am_cl d) Q) Q kb_Model_letter_0 (am_ent args 4) [] h) := am_clx rfl rfl
theorem jx_Model_letter_16 {d : Nat} {Q : am_Q} : am_W kc_Model_letter (am_cl d) Q 16 = am_ex (am_cl d) (am_W kc_Model_letter (am_cl d) Q) Q kb_Model_letter_16 := am_wx rfl
theorem jx_Model_letter_18 {d : Nat} {Q : am_Q} : am_W kc_Model_letter (am_cl d) Q 18 = am_ex (am_cl d) (am_W kc_Model_letter (am_cl d) Q) Q kb_Model_letter_18 := am_wx rfl
theorem jx_Model_letter_35 {d : Nat} {Q : am_Q} : am_W kc_Model_letter (am_cl d) Q 35 = am_ex (am_cl d) (am_W kc_Model_letter (am_cl d) Q) Q kb_Model_letter_35 := am_wx rfl
theorem jx_Model_letter_52 {d : Nat} {Q : am_Q} : am_W kc_Model_letter (am_cl d) Q 52 = am_ex (am_cl d) (am_W kc_Model_letter (am_cl d) Q) Q kb_Model_letter_52 := am_wx rfl
theorem jx_Model_letter_53 {d : Nat} {Q : am_Q} : am_W kc_Model_letter (am_cl d) Q 53 = am_ex (am_cl d) (am_W kc_Model_letter (am_cl d) Q) Q kb_Model_letter_53 := am_wx rfl
theorem cx_Model_empties {d : Nat} {args : List Value} {h : am_H} {Q : am_Q} : am_cl (d + 1) 227 args h Q = (Nat.ble (am_sz args) 2 = true ∧ am_ex (am_cl d) (am_W kc_Model_empties (am_cl d) Q) Q kb_Model_empties_0 (am_ent args 2) [] h) := am_clx rfl rfl
theorem jx_Model_empties_7 {d : Nat} {Q : am_Q} : am_W kc_Model_empties (am_cl d) Q 7 = am_ex (am_cl d) (am_W kc_Model_empties (am_cl d) Q) Q kb_Model_empties_7 := am_wx rfl
theorem jx_Model_empties_26 {d : Nat} {Q : am_Q} : am_W kc_Model_empties (am_cl d) Q 26 = am_ex (am_cl d) (am_W kc_Model_empties (am_cl d) Q) Q kb_Model_empties_26 := am_wx rfl
theorem jx_Model_empties_28 {d : Nat} {Q : am_Q} : am_W kc_Model_empties (am_cl d) Q 28 = am_ex (am_cl d) (am_W kc_Model_empties (am_cl d) Q) Q kb_Model_empties_28 := am_wx rfl
theorem jx_Model_empties_47 {d : Nat} {Q : am_Q} : am_W kc_Model_empties (am_cl d) Q 47 = am_ex (am_cl d) (am_W kc_Model_empties (am_cl d) Q) Q kb_Model_empties_47 := am_wx rfl
theorem cx_Model_tells {d : Nat} {args : List Value} {h : am_H} {Q : am_Q} : am_cl (d + 1) 228 args h Q = (Nat.ble (am_sz args) 6 = true ∧ am_ex (am_cl d) (am_W kc_Model_tells (am_cl d) Q) Q kb_Model_tells_0 (am_ent args 6) [] h) := am_clx rfl rfl
theorem jx_Model_tells_8 {d : Nat} {Q : am_Q} : am_W kc_Model_tells (am_cl d) Q 8 = am_ex (am_cl d) (am_W kc_Model_tells (am_cl d) Q) Q kb_Model_tells_8 := am_wx rfl
theorem jx_Model_tells_45 {d : Nat} {Q : am_Q} : am_W kc_Model_tells (am_cl d) Q 45 = am_ex (am_cl d) (am_W kc_Model_tells (am_cl d) Q) Q kb_Model_tells_45 := am_wx rfl
theorem jx_Model_tells_56 {d : Nat} {Q : am_Q} : am_W kc_Model_tells (am_cl d) Q 56 = am_ex (am_cl d) (am_W kc_Model_tells (am_cl d) Q) Q kb_Model_tells_56 := am_wx rfl
theorem jx_Model_tells_64 {d : Nat} {Q : am_Q} : am_W kc_Model_tells (am_cl d) Q 64 = am_ex (am_cl d) (am_W kc_Model_tells (am_cl d) Q) Q kb_Model_tells_64 := am_wx rfl
theorem jx_Model_tells_67 {d : Nat} {Q : am_Q} : am_W kc_Model_tells (am_cl d) Q 67 = am_ex (am_cl d) (am_W kc_Model_tells (am_cl d) Q) Q kb_Model_tells_67 := am_wx rfl
theorem jx_Model_tells_75 {d : Nat} {Q : am_Q} : am_W kc_Model_tells (am_cl d) Q 75 = am_ex (am_cl d) (am_W kc_Model_tells (am_cl d) Q) Q kb_Model_tells_75 := am_wx rfl
theorem jx_Model_tells_76 {d : Nat} {Q : am_Q} : am_W kc_Model_tells (am_cl d) Q 76 = am_ex (am_cl d) (am_W kc_Model_tells (am_cl d) Q) Q kb_Model_tells_76 := am_wx rfl
theorem jx_Model_tells_84 {d : Nat} {Q : am_Q} : am_W kc_Model_tells (am_cl d) Q 84 = am_ex (am_cl d) (am_W kc_Model_tells (am_cl d) Q) Q kb_Model_tells_84 := am_wx rfl
theorem jx_Model_tells_116 {d : Nat} {Q : am_Q} : am_W kc_Model_tells (am_cl d) Q 116 = am_ex (am_cl d) (am_W kc_Model_tells (am_cl d) Q) Q kb_Model_tells_116 := am_wx rfl
theorem jx_Model_tells_119 {d : Nat} {Q : am_Q} : am_W kc_Model_tells (am_cl d) Q 119 = am_ex (am_cl d) (am_W kc_Model_tells (am_cl d) Q) Q kb_Model_tells_119 := am_wx rfl
theorem jx_Model_tells_122 {d : Nat} {Q : am_Q} : am_W kc_Model_tells (am_cl d) Q 122 = am_ex (am_cl d) (am_W kc_Model_tells (am_cl d) Q) Q kb_Model_tells_122 := am_wx rfl
theorem jx_Model_tells_159 {d : Nat} {Q : am_Q} : am_W kc_Model_tells (am_cl d) Q 159 = am_ex (am_cl d) (am_W kc_Model_tells (am_cl d) Q) Q kb_Model_tells_159 := am_wx rfl
theorem jx_Model_tells_169 {d : Nat} {Q : am_Q} : am_W kc_Model_tells (am_cl d) Q 169 = am_ex (am_cl d) (am_W kc_Model_tells (am_cl d) Q) Q kb_Model_tells_169 := am_wx rfl
theorem cx_Model_tellsOf {d : Nat} {args : List Value} {h : am_H} {Q : am_Q} : am_cl (d + 1) 229 args h Q = (Nat.ble (am_sz args) 4 = true ∧ am_ex (am_cl d) (am_W kc_Model_tellsOf (am_cl d) Q) Q kb_Model_tellsOf_0 (am_ent args 4) [] h) := am_clx rfl rfl
theorem jx_Model_tellsOf_69 {d : Nat} {Q : am_Q} : am_W kc_Model_tellsOf (am_cl d) Q 69 = am_ex (am_cl d) (am_W kc_Model_tellsOf (am_cl d) Q) Q kb_Model_tellsOf_69 := am_wx rfl
theorem cx_Model_isTold {d : Nat} {args : List Value} {h : am_H} {Q : am_Q} : am_cl (d + 1) 230 args h Q = (Nat.ble (am_sz args) 1 = true ∧ am_ex (am_cl d) (am_W kc_Model_isTold (am_cl d) Q) Q kb_Model_isTold_0 (am_ent args 1) [] h) := am_clx rfl rfl
theorem jx_Model_isTold_16 {d : Nat} {Q : am_Q} : am_W kc_Model_isTold (am_cl d) Q 16 = am_ex (am_cl d) (am_W kc_Model_isTold (am_cl d) Q) Q kb_Model_isTold_16 := am_wx rfl
theorem jx_Model_isTold_17 {d : Nat} {Q : am_Q} : am_W kc_Model_isTold (am_cl d) Q 17 = am_ex (am_cl d) (am_W kc_Model_isTold (am_cl d) Q) Q kb_Model_isTold_17 := am_wx rfl
theorem cx_Model_heaps {d : Nat} {args : List Value} {h : am_H} {Q : am_Q} : am_cl (d + 1) 231 args h Q = (Nat.ble (am_sz args) 3 = true ∧ am_ex (am_cl d) (am_W kc_Model_heaps (am_cl d) Q) Q kb_Model_heaps_0 (am_ent args 3) [] h) := am_clx rfl rfl
theorem jx_Model_heaps_6 {d : Nat} {Q : am_Q} : am_W kc_Model_heaps (am_cl d) Q 6 = am_ex (am_cl d) (am_W kc_Model_heaps (am_cl d) Q) Q kb_Model_heaps_6 := am_wx rfl
theorem jx_Model_heaps_30 {d : Nat} {Q : am_Q} : am_W kc_Model_heaps (am_cl d) Q 30 = am_ex (am_cl d) (am_W kc_Model_heaps (am_cl d) Q) Q kb_Model_heaps_30 := am_wx rfl
theorem jx_Model_heaps_36 {d : Nat} {Q : am_Q} : am_W kc_Model_heaps (am_cl d) Q 36 = am_ex (am_cl d) (am_W kc_Model_heaps (am_cl d) Q) Q kb_Model_heaps_36 := am_wx rfl
theorem cx_Model_nothingBesides {d : Nat} {args : List Value} {h : am_H} {Q : am_Q} : am_cl (d + 1) 232 args h Q = (Nat.ble (am_sz args) 2 = true ∧ am_ex (am_cl d) (am_W kc_Model_nothingBesides (am_cl d) Q) Q kb_Model_nothingBesides_0 (am_ent args 2) [] h) := am_clx rfl rfl
theorem jx_Model_nothingBesides_2 {d : Nat} {Q : am_Q} : am_W kc_Model_nothingBesides (am_cl d) Q 2 = am_ex (am_cl d) (am_W kc_Model_nothingBesides (am_cl d) Q) Q kb_Model_nothingBesides_2 := am_wx rfl
theorem jx_Model_nothingBesides_21 {d : Nat} {Q : am_Q} : am_W kc_Model_nothingBesides (am_cl d) Q 21 = am_ex (am_cl d) (am_W kc_Model_nothingBesides (am_cl d) Q) Q kb_Model_nothingBesides_21 := am_wx rfl
theorem cx_Model_isShut {d : Nat} {args : List Value} {h : am_H} {Q : am_Q} : am_cl (d + 1) 233 args h Q = (Nat.ble (am_sz args) 4 = true ∧ am_ex (am_cl d) (am_W kc_Model_isShut (am_cl d) Q) Q kb_Model_isShut_0 (am_ent args 4) [] h) := am_clx rfl rfl
theorem jx_Model_isShut_2 {d : Nat} {Q : am_Q} : am_W kc_Model_isShut (am_cl d) Q 2 = am_ex (am_cl d) (am_W kc_Model_isShut (am_cl d) Q) Q kb_Model_isShut_2 := am_wx rfl
theorem jx_Model_isShut_36 {d : Nat} {Q : am_Q} : am_W kc_Model_isShut (am_cl d) Q 36 = am_ex (am_cl d) (am_W kc_Model_isShut (am_cl d) Q) Q kb_Model_isShut_36 := am_wx rfl
theorem jx_Model_isShut_42 {d : Nat} {Q : am_Q} : am_W kc_Model_isShut (am_cl d) Q 42 = am_ex (am_cl d) (am_W kc_Model_isShut (am_cl d) Q) Q kb_Model_isShut_42 := am_wx rfl
theorem cx_Model_quarrelsNow {d : Nat} {args : List Value} {h : am_H} {Q : am_Q} : am_cl (d + 1) 234 args h Q = (Nat.ble (am_sz args) 2 = true ∧ am_ex (am_cl d) (am_W kc_Model_quarrelsNow (am_cl d) Q) Q kb_Model_quarrelsNow_0 (am_ent args 2) [] h) := am_clx rfl rfl
theorem jx_Model_quarrelsNow_2 {d : Nat} {Q : am_Q} : am_W kc_Model_quarrelsNow (am_cl d) Q 2 = am_ex (am_cl d) (am_W kc_Model_quarrelsNow (am_cl d) Q) Q kb_Model_quarrelsNow_2 := am_wx rfl
theorem jx_Model_quarrelsNow_27 {d : Nat} {Q : am_Q} : am_W kc_Model_quarrelsNow (am_cl d) Q 27 = am_ex (am_cl d) (am_W kc_Model_quarrelsNow (am_cl d) Q) Q kb_Model_quarrelsNow_27 := am_wx rfl
theorem jx_Model_quarrelsNow_33 {d : Nat} {Q : am_Q} : am_W kc_Model_quarrelsNow (am_cl d) Q 33 = am_ex (am_cl d) (am_W kc_Model_quarrelsNow (am_cl d) Q) Q kb_Model_quarrelsNow_33 := am_wx rfl
theorem jx_Model_quarrelsNow_35 {d : Nat} {Q : am_Q} : am_W kc_Model_quarrelsNow (am_cl d) Q 35 = am_ex (am_cl d) (am_W kc_Model_quarrelsNow (am_cl d) Q) Q kb_Model_quarrelsNow_35 := am_wx rfl
theorem jx_Model_quarrelsNow_57 {d : Nat} {Q : am_Q} : am_W kc_Model_quarrelsNow (am_cl d) Q 57 = am_ex (am_cl d) (am_W kc_Model_quarrelsNow (am_cl d) Q) Q kb_Model_quarrelsNow_57 := am_wx rfl
theorem jx_Model_quarrelsNow_63 {d : Nat} {Q : am_Q} : am_W kc_Model_quarrelsNow (am_cl d) Q 63 = am_ex (am_cl d) (am_W kc_Model_quarrelsNow (am_cl d) Q) Q kb_Model_quarrelsNow_63 := am_wx rfl
theorem cx_Model_isQuarrel {d : Nat} {args : List Value} {h : am_H} {Q : am_Q} : am_cl (d + 1) 235 args h Q = (Nat.ble (am_sz args) 1 = true ∧ am_ex (am_cl d) (am_W kc_Model_isQuarrel (am_cl d) Q) Q kb_Model_isQuarrel_0 (am_ent args 1) [] h) := am_clx rfl rfl
theorem cx_Model_followsThat {d : Nat} {args : List Value} {h : am_H} {Q : am_Q} : am_cl (d + 1) 236 args h Q = (Nat.ble (am_sz args) 6 = true ∧ am_ex (am_cl d) (am_W kc_Model_followsThat (am_cl d) Q) Q kb_Model_followsThat_0 (am_ent args 6) [] h) := am_clx rfl rfl
theorem jx_Model_followsThat_8 {d : Nat} {Q : am_Q} : am_W kc_Model_followsThat (am_cl d) Q 8 = am_ex (am_cl d) (am_W kc_Model_followsThat (am_cl d) Q) Q kb_Model_followsThat_8 := am_wx rfl
theorem jx_Model_followsThat_37 {d : Nat} {Q : am_Q} : am_W kc_Model_followsThat (am_cl d) Q 37 = am_ex (am_cl d) (am_W kc_Model_followsThat (am_cl d) Q) Q kb_Model_followsThat_37 := am_wx rfl
theorem jx_Model_followsThat_42 {d : Nat} {Q : am_Q} : am_W kc_Model_followsThat (am_cl d) Q 42 = am_ex (am_cl d) (am_W kc_Model_followsThat (am_cl d) Q) Q kb_Model_followsThat_42 := am_wx rfl
theorem jx_Model_followsThat_55 {d : Nat} {Q : am_Q} : am_W kc_Model_followsThat (am_cl d) Q 55 = am_ex (am_cl d) (am_W kc_Model_followsThat (am_cl d) Q) Q kb_Model_followsThat_55 := am_wx rfl
theorem jx_Model_followsThat_61 {d : Nat} {Q : am_Q} : am_W kc_Model_followsThat (am_cl d) Q 61 = am_ex (am_cl d) (am_W kc_Model_followsThat (am_cl d) Q) Q kb_Model_followsThat_61 := am_wx rfl
theorem jx_Model_followsThat_99 {d : Nat} {Q : am_Q} : am_W kc_Model_followsThat (am_cl d) Q 99 = am_ex (am_cl d) (am_W kc_Model_followsThat (am_cl d) Q) Q kb_Model_followsThat_99 := am_wx rfl
theorem jx_Model_followsThat_133 {d : Nat} {Q : am_Q} : am_W kc_Model_followsThat (am_cl d) Q 133 = am_ex (am_cl d) (am_W kc_Model_followsThat (am_cl d) Q) Q kb_Model_followsThat_133 := am_wx rfl
theorem jx_Model_followsThat_140 {d : Nat} {Q : am_Q} : am_W kc_Model_followsThat (am_cl d) Q 140 = am_ex (am_cl d) (am_W kc_Model_followsThat (am_cl d) Q) Q kb_Model_followsThat_140 := am_wx rfl
theorem jx_Model_followsThat_141 {d : Nat} {Q : am_Q} : am_W kc_Model_followsThat (am_cl d) Q 141 = am_ex (am_cl d) (am_W kc_Model_followsThat (am_cl d) Q) Q kb_Model_followsThat_141 := am_wx rfl
theorem jx_Model_followsThat_149 {d : Nat} {Q : am_Q} : am_W kc_Model_followsThat (am_cl d) Q 149 = am_ex (am_cl d) (am_W kc_Model_followsThat (am_cl d) Q) Q kb_Model_followsThat_149 := am_wx rfl
theorem cx_Model_followsOf {d : Nat} {args : List Value} {h : am_H} {Q : am_Q} : am_cl (d + 1) 237 args h Q = (Nat.ble (am_sz args) 4 = true ∧ am_ex (am_cl d) (am_W kc_Model_followsOf (am_cl d) Q) Q kb_Model_followsOf_0 (am_ent args 4) [] h) := am_clx rfl rfl
theorem jx_Model_followsOf_73 {d : Nat} {Q : am_Q} : am_W kc_Model_followsOf (am_cl d) Q 73 = am_ex (am_cl d) (am_W kc_Model_followsOf (am_cl d) Q) Q kb_Model_followsOf_73 := am_wx rfl
theorem jx_Model_followsOf_77 {d : Nat} {Q : am_Q} : am_W kc_Model_followsOf (am_cl d) Q 77 = am_ex (am_cl d) (am_W kc_Model_followsOf (am_cl d) Q) Q kb_Model_followsOf_77 := am_wx rfl
theorem jx_Model_followsOf_78 {d : Nat} {Q : am_Q} : am_W kc_Model_followsOf (am_cl d) Q 78 = am_ex (am_cl d) (am_W kc_Model_followsOf (am_cl d) Q) Q kb_Model_followsOf_78 := am_wx rfl
theorem cx_Model_quarrels {d : Nat} {args : List Value} {h : am_H} {Q : am_Q} : am_cl (d + 1) 238 args h Q = (Nat.ble (am_sz args) 2 = true ∧ am_ex (am_cl d) (am_W kc_Model_quarrels (am_cl d) Q) Q kb_Model_quarrels_0 (am_ent args 2) [] h) := am_clx rfl rfl
theorem jx_Model_quarrels_10 {d : Nat} {Q : am_Q} : am_W kc_Model_quarrels (am_cl d) Q 10 = am_ex (am_cl d) (am_W kc_Model_quarrels (am_cl d) Q) Q kb_Model_quarrels_10 := am_wx rfl
theorem jx_Model_quarrels_26 {d : Nat} {Q : am_Q} : am_W kc_Model_quarrels (am_cl d) Q 26 = am_ex (am_cl d) (am_W kc_Model_quarrels (am_cl d) Q) Q kb_Model_quarrels_26 := am_wx rfl
theorem jx_Model_quarrels_27 {d : Nat} {Q : am_Q} : am_W kc_Model_quarrels (am_cl d) Q 27 = am_ex (am_cl d) (am_W kc_Model_quarrels (am_cl d) Q) Q kb_Model_quarrels_27 := am_wx rfl
theorem cx_Model_follows {d : Nat} {args : List Value} {h : am_H} {Q : am_Q} : am_cl (d + 1) 239 args h Q = (Nat.ble (am_sz args) 2 = true ∧ am_ex (am_cl d) (am_W kc_Model_follows (am_cl d) Q) Q kb_Model_follows_0 (am_ent args 2) [] h) := am_clx rfl rfl
theorem jx_Model_follows_15 {d : Nat} {Q : am_Q} : am_W kc_Model_follows (am_cl d) Q 15 = am_ex (am_cl d) (am_W kc_Model_follows (am_cl d) Q) Q kb_Model_follows_15 := am_wx rfl
theorem jx_Model_follows_17 {d : Nat} {Q : am_Q} : am_W kc_Model_follows (am_cl d) Q 17 = am_ex (am_cl d) (am_W kc_Model_follows (am_cl d) Q) Q kb_Model_follows_17 := am_wx rfl
theorem jx_Model_follows_39 {d : Nat} {Q : am_Q} : am_W kc_Model_follows (am_cl d) Q 39 = am_ex (am_cl d) (am_W kc_Model_follows (am_cl d) Q) Q kb_Model_follows_39 := am_wx rfl
theorem jx_Model_follows_40 {d : Nat} {Q : am_Q} : am_W kc_Model_follows (am_cl d) Q 40 = am_ex (am_cl d) (am_W kc_Model_follows (am_cl d) Q) Q kb_Model_follows_40 := am_wx rfl
theorem cx_Model_denied {d : Nat} {args : List Value} {h : am_H} {Q : am_Q} : am_cl (d + 1) 240 args h Q = (Nat.ble (am_sz args) 2 = true ∧ am_ex (am_cl d) (am_W kc_Model_denied (am_cl d) Q) Q kb_Model_denied_0 (am_ent args 2) [] h) := am_clx rfl rfl
theorem jx_Model_denied_15 {d : Nat} {Q : am_Q} : am_W kc_Model_denied (am_cl d) Q 15 = am_ex (am_cl d) (am_W kc_Model_denied (am_cl d) Q) Q kb_Model_denied_15 := am_wx rfl
theorem jx_Model_denied_17 {d : Nat} {Q : am_Q} : am_W kc_Model_denied (am_cl d) Q 17 = am_ex (am_cl d) (am_W kc_Model_denied (am_cl d) Q) Q kb_Model_denied_17 := am_wx rfl
theorem jx_Model_denied_43 {d : Nat} {Q : am_Q} : am_W kc_Model_denied (am_cl d) Q 43 = am_ex (am_cl d) (am_W kc_Model_denied (am_cl d) Q) Q kb_Model_denied_43 := am_wx rfl
theorem jx_Model_denied_44 {d : Nat} {Q : am_Q} : am_W kc_Model_denied (am_cl d) Q 44 = am_ex (am_cl d) (am_W kc_Model_denied (am_cl d) Q) Q kb_Model_denied_44 := am_wx rfl
theorem cx_Model_open {d : Nat} {args : List Value} {h : am_H} {Q : am_Q} : am_cl (d + 1) 241 args h Q = (Nat.ble (am_sz args) 4 = true ∧ am_ex (am_cl d) (am_W kc_Model_open (am_cl d) Q) Q kb_Model_open_0 (am_ent args 4) [] h) := am_clx rfl rfl
theorem jx_Model_open_10 {d : Nat} {Q : am_Q} : am_W kc_Model_open (am_cl d) Q 10 = am_ex (am_cl d) (am_W kc_Model_open (am_cl d) Q) Q kb_Model_open_10 := am_wx rfl
theorem jx_Model_open_19 {d : Nat} {Q : am_Q} : am_W kc_Model_open (am_cl d) Q 19 = am_ex (am_cl d) (am_W kc_Model_open (am_cl d) Q) Q kb_Model_open_19 := am_wx rfl
theorem jx_Model_open_45 {d : Nat} {Q : am_Q} : am_W kc_Model_open (am_cl d) Q 45 = am_ex (am_cl d) (am_W kc_Model_open (am_cl d) Q) Q kb_Model_open_45 := am_wx rfl
theorem cx_Model_idle {d : Nat} {args : List Value} {h : am_H} {Q : am_Q} : am_cl (d + 1) 242 args h Q = (Nat.ble (am_sz args) 4 = true ∧ am_ex (am_cl d) (am_W kc_Model_idle (am_cl d) Q) Q kb_Model_idle_0 (am_ent args 4) [] h) := am_clx rfl rfl
theorem jx_Model_idle_10 {d : Nat} {Q : am_Q} : am_W kc_Model_idle (am_cl d) Q 10 = am_ex (am_cl d) (am_W kc_Model_idle (am_cl d) Q) Q kb_Model_idle_10 := am_wx rfl
theorem jx_Model_idle_14 {d : Nat} {Q : am_Q} : am_W kc_Model_idle (am_cl d) Q 14 = am_ex (am_cl d) (am_W kc_Model_idle (am_cl d) Q) Q kb_Model_idle_14 := am_wx rfl
theorem jx_Model_idle_33 {d : Nat} {Q : am_Q} : am_W kc_Model_idle (am_cl d) Q 33 = am_ex (am_cl d) (am_W kc_Model_idle (am_cl d) Q) Q kb_Model_idle_33 := am_wx rfl
theorem jx_Model_idle_63 {d : Nat} {Q : am_Q} : am_W kc_Model_idle (am_cl d) Q 63 = am_ex (am_cl d) (am_W kc_Model_idle (am_cl d) Q) Q kb_Model_idle_63 := am_wx rfl
theorem jx_Model_idle_64 {d : Nat} {Q : am_Q} : am_W kc_Model_idle (am_cl d) Q 64 = am_ex (am_cl d) (am_W kc_Model_idle (am_cl d) Q) Q kb_Model_idle_64 := am_wx rfl
theorem jx_Model_idle_66 {d : Nat} {Q : am_Q} : am_W kc_Model_idle (am_cl d) Q 66 = am_ex (am_cl d) (am_W kc_Model_idle (am_cl d) Q) Q kb_Model_idle_66 := am_wx rfl
theorem jx_Model_idle_72 {d : Nat} {Q : am_Q} : am_W kc_Model_idle (am_cl d) Q 72 = am_ex (am_cl d) (am_W kc_Model_idle (am_cl d) Q) Q kb_Model_idle_72 := am_wx rfl
theorem cx_Model_least {d : Nat} {args : List Value} {h : am_H} {Q : am_Q} : am_cl (d + 1) 243 args h Q = (Nat.ble (am_sz args) 5 = true ∧ am_ex (am_cl d) (am_W kc_Model_least (am_cl d) Q) Q kb_Model_least_0 (am_ent args 5) [] h) := am_clx rfl rfl
theorem jx_Model_least_16 {d : Nat} {Q : am_Q} : am_W kc_Model_least (am_cl d) Q 16 = am_ex (am_cl d) (am_W kc_Model_least (am_cl d) Q) Q kb_Model_least_16 := am_wx rfl
theorem jx_Model_least_18 {d : Nat} {Q : am_Q} : am_W kc_Model_least (am_cl d) Q 18 = am_ex (am_cl d) (am_W kc_Model_least (am_cl d) Q) Q kb_Model_least_18 := am_wx rfl
theorem jx_Model_least_25 {d : Nat} {Q : am_Q} : am_W kc_Model_least (am_cl d) Q 25 = am_ex (am_cl d) (am_W kc_Model_least (am_cl d) Q) Q kb_Model_least_25 := am_wx rfl
theorem jx_Model_least_56 {d : Nat} {Q : am_Q} : am_W kc_Model_least (am_cl d) Q 56 = am_ex (am_cl d) (am_W kc_Model_least (am_cl d) Q) Q kb_Model_least_56 := am_wx rfl
theorem jx_Model_least_85 {d : Nat} {Q : am_Q} : am_W kc_Model_least (am_cl d) Q 85 = am_ex (am_cl d) (am_W kc_Model_least (am_cl d) Q) Q kb_Model_least_85 := am_wx rfl
theorem jx_Model_least_102 {d : Nat} {Q : am_Q} : am_W kc_Model_least (am_cl d) Q 102 = am_ex (am_cl d) (am_W kc_Model_least (am_cl d) Q) Q kb_Model_least_102 := am_wx rfl
theorem jx_Model_least_107 {d : Nat} {Q : am_Q} : am_W kc_Model_least (am_cl d) Q 107 = am_ex (am_cl d) (am_W kc_Model_least (am_cl d) Q) Q kb_Model_least_107 := am_wx rfl
theorem jx_Model_least_110 {d : Nat} {Q : am_Q} : am_W kc_Model_least (am_cl d) Q 110 = am_ex (am_cl d) (am_W kc_Model_least (am_cl d) Q) Q kb_Model_least_110 := am_wx rfl
theorem jx_Model_least_116 {d : Nat} {Q : am_Q} : am_W kc_Model_least (am_cl d) Q 116 = am_ex (am_cl d) (am_W kc_Model_least (am_cl d) Q) Q kb_Model_least_116 := am_wx rfl
theorem jx_Model_least_125 {d : Nat} {Q : am_Q} : am_W kc_Model_least (am_cl d) Q 125 = am_ex (am_cl d) (am_W kc_Model_least (am_cl d) Q) Q kb_Model_least_125 := am_wx rfl
theorem jx_Model_least_134 {d : Nat} {Q : am_Q} : am_W kc_Model_least (am_cl d) Q 134 = am_ex (am_cl d) (am_W kc_Model_least (am_cl d) Q) Q kb_Model_least_134 := am_wx rfl
theorem jx_Model_least_145 {d : Nat} {Q : am_Q} : am_W kc_Model_least (am_cl d) Q 145 = am_ex (am_cl d) (am_W kc_Model_least (am_cl d) Q) Q kb_Model_least_145 := am_wx rfl
theorem jx_Model_least_146 {d : Nat} {Q : am_Q} : am_W kc_Model_least (am_cl d) Q 146 = am_ex (am_cl d) (am_W kc_Model_least (am_cl d) Q) Q kb_Model_least_146 := am_wx rfl
theorem cx_Model_isQuarrelling {d : Nat} {args : List Value} {h : am_H} {Q : am_Q} : am_cl (d + 1) 244 args h Q = (Nat.ble (am_sz args) 2 = true ∧ am_ex (am_cl d) (am_W kc_Model_isQuarrelling (am_cl d) Q) Q kb_Model_isQuarrelling_0 (am_ent args 2) [] h) := am_clx rfl rfl
theorem cx_Model_quarrel {d : Nat} {args : List Value} {h : am_H} {Q : am_Q} : am_cl (d + 1) 245 args h Q = (Nat.ble (am_sz args) 6 = true ∧ am_ex (am_cl d) (am_W kc_Model_quarrel (am_cl d) Q) Q kb_Model_quarrel_0 (am_ent args 6) [] h) := am_clx rfl rfl
theorem jx_Model_quarrel_7 {d : Nat} {Q : am_Q} : am_W kc_Model_quarrel (am_cl d) Q 7 = am_ex (am_cl d) (am_W kc_Model_quarrel (am_cl d) Q) Q kb_Model_quarrel_7 := am_wx rfl
theorem jx_Model_quarrel_11 {d : Nat} {Q : am_Q} : am_W kc_Model_quarrel (am_cl d) Q 11 = am_ex (am_cl d) (am_W kc_Model_quarrel (am_cl d) Q) Q kb_Model_quarrel_11 := am_wx rfl
theorem jx_Model_quarrel_31 {d : Nat} {Q : am_Q} : am_W kc_Model_quarrel (am_cl d) Q 31 = am_ex (am_cl d) (am_W kc_Model_quarrel (am_cl d) Q) Q kb_Model_quarrel_31 := am_wx rfl
theorem jx_Model_quarrel_69 {d : Nat} {Q : am_Q} : am_W kc_Model_quarrel (am_cl d) Q 69 = am_ex (am_cl d) (am_W kc_Model_quarrel (am_cl d) Q) Q kb_Model_quarrel_69 := am_wx rfl
theorem jx_Model_quarrel_73 {d : Nat} {Q : am_Q} : am_W kc_Model_quarrel (am_cl d) Q 73 = am_ex (am_cl d) (am_W kc_Model_quarrel (am_cl d) Q) Q kb_Model_quarrel_73 := am_wx rfl
theorem jx_Model_quarrel_74 {d : Nat} {Q : am_Q} : am_W kc_Model_quarrel (am_cl d) Q 74 = am_ex (am_cl d) (am_W kc_Model_quarrel (am_cl d) Q) Q kb_Model_quarrel_74 := am_wx rfl
theorem jx_Model_quarrel_82 {d : Nat} {Q : am_Q} : am_W kc_Model_quarrel (am_cl d) Q 82 = am_ex (am_cl d) (am_W kc_Model_quarrel (am_cl d) Q) Q kb_Model_quarrel_82 := am_wx rfl
theorem jx_Model_quarrel_90 {d : Nat} {Q : am_Q} : am_W kc_Model_quarrel (am_cl d) Q 90 = am_ex (am_cl d) (am_W kc_Model_quarrel (am_cl d) Q) Q kb_Model_quarrel_90 := am_wx rfl
theorem jx_Model_quarrel_97 {d : Nat} {Q : am_Q} : am_W kc_Model_quarrel (am_cl d) Q 97 = am_ex (am_cl d) (am_W kc_Model_quarrel (am_cl d) Q) Q kb_Model_quarrel_97 := am_wx rfl
theorem jx_Model_quarrel_100 {d : Nat} {Q : am_Q} : am_W kc_Model_quarrel (am_cl d) Q 100 = am_ex (am_cl d) (am_W kc_Model_quarrel (am_cl d) Q) Q kb_Model_quarrel_100 := am_wx rfl
theorem jx_Model_quarrel_106 {d : Nat} {Q : am_Q} : am_W kc_Model_quarrel (am_cl d) Q 106 = am_ex (am_cl d) (am_W kc_Model_quarrel (am_cl d) Q) Q kb_Model_quarrel_106 := am_wx rfl
theorem jx_Model_quarrel_115 {d : Nat} {Q : am_Q} : am_W kc_Model_quarrel (am_cl d) Q 115 = am_ex (am_cl d) (am_W kc_Model_quarrel (am_cl d) Q) Q kb_Model_quarrel_115 := am_wx rfl
theorem jx_Model_quarrel_116 {d : Nat} {Q : am_Q} : am_W kc_Model_quarrel (am_cl d) Q 116 = am_ex (am_cl d) (am_W kc_Model_quarrel (am_cl d) Q) Q kb_Model_quarrel_116 := am_wx rfl
theorem cx_Model_calm {d : Nat} {args : List Value} {h : am_H} {Q : am_Q} : am_cl (d + 1) 246 args h Q = (Nat.ble (am_sz args) 6 = true ∧ am_ex (am_cl d) (am_W kc_Model_calm (am_cl d) Q) Q kb_Model_calm_0 (am_ent args 6) [] h) := am_clx rfl rfl
theorem jx_Model_calm_11 {d : Nat} {Q : am_Q} : am_W kc_Model_calm (am_cl d) Q 11 = am_ex (am_cl d) (am_W kc_Model_calm (am_cl d) Q) Q kb_Model_calm_11 := am_wx rfl
theorem jx_Model_calm_28 {d : Nat} {Q : am_Q} : am_W kc_Model_calm (am_cl d) Q 28 = am_ex (am_cl d) (am_W kc_Model_calm (am_cl d) Q) Q kb_Model_calm_28 := am_wx rfl
theorem jx_Model_calm_51 {d : Nat} {Q : am_Q} : am_W kc_Model_calm (am_cl d) Q 51 = am_ex (am_cl d) (am_W kc_Model_calm (am_cl d) Q) Q kb_Model_calm_51 := am_wx rfl
theorem jx_Model_calm_67 {d : Nat} {Q : am_Q} : am_W kc_Model_calm (am_cl d) Q 67 = am_ex (am_cl d) (am_W kc_Model_calm (am_cl d) Q) Q kb_Model_calm_67 := am_wx rfl
theorem jx_Model_calm_84 {d : Nat} {Q : am_Q} : am_W kc_Model_calm (am_cl d) Q 84 = am_ex (am_cl d) (am_W kc_Model_calm (am_cl d) Q) Q kb_Model_calm_84 := am_wx rfl
theorem jx_Model_calm_90 {d : Nat} {Q : am_Q} : am_W kc_Model_calm (am_cl d) Q 90 = am_ex (am_cl d) (am_W kc_Model_calm (am_cl d) Q) Q kb_Model_calm_90 := am_wx rfl
theorem jx_Model_calm_93 {d : Nat} {Q : am_Q} : am_W kc_Model_calm (am_cl d) Q 93 = am_ex (am_cl d) (am_W kc_Model_calm (am_cl d) Q) Q kb_Model_calm_93 := am_wx rfl
theorem jx_Model_calm_99 {d : Nat} {Q : am_Q} : am_W kc_Model_calm (am_cl d) Q 99 = am_ex (am_cl d) (am_W kc_Model_calm (am_cl d) Q) Q kb_Model_calm_99 := am_wx rfl
theorem jx_Model_calm_110 {d : Nat} {Q : am_Q} : am_W kc_Model_calm (am_cl d) Q 110 = am_ex (am_cl d) (am_W kc_Model_calm (am_cl d) Q) Q kb_Model_calm_110 := am_wx rfl
theorem jx_Model_calm_120 {d : Nat} {Q : am_Q} : am_W kc_Model_calm (am_cl d) Q 120 = am_ex (am_cl d) (am_W kc_Model_calm (am_cl d) Q) Q kb_Model_calm_120 := am_wx rfl
theorem jx_Model_calm_121 {d : Nat} {Q : am_Q} : am_W kc_Model_calm (am_cl d) Q 121 = am_ex (am_cl d) (am_W kc_Model_calm (am_cl d) Q) Q kb_Model_calm_121 := am_wx rfl
theorem cx_Model_isNumber {d : Nat} {args : List Value} {h : am_H} {Q : am_Q} : am_cl (d + 1) 247 args h Q = (Nat.ble (am_sz args) 1 = true ∧ am_ex (am_cl d) (am_W kc_Model_isNumber (am_cl d) Q) Q kb_Model_isNumber_0 (am_ent args 1) [] h) := am_clx rfl rfl
theorem jx_Model_isNumber_18 {d : Nat} {Q : am_Q} : am_W kc_Model_isNumber (am_cl d) Q 18 = am_ex (am_cl d) (am_W kc_Model_isNumber (am_cl d) Q) Q kb_Model_isNumber_18 := am_wx rfl
theorem jx_Model_isNumber_19 {d : Nat} {Q : am_Q} : am_W kc_Model_isNumber (am_cl d) Q 19 = am_ex (am_cl d) (am_W kc_Model_isNumber (am_cl d) Q) Q kb_Model_isNumber_19 := am_wx rfl
theorem cx_Model_hint {d : Nat} {args : List Value} {h : am_H} {Q : am_Q} : am_cl (d + 1) 248 args h Q = (Nat.ble (am_sz args) 3 = true ∧ am_ex (am_cl d) (am_W kc_Model_hint (am_cl d) Q) Q kb_Model_hint_0 (am_ent args 3) [] h) := am_clx rfl rfl
theorem jx_Model_hint_15 {d : Nat} {Q : am_Q} : am_W kc_Model_hint (am_cl d) Q 15 = am_ex (am_cl d) (am_W kc_Model_hint (am_cl d) Q) Q kb_Model_hint_15 := am_wx rfl
theorem jx_Model_hint_17 {d : Nat} {Q : am_Q} : am_W kc_Model_hint (am_cl d) Q 17 = am_ex (am_cl d) (am_W kc_Model_hint (am_cl d) Q) Q kb_Model_hint_17 := am_wx rfl
theorem jx_Model_hint_19 {d : Nat} {Q : am_Q} : am_W kc_Model_hint (am_cl d) Q 19 = am_ex (am_cl d) (am_W kc_Model_hint (am_cl d) Q) Q kb_Model_hint_19 := am_wx rfl
theorem jx_Model_hint_46 {d : Nat} {Q : am_Q} : am_W kc_Model_hint (am_cl d) Q 46 = am_ex (am_cl d) (am_W kc_Model_hint (am_cl d) Q) Q kb_Model_hint_46 := am_wx rfl
theorem jx_Model_hint_88 {d : Nat} {Q : am_Q} : am_W kc_Model_hint (am_cl d) Q 88 = am_ex (am_cl d) (am_W kc_Model_hint (am_cl d) Q) Q kb_Model_hint_88 := am_wx rfl
theorem jx_Model_hint_94 {d : Nat} {Q : am_Q} : am_W kc_Model_hint (am_cl d) Q 94 = am_ex (am_cl d) (am_W kc_Model_hint (am_cl d) Q) Q kb_Model_hint_94 := am_wx rfl
theorem cx_Model_isKind {d : Nat} {args : List Value} {h : am_H} {Q : am_Q} : am_cl (d + 1) 249 args h Q = (Nat.ble (am_sz args) 1 = true ∧ am_ex (am_cl d) (am_W kc_Model_isKind (am_cl d) Q) Q kb_Model_isKind_0 (am_ent args 1) [] h) := am_clx rfl rfl
theorem cx_Model_followsNumber {d : Nat} {args : List Value} {h : am_H} {Q : am_Q} : am_cl (d + 1) 250 args h Q = (Nat.ble (am_sz args) 2 = true ∧ am_ex (am_cl d) (am_W kc_Model_followsNumber (am_cl d) Q) Q kb_Model_followsNumber_0 (am_ent args 2) [] h) := am_clx rfl rfl
theorem cx_Model_between {d : Nat} {args : List Value} {h : am_H} {Q : am_Q} : am_cl (d + 1) 251 args h Q = (Nat.ble (am_sz args) 6 = true ∧ am_ex (am_cl d) (am_W kc_Model_between (am_cl d) Q) Q kb_Model_between_0 (am_ent args 6) [] h) := am_clx rfl rfl
theorem jx_Model_between_27 {d : Nat} {Q : am_Q} : am_W kc_Model_between (am_cl d) Q 27 = am_ex (am_cl d) (am_W kc_Model_between (am_cl d) Q) Q kb_Model_between_27 := am_wx rfl
theorem jx_Model_between_29 {d : Nat} {Q : am_Q} : am_W kc_Model_between (am_cl d) Q 29 = am_ex (am_cl d) (am_W kc_Model_between (am_cl d) Q) Q kb_Model_between_29 := am_wx rfl
theorem jx_Model_between_40 {d : Nat} {Q : am_Q} : am_W kc_Model_between (am_cl d) Q 40 = am_ex (am_cl d) (am_W kc_Model_between (am_cl d) Q) Q kb_Model_between_40 := am_wx rfl
theorem jx_Model_between_74 {d : Nat} {Q : am_Q} : am_W kc_Model_between (am_cl d) Q 74 = am_ex (am_cl d) (am_W kc_Model_between (am_cl d) Q) Q kb_Model_between_74 := am_wx rfl
theorem jx_Model_between_75 {d : Nat} {Q : am_Q} : am_W kc_Model_between (am_cl d) Q 75 = am_ex (am_cl d) (am_W kc_Model_between (am_cl d) Q) Q kb_Model_between_75 := am_wx rfl
theorem jx_Model_between_84 {d : Nat} {Q : am_Q} : am_W kc_Model_between (am_cl d) Q 84 = am_ex (am_cl d) (am_W kc_Model_between (am_cl d) Q) Q kb_Model_between_84 := am_wx rfl
theorem jx_Model_between_104 {d : Nat} {Q : am_Q} : am_W kc_Model_between (am_cl d) Q 104 = am_ex (am_cl d) (am_W kc_Model_between (am_cl d) Q) Q kb_Model_between_104 := am_wx rfl
theorem jx_Model_between_105 {d : Nat} {Q : am_Q} : am_W kc_Model_between (am_cl d) Q 105 = am_ex (am_cl d) (am_W kc_Model_between (am_cl d) Q) Q kb_Model_between_105 := am_wx rfl
theorem jx_Model_between_132 {d : Nat} {Q : am_Q} : am_W kc_Model_between (am_cl d) Q 132 = am_ex (am_cl d) (am_W kc_Model_between (am_cl d) Q) Q kb_Model_between_132 := am_wx rfl
theorem jx_Model_between_133 {d : Nat} {Q : am_Q} : am_W kc_Model_between (am_cl d) Q 133 = am_ex (am_cl d) (am_W kc_Model_between (am_cl d) Q) Q kb_Model_between_133 := am_wx rfl
theorem cx_Model_says {d : Nat} {args : List Value} {h : am_H} {Q : am_Q} : am_cl (d + 1) 252 args h Q = (Nat.ble (am_sz args) 5 = true ∧ am_ex (am_cl d) (am_W kc_Model_says (am_cl d) Q) Q kb_Model_says_0 (am_ent args 5) [] h) := am_clx rfl rfl
theorem jx_Model_says_38 {d : Nat} {Q : am_Q} : am_W kc_Model_says (am_cl d) Q 38 = am_ex (am_cl d) (am_W kc_Model_says (am_cl d) Q) Q kb_Model_says_38 := am_wx rfl
theorem jx_Model_says_40 {d : Nat} {Q : am_Q} : am_W kc_Model_says (am_cl d) Q 40 = am_ex (am_cl d) (am_W kc_Model_says (am_cl d) Q) Q kb_Model_says_40 := am_wx rfl
theorem jx_Model_says_68 {d : Nat} {Q : am_Q} : am_W kc_Model_says (am_cl d) Q 68 = am_ex (am_cl d) (am_W kc_Model_says (am_cl d) Q) Q kb_Model_says_68 := am_wx rfl
theorem jx_Model_says_69 {d : Nat} {Q : am_Q} : am_W kc_Model_says (am_cl d) Q 69 = am_ex (am_cl d) (am_W kc_Model_says (am_cl d) Q) Q kb_Model_says_69 := am_wx rfl
theorem cx_Model_all {d : Nat} {args : List Value} {h : am_H} {Q : am_Q} : am_cl (d + 1) 253 args h Q = (Nat.ble (am_sz args) 5 = true ∧ am_ex (am_cl d) (am_W kc_Model_all (am_cl d) Q) Q kb_Model_all_0 (am_ent args 5) [] h) := am_clx rfl rfl
theorem jx_Model_all_17 {d : Nat} {Q : am_Q} : am_W kc_Model_all (am_cl d) Q 17 = am_ex (am_cl d) (am_W kc_Model_all (am_cl d) Q) Q kb_Model_all_17 := am_wx rfl
theorem jx_Model_all_19 {d : Nat} {Q : am_Q} : am_W kc_Model_all (am_cl d) Q 19 = am_ex (am_cl d) (am_W kc_Model_all (am_cl d) Q) Q kb_Model_all_19 := am_wx rfl
theorem jx_Model_all_32 {d : Nat} {Q : am_Q} : am_W kc_Model_all (am_cl d) Q 32 = am_ex (am_cl d) (am_W kc_Model_all (am_cl d) Q) Q kb_Model_all_32 := am_wx rfl
theorem jx_Model_all_66 {d : Nat} {Q : am_Q} : am_W kc_Model_all (am_cl d) Q 66 = am_ex (am_cl d) (am_W kc_Model_all (am_cl d) Q) Q kb_Model_all_66 := am_wx rfl
theorem jx_Model_all_67 {d : Nat} {Q : am_Q} : am_W kc_Model_all (am_cl d) Q 67 = am_ex (am_cl d) (am_W kc_Model_all (am_cl d) Q) Q kb_Model_all_67 := am_wx rfl
theorem jx_Model_all_75 {d : Nat} {Q : am_Q} : am_W kc_Model_all (am_cl d) Q 75 = am_ex (am_cl d) (am_W kc_Model_all (am_cl d) Q) Q kb_Model_all_75 := am_wx rfl
theorem cx_Model_otherwise {d : Nat} {args : List Value} {h : am_H} {Q : am_Q} : am_cl (d + 1) 254 args h Q = (Nat.ble (am_sz args) 2 = true ∧ am_ex (am_cl d) (am_W kc_Model_otherwise (am_cl d) Q) Q kb_Model_otherwise_0 (am_ent args 2) [] h) := am_clx rfl rfl
theorem jx_Model_otherwise_23 {d : Nat} {Q : am_Q} : am_W kc_Model_otherwise (am_cl d) Q 23 = am_ex (am_cl d) (am_W kc_Model_otherwise (am_cl d) Q) Q kb_Model_otherwise_23 := am_wx rfl
theorem jx_Model_otherwise_24 {d : Nat} {Q : am_Q} : am_W kc_Model_otherwise (am_cl d) Q 24 = am_ex (am_cl d) (am_W kc_Model_otherwise (am_cl d) Q) Q kb_Model_otherwise_24 := am_wx rfl
theorem cx_Model_tellsNot {d : Nat} {args : List Value} {h : am_H} {Q : am_Q} : am_cl (d + 1) 255 args h Q = (Nat.ble (am_sz args) 4 = true ∧ am_ex (am_cl d) (am_W kc_Model_tellsNot (am_cl d) Q) Q kb_Model_tellsNot_0 (am_ent args 4) [] h) := am_clx rfl rfl
theorem jx_Model_tellsNot_41 {d : Nat} {Q : am_Q} : am_W kc_Model_tellsNot (am_cl d) Q 41 = am_ex (am_cl d) (am_W kc_Model_tellsNot (am_cl d) Q) Q kb_Model_tellsNot_41 := am_wx rfl
theorem jx_Model_tellsNot_56 {d : Nat} {Q : am_Q} : am_W kc_Model_tellsNot (am_cl d) Q 56 = am_ex (am_cl d) (am_W kc_Model_tellsNot (am_cl d) Q) Q kb_Model_tellsNot_56 := am_wx rfl
theorem cx_Model_leadsTo {d : Nat} {args : List Value} {h : am_H} {Q : am_Q} : am_cl (d + 1) 256 args h Q = (Nat.ble (am_sz args) 3 = true ∧ am_ex (am_cl d) (am_W kc_Model_leadsTo (am_cl d) Q) Q kb_Model_leadsTo_0 (am_ent args 3) [] h) := am_clx rfl rfl
theorem cx_Model_square {d : Nat} {args : List Value} {h : am_H} {Q : am_Q} : am_cl (d + 1) 257 args h Q = (Nat.ble (am_sz args) 9 = true ∧ am_ex (am_cl d) (am_W kc_Model_square (am_cl d) Q) Q kb_Model_square_0 (am_ent args 9) [] h) := am_clx rfl rfl
theorem jx_Model_square_16 {d : Nat} {Q : am_Q} : am_W kc_Model_square (am_cl d) Q 16 = am_ex (am_cl d) (am_W kc_Model_square (am_cl d) Q) Q kb_Model_square_16 := am_wx rfl
theorem jx_Model_square_18 {d : Nat} {Q : am_Q} : am_W kc_Model_square (am_cl d) Q 18 = am_ex (am_cl d) (am_W kc_Model_square (am_cl d) Q) Q kb_Model_square_18 := am_wx rfl
theorem jx_Model_square_44 {d : Nat} {Q : am_Q} : am_W kc_Model_square (am_cl d) Q 44 = am_ex (am_cl d) (am_W kc_Model_square (am_cl d) Q) Q kb_Model_square_44 := am_wx rfl
theorem jx_Model_square_78 {d : Nat} {Q : am_Q} : am_W kc_Model_square (am_cl d) Q 78 = am_ex (am_cl d) (am_W kc_Model_square (am_cl d) Q) Q kb_Model_square_78 := am_wx rfl
theorem jx_Model_square_91 {d : Nat} {Q : am_Q} : am_W kc_Model_square (am_cl d) Q 91 = am_ex (am_cl d) (am_W kc_Model_square (am_cl d) Q) Q kb_Model_square_91 := am_wx rfl
theorem jx_Model_square_135 {d : Nat} {Q : am_Q} : am_W kc_Model_square (am_cl d) Q 135 = am_ex (am_cl d) (am_W kc_Model_square (am_cl d) Q) Q kb_Model_square_135 := am_wx rfl
theorem jx_Model_square_136 {d : Nat} {Q : am_Q} : am_W kc_Model_square (am_cl d) Q 136 = am_ex (am_cl d) (am_W kc_Model_square (am_cl d) Q) Q kb_Model_square_136 := am_wx rfl
theorem jx_Model_square_144 {d : Nat} {Q : am_Q} : am_W kc_Model_square (am_cl d) Q 144 = am_ex (am_cl d) (am_W kc_Model_square (am_cl d) Q) Q kb_Model_square_144 := am_wx rfl
theorem jx_Model_square_150 {d : Nat} {Q : am_Q} : am_W kc_Model_square (am_cl d) Q 150 = am_ex (am_cl d) (am_W kc_Model_square (am_cl d) Q) Q kb_Model_square_150 := am_wx rfl
theorem jx_Model_square_165 {d : Nat} {Q : am_Q} : am_W kc_Model_square (am_cl d) Q 165 = am_ex (am_cl d) (am_W kc_Model_square (am_cl d) Q) Q kb_Model_square_165 := am_wx rfl
theorem jx_Model_square_174 {d : Nat} {Q : am_Q} : am_W kc_Model_square (am_cl d) Q 174 = am_ex (am_cl d) (am_W kc_Model_square (am_cl d) Q) Q kb_Model_square_174 := am_wx rfl
theorem jx_Model_square_183 {d : Nat} {Q : am_Q} : am_W kc_Model_square (am_cl d) Q 183 = am_ex (am_cl d) (am_W kc_Model_square (am_cl d) Q) Q kb_Model_square_183 := am_wx rfl
theorem jx_Model_square_191 {d : Nat} {Q : am_Q} : am_W kc_Model_square (am_cl d) Q 191 = am_ex (am_cl d) (am_W kc_Model_square (am_cl d) Q) Q kb_Model_square_191 := am_wx rfl
theorem jx_Model_square_200 {d : Nat} {Q : am_Q} : am_W kc_Model_square (am_cl d) Q 200 = am_ex (am_cl d) (am_W kc_Model_square (am_cl d) Q) Q kb_Model_square_200 := am_wx rfl
theorem jx_Model_square_201 {d : Nat} {Q : am_Q} : am_W kc_Model_square (am_cl d) Q 201 = am_ex (am_cl d) (am_W kc_Model_square (am_cl d) Q) Q kb_Model_square_201 := am_wx rfl
theorem cx_Model_laysMeets {d : Nat} {args : List Value} {h : am_H} {Q : am_Q} : am_cl (d + 1) 258 args h Q = (Nat.ble (am_sz args) 6 = true ∧ am_ex (am_cl d) (am_W kc_Model_laysMeets (am_cl d) Q) Q kb_Model_laysMeets_0 (am_ent args 6) [] h) := am_clx rfl rfl
theorem jx_Model_laysMeets_21 {d : Nat} {Q : am_Q} : am_W kc_Model_laysMeets (am_cl d) Q 21 = am_ex (am_cl d) (am_W kc_Model_laysMeets (am_cl d) Q) Q kb_Model_laysMeets_21 := am_wx rfl
theorem jx_Model_laysMeets_61 {d : Nat} {Q : am_Q} : am_W kc_Model_laysMeets (am_cl d) Q 61 = am_ex (am_cl d) (am_W kc_Model_laysMeets (am_cl d) Q) Q kb_Model_laysMeets_61 := am_wx rfl
theorem jx_Model_laysMeets_64 {d : Nat} {Q : am_Q} : am_W kc_Model_laysMeets (am_cl d) Q 64 = am_ex (am_cl d) (am_W kc_Model_laysMeets (am_cl d) Q) Q kb_Model_laysMeets_64 := am_wx rfl
theorem jx_Model_laysMeets_103 {d : Nat} {Q : am_Q} : am_W kc_Model_laysMeets (am_cl d) Q 103 = am_ex (am_cl d) (am_W kc_Model_laysMeets (am_cl d) Q) Q kb_Model_laysMeets_103 := am_wx rfl
theorem jx_Model_laysMeets_109 {d : Nat} {Q : am_Q} : am_W kc_Model_laysMeets (am_cl d) Q 109 = am_ex (am_cl d) (am_W kc_Model_laysMeets (am_cl d) Q) Q kb_Model_laysMeets_109 := am_wx rfl
theorem jx_Model_laysMeets_112 {d : Nat} {Q : am_Q} : am_W kc_Model_laysMeets (am_cl d) Q 112 = am_ex (am_cl d) (am_W kc_Model_laysMeets (am_cl d) Q) Q kb_Model_laysMeets_112 := am_wx rfl
theorem jx_Model_laysMeets_153 {d : Nat} {Q : am_Q} : am_W kc_Model_laysMeets (am_cl d) Q 153 = am_ex (am_cl d) (am_W kc_Model_laysMeets (am_cl d) Q) Q kb_Model_laysMeets_153 := am_wx rfl
theorem jx_Model_laysMeets_159 {d : Nat} {Q : am_Q} : am_W kc_Model_laysMeets (am_cl d) Q 159 = am_ex (am_cl d) (am_W kc_Model_laysMeets (am_cl d) Q) Q kb_Model_laysMeets_159 := am_wx rfl
theorem jx_Model_laysMeets_172 {d : Nat} {Q : am_Q} : am_W kc_Model_laysMeets (am_cl d) Q 172 = am_ex (am_cl d) (am_W kc_Model_laysMeets (am_cl d) Q) Q kb_Model_laysMeets_172 := am_wx rfl
theorem jx_Model_laysMeets_173 {d : Nat} {Q : am_Q} : am_W kc_Model_laysMeets (am_cl d) Q 173 = am_ex (am_cl d) (am_W kc_Model_laysMeets (am_cl d) Q) Q kb_Model_laysMeets_173 := am_wx rfl
theorem jx_Model_laysMeets_178 {d : Nat} {Q : am_Q} : am_W kc_Model_laysMeets (am_cl d) Q 178 = am_ex (am_cl d) (am_W kc_Model_laysMeets (am_cl d) Q) Q kb_Model_laysMeets_178 := am_wx rfl
theorem jx_Model_laysMeets_220 {d : Nat} {Q : am_Q} : am_W kc_Model_laysMeets (am_cl d) Q 220 = am_ex (am_cl d) (am_W kc_Model_laysMeets (am_cl d) Q) Q kb_Model_laysMeets_220 := am_wx rfl
theorem jx_Model_laysMeets_221 {d : Nat} {Q : am_Q} : am_W kc_Model_laysMeets (am_cl d) Q 221 = am_ex (am_cl d) (am_W kc_Model_laysMeets (am_cl d) Q) Q kb_Model_laysMeets_221 := am_wx rfl
theorem jx_Model_laysMeets_229 {d : Nat} {Q : am_Q} : am_W kc_Model_laysMeets (am_cl d) Q 229 = am_ex (am_cl d) (am_W kc_Model_laysMeets (am_cl d) Q) Q kb_Model_laysMeets_229 := am_wx rfl
theorem jx_Model_laysMeets_237 {d : Nat} {Q : am_Q} : am_W kc_Model_laysMeets (am_cl d) Q 237 = am_ex (am_cl d) (am_W kc_Model_laysMeets (am_cl d) Q) Q kb_Model_laysMeets_237 := am_wx rfl
theorem jx_Model_laysMeets_257 {d : Nat} {Q : am_Q} : am_W kc_Model_laysMeets (am_cl d) Q 257 = am_ex (am_cl d) (am_W kc_Model_laysMeets (am_cl d) Q) Q kb_Model_laysMeets_257 := am_wx rfl
theorem jx_Model_laysMeets_263 {d : Nat} {Q : am_Q} : am_W kc_Model_laysMeets (am_cl d) Q 263 = am_ex (am_cl d) (am_W kc_Model_laysMeets (am_cl d) Q) Q kb_Model_laysMeets_263 := am_wx rfl
theorem cx_Model_canMeet {d : Nat} {args : List Value} {h : am_H} {Q : am_Q} : am_cl (d + 1) 259 args h Q = (Nat.ble (am_sz args) 9 = true ∧ am_ex (am_cl d) (am_W kc_Model_canMeet (am_cl d) Q) Q kb_Model_canMeet_0 (am_ent args 9) [] h) := am_clx rfl rfl
theorem jx_Model_canMeet_6 {d : Nat} {Q : am_Q} : am_W kc_Model_canMeet (am_cl d) Q 6 = am_ex (am_cl d) (am_W kc_Model_canMeet (am_cl d) Q) Q kb_Model_canMeet_6 := am_wx rfl
theorem jx_Model_canMeet_12 {d : Nat} {Q : am_Q} : am_W kc_Model_canMeet (am_cl d) Q 12 = am_ex (am_cl d) (am_W kc_Model_canMeet (am_cl d) Q) Q kb_Model_canMeet_12 := am_wx rfl
theorem jx_Model_canMeet_23 {d : Nat} {Q : am_Q} : am_W kc_Model_canMeet (am_cl d) Q 23 = am_ex (am_cl d) (am_W kc_Model_canMeet (am_cl d) Q) Q kb_Model_canMeet_23 := am_wx rfl
theorem jx_Model_canMeet_42 {d : Nat} {Q : am_Q} : am_W kc_Model_canMeet (am_cl d) Q 42 = am_ex (am_cl d) (am_W kc_Model_canMeet (am_cl d) Q) Q kb_Model_canMeet_42 := am_wx rfl
theorem jx_Model_canMeet_48 {d : Nat} {Q : am_Q} : am_W kc_Model_canMeet (am_cl d) Q 48 = am_ex (am_cl d) (am_W kc_Model_canMeet (am_cl d) Q) Q kb_Model_canMeet_48 := am_wx rfl
theorem jx_Model_canMeet_85 {d : Nat} {Q : am_Q} : am_W kc_Model_canMeet (am_cl d) Q 85 = am_ex (am_cl d) (am_W kc_Model_canMeet (am_cl d) Q) Q kb_Model_canMeet_85 := am_wx rfl
theorem jx_Model_canMeet_95 {d : Nat} {Q : am_Q} : am_W kc_Model_canMeet (am_cl d) Q 95 = am_ex (am_cl d) (am_W kc_Model_canMeet (am_cl d) Q) Q kb_Model_canMeet_95 := am_wx rfl
theorem jx_Model_canMeet_103 {d : Nat} {Q : am_Q} : am_W kc_Model_canMeet (am_cl d) Q 103 = am_ex (am_cl d) (am_W kc_Model_canMeet (am_cl d) Q) Q kb_Model_canMeet_103 := am_wx rfl
theorem jx_Model_canMeet_109 {d : Nat} {Q : am_Q} : am_W kc_Model_canMeet (am_cl d) Q 109 = am_ex (am_cl d) (am_W kc_Model_canMeet (am_cl d) Q) Q kb_Model_canMeet_109 := am_wx rfl
theorem jx_Model_canMeet_112 {d : Nat} {Q : am_Q} : am_W kc_Model_canMeet (am_cl d) Q 112 = am_ex (am_cl d) (am_W kc_Model_canMeet (am_cl d) Q) Q kb_Model_canMeet_112 := am_wx rfl
theorem jx_Model_canMeet_171 {d : Nat} {Q : am_Q} : am_W kc_Model_canMeet (am_cl d) Q 171 = am_ex (am_cl d) (am_W kc_Model_canMeet (am_cl d) Q) Q kb_Model_canMeet_171 := am_wx rfl
theorem jx_Model_canMeet_177 {d : Nat} {Q : am_Q} : am_W kc_Model_canMeet (am_cl d) Q 177 = am_ex (am_cl d) (am_W kc_Model_canMeet (am_cl d) Q) Q kb_Model_canMeet_177 := am_wx rfl
theorem cx_Model_laysWorld {d : Nat} {args : List Value} {h : am_H} {Q : am_Q} : am_cl (d + 1) 260 args h Q = (Nat.ble (am_sz args) 4 = true ∧ am_ex (am_cl d) (am_W kc_Model_laysWorld (am_cl d) Q) Q kb_Model_laysWorld_0 (am_ent args 4) [] h) := am_clx rfl rfl
theorem jx_Model_laysWorld_9 {d : Nat} {Q : am_Q} : am_W kc_Model_laysWorld (am_cl d) Q 9 = am_ex (am_cl d) (am_W kc_Model_laysWorld (am_cl d) Q) Q kb_Model_laysWorld_9 := am_wx rfl
theorem jx_Model_laysWorld_38 {d : Nat} {Q : am_Q} : am_W kc_Model_laysWorld (am_cl d) Q 38 = am_ex (am_cl d) (am_W kc_Model_laysWorld (am_cl d) Q) Q kb_Model_laysWorld_38 := am_wx rfl
theorem jx_Model_laysWorld_47 {d : Nat} {Q : am_Q} : am_W kc_Model_laysWorld (am_cl d) Q 47 = am_ex (am_cl d) (am_W kc_Model_laysWorld (am_cl d) Q) Q kb_Model_laysWorld_47 := am_wx rfl
theorem jx_Model_laysWorld_55 {d : Nat} {Q : am_Q} : am_W kc_Model_laysWorld (am_cl d) Q 55 = am_ex (am_cl d) (am_W kc_Model_laysWorld (am_cl d) Q) Q kb_Model_laysWorld_55 := am_wx rfl
theorem jx_Model_laysWorld_94 {d : Nat} {Q : am_Q} : am_W kc_Model_laysWorld (am_cl d) Q 94 = am_ex (am_cl d) (am_W kc_Model_laysWorld (am_cl d) Q) Q kb_Model_laysWorld_94 := am_wx rfl
theorem jx_Model_laysWorld_131 {d : Nat} {Q : am_Q} : am_W kc_Model_laysWorld (am_cl d) Q 131 = am_ex (am_cl d) (am_W kc_Model_laysWorld (am_cl d) Q) Q kb_Model_laysWorld_131 := am_wx rfl
theorem cx_Model_world {d : Nat} {args : List Value} {h : am_H} {Q : am_Q} : am_cl (d + 1) 261 args h Q = (Nat.ble (am_sz args) 7 = true ∧ am_ex (am_cl d) (am_W kc_Model_world (am_cl d) Q) Q kb_Model_world_0 (am_ent args 7) [] h) := am_clx rfl rfl
theorem jx_Model_world_20 {d : Nat} {Q : am_Q} : am_W kc_Model_world (am_cl d) Q 20 = am_ex (am_cl d) (am_W kc_Model_world (am_cl d) Q) Q kb_Model_world_20 := am_wx rfl
theorem jx_Model_world_22 {d : Nat} {Q : am_Q} : am_W kc_Model_world (am_cl d) Q 22 = am_ex (am_cl d) (am_W kc_Model_world (am_cl d) Q) Q kb_Model_world_22 := am_wx rfl
theorem jx_Model_world_27 {d : Nat} {Q : am_Q} : am_W kc_Model_world (am_cl d) Q 27 = am_ex (am_cl d) (am_W kc_Model_world (am_cl d) Q) Q kb_Model_world_27 := am_wx rfl
theorem jx_Model_world_61 {d : Nat} {Q : am_Q} : am_W kc_Model_world (am_cl d) Q 61 = am_ex (am_cl d) (am_W kc_Model_world (am_cl d) Q) Q kb_Model_world_61 := am_wx rfl
theorem jx_Model_world_71 {d : Nat} {Q : am_Q} : am_W kc_Model_world (am_cl d) Q 71 = am_ex (am_cl d) (am_W kc_Model_world (am_cl d) Q) Q kb_Model_world_71 := am_wx rfl
theorem jx_Model_world_116 {d : Nat} {Q : am_Q} : am_W kc_Model_world (am_cl d) Q 116 = am_ex (am_cl d) (am_W kc_Model_world (am_cl d) Q) Q kb_Model_world_116 := am_wx rfl
theorem jx_Model_world_145 {d : Nat} {Q : am_Q} : am_W kc_Model_world (am_cl d) Q 145 = am_ex (am_cl d) (am_W kc_Model_world (am_cl d) Q) Q kb_Model_world_145 := am_wx rfl
theorem jx_Model_world_153 {d : Nat} {Q : am_Q} : am_W kc_Model_world (am_cl d) Q 153 = am_ex (am_cl d) (am_W kc_Model_world (am_cl d) Q) Q kb_Model_world_153 := am_wx rfl
theorem jx_Model_world_182 {d : Nat} {Q : am_Q} : am_W kc_Model_world (am_cl d) Q 182 = am_ex (am_cl d) (am_W kc_Model_world (am_cl d) Q) Q kb_Model_world_182 := am_wx rfl
theorem jx_Model_world_188 {d : Nat} {Q : am_Q} : am_W kc_Model_world (am_cl d) Q 188 = am_ex (am_cl d) (am_W kc_Model_world (am_cl d) Q) Q kb_Model_world_188 := am_wx rfl
theorem jx_Model_world_197 {d : Nat} {Q : am_Q} : am_W kc_Model_world (am_cl d) Q 197 = am_ex (am_cl d) (am_W kc_Model_world (am_cl d) Q) Q kb_Model_world_197 := am_wx rfl
theorem jx_Model_world_211 {d : Nat} {Q : am_Q} : am_W kc_Model_world (am_cl d) Q 211 = am_ex (am_cl d) (am_W kc_Model_world (am_cl d) Q) Q kb_Model_world_211 := am_wx rfl
theorem jx_Model_world_212 {d : Nat} {Q : am_Q} : am_W kc_Model_world (am_cl d) Q 212 = am_ex (am_cl d) (am_W kc_Model_world (am_cl d) Q) Q kb_Model_world_212 := am_wx rfl
theorem cx_Model_name {d : Nat} {args : List Value} {h : am_H} {Q : am_Q} : am_cl (d + 1) 262 args h Q = (Nat.ble (am_sz args) 7 = true ∧ am_ex (am_cl d) (am_W kc_Model_name (am_cl d) Q) Q kb_Model_name_0 (am_ent args 7) [] h) := am_clx rfl rfl
theorem jx_Model_name_26 {d : Nat} {Q : am_Q} : am_W kc_Model_name (am_cl d) Q 26 = am_ex (am_cl d) (am_W kc_Model_name (am_cl d) Q) Q kb_Model_name_26 := am_wx rfl
theorem jx_Model_name_28 {d : Nat} {Q : am_Q} : am_W kc_Model_name (am_cl d) Q 28 = am_ex (am_cl d) (am_W kc_Model_name (am_cl d) Q) Q kb_Model_name_28 := am_wx rfl
theorem jx_Model_name_42 {d : Nat} {Q : am_Q} : am_W kc_Model_name (am_cl d) Q 42 = am_ex (am_cl d) (am_W kc_Model_name (am_cl d) Q) Q kb_Model_name_42 := am_wx rfl
theorem jx_Model_name_53 {d : Nat} {Q : am_Q} : am_W kc_Model_name (am_cl d) Q 53 = am_ex (am_cl d) (am_W kc_Model_name (am_cl d) Q) Q kb_Model_name_53 := am_wx rfl
theorem jx_Model_name_100 {d : Nat} {Q : am_Q} : am_W kc_Model_name (am_cl d) Q 100 = am_ex (am_cl d) (am_W kc_Model_name (am_cl d) Q) Q kb_Model_name_100 := am_wx rfl
theorem jx_Model_name_107 {d : Nat} {Q : am_Q} : am_W kc_Model_name (am_cl d) Q 107 = am_ex (am_cl d) (am_W kc_Model_name (am_cl d) Q) Q kb_Model_name_107 := am_wx rfl
theorem jx_Model_name_113 {d : Nat} {Q : am_Q} : am_W kc_Model_name (am_cl d) Q 113 = am_ex (am_cl d) (am_W kc_Model_name (am_cl d) Q) Q kb_Model_name_113 := am_wx rfl
theorem jx_Model_name_122 {d : Nat} {Q : am_Q} : am_W kc_Model_name (am_cl d) Q 122 = am_ex (am_cl d) (am_W kc_Model_name (am_cl d) Q) Q kb_Model_name_122 := am_wx rfl
theorem jx_Model_name_124 {d : Nat} {Q : am_Q} : am_W kc_Model_name (am_cl d) Q 124 = am_ex (am_cl d) (am_W kc_Model_name (am_cl d) Q) Q kb_Model_name_124 := am_wx rfl
theorem cx_Model_subject {d : Nat} {args : List Value} {h : am_H} {Q : am_Q} : am_cl (d + 1) 263 args h Q = (Nat.ble (am_sz args) 1 = true ∧ am_ex (am_cl d) (am_W kc_Model_subject (am_cl d) Q) Q kb_Model_subject_0 (am_ent args 1) [] h) := am_clx rfl rfl
theorem cx_Model_predicate {d : Nat} {args : List Value} {h : am_H} {Q : am_Q} : am_cl (d + 1) 264 args h Q = (Nat.ble (am_sz args) 1 = true ∧ am_ex (am_cl d) (am_W kc_Model_predicate (am_cl d) Q) Q kb_Model_predicate_0 (am_ent args 1) [] h) := am_clx rfl rfl
theorem cx_Model_figure {d : Nat} {args : List Value} {h : am_H} {Q : am_Q} : am_cl (d + 1) 265 args h Q = (Nat.ble (am_sz args) 5 = true ∧ am_ex (am_cl d) (am_W kc_Model_figure (am_cl d) Q) Q kb_Model_figure_0 (am_ent args 5) [] h) := am_clx rfl rfl
theorem jx_Model_figure_40 {d : Nat} {Q : am_Q} : am_W kc_Model_figure (am_cl d) Q 40 = am_ex (am_cl d) (am_W kc_Model_figure (am_cl d) Q) Q kb_Model_figure_40 := am_wx rfl
theorem jx_Model_figure_42 {d : Nat} {Q : am_Q} : am_W kc_Model_figure (am_cl d) Q 42 = am_ex (am_cl d) (am_W kc_Model_figure (am_cl d) Q) Q kb_Model_figure_42 := am_wx rfl
theorem jx_Model_figure_56 {d : Nat} {Q : am_Q} : am_W kc_Model_figure (am_cl d) Q 56 = am_ex (am_cl d) (am_W kc_Model_figure (am_cl d) Q) Q kb_Model_figure_56 := am_wx rfl
theorem jx_Model_figure_57 {d : Nat} {Q : am_Q} : am_W kc_Model_figure (am_cl d) Q 57 = am_ex (am_cl d) (am_W kc_Model_figure (am_cl d) Q) Q kb_Model_figure_57 := am_wx rfl
theorem jx_Model_figure_72 {d : Nat} {Q : am_Q} : am_W kc_Model_figure (am_cl d) Q 72 = am_ex (am_cl d) (am_W kc_Model_figure (am_cl d) Q) Q kb_Model_figure_72 := am_wx rfl
theorem jx_Model_figure_73 {d : Nat} {Q : am_Q} : am_W kc_Model_figure (am_cl d) Q 73 = am_ex (am_cl d) (am_W kc_Model_figure (am_cl d) Q) Q kb_Model_figure_73 := am_wx rfl
theorem jx_Model_figure_88 {d : Nat} {Q : am_Q} : am_W kc_Model_figure (am_cl d) Q 88 = am_ex (am_cl d) (am_W kc_Model_figure (am_cl d) Q) Q kb_Model_figure_88 := am_wx rfl
theorem jx_Model_figure_101 {d : Nat} {Q : am_Q} : am_W kc_Model_figure (am_cl d) Q 101 = am_ex (am_cl d) (am_W kc_Model_figure (am_cl d) Q) Q kb_Model_figure_101 := am_wx rfl
theorem jx_Model_figure_109 {d : Nat} {Q : am_Q} : am_W kc_Model_figure (am_cl d) Q 109 = am_ex (am_cl d) (am_W kc_Model_figure (am_cl d) Q) Q kb_Model_figure_109 := am_wx rfl
theorem jx_Model_figure_110 {d : Nat} {Q : am_Q} : am_W kc_Model_figure (am_cl d) Q 110 = am_ex (am_cl d) (am_W kc_Model_figure (am_cl d) Q) Q kb_Model_figure_110 := am_wx rfl
theorem cx_Model_middle {d : Nat} {args : List Value} {h : am_H} {Q : am_Q} : am_cl (d + 1) 266 args h Q = (Nat.ble (am_sz args) 2 = true ∧ am_ex (am_cl d) (am_W kc_Model_middle (am_cl d) Q) Q kb_Model_middle_0 (am_ent args 2) [] h) := am_clx rfl rfl
theorem jx_Model_middle_18 {d : Nat} {Q : am_Q} : am_W kc_Model_middle (am_cl d) Q 18 = am_ex (am_cl d) (am_W kc_Model_middle (am_cl d) Q) Q kb_Model_middle_18 := am_wx rfl
theorem jx_Model_middle_22 {d : Nat} {Q : am_Q} : am_W kc_Model_middle (am_cl d) Q 22 = am_ex (am_cl d) (am_W kc_Model_middle (am_cl d) Q) Q kb_Model_middle_22 := am_wx rfl
theorem cx_Model_otherOf {d : Nat} {args : List Value} {h : am_H} {Q : am_Q} : am_cl (d + 1) 267 args h Q = (Nat.ble (am_sz args) 2 = true ∧ am_ex (am_cl d) (am_W kc_Model_otherOf (am_cl d) Q) Q kb_Model_otherOf_0 (am_ent args 2) [] h) := am_clx rfl rfl
theorem jx_Model_otherOf_15 {d : Nat} {Q : am_Q} : am_W kc_Model_otherOf (am_cl d) Q 15 = am_ex (am_cl d) (am_W kc_Model_otherOf (am_cl d) Q) Q kb_Model_otherOf_15 := am_wx rfl
theorem jx_Model_otherOf_19 {d : Nat} {Q : am_Q} : am_W kc_Model_otherOf (am_cl d) Q 19 = am_ex (am_cl d) (am_W kc_Model_otherOf (am_cl d) Q) Q kb_Model_otherOf_19 := am_wx rfl
theorem cx_Model_concludes {d : Nat} {args : List Value} {h : am_H} {Q : am_Q} : am_cl (d + 1) 268 args h Q = (Nat.ble (am_sz args) 5 = true ∧ am_ex (am_cl d) (am_W kc_Model_concludes (am_cl d) Q) Q kb_Model_concludes_0 (am_ent args 5) [] h) := am_clx rfl rfl
theorem jx_Model_concludes_43 {d : Nat} {Q : am_Q} : am_W kc_Model_concludes (am_cl d) Q 43 = am_ex (am_cl d) (am_W kc_Model_concludes (am_cl d) Q) Q kb_Model_concludes_43 := am_wx rfl
theorem jx_Model_concludes_79 {d : Nat} {Q : am_Q} : am_W kc_Model_concludes (am_cl d) Q 79 = am_ex (am_cl d) (am_W kc_Model_concludes (am_cl d) Q) Q kb_Model_concludes_79 := am_wx rfl
theorem jx_Model_concludes_85 {d : Nat} {Q : am_Q} : am_W kc_Model_concludes (am_cl d) Q 85 = am_ex (am_cl d) (am_W kc_Model_concludes (am_cl d) Q) Q kb_Model_concludes_85 := am_wx rfl
theorem cx_Model_pair {d : Nat} {args : List Value} {h : am_H} {Q : am_Q} : am_cl (d + 1) 269 args h Q = (Nat.ble (am_sz args) 7 = true ∧ am_ex (am_cl d) (am_W kc_Model_pair (am_cl d) Q) Q kb_Model_pair_0 (am_ent args 7) [] h) := am_clx rfl rfl
theorem jx_Model_pair_25 {d : Nat} {Q : am_Q} : am_W kc_Model_pair (am_cl d) Q 25 = am_ex (am_cl d) (am_W kc_Model_pair (am_cl d) Q) Q kb_Model_pair_25 := am_wx rfl
theorem jx_Model_pair_27 {d : Nat} {Q : am_Q} : am_W kc_Model_pair (am_cl d) Q 27 = am_ex (am_cl d) (am_W kc_Model_pair (am_cl d) Q) Q kb_Model_pair_27 := am_wx rfl
theorem jx_Model_pair_64 {d : Nat} {Q : am_Q} : am_W kc_Model_pair (am_cl d) Q 64 = am_ex (am_cl d) (am_W kc_Model_pair (am_cl d) Q) Q kb_Model_pair_64 := am_wx rfl
theorem jx_Model_pair_66 {d : Nat} {Q : am_Q} : am_W kc_Model_pair (am_cl d) Q 66 = am_ex (am_cl d) (am_W kc_Model_pair (am_cl d) Q) Q kb_Model_pair_66 := am_wx rfl
theorem jx_Model_pair_89 {d : Nat} {Q : am_Q} : am_W kc_Model_pair (am_cl d) Q 89 = am_ex (am_cl d) (am_W kc_Model_pair (am_cl d) Q) Q kb_Model_pair_89 := am_wx rfl
theorem jx_Model_pair_99 {d : Nat} {Q : am_Q} : am_W kc_Model_pair (am_cl d) Q 99 = am_ex (am_cl d) (am_W kc_Model_pair (am_cl d) Q) Q kb_Model_pair_99 := am_wx rfl
theorem jx_Model_pair_115 {d : Nat} {Q : am_Q} : am_W kc_Model_pair (am_cl d) Q 115 = am_ex (am_cl d) (am_W kc_Model_pair (am_cl d) Q) Q kb_Model_pair_115 := am_wx rfl
theorem jx_Model_pair_130 {d : Nat} {Q : am_Q} : am_W kc_Model_pair (am_cl d) Q 130 = am_ex (am_cl d) (am_W kc_Model_pair (am_cl d) Q) Q kb_Model_pair_130 := am_wx rfl
theorem jx_Model_pair_137 {d : Nat} {Q : am_Q} : am_W kc_Model_pair (am_cl d) Q 137 = am_ex (am_cl d) (am_W kc_Model_pair (am_cl d) Q) Q kb_Model_pair_137 := am_wx rfl
theorem cx_Model_isNegative {d : Nat} {args : List Value} {h : am_H} {Q : am_Q} : am_cl (d + 1) 270 args h Q = (Nat.ble (am_sz args) 1 = true ∧ am_ex (am_cl d) (am_W kc_Model_isNegative (am_cl d) Q) Q kb_Model_isNegative_0 (am_ent args 1) [] h) := am_clx rfl rfl
theorem jx_Model_isNegative_10 {d : Nat} {Q : am_Q} : am_W kc_Model_isNegative (am_cl d) Q 10 = am_ex (am_cl d) (am_W kc_Model_isNegative (am_cl d) Q) Q kb_Model_isNegative_10 := am_wx rfl
theorem jx_Model_isNegative_14 {d : Nat} {Q : am_Q} : am_W kc_Model_isNegative (am_cl d) Q 14 = am_ex (am_cl d) (am_W kc_Model_isNegative (am_cl d) Q) Q kb_Model_isNegative_14 := am_wx rfl
theorem jx_Model_isNegative_15 {d : Nat} {Q : am_Q} : am_W kc_Model_isNegative (am_cl d) Q 15 = am_ex (am_cl d) (am_W kc_Model_isNegative (am_cl d) Q) Q kb_Model_isNegative_15 := am_wx rfl
theorem cx_Model_isSpread {d : Nat} {args : List Value} {h : am_H} {Q : am_Q} : am_cl (d + 1) 271 args h Q = (Nat.ble (am_sz args) 2 = true ∧ am_ex (am_cl d) (am_W kc_Model_isSpread (am_cl d) Q) Q kb_Model_isSpread_0 (am_ent args 2) [] h) := am_clx rfl rfl
theorem jx_Model_isSpread_16 {d : Nat} {Q : am_Q} : am_W kc_Model_isSpread (am_cl d) Q 16 = am_ex (am_cl d) (am_W kc_Model_isSpread (am_cl d) Q) Q kb_Model_isSpread_16 := am_wx rfl
theorem jx_Model_isSpread_34 {d : Nat} {Q : am_Q} : am_W kc_Model_isSpread (am_cl d) Q 34 = am_ex (am_cl d) (am_W kc_Model_isSpread (am_cl d) Q) Q kb_Model_isSpread_34 := am_wx rfl
theorem jx_Model_isSpread_38 {d : Nat} {Q : am_Q} : am_W kc_Model_isSpread (am_cl d) Q 38 = am_ex (am_cl d) (am_W kc_Model_isSpread (am_cl d) Q) Q kb_Model_isSpread_38 := am_wx rfl
theorem jx_Model_isSpread_39 {d : Nat} {Q : am_Q} : am_W kc_Model_isSpread (am_cl d) Q 39 = am_ex (am_cl d) (am_W kc_Model_isSpread (am_cl d) Q) Q kb_Model_isSpread_39 := am_wx rfl
theorem cx_Model_wrong {d : Nat} {args : List Value} {h : am_H} {Q : am_Q} : am_cl (d + 1) 272 args h Q = (Nat.ble (am_sz args) 11 = true ∧ am_ex (am_cl d) (am_W kc_Model_wrong (am_cl d) Q) Q kb_Model_wrong_0 (am_ent args 11) [] h) := am_clx rfl rfl
theorem jx_Model_wrong_25 {d : Nat} {Q : am_Q} : am_W kc_Model_wrong (am_cl d) Q 25 = am_ex (am_cl d) (am_W kc_Model_wrong (am_cl d) Q) Q kb_Model_wrong_25 := am_wx rfl
theorem jx_Model_wrong_27 {d : Nat} {Q : am_Q} : am_W kc_Model_wrong (am_cl d) Q 27 = am_ex (am_cl d) (am_W kc_Model_wrong (am_cl d) Q) Q kb_Model_wrong_27 := am_wx rfl
theorem jx_Model_wrong_64 {d : Nat} {Q : am_Q} : am_W kc_Model_wrong (am_cl d) Q 64 = am_ex (am_cl d) (am_W kc_Model_wrong (am_cl d) Q) Q kb_Model_wrong_64 := am_wx rfl
theorem jx_Model_wrong_66 {d : Nat} {Q : am_Q} : am_W kc_Model_wrong (am_cl d) Q 66 = am_ex (am_cl d) (am_W kc_Model_wrong (am_cl d) Q) Q kb_Model_wrong_66 := am_wx rfl
theorem jx_Model_wrong_125 {d : Nat} {Q : am_Q} : am_W kc_Model_wrong (am_cl d) Q 125 = am_ex (am_cl d) (am_W kc_Model_wrong (am_cl d) Q) Q kb_Model_wrong_125 := am_wx rfl
theorem jx_Model_wrong_147 {d : Nat} {Q : am_Q} : am_W kc_Model_wrong (am_cl d) Q 147 = am_ex (am_cl d) (am_W kc_Model_wrong (am_cl d) Q) Q kb_Model_wrong_147 := am_wx rfl
theorem jx_Model_wrong_166 {d : Nat} {Q : am_Q} : am_W kc_Model_wrong (am_cl d) Q 166 = am_ex (am_cl d) (am_W kc_Model_wrong (am_cl d) Q) Q kb_Model_wrong_166 := am_wx rfl
theorem jx_Model_wrong_183 {d : Nat} {Q : am_Q} : am_W kc_Model_wrong (am_cl d) Q 183 = am_ex (am_cl d) (am_W kc_Model_wrong (am_cl d) Q) Q kb_Model_wrong_183 := am_wx rfl
theorem jx_Model_wrong_200 {d : Nat} {Q : am_Q} : am_W kc_Model_wrong (am_cl d) Q 200 = am_ex (am_cl d) (am_W kc_Model_wrong (am_cl d) Q) Q kb_Model_wrong_200 := am_wx rfl
theorem jx_Model_wrong_202 {d : Nat} {Q : am_Q} : am_W kc_Model_wrong (am_cl d) Q 202 = am_ex (am_cl d) (am_W kc_Model_wrong (am_cl d) Q) Q kb_Model_wrong_202 := am_wx rfl
theorem jx_Model_wrong_222 {d : Nat} {Q : am_Q} : am_W kc_Model_wrong (am_cl d) Q 222 = am_ex (am_cl d) (am_W kc_Model_wrong (am_cl d) Q) Q kb_Model_wrong_222 := am_wx rfl
theorem jx_Model_wrong_257 {d : Nat} {Q : am_Q} : am_W kc_Model_wrong (am_cl d) Q 257 = am_ex (am_cl d) (am_W kc_Model_wrong (am_cl d) Q) Q kb_Model_wrong_257 := am_wx rfl
theorem jx_Model_wrong_258 {d : Nat} {Q : am_Q} : am_W kc_Model_wrong (am_cl d) Q 258 = am_ex (am_cl d) (am_W kc_Model_wrong (am_cl d) Q) Q kb_Model_wrong_258 := am_wx rfl
theorem cx_Model_concluded {d : Nat} {args : List Value} {h : am_H} {Q : am_Q} : am_cl (d + 1) 273 args h Q = (Nat.ble (am_sz args) 6 = true ∧ am_ex (am_cl d) (am_W kc_Model_concluded (am_cl d) Q) Q kb_Model_concluded_0 (am_ent args 6) [] h) := am_clx rfl rfl
theorem jx_Model_concluded_13 {d : Nat} {Q : am_Q} : am_W kc_Model_concluded (am_cl d) Q 13 = am_ex (am_cl d) (am_W kc_Model_concluded (am_cl d) Q) Q kb_Model_concluded_13 := am_wx rfl
theorem jx_Model_concluded_55 {d : Nat} {Q : am_Q} : am_W kc_Model_concluded (am_cl d) Q 55 = am_ex (am_cl d) (am_W kc_Model_concluded (am_cl d) Q) Q kb_Model_concluded_55 := am_wx rfl
theorem jx_Model_concluded_77 {d : Nat} {Q : am_Q} : am_W kc_Model_concluded (am_cl d) Q 77 = am_ex (am_cl d) (am_W kc_Model_concluded (am_cl d) Q) Q kb_Model_concluded_77 := am_wx rfl
theorem cx_Model_derives {d : Nat} {args : List Value} {h : am_H} {Q : am_Q} : am_cl (d + 1) 274 args h Q = (Nat.ble (am_sz args) 6 = true ∧ am_ex (am_cl d) (am_W kc_Model_derives (am_cl d) Q) Q kb_Model_derives_0 (am_ent args 6) [] h) := am_clx rfl rfl
theorem jx_Model_derives_2 {d : Nat} {Q : am_Q} : am_W kc_Model_derives (am_cl d) Q 2 = am_ex (am_cl d) (am_W kc_Model_derives (am_cl d) Q) Q kb_Model_derives_2 := am_wx rfl
theorem jx_Model_derives_32 {d : Nat} {Q : am_Q} : am_W kc_Model_derives (am_cl d) Q 32 = am_ex (am_cl d) (am_W kc_Model_derives (am_cl d) Q) Q kb_Model_derives_32 := am_wx rfl
theorem jx_Model_derives_34 {d : Nat} {Q : am_Q} : am_W kc_Model_derives (am_cl d) Q 34 = am_ex (am_cl d) (am_W kc_Model_derives (am_cl d) Q) Q kb_Model_derives_34 := am_wx rfl
theorem jx_Model_derives_51 {d : Nat} {Q : am_Q} : am_W kc_Model_derives (am_cl d) Q 51 = am_ex (am_cl d) (am_W kc_Model_derives (am_cl d) Q) Q kb_Model_derives_51 := am_wx rfl
theorem jx_Model_derives_53 {d : Nat} {Q : am_Q} : am_W kc_Model_derives (am_cl d) Q 53 = am_ex (am_cl d) (am_W kc_Model_derives (am_cl d) Q) Q kb_Model_derives_53 := am_wx rfl
theorem jx_Model_derives_75 {d : Nat} {Q : am_Q} : am_W kc_Model_derives (am_cl d) Q 75 = am_ex (am_cl d) (am_W kc_Model_derives (am_cl d) Q) Q kb_Model_derives_75 := am_wx rfl
theorem jx_Model_derives_77 {d : Nat} {Q : am_Q} : am_W kc_Model_derives (am_cl d) Q 77 = am_ex (am_cl d) (am_W kc_Model_derives (am_cl d) Q) Q kb_Model_derives_77 := am_wx rfl
theorem jx_Model_derives_97 {d : Nat} {Q : am_Q} : am_W kc_Model_derives (am_cl d) Q 97 = am_ex (am_cl d) (am_W kc_Model_derives (am_cl d) Q) Q kb_Model_derives_97 := am_wx rfl
theorem jx_Model_derives_99 {d : Nat} {Q : am_Q} : am_W kc_Model_derives (am_cl d) Q 99 = am_ex (am_cl d) (am_W kc_Model_derives (am_cl d) Q) Q kb_Model_derives_99 := am_wx rfl
theorem jx_Model_derives_127 {d : Nat} {Q : am_Q} : am_W kc_Model_derives (am_cl d) Q 127 = am_ex (am_cl d) (am_W kc_Model_derives (am_cl d) Q) Q kb_Model_derives_127 := am_wx rfl
theorem jx_Model_derives_133 {d : Nat} {Q : am_Q} : am_W kc_Model_derives (am_cl d) Q 133 = am_ex (am_cl d) (am_W kc_Model_derives (am_cl d) Q) Q kb_Model_derives_133 := am_wx rfl
theorem jx_Model_derives_137 {d : Nat} {Q : am_Q} : am_W kc_Model_derives (am_cl d) Q 137 = am_ex (am_cl d) (am_W kc_Model_derives (am_cl d) Q) Q kb_Model_derives_137 := am_wx rfl
theorem jx_Model_derives_148 {d : Nat} {Q : am_Q} : am_W kc_Model_derives (am_cl d) Q 148 = am_ex (am_cl d) (am_W kc_Model_derives (am_cl d) Q) Q kb_Model_derives_148 := am_wx rfl
theorem jx_Model_derives_178 {d : Nat} {Q : am_Q} : am_W kc_Model_derives (am_cl d) Q 178 = am_ex (am_cl d) (am_W kc_Model_derives (am_cl d) Q) Q kb_Model_derives_178 := am_wx rfl
theorem jx_Model_derives_181 {d : Nat} {Q : am_Q} : am_W kc_Model_derives (am_cl d) Q 181 = am_ex (am_cl d) (am_W kc_Model_derives (am_cl d) Q) Q kb_Model_derives_181 := am_wx rfl
theorem jx_Model_derives_211 {d : Nat} {Q : am_Q} : am_W kc_Model_derives (am_cl d) Q 211 = am_ex (am_cl d) (am_W kc_Model_derives (am_cl d) Q) Q kb_Model_derives_211 := am_wx rfl
theorem jx_Model_derives_215 {d : Nat} {Q : am_Q} : am_W kc_Model_derives (am_cl d) Q 215 = am_ex (am_cl d) (am_W kc_Model_derives (am_cl d) Q) Q kb_Model_derives_215 := am_wx rfl
theorem jx_Model_derives_222 {d : Nat} {Q : am_Q} : am_W kc_Model_derives (am_cl d) Q 222 = am_ex (am_cl d) (am_W kc_Model_derives (am_cl d) Q) Q kb_Model_derives_222 := am_wx rfl
theorem jx_Model_derives_244 {d : Nat} {Q : am_Q} : am_W kc_Model_derives (am_cl d) Q 244 = am_ex (am_cl d) (am_W kc_Model_derives (am_cl d) Q) Q kb_Model_derives_244 := am_wx rfl
theorem jx_Model_derives_254 {d : Nat} {Q : am_Q} : am_W kc_Model_derives (am_cl d) Q 254 = am_ex (am_cl d) (am_W kc_Model_derives (am_cl d) Q) Q kb_Model_derives_254 := am_wx rfl
theorem jx_Model_derives_260 {d : Nat} {Q : am_Q} : am_W kc_Model_derives (am_cl d) Q 260 = am_ex (am_cl d) (am_W kc_Model_derives (am_cl d) Q) Q kb_Model_derives_260 := am_wx rfl
theorem jx_Model_derives_266 {d : Nat} {Q : am_Q} : am_W kc_Model_derives (am_cl d) Q 266 = am_ex (am_cl d) (am_W kc_Model_derives (am_cl d) Q) Q kb_Model_derives_266 := am_wx rfl
theorem jx_Model_derives_269 {d : Nat} {Q : am_Q} : am_W kc_Model_derives (am_cl d) Q 269 = am_ex (am_cl d) (am_W kc_Model_derives (am_cl d) Q) Q kb_Model_derives_269 := am_wx rfl
theorem cx_Model_isSimple {d : Nat} {args : List Value} {h : am_H} {Q : am_Q} : am_cl (d + 1) 275 args h Q = (Nat.ble (am_sz args) 3 = true ∧ am_ex (am_cl d) (am_W kc_Model_isSimple (am_cl d) Q) Q kb_Model_isSimple_0 (am_ent args 3) [] h) := am_clx rfl rfl
theorem jx_Model_isSimple_32 {d : Nat} {Q : am_Q} : am_W kc_Model_isSimple (am_cl d) Q 32 = am_ex (am_cl d) (am_W kc_Model_isSimple (am_cl d) Q) Q kb_Model_isSimple_32 := am_wx rfl
theorem jx_Model_isSimple_33 {d : Nat} {Q : am_Q} : am_W kc_Model_isSimple (am_cl d) Q 33 = am_ex (am_cl d) (am_W kc_Model_isSimple (am_cl d) Q) Q kb_Model_isSimple_33 := am_wx rfl
theorem cx_Model_derived {d : Nat} {args : List Value} {h : am_H} {Q : am_Q} : am_cl (d + 1) 276 args h Q = (Nat.ble (am_sz args) 4 = true ∧ am_ex (am_cl d) (am_W kc_Model_derived (am_cl d) Q) Q kb_Model_derived_0 (am_ent args 4) [] h) := am_clx rfl rfl
theorem jx_Model_derived_11 {d : Nat} {Q : am_Q} : am_W kc_Model_derived (am_cl d) Q 11 = am_ex (am_cl d) (am_W kc_Model_derived (am_cl d) Q) Q kb_Model_derived_11 := am_wx rfl
theorem cx_Model_by {d : Nat} {args : List Value} {h : am_H} {Q : am_Q} : am_cl (d + 1) 277 args h Q = (Nat.ble (am_sz args) 8 = true ∧ am_ex (am_cl d) (am_W kc_Model_by (am_cl d) Q) Q kb_Model_by_0 (am_ent args 8) [] h) := am_clx rfl rfl
theorem jx_Model_by_19 {d : Nat} {Q : am_Q} : am_W kc_Model_by (am_cl d) Q 19 = am_ex (am_cl d) (am_W kc_Model_by (am_cl d) Q) Q kb_Model_by_19 := am_wx rfl
theorem jx_Model_by_21 {d : Nat} {Q : am_Q} : am_W kc_Model_by (am_cl d) Q 21 = am_ex (am_cl d) (am_W kc_Model_by (am_cl d) Q) Q kb_Model_by_21 := am_wx rfl
theorem jx_Model_by_52 {d : Nat} {Q : am_Q} : am_W kc_Model_by (am_cl d) Q 52 = am_ex (am_cl d) (am_W kc_Model_by (am_cl d) Q) Q kb_Model_by_52 := am_wx rfl
theorem jx_Model_by_55 {d : Nat} {Q : am_Q} : am_W kc_Model_by (am_cl d) Q 55 = am_ex (am_cl d) (am_W kc_Model_by (am_cl d) Q) Q kb_Model_by_55 := am_wx rfl
theorem jx_Model_by_89 {d : Nat} {Q : am_Q} : am_W kc_Model_by (am_cl d) Q 89 = am_ex (am_cl d) (am_W kc_Model_by (am_cl d) Q) Q kb_Model_by_89 := am_wx rfl
theorem jx_Model_by_92 {d : Nat} {Q : am_Q} : am_W kc_Model_by (am_cl d) Q 92 = am_ex (am_cl d) (am_W kc_Model_by (am_cl d) Q) Q kb_Model_by_92 := am_wx rfl
theorem jx_Model_by_146 {d : Nat} {Q : am_Q} : am_W kc_Model_by (am_cl d) Q 146 = am_ex (am_cl d) (am_W kc_Model_by (am_cl d) Q) Q kb_Model_by_146 := am_wx rfl
theorem jx_Model_by_148 {d : Nat} {Q : am_Q} : am_W kc_Model_by (am_cl d) Q 148 = am_ex (am_cl d) (am_W kc_Model_by (am_cl d) Q) Q kb_Model_by_148 := am_wx rfl
theorem jx_Model_by_149 {d : Nat} {Q : am_Q} : am_W kc_Model_by (am_cl d) Q 149 = am_ex (am_cl d) (am_W kc_Model_by (am_cl d) Q) Q kb_Model_by_149 := am_wx rfl
theorem jx_Model_by_155 {d : Nat} {Q : am_Q} : am_W kc_Model_by (am_cl d) Q 155 = am_ex (am_cl d) (am_W kc_Model_by (am_cl d) Q) Q kb_Model_by_155 := am_wx rfl
theorem jx_Model_by_161 {d : Nat} {Q : am_Q} : am_W kc_Model_by (am_cl d) Q 161 = am_ex (am_cl d) (am_W kc_Model_by (am_cl d) Q) Q kb_Model_by_161 := am_wx rfl
theorem cx_Model_derive {d : Nat} {args : List Value} {h : am_H} {Q : am_Q} : am_cl (d + 1) 278 args h Q = (Nat.ble (am_sz args) 5 = true ∧ am_ex (am_cl d) (am_W kc_Model_derive (am_cl d) Q) Q kb_Model_derive_0 (am_ent args 5) [] h) := am_clx rfl rfl
theorem jx_Model_derive_11 {d : Nat} {Q : am_Q} : am_W kc_Model_derive (am_cl d) Q 11 = am_ex (am_cl d) (am_W kc_Model_derive (am_cl d) Q) Q kb_Model_derive_11 := am_wx rfl
theorem jx_Model_derive_21 {d : Nat} {Q : am_Q} : am_W kc_Model_derive (am_cl d) Q 21 = am_ex (am_cl d) (am_W kc_Model_derive (am_cl d) Q) Q kb_Model_derive_21 := am_wx rfl
theorem jx_Model_derive_45 {d : Nat} {Q : am_Q} : am_W kc_Model_derive (am_cl d) Q 45 = am_ex (am_cl d) (am_W kc_Model_derive (am_cl d) Q) Q kb_Model_derive_45 := am_wx rfl
theorem jx_Model_derive_46 {d : Nat} {Q : am_Q} : am_W kc_Model_derive (am_cl d) Q 46 = am_ex (am_cl d) (am_W kc_Model_derive (am_cl d) Q) Q kb_Model_derive_46 := am_wx rfl
theorem jx_Model_derive_54 {d : Nat} {Q : am_Q} : am_W kc_Model_derive (am_cl d) Q 54 = am_ex (am_cl d) (am_W kc_Model_derive (am_cl d) Q) Q kb_Model_derive_54 := am_wx rfl
theorem jx_Model_derive_62 {d : Nat} {Q : am_Q} : am_W kc_Model_derive (am_cl d) Q 62 = am_ex (am_cl d) (am_W kc_Model_derive (am_cl d) Q) Q kb_Model_derive_62 := am_wx rfl
theorem jx_Model_derive_63 {d : Nat} {Q : am_Q} : am_W kc_Model_derive (am_cl d) Q 63 = am_ex (am_cl d) (am_W kc_Model_derive (am_cl d) Q) Q kb_Model_derive_63 := am_wx rfl
theorem cx_Model_bounds {d : Nat} {args : List Value} {h : am_H} {Q : am_Q} : am_cl (d + 1) 279 args h Q = (Nat.ble (am_sz args) 3 = true ∧ am_ex (am_cl d) (am_W kc_Model_bounds (am_cl d) Q) Q kb_Model_bounds_0 (am_ent args 3) [] h) := am_clx rfl rfl
theorem jx_Model_bounds_6 {d : Nat} {Q : am_Q} : am_W kc_Model_bounds (am_cl d) Q 6 = am_ex (am_cl d) (am_W kc_Model_bounds (am_cl d) Q) Q kb_Model_bounds_6 := am_wx rfl
theorem jx_Model_bounds_61 {d : Nat} {Q : am_Q} : am_W kc_Model_bounds (am_cl d) Q 61 = am_ex (am_cl d) (am_W kc_Model_bounds (am_cl d) Q) Q kb_Model_bounds_61 := am_wx rfl
theorem jx_Model_bounds_62 {d : Nat} {Q : am_Q} : am_W kc_Model_bounds (am_cl d) Q 62 = am_ex (am_cl d) (am_W kc_Model_bounds (am_cl d) Q) Q kb_Model_bounds_62 := am_wx rfl
theorem jx_Model_bounds_71 {d : Nat} {Q : am_Q} : am_W kc_Model_bounds (am_cl d) Q 71 = am_ex (am_cl d) (am_W kc_Model_bounds (am_cl d) Q) Q kb_Model_bounds_71 := am_wx rfl
theorem cx_Model_binds {d : Nat} {args : List Value} {h : am_H} {Q : am_Q} : am_cl (d + 1) 280 args h Q = (Nat.ble (am_sz args) 4 = true ∧ am_ex (am_cl d) (am_W kc_Model_binds (am_cl d) Q) Q kb_Model_binds_0 (am_ent args 4) [] h) := am_clx rfl rfl
theorem jx_Model_binds_61 {d : Nat} {Q : am_Q} : am_W kc_Model_binds (am_cl d) Q 61 = am_ex (am_cl d) (am_W kc_Model_binds (am_cl d) Q) Q kb_Model_binds_61 := am_wx rfl
theorem jx_Model_binds_62 {d : Nat} {Q : am_Q} : am_W kc_Model_binds (am_cl d) Q 62 = am_ex (am_cl d) (am_W kc_Model_binds (am_cl d) Q) Q kb_Model_binds_62 := am_wx rfl
theorem jx_Model_binds_65 {d : Nat} {Q : am_Q} : am_W kc_Model_binds (am_cl d) Q 65 = am_ex (am_cl d) (am_W kc_Model_binds (am_cl d) Q) Q kb_Model_binds_65 := am_wx rfl
theorem jx_Model_binds_98 {d : Nat} {Q : am_Q} : am_W kc_Model_binds (am_cl d) Q 98 = am_ex (am_cl d) (am_W kc_Model_binds (am_cl d) Q) Q kb_Model_binds_98 := am_wx rfl
theorem cx_Model_posit {d : Nat} {args : List Value} {h : am_H} {Q : am_Q} : am_cl (d + 1) 281 args h Q = (Nat.ble (am_sz args) 1 = true ∧ am_ex (am_cl d) (am_W kc_Model_posit (am_cl d) Q) Q kb_Model_posit_0 (am_ent args 1) [] h) := am_clx rfl rfl
theorem jx_Model_posit_14 {d : Nat} {Q : am_Q} : am_W kc_Model_posit (am_cl d) Q 14 = am_ex (am_cl d) (am_W kc_Model_posit (am_cl d) Q) Q kb_Model_posit_14 := am_wx rfl
theorem jx_Model_posit_39 {d : Nat} {Q : am_Q} : am_W kc_Model_posit (am_cl d) Q 39 = am_ex (am_cl d) (am_W kc_Model_posit (am_cl d) Q) Q kb_Model_posit_39 := am_wx rfl
theorem cx_Model_propose {d : Nat} {args : List Value} {h : am_H} {Q : am_Q} : am_cl (d + 1) 282 args h Q = (Nat.ble (am_sz args) 3 = true ∧ am_ex (am_cl d) (am_W kc_Model_propose (am_cl d) Q) Q kb_Model_propose_0 (am_ent args 3) [] h) := am_clx rfl rfl
theorem jx_Model_propose_18 {d : Nat} {Q : am_Q} : am_W kc_Model_propose (am_cl d) Q 18 = am_ex (am_cl d) (am_W kc_Model_propose (am_cl d) Q) Q kb_Model_propose_18 := am_wx rfl
theorem jx_Model_propose_25 {d : Nat} {Q : am_Q} : am_W kc_Model_propose (am_cl d) Q 25 = am_ex (am_cl d) (am_W kc_Model_propose (am_cl d) Q) Q kb_Model_propose_25 := am_wx rfl
theorem jx_Model_propose_45 {d : Nat} {Q : am_Q} : am_W kc_Model_propose (am_cl d) Q 45 = am_ex (am_cl d) (am_W kc_Model_propose (am_cl d) Q) Q kb_Model_propose_45 := am_wx rfl
theorem jx_Model_propose_77 {d : Nat} {Q : am_Q} : am_W kc_Model_propose (am_cl d) Q 77 = am_ex (am_cl d) (am_W kc_Model_propose (am_cl d) Q) Q kb_Model_propose_77 := am_wx rfl
theorem jx_Model_propose_82 {d : Nat} {Q : am_Q} : am_W kc_Model_propose (am_cl d) Q 82 = am_ex (am_cl d) (am_W kc_Model_propose (am_cl d) Q) Q kb_Model_propose_82 := am_wx rfl
theorem jx_Model_propose_91 {d : Nat} {Q : am_Q} : am_W kc_Model_propose (am_cl d) Q 91 = am_ex (am_cl d) (am_W kc_Model_propose (am_cl d) Q) Q kb_Model_propose_91 := am_wx rfl
theorem jx_Model_propose_99 {d : Nat} {Q : am_Q} : am_W kc_Model_propose (am_cl d) Q 99 = am_ex (am_cl d) (am_W kc_Model_propose (am_cl d) Q) Q kb_Model_propose_99 := am_wx rfl
theorem jx_Model_propose_100 {d : Nat} {Q : am_Q} : am_W kc_Model_propose (am_cl d) Q 100 = am_ex (am_cl d) (am_W kc_Model_propose (am_cl d) Q) Q kb_Model_propose_100 := am_wx rfl
theorem cx_Model_bound {d : Nat} {args : List Value} {h : am_H} {Q : am_Q} : am_cl (d + 1) 283 args h Q = (Nat.ble (am_sz args) 2 = true ∧ am_ex (am_cl d) (am_W kc_Model_bound (am_cl d) Q) Q kb_Model_bound_0 (am_ent args 2) [] h) := am_clx rfl rfl
theorem jx_Model_bound_20 {d : Nat} {Q : am_Q} : am_W kc_Model_bound (am_cl d) Q 20 = am_ex (am_cl d) (am_W kc_Model_bound (am_cl d) Q) Q kb_Model_bound_20 := am_wx rfl
theorem jx_Model_bound_36 {d : Nat} {Q : am_Q} : am_W kc_Model_bound (am_cl d) Q 36 = am_ex (am_cl d) (am_W kc_Model_bound (am_cl d) Q) Q kb_Model_bound_36 := am_wx rfl
theorem jx_Model_bound_51 {d : Nat} {Q : am_Q} : am_W kc_Model_bound (am_cl d) Q 51 = am_ex (am_cl d) (am_W kc_Model_bound (am_cl d) Q) Q kb_Model_bound_51 := am_wx rfl
theorem cx_Model_draws {d : Nat} {args : List Value} {h : am_H} {Q : am_Q} : am_cl (d + 1) 284 args h Q = (Nat.ble (am_sz args) 2 = true ∧ am_ex (am_cl d) (am_W kc_Model_draws (am_cl d) Q) Q kb_Model_draws_0 (am_ent args 2) [] h) := am_clx rfl rfl
theorem cx_Model_riddles {d : Nat} {args : List Value} {h : am_H} {Q : am_Q} : am_cl (d + 1) 285 args h Q = (Nat.ble (am_sz args) 3 = true ∧ am_ex (am_cl d) (am_W kc_Model_riddles (am_cl d) Q) Q kb_Model_riddles_0 (am_ent args 3) [] h) := am_clx rfl rfl
theorem jx_Model_riddles_6 {d : Nat} {Q : am_Q} : am_W kc_Model_riddles (am_cl d) Q 6 = am_ex (am_cl d) (am_W kc_Model_riddles (am_cl d) Q) Q kb_Model_riddles_6 := am_wx rfl
theorem jx_Model_riddles_37 {d : Nat} {Q : am_Q} : am_W kc_Model_riddles (am_cl d) Q 37 = am_ex (am_cl d) (am_W kc_Model_riddles (am_cl d) Q) Q kb_Model_riddles_37 := am_wx rfl
theorem jx_Model_riddles_43 {d : Nat} {Q : am_Q} : am_W kc_Model_riddles (am_cl d) Q 43 = am_ex (am_cl d) (am_W kc_Model_riddles (am_cl d) Q) Q kb_Model_riddles_43 := am_wx rfl
theorem cx_Model_followsMood {d : Nat} {args : List Value} {h : am_H} {Q : am_Q} : am_cl (d + 1) 286 args h Q = (Nat.ble (am_sz args) 4 = true ∧ am_ex (am_cl d) (am_W kc_Model_followsMood (am_cl d) Q) Q kb_Model_followsMood_0 (am_ent args 4) [] h) := am_clx rfl rfl
theorem jx_Model_followsMood_7 {d : Nat} {Q : am_Q} : am_W kc_Model_followsMood (am_cl d) Q 7 = am_ex (am_cl d) (am_W kc_Model_followsMood (am_cl d) Q) Q kb_Model_followsMood_7 := am_wx rfl
theorem jx_Model_followsMood_28 {d : Nat} {Q : am_Q} : am_W kc_Model_followsMood (am_cl d) Q 28 = am_ex (am_cl d) (am_W kc_Model_followsMood (am_cl d) Q) Q kb_Model_followsMood_28 := am_wx rfl
theorem jx_Model_followsMood_48 {d : Nat} {Q : am_Q} : am_W kc_Model_followsMood (am_cl d) Q 48 = am_ex (am_cl d) (am_W kc_Model_followsMood (am_cl d) Q) Q kb_Model_followsMood_48 := am_wx rfl
theorem jx_Model_followsMood_49 {d : Nat} {Q : am_Q} : am_W kc_Model_followsMood (am_cl d) Q 49 = am_ex (am_cl d) (am_W kc_Model_followsMood (am_cl d) Q) Q kb_Model_followsMood_49 := am_wx rfl
theorem jx_Model_followsMood_51 {d : Nat} {Q : am_Q} : am_W kc_Model_followsMood (am_cl d) Q 51 = am_ex (am_cl d) (am_W kc_Model_followsMood (am_cl d) Q) Q kb_Model_followsMood_51 := am_wx rfl
theorem jx_Model_followsMood_57 {d : Nat} {Q : am_Q} : am_W kc_Model_followsMood (am_cl d) Q 57 = am_ex (am_cl d) (am_W kc_Model_followsMood (am_cl d) Q) Q kb_Model_followsMood_57 := am_wx rfl
theorem cx_Model_riddle {d : Nat} {args : List Value} {h : am_H} {Q : am_Q} : am_cl (d + 1) 287 args h Q = (Nat.ble (am_sz args) 8 = true ∧ am_ex (am_cl d) (am_W kc_Model_riddle (am_cl d) Q) Q kb_Model_riddle_0 (am_ent args 8) [] h) := am_clx rfl rfl
theorem jx_Model_riddle_20 {d : Nat} {Q : am_Q} : am_W kc_Model_riddle (am_cl d) Q 20 = am_ex (am_cl d) (am_W kc_Model_riddle (am_cl d) Q) Q kb_Model_riddle_20 := am_wx rfl
theorem jx_Model_riddle_26 {d : Nat} {Q : am_Q} : am_W kc_Model_riddle (am_cl d) Q 26 = am_ex (am_cl d) (am_W kc_Model_riddle (am_cl d) Q) Q kb_Model_riddle_26 := am_wx rfl
theorem jx_Model_riddle_38 {d : Nat} {Q : am_Q} : am_W kc_Model_riddle (am_cl d) Q 38 = am_ex (am_cl d) (am_W kc_Model_riddle (am_cl d) Q) Q kb_Model_riddle_38 := am_wx rfl
theorem jx_Model_riddle_91 {d : Nat} {Q : am_Q} : am_W kc_Model_riddle (am_cl d) Q 91 = am_ex (am_cl d) (am_W kc_Model_riddle (am_cl d) Q) Q kb_Model_riddle_91 := am_wx rfl
theorem jx_Model_riddle_93 {d : Nat} {Q : am_Q} : am_W kc_Model_riddle (am_cl d) Q 93 = am_ex (am_cl d) (am_W kc_Model_riddle (am_cl d) Q) Q kb_Model_riddle_93 := am_wx rfl
theorem jx_Model_riddle_112 {d : Nat} {Q : am_Q} : am_W kc_Model_riddle (am_cl d) Q 112 = am_ex (am_cl d) (am_W kc_Model_riddle (am_cl d) Q) Q kb_Model_riddle_112 := am_wx rfl
theorem jx_Model_riddle_133 {d : Nat} {Q : am_Q} : am_W kc_Model_riddle (am_cl d) Q 133 = am_ex (am_cl d) (am_W kc_Model_riddle (am_cl d) Q) Q kb_Model_riddle_133 := am_wx rfl
theorem jx_Model_riddle_139 {d : Nat} {Q : am_Q} : am_W kc_Model_riddle (am_cl d) Q 139 = am_ex (am_cl d) (am_W kc_Model_riddle (am_cl d) Q) Q kb_Model_riddle_139 := am_wx rfl
theorem cx_Model_drawn {d : Nat} {args : List Value} {h : am_H} {Q : am_Q} : am_cl (d + 1) 288 args h Q = (Nat.ble (am_sz args) 3 = true ∧ am_ex (am_cl d) (am_W kc_Model_drawn (am_cl d) Q) Q kb_Model_drawn_0 (am_ent args 3) [] h) := am_clx rfl rfl
theorem jx_Model_drawn_19 {d : Nat} {Q : am_Q} : am_W kc_Model_drawn (am_cl d) Q 19 = am_ex (am_cl d) (am_W kc_Model_drawn (am_cl d) Q) Q kb_Model_drawn_19 := am_wx rfl
theorem jx_Model_drawn_20 {d : Nat} {Q : am_Q} : am_W kc_Model_drawn (am_cl d) Q 20 = am_ex (am_cl d) (am_W kc_Model_drawn (am_cl d) Q) Q kb_Model_drawn_20 := am_wx rfl
theorem jx_Model_drawn_40 {d : Nat} {Q : am_Q} : am_W kc_Model_drawn (am_cl d) Q 40 = am_ex (am_cl d) (am_W kc_Model_drawn (am_cl d) Q) Q kb_Model_drawn_40 := am_wx rfl
theorem jx_Model_drawn_42 {d : Nat} {Q : am_Q} : am_W kc_Model_drawn (am_cl d) Q 42 = am_ex (am_cl d) (am_W kc_Model_drawn (am_cl d) Q) Q kb_Model_drawn_42 := am_wx rfl
theorem jx_Model_drawn_58 {d : Nat} {Q : am_Q} : am_W kc_Model_drawn (am_cl d) Q 58 = am_ex (am_cl d) (am_W kc_Model_drawn (am_cl d) Q) Q kb_Model_drawn_58 := am_wx rfl
theorem jx_Model_drawn_62 {d : Nat} {Q : am_Q} : am_W kc_Model_drawn (am_cl d) Q 62 = am_ex (am_cl d) (am_W kc_Model_drawn (am_cl d) Q) Q kb_Model_drawn_62 := am_wx rfl
theorem jx_Model_drawn_63 {d : Nat} {Q : am_Q} : am_W kc_Model_drawn (am_cl d) Q 63 = am_ex (am_cl d) (am_W kc_Model_drawn (am_cl d) Q) Q kb_Model_drawn_63 := am_wx rfl
theorem jx_Model_drawn_79 {d : Nat} {Q : am_Q} : am_W kc_Model_drawn (am_cl d) Q 79 = am_ex (am_cl d) (am_W kc_Model_drawn (am_cl d) Q) Q kb_Model_drawn_79 := am_wx rfl
theorem jx_Model_drawn_96 {d : Nat} {Q : am_Q} : am_W kc_Model_drawn (am_cl d) Q 96 = am_ex (am_cl d) (am_W kc_Model_drawn (am_cl d) Q) Q kb_Model_drawn_96 := am_wx rfl
theorem jx_Model_drawn_105 {d : Nat} {Q : am_Q} : am_W kc_Model_drawn (am_cl d) Q 105 = am_ex (am_cl d) (am_W kc_Model_drawn (am_cl d) Q) Q kb_Model_drawn_105 := am_wx rfl
theorem cx_Model_count {d : Nat} {args : List Value} {h : am_H} {Q : am_Q} : am_cl (d + 1) 289 args h Q = (Nat.ble (am_sz args) 2 = true ∧ am_ex (am_cl d) (am_W kc_Model_count (am_cl d) Q) Q kb_Model_count_0 (am_ent args 2) [] h) := am_clx rfl rfl
theorem jx_Model_count_56 {d : Nat} {Q : am_Q} : am_W kc_Model_count (am_cl d) Q 56 = am_ex (am_cl d) (am_W kc_Model_count (am_cl d) Q) Q kb_Model_count_56 := am_wx rfl
theorem jx_Model_count_61 {d : Nat} {Q : am_Q} : am_W kc_Model_count (am_cl d) Q 61 = am_ex (am_cl d) (am_W kc_Model_count (am_cl d) Q) Q kb_Model_count_61 := am_wx rfl
theorem jx_Model_count_70 {d : Nat} {Q : am_Q} : am_W kc_Model_count (am_cl d) Q 70 = am_ex (am_cl d) (am_W kc_Model_count (am_cl d) Q) Q kb_Model_count_70 := am_wx rfl
theorem jx_Model_count_79 {d : Nat} {Q : am_Q} : am_W kc_Model_count (am_cl d) Q 79 = am_ex (am_cl d) (am_W kc_Model_count (am_cl d) Q) Q kb_Model_count_79 := am_wx rfl
theorem jx_Model_count_88 {d : Nat} {Q : am_Q} : am_W kc_Model_count (am_cl d) Q 88 = am_ex (am_cl d) (am_W kc_Model_count (am_cl d) Q) Q kb_Model_count_88 := am_wx rfl
theorem jx_Model_count_93 {d : Nat} {Q : am_Q} : am_W kc_Model_count (am_cl d) Q 93 = am_ex (am_cl d) (am_W kc_Model_count (am_cl d) Q) Q kb_Model_count_93 := am_wx rfl
theorem jx_Model_count_102 {d : Nat} {Q : am_Q} : am_W kc_Model_count (am_cl d) Q 102 = am_ex (am_cl d) (am_W kc_Model_count (am_cl d) Q) Q kb_Model_count_102 := am_wx rfl
theorem jx_Model_count_109 {d : Nat} {Q : am_Q} : am_W kc_Model_count (am_cl d) Q 109 = am_ex (am_cl d) (am_W kc_Model_count (am_cl d) Q) Q kb_Model_count_109 := am_wx rfl
theorem jx_Model_count_117 {d : Nat} {Q : am_Q} : am_W kc_Model_count (am_cl d) Q 117 = am_ex (am_cl d) (am_W kc_Model_count (am_cl d) Q) Q kb_Model_count_117 := am_wx rfl
theorem cx_Model_status {d : Nat} {args : List Value} {h : am_H} {Q : am_Q} : am_cl (d + 1) 290 args h Q = (Nat.ble (am_sz args) 1 = true ∧ am_ex (am_cl d) (am_W kc_Model_status (am_cl d) Q) Q kb_Model_status_0 (am_ent args 1) [] h) := am_clx rfl rfl
theorem cx_MoodSlipsLaw_law {d : Nat} {args : List Value} {h : am_H} {Q : am_Q} : am_cl (d + 1) 291 args h Q = (Nat.ble (am_sz args) 4 = true ∧ am_ex (am_cl d) (am_W kc_MoodSlipsLaw_law (am_cl d) Q) Q kb_MoodSlipsLaw_law_0 (am_ent args 4) [] h) := am_clx rfl rfl
theorem jx_MoodSlipsLaw_law_18 {d : Nat} {Q : am_Q} : am_W kc_MoodSlipsLaw_law (am_cl d) Q 18 = am_ex (am_cl d) (am_W kc_MoodSlipsLaw_law (am_cl d) Q) Q kb_MoodSlipsLaw_law_18 := am_wx rfl
theorem jx_MoodSlipsLaw_law_208 {d : Nat} {Q : am_Q} : am_W kc_MoodSlipsLaw_law (am_cl d) Q 208 = am_ex (am_cl d) (am_W kc_MoodSlipsLaw_law (am_cl d) Q) Q kb_MoodSlipsLaw_law_208 := am_wx rfl
theorem jx_MoodSlipsLaw_law_271 {d : Nat} {Q : am_Q} : am_W kc_MoodSlipsLaw_law (am_cl d) Q 271 = am_ex (am_cl d) (am_W kc_MoodSlipsLaw_law (am_cl d) Q) Q kb_MoodSlipsLaw_law_271 := am_wx rfl
theorem jx_MoodSlipsLaw_law_294 {d : Nat} {Q : am_Q} : am_W kc_MoodSlipsLaw_law (am_cl d) Q 294 = am_ex (am_cl d) (am_W kc_MoodSlipsLaw_law (am_cl d) Q) Q kb_MoodSlipsLaw_law_294 := am_wx rfl
theorem jx_MoodSlipsLaw_law_307 {d : Nat} {Q : am_Q} : am_W kc_MoodSlipsLaw_law (am_cl d) Q 307 = am_ex (am_cl d) (am_W kc_MoodSlipsLaw_law (am_cl d) Q) Q kb_MoodSlipsLaw_law_307 := am_wx rfl
theorem jx_MoodSlipsLaw_law_320 {d : Nat} {Q : am_Q} : am_W kc_MoodSlipsLaw_law (am_cl d) Q 320 = am_ex (am_cl d) (am_W kc_MoodSlipsLaw_law (am_cl d) Q) Q kb_MoodSlipsLaw_law_320 := am_wx rfl
theorem jx_MoodSlipsLaw_law_333 {d : Nat} {Q : am_Q} : am_W kc_MoodSlipsLaw_law (am_cl d) Q 333 = am_ex (am_cl d) (am_W kc_MoodSlipsLaw_law (am_cl d) Q) Q kb_MoodSlipsLaw_law_333 := am_wx rfl
theorem jx_MoodSlipsLaw_law_356 {d : Nat} {Q : am_Q} : am_W kc_MoodSlipsLaw_law (am_cl d) Q 356 = am_ex (am_cl d) (am_W kc_MoodSlipsLaw_law (am_cl d) Q) Q kb_MoodSlipsLaw_law_356 := am_wx rfl
theorem jx_MoodSlipsLaw_law_379 {d : Nat} {Q : am_Q} : am_W kc_MoodSlipsLaw_law (am_cl d) Q 379 = am_ex (am_cl d) (am_W kc_MoodSlipsLaw_law (am_cl d) Q) Q kb_MoodSlipsLaw_law_379 := am_wx rfl
theorem jx_MoodSlipsLaw_law_402 {d : Nat} {Q : am_Q} : am_W kc_MoodSlipsLaw_law (am_cl d) Q 402 = am_ex (am_cl d) (am_W kc_MoodSlipsLaw_law (am_cl d) Q) Q kb_MoodSlipsLaw_law_402 := am_wx rfl
theorem jx_MoodSlipsLaw_law_435 {d : Nat} {Q : am_Q} : am_W kc_MoodSlipsLaw_law (am_cl d) Q 435 = am_ex (am_cl d) (am_W kc_MoodSlipsLaw_law (am_cl d) Q) Q kb_MoodSlipsLaw_law_435 := am_wx rfl
theorem jx_MoodSlipsLaw_law_468 {d : Nat} {Q : am_Q} : am_W kc_MoodSlipsLaw_law (am_cl d) Q 468 = am_ex (am_cl d) (am_W kc_MoodSlipsLaw_law (am_cl d) Q) Q kb_MoodSlipsLaw_law_468 := am_wx rfl
theorem jx_MoodSlipsLaw_law_501 {d : Nat} {Q : am_Q} : am_W kc_MoodSlipsLaw_law (am_cl d) Q 501 = am_ex (am_cl d) (am_W kc_MoodSlipsLaw_law (am_cl d) Q) Q kb_MoodSlipsLaw_law_501 := am_wx rfl
theorem jx_MoodSlipsLaw_law_524 {d : Nat} {Q : am_Q} : am_W kc_MoodSlipsLaw_law (am_cl d) Q 524 = am_ex (am_cl d) (am_W kc_MoodSlipsLaw_law (am_cl d) Q) Q kb_MoodSlipsLaw_law_524 := am_wx rfl
theorem jx_MoodSlipsLaw_law_547 {d : Nat} {Q : am_Q} : am_W kc_MoodSlipsLaw_law (am_cl d) Q 547 = am_ex (am_cl d) (am_W kc_MoodSlipsLaw_law (am_cl d) Q) Q kb_MoodSlipsLaw_law_547 := am_wx rfl
theorem jx_MoodSlipsLaw_law_570 {d : Nat} {Q : am_Q} : am_W kc_MoodSlipsLaw_law (am_cl d) Q 570 = am_ex (am_cl d) (am_W kc_MoodSlipsLaw_law (am_cl d) Q) Q kb_MoodSlipsLaw_law_570 := am_wx rfl
theorem jx_MoodSlipsLaw_law_593 {d : Nat} {Q : am_Q} : am_W kc_MoodSlipsLaw_law (am_cl d) Q 593 = am_ex (am_cl d) (am_W kc_MoodSlipsLaw_law (am_cl d) Q) Q kb_MoodSlipsLaw_law_593 := am_wx rfl
theorem jx_MoodSlipsLaw_law_616 {d : Nat} {Q : am_Q} : am_W kc_MoodSlipsLaw_law (am_cl d) Q 616 = am_ex (am_cl d) (am_W kc_MoodSlipsLaw_law (am_cl d) Q) Q kb_MoodSlipsLaw_law_616 := am_wx rfl
theorem jx_MoodSlipsLaw_law_639 {d : Nat} {Q : am_Q} : am_W kc_MoodSlipsLaw_law (am_cl d) Q 639 = am_ex (am_cl d) (am_W kc_MoodSlipsLaw_law (am_cl d) Q) Q kb_MoodSlipsLaw_law_639 := am_wx rfl
theorem jx_MoodSlipsLaw_law_662 {d : Nat} {Q : am_Q} : am_W kc_MoodSlipsLaw_law (am_cl d) Q 662 = am_ex (am_cl d) (am_W kc_MoodSlipsLaw_law (am_cl d) Q) Q kb_MoodSlipsLaw_law_662 := am_wx rfl
theorem jx_MoodSlipsLaw_law_685 {d : Nat} {Q : am_Q} : am_W kc_MoodSlipsLaw_law (am_cl d) Q 685 = am_ex (am_cl d) (am_W kc_MoodSlipsLaw_law (am_cl d) Q) Q kb_MoodSlipsLaw_law_685 := am_wx rfl
theorem jx_MoodSlipsLaw_law_708 {d : Nat} {Q : am_Q} : am_W kc_MoodSlipsLaw_law (am_cl d) Q 708 = am_ex (am_cl d) (am_W kc_MoodSlipsLaw_law (am_cl d) Q) Q kb_MoodSlipsLaw_law_708 := am_wx rfl
theorem jx_MoodSlipsLaw_law_751 {d : Nat} {Q : am_Q} : am_W kc_MoodSlipsLaw_law (am_cl d) Q 751 = am_ex (am_cl d) (am_W kc_MoodSlipsLaw_law (am_cl d) Q) Q kb_MoodSlipsLaw_law_751 := am_wx rfl
theorem jx_MoodSlipsLaw_law_784 {d : Nat} {Q : am_Q} : am_W kc_MoodSlipsLaw_law (am_cl d) Q 784 = am_ex (am_cl d) (am_W kc_MoodSlipsLaw_law (am_cl d) Q) Q kb_MoodSlipsLaw_law_784 := am_wx rfl
theorem jx_MoodSlipsLaw_law_837 {d : Nat} {Q : am_Q} : am_W kc_MoodSlipsLaw_law (am_cl d) Q 837 = am_ex (am_cl d) (am_W kc_MoodSlipsLaw_law (am_cl d) Q) Q kb_MoodSlipsLaw_law_837 := am_wx rfl
theorem jx_MoodSlipsLaw_law_870 {d : Nat} {Q : am_Q} : am_W kc_MoodSlipsLaw_law (am_cl d) Q 870 = am_ex (am_cl d) (am_W kc_MoodSlipsLaw_law (am_cl d) Q) Q kb_MoodSlipsLaw_law_870 := am_wx rfl
theorem jx_MoodSlipsLaw_law_903 {d : Nat} {Q : am_Q} : am_W kc_MoodSlipsLaw_law (am_cl d) Q 903 = am_ex (am_cl d) (am_W kc_MoodSlipsLaw_law (am_cl d) Q) Q kb_MoodSlipsLaw_law_903 := am_wx rfl
theorem jx_MoodSlipsLaw_law_946 {d : Nat} {Q : am_Q} : am_W kc_MoodSlipsLaw_law (am_cl d) Q 946 = am_ex (am_cl d) (am_W kc_MoodSlipsLaw_law (am_cl d) Q) Q kb_MoodSlipsLaw_law_946 := am_wx rfl
theorem jx_MoodSlipsLaw_law_989 {d : Nat} {Q : am_Q} : am_W kc_MoodSlipsLaw_law (am_cl d) Q 989 = am_ex (am_cl d) (am_W kc_MoodSlipsLaw_law (am_cl d) Q) Q kb_MoodSlipsLaw_law_989 := am_wx rfl
theorem jx_MoodSlipsLaw_law_1032 {d : Nat} {Q : am_Q} : am_W kc_MoodSlipsLaw_law (am_cl d) Q 1032 = am_ex (am_cl d) (am_W kc_MoodSlipsLaw_law (am_cl d) Q) Q kb_MoodSlipsLaw_law_1032 := am_wx rfl
theorem jx_MoodSlipsLaw_law_1075 {d : Nat} {Q : am_Q} : am_W kc_MoodSlipsLaw_law (am_cl d) Q 1075 = am_ex (am_cl d) (am_W kc_MoodSlipsLaw_law (am_cl d) Q) Q kb_MoodSlipsLaw_law_1075 := am_wx rfl
theorem jx_MoodSlipsLaw_law_1128 {d : Nat} {Q : am_Q} : am_W kc_MoodSlipsLaw_law (am_cl d) Q 1128 = am_ex (am_cl d) (am_W kc_MoodSlipsLaw_law (am_cl d) Q) Q kb_MoodSlipsLaw_law_1128 := am_wx rfl
theorem jx_MoodSlipsLaw_law_1151 {d : Nat} {Q : am_Q} : am_W kc_MoodSlipsLaw_law (am_cl d) Q 1151 = am_ex (am_cl d) (am_W kc_MoodSlipsLaw_law (am_cl d) Q) Q kb_MoodSlipsLaw_law_1151 := am_wx rfl
theorem jx_MoodSlipsLaw_law_1164 {d : Nat} {Q : am_Q} : am_W kc_MoodSlipsLaw_law (am_cl d) Q 1164 = am_ex (am_cl d) (am_W kc_MoodSlipsLaw_law (am_cl d) Q) Q kb_MoodSlipsLaw_law_1164 := am_wx rfl
theorem jx_MoodSlipsLaw_law_1177 {d : Nat} {Q : am_Q} : am_W kc_MoodSlipsLaw_law (am_cl d) Q 1177 = am_ex (am_cl d) (am_W kc_MoodSlipsLaw_law (am_cl d) Q) Q kb_MoodSlipsLaw_law_1177 := am_wx rfl
theorem jx_MoodSlipsLaw_law_1200 {d : Nat} {Q : am_Q} : am_W kc_MoodSlipsLaw_law (am_cl d) Q 1200 = am_ex (am_cl d) (am_W kc_MoodSlipsLaw_law (am_cl d) Q) Q kb_MoodSlipsLaw_law_1200 := am_wx rfl
theorem jx_MoodSlipsLaw_law_1233 {d : Nat} {Q : am_Q} : am_W kc_MoodSlipsLaw_law (am_cl d) Q 1233 = am_ex (am_cl d) (am_W kc_MoodSlipsLaw_law (am_cl d) Q) Q kb_MoodSlipsLaw_law_1233 := am_wx rfl
theorem jx_MoodSlipsLaw_law_1266 {d : Nat} {Q : am_Q} : am_W kc_MoodSlipsLaw_law (am_cl d) Q 1266 = am_ex (am_cl d) (am_W kc_MoodSlipsLaw_law (am_cl d) Q) Q kb_MoodSlipsLaw_law_1266 := am_wx rfl
theorem jx_MoodSlipsLaw_law_1289 {d : Nat} {Q : am_Q} : am_W kc_MoodSlipsLaw_law (am_cl d) Q 1289 = am_ex (am_cl d) (am_W kc_MoodSlipsLaw_law (am_cl d) Q) Q kb_MoodSlipsLaw_law_1289 := am_wx rfl
theorem jx_MoodSlipsLaw_law_1312 {d : Nat} {Q : am_Q} : am_W kc_MoodSlipsLaw_law (am_cl d) Q 1312 = am_ex (am_cl d) (am_W kc_MoodSlipsLaw_law (am_cl d) Q) Q kb_MoodSlipsLaw_law_1312 := am_wx rfl
theorem jx_MoodSlipsLaw_law_1335 {d : Nat} {Q : am_Q} : am_W kc_MoodSlipsLaw_law (am_cl d) Q 1335 = am_ex (am_cl d) (am_W kc_MoodSlipsLaw_law (am_cl d) Q) Q kb_MoodSlipsLaw_law_1335 := am_wx rfl
theorem jx_MoodSlipsLaw_law_1348 {d : Nat} {Q : am_Q} : am_W kc_MoodSlipsLaw_law (am_cl d) Q 1348 = am_ex (am_cl d) (am_W kc_MoodSlipsLaw_law (am_cl d) Q) Q kb_MoodSlipsLaw_law_1348 := am_wx rfl
theorem jx_MoodSlipsLaw_law_1354 {d : Nat} {Q : am_Q} : am_W kc_MoodSlipsLaw_law (am_cl d) Q 1354 = am_ex (am_cl d) (am_W kc_MoodSlipsLaw_law (am_cl d) Q) Q kb_MoodSlipsLaw_law_1354 := am_wx rfl
