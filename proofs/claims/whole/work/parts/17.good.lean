/-! ===== every method by its number (printed by wip/tools/gen5.py) ===== -/
def am_Good (j : Nat) : Prop := Cond.code (am_m j).2.1 (am_m j).2.2.1 (am_m j).2.2.2.1 (am_m j).2.2.2.2.1 ∈ tables_1 ∧ ∃ kt : List (Nat × List am_I), am_pr j = ((am_m j).2.2.2.1, am_tab kt) ∧ am_chkm j kt = true
set_option maxRecDepth 20000 in
theorem gd_0 : am_Good 0 := ⟨cw_Integer_numberOfTrailingZeros, kt_Integer_numberOfTrailingZeros, rfl, ck_Integer_numberOfTrailingZeros⟩
set_option maxRecDepth 20000 in
theorem gd_1 : am_Good 1 := ⟨cw_Integer_bitCount, kt_Integer_bitCount, rfl, ck_Integer_bitCount⟩
set_option maxRecDepth 20000 in
theorem gd_2 : am_Good 2 := ⟨cw_Long_numberOfTrailingZeros, kt_Long_numberOfTrailingZeros, rfl, ck_Long_numberOfTrailingZeros⟩
set_option maxRecDepth 20000 in
theorem gd_3 : am_Good 3 := ⟨cw_Long_bitCount, kt_Long_bitCount, rfl, ck_Long_bitCount⟩
set_option maxRecDepth 20000 in
theorem gd_4 : am_Good 4 := ⟨cw_Arrays_fill_J, kt_Arrays_fill_J, rfl, ck_Arrays_fill_J⟩
set_option maxRecDepth 20000 in
theorem gd_5 : am_Good 5 := ⟨cw_Arrays_fill_I, kt_Arrays_fill_I, rfl, ck_Arrays_fill_I⟩
set_option maxRecDepth 20000 in
theorem gd_6 : am_Good 6 := ⟨cw_Arrays_fill_B, kt_Arrays_fill_B, rfl, ck_Arrays_fill_B⟩
set_option maxRecDepth 20000 in
theorem gd_7 : am_Good 7 := ⟨cw_Arrays_copyOf, kt_Arrays_copyOf, rfl, ck_Arrays_copyOf⟩
set_option maxRecDepth 20000 in
theorem gd_8 : am_Good 8 := ⟨cw_Slips_init, kt_Slips_init, rfl, ck_Slips_init⟩
set_option maxRecDepth 20000 in
theorem gd_9 : am_Good 9 := ⟨cw_Slips_feed, kt_Slips_feed, rfl, ck_Slips_feed⟩
set_option maxRecDepth 20000 in
theorem gd_10 : am_Good 10 := ⟨cw_Slips_end, kt_Slips_end, rfl, ck_Slips_end⟩
set_option maxRecDepth 20000 in
theorem gd_11 : am_Good 11 := ⟨cw_Slips_slip, kt_Slips_slip, rfl, ck_Slips_slip⟩
set_option maxRecDepth 20000 in
theorem gd_12 : am_Good 12 := ⟨cw_Slips_question, kt_Slips_question, rfl, ck_Slips_question⟩
set_option maxRecDepth 20000 in
theorem gd_13 : am_Good 13 := ⟨cw_Slips_fault, kt_Slips_fault, rfl, ck_Slips_fault⟩
set_option maxRecDepth 20000 in
theorem gd_14 : am_Good 14 := ⟨cw_Slips_ask, kt_Slips_ask, rfl, ck_Slips_ask⟩
set_option maxRecDepth 20000 in
theorem gd_15 : am_Good 15 := ⟨cw_Slips_write, kt_Slips_write, rfl, ck_Slips_write⟩
set_option maxRecDepth 20000 in
theorem gd_16 : am_Good 16 := ⟨cw_Slips_take, kt_Slips_take, rfl, ck_Slips_take⟩
set_option maxRecDepth 20000 in
theorem gd_17 : am_Good 17 := ⟨cw_Slips_existence, kt_Slips_existence, rfl, ck_Slips_existence⟩
set_option maxRecDepth 20000 in
theorem gd_18 : am_Good 18 := ⟨cw_Slips_of, kt_Slips_of, rfl, ck_Slips_of⟩
set_option maxRecDepth 20000 in
theorem gd_19 : am_Good 19 := ⟨cw_Slips_has, kt_Slips_has, rfl, ck_Slips_has⟩
set_option maxRecDepth 20000 in
theorem gd_20 : am_Good 20 := ⟨cw_Slips_letter, kt_Slips_letter, rfl, ck_Slips_letter⟩
set_option maxRecDepth 20000 in
theorem gd_21 : am_Good 21 := ⟨cw_Slips_quarrels, kt_Slips_quarrels, rfl, ck_Slips_quarrels⟩
set_option maxRecDepth 20000 in
theorem gd_22 : am_Good 22 := ⟨cw_Slips_follows, kt_Slips_follows, rfl, ck_Slips_follows⟩
set_option maxRecDepth 20000 in
theorem gd_23 : am_Good 23 := ⟨cw_Slips_denied, kt_Slips_denied, rfl, ck_Slips_denied⟩
set_option maxRecDepth 20000 in
theorem gd_24 : am_Good 24 := ⟨cw_Slips_open, kt_Slips_open, rfl, ck_Slips_open⟩
set_option maxRecDepth 20000 in
theorem gd_25 : am_Good 25 := ⟨cw_Slips_idle, kt_Slips_idle, rfl, ck_Slips_idle⟩
set_option maxRecDepth 20000 in
theorem gd_26 : am_Good 26 := ⟨cw_Slips_assume, kt_Slips_assume, rfl, ck_Slips_assume⟩
set_option maxRecDepth 20000 in
theorem gd_27 : am_Good 27 := ⟨cw_Slips_least, kt_Slips_least, rfl, ck_Slips_least⟩
set_option maxRecDepth 20000 in
theorem gd_28 : am_Good 28 := ⟨cw_Slips_findSufficing, kt_Slips_findSufficing, rfl, ck_Slips_findSufficing⟩
set_option maxRecDepth 20000 in
theorem gd_29 : am_Good 29 := ⟨cw_Slips_suffices, kt_Slips_suffices, rfl, ck_Slips_suffices⟩
set_option maxRecDepth 20000 in
theorem gd_30 : am_Good 30 := ⟨cw_Slips_quarrel, kt_Slips_quarrel, rfl, ck_Slips_quarrel⟩
set_option maxRecDepth 20000 in
theorem gd_31 : am_Good 31 := ⟨cw_Slips_calm, kt_Slips_calm, rfl, ck_Slips_calm⟩
set_option maxRecDepth 20000 in
theorem gd_32 : am_Good 32 := ⟨cw_Slips_findQuarrels, kt_Slips_findQuarrels, rfl, ck_Slips_findQuarrels⟩
set_option maxRecDepth 20000 in
theorem gd_33 : am_Good 33 := ⟨cw_Slips_forgetFindings, kt_Slips_forgetFindings, rfl, ck_Slips_forgetFindings⟩
set_option maxRecDepth 20000 in
theorem gd_34 : am_Good 34 := ⟨cw_Slips_hint, kt_Slips_hint, rfl, ck_Slips_hint⟩
set_option maxRecDepth 20000 in
theorem gd_35 : am_Good 35 := ⟨cw_Slips_between, kt_Slips_between, rfl, ck_Slips_between⟩
set_option maxRecDepth 20000 in
theorem gd_36 : am_Good 36 := ⟨cw_Slips_square, kt_Slips_square, rfl, ck_Slips_square⟩
set_option maxRecDepth 20000 in
theorem gd_37 : am_Good 37 := ⟨cw_Slips_canBothFail, kt_Slips_canBothFail, rfl, ck_Slips_canBothFail⟩
set_option maxRecDepth 20000 in
theorem gd_38 : am_Good 38 := ⟨cw_Slips_says, kt_Slips_says, rfl, ck_Slips_says⟩
set_option maxRecDepth 20000 in
theorem gd_39 : am_Good 39 := ⟨cw_Slips_all, kt_Slips_all, rfl, ck_Slips_all⟩
set_option maxRecDepth 20000 in
theorem gd_40 : am_Good 40 := ⟨cw_Slips_countFollowing, kt_Slips_countFollowing, rfl, ck_Slips_countFollowing⟩
set_option maxRecDepth 20000 in
theorem gd_41 : am_Good 41 := ⟨cw_Slips_simpleFollows, kt_Slips_simpleFollows, rfl, ck_Slips_simpleFollows⟩
set_option maxRecDepth 20000 in
theorem gd_42 : am_Good 42 := ⟨cw_Slips_world, kt_Slips_world, rfl, ck_Slips_world⟩
set_option maxRecDepth 20000 in
theorem gd_43 : am_Good 43 := ⟨cw_Slips_name, kt_Slips_name, rfl, ck_Slips_name⟩
set_option maxRecDepth 20000 in
theorem gd_44 : am_Good 44 := ⟨cw_Slips_pair, kt_Slips_pair, rfl, ck_Slips_pair⟩
set_option maxRecDepth 20000 in
theorem gd_45 : am_Good 45 := ⟨cw_Slips_wrong, kt_Slips_wrong, rfl, ck_Slips_wrong⟩
set_option maxRecDepth 20000 in
theorem gd_46 : am_Good 46 := ⟨cw_Slips_pairSlips, kt_Slips_pairSlips, rfl, ck_Slips_pairSlips⟩
set_option maxRecDepth 20000 in
theorem gd_47 : am_Good 47 := ⟨cw_Slips_derived, kt_Slips_derived, rfl, ck_Slips_derived⟩
set_option maxRecDepth 20000 in
theorem gd_48 : am_Good 48 := ⟨cw_Slips_by, kt_Slips_by, rfl, ck_Slips_by⟩
def am_js0 : List Nat := [0, 1, 2, 3, 4, 5, 6, 7, 8, 9, 10, 11, 12, 13, 14, 15, 16, 17, 18, 19, 20, 21, 22, 23, 24, 25, 26, 27, 28, 29, 30, 31, 32, 33, 34, 35, 36, 37, 38, 39, 40, 41, 42, 43, 44, 45, 46, 47, 48]
theorem am_gd0 : ∀ j ∈ am_js0, am_Good j := List.forall_mem_cons.mpr ⟨gd_0, List.forall_mem_cons.mpr ⟨gd_1, List.forall_mem_cons.mpr ⟨gd_2, List.forall_mem_cons.mpr ⟨gd_3, List.forall_mem_cons.mpr ⟨gd_4, List.forall_mem_cons.mpr ⟨gd_5, List.forall_mem_cons.mpr ⟨gd_6, List.forall_mem_cons.mpr ⟨gd_7, List.forall_mem_cons.mpr ⟨gd_8, List.forall_mem_cons.mpr ⟨gd_9, List.forall_mem_cons.mpr ⟨gd_10, List.forall_mem_cons.mpr ⟨gd_11, List.forall_mem_cons.mpr ⟨gd_12, List.forall_mem_cons.mpr ⟨gd_13, List.forall_mem_cons.mpr ⟨gd_14, List.forall_mem_cons.mpr ⟨gd_15, List.forall_mem_cons.mpr ⟨gd_16, List.forall_mem_cons.mpr ⟨gd_17, List.forall_mem_cons.mpr ⟨gd_18, List.forall_mem_cons.mpr ⟨gd_19, List.forall_mem_cons.mpr ⟨gd_20, List.forall_mem_cons.mpr ⟨gd_21, List.forall_mem_cons.mpr ⟨gd_22, List.forall_mem_cons.mpr ⟨gd_23, List.forall_mem_cons.mpr ⟨gd_24, List.forall_mem_cons.mpr ⟨gd_25, List.forall_mem_cons.mpr ⟨gd_26, List.forall_mem_cons.mpr ⟨gd_27, List.forall_mem_cons.mpr ⟨gd_28, List.forall_mem_cons.mpr ⟨gd_29, List.forall_mem_cons.mpr ⟨gd_30, List.forall_mem_cons.mpr ⟨gd_31, List.forall_mem_cons.mpr ⟨gd_32, List.forall_mem_cons.mpr ⟨gd_33, List.forall_mem_cons.mpr ⟨gd_34, List.forall_mem_cons.mpr ⟨gd_35, List.forall_mem_cons.mpr ⟨gd_36, List.forall_mem_cons.mpr ⟨gd_37, List.forall_mem_cons.mpr ⟨gd_38, List.forall_mem_cons.mpr ⟨gd_39, List.forall_mem_cons.mpr ⟨gd_40, List.forall_mem_cons.mpr ⟨gd_41, List.forall_mem_cons.mpr ⟨gd_42, List.forall_mem_cons.mpr ⟨gd_43, List.forall_mem_cons.mpr ⟨gd_44, List.forall_mem_cons.mpr ⟨gd_45, List.forall_mem_cons.mpr ⟨gd_46, List.forall_mem_cons.mpr ⟨gd_47, List.forall_mem_cons.mpr ⟨gd_48, fun _ h => absurd h List.not_mem_nil⟩⟩⟩⟩⟩⟩⟩⟩⟩⟩⟩⟩⟩⟩⟩⟩⟩⟩⟩⟩⟩⟩⟩⟩⟩⟩⟩⟩⟩⟩⟩⟩⟩⟩⟩⟩⟩⟩⟩⟩⟩⟩⟩⟩⟩⟩⟩⟩⟩
set_option maxRecDepth 20000 in
theorem gd_49 : am_Good 49 := ⟨cw_Slips_derive, kt_Slips_derive, rfl, ck_Slips_derive⟩
set_option maxRecDepth 20000 in
theorem gd_50 : am_Good 50 := ⟨cw_Slips_findDerived, kt_Slips_findDerived, rfl, ck_Slips_findDerived⟩
set_option maxRecDepth 20000 in
theorem gd_51 : am_Good 51 := ⟨cw_Slips_posit, kt_Slips_posit, rfl, ck_Slips_posit⟩
set_option maxRecDepth 20000 in
theorem gd_52 : am_Good 52 := ⟨cw_Slips_propose, kt_Slips_propose, rfl, ck_Slips_propose⟩
set_option maxRecDepth 20000 in
theorem gd_53 : am_Good 53 := ⟨cw_Slips_bound, kt_Slips_bound, rfl, ck_Slips_bound⟩
set_option maxRecDepth 20000 in
theorem gd_54 : am_Good 54 := ⟨cw_Slips_assumeBound, kt_Slips_assumeBound, rfl, ck_Slips_assumeBound⟩
set_option maxRecDepth 20000 in
theorem gd_55 : am_Good 55 := ⟨cw_Slips_riddle, kt_Slips_riddle, rfl, ck_Slips_riddle⟩
set_option maxRecDepth 20000 in
theorem gd_56 : am_Good 56 := ⟨cw_Slips_nextState, kt_Slips_nextState, rfl, ck_Slips_nextState⟩
set_option maxRecDepth 20000 in
theorem gd_57 : am_Good 57 := ⟨cw_Slips_drawn, kt_Slips_drawn, rfl, ck_Slips_drawn⟩
set_option maxRecDepth 20000 in
theorem gd_58 : am_Good 58 := ⟨cw_Slips_countInRiddle, kt_Slips_countInRiddle, rfl, ck_Slips_countInRiddle⟩
set_option maxRecDepth 20000 in
theorem gd_59 : am_Good 59 := ⟨cw_Slips_image, kt_Slips_image, rfl, ck_Slips_image⟩
set_option maxRecDepth 20000 in
theorem gd_60 : am_Good 60 := ⟨cw_Slips_back, kt_Slips_back, rfl, ck_Slips_back⟩
set_option maxRecDepth 20000 in
theorem gd_61 : am_Good 61 := ⟨cw_Slips_count, kt_Slips_count, rfl, ck_Slips_count⟩
set_option maxRecDepth 20000 in
theorem gd_62 : am_Good 62 := ⟨cw_Slips_status, kt_Slips_status, rfl, ck_Slips_status⟩
set_option maxRecDepth 20000 in
theorem gd_63 : am_Good 63 := ⟨cw_Slips_grant, kt_Slips_grant, rfl, ck_Slips_grant⟩
set_option maxRecDepth 20000 in
theorem gd_64 : am_Good 64 := ⟨cw_Slips_refuse, kt_Slips_refuse, rfl, ck_Slips_refuse⟩
set_option maxRecDepth 20000 in
theorem gd_65 : am_Good 65 := ⟨cw_Slips_isMood, kt_Slips_isMood, rfl, ck_Slips_isMood⟩
set_option maxRecDepth 20000 in
theorem gd_66 : am_Good 66 := ⟨cw_Slips_areTwoKinds, kt_Slips_areTwoKinds, rfl, ck_Slips_areTwoKinds⟩
set_option maxRecDepth 20000 in
theorem gd_67 : am_Good 67 := ⟨cw_Slips_numberOf, kt_Slips_numberOf, rfl, ck_Slips_numberOf⟩
set_option maxRecDepth 20000 in
theorem gd_68 : am_Good 68 := ⟨cw_Slips_moodOf, kt_Slips_moodOf, rfl, ck_Slips_moodOf⟩
set_option maxRecDepth 20000 in
theorem gd_69 : am_Good 69 := ⟨cw_Slips_subjectOf, kt_Slips_subjectOf, rfl, ck_Slips_subjectOf⟩
set_option maxRecDepth 20000 in
theorem gd_70 : am_Good 70 := ⟨cw_Slips_predicateOf, kt_Slips_predicateOf, rfl, ck_Slips_predicateOf⟩
set_option maxRecDepth 20000 in
theorem gd_71 : am_Good 71 := ⟨cw_Slips_isSimple, kt_Slips_isSimple, rfl, ck_Slips_isSimple⟩
set_option maxRecDepth 20000 in
theorem gd_72 : am_Good 72 := ⟨cw_Slips_isUniversal, kt_Slips_isUniversal, rfl, ck_Slips_isUniversal⟩
set_option maxRecDepth 20000 in
theorem gd_73 : am_Good 73 := ⟨cw_Slips_isNegative, kt_Slips_isNegative, rfl, ck_Slips_isNegative⟩
set_option maxRecDepth 20000 in
theorem gd_74 : am_Good 74 := ⟨cw_Slips_kindWord, kt_Slips_kindWord, rfl, ck_Slips_kindWord⟩
set_option maxRecDepth 20000 in
theorem gd_75 : am_Good 75 := ⟨cw_Slips_sizeOf, kt_Slips_sizeOf, rfl, ck_Slips_sizeOf⟩
set_option maxRecDepth 20000 in
theorem gd_76 : am_Good 76 := ⟨cw_Slips_isIn, kt_Slips_isIn, rfl, ck_Slips_isIn⟩
set_option maxRecDepth 20000 in
theorem gd_77 : am_Good 77 := ⟨cw_Denial_init, kt_Denial_init, rfl, ck_Denial_init⟩
set_option maxRecDepth 20000 in
theorem gd_78 : am_Good 78 := ⟨cw_Denial_clear, kt_Denial_clear, rfl, ck_Denial_clear⟩
set_option maxRecDepth 20000 in
theorem gd_79 : am_Good 79 := ⟨cw_Denial_consider, kt_Denial_consider, rfl, ck_Denial_consider⟩
set_option maxRecDepth 20000 in
theorem gd_80 : am_Good 80 := ⟨cw_Denial_noteMask, kt_Denial_noteMask, rfl, ck_Denial_noteMask⟩
set_option maxRecDepth 20000 in
theorem gd_81 : am_Good 81 := ⟨cw_Denial_countFewest, kt_Denial_countFewest, rfl, ck_Denial_countFewest⟩
set_option maxRecDepth 20000 in
theorem gd_82 : am_Good 82 := ⟨cw_Denial_fillTrial, kt_Denial_fillTrial, rfl, ck_Denial_fillTrial⟩
set_option maxRecDepth 20000 in
theorem gd_83 : am_Good 83 := ⟨cw_Denial_trialIsAhead, kt_Denial_trialIsAhead, rfl, ck_Denial_trialIsAhead⟩
set_option maxRecDepth 20000 in
theorem gd_84 : am_Good 84 := ⟨cw_Derivation_init, kt_Derivation_init, rfl, ck_Derivation_init⟩
set_option maxRecDepth 20000 in
theorem gd_85 : am_Good 85 := ⟨cw_Derivation_start, kt_Derivation_start, rfl, ck_Derivation_start⟩
set_option maxRecDepth 20000 in
theorem gd_86 : am_Good 86 := ⟨cw_Derivation_addGiven, kt_Derivation_addGiven, rfl, ck_Derivation_addGiven⟩
set_option maxRecDepth 20000 in
theorem gd_87 : am_Good 87 := ⟨cw_Derivation_run, kt_Derivation_run, rfl, ck_Derivation_run⟩
set_option maxRecDepth 20000 in
theorem gd_88 : am_Good 88 := ⟨cw_Derivation_deriveRound, kt_Derivation_deriveRound, rfl, ck_Derivation_deriveRound⟩
set_option maxRecDepth 20000 in
theorem gd_89 : am_Good 89 := ⟨cw_Derivation_addConclusion, kt_Derivation_addConclusion, rfl, ck_Derivation_addConclusion⟩
set_option maxRecDepth 20000 in
theorem gd_90 : am_Good 90 := ⟨cw_Derivation_listAhead, kt_Derivation_listAhead, rfl, ck_Derivation_listAhead⟩
set_option maxRecDepth 20000 in
theorem gd_91 : am_Good 91 := ⟨cw_Desk_init, kt_Desk_init, rfl, ck_Desk_init⟩
set_option maxRecDepth 20000 in
theorem gd_92 : am_Good 92 := ⟨cw_Desk_hasHeap, kt_Desk_hasHeap, rfl, ck_Desk_hasHeap⟩
set_option maxRecDepth 20000 in
theorem gd_93 : am_Good 93 := ⟨cw_Desk_slipAt, kt_Desk_slipAt, rfl, ck_Desk_slipAt⟩
set_option maxRecDepth 20000 in
theorem gd_94 : am_Good 94 := ⟨cw_Desk_sentenceAt, kt_Desk_sentenceAt, rfl, ck_Desk_sentenceAt⟩
set_option maxRecDepth 20000 in
theorem gd_95 : am_Good 95 := ⟨cw_Desk_bind, kt_Desk_bind, rfl, ck_Desk_bind⟩
set_option maxRecDepth 20000 in
theorem gd_96 : am_Good 96 := ⟨cw_Desk_copyFrom, kt_Desk_copyFrom, rfl, ck_Desk_copyFrom⟩
set_option maxRecDepth 20000 in
theorem gd_97 : am_Good 97 := ⟨cw_Fewest_init, kt_Fewest_init, rfl, ck_Fewest_init⟩
def am_js1 : List Nat := [49, 50, 51, 52, 53, 54, 55, 56, 57, 58, 59, 60, 61, 62, 63, 64, 65, 66, 67, 68, 69, 70, 71, 72, 73, 74, 75, 76, 77, 78, 79, 80, 81, 82, 83, 84, 85, 86, 87, 88, 89, 90, 91, 92, 93, 94, 95, 96, 97]
theorem am_gd1 : ∀ j ∈ am_js1, am_Good j := List.forall_mem_cons.mpr ⟨gd_49, List.forall_mem_cons.mpr ⟨gd_50, List.forall_mem_cons.mpr ⟨gd_51, List.forall_mem_cons.mpr ⟨gd_52, List.forall_mem_cons.mpr ⟨gd_53, List.forall_mem_cons.mpr ⟨gd_54, List.forall_mem_cons.mpr ⟨gd_55, List.forall_mem_cons.mpr ⟨gd_56, List.forall_mem_cons.mpr ⟨gd_57, List.forall_mem_cons.mpr ⟨gd_58, List.forall_mem_cons.mpr ⟨gd_59, List.forall_mem_cons.mpr ⟨gd_60, List.forall_mem_cons.mpr ⟨gd_61, List.forall_mem_cons.mpr ⟨gd_62, List.forall_mem_cons.mpr ⟨gd_63, List.forall_mem_cons.mpr ⟨gd_64, List.forall_mem_cons.mpr ⟨gd_65, List.forall_mem_cons.mpr ⟨gd_66, List.forall_mem_cons.mpr ⟨gd_67, List.forall_mem_cons.mpr ⟨gd_68, List.forall_mem_cons.mpr ⟨gd_69, List.forall_mem_cons.mpr ⟨gd_70, List.forall_mem_cons.mpr ⟨gd_71, List.forall_mem_cons.mpr ⟨gd_72, List.forall_mem_cons.mpr ⟨gd_73, List.forall_mem_cons.mpr ⟨gd_74, List.forall_mem_cons.mpr ⟨gd_75, List.forall_mem_cons.mpr ⟨gd_76, List.forall_mem_cons.mpr ⟨gd_77, List.forall_mem_cons.mpr ⟨gd_78, List.forall_mem_cons.mpr ⟨gd_79, List.forall_mem_cons.mpr ⟨gd_80, List.forall_mem_cons.mpr ⟨gd_81, List.forall_mem_cons.mpr ⟨gd_82, List.forall_mem_cons.mpr ⟨gd_83, List.forall_mem_cons.mpr ⟨gd_84, List.forall_mem_cons.mpr ⟨gd_85, List.forall_mem_cons.mpr ⟨gd_86, List.forall_mem_cons.mpr ⟨gd_87, List.forall_mem_cons.mpr ⟨gd_88, List.forall_mem_cons.mpr ⟨gd_89, List.forall_mem_cons.mpr ⟨gd_90, List.forall_mem_cons.mpr ⟨gd_91, List.forall_mem_cons.mpr ⟨gd_92, List.forall_mem_cons.mpr ⟨gd_93, List.forall_mem_cons.mpr ⟨gd_94, List.forall_mem_cons.mpr ⟨gd_95, List.forall_mem_cons.mpr ⟨gd_96, List.forall_mem_cons.mpr ⟨gd_97, fun _ h => absurd h List.not_mem_nil⟩⟩⟩⟩⟩⟩⟩⟩⟩⟩⟩⟩⟩⟩⟩⟩⟩⟩⟩⟩⟩⟩⟩⟩⟩⟩⟩⟩⟩⟩⟩⟩⟩⟩⟩⟩⟩⟩⟩⟩⟩⟩⟩⟩⟩⟩⟩⟩⟩
set_option maxRecDepth 20000 in
theorem gd_98 : am_Good 98 := ⟨cw_Fewest_clear, kt_Fewest_clear, rfl, ck_Fewest_clear⟩
set_option maxRecDepth 20000 in
theorem gd_99 : am_Good 99 := ⟨cw_Fewest_note, kt_Fewest_note, rfl, ck_Fewest_note⟩
set_option maxRecDepth 20000 in
theorem gd_100 : am_Good 100 := ⟨cw_Fewest_tell, kt_Fewest_tell, rfl, ck_Fewest_tell⟩
set_option maxRecDepth 20000 in
theorem gd_101 : am_Good 101 := ⟨cw_Quarrels_init, kt_Quarrels_init, rfl, ck_Quarrels_init⟩
set_option maxRecDepth 20000 in
theorem gd_102 : am_Good 102 := ⟨cw_Quarrels_start, kt_Quarrels_start, rfl, ck_Quarrels_start⟩
set_option maxRecDepth 20000 in
theorem gd_103 : am_Good 103 := ⟨cw_Quarrels_markByPart, kt_Quarrels_markByPart, rfl, ck_Quarrels_markByPart⟩
set_option maxRecDepth 20000 in
theorem gd_104 : am_Good 104 := ⟨cw_Quarrels_mark, kt_Quarrels_mark, rfl, ck_Quarrels_mark⟩
set_option maxRecDepth 20000 in
theorem gd_105 : am_Good 105 := ⟨cw_Quarrels_leastAt, kt_Quarrels_leastAt, rfl, ck_Quarrels_leastAt⟩
set_option maxRecDepth 20000 in
theorem gd_106 : am_Good 106 := ⟨cw_Quarrels_findLeftOut, kt_Quarrels_findLeftOut, rfl, ck_Quarrels_findLeftOut⟩
set_option maxRecDepth 20000 in
theorem gd_107 : am_Good 107 := ⟨cw_Reader_init, kt_Reader_init, rfl, ck_Reader_init⟩
set_option maxRecDepth 20000 in
theorem gd_108 : am_Good 108 := ⟨cw_Reader_append, kt_Reader_append, rfl, ck_Reader_append⟩
set_option maxRecDepth 20000 in
theorem gd_109 : am_Good 109 := ⟨cw_Reader_read, kt_Reader_read, rfl, ck_Reader_read⟩
set_option maxRecDepth 20000 in
theorem gd_110 : am_Good 110 := ⟨cw_Reader_tellSimple, kt_Reader_tellSimple, rfl, ck_Reader_tellSimple⟩
set_option maxRecDepth 20000 in
theorem gd_111 : am_Good 111 := ⟨cw_Reader_tellSet, kt_Reader_tellSet, rfl, ck_Reader_tellSet⟩
set_option maxRecDepth 20000 in
theorem gd_112 : am_Good 112 := ⟨cw_Reader_meant, kt_Reader_meant, rfl, ck_Reader_meant⟩
set_option maxRecDepth 20000 in
theorem gd_113 : am_Good 113 := ⟨cw_Reader_parse, kt_Reader_parse, rfl, ck_Reader_parse⟩
set_option maxRecDepth 20000 in
theorem gd_114 : am_Good 114 := ⟨cw_Reader_formHere, kt_Reader_formHere, rfl, ck_Reader_formHere⟩
set_option maxRecDepth 20000 in
theorem gd_115 : am_Good 115 := ⟨cw_Reader_term, kt_Reader_term, rfl, ck_Reader_term⟩
set_option maxRecDepth 20000 in
theorem gd_116 : am_Good 116 := ⟨cw_Reader_both, kt_Reader_both, rfl, ck_Reader_both⟩
set_option maxRecDepth 20000 in
theorem gd_117 : am_Good 117 := ⟨cw_Reader_plain, kt_Reader_plain, rfl, ck_Reader_plain⟩
set_option maxRecDepth 20000 in
theorem gd_118 : am_Good 118 := ⟨cw_Reader_pass, kt_Reader_pass, rfl, ck_Reader_pass⟩
set_option maxRecDepth 20000 in
theorem gd_119 : am_Good 119 := ⟨cw_Reader_isAt, kt_Reader_isAt, rfl, ck_Reader_isAt⟩
set_option maxRecDepth 20000 in
theorem gd_120 : am_Good 120 := ⟨cw_Reader_isSign, kt_Reader_isSign, rfl, ck_Reader_isSign⟩
set_option maxRecDepth 20000 in
theorem gd_121 : am_Good 121 := ⟨cw_Reader_step, kt_Reader_step, rfl, ck_Reader_step⟩
set_option maxRecDepth 20000 in
theorem gd_122 : am_Good 122 := ⟨cw_Reader_writeDown, kt_Reader_writeDown, rfl, ck_Reader_writeDown⟩
set_option maxRecDepth 20000 in
theorem gd_123 : am_Good 123 := ⟨cw_Reader_leadingWords, kt_Reader_leadingWords, rfl, ck_Reader_leadingWords⟩
set_option maxRecDepth 20000 in
theorem gd_124 : am_Good 124 := ⟨cw_Sentence_init, kt_Sentence_init, rfl, ck_Sentence_init⟩
set_option maxRecDepth 20000 in
theorem gd_125 : am_Good 125 := ⟨cw_Sentence_number, kt_Sentence_number, rfl, ck_Sentence_number⟩
set_option maxRecDepth 20000 in
theorem gd_126 : am_Good 126 := ⟨cw_Sentence_setNumber, kt_Sentence_setNumber, rfl, ck_Sentence_setNumber⟩
set_option maxRecDepth 20000 in
theorem gd_127 : am_Good 127 := ⟨cw_Sentence_setSimple, kt_Sentence_setSimple, rfl, ck_Sentence_setSimple⟩
set_option maxRecDepth 20000 in
theorem gd_128 : am_Good 128 := ⟨cw_Sentence_tellsSubject, kt_Sentence_tellsSubject, rfl, ck_Sentence_tellsSubject⟩
set_option maxRecDepth 20000 in
theorem gd_129 : am_Good 129 := ⟨cw_Syllogism_init, kt_Syllogism_init, rfl, ck_Syllogism_init⟩
set_option maxRecDepth 20000 in
theorem gd_130 : am_Good 130 := ⟨cw_Syllogism_join, kt_Syllogism_join, rfl, ck_Syllogism_join⟩
set_option maxRecDepth 20000 in
theorem gd_131 : am_Good 131 := ⟨cw_Syllogism_learn, kt_Syllogism_learn, rfl, ck_Syllogism_learn⟩
set_option maxRecDepth 20000 in
theorem gd_132 : am_Good 132 := ⟨cw_Syllogism_conclude, kt_Syllogism_conclude, rfl, ck_Syllogism_conclude⟩
set_option maxRecDepth 20000 in
theorem gd_133 : am_Good 133 := ⟨cw_Syllogism_firstMood, kt_Syllogism_firstMood, rfl, ck_Syllogism_firstMood⟩
set_option maxRecDepth 20000 in
theorem gd_134 : am_Good 134 := ⟨cw_Syllogism_leadsMajor, kt_Syllogism_leadsMajor, rfl, ck_Syllogism_leadsMajor⟩
set_option maxRecDepth 20000 in
theorem gd_135 : am_Good 135 := ⟨cw_Syllogism_leadsMinor, kt_Syllogism_leadsMinor, rfl, ck_Syllogism_leadsMinor⟩
set_option maxRecDepth 20000 in
theorem gd_136 : am_Good 136 := ⟨cw_Syllogism_judge, kt_Syllogism_judge, rfl, ck_Syllogism_judge⟩
set_option maxRecDepth 20000 in
theorem gd_137 : am_Good 137 := ⟨cw_Syllogism_isDistributed, kt_Syllogism_isDistributed, rfl, ck_Syllogism_isDistributed⟩
set_option maxRecDepth 20000 in
theorem gd_138 : am_Good 138 := ⟨cw_Theory_init, kt_Theory_init, rfl, ck_Theory_init⟩
set_option maxRecDepth 20000 in
theorem gd_139 : am_Good 139 := ⟨cw_Theory_clear, kt_Theory_clear, rfl, ck_Theory_clear⟩
set_option maxRecDepth 20000 in
theorem gd_140 : am_Good 140 := ⟨cw_Theory_grantClaim, kt_Theory_grantClaim, rfl, ck_Theory_grantClaim⟩
set_option maxRecDepth 20000 in
theorem gd_141 : am_Good 141 := ⟨cw_Theory_denyClaim, kt_Theory_denyClaim, rfl, ck_Theory_denyClaim⟩
set_option maxRecDepth 20000 in
theorem gd_142 : am_Good 142 := ⟨cw_Theory_bar, kt_Theory_bar, rfl, ck_Theory_bar⟩
set_option maxRecDepth 20000 in
theorem gd_143 : am_Good 143 := ⟨cw_Theory_want, kt_Theory_want, rfl, ck_Theory_want⟩
set_option maxRecDepth 20000 in
theorem gd_144 : am_Good 144 := ⟨cw_Theory_place, kt_Theory_place, rfl, ck_Theory_place⟩
set_option maxRecDepth 20000 in
theorem gd_145 : am_Good 145 := ⟨cw_Theory_fits, kt_Theory_fits, rfl, ck_Theory_fits⟩
set_option maxRecDepth 20000 in
theorem gd_146 : am_Good 146 := ⟨cw_Theory_fitsWithout, kt_Theory_fitsWithout, rfl, ck_Theory_fitsWithout⟩
def am_js2 : List Nat := [98, 99, 100, 101, 102, 103, 104, 105, 106, 107, 108, 109, 110, 111, 112, 113, 114, 115, 116, 117, 118, 119, 120, 121, 122, 123, 124, 125, 126, 127, 128, 129, 130, 131, 132, 133, 134, 135, 136, 137, 138, 139, 140, 141, 142, 143, 144, 145, 146]
theorem am_gd2 : ∀ j ∈ am_js2, am_Good j := List.forall_mem_cons.mpr ⟨gd_98, List.forall_mem_cons.mpr ⟨gd_99, List.forall_mem_cons.mpr ⟨gd_100, List.forall_mem_cons.mpr ⟨gd_101, List.forall_mem_cons.mpr ⟨gd_102, List.forall_mem_cons.mpr ⟨gd_103, List.forall_mem_cons.mpr ⟨gd_104, List.forall_mem_cons.mpr ⟨gd_105, List.forall_mem_cons.mpr ⟨gd_106, List.forall_mem_cons.mpr ⟨gd_107, List.forall_mem_cons.mpr ⟨gd_108, List.forall_mem_cons.mpr ⟨gd_109, List.forall_mem_cons.mpr ⟨gd_110, List.forall_mem_cons.mpr ⟨gd_111, List.forall_mem_cons.mpr ⟨gd_112, List.forall_mem_cons.mpr ⟨gd_113, List.forall_mem_cons.mpr ⟨gd_114, List.forall_mem_cons.mpr ⟨gd_115, List.forall_mem_cons.mpr ⟨gd_116, List.forall_mem_cons.mpr ⟨gd_117, List.forall_mem_cons.mpr ⟨gd_118, List.forall_mem_cons.mpr ⟨gd_119, List.forall_mem_cons.mpr ⟨gd_120, List.forall_mem_cons.mpr ⟨gd_121, List.forall_mem_cons.mpr ⟨gd_122, List.forall_mem_cons.mpr ⟨gd_123, List.forall_mem_cons.mpr ⟨gd_124, List.forall_mem_cons.mpr ⟨gd_125, List.forall_mem_cons.mpr ⟨gd_126, List.forall_mem_cons.mpr ⟨gd_127, List.forall_mem_cons.mpr ⟨gd_128, List.forall_mem_cons.mpr ⟨gd_129, List.forall_mem_cons.mpr ⟨gd_130, List.forall_mem_cons.mpr ⟨gd_131, List.forall_mem_cons.mpr ⟨gd_132, List.forall_mem_cons.mpr ⟨gd_133, List.forall_mem_cons.mpr ⟨gd_134, List.forall_mem_cons.mpr ⟨gd_135, List.forall_mem_cons.mpr ⟨gd_136, List.forall_mem_cons.mpr ⟨gd_137, List.forall_mem_cons.mpr ⟨gd_138, List.forall_mem_cons.mpr ⟨gd_139, List.forall_mem_cons.mpr ⟨gd_140, List.forall_mem_cons.mpr ⟨gd_141, List.forall_mem_cons.mpr ⟨gd_142, List.forall_mem_cons.mpr ⟨gd_143, List.forall_mem_cons.mpr ⟨gd_144, List.forall_mem_cons.mpr ⟨gd_145, List.forall_mem_cons.mpr ⟨gd_146, fun _ h => absurd h List.not_mem_nil⟩⟩⟩⟩⟩⟩⟩⟩⟩⟩⟩⟩⟩⟩⟩⟩⟩⟩⟩⟩⟩⟩⟩⟩⟩⟩⟩⟩⟩⟩⟩⟩⟩⟩⟩⟩⟩⟩⟩⟩⟩⟩⟩⟩⟩⟩⟩⟩⟩
set_option maxRecDepth 20000 in
theorem gd_147 : am_Good 147 := ⟨cw_Theory_meets, kt_Theory_meets, rfl, ck_Theory_meets⟩
set_option maxRecDepth 20000 in
theorem gd_148 : am_Good 148 := ⟨cw_Theory_canHold, kt_Theory_canHold, rfl, ck_Theory_canHold⟩
set_option maxRecDepth 20000 in
theorem gd_149 : am_Good 149 := ⟨cw_Theory_canFail, kt_Theory_canFail, rfl, ck_Theory_canFail⟩
set_option maxRecDepth 20000 in
theorem gd_150 : am_Good 150 := ⟨cw_Theory_canBePlaced, kt_Theory_canBePlaced, rfl, ck_Theory_canBePlaced⟩
set_option maxRecDepth 20000 in
theorem gd_151 : am_Good 151 := ⟨cw_Theory_placeWord, kt_Theory_placeWord, rfl, ck_Theory_placeWord⟩
set_option maxRecDepth 20000 in
theorem gd_152 : am_Good 152 := ⟨cw_Theory_countPlaces, kt_Theory_countPlaces, rfl, ck_Theory_countPlaces⟩
set_option maxRecDepth 20000 in
theorem gd_153 : am_Good 153 := ⟨cw_Theory_lowestPlace, kt_Theory_lowestPlace, rfl, ck_Theory_lowestPlace⟩
set_option maxRecDepth 20000 in
theorem gd_154 : am_Good 154 := ⟨cw_Theory_countWants, kt_Theory_countWants, rfl, ck_Theory_countWants⟩
set_option maxRecDepth 20000 in
theorem gd_155 : am_Good 155 := ⟨cw_Theory_wantsMet, kt_Theory_wantsMet, rfl, ck_Theory_wantsMet⟩
set_option maxRecDepth 20000 in
theorem gd_156 : am_Good 156 := ⟨cw_Tree_init, kt_Tree_init, rfl, ck_Tree_init⟩
set_option maxRecDepth 20000 in
theorem gd_157 : am_Good 157 := ⟨cw_Tree_hasNode, kt_Tree_hasNode, rfl, ck_Tree_hasNode⟩
set_option maxRecDepth 20000 in
theorem gd_158 : am_Good 158 := ⟨cw_Tree_clear, kt_Tree_clear, rfl, ck_Tree_clear⟩
set_option maxRecDepth 20000 in
theorem gd_159 : am_Good 159 := ⟨cw_Tree_join, kt_Tree_join, rfl, ck_Tree_join⟩
set_option maxRecDepth 20000 in
theorem gd_160 : am_Good 160 := ⟨cw_Tree_make, kt_Tree_make, rfl, ck_Tree_make⟩
set_option maxRecDepth 20000 in
theorem gd_161 : am_Good 161 := ⟨cw_Tree_negate, kt_Tree_negate, rfl, ck_Tree_negate⟩
set_option maxRecDepth 20000 in
theorem gd_162 : am_Good 162 := ⟨cw_Tree_kindAt, kt_Tree_kindAt, rfl, ck_Tree_kindAt⟩
set_option maxRecDepth 20000 in
theorem gd_163 : am_Good 163 := ⟨cw_Tree_findSets, kt_Tree_findSets, rfl, ck_Tree_findSets⟩
set_option maxRecDepth 20000 in
theorem gd_164 : am_Good 164 := ⟨cw_Tree_setWord, kt_Tree_setWord, rfl, ck_Tree_setWord⟩
set_option maxRecDepth 20000 in
theorem gd_165 : am_Good 165 := ⟨cw_Tree_beginsWithNot, kt_Tree_beginsWithNot, rfl, ck_Tree_beginsWithNot⟩
set_option maxRecDepth 20000 in
theorem gd_166 : am_Good 166 := ⟨cw_Writer_init, kt_Writer_init, rfl, ck_Writer_init⟩
set_option maxRecDepth 20000 in
theorem gd_167 : am_Good 167 := ⟨cw_Writer_clear, kt_Writer_clear, rfl, ck_Writer_clear⟩
set_option maxRecDepth 20000 in
theorem gd_168 : am_Good 168 := ⟨cw_Writer_copy, kt_Writer_copy, rfl, ck_Writer_copy⟩
set_option maxRecDepth 20000 in
theorem gd_169 : am_Good 169 := ⟨cw_Writer_putSign, kt_Writer_putSign, rfl, ck_Writer_putSign⟩
set_option maxRecDepth 20000 in
theorem gd_170 : am_Good 170 := ⟨cw_Writer_putBlank, kt_Writer_putBlank, rfl, ck_Writer_putBlank⟩
set_option maxRecDepth 20000 in
theorem gd_171 : am_Good 171 := ⟨cw_Writer_putWord, kt_Writer_putWord, rfl, ck_Writer_putWord⟩
set_option maxRecDepth 20000 in
theorem gd_172 : am_Good 172 := ⟨cw_Writer_putTerm, kt_Writer_putTerm, rfl, ck_Writer_putTerm⟩
set_option maxRecDepth 20000 in
theorem gd_173 : am_Good 173 := ⟨cw_Writer_putNode, kt_Writer_putNode, rfl, ck_Writer_putNode⟩
set_option maxRecDepth 20000 in
theorem gd_174 : am_Good 174 := ⟨cw_Model_init, kt_Model_init, rfl, ck_Model_init⟩
set_option maxRecDepth 20000 in
theorem gd_175 : am_Good 175 := ⟨cw_Model_lies, kt_Model_lies, rfl, ck_Model_lies⟩
set_option maxRecDepth 20000 in
theorem gd_176 : am_Good 176 := ⟨cw_Model_refuses, kt_Model_refuses, rfl, ck_Model_refuses⟩
set_option maxRecDepth 20000 in
theorem gd_177 : am_Good 177 := ⟨cw_Model_good, kt_Model_good, rfl, ck_Model_good⟩
set_option maxRecDepth 20000 in
theorem gd_178 : am_Good 178 := ⟨cw_Model_ones, kt_Model_ones, rfl, ck_Model_ones⟩
set_option maxRecDepth 20000 in
theorem gd_179 : am_Good 179 := ⟨cw_Model_image, kt_Model_image, rfl, ck_Model_image⟩
set_option maxRecDepth 20000 in
theorem gd_180 : am_Good 180 := ⟨cw_Model_back, kt_Model_back, rfl, ck_Model_back⟩
set_option maxRecDepth 20000 in
theorem gd_181 : am_Good 181 := ⟨cw_Model_slips, kt_Model_slips, rfl, ck_Model_slips⟩
set_option maxRecDepth 20000 in
theorem gd_182 : am_Good 182 := ⟨cw_Model_isSlip, kt_Model_isSlip, rfl, ck_Model_isSlip⟩
set_option maxRecDepth 20000 in
theorem gd_183 : am_Good 183 := ⟨cw_Model_isAsked, kt_Model_isAsked, rfl, ck_Model_isAsked⟩
set_option maxRecDepth 20000 in
theorem gd_184 : am_Good 184 := ⟨cw_Model_slotOf, kt_Model_slotOf, rfl, ck_Model_slotOf⟩
set_option maxRecDepth 20000 in
theorem gd_185 : am_Good 185 := ⟨cw_Model_isHeap, kt_Model_isHeap, rfl, ck_Model_isHeap⟩
set_option maxRecDepth 20000 in
theorem gd_186 : am_Good 186 := ⟨cw_Model_part, kt_Model_part, rfl, ck_Model_part⟩
set_option maxRecDepth 20000 in
theorem gd_187 : am_Good 187 := ⟨cw_Model_feed, kt_Model_feed, rfl, ck_Model_feed⟩
set_option maxRecDepth 20000 in
theorem gd_188 : am_Good 188 := ⟨cw_Model_end, kt_Model_end, rfl, ck_Model_end⟩
set_option maxRecDepth 20000 in
theorem gd_189 : am_Good 189 := ⟨cw_Model_isSmall, kt_Model_isSmall, rfl, ck_Model_isSmall⟩
set_option maxRecDepth 20000 in
theorem gd_190 : am_Good 190 := ⟨cw_Model_isDigit, kt_Model_isDigit, rfl, ck_Model_isDigit⟩
set_option maxRecDepth 20000 in
theorem gd_191 : am_Good 191 := ⟨cw_Model_wordOf, kt_Model_wordOf, rfl, ck_Model_wordOf⟩
set_option maxRecDepth 20000 in
theorem gd_192 : am_Good 192 := ⟨cw_Model_splits, kt_Model_splits, rfl, ck_Model_splits⟩
set_option maxRecDepth 20000 in
theorem gd_193 : am_Good 193 := ⟨cw_Model_fine, kt_Model_fine, rfl, ck_Model_fine⟩
set_option maxRecDepth 20000 in
theorem gd_194 : am_Good 194 := ⟨cw_Model_faults, kt_Model_faults, rfl, ck_Model_faults⟩
set_option maxRecDepth 20000 in
theorem gd_195 : am_Good 195 := ⟨cw_Model_takes0, kt_Model_takes0, rfl, ck_Model_takes0⟩
def am_js3 : List Nat := [147, 148, 149, 150, 151, 152, 153, 154, 155, 156, 157, 158, 159, 160, 161, 162, 163, 164, 165, 166, 167, 168, 169, 170, 171, 172, 173, 174, 175, 176, 177, 178, 179, 180, 181, 182, 183, 184, 185, 186, 187, 188, 189, 190, 191, 192, 193, 194, 195]
theorem am_gd3 : ∀ j ∈ am_js3, am_Good j := List.forall_mem_cons.mpr ⟨gd_147, List.forall_mem_cons.mpr ⟨gd_148, List.forall_mem_cons.mpr ⟨gd_149, List.forall_mem_cons.mpr ⟨gd_150, List.forall_mem_cons.mpr ⟨gd_151, List.forall_mem_cons.mpr ⟨gd_152, List.forall_mem_cons.mpr ⟨gd_153, List.forall_mem_cons.mpr ⟨gd_154, List.forall_mem_cons.mpr ⟨gd_155, List.forall_mem_cons.mpr ⟨gd_156, List.forall_mem_cons.mpr ⟨gd_157, List.forall_mem_cons.mpr ⟨gd_158, List.forall_mem_cons.mpr ⟨gd_159, List.forall_mem_cons.mpr ⟨gd_160, List.forall_mem_cons.mpr ⟨gd_161, List.forall_mem_cons.mpr ⟨gd_162, List.forall_mem_cons.mpr ⟨gd_163, List.forall_mem_cons.mpr ⟨gd_164, List.forall_mem_cons.mpr ⟨gd_165, List.forall_mem_cons.mpr ⟨gd_166, List.forall_mem_cons.mpr ⟨gd_167, List.forall_mem_cons.mpr ⟨gd_168, List.forall_mem_cons.mpr ⟨gd_169, List.forall_mem_cons.mpr ⟨gd_170, List.forall_mem_cons.mpr ⟨gd_171, List.forall_mem_cons.mpr ⟨gd_172, List.forall_mem_cons.mpr ⟨gd_173, List.forall_mem_cons.mpr ⟨gd_174, List.forall_mem_cons.mpr ⟨gd_175, List.forall_mem_cons.mpr ⟨gd_176, List.forall_mem_cons.mpr ⟨gd_177, List.forall_mem_cons.mpr ⟨gd_178, List.forall_mem_cons.mpr ⟨gd_179, List.forall_mem_cons.mpr ⟨gd_180, List.forall_mem_cons.mpr ⟨gd_181, List.forall_mem_cons.mpr ⟨gd_182, List.forall_mem_cons.mpr ⟨gd_183, List.forall_mem_cons.mpr ⟨gd_184, List.forall_mem_cons.mpr ⟨gd_185, List.forall_mem_cons.mpr ⟨gd_186, List.forall_mem_cons.mpr ⟨gd_187, List.forall_mem_cons.mpr ⟨gd_188, List.forall_mem_cons.mpr ⟨gd_189, List.forall_mem_cons.mpr ⟨gd_190, List.forall_mem_cons.mpr ⟨gd_191, List.forall_mem_cons.mpr ⟨gd_192, List.forall_mem_cons.mpr ⟨gd_193, List.forall_mem_cons.mpr ⟨gd_194, List.forall_mem_cons.mpr ⟨gd_195, fun _ h => absurd h List.not_mem_nil⟩⟩⟩⟩⟩⟩⟩⟩⟩⟩⟩⟩⟩⟩⟩⟩⟩⟩⟩⟩⟩⟩⟩⟩⟩⟩⟩⟩⟩⟩⟩⟩⟩⟩⟩⟩⟩⟩⟩⟩⟩⟩⟩⟩⟩⟩⟩⟩⟩
set_option maxRecDepth 20000 in
theorem gd_196 : am_Good 196 := ⟨cw_Model_must, kt_Model_must, rfl, ck_Model_must⟩
set_option maxRecDepth 20000 in
theorem gd_197 : am_Good 197 := ⟨cw_Model_sign, kt_Model_sign, rfl, ck_Model_sign⟩
set_option maxRecDepth 20000 in
theorem gd_198 : am_Good 198 := ⟨cw_Model_makes, kt_Model_makes, rfl, ck_Model_makes⟩
set_option maxRecDepth 20000 in
theorem gd_199 : am_Good 199 := ⟨cw_Model_readsTerm, kt_Model_readsTerm, rfl, ck_Model_readsTerm⟩
set_option maxRecDepth 20000 in
theorem gd_200 : am_Good 200 := ⟨cw_Model_readBoth, kt_Model_readBoth, rfl, ck_Model_readBoth⟩
set_option maxRecDepth 20000 in
theorem gd_201 : am_Good 201 := ⟨cw_Model_readPlain, kt_Model_readPlain, rfl, ck_Model_readPlain⟩
set_option maxRecDepth 20000 in
theorem gd_202 : am_Good 202 := ⟨cw_Model_readSentence, kt_Model_readSentence, rfl, ck_Model_readSentence⟩
set_option maxRecDepth 20000 in
theorem gd_203 : am_Good 203 := ⟨cw_Model_reads, kt_Model_reads, rfl, ck_Model_reads⟩
set_option maxRecDepth 20000 in
theorem gd_204 : am_Good 204 := ⟨cw_Model_slip, kt_Model_slip, rfl, ck_Model_slip⟩
set_option maxRecDepth 20000 in
theorem gd_205 : am_Good 205 := ⟨cw_Model_question, kt_Model_question, rfl, ck_Model_question⟩
set_option maxRecDepth 20000 in
theorem gd_206 : am_Good 206 := ⟨cw_Model_fault, kt_Model_fault, rfl, ck_Model_fault⟩
set_option maxRecDepth 20000 in
theorem gd_207 : am_Good 207 := ⟨cw_Model_copies, kt_Model_copies, rfl, ck_Model_copies⟩
set_option maxRecDepth 20000 in
theorem gd_208 : am_Good 208 := ⟨cw_Model_write, kt_Model_write, rfl, ck_Model_write⟩
set_option maxRecDepth 20000 in
theorem gd_209 : am_Good 209 := ⟨cw_Model_take, kt_Model_take, rfl, ck_Model_take⟩
set_option maxRecDepth 20000 in
theorem gd_210 : am_Good 210 := ⟨cw_Model_existence, kt_Model_existence, rfl, ck_Model_existence⟩
set_option maxRecDepth 20000 in
theorem gd_211 : am_Good 211 := ⟨cw_Model_isRegion, kt_Model_isRegion, rfl, ck_Model_isRegion⟩
set_option maxRecDepth 20000 in
theorem gd_212 : am_Good 212 := ⟨cw_Model_laysSays, kt_Model_laysSays, rfl, ck_Model_laysSays⟩
set_option maxRecDepth 20000 in
theorem gd_213 : am_Good 213 := ⟨cw_Model_isAlone, kt_Model_isAlone, rfl, ck_Model_isAlone⟩
set_option maxRecDepth 20000 in
theorem gd_214 : am_Good 214 := ⟨cw_Model_numberOf, kt_Model_numberOf, rfl, ck_Model_numberOf⟩
set_option maxRecDepth 20000 in
theorem gd_215 : am_Good 215 := ⟨cw_Model_simple, kt_Model_simple, rfl, ck_Model_simple⟩
set_option maxRecDepth 20000 in
theorem gd_216 : am_Good 216 := ⟨cw_Model_of, kt_Model_of, rfl, ck_Model_of⟩
set_option maxRecDepth 20000 in
theorem gd_217 : am_Good 217 := ⟨cw_Model_has, kt_Model_has, rfl, ck_Model_has⟩
set_option maxRecDepth 20000 in
theorem gd_218 : am_Good 218 := ⟨cw_Model_puts, kt_Model_puts, rfl, ck_Model_puts⟩
set_option maxRecDepth 20000 in
theorem gd_219 : am_Good 219 := ⟨cw_Model_blank, kt_Model_blank, rfl, ck_Model_blank⟩
set_option maxRecDepth 20000 in
theorem gd_220 : am_Good 220 := ⟨cw_Model_writesWord, kt_Model_writesWord, rfl, ck_Model_writesWord⟩
set_option maxRecDepth 20000 in
theorem gd_221 : am_Good 221 := ⟨cw_Model_laysStarts, kt_Model_laysStarts, rfl, ck_Model_laysStarts⟩
set_option maxRecDepth 20000 in
theorem gd_222 : am_Good 222 := ⟨cw_Model_writes, kt_Model_writes, rfl, ck_Model_writes⟩
set_option maxRecDepth 20000 in
theorem gd_223 : am_Good 223 := ⟨cw_Model_begins, kt_Model_begins, rfl, ck_Model_begins⟩
set_option maxRecDepth 20000 in
theorem gd_224 : am_Good 224 := ⟨cw_Model_writesTerm, kt_Model_writesTerm, rfl, ck_Model_writesTerm⟩
set_option maxRecDepth 20000 in
theorem gd_225 : am_Good 225 := ⟨cw_Model_writesAll, kt_Model_writesAll, rfl, ck_Model_writesAll⟩
set_option maxRecDepth 20000 in
theorem gd_226 : am_Good 226 := ⟨cw_Model_letter, kt_Model_letter, rfl, ck_Model_letter⟩
set_option maxRecDepth 20000 in
theorem gd_227 : am_Good 227 := ⟨cw_Model_empties, kt_Model_empties, rfl, ck_Model_empties⟩
set_option maxRecDepth 20000 in
theorem gd_228 : am_Good 228 := ⟨cw_Model_tells, kt_Model_tells, rfl, ck_Model_tells⟩
set_option maxRecDepth 20000 in
theorem gd_229 : am_Good 229 := ⟨cw_Model_tellsOf, kt_Model_tellsOf, rfl, ck_Model_tellsOf⟩
set_option maxRecDepth 20000 in
theorem gd_230 : am_Good 230 := ⟨cw_Model_isTold, kt_Model_isTold, rfl, ck_Model_isTold⟩
set_option maxRecDepth 20000 in
theorem gd_231 : am_Good 231 := ⟨cw_Model_heaps, kt_Model_heaps, rfl, ck_Model_heaps⟩
set_option maxRecDepth 20000 in
theorem gd_232 : am_Good 232 := ⟨cw_Model_nothingBesides, kt_Model_nothingBesides, rfl, ck_Model_nothingBesides⟩
set_option maxRecDepth 20000 in
theorem gd_233 : am_Good 233 := ⟨cw_Model_isShut, kt_Model_isShut, rfl, ck_Model_isShut⟩
set_option maxRecDepth 20000 in
theorem gd_234 : am_Good 234 := ⟨cw_Model_quarrelsNow, kt_Model_quarrelsNow, rfl, ck_Model_quarrelsNow⟩
set_option maxRecDepth 20000 in
theorem gd_235 : am_Good 235 := ⟨cw_Model_isQuarrel, kt_Model_isQuarrel, rfl, ck_Model_isQuarrel⟩
set_option maxRecDepth 20000 in
theorem gd_236 : am_Good 236 := ⟨cw_Model_followsThat, kt_Model_followsThat, rfl, ck_Model_followsThat⟩
set_option maxRecDepth 20000 in
theorem gd_237 : am_Good 237 := ⟨cw_Model_followsOf, kt_Model_followsOf, rfl, ck_Model_followsOf⟩
set_option maxRecDepth 20000 in
theorem gd_238 : am_Good 238 := ⟨cw_Model_quarrels, kt_Model_quarrels, rfl, ck_Model_quarrels⟩
set_option maxRecDepth 20000 in
theorem gd_239 : am_Good 239 := ⟨cw_Model_follows, kt_Model_follows, rfl, ck_Model_follows⟩
set_option maxRecDepth 20000 in
theorem gd_240 : am_Good 240 := ⟨cw_Model_denied, kt_Model_denied, rfl, ck_Model_denied⟩
set_option maxRecDepth 20000 in
theorem gd_241 : am_Good 241 := ⟨cw_Model_open, kt_Model_open, rfl, ck_Model_open⟩
set_option maxRecDepth 20000 in
theorem gd_242 : am_Good 242 := ⟨cw_Model_idle, kt_Model_idle, rfl, ck_Model_idle⟩
set_option maxRecDepth 20000 in
theorem gd_243 : am_Good 243 := ⟨cw_Model_least, kt_Model_least, rfl, ck_Model_least⟩
set_option maxRecDepth 20000 in
theorem gd_244 : am_Good 244 := ⟨cw_Model_isQuarrelling, kt_Model_isQuarrelling, rfl, ck_Model_isQuarrelling⟩
def am_js4 : List Nat := [196, 197, 198, 199, 200, 201, 202, 203, 204, 205, 206, 207, 208, 209, 210, 211, 212, 213, 214, 215, 216, 217, 218, 219, 220, 221, 222, 223, 224, 225, 226, 227, 228, 229, 230, 231, 232, 233, 234, 235, 236, 237, 238, 239, 240, 241, 242, 243, 244]
theorem am_gd4 : ∀ j ∈ am_js4, am_Good j := List.forall_mem_cons.mpr ⟨gd_196, List.forall_mem_cons.mpr ⟨gd_197, List.forall_mem_cons.mpr ⟨gd_198, List.forall_mem_cons.mpr ⟨gd_199, List.forall_mem_cons.mpr ⟨gd_200, List.forall_mem_cons.mpr ⟨gd_201, List.forall_mem_cons.mpr ⟨gd_202, List.forall_mem_cons.mpr ⟨gd_203, List.forall_mem_cons.mpr ⟨gd_204, List.forall_mem_cons.mpr ⟨gd_205, List.forall_mem_cons.mpr ⟨gd_206, List.forall_mem_cons.mpr ⟨gd_207, List.forall_mem_cons.mpr ⟨gd_208, List.forall_mem_cons.mpr ⟨gd_209, List.forall_mem_cons.mpr ⟨gd_210, List.forall_mem_cons.mpr ⟨gd_211, List.forall_mem_cons.mpr ⟨gd_212, List.forall_mem_cons.mpr ⟨gd_213, List.forall_mem_cons.mpr ⟨gd_214, List.forall_mem_cons.mpr ⟨gd_215, List.forall_mem_cons.mpr ⟨gd_216, List.forall_mem_cons.mpr ⟨gd_217, List.forall_mem_cons.mpr ⟨gd_218, List.forall_mem_cons.mpr ⟨gd_219, List.forall_mem_cons.mpr ⟨gd_220, List.forall_mem_cons.mpr ⟨gd_221, List.forall_mem_cons.mpr ⟨gd_222, List.forall_mem_cons.mpr ⟨gd_223, List.forall_mem_cons.mpr ⟨gd_224, List.forall_mem_cons.mpr ⟨gd_225, List.forall_mem_cons.mpr ⟨gd_226, List.forall_mem_cons.mpr ⟨gd_227, List.forall_mem_cons.mpr ⟨gd_228, List.forall_mem_cons.mpr ⟨gd_229, List.forall_mem_cons.mpr ⟨gd_230, List.forall_mem_cons.mpr ⟨gd_231, List.forall_mem_cons.mpr ⟨gd_232, List.forall_mem_cons.mpr ⟨gd_233, List.forall_mem_cons.mpr ⟨gd_234, List.forall_mem_cons.mpr ⟨gd_235, List.forall_mem_cons.mpr ⟨gd_236, List.forall_mem_cons.mpr ⟨gd_237, List.forall_mem_cons.mpr ⟨gd_238, List.forall_mem_cons.mpr ⟨gd_239, List.forall_mem_cons.mpr ⟨gd_240, List.forall_mem_cons.mpr ⟨gd_241, List.forall_mem_cons.mpr ⟨gd_242, List.forall_mem_cons.mpr ⟨gd_243, List.forall_mem_cons.mpr ⟨gd_244, fun _ h => absurd h List.not_mem_nil⟩⟩⟩⟩⟩⟩⟩⟩⟩⟩⟩⟩⟩⟩⟩⟩⟩⟩⟩⟩⟩⟩⟩⟩⟩⟩⟩⟩⟩⟩⟩⟩⟩⟩⟩⟩⟩⟩⟩⟩⟩⟩⟩⟩⟩⟩⟩⟩⟩
set_option maxRecDepth 20000 in
theorem gd_245 : am_Good 245 := ⟨cw_Model_quarrel, kt_Model_quarrel, rfl, ck_Model_quarrel⟩
set_option maxRecDepth 20000 in
theorem gd_246 : am_Good 246 := ⟨cw_Model_calm, kt_Model_calm, rfl, ck_Model_calm⟩
set_option maxRecDepth 20000 in
theorem gd_247 : am_Good 247 := ⟨cw_Model_isNumber, kt_Model_isNumber, rfl, ck_Model_isNumber⟩
set_option maxRecDepth 20000 in
theorem gd_248 : am_Good 248 := ⟨cw_Model_hint, kt_Model_hint, rfl, ck_Model_hint⟩
set_option maxRecDepth 20000 in
theorem gd_249 : am_Good 249 := ⟨cw_Model_isKind, kt_Model_isKind, rfl, ck_Model_isKind⟩
set_option maxRecDepth 20000 in
theorem gd_250 : am_Good 250 := ⟨cw_Model_followsNumber, kt_Model_followsNumber, rfl, ck_Model_followsNumber⟩
set_option maxRecDepth 20000 in
theorem gd_251 : am_Good 251 := ⟨cw_Model_between, kt_Model_between, rfl, ck_Model_between⟩
set_option maxRecDepth 20000 in
theorem gd_252 : am_Good 252 := ⟨cw_Model_says, kt_Model_says, rfl, ck_Model_says⟩
set_option maxRecDepth 20000 in
theorem gd_253 : am_Good 253 := ⟨cw_Model_all, kt_Model_all, rfl, ck_Model_all⟩
set_option maxRecDepth 20000 in
theorem gd_254 : am_Good 254 := ⟨cw_Model_otherwise, kt_Model_otherwise, rfl, ck_Model_otherwise⟩
set_option maxRecDepth 20000 in
theorem gd_255 : am_Good 255 := ⟨cw_Model_tellsNot, kt_Model_tellsNot, rfl, ck_Model_tellsNot⟩
set_option maxRecDepth 20000 in
theorem gd_256 : am_Good 256 := ⟨cw_Model_leadsTo, kt_Model_leadsTo, rfl, ck_Model_leadsTo⟩
set_option maxRecDepth 20000 in
theorem gd_257 : am_Good 257 := ⟨cw_Model_square, kt_Model_square, rfl, ck_Model_square⟩
set_option maxRecDepth 20000 in
theorem gd_258 : am_Good 258 := ⟨cw_Model_laysMeets, kt_Model_laysMeets, rfl, ck_Model_laysMeets⟩
set_option maxRecDepth 20000 in
theorem gd_259 : am_Good 259 := ⟨cw_Model_canMeet, kt_Model_canMeet, rfl, ck_Model_canMeet⟩
set_option maxRecDepth 20000 in
theorem gd_260 : am_Good 260 := ⟨cw_Model_laysWorld, kt_Model_laysWorld, rfl, ck_Model_laysWorld⟩
set_option maxRecDepth 20000 in
theorem gd_261 : am_Good 261 := ⟨cw_Model_world, kt_Model_world, rfl, ck_Model_world⟩
set_option maxRecDepth 20000 in
theorem gd_262 : am_Good 262 := ⟨cw_Model_name, kt_Model_name, rfl, ck_Model_name⟩
set_option maxRecDepth 20000 in
theorem gd_263 : am_Good 263 := ⟨cw_Model_subject, kt_Model_subject, rfl, ck_Model_subject⟩
set_option maxRecDepth 20000 in
theorem gd_264 : am_Good 264 := ⟨cw_Model_predicate, kt_Model_predicate, rfl, ck_Model_predicate⟩
set_option maxRecDepth 20000 in
theorem gd_265 : am_Good 265 := ⟨cw_Model_figure, kt_Model_figure, rfl, ck_Model_figure⟩
set_option maxRecDepth 20000 in
theorem gd_266 : am_Good 266 := ⟨cw_Model_middle, kt_Model_middle, rfl, ck_Model_middle⟩
set_option maxRecDepth 20000 in
theorem gd_267 : am_Good 267 := ⟨cw_Model_otherOf, kt_Model_otherOf, rfl, ck_Model_otherOf⟩
set_option maxRecDepth 20000 in
theorem gd_268 : am_Good 268 := ⟨cw_Model_concludes, kt_Model_concludes, rfl, ck_Model_concludes⟩
set_option maxRecDepth 20000 in
theorem gd_269 : am_Good 269 := ⟨cw_Model_pair, kt_Model_pair, rfl, ck_Model_pair⟩
set_option maxRecDepth 20000 in
theorem gd_270 : am_Good 270 := ⟨cw_Model_isNegative, kt_Model_isNegative, rfl, ck_Model_isNegative⟩
set_option maxRecDepth 20000 in
theorem gd_271 : am_Good 271 := ⟨cw_Model_isSpread, kt_Model_isSpread, rfl, ck_Model_isSpread⟩
set_option maxRecDepth 20000 in
theorem gd_272 : am_Good 272 := ⟨cw_Model_wrong, kt_Model_wrong, rfl, ck_Model_wrong⟩
set_option maxRecDepth 20000 in
theorem gd_273 : am_Good 273 := ⟨cw_Model_concluded, kt_Model_concluded, rfl, ck_Model_concluded⟩
set_option maxRecDepth 20000 in
theorem gd_274 : am_Good 274 := ⟨cw_Model_derives, kt_Model_derives, rfl, ck_Model_derives⟩
set_option maxRecDepth 20000 in
theorem gd_275 : am_Good 275 := ⟨cw_Model_isSimple, kt_Model_isSimple, rfl, ck_Model_isSimple⟩
set_option maxRecDepth 20000 in
theorem gd_276 : am_Good 276 := ⟨cw_Model_derived, kt_Model_derived, rfl, ck_Model_derived⟩
set_option maxRecDepth 20000 in
theorem gd_277 : am_Good 277 := ⟨cw_Model_by, kt_Model_by, rfl, ck_Model_by⟩
set_option maxRecDepth 20000 in
theorem gd_278 : am_Good 278 := ⟨cw_Model_derive, kt_Model_derive, rfl, ck_Model_derive⟩
set_option maxRecDepth 20000 in
theorem gd_279 : am_Good 279 := ⟨cw_Model_bounds, kt_Model_bounds, rfl, ck_Model_bounds⟩
set_option maxRecDepth 20000 in
theorem gd_280 : am_Good 280 := ⟨cw_Model_binds, kt_Model_binds, rfl, ck_Model_binds⟩
set_option maxRecDepth 20000 in
theorem gd_281 : am_Good 281 := ⟨cw_Model_posit, kt_Model_posit, rfl, ck_Model_posit⟩
set_option maxRecDepth 20000 in
theorem gd_282 : am_Good 282 := ⟨cw_Model_propose, kt_Model_propose, rfl, ck_Model_propose⟩
set_option maxRecDepth 20000 in
theorem gd_283 : am_Good 283 := ⟨cw_Model_bound, kt_Model_bound, rfl, ck_Model_bound⟩
set_option maxRecDepth 20000 in
theorem gd_284 : am_Good 284 := ⟨cw_Model_draws, kt_Model_draws, rfl, ck_Model_draws⟩
set_option maxRecDepth 20000 in
theorem gd_285 : am_Good 285 := ⟨cw_Model_riddles, kt_Model_riddles, rfl, ck_Model_riddles⟩
set_option maxRecDepth 20000 in
theorem gd_286 : am_Good 286 := ⟨cw_Model_followsMood, kt_Model_followsMood, rfl, ck_Model_followsMood⟩
set_option maxRecDepth 20000 in
theorem gd_287 : am_Good 287 := ⟨cw_Model_riddle, kt_Model_riddle, rfl, ck_Model_riddle⟩
set_option maxRecDepth 20000 in
theorem gd_288 : am_Good 288 := ⟨cw_Model_drawn, kt_Model_drawn, rfl, ck_Model_drawn⟩
set_option maxRecDepth 20000 in
theorem gd_289 : am_Good 289 := ⟨cw_Model_count, kt_Model_count, rfl, ck_Model_count⟩
set_option maxRecDepth 20000 in
theorem gd_290 : am_Good 290 := ⟨cw_Model_status, kt_Model_status, rfl, ck_Model_status⟩
def am_js5 : List Nat := [245, 246, 247, 248, 249, 250, 251, 252, 253, 254, 255, 256, 257, 258, 259, 260, 261, 262, 263, 264, 265, 266, 267, 268, 269, 270, 271, 272, 273, 274, 275, 276, 277, 278, 279, 280, 281, 282, 283, 284, 285, 286, 287, 288, 289, 290]
theorem am_gd5 : ∀ j ∈ am_js5, am_Good j := List.forall_mem_cons.mpr ⟨gd_245, List.forall_mem_cons.mpr ⟨gd_246, List.forall_mem_cons.mpr ⟨gd_247, List.forall_mem_cons.mpr ⟨gd_248, List.forall_mem_cons.mpr ⟨gd_249, List.forall_mem_cons.mpr ⟨gd_250, List.forall_mem_cons.mpr ⟨gd_251, List.forall_mem_cons.mpr ⟨gd_252, List.forall_mem_cons.mpr ⟨gd_253, List.forall_mem_cons.mpr ⟨gd_254, List.forall_mem_cons.mpr ⟨gd_255, List.forall_mem_cons.mpr ⟨gd_256, List.forall_mem_cons.mpr ⟨gd_257, List.forall_mem_cons.mpr ⟨gd_258, List.forall_mem_cons.mpr ⟨gd_259, List.forall_mem_cons.mpr ⟨gd_260, List.forall_mem_cons.mpr ⟨gd_261, List.forall_mem_cons.mpr ⟨gd_262, List.forall_mem_cons.mpr ⟨gd_263, List.forall_mem_cons.mpr ⟨gd_264, List.forall_mem_cons.mpr ⟨gd_265, List.forall_mem_cons.mpr ⟨gd_266, List.forall_mem_cons.mpr ⟨gd_267, List.forall_mem_cons.mpr ⟨gd_268, List.forall_mem_cons.mpr ⟨gd_269, List.forall_mem_cons.mpr ⟨gd_270, List.forall_mem_cons.mpr ⟨gd_271, List.forall_mem_cons.mpr ⟨gd_272, List.forall_mem_cons.mpr ⟨gd_273, List.forall_mem_cons.mpr ⟨gd_274, List.forall_mem_cons.mpr ⟨gd_275, List.forall_mem_cons.mpr ⟨gd_276, List.forall_mem_cons.mpr ⟨gd_277, List.forall_mem_cons.mpr ⟨gd_278, List.forall_mem_cons.mpr ⟨gd_279, List.forall_mem_cons.mpr ⟨gd_280, List.forall_mem_cons.mpr ⟨gd_281, List.forall_mem_cons.mpr ⟨gd_282, List.forall_mem_cons.mpr ⟨gd_283, List.forall_mem_cons.mpr ⟨gd_284, List.forall_mem_cons.mpr ⟨gd_285, List.forall_mem_cons.mpr ⟨gd_286, List.forall_mem_cons.mpr ⟨gd_287, List.forall_mem_cons.mpr ⟨gd_288, List.forall_mem_cons.mpr ⟨gd_289, List.forall_mem_cons.mpr ⟨gd_290, fun _ h => absurd h List.not_mem_nil⟩⟩⟩⟩⟩⟩⟩⟩⟩⟩⟩⟩⟩⟩⟩⟩⟩⟩⟩⟩⟩⟩⟩⟩⟩⟩⟩⟩⟩⟩⟩⟩⟩⟩⟩⟩⟩⟩⟩⟩⟩⟩⟩⟩⟩⟩
def am_js : List Nat := am_js0 ++ (am_js1 ++ (am_js2 ++ (am_js3 ++ (am_js4 ++ (am_js5)))))
theorem am_gd : ∀ j ∈ am_js, am_Good j := List.forall_mem_append.mpr ⟨am_gd0, List.forall_mem_append.mpr ⟨am_gd1, List.forall_mem_append.mpr ⟨am_gd2, List.forall_mem_append.mpr ⟨am_gd3, List.forall_mem_append.mpr ⟨am_gd4, am_gd5⟩⟩⟩⟩⟩
theorem am_js_ok : (List.range 291).all (fun j => decide (j ∈ am_js)) = true := by decide +kernel
theorem am_good {j : Nat} (hj : j < 291) : am_Good j := am_gd j (by have := am_rng am_js_ok hj; simpa using this)
def am_mp : List (Nat × Nat × Nat × Nat) := am_mp0 ++ (am_mp1 ++ (am_mp2 ++ (am_mp3 ++ (am_mp4 ++ (am_mp5)))))
theorem am_zall {α β : Type} {f : α × β → Bool} {a b : List α} {c d : List β} (h : a.length = c.length) (h1 : (a.zip c).all f = true) (h2 : (b.zip d).all f = true) : ((a ++ b).zip (c ++ d)).all f = true := by
  rw [List.zip_append h, List.all_append, h1, h2]; rfl
theorem am_mi_ok : (am_mi.zip am_mp).all am_miok = true := am_zall (by decide +kernel) am_mi0_ok (am_zall (by decide +kernel) am_mi1_ok (am_zall (by decide +kernel) am_mi2_ok (am_zall (by decide +kernel) am_mi3_ok (am_zall (by decide +kernel) am_mi4_ok am_mi5_ok))))
theorem am_mi_len : 291 ≤ am_mi.length ∧ 291 ≤ am_mp.length := by decide +kernel
theorem am_nolaw : (List.range 291).all (fun j => !((am_m j).2.1.cls == "MoodSlipsLaw") && (decide (¬ (am_m j).2.2.2.2.2.2 = 2) || decide ((am_m j).2.2.2.2.1 = none))) = true := by decide +kernel
def am_mq (j : Nat) : Nat × Nat × Nat × Nat := am_mp.getD j (0, 0, 0, 0)
/-- the facts of a method's row -/
theorem am_mok {j : Nat} (hj : j < 291) : (am_wat (am_mq j).2.1 (.initialized (am_m j).2.1.cls) = true ∧ am_own (am_m j).1 = (am_m j).2.1.cls ∧ (am_m j).2.2.2.1 ≤ 20 ∧ plainName (am_m j).2.1.cls = true
  ∧ ((am_m j).2.1.cls ≠ "java/lang/invoke/MethodHandle" ∧ (am_m j).2.1.cls ≠ "java/lang/invoke/VarHandle") ∧ (parseMethodDescriptor (am_m j).2.1.desc).map (fun d => d.parameters.length) = some (am_m j).2.2.2.2.2.1) ∧
  (if (am_m j).2.2.2.2.2.2 = 0 then am_wat (am_mq j).2.2.1 (.static (am_m j).2.1) else if (am_m j).2.2.2.2.2.2 = 1 then am_wat (am_mq j).2.2.1 (.instanceMethod (am_m j).2.1) && (if (am_mq j).2.2.2 < 10000 then am_sat (am_mq j).2.2.2 (am_m j).2.1 else am_wat ((am_mq j).2.2.2 - 10000) (.selects (am_m j).2.1.cls (am_m j).2.1 (am_m j).2.1)) else am_wat (am_mq j).2.2.1 (.instanceMethod (am_m j).2.1) && decide ((am_m j).2.1.name = "<init>")) = true := by
  have h1 : j < am_mi.length := Nat.lt_of_lt_of_le hj am_mi_len.1
  have h2 : j < am_mp.length := Nat.lt_of_lt_of_le hj am_mi_len.2
  have h3 : (am_m j, am_mq j) ∈ am_mi.zip am_mp := by
    refine List.mem_of_getElem? (i := j) ?_
    rw [List.getElem?_zip_eq_some]
    unfold am_m am_mq
    rw [List.getD_eq_getElem?_getD, List.getD_eq_getElem?_getD, List.getElem?_eq_getElem h1, List.getElem?_eq_getElem h2]
    exact ⟨rfl, rfl⟩
  have h4 := List.all_eq_true.mp am_mi_ok _ h3
  have h5 := am_rng am_nolaw hj
  simp only [Bool.and_eq_true, Bool.not_eq_true'] at h5
  unfold am_miok at h4
  dsimp only at h4
  rw [h5.1, Bool.false_or] at h4
  simp only [Bool.and_eq_true, decide_eq_true_eq] at h4
  obtain ⟨⟨⟨⟨⟨⟨a1, a2⟩, a3⟩, a4⟩, a5⟩, a6⟩, a7⟩ := h4
  exact ⟨⟨a1, a2, a3, a4, a5, a6⟩, a7⟩
theorem am_sel {j : Nat} (hj : j < 291) (hk : (am_m j).2.2.2.2.2.2 = 1) : Cond.instanceMethod (am_m j).2.1 ∈ am_TBL ∧ Cond.selects (am_m j).2.1.cls (am_m j).2.1 (am_m j).2.1 ∈ am_TBL := by
  have h := (am_mok hj).2
  rw [if_neg (by rw [hk]; decide), if_pos hk, Bool.and_eq_true] at h
  refine ⟨am_wat_in h.1, ?_⟩
  have h2 := h.2
  split at h2
  · exact am_sat_in h2
  · exact am_wat_in h2
theorem am_stt {j : Nat} (hj : j < 291) (hk : (am_m j).2.2.2.2.2.2 = 0) : Cond.static (am_m j).2.1 ∈ am_TBL := by
  have h := (am_mok hj).2
  rw [if_pos hk] at h
  exact am_wat_in h
theorem am_ini {j : Nat} (hj : j < 291) (hk : (am_m j).2.2.2.2.2.2 = 2) : Cond.instanceMethod (am_m j).2.1 ∈ am_TBL ∧ (am_m j).2.1.name = "<init>" ∧ (am_m j).2.2.2.2.1 = none := by
  have h := (am_mok hj).2
  have h5 := am_rng am_nolaw hj
  simp only [Bool.and_eq_true, Bool.or_eq_true, decide_eq_true_eq] at h5
  rw [if_neg (by rw [hk]; decide), if_neg (by rw [hk]; decide), Bool.and_eq_true, decide_eq_true_eq] at h
  exact ⟨am_wat_in h.1, h.2, h5.2.resolve_left (fun q => q hk)⟩
def am_ws (j : Nat) : List Cond := Cond.code (am_m j).2.1 (am_m j).2.2.1 (am_m j).2.2.2.1 (am_m j).2.2.2.2.1 :: am_TBL
theorem am_cw {j : Nat} (hj : j < 291) : Cond.code (am_m j).2.1 (am_m j).2.2.1 (am_m j).2.2.2.1 (am_m j).2.2.2.2.1 ∈ am_TBL := List.mem_filter.mpr ⟨List.mem_append_right _ (am_good hj).1, rfl⟩
theorem am_tgood {w : Cond} (h : w ∈ am_TBL) : w ∈ am_TBL ∧ ((w.onTables && w.keeps) = true ∨ ∃ ty, w = .arrayClass ty) := ⟨h, good_of_word (List.mem_filter.mp h).2⟩
theorem am_gin {j : Nat} (hj : j < 291) : GoodIn am_TBL (am_ws j) := fun w hw => by
  rcases List.mem_cons.mp hw with e | e
  · subst e; exact am_tgood (am_cw hj)
  · exact am_tgood e
