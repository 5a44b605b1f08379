/-! ===== the code words (printed by wip/tools/gen3.py) ===== -/
theorem am_t1 : ∀ w ∈ tables_1_1, w ∈ tables_1 := fun w h => by unfold tables_1; exact List.mem_append_left _ h
theorem am_t2 : ∀ w ∈ tables_1_2, w ∈ tables_1 := fun w h => by unfold tables_1; exact List.mem_append_right _ (List.mem_append_left _ h)
theorem am_t3 : ∀ w ∈ tables_1_3, w ∈ tables_1 := fun w h => by unfold tables_1; exact List.mem_append_right _ (List.mem_append_right _ (List.mem_append_left _ h))
theorem am_t4 : ∀ w ∈ tables_1_4, w ∈ tables_1 := fun w h => by unfold tables_1; exact List.mem_append_right _ (List.mem_append_right _ (List.mem_append_right _ (List.mem_append_left _ h)))
theorem am_t5 : ∀ w ∈ tables_1_5, w ∈ tables_1 := fun w h => by unfold tables_1; exact List.mem_append_right _ (List.mem_append_right _ (List.mem_append_right _ (List.mem_append_right _ (List.mem_append_left _ h))))
theorem am_t6 : ∀ w ∈ tables_1_6, w ∈ tables_1 := fun w h => by unfold tables_1; exact List.mem_append_right _ (List.mem_append_right _ (List.mem_append_right _ (List.mem_append_right _ (List.mem_append_right _ (List.mem_append_left _ h)))))
theorem am_t7 : ∀ w ∈ tables_1_7, w ∈ tables_1 := fun w h => by unfold tables_1; exact List.mem_append_right _ (List.mem_append_right _ (List.mem_append_right _ (List.mem_append_right _ (List.mem_append_right _ (List.mem_append_right _ (List.mem_append_left _ h))))))
theorem am_t8 : ∀ w ∈ tables_1_8, w ∈ tables_1 := fun w h => by unfold tables_1; exact List.mem_append_right _ (List.mem_append_right _ (List.mem_append_right _ (List.mem_append_right _ (List.mem_append_right _ (List.mem_append_right _ (List.mem_append_right _ (h)))))))
set_option maxRecDepth 20000 in
theorem cw_Integer_numberOfTrailingZeros : Cond.code (am_m 0).2.1 (am_m 0).2.2.1 (am_m 0).2.2.2.1 (am_m 0).2.2.2.2.1 ∈ tables_1 := am_t5 _ (List.mem_of_getElem? (i := 104) rfl)
set_option maxRecDepth 20000 in
theorem cw_Integer_bitCount : Cond.code (am_m 1).2.1 (am_m 1).2.2.1 (am_m 1).2.2.2.1 (am_m 1).2.2.2.2.1 ∈ tables_1 := am_t4 _ (List.mem_of_getElem? (i := 150) rfl)
set_option maxRecDepth 20000 in
theorem cw_Long_numberOfTrailingZeros : Cond.code (am_m 2).2.1 (am_m 2).2.2.1 (am_m 2).2.2.2.1 (am_m 2).2.2.2.2.1 ∈ tables_1 := am_t5 _ (List.mem_of_getElem? (i := 101) rfl)
set_option maxRecDepth 20000 in
theorem cw_Long_bitCount : Cond.code (am_m 3).2.1 (am_m 3).2.2.1 (am_m 3).2.2.2.1 (am_m 3).2.2.2.2.1 ∈ tables_1 := am_t4 _ (List.mem_of_getElem? (i := 34) rfl)
set_option maxRecDepth 20000 in
theorem cw_Arrays_fill_J : Cond.code (am_m 4).2.1 (am_m 4).2.2.1 (am_m 4).2.2.2.1 (am_m 4).2.2.2.2.1 ∈ tables_1 := am_t4 _ (List.mem_of_getElem? (i := 68) rfl)
set_option maxRecDepth 20000 in
theorem cw_Arrays_fill_I : Cond.code (am_m 5).2.1 (am_m 5).2.2.1 (am_m 5).2.2.2.1 (am_m 5).2.2.2.2.1 ∈ tables_1 := am_t5 _ (List.mem_of_getElem? (i := 173) rfl)
set_option maxRecDepth 20000 in
theorem cw_Arrays_fill_B : Cond.code (am_m 6).2.1 (am_m 6).2.2.1 (am_m 6).2.2.2.1 (am_m 6).2.2.2.2.1 ∈ tables_1 := am_t4 _ (List.mem_of_getElem? (i := 180) rfl)
set_option maxRecDepth 20000 in
theorem cw_Arrays_copyOf : Cond.code (am_m 7).2.1 (am_m 7).2.2.1 (am_m 7).2.2.2.1 (am_m 7).2.2.2.2.1 ∈ tables_1 := am_t3 _ (List.mem_of_getElem? (i := 188) rfl)
set_option maxRecDepth 20000 in
theorem cw_Slips_init : Cond.code (am_m 8).2.1 (am_m 8).2.2.1 (am_m 8).2.2.2.1 (am_m 8).2.2.2.2.1 ∈ tables_1 := am_t1 _ (List.mem_of_getElem? (i := 28) rfl)
set_option maxRecDepth 20000 in
theorem cw_Slips_feed : Cond.code (am_m 9).2.1 (am_m 9).2.2.1 (am_m 9).2.2.2.1 (am_m 9).2.2.2.2.1 ∈ tables_1 := am_t2 _ (List.mem_of_getElem? (i := 216) rfl)
set_option maxRecDepth 20000 in
theorem cw_Slips_end : Cond.code (am_m 10).2.1 (am_m 10).2.2.1 (am_m 10).2.2.2.1 (am_m 10).2.2.2.2.1 ∈ tables_1 := am_t2 _ (List.mem_of_getElem? (i := 224) rfl)
set_option maxRecDepth 20000 in
theorem cw_Slips_slip : Cond.code (am_m 11).2.1 (am_m 11).2.2.1 (am_m 11).2.2.2.1 (am_m 11).2.2.2.2.1 ∈ tables_1 := am_t2 _ (List.mem_of_getElem? (i := 228) rfl)
set_option maxRecDepth 20000 in
theorem cw_Slips_question : Cond.code (am_m 12).2.1 (am_m 12).2.2.1 (am_m 12).2.2.2.1 (am_m 12).2.2.2.2.1 ∈ tables_1 := am_t3 _ (List.mem_of_getElem? (i := 235) rfl)
set_option maxRecDepth 20000 in
theorem cw_Slips_fault : Cond.code (am_m 13).2.1 (am_m 13).2.2.1 (am_m 13).2.2.2.1 (am_m 13).2.2.2.2.1 ∈ tables_1 := am_t4 _ (List.mem_of_getElem? (i := 3) rfl)
set_option maxRecDepth 20000 in
theorem cw_Slips_ask : Cond.code (am_m 14).2.1 (am_m 14).2.2.1 (am_m 14).2.2.2.1 (am_m 14).2.2.2.2.1 ∈ tables_1 := am_t3 _ (List.mem_of_getElem? (i := 239) rfl)
set_option maxRecDepth 20000 in
theorem cw_Slips_write : Cond.code (am_m 15).2.1 (am_m 15).2.2.1 (am_m 15).2.2.2.1 (am_m 15).2.2.2.2.1 ∈ tables_1 := am_t4 _ (List.mem_of_getElem? (i := 7) rfl)
set_option maxRecDepth 20000 in
theorem cw_Slips_take : Cond.code (am_m 16).2.1 (am_m 16).2.2.1 (am_m 16).2.2.2.1 (am_m 16).2.2.2.2.1 ∈ tables_1 := am_t4 _ (List.mem_of_getElem? (i := 11) rfl)
set_option maxRecDepth 20000 in
theorem cw_Slips_existence : Cond.code (am_m 17).2.1 (am_m 17).2.2.1 (am_m 17).2.2.2.1 (am_m 17).2.2.2.2.1 ∈ tables_1 := am_t4 _ (List.mem_of_getElem? (i := 19) rfl)
set_option maxRecDepth 20000 in
theorem cw_Slips_of : Cond.code (am_m 18).2.1 (am_m 18).2.2.1 (am_m 18).2.2.2.1 (am_m 18).2.2.2.2.1 ∈ tables_1 := am_t4 _ (List.mem_of_getElem? (i := 23) rfl)
set_option maxRecDepth 20000 in
theorem cw_Slips_has : Cond.code (am_m 19).2.1 (am_m 19).2.2.1 (am_m 19).2.2.2.1 (am_m 19).2.2.2.2.1 ∈ tables_1 := am_t4 _ (List.mem_of_getElem? (i := 41) rfl)
set_option maxRecDepth 20000 in
theorem cw_Slips_letter : Cond.code (am_m 20).2.1 (am_m 20).2.2.1 (am_m 20).2.2.2.1 (am_m 20).2.2.2.2.1 ∈ tables_1 := am_t4 _ (List.mem_of_getElem? (i := 48) rfl)
set_option maxRecDepth 20000 in
theorem cw_Slips_quarrels : Cond.code (am_m 21).2.1 (am_m 21).2.2.1 (am_m 21).2.2.2.1 (am_m 21).2.2.2.2.1 ∈ tables_1 := am_t4 _ (List.mem_of_getElem? (i := 52) rfl)
set_option maxRecDepth 20000 in
theorem cw_Slips_follows : Cond.code (am_m 22).2.1 (am_m 22).2.2.1 (am_m 22).2.2.2.1 (am_m 22).2.2.2.2.1 ∈ tables_1 := am_t4 _ (List.mem_of_getElem? (i := 107) rfl)
set_option maxRecDepth 20000 in
theorem cw_Slips_denied : Cond.code (am_m 23).2.1 (am_m 23).2.2.1 (am_m 23).2.2.2.1 (am_m 23).2.2.2.2.1 ∈ tables_1 := am_t4 _ (List.mem_of_getElem? (i := 123) rfl)
set_option maxRecDepth 20000 in
theorem cw_Slips_open : Cond.code (am_m 24).2.1 (am_m 24).2.2.1 (am_m 24).2.2.2.1 (am_m 24).2.2.2.2.1 ∈ tables_1 := am_t4 _ (List.mem_of_getElem? (i := 131) rfl)
set_option maxRecDepth 20000 in
theorem cw_Slips_idle : Cond.code (am_m 25).2.1 (am_m 25).2.2.1 (am_m 25).2.2.2.1 (am_m 25).2.2.2.2.1 ∈ tables_1 := am_t4 _ (List.mem_of_getElem? (i := 135) rfl)
set_option maxRecDepth 20000 in
theorem cw_Slips_assume : Cond.code (am_m 26).2.1 (am_m 26).2.2.1 (am_m 26).2.2.2.1 (am_m 26).2.2.2.2.1 ∈ tables_1 := am_t4 _ (List.mem_of_getElem? (i := 60) rfl)
set_option maxRecDepth 20000 in
theorem cw_Slips_least : Cond.code (am_m 27).2.1 (am_m 27).2.2.1 (am_m 27).2.2.2.1 (am_m 27).2.2.2.2.1 ∈ tables_1 := am_t4 _ (List.mem_of_getElem? (i := 139) rfl)
set_option maxRecDepth 20000 in
theorem cw_Slips_findSufficing : Cond.code (am_m 28).2.1 (am_m 28).2.2.1 (am_m 28).2.2.2.1 (am_m 28).2.2.2.2.1 ∈ tables_1 := am_t4 _ (List.mem_of_getElem? (i := 143) rfl)
set_option maxRecDepth 20000 in
theorem cw_Slips_suffices : Cond.code (am_m 29).2.1 (am_m 29).2.2.1 (am_m 29).2.2.2.1 (am_m 29).2.2.2.2.1 ∈ tables_1 := am_t4 _ (List.mem_of_getElem? (i := 157) rfl)
set_option maxRecDepth 20000 in
theorem cw_Slips_quarrel : Cond.code (am_m 30).2.1 (am_m 30).2.2.1 (am_m 30).2.2.2.1 (am_m 30).2.2.2.2.1 ∈ tables_1 := am_t4 _ (List.mem_of_getElem? (i := 169) rfl)
set_option maxRecDepth 20000 in
theorem cw_Slips_calm : Cond.code (am_m 31).2.1 (am_m 31).2.2.1 (am_m 31).2.2.2.1 (am_m 31).2.2.2.2.1 ∈ tables_1 := am_t4 _ (List.mem_of_getElem? (i := 203) rfl)
set_option maxRecDepth 20000 in
theorem cw_Slips_findQuarrels : Cond.code (am_m 32).2.1 (am_m 32).2.2.1 (am_m 32).2.2.2.1 (am_m 32).2.2.2.2.1 ∈ tables_1 := am_t4 _ (List.mem_of_getElem? (i := 173) rfl)
set_option maxRecDepth 20000 in
theorem cw_Slips_forgetFindings : Cond.code (am_m 33).2.1 (am_m 33).2.2.1 (am_m 33).2.2.2.1 (am_m 33).2.2.2.2.1 ∈ tables_1 := am_t3 _ (List.mem_of_getElem? (i := 227) rfl)
set_option maxRecDepth 20000 in
theorem cw_Slips_hint : Cond.code (am_m 34).2.1 (am_m 34).2.2.1 (am_m 34).2.2.2.1 (am_m 34).2.2.2.2.1 ∈ tables_1 := am_t4 _ (List.mem_of_getElem? (i := 207) rfl)
set_option maxRecDepth 20000 in
theorem cw_Slips_between : Cond.code (am_m 35).2.1 (am_m 35).2.2.1 (am_m 35).2.2.2.1 (am_m 35).2.2.2.2.1 ∈ tables_1 := am_t5 _ (List.mem_of_getElem? (i := 5) rfl)
set_option maxRecDepth 20000 in
theorem cw_Slips_square : Cond.code (am_m 36).2.1 (am_m 36).2.2.1 (am_m 36).2.2.2.1 (am_m 36).2.2.2.2.1 ∈ tables_1 := am_t5 _ (List.mem_of_getElem? (i := 15) rfl)
set_option maxRecDepth 20000 in
theorem cw_Slips_canBothFail : Cond.code (am_m 37).2.1 (am_m 37).2.2.1 (am_m 37).2.2.2.1 (am_m 37).2.2.2.2.1 ∈ tables_1 := am_t5 _ (List.mem_of_getElem? (i := 19) rfl)
set_option maxRecDepth 20000 in
theorem cw_Slips_says : Cond.code (am_m 38).2.1 (am_m 38).2.2.1 (am_m 38).2.2.2.1 (am_m 38).2.2.2.2.1 ∈ tables_1 := am_t5 _ (List.mem_of_getElem? (i := 29) rfl)
set_option maxRecDepth 20000 in
theorem cw_Slips_all : Cond.code (am_m 39).2.1 (am_m 39).2.2.1 (am_m 39).2.2.2.1 (am_m 39).2.2.2.2.1 ∈ tables_1 := am_t5 _ (List.mem_of_getElem? (i := 36) rfl)
set_option maxRecDepth 20000 in
theorem cw_Slips_countFollowing : Cond.code (am_m 40).2.1 (am_m 40).2.2.1 (am_m 40).2.2.2.1 (am_m 40).2.2.2.2.1 ∈ tables_1 := am_t5 _ (List.mem_of_getElem? (i := 40) rfl)
set_option maxRecDepth 20000 in
theorem cw_Slips_simpleFollows : Cond.code (am_m 41).2.1 (am_m 41).2.2.1 (am_m 41).2.2.2.1 (am_m 41).2.2.2.2.1 ∈ tables_1 := am_t5 _ (List.mem_of_getElem? (i := 10) rfl)
set_option maxRecDepth 20000 in
theorem cw_Slips_world : Cond.code (am_m 42).2.1 (am_m 42).2.2.1 (am_m 42).2.2.2.1 (am_m 42).2.2.2.2.1 ∈ tables_1 := am_t5 _ (List.mem_of_getElem? (i := 44) rfl)
set_option maxRecDepth 20000 in
theorem cw_Slips_name : Cond.code (am_m 43).2.1 (am_m 43).2.2.1 (am_m 43).2.2.2.1 (am_m 43).2.2.2.2.1 ∈ tables_1 := am_t5 _ (List.mem_of_getElem? (i := 89) rfl)
set_option maxRecDepth 20000 in
theorem cw_Slips_pair : Cond.code (am_m 44).2.1 (am_m 44).2.2.1 (am_m 44).2.2.2.1 (am_m 44).2.2.2.2.1 ∈ tables_1 := am_t5 _ (List.mem_of_getElem? (i := 109) rfl)
set_option maxRecDepth 20000 in
theorem cw_Slips_wrong : Cond.code (am_m 45).2.1 (am_m 45).2.2.1 (am_m 45).2.2.2.1 (am_m 45).2.2.2.2.1 ∈ tables_1 := am_t5 _ (List.mem_of_getElem? (i := 147) rfl)
set_option maxRecDepth 20000 in
theorem cw_Slips_pairSlips : Cond.code (am_m 46).2.1 (am_m 46).2.2.1 (am_m 46).2.2.2.1 (am_m 46).2.2.2.2.1 ∈ tables_1 := am_t5 _ (List.mem_of_getElem? (i := 113) rfl)
set_option maxRecDepth 20000 in
theorem cw_Slips_derived : Cond.code (am_m 47).2.1 (am_m 47).2.2.1 (am_m 47).2.2.2.1 (am_m 47).2.2.2.2.1 ∈ tables_1 := am_t5 _ (List.mem_of_getElem? (i := 162) rfl)
set_option maxRecDepth 20000 in
theorem cw_Slips_by : Cond.code (am_m 48).2.1 (am_m 48).2.2.1 (am_m 48).2.2.2.1 (am_m 48).2.2.2.2.1 ∈ tables_1 := am_t5 _ (List.mem_of_getElem? (i := 202) rfl)
set_option maxRecDepth 20000 in
theorem cw_Slips_derive : Cond.code (am_m 49).2.1 (am_m 49).2.2.1 (am_m 49).2.2.2.1 (am_m 49).2.2.2.2.1 ∈ tables_1 := am_t5 _ (List.mem_of_getElem? (i := 206) rfl)
set_option maxRecDepth 20000 in
theorem cw_Slips_findDerived : Cond.code (am_m 50).2.1 (am_m 50).2.2.1 (am_m 50).2.2.2.1 (am_m 50).2.2.2.2.1 ∈ tables_1 := am_t5 _ (List.mem_of_getElem? (i := 166) rfl)
set_option maxRecDepth 20000 in
theorem cw_Slips_posit : Cond.code (am_m 51).2.1 (am_m 51).2.2.1 (am_m 51).2.2.2.1 (am_m 51).2.2.2.2.1 ∈ tables_1 := am_t5 _ (List.mem_of_getElem? (i := 210) rfl)
set_option maxRecDepth 20000 in
theorem cw_Slips_propose : Cond.code (am_m 52).2.1 (am_m 52).2.2.1 (am_m 52).2.2.2.1 (am_m 52).2.2.2.2.1 ∈ tables_1 := am_t5 _ (List.mem_of_getElem? (i := 218) rfl)
set_option maxRecDepth 20000 in
theorem cw_Slips_bound : Cond.code (am_m 53).2.1 (am_m 53).2.2.1 (am_m 53).2.2.2.1 (am_m 53).2.2.2.2.1 ∈ tables_1 := am_t5 _ (List.mem_of_getElem? (i := 226) rfl)
set_option maxRecDepth 20000 in
theorem cw_Slips_assumeBound : Cond.code (am_m 54).2.1 (am_m 54).2.2.1 (am_m 54).2.2.2.1 (am_m 54).2.2.2.2.1 ∈ tables_1 := am_t5 _ (List.mem_of_getElem? (i := 222) rfl)
set_option maxRecDepth 20000 in
theorem cw_Slips_riddle : Cond.code (am_m 55).2.1 (am_m 55).2.2.1 (am_m 55).2.2.2.1 (am_m 55).2.2.2.2.1 ∈ tables_1 := am_t5 _ (List.mem_of_getElem? (i := 230) rfl)
set_option maxRecDepth 20000 in
theorem cw_Slips_nextState : Cond.code (am_m 56).2.1 (am_m 56).2.2.1 (am_m 56).2.2.2.1 (am_m 56).2.2.2.2.1 ∈ tables_1 := am_t5 _ (List.mem_of_getElem? (i := 234) rfl)
set_option maxRecDepth 20000 in
theorem cw_Slips_drawn : Cond.code (am_m 57).2.1 (am_m 57).2.2.1 (am_m 57).2.2.2.1 (am_m 57).2.2.2.2.1 ∈ tables_1 := am_t5 _ (List.mem_of_getElem? (i := 239) rfl)
set_option maxRecDepth 20000 in
theorem cw_Slips_countInRiddle : Cond.code (am_m 58).2.1 (am_m 58).2.2.1 (am_m 58).2.2.2.1 (am_m 58).2.2.2.2.1 ∈ tables_1 := am_t6 _ (List.mem_of_getElem? (i := 3) rfl)
set_option maxRecDepth 20000 in
theorem cw_Slips_image : Cond.code (am_m 59).2.1 (am_m 59).2.2.1 (am_m 59).2.2.2.1 (am_m 59).2.2.2.2.1 ∈ tables_1 := am_t6 _ (List.mem_of_getElem? (i := 8) rfl)
set_option maxRecDepth 20000 in
theorem cw_Slips_back : Cond.code (am_m 60).2.1 (am_m 60).2.2.1 (am_m 60).2.2.2.1 (am_m 60).2.2.2.2.1 ∈ tables_1 := am_t6 _ (List.mem_of_getElem? (i := 16) rfl)
set_option maxRecDepth 20000 in
theorem cw_Slips_count : Cond.code (am_m 61).2.1 (am_m 61).2.2.1 (am_m 61).2.2.2.1 (am_m 61).2.2.2.2.1 ∈ tables_1 := am_t6 _ (List.mem_of_getElem? (i := 20) rfl)
set_option maxRecDepth 20000 in
theorem cw_Slips_status : Cond.code (am_m 62).2.1 (am_m 62).2.2.1 (am_m 62).2.2.2.1 (am_m 62).2.2.2.2.1 ∈ tables_1 := am_t6 _ (List.mem_of_getElem? (i := 24) rfl)
set_option maxRecDepth 20000 in
theorem cw_Slips_grant : Cond.code (am_m 63).2.1 (am_m 63).2.2.1 (am_m 63).2.2.2.1 (am_m 63).2.2.2.2.1 ∈ tables_1 := am_t3 _ (List.mem_of_getElem? (i := 231) rfl)
set_option maxRecDepth 20000 in
theorem cw_Slips_refuse : Cond.code (am_m 64).2.1 (am_m 64).2.2.1 (am_m 64).2.2.2.1 (am_m 64).2.2.2.2.1 ∈ tables_1 := am_t2 _ (List.mem_of_getElem? (i := 232) rfl)
set_option maxRecDepth 20000 in
theorem cw_Slips_isMood : Cond.code (am_m 65).2.1 (am_m 65).2.2.1 (am_m 65).2.2.2.1 (am_m 65).2.2.2.2.1 ∈ tables_1 := am_t5 _ (List.mem_of_getElem? (i := 32) rfl)
set_option maxRecDepth 20000 in
theorem cw_Slips_areTwoKinds : Cond.code (am_m 66).2.1 (am_m 66).2.2.1 (am_m 66).2.2.2.1 (am_m 66).2.2.2.2.1 ∈ tables_1 := am_t3 _ (List.mem_of_getElem? (i := 213) rfl)
set_option maxRecDepth 20000 in
theorem cw_Slips_numberOf : Cond.code (am_m 67).2.1 (am_m 67).2.2.1 (am_m 67).2.2.2.1 (am_m 67).2.2.2.2.1 ∈ tables_1 := am_t4 _ (List.mem_of_getElem? (i := 214) rfl)
set_option maxRecDepth 20000 in
theorem cw_Slips_moodOf : Cond.code (am_m 68).2.1 (am_m 68).2.2.1 (am_m 68).2.2.2.1 (am_m 68).2.2.2.2.1 ∈ tables_1 := am_t4 _ (List.mem_of_getElem? (i := 230) rfl)
set_option maxRecDepth 20000 in
theorem cw_Slips_subjectOf : Cond.code (am_m 69).2.1 (am_m 69).2.2.1 (am_m 69).2.2.2.1 (am_m 69).2.2.2.2.1 ∈ tables_1 := am_t4 _ (List.mem_of_getElem? (i := 220) rfl)
set_option maxRecDepth 20000 in
theorem cw_Slips_predicateOf : Cond.code (am_m 70).2.1 (am_m 70).2.2.1 (am_m 70).2.2.2.1 (am_m 70).2.2.2.2.1 ∈ tables_1 := am_t4 _ (List.mem_of_getElem? (i := 223) rfl)
set_option maxRecDepth 20000 in
theorem cw_Slips_isSimple : Cond.code (am_m 71).2.1 (am_m 71).2.2.1 (am_m 71).2.2.2.1 (am_m 71).2.2.2.2.1 ∈ tables_1 := am_t4 _ (List.mem_of_getElem? (i := 217) rfl)
set_option maxRecDepth 20000 in
theorem cw_Slips_isUniversal : Cond.code (am_m 72).2.1 (am_m 72).2.2.1 (am_m 72).2.2.2.1 (am_m 72).2.2.2.2.1 ∈ tables_1 := am_t4 _ (List.mem_of_getElem? (i := 239) rfl)
set_option maxRecDepth 20000 in
theorem cw_Slips_isNegative : Cond.code (am_m 73).2.1 (am_m 73).2.2.1 (am_m 73).2.2.2.1 (am_m 73).2.2.2.2.1 ∈ tables_1 := am_t5 _ (List.mem_of_getElem? (i := 154) rfl)
set_option maxRecDepth 20000 in
theorem cw_Slips_kindWord : Cond.code (am_m 74).2.1 (am_m 74).2.2.1 (am_m 74).2.2.2.1 (am_m 74).2.2.2.2.1 ∈ tables_1 := am_t3 _ (List.mem_of_getElem? (i := 126) rfl)
set_option maxRecDepth 20000 in
theorem cw_Slips_sizeOf : Cond.code (am_m 75).2.1 (am_m 75).2.2.1 (am_m 75).2.2.2.1 (am_m 75).2.2.2.2.1 ∈ tables_1 := am_t4 _ (List.mem_of_getElem? (i := 31) rfl)
set_option maxRecDepth 20000 in
theorem cw_Slips_isIn : Cond.code (am_m 76).2.1 (am_m 76).2.2.1 (am_m 76).2.2.2.1 (am_m 76).2.2.2.2.1 ∈ tables_1 := am_t4 _ (List.mem_of_getElem? (i := 44) rfl)
set_option maxRecDepth 20000 in
theorem cw_Denial_init : Cond.code (am_m 77).2.1 (am_m 77).2.2.1 (am_m 77).2.2.2.1 (am_m 77).2.2.2.2.1 ∈ tables_1 := am_t2 _ (List.mem_of_getElem? (i := 9) rfl)
set_option maxRecDepth 20000 in
theorem cw_Denial_clear : Cond.code (am_m 78).2.1 (am_m 78).2.2.1 (am_m 78).2.2.2.1 (am_m 78).2.2.2.2.1 ∈ tables_1 := am_t5 _ (List.mem_of_getElem? (i := 48) rfl)
set_option maxRecDepth 20000 in
theorem cw_Denial_consider : Cond.code (am_m 79).2.1 (am_m 79).2.2.1 (am_m 79).2.2.2.1 (am_m 79).2.2.2.2.1 ∈ tables_1 := am_t5 _ (List.mem_of_getElem? (i := 52) rfl)
set_option maxRecDepth 20000 in
theorem cw_Denial_noteMask : Cond.code (am_m 80).2.1 (am_m 80).2.2.1 (am_m 80).2.2.2.1 (am_m 80).2.2.2.2.1 ∈ tables_1 := am_t5 _ (List.mem_of_getElem? (i := 71) rfl)
set_option maxRecDepth 20000 in
theorem cw_Denial_countFewest : Cond.code (am_m 81).2.1 (am_m 81).2.2.1 (am_m 81).2.2.2.1 (am_m 81).2.2.2.2.1 ∈ tables_1 := am_t5 _ (List.mem_of_getElem? (i := 75) rfl)
set_option maxRecDepth 20000 in
theorem cw_Denial_fillTrial : Cond.code (am_m 82).2.1 (am_m 82).2.2.1 (am_m 82).2.2.2.1 (am_m 82).2.2.2.2.1 ∈ tables_1 := am_t5 _ (List.mem_of_getElem? (i := 80) rfl)
set_option maxRecDepth 20000 in
theorem cw_Denial_trialIsAhead : Cond.code (am_m 83).2.1 (am_m 83).2.2.1 (am_m 83).2.2.2.1 (am_m 83).2.2.2.2.1 ∈ tables_1 := am_t5 _ (List.mem_of_getElem? (i := 84) rfl)
set_option maxRecDepth 20000 in
theorem cw_Derivation_init : Cond.code (am_m 84).2.1 (am_m 84).2.2.1 (am_m 84).2.2.2.1 (am_m 84).2.2.2.2.1 ∈ tables_1 := am_t2 _ (List.mem_of_getElem? (i := 140) rfl)
set_option maxRecDepth 20000 in
theorem cw_Derivation_start : Cond.code (am_m 85).2.1 (am_m 85).2.2.1 (am_m 85).2.2.2.1 (am_m 85).2.2.2.2.1 ∈ tables_1 := am_t5 _ (List.mem_of_getElem? (i := 170) rfl)
set_option maxRecDepth 20000 in
theorem cw_Derivation_addGiven : Cond.code (am_m 86).2.1 (am_m 86).2.2.1 (am_m 86).2.2.2.1 (am_m 86).2.2.2.2.1 ∈ tables_1 := am_t5 _ (List.mem_of_getElem? (i := 177) rfl)
set_option maxRecDepth 20000 in
theorem cw_Derivation_run : Cond.code (am_m 87).2.1 (am_m 87).2.2.1 (am_m 87).2.2.2.1 (am_m 87).2.2.2.2.1 ∈ tables_1 := am_t5 _ (List.mem_of_getElem? (i := 182) rfl)
set_option maxRecDepth 20000 in
theorem cw_Derivation_deriveRound : Cond.code (am_m 88).2.1 (am_m 88).2.2.1 (am_m 88).2.2.2.1 (am_m 88).2.2.2.2.1 ∈ tables_1 := am_t5 _ (List.mem_of_getElem? (i := 186) rfl)
set_option maxRecDepth 20000 in
theorem cw_Derivation_addConclusion : Cond.code (am_m 89).2.1 (am_m 89).2.2.1 (am_m 89).2.2.2.1 (am_m 89).2.2.2.2.1 ∈ tables_1 := am_t5 _ (List.mem_of_getElem? (i := 195) rfl)
set_option maxRecDepth 20000 in
theorem cw_Derivation_listAhead : Cond.code (am_m 90).2.1 (am_m 90).2.2.1 (am_m 90).2.2.2.1 (am_m 90).2.2.2.2.1 ∈ tables_1 := am_t5 _ (List.mem_of_getElem? (i := 190) rfl)
set_option maxRecDepth 20000 in
theorem cw_Desk_init : Cond.code (am_m 91).2.1 (am_m 91).2.2.1 (am_m 91).2.2.2.1 (am_m 91).2.2.2.2.1 ∈ tables_1 := am_t1 _ (List.mem_of_getElem? (i := 129) rfl)
set_option maxRecDepth 20000 in
theorem cw_Desk_hasHeap : Cond.code (am_m 92).2.1 (am_m 92).2.2.1 (am_m 92).2.2.2.1 (am_m 92).2.2.2.2.1 ∈ tables_1 := am_t4 _ (List.mem_of_getElem? (i := 56) rfl)
set_option maxRecDepth 20000 in
theorem cw_Desk_slipAt : Cond.code (am_m 93).2.1 (am_m 93).2.2.1 (am_m 93).2.2.2.1 (am_m 93).2.2.2.2.1 ∈ tables_1 := am_t4 _ (List.mem_of_getElem? (i := 15) rfl)
set_option maxRecDepth 20000 in
theorem cw_Desk_sentenceAt : Cond.code (am_m 94).2.1 (am_m 94).2.2.1 (am_m 94).2.2.2.1 (am_m 94).2.2.2.2.1 ∈ tables_1 := am_t4 _ (List.mem_of_getElem? (i := 27) rfl)
set_option maxRecDepth 20000 in
theorem cw_Desk_bind : Cond.code (am_m 95).2.1 (am_m 95).2.2.1 (am_m 95).2.2.2.1 (am_m 95).2.2.2.2.1 ∈ tables_1 := am_t5 _ (List.mem_of_getElem? (i := 214) rfl)
set_option maxRecDepth 20000 in
theorem cw_Desk_copyFrom : Cond.code (am_m 96).2.1 (am_m 96).2.2.1 (am_m 96).2.2.2.1 (am_m 96).2.2.2.2.1 ∈ tables_1 := am_t6 _ (List.mem_of_getElem? (i := 12) rfl)
set_option maxRecDepth 20000 in
theorem cw_Fewest_init : Cond.code (am_m 97).2.1 (am_m 97).2.2.1 (am_m 97).2.2.2.1 (am_m 97).2.2.2.2.1 ∈ tables_1 := am_t2 _ (List.mem_of_getElem? (i := 48) rfl)
set_option maxRecDepth 20000 in
theorem cw_Fewest_clear : Cond.code (am_m 98).2.1 (am_m 98).2.2.1 (am_m 98).2.2.2.1 (am_m 98).2.2.2.2.1 ∈ tables_1 := am_t4 _ (List.mem_of_getElem? (i := 147) rfl)
set_option maxRecDepth 20000 in
theorem cw_Fewest_note : Cond.code (am_m 99).2.1 (am_m 99).2.2.1 (am_m 99).2.2.2.1 (am_m 99).2.2.2.2.1 ∈ tables_1 := am_t4 _ (List.mem_of_getElem? (i := 161) rfl)
set_option maxRecDepth 20000 in
theorem cw_Fewest_tell : Cond.code (am_m 100).2.1 (am_m 100).2.2.1 (am_m 100).2.2.2.1 (am_m 100).2.2.2.2.1 ∈ tables_1 := am_t4 _ (List.mem_of_getElem? (i := 165) rfl)
set_option maxRecDepth 20000 in
theorem cw_Quarrels_init : Cond.code (am_m 101).2.1 (am_m 101).2.2.1 (am_m 101).2.2.2.1 (am_m 101).2.2.2.2.1 ∈ tables_1 := am_t2 _ (List.mem_of_getElem? (i := 42) rfl)
set_option maxRecDepth 20000 in
theorem cw_Quarrels_start : Cond.code (am_m 102).2.1 (am_m 102).2.2.1 (am_m 102).2.2.2.1 (am_m 102).2.2.2.2.1 ∈ tables_1 := am_t4 _ (List.mem_of_getElem? (i := 177) rfl)
set_option maxRecDepth 20000 in
theorem cw_Quarrels_markByPart : Cond.code (am_m 103).2.1 (am_m 103).2.2.1 (am_m 103).2.2.2.1 (am_m 103).2.2.2.2.1 ∈ tables_1 := am_t4 _ (List.mem_of_getElem? (i := 184) rfl)
set_option maxRecDepth 20000 in
theorem cw_Quarrels_mark : Cond.code (am_m 104).2.1 (am_m 104).2.2.1 (am_m 104).2.2.2.1 (am_m 104).2.2.2.2.1 ∈ tables_1 := am_t4 _ (List.mem_of_getElem? (i := 188) rfl)
set_option maxRecDepth 20000 in
theorem cw_Quarrels_leastAt : Cond.code (am_m 105).2.1 (am_m 105).2.2.1 (am_m 105).2.2.2.1 (am_m 105).2.2.2.2.1 ∈ tables_1 := am_t4 _ (List.mem_of_getElem? (i := 199) rfl)
set_option maxRecDepth 20000 in
theorem cw_Quarrels_findLeftOut : Cond.code (am_m 106).2.1 (am_m 106).2.2.1 (am_m 106).2.2.2.1 (am_m 106).2.2.2.2.1 ∈ tables_1 := am_t4 _ (List.mem_of_getElem? (i := 192) rfl)
set_option maxRecDepth 20000 in
theorem cw_Reader_init : Cond.code (am_m 107).2.1 (am_m 107).2.2.1 (am_m 107).2.2.2.1 (am_m 107).2.2.2.2.1 ∈ tables_1 := am_t1 _ (List.mem_of_getElem? (i := 36) rfl)
set_option maxRecDepth 20000 in
theorem cw_Reader_append : Cond.code (am_m 108).2.1 (am_m 108).2.2.1 (am_m 108).2.2.2.1 (am_m 108).2.2.2.2.1 ∈ tables_1 := am_t2 _ (List.mem_of_getElem? (i := 220) rfl)
set_option maxRecDepth 20000 in
theorem cw_Reader_read : Cond.code (am_m 109).2.1 (am_m 109).2.2.1 (am_m 109).2.2.2.1 (am_m 109).2.2.2.2.1 ∈ tables_1 := am_t2 _ (List.mem_of_getElem? (i := 236) rfl)
set_option maxRecDepth 20000 in
theorem cw_Reader_tellSimple : Cond.code (am_m 110).2.1 (am_m 110).2.2.1 (am_m 110).2.2.2.1 (am_m 110).2.2.2.2.1 ∈ tables_1 := am_t3 _ (List.mem_of_getElem? (i := 210) rfl)
set_option maxRecDepth 20000 in
theorem cw_Reader_tellSet : Cond.code (am_m 111).2.1 (am_m 111).2.2.1 (am_m 111).2.2.2.1 (am_m 111).2.2.2.2.1 ∈ tables_1 := am_t3 _ (List.mem_of_getElem? (i := 217) rfl)
set_option maxRecDepth 20000 in
theorem cw_Reader_meant : Cond.code (am_m 112).2.1 (am_m 112).2.2.1 (am_m 112).2.2.2.1 (am_m 112).2.2.2.2.1 ∈ tables_1 := am_t3 _ (List.mem_of_getElem? (i := 222) rfl)
set_option maxRecDepth 20000 in
theorem cw_Reader_parse : Cond.code (am_m 113).2.1 (am_m 113).2.2.1 (am_m 113).2.2.2.1 (am_m 113).2.2.2.2.1 ∈ tables_1 := am_t3 _ (List.mem_of_getElem? (i := 8) rfl)
set_option maxRecDepth 20000 in
theorem cw_Reader_formHere : Cond.code (am_m 114).2.1 (am_m 114).2.2.1 (am_m 114).2.2.2.1 (am_m 114).2.2.2.2.1 ∈ tables_1 := am_t3 _ (List.mem_of_getElem? (i := 110) rfl)
set_option maxRecDepth 20000 in
theorem cw_Reader_term : Cond.code (am_m 115).2.1 (am_m 115).2.2.1 (am_m 115).2.2.2.1 (am_m 115).2.2.2.2.1 ∈ tables_1 := am_t3 _ (List.mem_of_getElem? (i := 74) rfl)
set_option maxRecDepth 20000 in
theorem cw_Reader_both : Cond.code (am_m 116).2.1 (am_m 116).2.2.1 (am_m 116).2.2.2.1 (am_m 116).2.2.2.2.1 ∈ tables_1 := am_t3 _ (List.mem_of_getElem? (i := 78) rfl)
set_option maxRecDepth 20000 in
theorem cw_Reader_plain : Cond.code (am_m 117).2.1 (am_m 117).2.2.1 (am_m 117).2.2.2.1 (am_m 117).2.2.2.2.1 ∈ tables_1 := am_t3 _ (List.mem_of_getElem? (i := 82) rfl)
set_option maxRecDepth 20000 in
theorem cw_Reader_pass : Cond.code (am_m 118).2.1 (am_m 118).2.2.1 (am_m 118).2.2.2.1 (am_m 118).2.2.2.2.1 ∈ tables_1 := am_t3 _ (List.mem_of_getElem? (i := 17) rfl)
set_option maxRecDepth 20000 in
theorem cw_Reader_isAt : Cond.code (am_m 119).2.1 (am_m 119).2.2.1 (am_m 119).2.2.2.1 (am_m 119).2.2.2.2.1 ∈ tables_1 := am_t3 _ (List.mem_of_getElem? (i := 21) rfl)
set_option maxRecDepth 20000 in
theorem cw_Reader_isSign : Cond.code (am_m 120).2.1 (am_m 120).2.2.1 (am_m 120).2.2.2.1 (am_m 120).2.2.2.2.1 ∈ tables_1 := am_t3 _ (List.mem_of_getElem? (i := 12) rfl)
set_option maxRecDepth 20000 in
theorem cw_Reader_step : Cond.code (am_m 121).2.1 (am_m 121).2.2.1 (am_m 121).2.2.2.1 (am_m 121).2.2.2.2.1 ∈ tables_1 := am_t3 _ (List.mem_of_getElem? (i := 4) rfl)
set_option maxRecDepth 20000 in
theorem cw_Reader_writeDown : Cond.code (am_m 122).2.1 (am_m 122).2.2.1 (am_m 122).2.2.2.1 (am_m 122).2.2.2.2.1 ∈ tables_1 := am_t3 _ (List.mem_of_getElem? (i := 135) rfl)
set_option maxRecDepth 20000 in
theorem cw_Reader_leadingWords : Cond.code (am_m 123).2.1 (am_m 123).2.2.1 (am_m 123).2.2.2.1 (am_m 123).2.2.2.2.1 ∈ tables_1 := am_t3 _ (List.mem_of_getElem? (i := 179) rfl)
set_option maxRecDepth 20000 in
theorem cw_Sentence_init : Cond.code (am_m 124).2.1 (am_m 124).2.2.1 (am_m 124).2.2.2.1 (am_m 124).2.2.2.2.1 ∈ tables_1 := am_t1 _ (List.mem_of_getElem? (i := 195) rfl)
set_option maxRecDepth 20000 in
theorem cw_Sentence_number : Cond.code (am_m 125).2.1 (am_m 125).2.2.1 (am_m 125).2.2.2.1 (am_m 125).2.2.2.2.1 ∈ tables_1 := am_t4 _ (List.mem_of_getElem? (i := 211) rfl)
set_option maxRecDepth 20000 in
theorem cw_Sentence_setNumber : Cond.code (am_m 126).2.1 (am_m 126).2.2.1 (am_m 126).2.2.2.1 (am_m 126).2.2.2.2.1 ∈ tables_1 := am_t4 _ (List.mem_of_getElem? (i := 227) rfl)
set_option maxRecDepth 20000 in
theorem cw_Sentence_setSimple : Cond.code (am_m 127).2.1 (am_m 127).2.2.1 (am_m 127).2.2.2.1 (am_m 127).2.2.2.2.1 ∈ tables_1 := am_t4 _ (List.mem_of_getElem? (i := 236) rfl)
set_option maxRecDepth 20000 in
theorem cw_Sentence_tellsSubject : Cond.code (am_m 128).2.1 (am_m 128).2.2.1 (am_m 128).2.2.2.1 (am_m 128).2.2.2.2.1 ∈ tables_1 := am_t4 _ (List.mem_of_getElem? (i := 80) rfl)
set_option maxRecDepth 20000 in
theorem cw_Syllogism_init : Cond.code (am_m 129).2.1 (am_m 129).2.2.1 (am_m 129).2.2.2.1 (am_m 129).2.2.2.2.1 ∈ tables_1 := am_t2 _ (List.mem_of_getElem? (i := 90) rfl)
set_option maxRecDepth 20000 in
theorem cw_Syllogism_join : Cond.code (am_m 130).2.1 (am_m 130).2.2.1 (am_m 130).2.2.2.1 (am_m 130).2.2.2.2.1 ∈ tables_1 := am_t5 _ (List.mem_of_getElem? (i := 117) rfl)
set_option maxRecDepth 20000 in
theorem cw_Syllogism_learn : Cond.code (am_m 131).2.1 (am_m 131).2.2.1 (am_m 131).2.2.2.1 (am_m 131).2.2.2.2.1 ∈ tables_1 := am_t5 _ (List.mem_of_getElem? (i := 125) rfl)
set_option maxRecDepth 20000 in
theorem cw_Syllogism_conclude : Cond.code (am_m 132).2.1 (am_m 132).2.2.1 (am_m 132).2.2.2.1 (am_m 132).2.2.2.2.1 ∈ tables_1 := am_t5 _ (List.mem_of_getElem? (i := 143) rfl)
set_option maxRecDepth 20000 in
theorem cw_Syllogism_firstMood : Cond.code (am_m 133).2.1 (am_m 133).2.2.1 (am_m 133).2.2.2.1 (am_m 133).2.2.2.2.1 ∈ tables_1 := am_t5 _ (List.mem_of_getElem? (i := 129) rfl)
set_option maxRecDepth 20000 in
theorem cw_Syllogism_leadsMajor : Cond.code (am_m 134).2.1 (am_m 134).2.2.1 (am_m 134).2.2.2.1 (am_m 134).2.2.2.2.1 ∈ tables_1 := am_t5 _ (List.mem_of_getElem? (i := 132) rfl)
set_option maxRecDepth 20000 in
theorem cw_Syllogism_leadsMinor : Cond.code (am_m 135).2.1 (am_m 135).2.2.1 (am_m 135).2.2.2.1 (am_m 135).2.2.2.2.1 ∈ tables_1 := am_t5 _ (List.mem_of_getElem? (i := 135) rfl)
set_option maxRecDepth 20000 in
theorem cw_Syllogism_judge : Cond.code (am_m 136).2.1 (am_m 136).2.2.1 (am_m 136).2.2.2.1 (am_m 136).2.2.2.2.1 ∈ tables_1 := am_t5 _ (List.mem_of_getElem? (i := 151) rfl)
set_option maxRecDepth 20000 in
theorem cw_Syllogism_isDistributed : Cond.code (am_m 137).2.1 (am_m 137).2.2.1 (am_m 137).2.2.2.1 (am_m 137).2.2.2.2.1 ∈ tables_1 := am_t5 _ (List.mem_of_getElem? (i := 157) rfl)
set_option maxRecDepth 20000 in
theorem cw_Theory_init : Cond.code (am_m 138).2.1 (am_m 138).2.2.1 (am_m 138).2.2.2.1 (am_m 138).2.2.2.2.1 ∈ tables_1 := am_t1 _ (List.mem_of_getElem? (i := 171) rfl)
set_option maxRecDepth 20000 in
theorem cw_Theory_clear : Cond.code (am_m 139).2.1 (am_m 139).2.2.1 (am_m 139).2.2.2.1 (am_m 139).2.2.2.2.1 ∈ tables_1 := am_t4 _ (List.mem_of_getElem? (i := 64) rfl)
set_option maxRecDepth 20000 in
theorem cw_Theory_grantClaim : Cond.code (am_m 140).2.1 (am_m 140).2.2.1 (am_m 140).2.2.2.1 (am_m 140).2.2.2.2.1 ∈ tables_1 := am_t4 _ (List.mem_of_getElem? (i := 72) rfl)
set_option maxRecDepth 20000 in
theorem cw_Theory_denyClaim : Cond.code (am_m 141).2.1 (am_m 141).2.2.1 (am_m 141).2.2.2.1 (am_m 141).2.2.2.2.1 ∈ tables_1 := am_t5 _ (List.mem_of_getElem? (i := 23) rfl)
set_option maxRecDepth 20000 in
theorem cw_Theory_bar : Cond.code (am_m 142).2.1 (am_m 142).2.2.1 (am_m 142).2.2.2.1 (am_m 142).2.2.2.2.1 ∈ tables_1 := am_t4 _ (List.mem_of_getElem? (i := 76) rfl)
set_option maxRecDepth 20000 in
theorem cw_Theory_want : Cond.code (am_m 143).2.1 (am_m 143).2.2.1 (am_m 143).2.2.2.1 (am_m 143).2.2.2.2.1 ∈ tables_1 := am_t4 _ (List.mem_of_getElem? (i := 84) rfl)
set_option maxRecDepth 20000 in
theorem cw_Theory_place : Cond.code (am_m 144).2.1 (am_m 144).2.2.1 (am_m 144).2.2.2.1 (am_m 144).2.2.2.2.1 ∈ tables_1 := am_t4 _ (List.mem_of_getElem? (i := 89) rfl)
set_option maxRecDepth 20000 in
theorem cw_Theory_fits : Cond.code (am_m 145).2.1 (am_m 145).2.2.1 (am_m 145).2.2.2.1 (am_m 145).2.2.2.2.1 ∈ tables_1 := am_t4 _ (List.mem_of_getElem? (i := 93) rfl)
set_option maxRecDepth 20000 in
theorem cw_Theory_fitsWithout : Cond.code (am_m 146).2.1 (am_m 146).2.2.1 (am_m 146).2.2.2.1 (am_m 146).2.2.2.2.1 ∈ tables_1 := am_t4 _ (List.mem_of_getElem? (i := 99) rfl)
set_option maxRecDepth 20000 in
theorem cw_Theory_meets : Cond.code (am_m 147).2.1 (am_m 147).2.2.1 (am_m 147).2.2.2.1 (am_m 147).2.2.2.2.1 ∈ tables_1 := am_t4 _ (List.mem_of_getElem? (i := 103) rfl)
set_option maxRecDepth 20000 in
theorem cw_Theory_canHold : Cond.code (am_m 148).2.1 (am_m 148).2.2.1 (am_m 148).2.2.2.1 (am_m 148).2.2.2.2.1 ∈ tables_1 := am_t4 _ (List.mem_of_getElem? (i := 127) rfl)
set_option maxRecDepth 20000 in
theorem cw_Theory_canFail : Cond.code (am_m 149).2.1 (am_m 149).2.2.1 (am_m 149).2.2.2.1 (am_m 149).2.2.2.2.1 ∈ tables_1 := am_t4 _ (List.mem_of_getElem? (i := 111) rfl)
set_option maxRecDepth 20000 in
theorem cw_Theory_canBePlaced : Cond.code (am_m 150).2.1 (am_m 150).2.2.1 (am_m 150).2.2.2.1 (am_m 150).2.2.2.2.1 ∈ tables_1 := am_t4 _ (List.mem_of_getElem? (i := 115) rfl)
set_option maxRecDepth 20000 in
theorem cw_Theory_placeWord : Cond.code (am_m 151).2.1 (am_m 151).2.2.1 (am_m 151).2.2.2.1 (am_m 151).2.2.2.2.1 ∈ tables_1 := am_t4 _ (List.mem_of_getElem? (i := 119) rfl)
set_option maxRecDepth 20000 in
theorem cw_Theory_countPlaces : Cond.code (am_m 152).2.1 (am_m 152).2.2.1 (am_m 152).2.2.2.1 (am_m 152).2.2.2.2.1 ∈ tables_1 := am_t5 _ (List.mem_of_getElem? (i := 93) rfl)
set_option maxRecDepth 20000 in
theorem cw_Theory_lowestPlace : Cond.code (am_m 153).2.1 (am_m 153).2.2.1 (am_m 153).2.2.2.1 (am_m 153).2.2.2.2.1 ∈ tables_1 := am_t5 _ (List.mem_of_getElem? (i := 98) rfl)
set_option maxRecDepth 20000 in
theorem cw_Theory_countWants : Cond.code (am_m 154).2.1 (am_m 154).2.2.1 (am_m 154).2.2.2.1 (am_m 154).2.2.2.2.1 ∈ tables_1 := am_t5 _ (List.mem_of_getElem? (i := 56) rfl)
set_option maxRecDepth 20000 in
theorem cw_Theory_wantsMet : Cond.code (am_m 155).2.1 (am_m 155).2.2.1 (am_m 155).2.2.2.1 (am_m 155).2.2.2.2.1 ∈ tables_1 := am_t5 _ (List.mem_of_getElem? (i := 65) rfl)
set_option maxRecDepth 20000 in
theorem cw_Tree_init : Cond.code (am_m 156).2.1 (am_m 156).2.2.1 (am_m 156).2.2.2.1 (am_m 156).2.2.2.2.1 ∈ tables_1 := am_t1 _ (List.mem_of_getElem? (i := 42) rfl)
set_option maxRecDepth 20000 in
theorem cw_Tree_hasNode : Cond.code (am_m 157).2.1 (am_m 157).2.2.1 (am_m 157).2.2.2.1 (am_m 157).2.2.2.2.1 ∈ tables_1 := am_t3 _ (List.mem_of_getElem? (i := 96) rfl)
set_option maxRecDepth 20000 in
theorem cw_Tree_clear : Cond.code (am_m 158).2.1 (am_m 158).2.2.1 (am_m 158).2.2.2.1 (am_m 158).2.2.2.2.1 ∈ tables_1 := am_t3 _ (List.mem_of_getElem? (i := 0) rfl)
set_option maxRecDepth 20000 in
theorem cw_Tree_join : Cond.code (am_m 159).2.1 (am_m 159).2.2.1 (am_m 159).2.2.2.1 (am_m 159).2.2.2.2.1 ∈ tables_1 := am_t3 _ (List.mem_of_getElem? (i := 102) rfl)
set_option maxRecDepth 20000 in
theorem cw_Tree_make : Cond.code (am_m 160).2.1 (am_m 160).2.2.1 (am_m 160).2.2.2.1 (am_m 160).2.2.2.2.1 ∈ tables_1 := am_t3 _ (List.mem_of_getElem? (i := 86) rfl)
set_option maxRecDepth 20000 in
theorem cw_Tree_negate : Cond.code (am_m 161).2.1 (am_m 161).2.2.1 (am_m 161).2.2.2.1 (am_m 161).2.2.2.2.1 ∈ tables_1 := am_t3 _ (List.mem_of_getElem? (i := 92) rfl)
set_option maxRecDepth 20000 in
theorem cw_Tree_kindAt : Cond.code (am_m 162).2.1 (am_m 162).2.2.1 (am_m 162).2.2.2.1 (am_m 162).2.2.2.2.1 ∈ tables_1 := am_t3 _ (List.mem_of_getElem? (i := 206) rfl)
set_option maxRecDepth 20000 in
theorem cw_Tree_findSets : Cond.code (am_m 163).2.1 (am_m 163).2.2.1 (am_m 163).2.2.2.1 (am_m 163).2.2.2.2.1 ∈ tables_1 := am_t3 _ (List.mem_of_getElem? (i := 119) rfl)
set_option maxRecDepth 20000 in
theorem cw_Tree_setWord : Cond.code (am_m 164).2.1 (am_m 164).2.2.1 (am_m 164).2.2.2.1 (am_m 164).2.2.2.2.1 ∈ tables_1 := am_t3 _ (List.mem_of_getElem? (i := 123) rfl)
set_option maxRecDepth 20000 in
theorem cw_Tree_beginsWithNot : Cond.code (am_m 165).2.1 (am_m 165).2.2.1 (am_m 165).2.2.2.1 (am_m 165).2.2.2.2.1 ∈ tables_1 := am_t3 _ (List.mem_of_getElem? (i := 163) rfl)
set_option maxRecDepth 20000 in
theorem cw_Writer_init : Cond.code (am_m 166).2.1 (am_m 166).2.2.1 (am_m 166).2.2.2.1 (am_m 166).2.2.2.2.1 ∈ tables_1 := am_t1 _ (List.mem_of_getElem? (i := 74) rfl)
set_option maxRecDepth 20000 in
theorem cw_Writer_clear : Cond.code (am_m 167).2.1 (am_m 167).2.2.1 (am_m 167).2.2.2.1 (am_m 167).2.2.2.2.1 ∈ tables_1 := am_t3 _ (List.mem_of_getElem? (i := 139) rfl)
set_option maxRecDepth 20000 in
theorem cw_Writer_copy : Cond.code (am_m 168).2.1 (am_m 168).2.2.1 (am_m 168).2.2.2.1 (am_m 168).2.2.2.2.1 ∈ tables_1 := am_t3 _ (List.mem_of_getElem? (i := 185) rfl)
set_option maxRecDepth 20000 in
theorem cw_Writer_putSign : Cond.code (am_m 169).2.1 (am_m 169).2.2.1 (am_m 169).2.2.2.1 (am_m 169).2.2.2.2.1 ∈ tables_1 := am_t3 _ (List.mem_of_getElem? (i := 143) rfl)
set_option maxRecDepth 20000 in
theorem cw_Writer_putBlank : Cond.code (am_m 170).2.1 (am_m 170).2.2.1 (am_m 170).2.2.2.1 (am_m 170).2.2.2.2.1 ∈ tables_1 := am_t3 _ (List.mem_of_getElem? (i := 152) rfl)
set_option maxRecDepth 20000 in
theorem cw_Writer_putWord : Cond.code (am_m 171).2.1 (am_m 171).2.2.1 (am_m 171).2.2.2.1 (am_m 171).2.2.2.2.1 ∈ tables_1 := am_t3 _ (List.mem_of_getElem? (i := 148) rfl)
set_option maxRecDepth 20000 in
theorem cw_Writer_putTerm : Cond.code (am_m 172).2.1 (am_m 172).2.2.1 (am_m 172).2.2.2.1 (am_m 172).2.2.2.2.1 ∈ tables_1 := am_t3 _ (List.mem_of_getElem? (i := 159) rfl)
set_option maxRecDepth 20000 in
theorem cw_Writer_putNode : Cond.code (am_m 173).2.1 (am_m 173).2.2.1 (am_m 173).2.2.2.1 (am_m 173).2.2.2.2.1 ∈ tables_1 := am_t3 _ (List.mem_of_getElem? (i := 169) rfl)
set_option maxRecDepth 20000 in
theorem cw_Model_init : Cond.code (am_m 174).2.1 (am_m 174).2.2.1 (am_m 174).2.2.2.1 (am_m 174).2.2.2.2.1 ∈ tables_1 := am_t6 _ (List.mem_of_getElem? (i := 29) rfl)
set_option maxRecDepth 20000 in
theorem cw_Model_lies : Cond.code (am_m 175).2.1 (am_m 175).2.2.1 (am_m 175).2.2.2.1 (am_m 175).2.2.2.2.1 ∈ tables_1 := am_t6 _ (List.mem_of_getElem? (i := 178) rfl)
set_option maxRecDepth 20000 in
theorem cw_Model_refuses : Cond.code (am_m 176).2.1 (am_m 176).2.2.1 (am_m 176).2.2.2.1 (am_m 176).2.2.2.2.1 ∈ tables_1 := am_t6 _ (List.mem_of_getElem? (i := 182) rfl)
set_option maxRecDepth 20000 in
theorem cw_Model_good : Cond.code (am_m 177).2.1 (am_m 177).2.2.1 (am_m 177).2.2.2.1 (am_m 177).2.2.2.2.1 ∈ tables_1 := am_t6 _ (List.mem_of_getElem? (i := 186) rfl)
set_option maxRecDepth 20000 in
theorem cw_Model_ones : Cond.code (am_m 178).2.1 (am_m 178).2.2.1 (am_m 178).2.2.2.1 (am_m 178).2.2.2.2.1 ∈ tables_1 := am_t7 _ (List.mem_of_getElem? (i := 87) rfl)
set_option maxRecDepth 20000 in
theorem cw_Model_image : Cond.code (am_m 179).2.1 (am_m 179).2.2.1 (am_m 179).2.2.2.1 (am_m 179).2.2.2.2.1 ∈ tables_1 := am_t6 _ (List.mem_of_getElem? (i := 175) rfl)
set_option maxRecDepth 20000 in
theorem cw_Model_back : Cond.code (am_m 180).2.1 (am_m 180).2.2.1 (am_m 180).2.2.2.1 (am_m 180).2.2.2.2.1 ∈ tables_1 := am_t6 _ (List.mem_of_getElem? (i := 190) rfl)
set_option maxRecDepth 20000 in
theorem cw_Model_slips : Cond.code (am_m 181).2.1 (am_m 181).2.2.1 (am_m 181).2.2.2.1 (am_m 181).2.2.2.2.1 ∈ tables_1 := am_t6 _ (List.mem_of_getElem? (i := 206) rfl)
set_option maxRecDepth 20000 in
theorem cw_Model_isSlip : Cond.code (am_m 182).2.1 (am_m 182).2.2.1 (am_m 182).2.2.2.1 (am_m 182).2.2.2.2.1 ∈ tables_1 := am_t7 _ (List.mem_of_getElem? (i := 48) rfl)
set_option maxRecDepth 20000 in
theorem cw_Model_isAsked : Cond.code (am_m 183).2.1 (am_m 183).2.2.1 (am_m 183).2.2.2.1 (am_m 183).2.2.2.2.1 ∈ tables_1 := am_t7 _ (List.mem_of_getElem? (i := 52) rfl)
set_option maxRecDepth 20000 in
theorem cw_Model_slotOf : Cond.code (am_m 184).2.1 (am_m 184).2.2.1 (am_m 184).2.2.2.1 (am_m 184).2.2.2.2.1 ∈ tables_1 := am_t7 _ (List.mem_of_getElem? (i := 72) rfl)
set_option maxRecDepth 20000 in
theorem cw_Model_isHeap : Cond.code (am_m 185).2.1 (am_m 185).2.2.1 (am_m 185).2.2.2.1 (am_m 185).2.2.2.2.1 ∈ tables_1 := am_t7 _ (List.mem_of_getElem? (i := 135) rfl)
set_option maxRecDepth 20000 in
theorem cw_Model_part : Cond.code (am_m 186).2.1 (am_m 186).2.2.1 (am_m 186).2.2.2.1 (am_m 186).2.2.2.2.1 ∈ tables_1 := am_t7 _ (List.mem_of_getElem? (i := 84) rfl)
set_option maxRecDepth 20000 in
theorem cw_Model_feed : Cond.code (am_m 187).2.1 (am_m 187).2.2.1 (am_m 187).2.2.2.1 (am_m 187).2.2.2.2.1 ∈ tables_1 := am_t6 _ (List.mem_of_getElem? (i := 194) rfl)
set_option maxRecDepth 20000 in
theorem cw_Model_end : Cond.code (am_m 188).2.1 (am_m 188).2.2.1 (am_m 188).2.2.2.1 (am_m 188).2.2.2.2.1 ∈ tables_1 := am_t6 _ (List.mem_of_getElem? (i := 198) rfl)
set_option maxRecDepth 20000 in
theorem cw_Model_isSmall : Cond.code (am_m 189).2.1 (am_m 189).2.2.1 (am_m 189).2.2.2.1 (am_m 189).2.2.2.2.1 ∈ tables_1 := am_t6 _ (List.mem_of_getElem? (i := 217) rfl)
set_option maxRecDepth 20000 in
theorem cw_Model_isDigit : Cond.code (am_m 190).2.1 (am_m 190).2.2.1 (am_m 190).2.2.2.1 (am_m 190).2.2.2.2.1 ∈ tables_1 := am_t6 _ (List.mem_of_getElem? (i := 220) rfl)
set_option maxRecDepth 20000 in
theorem cw_Model_wordOf : Cond.code (am_m 191).2.1 (am_m 191).2.2.1 (am_m 191).2.2.2.1 (am_m 191).2.2.2.2.1 ∈ tables_1 := am_t6 _ (List.mem_of_getElem? (i := 224) rfl)
set_option maxRecDepth 20000 in
theorem cw_Model_splits : Cond.code (am_m 192).2.1 (am_m 192).2.2.1 (am_m 192).2.2.2.1 (am_m 192).2.2.2.2.1 ∈ tables_1 := am_t6 _ (List.mem_of_getElem? (i := 214) rfl)
set_option maxRecDepth 20000 in
theorem cw_Model_fine : Cond.code (am_m 193).2.1 (am_m 193).2.2.1 (am_m 193).2.2.2.1 (am_m 193).2.2.2.2.1 ∈ tables_1 := am_t7 _ (List.mem_of_getElem? (i := 1) rfl)
set_option maxRecDepth 20000 in
theorem cw_Model_faults : Cond.code (am_m 194).2.1 (am_m 194).2.2.1 (am_m 194).2.2.2.1 (am_m 194).2.2.2.2.1 ∈ tables_1 := am_t7 _ (List.mem_of_getElem? (i := 5) rfl)
set_option maxRecDepth 20000 in
theorem cw_Model_takes0 : Cond.code (am_m 195).2.1 (am_m 195).2.2.1 (am_m 195).2.2.2.1 (am_m 195).2.2.2.2.1 ∈ tables_1 := am_t6 _ (List.mem_of_getElem? (i := 237) rfl)
set_option maxRecDepth 20000 in
theorem cw_Model_must : Cond.code (am_m 196).2.1 (am_m 196).2.2.1 (am_m 196).2.2.2.1 (am_m 196).2.2.2.2.1 ∈ tables_1 := am_t6 _ (List.mem_of_getElem? (i := 233) rfl)
set_option maxRecDepth 20000 in
theorem cw_Model_sign : Cond.code (am_m 197).2.1 (am_m 197).2.2.1 (am_m 197).2.2.2.1 (am_m 197).2.2.2.2.1 ∈ tables_1 := am_t7 _ (List.mem_of_getElem? (i := 20) rfl)
set_option maxRecDepth 20000 in
theorem cw_Model_makes : Cond.code (am_m 198).2.1 (am_m 198).2.2.1 (am_m 198).2.2.2.1 (am_m 198).2.2.2.2.1 ∈ tables_1 := am_t7 _ (List.mem_of_getElem? (i := 24) rfl)
set_option maxRecDepth 20000 in
theorem cw_Model_readsTerm : Cond.code (am_m 199).2.1 (am_m 199).2.2.1 (am_m 199).2.2.2.1 (am_m 199).2.2.2.2.1 ∈ tables_1 := am_t7 _ (List.mem_of_getElem? (i := 9) rfl)
set_option maxRecDepth 20000 in
theorem cw_Model_readBoth : Cond.code (am_m 200).2.1 (am_m 200).2.2.1 (am_m 200).2.2.2.1 (am_m 200).2.2.2.2.1 ∈ tables_1 := am_t7 _ (List.mem_of_getElem? (i := 13) rfl)
set_option maxRecDepth 20000 in
theorem cw_Model_readPlain : Cond.code (am_m 201).2.1 (am_m 201).2.2.1 (am_m 201).2.2.2.1 (am_m 201).2.2.2.2.1 ∈ tables_1 := am_t7 _ (List.mem_of_getElem? (i := 17) rfl)
set_option maxRecDepth 20000 in
theorem cw_Model_readSentence : Cond.code (am_m 202).2.1 (am_m 202).2.2.1 (am_m 202).2.2.2.1 (am_m 202).2.2.2.2.1 ∈ tables_1 := am_t6 _ (List.mem_of_getElem? (i := 229) rfl)
set_option maxRecDepth 20000 in
theorem cw_Model_reads : Cond.code (am_m 203).2.1 (am_m 203).2.2.1 (am_m 203).2.2.2.1 (am_m 203).2.2.2.2.1 ∈ tables_1 := am_t6 _ (List.mem_of_getElem? (i := 210) rfl)
set_option maxRecDepth 20000 in
theorem cw_Model_slip : Cond.code (am_m 204).2.1 (am_m 204).2.2.1 (am_m 204).2.2.2.1 (am_m 204).2.2.2.2.1 ∈ tables_1 := am_t6 _ (List.mem_of_getElem? (i := 202) rfl)
set_option maxRecDepth 20000 in
theorem cw_Model_question : Cond.code (am_m 205).2.1 (am_m 205).2.2.1 (am_m 205).2.2.2.1 (am_m 205).2.2.2.2.1 ∈ tables_1 := am_t7 _ (List.mem_of_getElem? (i := 36) rfl)
set_option maxRecDepth 20000 in
theorem cw_Model_fault : Cond.code (am_m 206).2.1 (am_m 206).2.2.1 (am_m 206).2.2.2.1 (am_m 206).2.2.2.2.1 ∈ tables_1 := am_t7 _ (List.mem_of_getElem? (i := 40) rfl)
set_option maxRecDepth 20000 in
theorem cw_Model_copies : Cond.code (am_m 207).2.1 (am_m 207).2.2.1 (am_m 207).2.2.2.1 (am_m 207).2.2.2.2.1 ∈ tables_1 := am_t7 _ (List.mem_of_getElem? (i := 56) rfl)
set_option maxRecDepth 20000 in
theorem cw_Model_write : Cond.code (am_m 208).2.1 (am_m 208).2.2.1 (am_m 208).2.2.2.1 (am_m 208).2.2.2.2.1 ∈ tables_1 := am_t7 _ (List.mem_of_getElem? (i := 44) rfl)
set_option maxRecDepth 20000 in
theorem cw_Model_take : Cond.code (am_m 209).2.1 (am_m 209).2.2.1 (am_m 209).2.2.2.1 (am_m 209).2.2.2.2.1 ∈ tables_1 := am_t7 _ (List.mem_of_getElem? (i := 60) rfl)
set_option maxRecDepth 20000 in
theorem cw_Model_existence : Cond.code (am_m 210).2.1 (am_m 210).2.2.1 (am_m 210).2.2.2.1 (am_m 210).2.2.2.2.1 ∈ tables_1 := am_t7 _ (List.mem_of_getElem? (i := 64) rfl)
set_option maxRecDepth 20000 in
theorem cw_Model_isRegion : Cond.code (am_m 211).2.1 (am_m 211).2.2.1 (am_m 211).2.2.2.1 (am_m 211).2.2.2.2.1 ∈ tables_1 := am_t7 _ (List.mem_of_getElem? (i := 32) rfl)
set_option maxRecDepth 20000 in
theorem cw_Model_laysSays : Cond.code (am_m 212).2.1 (am_m 212).2.2.1 (am_m 212).2.2.2.1 (am_m 212).2.2.2.2.1 ∈ tables_1 := am_t7 _ (List.mem_of_getElem? (i := 28) rfl)
set_option maxRecDepth 20000 in
theorem cw_Model_isAlone : Cond.code (am_m 213).2.1 (am_m 213).2.2.1 (am_m 213).2.2.2.1 (am_m 213).2.2.2.2.1 ∈ tables_1 := am_t7 _ (List.mem_of_getElem? (i := 80) rfl)
set_option maxRecDepth 20000 in
theorem cw_Model_numberOf : Cond.code (am_m 214).2.1 (am_m 214).2.2.1 (am_m 214).2.2.2.1 (am_m 214).2.2.2.2.1 ∈ tables_1 := am_t7 _ (List.mem_of_getElem? (i := 76) rfl)
set_option maxRecDepth 20000 in
theorem cw_Model_simple : Cond.code (am_m 215).2.1 (am_m 215).2.2.1 (am_m 215).2.2.2.1 (am_m 215).2.2.2.2.1 ∈ tables_1 := am_t7 _ (List.mem_of_getElem? (i := 222) rfl)
set_option maxRecDepth 20000 in
theorem cw_Model_of : Cond.code (am_m 216).2.1 (am_m 216).2.2.1 (am_m 216).2.2.2.1 (am_m 216).2.2.2.2.1 ∈ tables_1 := am_t7 _ (List.mem_of_getElem? (i := 68) rfl)
set_option maxRecDepth 20000 in
theorem cw_Model_has : Cond.code (am_m 217).2.1 (am_m 217).2.2.1 (am_m 217).2.2.2.1 (am_m 217).2.2.2.2.1 ∈ tables_1 := am_t7 _ (List.mem_of_getElem? (i := 91) rfl)
set_option maxRecDepth 20000 in
theorem cw_Model_puts : Cond.code (am_m 218).2.1 (am_m 218).2.2.1 (am_m 218).2.2.2.1 (am_m 218).2.2.2.2.1 ∈ tables_1 := am_t7 _ (List.mem_of_getElem? (i := 111) rfl)
set_option maxRecDepth 20000 in
theorem cw_Model_blank : Cond.code (am_m 219).2.1 (am_m 219).2.2.1 (am_m 219).2.2.2.1 (am_m 219).2.2.2.2.1 ∈ tables_1 := am_t7 _ (List.mem_of_getElem? (i := 107) rfl)
set_option maxRecDepth 20000 in
theorem cw_Model_writesWord : Cond.code (am_m 220).2.1 (am_m 220).2.2.1 (am_m 220).2.2.2.1 (am_m 220).2.2.2.2.1 ∈ tables_1 := am_t7 _ (List.mem_of_getElem? (i := 103) rfl)
set_option maxRecDepth 20000 in
theorem cw_Model_laysStarts : Cond.code (am_m 221).2.1 (am_m 221).2.2.1 (am_m 221).2.2.2.1 (am_m 221).2.2.2.2.1 ∈ tables_1 := am_t7 _ (List.mem_of_getElem? (i := 119) rfl)
set_option maxRecDepth 20000 in
theorem cw_Model_writes : Cond.code (am_m 222).2.1 (am_m 222).2.2.1 (am_m 222).2.2.2.1 (am_m 222).2.2.2.2.1 ∈ tables_1 := am_t7 _ (List.mem_of_getElem? (i := 127) rfl)
set_option maxRecDepth 20000 in
theorem cw_Model_begins : Cond.code (am_m 223).2.1 (am_m 223).2.2.1 (am_m 223).2.2.2.1 (am_m 223).2.2.2.2.1 ∈ tables_1 := am_t7 _ (List.mem_of_getElem? (i := 123) rfl)
set_option maxRecDepth 20000 in
theorem cw_Model_writesTerm : Cond.code (am_m 224).2.1 (am_m 224).2.2.1 (am_m 224).2.2.2.1 (am_m 224).2.2.2.2.1 ∈ tables_1 := am_t7 _ (List.mem_of_getElem? (i := 115) rfl)
set_option maxRecDepth 20000 in
theorem cw_Model_writesAll : Cond.code (am_m 225).2.1 (am_m 225).2.2.1 (am_m 225).2.2.2.1 (am_m 225).2.2.2.2.1 ∈ tables_1 := am_t7 _ (List.mem_of_getElem? (i := 99) rfl)
set_option maxRecDepth 20000 in
theorem cw_Model_letter : Cond.code (am_m 226).2.1 (am_m 226).2.2.1 (am_m 226).2.2.2.1 (am_m 226).2.2.2.2.1 ∈ tables_1 := am_t7 _ (List.mem_of_getElem? (i := 95) rfl)
set_option maxRecDepth 20000 in
theorem cw_Model_empties : Cond.code (am_m 227).2.1 (am_m 227).2.2.1 (am_m 227).2.2.2.1 (am_m 227).2.2.2.2.1 ∈ tables_1 := am_t7 _ (List.mem_of_getElem? (i := 143) rfl)
set_option maxRecDepth 20000 in
theorem cw_Model_tells : Cond.code (am_m 228).2.1 (am_m 228).2.2.1 (am_m 228).2.2.2.1 (am_m 228).2.2.2.2.1 ∈ tables_1 := am_t7 _ (List.mem_of_getElem? (i := 155) rfl)
set_option maxRecDepth 20000 in
theorem cw_Model_tellsOf : Cond.code (am_m 229).2.1 (am_m 229).2.2.1 (am_m 229).2.2.2.1 (am_m 229).2.2.2.2.1 ∈ tables_1 := am_t7 _ (List.mem_of_getElem? (i := 151) rfl)
set_option maxRecDepth 20000 in
theorem cw_Model_isTold : Cond.code (am_m 230).2.1 (am_m 230).2.2.1 (am_m 230).2.2.2.1 (am_m 230).2.2.2.2.1 ∈ tables_1 := am_t7 _ (List.mem_of_getElem? (i := 147) rfl)
set_option maxRecDepth 20000 in
theorem cw_Model_heaps : Cond.code (am_m 231).2.1 (am_m 231).2.2.1 (am_m 231).2.2.2.1 (am_m 231).2.2.2.2.1 ∈ tables_1 := am_t7 _ (List.mem_of_getElem? (i := 139) rfl)
set_option maxRecDepth 20000 in
theorem cw_Model_nothingBesides : Cond.code (am_m 232).2.1 (am_m 232).2.2.1 (am_m 232).2.2.2.1 (am_m 232).2.2.2.2.1 ∈ tables_1 := am_t7 _ (List.mem_of_getElem? (i := 163) rfl)
set_option maxRecDepth 20000 in
theorem cw_Model_isShut : Cond.code (am_m 233).2.1 (am_m 233).2.2.1 (am_m 233).2.2.2.1 (am_m 233).2.2.2.2.1 ∈ tables_1 := am_t7 _ (List.mem_of_getElem? (i := 171) rfl)
set_option maxRecDepth 20000 in
theorem cw_Model_quarrelsNow : Cond.code (am_m 234).2.1 (am_m 234).2.2.1 (am_m 234).2.2.2.1 (am_m 234).2.2.2.2.1 ∈ tables_1 := am_t7 _ (List.mem_of_getElem? (i := 167) rfl)
set_option maxRecDepth 20000 in
theorem cw_Model_isQuarrel : Cond.code (am_m 235).2.1 (am_m 235).2.2.1 (am_m 235).2.2.2.1 (am_m 235).2.2.2.2.1 ∈ tables_1 := am_t7 _ (List.mem_of_getElem? (i := 159) rfl)
set_option maxRecDepth 20000 in
theorem cw_Model_followsThat : Cond.code (am_m 236).2.1 (am_m 236).2.2.1 (am_m 236).2.2.2.1 (am_m 236).2.2.2.2.1 ∈ tables_1 := am_t7 _ (List.mem_of_getElem? (i := 183) rfl)
set_option maxRecDepth 20000 in
theorem cw_Model_followsOf : Cond.code (am_m 237).2.1 (am_m 237).2.2.1 (am_m 237).2.2.2.1 (am_m 237).2.2.2.2.1 ∈ tables_1 := am_t7 _ (List.mem_of_getElem? (i := 179) rfl)
set_option maxRecDepth 20000 in
theorem cw_Model_quarrels : Cond.code (am_m 238).2.1 (am_m 238).2.2.1 (am_m 238).2.2.2.1 (am_m 238).2.2.2.2.1 ∈ tables_1 := am_t7 _ (List.mem_of_getElem? (i := 131) rfl)
set_option maxRecDepth 20000 in
theorem cw_Model_follows : Cond.code (am_m 239).2.1 (am_m 239).2.2.1 (am_m 239).2.2.2.1 (am_m 239).2.2.2.2.1 ∈ tables_1 := am_t7 _ (List.mem_of_getElem? (i := 175) rfl)
set_option maxRecDepth 20000 in
theorem cw_Model_denied : Cond.code (am_m 240).2.1 (am_m 240).2.2.1 (am_m 240).2.2.2.1 (am_m 240).2.2.2.2.1 ∈ tables_1 := am_t7 _ (List.mem_of_getElem? (i := 187) rfl)
set_option maxRecDepth 20000 in
theorem cw_Model_open : Cond.code (am_m 241).2.1 (am_m 241).2.2.1 (am_m 241).2.2.2.1 (am_m 241).2.2.2.2.1 ∈ tables_1 := am_t7 _ (List.mem_of_getElem? (i := 191) rfl)
set_option maxRecDepth 20000 in
theorem cw_Model_idle : Cond.code (am_m 242).2.1 (am_m 242).2.2.1 (am_m 242).2.2.2.1 (am_m 242).2.2.2.2.1 ∈ tables_1 := am_t7 _ (List.mem_of_getElem? (i := 195) rfl)
set_option maxRecDepth 20000 in
theorem cw_Model_least : Cond.code (am_m 243).2.1 (am_m 243).2.2.1 (am_m 243).2.2.2.1 (am_m 243).2.2.2.2.1 ∈ tables_1 := am_t7 _ (List.mem_of_getElem? (i := 199) rfl)
set_option maxRecDepth 20000 in
theorem cw_Model_isQuarrelling : Cond.code (am_m 244).2.1 (am_m 244).2.2.1 (am_m 244).2.2.2.1 (am_m 244).2.2.2.2.1 ∈ tables_1 := am_t7 _ (List.mem_of_getElem? (i := 207) rfl)
set_option maxRecDepth 20000 in
theorem cw_Model_quarrel : Cond.code (am_m 245).2.1 (am_m 245).2.2.1 (am_m 245).2.2.2.1 (am_m 245).2.2.2.2.1 ∈ tables_1 := am_t7 _ (List.mem_of_getElem? (i := 203) rfl)
set_option maxRecDepth 20000 in
theorem cw_Model_calm : Cond.code (am_m 246).2.1 (am_m 246).2.2.1 (am_m 246).2.2.2.1 (am_m 246).2.2.2.2.1 ∈ tables_1 := am_t7 _ (List.mem_of_getElem? (i := 211) rfl)
set_option maxRecDepth 20000 in
theorem cw_Model_isNumber : Cond.code (am_m 247).2.1 (am_m 247).2.2.1 (am_m 247).2.2.2.1 (am_m 247).2.2.2.2.1 ∈ tables_1 := am_t7 _ (List.mem_of_getElem? (i := 218) rfl)
set_option maxRecDepth 20000 in
theorem cw_Model_hint : Cond.code (am_m 248).2.1 (am_m 248).2.2.1 (am_m 248).2.2.2.1 (am_m 248).2.2.2.2.1 ∈ tables_1 := am_t7 _ (List.mem_of_getElem? (i := 215) rfl)
set_option maxRecDepth 20000 in
theorem cw_Model_isKind : Cond.code (am_m 249).2.1 (am_m 249).2.2.1 (am_m 249).2.2.2.1 (am_m 249).2.2.2.2.1 ∈ tables_1 := am_t7 _ (List.mem_of_getElem? (i := 229) rfl)
set_option maxRecDepth 20000 in
theorem cw_Model_followsNumber : Cond.code (am_m 250).2.1 (am_m 250).2.2.1 (am_m 250).2.2.2.1 (am_m 250).2.2.2.2.1 ∈ tables_1 := am_t7 _ (List.mem_of_getElem? (i := 233) rfl)
set_option maxRecDepth 20000 in
theorem cw_Model_between : Cond.code (am_m 251).2.1 (am_m 251).2.2.1 (am_m 251).2.2.2.1 (am_m 251).2.2.2.2.1 ∈ tables_1 := am_t7 _ (List.mem_of_getElem? (i := 226) rfl)
set_option maxRecDepth 20000 in
theorem cw_Model_says : Cond.code (am_m 252).2.1 (am_m 252).2.2.1 (am_m 252).2.2.2.1 (am_m 252).2.2.2.2.1 ∈ tables_1 := am_t7 _ (List.mem_of_getElem? (i := 237) rfl)
set_option maxRecDepth 20000 in
theorem cw_Model_all : Cond.code (am_m 253).2.1 (am_m 253).2.2.1 (am_m 253).2.2.2.1 (am_m 253).2.2.2.2.1 ∈ tables_1 := am_t8 _ (List.mem_of_getElem? (i := 1) rfl)
set_option maxRecDepth 20000 in
theorem cw_Model_otherwise : Cond.code (am_m 254).2.1 (am_m 254).2.2.1 (am_m 254).2.2.2.1 (am_m 254).2.2.2.2.1 ∈ tables_1 := am_t8 _ (List.mem_of_getElem? (i := 13) rfl)
set_option maxRecDepth 20000 in
theorem cw_Model_tellsNot : Cond.code (am_m 255).2.1 (am_m 255).2.2.1 (am_m 255).2.2.2.1 (am_m 255).2.2.2.2.1 ∈ tables_1 := am_t8 _ (List.mem_of_getElem? (i := 17) rfl)
set_option maxRecDepth 20000 in
theorem cw_Model_leadsTo : Cond.code (am_m 256).2.1 (am_m 256).2.2.1 (am_m 256).2.2.2.1 (am_m 256).2.2.2.2.1 ∈ tables_1 := am_t8 _ (List.mem_of_getElem? (i := 9) rfl)
set_option maxRecDepth 20000 in
theorem cw_Model_square : Cond.code (am_m 257).2.1 (am_m 257).2.2.1 (am_m 257).2.2.2.1 (am_m 257).2.2.2.2.1 ∈ tables_1 := am_t8 _ (List.mem_of_getElem? (i := 5) rfl)
set_option maxRecDepth 20000 in
theorem cw_Model_laysMeets : Cond.code (am_m 258).2.1 (am_m 258).2.2.1 (am_m 258).2.2.2.1 (am_m 258).2.2.2.2.1 ∈ tables_1 := am_t8 _ (List.mem_of_getElem? (i := 29) rfl)
set_option maxRecDepth 20000 in
theorem cw_Model_canMeet : Cond.code (am_m 259).2.1 (am_m 259).2.2.1 (am_m 259).2.2.2.1 (am_m 259).2.2.2.2.1 ∈ tables_1 := am_t8 _ (List.mem_of_getElem? (i := 33) rfl)
set_option maxRecDepth 20000 in
theorem cw_Model_laysWorld : Cond.code (am_m 260).2.1 (am_m 260).2.2.1 (am_m 260).2.2.2.1 (am_m 260).2.2.2.2.1 ∈ tables_1 := am_t8 _ (List.mem_of_getElem? (i := 25) rfl)
set_option maxRecDepth 20000 in
theorem cw_Model_world : Cond.code (am_m 261).2.1 (am_m 261).2.2.1 (am_m 261).2.2.2.1 (am_m 261).2.2.2.2.1 ∈ tables_1 := am_t8 _ (List.mem_of_getElem? (i := 21) rfl)
set_option maxRecDepth 20000 in
theorem cw_Model_name : Cond.code (am_m 262).2.1 (am_m 262).2.2.1 (am_m 262).2.2.2.1 (am_m 262).2.2.2.2.1 ∈ tables_1 := am_t8 _ (List.mem_of_getElem? (i := 37) rfl)
set_option maxRecDepth 20000 in
theorem cw_Model_subject : Cond.code (am_m 263).2.1 (am_m 263).2.2.1 (am_m 263).2.2.2.1 (am_m 263).2.2.2.2.1 ∈ tables_1 := am_t8 _ (List.mem_of_getElem? (i := 47) rfl)
set_option maxRecDepth 20000 in
theorem cw_Model_predicate : Cond.code (am_m 264).2.1 (am_m 264).2.2.1 (am_m 264).2.2.2.1 (am_m 264).2.2.2.2.1 ∈ tables_1 := am_t8 _ (List.mem_of_getElem? (i := 50) rfl)
set_option maxRecDepth 20000 in
theorem cw_Model_figure : Cond.code (am_m 265).2.1 (am_m 265).2.2.1 (am_m 265).2.2.2.1 (am_m 265).2.2.2.2.1 ∈ tables_1 := am_t8 _ (List.mem_of_getElem? (i := 44) rfl)
set_option maxRecDepth 20000 in
theorem cw_Model_middle : Cond.code (am_m 266).2.1 (am_m 266).2.2.1 (am_m 266).2.2.2.1 (am_m 266).2.2.2.2.1 ∈ tables_1 := am_t8 _ (List.mem_of_getElem? (i := 53) rfl)
set_option maxRecDepth 20000 in
theorem cw_Model_otherOf : Cond.code (am_m 267).2.1 (am_m 267).2.2.1 (am_m 267).2.2.2.1 (am_m 267).2.2.2.2.1 ∈ tables_1 := am_t8 _ (List.mem_of_getElem? (i := 60) rfl)
set_option maxRecDepth 20000 in
theorem cw_Model_concludes : Cond.code (am_m 268).2.1 (am_m 268).2.2.1 (am_m 268).2.2.2.1 (am_m 268).2.2.2.2.1 ∈ tables_1 := am_t8 _ (List.mem_of_getElem? (i := 57) rfl)
set_option maxRecDepth 20000 in
theorem cw_Model_pair : Cond.code (am_m 269).2.1 (am_m 269).2.2.1 (am_m 269).2.2.2.1 (am_m 269).2.2.2.2.1 ∈ tables_1 := am_t8 _ (List.mem_of_getElem? (i := 41) rfl)
set_option maxRecDepth 20000 in
theorem cw_Model_isNegative : Cond.code (am_m 270).2.1 (am_m 270).2.2.1 (am_m 270).2.2.2.1 (am_m 270).2.2.2.2.1 ∈ tables_1 := am_t8 _ (List.mem_of_getElem? (i := 67) rfl)
set_option maxRecDepth 20000 in
theorem cw_Model_isSpread : Cond.code (am_m 271).2.1 (am_m 271).2.2.1 (am_m 271).2.2.2.1 (am_m 271).2.2.2.2.1 ∈ tables_1 := am_t8 _ (List.mem_of_getElem? (i := 70) rfl)
set_option maxRecDepth 20000 in
theorem cw_Model_wrong : Cond.code (am_m 272).2.1 (am_m 272).2.2.1 (am_m 272).2.2.2.1 (am_m 272).2.2.2.2.1 ∈ tables_1 := am_t8 _ (List.mem_of_getElem? (i := 64) rfl)
set_option maxRecDepth 20000 in
theorem cw_Model_concluded : Cond.code (am_m 273).2.1 (am_m 273).2.2.1 (am_m 273).2.2.2.1 (am_m 273).2.2.2.2.1 ∈ tables_1 := am_t8 _ (List.mem_of_getElem? (i := 85) rfl)
set_option maxRecDepth 20000 in
theorem cw_Model_derives : Cond.code (am_m 274).2.1 (am_m 274).2.2.1 (am_m 274).2.2.2.1 (am_m 274).2.2.2.2.1 ∈ tables_1 := am_t8 _ (List.mem_of_getElem? (i := 81) rfl)
set_option maxRecDepth 20000 in
theorem cw_Model_isSimple : Cond.code (am_m 275).2.1 (am_m 275).2.2.1 (am_m 275).2.2.2.1 (am_m 275).2.2.2.2.1 ∈ tables_1 := am_t8 _ (List.mem_of_getElem? (i := 77) rfl)
set_option maxRecDepth 20000 in
theorem cw_Model_derived : Cond.code (am_m 276).2.1 (am_m 276).2.2.1 (am_m 276).2.2.2.1 (am_m 276).2.2.2.2.1 ∈ tables_1 := am_t8 _ (List.mem_of_getElem? (i := 74) rfl)
set_option maxRecDepth 20000 in
theorem cw_Model_by : Cond.code (am_m 277).2.1 (am_m 277).2.2.1 (am_m 277).2.2.2.1 (am_m 277).2.2.2.2.1 ∈ tables_1 := am_t8 _ (List.mem_of_getElem? (i := 89) rfl)
set_option maxRecDepth 20000 in
theorem cw_Model_derive : Cond.code (am_m 278).2.1 (am_m 278).2.2.1 (am_m 278).2.2.2.1 (am_m 278).2.2.2.2.1 ∈ tables_1 := am_t8 _ (List.mem_of_getElem? (i := 93) rfl)
set_option maxRecDepth 20000 in
theorem cw_Model_bounds : Cond.code (am_m 279).2.1 (am_m 279).2.2.1 (am_m 279).2.2.2.1 (am_m 279).2.2.2.2.1 ∈ tables_1 := am_t8 _ (List.mem_of_getElem? (i := 109) rfl)
set_option maxRecDepth 20000 in
theorem cw_Model_binds : Cond.code (am_m 280).2.1 (am_m 280).2.2.1 (am_m 280).2.2.2.1 (am_m 280).2.2.2.2.1 ∈ tables_1 := am_t8 _ (List.mem_of_getElem? (i := 101) rfl)
set_option maxRecDepth 20000 in
theorem cw_Model_posit : Cond.code (am_m 281).2.1 (am_m 281).2.2.1 (am_m 281).2.2.2.1 (am_m 281).2.2.2.2.1 ∈ tables_1 := am_t8 _ (List.mem_of_getElem? (i := 97) rfl)
set_option maxRecDepth 20000 in
theorem cw_Model_propose : Cond.code (am_m 282).2.1 (am_m 282).2.2.1 (am_m 282).2.2.2.1 (am_m 282).2.2.2.2.1 ∈ tables_1 := am_t8 _ (List.mem_of_getElem? (i := 105) rfl)
set_option maxRecDepth 20000 in
theorem cw_Model_bound : Cond.code (am_m 283).2.1 (am_m 283).2.2.1 (am_m 283).2.2.2.1 (am_m 283).2.2.2.2.1 ∈ tables_1 := am_t8 _ (List.mem_of_getElem? (i := 113) rfl)
set_option maxRecDepth 20000 in
theorem cw_Model_draws : Cond.code (am_m 284).2.1 (am_m 284).2.2.1 (am_m 284).2.2.2.1 (am_m 284).2.2.2.2.1 ∈ tables_1 := am_t8 _ (List.mem_of_getElem? (i := 121) rfl)
set_option maxRecDepth 20000 in
theorem cw_Model_riddles : Cond.code (am_m 285).2.1 (am_m 285).2.2.1 (am_m 285).2.2.2.1 (am_m 285).2.2.2.2.1 ∈ tables_1 := am_t8 _ (List.mem_of_getElem? (i := 128) rfl)
set_option maxRecDepth 20000 in
theorem cw_Model_followsMood : Cond.code (am_m 286).2.1 (am_m 286).2.2.1 (am_m 286).2.2.2.1 (am_m 286).2.2.2.2.1 ∈ tables_1 := am_t8 _ (List.mem_of_getElem? (i := 132) rfl)
set_option maxRecDepth 20000 in
theorem cw_Model_riddle : Cond.code (am_m 287).2.1 (am_m 287).2.2.1 (am_m 287).2.2.2.1 (am_m 287).2.2.2.2.1 ∈ tables_1 := am_t8 _ (List.mem_of_getElem? (i := 117) rfl)
set_option maxRecDepth 20000 in
theorem cw_Model_drawn : Cond.code (am_m 288).2.1 (am_m 288).2.2.1 (am_m 288).2.2.2.1 (am_m 288).2.2.2.2.1 ∈ tables_1 := am_t8 _ (List.mem_of_getElem? (i := 136) rfl)
set_option maxRecDepth 20000 in
theorem cw_Model_count : Cond.code (am_m 289).2.1 (am_m 289).2.2.1 (am_m 289).2.2.2.1 (am_m 289).2.2.2.2.1 ∈ tables_1 := am_t8 _ (List.mem_of_getElem? (i := 140) rfl)
set_option maxRecDepth 20000 in
theorem cw_Model_status : Cond.code (am_m 290).2.1 (am_m 290).2.2.1 (am_m 290).2.2.2.1 (am_m 290).2.2.2.2.1 ∈ tables_1 := am_t8 _ (List.mem_of_getElem? (i := 144) rfl)
