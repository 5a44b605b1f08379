theorem ck_law_0 : am_chk code 13 false (some .boolean) 0 kb_MoodSlipsLaw_law_0 = true := by decide +kernel
theorem ck_law_18 : am_chk code 13 false (some .boolean) 18 kb_MoodSlipsLaw_law_18 = true := by decide +kernel
theorem ck_law_208 : am_chk code 13 false (some .boolean) 208 kb_MoodSlipsLaw_law_208 = true := by decide +kernel
theorem ck_law_271 : am_chk code 13 false (some .boolean) 271 kb_MoodSlipsLaw_law_271 = true := by decide +kernel
theorem ck_law_294 : am_chk code 13 false (some .boolean) 294 kb_MoodSlipsLaw_law_294 = true := by decide +kernel
theorem ck_law_307 : am_chk code 13 false (some .boolean) 307 kb_MoodSlipsLaw_law_307 = true := by decide +kernel
theorem ck_law_320 : am_chk code 13 false (some .boolean) 320 kb_MoodSlipsLaw_law_320 = true := by decide +kernel
theorem ck_law_333 : am_chk code 13 false (some .boolean) 333 kb_MoodSlipsLaw_law_333 = true := by decide +kernel
theorem ck_law_356 : am_chk code 13 false (some .boolean) 356 kb_MoodSlipsLaw_law_356 = true := by decide +kernel
theorem ck_law_379 : am_chk code 13 false (some .boolean) 379 kb_MoodSlipsLaw_law_379 = true := by decide +kernel
theorem ck_law_402 : am_chk code 13 false (some .boolean) 402 kb_MoodSlipsLaw_law_402 = true := by decide +kernel
theorem ck_law_435 : am_chk code 13 false (some .boolean) 435 kb_MoodSlipsLaw_law_435 = true := by decide +kernel
theorem ck_law_468 : am_chk code 13 false (some .boolean) 468 kb_MoodSlipsLaw_law_468 = true := by decide +kernel
theorem ck_law_501 : am_chk code 13 false (some .boolean) 501 kb_MoodSlipsLaw_law_501 = true := by decide +kernel
theorem ck_law_524 : am_chk code 13 false (some .boolean) 524 kb_MoodSlipsLaw_law_524 = true := by decide +kernel
theorem ck_law_547 : am_chk code 13 false (some .boolean) 547 kb_MoodSlipsLaw_law_547 = true := by decide +kernel
theorem ck_law_570 : am_chk code 13 false (some .boolean) 570 kb_MoodSlipsLaw_law_570 = true := by decide +kernel
theorem ck_law_593 : am_chk code 13 false (some .boolean) 593 kb_MoodSlipsLaw_law_593 = true := by decide +kernel
theorem ck_law_616 : am_chk code 13 false (some .boolean) 616 kb_MoodSlipsLaw_law_616 = true := by decide +kernel
theorem ck_law_639 : am_chk code 13 false (some .boolean) 639 kb_MoodSlipsLaw_law_639 = true := by decide +kernel
theorem ck_law_662 : am_chk code 13 false (some .boolean) 662 kb_MoodSlipsLaw_law_662 = true := by decide +kernel
theorem ck_law_685 : am_chk code 13 false (some .boolean) 685 kb_MoodSlipsLaw_law_685 = true := by decide +kernel
theorem ck_law_708 : am_chk code 13 false (some .boolean) 708 kb_MoodSlipsLaw_law_708 = true := by decide +kernel
theorem ck_law_751 : am_chk code 13 false (some .boolean) 751 kb_MoodSlipsLaw_law_751 = true := by decide +kernel
theorem ck_law_784 : am_chk code 13 false (some .boolean) 784 kb_MoodSlipsLaw_law_784 = true := by decide +kernel
theorem ck_law_837 : am_chk code 13 false (some .boolean) 837 kb_MoodSlipsLaw_law_837 = true := by decide +kernel
theorem ck_law_870 : am_chk code 13 false (some .boolean) 870 kb_MoodSlipsLaw_law_870 = true := by decide +kernel
theorem ck_law_903 : am_chk code 13 false (some .boolean) 903 kb_MoodSlipsLaw_law_903 = true := by decide +kernel
theorem ck_law_946 : am_chk code 13 false (some .boolean) 946 kb_MoodSlipsLaw_law_946 = true := by decide +kernel
theorem ck_law_989 : am_chk code 13 false (some .boolean) 989 kb_MoodSlipsLaw_law_989 = true := by decide +kernel
theorem ck_law_1032 : am_chk code 13 false (some .boolean) 1032 kb_MoodSlipsLaw_law_1032 = true := by decide +kernel
theorem ck_law_1075 : am_chk code 13 false (some .boolean) 1075 kb_MoodSlipsLaw_law_1075 = true := by decide +kernel
theorem ck_law_1128 : am_chk code 13 false (some .boolean) 1128 kb_MoodSlipsLaw_law_1128 = true := by decide +kernel
theorem ck_law_1151 : am_chk code 13 false (some .boolean) 1151 kb_MoodSlipsLaw_law_1151 = true := by decide +kernel
theorem ck_law_1164 : am_chk code 13 false (some .boolean) 1164 kb_MoodSlipsLaw_law_1164 = true := by decide +kernel
theorem ck_law_1177 : am_chk code 13 false (some .boolean) 1177 kb_MoodSlipsLaw_law_1177 = true := by decide +kernel
theorem ck_law_1200 : am_chk code 13 false (some .boolean) 1200 kb_MoodSlipsLaw_law_1200 = true := by decide +kernel
theorem ck_law_1233 : am_chk code 13 false (some .boolean) 1233 kb_MoodSlipsLaw_law_1233 = true := by decide +kernel
theorem ck_law_1266 : am_chk code 13 false (some .boolean) 1266 kb_MoodSlipsLaw_law_1266 = true := by decide +kernel
theorem ck_law_1289 : am_chk code 13 false (some .boolean) 1289 kb_MoodSlipsLaw_law_1289 = true := by decide +kernel
theorem ck_law_1312 : am_chk code 13 false (some .boolean) 1312 kb_MoodSlipsLaw_law_1312 = true := by decide +kernel
theorem ck_law_1335 : am_chk code 13 false (some .boolean) 1335 kb_MoodSlipsLaw_law_1335 = true := by decide +kernel
theorem ck_law_1348 : am_chk code 13 false (some .boolean) 1348 kb_MoodSlipsLaw_law_1348 = true := by decide +kernel
theorem ck_law_1354 : am_chk code 13 false (some .boolean) 1354 kb_MoodSlipsLaw_law_1354 = true := by decide +kernel
set_option maxRecDepth 20000 in
theorem ck_MoodSlipsLaw_law : am_chkm 291 kt_MoodSlipsLaw_law = true := by
  show (kt_MoodSlipsLaw_law).all (fun q => am_chk code 13 false (some .boolean) q.1 q.2) = true
  simp only [kt_MoodSlipsLaw_law, List.all_cons, List.all_nil, Bool.and_true, Bool.and_self, ck_law_0, ck_law_18, ck_law_208, ck_law_271, ck_law_294, ck_law_307, ck_law_320, ck_law_333, ck_law_356, ck_law_379, ck_law_402, ck_law_435, ck_law_468, ck_law_501, ck_law_524, ck_law_547, ck_law_570, ck_law_593, ck_law_616, ck_law_639, ck_law_662, ck_law_685, ck_law_708, ck_law_751, ck_law_784, ck_law_837, ck_law_870, ck_law_903, ck_law_946, ck_law_989, ck_law_1032, ck_law_1075, ck_law_1128, ck_law_1151, ck_law_1164, ck_law_1177, ck_law_1200, ck_law_1233, ck_law_1266, ck_law_1289, ck_law_1312, ck_law_1335, ck_law_1348, ck_law_1354]
