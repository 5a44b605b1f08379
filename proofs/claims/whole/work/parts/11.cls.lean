/-! ===== facts of the classes (printed by wip/tools/gen4.py) ===== -/
def am_lp : List (List Nat) := [[261, 263, 265, 267, 269, 271, 273, 275], [395, 397, 399, 401, 403, 405, 407], [148, 150, 152, 154, 156, 158, 160, 162], [296, 298, 300, 302], [313, 315, 317, 319, 321], [98, 100, 102, 104, 106, 108, 110, 112, 114, 116, 118, 120, 122], [226, 228, 230, 232, 234, 236, 238, 240, 242], [353, 355, 357, 359, 361, 363, 365, 367, 369, 371, 373], [180, 182, 184, 186, 188], [54, 56, 58, 60, 62, 64], [78, 80], [424, 426, 428, 430, 432, 434, 436, 438, 440, 442, 444, 446, 448, 450], [1277, 1279, 1281, 1283, 1285, 1287, 1289, 1291, 1293, 1295, 1297, 1299, 1301, 1303, 1305, 1307, 1309, 1311, 1313, 1315, 1317, 1319, 1321, 1323, 1325, 1327, 1329, 1331, 1333, 1335, 1337, 1339, 1341, 1343, 1345, 1347, 1349, 1351, 1353, 1355, 1357, 1359, 1361, 1363, 1365, 1367, 1369]]
def am_ip : List (Nat × Nat) := [(246, 8), (377, 12), (126, 5), (285, 10), (279, 9), (33, 2), (192, 7), (327, 11), (168, 6), (39, 3), (71, 4), (25, 1), (1226, 13)]
theorem am_lay_ok : (List.range 13).all (fun c => (List.range (am_cl3 c).2.2).all (fun k => am_wat ((am_lp.getD c []).getD k 0) (u_lay (am_cl3 c).1 (am_cl3 c).2.1 k))) = true := by decide +kernel
theorem am_ty_ok : (List.range 13).all (fun c => (List.range (am_cl3 c).2.2).all (fun k => decide (parseFieldDescriptor ((am_cl3 c).2.1 k).2.2.1 = some (am_ty c k)) && decide (((am_cl3 c).2.1 k).1 = (am_cl3 c).1))) = true := by decide +kernel
theorem am_nm_ok : (List.range 13).all (fun c => (List.range (am_cl3 c).2.2).all (fun k => (List.range (am_cl3 c).2.2).all (fun j => decide (k = j) || decide (((am_cl3 c).2.1 k).2.1 ≠ ((am_cl3 c).2.1 j).2.1)))) = true := by decide +kernel
theorem am_in_ok : (List.range 13).all (fun c => am_wat (am_ip.getD c (0, 0)).1 (.instantiable (am_cl3 c).1 (am_cl3 c).2.2) && am_wat (am_ip.getD c (0, 0)).2 (.initialized (am_cl3 c).1)) = true := by decide +kernel
theorem am_df_ok : (List.range 13).all (fun c => decide (am_dflt c = (List.range (am_cl3 c).2.2).map (fun k => defaultValue (am_ty c k)))) = true := by decide +kernel
theorem am_cls_len : am_cls.length = 13 := rfl
theorem am_own13 : (List.range 13).all (fun c => decide (am_own c = (am_cl3 c).1)) = true := by decide +kernel
theorem am_rng {n : Nat} {f : Nat → Bool} (h : (List.range n).all f = true) {k : Nat} (hk : k < n) : f k = true := List.all_eq_true.mp h k (List.mem_range.mpr hk)
theorem am_cls_at {c : Nat} (h : c < 13) : am_cls[c]? = some (am_cl3 c) := by
  unfold am_cl3
  rw [List.getD_eq_getElem?_getD, List.getElem?_eq_getElem (by rw [am_cls_len]; exact h)]
  rfl
theorem am_cls_of {c : Nat} {r : vw_C} (h : am_cls[c]? = some r) : c < 13 ∧ r = am_cl3 c := by
  have hc : c < 13 := by have := (List.getElem?_eq_some_iff.mp h).1; rw [am_cls_len] at this; exact this
  exact ⟨hc, Option.some.inj (h.symm.trans (am_cls_at hc))⟩
theorem am_hin {c : Nat} (hc : c < 13) : ∀ w ∈ u_ws (am_cl3 c).1 (am_cl3 c).2.1 (am_cl3 c).2.2, w ∈ am_TBL := by
  intro w hw
  obtain ⟨k, hk, rfl⟩ := List.mem_map.mp hw
  exact am_wat_in (am_rng (am_rng am_lay_ok hc) (List.mem_range.mp hk))
theorem am_hty {c : Nat} (hc : c < 13) : ∀ k, k < (am_cl3 c).2.2 → parseFieldDescriptor ((am_cl3 c).2.1 k).2.2.1 = some (am_ty c k) := fun k hk => by
  have h := am_rng (am_rng am_ty_ok hc) hk
  simp only [Bool.and_eq_true, decide_eq_true_eq] at h
  exact h.1
theorem am_hdc {c : Nat} (hc : c < 13) : ∀ k, k < (am_cl3 c).2.2 → ((am_cl3 c).2.1 k).1 = (am_cl3 c).1 := fun k hk => by
  have h := am_rng (am_rng am_ty_ok hc) hk
  simp only [Bool.and_eq_true, decide_eq_true_eq] at h
  exact h.2
theorem am_hnm {c : Nat} (hc : c < 13) : ∀ a, a < (am_cl3 c).2.2 → ∀ b, b < (am_cl3 c).2.2 → a ≠ b → ((am_cl3 c).2.1 a).2.1 ≠ ((am_cl3 c).2.1 b).2.1 := fun a ha b hb hne => by
  have h := am_rng (am_rng (am_rng am_nm_ok hc) ha) hb
  simp only [Bool.or_eq_true, decide_eq_true_eq] at h
  exact h.resolve_left hne
theorem am_hdf {c : Nat} (hc : c < 13) : am_dflt c = (List.range (am_cl3 c).2.2).map (fun k => defaultValue (am_ty c k)) := by
  have h := am_rng am_df_ok hc
  simpa using h
