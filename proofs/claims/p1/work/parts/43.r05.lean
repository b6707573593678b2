/-! p1: runs, written by wip/p1.py -/
set_option maxRecDepth 20000 in
theorem P_pa40 (xs : Nat → Int32) (hsw : xs 0 &&& 31 = 23) : P_wp P_Y0 200 0 (28, [.ref 0, .ref 2, .ref 47, .ref 63, .ref 64, .int 0, P_un, P_un, P_un], [], (P_hv132 xs 5)) (fun r h => r = .inl (some (.int 1)) ∧ h.2.1 ≤ 600002 ∧ h.2.2 ≤ 7302232) := by
  refine P_wp_step (S' := (30, [.ref 0, .ref 2, .ref 47, .ref 63, .ref 64, .int 0, P_un, P_un, P_un], [.int 0], (P_hv132 xs 5))) P_i0_28 (fun _ => rfl) ?_
  refine P_wp_step (S' := (31, [.ref 0, .ref 2, .ref 47, .ref 63, .ref 64, .int 0, P_un, P_un, P_un], [.ref 0, .int 0], (P_hv132 xs 5))) P_i0_30 (fun _ => rfl) ?_
  refine P_wp_step (S' := (32, [.ref 0, .ref 2, .ref 47, .ref 63, .ref 64, .int 0, P_un, P_un, P_un], [.int 5, .int 0], (P_hv132 xs 5))) P_i0_31 (fun _ => rfl) ?_
  refine P_wp_step (S' := (33, [.ref 0, .ref 2, .ref 47, .ref 63, .ref 64, .int 0, P_un, P_un, P_un], [.int 5, .int 5, .int 0], (P_hv132 xs 5))) P_i0_32 (fun _ => rfl) ?_
  refine P_wp_step (S' := (34, [.ref 0, .ref 2, .ref 47, .ref 63, .ref 64, .int 0, P_un, P_un, P_un], [.int 0, .int 0], (P_hv132 xs 5))) P_i0_33 (fun _ => rfl) ?_
  refine P_wp_icf P_i0_34 P_b18 (show P_wp P_Y0 200 0 (37, [.ref 0, .ref 2, .ref 47, .ref 63, .ref 64, .int 0, P_un, P_un, P_un], [], (P_hv132 xs 5)) _ from ?_)
  refine P_wp_step (S' := (38, [.ref 0, .ref 2, .ref 47, .ref 63, .ref 64, .int 0, P_un, P_un, P_un], [.ref 0], (P_hv132 xs 5))) P_i0_37 (fun _ => rfl) ?_
  refine P_wp_step (S' := (40, [.ref 0, .ref 2, .ref 47, .ref 63, .ref 64, .int 0, P_un, P_un, P_un], [.int 0, .ref 0], (P_hv132 xs 5))) P_i0_38 (fun _ => rfl) ?_
  refine P_wp_step (S' := (41, [.ref 0, .ref 2, .ref 47, .ref 63, .ref 64, .int 0, P_un, P_un, P_un], [.int (xs 0)], (P_hv132 xs 5))) P_i0_40 (fun _ => rfl) ?_
  refine P_wp_step (S' := (43, [.ref 0, .ref 2, .ref 47, .ref 63, .ref 64, .int 0, P_un, P_un, P_un], [.int 31, .int (xs 0)], (P_hv132 xs 5))) P_i0_41 (fun _ => rfl) ?_
  refine P_wp_step (S' := (44, [.ref 0, .ref 2, .ref 47, .ref 63, .ref 64, .int 0, P_un, P_un, P_un], [.int (xs 0 &&& 31)], (P_hv132 xs 5))) P_i0_43 (fun _ => rfl) ?_
  refine P_sw_at hsw (show P_wp P_Y0 200 0 (44, [.ref 0, .ref 2, .ref 47, .ref 63, .ref 64, .int 0, P_un, P_un, P_un], [.int 23], (P_hv132 xs 5)) _ from ?_)
  refine P_wp_step (S' := (1362, [.ref 0, .ref 2, .ref 47, .ref 63, .ref 64, .int 0, P_un, P_un, P_un], [], (P_hv132 xs 5))) P_i0_44 (fun _ => P_do_sw (by decide +kernel)) ?_
  refine P_wp_step (S' := (1363, [.ref 0, .ref 2, .ref 47, .ref 63, .ref 64, .int 0, P_un, P_un, P_un], [.ref 2], (P_hv132 xs 5))) P_i0_1362 (fun _ => rfl) ?_
  refine P_wp_step (S' := (1364, [.ref 0, .ref 2, .ref 47, .ref 63, .ref 64, .int 0, P_un, P_un, P_un], [.ref 0, .ref 2], (P_hv132 xs 5))) P_i0_1363 (fun _ => rfl) ?_
  refine P_wp_step (S' := (1366, [.ref 0, .ref 2, .ref 47, .ref 63, .ref 64, .int 0, P_un, P_un, P_un], [.int 0, .ref 0, .ref 2], (P_hv132 xs 5))) P_i0_1364 (fun _ => rfl) ?_
  refine P_wp_step (S' := (1367, [.ref 0, .ref 2, .ref 47, .ref 63, .ref 64, .int 0, P_un, P_un, P_un], [.int 1, .int 0, .ref 0, .ref 2], (P_hv132 xs 5))) P_i0_1366 (fun _ => rfl) ?_
  refine P_wp_step (S' := (1368, [.ref 0, .ref 2, .ref 47, .ref 63, .ref 64, .int 0, P_un, P_un, P_un], [.int 1, .ref 0, .ref 2], (P_hv132 xs 5))) P_i0_1367 (fun _ => rfl) ?_
  refine P_wp_step (S' := (1369, [.ref 0, .ref 2, .ref 47, .ref 63, .ref 64, .int 0, P_un, P_un, P_un], [.int (xs 1), .ref 2], (P_hv132 xs 5))) P_i0_1368 (fun _ => rfl) ?_
  refine P_wp_step (S' := (1370, [.ref 0, .ref 2, .ref 47, .ref 63, .ref 64, .int 0, P_un, P_un, P_un], [.ref 63, .int (xs 1), .ref 2], (P_hv132 xs 5))) P_i0_1369 (fun _ => rfl) ?_
  refine P_wp_call P_i0_1370 rfl rfl rfl rfl rfl rfl rfl (y2 := 290) (as := [.ref 2, .int (xs 1), .ref 63]) (r0 := []) rfl (Nat.le_of_ble_eq_true rfl) (by decide) rfl (Nat.le_of_ble_eq_true rfl) (P_x245 xs 5 (?_))
  show P_wp P_Y0 200 0 (1373, [.ref 0, .ref 2, .ref 47, .ref 63, .ref 64, .int 0, P_un, P_un, P_un], [.int 1], (P_hv134 xs 5)) _
  refine P_wp_step (S' := (1375, [.ref 0, .ref 2, .ref 47, .ref 63, .ref 64, .int 0, .int 1, P_un, P_un], [], (P_hv134 xs 5))) P_i0_1373 (fun _ => rfl) ?_
  refine P_wp_step (S' := (1376, [.ref 0, .ref 2, .ref 47, .ref 63, .ref 64, .int 0, .int 1, P_un, P_un], [.ref 47], (P_hv134 xs 5))) P_i0_1375 (fun _ => rfl) ?_
  refine P_wp_step (S' := (1377, [.ref 0, .ref 2, .ref 47, .ref 63, .ref 64, .int 0, .int 1, P_un, P_un], [.ref 0, .ref 47], (P_hv134 xs 5))) P_i0_1376 (fun _ => rfl) ?_
  refine P_wp_step (S' := (1379, [.ref 0, .ref 2, .ref 47, .ref 63, .ref 64, .int 0, .int 1, P_un, P_un], [.int 0, .ref 0, .ref 47], (P_hv134 xs 5))) P_i0_1377 (fun _ => rfl) ?_
  refine P_wp_step (S' := (1380, [.ref 0, .ref 2, .ref 47, .ref 63, .ref 64, .int 0, .int 1, P_un, P_un], [.int 1, .int 0, .ref 0, .ref 47], (P_hv134 xs 5))) P_i0_1379 (fun _ => rfl) ?_
  refine P_wp_step (S' := (1381, [.ref 0, .ref 2, .ref 47, .ref 63, .ref 64, .int 0, .int 1, P_un, P_un], [.int 1, .ref 0, .ref 47], (P_hv134 xs 5))) P_i0_1380 (fun _ => rfl) ?_
  refine P_wp_step (S' := (1382, [.ref 0, .ref 2, .ref 47, .ref 63, .ref 64, .int 0, .int 1, P_un, P_un], [.int (xs 1), .ref 47], (P_hv134 xs 5))) P_i0_1381 (fun _ => rfl) ?_
  refine P_wp_call P_i0_1382 rfl rfl rfl rfl rfl rfl rfl (y2 := 265) (as := [.ref 47, .int (xs 1)]) (r0 := []) rfl (Nat.le_of_ble_eq_true rfl) (by decide) rfl (Nat.le_of_ble_eq_true rfl) (P_x246 xs 5 (?_))
  show P_wp P_Y0 200 0 (1385, [.ref 0, .ref 2, .ref 47, .ref 63, .ref 64, .int 0, .int 1, P_un, P_un], [.int 0], (P_hv135 xs 5)) _
  refine P_wp_step (S' := (1387, [.ref 0, .ref 2, .ref 47, .ref 63, .ref 64, .int 0, .int 1, .int 0, P_un], [], (P_hv135 xs 5))) P_i0_1385 (fun _ => rfl) ?_
  refine P_wp_step (S' := (1388, [.ref 0, .ref 2, .ref 47, .ref 63, .ref 64, .int 0, .int 1, .int 0, P_un], [.ref 47], (P_hv135 xs 5))) P_i0_1387 (fun _ => rfl) ?_
  refine P_wp_call P_i0_1388 rfl rfl rfl rfl rfl rfl rfl (y2 := 183) (as := [.ref 47]) (r0 := []) rfl (Nat.le_of_ble_eq_true rfl) (by decide) rfl (Nat.le_of_ble_eq_true rfl) (P_x32 xs 5 (?_))
  show P_wp P_Y0 200 0 (1391, [.ref 0, .ref 2, .ref 47, .ref 63, .ref 64, .int 0, .int 1, .int 0, P_un], [.int 1], (P_hv135 xs 5)) _
  refine P_wp_step (S' := (1393, [.ref 0, .ref 2, .ref 47, .ref 63, .ref 64, .int 0, .int 1, .int 0, P_un], [.int 1, .int 1], (P_hv135 xs 5))) P_i0_1391 (fun _ => rfl) ?_
  refine P_wp_ict P_i0_1393 P_b20 (show P_wp P_Y0 200 0 (1398, [.ref 0, .ref 2, .ref 47, .ref 63, .ref 64, .int 0, .int 1, .int 0, P_un], [], (P_hv135 xs 5)) _ from ?_)
  refine P_wp_step (S' := (1400, [.ref 0, .ref 2, .ref 47, .ref 63, .ref 64, .int 0, .int 1, .int 0, P_un], [.int 1], (P_hv135 xs 5))) P_i0_1398 (fun _ => rfl) ?_
  refine P_wp_izt P_i0_1400 P_b21 (show P_wp P_Y0 200 0 (1415, [.ref 0, .ref 2, .ref 47, .ref 63, .ref 64, .int 0, .int 1, .int 0, P_un], [], (P_hv135 xs 5)) _ from ?_)
  refine P_wp_step (S' := (1553, [.ref 0, .ref 2, .ref 47, .ref 63, .ref 64, .int 0, .int 1, .int 0, P_un], [], (P_hv135 xs 5))) P_i0_1415 (fun _ => rfl) ?_
  refine P_wp_step (S' := (1556, [.ref 0, .ref 2, .ref 47, .ref 63, .ref 64, .int 5, .int 1, .int 0, P_un], [], (P_hv135 xs 5))) P_i0_1553 (fun _ => rfl) ?_
  refine P_wp_step (S' := (28, [.ref 0, .ref 2, .ref 47, .ref 63, .ref 64, .int 5, P_un, P_un, P_un], [], (P_hv135 xs 5))) P_i0_1556 (fun _ => rfl) ?_
  refine P_wp_step (S' := (30, [.ref 0, .ref 2, .ref 47, .ref 63, .ref 64, .int 5, P_un, P_un, P_un], [.int 5], (P_hv135 xs 5))) P_i0_28 (fun _ => rfl) ?_
  refine P_wp_step (S' := (31, [.ref 0, .ref 2, .ref 47, .ref 63, .ref 64, .int 5, P_un, P_un, P_un], [.ref 0, .int 5], (P_hv135 xs 5))) P_i0_30 (fun _ => rfl) ?_
  refine P_wp_step (S' := (32, [.ref 0, .ref 2, .ref 47, .ref 63, .ref 64, .int 5, P_un, P_un, P_un], [.int 5, .int 5], (P_hv135 xs 5))) P_i0_31 (fun _ => rfl) ?_
  refine P_wp_step (S' := (33, [.ref 0, .ref 2, .ref 47, .ref 63, .ref 64, .int 5, P_un, P_un, P_un], [.int 5, .int 5, .int 5], (P_hv135 xs 5))) P_i0_32 (fun _ => rfl) ?_
  refine P_wp_step (S' := (34, [.ref 0, .ref 2, .ref 47, .ref 63, .ref 64, .int 5, P_un, P_un, P_un], [.int 0, .int 5], (P_hv135 xs 5))) P_i0_33 (fun _ => rfl) ?_
  refine P_wp_ict P_i0_34 P_b22 (show P_wp P_Y0 200 0 (1559, [.ref 0, .ref 2, .ref 47, .ref 63, .ref 64, .int 5, P_un, P_un, P_un], [], (P_hv135 xs 5)) _ from ?_)
  refine P_wp_step (S' := (1560, [.ref 0, .ref 2, .ref 47, .ref 63, .ref 64, .int 5, P_un, P_un, P_un], [.int 1], (P_hv135 xs 5))) P_i0_1559 (fun _ => rfl) ?_
  refine P_wp_end (x := (.inl (some (.int 1)), (P_hv135 xs 5))) P_i0_1560 (fun _ => rfl) ?_
  exact ⟨rfl, Nat.le_of_ble_eq_true rfl, Nat.le_of_ble_eq_true rfl⟩

set_option maxRecDepth 20000 in
theorem P_pa41 (xs : Nat → Int32) (hsw : xs 0 &&& 31 = 24) : P_wp P_Y0 200 0 (28, [.ref 0, .ref 2, .ref 47, .ref 63, .ref 64, .int 0, P_un, P_un, P_un], [], (P_hv132 xs 5)) (fun r h => r = .inl (some (.int 1)) ∧ h.2.1 ≤ 600002 ∧ h.2.2 ≤ 7302232) := by
  refine P_wp_step (S' := (30, [.ref 0, .ref 2, .ref 47, .ref 63, .ref 64, .int 0, P_un, P_un, P_un], [.int 0], (P_hv132 xs 5))) P_i0_28 (fun _ => rfl) ?_
  refine P_wp_step (S' := (31, [.ref 0, .ref 2, .ref 47, .ref 63, .ref 64, .int 0, P_un, P_un, P_un], [.ref 0, .int 0], (P_hv132 xs 5))) P_i0_30 (fun _ => rfl) ?_
  refine P_wp_step (S' := (32, [.ref 0, .ref 2, .ref 47, .ref 63, .ref 64, .int 0, P_un, P_un, P_un], [.int 5, .int 0], (P_hv132 xs 5))) P_i0_31 (fun _ => rfl) ?_
  refine P_wp_step (S' := (33, [.ref 0, .ref 2, .ref 47, .ref 63, .ref 64, .int 0, P_un, P_un, P_un], [.int 5, .int 5, .int 0], (P_hv132 xs 5))) P_i0_32 (fun _ => rfl) ?_
  refine P_wp_step (S' := (34, [.ref 0, .ref 2, .ref 47, .ref 63, .ref 64, .int 0, P_un, P_un, P_un], [.int 0, .int 0], (P_hv132 xs 5))) P_i0_33 (fun _ => rfl) ?_
  refine P_wp_icf P_i0_34 P_b18 (show P_wp P_Y0 200 0 (37, [.ref 0, .ref 2, .ref 47, .ref 63, .ref 64, .int 0, P_un, P_un, P_un], [], (P_hv132 xs 5)) _ from ?_)
  refine P_wp_step (S' := (38, [.ref 0, .ref 2, .ref 47, .ref 63, .ref 64, .int 0, P_un, P_un, P_un], [.ref 0], (P_hv132 xs 5))) P_i0_37 (fun _ => rfl) ?_
  refine P_wp_step (S' := (40, [.ref 0, .ref 2, .ref 47, .ref 63, .ref 64, .int 0, P_un, P_un, P_un], [.int 0, .ref 0], (P_hv132 xs 5))) P_i0_38 (fun _ => rfl) ?_
  refine P_wp_step (S' := (41, [.ref 0, .ref 2, .ref 47, .ref 63, .ref 64, .int 0, P_un, P_un, P_un], [.int (xs 0)], (P_hv132 xs 5))) P_i0_40 (fun _ => rfl) ?_
  refine P_wp_step (S' := (43, [.ref 0, .ref 2, .ref 47, .ref 63, .ref 64, .int 0, P_un, P_un, P_un], [.int 31, .int (xs 0)], (P_hv132 xs 5))) P_i0_41 (fun _ => rfl) ?_
  refine P_wp_step (S' := (44, [.ref 0, .ref 2, .ref 47, .ref 63, .ref 64, .int 0, P_un, P_un, P_un], [.int (xs 0 &&& 31)], (P_hv132 xs 5))) P_i0_43 (fun _ => rfl) ?_
  refine P_sw_at hsw (show P_wp P_Y0 200 0 (44, [.ref 0, .ref 2, .ref 47, .ref 63, .ref 64, .int 0, P_un, P_un, P_un], [.int 24], (P_hv132 xs 5)) _ from ?_)
  refine P_wp_step (S' := (1418, [.ref 0, .ref 2, .ref 47, .ref 63, .ref 64, .int 0, P_un, P_un, P_un], [], (P_hv132 xs 5))) P_i0_44 (fun _ => P_do_sw (by decide +kernel)) ?_
  refine P_wp_step (S' := (1419, [.ref 0, .ref 2, .ref 47, .ref 63, .ref 64, .int 0, P_un, P_un, P_un], [.ref 2], (P_hv132 xs 5))) P_i0_1418 (fun _ => rfl) ?_
  refine P_wp_step (S' := (1420, [.ref 0, .ref 2, .ref 47, .ref 63, .ref 64, .int 0, P_un, P_un, P_un], [.ref 0, .ref 2], (P_hv132 xs 5))) P_i0_1419 (fun _ => rfl) ?_
  refine P_wp_step (S' := (1422, [.ref 0, .ref 2, .ref 47, .ref 63, .ref 64, .int 0, P_un, P_un, P_un], [.int 0, .ref 0, .ref 2], (P_hv132 xs 5))) P_i0_1420 (fun _ => rfl) ?_
  refine P_wp_step (S' := (1423, [.ref 0, .ref 2, .ref 47, .ref 63, .ref 64, .int 0, P_un, P_un, P_un], [.int 1, .int 0, .ref 0, .ref 2], (P_hv132 xs 5))) P_i0_1422 (fun _ => rfl) ?_
  refine P_wp_step (S' := (1424, [.ref 0, .ref 2, .ref 47, .ref 63, .ref 64, .int 0, P_un, P_un, P_un], [.int 1, .ref 0, .ref 2], (P_hv132 xs 5))) P_i0_1423 (fun _ => rfl) ?_
  refine P_wp_step (S' := (1425, [.ref 0, .ref 2, .ref 47, .ref 63, .ref 64, .int 0, P_un, P_un, P_un], [.int (xs 1), .ref 2], (P_hv132 xs 5))) P_i0_1424 (fun _ => rfl) ?_
  refine P_wp_step (S' := (1426, [.ref 0, .ref 2, .ref 47, .ref 63, .ref 64, .int 0, P_un, P_un, P_un], [.ref 63, .int (xs 1), .ref 2], (P_hv132 xs 5))) P_i0_1425 (fun _ => rfl) ?_
  refine P_wp_call P_i0_1426 rfl rfl rfl rfl rfl rfl rfl (y2 := 291) (as := [.ref 2, .int (xs 1), .ref 63]) (r0 := []) rfl (Nat.le_of_ble_eq_true rfl) (by decide) rfl (Nat.le_of_ble_eq_true rfl) (P_x248 xs 5 (?_))
  show P_wp P_Y0 200 0 (1429, [.ref 0, .ref 2, .ref 47, .ref 63, .ref 64, .int 0, P_un, P_un, P_un], [.int 1], (P_hv134 xs 5)) _
  refine P_wp_step (S' := (1431, [.ref 0, .ref 2, .ref 47, .ref 63, .ref 64, .int 0, .int 1, P_un, P_un], [], (P_hv134 xs 5))) P_i0_1429 (fun _ => rfl) ?_
  refine P_wp_step (S' := (1432, [.ref 0, .ref 2, .ref 47, .ref 63, .ref 64, .int 0, .int 1, P_un, P_un], [.ref 47], (P_hv134 xs 5))) P_i0_1431 (fun _ => rfl) ?_
  refine P_wp_step (S' := (1433, [.ref 0, .ref 2, .ref 47, .ref 63, .ref 64, .int 0, .int 1, P_un, P_un], [.ref 0, .ref 47], (P_hv134 xs 5))) P_i0_1432 (fun _ => rfl) ?_
  refine P_wp_step (S' := (1435, [.ref 0, .ref 2, .ref 47, .ref 63, .ref 64, .int 0, .int 1, P_un, P_un], [.int 0, .ref 0, .ref 47], (P_hv134 xs 5))) P_i0_1433 (fun _ => rfl) ?_
  refine P_wp_step (S' := (1436, [.ref 0, .ref 2, .ref 47, .ref 63, .ref 64, .int 0, .int 1, P_un, P_un], [.int 1, .int 0, .ref 0, .ref 47], (P_hv134 xs 5))) P_i0_1435 (fun _ => rfl) ?_
  refine P_wp_step (S' := (1437, [.ref 0, .ref 2, .ref 47, .ref 63, .ref 64, .int 0, .int 1, P_un, P_un], [.int 1, .ref 0, .ref 47], (P_hv134 xs 5))) P_i0_1436 (fun _ => rfl) ?_
  refine P_wp_step (S' := (1438, [.ref 0, .ref 2, .ref 47, .ref 63, .ref 64, .int 0, .int 1, P_un, P_un], [.int (xs 1), .ref 47], (P_hv134 xs 5))) P_i0_1437 (fun _ => rfl) ?_
  refine P_wp_call P_i0_1438 rfl rfl rfl rfl rfl rfl rfl (y2 := 267) (as := [.ref 47, .int (xs 1)]) (r0 := []) rfl (Nat.le_of_ble_eq_true rfl) (by decide) rfl (Nat.le_of_ble_eq_true rfl) (P_x249 xs 5 (?_))
  show P_wp P_Y0 200 0 (1441, [.ref 0, .ref 2, .ref 47, .ref 63, .ref 64, .int 0, .int 1, P_un, P_un], [.int 0], (P_hv135 xs 5)) _
  refine P_wp_step (S' := (1443, [.ref 0, .ref 2, .ref 47, .ref 63, .ref 64, .int 0, .int 1, .int 0, P_un], [], (P_hv135 xs 5))) P_i0_1441 (fun _ => rfl) ?_
  refine P_wp_step (S' := (1444, [.ref 0, .ref 2, .ref 47, .ref 63, .ref 64, .int 0, .int 1, .int 0, P_un], [.ref 47], (P_hv135 xs 5))) P_i0_1443 (fun _ => rfl) ?_
  refine P_wp_call P_i0_1444 rfl rfl rfl rfl rfl rfl rfl (y2 := 183) (as := [.ref 47]) (r0 := []) rfl (Nat.le_of_ble_eq_true rfl) (by decide) rfl (Nat.le_of_ble_eq_true rfl) (P_x32 xs 5 (?_))
  show P_wp P_Y0 200 0 (1447, [.ref 0, .ref 2, .ref 47, .ref 63, .ref 64, .int 0, .int 1, .int 0, P_un], [.int 1], (P_hv135 xs 5)) _
  refine P_wp_step (S' := (1449, [.ref 0, .ref 2, .ref 47, .ref 63, .ref 64, .int 0, .int 1, .int 0, P_un], [.int 1, .int 1], (P_hv135 xs 5))) P_i0_1447 (fun _ => rfl) ?_
  refine P_wp_ict P_i0_1449 P_b20 (show P_wp P_Y0 200 0 (1454, [.ref 0, .ref 2, .ref 47, .ref 63, .ref 64, .int 0, .int 1, .int 0, P_un], [], (P_hv135 xs 5)) _ from ?_)
  refine P_wp_step (S' := (1456, [.ref 0, .ref 2, .ref 47, .ref 63, .ref 64, .int 0, .int 1, .int 0, P_un], [.int 1], (P_hv135 xs 5))) P_i0_1454 (fun _ => rfl) ?_
  refine P_wp_izt P_i0_1456 P_b21 (show P_wp P_Y0 200 0 (1471, [.ref 0, .ref 2, .ref 47, .ref 63, .ref 64, .int 0, .int 1, .int 0, P_un], [], (P_hv135 xs 5)) _ from ?_)
  refine P_wp_step (S' := (1553, [.ref 0, .ref 2, .ref 47, .ref 63, .ref 64, .int 0, .int 1, .int 0, P_un], [], (P_hv135 xs 5))) P_i0_1471 (fun _ => rfl) ?_
  refine P_wp_step (S' := (1556, [.ref 0, .ref 2, .ref 47, .ref 63, .ref 64, .int 5, .int 1, .int 0, P_un], [], (P_hv135 xs 5))) P_i0_1553 (fun _ => rfl) ?_
  refine P_wp_step (S' := (28, [.ref 0, .ref 2, .ref 47, .ref 63, .ref 64, .int 5, P_un, P_un, P_un], [], (P_hv135 xs 5))) P_i0_1556 (fun _ => rfl) ?_
  refine P_wp_step (S' := (30, [.ref 0, .ref 2, .ref 47, .ref 63, .ref 64, .int 5, P_un, P_un, P_un], [.int 5], (P_hv135 xs 5))) P_i0_28 (fun _ => rfl) ?_
  refine P_wp_step (S' := (31, [.ref 0, .ref 2, .ref 47, .ref 63, .ref 64, .int 5, P_un, P_un, P_un], [.ref 0, .int 5], (P_hv135 xs 5))) P_i0_30 (fun _ => rfl) ?_
  refine P_wp_step (S' := (32, [.ref 0, .ref 2, .ref 47, .ref 63, .ref 64, .int 5, P_un, P_un, P_un], [.int 5, .int 5], (P_hv135 xs 5))) P_i0_31 (fun _ => rfl) ?_
  refine P_wp_step (S' := (33, [.ref 0, .ref 2, .ref 47, .ref 63, .ref 64, .int 5, P_un, P_un, P_un], [.int 5, .int 5, .int 5], (P_hv135 xs 5))) P_i0_32 (fun _ => rfl) ?_
  refine P_wp_step (S' := (34, [.ref 0, .ref 2, .ref 47, .ref 63, .ref 64, .int 5, P_un, P_un, P_un], [.int 0, .int 5], (P_hv135 xs 5))) P_i0_33 (fun _ => rfl) ?_
  refine P_wp_ict P_i0_34 P_b22 (show P_wp P_Y0 200 0 (1559, [.ref 0, .ref 2, .ref 47, .ref 63, .ref 64, .int 5, P_un, P_un, P_un], [], (P_hv135 xs 5)) _ from ?_)
  refine P_wp_step (S' := (1560, [.ref 0, .ref 2, .ref 47, .ref 63, .ref 64, .int 5, P_un, P_un, P_un], [.int 1], (P_hv135 xs 5))) P_i0_1559 (fun _ => rfl) ?_
  refine P_wp_end (x := (.inl (some (.int 1)), (P_hv135 xs 5))) P_i0_1560 (fun _ => rfl) ?_
  exact ⟨rfl, Nat.le_of_ble_eq_true rfl, Nat.le_of_ble_eq_true rfl⟩

set_option maxRecDepth 20000 in
theorem P_pa42 (xs : Nat → Int32) (hsw : xs 0 &&& 31 = 25) : P_wp P_Y0 200 0 (28, [.ref 0, .ref 2, .ref 47, .ref 63, .ref 64, .int 0, P_un, P_un, P_un], [], (P_hv132 xs 5)) (fun r h => r = .inl (some (.int 1)) ∧ h.2.1 ≤ 600002 ∧ h.2.2 ≤ 7302232) := by
  refine P_wp_step (S' := (30, [.ref 0, .ref 2, .ref 47, .ref 63, .ref 64, .int 0, P_un, P_un, P_un], [.int 0], (P_hv132 xs 5))) P_i0_28 (fun _ => rfl) ?_
  refine P_wp_step (S' := (31, [.ref 0, .ref 2, .ref 47, .ref 63, .ref 64, .int 0, P_un, P_un, P_un], [.ref 0, .int 0], (P_hv132 xs 5))) P_i0_30 (fun _ => rfl) ?_
  refine P_wp_step (S' := (32, [.ref 0, .ref 2, .ref 47, .ref 63, .ref 64, .int 0, P_un, P_un, P_un], [.int 5, .int 0], (P_hv132 xs 5))) P_i0_31 (fun _ => rfl) ?_
  refine P_wp_step (S' := (33, [.ref 0, .ref 2, .ref 47, .ref 63, .ref 64, .int 0, P_un, P_un, P_un], [.int 5, .int 5, .int 0], (P_hv132 xs 5))) P_i0_32 (fun _ => rfl) ?_
  refine P_wp_step (S' := (34, [.ref 0, .ref 2, .ref 47, .ref 63, .ref 64, .int 0, P_un, P_un, P_un], [.int 0, .int 0], (P_hv132 xs 5))) P_i0_33 (fun _ => rfl) ?_
  refine P_wp_icf P_i0_34 P_b18 (show P_wp P_Y0 200 0 (37, [.ref 0, .ref 2, .ref 47, .ref 63, .ref 64, .int 0, P_un, P_un, P_un], [], (P_hv132 xs 5)) _ from ?_)
  refine P_wp_step (S' := (38, [.ref 0, .ref 2, .ref 47, .ref 63, .ref 64, .int 0, P_un, P_un, P_un], [.ref 0], (P_hv132 xs 5))) P_i0_37 (fun _ => rfl) ?_
  refine P_wp_step (S' := (40, [.ref 0, .ref 2, .ref 47, .ref 63, .ref 64, .int 0, P_un, P_un, P_un], [.int 0, .ref 0], (P_hv132 xs 5))) P_i0_38 (fun _ => rfl) ?_
  refine P_wp_step (S' := (41, [.ref 0, .ref 2, .ref 47, .ref 63, .ref 64, .int 0, P_un, P_un, P_un], [.int (xs 0)], (P_hv132 xs 5))) P_i0_40 (fun _ => rfl) ?_
  refine P_wp_step (S' := (43, [.ref 0, .ref 2, .ref 47, .ref 63, .ref 64, .int 0, P_un, P_un, P_un], [.int 31, .int (xs 0)], (P_hv132 xs 5))) P_i0_41 (fun _ => rfl) ?_
  refine P_wp_step (S' := (44, [.ref 0, .ref 2, .ref 47, .ref 63, .ref 64, .int 0, P_un, P_un, P_un], [.int (xs 0 &&& 31)], (P_hv132 xs 5))) P_i0_43 (fun _ => rfl) ?_
  refine P_sw_at hsw (show P_wp P_Y0 200 0 (44, [.ref 0, .ref 2, .ref 47, .ref 63, .ref 64, .int 0, P_un, P_un, P_un], [.int 25], (P_hv132 xs 5)) _ from ?_)
  refine P_wp_step (S' := (1474, [.ref 0, .ref 2, .ref 47, .ref 63, .ref 64, .int 0, P_un, P_un, P_un], [], (P_hv132 xs 5))) P_i0_44 (fun _ => P_do_sw (by decide +kernel)) ?_
  refine P_wp_step (S' := (1475, [.ref 0, .ref 2, .ref 47, .ref 63, .ref 64, .int 0, P_un, P_un, P_un], [.ref 2], (P_hv132 xs 5))) P_i0_1474 (fun _ => rfl) ?_
  refine P_wp_step (S' := (1477, [.ref 0, .ref 2, .ref 47, .ref 63, .ref 64, .int 0, P_un, P_un, P_un], [.ref 64, .ref 2], (P_hv132 xs 5))) P_i0_1475 (fun _ => rfl) ?_
  refine P_wp_call P_i0_1477 rfl rfl rfl rfl rfl rfl rfl (y2 := 292) (as := [.ref 2, .ref 64]) (r0 := []) rfl (Nat.le_of_ble_eq_true rfl) (by decide) rfl (Nat.le_of_ble_eq_true rfl) (P_x251 xs 5 (?_))
  show P_wp P_Y0 200 0 (1480, [.ref 0, .ref 2, .ref 47, .ref 63, .ref 64, .int 0, P_un, P_un, P_un], [.int 1], (P_hv134 xs 5)) _
  refine P_wp_step (S' := (1482, [.ref 0, .ref 2, .ref 47, .ref 63, .ref 64, .int 0, .int 1, P_un, P_un], [], (P_hv134 xs 5))) P_i0_1480 (fun _ => rfl) ?_
  refine P_wp_step (S' := (1483, [.ref 0, .ref 2, .ref 47, .ref 63, .ref 64, .int 0, .int 1, P_un, P_un], [.ref 47], (P_hv134 xs 5))) P_i0_1482 (fun _ => rfl) ?_
  refine P_wp_call P_i0_1483 rfl rfl rfl rfl rfl rfl rfl (y2 := 268) (as := [.ref 47]) (r0 := []) rfl (Nat.le_of_ble_eq_true rfl) (by decide) rfl (Nat.le_of_ble_eq_true rfl) (P_x252 xs 5 (?_))
  show P_wp P_Y0 200 0 (1486, [.ref 0, .ref 2, .ref 47, .ref 63, .ref 64, .int 0, .int 1, P_un, P_un], [.double 0], (P_hv135 xs 5)) _
  refine P_wp_step (S' := (1488, [.ref 0, .ref 2, .ref 47, .ref 63, .ref 64, .int 0, .int 1, .double 0, P_un], [], (P_hv135 xs 5))) P_i0_1486 (fun _ => rfl) ?_
  refine P_wp_step (S' := (1489, [.ref 0, .ref 2, .ref 47, .ref 63, .ref 64, .int 0, .int 1, .double 0, P_un], [.ref 47], (P_hv135 xs 5))) P_i0_1488 (fun _ => rfl) ?_
  refine P_wp_call P_i0_1489 rfl rfl rfl rfl rfl rfl rfl (y2 := 183) (as := [.ref 47]) (r0 := []) rfl (Nat.le_of_ble_eq_true rfl) (by decide) rfl (Nat.le_of_ble_eq_true rfl) (P_x32 xs 5 (?_))
  show P_wp P_Y0 200 0 (1492, [.ref 0, .ref 2, .ref 47, .ref 63, .ref 64, .int 0, .int 1, .double 0, P_un], [.int 1], (P_hv135 xs 5)) _
  refine P_wp_step (S' := (1494, [.ref 0, .ref 2, .ref 47, .ref 63, .ref 64, .int 0, .int 1, .double 0, P_un], [.int 1, .int 1], (P_hv135 xs 5))) P_i0_1492 (fun _ => rfl) ?_
  refine P_wp_ict P_i0_1494 P_b20 (show P_wp P_Y0 200 0 (1499, [.ref 0, .ref 2, .ref 47, .ref 63, .ref 64, .int 0, .int 1, .double 0, P_un], [], (P_hv135 xs 5)) _ from ?_)
  refine P_wp_step (S' := (1501, [.ref 0, .ref 2, .ref 47, .ref 63, .ref 64, .int 0, .int 1, .double 0, P_un], [.int 1], (P_hv135 xs 5))) P_i0_1499 (fun _ => rfl) ?_
  refine P_wp_izt P_i0_1501 P_b21 (show P_wp P_Y0 200 0 (1536, [.ref 0, .ref 2, .ref 47, .ref 63, .ref 64, .int 0, .int 1, .double 0, P_un], [], (P_hv135 xs 5)) _ from ?_)
  refine P_wp_step (S' := (1553, [.ref 0, .ref 2, .ref 47, .ref 63, .ref 64, .int 0, .int 1, .double 0, P_un], [], (P_hv135 xs 5))) P_i0_1536 (fun _ => rfl) ?_
  refine P_wp_step (S' := (1556, [.ref 0, .ref 2, .ref 47, .ref 63, .ref 64, .int 5, .int 1, .double 0, P_un], [], (P_hv135 xs 5))) P_i0_1553 (fun _ => rfl) ?_
  refine P_wp_step (S' := (28, [.ref 0, .ref 2, .ref 47, .ref 63, .ref 64, .int 5, P_un, P_un, P_un], [], (P_hv135 xs 5))) P_i0_1556 (fun _ => rfl) ?_
  refine P_wp_step (S' := (30, [.ref 0, .ref 2, .ref 47, .ref 63, .ref 64, .int 5, P_un, P_un, P_un], [.int 5], (P_hv135 xs 5))) P_i0_28 (fun _ => rfl) ?_
  refine P_wp_step (S' := (31, [.ref 0, .ref 2, .ref 47, .ref 63, .ref 64, .int 5, P_un, P_un, P_un], [.ref 0, .int 5], (P_hv135 xs 5))) P_i0_30 (fun _ => rfl) ?_
  refine P_wp_step (S' := (32, [.ref 0, .ref 2, .ref 47, .ref 63, .ref 64, .int 5, P_un, P_un, P_un], [.int 5, .int 5], (P_hv135 xs 5))) P_i0_31 (fun _ => rfl) ?_
  refine P_wp_step (S' := (33, [.ref 0, .ref 2, .ref 47, .ref 63, .ref 64, .int 5, P_un, P_un, P_un], [.int 5, .int 5, .int 5], (P_hv135 xs 5))) P_i0_32 (fun _ => rfl) ?_
  refine P_wp_step (S' := (34, [.ref 0, .ref 2, .ref 47, .ref 63, .ref 64, .int 5, P_un, P_un, P_un], [.int 0, .int 5], (P_hv135 xs 5))) P_i0_33 (fun _ => rfl) ?_
  refine P_wp_ict P_i0_34 P_b22 (show P_wp P_Y0 200 0 (1559, [.ref 0, .ref 2, .ref 47, .ref 63, .ref 64, .int 5, P_un, P_un, P_un], [], (P_hv135 xs 5)) _ from ?_)
  refine P_wp_step (S' := (1560, [.ref 0, .ref 2, .ref 47, .ref 63, .ref 64, .int 5, P_un, P_un, P_un], [.int 1], (P_hv135 xs 5))) P_i0_1559 (fun _ => rfl) ?_
  refine P_wp_end (x := (.inl (some (.int 1)), (P_hv135 xs 5))) P_i0_1560 (fun _ => rfl) ?_
  exact ⟨rfl, Nat.le_of_ble_eq_true rfl, Nat.le_of_ble_eq_true rfl⟩

set_option maxRecDepth 20000 in
theorem P_pa43 (xs : Nat → Int32) (hsw : xs 0 &&& 31 = 26) : P_wp P_Y0 200 0 (28, [.ref 0, .ref 2, .ref 47, .ref 63, .ref 64, .int 0, P_un, P_un, P_un], [], (P_hv132 xs 5)) (fun r h => r = .inl (some (.int 1)) ∧ h.2.1 ≤ 600002 ∧ h.2.2 ≤ 7302232) := by
  refine P_wp_step (S' := (30, [.ref 0, .ref 2, .ref 47, .ref 63, .ref 64, .int 0, P_un, P_un, P_un], [.int 0], (P_hv132 xs 5))) P_i0_28 (fun _ => rfl) ?_
  refine P_wp_step (S' := (31, [.ref 0, .ref 2, .ref 47, .ref 63, .ref 64, .int 0, P_un, P_un, P_un], [.ref 0, .int 0], (P_hv132 xs 5))) P_i0_30 (fun _ => rfl) ?_
  refine P_wp_step (S' := (32, [.ref 0, .ref 2, .ref 47, .ref 63, .ref 64, .int 0, P_un, P_un, P_un], [.int 5, .int 0], (P_hv132 xs 5))) P_i0_31 (fun _ => rfl) ?_
  refine P_wp_step (S' := (33, [.ref 0, .ref 2, .ref 47, .ref 63, .ref 64, .int 0, P_un, P_un, P_un], [.int 5, .int 5, .int 0], (P_hv132 xs 5))) P_i0_32 (fun _ => rfl) ?_
  refine P_wp_step (S' := (34, [.ref 0, .ref 2, .ref 47, .ref 63, .ref 64, .int 0, P_un, P_un, P_un], [.int 0, .int 0], (P_hv132 xs 5))) P_i0_33 (fun _ => rfl) ?_
  refine P_wp_icf P_i0_34 P_b18 (show P_wp P_Y0 200 0 (37, [.ref 0, .ref 2, .ref 47, .ref 63, .ref 64, .int 0, P_un, P_un, P_un], [], (P_hv132 xs 5)) _ from ?_)
  refine P_wp_step (S' := (38, [.ref 0, .ref 2, .ref 47, .ref 63, .ref 64, .int 0, P_un, P_un, P_un], [.ref 0], (P_hv132 xs 5))) P_i0_37 (fun _ => rfl) ?_
  refine P_wp_step (S' := (40, [.ref 0, .ref 2, .ref 47, .ref 63, .ref 64, .int 0, P_un, P_un, P_un], [.int 0, .ref 0], (P_hv132 xs 5))) P_i0_38 (fun _ => rfl) ?_
  refine P_wp_step (S' := (41, [.ref 0, .ref 2, .ref 47, .ref 63, .ref 64, .int 0, P_un, P_un, P_un], [.int (xs 0)], (P_hv132 xs 5))) P_i0_40 (fun _ => rfl) ?_
  refine P_wp_step (S' := (43, [.ref 0, .ref 2, .ref 47, .ref 63, .ref 64, .int 0, P_un, P_un, P_un], [.int 31, .int (xs 0)], (P_hv132 xs 5))) P_i0_41 (fun _ => rfl) ?_
  refine P_wp_step (S' := (44, [.ref 0, .ref 2, .ref 47, .ref 63, .ref 64, .int 0, P_un, P_un, P_un], [.int (xs 0 &&& 31)], (P_hv132 xs 5))) P_i0_43 (fun _ => rfl) ?_
  refine P_sw_at hsw (show P_wp P_Y0 200 0 (44, [.ref 0, .ref 2, .ref 47, .ref 63, .ref 64, .int 0, P_un, P_un, P_un], [.int 26], (P_hv132 xs 5)) _ from ?_)
  refine P_wp_step (S' := (1539, [.ref 0, .ref 2, .ref 47, .ref 63, .ref 64, .int 0, P_un, P_un, P_un], [], (P_hv132 xs 5))) P_i0_44 (fun _ => P_do_sw (by decide +kernel)) ?_
  refine P_wp_step (S' := (1540, [.ref 0, .ref 2, .ref 47, .ref 63, .ref 64, .int 0, P_un, P_un, P_un], [.ref 2], (P_hv132 xs 5))) P_i0_1539 (fun _ => rfl) ?_
  refine P_wp_call P_i0_1540 rfl rfl rfl rfl rfl rfl rfl (y2 := 164) (as := [.ref 2]) (r0 := []) rfl (Nat.le_of_ble_eq_true rfl) (by decide) rfl (Nat.le_of_ble_eq_true rfl) (P_x267 xs 5 (?_))
  show P_wp P_Y0 200 0 (1543, [.ref 0, .ref 2, .ref 47, .ref 63, .ref 64, .int 0, P_un, P_un, P_un], [.long 51551538814565], (P_hv132 xs 5)) _
  refine P_wp_step (S' := (1544, [.ref 0, .ref 2, .ref 47, .ref 63, .ref 64, .int 0, P_un, P_un, P_un], [.ref 47, .long 51551538814565], (P_hv132 xs 5))) P_i0_1543 (fun _ => rfl) ?_
  refine P_wp_call P_i0_1544 rfl rfl rfl rfl rfl rfl rfl (y2 := 269) (as := [.ref 47]) (r0 := [.long 51551538814565]) rfl (Nat.le_of_ble_eq_true rfl) (by decide) rfl (Nat.le_of_ble_eq_true rfl) (P_x273 xs 5 (?_))
  show P_wp P_Y0 200 0 (1547, [.ref 0, .ref 2, .ref 47, .ref 63, .ref 64, .int 0, P_un, P_un, P_un], [.long 51551538814565, .long 51551538814565], (P_hv132 xs 5)) _
  refine P_wp_step (S' := (1548, [.ref 0, .ref 2, .ref 47, .ref 63, .ref 64, .int 0, P_un, P_un, P_un], [.int 0], (P_hv132 xs 5))) P_i0_1547 (fun _ => P_do_lcmp (by decide +kernel)) ?_
  refine P_wp_izt P_i0_1548 P_b27 (show P_wp P_Y0 200 0 (1553, [.ref 0, .ref 2, .ref 47, .ref 63, .ref 64, .int 0, P_un, P_un, P_un], [], (P_hv132 xs 5)) _ from ?_)
  refine P_wp_step (S' := (1556, [.ref 0, .ref 2, .ref 47, .ref 63, .ref 64, .int 5, P_un, P_un, P_un], [], (P_hv132 xs 5))) P_i0_1553 (fun _ => rfl) ?_
  refine P_wp_step (S' := (28, [.ref 0, .ref 2, .ref 47, .ref 63, .ref 64, .int 5, P_un, P_un, P_un], [], (P_hv132 xs 5))) P_i0_1556 (fun _ => rfl) ?_
  refine P_wp_step (S' := (30, [.ref 0, .ref 2, .ref 47, .ref 63, .ref 64, .int 5, P_un, P_un, P_un], [.int 5], (P_hv132 xs 5))) P_i0_28 (fun _ => rfl) ?_
  refine P_wp_step (S' := (31, [.ref 0, .ref 2, .ref 47, .ref 63, .ref 64, .int 5, P_un, P_un, P_un], [.ref 0, .int 5], (P_hv132 xs 5))) P_i0_30 (fun _ => rfl) ?_
  refine P_wp_step (S' := (32, [.ref 0, .ref 2, .ref 47, .ref 63, .ref 64, .int 5, P_un, P_un, P_un], [.int 5, .int 5], (P_hv132 xs 5))) P_i0_31 (fun _ => rfl) ?_
  refine P_wp_step (S' := (33, [.ref 0, .ref 2, .ref 47, .ref 63, .ref 64, .int 5, P_un, P_un, P_un], [.int 5, .int 5, .int 5], (P_hv132 xs 5))) P_i0_32 (fun _ => rfl) ?_
  refine P_wp_step (S' := (34, [.ref 0, .ref 2, .ref 47, .ref 63, .ref 64, .int 5, P_un, P_un, P_un], [.int 0, .int 5], (P_hv132 xs 5))) P_i0_33 (fun _ => rfl) ?_
  refine P_wp_ict P_i0_34 P_b22 (show P_wp P_Y0 200 0 (1559, [.ref 0, .ref 2, .ref 47, .ref 63, .ref 64, .int 5, P_un, P_un, P_un], [], (P_hv132 xs 5)) _ from ?_)
  refine P_wp_step (S' := (1560, [.ref 0, .ref 2, .ref 47, .ref 63, .ref 64, .int 5, P_un, P_un, P_un], [.int 1], (P_hv132 xs 5))) P_i0_1559 (fun _ => rfl) ?_
  refine P_wp_end (x := (.inl (some (.int 1)), (P_hv132 xs 5))) P_i0_1560 (fun _ => rfl) ?_
  exact ⟨rfl, Nat.le_of_ble_eq_true rfl, Nat.le_of_ble_eq_true rfl⟩

set_option maxRecDepth 20000 in
theorem P_pa44 (xs : Nat → Int32) (hsw : xs 0 &&& 31 = 27) : P_wp P_Y0 200 0 (28, [.ref 0, .ref 2, .ref 47, .ref 63, .ref 64, .int 0, P_un, P_un, P_un], [], (P_hv132 xs 5)) (fun r h => r = .inl (some (.int 1)) ∧ h.2.1 ≤ 600002 ∧ h.2.2 ≤ 7302232) := by
  refine P_wp_step (S' := (30, [.ref 0, .ref 2, .ref 47, .ref 63, .ref 64, .int 0, P_un, P_un, P_un], [.int 0], (P_hv132 xs 5))) P_i0_28 (fun _ => rfl) ?_
  refine P_wp_step (S' := (31, [.ref 0, .ref 2, .ref 47, .ref 63, .ref 64, .int 0, P_un, P_un, P_un], [.ref 0, .int 0], (P_hv132 xs 5))) P_i0_30 (fun _ => rfl) ?_
  refine P_wp_step (S' := (32, [.ref 0, .ref 2, .ref 47, .ref 63, .ref 64, .int 0, P_un, P_un, P_un], [.int 5, .int 0], (P_hv132 xs 5))) P_i0_31 (fun _ => rfl) ?_
  refine P_wp_step (S' := (33, [.ref 0, .ref 2, .ref 47, .ref 63, .ref 64, .int 0, P_un, P_un, P_un], [.int 5, .int 5, .int 0], (P_hv132 xs 5))) P_i0_32 (fun _ => rfl) ?_
  refine P_wp_step (S' := (34, [.ref 0, .ref 2, .ref 47, .ref 63, .ref 64, .int 0, P_un, P_un, P_un], [.int 0, .int 0], (P_hv132 xs 5))) P_i0_33 (fun _ => rfl) ?_
  refine P_wp_icf P_i0_34 P_b18 (show P_wp P_Y0 200 0 (37, [.ref 0, .ref 2, .ref 47, .ref 63, .ref 64, .int 0, P_un, P_un, P_un], [], (P_hv132 xs 5)) _ from ?_)
  refine P_wp_step (S' := (38, [.ref 0, .ref 2, .ref 47, .ref 63, .ref 64, .int 0, P_un, P_un, P_un], [.ref 0], (P_hv132 xs 5))) P_i0_37 (fun _ => rfl) ?_
  refine P_wp_step (S' := (40, [.ref 0, .ref 2, .ref 47, .ref 63, .ref 64, .int 0, P_un, P_un, P_un], [.int 0, .ref 0], (P_hv132 xs 5))) P_i0_38 (fun _ => rfl) ?_
  refine P_wp_step (S' := (41, [.ref 0, .ref 2, .ref 47, .ref 63, .ref 64, .int 0, P_un, P_un, P_un], [.int (xs 0)], (P_hv132 xs 5))) P_i0_40 (fun _ => rfl) ?_
  refine P_wp_step (S' := (43, [.ref 0, .ref 2, .ref 47, .ref 63, .ref 64, .int 0, P_un, P_un, P_un], [.int 31, .int (xs 0)], (P_hv132 xs 5))) P_i0_41 (fun _ => rfl) ?_
  refine P_wp_step (S' := (44, [.ref 0, .ref 2, .ref 47, .ref 63, .ref 64, .int 0, P_un, P_un, P_un], [.int (xs 0 &&& 31)], (P_hv132 xs 5))) P_i0_43 (fun _ => rfl) ?_
  refine P_sw_at hsw (show P_wp P_Y0 200 0 (44, [.ref 0, .ref 2, .ref 47, .ref 63, .ref 64, .int 0, P_un, P_un, P_un], [.int 27], (P_hv132 xs 5)) _ from ?_)
  refine P_wp_step (S' := (1553, [.ref 0, .ref 2, .ref 47, .ref 63, .ref 64, .int 0, P_un, P_un, P_un], [], (P_hv132 xs 5))) P_i0_44 (fun _ => P_do_sw (by decide +kernel)) ?_
  refine P_wp_step (S' := (1556, [.ref 0, .ref 2, .ref 47, .ref 63, .ref 64, .int 5, P_un, P_un, P_un], [], (P_hv132 xs 5))) P_i0_1553 (fun _ => rfl) ?_
  refine P_wp_step (S' := (28, [.ref 0, .ref 2, .ref 47, .ref 63, .ref 64, .int 5, P_un, P_un, P_un], [], (P_hv132 xs 5))) P_i0_1556 (fun _ => rfl) ?_
  refine P_wp_step (S' := (30, [.ref 0, .ref 2, .ref 47, .ref 63, .ref 64, .int 5, P_un, P_un, P_un], [.int 5], (P_hv132 xs 5))) P_i0_28 (fun _ => rfl) ?_
  refine P_wp_step (S' := (31, [.ref 0, .ref 2, .ref 47, .ref 63, .ref 64, .int 5, P_un, P_un, P_un], [.ref 0, .int 5], (P_hv132 xs 5))) P_i0_30 (fun _ => rfl) ?_
  refine P_wp_step (S' := (32, [.ref 0, .ref 2, .ref 47, .ref 63, .ref 64, .int 5, P_un, P_un, P_un], [.int 5, .int 5], (P_hv132 xs 5))) P_i0_31 (fun _ => rfl) ?_
  refine P_wp_step (S' := (33, [.ref 0, .ref 2, .ref 47, .ref 63, .ref 64, .int 5, P_un, P_un, P_un], [.int 5, .int 5, .int 5], (P_hv132 xs 5))) P_i0_32 (fun _ => rfl) ?_
  refine P_wp_step (S' := (34, [.ref 0, .ref 2, .ref 47, .ref 63, .ref 64, .int 5, P_un, P_un, P_un], [.int 0, .int 5], (P_hv132 xs 5))) P_i0_33 (fun _ => rfl) ?_
  refine P_wp_ict P_i0_34 P_b22 (show P_wp P_Y0 200 0 (1559, [.ref 0, .ref 2, .ref 47, .ref 63, .ref 64, .int 5, P_un, P_un, P_un], [], (P_hv132 xs 5)) _ from ?_)
  refine P_wp_step (S' := (1560, [.ref 0, .ref 2, .ref 47, .ref 63, .ref 64, .int 5, P_un, P_un, P_un], [.int 1], (P_hv132 xs 5))) P_i0_1559 (fun _ => rfl) ?_
  refine P_wp_end (x := (.inl (some (.int 1)), (P_hv132 xs 5))) P_i0_1560 (fun _ => rfl) ?_
  exact ⟨rfl, Nat.le_of_ble_eq_true rfl, Nat.le_of_ble_eq_true rfl⟩

set_option maxRecDepth 20000 in
theorem P_pa45 (xs : Nat → Int32) (hsw : xs 0 &&& 31 = 28) : P_wp P_Y0 200 0 (28, [.ref 0, .ref 2, .ref 47, .ref 63, .ref 64, .int 0, P_un, P_un, P_un], [], (P_hv132 xs 5)) (fun r h => r = .inl (some (.int 1)) ∧ h.2.1 ≤ 600002 ∧ h.2.2 ≤ 7302232) := by
  refine P_wp_step (S' := (30, [.ref 0, .ref 2, .ref 47, .ref 63, .ref 64, .int 0, P_un, P_un, P_un], [.int 0], (P_hv132 xs 5))) P_i0_28 (fun _ => rfl) ?_
  refine P_wp_step (S' := (31, [.ref 0, .ref 2, .ref 47, .ref 63, .ref 64, .int 0, P_un, P_un, P_un], [.ref 0, .int 0], (P_hv132 xs 5))) P_i0_30 (fun _ => rfl) ?_
  refine P_wp_step (S' := (32, [.ref 0, .ref 2, .ref 47, .ref 63, .ref 64, .int 0, P_un, P_un, P_un], [.int 5, .int 0], (P_hv132 xs 5))) P_i0_31 (fun _ => rfl) ?_
  refine P_wp_step (S' := (33, [.ref 0, .ref 2, .ref 47, .ref 63, .ref 64, .int 0, P_un, P_un, P_un], [.int 5, .int 5, .int 0], (P_hv132 xs 5))) P_i0_32 (fun _ => rfl) ?_
  refine P_wp_step (S' := (34, [.ref 0, .ref 2, .ref 47, .ref 63, .ref 64, .int 0, P_un, P_un, P_un], [.int 0, .int 0], (P_hv132 xs 5))) P_i0_33 (fun _ => rfl) ?_
  refine P_wp_icf P_i0_34 P_b18 (show P_wp P_Y0 200 0 (37, [.ref 0, .ref 2, .ref 47, .ref 63, .ref 64, .int 0, P_un, P_un, P_un], [], (P_hv132 xs 5)) _ from ?_)
  refine P_wp_step (S' := (38, [.ref 0, .ref 2, .ref 47, .ref 63, .ref 64, .int 0, P_un, P_un, P_un], [.ref 0], (P_hv132 xs 5))) P_i0_37 (fun _ => rfl) ?_
  refine P_wp_step (S' := (40, [.ref 0, .ref 2, .ref 47, .ref 63, .ref 64, .int 0, P_un, P_un, P_un], [.int 0, .ref 0], (P_hv132 xs 5))) P_i0_38 (fun _ => rfl) ?_
  refine P_wp_step (S' := (41, [.ref 0, .ref 2, .ref 47, .ref 63, .ref 64, .int 0, P_un, P_un, P_un], [.int (xs 0)], (P_hv132 xs 5))) P_i0_40 (fun _ => rfl) ?_
  refine P_wp_step (S' := (43, [.ref 0, .ref 2, .ref 47, .ref 63, .ref 64, .int 0, P_un, P_un, P_un], [.int 31, .int (xs 0)], (P_hv132 xs 5))) P_i0_41 (fun _ => rfl) ?_
  refine P_wp_step (S' := (44, [.ref 0, .ref 2, .ref 47, .ref 63, .ref 64, .int 0, P_un, P_un, P_un], [.int (xs 0 &&& 31)], (P_hv132 xs 5))) P_i0_43 (fun _ => rfl) ?_
  refine P_sw_at hsw (show P_wp P_Y0 200 0 (44, [.ref 0, .ref 2, .ref 47, .ref 63, .ref 64, .int 0, P_un, P_un, P_un], [.int 28], (P_hv132 xs 5)) _ from ?_)
  refine P_wp_step (S' := (1553, [.ref 0, .ref 2, .ref 47, .ref 63, .ref 64, .int 0, P_un, P_un, P_un], [], (P_hv132 xs 5))) P_i0_44 (fun _ => P_do_sw (by decide +kernel)) ?_
  refine P_wp_step (S' := (1556, [.ref 0, .ref 2, .ref 47, .ref 63, .ref 64, .int 5, P_un, P_un, P_un], [], (P_hv132 xs 5))) P_i0_1553 (fun _ => rfl) ?_
  refine P_wp_step (S' := (28, [.ref 0, .ref 2, .ref 47, .ref 63, .ref 64, .int 5, P_un, P_un, P_un], [], (P_hv132 xs 5))) P_i0_1556 (fun _ => rfl) ?_
  refine P_wp_step (S' := (30, [.ref 0, .ref 2, .ref 47, .ref 63, .ref 64, .int 5, P_un, P_un, P_un], [.int 5], (P_hv132 xs 5))) P_i0_28 (fun _ => rfl) ?_
  refine P_wp_step (S' := (31, [.ref 0, .ref 2, .ref 47, .ref 63, .ref 64, .int 5, P_un, P_un, P_un], [.ref 0, .int 5], (P_hv132 xs 5))) P_i0_30 (fun _ => rfl) ?_
  refine P_wp_step (S' := (32, [.ref 0, .ref 2, .ref 47, .ref 63, .ref 64, .int 5, P_un, P_un, P_un], [.int 5, .int 5], (P_hv132 xs 5))) P_i0_31 (fun _ => rfl) ?_
  refine P_wp_step (S' := (33, [.ref 0, .ref 2, .ref 47, .ref 63, .ref 64, .int 5, P_un, P_un, P_un], [.int 5, .int 5, .int 5], (P_hv132 xs 5))) P_i0_32 (fun _ => rfl) ?_
  refine P_wp_step (S' := (34, [.ref 0, .ref 2, .ref 47, .ref 63, .ref 64, .int 5, P_un, P_un, P_un], [.int 0, .int 5], (P_hv132 xs 5))) P_i0_33 (fun _ => rfl) ?_
  refine P_wp_ict P_i0_34 P_b22 (show P_wp P_Y0 200 0 (1559, [.ref 0, .ref 2, .ref 47, .ref 63, .ref 64, .int 5, P_un, P_un, P_un], [], (P_hv132 xs 5)) _ from ?_)
  refine P_wp_step (S' := (1560, [.ref 0, .ref 2, .ref 47, .ref 63, .ref 64, .int 5, P_un, P_un, P_un], [.int 1], (P_hv132 xs 5))) P_i0_1559 (fun _ => rfl) ?_
  refine P_wp_end (x := (.inl (some (.int 1)), (P_hv132 xs 5))) P_i0_1560 (fun _ => rfl) ?_
  exact ⟨rfl, Nat.le_of_ble_eq_true rfl, Nat.le_of_ble_eq_true rfl⟩

set_option maxRecDepth 20000 in
theorem P_pa46 (xs : Nat → Int32) (hsw : xs 0 &&& 31 = 29) : P_wp P_Y0 200 0 (28, [.ref 0, .ref 2, .ref 47, .ref 63, .ref 64, .int 0, P_un, P_un, P_un], [], (P_hv132 xs 5)) (fun r h => r = .inl (some (.int 1)) ∧ h.2.1 ≤ 600002 ∧ h.2.2 ≤ 7302232) := by
  refine P_wp_step (S' := (30, [.ref 0, .ref 2, .ref 47, .ref 63, .ref 64, .int 0, P_un, P_un, P_un], [.int 0], (P_hv132 xs 5))) P_i0_28 (fun _ => rfl) ?_
  refine P_wp_step (S' := (31, [.ref 0, .ref 2, .ref 47, .ref 63, .ref 64, .int 0, P_un, P_un, P_un], [.ref 0, .int 0], (P_hv132 xs 5))) P_i0_30 (fun _ => rfl) ?_
  refine P_wp_step (S' := (32, [.ref 0, .ref 2, .ref 47, .ref 63, .ref 64, .int 0, P_un, P_un, P_un], [.int 5, .int 0], (P_hv132 xs 5))) P_i0_31 (fun _ => rfl) ?_
  refine P_wp_step (S' := (33, [.ref 0, .ref 2, .ref 47, .ref 63, .ref 64, .int 0, P_un, P_un, P_un], [.int 5, .int 5, .int 0], (P_hv132 xs 5))) P_i0_32 (fun _ => rfl) ?_
  refine P_wp_step (S' := (34, [.ref 0, .ref 2, .ref 47, .ref 63, .ref 64, .int 0, P_un, P_un, P_un], [.int 0, .int 0], (P_hv132 xs 5))) P_i0_33 (fun _ => rfl) ?_
  refine P_wp_icf P_i0_34 P_b18 (show P_wp P_Y0 200 0 (37, [.ref 0, .ref 2, .ref 47, .ref 63, .ref 64, .int 0, P_un, P_un, P_un], [], (P_hv132 xs 5)) _ from ?_)
  refine P_wp_step (S' := (38, [.ref 0, .ref 2, .ref 47, .ref 63, .ref 64, .int 0, P_un, P_un, P_un], [.ref 0], (P_hv132 xs 5))) P_i0_37 (fun _ => rfl) ?_
  refine P_wp_step (S' := (40, [.ref 0, .ref 2, .ref 47, .ref 63, .ref 64, .int 0, P_un, P_un, P_un], [.int 0, .ref 0], (P_hv132 xs 5))) P_i0_38 (fun _ => rfl) ?_
  refine P_wp_step (S' := (41, [.ref 0, .ref 2, .ref 47, .ref 63, .ref 64, .int 0, P_un, P_un, P_un], [.int (xs 0)], (P_hv132 xs 5))) P_i0_40 (fun _ => rfl) ?_
  refine P_wp_step (S' := (43, [.ref 0, .ref 2, .ref 47, .ref 63, .ref 64, .int 0, P_un, P_un, P_un], [.int 31, .int (xs 0)], (P_hv132 xs 5))) P_i0_41 (fun _ => rfl) ?_
  refine P_wp_step (S' := (44, [.ref 0, .ref 2, .ref 47, .ref 63, .ref 64, .int 0, P_un, P_un, P_un], [.int (xs 0 &&& 31)], (P_hv132 xs 5))) P_i0_43 (fun _ => rfl) ?_
  refine P_sw_at hsw (show P_wp P_Y0 200 0 (44, [.ref 0, .ref 2, .ref 47, .ref 63, .ref 64, .int 0, P_un, P_un, P_un], [.int 29], (P_hv132 xs 5)) _ from ?_)
  refine P_wp_step (S' := (1553, [.ref 0, .ref 2, .ref 47, .ref 63, .ref 64, .int 0, P_un, P_un, P_un], [], (P_hv132 xs 5))) P_i0_44 (fun _ => P_do_sw (by decide +kernel)) ?_
  refine P_wp_step (S' := (1556, [.ref 0, .ref 2, .ref 47, .ref 63, .ref 64, .int 5, P_un, P_un, P_un], [], (P_hv132 xs 5))) P_i0_1553 (fun _ => rfl) ?_
  refine P_wp_step (S' := (28, [.ref 0, .ref 2, .ref 47, .ref 63, .ref 64, .int 5, P_un, P_un, P_un], [], (P_hv132 xs 5))) P_i0_1556 (fun _ => rfl) ?_
  refine P_wp_step (S' := (30, [.ref 0, .ref 2, .ref 47, .ref 63, .ref 64, .int 5, P_un, P_un, P_un], [.int 5], (P_hv132 xs 5))) P_i0_28 (fun _ => rfl) ?_
  refine P_wp_step (S' := (31, [.ref 0, .ref 2, .ref 47, .ref 63, .ref 64, .int 5, P_un, P_un, P_un], [.ref 0, .int 5], (P_hv132 xs 5))) P_i0_30 (fun _ => rfl) ?_
  refine P_wp_step (S' := (32, [.ref 0, .ref 2, .ref 47, .ref 63, .ref 64, .int 5, P_un, P_un, P_un], [.int 5, .int 5], (P_hv132 xs 5))) P_i0_31 (fun _ => rfl) ?_
  refine P_wp_step (S' := (33, [.ref 0, .ref 2, .ref 47, .ref 63, .ref 64, .int 5, P_un, P_un, P_un], [.int 5, .int 5, .int 5], (P_hv132 xs 5))) P_i0_32 (fun _ => rfl) ?_
  refine P_wp_step (S' := (34, [.ref 0, .ref 2, .ref 47, .ref 63, .ref 64, .int 5, P_un, P_un, P_un], [.int 0, .int 5], (P_hv132 xs 5))) P_i0_33 (fun _ => rfl) ?_
  refine P_wp_ict P_i0_34 P_b22 (show P_wp P_Y0 200 0 (1559, [.ref 0, .ref 2, .ref 47, .ref 63, .ref 64, .int 5, P_un, P_un, P_un], [], (P_hv132 xs 5)) _ from ?_)
  refine P_wp_step (S' := (1560, [.ref 0, .ref 2, .ref 47, .ref 63, .ref 64, .int 5, P_un, P_un, P_un], [.int 1], (P_hv132 xs 5))) P_i0_1559 (fun _ => rfl) ?_
  refine P_wp_end (x := (.inl (some (.int 1)), (P_hv132 xs 5))) P_i0_1560 (fun _ => rfl) ?_
  exact ⟨rfl, Nat.le_of_ble_eq_true rfl, Nat.le_of_ble_eq_true rfl⟩

set_option maxRecDepth 20000 in
theorem P_pa47 (xs : Nat → Int32) (hsw : xs 0 &&& 31 = 30) : P_wp P_Y0 200 0 (28, [.ref 0, .ref 2, .ref 47, .ref 63, .ref 64, .int 0, P_un, P_un, P_un], [], (P_hv132 xs 5)) (fun r h => r = .inl (some (.int 1)) ∧ h.2.1 ≤ 600002 ∧ h.2.2 ≤ 7302232) := by
  refine P_wp_step (S' := (30, [.ref 0, .ref 2, .ref 47, .ref 63, .ref 64, .int 0, P_un, P_un, P_un], [.int 0], (P_hv132 xs 5))) P_i0_28 (fun _ => rfl) ?_
  refine P_wp_step (S' := (31, [.ref 0, .ref 2, .ref 47, .ref 63, .ref 64, .int 0, P_un, P_un, P_un], [.ref 0, .int 0], (P_hv132 xs 5))) P_i0_30 (fun _ => rfl) ?_
  refine P_wp_step (S' := (32, [.ref 0, .ref 2, .ref 47, .ref 63, .ref 64, .int 0, P_un, P_un, P_un], [.int 5, .int 0], (P_hv132 xs 5))) P_i0_31 (fun _ => rfl) ?_
  refine P_wp_step (S' := (33, [.ref 0, .ref 2, .ref 47, .ref 63, .ref 64, .int 0, P_un, P_un, P_un], [.int 5, .int 5, .int 0], (P_hv132 xs 5))) P_i0_32 (fun _ => rfl) ?_
  refine P_wp_step (S' := (34, [.ref 0, .ref 2, .ref 47, .ref 63, .ref 64, .int 0, P_un, P_un, P_un], [.int 0, .int 0], (P_hv132 xs 5))) P_i0_33 (fun _ => rfl) ?_
  refine P_wp_icf P_i0_34 P_b18 (show P_wp P_Y0 200 0 (37, [.ref 0, .ref 2, .ref 47, .ref 63, .ref 64, .int 0, P_un, P_un, P_un], [], (P_hv132 xs 5)) _ from ?_)
  refine P_wp_step (S' := (38, [.ref 0, .ref 2, .ref 47, .ref 63, .ref 64, .int 0, P_un, P_un, P_un], [.ref 0], (P_hv132 xs 5))) P_i0_37 (fun _ => rfl) ?_
  refine P_wp_step (S' := (40, [.ref 0, .ref 2, .ref 47, .ref 63, .ref 64, .int 0, P_un, P_un, P_un], [.int 0, .ref 0], (P_hv132 xs 5))) P_i0_38 (fun _ => rfl) ?_
  refine P_wp_step (S' := (41, [.ref 0, .ref 2, .ref 47, .ref 63, .ref 64, .int 0, P_un, P_un, P_un], [.int (xs 0)], (P_hv132 xs 5))) P_i0_40 (fun _ => rfl) ?_
  refine P_wp_step (S' := (43, [.ref 0, .ref 2, .ref 47, .ref 63, .ref 64, .int 0, P_un, P_un, P_un], [.int 31, .int (xs 0)], (P_hv132 xs 5))) P_i0_41 (fun _ => rfl) ?_
  refine P_wp_step (S' := (44, [.ref 0, .ref 2, .ref 47, .ref 63, .ref 64, .int 0, P_un, P_un, P_un], [.int (xs 0 &&& 31)], (P_hv132 xs 5))) P_i0_43 (fun _ => rfl) ?_
  refine P_sw_at hsw (show P_wp P_Y0 200 0 (44, [.ref 0, .ref 2, .ref 47, .ref 63, .ref 64, .int 0, P_un, P_un, P_un], [.int 30], (P_hv132 xs 5)) _ from ?_)
  refine P_wp_step (S' := (1553, [.ref 0, .ref 2, .ref 47, .ref 63, .ref 64, .int 0, P_un, P_un, P_un], [], (P_hv132 xs 5))) P_i0_44 (fun _ => P_do_sw (by decide +kernel)) ?_
  refine P_wp_step (S' := (1556, [.ref 0, .ref 2, .ref 47, .ref 63, .ref 64, .int 5, P_un, P_un, P_un], [], (P_hv132 xs 5))) P_i0_1553 (fun _ => rfl) ?_
  refine P_wp_step (S' := (28, [.ref 0, .ref 2, .ref 47, .ref 63, .ref 64, .int 5, P_un, P_un, P_un], [], (P_hv132 xs 5))) P_i0_1556 (fun _ => rfl) ?_
  refine P_wp_step (S' := (30, [.ref 0, .ref 2, .ref 47, .ref 63, .ref 64, .int 5, P_un, P_un, P_un], [.int 5], (P_hv132 xs 5))) P_i0_28 (fun _ => rfl) ?_
  refine P_wp_step (S' := (31, [.ref 0, .ref 2, .ref 47, .ref 63, .ref 64, .int 5, P_un, P_un, P_un], [.ref 0, .int 5], (P_hv132 xs 5))) P_i0_30 (fun _ => rfl) ?_
  refine P_wp_step (S' := (32, [.ref 0, .ref 2, .ref 47, .ref 63, .ref 64, .int 5, P_un, P_un, P_un], [.int 5, .int 5], (P_hv132 xs 5))) P_i0_31 (fun _ => rfl) ?_
  refine P_wp_step (S' := (33, [.ref 0, .ref 2, .ref 47, .ref 63, .ref 64, .int 5, P_un, P_un, P_un], [.int 5, .int 5, .int 5], (P_hv132 xs 5))) P_i0_32 (fun _ => rfl) ?_
  refine P_wp_step (S' := (34, [.ref 0, .ref 2, .ref 47, .ref 63, .ref 64, .int 5, P_un, P_un, P_un], [.int 0, .int 5], (P_hv132 xs 5))) P_i0_33 (fun _ => rfl) ?_
  refine P_wp_ict P_i0_34 P_b22 (show P_wp P_Y0 200 0 (1559, [.ref 0, .ref 2, .ref 47, .ref 63, .ref 64, .int 5, P_un, P_un, P_un], [], (P_hv132 xs 5)) _ from ?_)
  refine P_wp_step (S' := (1560, [.ref 0, .ref 2, .ref 47, .ref 63, .ref 64, .int 5, P_un, P_un, P_un], [.int 1], (P_hv132 xs 5))) P_i0_1559 (fun _ => rfl) ?_
  refine P_wp_end (x := (.inl (some (.int 1)), (P_hv132 xs 5))) P_i0_1560 (fun _ => rfl) ?_
  exact ⟨rfl, Nat.le_of_ble_eq_true rfl, Nat.le_of_ble_eq_true rfl⟩

set_option maxRecDepth 20000 in
theorem P_pa48 (xs : Nat → Int32) (hsw : xs 0 &&& 31 = 31) : P_wp P_Y0 200 0 (28, [.ref 0, .ref 2, .ref 47, .ref 63, .ref 64, .int 0, P_un, P_un, P_un], [], (P_hv132 xs 5)) (fun r h => r = .inl (some (.int 1)) ∧ h.2.1 ≤ 600002 ∧ h.2.2 ≤ 7302232) := by
  refine P_wp_step (S' := (30, [.ref 0, .ref 2, .ref 47, .ref 63, .ref 64, .int 0, P_un, P_un, P_un], [.int 0], (P_hv132 xs 5))) P_i0_28 (fun _ => rfl) ?_
  refine P_wp_step (S' := (31, [.ref 0, .ref 2, .ref 47, .ref 63, .ref 64, .int 0, P_un, P_un, P_un], [.ref 0, .int 0], (P_hv132 xs 5))) P_i0_30 (fun _ => rfl) ?_
  refine P_wp_step (S' := (32, [.ref 0, .ref 2, .ref 47, .ref 63, .ref 64, .int 0, P_un, P_un, P_un], [.int 5, .int 0], (P_hv132 xs 5))) P_i0_31 (fun _ => rfl) ?_
  refine P_wp_step (S' := (33, [.ref 0, .ref 2, .ref 47, .ref 63, .ref 64, .int 0, P_un, P_un, P_un], [.int 5, .int 5, .int 0], (P_hv132 xs 5))) P_i0_32 (fun _ => rfl) ?_
  refine P_wp_step (S' := (34, [.ref 0, .ref 2, .ref 47, .ref 63, .ref 64, .int 0, P_un, P_un, P_un], [.int 0, .int 0], (P_hv132 xs 5))) P_i0_33 (fun _ => rfl) ?_
  refine P_wp_icf P_i0_34 P_b18 (show P_wp P_Y0 200 0 (37, [.ref 0, .ref 2, .ref 47, .ref 63, .ref 64, .int 0, P_un, P_un, P_un], [], (P_hv132 xs 5)) _ from ?_)
  refine P_wp_step (S' := (38, [.ref 0, .ref 2, .ref 47, .ref 63, .ref 64, .int 0, P_un, P_un, P_un], [.ref 0], (P_hv132 xs 5))) P_i0_37 (fun _ => rfl) ?_
  refine P_wp_step (S' := (40, [.ref 0, .ref 2, .ref 47, .ref 63, .ref 64, .int 0, P_un, P_un, P_un], [.int 0, .ref 0], (P_hv132 xs 5))) P_i0_38 (fun _ => rfl) ?_
  refine P_wp_step (S' := (41, [.ref 0, .ref 2, .ref 47, .ref 63, .ref 64, .int 0, P_un, P_un, P_un], [.int (xs 0)], (P_hv132 xs 5))) P_i0_40 (fun _ => rfl) ?_
  refine P_wp_step (S' := (43, [.ref 0, .ref 2, .ref 47, .ref 63, .ref 64, .int 0, P_un, P_un, P_un], [.int 31, .int (xs 0)], (P_hv132 xs 5))) P_i0_41 (fun _ => rfl) ?_
  refine P_wp_step (S' := (44, [.ref 0, .ref 2, .ref 47, .ref 63, .ref 64, .int 0, P_un, P_un, P_un], [.int (xs 0 &&& 31)], (P_hv132 xs 5))) P_i0_43 (fun _ => rfl) ?_
  refine P_sw_at hsw (show P_wp P_Y0 200 0 (44, [.ref 0, .ref 2, .ref 47, .ref 63, .ref 64, .int 0, P_un, P_un, P_un], [.int 31], (P_hv132 xs 5)) _ from ?_)
  refine P_wp_step (S' := (1553, [.ref 0, .ref 2, .ref 47, .ref 63, .ref 64, .int 0, P_un, P_un, P_un], [], (P_hv132 xs 5))) P_i0_44 (fun _ => P_do_sw (by decide +kernel)) ?_
  refine P_wp_step (S' := (1556, [.ref 0, .ref 2, .ref 47, .ref 63, .ref 64, .int 5, P_un, P_un, P_un], [], (P_hv132 xs 5))) P_i0_1553 (fun _ => rfl) ?_
  refine P_wp_step (S' := (28, [.ref 0, .ref 2, .ref 47, .ref 63, .ref 64, .int 5, P_un, P_un, P_un], [], (P_hv132 xs 5))) P_i0_1556 (fun _ => rfl) ?_
  refine P_wp_step (S' := (30, [.ref 0, .ref 2, .ref 47, .ref 63, .ref 64, .int 5, P_un, P_un, P_un], [.int 5], (P_hv132 xs 5))) P_i0_28 (fun _ => rfl) ?_
  refine P_wp_step (S' := (31, [.ref 0, .ref 2, .ref 47, .ref 63, .ref 64, .int 5, P_un, P_un, P_un], [.ref 0, .int 5], (P_hv132 xs 5))) P_i0_30 (fun _ => rfl) ?_
  refine P_wp_step (S' := (32, [.ref 0, .ref 2, .ref 47, .ref 63, .ref 64, .int 5, P_un, P_un, P_un], [.int 5, .int 5], (P_hv132 xs 5))) P_i0_31 (fun _ => rfl) ?_
  refine P_wp_step (S' := (33, [.ref 0, .ref 2, .ref 47, .ref 63, .ref 64, .int 5, P_un, P_un, P_un], [.int 5, .int 5, .int 5], (P_hv132 xs 5))) P_i0_32 (fun _ => rfl) ?_
  refine P_wp_step (S' := (34, [.ref 0, .ref 2, .ref 47, .ref 63, .ref 64, .int 5, P_un, P_un, P_un], [.int 0, .int 5], (P_hv132 xs 5))) P_i0_33 (fun _ => rfl) ?_
  refine P_wp_ict P_i0_34 P_b22 (show P_wp P_Y0 200 0 (1559, [.ref 0, .ref 2, .ref 47, .ref 63, .ref 64, .int 5, P_un, P_un, P_un], [], (P_hv132 xs 5)) _ from ?_)
  refine P_wp_step (S' := (1560, [.ref 0, .ref 2, .ref 47, .ref 63, .ref 64, .int 5, P_un, P_un, P_un], [.int 1], (P_hv132 xs 5))) P_i0_1559 (fun _ => rfl) ?_
  refine P_wp_end (x := (.inl (some (.int 1)), (P_hv132 xs 5))) P_i0_1560 (fun _ => rfl) ?_
  exact ⟨rfl, Nat.le_of_ble_eq_true rfl, Nat.le_of_ble_eq_true rfl⟩
