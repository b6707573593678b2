/-! p1: runs, written by wip/p1.py -/
set_option maxRecDepth 20000 in
theorem P_pa15 (xs : Nat → Int32) (hsw : xs 0 &&& 31 = 4) (hc1 : P_cc .lt (xs 1) 0 = false) (hc2 : P_cc .le (xs 1) 11 = false) (hc3 : P_cc .lt (xs 1) 20 = false) (hc4 : P_cc .ge (xs 1) 25 = true) (hc5 : P_cc .lt (xs 1) 100 = false) (hc6 : P_cc .gt (xs 1) 199 = true) (hc7 : P_cc .lt (xs 1) 1000 = false) (hc8 : P_cc .gt (xs 1) 1999 = false) (hc9 : P_cc .lt (xs 1) 0 = false) (hc10 : P_cc .gt (xs 1) 11 = true) (hc11 : P_cc .lt (xs 1) 20 = false) (hc12 : P_cc .gt (xs 1) 24 = true) (hc13 : P_cc .lt (xs 1) 100 = false) (hc14 : P_cc .gt (xs 1) 199 = true) (hc15 : P_cc .lt (xs 1) 1000 = false) (hc16 : P_cc .gt (xs 1) 1999 = false) : P_wp P_Y0 200 0 (28, [.ref 0, .ref 2, .ref 47, .ref 63, .ref 64, .int 0, P_un, P_un, P_un], [], (P_hv132 xs 5)) (fun r h => r = .inl (some (.int 1)) ∧ h.2.1 ≤ 600002 ∧ h.2.2 ≤ 7302232) := by
  refine P_wp_step (S' := (30, [.ref 0, .ref 2, .ref 47, .ref 63, .ref 64, .int 0, P_un, P_un, P_un], [.int 0], (P_hv132 xs 5))) P_i0_28 (fun _ => rfl) ?_
  refine P_wp_step (S' := (31, [.ref 0, .ref 2, .ref 47, .ref 63, .ref 64, .int 0, P_un, P_un, P_un], [.ref 0, .int 0], (P_hv132 xs 5))) P_i0_30 (fun _ => rfl) ?_
  refine P_wp_step (S' := (32, [.ref 0, .ref 2, .ref 47, .ref 63, .ref 64, .int 0, P_un, P_un, P_un], [.int 5, .int 0], (P_hv132 xs 5))) P_i0_31 (fun _ => rfl) ?_
  refine P_wp_step (S' := (33, [.ref 0, .ref 2, .ref 47, .ref 63, .ref 64, .int 0, P_un, P_un, P_un], [.int 5, .int 5, .int 0], (P_hv132 xs 5))) P_i0_32 (fun _ => rfl) ?_
  refine P_wp_step (S' := (34, [.ref 0, .ref 2, .ref 47, .ref 63, .ref 64, .int 0, P_un, P_un, P_un], [.int 0, .int 0], (P_hv132 xs 5))) P_i0_33 (fun _ => rfl) ?_
  refine P_wp_icf P_i0_34 P_b18 (show P_wp P_Y0 200 0 (37, [.ref 0, .ref 2, .ref 47, .ref 63, .ref 64, .int 0, P_un, P_un, P_un], [], (P_hv132 xs 5)) _ from ?_)
  refine P_wp_step (S' := (38, [.ref 0, .ref 2, .ref 47, .ref 63, .ref 64, .int 0, P_un, P_un, P_un], [.ref 0], (P_hv132 xs 5))) P_i0_37 (fun _ => rfl) ?_
  refine P_wp_step (S' := (40, [.ref 0, .ref 2, .ref 47, .ref 63, .ref 64, .int 0, P_un, P_un, P_un], [.int 0, .ref 0], (P_hv132 xs 5))) P_i0_38 (fun _ => rfl) ?_
  refine P_wp_step (S' := (41, [.ref 0, .ref 2, .ref 47, .ref 63, .ref 64, .int 0, P_un, P_un, P_un], [.int (xs 0)], (P_hv132 xs 5))) P_i0_40 (fun _ => rfl) ?_
  refine P_wp_step (S' := (43, [.ref 0, .ref 2, .ref 47, .ref 63, .ref 64, .int 0, P_un, P_un, P_un], [.int 31, .int (xs 0)], (P_hv132 xs 5))) P_i0_41 (fun _ => rfl) ?_
  refine P_wp_step (S' := (44, [.ref 0, .ref 2, .ref 47, .ref 63, .ref 64, .int 0, P_un, P_un, P_un], [.int (xs 0 &&& 31)], (P_hv132 xs 5))) P_i0_43 (fun _ => rfl) ?_
  refine P_sw_at hsw (show P_wp P_Y0 200 0 (44, [.ref 0, .ref 2, .ref 47, .ref 63, .ref 64, .int 0, P_un, P_un, P_un], [.int 4], (P_hv132 xs 5)) _ from ?_)
  refine P_wp_step (S' := (452, [.ref 0, .ref 2, .ref 47, .ref 63, .ref 64, .int 0, P_un, P_un, P_un], [], (P_hv132 xs 5))) P_i0_44 (fun _ => P_do_sw (by decide +kernel)) ?_
  refine P_wp_step (S' := (453, [.ref 0, .ref 2, .ref 47, .ref 63, .ref 64, .int 0, P_un, P_un, P_un], [.ref 2], (P_hv132 xs 5))) P_i0_452 (fun _ => rfl) ?_
  refine P_wp_step (S' := (454, [.ref 0, .ref 2, .ref 47, .ref 63, .ref 64, .int 0, P_un, P_un, P_un], [.ref 0, .ref 2], (P_hv132 xs 5))) P_i0_453 (fun _ => rfl) ?_
  refine P_wp_step (S' := (456, [.ref 0, .ref 2, .ref 47, .ref 63, .ref 64, .int 0, P_un, P_un, P_un], [.int 0, .ref 0, .ref 2], (P_hv132 xs 5))) P_i0_454 (fun _ => rfl) ?_
  refine P_wp_step (S' := (457, [.ref 0, .ref 2, .ref 47, .ref 63, .ref 64, .int 0, P_un, P_un, P_un], [.int 1, .int 0, .ref 0, .ref 2], (P_hv132 xs 5))) P_i0_456 (fun _ => rfl) ?_
  refine P_wp_step (S' := (458, [.ref 0, .ref 2, .ref 47, .ref 63, .ref 64, .int 0, P_un, P_un, P_un], [.int 1, .ref 0, .ref 2], (P_hv132 xs 5))) P_i0_457 (fun _ => rfl) ?_
  refine P_wp_step (S' := (459, [.ref 0, .ref 2, .ref 47, .ref 63, .ref 64, .int 0, P_un, P_un, P_un], [.int (xs 1), .ref 2], (P_hv132 xs 5))) P_i0_458 (fun _ => rfl) ?_
  refine P_wp_step (S' := (460, [.ref 0, .ref 2, .ref 47, .ref 63, .ref 64, .int 0, P_un, P_un, P_un], [.ref 63, .int (xs 1), .ref 2], (P_hv132 xs 5))) P_i0_459 (fun _ => rfl) ?_
  refine P_wp_call P_i0_460 rfl rfl rfl rfl rfl rfl rfl (y2 := 274) (as := [.ref 2, .int (xs 1), .ref 63]) (r0 := []) rfl (Nat.le_of_ble_eq_true rfl) (by decide) rfl (Nat.le_of_ble_eq_true rfl) (P_x121 xs 5 hc1 hc2 hc3 hc4 hc5 hc6 hc7 hc8 (?_))
  show P_wp P_Y0 200 0 (463, [.ref 0, .ref 2, .ref 47, .ref 63, .ref 64, .int 0, P_un, P_un, P_un], [.int 0], (P_hv149 xs 5)) _
  refine P_wp_step (S' := (465, [.ref 0, .ref 2, .ref 47, .ref 63, .ref 64, .int 0, .int 0, P_un, P_un], [], (P_hv149 xs 5))) P_i0_463 (fun _ => rfl) ?_
  refine P_wp_step (S' := (466, [.ref 0, .ref 2, .ref 47, .ref 63, .ref 64, .int 0, .int 0, P_un, P_un], [.ref 47], (P_hv149 xs 5))) P_i0_465 (fun _ => rfl) ?_
  refine P_wp_step (S' := (467, [.ref 0, .ref 2, .ref 47, .ref 63, .ref 64, .int 0, .int 0, P_un, P_un], [.ref 0, .ref 47], (P_hv149 xs 5))) P_i0_466 (fun _ => rfl) ?_
  refine P_wp_step (S' := (469, [.ref 0, .ref 2, .ref 47, .ref 63, .ref 64, .int 0, .int 0, P_un, P_un], [.int 0, .ref 0, .ref 47], (P_hv149 xs 5))) P_i0_467 (fun _ => rfl) ?_
  refine P_wp_step (S' := (470, [.ref 0, .ref 2, .ref 47, .ref 63, .ref 64, .int 0, .int 0, P_un, P_un], [.int 1, .int 0, .ref 0, .ref 47], (P_hv149 xs 5))) P_i0_469 (fun _ => rfl) ?_
  refine P_wp_step (S' := (471, [.ref 0, .ref 2, .ref 47, .ref 63, .ref 64, .int 0, .int 0, P_un, P_un], [.int 1, .ref 0, .ref 47], (P_hv149 xs 5))) P_i0_470 (fun _ => rfl) ?_
  refine P_wp_step (S' := (472, [.ref 0, .ref 2, .ref 47, .ref 63, .ref 64, .int 0, .int 0, P_un, P_un], [.int (xs 1), .ref 47], (P_hv149 xs 5))) P_i0_471 (fun _ => rfl) ?_
  refine P_wp_call P_i0_472 rfl rfl rfl rfl rfl rfl rfl (y2 := 195) (as := [.ref 47, .int (xs 1)]) (r0 := []) rfl (Nat.le_of_ble_eq_true rfl) (by decide) rfl (Nat.le_of_ble_eq_true rfl) (P_x126 xs 5 hc9 hc10 hc11 hc12 hc13 hc14 hc15 hc16 (?_))
  show P_wp P_Y0 200 0 (475, [.ref 0, .ref 2, .ref 47, .ref 63, .ref 64, .int 0, .int 0, P_un, P_un], [.int 1], (P_hv151 xs 5)) _
  refine P_wp_step (S' := (477, [.ref 0, .ref 2, .ref 47, .ref 63, .ref 64, .int 0, .int 0, .int 1, P_un], [], (P_hv151 xs 5))) P_i0_475 (fun _ => rfl) ?_
  refine P_wp_step (S' := (478, [.ref 0, .ref 2, .ref 47, .ref 63, .ref 64, .int 0, .int 0, .int 1, P_un], [.ref 47], (P_hv151 xs 5))) P_i0_477 (fun _ => rfl) ?_
  refine P_wp_call P_i0_478 rfl rfl rfl rfl rfl rfl rfl (y2 := 183) (as := [.ref 47]) (r0 := []) rfl (Nat.le_of_ble_eq_true rfl) (by decide) rfl (Nat.le_of_ble_eq_true rfl) (P_x94 xs 5 (?_))
  show P_wp P_Y0 200 0 (481, [.ref 0, .ref 2, .ref 47, .ref 63, .ref 64, .int 0, .int 0, .int 1, P_un], [.int 0], (P_hv151 xs 5)) _
  refine P_wp_step (S' := (483, [.ref 0, .ref 2, .ref 47, .ref 63, .ref 64, .int 0, .int 0, .int 1, P_un], [.int 0, .int 0], (P_hv151 xs 5))) P_i0_481 (fun _ => rfl) ?_
  refine P_wp_ict P_i0_483 P_b27 (show P_wp P_Y0 200 0 (488, [.ref 0, .ref 2, .ref 47, .ref 63, .ref 64, .int 0, .int 0, .int 1, P_un], [], (P_hv151 xs 5)) _ from ?_)
  refine P_wp_step (S' := (490, [.ref 0, .ref 2, .ref 47, .ref 63, .ref 64, .int 0, .int 0, .int 1, P_un], [.int 0], (P_hv151 xs 5))) P_i0_488 (fun _ => rfl) ?_
  refine P_wp_izf P_i0_490 P_b19 (show P_wp P_Y0 200 0 (493, [.ref 0, .ref 2, .ref 47, .ref 63, .ref 64, .int 0, .int 0, .int 1, P_un], [], (P_hv151 xs 5)) _ from ?_)
  refine P_wp_step (S' := (494, [.ref 0, .ref 2, .ref 47, .ref 63, .ref 64, .int 0, .int 0, .int 1, P_un], [.ref 63], (P_hv151 xs 5))) P_i0_493 (fun _ => rfl) ?_
  refine P_wp_step (S' := (495, [.ref 0, .ref 2, .ref 47, .ref 63, .ref 64, .int 0, .int 0, .int 1, P_un], [.int 0, .ref 63], (P_hv151 xs 5))) P_i0_494 (fun _ => rfl) ?_
  refine P_wp_step (S' := (496, [.ref 0, .ref 2, .ref 47, .ref 63, .ref 64, .int 0, .int 0, .int 1, P_un], [.long 1], (P_hv151 xs 5))) P_i0_495 (fun _ => rfl) ?_
  refine P_wp_step (S' := (498, [.ref 0, .ref 2, .ref 47, .ref 63, .ref 64, .int 0, .int 0, .int 1, P_un], [.int 1, .long 1], (P_hv151 xs 5))) P_i0_496 (fun _ => rfl) ?_
  refine P_wp_step (S' := (499, [.ref 0, .ref 2, .ref 47, .ref 63, .ref 64, .int 0, .int 0, .int 1, P_un], [.long 1, .long 1], (P_hv151 xs 5))) P_i0_498 (fun _ => rfl) ?_
  refine P_wp_step (S' := (500, [.ref 0, .ref 2, .ref 47, .ref 63, .ref 64, .int 0, .int 0, .int 1, P_un], [.int 0], (P_hv151 xs 5))) P_i0_499 (fun _ => P_do_lcmp (by decide +kernel)) ?_
  refine P_wp_izt P_i0_500 P_b27 (show P_wp P_Y0 200 0 (505, [.ref 0, .ref 2, .ref 47, .ref 63, .ref 64, .int 0, .int 0, .int 1, P_un], [], (P_hv151 xs 5)) _ from ?_)
  refine P_wp_step (S' := (1553, [.ref 0, .ref 2, .ref 47, .ref 63, .ref 64, .int 0, .int 0, .int 1, P_un], [], (P_hv151 xs 5))) P_i0_505 (fun _ => rfl) ?_
  refine P_wp_step (S' := (1556, [.ref 0, .ref 2, .ref 47, .ref 63, .ref 64, .int 5, .int 0, .int 1, P_un], [], (P_hv151 xs 5))) P_i0_1553 (fun _ => rfl) ?_
  refine P_wp_step (S' := (28, [.ref 0, .ref 2, .ref 47, .ref 63, .ref 64, .int 5, P_un, P_un, P_un], [], (P_hv151 xs 5))) P_i0_1556 (fun _ => rfl) ?_
  refine P_wp_step (S' := (30, [.ref 0, .ref 2, .ref 47, .ref 63, .ref 64, .int 5, P_un, P_un, P_un], [.int 5], (P_hv151 xs 5))) P_i0_28 (fun _ => rfl) ?_
  refine P_wp_step (S' := (31, [.ref 0, .ref 2, .ref 47, .ref 63, .ref 64, .int 5, P_un, P_un, P_un], [.ref 0, .int 5], (P_hv151 xs 5))) P_i0_30 (fun _ => rfl) ?_
  refine P_wp_step (S' := (32, [.ref 0, .ref 2, .ref 47, .ref 63, .ref 64, .int 5, P_un, P_un, P_un], [.int 5, .int 5], (P_hv151 xs 5))) P_i0_31 (fun _ => rfl) ?_
  refine P_wp_step (S' := (33, [.ref 0, .ref 2, .ref 47, .ref 63, .ref 64, .int 5, P_un, P_un, P_un], [.int 5, .int 5, .int 5], (P_hv151 xs 5))) P_i0_32 (fun _ => rfl) ?_
  refine P_wp_step (S' := (34, [.ref 0, .ref 2, .ref 47, .ref 63, .ref 64, .int 5, P_un, P_un, P_un], [.int 0, .int 5], (P_hv151 xs 5))) P_i0_33 (fun _ => rfl) ?_
  refine P_wp_ict P_i0_34 P_b22 (show P_wp P_Y0 200 0 (1559, [.ref 0, .ref 2, .ref 47, .ref 63, .ref 64, .int 5, P_un, P_un, P_un], [], (P_hv151 xs 5)) _ from ?_)
  refine P_wp_step (S' := (1560, [.ref 0, .ref 2, .ref 47, .ref 63, .ref 64, .int 5, P_un, P_un, P_un], [.int 1], (P_hv151 xs 5))) P_i0_1559 (fun _ => rfl) ?_
  refine P_wp_end (x := (.inl (some (.int 1)), (P_hv151 xs 5))) P_i0_1560 (fun _ => rfl) ?_
  exact ⟨rfl, Nat.le_of_ble_eq_true rfl, Nat.le_of_ble_eq_true rfl⟩

set_option maxRecDepth 20000 in
theorem P_pa16 (xs : Nat → Int32) (hsw : xs 0 &&& 31 = 4) (hc1 : P_cc .lt (xs 1) 0 = false) (hc2 : P_cc .le (xs 1) 11 = false) (hc3 : P_cc .lt (xs 1) 20 = false) (hc4 : P_cc .ge (xs 1) 25 = true) (hc5 : P_cc .lt (xs 1) 100 = false) (hc6 : P_cc .gt (xs 1) 199 = false) (hc7 : P_cc .lt (xs 1) 0 = false) (hc8 : P_cc .gt (xs 1) 11 = true) (hc9 : P_cc .lt (xs 1) 20 = false) (hc10 : P_cc .gt (xs 1) 24 = true) (hc11 : P_cc .lt (xs 1) 100 = false) (hc12 : P_cc .gt (xs 1) 199 = false) : P_wp P_Y0 200 0 (28, [.ref 0, .ref 2, .ref 47, .ref 63, .ref 64, .int 0, P_un, P_un, P_un], [], (P_hv132 xs 5)) (fun r h => r = .inl (some (.int 1)) ∧ h.2.1 ≤ 600002 ∧ h.2.2 ≤ 7302232) := by
  refine P_wp_step (S' := (30, [.ref 0, .ref 2, .ref 47, .ref 63, .ref 64, .int 0, P_un, P_un, P_un], [.int 0], (P_hv132 xs 5))) P_i0_28 (fun _ => rfl) ?_
  refine P_wp_step (S' := (31, [.ref 0, .ref 2, .ref 47, .ref 63, .ref 64, .int 0, P_un, P_un, P_un], [.ref 0, .int 0], (P_hv132 xs 5))) P_i0_30 (fun _ => rfl) ?_
  refine P_wp_step (S' := (32, [.ref 0, .ref 2, .ref 47, .ref 63, .ref 64, .int 0, P_un, P_un, P_un], [.int 5, .int 0], (P_hv132 xs 5))) P_i0_31 (fun _ => rfl) ?_
  refine P_wp_step (S' := (33, [.ref 0, .ref 2, .ref 47, .ref 63, .ref 64, .int 0, P_un, P_un, P_un], [.int 5, .int 5, .int 0], (P_hv132 xs 5))) P_i0_32 (fun _ => rfl) ?_
  refine P_wp_step (S' := (34, [.ref 0, .ref 2, .ref 47, .ref 63, .ref 64, .int 0, P_un, P_un, P_un], [.int 0, .int 0], (P_hv132 xs 5))) P_i0_33 (fun _ => rfl) ?_
  refine P_wp_icf P_i0_34 P_b18 (show P_wp P_Y0 200 0 (37, [.ref 0, .ref 2, .ref 47, .ref 63, .ref 64, .int 0, P_un, P_un, P_un], [], (P_hv132 xs 5)) _ from ?_)
  refine P_wp_step (S' := (38, [.ref 0, .ref 2, .ref 47, .ref 63, .ref 64, .int 0, P_un, P_un, P_un], [.ref 0], (P_hv132 xs 5))) P_i0_37 (fun _ => rfl) ?_
  refine P_wp_step (S' := (40, [.ref 0, .ref 2, .ref 47, .ref 63, .ref 64, .int 0, P_un, P_un, P_un], [.int 0, .ref 0], (P_hv132 xs 5))) P_i0_38 (fun _ => rfl) ?_
  refine P_wp_step (S' := (41, [.ref 0, .ref 2, .ref 47, .ref 63, .ref 64, .int 0, P_un, P_un, P_un], [.int (xs 0)], (P_hv132 xs 5))) P_i0_40 (fun _ => rfl) ?_
  refine P_wp_step (S' := (43, [.ref 0, .ref 2, .ref 47, .ref 63, .ref 64, .int 0, P_un, P_un, P_un], [.int 31, .int (xs 0)], (P_hv132 xs 5))) P_i0_41 (fun _ => rfl) ?_
  refine P_wp_step (S' := (44, [.ref 0, .ref 2, .ref 47, .ref 63, .ref 64, .int 0, P_un, P_un, P_un], [.int (xs 0 &&& 31)], (P_hv132 xs 5))) P_i0_43 (fun _ => rfl) ?_
  refine P_sw_at hsw (show P_wp P_Y0 200 0 (44, [.ref 0, .ref 2, .ref 47, .ref 63, .ref 64, .int 0, P_un, P_un, P_un], [.int 4], (P_hv132 xs 5)) _ from ?_)
  refine P_wp_step (S' := (452, [.ref 0, .ref 2, .ref 47, .ref 63, .ref 64, .int 0, P_un, P_un, P_un], [], (P_hv132 xs 5))) P_i0_44 (fun _ => P_do_sw (by decide +kernel)) ?_
  refine P_wp_step (S' := (453, [.ref 0, .ref 2, .ref 47, .ref 63, .ref 64, .int 0, P_un, P_un, P_un], [.ref 2], (P_hv132 xs 5))) P_i0_452 (fun _ => rfl) ?_
  refine P_wp_step (S' := (454, [.ref 0, .ref 2, .ref 47, .ref 63, .ref 64, .int 0, P_un, P_un, P_un], [.ref 0, .ref 2], (P_hv132 xs 5))) P_i0_453 (fun _ => rfl) ?_
  refine P_wp_step (S' := (456, [.ref 0, .ref 2, .ref 47, .ref 63, .ref 64, .int 0, P_un, P_un, P_un], [.int 0, .ref 0, .ref 2], (P_hv132 xs 5))) P_i0_454 (fun _ => rfl) ?_
  refine P_wp_step (S' := (457, [.ref 0, .ref 2, .ref 47, .ref 63, .ref 64, .int 0, P_un, P_un, P_un], [.int 1, .int 0, .ref 0, .ref 2], (P_hv132 xs 5))) P_i0_456 (fun _ => rfl) ?_
  refine P_wp_step (S' := (458, [.ref 0, .ref 2, .ref 47, .ref 63, .ref 64, .int 0, P_un, P_un, P_un], [.int 1, .ref 0, .ref 2], (P_hv132 xs 5))) P_i0_457 (fun _ => rfl) ?_
  refine P_wp_step (S' := (459, [.ref 0, .ref 2, .ref 47, .ref 63, .ref 64, .int 0, P_un, P_un, P_un], [.int (xs 1), .ref 2], (P_hv132 xs 5))) P_i0_458 (fun _ => rfl) ?_
  refine P_wp_step (S' := (460, [.ref 0, .ref 2, .ref 47, .ref 63, .ref 64, .int 0, P_un, P_un, P_un], [.ref 63, .int (xs 1), .ref 2], (P_hv132 xs 5))) P_i0_459 (fun _ => rfl) ?_
  refine P_wp_call P_i0_460 rfl rfl rfl rfl rfl rfl rfl (y2 := 274) (as := [.ref 2, .int (xs 1), .ref 63]) (r0 := []) rfl (Nat.le_of_ble_eq_true rfl) (by decide) rfl (Nat.le_of_ble_eq_true rfl) (P_x130 xs 5 hc1 hc2 hc3 hc4 hc5 hc6 (?_))
  show P_wp P_Y0 200 0 (463, [.ref 0, .ref 2, .ref 47, .ref 63, .ref 64, .int 0, P_un, P_un, P_un], [.int 0], (P_hv149 xs 5)) _
  refine P_wp_step (S' := (465, [.ref 0, .ref 2, .ref 47, .ref 63, .ref 64, .int 0, .int 0, P_un, P_un], [], (P_hv149 xs 5))) P_i0_463 (fun _ => rfl) ?_
  refine P_wp_step (S' := (466, [.ref 0, .ref 2, .ref 47, .ref 63, .ref 64, .int 0, .int 0, P_un, P_un], [.ref 47], (P_hv149 xs 5))) P_i0_465 (fun _ => rfl) ?_
  refine P_wp_step (S' := (467, [.ref 0, .ref 2, .ref 47, .ref 63, .ref 64, .int 0, .int 0, P_un, P_un], [.ref 0, .ref 47], (P_hv149 xs 5))) P_i0_466 (fun _ => rfl) ?_
  refine P_wp_step (S' := (469, [.ref 0, .ref 2, .ref 47, .ref 63, .ref 64, .int 0, .int 0, P_un, P_un], [.int 0, .ref 0, .ref 47], (P_hv149 xs 5))) P_i0_467 (fun _ => rfl) ?_
  refine P_wp_step (S' := (470, [.ref 0, .ref 2, .ref 47, .ref 63, .ref 64, .int 0, .int 0, P_un, P_un], [.int 1, .int 0, .ref 0, .ref 47], (P_hv149 xs 5))) P_i0_469 (fun _ => rfl) ?_
  refine P_wp_step (S' := (471, [.ref 0, .ref 2, .ref 47, .ref 63, .ref 64, .int 0, .int 0, P_un, P_un], [.int 1, .ref 0, .ref 47], (P_hv149 xs 5))) P_i0_470 (fun _ => rfl) ?_
  refine P_wp_step (S' := (472, [.ref 0, .ref 2, .ref 47, .ref 63, .ref 64, .int 0, .int 0, P_un, P_un], [.int (xs 1), .ref 47], (P_hv149 xs 5))) P_i0_471 (fun _ => rfl) ?_
  refine P_wp_call P_i0_472 rfl rfl rfl rfl rfl rfl rfl (y2 := 195) (as := [.ref 47, .int (xs 1)]) (r0 := []) rfl (Nat.le_of_ble_eq_true rfl) (by decide) rfl (Nat.le_of_ble_eq_true rfl) (P_x132 xs 5 hc7 hc8 hc9 hc10 hc11 hc12 (?_))
  show P_wp P_Y0 200 0 (475, [.ref 0, .ref 2, .ref 47, .ref 63, .ref 64, .int 0, .int 0, P_un, P_un], [.int 1], (P_hv151 xs 5)) _
  refine P_wp_step (S' := (477, [.ref 0, .ref 2, .ref 47, .ref 63, .ref 64, .int 0, .int 0, .int 1, P_un], [], (P_hv151 xs 5))) P_i0_475 (fun _ => rfl) ?_
  refine P_wp_step (S' := (478, [.ref 0, .ref 2, .ref 47, .ref 63, .ref 64, .int 0, .int 0, .int 1, P_un], [.ref 47], (P_hv151 xs 5))) P_i0_477 (fun _ => rfl) ?_
  refine P_wp_call P_i0_478 rfl rfl rfl rfl rfl rfl rfl (y2 := 183) (as := [.ref 47]) (r0 := []) rfl (Nat.le_of_ble_eq_true rfl) (by decide) rfl (Nat.le_of_ble_eq_true rfl) (P_x94 xs 5 (?_))
  show P_wp P_Y0 200 0 (481, [.ref 0, .ref 2, .ref 47, .ref 63, .ref 64, .int 0, .int 0, .int 1, P_un], [.int 0], (P_hv151 xs 5)) _
  refine P_wp_step (S' := (483, [.ref 0, .ref 2, .ref 47, .ref 63, .ref 64, .int 0, .int 0, .int 1, P_un], [.int 0, .int 0], (P_hv151 xs 5))) P_i0_481 (fun _ => rfl) ?_
  refine P_wp_ict P_i0_483 P_b27 (show P_wp P_Y0 200 0 (488, [.ref 0, .ref 2, .ref 47, .ref 63, .ref 64, .int 0, .int 0, .int 1, P_un], [], (P_hv151 xs 5)) _ from ?_)
  refine P_wp_step (S' := (490, [.ref 0, .ref 2, .ref 47, .ref 63, .ref 64, .int 0, .int 0, .int 1, P_un], [.int 0], (P_hv151 xs 5))) P_i0_488 (fun _ => rfl) ?_
  refine P_wp_izf P_i0_490 P_b19 (show P_wp P_Y0 200 0 (493, [.ref 0, .ref 2, .ref 47, .ref 63, .ref 64, .int 0, .int 0, .int 1, P_un], [], (P_hv151 xs 5)) _ from ?_)
  refine P_wp_step (S' := (494, [.ref 0, .ref 2, .ref 47, .ref 63, .ref 64, .int 0, .int 0, .int 1, P_un], [.ref 63], (P_hv151 xs 5))) P_i0_493 (fun _ => rfl) ?_
  refine P_wp_step (S' := (495, [.ref 0, .ref 2, .ref 47, .ref 63, .ref 64, .int 0, .int 0, .int 1, P_un], [.int 0, .ref 63], (P_hv151 xs 5))) P_i0_494 (fun _ => rfl) ?_
  refine P_wp_step (S' := (496, [.ref 0, .ref 2, .ref 47, .ref 63, .ref 64, .int 0, .int 0, .int 1, P_un], [.long 1], (P_hv151 xs 5))) P_i0_495 (fun _ => rfl) ?_
  refine P_wp_step (S' := (498, [.ref 0, .ref 2, .ref 47, .ref 63, .ref 64, .int 0, .int 0, .int 1, P_un], [.int 1, .long 1], (P_hv151 xs 5))) P_i0_496 (fun _ => rfl) ?_
  refine P_wp_step (S' := (499, [.ref 0, .ref 2, .ref 47, .ref 63, .ref 64, .int 0, .int 0, .int 1, P_un], [.long 1, .long 1], (P_hv151 xs 5))) P_i0_498 (fun _ => rfl) ?_
  refine P_wp_step (S' := (500, [.ref 0, .ref 2, .ref 47, .ref 63, .ref 64, .int 0, .int 0, .int 1, P_un], [.int 0], (P_hv151 xs 5))) P_i0_499 (fun _ => P_do_lcmp (by decide +kernel)) ?_
  refine P_wp_izt P_i0_500 P_b27 (show P_wp P_Y0 200 0 (505, [.ref 0, .ref 2, .ref 47, .ref 63, .ref 64, .int 0, .int 0, .int 1, P_un], [], (P_hv151 xs 5)) _ from ?_)
  refine P_wp_step (S' := (1553, [.ref 0, .ref 2, .ref 47, .ref 63, .ref 64, .int 0, .int 0, .int 1, P_un], [], (P_hv151 xs 5))) P_i0_505 (fun _ => rfl) ?_
  refine P_wp_step (S' := (1556, [.ref 0, .ref 2, .ref 47, .ref 63, .ref 64, .int 5, .int 0, .int 1, P_un], [], (P_hv151 xs 5))) P_i0_1553 (fun _ => rfl) ?_
  refine P_wp_step (S' := (28, [.ref 0, .ref 2, .ref 47, .ref 63, .ref 64, .int 5, P_un, P_un, P_un], [], (P_hv151 xs 5))) P_i0_1556 (fun _ => rfl) ?_
  refine P_wp_step (S' := (30, [.ref 0, .ref 2, .ref 47, .ref 63, .ref 64, .int 5, P_un, P_un, P_un], [.int 5], (P_hv151 xs 5))) P_i0_28 (fun _ => rfl) ?_
  refine P_wp_step (S' := (31, [.ref 0, .ref 2, .ref 47, .ref 63, .ref 64, .int 5, P_un, P_un, P_un], [.ref 0, .int 5], (P_hv151 xs 5))) P_i0_30 (fun _ => rfl) ?_
  refine P_wp_step (S' := (32, [.ref 0, .ref 2, .ref 47, .ref 63, .ref 64, .int 5, P_un, P_un, P_un], [.int 5, .int 5], (P_hv151 xs 5))) P_i0_31 (fun _ => rfl) ?_
  refine P_wp_step (S' := (33, [.ref 0, .ref 2, .ref 47, .ref 63, .ref 64, .int 5, P_un, P_un, P_un], [.int 5, .int 5, .int 5], (P_hv151 xs 5))) P_i0_32 (fun _ => rfl) ?_
  refine P_wp_step (S' := (34, [.ref 0, .ref 2, .ref 47, .ref 63, .ref 64, .int 5, P_un, P_un, P_un], [.int 0, .int 5], (P_hv151 xs 5))) P_i0_33 (fun _ => rfl) ?_
  refine P_wp_ict P_i0_34 P_b22 (show P_wp P_Y0 200 0 (1559, [.ref 0, .ref 2, .ref 47, .ref 63, .ref 64, .int 5, P_un, P_un, P_un], [], (P_hv151 xs 5)) _ from ?_)
  refine P_wp_step (S' := (1560, [.ref 0, .ref 2, .ref 47, .ref 63, .ref 64, .int 5, P_un, P_un, P_un], [.int 1], (P_hv151 xs 5))) P_i0_1559 (fun _ => rfl) ?_
  refine P_wp_end (x := (.inl (some (.int 1)), (P_hv151 xs 5))) P_i0_1560 (fun _ => rfl) ?_
  exact ⟨rfl, Nat.le_of_ble_eq_true rfl, Nat.le_of_ble_eq_true rfl⟩

set_option maxRecDepth 20000 in
theorem P_pa17 (xs : Nat → Int32) (hsw : xs 0 &&& 31 = 4) (hc1 : P_cc .lt (xs 1) 0 = false) (hc2 : P_cc .le (xs 1) 11 = false) (hc3 : P_cc .lt (xs 1) 20 = false) (hc4 : P_cc .ge (xs 1) 25 = false) (hc5 : P_cc .lt (xs 1) 0 = false) (hc6 : P_cc .gt (xs 1) 11 = true) (hc7 : P_cc .lt (xs 1) 20 = false) (hc8 : P_cc .gt (xs 1) 24 = false) : P_wp P_Y0 200 0 (28, [.ref 0, .ref 2, .ref 47, .ref 63, .ref 64, .int 0, P_un, P_un, P_un], [], (P_hv132 xs 5)) (fun r h => r = .inl (some (.int 1)) ∧ h.2.1 ≤ 600002 ∧ h.2.2 ≤ 7302232) := by
  refine P_wp_step (S' := (30, [.ref 0, .ref 2, .ref 47, .ref 63, .ref 64, .int 0, P_un, P_un, P_un], [.int 0], (P_hv132 xs 5))) P_i0_28 (fun _ => rfl) ?_
  refine P_wp_step (S' := (31, [.ref 0, .ref 2, .ref 47, .ref 63, .ref 64, .int 0, P_un, P_un, P_un], [.ref 0, .int 0], (P_hv132 xs 5))) P_i0_30 (fun _ => rfl) ?_
  refine P_wp_step (S' := (32, [.ref 0, .ref 2, .ref 47, .ref 63, .ref 64, .int 0, P_un, P_un, P_un], [.int 5, .int 0], (P_hv132 xs 5))) P_i0_31 (fun _ => rfl) ?_
  refine P_wp_step (S' := (33, [.ref 0, .ref 2, .ref 47, .ref 63, .ref 64, .int 0, P_un, P_un, P_un], [.int 5, .int 5, .int 0], (P_hv132 xs 5))) P_i0_32 (fun _ => rfl) ?_
  refine P_wp_step (S' := (34, [.ref 0, .ref 2, .ref 47, .ref 63, .ref 64, .int 0, P_un, P_un, P_un], [.int 0, .int 0], (P_hv132 xs 5))) P_i0_33 (fun _ => rfl) ?_
  refine P_wp_icf P_i0_34 P_b18 (show P_wp P_Y0 200 0 (37, [.ref 0, .ref 2, .ref 47, .ref 63, .ref 64, .int 0, P_un, P_un, P_un], [], (P_hv132 xs 5)) _ from ?_)
  refine P_wp_step (S' := (38, [.ref 0, .ref 2, .ref 47, .ref 63, .ref 64, .int 0, P_un, P_un, P_un], [.ref 0], (P_hv132 xs 5))) P_i0_37 (fun _ => rfl) ?_
  refine P_wp_step (S' := (40, [.ref 0, .ref 2, .ref 47, .ref 63, .ref 64, .int 0, P_un, P_un, P_un], [.int 0, .ref 0], (P_hv132 xs 5))) P_i0_38 (fun _ => rfl) ?_
  refine P_wp_step (S' := (41, [.ref 0, .ref 2, .ref 47, .ref 63, .ref 64, .int 0, P_un, P_un, P_un], [.int (xs 0)], (P_hv132 xs 5))) P_i0_40 (fun _ => rfl) ?_
  refine P_wp_step (S' := (43, [.ref 0, .ref 2, .ref 47, .ref 63, .ref 64, .int 0, P_un, P_un, P_un], [.int 31, .int (xs 0)], (P_hv132 xs 5))) P_i0_41 (fun _ => rfl) ?_
  refine P_wp_step (S' := (44, [.ref 0, .ref 2, .ref 47, .ref 63, .ref 64, .int 0, P_un, P_un, P_un], [.int (xs 0 &&& 31)], (P_hv132 xs 5))) P_i0_43 (fun _ => rfl) ?_
  refine P_sw_at hsw (show P_wp P_Y0 200 0 (44, [.ref 0, .ref 2, .ref 47, .ref 63, .ref 64, .int 0, P_un, P_un, P_un], [.int 4], (P_hv132 xs 5)) _ from ?_)
  refine P_wp_step (S' := (452, [.ref 0, .ref 2, .ref 47, .ref 63, .ref 64, .int 0, P_un, P_un, P_un], [], (P_hv132 xs 5))) P_i0_44 (fun _ => P_do_sw (by decide +kernel)) ?_
  refine P_wp_step (S' := (453, [.ref 0, .ref 2, .ref 47, .ref 63, .ref 64, .int 0, P_un, P_un, P_un], [.ref 2], (P_hv132 xs 5))) P_i0_452 (fun _ => rfl) ?_
  refine P_wp_step (S' := (454, [.ref 0, .ref 2, .ref 47, .ref 63, .ref 64, .int 0, P_un, P_un, P_un], [.ref 0, .ref 2], (P_hv132 xs 5))) P_i0_453 (fun _ => rfl) ?_
  refine P_wp_step (S' := (456, [.ref 0, .ref 2, .ref 47, .ref 63, .ref 64, .int 0, P_un, P_un, P_un], [.int 0, .ref 0, .ref 2], (P_hv132 xs 5))) P_i0_454 (fun _ => rfl) ?_
  refine P_wp_step (S' := (457, [.ref 0, .ref 2, .ref 47, .ref 63, .ref 64, .int 0, P_un, P_un, P_un], [.int 1, .int 0, .ref 0, .ref 2], (P_hv132 xs 5))) P_i0_456 (fun _ => rfl) ?_
  refine P_wp_step (S' := (458, [.ref 0, .ref 2, .ref 47, .ref 63, .ref 64, .int 0, P_un, P_un, P_un], [.int 1, .ref 0, .ref 2], (P_hv132 xs 5))) P_i0_457 (fun _ => rfl) ?_
  refine P_wp_step (S' := (459, [.ref 0, .ref 2, .ref 47, .ref 63, .ref 64, .int 0, P_un, P_un, P_un], [.int (xs 1), .ref 2], (P_hv132 xs 5))) P_i0_458 (fun _ => rfl) ?_
  refine P_wp_step (S' := (460, [.ref 0, .ref 2, .ref 47, .ref 63, .ref 64, .int 0, P_un, P_un, P_un], [.ref 63, .int (xs 1), .ref 2], (P_hv132 xs 5))) P_i0_459 (fun _ => rfl) ?_
  refine P_wp_call P_i0_460 rfl rfl rfl rfl rfl rfl rfl (y2 := 274) (as := [.ref 2, .int (xs 1), .ref 63]) (r0 := []) rfl (Nat.le_of_ble_eq_true rfl) (by decide) rfl (Nat.le_of_ble_eq_true rfl) (P_x136 xs 5 hc1 hc2 hc3 hc4 (?_))
  show P_wp P_Y0 200 0 (463, [.ref 0, .ref 2, .ref 47, .ref 63, .ref 64, .int 0, P_un, P_un, P_un], [.int 0], (P_hv149 xs 5)) _
  refine P_wp_step (S' := (465, [.ref 0, .ref 2, .ref 47, .ref 63, .ref 64, .int 0, .int 0, P_un, P_un], [], (P_hv149 xs 5))) P_i0_463 (fun _ => rfl) ?_
  refine P_wp_step (S' := (466, [.ref 0, .ref 2, .ref 47, .ref 63, .ref 64, .int 0, .int 0, P_un, P_un], [.ref 47], (P_hv149 xs 5))) P_i0_465 (fun _ => rfl) ?_
  refine P_wp_step (S' := (467, [.ref 0, .ref 2, .ref 47, .ref 63, .ref 64, .int 0, .int 0, P_un, P_un], [.ref 0, .ref 47], (P_hv149 xs 5))) P_i0_466 (fun _ => rfl) ?_
  refine P_wp_step (S' := (469, [.ref 0, .ref 2, .ref 47, .ref 63, .ref 64, .int 0, .int 0, P_un, P_un], [.int 0, .ref 0, .ref 47], (P_hv149 xs 5))) P_i0_467 (fun _ => rfl) ?_
  refine P_wp_step (S' := (470, [.ref 0, .ref 2, .ref 47, .ref 63, .ref 64, .int 0, .int 0, P_un, P_un], [.int 1, .int 0, .ref 0, .ref 47], (P_hv149 xs 5))) P_i0_469 (fun _ => rfl) ?_
  refine P_wp_step (S' := (471, [.ref 0, .ref 2, .ref 47, .ref 63, .ref 64, .int 0, .int 0, P_un, P_un], [.int 1, .ref 0, .ref 47], (P_hv149 xs 5))) P_i0_470 (fun _ => rfl) ?_
  refine P_wp_step (S' := (472, [.ref 0, .ref 2, .ref 47, .ref 63, .ref 64, .int 0, .int 0, P_un, P_un], [.int (xs 1), .ref 47], (P_hv149 xs 5))) P_i0_471 (fun _ => rfl) ?_
  refine P_wp_call P_i0_472 rfl rfl rfl rfl rfl rfl rfl (y2 := 195) (as := [.ref 47, .int (xs 1)]) (r0 := []) rfl (Nat.le_of_ble_eq_true rfl) (by decide) rfl (Nat.le_of_ble_eq_true rfl) (P_x138 xs 5 hc5 hc6 hc7 hc8 (?_))
  show P_wp P_Y0 200 0 (475, [.ref 0, .ref 2, .ref 47, .ref 63, .ref 64, .int 0, .int 0, P_un, P_un], [.int 1], (P_hv151 xs 5)) _
  refine P_wp_step (S' := (477, [.ref 0, .ref 2, .ref 47, .ref 63, .ref 64, .int 0, .int 0, .int 1, P_un], [], (P_hv151 xs 5))) P_i0_475 (fun _ => rfl) ?_
  refine P_wp_step (S' := (478, [.ref 0, .ref 2, .ref 47, .ref 63, .ref 64, .int 0, .int 0, .int 1, P_un], [.ref 47], (P_hv151 xs 5))) P_i0_477 (fun _ => rfl) ?_
  refine P_wp_call P_i0_478 rfl rfl rfl rfl rfl rfl rfl (y2 := 183) (as := [.ref 47]) (r0 := []) rfl (Nat.le_of_ble_eq_true rfl) (by decide) rfl (Nat.le_of_ble_eq_true rfl) (P_x94 xs 5 (?_))
  show P_wp P_Y0 200 0 (481, [.ref 0, .ref 2, .ref 47, .ref 63, .ref 64, .int 0, .int 0, .int 1, P_un], [.int 0], (P_hv151 xs 5)) _
  refine P_wp_step (S' := (483, [.ref 0, .ref 2, .ref 47, .ref 63, .ref 64, .int 0, .int 0, .int 1, P_un], [.int 0, .int 0], (P_hv151 xs 5))) P_i0_481 (fun _ => rfl) ?_
  refine P_wp_ict P_i0_483 P_b27 (show P_wp P_Y0 200 0 (488, [.ref 0, .ref 2, .ref 47, .ref 63, .ref 64, .int 0, .int 0, .int 1, P_un], [], (P_hv151 xs 5)) _ from ?_)
  refine P_wp_step (S' := (490, [.ref 0, .ref 2, .ref 47, .ref 63, .ref 64, .int 0, .int 0, .int 1, P_un], [.int 0], (P_hv151 xs 5))) P_i0_488 (fun _ => rfl) ?_
  refine P_wp_izf P_i0_490 P_b19 (show P_wp P_Y0 200 0 (493, [.ref 0, .ref 2, .ref 47, .ref 63, .ref 64, .int 0, .int 0, .int 1, P_un], [], (P_hv151 xs 5)) _ from ?_)
  refine P_wp_step (S' := (494, [.ref 0, .ref 2, .ref 47, .ref 63, .ref 64, .int 0, .int 0, .int 1, P_un], [.ref 63], (P_hv151 xs 5))) P_i0_493 (fun _ => rfl) ?_
  refine P_wp_step (S' := (495, [.ref 0, .ref 2, .ref 47, .ref 63, .ref 64, .int 0, .int 0, .int 1, P_un], [.int 0, .ref 63], (P_hv151 xs 5))) P_i0_494 (fun _ => rfl) ?_
  refine P_wp_step (S' := (496, [.ref 0, .ref 2, .ref 47, .ref 63, .ref 64, .int 0, .int 0, .int 1, P_un], [.long 1], (P_hv151 xs 5))) P_i0_495 (fun _ => rfl) ?_
  refine P_wp_step (S' := (498, [.ref 0, .ref 2, .ref 47, .ref 63, .ref 64, .int 0, .int 0, .int 1, P_un], [.int 1, .long 1], (P_hv151 xs 5))) P_i0_496 (fun _ => rfl) ?_
  refine P_wp_step (S' := (499, [.ref 0, .ref 2, .ref 47, .ref 63, .ref 64, .int 0, .int 0, .int 1, P_un], [.long 1, .long 1], (P_hv151 xs 5))) P_i0_498 (fun _ => rfl) ?_
  refine P_wp_step (S' := (500, [.ref 0, .ref 2, .ref 47, .ref 63, .ref 64, .int 0, .int 0, .int 1, P_un], [.int 0], (P_hv151 xs 5))) P_i0_499 (fun _ => P_do_lcmp (by decide +kernel)) ?_
  refine P_wp_izt P_i0_500 P_b27 (show P_wp P_Y0 200 0 (505, [.ref 0, .ref 2, .ref 47, .ref 63, .ref 64, .int 0, .int 0, .int 1, P_un], [], (P_hv151 xs 5)) _ from ?_)
  refine P_wp_step (S' := (1553, [.ref 0, .ref 2, .ref 47, .ref 63, .ref 64, .int 0, .int 0, .int 1, P_un], [], (P_hv151 xs 5))) P_i0_505 (fun _ => rfl) ?_
  refine P_wp_step (S' := (1556, [.ref 0, .ref 2, .ref 47, .ref 63, .ref 64, .int 5, .int 0, .int 1, P_un], [], (P_hv151 xs 5))) P_i0_1553 (fun _ => rfl) ?_
  refine P_wp_step (S' := (28, [.ref 0, .ref 2, .ref 47, .ref 63, .ref 64, .int 5, P_un, P_un, P_un], [], (P_hv151 xs 5))) P_i0_1556 (fun _ => rfl) ?_
  refine P_wp_step (S' := (30, [.ref 0, .ref 2, .ref 47, .ref 63, .ref 64, .int 5, P_un, P_un, P_un], [.int 5], (P_hv151 xs 5))) P_i0_28 (fun _ => rfl) ?_
  refine P_wp_step (S' := (31, [.ref 0, .ref 2, .ref 47, .ref 63, .ref 64, .int 5, P_un, P_un, P_un], [.ref 0, .int 5], (P_hv151 xs 5))) P_i0_30 (fun _ => rfl) ?_
  refine P_wp_step (S' := (32, [.ref 0, .ref 2, .ref 47, .ref 63, .ref 64, .int 5, P_un, P_un, P_un], [.int 5, .int 5], (P_hv151 xs 5))) P_i0_31 (fun _ => rfl) ?_
  refine P_wp_step (S' := (33, [.ref 0, .ref 2, .ref 47, .ref 63, .ref 64, .int 5, P_un, P_un, P_un], [.int 5, .int 5, .int 5], (P_hv151 xs 5))) P_i0_32 (fun _ => rfl) ?_
  refine P_wp_step (S' := (34, [.ref 0, .ref 2, .ref 47, .ref 63, .ref 64, .int 5, P_un, P_un, P_un], [.int 0, .int 5], (P_hv151 xs 5))) P_i0_33 (fun _ => rfl) ?_
  refine P_wp_ict P_i0_34 P_b22 (show P_wp P_Y0 200 0 (1559, [.ref 0, .ref 2, .ref 47, .ref 63, .ref 64, .int 5, P_un, P_un, P_un], [], (P_hv151 xs 5)) _ from ?_)
  refine P_wp_step (S' := (1560, [.ref 0, .ref 2, .ref 47, .ref 63, .ref 64, .int 5, P_un, P_un, P_un], [.int 1], (P_hv151 xs 5))) P_i0_1559 (fun _ => rfl) ?_
  refine P_wp_end (x := (.inl (some (.int 1)), (P_hv151 xs 5))) P_i0_1560 (fun _ => rfl) ?_
  exact ⟨rfl, Nat.le_of_ble_eq_true rfl, Nat.le_of_ble_eq_true rfl⟩

set_option maxRecDepth 20000 in
theorem P_pa18 (xs : Nat → Int32) (hsw : xs 0 &&& 31 = 5) : P_wp P_Y0 200 0 (28, [.ref 0, .ref 2, .ref 47, .ref 63, .ref 64, .int 0, P_un, P_un, P_un], [], (P_hv132 xs 5)) (fun r h => r = .inl (some (.int 1)) ∧ h.2.1 ≤ 600002 ∧ h.2.2 ≤ 7302232) := by
  refine P_wp_step (S' := (30, [.ref 0, .ref 2, .ref 47, .ref 63, .ref 64, .int 0, P_un, P_un, P_un], [.int 0], (P_hv132 xs 5))) P_i0_28 (fun _ => rfl) ?_
  refine P_wp_step (S' := (31, [.ref 0, .ref 2, .ref 47, .ref 63, .ref 64, .int 0, P_un, P_un, P_un], [.ref 0, .int 0], (P_hv132 xs 5))) P_i0_30 (fun _ => rfl) ?_
  refine P_wp_step (S' := (32, [.ref 0, .ref 2, .ref 47, .ref 63, .ref 64, .int 0, P_un, P_un, P_un], [.int 5, .int 0], (P_hv132 xs 5))) P_i0_31 (fun _ => rfl) ?_
  refine P_wp_step (S' := (33, [.ref 0, .ref 2, .ref 47, .ref 63, .ref 64, .int 0, P_un, P_un, P_un], [.int 5, .int 5, .int 0], (P_hv132 xs 5))) P_i0_32 (fun _ => rfl) ?_
  refine P_wp_step (S' := (34, [.ref 0, .ref 2, .ref 47, .ref 63, .ref 64, .int 0, P_un, P_un, P_un], [.int 0, .int 0], (P_hv132 xs 5))) P_i0_33 (fun _ => rfl) ?_
  refine P_wp_icf P_i0_34 P_b18 (show P_wp P_Y0 200 0 (37, [.ref 0, .ref 2, .ref 47, .ref 63, .ref 64, .int 0, P_un, P_un, P_un], [], (P_hv132 xs 5)) _ from ?_)
  refine P_wp_step (S' := (38, [.ref 0, .ref 2, .ref 47, .ref 63, .ref 64, .int 0, P_un, P_un, P_un], [.ref 0], (P_hv132 xs 5))) P_i0_37 (fun _ => rfl) ?_
  refine P_wp_step (S' := (40, [.ref 0, .ref 2, .ref 47, .ref 63, .ref 64, .int 0, P_un, P_un, P_un], [.int 0, .ref 0], (P_hv132 xs 5))) P_i0_38 (fun _ => rfl) ?_
  refine P_wp_step (S' := (41, [.ref 0, .ref 2, .ref 47, .ref 63, .ref 64, .int 0, P_un, P_un, P_un], [.int (xs 0)], (P_hv132 xs 5))) P_i0_40 (fun _ => rfl) ?_
  refine P_wp_step (S' := (43, [.ref 0, .ref 2, .ref 47, .ref 63, .ref 64, .int 0, P_un, P_un, P_un], [.int 31, .int (xs 0)], (P_hv132 xs 5))) P_i0_41 (fun _ => rfl) ?_
  refine P_wp_step (S' := (44, [.ref 0, .ref 2, .ref 47, .ref 63, .ref 64, .int 0, P_un, P_un, P_un], [.int (xs 0 &&& 31)], (P_hv132 xs 5))) P_i0_43 (fun _ => rfl) ?_
  refine P_sw_at hsw (show P_wp P_Y0 200 0 (44, [.ref 0, .ref 2, .ref 47, .ref 63, .ref 64, .int 0, P_un, P_un, P_un], [.int 5], (P_hv132 xs 5)) _ from ?_)
  refine P_wp_step (S' := (508, [.ref 0, .ref 2, .ref 47, .ref 63, .ref 64, .int 0, P_un, P_un, P_un], [], (P_hv132 xs 5))) P_i0_44 (fun _ => P_do_sw (by decide +kernel)) ?_
  refine P_wp_step (S' := (509, [.ref 0, .ref 2, .ref 47, .ref 63, .ref 64, .int 0, P_un, P_un, P_un], [.ref 2], (P_hv132 xs 5))) P_i0_508 (fun _ => rfl) ?_
  refine P_wp_call P_i0_509 rfl rfl rfl rfl rfl rfl rfl (y2 := 143) (as := [.ref 2]) (r0 := []) rfl (Nat.le_of_ble_eq_true rfl) (by decide) rfl (Nat.le_of_ble_eq_true rfl) (P_x145 xs 5 (?_))
  show P_wp P_Y0 200 0 (512, [.ref 0, .ref 2, .ref 47, .ref 63, .ref 64, .int 0, P_un, P_un, P_un], [.int 0], (P_hv132 xs 5)) _
  refine P_wp_step (S' := (513, [.ref 0, .ref 2, .ref 47, .ref 63, .ref 64, .int 0, P_un, P_un, P_un], [.ref 47, .int 0], (P_hv132 xs 5))) P_i0_512 (fun _ => rfl) ?_
  refine P_wp_call P_i0_513 rfl rfl rfl rfl rfl rfl rfl (y2 := 196) (as := [.ref 47]) (r0 := [.int 0]) rfl (Nat.le_of_ble_eq_true rfl) (by decide) rfl (Nat.le_of_ble_eq_true rfl) (P_x148 xs 5 (?_))
  show P_wp P_Y0 200 0 (516, [.ref 0, .ref 2, .ref 47, .ref 63, .ref 64, .int 0, P_un, P_un, P_un], [.int 0, .int 0], (P_hv132 xs 5)) _
  refine P_wp_ict P_i0_516 P_b27 (show P_wp P_Y0 200 0 (1553, [.ref 0, .ref 2, .ref 47, .ref 63, .ref 64, .int 0, P_un, P_un, P_un], [], (P_hv132 xs 5)) _ from ?_)
  refine P_wp_step (S' := (1556, [.ref 0, .ref 2, .ref 47, .ref 63, .ref 64, .int 5, P_un, P_un, P_un], [], (P_hv132 xs 5))) P_i0_1553 (fun _ => rfl) ?_
  refine P_wp_step (S' := (28, [.ref 0, .ref 2, .ref 47, .ref 63, .ref 64, .int 5, P_un, P_un, P_un], [], (P_hv132 xs 5))) P_i0_1556 (fun _ => rfl) ?_
  refine P_wp_step (S' := (30, [.ref 0, .ref 2, .ref 47, .ref 63, .ref 64, .int 5, P_un, P_un, P_un], [.int 5], (P_hv132 xs 5))) P_i0_28 (fun _ => rfl) ?_
  refine P_wp_step (S' := (31, [.ref 0, .ref 2, .ref 47, .ref 63, .ref 64, .int 5, P_un, P_un, P_un], [.ref 0, .int 5], (P_hv132 xs 5))) P_i0_30 (fun _ => rfl) ?_
  refine P_wp_step (S' := (32, [.ref 0, .ref 2, .ref 47, .ref 63, .ref 64, .int 5, P_un, P_un, P_un], [.int 5, .int 5], (P_hv132 xs 5))) P_i0_31 (fun _ => rfl) ?_
  refine P_wp_step (S' := (33, [.ref 0, .ref 2, .ref 47, .ref 63, .ref 64, .int 5, P_un, P_un, P_un], [.int 5, .int 5, .int 5], (P_hv132 xs 5))) P_i0_32 (fun _ => rfl) ?_
  refine P_wp_step (S' := (34, [.ref 0, .ref 2, .ref 47, .ref 63, .ref 64, .int 5, P_un, P_un, P_un], [.int 0, .int 5], (P_hv132 xs 5))) P_i0_33 (fun _ => rfl) ?_
  refine P_wp_ict P_i0_34 P_b22 (show P_wp P_Y0 200 0 (1559, [.ref 0, .ref 2, .ref 47, .ref 63, .ref 64, .int 5, P_un, P_un, P_un], [], (P_hv132 xs 5)) _ from ?_)
  refine P_wp_step (S' := (1560, [.ref 0, .ref 2, .ref 47, .ref 63, .ref 64, .int 5, P_un, P_un, P_un], [.int 1], (P_hv132 xs 5))) P_i0_1559 (fun _ => rfl) ?_
  refine P_wp_end (x := (.inl (some (.int 1)), (P_hv132 xs 5))) P_i0_1560 (fun _ => rfl) ?_
  exact ⟨rfl, Nat.le_of_ble_eq_true rfl, Nat.le_of_ble_eq_true rfl⟩

set_option maxRecDepth 20000 in
theorem P_pa19 (xs : Nat → Int32) (hsw : xs 0 &&& 31 = 6) : P_wp P_Y0 200 0 (28, [.ref 0, .ref 2, .ref 47, .ref 63, .ref 64, .int 0, P_un, P_un, P_un], [], (P_hv132 xs 5)) (fun r h => r = .inl (some (.int 1)) ∧ h.2.1 ≤ 600002 ∧ h.2.2 ≤ 7302232) := by
  refine P_wp_step (S' := (30, [.ref 0, .ref 2, .ref 47, .ref 63, .ref 64, .int 0, P_un, P_un, P_un], [.int 0], (P_hv132 xs 5))) P_i0_28 (fun _ => rfl) ?_
  refine P_wp_step (S' := (31, [.ref 0, .ref 2, .ref 47, .ref 63, .ref 64, .int 0, P_un, P_un, P_un], [.ref 0, .int 0], (P_hv132 xs 5))) P_i0_30 (fun _ => rfl) ?_
  refine P_wp_step (S' := (32, [.ref 0, .ref 2, .ref 47, .ref 63, .ref 64, .int 0, P_un, P_un, P_un], [.int 5, .int 0], (P_hv132 xs 5))) P_i0_31 (fun _ => rfl) ?_
  refine P_wp_step (S' := (33, [.ref 0, .ref 2, .ref 47, .ref 63, .ref 64, .int 0, P_un, P_un, P_un], [.int 5, .int 5, .int 0], (P_hv132 xs 5))) P_i0_32 (fun _ => rfl) ?_
  refine P_wp_step (S' := (34, [.ref 0, .ref 2, .ref 47, .ref 63, .ref 64, .int 0, P_un, P_un, P_un], [.int 0, .int 0], (P_hv132 xs 5))) P_i0_33 (fun _ => rfl) ?_
  refine P_wp_icf P_i0_34 P_b18 (show P_wp P_Y0 200 0 (37, [.ref 0, .ref 2, .ref 47, .ref 63, .ref 64, .int 0, P_un, P_un, P_un], [], (P_hv132 xs 5)) _ from ?_)
  refine P_wp_step (S' := (38, [.ref 0, .ref 2, .ref 47, .ref 63, .ref 64, .int 0, P_un, P_un, P_un], [.ref 0], (P_hv132 xs 5))) P_i0_37 (fun _ => rfl) ?_
  refine P_wp_step (S' := (40, [.ref 0, .ref 2, .ref 47, .ref 63, .ref 64, .int 0, P_un, P_un, P_un], [.int 0, .ref 0], (P_hv132 xs 5))) P_i0_38 (fun _ => rfl) ?_
  refine P_wp_step (S' := (41, [.ref 0, .ref 2, .ref 47, .ref 63, .ref 64, .int 0, P_un, P_un, P_un], [.int (xs 0)], (P_hv132 xs 5))) P_i0_40 (fun _ => rfl) ?_
  refine P_wp_step (S' := (43, [.ref 0, .ref 2, .ref 47, .ref 63, .ref 64, .int 0, P_un, P_un, P_un], [.int 31, .int (xs 0)], (P_hv132 xs 5))) P_i0_41 (fun _ => rfl) ?_
  refine P_wp_step (S' := (44, [.ref 0, .ref 2, .ref 47, .ref 63, .ref 64, .int 0, P_un, P_un, P_un], [.int (xs 0 &&& 31)], (P_hv132 xs 5))) P_i0_43 (fun _ => rfl) ?_
  refine P_sw_at hsw (show P_wp P_Y0 200 0 (44, [.ref 0, .ref 2, .ref 47, .ref 63, .ref 64, .int 0, P_un, P_un, P_un], [.int 6], (P_hv132 xs 5)) _ from ?_)
  refine P_wp_step (S' := (521, [.ref 0, .ref 2, .ref 47, .ref 63, .ref 64, .int 0, P_un, P_un, P_un], [], (P_hv132 xs 5))) P_i0_44 (fun _ => P_do_sw (by decide +kernel)) ?_
  refine P_wp_step (S' := (522, [.ref 0, .ref 2, .ref 47, .ref 63, .ref 64, .int 0, P_un, P_un, P_un], [.ref 2], (P_hv132 xs 5))) P_i0_521 (fun _ => rfl) ?_
  refine P_wp_call P_i0_522 rfl rfl rfl rfl rfl rfl rfl (y2 := 144) (as := [.ref 2]) (r0 := []) rfl (Nat.le_of_ble_eq_true rfl) (by decide) rfl (Nat.le_of_ble_eq_true rfl) (P_x162 xs 5 (?_))
  show P_wp P_Y0 200 0 (525, [.ref 0, .ref 2, .ref 47, .ref 63, .ref 64, .int 0, P_un, P_un, P_un], [.int 1], (P_hv159 xs 5)) _
  refine P_wp_step (S' := (526, [.ref 0, .ref 2, .ref 47, .ref 63, .ref 64, .int 0, P_un, P_un, P_un], [.ref 47, .int 1], (P_hv159 xs 5))) P_i0_525 (fun _ => rfl) ?_
  refine P_wp_call P_i0_526 rfl rfl rfl rfl rfl rfl rfl (y2 := 209) (as := [.ref 47]) (r0 := [.int 1]) rfl (Nat.le_of_ble_eq_true rfl) (by decide) rfl (Nat.le_of_ble_eq_true rfl) (P_x168 xs 5 (?_))
  show P_wp P_Y0 200 0 (529, [.ref 0, .ref 2, .ref 47, .ref 63, .ref 64, .int 0, P_un, P_un, P_un], [.int 1, .int 1], (P_hv163 xs 5)) _
  refine P_wp_ict P_i0_529 P_b20 (show P_wp P_Y0 200 0 (1553, [.ref 0, .ref 2, .ref 47, .ref 63, .ref 64, .int 0, P_un, P_un, P_un], [], (P_hv163 xs 5)) _ from ?_)
  refine P_wp_step (S' := (1556, [.ref 0, .ref 2, .ref 47, .ref 63, .ref 64, .int 5, P_un, P_un, P_un], [], (P_hv163 xs 5))) P_i0_1553 (fun _ => rfl) ?_
  refine P_wp_step (S' := (28, [.ref 0, .ref 2, .ref 47, .ref 63, .ref 64, .int 5, P_un, P_un, P_un], [], (P_hv163 xs 5))) P_i0_1556 (fun _ => rfl) ?_
  refine P_wp_step (S' := (30, [.ref 0, .ref 2, .ref 47, .ref 63, .ref 64, .int 5, P_un, P_un, P_un], [.int 5], (P_hv163 xs 5))) P_i0_28 (fun _ => rfl) ?_
  refine P_wp_step (S' := (31, [.ref 0, .ref 2, .ref 47, .ref 63, .ref 64, .int 5, P_un, P_un, P_un], [.ref 0, .int 5], (P_hv163 xs 5))) P_i0_30 (fun _ => rfl) ?_
  refine P_wp_step (S' := (32, [.ref 0, .ref 2, .ref 47, .ref 63, .ref 64, .int 5, P_un, P_un, P_un], [.int 5, .int 5], (P_hv163 xs 5))) P_i0_31 (fun _ => rfl) ?_
  refine P_wp_step (S' := (33, [.ref 0, .ref 2, .ref 47, .ref 63, .ref 64, .int 5, P_un, P_un, P_un], [.int 5, .int 5, .int 5], (P_hv163 xs 5))) P_i0_32 (fun _ => rfl) ?_
  refine P_wp_step (S' := (34, [.ref 0, .ref 2, .ref 47, .ref 63, .ref 64, .int 5, P_un, P_un, P_un], [.int 0, .int 5], (P_hv163 xs 5))) P_i0_33 (fun _ => rfl) ?_
  refine P_wp_ict P_i0_34 P_b22 (show P_wp P_Y0 200 0 (1559, [.ref 0, .ref 2, .ref 47, .ref 63, .ref 64, .int 5, P_un, P_un, P_un], [], (P_hv163 xs 5)) _ from ?_)
  refine P_wp_step (S' := (1560, [.ref 0, .ref 2, .ref 47, .ref 63, .ref 64, .int 5, P_un, P_un, P_un], [.int 1], (P_hv163 xs 5))) P_i0_1559 (fun _ => rfl) ?_
  refine P_wp_end (x := (.inl (some (.int 1)), (P_hv163 xs 5))) P_i0_1560 (fun _ => rfl) ?_
  exact ⟨rfl, Nat.le_of_ble_eq_true rfl, Nat.le_of_ble_eq_true rfl⟩

set_option maxRecDepth 20000 in
theorem P_pa20 (xs : Nat → Int32) (hsw : xs 0 &&& 31 = 7) : P_wp P_Y0 200 0 (28, [.ref 0, .ref 2, .ref 47, .ref 63, .ref 64, .int 0, P_un, P_un, P_un], [], (P_hv132 xs 5)) (fun r h => r = .inl (some (.int 1)) ∧ h.2.1 ≤ 600002 ∧ h.2.2 ≤ 7302232) := by
  refine P_wp_step (S' := (30, [.ref 0, .ref 2, .ref 47, .ref 63, .ref 64, .int 0, P_un, P_un, P_un], [.int 0], (P_hv132 xs 5))) P_i0_28 (fun _ => rfl) ?_
  refine P_wp_step (S' := (31, [.ref 0, .ref 2, .ref 47, .ref 63, .ref 64, .int 0, P_un, P_un, P_un], [.ref 0, .int 0], (P_hv132 xs 5))) P_i0_30 (fun _ => rfl) ?_
  refine P_wp_step (S' := (32, [.ref 0, .ref 2, .ref 47, .ref 63, .ref 64, .int 0, P_un, P_un, P_un], [.int 5, .int 0], (P_hv132 xs 5))) P_i0_31 (fun _ => rfl) ?_
  refine P_wp_step (S' := (33, [.ref 0, .ref 2, .ref 47, .ref 63, .ref 64, .int 0, P_un, P_un, P_un], [.int 5, .int 5, .int 0], (P_hv132 xs 5))) P_i0_32 (fun _ => rfl) ?_
  refine P_wp_step (S' := (34, [.ref 0, .ref 2, .ref 47, .ref 63, .ref 64, .int 0, P_un, P_un, P_un], [.int 0, .int 0], (P_hv132 xs 5))) P_i0_33 (fun _ => rfl) ?_
  refine P_wp_icf P_i0_34 P_b18 (show P_wp P_Y0 200 0 (37, [.ref 0, .ref 2, .ref 47, .ref 63, .ref 64, .int 0, P_un, P_un, P_un], [], (P_hv132 xs 5)) _ from ?_)
  refine P_wp_step (S' := (38, [.ref 0, .ref 2, .ref 47, .ref 63, .ref 64, .int 0, P_un, P_un, P_un], [.ref 0], (P_hv132 xs 5))) P_i0_37 (fun _ => rfl) ?_
  refine P_wp_step (S' := (40, [.ref 0, .ref 2, .ref 47, .ref 63, .ref 64, .int 0, P_un, P_un, P_un], [.int 0, .ref 0], (P_hv132 xs 5))) P_i0_38 (fun _ => rfl) ?_
  refine P_wp_step (S' := (41, [.ref 0, .ref 2, .ref 47, .ref 63, .ref 64, .int 0, P_un, P_un, P_un], [.int (xs 0)], (P_hv132 xs 5))) P_i0_40 (fun _ => rfl) ?_
  refine P_wp_step (S' := (43, [.ref 0, .ref 2, .ref 47, .ref 63, .ref 64, .int 0, P_un, P_un, P_un], [.int 31, .int (xs 0)], (P_hv132 xs 5))) P_i0_41 (fun _ => rfl) ?_
  refine P_wp_step (S' := (44, [.ref 0, .ref 2, .ref 47, .ref 63, .ref 64, .int 0, P_un, P_un, P_un], [.int (xs 0 &&& 31)], (P_hv132 xs 5))) P_i0_43 (fun _ => rfl) ?_
  refine P_sw_at hsw (show P_wp P_Y0 200 0 (44, [.ref 0, .ref 2, .ref 47, .ref 63, .ref 64, .int 0, P_un, P_un, P_un], [.int 7], (P_hv132 xs 5)) _ from ?_)
  refine P_wp_step (S' := (534, [.ref 0, .ref 2, .ref 47, .ref 63, .ref 64, .int 0, P_un, P_un, P_un], [], (P_hv132 xs 5))) P_i0_44 (fun _ => P_do_sw (by decide +kernel)) ?_
  refine P_wp_step (S' := (535, [.ref 0, .ref 2, .ref 47, .ref 63, .ref 64, .int 0, P_un, P_un, P_un], [.ref 2], (P_hv132 xs 5))) P_i0_534 (fun _ => rfl) ?_
  refine P_wp_call P_i0_535 rfl rfl rfl rfl rfl rfl rfl (y2 := 145) (as := [.ref 2]) (r0 := []) rfl (Nat.le_of_ble_eq_true rfl) (by decide) rfl (Nat.le_of_ble_eq_true rfl) (P_x170 xs 5 (?_))
  show P_wp P_Y0 200 0 (538, [.ref 0, .ref 2, .ref 47, .ref 63, .ref 64, .int 0, P_un, P_un, P_un], [.int (-1)], (P_hv132 xs 5)) _
  refine P_wp_step (S' := (539, [.ref 0, .ref 2, .ref 47, .ref 63, .ref 64, .int 0, P_un, P_un, P_un], [.ref 47, .int (-1)], (P_hv132 xs 5))) P_i0_538 (fun _ => rfl) ?_
  refine P_wp_call P_i0_539 rfl rfl rfl rfl rfl rfl rfl (y2 := 210) (as := [.ref 47]) (r0 := [.int (-1)]) rfl (Nat.le_of_ble_eq_true rfl) (by decide) rfl (Nat.le_of_ble_eq_true rfl) (P_x172 xs 5 (?_))
  show P_wp P_Y0 200 0 (542, [.ref 0, .ref 2, .ref 47, .ref 63, .ref 64, .int 0, P_un, P_un, P_un], [.int (-1), .int (-1)], (P_hv132 xs 5)) _
  refine P_wp_ict P_i0_542 P_b44 (show P_wp P_Y0 200 0 (1553, [.ref 0, .ref 2, .ref 47, .ref 63, .ref 64, .int 0, P_un, P_un, P_un], [], (P_hv132 xs 5)) _ from ?_)
  refine P_wp_step (S' := (1556, [.ref 0, .ref 2, .ref 47, .ref 63, .ref 64, .int 5, P_un, P_un, P_un], [], (P_hv132 xs 5))) P_i0_1553 (fun _ => rfl) ?_
  refine P_wp_step (S' := (28, [.ref 0, .ref 2, .ref 47, .ref 63, .ref 64, .int 5, P_un, P_un, P_un], [], (P_hv132 xs 5))) P_i0_1556 (fun _ => rfl) ?_
  refine P_wp_step (S' := (30, [.ref 0, .ref 2, .ref 47, .ref 63, .ref 64, .int 5, P_un, P_un, P_un], [.int 5], (P_hv132 xs 5))) P_i0_28 (fun _ => rfl) ?_
  refine P_wp_step (S' := (31, [.ref 0, .ref 2, .ref 47, .ref 63, .ref 64, .int 5, P_un, P_un, P_un], [.ref 0, .int 5], (P_hv132 xs 5))) P_i0_30 (fun _ => rfl) ?_
  refine P_wp_step (S' := (32, [.ref 0, .ref 2, .ref 47, .ref 63, .ref 64, .int 5, P_un, P_un, P_un], [.int 5, .int 5], (P_hv132 xs 5))) P_i0_31 (fun _ => rfl) ?_
  refine P_wp_step (S' := (33, [.ref 0, .ref 2, .ref 47, .ref 63, .ref 64, .int 5, P_un, P_un, P_un], [.int 5, .int 5, .int 5], (P_hv132 xs 5))) P_i0_32 (fun _ => rfl) ?_
  refine P_wp_step (S' := (34, [.ref 0, .ref 2, .ref 47, .ref 63, .ref 64, .int 5, P_un, P_un, P_un], [.int 0, .int 5], (P_hv132 xs 5))) P_i0_33 (fun _ => rfl) ?_
  refine P_wp_ict P_i0_34 P_b22 (show P_wp P_Y0 200 0 (1559, [.ref 0, .ref 2, .ref 47, .ref 63, .ref 64, .int 5, P_un, P_un, P_un], [], (P_hv132 xs 5)) _ from ?_)
  refine P_wp_step (S' := (1560, [.ref 0, .ref 2, .ref 47, .ref 63, .ref 64, .int 5, P_un, P_un, P_un], [.int 1], (P_hv132 xs 5))) P_i0_1559 (fun _ => rfl) ?_
  refine P_wp_end (x := (.inl (some (.int 1)), (P_hv132 xs 5))) P_i0_1560 (fun _ => rfl) ?_
  exact ⟨rfl, Nat.le_of_ble_eq_true rfl, Nat.le_of_ble_eq_true rfl⟩

set_option maxRecDepth 20000 in
theorem P_pa21 (xs : Nat → Int32) (hsw : xs 0 &&& 31 = 8) (hc1 : P_cc .lt (xs 1) 0 = true) (hc2 : P_cc .lt (xs 1) 0 = true) : P_wp P_Y0 200 0 (28, [.ref 0, .ref 2, .ref 47, .ref 63, .ref 64, .int 0, P_un, P_un, P_un], [], (P_hv132 xs 5)) (fun r h => r = .inl (some (.int 1)) ∧ h.2.1 ≤ 600002 ∧ h.2.2 ≤ 7302232) := by
  refine P_wp_step (S' := (30, [.ref 0, .ref 2, .ref 47, .ref 63, .ref 64, .int 0, P_un, P_un, P_un], [.int 0], (P_hv132 xs 5))) P_i0_28 (fun _ => rfl) ?_
  refine P_wp_step (S' := (31, [.ref 0, .ref 2, .ref 47, .ref 63, .ref 64, .int 0, P_un, P_un, P_un], [.ref 0, .int 0], (P_hv132 xs 5))) P_i0_30 (fun _ => rfl) ?_
  refine P_wp_step (S' := (32, [.ref 0, .ref 2, .ref 47, .ref 63, .ref 64, .int 0, P_un, P_un, P_un], [.int 5, .int 0], (P_hv132 xs 5))) P_i0_31 (fun _ => rfl) ?_
  refine P_wp_step (S' := (33, [.ref 0, .ref 2, .ref 47, .ref 63, .ref 64, .int 0, P_un, P_un, P_un], [.int 5, .int 5, .int 0], (P_hv132 xs 5))) P_i0_32 (fun _ => rfl) ?_
  refine P_wp_step (S' := (34, [.ref 0, .ref 2, .ref 47, .ref 63, .ref 64, .int 0, P_un, P_un, P_un], [.int 0, .int 0], (P_hv132 xs 5))) P_i0_33 (fun _ => rfl) ?_
  refine P_wp_icf P_i0_34 P_b18 (show P_wp P_Y0 200 0 (37, [.ref 0, .ref 2, .ref 47, .ref 63, .ref 64, .int 0, P_un, P_un, P_un], [], (P_hv132 xs 5)) _ from ?_)
  refine P_wp_step (S' := (38, [.ref 0, .ref 2, .ref 47, .ref 63, .ref 64, .int 0, P_un, P_un, P_un], [.ref 0], (P_hv132 xs 5))) P_i0_37 (fun _ => rfl) ?_
  refine P_wp_step (S' := (40, [.ref 0, .ref 2, .ref 47, .ref 63, .ref 64, .int 0, P_un, P_un, P_un], [.int 0, .ref 0], (P_hv132 xs 5))) P_i0_38 (fun _ => rfl) ?_
  refine P_wp_step (S' := (41, [.ref 0, .ref 2, .ref 47, .ref 63, .ref 64, .int 0, P_un, P_un, P_un], [.int (xs 0)], (P_hv132 xs 5))) P_i0_40 (fun _ => rfl) ?_
  refine P_wp_step (S' := (43, [.ref 0, .ref 2, .ref 47, .ref 63, .ref 64, .int 0, P_un, P_un, P_un], [.int 31, .int (xs 0)], (P_hv132 xs 5))) P_i0_41 (fun _ => rfl) ?_
  refine P_wp_step (S' := (44, [.ref 0, .ref 2, .ref 47, .ref 63, .ref 64, .int 0, P_un, P_un, P_un], [.int (xs 0 &&& 31)], (P_hv132 xs 5))) P_i0_43 (fun _ => rfl) ?_
  refine P_sw_at hsw (show P_wp P_Y0 200 0 (44, [.ref 0, .ref 2, .ref 47, .ref 63, .ref 64, .int 0, P_un, P_un, P_un], [.int 8], (P_hv132 xs 5)) _ from ?_)
  refine P_wp_step (S' := (547, [.ref 0, .ref 2, .ref 47, .ref 63, .ref 64, .int 0, P_un, P_un, P_un], [], (P_hv132 xs 5))) P_i0_44 (fun _ => P_do_sw (by decide +kernel)) ?_
  refine P_wp_step (S' := (548, [.ref 0, .ref 2, .ref 47, .ref 63, .ref 64, .int 0, P_un, P_un, P_un], [.ref 2], (P_hv132 xs 5))) P_i0_547 (fun _ => rfl) ?_
  refine P_wp_step (S' := (549, [.ref 0, .ref 2, .ref 47, .ref 63, .ref 64, .int 0, P_un, P_un, P_un], [.ref 0, .ref 2], (P_hv132 xs 5))) P_i0_548 (fun _ => rfl) ?_
  refine P_wp_step (S' := (551, [.ref 0, .ref 2, .ref 47, .ref 63, .ref 64, .int 0, P_un, P_un, P_un], [.int 0, .ref 0, .ref 2], (P_hv132 xs 5))) P_i0_549 (fun _ => rfl) ?_
  refine P_wp_step (S' := (552, [.ref 0, .ref 2, .ref 47, .ref 63, .ref 64, .int 0, P_un, P_un, P_un], [.int 1, .int 0, .ref 0, .ref 2], (P_hv132 xs 5))) P_i0_551 (fun _ => rfl) ?_
  refine P_wp_step (S' := (553, [.ref 0, .ref 2, .ref 47, .ref 63, .ref 64, .int 0, P_un, P_un, P_un], [.int 1, .ref 0, .ref 2], (P_hv132 xs 5))) P_i0_552 (fun _ => rfl) ?_
  refine P_wp_step (S' := (554, [.ref 0, .ref 2, .ref 47, .ref 63, .ref 64, .int 0, P_un, P_un, P_un], [.int (xs 1), .ref 2], (P_hv132 xs 5))) P_i0_553 (fun _ => rfl) ?_
  refine P_wp_step (S' := (555, [.ref 0, .ref 2, .ref 47, .ref 63, .ref 64, .int 0, P_un, P_un, P_un], [.ref 63, .int (xs 1), .ref 2], (P_hv132 xs 5))) P_i0_554 (fun _ => rfl) ?_
  refine P_wp_call P_i0_555 rfl rfl rfl rfl rfl rfl rfl (y2 := 275) (as := [.ref 2, .int (xs 1), .ref 63]) (r0 := []) rfl (Nat.le_of_ble_eq_true rfl) (by decide) rfl (Nat.le_of_ble_eq_true rfl) (P_x174 xs 5 hc1 (?_))
  show P_wp P_Y0 200 0 (558, [.ref 0, .ref 2, .ref 47, .ref 63, .ref 64, .int 0, P_un, P_un, P_un], [.int 1], (P_hv134 xs 5)) _
  refine P_wp_step (S' := (560, [.ref 0, .ref 2, .ref 47, .ref 63, .ref 64, .int 0, .int 1, P_un, P_un], [], (P_hv134 xs 5))) P_i0_558 (fun _ => rfl) ?_
  refine P_wp_step (S' := (561, [.ref 0, .ref 2, .ref 47, .ref 63, .ref 64, .int 0, .int 1, P_un, P_un], [.ref 47], (P_hv134 xs 5))) P_i0_560 (fun _ => rfl) ?_
  refine P_wp_step (S' := (562, [.ref 0, .ref 2, .ref 47, .ref 63, .ref 64, .int 0, .int 1, P_un, P_un], [.ref 0, .ref 47], (P_hv134 xs 5))) P_i0_561 (fun _ => rfl) ?_
  refine P_wp_step (S' := (564, [.ref 0, .ref 2, .ref 47, .ref 63, .ref 64, .int 0, .int 1, P_un, P_un], [.int 0, .ref 0, .ref 47], (P_hv134 xs 5))) P_i0_562 (fun _ => rfl) ?_
  refine P_wp_step (S' := (565, [.ref 0, .ref 2, .ref 47, .ref 63, .ref 64, .int 0, .int 1, P_un, P_un], [.int 1, .int 0, .ref 0, .ref 47], (P_hv134 xs 5))) P_i0_564 (fun _ => rfl) ?_
  refine P_wp_step (S' := (566, [.ref 0, .ref 2, .ref 47, .ref 63, .ref 64, .int 0, .int 1, P_un, P_un], [.int 1, .ref 0, .ref 47], (P_hv134 xs 5))) P_i0_565 (fun _ => rfl) ?_
  refine P_wp_step (S' := (567, [.ref 0, .ref 2, .ref 47, .ref 63, .ref 64, .int 0, .int 1, P_un, P_un], [.int (xs 1), .ref 47], (P_hv134 xs 5))) P_i0_566 (fun _ => rfl) ?_
  refine P_wp_call P_i0_567 rfl rfl rfl rfl rfl rfl rfl (y2 := 212) (as := [.ref 47, .int (xs 1)]) (r0 := []) rfl (Nat.le_of_ble_eq_true rfl) (by decide) rfl (Nat.le_of_ble_eq_true rfl) (P_x176 xs 5 hc2 (?_))
  show P_wp P_Y0 200 0 (570, [.ref 0, .ref 2, .ref 47, .ref 63, .ref 64, .int 0, .int 1, P_un, P_un], [.int 0], (P_hv135 xs 5)) _
  refine P_wp_step (S' := (572, [.ref 0, .ref 2, .ref 47, .ref 63, .ref 64, .int 0, .int 1, .int 0, P_un], [], (P_hv135 xs 5))) P_i0_570 (fun _ => rfl) ?_
  refine P_wp_step (S' := (573, [.ref 0, .ref 2, .ref 47, .ref 63, .ref 64, .int 0, .int 1, .int 0, P_un], [.ref 47], (P_hv135 xs 5))) P_i0_572 (fun _ => rfl) ?_
  refine P_wp_call P_i0_573 rfl rfl rfl rfl rfl rfl rfl (y2 := 183) (as := [.ref 47]) (r0 := []) rfl (Nat.le_of_ble_eq_true rfl) (by decide) rfl (Nat.le_of_ble_eq_true rfl) (P_x32 xs 5 (?_))
  show P_wp P_Y0 200 0 (576, [.ref 0, .ref 2, .ref 47, .ref 63, .ref 64, .int 0, .int 1, .int 0, P_un], [.int 1], (P_hv135 xs 5)) _
  refine P_wp_step (S' := (578, [.ref 0, .ref 2, .ref 47, .ref 63, .ref 64, .int 0, .int 1, .int 0, P_un], [.int 1, .int 1], (P_hv135 xs 5))) P_i0_576 (fun _ => rfl) ?_
  refine P_wp_ict P_i0_578 P_b20 (show P_wp P_Y0 200 0 (583, [.ref 0, .ref 2, .ref 47, .ref 63, .ref 64, .int 0, .int 1, .int 0, P_un], [], (P_hv135 xs 5)) _ from ?_)
  refine P_wp_step (S' := (585, [.ref 0, .ref 2, .ref 47, .ref 63, .ref 64, .int 0, .int 1, .int 0, P_un], [.int 1], (P_hv135 xs 5))) P_i0_583 (fun _ => rfl) ?_
  refine P_wp_izt P_i0_585 P_b21 (show P_wp P_Y0 200 0 (600, [.ref 0, .ref 2, .ref 47, .ref 63, .ref 64, .int 0, .int 1, .int 0, P_un], [], (P_hv135 xs 5)) _ from ?_)
  refine P_wp_step (S' := (1553, [.ref 0, .ref 2, .ref 47, .ref 63, .ref 64, .int 0, .int 1, .int 0, P_un], [], (P_hv135 xs 5))) P_i0_600 (fun _ => rfl) ?_
  refine P_wp_step (S' := (1556, [.ref 0, .ref 2, .ref 47, .ref 63, .ref 64, .int 5, .int 1, .int 0, P_un], [], (P_hv135 xs 5))) P_i0_1553 (fun _ => rfl) ?_
  refine P_wp_step (S' := (28, [.ref 0, .ref 2, .ref 47, .ref 63, .ref 64, .int 5, P_un, P_un, P_un], [], (P_hv135 xs 5))) P_i0_1556 (fun _ => rfl) ?_
  refine P_wp_step (S' := (30, [.ref 0, .ref 2, .ref 47, .ref 63, .ref 64, .int 5, P_un, P_un, P_un], [.int 5], (P_hv135 xs 5))) P_i0_28 (fun _ => rfl) ?_
  refine P_wp_step (S' := (31, [.ref 0, .ref 2, .ref 47, .ref 63, .ref 64, .int 5, P_un, P_un, P_un], [.ref 0, .int 5], (P_hv135 xs 5))) P_i0_30 (fun _ => rfl) ?_
  refine P_wp_step (S' := (32, [.ref 0, .ref 2, .ref 47, .ref 63, .ref 64, .int 5, P_un, P_un, P_un], [.int 5, .int 5], (P_hv135 xs 5))) P_i0_31 (fun _ => rfl) ?_
  refine P_wp_step (S' := (33, [.ref 0, .ref 2, .ref 47, .ref 63, .ref 64, .int 5, P_un, P_un, P_un], [.int 5, .int 5, .int 5], (P_hv135 xs 5))) P_i0_32 (fun _ => rfl) ?_
  refine P_wp_step (S' := (34, [.ref 0, .ref 2, .ref 47, .ref 63, .ref 64, .int 5, P_un, P_un, P_un], [.int 0, .int 5], (P_hv135 xs 5))) P_i0_33 (fun _ => rfl) ?_
  refine P_wp_ict P_i0_34 P_b22 (show P_wp P_Y0 200 0 (1559, [.ref 0, .ref 2, .ref 47, .ref 63, .ref 64, .int 5, P_un, P_un, P_un], [], (P_hv135 xs 5)) _ from ?_)
  refine P_wp_step (S' := (1560, [.ref 0, .ref 2, .ref 47, .ref 63, .ref 64, .int 5, P_un, P_un, P_un], [.int 1], (P_hv135 xs 5))) P_i0_1559 (fun _ => rfl) ?_
  refine P_wp_end (x := (.inl (some (.int 1)), (P_hv135 xs 5))) P_i0_1560 (fun _ => rfl) ?_
  exact ⟨rfl, Nat.le_of_ble_eq_true rfl, Nat.le_of_ble_eq_true rfl⟩

set_option maxRecDepth 20000 in
theorem P_pa22 (xs : Nat → Int32) (hsw : xs 0 &&& 31 = 8) (hc1 : P_cc .lt (xs 1) 0 = false) (hc2 : P_cc .le (xs 1) 4 = true) (hc3 : P_cc .ne (xs 1) 0 = true) (hc4 : P_cc .ne (xs 1) 1 = true) (hc5 : P_cc .lt (xs 1) 0 = false) (hc6 : P_cc .gt (xs 1) 4 = false) (hc7 : P_cc .ge (xs 1) 2 = true) : P_wp P_Y0 200 0 (28, [.ref 0, .ref 2, .ref 47, .ref 63, .ref 64, .int 0, P_un, P_un, P_un], [], (P_hv132 xs 5)) (fun r h => r = .inl (some (.int 1)) ∧ h.2.1 ≤ 600002 ∧ h.2.2 ≤ 7302232) := by
  refine P_wp_step (S' := (30, [.ref 0, .ref 2, .ref 47, .ref 63, .ref 64, .int 0, P_un, P_un, P_un], [.int 0], (P_hv132 xs 5))) P_i0_28 (fun _ => rfl) ?_
  refine P_wp_step (S' := (31, [.ref 0, .ref 2, .ref 47, .ref 63, .ref 64, .int 0, P_un, P_un, P_un], [.ref 0, .int 0], (P_hv132 xs 5))) P_i0_30 (fun _ => rfl) ?_
  refine P_wp_step (S' := (32, [.ref 0, .ref 2, .ref 47, .ref 63, .ref 64, .int 0, P_un, P_un, P_un], [.int 5, .int 0], (P_hv132 xs 5))) P_i0_31 (fun _ => rfl) ?_
  refine P_wp_step (S' := (33, [.ref 0, .ref 2, .ref 47, .ref 63, .ref 64, .int 0, P_un, P_un, P_un], [.int 5, .int 5, .int 0], (P_hv132 xs 5))) P_i0_32 (fun _ => rfl) ?_
  refine P_wp_step (S' := (34, [.ref 0, .ref 2, .ref 47, .ref 63, .ref 64, .int 0, P_un, P_un, P_un], [.int 0, .int 0], (P_hv132 xs 5))) P_i0_33 (fun _ => rfl) ?_
  refine P_wp_icf P_i0_34 P_b18 (show P_wp P_Y0 200 0 (37, [.ref 0, .ref 2, .ref 47, .ref 63, .ref 64, .int 0, P_un, P_un, P_un], [], (P_hv132 xs 5)) _ from ?_)
  refine P_wp_step (S' := (38, [.ref 0, .ref 2, .ref 47, .ref 63, .ref 64, .int 0, P_un, P_un, P_un], [.ref 0], (P_hv132 xs 5))) P_i0_37 (fun _ => rfl) ?_
  refine P_wp_step (S' := (40, [.ref 0, .ref 2, .ref 47, .ref 63, .ref 64, .int 0, P_un, P_un, P_un], [.int 0, .ref 0], (P_hv132 xs 5))) P_i0_38 (fun _ => rfl) ?_
  refine P_wp_step (S' := (41, [.ref 0, .ref 2, .ref 47, .ref 63, .ref 64, .int 0, P_un, P_un, P_un], [.int (xs 0)], (P_hv132 xs 5))) P_i0_40 (fun _ => rfl) ?_
  refine P_wp_step (S' := (43, [.ref 0, .ref 2, .ref 47, .ref 63, .ref 64, .int 0, P_un, P_un, P_un], [.int 31, .int (xs 0)], (P_hv132 xs 5))) P_i0_41 (fun _ => rfl) ?_
  refine P_wp_step (S' := (44, [.ref 0, .ref 2, .ref 47, .ref 63, .ref 64, .int 0, P_un, P_un, P_un], [.int (xs 0 &&& 31)], (P_hv132 xs 5))) P_i0_43 (fun _ => rfl) ?_
  refine P_sw_at hsw (show P_wp P_Y0 200 0 (44, [.ref 0, .ref 2, .ref 47, .ref 63, .ref 64, .int 0, P_un, P_un, P_un], [.int 8], (P_hv132 xs 5)) _ from ?_)
  refine P_wp_step (S' := (547, [.ref 0, .ref 2, .ref 47, .ref 63, .ref 64, .int 0, P_un, P_un, P_un], [], (P_hv132 xs 5))) P_i0_44 (fun _ => P_do_sw (by decide +kernel)) ?_
  refine P_wp_step (S' := (548, [.ref 0, .ref 2, .ref 47, .ref 63, .ref 64, .int 0, P_un, P_un, P_un], [.ref 2], (P_hv132 xs 5))) P_i0_547 (fun _ => rfl) ?_
  refine P_wp_step (S' := (549, [.ref 0, .ref 2, .ref 47, .ref 63, .ref 64, .int 0, P_un, P_un, P_un], [.ref 0, .ref 2], (P_hv132 xs 5))) P_i0_548 (fun _ => rfl) ?_
  refine P_wp_step (S' := (551, [.ref 0, .ref 2, .ref 47, .ref 63, .ref 64, .int 0, P_un, P_un, P_un], [.int 0, .ref 0, .ref 2], (P_hv132 xs 5))) P_i0_549 (fun _ => rfl) ?_
  refine P_wp_step (S' := (552, [.ref 0, .ref 2, .ref 47, .ref 63, .ref 64, .int 0, P_un, P_un, P_un], [.int 1, .int 0, .ref 0, .ref 2], (P_hv132 xs 5))) P_i0_551 (fun _ => rfl) ?_
  refine P_wp_step (S' := (553, [.ref 0, .ref 2, .ref 47, .ref 63, .ref 64, .int 0, P_un, P_un, P_un], [.int 1, .ref 0, .ref 2], (P_hv132 xs 5))) P_i0_552 (fun _ => rfl) ?_
  refine P_wp_step (S' := (554, [.ref 0, .ref 2, .ref 47, .ref 63, .ref 64, .int 0, P_un, P_un, P_un], [.int (xs 1), .ref 2], (P_hv132 xs 5))) P_i0_553 (fun _ => rfl) ?_
  refine P_wp_step (S' := (555, [.ref 0, .ref 2, .ref 47, .ref 63, .ref 64, .int 0, P_un, P_un, P_un], [.ref 63, .int (xs 1), .ref 2], (P_hv132 xs 5))) P_i0_554 (fun _ => rfl) ?_
  refine P_wp_call P_i0_555 rfl rfl rfl rfl rfl rfl rfl (y2 := 275) (as := [.ref 2, .int (xs 1), .ref 63]) (r0 := []) rfl (Nat.le_of_ble_eq_true rfl) (by decide) rfl (Nat.le_of_ble_eq_true rfl) (P_x180 xs 5 hc1 hc2 hc3 hc4 (?_))
  show P_wp P_Y0 200 0 (558, [.ref 0, .ref 2, .ref 47, .ref 63, .ref 64, .int 0, P_un, P_un, P_un], [.int 0], (P_hv164 xs 5)) _
  refine P_wp_step (S' := (560, [.ref 0, .ref 2, .ref 47, .ref 63, .ref 64, .int 0, .int 0, P_un, P_un], [], (P_hv164 xs 5))) P_i0_558 (fun _ => rfl) ?_
  refine P_wp_step (S' := (561, [.ref 0, .ref 2, .ref 47, .ref 63, .ref 64, .int 0, .int 0, P_un, P_un], [.ref 47], (P_hv164 xs 5))) P_i0_560 (fun _ => rfl) ?_
  refine P_wp_step (S' := (562, [.ref 0, .ref 2, .ref 47, .ref 63, .ref 64, .int 0, .int 0, P_un, P_un], [.ref 0, .ref 47], (P_hv164 xs 5))) P_i0_561 (fun _ => rfl) ?_
  refine P_wp_step (S' := (564, [.ref 0, .ref 2, .ref 47, .ref 63, .ref 64, .int 0, .int 0, P_un, P_un], [.int 0, .ref 0, .ref 47], (P_hv164 xs 5))) P_i0_562 (fun _ => rfl) ?_
  refine P_wp_step (S' := (565, [.ref 0, .ref 2, .ref 47, .ref 63, .ref 64, .int 0, .int 0, P_un, P_un], [.int 1, .int 0, .ref 0, .ref 47], (P_hv164 xs 5))) P_i0_564 (fun _ => rfl) ?_
  refine P_wp_step (S' := (566, [.ref 0, .ref 2, .ref 47, .ref 63, .ref 64, .int 0, .int 0, P_un, P_un], [.int 1, .ref 0, .ref 47], (P_hv164 xs 5))) P_i0_565 (fun _ => rfl) ?_
  refine P_wp_step (S' := (567, [.ref 0, .ref 2, .ref 47, .ref 63, .ref 64, .int 0, .int 0, P_un, P_un], [.int (xs 1), .ref 47], (P_hv164 xs 5))) P_i0_566 (fun _ => rfl) ?_
  refine P_wp_call P_i0_567 rfl rfl rfl rfl rfl rfl rfl (y2 := 212) (as := [.ref 47, .int (xs 1)]) (r0 := []) rfl (Nat.le_of_ble_eq_true rfl) (by decide) rfl (Nat.le_of_ble_eq_true rfl) (P_x183 xs 5 hc5 hc6 hc7 (?_))
  show P_wp P_Y0 200 0 (570, [.ref 0, .ref 2, .ref 47, .ref 63, .ref 64, .int 0, .int 0, P_un, P_un], [.int 0], (P_hv164 xs 5)) _
  refine P_wp_step (S' := (572, [.ref 0, .ref 2, .ref 47, .ref 63, .ref 64, .int 0, .int 0, .int 0, P_un], [], (P_hv164 xs 5))) P_i0_570 (fun _ => rfl) ?_
  refine P_wp_step (S' := (573, [.ref 0, .ref 2, .ref 47, .ref 63, .ref 64, .int 0, .int 0, .int 0, P_un], [.ref 47], (P_hv164 xs 5))) P_i0_572 (fun _ => rfl) ?_
  refine P_wp_call P_i0_573 rfl rfl rfl rfl rfl rfl rfl (y2 := 183) (as := [.ref 47]) (r0 := []) rfl (Nat.le_of_ble_eq_true rfl) (by decide) rfl (Nat.le_of_ble_eq_true rfl) (P_x184 xs 5 (?_))
  show P_wp P_Y0 200 0 (576, [.ref 0, .ref 2, .ref 47, .ref 63, .ref 64, .int 0, .int 0, .int 0, P_un], [.int 0], (P_hv164 xs 5)) _
  refine P_wp_step (S' := (578, [.ref 0, .ref 2, .ref 47, .ref 63, .ref 64, .int 0, .int 0, .int 0, P_un], [.int 0, .int 0], (P_hv164 xs 5))) P_i0_576 (fun _ => rfl) ?_
  refine P_wp_ict P_i0_578 P_b27 (show P_wp P_Y0 200 0 (583, [.ref 0, .ref 2, .ref 47, .ref 63, .ref 64, .int 0, .int 0, .int 0, P_un], [], (P_hv164 xs 5)) _ from ?_)
  refine P_wp_step (S' := (585, [.ref 0, .ref 2, .ref 47, .ref 63, .ref 64, .int 0, .int 0, .int 0, P_un], [.int 0], (P_hv164 xs 5))) P_i0_583 (fun _ => rfl) ?_
  refine P_wp_izf P_i0_585 P_b19 (show P_wp P_Y0 200 0 (588, [.ref 0, .ref 2, .ref 47, .ref 63, .ref 64, .int 0, .int 0, .int 0, P_un], [], (P_hv164 xs 5)) _ from ?_)
  refine P_wp_step (S' := (589, [.ref 0, .ref 2, .ref 47, .ref 63, .ref 64, .int 0, .int 0, .int 0, P_un], [.ref 63], (P_hv164 xs 5))) P_i0_588 (fun _ => rfl) ?_
  refine P_wp_step (S' := (590, [.ref 0, .ref 2, .ref 47, .ref 63, .ref 64, .int 0, .int 0, .int 0, P_un], [.int 0, .ref 63], (P_hv164 xs 5))) P_i0_589 (fun _ => rfl) ?_
  refine P_wp_step (S' := (591, [.ref 0, .ref 2, .ref 47, .ref 63, .ref 64, .int 0, .int 0, .int 0, P_un], [.long 0], (P_hv164 xs 5))) P_i0_590 (fun _ => rfl) ?_
  refine P_wp_step (S' := (593, [.ref 0, .ref 2, .ref 47, .ref 63, .ref 64, .int 0, .int 0, .int 0, P_un], [.int 0, .long 0], (P_hv164 xs 5))) P_i0_591 (fun _ => rfl) ?_
  refine P_wp_step (S' := (594, [.ref 0, .ref 2, .ref 47, .ref 63, .ref 64, .int 0, .int 0, .int 0, P_un], [.long 0, .long 0], (P_hv164 xs 5))) P_i0_593 (fun _ => rfl) ?_
  refine P_wp_step (S' := (595, [.ref 0, .ref 2, .ref 47, .ref 63, .ref 64, .int 0, .int 0, .int 0, P_un], [.int 0], (P_hv164 xs 5))) P_i0_594 (fun _ => P_do_lcmp (by decide +kernel)) ?_
  refine P_wp_izt P_i0_595 P_b27 (show P_wp P_Y0 200 0 (600, [.ref 0, .ref 2, .ref 47, .ref 63, .ref 64, .int 0, .int 0, .int 0, P_un], [], (P_hv164 xs 5)) _ from ?_)
  refine P_wp_step (S' := (1553, [.ref 0, .ref 2, .ref 47, .ref 63, .ref 64, .int 0, .int 0, .int 0, P_un], [], (P_hv164 xs 5))) P_i0_600 (fun _ => rfl) ?_
  refine P_wp_step (S' := (1556, [.ref 0, .ref 2, .ref 47, .ref 63, .ref 64, .int 5, .int 0, .int 0, P_un], [], (P_hv164 xs 5))) P_i0_1553 (fun _ => rfl) ?_
  refine P_wp_step (S' := (28, [.ref 0, .ref 2, .ref 47, .ref 63, .ref 64, .int 5, P_un, P_un, P_un], [], (P_hv164 xs 5))) P_i0_1556 (fun _ => rfl) ?_
  refine P_wp_step (S' := (30, [.ref 0, .ref 2, .ref 47, .ref 63, .ref 64, .int 5, P_un, P_un, P_un], [.int 5], (P_hv164 xs 5))) P_i0_28 (fun _ => rfl) ?_
  refine P_wp_step (S' := (31, [.ref 0, .ref 2, .ref 47, .ref 63, .ref 64, .int 5, P_un, P_un, P_un], [.ref 0, .int 5], (P_hv164 xs 5))) P_i0_30 (fun _ => rfl) ?_
  refine P_wp_step (S' := (32, [.ref 0, .ref 2, .ref 47, .ref 63, .ref 64, .int 5, P_un, P_un, P_un], [.int 5, .int 5], (P_hv164 xs 5))) P_i0_31 (fun _ => rfl) ?_
  refine P_wp_step (S' := (33, [.ref 0, .ref 2, .ref 47, .ref 63, .ref 64, .int 5, P_un, P_un, P_un], [.int 5, .int 5, .int 5], (P_hv164 xs 5))) P_i0_32 (fun _ => rfl) ?_
  refine P_wp_step (S' := (34, [.ref 0, .ref 2, .ref 47, .ref 63, .ref 64, .int 5, P_un, P_un, P_un], [.int 0, .int 5], (P_hv164 xs 5))) P_i0_33 (fun _ => rfl) ?_
  refine P_wp_ict P_i0_34 P_b22 (show P_wp P_Y0 200 0 (1559, [.ref 0, .ref 2, .ref 47, .ref 63, .ref 64, .int 5, P_un, P_un, P_un], [], (P_hv164 xs 5)) _ from ?_)
  refine P_wp_step (S' := (1560, [.ref 0, .ref 2, .ref 47, .ref 63, .ref 64, .int 5, P_un, P_un, P_un], [.int 1], (P_hv164 xs 5))) P_i0_1559 (fun _ => rfl) ?_
  refine P_wp_end (x := (.inl (some (.int 1)), (P_hv164 xs 5))) P_i0_1560 (fun _ => rfl) ?_
  exact ⟨rfl, Nat.le_of_ble_eq_true rfl, Nat.le_of_ble_eq_true rfl⟩

set_option maxRecDepth 20000 in
theorem P_pa23 (xs : Nat → Int32) (hsw : xs 0 &&& 31 = 8) (hc1 : P_cc .lt (xs 1) 0 = false) (hc2 : P_cc .le (xs 1) 4 = true) (hc3 : P_cc .ne (xs 1) 0 = true) (hc4 : P_cc .ne (xs 1) 1 = false) (hc5 : P_cc .lt (xs 1) 0 = false) (hc6 : P_cc .gt (xs 1) 4 = false) (hc7 : P_cc .ge (xs 1) 2 = false) (hc8 : P_cc .ne (xs 1) 0 = true) : P_wp P_Y0 200 0 (28, [.ref 0, .ref 2, .ref 47, .ref 63, .ref 64, .int 0, P_un, P_un, P_un], [], (P_hv132 xs 5)) (fun r h => r = .inl (some (.int 1)) ∧ h.2.1 ≤ 600002 ∧ h.2.2 ≤ 7302232) := by
  refine P_wp_step (S' := (30, [.ref 0, .ref 2, .ref 47, .ref 63, .ref 64, .int 0, P_un, P_un, P_un], [.int 0], (P_hv132 xs 5))) P_i0_28 (fun _ => rfl) ?_
  refine P_wp_step (S' := (31, [.ref 0, .ref 2, .ref 47, .ref 63, .ref 64, .int 0, P_un, P_un, P_un], [.ref 0, .int 0], (P_hv132 xs 5))) P_i0_30 (fun _ => rfl) ?_
  refine P_wp_step (S' := (32, [.ref 0, .ref 2, .ref 47, .ref 63, .ref 64, .int 0, P_un, P_un, P_un], [.int 5, .int 0], (P_hv132 xs 5))) P_i0_31 (fun _ => rfl) ?_
  refine P_wp_step (S' := (33, [.ref 0, .ref 2, .ref 47, .ref 63, .ref 64, .int 0, P_un, P_un, P_un], [.int 5, .int 5, .int 0], (P_hv132 xs 5))) P_i0_32 (fun _ => rfl) ?_
  refine P_wp_step (S' := (34, [.ref 0, .ref 2, .ref 47, .ref 63, .ref 64, .int 0, P_un, P_un, P_un], [.int 0, .int 0], (P_hv132 xs 5))) P_i0_33 (fun _ => rfl) ?_
  refine P_wp_icf P_i0_34 P_b18 (show P_wp P_Y0 200 0 (37, [.ref 0, .ref 2, .ref 47, .ref 63, .ref 64, .int 0, P_un, P_un, P_un], [], (P_hv132 xs 5)) _ from ?_)
  refine P_wp_step (S' := (38, [.ref 0, .ref 2, .ref 47, .ref 63, .ref 64, .int 0, P_un, P_un, P_un], [.ref 0], (P_hv132 xs 5))) P_i0_37 (fun _ => rfl) ?_
  refine P_wp_step (S' := (40, [.ref 0, .ref 2, .ref 47, .ref 63, .ref 64, .int 0, P_un, P_un, P_un], [.int 0, .ref 0], (P_hv132 xs 5))) P_i0_38 (fun _ => rfl) ?_
  refine P_wp_step (S' := (41, [.ref 0, .ref 2, .ref 47, .ref 63, .ref 64, .int 0, P_un, P_un, P_un], [.int (xs 0)], (P_hv132 xs 5))) P_i0_40 (fun _ => rfl) ?_
  refine P_wp_step (S' := (43, [.ref 0, .ref 2, .ref 47, .ref 63, .ref 64, .int 0, P_un, P_un, P_un], [.int 31, .int (xs 0)], (P_hv132 xs 5))) P_i0_41 (fun _ => rfl) ?_
  refine P_wp_step (S' := (44, [.ref 0, .ref 2, .ref 47, .ref 63, .ref 64, .int 0, P_un, P_un, P_un], [.int (xs 0 &&& 31)], (P_hv132 xs 5))) P_i0_43 (fun _ => rfl) ?_
  refine P_sw_at hsw (show P_wp P_Y0 200 0 (44, [.ref 0, .ref 2, .ref 47, .ref 63, .ref 64, .int 0, P_un, P_un, P_un], [.int 8], (P_hv132 xs 5)) _ from ?_)
  refine P_wp_step (S' := (547, [.ref 0, .ref 2, .ref 47, .ref 63, .ref 64, .int 0, P_un, P_un, P_un], [], (P_hv132 xs 5))) P_i0_44 (fun _ => P_do_sw (by decide +kernel)) ?_
  refine P_wp_step (S' := (548, [.ref 0, .ref 2, .ref 47, .ref 63, .ref 64, .int 0, P_un, P_un, P_un], [.ref 2], (P_hv132 xs 5))) P_i0_547 (fun _ => rfl) ?_
  refine P_wp_step (S' := (549, [.ref 0, .ref 2, .ref 47, .ref 63, .ref 64, .int 0, P_un, P_un, P_un], [.ref 0, .ref 2], (P_hv132 xs 5))) P_i0_548 (fun _ => rfl) ?_
  refine P_wp_step (S' := (551, [.ref 0, .ref 2, .ref 47, .ref 63, .ref 64, .int 0, P_un, P_un, P_un], [.int 0, .ref 0, .ref 2], (P_hv132 xs 5))) P_i0_549 (fun _ => rfl) ?_
  refine P_wp_step (S' := (552, [.ref 0, .ref 2, .ref 47, .ref 63, .ref 64, .int 0, P_un, P_un, P_un], [.int 1, .int 0, .ref 0, .ref 2], (P_hv132 xs 5))) P_i0_551 (fun _ => rfl) ?_
  refine P_wp_step (S' := (553, [.ref 0, .ref 2, .ref 47, .ref 63, .ref 64, .int 0, P_un, P_un, P_un], [.int 1, .ref 0, .ref 2], (P_hv132 xs 5))) P_i0_552 (fun _ => rfl) ?_
  refine P_wp_step (S' := (554, [.ref 0, .ref 2, .ref 47, .ref 63, .ref 64, .int 0, P_un, P_un, P_un], [.int (xs 1), .ref 2], (P_hv132 xs 5))) P_i0_553 (fun _ => rfl) ?_
  refine P_wp_step (S' := (555, [.ref 0, .ref 2, .ref 47, .ref 63, .ref 64, .int 0, P_un, P_un, P_un], [.ref 63, .int (xs 1), .ref 2], (P_hv132 xs 5))) P_i0_554 (fun _ => rfl) ?_
  refine P_wp_call P_i0_555 rfl rfl rfl rfl rfl rfl rfl (y2 := 275) (as := [.ref 2, .int (xs 1), .ref 63]) (r0 := []) rfl (Nat.le_of_ble_eq_true rfl) (by decide) rfl (Nat.le_of_ble_eq_true rfl) (P_x188 xs 5 hc1 hc2 hc3 hc4 (?_))
  show P_wp P_Y0 200 0 (558, [.ref 0, .ref 2, .ref 47, .ref 63, .ref 64, .int 0, P_un, P_un, P_un], [.int 0], (P_hv164 xs 5)) _
  refine P_wp_step (S' := (560, [.ref 0, .ref 2, .ref 47, .ref 63, .ref 64, .int 0, .int 0, P_un, P_un], [], (P_hv164 xs 5))) P_i0_558 (fun _ => rfl) ?_
  refine P_wp_step (S' := (561, [.ref 0, .ref 2, .ref 47, .ref 63, .ref 64, .int 0, .int 0, P_un, P_un], [.ref 47], (P_hv164 xs 5))) P_i0_560 (fun _ => rfl) ?_
  refine P_wp_step (S' := (562, [.ref 0, .ref 2, .ref 47, .ref 63, .ref 64, .int 0, .int 0, P_un, P_un], [.ref 0, .ref 47], (P_hv164 xs 5))) P_i0_561 (fun _ => rfl) ?_
  refine P_wp_step (S' := (564, [.ref 0, .ref 2, .ref 47, .ref 63, .ref 64, .int 0, .int 0, P_un, P_un], [.int 0, .ref 0, .ref 47], (P_hv164 xs 5))) P_i0_562 (fun _ => rfl) ?_
  refine P_wp_step (S' := (565, [.ref 0, .ref 2, .ref 47, .ref 63, .ref 64, .int 0, .int 0, P_un, P_un], [.int 1, .int 0, .ref 0, .ref 47], (P_hv164 xs 5))) P_i0_564 (fun _ => rfl) ?_
  refine P_wp_step (S' := (566, [.ref 0, .ref 2, .ref 47, .ref 63, .ref 64, .int 0, .int 0, P_un, P_un], [.int 1, .ref 0, .ref 47], (P_hv164 xs 5))) P_i0_565 (fun _ => rfl) ?_
  refine P_wp_step (S' := (567, [.ref 0, .ref 2, .ref 47, .ref 63, .ref 64, .int 0, .int 0, P_un, P_un], [.int (xs 1), .ref 47], (P_hv164 xs 5))) P_i0_566 (fun _ => rfl) ?_
  refine P_wp_call P_i0_567 rfl rfl rfl rfl rfl rfl rfl (y2 := 212) (as := [.ref 47, .int (xs 1)]) (r0 := []) rfl (Nat.le_of_ble_eq_true rfl) (by decide) rfl (Nat.le_of_ble_eq_true rfl) (P_x190 xs 5 hc5 hc6 hc7 hc8 (?_))
  show P_wp P_Y0 200 0 (570, [.ref 0, .ref 2, .ref 47, .ref 63, .ref 64, .int 0, .int 0, P_un, P_un], [.int 0], (P_hv164 xs 5)) _
  refine P_wp_step (S' := (572, [.ref 0, .ref 2, .ref 47, .ref 63, .ref 64, .int 0, .int 0, .int 0, P_un], [], (P_hv164 xs 5))) P_i0_570 (fun _ => rfl) ?_
  refine P_wp_step (S' := (573, [.ref 0, .ref 2, .ref 47, .ref 63, .ref 64, .int 0, .int 0, .int 0, P_un], [.ref 47], (P_hv164 xs 5))) P_i0_572 (fun _ => rfl) ?_
  refine P_wp_call P_i0_573 rfl rfl rfl rfl rfl rfl rfl (y2 := 183) (as := [.ref 47]) (r0 := []) rfl (Nat.le_of_ble_eq_true rfl) (by decide) rfl (Nat.le_of_ble_eq_true rfl) (P_x184 xs 5 (?_))
  show P_wp P_Y0 200 0 (576, [.ref 0, .ref 2, .ref 47, .ref 63, .ref 64, .int 0, .int 0, .int 0, P_un], [.int 0], (P_hv164 xs 5)) _
  refine P_wp_step (S' := (578, [.ref 0, .ref 2, .ref 47, .ref 63, .ref 64, .int 0, .int 0, .int 0, P_un], [.int 0, .int 0], (P_hv164 xs 5))) P_i0_576 (fun _ => rfl) ?_
  refine P_wp_ict P_i0_578 P_b27 (show P_wp P_Y0 200 0 (583, [.ref 0, .ref 2, .ref 47, .ref 63, .ref 64, .int 0, .int 0, .int 0, P_un], [], (P_hv164 xs 5)) _ from ?_)
  refine P_wp_step (S' := (585, [.ref 0, .ref 2, .ref 47, .ref 63, .ref 64, .int 0, .int 0, .int 0, P_un], [.int 0], (P_hv164 xs 5))) P_i0_583 (fun _ => rfl) ?_
  refine P_wp_izf P_i0_585 P_b19 (show P_wp P_Y0 200 0 (588, [.ref 0, .ref 2, .ref 47, .ref 63, .ref 64, .int 0, .int 0, .int 0, P_un], [], (P_hv164 xs 5)) _ from ?_)
  refine P_wp_step (S' := (589, [.ref 0, .ref 2, .ref 47, .ref 63, .ref 64, .int 0, .int 0, .int 0, P_un], [.ref 63], (P_hv164 xs 5))) P_i0_588 (fun _ => rfl) ?_
  refine P_wp_step (S' := (590, [.ref 0, .ref 2, .ref 47, .ref 63, .ref 64, .int 0, .int 0, .int 0, P_un], [.int 0, .ref 63], (P_hv164 xs 5))) P_i0_589 (fun _ => rfl) ?_
  refine P_wp_step (S' := (591, [.ref 0, .ref 2, .ref 47, .ref 63, .ref 64, .int 0, .int 0, .int 0, P_un], [.long 0], (P_hv164 xs 5))) P_i0_590 (fun _ => rfl) ?_
  refine P_wp_step (S' := (593, [.ref 0, .ref 2, .ref 47, .ref 63, .ref 64, .int 0, .int 0, .int 0, P_un], [.int 0, .long 0], (P_hv164 xs 5))) P_i0_591 (fun _ => rfl) ?_
  refine P_wp_step (S' := (594, [.ref 0, .ref 2, .ref 47, .ref 63, .ref 64, .int 0, .int 0, .int 0, P_un], [.long 0, .long 0], (P_hv164 xs 5))) P_i0_593 (fun _ => rfl) ?_
  refine P_wp_step (S' := (595, [.ref 0, .ref 2, .ref 47, .ref 63, .ref 64, .int 0, .int 0, .int 0, P_un], [.int 0], (P_hv164 xs 5))) P_i0_594 (fun _ => P_do_lcmp (by decide +kernel)) ?_
  refine P_wp_izt P_i0_595 P_b27 (show P_wp P_Y0 200 0 (600, [.ref 0, .ref 2, .ref 47, .ref 63, .ref 64, .int 0, .int 0, .int 0, P_un], [], (P_hv164 xs 5)) _ from ?_)
  refine P_wp_step (S' := (1553, [.ref 0, .ref 2, .ref 47, .ref 63, .ref 64, .int 0, .int 0, .int 0, P_un], [], (P_hv164 xs 5))) P_i0_600 (fun _ => rfl) ?_
  refine P_wp_step (S' := (1556, [.ref 0, .ref 2, .ref 47, .ref 63, .ref 64, .int 5, .int 0, .int 0, P_un], [], (P_hv164 xs 5))) P_i0_1553 (fun _ => rfl) ?_
  refine P_wp_step (S' := (28, [.ref 0, .ref 2, .ref 47, .ref 63, .ref 64, .int 5, P_un, P_un, P_un], [], (P_hv164 xs 5))) P_i0_1556 (fun _ => rfl) ?_
  refine P_wp_step (S' := (30, [.ref 0, .ref 2, .ref 47, .ref 63, .ref 64, .int 5, P_un, P_un, P_un], [.int 5], (P_hv164 xs 5))) P_i0_28 (fun _ => rfl) ?_
  refine P_wp_step (S' := (31, [.ref 0, .ref 2, .ref 47, .ref 63, .ref 64, .int 5, P_un, P_un, P_un], [.ref 0, .int 5], (P_hv164 xs 5))) P_i0_30 (fun _ => rfl) ?_
  refine P_wp_step (S' := (32, [.ref 0, .ref 2, .ref 47, .ref 63, .ref 64, .int 5, P_un, P_un, P_un], [.int 5, .int 5], (P_hv164 xs 5))) P_i0_31 (fun _ => rfl) ?_
  refine P_wp_step (S' := (33, [.ref 0, .ref 2, .ref 47, .ref 63, .ref 64, .int 5, P_un, P_un, P_un], [.int 5, .int 5, .int 5], (P_hv164 xs 5))) P_i0_32 (fun _ => rfl) ?_
  refine P_wp_step (S' := (34, [.ref 0, .ref 2, .ref 47, .ref 63, .ref 64, .int 5, P_un, P_un, P_un], [.int 0, .int 5], (P_hv164 xs 5))) P_i0_33 (fun _ => rfl) ?_
  refine P_wp_ict P_i0_34 P_b22 (show P_wp P_Y0 200 0 (1559, [.ref 0, .ref 2, .ref 47, .ref 63, .ref 64, .int 5, P_un, P_un, P_un], [], (P_hv164 xs 5)) _ from ?_)
  refine P_wp_step (S' := (1560, [.ref 0, .ref 2, .ref 47, .ref 63, .ref 64, .int 5, P_un, P_un, P_un], [.int 1], (P_hv164 xs 5))) P_i0_1559 (fun _ => rfl) ?_
  refine P_wp_end (x := (.inl (some (.int 1)), (P_hv164 xs 5))) P_i0_1560 (fun _ => rfl) ?_
  exact ⟨rfl, Nat.le_of_ble_eq_true rfl, Nat.le_of_ble_eq_true rfl⟩

set_option maxRecDepth 20000 in
theorem P_pa24 (xs : Nat → Int32) (hsw : xs 0 &&& 31 = 8) (hc1 : P_cc .lt (xs 1) 0 = false) (hc2 : P_cc .le (xs 1) 4 = true) (hc3 : P_cc .ne (xs 1) 0 = false) (hc4 : P_cc .lt (xs 1) 0 = false) (hc5 : P_cc .gt (xs 1) 4 = false) (hc6 : P_cc .ge (xs 1) 2 = false) (hc7 : P_cc .ne (xs 1) 0 = false) : P_wp P_Y0 200 0 (28, [.ref 0, .ref 2, .ref 47, .ref 63, .ref 64, .int 0, P_un, P_un, P_un], [], (P_hv132 xs 5)) (fun r h => r = .inl (some (.int 1)) ∧ h.2.1 ≤ 600002 ∧ h.2.2 ≤ 7302232) := by
  refine P_wp_step (S' := (30, [.ref 0, .ref 2, .ref 47, .ref 63, .ref 64, .int 0, P_un, P_un, P_un], [.int 0], (P_hv132 xs 5))) P_i0_28 (fun _ => rfl) ?_
  refine P_wp_step (S' := (31, [.ref 0, .ref 2, .ref 47, .ref 63, .ref 64, .int 0, P_un, P_un, P_un], [.ref 0, .int 0], (P_hv132 xs 5))) P_i0_30 (fun _ => rfl) ?_
  refine P_wp_step (S' := (32, [.ref 0, .ref 2, .ref 47, .ref 63, .ref 64, .int 0, P_un, P_un, P_un], [.int 5, .int 0], (P_hv132 xs 5))) P_i0_31 (fun _ => rfl) ?_
  refine P_wp_step (S' := (33, [.ref 0, .ref 2, .ref 47, .ref 63, .ref 64, .int 0, P_un, P_un, P_un], [.int 5, .int 5, .int 0], (P_hv132 xs 5))) P_i0_32 (fun _ => rfl) ?_
  refine P_wp_step (S' := (34, [.ref 0, .ref 2, .ref 47, .ref 63, .ref 64, .int 0, P_un, P_un, P_un], [.int 0, .int 0], (P_hv132 xs 5))) P_i0_33 (fun _ => rfl) ?_
  refine P_wp_icf P_i0_34 P_b18 (show P_wp P_Y0 200 0 (37, [.ref 0, .ref 2, .ref 47, .ref 63, .ref 64, .int 0, P_un, P_un, P_un], [], (P_hv132 xs 5)) _ from ?_)
  refine P_wp_step (S' := (38, [.ref 0, .ref 2, .ref 47, .ref 63, .ref 64, .int 0, P_un, P_un, P_un], [.ref 0], (P_hv132 xs 5))) P_i0_37 (fun _ => rfl) ?_
  refine P_wp_step (S' := (40, [.ref 0, .ref 2, .ref 47, .ref 63, .ref 64, .int 0, P_un, P_un, P_un], [.int 0, .ref 0], (P_hv132 xs 5))) P_i0_38 (fun _ => rfl) ?_
  refine P_wp_step (S' := (41, [.ref 0, .ref 2, .ref 47, .ref 63, .ref 64, .int 0, P_un, P_un, P_un], [.int (xs 0)], (P_hv132 xs 5))) P_i0_40 (fun _ => rfl) ?_
  refine P_wp_step (S' := (43, [.ref 0, .ref 2, .ref 47, .ref 63, .ref 64, .int 0, P_un, P_un, P_un], [.int 31, .int (xs 0)], (P_hv132 xs 5))) P_i0_41 (fun _ => rfl) ?_
  refine P_wp_step (S' := (44, [.ref 0, .ref 2, .ref 47, .ref 63, .ref 64, .int 0, P_un, P_un, P_un], [.int (xs 0 &&& 31)], (P_hv132 xs 5))) P_i0_43 (fun _ => rfl) ?_
  refine P_sw_at hsw (show P_wp P_Y0 200 0 (44, [.ref 0, .ref 2, .ref 47, .ref 63, .ref 64, .int 0, P_un, P_un, P_un], [.int 8], (P_hv132 xs 5)) _ from ?_)
  refine P_wp_step (S' := (547, [.ref 0, .ref 2, .ref 47, .ref 63, .ref 64, .int 0, P_un, P_un, P_un], [], (P_hv132 xs 5))) P_i0_44 (fun _ => P_do_sw (by decide +kernel)) ?_
  refine P_wp_step (S' := (548, [.ref 0, .ref 2, .ref 47, .ref 63, .ref 64, .int 0, P_un, P_un, P_un], [.ref 2], (P_hv132 xs 5))) P_i0_547 (fun _ => rfl) ?_
  refine P_wp_step (S' := (549, [.ref 0, .ref 2, .ref 47, .ref 63, .ref 64, .int 0, P_un, P_un, P_un], [.ref 0, .ref 2], (P_hv132 xs 5))) P_i0_548 (fun _ => rfl) ?_
  refine P_wp_step (S' := (551, [.ref 0, .ref 2, .ref 47, .ref 63, .ref 64, .int 0, P_un, P_un, P_un], [.int 0, .ref 0, .ref 2], (P_hv132 xs 5))) P_i0_549 (fun _ => rfl) ?_
  refine P_wp_step (S' := (552, [.ref 0, .ref 2, .ref 47, .ref 63, .ref 64, .int 0, P_un, P_un, P_un], [.int 1, .int 0, .ref 0, .ref 2], (P_hv132 xs 5))) P_i0_551 (fun _ => rfl) ?_
  refine P_wp_step (S' := (553, [.ref 0, .ref 2, .ref 47, .ref 63, .ref 64, .int 0, P_un, P_un, P_un], [.int 1, .ref 0, .ref 2], (P_hv132 xs 5))) P_i0_552 (fun _ => rfl) ?_
  refine P_wp_step (S' := (554, [.ref 0, .ref 2, .ref 47, .ref 63, .ref 64, .int 0, P_un, P_un, P_un], [.int (xs 1), .ref 2], (P_hv132 xs 5))) P_i0_553 (fun _ => rfl) ?_
  refine P_wp_step (S' := (555, [.ref 0, .ref 2, .ref 47, .ref 63, .ref 64, .int 0, P_un, P_un, P_un], [.ref 63, .int (xs 1), .ref 2], (P_hv132 xs 5))) P_i0_554 (fun _ => rfl) ?_
  refine P_wp_call P_i0_555 rfl rfl rfl rfl rfl rfl rfl (y2 := 275) (as := [.ref 2, .int (xs 1), .ref 63]) (r0 := []) rfl (Nat.le_of_ble_eq_true rfl) (by decide) rfl (Nat.le_of_ble_eq_true rfl) (P_x194 xs 5 hc1 hc2 hc3 (?_))
  show P_wp P_Y0 200 0 (558, [.ref 0, .ref 2, .ref 47, .ref 63, .ref 64, .int 0, P_un, P_un, P_un], [.int 0], (P_hv164 xs 5)) _
  refine P_wp_step (S' := (560, [.ref 0, .ref 2, .ref 47, .ref 63, .ref 64, .int 0, .int 0, P_un, P_un], [], (P_hv164 xs 5))) P_i0_558 (fun _ => rfl) ?_
  refine P_wp_step (S' := (561, [.ref 0, .ref 2, .ref 47, .ref 63, .ref 64, .int 0, .int 0, P_un, P_un], [.ref 47], (P_hv164 xs 5))) P_i0_560 (fun _ => rfl) ?_
  refine P_wp_step (S' := (562, [.ref 0, .ref 2, .ref 47, .ref 63, .ref 64, .int 0, .int 0, P_un, P_un], [.ref 0, .ref 47], (P_hv164 xs 5))) P_i0_561 (fun _ => rfl) ?_
  refine P_wp_step (S' := (564, [.ref 0, .ref 2, .ref 47, .ref 63, .ref 64, .int 0, .int 0, P_un, P_un], [.int 0, .ref 0, .ref 47], (P_hv164 xs 5))) P_i0_562 (fun _ => rfl) ?_
  refine P_wp_step (S' := (565, [.ref 0, .ref 2, .ref 47, .ref 63, .ref 64, .int 0, .int 0, P_un, P_un], [.int 1, .int 0, .ref 0, .ref 47], (P_hv164 xs 5))) P_i0_564 (fun _ => rfl) ?_
  refine P_wp_step (S' := (566, [.ref 0, .ref 2, .ref 47, .ref 63, .ref 64, .int 0, .int 0, P_un, P_un], [.int 1, .ref 0, .ref 47], (P_hv164 xs 5))) P_i0_565 (fun _ => rfl) ?_
  refine P_wp_step (S' := (567, [.ref 0, .ref 2, .ref 47, .ref 63, .ref 64, .int 0, .int 0, P_un, P_un], [.int (xs 1), .ref 47], (P_hv164 xs 5))) P_i0_566 (fun _ => rfl) ?_
  refine P_wp_call P_i0_567 rfl rfl rfl rfl rfl rfl rfl (y2 := 212) (as := [.ref 47, .int (xs 1)]) (r0 := []) rfl (Nat.le_of_ble_eq_true rfl) (by decide) rfl (Nat.le_of_ble_eq_true rfl) (P_x196 xs 5 hc4 hc5 hc6 hc7 (?_))
  show P_wp P_Y0 200 0 (570, [.ref 0, .ref 2, .ref 47, .ref 63, .ref 64, .int 0, .int 0, P_un, P_un], [.int 0], (P_hv164 xs 5)) _
  refine P_wp_step (S' := (572, [.ref 0, .ref 2, .ref 47, .ref 63, .ref 64, .int 0, .int 0, .int 0, P_un], [], (P_hv164 xs 5))) P_i0_570 (fun _ => rfl) ?_
  refine P_wp_step (S' := (573, [.ref 0, .ref 2, .ref 47, .ref 63, .ref 64, .int 0, .int 0, .int 0, P_un], [.ref 47], (P_hv164 xs 5))) P_i0_572 (fun _ => rfl) ?_
  refine P_wp_call P_i0_573 rfl rfl rfl rfl rfl rfl rfl (y2 := 183) (as := [.ref 47]) (r0 := []) rfl (Nat.le_of_ble_eq_true rfl) (by decide) rfl (Nat.le_of_ble_eq_true rfl) (P_x184 xs 5 (?_))
  show P_wp P_Y0 200 0 (576, [.ref 0, .ref 2, .ref 47, .ref 63, .ref 64, .int 0, .int 0, .int 0, P_un], [.int 0], (P_hv164 xs 5)) _
  refine P_wp_step (S' := (578, [.ref 0, .ref 2, .ref 47, .ref 63, .ref 64, .int 0, .int 0, .int 0, P_un], [.int 0, .int 0], (P_hv164 xs 5))) P_i0_576 (fun _ => rfl) ?_
  refine P_wp_ict P_i0_578 P_b27 (show P_wp P_Y0 200 0 (583, [.ref 0, .ref 2, .ref 47, .ref 63, .ref 64, .int 0, .int 0, .int 0, P_un], [], (P_hv164 xs 5)) _ from ?_)
  refine P_wp_step (S' := (585, [.ref 0, .ref 2, .ref 47, .ref 63, .ref 64, .int 0, .int 0, .int 0, P_un], [.int 0], (P_hv164 xs 5))) P_i0_583 (fun _ => rfl) ?_
  refine P_wp_izf P_i0_585 P_b19 (show P_wp P_Y0 200 0 (588, [.ref 0, .ref 2, .ref 47, .ref 63, .ref 64, .int 0, .int 0, .int 0, P_un], [], (P_hv164 xs 5)) _ from ?_)
  refine P_wp_step (S' := (589, [.ref 0, .ref 2, .ref 47, .ref 63, .ref 64, .int 0, .int 0, .int 0, P_un], [.ref 63], (P_hv164 xs 5))) P_i0_588 (fun _ => rfl) ?_
  refine P_wp_step (S' := (590, [.ref 0, .ref 2, .ref 47, .ref 63, .ref 64, .int 0, .int 0, .int 0, P_un], [.int 0, .ref 63], (P_hv164 xs 5))) P_i0_589 (fun _ => rfl) ?_
  refine P_wp_step (S' := (591, [.ref 0, .ref 2, .ref 47, .ref 63, .ref 64, .int 0, .int 0, .int 0, P_un], [.long 0], (P_hv164 xs 5))) P_i0_590 (fun _ => rfl) ?_
  refine P_wp_step (S' := (593, [.ref 0, .ref 2, .ref 47, .ref 63, .ref 64, .int 0, .int 0, .int 0, P_un], [.int 0, .long 0], (P_hv164 xs 5))) P_i0_591 (fun _ => rfl) ?_
  refine P_wp_step (S' := (594, [.ref 0, .ref 2, .ref 47, .ref 63, .ref 64, .int 0, .int 0, .int 0, P_un], [.long 0, .long 0], (P_hv164 xs 5))) P_i0_593 (fun _ => rfl) ?_
  refine P_wp_step (S' := (595, [.ref 0, .ref 2, .ref 47, .ref 63, .ref 64, .int 0, .int 0, .int 0, P_un], [.int 0], (P_hv164 xs 5))) P_i0_594 (fun _ => P_do_lcmp (by decide +kernel)) ?_
  refine P_wp_izt P_i0_595 P_b27 (show P_wp P_Y0 200 0 (600, [.ref 0, .ref 2, .ref 47, .ref 63, .ref 64, .int 0, .int 0, .int 0, P_un], [], (P_hv164 xs 5)) _ from ?_)
  refine P_wp_step (S' := (1553, [.ref 0, .ref 2, .ref 47, .ref 63, .ref 64, .int 0, .int 0, .int 0, P_un], [], (P_hv164 xs 5))) P_i0_600 (fun _ => rfl) ?_
  refine P_wp_step (S' := (1556, [.ref 0, .ref 2, .ref 47, .ref 63, .ref 64, .int 5, .int 0, .int 0, P_un], [], (P_hv164 xs 5))) P_i0_1553 (fun _ => rfl) ?_
  refine P_wp_step (S' := (28, [.ref 0, .ref 2, .ref 47, .ref 63, .ref 64, .int 5, P_un, P_un, P_un], [], (P_hv164 xs 5))) P_i0_1556 (fun _ => rfl) ?_
  refine P_wp_step (S' := (30, [.ref 0, .ref 2, .ref 47, .ref 63, .ref 64, .int 5, P_un, P_un, P_un], [.int 5], (P_hv164 xs 5))) P_i0_28 (fun _ => rfl) ?_
  refine P_wp_step (S' := (31, [.ref 0, .ref 2, .ref 47, .ref 63, .ref 64, .int 5, P_un, P_un, P_un], [.ref 0, .int 5], (P_hv164 xs 5))) P_i0_30 (fun _ => rfl) ?_
  refine P_wp_step (S' := (32, [.ref 0, .ref 2, .ref 47, .ref 63, .ref 64, .int 5, P_un, P_un, P_un], [.int 5, .int 5], (P_hv164 xs 5))) P_i0_31 (fun _ => rfl) ?_
  refine P_wp_step (S' := (33, [.ref 0, .ref 2, .ref 47, .ref 63, .ref 64, .int 5, P_un, P_un, P_un], [.int 5, .int 5, .int 5], (P_hv164 xs 5))) P_i0_32 (fun _ => rfl) ?_
  refine P_wp_step (S' := (34, [.ref 0, .ref 2, .ref 47, .ref 63, .ref 64, .int 5, P_un, P_un, P_un], [.int 0, .int 5], (P_hv164 xs 5))) P_i0_33 (fun _ => rfl) ?_
  refine P_wp_ict P_i0_34 P_b22 (show P_wp P_Y0 200 0 (1559, [.ref 0, .ref 2, .ref 47, .ref 63, .ref 64, .int 5, P_un, P_un, P_un], [], (P_hv164 xs 5)) _ from ?_)
  refine P_wp_step (S' := (1560, [.ref 0, .ref 2, .ref 47, .ref 63, .ref 64, .int 5, P_un, P_un, P_un], [.int 1], (P_hv164 xs 5))) P_i0_1559 (fun _ => rfl) ?_
  refine P_wp_end (x := (.inl (some (.int 1)), (P_hv164 xs 5))) P_i0_1560 (fun _ => rfl) ?_
  exact ⟨rfl, Nat.le_of_ble_eq_true rfl, Nat.le_of_ble_eq_true rfl⟩

set_option maxRecDepth 20000 in
theorem P_pa25 (xs : Nat → Int32) (hsw : xs 0 &&& 31 = 8) (hc1 : P_cc .lt (xs 1) 0 = false) (hc2 : P_cc .le (xs 1) 4 = false) (hc3 : P_cc .lt (xs 1) 0 = false) (hc4 : P_cc .gt (xs 1) 4 = true) : P_wp P_Y0 200 0 (28, [.ref 0, .ref 2, .ref 47, .ref 63, .ref 64, .int 0, P_un, P_un, P_un], [], (P_hv132 xs 5)) (fun r h => r = .inl (some (.int 1)) ∧ h.2.1 ≤ 600002 ∧ h.2.2 ≤ 7302232) := by
  refine P_wp_step (S' := (30, [.ref 0, .ref 2, .ref 47, .ref 63, .ref 64, .int 0, P_un, P_un, P_un], [.int 0], (P_hv132 xs 5))) P_i0_28 (fun _ => rfl) ?_
  refine P_wp_step (S' := (31, [.ref 0, .ref 2, .ref 47, .ref 63, .ref 64, .int 0, P_un, P_un, P_un], [.ref 0, .int 0], (P_hv132 xs 5))) P_i0_30 (fun _ => rfl) ?_
  refine P_wp_step (S' := (32, [.ref 0, .ref 2, .ref 47, .ref 63, .ref 64, .int 0, P_un, P_un, P_un], [.int 5, .int 0], (P_hv132 xs 5))) P_i0_31 (fun _ => rfl) ?_
  refine P_wp_step (S' := (33, [.ref 0, .ref 2, .ref 47, .ref 63, .ref 64, .int 0, P_un, P_un, P_un], [.int 5, .int 5, .int 0], (P_hv132 xs 5))) P_i0_32 (fun _ => rfl) ?_
  refine P_wp_step (S' := (34, [.ref 0, .ref 2, .ref 47, .ref 63, .ref 64, .int 0, P_un, P_un, P_un], [.int 0, .int 0], (P_hv132 xs 5))) P_i0_33 (fun _ => rfl) ?_
  refine P_wp_icf P_i0_34 P_b18 (show P_wp P_Y0 200 0 (37, [.ref 0, .ref 2, .ref 47, .ref 63, .ref 64, .int 0, P_un, P_un, P_un], [], (P_hv132 xs 5)) _ from ?_)
  refine P_wp_step (S' := (38, [.ref 0, .ref 2, .ref 47, .ref 63, .ref 64, .int 0, P_un, P_un, P_un], [.ref 0], (P_hv132 xs 5))) P_i0_37 (fun _ => rfl) ?_
  refine P_wp_step (S' := (40, [.ref 0, .ref 2, .ref 47, .ref 63, .ref 64, .int 0, P_un, P_un, P_un], [.int 0, .ref 0], (P_hv132 xs 5))) P_i0_38 (fun _ => rfl) ?_
  refine P_wp_step (S' := (41, [.ref 0, .ref 2, .ref 47, .ref 63, .ref 64, .int 0, P_un, P_un, P_un], [.int (xs 0)], (P_hv132 xs 5))) P_i0_40 (fun _ => rfl) ?_
  refine P_wp_step (S' := (43, [.ref 0, .ref 2, .ref 47, .ref 63, .ref 64, .int 0, P_un, P_un, P_un], [.int 31, .int (xs 0)], (P_hv132 xs 5))) P_i0_41 (fun _ => rfl) ?_
  refine P_wp_step (S' := (44, [.ref 0, .ref 2, .ref 47, .ref 63, .ref 64, .int 0, P_un, P_un, P_un], [.int (xs 0 &&& 31)], (P_hv132 xs 5))) P_i0_43 (fun _ => rfl) ?_
  refine P_sw_at hsw (show P_wp P_Y0 200 0 (44, [.ref 0, .ref 2, .ref 47, .ref 63, .ref 64, .int 0, P_un, P_un, P_un], [.int 8], (P_hv132 xs 5)) _ from ?_)
  refine P_wp_step (S' := (547, [.ref 0, .ref 2, .ref 47, .ref 63, .ref 64, .int 0, P_un, P_un, P_un], [], (P_hv132 xs 5))) P_i0_44 (fun _ => P_do_sw (by decide +kernel)) ?_
  refine P_wp_step (S' := (548, [.ref 0, .ref 2, .ref 47, .ref 63, .ref 64, .int 0, P_un, P_un, P_un], [.ref 2], (P_hv132 xs 5))) P_i0_547 (fun _ => rfl) ?_
  refine P_wp_step (S' := (549, [.ref 0, .ref 2, .ref 47, .ref 63, .ref 64, .int 0, P_un, P_un, P_un], [.ref 0, .ref 2], (P_hv132 xs 5))) P_i0_548 (fun _ => rfl) ?_
  refine P_wp_step (S' := (551, [.ref 0, .ref 2, .ref 47, .ref 63, .ref 64, .int 0, P_un, P_un, P_un], [.int 0, .ref 0, .ref 2], (P_hv132 xs 5))) P_i0_549 (fun _ => rfl) ?_
  refine P_wp_step (S' := (552, [.ref 0, .ref 2, .ref 47, .ref 63, .ref 64, .int 0, P_un, P_un, P_un], [.int 1, .int 0, .ref 0, .ref 2], (P_hv132 xs 5))) P_i0_551 (fun _ => rfl) ?_
  refine P_wp_step (S' := (553, [.ref 0, .ref 2, .ref 47, .ref 63, .ref 64, .int 0, P_un, P_un, P_un], [.int 1, .ref 0, .ref 2], (P_hv132 xs 5))) P_i0_552 (fun _ => rfl) ?_
  refine P_wp_step (S' := (554, [.ref 0, .ref 2, .ref 47, .ref 63, .ref 64, .int 0, P_un, P_un, P_un], [.int (xs 1), .ref 2], (P_hv132 xs 5))) P_i0_553 (fun _ => rfl) ?_
  refine P_wp_step (S' := (555, [.ref 0, .ref 2, .ref 47, .ref 63, .ref 64, .int 0, P_un, P_un, P_un], [.ref 63, .int (xs 1), .ref 2], (P_hv132 xs 5))) P_i0_554 (fun _ => rfl) ?_
  refine P_wp_call P_i0_555 rfl rfl rfl rfl rfl rfl rfl (y2 := 275) (as := [.ref 2, .int (xs 1), .ref 63]) (r0 := []) rfl (Nat.le_of_ble_eq_true rfl) (by decide) rfl (Nat.le_of_ble_eq_true rfl) (P_x198 xs 5 hc1 hc2 (?_))
  show P_wp P_Y0 200 0 (558, [.ref 0, .ref 2, .ref 47, .ref 63, .ref 64, .int 0, P_un, P_un, P_un], [.int 1], (P_hv134 xs 5)) _
  refine P_wp_step (S' := (560, [.ref 0, .ref 2, .ref 47, .ref 63, .ref 64, .int 0, .int 1, P_un, P_un], [], (P_hv134 xs 5))) P_i0_558 (fun _ => rfl) ?_
  refine P_wp_step (S' := (561, [.ref 0, .ref 2, .ref 47, .ref 63, .ref 64, .int 0, .int 1, P_un, P_un], [.ref 47], (P_hv134 xs 5))) P_i0_560 (fun _ => rfl) ?_
  refine P_wp_step (S' := (562, [.ref 0, .ref 2, .ref 47, .ref 63, .ref 64, .int 0, .int 1, P_un, P_un], [.ref 0, .ref 47], (P_hv134 xs 5))) P_i0_561 (fun _ => rfl) ?_
  refine P_wp_step (S' := (564, [.ref 0, .ref 2, .ref 47, .ref 63, .ref 64, .int 0, .int 1, P_un, P_un], [.int 0, .ref 0, .ref 47], (P_hv134 xs 5))) P_i0_562 (fun _ => rfl) ?_
  refine P_wp_step (S' := (565, [.ref 0, .ref 2, .ref 47, .ref 63, .ref 64, .int 0, .int 1, P_un, P_un], [.int 1, .int 0, .ref 0, .ref 47], (P_hv134 xs 5))) P_i0_564 (fun _ => rfl) ?_
  refine P_wp_step (S' := (566, [.ref 0, .ref 2, .ref 47, .ref 63, .ref 64, .int 0, .int 1, P_un, P_un], [.int 1, .ref 0, .ref 47], (P_hv134 xs 5))) P_i0_565 (fun _ => rfl) ?_
  refine P_wp_step (S' := (567, [.ref 0, .ref 2, .ref 47, .ref 63, .ref 64, .int 0, .int 1, P_un, P_un], [.int (xs 1), .ref 47], (P_hv134 xs 5))) P_i0_566 (fun _ => rfl) ?_
  refine P_wp_call P_i0_567 rfl rfl rfl rfl rfl rfl rfl (y2 := 212) (as := [.ref 47, .int (xs 1)]) (r0 := []) rfl (Nat.le_of_ble_eq_true rfl) (by decide) rfl (Nat.le_of_ble_eq_true rfl) (P_x200 xs 5 hc3 hc4 (?_))
  show P_wp P_Y0 200 0 (570, [.ref 0, .ref 2, .ref 47, .ref 63, .ref 64, .int 0, .int 1, P_un, P_un], [.int 0], (P_hv135 xs 5)) _
  refine P_wp_step (S' := (572, [.ref 0, .ref 2, .ref 47, .ref 63, .ref 64, .int 0, .int 1, .int 0, P_un], [], (P_hv135 xs 5))) P_i0_570 (fun _ => rfl) ?_
  refine P_wp_step (S' := (573, [.ref 0, .ref 2, .ref 47, .ref 63, .ref 64, .int 0, .int 1, .int 0, P_un], [.ref 47], (P_hv135 xs 5))) P_i0_572 (fun _ => rfl) ?_
  refine P_wp_call P_i0_573 rfl rfl rfl rfl rfl rfl rfl (y2 := 183) (as := [.ref 47]) (r0 := []) rfl (Nat.le_of_ble_eq_true rfl) (by decide) rfl (Nat.le_of_ble_eq_true rfl) (P_x32 xs 5 (?_))
  show P_wp P_Y0 200 0 (576, [.ref 0, .ref 2, .ref 47, .ref 63, .ref 64, .int 0, .int 1, .int 0, P_un], [.int 1], (P_hv135 xs 5)) _
  refine P_wp_step (S' := (578, [.ref 0, .ref 2, .ref 47, .ref 63, .ref 64, .int 0, .int 1, .int 0, P_un], [.int 1, .int 1], (P_hv135 xs 5))) P_i0_576 (fun _ => rfl) ?_
  refine P_wp_ict P_i0_578 P_b20 (show P_wp P_Y0 200 0 (583, [.ref 0, .ref 2, .ref 47, .ref 63, .ref 64, .int 0, .int 1, .int 0, P_un], [], (P_hv135 xs 5)) _ from ?_)
  refine P_wp_step (S' := (585, [.ref 0, .ref 2, .ref 47, .ref 63, .ref 64, .int 0, .int 1, .int 0, P_un], [.int 1], (P_hv135 xs 5))) P_i0_583 (fun _ => rfl) ?_
  refine P_wp_izt P_i0_585 P_b21 (show P_wp P_Y0 200 0 (600, [.ref 0, .ref 2, .ref 47, .ref 63, .ref 64, .int 0, .int 1, .int 0, P_un], [], (P_hv135 xs 5)) _ from ?_)
  refine P_wp_step (S' := (1553, [.ref 0, .ref 2, .ref 47, .ref 63, .ref 64, .int 0, .int 1, .int 0, P_un], [], (P_hv135 xs 5))) P_i0_600 (fun _ => rfl) ?_
  refine P_wp_step (S' := (1556, [.ref 0, .ref 2, .ref 47, .ref 63, .ref 64, .int 5, .int 1, .int 0, P_un], [], (P_hv135 xs 5))) P_i0_1553 (fun _ => rfl) ?_
  refine P_wp_step (S' := (28, [.ref 0, .ref 2, .ref 47, .ref 63, .ref 64, .int 5, P_un, P_un, P_un], [], (P_hv135 xs 5))) P_i0_1556 (fun _ => rfl) ?_
  refine P_wp_step (S' := (30, [.ref 0, .ref 2, .ref 47, .ref 63, .ref 64, .int 5, P_un, P_un, P_un], [.int 5], (P_hv135 xs 5))) P_i0_28 (fun _ => rfl) ?_
  refine P_wp_step (S' := (31, [.ref 0, .ref 2, .ref 47, .ref 63, .ref 64, .int 5, P_un, P_un, P_un], [.ref 0, .int 5], (P_hv135 xs 5))) P_i0_30 (fun _ => rfl) ?_
  refine P_wp_step (S' := (32, [.ref 0, .ref 2, .ref 47, .ref 63, .ref 64, .int 5, P_un, P_un, P_un], [.int 5, .int 5], (P_hv135 xs 5))) P_i0_31 (fun _ => rfl) ?_
  refine P_wp_step (S' := (33, [.ref 0, .ref 2, .ref 47, .ref 63, .ref 64, .int 5, P_un, P_un, P_un], [.int 5, .int 5, .int 5], (P_hv135 xs 5))) P_i0_32 (fun _ => rfl) ?_
  refine P_wp_step (S' := (34, [.ref 0, .ref 2, .ref 47, .ref 63, .ref 64, .int 5, P_un, P_un, P_un], [.int 0, .int 5], (P_hv135 xs 5))) P_i0_33 (fun _ => rfl) ?_
  refine P_wp_ict P_i0_34 P_b22 (show P_wp P_Y0 200 0 (1559, [.ref 0, .ref 2, .ref 47, .ref 63, .ref 64, .int 5, P_un, P_un, P_un], [], (P_hv135 xs 5)) _ from ?_)
  refine P_wp_step (S' := (1560, [.ref 0, .ref 2, .ref 47, .ref 63, .ref 64, .int 5, P_un, P_un, P_un], [.int 1], (P_hv135 xs 5))) P_i0_1559 (fun _ => rfl) ?_
  refine P_wp_end (x := (.inl (some (.int 1)), (P_hv135 xs 5))) P_i0_1560 (fun _ => rfl) ?_
  exact ⟨rfl, Nat.le_of_ble_eq_true rfl, Nat.le_of_ble_eq_true rfl⟩

set_option maxRecDepth 20000 in
theorem P_pa26 (xs : Nat → Int32) (hsw : xs 0 &&& 31 = 9) : P_wp P_Y0 200 0 (28, [.ref 0, .ref 2, .ref 47, .ref 63, .ref 64, .int 0, P_un, P_un, P_un], [], (P_hv132 xs 5)) (fun r h => r = .inl (some (.int 1)) ∧ h.2.1 ≤ 600002 ∧ h.2.2 ≤ 7302232) := by
  refine P_wp_step (S' := (30, [.ref 0, .ref 2, .ref 47, .ref 63, .ref 64, .int 0, P_un, P_un, P_un], [.int 0], (P_hv132 xs 5))) P_i0_28 (fun _ => rfl) ?_
  refine P_wp_step (S' := (31, [.ref 0, .ref 2, .ref 47, .ref 63, .ref 64, .int 0, P_un, P_un, P_un], [.ref 0, .int 0], (P_hv132 xs 5))) P_i0_30 (fun _ => rfl) ?_
  refine P_wp_step (S' := (32, [.ref 0, .ref 2, .ref 47, .ref 63, .ref 64, .int 0, P_un, P_un, P_un], [.int 5, .int 0], (P_hv132 xs 5))) P_i0_31 (fun _ => rfl) ?_
  refine P_wp_step (S' := (33, [.ref 0, .ref 2, .ref 47, .ref 63, .ref 64, .int 0, P_un, P_un, P_un], [.int 5, .int 5, .int 0], (P_hv132 xs 5))) P_i0_32 (fun _ => rfl) ?_
  refine P_wp_step (S' := (34, [.ref 0, .ref 2, .ref 47, .ref 63, .ref 64, .int 0, P_un, P_un, P_un], [.int 0, .int 0], (P_hv132 xs 5))) P_i0_33 (fun _ => rfl) ?_
  refine P_wp_icf P_i0_34 P_b18 (show P_wp P_Y0 200 0 (37, [.ref 0, .ref 2, .ref 47, .ref 63, .ref 64, .int 0, P_un, P_un, P_un], [], (P_hv132 xs 5)) _ from ?_)
  refine P_wp_step (S' := (38, [.ref 0, .ref 2, .ref 47, .ref 63, .ref 64, .int 0, P_un, P_un, P_un], [.ref 0], (P_hv132 xs 5))) P_i0_37 (fun _ => rfl) ?_
  refine P_wp_step (S' := (40, [.ref 0, .ref 2, .ref 47, .ref 63, .ref 64, .int 0, P_un, P_un, P_un], [.int 0, .ref 0], (P_hv132 xs 5))) P_i0_38 (fun _ => rfl) ?_
  refine P_wp_step (S' := (41, [.ref 0, .ref 2, .ref 47, .ref 63, .ref 64, .int 0, P_un, P_un, P_un], [.int (xs 0)], (P_hv132 xs 5))) P_i0_40 (fun _ => rfl) ?_
  refine P_wp_step (S' := (43, [.ref 0, .ref 2, .ref 47, .ref 63, .ref 64, .int 0, P_un, P_un, P_un], [.int 31, .int (xs 0)], (P_hv132 xs 5))) P_i0_41 (fun _ => rfl) ?_
  refine P_wp_step (S' := (44, [.ref 0, .ref 2, .ref 47, .ref 63, .ref 64, .int 0, P_un, P_un, P_un], [.int (xs 0 &&& 31)], (P_hv132 xs 5))) P_i0_43 (fun _ => rfl) ?_
  refine P_sw_at hsw (show P_wp P_Y0 200 0 (44, [.ref 0, .ref 2, .ref 47, .ref 63, .ref 64, .int 0, P_un, P_un, P_un], [.int 9], (P_hv132 xs 5)) _ from ?_)
  refine P_wp_step (S' := (603, [.ref 0, .ref 2, .ref 47, .ref 63, .ref 64, .int 0, P_un, P_un, P_un], [], (P_hv132 xs 5))) P_i0_44 (fun _ => P_do_sw (by decide +kernel)) ?_
  refine P_wp_step (S' := (604, [.ref 0, .ref 2, .ref 47, .ref 63, .ref 64, .int 0, P_un, P_un, P_un], [.ref 2], (P_hv132 xs 5))) P_i0_603 (fun _ => rfl) ?_
  refine P_wp_step (S' := (605, [.ref 0, .ref 2, .ref 47, .ref 63, .ref 64, .int 0, P_un, P_un, P_un], [.ref 0, .ref 2], (P_hv132 xs 5))) P_i0_604 (fun _ => rfl) ?_
  refine P_wp_step (S' := (607, [.ref 0, .ref 2, .ref 47, .ref 63, .ref 64, .int 0, P_un, P_un, P_un], [.int 0, .ref 0, .ref 2], (P_hv132 xs 5))) P_i0_605 (fun _ => rfl) ?_
  refine P_wp_step (S' := (608, [.ref 0, .ref 2, .ref 47, .ref 63, .ref 64, .int 0, P_un, P_un, P_un], [.int 1, .int 0, .ref 0, .ref 2], (P_hv132 xs 5))) P_i0_607 (fun _ => rfl) ?_
  refine P_wp_step (S' := (609, [.ref 0, .ref 2, .ref 47, .ref 63, .ref 64, .int 0, P_un, P_un, P_un], [.int 1, .ref 0, .ref 2], (P_hv132 xs 5))) P_i0_608 (fun _ => rfl) ?_
  refine P_wp_step (S' := (610, [.ref 0, .ref 2, .ref 47, .ref 63, .ref 64, .int 0, P_un, P_un, P_un], [.int (xs 1), .ref 2], (P_hv132 xs 5))) P_i0_609 (fun _ => rfl) ?_
  refine P_wp_step (S' := (611, [.ref 0, .ref 2, .ref 47, .ref 63, .ref 64, .int 0, P_un, P_un, P_un], [.ref 0, .int (xs 1), .ref 2], (P_hv132 xs 5))) P_i0_610 (fun _ => rfl) ?_
  refine P_wp_step (S' := (613, [.ref 0, .ref 2, .ref 47, .ref 63, .ref 64, .int 0, P_un, P_un, P_un], [.int 0, .ref 0, .int (xs 1), .ref 2], (P_hv132 xs 5))) P_i0_611 (fun _ => rfl) ?_
  refine P_wp_step (S' := (614, [.ref 0, .ref 2, .ref 47, .ref 63, .ref 64, .int 0, P_un, P_un, P_un], [.int 2, .int 0, .ref 0, .int (xs 1), .ref 2], (P_hv132 xs 5))) P_i0_613 (fun _ => rfl) ?_
  refine P_wp_step (S' := (615, [.ref 0, .ref 2, .ref 47, .ref 63, .ref 64, .int 0, P_un, P_un, P_un], [.int 2, .ref 0, .int (xs 1), .ref 2], (P_hv132 xs 5))) P_i0_614 (fun _ => rfl) ?_
  refine P_wp_step (S' := (616, [.ref 0, .ref 2, .ref 47, .ref 63, .ref 64, .int 0, P_un, P_un, P_un], [.int (xs 2), .int (xs 1), .ref 2], (P_hv132 xs 5))) P_i0_615 (fun _ => rfl) ?_
  refine P_wp_step (S' := (617, [.ref 0, .ref 2, .ref 47, .ref 63, .ref 64, .int 0, P_un, P_un, P_un], [.ref 63, .int (xs 2), .int (xs 1), .ref 2], (P_hv132 xs 5))) P_i0_616 (fun _ => rfl) ?_
  refine P_wp_call P_i0_617 rfl rfl rfl rfl rfl rfl rfl (y2 := 276) (as := [.ref 2, .int (xs 1), .int (xs 2), .ref 63]) (r0 := []) rfl (Nat.le_of_ble_eq_true rfl) (by decide) rfl (Nat.le_of_ble_eq_true rfl) (P_x203 xs 5 (?_))
  show P_wp P_Y0 200 0 (620, [.ref 0, .ref 2, .ref 47, .ref 63, .ref 64, .int 0, P_un, P_un, P_un], [.int 1], (P_hv134 xs 5)) _
  refine P_wp_step (S' := (622, [.ref 0, .ref 2, .ref 47, .ref 63, .ref 64, .int 0, .int 1, P_un, P_un], [], (P_hv134 xs 5))) P_i0_620 (fun _ => rfl) ?_
  refine P_wp_step (S' := (623, [.ref 0, .ref 2, .ref 47, .ref 63, .ref 64, .int 0, .int 1, P_un, P_un], [.ref 47], (P_hv134 xs 5))) P_i0_622 (fun _ => rfl) ?_
  refine P_wp_step (S' := (624, [.ref 0, .ref 2, .ref 47, .ref 63, .ref 64, .int 0, .int 1, P_un, P_un], [.ref 0, .ref 47], (P_hv134 xs 5))) P_i0_623 (fun _ => rfl) ?_
  refine P_wp_step (S' := (626, [.ref 0, .ref 2, .ref 47, .ref 63, .ref 64, .int 0, .int 1, P_un, P_un], [.int 0, .ref 0, .ref 47], (P_hv134 xs 5))) P_i0_624 (fun _ => rfl) ?_
  refine P_wp_step (S' := (627, [.ref 0, .ref 2, .ref 47, .ref 63, .ref 64, .int 0, .int 1, P_un, P_un], [.int 1, .int 0, .ref 0, .ref 47], (P_hv134 xs 5))) P_i0_626 (fun _ => rfl) ?_
  refine P_wp_step (S' := (628, [.ref 0, .ref 2, .ref 47, .ref 63, .ref 64, .int 0, .int 1, P_un, P_un], [.int 1, .ref 0, .ref 47], (P_hv134 xs 5))) P_i0_627 (fun _ => rfl) ?_
  refine P_wp_step (S' := (629, [.ref 0, .ref 2, .ref 47, .ref 63, .ref 64, .int 0, .int 1, P_un, P_un], [.int (xs 1), .ref 47], (P_hv134 xs 5))) P_i0_628 (fun _ => rfl) ?_
  refine P_wp_step (S' := (630, [.ref 0, .ref 2, .ref 47, .ref 63, .ref 64, .int 0, .int 1, P_un, P_un], [.ref 0, .int (xs 1), .ref 47], (P_hv134 xs 5))) P_i0_629 (fun _ => rfl) ?_
  refine P_wp_step (S' := (632, [.ref 0, .ref 2, .ref 47, .ref 63, .ref 64, .int 0, .int 1, P_un, P_un], [.int 0, .ref 0, .int (xs 1), .ref 47], (P_hv134 xs 5))) P_i0_630 (fun _ => rfl) ?_
  refine P_wp_step (S' := (633, [.ref 0, .ref 2, .ref 47, .ref 63, .ref 64, .int 0, .int 1, P_un, P_un], [.int 2, .int 0, .ref 0, .int (xs 1), .ref 47], (P_hv134 xs 5))) P_i0_632 (fun _ => rfl) ?_
  refine P_wp_step (S' := (634, [.ref 0, .ref 2, .ref 47, .ref 63, .ref 64, .int 0, .int 1, P_un, P_un], [.int 2, .ref 0, .int (xs 1), .ref 47], (P_hv134 xs 5))) P_i0_633 (fun _ => rfl) ?_
  refine P_wp_step (S' := (635, [.ref 0, .ref 2, .ref 47, .ref 63, .ref 64, .int 0, .int 1, P_un, P_un], [.int (xs 2), .int (xs 1), .ref 47], (P_hv134 xs 5))) P_i0_634 (fun _ => rfl) ?_
  refine P_wp_call P_i0_635 rfl rfl rfl rfl rfl rfl rfl (y2 := 220) (as := [.ref 47, .int (xs 1), .int (xs 2)]) (r0 := []) rfl (Nat.le_of_ble_eq_true rfl) (by decide) rfl (Nat.le_of_ble_eq_true rfl) (P_x204 xs 5 (?_))
  show P_wp P_Y0 200 0 (638, [.ref 0, .ref 2, .ref 47, .ref 63, .ref 64, .int 0, .int 1, P_un, P_un], [.int 0], (P_hv135 xs 5)) _
  refine P_wp_step (S' := (640, [.ref 0, .ref 2, .ref 47, .ref 63, .ref 64, .int 0, .int 1, .int 0, P_un], [], (P_hv135 xs 5))) P_i0_638 (fun _ => rfl) ?_
  refine P_wp_step (S' := (641, [.ref 0, .ref 2, .ref 47, .ref 63, .ref 64, .int 0, .int 1, .int 0, P_un], [.ref 47], (P_hv135 xs 5))) P_i0_640 (fun _ => rfl) ?_
  refine P_wp_call P_i0_641 rfl rfl rfl rfl rfl rfl rfl (y2 := 183) (as := [.ref 47]) (r0 := []) rfl (Nat.le_of_ble_eq_true rfl) (by decide) rfl (Nat.le_of_ble_eq_true rfl) (P_x32 xs 5 (?_))
  show P_wp P_Y0 200 0 (644, [.ref 0, .ref 2, .ref 47, .ref 63, .ref 64, .int 0, .int 1, .int 0, P_un], [.int 1], (P_hv135 xs 5)) _
  refine P_wp_step (S' := (646, [.ref 0, .ref 2, .ref 47, .ref 63, .ref 64, .int 0, .int 1, .int 0, P_un], [.int 1, .int 1], (P_hv135 xs 5))) P_i0_644 (fun _ => rfl) ?_
  refine P_wp_ict P_i0_646 P_b20 (show P_wp P_Y0 200 0 (651, [.ref 0, .ref 2, .ref 47, .ref 63, .ref 64, .int 0, .int 1, .int 0, P_un], [], (P_hv135 xs 5)) _ from ?_)
  refine P_wp_step (S' := (653, [.ref 0, .ref 2, .ref 47, .ref 63, .ref 64, .int 0, .int 1, .int 0, P_un], [.int 1], (P_hv135 xs 5))) P_i0_651 (fun _ => rfl) ?_
  refine P_wp_izt P_i0_653 P_b21 (show P_wp P_Y0 200 0 (668, [.ref 0, .ref 2, .ref 47, .ref 63, .ref 64, .int 0, .int 1, .int 0, P_un], [], (P_hv135 xs 5)) _ from ?_)
  refine P_wp_step (S' := (1553, [.ref 0, .ref 2, .ref 47, .ref 63, .ref 64, .int 0, .int 1, .int 0, P_un], [], (P_hv135 xs 5))) P_i0_668 (fun _ => rfl) ?_
  refine P_wp_step (S' := (1556, [.ref 0, .ref 2, .ref 47, .ref 63, .ref 64, .int 5, .int 1, .int 0, P_un], [], (P_hv135 xs 5))) P_i0_1553 (fun _ => rfl) ?_
  refine P_wp_step (S' := (28, [.ref 0, .ref 2, .ref 47, .ref 63, .ref 64, .int 5, P_un, P_un, P_un], [], (P_hv135 xs 5))) P_i0_1556 (fun _ => rfl) ?_
  refine P_wp_step (S' := (30, [.ref 0, .ref 2, .ref 47, .ref 63, .ref 64, .int 5, P_un, P_un, P_un], [.int 5], (P_hv135 xs 5))) P_i0_28 (fun _ => rfl) ?_
  refine P_wp_step (S' := (31, [.ref 0, .ref 2, .ref 47, .ref 63, .ref 64, .int 5, P_un, P_un, P_un], [.ref 0, .int 5], (P_hv135 xs 5))) P_i0_30 (fun _ => rfl) ?_
  refine P_wp_step (S' := (32, [.ref 0, .ref 2, .ref 47, .ref 63, .ref 64, .int 5, P_un, P_un, P_un], [.int 5, .int 5], (P_hv135 xs 5))) P_i0_31 (fun _ => rfl) ?_
  refine P_wp_step (S' := (33, [.ref 0, .ref 2, .ref 47, .ref 63, .ref 64, .int 5, P_un, P_un, P_un], [.int 5, .int 5, .int 5], (P_hv135 xs 5))) P_i0_32 (fun _ => rfl) ?_
  refine P_wp_step (S' := (34, [.ref 0, .ref 2, .ref 47, .ref 63, .ref 64, .int 5, P_un, P_un, P_un], [.int 0, .int 5], (P_hv135 xs 5))) P_i0_33 (fun _ => rfl) ?_
  refine P_wp_ict P_i0_34 P_b22 (show P_wp P_Y0 200 0 (1559, [.ref 0, .ref 2, .ref 47, .ref 63, .ref 64, .int 5, P_un, P_un, P_un], [], (P_hv135 xs 5)) _ from ?_)
  refine P_wp_step (S' := (1560, [.ref 0, .ref 2, .ref 47, .ref 63, .ref 64, .int 5, P_un, P_un, P_un], [.int 1], (P_hv135 xs 5))) P_i0_1559 (fun _ => rfl) ?_
  refine P_wp_end (x := (.inl (some (.int 1)), (P_hv135 xs 5))) P_i0_1560 (fun _ => rfl) ?_
  exact ⟨rfl, Nat.le_of_ble_eq_true rfl, Nat.le_of_ble_eq_true rfl⟩

set_option maxRecDepth 20000 in
theorem P_pa27 (xs : Nat → Int32) (hsw : xs 0 &&& 31 = 10) : P_wp P_Y0 200 0 (28, [.ref 0, .ref 2, .ref 47, .ref 63, .ref 64, .int 0, P_un, P_un, P_un], [], (P_hv132 xs 5)) (fun r h => r = .inl (some (.int 1)) ∧ h.2.1 ≤ 600002 ∧ h.2.2 ≤ 7302232) := by
  refine P_wp_step (S' := (30, [.ref 0, .ref 2, .ref 47, .ref 63, .ref 64, .int 0, P_un, P_un, P_un], [.int 0], (P_hv132 xs 5))) P_i0_28 (fun _ => rfl) ?_
  refine P_wp_step (S' := (31, [.ref 0, .ref 2, .ref 47, .ref 63, .ref 64, .int 0, P_un, P_un, P_un], [.ref 0, .int 0], (P_hv132 xs 5))) P_i0_30 (fun _ => rfl) ?_
  refine P_wp_step (S' := (32, [.ref 0, .ref 2, .ref 47, .ref 63, .ref 64, .int 0, P_un, P_un, P_un], [.int 5, .int 0], (P_hv132 xs 5))) P_i0_31 (fun _ => rfl) ?_
  refine P_wp_step (S' := (33, [.ref 0, .ref 2, .ref 47, .ref 63, .ref 64, .int 0, P_un, P_un, P_un], [.int 5, .int 5, .int 0], (P_hv132 xs 5))) P_i0_32 (fun _ => rfl) ?_
  refine P_wp_step (S' := (34, [.ref 0, .ref 2, .ref 47, .ref 63, .ref 64, .int 0, P_un, P_un, P_un], [.int 0, .int 0], (P_hv132 xs 5))) P_i0_33 (fun _ => rfl) ?_
  refine P_wp_icf P_i0_34 P_b18 (show P_wp P_Y0 200 0 (37, [.ref 0, .ref 2, .ref 47, .ref 63, .ref 64, .int 0, P_un, P_un, P_un], [], (P_hv132 xs 5)) _ from ?_)
  refine P_wp_step (S' := (38, [.ref 0, .ref 2, .ref 47, .ref 63, .ref 64, .int 0, P_un, P_un, P_un], [.ref 0], (P_hv132 xs 5))) P_i0_37 (fun _ => rfl) ?_
  refine P_wp_step (S' := (40, [.ref 0, .ref 2, .ref 47, .ref 63, .ref 64, .int 0, P_un, P_un, P_un], [.int 0, .ref 0], (P_hv132 xs 5))) P_i0_38 (fun _ => rfl) ?_
  refine P_wp_step (S' := (41, [.ref 0, .ref 2, .ref 47, .ref 63, .ref 64, .int 0, P_un, P_un, P_un], [.int (xs 0)], (P_hv132 xs 5))) P_i0_40 (fun _ => rfl) ?_
  refine P_wp_step (S' := (43, [.ref 0, .ref 2, .ref 47, .ref 63, .ref 64, .int 0, P_un, P_un, P_un], [.int 31, .int (xs 0)], (P_hv132 xs 5))) P_i0_41 (fun _ => rfl) ?_
  refine P_wp_step (S' := (44, [.ref 0, .ref 2, .ref 47, .ref 63, .ref 64, .int 0, P_un, P_un, P_un], [.int (xs 0 &&& 31)], (P_hv132 xs 5))) P_i0_43 (fun _ => rfl) ?_
  refine P_sw_at hsw (show P_wp P_Y0 200 0 (44, [.ref 0, .ref 2, .ref 47, .ref 63, .ref 64, .int 0, P_un, P_un, P_un], [.int 10], (P_hv132 xs 5)) _ from ?_)
  refine P_wp_step (S' := (671, [.ref 0, .ref 2, .ref 47, .ref 63, .ref 64, .int 0, P_un, P_un, P_un], [], (P_hv132 xs 5))) P_i0_44 (fun _ => P_do_sw (by decide +kernel)) ?_
  refine P_wp_step (S' := (672, [.ref 0, .ref 2, .ref 47, .ref 63, .ref 64, .int 0, P_un, P_un, P_un], [.ref 2], (P_hv132 xs 5))) P_i0_671 (fun _ => rfl) ?_
  refine P_wp_step (S' := (673, [.ref 0, .ref 2, .ref 47, .ref 63, .ref 64, .int 0, P_un, P_un, P_un], [.ref 0, .ref 2], (P_hv132 xs 5))) P_i0_672 (fun _ => rfl) ?_
  refine P_wp_step (S' := (675, [.ref 0, .ref 2, .ref 47, .ref 63, .ref 64, .int 0, P_un, P_un, P_un], [.int 0, .ref 0, .ref 2], (P_hv132 xs 5))) P_i0_673 (fun _ => rfl) ?_
  refine P_wp_step (S' := (676, [.ref 0, .ref 2, .ref 47, .ref 63, .ref 64, .int 0, P_un, P_un, P_un], [.int 1, .int 0, .ref 0, .ref 2], (P_hv132 xs 5))) P_i0_675 (fun _ => rfl) ?_
  refine P_wp_step (S' := (677, [.ref 0, .ref 2, .ref 47, .ref 63, .ref 64, .int 0, P_un, P_un, P_un], [.int 1, .ref 0, .ref 2], (P_hv132 xs 5))) P_i0_676 (fun _ => rfl) ?_
  refine P_wp_step (S' := (678, [.ref 0, .ref 2, .ref 47, .ref 63, .ref 64, .int 0, P_un, P_un, P_un], [.int (xs 1), .ref 2], (P_hv132 xs 5))) P_i0_677 (fun _ => rfl) ?_
  refine P_wp_step (S' := (679, [.ref 0, .ref 2, .ref 47, .ref 63, .ref 64, .int 0, P_un, P_un, P_un], [.ref 63, .int (xs 1), .ref 2], (P_hv132 xs 5))) P_i0_678 (fun _ => rfl) ?_
  refine P_wp_call P_i0_679 rfl rfl rfl rfl rfl rfl rfl (y2 := 277) (as := [.ref 2, .int (xs 1), .ref 63]) (r0 := []) rfl (Nat.le_of_ble_eq_true rfl) (by decide) rfl (Nat.le_of_ble_eq_true rfl) (P_x206 xs 5 (?_))
  show P_wp P_Y0 200 0 (682, [.ref 0, .ref 2, .ref 47, .ref 63, .ref 64, .int 0, P_un, P_un, P_un], [.int 1], (P_hv134 xs 5)) _
  refine P_wp_step (S' := (684, [.ref 0, .ref 2, .ref 47, .ref 63, .ref 64, .int 0, .int 1, P_un, P_un], [], (P_hv134 xs 5))) P_i0_682 (fun _ => rfl) ?_
  refine P_wp_step (S' := (685, [.ref 0, .ref 2, .ref 47, .ref 63, .ref 64, .int 0, .int 1, P_un, P_un], [.ref 47], (P_hv134 xs 5))) P_i0_684 (fun _ => rfl) ?_
  refine P_wp_step (S' := (686, [.ref 0, .ref 2, .ref 47, .ref 63, .ref 64, .int 0, .int 1, P_un, P_un], [.ref 0, .ref 47], (P_hv134 xs 5))) P_i0_685 (fun _ => rfl) ?_
  refine P_wp_step (S' := (688, [.ref 0, .ref 2, .ref 47, .ref 63, .ref 64, .int 0, .int 1, P_un, P_un], [.int 0, .ref 0, .ref 47], (P_hv134 xs 5))) P_i0_686 (fun _ => rfl) ?_
  refine P_wp_step (S' := (689, [.ref 0, .ref 2, .ref 47, .ref 63, .ref 64, .int 0, .int 1, P_un, P_un], [.int 1, .int 0, .ref 0, .ref 47], (P_hv134 xs 5))) P_i0_688 (fun _ => rfl) ?_
  refine P_wp_step (S' := (690, [.ref 0, .ref 2, .ref 47, .ref 63, .ref 64, .int 0, .int 1, P_un, P_un], [.int 1, .ref 0, .ref 47], (P_hv134 xs 5))) P_i0_689 (fun _ => rfl) ?_
  refine P_wp_step (S' := (691, [.ref 0, .ref 2, .ref 47, .ref 63, .ref 64, .int 0, .int 1, P_un, P_un], [.int (xs 1), .ref 47], (P_hv134 xs 5))) P_i0_690 (fun _ => rfl) ?_
  refine P_wp_call P_i0_691 rfl rfl rfl rfl rfl rfl rfl (y2 := 227) (as := [.ref 47, .int (xs 1)]) (r0 := []) rfl (Nat.le_of_ble_eq_true rfl) (by decide) rfl (Nat.le_of_ble_eq_true rfl) (P_x207 xs 5 (?_))
  show P_wp P_Y0 200 0 (694, [.ref 0, .ref 2, .ref 47, .ref 63, .ref 64, .int 0, .int 1, P_un, P_un], [.int 0], (P_hv135 xs 5)) _
  refine P_wp_step (S' := (696, [.ref 0, .ref 2, .ref 47, .ref 63, .ref 64, .int 0, .int 1, .int 0, P_un], [], (P_hv135 xs 5))) P_i0_694 (fun _ => rfl) ?_
  refine P_wp_step (S' := (697, [.ref 0, .ref 2, .ref 47, .ref 63, .ref 64, .int 0, .int 1, .int 0, P_un], [.ref 47], (P_hv135 xs 5))) P_i0_696 (fun _ => rfl) ?_
  refine P_wp_call P_i0_697 rfl rfl rfl rfl rfl rfl rfl (y2 := 183) (as := [.ref 47]) (r0 := []) rfl (Nat.le_of_ble_eq_true rfl) (by decide) rfl (Nat.le_of_ble_eq_true rfl) (P_x32 xs 5 (?_))
  show P_wp P_Y0 200 0 (700, [.ref 0, .ref 2, .ref 47, .ref 63, .ref 64, .int 0, .int 1, .int 0, P_un], [.int 1], (P_hv135 xs 5)) _
  refine P_wp_step (S' := (702, [.ref 0, .ref 2, .ref 47, .ref 63, .ref 64, .int 0, .int 1, .int 0, P_un], [.int 1, .int 1], (P_hv135 xs 5))) P_i0_700 (fun _ => rfl) ?_
  refine P_wp_ict P_i0_702 P_b20 (show P_wp P_Y0 200 0 (707, [.ref 0, .ref 2, .ref 47, .ref 63, .ref 64, .int 0, .int 1, .int 0, P_un], [], (P_hv135 xs 5)) _ from ?_)
  refine P_wp_step (S' := (709, [.ref 0, .ref 2, .ref 47, .ref 63, .ref 64, .int 0, .int 1, .int 0, P_un], [.int 1], (P_hv135 xs 5))) P_i0_707 (fun _ => rfl) ?_
  refine P_wp_izt P_i0_709 P_b21 (show P_wp P_Y0 200 0 (724, [.ref 0, .ref 2, .ref 47, .ref 63, .ref 64, .int 0, .int 1, .int 0, P_un], [], (P_hv135 xs 5)) _ from ?_)
  refine P_wp_step (S' := (1553, [.ref 0, .ref 2, .ref 47, .ref 63, .ref 64, .int 0, .int 1, .int 0, P_un], [], (P_hv135 xs 5))) P_i0_724 (fun _ => rfl) ?_
  refine P_wp_step (S' := (1556, [.ref 0, .ref 2, .ref 47, .ref 63, .ref 64, .int 5, .int 1, .int 0, P_un], [], (P_hv135 xs 5))) P_i0_1553 (fun _ => rfl) ?_
  refine P_wp_step (S' := (28, [.ref 0, .ref 2, .ref 47, .ref 63, .ref 64, .int 5, P_un, P_un, P_un], [], (P_hv135 xs 5))) P_i0_1556 (fun _ => rfl) ?_
  refine P_wp_step (S' := (30, [.ref 0, .ref 2, .ref 47, .ref 63, .ref 64, .int 5, P_un, P_un, P_un], [.int 5], (P_hv135 xs 5))) P_i0_28 (fun _ => rfl) ?_
  refine P_wp_step (S' := (31, [.ref 0, .ref 2, .ref 47, .ref 63, .ref 64, .int 5, P_un, P_un, P_un], [.ref 0, .int 5], (P_hv135 xs 5))) P_i0_30 (fun _ => rfl) ?_
  refine P_wp_step (S' := (32, [.ref 0, .ref 2, .ref 47, .ref 63, .ref 64, .int 5, P_un, P_un, P_un], [.int 5, .int 5], (P_hv135 xs 5))) P_i0_31 (fun _ => rfl) ?_
  refine P_wp_step (S' := (33, [.ref 0, .ref 2, .ref 47, .ref 63, .ref 64, .int 5, P_un, P_un, P_un], [.int 5, .int 5, .int 5], (P_hv135 xs 5))) P_i0_32 (fun _ => rfl) ?_
  refine P_wp_step (S' := (34, [.ref 0, .ref 2, .ref 47, .ref 63, .ref 64, .int 5, P_un, P_un, P_un], [.int 0, .int 5], (P_hv135 xs 5))) P_i0_33 (fun _ => rfl) ?_
  refine P_wp_ict P_i0_34 P_b22 (show P_wp P_Y0 200 0 (1559, [.ref 0, .ref 2, .ref 47, .ref 63, .ref 64, .int 5, P_un, P_un, P_un], [], (P_hv135 xs 5)) _ from ?_)
  refine P_wp_step (S' := (1560, [.ref 0, .ref 2, .ref 47, .ref 63, .ref 64, .int 5, P_un, P_un, P_un], [.int 1], (P_hv135 xs 5))) P_i0_1559 (fun _ => rfl) ?_
  refine P_wp_end (x := (.inl (some (.int 1)), (P_hv135 xs 5))) P_i0_1560 (fun _ => rfl) ?_
  exact ⟨rfl, Nat.le_of_ble_eq_true rfl, Nat.le_of_ble_eq_true rfl⟩

set_option maxRecDepth 20000 in
theorem P_pa28 (xs : Nat → Int32) (hsw : xs 0 &&& 31 = 11) : P_wp P_Y0 200 0 (28, [.ref 0, .ref 2, .ref 47, .ref 63, .ref 64, .int 0, P_un, P_un, P_un], [], (P_hv132 xs 5)) (fun r h => r = .inl (some (.int 1)) ∧ h.2.1 ≤ 600002 ∧ h.2.2 ≤ 7302232) := by
  refine P_wp_step (S' := (30, [.ref 0, .ref 2, .ref 47, .ref 63, .ref 64, .int 0, P_un, P_un, P_un], [.int 0], (P_hv132 xs 5))) P_i0_28 (fun _ => rfl) ?_
  refine P_wp_step (S' := (31, [.ref 0, .ref 2, .ref 47, .ref 63, .ref 64, .int 0, P_un, P_un, P_un], [.ref 0, .int 0], (P_hv132 xs 5))) P_i0_30 (fun _ => rfl) ?_
  refine P_wp_step (S' := (32, [.ref 0, .ref 2, .ref 47, .ref 63, .ref 64, .int 0, P_un, P_un, P_un], [.int 5, .int 0], (P_hv132 xs 5))) P_i0_31 (fun _ => rfl) ?_
  refine P_wp_step (S' := (33, [.ref 0, .ref 2, .ref 47, .ref 63, .ref 64, .int 0, P_un, P_un, P_un], [.int 5, .int 5, .int 0], (P_hv132 xs 5))) P_i0_32 (fun _ => rfl) ?_
  refine P_wp_step (S' := (34, [.ref 0, .ref 2, .ref 47, .ref 63, .ref 64, .int 0, P_un, P_un, P_un], [.int 0, .int 0], (P_hv132 xs 5))) P_i0_33 (fun _ => rfl) ?_
  refine P_wp_icf P_i0_34 P_b18 (show P_wp P_Y0 200 0 (37, [.ref 0, .ref 2, .ref 47, .ref 63, .ref 64, .int 0, P_un, P_un, P_un], [], (P_hv132 xs 5)) _ from ?_)
  refine P_wp_step (S' := (38, [.ref 0, .ref 2, .ref 47, .ref 63, .ref 64, .int 0, P_un, P_un, P_un], [.ref 0], (P_hv132 xs 5))) P_i0_37 (fun _ => rfl) ?_
  refine P_wp_step (S' := (40, [.ref 0, .ref 2, .ref 47, .ref 63, .ref 64, .int 0, P_un, P_un, P_un], [.int 0, .ref 0], (P_hv132 xs 5))) P_i0_38 (fun _ => rfl) ?_
  refine P_wp_step (S' := (41, [.ref 0, .ref 2, .ref 47, .ref 63, .ref 64, .int 0, P_un, P_un, P_un], [.int (xs 0)], (P_hv132 xs 5))) P_i0_40 (fun _ => rfl) ?_
  refine P_wp_step (S' := (43, [.ref 0, .ref 2, .ref 47, .ref 63, .ref 64, .int 0, P_un, P_un, P_un], [.int 31, .int (xs 0)], (P_hv132 xs 5))) P_i0_41 (fun _ => rfl) ?_
  refine P_wp_step (S' := (44, [.ref 0, .ref 2, .ref 47, .ref 63, .ref 64, .int 0, P_un, P_un, P_un], [.int (xs 0 &&& 31)], (P_hv132 xs 5))) P_i0_43 (fun _ => rfl) ?_
  refine P_sw_at hsw (show P_wp P_Y0 200 0 (44, [.ref 0, .ref 2, .ref 47, .ref 63, .ref 64, .int 0, P_un, P_un, P_un], [.int 11], (P_hv132 xs 5)) _ from ?_)
  refine P_wp_step (S' := (727, [.ref 0, .ref 2, .ref 47, .ref 63, .ref 64, .int 0, P_un, P_un, P_un], [], (P_hv132 xs 5))) P_i0_44 (fun _ => P_do_sw (by decide +kernel)) ?_
  refine P_wp_step (S' := (728, [.ref 0, .ref 2, .ref 47, .ref 63, .ref 64, .int 0, P_un, P_un, P_un], [.ref 2], (P_hv132 xs 5))) P_i0_727 (fun _ => rfl) ?_
  refine P_wp_step (S' := (729, [.ref 0, .ref 2, .ref 47, .ref 63, .ref 64, .int 0, P_un, P_un, P_un], [.ref 0, .ref 2], (P_hv132 xs 5))) P_i0_728 (fun _ => rfl) ?_
  refine P_wp_step (S' := (731, [.ref 0, .ref 2, .ref 47, .ref 63, .ref 64, .int 0, P_un, P_un, P_un], [.int 0, .ref 0, .ref 2], (P_hv132 xs 5))) P_i0_729 (fun _ => rfl) ?_
  refine P_wp_step (S' := (732, [.ref 0, .ref 2, .ref 47, .ref 63, .ref 64, .int 0, P_un, P_un, P_un], [.int 1, .int 0, .ref 0, .ref 2], (P_hv132 xs 5))) P_i0_731 (fun _ => rfl) ?_
  refine P_wp_step (S' := (733, [.ref 0, .ref 2, .ref 47, .ref 63, .ref 64, .int 0, P_un, P_un, P_un], [.int 1, .ref 0, .ref 2], (P_hv132 xs 5))) P_i0_732 (fun _ => rfl) ?_
  refine P_wp_step (S' := (734, [.ref 0, .ref 2, .ref 47, .ref 63, .ref 64, .int 0, P_un, P_un, P_un], [.int (xs 1), .ref 2], (P_hv132 xs 5))) P_i0_733 (fun _ => rfl) ?_
  refine P_wp_step (S' := (735, [.ref 0, .ref 2, .ref 47, .ref 63, .ref 64, .int 0, P_un, P_un, P_un], [.ref 0, .int (xs 1), .ref 2], (P_hv132 xs 5))) P_i0_734 (fun _ => rfl) ?_
  refine P_wp_step (S' := (737, [.ref 0, .ref 2, .ref 47, .ref 63, .ref 64, .int 0, P_un, P_un, P_un], [.int 0, .ref 0, .int (xs 1), .ref 2], (P_hv132 xs 5))) P_i0_735 (fun _ => rfl) ?_
  refine P_wp_step (S' := (738, [.ref 0, .ref 2, .ref 47, .ref 63, .ref 64, .int 0, P_un, P_un, P_un], [.int 2, .int 0, .ref 0, .int (xs 1), .ref 2], (P_hv132 xs 5))) P_i0_737 (fun _ => rfl) ?_
  refine P_wp_step (S' := (739, [.ref 0, .ref 2, .ref 47, .ref 63, .ref 64, .int 0, P_un, P_un, P_un], [.int 2, .ref 0, .int (xs 1), .ref 2], (P_hv132 xs 5))) P_i0_738 (fun _ => rfl) ?_
  refine P_wp_step (S' := (740, [.ref 0, .ref 2, .ref 47, .ref 63, .ref 64, .int 0, P_un, P_un, P_un], [.int (xs 2), .int (xs 1), .ref 2], (P_hv132 xs 5))) P_i0_739 (fun _ => rfl) ?_
  refine P_wp_step (S' := (741, [.ref 0, .ref 2, .ref 47, .ref 63, .ref 64, .int 0, P_un, P_un, P_un], [.ref 63, .int (xs 2), .int (xs 1), .ref 2], (P_hv132 xs 5))) P_i0_740 (fun _ => rfl) ?_
  refine P_wp_call P_i0_741 rfl rfl rfl rfl rfl rfl rfl (y2 := 278) (as := [.ref 2, .int (xs 1), .int (xs 2), .ref 63]) (r0 := []) rfl (Nat.le_of_ble_eq_true rfl) (by decide) rfl (Nat.le_of_ble_eq_true rfl) (P_x209 xs 5 (?_))
  show P_wp P_Y0 200 0 (744, [.ref 0, .ref 2, .ref 47, .ref 63, .ref 64, .int 0, P_un, P_un, P_un], [.int 1], (P_hv134 xs 5)) _
  refine P_wp_step (S' := (746, [.ref 0, .ref 2, .ref 47, .ref 63, .ref 64, .int 0, .int 1, P_un, P_un], [], (P_hv134 xs 5))) P_i0_744 (fun _ => rfl) ?_
  refine P_wp_step (S' := (747, [.ref 0, .ref 2, .ref 47, .ref 63, .ref 64, .int 0, .int 1, P_un, P_un], [.ref 47], (P_hv134 xs 5))) P_i0_746 (fun _ => rfl) ?_
  refine P_wp_step (S' := (748, [.ref 0, .ref 2, .ref 47, .ref 63, .ref 64, .int 0, .int 1, P_un, P_un], [.ref 0, .ref 47], (P_hv134 xs 5))) P_i0_747 (fun _ => rfl) ?_
  refine P_wp_step (S' := (750, [.ref 0, .ref 2, .ref 47, .ref 63, .ref 64, .int 0, .int 1, P_un, P_un], [.int 0, .ref 0, .ref 47], (P_hv134 xs 5))) P_i0_748 (fun _ => rfl) ?_
  refine P_wp_step (S' := (751, [.ref 0, .ref 2, .ref 47, .ref 63, .ref 64, .int 0, .int 1, P_un, P_un], [.int 1, .int 0, .ref 0, .ref 47], (P_hv134 xs 5))) P_i0_750 (fun _ => rfl) ?_
  refine P_wp_step (S' := (752, [.ref 0, .ref 2, .ref 47, .ref 63, .ref 64, .int 0, .int 1, P_un, P_un], [.int 1, .ref 0, .ref 47], (P_hv134 xs 5))) P_i0_751 (fun _ => rfl) ?_
  refine P_wp_step (S' := (753, [.ref 0, .ref 2, .ref 47, .ref 63, .ref 64, .int 0, .int 1, P_un, P_un], [.int (xs 1), .ref 47], (P_hv134 xs 5))) P_i0_752 (fun _ => rfl) ?_
  refine P_wp_step (S' := (754, [.ref 0, .ref 2, .ref 47, .ref 63, .ref 64, .int 0, .int 1, P_un, P_un], [.ref 0, .int (xs 1), .ref 47], (P_hv134 xs 5))) P_i0_753 (fun _ => rfl) ?_
  refine P_wp_step (S' := (756, [.ref 0, .ref 2, .ref 47, .ref 63, .ref 64, .int 0, .int 1, P_un, P_un], [.int 0, .ref 0, .int (xs 1), .ref 47], (P_hv134 xs 5))) P_i0_754 (fun _ => rfl) ?_
  refine P_wp_step (S' := (757, [.ref 0, .ref 2, .ref 47, .ref 63, .ref 64, .int 0, .int 1, P_un, P_un], [.int 2, .int 0, .ref 0, .int (xs 1), .ref 47], (P_hv134 xs 5))) P_i0_756 (fun _ => rfl) ?_
  refine P_wp_step (S' := (758, [.ref 0, .ref 2, .ref 47, .ref 63, .ref 64, .int 0, .int 1, P_un, P_un], [.int 2, .ref 0, .int (xs 1), .ref 47], (P_hv134 xs 5))) P_i0_757 (fun _ => rfl) ?_
  refine P_wp_step (S' := (759, [.ref 0, .ref 2, .ref 47, .ref 63, .ref 64, .int 0, .int 1, P_un, P_un], [.int (xs 2), .int (xs 1), .ref 47], (P_hv134 xs 5))) P_i0_758 (fun _ => rfl) ?_
  refine P_wp_call P_i0_759 rfl rfl rfl rfl rfl rfl rfl (y2 := 228) (as := [.ref 47, .int (xs 1), .int (xs 2)]) (r0 := []) rfl (Nat.le_of_ble_eq_true rfl) (by decide) rfl (Nat.le_of_ble_eq_true rfl) (P_x210 xs 5 (?_))
  show P_wp P_Y0 200 0 (762, [.ref 0, .ref 2, .ref 47, .ref 63, .ref 64, .int 0, .int 1, P_un, P_un], [.int 0], (P_hv135 xs 5)) _
  refine P_wp_step (S' := (764, [.ref 0, .ref 2, .ref 47, .ref 63, .ref 64, .int 0, .int 1, .int 0, P_un], [], (P_hv135 xs 5))) P_i0_762 (fun _ => rfl) ?_
  refine P_wp_step (S' := (765, [.ref 0, .ref 2, .ref 47, .ref 63, .ref 64, .int 0, .int 1, .int 0, P_un], [.ref 47], (P_hv135 xs 5))) P_i0_764 (fun _ => rfl) ?_
  refine P_wp_call P_i0_765 rfl rfl rfl rfl rfl rfl rfl (y2 := 183) (as := [.ref 47]) (r0 := []) rfl (Nat.le_of_ble_eq_true rfl) (by decide) rfl (Nat.le_of_ble_eq_true rfl) (P_x32 xs 5 (?_))
  show P_wp P_Y0 200 0 (768, [.ref 0, .ref 2, .ref 47, .ref 63, .ref 64, .int 0, .int 1, .int 0, P_un], [.int 1], (P_hv135 xs 5)) _
  refine P_wp_step (S' := (770, [.ref 0, .ref 2, .ref 47, .ref 63, .ref 64, .int 0, .int 1, .int 0, P_un], [.int 1, .int 1], (P_hv135 xs 5))) P_i0_768 (fun _ => rfl) ?_
  refine P_wp_ict P_i0_770 P_b20 (show P_wp P_Y0 200 0 (775, [.ref 0, .ref 2, .ref 47, .ref 63, .ref 64, .int 0, .int 1, .int 0, P_un], [], (P_hv135 xs 5)) _ from ?_)
  refine P_wp_step (S' := (777, [.ref 0, .ref 2, .ref 47, .ref 63, .ref 64, .int 0, .int 1, .int 0, P_un], [.int 1], (P_hv135 xs 5))) P_i0_775 (fun _ => rfl) ?_
  refine P_wp_izt P_i0_777 P_b21 (show P_wp P_Y0 200 0 (792, [.ref 0, .ref 2, .ref 47, .ref 63, .ref 64, .int 0, .int 1, .int 0, P_un], [], (P_hv135 xs 5)) _ from ?_)
  refine P_wp_step (S' := (1553, [.ref 0, .ref 2, .ref 47, .ref 63, .ref 64, .int 0, .int 1, .int 0, P_un], [], (P_hv135 xs 5))) P_i0_792 (fun _ => rfl) ?_
  refine P_wp_step (S' := (1556, [.ref 0, .ref 2, .ref 47, .ref 63, .ref 64, .int 5, .int 1, .int 0, P_un], [], (P_hv135 xs 5))) P_i0_1553 (fun _ => rfl) ?_
  refine P_wp_step (S' := (28, [.ref 0, .ref 2, .ref 47, .ref 63, .ref 64, .int 5, P_un, P_un, P_un], [], (P_hv135 xs 5))) P_i0_1556 (fun _ => rfl) ?_
  refine P_wp_step (S' := (30, [.ref 0, .ref 2, .ref 47, .ref 63, .ref 64, .int 5, P_un, P_un, P_un], [.int 5], (P_hv135 xs 5))) P_i0_28 (fun _ => rfl) ?_
  refine P_wp_step (S' := (31, [.ref 0, .ref 2, .ref 47, .ref 63, .ref 64, .int 5, P_un, P_un, P_un], [.ref 0, .int 5], (P_hv135 xs 5))) P_i0_30 (fun _ => rfl) ?_
  refine P_wp_step (S' := (32, [.ref 0, .ref 2, .ref 47, .ref 63, .ref 64, .int 5, P_un, P_un, P_un], [.int 5, .int 5], (P_hv135 xs 5))) P_i0_31 (fun _ => rfl) ?_
  refine P_wp_step (S' := (33, [.ref 0, .ref 2, .ref 47, .ref 63, .ref 64, .int 5, P_un, P_un, P_un], [.int 5, .int 5, .int 5], (P_hv135 xs 5))) P_i0_32 (fun _ => rfl) ?_
  refine P_wp_step (S' := (34, [.ref 0, .ref 2, .ref 47, .ref 63, .ref 64, .int 5, P_un, P_un, P_un], [.int 0, .int 5], (P_hv135 xs 5))) P_i0_33 (fun _ => rfl) ?_
  refine P_wp_ict P_i0_34 P_b22 (show P_wp P_Y0 200 0 (1559, [.ref 0, .ref 2, .ref 47, .ref 63, .ref 64, .int 5, P_un, P_un, P_un], [], (P_hv135 xs 5)) _ from ?_)
  refine P_wp_step (S' := (1560, [.ref 0, .ref 2, .ref 47, .ref 63, .ref 64, .int 5, P_un, P_un, P_un], [.int 1], (P_hv135 xs 5))) P_i0_1559 (fun _ => rfl) ?_
  refine P_wp_end (x := (.inl (some (.int 1)), (P_hv135 xs 5))) P_i0_1560 (fun _ => rfl) ?_
  exact ⟨rfl, Nat.le_of_ble_eq_true rfl, Nat.le_of_ble_eq_true rfl⟩

set_option maxRecDepth 20000 in
theorem P_pa29 (xs : Nat → Int32) (hsw : xs 0 &&& 31 = 12) : P_wp P_Y0 200 0 (28, [.ref 0, .ref 2, .ref 47, .ref 63, .ref 64, .int 0, P_un, P_un, P_un], [], (P_hv132 xs 5)) (fun r h => r = .inl (some (.int 1)) ∧ h.2.1 ≤ 600002 ∧ h.2.2 ≤ 7302232) := by
  refine P_wp_step (S' := (30, [.ref 0, .ref 2, .ref 47, .ref 63, .ref 64, .int 0, P_un, P_un, P_un], [.int 0], (P_hv132 xs 5))) P_i0_28 (fun _ => rfl) ?_
  refine P_wp_step (S' := (31, [.ref 0, .ref 2, .ref 47, .ref 63, .ref 64, .int 0, P_un, P_un, P_un], [.ref 0, .int 0], (P_hv132 xs 5))) P_i0_30 (fun _ => rfl) ?_
  refine P_wp_step (S' := (32, [.ref 0, .ref 2, .ref 47, .ref 63, .ref 64, .int 0, P_un, P_un, P_un], [.int 5, .int 0], (P_hv132 xs 5))) P_i0_31 (fun _ => rfl) ?_
  refine P_wp_step (S' := (33, [.ref 0, .ref 2, .ref 47, .ref 63, .ref 64, .int 0, P_un, P_un, P_un], [.int 5, .int 5, .int 0], (P_hv132 xs 5))) P_i0_32 (fun _ => rfl) ?_
  refine P_wp_step (S' := (34, [.ref 0, .ref 2, .ref 47, .ref 63, .ref 64, .int 0, P_un, P_un, P_un], [.int 0, .int 0], (P_hv132 xs 5))) P_i0_33 (fun _ => rfl) ?_
  refine P_wp_icf P_i0_34 P_b18 (show P_wp P_Y0 200 0 (37, [.ref 0, .ref 2, .ref 47, .ref 63, .ref 64, .int 0, P_un, P_un, P_un], [], (P_hv132 xs 5)) _ from ?_)
  refine P_wp_step (S' := (38, [.ref 0, .ref 2, .ref 47, .ref 63, .ref 64, .int 0, P_un, P_un, P_un], [.ref 0], (P_hv132 xs 5))) P_i0_37 (fun _ => rfl) ?_
  refine P_wp_step (S' := (40, [.ref 0, .ref 2, .ref 47, .ref 63, .ref 64, .int 0, P_un, P_un, P_un], [.int 0, .ref 0], (P_hv132 xs 5))) P_i0_38 (fun _ => rfl) ?_
  refine P_wp_step (S' := (41, [.ref 0, .ref 2, .ref 47, .ref 63, .ref 64, .int 0, P_un, P_un, P_un], [.int (xs 0)], (P_hv132 xs 5))) P_i0_40 (fun _ => rfl) ?_
  refine P_wp_step (S' := (43, [.ref 0, .ref 2, .ref 47, .ref 63, .ref 64, .int 0, P_un, P_un, P_un], [.int 31, .int (xs 0)], (P_hv132 xs 5))) P_i0_41 (fun _ => rfl) ?_
  refine P_wp_step (S' := (44, [.ref 0, .ref 2, .ref 47, .ref 63, .ref 64, .int 0, P_un, P_un, P_un], [.int (xs 0 &&& 31)], (P_hv132 xs 5))) P_i0_43 (fun _ => rfl) ?_
  refine P_sw_at hsw (show P_wp P_Y0 200 0 (44, [.ref 0, .ref 2, .ref 47, .ref 63, .ref 64, .int 0, P_un, P_un, P_un], [.int 12], (P_hv132 xs 5)) _ from ?_)
  refine P_wp_step (S' := (795, [.ref 0, .ref 2, .ref 47, .ref 63, .ref 64, .int 0, P_un, P_un, P_un], [], (P_hv132 xs 5))) P_i0_44 (fun _ => P_do_sw (by decide +kernel)) ?_
  refine P_wp_step (S' := (796, [.ref 0, .ref 2, .ref 47, .ref 63, .ref 64, .int 0, P_un, P_un, P_un], [.ref 2], (P_hv132 xs 5))) P_i0_795 (fun _ => rfl) ?_
  refine P_wp_step (S' := (797, [.ref 0, .ref 2, .ref 47, .ref 63, .ref 64, .int 0, P_un, P_un, P_un], [.ref 63, .ref 2], (P_hv132 xs 5))) P_i0_796 (fun _ => rfl) ?_
  refine P_wp_call P_i0_797 rfl rfl rfl rfl rfl rfl rfl (y2 := 279) (as := [.ref 2, .ref 63]) (r0 := []) rfl (Nat.le_of_ble_eq_true rfl) (by decide) rfl (Nat.le_of_ble_eq_true rfl) (P_x212 xs 5 (?_))
  show P_wp P_Y0 200 0 (800, [.ref 0, .ref 2, .ref 47, .ref 63, .ref 64, .int 0, P_un, P_un, P_un], [.int 1], (P_hv134 xs 5)) _
  refine P_wp_step (S' := (802, [.ref 0, .ref 2, .ref 47, .ref 63, .ref 64, .int 0, .int 1, P_un, P_un], [], (P_hv134 xs 5))) P_i0_800 (fun _ => rfl) ?_
  refine P_wp_step (S' := (803, [.ref 0, .ref 2, .ref 47, .ref 63, .ref 64, .int 0, .int 1, P_un, P_un], [.ref 47], (P_hv134 xs 5))) P_i0_802 (fun _ => rfl) ?_
  refine P_wp_call P_i0_803 rfl rfl rfl rfl rfl rfl rfl (y2 := 232) (as := [.ref 47]) (r0 := []) rfl (Nat.le_of_ble_eq_true rfl) (by decide) rfl (Nat.le_of_ble_eq_true rfl) (P_x213 xs 5 (?_))
  show P_wp P_Y0 200 0 (806, [.ref 0, .ref 2, .ref 47, .ref 63, .ref 64, .int 0, .int 1, P_un, P_un], [.long 0], (P_hv135 xs 5)) _
  refine P_wp_step (S' := (808, [.ref 0, .ref 2, .ref 47, .ref 63, .ref 64, .int 0, .int 1, .long 0, P_un], [], (P_hv135 xs 5))) P_i0_806 (fun _ => rfl) ?_
  refine P_wp_step (S' := (809, [.ref 0, .ref 2, .ref 47, .ref 63, .ref 64, .int 0, .int 1, .long 0, P_un], [.ref 47], (P_hv135 xs 5))) P_i0_808 (fun _ => rfl) ?_
  refine P_wp_call P_i0_809 rfl rfl rfl rfl rfl rfl rfl (y2 := 183) (as := [.ref 47]) (r0 := []) rfl (Nat.le_of_ble_eq_true rfl) (by decide) rfl (Nat.le_of_ble_eq_true rfl) (P_x32 xs 5 (?_))
  show P_wp P_Y0 200 0 (812, [.ref 0, .ref 2, .ref 47, .ref 63, .ref 64, .int 0, .int 1, .long 0, P_un], [.int 1], (P_hv135 xs 5)) _
  refine P_wp_step (S' := (814, [.ref 0, .ref 2, .ref 47, .ref 63, .ref 64, .int 0, .int 1, .long 0, P_un], [.int 1, .int 1], (P_hv135 xs 5))) P_i0_812 (fun _ => rfl) ?_
  refine P_wp_ict P_i0_814 P_b20 (show P_wp P_Y0 200 0 (819, [.ref 0, .ref 2, .ref 47, .ref 63, .ref 64, .int 0, .int 1, .long 0, P_un], [], (P_hv135 xs 5)) _ from ?_)
  refine P_wp_step (S' := (821, [.ref 0, .ref 2, .ref 47, .ref 63, .ref 64, .int 0, .int 1, .long 0, P_un], [.int 1], (P_hv135 xs 5))) P_i0_819 (fun _ => rfl) ?_
  refine P_wp_izt P_i0_821 P_b21 (show P_wp P_Y0 200 0 (835, [.ref 0, .ref 2, .ref 47, .ref 63, .ref 64, .int 0, .int 1, .long 0, P_un], [], (P_hv135 xs 5)) _ from ?_)
  refine P_wp_step (S' := (1553, [.ref 0, .ref 2, .ref 47, .ref 63, .ref 64, .int 0, .int 1, .long 0, P_un], [], (P_hv135 xs 5))) P_i0_835 (fun _ => rfl) ?_
  refine P_wp_step (S' := (1556, [.ref 0, .ref 2, .ref 47, .ref 63, .ref 64, .int 5, .int 1, .long 0, P_un], [], (P_hv135 xs 5))) P_i0_1553 (fun _ => rfl) ?_
  refine P_wp_step (S' := (28, [.ref 0, .ref 2, .ref 47, .ref 63, .ref 64, .int 5, P_un, P_un, P_un], [], (P_hv135 xs 5))) P_i0_1556 (fun _ => rfl) ?_
  refine P_wp_step (S' := (30, [.ref 0, .ref 2, .ref 47, .ref 63, .ref 64, .int 5, P_un, P_un, P_un], [.int 5], (P_hv135 xs 5))) P_i0_28 (fun _ => rfl) ?_
  refine P_wp_step (S' := (31, [.ref 0, .ref 2, .ref 47, .ref 63, .ref 64, .int 5, P_un, P_un, P_un], [.ref 0, .int 5], (P_hv135 xs 5))) P_i0_30 (fun _ => rfl) ?_
  refine P_wp_step (S' := (32, [.ref 0, .ref 2, .ref 47, .ref 63, .ref 64, .int 5, P_un, P_un, P_un], [.int 5, .int 5], (P_hv135 xs 5))) P_i0_31 (fun _ => rfl) ?_
  refine P_wp_step (S' := (33, [.ref 0, .ref 2, .ref 47, .ref 63, .ref 64, .int 5, P_un, P_un, P_un], [.int 5, .int 5, .int 5], (P_hv135 xs 5))) P_i0_32 (fun _ => rfl) ?_
  refine P_wp_step (S' := (34, [.ref 0, .ref 2, .ref 47, .ref 63, .ref 64, .int 5, P_un, P_un, P_un], [.int 0, .int 5], (P_hv135 xs 5))) P_i0_33 (fun _ => rfl) ?_
  refine P_wp_ict P_i0_34 P_b22 (show P_wp P_Y0 200 0 (1559, [.ref 0, .ref 2, .ref 47, .ref 63, .ref 64, .int 5, P_un, P_un, P_un], [], (P_hv135 xs 5)) _ from ?_)
  refine P_wp_step (S' := (1560, [.ref 0, .ref 2, .ref 47, .ref 63, .ref 64, .int 5, P_un, P_un, P_un], [.int 1], (P_hv135 xs 5))) P_i0_1559 (fun _ => rfl) ?_
  refine P_wp_end (x := (.inl (some (.int 1)), (P_hv135 xs 5))) P_i0_1560 (fun _ => rfl) ?_
  exact ⟨rfl, Nat.le_of_ble_eq_true rfl, Nat.le_of_ble_eq_true rfl⟩

set_option maxRecDepth 20000 in
theorem P_pa30 (xs : Nat → Int32) (hsw : xs 0 &&& 31 = 13) : P_wp P_Y0 200 0 (28, [.ref 0, .ref 2, .ref 47, .ref 63, .ref 64, .int 0, P_un, P_un, P_un], [], (P_hv132 xs 5)) (fun r h => r = .inl (some (.int 1)) ∧ h.2.1 ≤ 600002 ∧ h.2.2 ≤ 7302232) := by
  refine P_wp_step (S' := (30, [.ref 0, .ref 2, .ref 47, .ref 63, .ref 64, .int 0, P_un, P_un, P_un], [.int 0], (P_hv132 xs 5))) P_i0_28 (fun _ => rfl) ?_
  refine P_wp_step (S' := (31, [.ref 0, .ref 2, .ref 47, .ref 63, .ref 64, .int 0, P_un, P_un, P_un], [.ref 0, .int 0], (P_hv132 xs 5))) P_i0_30 (fun _ => rfl) ?_
  refine P_wp_step (S' := (32, [.ref 0, .ref 2, .ref 47, .ref 63, .ref 64, .int 0, P_un, P_un, P_un], [.int 5, .int 0], (P_hv132 xs 5))) P_i0_31 (fun _ => rfl) ?_
  refine P_wp_step (S' := (33, [.ref 0, .ref 2, .ref 47, .ref 63, .ref 64, .int 0, P_un, P_un, P_un], [.int 5, .int 5, .int 0], (P_hv132 xs 5))) P_i0_32 (fun _ => rfl) ?_
  refine P_wp_step (S' := (34, [.ref 0, .ref 2, .ref 47, .ref 63, .ref 64, .int 0, P_un, P_un, P_un], [.int 0, .int 0], (P_hv132 xs 5))) P_i0_33 (fun _ => rfl) ?_
  refine P_wp_icf P_i0_34 P_b18 (show P_wp P_Y0 200 0 (37, [.ref 0, .ref 2, .ref 47, .ref 63, .ref 64, .int 0, P_un, P_un, P_un], [], (P_hv132 xs 5)) _ from ?_)
  refine P_wp_step (S' := (38, [.ref 0, .ref 2, .ref 47, .ref 63, .ref 64, .int 0, P_un, P_un, P_un], [.ref 0], (P_hv132 xs 5))) P_i0_37 (fun _ => rfl) ?_
  refine P_wp_step (S' := (40, [.ref 0, .ref 2, .ref 47, .ref 63, .ref 64, .int 0, P_un, P_un, P_un], [.int 0, .ref 0], (P_hv132 xs 5))) P_i0_38 (fun _ => rfl) ?_
  refine P_wp_step (S' := (41, [.ref 0, .ref 2, .ref 47, .ref 63, .ref 64, .int 0, P_un, P_un, P_un], [.int (xs 0)], (P_hv132 xs 5))) P_i0_40 (fun _ => rfl) ?_
  refine P_wp_step (S' := (43, [.ref 0, .ref 2, .ref 47, .ref 63, .ref 64, .int 0, P_un, P_un, P_un], [.int 31, .int (xs 0)], (P_hv132 xs 5))) P_i0_41 (fun _ => rfl) ?_
  refine P_wp_step (S' := (44, [.ref 0, .ref 2, .ref 47, .ref 63, .ref 64, .int 0, P_un, P_un, P_un], [.int (xs 0 &&& 31)], (P_hv132 xs 5))) P_i0_43 (fun _ => rfl) ?_
  refine P_sw_at hsw (show P_wp P_Y0 200 0 (44, [.ref 0, .ref 2, .ref 47, .ref 63, .ref 64, .int 0, P_un, P_un, P_un], [.int 13], (P_hv132 xs 5)) _ from ?_)
  refine P_wp_step (S' := (838, [.ref 0, .ref 2, .ref 47, .ref 63, .ref 64, .int 0, P_un, P_un, P_un], [], (P_hv132 xs 5))) P_i0_44 (fun _ => P_do_sw (by decide +kernel)) ?_
  refine P_wp_step (S' := (839, [.ref 0, .ref 2, .ref 47, .ref 63, .ref 64, .int 0, P_un, P_un, P_un], [.ref 2], (P_hv132 xs 5))) P_i0_838 (fun _ => rfl) ?_
  refine P_wp_step (S' := (840, [.ref 0, .ref 2, .ref 47, .ref 63, .ref 64, .int 0, P_un, P_un, P_un], [.ref 0, .ref 2], (P_hv132 xs 5))) P_i0_839 (fun _ => rfl) ?_
  refine P_wp_step (S' := (842, [.ref 0, .ref 2, .ref 47, .ref 63, .ref 64, .int 0, P_un, P_un, P_un], [.int 0, .ref 0, .ref 2], (P_hv132 xs 5))) P_i0_840 (fun _ => rfl) ?_
  refine P_wp_step (S' := (843, [.ref 0, .ref 2, .ref 47, .ref 63, .ref 64, .int 0, P_un, P_un, P_un], [.int 1, .int 0, .ref 0, .ref 2], (P_hv132 xs 5))) P_i0_842 (fun _ => rfl) ?_
  refine P_wp_step (S' := (844, [.ref 0, .ref 2, .ref 47, .ref 63, .ref 64, .int 0, P_un, P_un, P_un], [.int 1, .ref 0, .ref 2], (P_hv132 xs 5))) P_i0_843 (fun _ => rfl) ?_
  refine P_wp_step (S' := (845, [.ref 0, .ref 2, .ref 47, .ref 63, .ref 64, .int 0, P_un, P_un, P_un], [.int (xs 1), .ref 2], (P_hv132 xs 5))) P_i0_844 (fun _ => rfl) ?_
  refine P_wp_step (S' := (846, [.ref 0, .ref 2, .ref 47, .ref 63, .ref 64, .int 0, P_un, P_un, P_un], [.ref 63, .int (xs 1), .ref 2], (P_hv132 xs 5))) P_i0_845 (fun _ => rfl) ?_
  refine P_wp_call P_i0_846 rfl rfl rfl rfl rfl rfl rfl (y2 := 280) (as := [.ref 2, .int (xs 1), .ref 63]) (r0 := []) rfl (Nat.le_of_ble_eq_true rfl) (by decide) rfl (Nat.le_of_ble_eq_true rfl) (P_x215 xs 5 (?_))
  show P_wp P_Y0 200 0 (849, [.ref 0, .ref 2, .ref 47, .ref 63, .ref 64, .int 0, P_un, P_un, P_un], [.int 1], (P_hv134 xs 5)) _
  refine P_wp_step (S' := (851, [.ref 0, .ref 2, .ref 47, .ref 63, .ref 64, .int 0, .int 1, P_un, P_un], [], (P_hv134 xs 5))) P_i0_849 (fun _ => rfl) ?_
  refine P_wp_step (S' := (852, [.ref 0, .ref 2, .ref 47, .ref 63, .ref 64, .int 0, .int 1, P_un, P_un], [.ref 47], (P_hv134 xs 5))) P_i0_851 (fun _ => rfl) ?_
  refine P_wp_step (S' := (853, [.ref 0, .ref 2, .ref 47, .ref 63, .ref 64, .int 0, .int 1, P_un, P_un], [.ref 0, .ref 47], (P_hv134 xs 5))) P_i0_852 (fun _ => rfl) ?_
  refine P_wp_step (S' := (855, [.ref 0, .ref 2, .ref 47, .ref 63, .ref 64, .int 0, .int 1, P_un, P_un], [.int 0, .ref 0, .ref 47], (P_hv134 xs 5))) P_i0_853 (fun _ => rfl) ?_
  refine P_wp_step (S' := (856, [.ref 0, .ref 2, .ref 47, .ref 63, .ref 64, .int 0, .int 1, P_un, P_un], [.int 1, .int 0, .ref 0, .ref 47], (P_hv134 xs 5))) P_i0_855 (fun _ => rfl) ?_
  refine P_wp_step (S' := (857, [.ref 0, .ref 2, .ref 47, .ref 63, .ref 64, .int 0, .int 1, P_un, P_un], [.int 1, .ref 0, .ref 47], (P_hv134 xs 5))) P_i0_856 (fun _ => rfl) ?_
  refine P_wp_step (S' := (858, [.ref 0, .ref 2, .ref 47, .ref 63, .ref 64, .int 0, .int 1, P_un, P_un], [.int (xs 1), .ref 47], (P_hv134 xs 5))) P_i0_857 (fun _ => rfl) ?_
  refine P_wp_call P_i0_858 rfl rfl rfl rfl rfl rfl rfl (y2 := 233) (as := [.ref 47, .int (xs 1)]) (r0 := []) rfl (Nat.le_of_ble_eq_true rfl) (by decide) rfl (Nat.le_of_ble_eq_true rfl) (P_x216 xs 5 (?_))
  show P_wp P_Y0 200 0 (861, [.ref 0, .ref 2, .ref 47, .ref 63, .ref 64, .int 0, .int 1, P_un, P_un], [.int 0], (P_hv135 xs 5)) _
  refine P_wp_step (S' := (863, [.ref 0, .ref 2, .ref 47, .ref 63, .ref 64, .int 0, .int 1, .int 0, P_un], [], (P_hv135 xs 5))) P_i0_861 (fun _ => rfl) ?_
  refine P_wp_step (S' := (864, [.ref 0, .ref 2, .ref 47, .ref 63, .ref 64, .int 0, .int 1, .int 0, P_un], [.ref 47], (P_hv135 xs 5))) P_i0_863 (fun _ => rfl) ?_
  refine P_wp_call P_i0_864 rfl rfl rfl rfl rfl rfl rfl (y2 := 183) (as := [.ref 47]) (r0 := []) rfl (Nat.le_of_ble_eq_true rfl) (by decide) rfl (Nat.le_of_ble_eq_true rfl) (P_x32 xs 5 (?_))
  show P_wp P_Y0 200 0 (867, [.ref 0, .ref 2, .ref 47, .ref 63, .ref 64, .int 0, .int 1, .int 0, P_un], [.int 1], (P_hv135 xs 5)) _
  refine P_wp_step (S' := (869, [.ref 0, .ref 2, .ref 47, .ref 63, .ref 64, .int 0, .int 1, .int 0, P_un], [.int 1, .int 1], (P_hv135 xs 5))) P_i0_867 (fun _ => rfl) ?_
  refine P_wp_ict P_i0_869 P_b20 (show P_wp P_Y0 200 0 (874, [.ref 0, .ref 2, .ref 47, .ref 63, .ref 64, .int 0, .int 1, .int 0, P_un], [], (P_hv135 xs 5)) _ from ?_)
  refine P_wp_step (S' := (876, [.ref 0, .ref 2, .ref 47, .ref 63, .ref 64, .int 0, .int 1, .int 0, P_un], [.int 1], (P_hv135 xs 5))) P_i0_874 (fun _ => rfl) ?_
  refine P_wp_izt P_i0_876 P_b21 (show P_wp P_Y0 200 0 (891, [.ref 0, .ref 2, .ref 47, .ref 63, .ref 64, .int 0, .int 1, .int 0, P_un], [], (P_hv135 xs 5)) _ from ?_)
  refine P_wp_step (S' := (1553, [.ref 0, .ref 2, .ref 47, .ref 63, .ref 64, .int 0, .int 1, .int 0, P_un], [], (P_hv135 xs 5))) P_i0_891 (fun _ => rfl) ?_
  refine P_wp_step (S' := (1556, [.ref 0, .ref 2, .ref 47, .ref 63, .ref 64, .int 5, .int 1, .int 0, P_un], [], (P_hv135 xs 5))) P_i0_1553 (fun _ => rfl) ?_
  refine P_wp_step (S' := (28, [.ref 0, .ref 2, .ref 47, .ref 63, .ref 64, .int 5, P_un, P_un, P_un], [], (P_hv135 xs 5))) P_i0_1556 (fun _ => rfl) ?_
  refine P_wp_step (S' := (30, [.ref 0, .ref 2, .ref 47, .ref 63, .ref 64, .int 5, P_un, P_un, P_un], [.int 5], (P_hv135 xs 5))) P_i0_28 (fun _ => rfl) ?_
  refine P_wp_step (S' := (31, [.ref 0, .ref 2, .ref 47, .ref 63, .ref 64, .int 5, P_un, P_un, P_un], [.ref 0, .int 5], (P_hv135 xs 5))) P_i0_30 (fun _ => rfl) ?_
  refine P_wp_step (S' := (32, [.ref 0, .ref 2, .ref 47, .ref 63, .ref 64, .int 5, P_un, P_un, P_un], [.int 5, .int 5], (P_hv135 xs 5))) P_i0_31 (fun _ => rfl) ?_
  refine P_wp_step (S' := (33, [.ref 0, .ref 2, .ref 47, .ref 63, .ref 64, .int 5, P_un, P_un, P_un], [.int 5, .int 5, .int 5], (P_hv135 xs 5))) P_i0_32 (fun _ => rfl) ?_
  refine P_wp_step (S' := (34, [.ref 0, .ref 2, .ref 47, .ref 63, .ref 64, .int 5, P_un, P_un, P_un], [.int 0, .int 5], (P_hv135 xs 5))) P_i0_33 (fun _ => rfl) ?_
  refine P_wp_ict P_i0_34 P_b22 (show P_wp P_Y0 200 0 (1559, [.ref 0, .ref 2, .ref 47, .ref 63, .ref 64, .int 5, P_un, P_un, P_un], [], (P_hv135 xs 5)) _ from ?_)
  refine P_wp_step (S' := (1560, [.ref 0, .ref 2, .ref 47, .ref 63, .ref 64, .int 5, P_un, P_un, P_un], [.int 1], (P_hv135 xs 5))) P_i0_1559 (fun _ => rfl) ?_
  refine P_wp_end (x := (.inl (some (.int 1)), (P_hv135 xs 5))) P_i0_1560 (fun _ => rfl) ?_
  exact ⟨rfl, Nat.le_of_ble_eq_true rfl, Nat.le_of_ble_eq_true rfl⟩

set_option maxRecDepth 20000 in
theorem P_pa31 (xs : Nat → Int32) (hsw : xs 0 &&& 31 = 14) : P_wp P_Y0 200 0 (28, [.ref 0, .ref 2, .ref 47, .ref 63, .ref 64, .int 0, P_un, P_un, P_un], [], (P_hv132 xs 5)) (fun r h => r = .inl (some (.int 1)) ∧ h.2.1 ≤ 600002 ∧ h.2.2 ≤ 7302232) := by
  refine P_wp_step (S' := (30, [.ref 0, .ref 2, .ref 47, .ref 63, .ref 64, .int 0, P_un, P_un, P_un], [.int 0], (P_hv132 xs 5))) P_i0_28 (fun _ => rfl) ?_
  refine P_wp_step (S' := (31, [.ref 0, .ref 2, .ref 47, .ref 63, .ref 64, .int 0, P_un, P_un, P_un], [.ref 0, .int 0], (P_hv132 xs 5))) P_i0_30 (fun _ => rfl) ?_
  refine P_wp_step (S' := (32, [.ref 0, .ref 2, .ref 47, .ref 63, .ref 64, .int 0, P_un, P_un, P_un], [.int 5, .int 0], (P_hv132 xs 5))) P_i0_31 (fun _ => rfl) ?_
  refine P_wp_step (S' := (33, [.ref 0, .ref 2, .ref 47, .ref 63, .ref 64, .int 0, P_un, P_un, P_un], [.int 5, .int 5, .int 0], (P_hv132 xs 5))) P_i0_32 (fun _ => rfl) ?_
  refine P_wp_step (S' := (34, [.ref 0, .ref 2, .ref 47, .ref 63, .ref 64, .int 0, P_un, P_un, P_un], [.int 0, .int 0], (P_hv132 xs 5))) P_i0_33 (fun _ => rfl) ?_
  refine P_wp_icf P_i0_34 P_b18 (show P_wp P_Y0 200 0 (37, [.ref 0, .ref 2, .ref 47, .ref 63, .ref 64, .int 0, P_un, P_un, P_un], [], (P_hv132 xs 5)) _ from ?_)
  refine P_wp_step (S' := (38, [.ref 0, .ref 2, .ref 47, .ref 63, .ref 64, .int 0, P_un, P_un, P_un], [.ref 0], (P_hv132 xs 5))) P_i0_37 (fun _ => rfl) ?_
  refine P_wp_step (S' := (40, [.ref 0, .ref 2, .ref 47, .ref 63, .ref 64, .int 0, P_un, P_un, P_un], [.int 0, .ref 0], (P_hv132 xs 5))) P_i0_38 (fun _ => rfl) ?_
  refine P_wp_step (S' := (41, [.ref 0, .ref 2, .ref 47, .ref 63, .ref 64, .int 0, P_un, P_un, P_un], [.int (xs 0)], (P_hv132 xs 5))) P_i0_40 (fun _ => rfl) ?_
  refine P_wp_step (S' := (43, [.ref 0, .ref 2, .ref 47, .ref 63, .ref 64, .int 0, P_un, P_un, P_un], [.int 31, .int (xs 0)], (P_hv132 xs 5))) P_i0_41 (fun _ => rfl) ?_
  refine P_wp_step (S' := (44, [.ref 0, .ref 2, .ref 47, .ref 63, .ref 64, .int 0, P_un, P_un, P_un], [.int (xs 0 &&& 31)], (P_hv132 xs 5))) P_i0_43 (fun _ => rfl) ?_
  refine P_sw_at hsw (show P_wp P_Y0 200 0 (44, [.ref 0, .ref 2, .ref 47, .ref 63, .ref 64, .int 0, P_un, P_un, P_un], [.int 14], (P_hv132 xs 5)) _ from ?_)
  refine P_wp_step (S' := (894, [.ref 0, .ref 2, .ref 47, .ref 63, .ref 64, .int 0, P_un, P_un, P_un], [], (P_hv132 xs 5))) P_i0_44 (fun _ => P_do_sw (by decide +kernel)) ?_
  refine P_wp_step (S' := (895, [.ref 0, .ref 2, .ref 47, .ref 63, .ref 64, .int 0, P_un, P_un, P_un], [.ref 2], (P_hv132 xs 5))) P_i0_894 (fun _ => rfl) ?_
  refine P_wp_step (S' := (896, [.ref 0, .ref 2, .ref 47, .ref 63, .ref 64, .int 0, P_un, P_un, P_un], [.ref 0, .ref 2], (P_hv132 xs 5))) P_i0_895 (fun _ => rfl) ?_
  refine P_wp_step (S' := (898, [.ref 0, .ref 2, .ref 47, .ref 63, .ref 64, .int 0, P_un, P_un, P_un], [.int 0, .ref 0, .ref 2], (P_hv132 xs 5))) P_i0_896 (fun _ => rfl) ?_
  refine P_wp_step (S' := (899, [.ref 0, .ref 2, .ref 47, .ref 63, .ref 64, .int 0, P_un, P_un, P_un], [.int 1, .int 0, .ref 0, .ref 2], (P_hv132 xs 5))) P_i0_898 (fun _ => rfl) ?_
  refine P_wp_step (S' := (900, [.ref 0, .ref 2, .ref 47, .ref 63, .ref 64, .int 0, P_un, P_un, P_un], [.int 1, .ref 0, .ref 2], (P_hv132 xs 5))) P_i0_899 (fun _ => rfl) ?_
  refine P_wp_step (S' := (901, [.ref 0, .ref 2, .ref 47, .ref 63, .ref 64, .int 0, P_un, P_un, P_un], [.int (xs 1), .ref 2], (P_hv132 xs 5))) P_i0_900 (fun _ => rfl) ?_
  refine P_wp_step (S' := (902, [.ref 0, .ref 2, .ref 47, .ref 63, .ref 64, .int 0, P_un, P_un, P_un], [.ref 63, .int (xs 1), .ref 2], (P_hv132 xs 5))) P_i0_901 (fun _ => rfl) ?_
  refine P_wp_call P_i0_902 rfl rfl rfl rfl rfl rfl rfl (y2 := 281) (as := [.ref 2, .int (xs 1), .ref 63]) (r0 := []) rfl (Nat.le_of_ble_eq_true rfl) (by decide) rfl (Nat.le_of_ble_eq_true rfl) (P_x218 xs 5 (?_))
  show P_wp P_Y0 200 0 (905, [.ref 0, .ref 2, .ref 47, .ref 63, .ref 64, .int 0, P_un, P_un, P_un], [.int 1], (P_hv134 xs 5)) _
  refine P_wp_step (S' := (907, [.ref 0, .ref 2, .ref 47, .ref 63, .ref 64, .int 0, .int 1, P_un, P_un], [], (P_hv134 xs 5))) P_i0_905 (fun _ => rfl) ?_
  refine P_wp_step (S' := (908, [.ref 0, .ref 2, .ref 47, .ref 63, .ref 64, .int 0, .int 1, P_un, P_un], [.ref 47], (P_hv134 xs 5))) P_i0_907 (fun _ => rfl) ?_
  refine P_wp_step (S' := (909, [.ref 0, .ref 2, .ref 47, .ref 63, .ref 64, .int 0, .int 1, P_un, P_un], [.ref 0, .ref 47], (P_hv134 xs 5))) P_i0_908 (fun _ => rfl) ?_
  refine P_wp_step (S' := (911, [.ref 0, .ref 2, .ref 47, .ref 63, .ref 64, .int 0, .int 1, P_un, P_un], [.int 0, .ref 0, .ref 47], (P_hv134 xs 5))) P_i0_909 (fun _ => rfl) ?_
  refine P_wp_step (S' := (912, [.ref 0, .ref 2, .ref 47, .ref 63, .ref 64, .int 0, .int 1, P_un, P_un], [.int 1, .int 0, .ref 0, .ref 47], (P_hv134 xs 5))) P_i0_911 (fun _ => rfl) ?_
  refine P_wp_step (S' := (913, [.ref 0, .ref 2, .ref 47, .ref 63, .ref 64, .int 0, .int 1, P_un, P_un], [.int 1, .ref 0, .ref 47], (P_hv134 xs 5))) P_i0_912 (fun _ => rfl) ?_
  refine P_wp_step (S' := (914, [.ref 0, .ref 2, .ref 47, .ref 63, .ref 64, .int 0, .int 1, P_un, P_un], [.int (xs 1), .ref 47], (P_hv134 xs 5))) P_i0_913 (fun _ => rfl) ?_
  refine P_wp_call P_i0_914 rfl rfl rfl rfl rfl rfl rfl (y2 := 234) (as := [.ref 47, .int (xs 1)]) (r0 := []) rfl (Nat.le_of_ble_eq_true rfl) (by decide) rfl (Nat.le_of_ble_eq_true rfl) (P_x219 xs 5 (?_))
  show P_wp P_Y0 200 0 (917, [.ref 0, .ref 2, .ref 47, .ref 63, .ref 64, .int 0, .int 1, P_un, P_un], [.long 0], (P_hv135 xs 5)) _
  refine P_wp_step (S' := (919, [.ref 0, .ref 2, .ref 47, .ref 63, .ref 64, .int 0, .int 1, .long 0, P_un], [], (P_hv135 xs 5))) P_i0_917 (fun _ => rfl) ?_
  refine P_wp_step (S' := (920, [.ref 0, .ref 2, .ref 47, .ref 63, .ref 64, .int 0, .int 1, .long 0, P_un], [.ref 47], (P_hv135 xs 5))) P_i0_919 (fun _ => rfl) ?_
  refine P_wp_call P_i0_920 rfl rfl rfl rfl rfl rfl rfl (y2 := 183) (as := [.ref 47]) (r0 := []) rfl (Nat.le_of_ble_eq_true rfl) (by decide) rfl (Nat.le_of_ble_eq_true rfl) (P_x32 xs 5 (?_))
  show P_wp P_Y0 200 0 (923, [.ref 0, .ref 2, .ref 47, .ref 63, .ref 64, .int 0, .int 1, .long 0, P_un], [.int 1], (P_hv135 xs 5)) _
  refine P_wp_step (S' := (925, [.ref 0, .ref 2, .ref 47, .ref 63, .ref 64, .int 0, .int 1, .long 0, P_un], [.int 1, .int 1], (P_hv135 xs 5))) P_i0_923 (fun _ => rfl) ?_
  refine P_wp_ict P_i0_925 P_b20 (show P_wp P_Y0 200 0 (930, [.ref 0, .ref 2, .ref 47, .ref 63, .ref 64, .int 0, .int 1, .long 0, P_un], [], (P_hv135 xs 5)) _ from ?_)
  refine P_wp_step (S' := (932, [.ref 0, .ref 2, .ref 47, .ref 63, .ref 64, .int 0, .int 1, .long 0, P_un], [.int 1], (P_hv135 xs 5))) P_i0_930 (fun _ => rfl) ?_
  refine P_wp_izt P_i0_932 P_b21 (show P_wp P_Y0 200 0 (946, [.ref 0, .ref 2, .ref 47, .ref 63, .ref 64, .int 0, .int 1, .long 0, P_un], [], (P_hv135 xs 5)) _ from ?_)
  refine P_wp_step (S' := (1553, [.ref 0, .ref 2, .ref 47, .ref 63, .ref 64, .int 0, .int 1, .long 0, P_un], [], (P_hv135 xs 5))) P_i0_946 (fun _ => rfl) ?_
  refine P_wp_step (S' := (1556, [.ref 0, .ref 2, .ref 47, .ref 63, .ref 64, .int 5, .int 1, .long 0, P_un], [], (P_hv135 xs 5))) P_i0_1553 (fun _ => rfl) ?_
  refine P_wp_step (S' := (28, [.ref 0, .ref 2, .ref 47, .ref 63, .ref 64, .int 5, P_un, P_un, P_un], [], (P_hv135 xs 5))) P_i0_1556 (fun _ => rfl) ?_
  refine P_wp_step (S' := (30, [.ref 0, .ref 2, .ref 47, .ref 63, .ref 64, .int 5, P_un, P_un, P_un], [.int 5], (P_hv135 xs 5))) P_i0_28 (fun _ => rfl) ?_
  refine P_wp_step (S' := (31, [.ref 0, .ref 2, .ref 47, .ref 63, .ref 64, .int 5, P_un, P_un, P_un], [.ref 0, .int 5], (P_hv135 xs 5))) P_i0_30 (fun _ => rfl) ?_
  refine P_wp_step (S' := (32, [.ref 0, .ref 2, .ref 47, .ref 63, .ref 64, .int 5, P_un, P_un, P_un], [.int 5, .int 5], (P_hv135 xs 5))) P_i0_31 (fun _ => rfl) ?_
  refine P_wp_step (S' := (33, [.ref 0, .ref 2, .ref 47, .ref 63, .ref 64, .int 5, P_un, P_un, P_un], [.int 5, .int 5, .int 5], (P_hv135 xs 5))) P_i0_32 (fun _ => rfl) ?_
  refine P_wp_step (S' := (34, [.ref 0, .ref 2, .ref 47, .ref 63, .ref 64, .int 5, P_un, P_un, P_un], [.int 0, .int 5], (P_hv135 xs 5))) P_i0_33 (fun _ => rfl) ?_
  refine P_wp_ict P_i0_34 P_b22 (show P_wp P_Y0 200 0 (1559, [.ref 0, .ref 2, .ref 47, .ref 63, .ref 64, .int 5, P_un, P_un, P_un], [], (P_hv135 xs 5)) _ from ?_)
  refine P_wp_step (S' := (1560, [.ref 0, .ref 2, .ref 47, .ref 63, .ref 64, .int 5, P_un, P_un, P_un], [.int 1], (P_hv135 xs 5))) P_i0_1559 (fun _ => rfl) ?_
  refine P_wp_end (x := (.inl (some (.int 1)), (P_hv135 xs 5))) P_i0_1560 (fun _ => rfl) ?_
  exact ⟨rfl, Nat.le_of_ble_eq_true rfl, Nat.le_of_ble_eq_true rfl⟩

set_option maxRecDepth 20000 in
theorem P_pa32 (xs : Nat → Int32) (hsw : xs 0 &&& 31 = 15) : P_wp P_Y0 200 0 (28, [.ref 0, .ref 2, .ref 47, .ref 63, .ref 64, .int 0, P_un, P_un, P_un], [], (P_hv132 xs 5)) (fun r h => r = .inl (some (.int 1)) ∧ h.2.1 ≤ 600002 ∧ h.2.2 ≤ 7302232) := by
  refine P_wp_step (S' := (30, [.ref 0, .ref 2, .ref 47, .ref 63, .ref 64, .int 0, P_un, P_un, P_un], [.int 0], (P_hv132 xs 5))) P_i0_28 (fun _ => rfl) ?_
  refine P_wp_step (S' := (31, [.ref 0, .ref 2, .ref 47, .ref 63, .ref 64, .int 0, P_un, P_un, P_un], [.ref 0, .int 0], (P_hv132 xs 5))) P_i0_30 (fun _ => rfl) ?_
  refine P_wp_step (S' := (32, [.ref 0, .ref 2, .ref 47, .ref 63, .ref 64, .int 0, P_un, P_un, P_un], [.int 5, .int 0], (P_hv132 xs 5))) P_i0_31 (fun _ => rfl) ?_
  refine P_wp_step (S' := (33, [.ref 0, .ref 2, .ref 47, .ref 63, .ref 64, .int 0, P_un, P_un, P_un], [.int 5, .int 5, .int 0], (P_hv132 xs 5))) P_i0_32 (fun _ => rfl) ?_
  refine P_wp_step (S' := (34, [.ref 0, .ref 2, .ref 47, .ref 63, .ref 64, .int 0, P_un, P_un, P_un], [.int 0, .int 0], (P_hv132 xs 5))) P_i0_33 (fun _ => rfl) ?_
  refine P_wp_icf P_i0_34 P_b18 (show P_wp P_Y0 200 0 (37, [.ref 0, .ref 2, .ref 47, .ref 63, .ref 64, .int 0, P_un, P_un, P_un], [], (P_hv132 xs 5)) _ from ?_)
  refine P_wp_step (S' := (38, [.ref 0, .ref 2, .ref 47, .ref 63, .ref 64, .int 0, P_un, P_un, P_un], [.ref 0], (P_hv132 xs 5))) P_i0_37 (fun _ => rfl) ?_
  refine P_wp_step (S' := (40, [.ref 0, .ref 2, .ref 47, .ref 63, .ref 64, .int 0, P_un, P_un, P_un], [.int 0, .ref 0], (P_hv132 xs 5))) P_i0_38 (fun _ => rfl) ?_
  refine P_wp_step (S' := (41, [.ref 0, .ref 2, .ref 47, .ref 63, .ref 64, .int 0, P_un, P_un, P_un], [.int (xs 0)], (P_hv132 xs 5))) P_i0_40 (fun _ => rfl) ?_
  refine P_wp_step (S' := (43, [.ref 0, .ref 2, .ref 47, .ref 63, .ref 64, .int 0, P_un, P_un, P_un], [.int 31, .int (xs 0)], (P_hv132 xs 5))) P_i0_41 (fun _ => rfl) ?_
  refine P_wp_step (S' := (44, [.ref 0, .ref 2, .ref 47, .ref 63, .ref 64, .int 0, P_un, P_un, P_un], [.int (xs 0 &&& 31)], (P_hv132 xs 5))) P_i0_43 (fun _ => rfl) ?_
  refine P_sw_at hsw (show P_wp P_Y0 200 0 (44, [.ref 0, .ref 2, .ref 47, .ref 63, .ref 64, .int 0, P_un, P_un, P_un], [.int 15], (P_hv132 xs 5)) _ from ?_)
  refine P_wp_step (S' := (949, [.ref 0, .ref 2, .ref 47, .ref 63, .ref 64, .int 0, P_un, P_un, P_un], [], (P_hv132 xs 5))) P_i0_44 (fun _ => P_do_sw (by decide +kernel)) ?_
  refine P_wp_step (S' := (950, [.ref 0, .ref 2, .ref 47, .ref 63, .ref 64, .int 0, P_un, P_un, P_un], [.ref 2], (P_hv132 xs 5))) P_i0_949 (fun _ => rfl) ?_
  refine P_wp_step (S' := (951, [.ref 0, .ref 2, .ref 47, .ref 63, .ref 64, .int 0, P_un, P_un, P_un], [.ref 63, .ref 2], (P_hv132 xs 5))) P_i0_950 (fun _ => rfl) ?_
  refine P_wp_call P_i0_951 rfl rfl rfl rfl rfl rfl rfl (y2 := 282) (as := [.ref 2, .ref 63]) (r0 := []) rfl (Nat.le_of_ble_eq_true rfl) (by decide) rfl (Nat.le_of_ble_eq_true rfl) (P_x221 xs 5 (?_))
  show P_wp P_Y0 200 0 (954, [.ref 0, .ref 2, .ref 47, .ref 63, .ref 64, .int 0, P_un, P_un, P_un], [.int 1], (P_hv134 xs 5)) _
  refine P_wp_step (S' := (956, [.ref 0, .ref 2, .ref 47, .ref 63, .ref 64, .int 0, .int 1, P_un, P_un], [], (P_hv134 xs 5))) P_i0_954 (fun _ => rfl) ?_
  refine P_wp_step (S' := (957, [.ref 0, .ref 2, .ref 47, .ref 63, .ref 64, .int 0, .int 1, P_un, P_un], [.ref 47], (P_hv134 xs 5))) P_i0_956 (fun _ => rfl) ?_
  refine P_wp_call P_i0_957 rfl rfl rfl rfl rfl rfl rfl (y2 := 235) (as := [.ref 47]) (r0 := []) rfl (Nat.le_of_ble_eq_true rfl) (by decide) rfl (Nat.le_of_ble_eq_true rfl) (P_x222 xs 5 (?_))
  show P_wp P_Y0 200 0 (960, [.ref 0, .ref 2, .ref 47, .ref 63, .ref 64, .int 0, .int 1, P_un, P_un], [.long 0], (P_hv135 xs 5)) _
  refine P_wp_step (S' := (962, [.ref 0, .ref 2, .ref 47, .ref 63, .ref 64, .int 0, .int 1, .long 0, P_un], [], (P_hv135 xs 5))) P_i0_960 (fun _ => rfl) ?_
  refine P_wp_step (S' := (963, [.ref 0, .ref 2, .ref 47, .ref 63, .ref 64, .int 0, .int 1, .long 0, P_un], [.ref 47], (P_hv135 xs 5))) P_i0_962 (fun _ => rfl) ?_
  refine P_wp_call P_i0_963 rfl rfl rfl rfl rfl rfl rfl (y2 := 183) (as := [.ref 47]) (r0 := []) rfl (Nat.le_of_ble_eq_true rfl) (by decide) rfl (Nat.le_of_ble_eq_true rfl) (P_x32 xs 5 (?_))
  show P_wp P_Y0 200 0 (966, [.ref 0, .ref 2, .ref 47, .ref 63, .ref 64, .int 0, .int 1, .long 0, P_un], [.int 1], (P_hv135 xs 5)) _
  refine P_wp_step (S' := (968, [.ref 0, .ref 2, .ref 47, .ref 63, .ref 64, .int 0, .int 1, .long 0, P_un], [.int 1, .int 1], (P_hv135 xs 5))) P_i0_966 (fun _ => rfl) ?_
  refine P_wp_ict P_i0_968 P_b20 (show P_wp P_Y0 200 0 (973, [.ref 0, .ref 2, .ref 47, .ref 63, .ref 64, .int 0, .int 1, .long 0, P_un], [], (P_hv135 xs 5)) _ from ?_)
  refine P_wp_step (S' := (975, [.ref 0, .ref 2, .ref 47, .ref 63, .ref 64, .int 0, .int 1, .long 0, P_un], [.int 1], (P_hv135 xs 5))) P_i0_973 (fun _ => rfl) ?_
  refine P_wp_izt P_i0_975 P_b21 (show P_wp P_Y0 200 0 (989, [.ref 0, .ref 2, .ref 47, .ref 63, .ref 64, .int 0, .int 1, .long 0, P_un], [], (P_hv135 xs 5)) _ from ?_)
  refine P_wp_step (S' := (1553, [.ref 0, .ref 2, .ref 47, .ref 63, .ref 64, .int 0, .int 1, .long 0, P_un], [], (P_hv135 xs 5))) P_i0_989 (fun _ => rfl) ?_
  refine P_wp_step (S' := (1556, [.ref 0, .ref 2, .ref 47, .ref 63, .ref 64, .int 5, .int 1, .long 0, P_un], [], (P_hv135 xs 5))) P_i0_1553 (fun _ => rfl) ?_
  refine P_wp_step (S' := (28, [.ref 0, .ref 2, .ref 47, .ref 63, .ref 64, .int 5, P_un, P_un, P_un], [], (P_hv135 xs 5))) P_i0_1556 (fun _ => rfl) ?_
  refine P_wp_step (S' := (30, [.ref 0, .ref 2, .ref 47, .ref 63, .ref 64, .int 5, P_un, P_un, P_un], [.int 5], (P_hv135 xs 5))) P_i0_28 (fun _ => rfl) ?_
  refine P_wp_step (S' := (31, [.ref 0, .ref 2, .ref 47, .ref 63, .ref 64, .int 5, P_un, P_un, P_un], [.ref 0, .int 5], (P_hv135 xs 5))) P_i0_30 (fun _ => rfl) ?_
  refine P_wp_step (S' := (32, [.ref 0, .ref 2, .ref 47, .ref 63, .ref 64, .int 5, P_un, P_un, P_un], [.int 5, .int 5], (P_hv135 xs 5))) P_i0_31 (fun _ => rfl) ?_
  refine P_wp_step (S' := (33, [.ref 0, .ref 2, .ref 47, .ref 63, .ref 64, .int 5, P_un, P_un, P_un], [.int 5, .int 5, .int 5], (P_hv135 xs 5))) P_i0_32 (fun _ => rfl) ?_
  refine P_wp_step (S' := (34, [.ref 0, .ref 2, .ref 47, .ref 63, .ref 64, .int 5, P_un, P_un, P_un], [.int 0, .int 5], (P_hv135 xs 5))) P_i0_33 (fun _ => rfl) ?_
  refine P_wp_ict P_i0_34 P_b22 (show P_wp P_Y0 200 0 (1559, [.ref 0, .ref 2, .ref 47, .ref 63, .ref 64, .int 5, P_un, P_un, P_un], [], (P_hv135 xs 5)) _ from ?_)
  refine P_wp_step (S' := (1560, [.ref 0, .ref 2, .ref 47, .ref 63, .ref 64, .int 5, P_un, P_un, P_un], [.int 1], (P_hv135 xs 5))) P_i0_1559 (fun _ => rfl) ?_
  refine P_wp_end (x := (.inl (some (.int 1)), (P_hv135 xs 5))) P_i0_1560 (fun _ => rfl) ?_
  exact ⟨rfl, Nat.le_of_ble_eq_true rfl, Nat.le_of_ble_eq_true rfl⟩

set_option maxRecDepth 20000 in
theorem P_pa33 (xs : Nat → Int32) (hsw : xs 0 &&& 31 = 16) : P_wp P_Y0 200 0 (28, [.ref 0, .ref 2, .ref 47, .ref 63, .ref 64, .int 0, P_un, P_un, P_un], [], (P_hv132 xs 5)) (fun r h => r = .inl (some (.int 1)) ∧ h.2.1 ≤ 600002 ∧ h.2.2 ≤ 7302232) := by
  refine P_wp_step (S' := (30, [.ref 0, .ref 2, .ref 47, .ref 63, .ref 64, .int 0, P_un, P_un, P_un], [.int 0], (P_hv132 xs 5))) P_i0_28 (fun _ => rfl) ?_
  refine P_wp_step (S' := (31, [.ref 0, .ref 2, .ref 47, .ref 63, .ref 64, .int 0, P_un, P_un, P_un], [.ref 0, .int 0], (P_hv132 xs 5))) P_i0_30 (fun _ => rfl) ?_
  refine P_wp_step (S' := (32, [.ref 0, .ref 2, .ref 47, .ref 63, .ref 64, .int 0, P_un, P_un, P_un], [.int 5, .int 0], (P_hv132 xs 5))) P_i0_31 (fun _ => rfl) ?_
  refine P_wp_step (S' := (33, [.ref 0, .ref 2, .ref 47, .ref 63, .ref 64, .int 0, P_un, P_un, P_un], [.int 5, .int 5, .int 0], (P_hv132 xs 5))) P_i0_32 (fun _ => rfl) ?_
  refine P_wp_step (S' := (34, [.ref 0, .ref 2, .ref 47, .ref 63, .ref 64, .int 0, P_un, P_un, P_un], [.int 0, .int 0], (P_hv132 xs 5))) P_i0_33 (fun _ => rfl) ?_
  refine P_wp_icf P_i0_34 P_b18 (show P_wp P_Y0 200 0 (37, [.ref 0, .ref 2, .ref 47, .ref 63, .ref 64, .int 0, P_un, P_un, P_un], [], (P_hv132 xs 5)) _ from ?_)
  refine P_wp_step (S' := (38, [.ref 0, .ref 2, .ref 47, .ref 63, .ref 64, .int 0, P_un, P_un, P_un], [.ref 0], (P_hv132 xs 5))) P_i0_37 (fun _ => rfl) ?_
  refine P_wp_step (S' := (40, [.ref 0, .ref 2, .ref 47, .ref 63, .ref 64, .int 0, P_un, P_un, P_un], [.int 0, .ref 0], (P_hv132 xs 5))) P_i0_38 (fun _ => rfl) ?_
  refine P_wp_step (S' := (41, [.ref 0, .ref 2, .ref 47, .ref 63, .ref 64, .int 0, P_un, P_un, P_un], [.int (xs 0)], (P_hv132 xs 5))) P_i0_40 (fun _ => rfl) ?_
  refine P_wp_step (S' := (43, [.ref 0, .ref 2, .ref 47, .ref 63, .ref 64, .int 0, P_un, P_un, P_un], [.int 31, .int (xs 0)], (P_hv132 xs 5))) P_i0_41 (fun _ => rfl) ?_
  refine P_wp_step (S' := (44, [.ref 0, .ref 2, .ref 47, .ref 63, .ref 64, .int 0, P_un, P_un, P_un], [.int (xs 0 &&& 31)], (P_hv132 xs 5))) P_i0_43 (fun _ => rfl) ?_
  refine P_sw_at hsw (show P_wp P_Y0 200 0 (44, [.ref 0, .ref 2, .ref 47, .ref 63, .ref 64, .int 0, P_un, P_un, P_un], [.int 16], (P_hv132 xs 5)) _ from ?_)
  refine P_wp_step (S' := (992, [.ref 0, .ref 2, .ref 47, .ref 63, .ref 64, .int 0, P_un, P_un, P_un], [], (P_hv132 xs 5))) P_i0_44 (fun _ => P_do_sw (by decide +kernel)) ?_
  refine P_wp_step (S' := (993, [.ref 0, .ref 2, .ref 47, .ref 63, .ref 64, .int 0, P_un, P_un, P_un], [.ref 2], (P_hv132 xs 5))) P_i0_992 (fun _ => rfl) ?_
  refine P_wp_step (S' := (994, [.ref 0, .ref 2, .ref 47, .ref 63, .ref 64, .int 0, P_un, P_un, P_un], [.ref 63, .ref 2], (P_hv132 xs 5))) P_i0_993 (fun _ => rfl) ?_
  refine P_wp_call P_i0_994 rfl rfl rfl rfl rfl rfl rfl (y2 := 283) (as := [.ref 2, .ref 63]) (r0 := []) rfl (Nat.le_of_ble_eq_true rfl) (by decide) rfl (Nat.le_of_ble_eq_true rfl) (P_x224 xs 5 (?_))
  show P_wp P_Y0 200 0 (997, [.ref 0, .ref 2, .ref 47, .ref 63, .ref 64, .int 0, P_un, P_un, P_un], [.int 1], (P_hv134 xs 5)) _
  refine P_wp_step (S' := (999, [.ref 0, .ref 2, .ref 47, .ref 63, .ref 64, .int 0, .int 1, P_un, P_un], [], (P_hv134 xs 5))) P_i0_997 (fun _ => rfl) ?_
  refine P_wp_step (S' := (1000, [.ref 0, .ref 2, .ref 47, .ref 63, .ref 64, .int 0, .int 1, P_un, P_un], [.ref 47], (P_hv134 xs 5))) P_i0_999 (fun _ => rfl) ?_
  refine P_wp_call P_i0_1000 rfl rfl rfl rfl rfl rfl rfl (y2 := 236) (as := [.ref 47]) (r0 := []) rfl (Nat.le_of_ble_eq_true rfl) (by decide) rfl (Nat.le_of_ble_eq_true rfl) (P_x225 xs 5 (?_))
  show P_wp P_Y0 200 0 (1003, [.ref 0, .ref 2, .ref 47, .ref 63, .ref 64, .int 0, .int 1, P_un, P_un], [.int 0], (P_hv135 xs 5)) _
  refine P_wp_step (S' := (1005, [.ref 0, .ref 2, .ref 47, .ref 63, .ref 64, .int 0, .int 1, .int 0, P_un], [], (P_hv135 xs 5))) P_i0_1003 (fun _ => rfl) ?_
  refine P_wp_step (S' := (1006, [.ref 0, .ref 2, .ref 47, .ref 63, .ref 64, .int 0, .int 1, .int 0, P_un], [.ref 47], (P_hv135 xs 5))) P_i0_1005 (fun _ => rfl) ?_
  refine P_wp_call P_i0_1006 rfl rfl rfl rfl rfl rfl rfl (y2 := 183) (as := [.ref 47]) (r0 := []) rfl (Nat.le_of_ble_eq_true rfl) (by decide) rfl (Nat.le_of_ble_eq_true rfl) (P_x32 xs 5 (?_))
  show P_wp P_Y0 200 0 (1009, [.ref 0, .ref 2, .ref 47, .ref 63, .ref 64, .int 0, .int 1, .int 0, P_un], [.int 1], (P_hv135 xs 5)) _
  refine P_wp_step (S' := (1011, [.ref 0, .ref 2, .ref 47, .ref 63, .ref 64, .int 0, .int 1, .int 0, P_un], [.int 1, .int 1], (P_hv135 xs 5))) P_i0_1009 (fun _ => rfl) ?_
  refine P_wp_ict P_i0_1011 P_b20 (show P_wp P_Y0 200 0 (1016, [.ref 0, .ref 2, .ref 47, .ref 63, .ref 64, .int 0, .int 1, .int 0, P_un], [], (P_hv135 xs 5)) _ from ?_)
  refine P_wp_step (S' := (1018, [.ref 0, .ref 2, .ref 47, .ref 63, .ref 64, .int 0, .int 1, .int 0, P_un], [.int 1], (P_hv135 xs 5))) P_i0_1016 (fun _ => rfl) ?_
  refine P_wp_izt P_i0_1018 P_b21 (show P_wp P_Y0 200 0 (1040, [.ref 0, .ref 2, .ref 47, .ref 63, .ref 64, .int 0, .int 1, .int 0, P_un], [], (P_hv135 xs 5)) _ from ?_)
  refine P_wp_step (S' := (1553, [.ref 0, .ref 2, .ref 47, .ref 63, .ref 64, .int 0, .int 1, .int 0, P_un], [], (P_hv135 xs 5))) P_i0_1040 (fun _ => rfl) ?_
  refine P_wp_step (S' := (1556, [.ref 0, .ref 2, .ref 47, .ref 63, .ref 64, .int 5, .int 1, .int 0, P_un], [], (P_hv135 xs 5))) P_i0_1553 (fun _ => rfl) ?_
  refine P_wp_step (S' := (28, [.ref 0, .ref 2, .ref 47, .ref 63, .ref 64, .int 5, P_un, P_un, P_un], [], (P_hv135 xs 5))) P_i0_1556 (fun _ => rfl) ?_
  refine P_wp_step (S' := (30, [.ref 0, .ref 2, .ref 47, .ref 63, .ref 64, .int 5, P_un, P_un, P_un], [.int 5], (P_hv135 xs 5))) P_i0_28 (fun _ => rfl) ?_
  refine P_wp_step (S' := (31, [.ref 0, .ref 2, .ref 47, .ref 63, .ref 64, .int 5, P_un, P_un, P_un], [.ref 0, .int 5], (P_hv135 xs 5))) P_i0_30 (fun _ => rfl) ?_
  refine P_wp_step (S' := (32, [.ref 0, .ref 2, .ref 47, .ref 63, .ref 64, .int 5, P_un, P_un, P_un], [.int 5, .int 5], (P_hv135 xs 5))) P_i0_31 (fun _ => rfl) ?_
  refine P_wp_step (S' := (33, [.ref 0, .ref 2, .ref 47, .ref 63, .ref 64, .int 5, P_un, P_un, P_un], [.int 5, .int 5, .int 5], (P_hv135 xs 5))) P_i0_32 (fun _ => rfl) ?_
  refine P_wp_step (S' := (34, [.ref 0, .ref 2, .ref 47, .ref 63, .ref 64, .int 5, P_un, P_un, P_un], [.int 0, .int 5], (P_hv135 xs 5))) P_i0_33 (fun _ => rfl) ?_
  refine P_wp_ict P_i0_34 P_b22 (show P_wp P_Y0 200 0 (1559, [.ref 0, .ref 2, .ref 47, .ref 63, .ref 64, .int 5, P_un, P_un, P_un], [], (P_hv135 xs 5)) _ from ?_)
  refine P_wp_step (S' := (1560, [.ref 0, .ref 2, .ref 47, .ref 63, .ref 64, .int 5, P_un, P_un, P_un], [.int 1], (P_hv135 xs 5))) P_i0_1559 (fun _ => rfl) ?_
  refine P_wp_end (x := (.inl (some (.int 1)), (P_hv135 xs 5))) P_i0_1560 (fun _ => rfl) ?_
  exact ⟨rfl, Nat.le_of_ble_eq_true rfl, Nat.le_of_ble_eq_true rfl⟩

set_option maxRecDepth 20000 in
theorem P_pa34 (xs : Nat → Int32) (hsw : xs 0 &&& 31 = 17) : P_wp P_Y0 200 0 (28, [.ref 0, .ref 2, .ref 47, .ref 63, .ref 64, .int 0, P_un, P_un, P_un], [], (P_hv132 xs 5)) (fun r h => r = .inl (some (.int 1)) ∧ h.2.1 ≤ 600002 ∧ h.2.2 ≤ 7302232) := by
  refine P_wp_step (S' := (30, [.ref 0, .ref 2, .ref 47, .ref 63, .ref 64, .int 0, P_un, P_un, P_un], [.int 0], (P_hv132 xs 5))) P_i0_28 (fun _ => rfl) ?_
  refine P_wp_step (S' := (31, [.ref 0, .ref 2, .ref 47, .ref 63, .ref 64, .int 0, P_un, P_un, P_un], [.ref 0, .int 0], (P_hv132 xs 5))) P_i0_30 (fun _ => rfl) ?_
  refine P_wp_step (S' := (32, [.ref 0, .ref 2, .ref 47, .ref 63, .ref 64, .int 0, P_un, P_un, P_un], [.int 5, .int 0], (P_hv132 xs 5))) P_i0_31 (fun _ => rfl) ?_
  refine P_wp_step (S' := (33, [.ref 0, .ref 2, .ref 47, .ref 63, .ref 64, .int 0, P_un, P_un, P_un], [.int 5, .int 5, .int 0], (P_hv132 xs 5))) P_i0_32 (fun _ => rfl) ?_
  refine P_wp_step (S' := (34, [.ref 0, .ref 2, .ref 47, .ref 63, .ref 64, .int 0, P_un, P_un, P_un], [.int 0, .int 0], (P_hv132 xs 5))) P_i0_33 (fun _ => rfl) ?_
  refine P_wp_icf P_i0_34 P_b18 (show P_wp P_Y0 200 0 (37, [.ref 0, .ref 2, .ref 47, .ref 63, .ref 64, .int 0, P_un, P_un, P_un], [], (P_hv132 xs 5)) _ from ?_)
  refine P_wp_step (S' := (38, [.ref 0, .ref 2, .ref 47, .ref 63, .ref 64, .int 0, P_un, P_un, P_un], [.ref 0], (P_hv132 xs 5))) P_i0_37 (fun _ => rfl) ?_
  refine P_wp_step (S' := (40, [.ref 0, .ref 2, .ref 47, .ref 63, .ref 64, .int 0, P_un, P_un, P_un], [.int 0, .ref 0], (P_hv132 xs 5))) P_i0_38 (fun _ => rfl) ?_
  refine P_wp_step (S' := (41, [.ref 0, .ref 2, .ref 47, .ref 63, .ref 64, .int 0, P_un, P_un, P_un], [.int (xs 0)], (P_hv132 xs 5))) P_i0_40 (fun _ => rfl) ?_
  refine P_wp_step (S' := (43, [.ref 0, .ref 2, .ref 47, .ref 63, .ref 64, .int 0, P_un, P_un, P_un], [.int 31, .int (xs 0)], (P_hv132 xs 5))) P_i0_41 (fun _ => rfl) ?_
  refine P_wp_step (S' := (44, [.ref 0, .ref 2, .ref 47, .ref 63, .ref 64, .int 0, P_un, P_un, P_un], [.int (xs 0 &&& 31)], (P_hv132 xs 5))) P_i0_43 (fun _ => rfl) ?_
  refine P_sw_at hsw (show P_wp P_Y0 200 0 (44, [.ref 0, .ref 2, .ref 47, .ref 63, .ref 64, .int 0, P_un, P_un, P_un], [.int 17], (P_hv132 xs 5)) _ from ?_)
  refine P_wp_step (S' := (1043, [.ref 0, .ref 2, .ref 47, .ref 63, .ref 64, .int 0, P_un, P_un, P_un], [], (P_hv132 xs 5))) P_i0_44 (fun _ => P_do_sw (by decide +kernel)) ?_
  refine P_wp_step (S' := (1044, [.ref 0, .ref 2, .ref 47, .ref 63, .ref 64, .int 0, P_un, P_un, P_un], [.ref 2], (P_hv132 xs 5))) P_i0_1043 (fun _ => rfl) ?_
  refine P_wp_step (S' := (1045, [.ref 0, .ref 2, .ref 47, .ref 63, .ref 64, .int 0, P_un, P_un, P_un], [.ref 63, .ref 2], (P_hv132 xs 5))) P_i0_1044 (fun _ => rfl) ?_
  refine P_wp_call P_i0_1045 rfl rfl rfl rfl rfl rfl rfl (y2 := 284) (as := [.ref 2, .ref 63]) (r0 := []) rfl (Nat.le_of_ble_eq_true rfl) (by decide) rfl (Nat.le_of_ble_eq_true rfl) (P_x227 xs 5 (?_))
  show P_wp P_Y0 200 0 (1048, [.ref 0, .ref 2, .ref 47, .ref 63, .ref 64, .int 0, P_un, P_un, P_un], [.int 1], (P_hv134 xs 5)) _
  refine P_wp_step (S' := (1050, [.ref 0, .ref 2, .ref 47, .ref 63, .ref 64, .int 0, .int 1, P_un, P_un], [], (P_hv134 xs 5))) P_i0_1048 (fun _ => rfl) ?_
  refine P_wp_step (S' := (1051, [.ref 0, .ref 2, .ref 47, .ref 63, .ref 64, .int 0, .int 1, P_un, P_un], [.ref 47], (P_hv134 xs 5))) P_i0_1050 (fun _ => rfl) ?_
  refine P_wp_call P_i0_1051 rfl rfl rfl rfl rfl rfl rfl (y2 := 255) (as := [.ref 47]) (r0 := []) rfl (Nat.le_of_ble_eq_true rfl) (by decide) rfl (Nat.le_of_ble_eq_true rfl) (P_x228 xs 5 (?_))
  show P_wp P_Y0 200 0 (1054, [.ref 0, .ref 2, .ref 47, .ref 63, .ref 64, .int 0, .int 1, P_un, P_un], [.int 0], (P_hv135 xs 5)) _
  refine P_wp_step (S' := (1056, [.ref 0, .ref 2, .ref 47, .ref 63, .ref 64, .int 0, .int 1, .int 0, P_un], [], (P_hv135 xs 5))) P_i0_1054 (fun _ => rfl) ?_
  refine P_wp_step (S' := (1057, [.ref 0, .ref 2, .ref 47, .ref 63, .ref 64, .int 0, .int 1, .int 0, P_un], [.ref 47], (P_hv135 xs 5))) P_i0_1056 (fun _ => rfl) ?_
  refine P_wp_call P_i0_1057 rfl rfl rfl rfl rfl rfl rfl (y2 := 183) (as := [.ref 47]) (r0 := []) rfl (Nat.le_of_ble_eq_true rfl) (by decide) rfl (Nat.le_of_ble_eq_true rfl) (P_x32 xs 5 (?_))
  show P_wp P_Y0 200 0 (1060, [.ref 0, .ref 2, .ref 47, .ref 63, .ref 64, .int 0, .int 1, .int 0, P_un], [.int 1], (P_hv135 xs 5)) _
  refine P_wp_step (S' := (1062, [.ref 0, .ref 2, .ref 47, .ref 63, .ref 64, .int 0, .int 1, .int 0, P_un], [.int 1, .int 1], (P_hv135 xs 5))) P_i0_1060 (fun _ => rfl) ?_
  refine P_wp_ict P_i0_1062 P_b20 (show P_wp P_Y0 200 0 (1067, [.ref 0, .ref 2, .ref 47, .ref 63, .ref 64, .int 0, .int 1, .int 0, P_un], [], (P_hv135 xs 5)) _ from ?_)
  refine P_wp_step (S' := (1069, [.ref 0, .ref 2, .ref 47, .ref 63, .ref 64, .int 0, .int 1, .int 0, P_un], [.int 1], (P_hv135 xs 5))) P_i0_1067 (fun _ => rfl) ?_
  refine P_wp_izt P_i0_1069 P_b21 (show P_wp P_Y0 200 0 (1084, [.ref 0, .ref 2, .ref 47, .ref 63, .ref 64, .int 0, .int 1, .int 0, P_un], [], (P_hv135 xs 5)) _ from ?_)
  refine P_wp_step (S' := (1553, [.ref 0, .ref 2, .ref 47, .ref 63, .ref 64, .int 0, .int 1, .int 0, P_un], [], (P_hv135 xs 5))) P_i0_1084 (fun _ => rfl) ?_
  refine P_wp_step (S' := (1556, [.ref 0, .ref 2, .ref 47, .ref 63, .ref 64, .int 5, .int 1, .int 0, P_un], [], (P_hv135 xs 5))) P_i0_1553 (fun _ => rfl) ?_
  refine P_wp_step (S' := (28, [.ref 0, .ref 2, .ref 47, .ref 63, .ref 64, .int 5, P_un, P_un, P_un], [], (P_hv135 xs 5))) P_i0_1556 (fun _ => rfl) ?_
  refine P_wp_step (S' := (30, [.ref 0, .ref 2, .ref 47, .ref 63, .ref 64, .int 5, P_un, P_un, P_un], [.int 5], (P_hv135 xs 5))) P_i0_28 (fun _ => rfl) ?_
  refine P_wp_step (S' := (31, [.ref 0, .ref 2, .ref 47, .ref 63, .ref 64, .int 5, P_un, P_un, P_un], [.ref 0, .int 5], (P_hv135 xs 5))) P_i0_30 (fun _ => rfl) ?_
  refine P_wp_step (S' := (32, [.ref 0, .ref 2, .ref 47, .ref 63, .ref 64, .int 5, P_un, P_un, P_un], [.int 5, .int 5], (P_hv135 xs 5))) P_i0_31 (fun _ => rfl) ?_
  refine P_wp_step (S' := (33, [.ref 0, .ref 2, .ref 47, .ref 63, .ref 64, .int 5, P_un, P_un, P_un], [.int 5, .int 5, .int 5], (P_hv135 xs 5))) P_i0_32 (fun _ => rfl) ?_
  refine P_wp_step (S' := (34, [.ref 0, .ref 2, .ref 47, .ref 63, .ref 64, .int 5, P_un, P_un, P_un], [.int 0, .int 5], (P_hv135 xs 5))) P_i0_33 (fun _ => rfl) ?_
  refine P_wp_ict P_i0_34 P_b22 (show P_wp P_Y0 200 0 (1559, [.ref 0, .ref 2, .ref 47, .ref 63, .ref 64, .int 5, P_un, P_un, P_un], [], (P_hv135 xs 5)) _ from ?_)
  refine P_wp_step (S' := (1560, [.ref 0, .ref 2, .ref 47, .ref 63, .ref 64, .int 5, P_un, P_un, P_un], [.int 1], (P_hv135 xs 5))) P_i0_1559 (fun _ => rfl) ?_
  refine P_wp_end (x := (.inl (some (.int 1)), (P_hv135 xs 5))) P_i0_1560 (fun _ => rfl) ?_
  exact ⟨rfl, Nat.le_of_ble_eq_true rfl, Nat.le_of_ble_eq_true rfl⟩

set_option maxRecDepth 20000 in
theorem P_pa35 (xs : Nat → Int32) (hsw : xs 0 &&& 31 = 18) : P_wp P_Y0 200 0 (28, [.ref 0, .ref 2, .ref 47, .ref 63, .ref 64, .int 0, P_un, P_un, P_un], [], (P_hv132 xs 5)) (fun r h => r = .inl (some (.int 1)) ∧ h.2.1 ≤ 600002 ∧ h.2.2 ≤ 7302232) := by
  refine P_wp_step (S' := (30, [.ref 0, .ref 2, .ref 47, .ref 63, .ref 64, .int 0, P_un, P_un, P_un], [.int 0], (P_hv132 xs 5))) P_i0_28 (fun _ => rfl) ?_
  refine P_wp_step (S' := (31, [.ref 0, .ref 2, .ref 47, .ref 63, .ref 64, .int 0, P_un, P_un, P_un], [.ref 0, .int 0], (P_hv132 xs 5))) P_i0_30 (fun _ => rfl) ?_
  refine P_wp_step (S' := (32, [.ref 0, .ref 2, .ref 47, .ref 63, .ref 64, .int 0, P_un, P_un, P_un], [.int 5, .int 0], (P_hv132 xs 5))) P_i0_31 (fun _ => rfl) ?_
  refine P_wp_step (S' := (33, [.ref 0, .ref 2, .ref 47, .ref 63, .ref 64, .int 0, P_un, P_un, P_un], [.int 5, .int 5, .int 0], (P_hv132 xs 5))) P_i0_32 (fun _ => rfl) ?_
  refine P_wp_step (S' := (34, [.ref 0, .ref 2, .ref 47, .ref 63, .ref 64, .int 0, P_un, P_un, P_un], [.int 0, .int 0], (P_hv132 xs 5))) P_i0_33 (fun _ => rfl) ?_
  refine P_wp_icf P_i0_34 P_b18 (show P_wp P_Y0 200 0 (37, [.ref 0, .ref 2, .ref 47, .ref 63, .ref 64, .int 0, P_un, P_un, P_un], [], (P_hv132 xs 5)) _ from ?_)
  refine P_wp_step (S' := (38, [.ref 0, .ref 2, .ref 47, .ref 63, .ref 64, .int 0, P_un, P_un, P_un], [.ref 0], (P_hv132 xs 5))) P_i0_37 (fun _ => rfl) ?_
  refine P_wp_step (S' := (40, [.ref 0, .ref 2, .ref 47, .ref 63, .ref 64, .int 0, P_un, P_un, P_un], [.int 0, .ref 0], (P_hv132 xs 5))) P_i0_38 (fun _ => rfl) ?_
  refine P_wp_step (S' := (41, [.ref 0, .ref 2, .ref 47, .ref 63, .ref 64, .int 0, P_un, P_un, P_un], [.int (xs 0)], (P_hv132 xs 5))) P_i0_40 (fun _ => rfl) ?_
  refine P_wp_step (S' := (43, [.ref 0, .ref 2, .ref 47, .ref 63, .ref 64, .int 0, P_un, P_un, P_un], [.int 31, .int (xs 0)], (P_hv132 xs 5))) P_i0_41 (fun _ => rfl) ?_
  refine P_wp_step (S' := (44, [.ref 0, .ref 2, .ref 47, .ref 63, .ref 64, .int 0, P_un, P_un, P_un], [.int (xs 0 &&& 31)], (P_hv132 xs 5))) P_i0_43 (fun _ => rfl) ?_
  refine P_sw_at hsw (show P_wp P_Y0 200 0 (44, [.ref 0, .ref 2, .ref 47, .ref 63, .ref 64, .int 0, P_un, P_un, P_un], [.int 18], (P_hv132 xs 5)) _ from ?_)
  refine P_wp_step (S' := (1087, [.ref 0, .ref 2, .ref 47, .ref 63, .ref 64, .int 0, P_un, P_un, P_un], [], (P_hv132 xs 5))) P_i0_44 (fun _ => P_do_sw (by decide +kernel)) ?_
  refine P_wp_step (S' := (1088, [.ref 0, .ref 2, .ref 47, .ref 63, .ref 64, .int 0, P_un, P_un, P_un], [.ref 2], (P_hv132 xs 5))) P_i0_1087 (fun _ => rfl) ?_
  refine P_wp_step (S' := (1089, [.ref 0, .ref 2, .ref 47, .ref 63, .ref 64, .int 0, P_un, P_un, P_un], [.ref 63, .ref 2], (P_hv132 xs 5))) P_i0_1088 (fun _ => rfl) ?_
  refine P_wp_call P_i0_1089 rfl rfl rfl rfl rfl rfl rfl (y2 := 285) (as := [.ref 2, .ref 63]) (r0 := []) rfl (Nat.le_of_ble_eq_true rfl) (by decide) rfl (Nat.le_of_ble_eq_true rfl) (P_x230 xs 5 (?_))
  show P_wp P_Y0 200 0 (1092, [.ref 0, .ref 2, .ref 47, .ref 63, .ref 64, .int 0, P_un, P_un, P_un], [.int 1], (P_hv134 xs 5)) _
  refine P_wp_step (S' := (1094, [.ref 0, .ref 2, .ref 47, .ref 63, .ref 64, .int 0, .int 1, P_un, P_un], [], (P_hv134 xs 5))) P_i0_1092 (fun _ => rfl) ?_
  refine P_wp_step (S' := (1095, [.ref 0, .ref 2, .ref 47, .ref 63, .ref 64, .int 0, .int 1, P_un, P_un], [.ref 47], (P_hv134 xs 5))) P_i0_1094 (fun _ => rfl) ?_
  refine P_wp_call P_i0_1095 rfl rfl rfl rfl rfl rfl rfl (y2 := 258) (as := [.ref 47]) (r0 := []) rfl (Nat.le_of_ble_eq_true rfl) (by decide) rfl (Nat.le_of_ble_eq_true rfl) (P_x231 xs 5 (?_))
  show P_wp P_Y0 200 0 (1098, [.ref 0, .ref 2, .ref 47, .ref 63, .ref 64, .int 0, .int 1, P_un, P_un], [.int 0], (P_hv135 xs 5)) _
  refine P_wp_step (S' := (1100, [.ref 0, .ref 2, .ref 47, .ref 63, .ref 64, .int 0, .int 1, .int 0, P_un], [], (P_hv135 xs 5))) P_i0_1098 (fun _ => rfl) ?_
  refine P_wp_step (S' := (1101, [.ref 0, .ref 2, .ref 47, .ref 63, .ref 64, .int 0, .int 1, .int 0, P_un], [.ref 47], (P_hv135 xs 5))) P_i0_1100 (fun _ => rfl) ?_
  refine P_wp_call P_i0_1101 rfl rfl rfl rfl rfl rfl rfl (y2 := 183) (as := [.ref 47]) (r0 := []) rfl (Nat.le_of_ble_eq_true rfl) (by decide) rfl (Nat.le_of_ble_eq_true rfl) (P_x32 xs 5 (?_))
  show P_wp P_Y0 200 0 (1104, [.ref 0, .ref 2, .ref 47, .ref 63, .ref 64, .int 0, .int 1, .int 0, P_un], [.int 1], (P_hv135 xs 5)) _
  refine P_wp_step (S' := (1106, [.ref 0, .ref 2, .ref 47, .ref 63, .ref 64, .int 0, .int 1, .int 0, P_un], [.int 1, .int 1], (P_hv135 xs 5))) P_i0_1104 (fun _ => rfl) ?_
  refine P_wp_ict P_i0_1106 P_b20 (show P_wp P_Y0 200 0 (1111, [.ref 0, .ref 2, .ref 47, .ref 63, .ref 64, .int 0, .int 1, .int 0, P_un], [], (P_hv135 xs 5)) _ from ?_)
  refine P_wp_step (S' := (1113, [.ref 0, .ref 2, .ref 47, .ref 63, .ref 64, .int 0, .int 1, .int 0, P_un], [.int 1], (P_hv135 xs 5))) P_i0_1111 (fun _ => rfl) ?_
  refine P_wp_izt P_i0_1113 P_b21 (show P_wp P_Y0 200 0 (1135, [.ref 0, .ref 2, .ref 47, .ref 63, .ref 64, .int 0, .int 1, .int 0, P_un], [], (P_hv135 xs 5)) _ from ?_)
  refine P_wp_step (S' := (1553, [.ref 0, .ref 2, .ref 47, .ref 63, .ref 64, .int 0, .int 1, .int 0, P_un], [], (P_hv135 xs 5))) P_i0_1135 (fun _ => rfl) ?_
  refine P_wp_step (S' := (1556, [.ref 0, .ref 2, .ref 47, .ref 63, .ref 64, .int 5, .int 1, .int 0, P_un], [], (P_hv135 xs 5))) P_i0_1553 (fun _ => rfl) ?_
  refine P_wp_step (S' := (28, [.ref 0, .ref 2, .ref 47, .ref 63, .ref 64, .int 5, P_un, P_un, P_un], [], (P_hv135 xs 5))) P_i0_1556 (fun _ => rfl) ?_
  refine P_wp_step (S' := (30, [.ref 0, .ref 2, .ref 47, .ref 63, .ref 64, .int 5, P_un, P_un, P_un], [.int 5], (P_hv135 xs 5))) P_i0_28 (fun _ => rfl) ?_
  refine P_wp_step (S' := (31, [.ref 0, .ref 2, .ref 47, .ref 63, .ref 64, .int 5, P_un, P_un, P_un], [.ref 0, .int 5], (P_hv135 xs 5))) P_i0_30 (fun _ => rfl) ?_
  refine P_wp_step (S' := (32, [.ref 0, .ref 2, .ref 47, .ref 63, .ref 64, .int 5, P_un, P_un, P_un], [.int 5, .int 5], (P_hv135 xs 5))) P_i0_31 (fun _ => rfl) ?_
  refine P_wp_step (S' := (33, [.ref 0, .ref 2, .ref 47, .ref 63, .ref 64, .int 5, P_un, P_un, P_un], [.int 5, .int 5, .int 5], (P_hv135 xs 5))) P_i0_32 (fun _ => rfl) ?_
  refine P_wp_step (S' := (34, [.ref 0, .ref 2, .ref 47, .ref 63, .ref 64, .int 5, P_un, P_un, P_un], [.int 0, .int 5], (P_hv135 xs 5))) P_i0_33 (fun _ => rfl) ?_
  refine P_wp_ict P_i0_34 P_b22 (show P_wp P_Y0 200 0 (1559, [.ref 0, .ref 2, .ref 47, .ref 63, .ref 64, .int 5, P_un, P_un, P_un], [], (P_hv135 xs 5)) _ from ?_)
  refine P_wp_step (S' := (1560, [.ref 0, .ref 2, .ref 47, .ref 63, .ref 64, .int 5, P_un, P_un, P_un], [.int 1], (P_hv135 xs 5))) P_i0_1559 (fun _ => rfl) ?_
  refine P_wp_end (x := (.inl (some (.int 1)), (P_hv135 xs 5))) P_i0_1560 (fun _ => rfl) ?_
  exact ⟨rfl, Nat.le_of_ble_eq_true rfl, Nat.le_of_ble_eq_true rfl⟩

set_option maxRecDepth 20000 in
theorem P_pa36 (xs : Nat → Int32) (hsw : xs 0 &&& 31 = 19) : P_wp P_Y0 200 0 (28, [.ref 0, .ref 2, .ref 47, .ref 63, .ref 64, .int 0, P_un, P_un, P_un], [], (P_hv132 xs 5)) (fun r h => r = .inl (some (.int 1)) ∧ h.2.1 ≤ 600002 ∧ h.2.2 ≤ 7302232) := by
  refine P_wp_step (S' := (30, [.ref 0, .ref 2, .ref 47, .ref 63, .ref 64, .int 0, P_un, P_un, P_un], [.int 0], (P_hv132 xs 5))) P_i0_28 (fun _ => rfl) ?_
  refine P_wp_step (S' := (31, [.ref 0, .ref 2, .ref 47, .ref 63, .ref 64, .int 0, P_un, P_un, P_un], [.ref 0, .int 0], (P_hv132 xs 5))) P_i0_30 (fun _ => rfl) ?_
  refine P_wp_step (S' := (32, [.ref 0, .ref 2, .ref 47, .ref 63, .ref 64, .int 0, P_un, P_un, P_un], [.int 5, .int 0], (P_hv132 xs 5))) P_i0_31 (fun _ => rfl) ?_
  refine P_wp_step (S' := (33, [.ref 0, .ref 2, .ref 47, .ref 63, .ref 64, .int 0, P_un, P_un, P_un], [.int 5, .int 5, .int 0], (P_hv132 xs 5))) P_i0_32 (fun _ => rfl) ?_
  refine P_wp_step (S' := (34, [.ref 0, .ref 2, .ref 47, .ref 63, .ref 64, .int 0, P_un, P_un, P_un], [.int 0, .int 0], (P_hv132 xs 5))) P_i0_33 (fun _ => rfl) ?_
  refine P_wp_icf P_i0_34 P_b18 (show P_wp P_Y0 200 0 (37, [.ref 0, .ref 2, .ref 47, .ref 63, .ref 64, .int 0, P_un, P_un, P_un], [], (P_hv132 xs 5)) _ from ?_)
  refine P_wp_step (S' := (38, [.ref 0, .ref 2, .ref 47, .ref 63, .ref 64, .int 0, P_un, P_un, P_un], [.ref 0], (P_hv132 xs 5))) P_i0_37 (fun _ => rfl) ?_
  refine P_wp_step (S' := (40, [.ref 0, .ref 2, .ref 47, .ref 63, .ref 64, .int 0, P_un, P_un, P_un], [.int 0, .ref 0], (P_hv132 xs 5))) P_i0_38 (fun _ => rfl) ?_
  refine P_wp_step (S' := (41, [.ref 0, .ref 2, .ref 47, .ref 63, .ref 64, .int 0, P_un, P_un, P_un], [.int (xs 0)], (P_hv132 xs 5))) P_i0_40 (fun _ => rfl) ?_
  refine P_wp_step (S' := (43, [.ref 0, .ref 2, .ref 47, .ref 63, .ref 64, .int 0, P_un, P_un, P_un], [.int 31, .int (xs 0)], (P_hv132 xs 5))) P_i0_41 (fun _ => rfl) ?_
  refine P_wp_step (S' := (44, [.ref 0, .ref 2, .ref 47, .ref 63, .ref 64, .int 0, P_un, P_un, P_un], [.int (xs 0 &&& 31)], (P_hv132 xs 5))) P_i0_43 (fun _ => rfl) ?_
  refine P_sw_at hsw (show P_wp P_Y0 200 0 (44, [.ref 0, .ref 2, .ref 47, .ref 63, .ref 64, .int 0, P_un, P_un, P_un], [.int 19], (P_hv132 xs 5)) _ from ?_)
  refine P_wp_step (S' := (1138, [.ref 0, .ref 2, .ref 47, .ref 63, .ref 64, .int 0, P_un, P_un, P_un], [], (P_hv132 xs 5))) P_i0_44 (fun _ => P_do_sw (by decide +kernel)) ?_
  refine P_wp_step (S' := (1139, [.ref 0, .ref 2, .ref 47, .ref 63, .ref 64, .int 0, P_un, P_un, P_un], [.ref 2], (P_hv132 xs 5))) P_i0_1138 (fun _ => rfl) ?_
  refine P_wp_step (S' := (1140, [.ref 0, .ref 2, .ref 47, .ref 63, .ref 64, .int 0, P_un, P_un, P_un], [.ref 0, .ref 2], (P_hv132 xs 5))) P_i0_1139 (fun _ => rfl) ?_
  refine P_wp_step (S' := (1142, [.ref 0, .ref 2, .ref 47, .ref 63, .ref 64, .int 0, P_un, P_un, P_un], [.int 0, .ref 0, .ref 2], (P_hv132 xs 5))) P_i0_1140 (fun _ => rfl) ?_
  refine P_wp_step (S' := (1143, [.ref 0, .ref 2, .ref 47, .ref 63, .ref 64, .int 0, P_un, P_un, P_un], [.int 1, .int 0, .ref 0, .ref 2], (P_hv132 xs 5))) P_i0_1142 (fun _ => rfl) ?_
  refine P_wp_step (S' := (1144, [.ref 0, .ref 2, .ref 47, .ref 63, .ref 64, .int 0, P_un, P_un, P_un], [.int 1, .ref 0, .ref 2], (P_hv132 xs 5))) P_i0_1143 (fun _ => rfl) ?_
  refine P_wp_step (S' := (1145, [.ref 0, .ref 2, .ref 47, .ref 63, .ref 64, .int 0, P_un, P_un, P_un], [.int (xs 1), .ref 2], (P_hv132 xs 5))) P_i0_1144 (fun _ => rfl) ?_
  refine P_wp_step (S' := (1146, [.ref 0, .ref 2, .ref 47, .ref 63, .ref 64, .int 0, P_un, P_un, P_un], [.ref 63, .int (xs 1), .ref 2], (P_hv132 xs 5))) P_i0_1145 (fun _ => rfl) ?_
  refine P_wp_call P_i0_1146 rfl rfl rfl rfl rfl rfl rfl (y2 := 286) (as := [.ref 2, .int (xs 1), .ref 63]) (r0 := []) rfl (Nat.le_of_ble_eq_true rfl) (by decide) rfl (Nat.le_of_ble_eq_true rfl) (P_x233 xs 5 (?_))
  show P_wp P_Y0 200 0 (1149, [.ref 0, .ref 2, .ref 47, .ref 63, .ref 64, .int 0, P_un, P_un, P_un], [.int 1], (P_hv134 xs 5)) _
  refine P_wp_step (S' := (1151, [.ref 0, .ref 2, .ref 47, .ref 63, .ref 64, .int 0, .int 1, P_un, P_un], [], (P_hv134 xs 5))) P_i0_1149 (fun _ => rfl) ?_
  refine P_wp_step (S' := (1152, [.ref 0, .ref 2, .ref 47, .ref 63, .ref 64, .int 0, .int 1, P_un, P_un], [.ref 47], (P_hv134 xs 5))) P_i0_1151 (fun _ => rfl) ?_
  refine P_wp_step (S' := (1153, [.ref 0, .ref 2, .ref 47, .ref 63, .ref 64, .int 0, .int 1, P_un, P_un], [.ref 0, .ref 47], (P_hv134 xs 5))) P_i0_1152 (fun _ => rfl) ?_
  refine P_wp_step (S' := (1155, [.ref 0, .ref 2, .ref 47, .ref 63, .ref 64, .int 0, .int 1, P_un, P_un], [.int 0, .ref 0, .ref 47], (P_hv134 xs 5))) P_i0_1153 (fun _ => rfl) ?_
  refine P_wp_step (S' := (1156, [.ref 0, .ref 2, .ref 47, .ref 63, .ref 64, .int 0, .int 1, P_un, P_un], [.int 1, .int 0, .ref 0, .ref 47], (P_hv134 xs 5))) P_i0_1155 (fun _ => rfl) ?_
  refine P_wp_step (S' := (1157, [.ref 0, .ref 2, .ref 47, .ref 63, .ref 64, .int 0, .int 1, P_un, P_un], [.int 1, .ref 0, .ref 47], (P_hv134 xs 5))) P_i0_1156 (fun _ => rfl) ?_
  refine P_wp_step (S' := (1158, [.ref 0, .ref 2, .ref 47, .ref 63, .ref 64, .int 0, .int 1, P_un, P_un], [.int (xs 1), .ref 47], (P_hv134 xs 5))) P_i0_1157 (fun _ => rfl) ?_
  refine P_wp_call P_i0_1158 rfl rfl rfl rfl rfl rfl rfl (y2 := 259) (as := [.ref 47, .int (xs 1)]) (r0 := []) rfl (Nat.le_of_ble_eq_true rfl) (by decide) rfl (Nat.le_of_ble_eq_true rfl) (P_x234 xs 5 (?_))
  show P_wp P_Y0 200 0 (1161, [.ref 0, .ref 2, .ref 47, .ref 63, .ref 64, .int 0, .int 1, P_un, P_un], [.int 0], (P_hv135 xs 5)) _
  refine P_wp_step (S' := (1163, [.ref 0, .ref 2, .ref 47, .ref 63, .ref 64, .int 0, .int 1, .int 0, P_un], [], (P_hv135 xs 5))) P_i0_1161 (fun _ => rfl) ?_
  refine P_wp_step (S' := (1164, [.ref 0, .ref 2, .ref 47, .ref 63, .ref 64, .int 0, .int 1, .int 0, P_un], [.ref 47], (P_hv135 xs 5))) P_i0_1163 (fun _ => rfl) ?_
  refine P_wp_call P_i0_1164 rfl rfl rfl rfl rfl rfl rfl (y2 := 183) (as := [.ref 47]) (r0 := []) rfl (Nat.le_of_ble_eq_true rfl) (by decide) rfl (Nat.le_of_ble_eq_true rfl) (P_x32 xs 5 (?_))
  show P_wp P_Y0 200 0 (1167, [.ref 0, .ref 2, .ref 47, .ref 63, .ref 64, .int 0, .int 1, .int 0, P_un], [.int 1], (P_hv135 xs 5)) _
  refine P_wp_step (S' := (1169, [.ref 0, .ref 2, .ref 47, .ref 63, .ref 64, .int 0, .int 1, .int 0, P_un], [.int 1, .int 1], (P_hv135 xs 5))) P_i0_1167 (fun _ => rfl) ?_
  refine P_wp_ict P_i0_1169 P_b20 (show P_wp P_Y0 200 0 (1174, [.ref 0, .ref 2, .ref 47, .ref 63, .ref 64, .int 0, .int 1, .int 0, P_un], [], (P_hv135 xs 5)) _ from ?_)
  refine P_wp_step (S' := (1176, [.ref 0, .ref 2, .ref 47, .ref 63, .ref 64, .int 0, .int 1, .int 0, P_un], [.int 1], (P_hv135 xs 5))) P_i0_1174 (fun _ => rfl) ?_
  refine P_wp_izt P_i0_1176 P_b21 (show P_wp P_Y0 200 0 (1191, [.ref 0, .ref 2, .ref 47, .ref 63, .ref 64, .int 0, .int 1, .int 0, P_un], [], (P_hv135 xs 5)) _ from ?_)
  refine P_wp_step (S' := (1553, [.ref 0, .ref 2, .ref 47, .ref 63, .ref 64, .int 0, .int 1, .int 0, P_un], [], (P_hv135 xs 5))) P_i0_1191 (fun _ => rfl) ?_
  refine P_wp_step (S' := (1556, [.ref 0, .ref 2, .ref 47, .ref 63, .ref 64, .int 5, .int 1, .int 0, P_un], [], (P_hv135 xs 5))) P_i0_1553 (fun _ => rfl) ?_
  refine P_wp_step (S' := (28, [.ref 0, .ref 2, .ref 47, .ref 63, .ref 64, .int 5, P_un, P_un, P_un], [], (P_hv135 xs 5))) P_i0_1556 (fun _ => rfl) ?_
  refine P_wp_step (S' := (30, [.ref 0, .ref 2, .ref 47, .ref 63, .ref 64, .int 5, P_un, P_un, P_un], [.int 5], (P_hv135 xs 5))) P_i0_28 (fun _ => rfl) ?_
  refine P_wp_step (S' := (31, [.ref 0, .ref 2, .ref 47, .ref 63, .ref 64, .int 5, P_un, P_un, P_un], [.ref 0, .int 5], (P_hv135 xs 5))) P_i0_30 (fun _ => rfl) ?_
  refine P_wp_step (S' := (32, [.ref 0, .ref 2, .ref 47, .ref 63, .ref 64, .int 5, P_un, P_un, P_un], [.int 5, .int 5], (P_hv135 xs 5))) P_i0_31 (fun _ => rfl) ?_
  refine P_wp_step (S' := (33, [.ref 0, .ref 2, .ref 47, .ref 63, .ref 64, .int 5, P_un, P_un, P_un], [.int 5, .int 5, .int 5], (P_hv135 xs 5))) P_i0_32 (fun _ => rfl) ?_
  refine P_wp_step (S' := (34, [.ref 0, .ref 2, .ref 47, .ref 63, .ref 64, .int 5, P_un, P_un, P_un], [.int 0, .int 5], (P_hv135 xs 5))) P_i0_33 (fun _ => rfl) ?_
  refine P_wp_ict P_i0_34 P_b22 (show P_wp P_Y0 200 0 (1559, [.ref 0, .ref 2, .ref 47, .ref 63, .ref 64, .int 5, P_un, P_un, P_un], [], (P_hv135 xs 5)) _ from ?_)
  refine P_wp_step (S' := (1560, [.ref 0, .ref 2, .ref 47, .ref 63, .ref 64, .int 5, P_un, P_un, P_un], [.int 1], (P_hv135 xs 5))) P_i0_1559 (fun _ => rfl) ?_
  refine P_wp_end (x := (.inl (some (.int 1)), (P_hv135 xs 5))) P_i0_1560 (fun _ => rfl) ?_
  exact ⟨rfl, Nat.le_of_ble_eq_true rfl, Nat.le_of_ble_eq_true rfl⟩

set_option maxRecDepth 20000 in
theorem P_pa37 (xs : Nat → Int32) (hsw : xs 0 &&& 31 = 20) : P_wp P_Y0 200 0 (28, [.ref 0, .ref 2, .ref 47, .ref 63, .ref 64, .int 0, P_un, P_un, P_un], [], (P_hv132 xs 5)) (fun r h => r = .inl (some (.int 1)) ∧ h.2.1 ≤ 600002 ∧ h.2.2 ≤ 7302232) := by
  refine P_wp_step (S' := (30, [.ref 0, .ref 2, .ref 47, .ref 63, .ref 64, .int 0, P_un, P_un, P_un], [.int 0], (P_hv132 xs 5))) P_i0_28 (fun _ => rfl) ?_
  refine P_wp_step (S' := (31, [.ref 0, .ref 2, .ref 47, .ref 63, .ref 64, .int 0, P_un, P_un, P_un], [.ref 0, .int 0], (P_hv132 xs 5))) P_i0_30 (fun _ => rfl) ?_
  refine P_wp_step (S' := (32, [.ref 0, .ref 2, .ref 47, .ref 63, .ref 64, .int 0, P_un, P_un, P_un], [.int 5, .int 0], (P_hv132 xs 5))) P_i0_31 (fun _ => rfl) ?_
  refine P_wp_step (S' := (33, [.ref 0, .ref 2, .ref 47, .ref 63, .ref 64, .int 0, P_un, P_un, P_un], [.int 5, .int 5, .int 0], (P_hv132 xs 5))) P_i0_32 (fun _ => rfl) ?_
  refine P_wp_step (S' := (34, [.ref 0, .ref 2, .ref 47, .ref 63, .ref 64, .int 0, P_un, P_un, P_un], [.int 0, .int 0], (P_hv132 xs 5))) P_i0_33 (fun _ => rfl) ?_
  refine P_wp_icf P_i0_34 P_b18 (show P_wp P_Y0 200 0 (37, [.ref 0, .ref 2, .ref 47, .ref 63, .ref 64, .int 0, P_un, P_un, P_un], [], (P_hv132 xs 5)) _ from ?_)
  refine P_wp_step (S' := (38, [.ref 0, .ref 2, .ref 47, .ref 63, .ref 64, .int 0, P_un, P_un, P_un], [.ref 0], (P_hv132 xs 5))) P_i0_37 (fun _ => rfl) ?_
  refine P_wp_step (S' := (40, [.ref 0, .ref 2, .ref 47, .ref 63, .ref 64, .int 0, P_un, P_un, P_un], [.int 0, .ref 0], (P_hv132 xs 5))) P_i0_38 (fun _ => rfl) ?_
  refine P_wp_step (S' := (41, [.ref 0, .ref 2, .ref 47, .ref 63, .ref 64, .int 0, P_un, P_un, P_un], [.int (xs 0)], (P_hv132 xs 5))) P_i0_40 (fun _ => rfl) ?_
  refine P_wp_step (S' := (43, [.ref 0, .ref 2, .ref 47, .ref 63, .ref 64, .int 0, P_un, P_un, P_un], [.int 31, .int (xs 0)], (P_hv132 xs 5))) P_i0_41 (fun _ => rfl) ?_
  refine P_wp_step (S' := (44, [.ref 0, .ref 2, .ref 47, .ref 63, .ref 64, .int 0, P_un, P_un, P_un], [.int (xs 0 &&& 31)], (P_hv132 xs 5))) P_i0_43 (fun _ => rfl) ?_
  refine P_sw_at hsw (show P_wp P_Y0 200 0 (44, [.ref 0, .ref 2, .ref 47, .ref 63, .ref 64, .int 0, P_un, P_un, P_un], [.int 20], (P_hv132 xs 5)) _ from ?_)
  refine P_wp_step (S' := (1194, [.ref 0, .ref 2, .ref 47, .ref 63, .ref 64, .int 0, P_un, P_un, P_un], [], (P_hv132 xs 5))) P_i0_44 (fun _ => P_do_sw (by decide +kernel)) ?_
  refine P_wp_step (S' := (1195, [.ref 0, .ref 2, .ref 47, .ref 63, .ref 64, .int 0, P_un, P_un, P_un], [.ref 2], (P_hv132 xs 5))) P_i0_1194 (fun _ => rfl) ?_
  refine P_wp_step (S' := (1196, [.ref 0, .ref 2, .ref 47, .ref 63, .ref 64, .int 0, P_un, P_un, P_un], [.ref 0, .ref 2], (P_hv132 xs 5))) P_i0_1195 (fun _ => rfl) ?_
  refine P_wp_step (S' := (1198, [.ref 0, .ref 2, .ref 47, .ref 63, .ref 64, .int 0, P_un, P_un, P_un], [.int 0, .ref 0, .ref 2], (P_hv132 xs 5))) P_i0_1196 (fun _ => rfl) ?_
  refine P_wp_step (S' := (1199, [.ref 0, .ref 2, .ref 47, .ref 63, .ref 64, .int 0, P_un, P_un, P_un], [.int 1, .int 0, .ref 0, .ref 2], (P_hv132 xs 5))) P_i0_1198 (fun _ => rfl) ?_
  refine P_wp_step (S' := (1200, [.ref 0, .ref 2, .ref 47, .ref 63, .ref 64, .int 0, P_un, P_un, P_un], [.int 1, .ref 0, .ref 2], (P_hv132 xs 5))) P_i0_1199 (fun _ => rfl) ?_
  refine P_wp_step (S' := (1201, [.ref 0, .ref 2, .ref 47, .ref 63, .ref 64, .int 0, P_un, P_un, P_un], [.int (xs 1), .ref 2], (P_hv132 xs 5))) P_i0_1200 (fun _ => rfl) ?_
  refine P_wp_step (S' := (1202, [.ref 0, .ref 2, .ref 47, .ref 63, .ref 64, .int 0, P_un, P_un, P_un], [.ref 63, .int (xs 1), .ref 2], (P_hv132 xs 5))) P_i0_1201 (fun _ => rfl) ?_
  refine P_wp_call P_i0_1202 rfl rfl rfl rfl rfl rfl rfl (y2 := 287) (as := [.ref 2, .int (xs 1), .ref 63]) (r0 := []) rfl (Nat.le_of_ble_eq_true rfl) (by decide) rfl (Nat.le_of_ble_eq_true rfl) (P_x236 xs 5 (?_))
  show P_wp P_Y0 200 0 (1205, [.ref 0, .ref 2, .ref 47, .ref 63, .ref 64, .int 0, P_un, P_un, P_un], [.int 1], (P_hv134 xs 5)) _
  refine P_wp_step (S' := (1207, [.ref 0, .ref 2, .ref 47, .ref 63, .ref 64, .int 0, .int 1, P_un, P_un], [], (P_hv134 xs 5))) P_i0_1205 (fun _ => rfl) ?_
  refine P_wp_step (S' := (1208, [.ref 0, .ref 2, .ref 47, .ref 63, .ref 64, .int 0, .int 1, P_un, P_un], [.ref 47], (P_hv134 xs 5))) P_i0_1207 (fun _ => rfl) ?_
  refine P_wp_step (S' := (1209, [.ref 0, .ref 2, .ref 47, .ref 63, .ref 64, .int 0, .int 1, P_un, P_un], [.ref 0, .ref 47], (P_hv134 xs 5))) P_i0_1208 (fun _ => rfl) ?_
  refine P_wp_step (S' := (1211, [.ref 0, .ref 2, .ref 47, .ref 63, .ref 64, .int 0, .int 1, P_un, P_un], [.int 0, .ref 0, .ref 47], (P_hv134 xs 5))) P_i0_1209 (fun _ => rfl) ?_
  refine P_wp_step (S' := (1212, [.ref 0, .ref 2, .ref 47, .ref 63, .ref 64, .int 0, .int 1, P_un, P_un], [.int 1, .int 0, .ref 0, .ref 47], (P_hv134 xs 5))) P_i0_1211 (fun _ => rfl) ?_
  refine P_wp_step (S' := (1213, [.ref 0, .ref 2, .ref 47, .ref 63, .ref 64, .int 0, .int 1, P_un, P_un], [.int 1, .ref 0, .ref 47], (P_hv134 xs 5))) P_i0_1212 (fun _ => rfl) ?_
  refine P_wp_step (S' := (1214, [.ref 0, .ref 2, .ref 47, .ref 63, .ref 64, .int 0, .int 1, P_un, P_un], [.int (xs 1), .ref 47], (P_hv134 xs 5))) P_i0_1213 (fun _ => rfl) ?_
  refine P_wp_call P_i0_1214 rfl rfl rfl rfl rfl rfl rfl (y2 := 261) (as := [.ref 47, .int (xs 1)]) (r0 := []) rfl (Nat.le_of_ble_eq_true rfl) (by decide) rfl (Nat.le_of_ble_eq_true rfl) (P_x237 xs 5 (?_))
  show P_wp P_Y0 200 0 (1217, [.ref 0, .ref 2, .ref 47, .ref 63, .ref 64, .int 0, .int 1, P_un, P_un], [.int 0], (P_hv135 xs 5)) _
  refine P_wp_step (S' := (1219, [.ref 0, .ref 2, .ref 47, .ref 63, .ref 64, .int 0, .int 1, .int 0, P_un], [], (P_hv135 xs 5))) P_i0_1217 (fun _ => rfl) ?_
  refine P_wp_step (S' := (1220, [.ref 0, .ref 2, .ref 47, .ref 63, .ref 64, .int 0, .int 1, .int 0, P_un], [.ref 47], (P_hv135 xs 5))) P_i0_1219 (fun _ => rfl) ?_
  refine P_wp_call P_i0_1220 rfl rfl rfl rfl rfl rfl rfl (y2 := 183) (as := [.ref 47]) (r0 := []) rfl (Nat.le_of_ble_eq_true rfl) (by decide) rfl (Nat.le_of_ble_eq_true rfl) (P_x32 xs 5 (?_))
  show P_wp P_Y0 200 0 (1223, [.ref 0, .ref 2, .ref 47, .ref 63, .ref 64, .int 0, .int 1, .int 0, P_un], [.int 1], (P_hv135 xs 5)) _
  refine P_wp_step (S' := (1225, [.ref 0, .ref 2, .ref 47, .ref 63, .ref 64, .int 0, .int 1, .int 0, P_un], [.int 1, .int 1], (P_hv135 xs 5))) P_i0_1223 (fun _ => rfl) ?_
  refine P_wp_ict P_i0_1225 P_b20 (show P_wp P_Y0 200 0 (1230, [.ref 0, .ref 2, .ref 47, .ref 63, .ref 64, .int 0, .int 1, .int 0, P_un], [], (P_hv135 xs 5)) _ from ?_)
  refine P_wp_step (S' := (1232, [.ref 0, .ref 2, .ref 47, .ref 63, .ref 64, .int 0, .int 1, .int 0, P_un], [.int 1], (P_hv135 xs 5))) P_i0_1230 (fun _ => rfl) ?_
  refine P_wp_izt P_i0_1232 P_b21 (show P_wp P_Y0 200 0 (1247, [.ref 0, .ref 2, .ref 47, .ref 63, .ref 64, .int 0, .int 1, .int 0, P_un], [], (P_hv135 xs 5)) _ from ?_)
  refine P_wp_step (S' := (1553, [.ref 0, .ref 2, .ref 47, .ref 63, .ref 64, .int 0, .int 1, .int 0, P_un], [], (P_hv135 xs 5))) P_i0_1247 (fun _ => rfl) ?_
  refine P_wp_step (S' := (1556, [.ref 0, .ref 2, .ref 47, .ref 63, .ref 64, .int 5, .int 1, .int 0, P_un], [], (P_hv135 xs 5))) P_i0_1553 (fun _ => rfl) ?_
  refine P_wp_step (S' := (28, [.ref 0, .ref 2, .ref 47, .ref 63, .ref 64, .int 5, P_un, P_un, P_un], [], (P_hv135 xs 5))) P_i0_1556 (fun _ => rfl) ?_
  refine P_wp_step (S' := (30, [.ref 0, .ref 2, .ref 47, .ref 63, .ref 64, .int 5, P_un, P_un, P_un], [.int 5], (P_hv135 xs 5))) P_i0_28 (fun _ => rfl) ?_
  refine P_wp_step (S' := (31, [.ref 0, .ref 2, .ref 47, .ref 63, .ref 64, .int 5, P_un, P_un, P_un], [.ref 0, .int 5], (P_hv135 xs 5))) P_i0_30 (fun _ => rfl) ?_
  refine P_wp_step (S' := (32, [.ref 0, .ref 2, .ref 47, .ref 63, .ref 64, .int 5, P_un, P_un, P_un], [.int 5, .int 5], (P_hv135 xs 5))) P_i0_31 (fun _ => rfl) ?_
  refine P_wp_step (S' := (33, [.ref 0, .ref 2, .ref 47, .ref 63, .ref 64, .int 5, P_un, P_un, P_un], [.int 5, .int 5, .int 5], (P_hv135 xs 5))) P_i0_32 (fun _ => rfl) ?_
  refine P_wp_step (S' := (34, [.ref 0, .ref 2, .ref 47, .ref 63, .ref 64, .int 5, P_un, P_un, P_un], [.int 0, .int 5], (P_hv135 xs 5))) P_i0_33 (fun _ => rfl) ?_
  refine P_wp_ict P_i0_34 P_b22 (show P_wp P_Y0 200 0 (1559, [.ref 0, .ref 2, .ref 47, .ref 63, .ref 64, .int 5, P_un, P_un, P_un], [], (P_hv135 xs 5)) _ from ?_)
  refine P_wp_step (S' := (1560, [.ref 0, .ref 2, .ref 47, .ref 63, .ref 64, .int 5, P_un, P_un, P_un], [.int 1], (P_hv135 xs 5))) P_i0_1559 (fun _ => rfl) ?_
  refine P_wp_end (x := (.inl (some (.int 1)), (P_hv135 xs 5))) P_i0_1560 (fun _ => rfl) ?_
  exact ⟨rfl, Nat.le_of_ble_eq_true rfl, Nat.le_of_ble_eq_true rfl⟩

set_option maxRecDepth 20000 in
theorem P_pa38 (xs : Nat → Int32) (hsw : xs 0 &&& 31 = 21) : P_wp P_Y0 200 0 (28, [.ref 0, .ref 2, .ref 47, .ref 63, .ref 64, .int 0, P_un, P_un, P_un], [], (P_hv132 xs 5)) (fun r h => r = .inl (some (.int 1)) ∧ h.2.1 ≤ 600002 ∧ h.2.2 ≤ 7302232) := by
  refine P_wp_step (S' := (30, [.ref 0, .ref 2, .ref 47, .ref 63, .ref 64, .int 0, P_un, P_un, P_un], [.int 0], (P_hv132 xs 5))) P_i0_28 (fun _ => rfl) ?_
  refine P_wp_step (S' := (31, [.ref 0, .ref 2, .ref 47, .ref 63, .ref 64, .int 0, P_un, P_un, P_un], [.ref 0, .int 0], (P_hv132 xs 5))) P_i0_30 (fun _ => rfl) ?_
  refine P_wp_step (S' := (32, [.ref 0, .ref 2, .ref 47, .ref 63, .ref 64, .int 0, P_un, P_un, P_un], [.int 5, .int 0], (P_hv132 xs 5))) P_i0_31 (fun _ => rfl) ?_
  refine P_wp_step (S' := (33, [.ref 0, .ref 2, .ref 47, .ref 63, .ref 64, .int 0, P_un, P_un, P_un], [.int 5, .int 5, .int 0], (P_hv132 xs 5))) P_i0_32 (fun _ => rfl) ?_
  refine P_wp_step (S' := (34, [.ref 0, .ref 2, .ref 47, .ref 63, .ref 64, .int 0, P_un, P_un, P_un], [.int 0, .int 0], (P_hv132 xs 5))) P_i0_33 (fun _ => rfl) ?_
  refine P_wp_icf P_i0_34 P_b18 (show P_wp P_Y0 200 0 (37, [.ref 0, .ref 2, .ref 47, .ref 63, .ref 64, .int 0, P_un, P_un, P_un], [], (P_hv132 xs 5)) _ from ?_)
  refine P_wp_step (S' := (38, [.ref 0, .ref 2, .ref 47, .ref 63, .ref 64, .int 0, P_un, P_un, P_un], [.ref 0], (P_hv132 xs 5))) P_i0_37 (fun _ => rfl) ?_
  refine P_wp_step (S' := (40, [.ref 0, .ref 2, .ref 47, .ref 63, .ref 64, .int 0, P_un, P_un, P_un], [.int 0, .ref 0], (P_hv132 xs 5))) P_i0_38 (fun _ => rfl) ?_
  refine P_wp_step (S' := (41, [.ref 0, .ref 2, .ref 47, .ref 63, .ref 64, .int 0, P_un, P_un, P_un], [.int (xs 0)], (P_hv132 xs 5))) P_i0_40 (fun _ => rfl) ?_
  refine P_wp_step (S' := (43, [.ref 0, .ref 2, .ref 47, .ref 63, .ref 64, .int 0, P_un, P_un, P_un], [.int 31, .int (xs 0)], (P_hv132 xs 5))) P_i0_41 (fun _ => rfl) ?_
  refine P_wp_step (S' := (44, [.ref 0, .ref 2, .ref 47, .ref 63, .ref 64, .int 0, P_un, P_un, P_un], [.int (xs 0 &&& 31)], (P_hv132 xs 5))) P_i0_43 (fun _ => rfl) ?_
  refine P_sw_at hsw (show P_wp P_Y0 200 0 (44, [.ref 0, .ref 2, .ref 47, .ref 63, .ref 64, .int 0, P_un, P_un, P_un], [.int 21], (P_hv132 xs 5)) _ from ?_)
  refine P_wp_step (S' := (1250, [.ref 0, .ref 2, .ref 47, .ref 63, .ref 64, .int 0, P_un, P_un, P_un], [], (P_hv132 xs 5))) P_i0_44 (fun _ => P_do_sw (by decide +kernel)) ?_
  refine P_wp_step (S' := (1251, [.ref 0, .ref 2, .ref 47, .ref 63, .ref 64, .int 0, P_un, P_un, P_un], [.ref 2], (P_hv132 xs 5))) P_i0_1250 (fun _ => rfl) ?_
  refine P_wp_step (S' := (1252, [.ref 0, .ref 2, .ref 47, .ref 63, .ref 64, .int 0, P_un, P_un, P_un], [.ref 63, .ref 2], (P_hv132 xs 5))) P_i0_1251 (fun _ => rfl) ?_
  refine P_wp_call P_i0_1252 rfl rfl rfl rfl rfl rfl rfl (y2 := 288) (as := [.ref 2, .ref 63]) (r0 := []) rfl (Nat.le_of_ble_eq_true rfl) (by decide) rfl (Nat.le_of_ble_eq_true rfl) (P_x239 xs 5 (?_))
  show P_wp P_Y0 200 0 (1255, [.ref 0, .ref 2, .ref 47, .ref 63, .ref 64, .int 0, P_un, P_un, P_un], [.int 1], (P_hv134 xs 5)) _
  refine P_wp_step (S' := (1257, [.ref 0, .ref 2, .ref 47, .ref 63, .ref 64, .int 0, .int 1, P_un, P_un], [], (P_hv134 xs 5))) P_i0_1255 (fun _ => rfl) ?_
  refine P_wp_step (S' := (1258, [.ref 0, .ref 2, .ref 47, .ref 63, .ref 64, .int 0, .int 1, P_un, P_un], [.ref 47], (P_hv134 xs 5))) P_i0_1257 (fun _ => rfl) ?_
  refine P_wp_call P_i0_1258 rfl rfl rfl rfl rfl rfl rfl (y2 := 262) (as := [.ref 47]) (r0 := []) rfl (Nat.le_of_ble_eq_true rfl) (by decide) rfl (Nat.le_of_ble_eq_true rfl) (P_x240 xs 5 (?_))
  show P_wp P_Y0 200 0 (1261, [.ref 0, .ref 2, .ref 47, .ref 63, .ref 64, .int 0, .int 1, P_un, P_un], [.int 0], (P_hv135 xs 5)) _
  refine P_wp_step (S' := (1263, [.ref 0, .ref 2, .ref 47, .ref 63, .ref 64, .int 0, .int 1, .int 0, P_un], [], (P_hv135 xs 5))) P_i0_1261 (fun _ => rfl) ?_
  refine P_wp_step (S' := (1264, [.ref 0, .ref 2, .ref 47, .ref 63, .ref 64, .int 0, .int 1, .int 0, P_un], [.ref 47], (P_hv135 xs 5))) P_i0_1263 (fun _ => rfl) ?_
  refine P_wp_call P_i0_1264 rfl rfl rfl rfl rfl rfl rfl (y2 := 183) (as := [.ref 47]) (r0 := []) rfl (Nat.le_of_ble_eq_true rfl) (by decide) rfl (Nat.le_of_ble_eq_true rfl) (P_x32 xs 5 (?_))
  show P_wp P_Y0 200 0 (1267, [.ref 0, .ref 2, .ref 47, .ref 63, .ref 64, .int 0, .int 1, .int 0, P_un], [.int 1], (P_hv135 xs 5)) _
  refine P_wp_step (S' := (1269, [.ref 0, .ref 2, .ref 47, .ref 63, .ref 64, .int 0, .int 1, .int 0, P_un], [.int 1, .int 1], (P_hv135 xs 5))) P_i0_1267 (fun _ => rfl) ?_
  refine P_wp_ict P_i0_1269 P_b20 (show P_wp P_Y0 200 0 (1274, [.ref 0, .ref 2, .ref 47, .ref 63, .ref 64, .int 0, .int 1, .int 0, P_un], [], (P_hv135 xs 5)) _ from ?_)
  refine P_wp_step (S' := (1276, [.ref 0, .ref 2, .ref 47, .ref 63, .ref 64, .int 0, .int 1, .int 0, P_un], [.int 1], (P_hv135 xs 5))) P_i0_1274 (fun _ => rfl) ?_
  refine P_wp_izt P_i0_1276 P_b21 (show P_wp P_Y0 200 0 (1291, [.ref 0, .ref 2, .ref 47, .ref 63, .ref 64, .int 0, .int 1, .int 0, P_un], [], (P_hv135 xs 5)) _ from ?_)
  refine P_wp_step (S' := (1553, [.ref 0, .ref 2, .ref 47, .ref 63, .ref 64, .int 0, .int 1, .int 0, P_un], [], (P_hv135 xs 5))) P_i0_1291 (fun _ => rfl) ?_
  refine P_wp_step (S' := (1556, [.ref 0, .ref 2, .ref 47, .ref 63, .ref 64, .int 5, .int 1, .int 0, P_un], [], (P_hv135 xs 5))) P_i0_1553 (fun _ => rfl) ?_
  refine P_wp_step (S' := (28, [.ref 0, .ref 2, .ref 47, .ref 63, .ref 64, .int 5, P_un, P_un, P_un], [], (P_hv135 xs 5))) P_i0_1556 (fun _ => rfl) ?_
  refine P_wp_step (S' := (30, [.ref 0, .ref 2, .ref 47, .ref 63, .ref 64, .int 5, P_un, P_un, P_un], [.int 5], (P_hv135 xs 5))) P_i0_28 (fun _ => rfl) ?_
  refine P_wp_step (S' := (31, [.ref 0, .ref 2, .ref 47, .ref 63, .ref 64, .int 5, P_un, P_un, P_un], [.ref 0, .int 5], (P_hv135 xs 5))) P_i0_30 (fun _ => rfl) ?_
  refine P_wp_step (S' := (32, [.ref 0, .ref 2, .ref 47, .ref 63, .ref 64, .int 5, P_un, P_un, P_un], [.int 5, .int 5], (P_hv135 xs 5))) P_i0_31 (fun _ => rfl) ?_
  refine P_wp_step (S' := (33, [.ref 0, .ref 2, .ref 47, .ref 63, .ref 64, .int 5, P_un, P_un, P_un], [.int 5, .int 5, .int 5], (P_hv135 xs 5))) P_i0_32 (fun _ => rfl) ?_
  refine P_wp_step (S' := (34, [.ref 0, .ref 2, .ref 47, .ref 63, .ref 64, .int 5, P_un, P_un, P_un], [.int 0, .int 5], (P_hv135 xs 5))) P_i0_33 (fun _ => rfl) ?_
  refine P_wp_ict P_i0_34 P_b22 (show P_wp P_Y0 200 0 (1559, [.ref 0, .ref 2, .ref 47, .ref 63, .ref 64, .int 5, P_un, P_un, P_un], [], (P_hv135 xs 5)) _ from ?_)
  refine P_wp_step (S' := (1560, [.ref 0, .ref 2, .ref 47, .ref 63, .ref 64, .int 5, P_un, P_un, P_un], [.int 1], (P_hv135 xs 5))) P_i0_1559 (fun _ => rfl) ?_
  refine P_wp_end (x := (.inl (some (.int 1)), (P_hv135 xs 5))) P_i0_1560 (fun _ => rfl) ?_
  exact ⟨rfl, Nat.le_of_ble_eq_true rfl, Nat.le_of_ble_eq_true rfl⟩

set_option maxRecDepth 20000 in
theorem P_pa39 (xs : Nat → Int32) (hsw : xs 0 &&& 31 = 22) : P_wp P_Y0 200 0 (28, [.ref 0, .ref 2, .ref 47, .ref 63, .ref 64, .int 0, P_un, P_un, P_un], [], (P_hv132 xs 5)) (fun r h => r = .inl (some (.int 1)) ∧ h.2.1 ≤ 600002 ∧ h.2.2 ≤ 7302232) := by
  refine P_wp_step (S' := (30, [.ref 0, .ref 2, .ref 47, .ref 63, .ref 64, .int 0, P_un, P_un, P_un], [.int 0], (P_hv132 xs 5))) P_i0_28 (fun _ => rfl) ?_
  refine P_wp_step (S' := (31, [.ref 0, .ref 2, .ref 47, .ref 63, .ref 64, .int 0, P_un, P_un, P_un], [.ref 0, .int 0], (P_hv132 xs 5))) P_i0_30 (fun _ => rfl) ?_
  refine P_wp_step (S' := (32, [.ref 0, .ref 2, .ref 47, .ref 63, .ref 64, .int 0, P_un, P_un, P_un], [.int 5, .int 0], (P_hv132 xs 5))) P_i0_31 (fun _ => rfl) ?_
  refine P_wp_step (S' := (33, [.ref 0, .ref 2, .ref 47, .ref 63, .ref 64, .int 0, P_un, P_un, P_un], [.int 5, .int 5, .int 0], (P_hv132 xs 5))) P_i0_32 (fun _ => rfl) ?_
  refine P_wp_step (S' := (34, [.ref 0, .ref 2, .ref 47, .ref 63, .ref 64, .int 0, P_un, P_un, P_un], [.int 0, .int 0], (P_hv132 xs 5))) P_i0_33 (fun _ => rfl) ?_
  refine P_wp_icf P_i0_34 P_b18 (show P_wp P_Y0 200 0 (37, [.ref 0, .ref 2, .ref 47, .ref 63, .ref 64, .int 0, P_un, P_un, P_un], [], (P_hv132 xs 5)) _ from ?_)
  refine P_wp_step (S' := (38, [.ref 0, .ref 2, .ref 47, .ref 63, .ref 64, .int 0, P_un, P_un, P_un], [.ref 0], (P_hv132 xs 5))) P_i0_37 (fun _ => rfl) ?_
  refine P_wp_step (S' := (40, [.ref 0, .ref 2, .ref 47, .ref 63, .ref 64, .int 0, P_un, P_un, P_un], [.int 0, .ref 0], (P_hv132 xs 5))) P_i0_38 (fun _ => rfl) ?_
  refine P_wp_step (S' := (41, [.ref 0, .ref 2, .ref 47, .ref 63, .ref 64, .int 0, P_un, P_un, P_un], [.int (xs 0)], (P_hv132 xs 5))) P_i0_40 (fun _ => rfl) ?_
  refine P_wp_step (S' := (43, [.ref 0, .ref 2, .ref 47, .ref 63, .ref 64, .int 0, P_un, P_un, P_un], [.int 31, .int (xs 0)], (P_hv132 xs 5))) P_i0_41 (fun _ => rfl) ?_
  refine P_wp_step (S' := (44, [.ref 0, .ref 2, .ref 47, .ref 63, .ref 64, .int 0, P_un, P_un, P_un], [.int (xs 0 &&& 31)], (P_hv132 xs 5))) P_i0_43 (fun _ => rfl) ?_
  refine P_sw_at hsw (show P_wp P_Y0 200 0 (44, [.ref 0, .ref 2, .ref 47, .ref 63, .ref 64, .int 0, P_un, P_un, P_un], [.int 22], (P_hv132 xs 5)) _ from ?_)
  refine P_wp_step (S' := (1294, [.ref 0, .ref 2, .ref 47, .ref 63, .ref 64, .int 0, P_un, P_un, P_un], [], (P_hv132 xs 5))) P_i0_44 (fun _ => P_do_sw (by decide +kernel)) ?_
  refine P_wp_step (S' := (1295, [.ref 0, .ref 2, .ref 47, .ref 63, .ref 64, .int 0, P_un, P_un, P_un], [.ref 2], (P_hv132 xs 5))) P_i0_1294 (fun _ => rfl) ?_
  refine P_wp_step (S' := (1296, [.ref 0, .ref 2, .ref 47, .ref 63, .ref 64, .int 0, P_un, P_un, P_un], [.ref 0, .ref 2], (P_hv132 xs 5))) P_i0_1295 (fun _ => rfl) ?_
  refine P_wp_step (S' := (1298, [.ref 0, .ref 2, .ref 47, .ref 63, .ref 64, .int 0, P_un, P_un, P_un], [.int 0, .ref 0, .ref 2], (P_hv132 xs 5))) P_i0_1296 (fun _ => rfl) ?_
  refine P_wp_step (S' := (1299, [.ref 0, .ref 2, .ref 47, .ref 63, .ref 64, .int 0, P_un, P_un, P_un], [.int 1, .int 0, .ref 0, .ref 2], (P_hv132 xs 5))) P_i0_1298 (fun _ => rfl) ?_
  refine P_wp_step (S' := (1300, [.ref 0, .ref 2, .ref 47, .ref 63, .ref 64, .int 0, P_un, P_un, P_un], [.int 1, .ref 0, .ref 2], (P_hv132 xs 5))) P_i0_1299 (fun _ => rfl) ?_
  refine P_wp_step (S' := (1301, [.ref 0, .ref 2, .ref 47, .ref 63, .ref 64, .int 0, P_un, P_un, P_un], [.int (xs 1), .ref 2], (P_hv132 xs 5))) P_i0_1300 (fun _ => rfl) ?_
  refine P_wp_step (S' := (1302, [.ref 0, .ref 2, .ref 47, .ref 63, .ref 64, .int 0, P_un, P_un, P_un], [.ref 0, .int (xs 1), .ref 2], (P_hv132 xs 5))) P_i0_1301 (fun _ => rfl) ?_
  refine P_wp_step (S' := (1304, [.ref 0, .ref 2, .ref 47, .ref 63, .ref 64, .int 0, P_un, P_un, P_un], [.int 0, .ref 0, .int (xs 1), .ref 2], (P_hv132 xs 5))) P_i0_1302 (fun _ => rfl) ?_
  refine P_wp_step (S' := (1305, [.ref 0, .ref 2, .ref 47, .ref 63, .ref 64, .int 0, P_un, P_un, P_un], [.int 2, .int 0, .ref 0, .int (xs 1), .ref 2], (P_hv132 xs 5))) P_i0_1304 (fun _ => rfl) ?_
  refine P_wp_step (S' := (1306, [.ref 0, .ref 2, .ref 47, .ref 63, .ref 64, .int 0, P_un, P_un, P_un], [.int 2, .ref 0, .int (xs 1), .ref 2], (P_hv132 xs 5))) P_i0_1305 (fun _ => rfl) ?_
  refine P_wp_step (S' := (1307, [.ref 0, .ref 2, .ref 47, .ref 63, .ref 64, .int 0, P_un, P_un, P_un], [.int (xs 2), .int (xs 1), .ref 2], (P_hv132 xs 5))) P_i0_1306 (fun _ => rfl) ?_
  refine P_wp_step (S' := (1308, [.ref 0, .ref 2, .ref 47, .ref 63, .ref 64, .int 0, P_un, P_un, P_un], [.ref 63, .int (xs 2), .int (xs 1), .ref 2], (P_hv132 xs 5))) P_i0_1307 (fun _ => rfl) ?_
  refine P_wp_call P_i0_1308 rfl rfl rfl rfl rfl rfl rfl (y2 := 289) (as := [.ref 2, .int (xs 1), .int (xs 2), .ref 63]) (r0 := []) rfl (Nat.le_of_ble_eq_true rfl) (by decide) rfl (Nat.le_of_ble_eq_true rfl) (P_x242 xs 5 (?_))
  show P_wp P_Y0 200 0 (1311, [.ref 0, .ref 2, .ref 47, .ref 63, .ref 64, .int 0, P_un, P_un, P_un], [.int 1], (P_hv134 xs 5)) _
  refine P_wp_step (S' := (1313, [.ref 0, .ref 2, .ref 47, .ref 63, .ref 64, .int 0, .int 1, P_un, P_un], [], (P_hv134 xs 5))) P_i0_1311 (fun _ => rfl) ?_
  refine P_wp_step (S' := (1314, [.ref 0, .ref 2, .ref 47, .ref 63, .ref 64, .int 0, .int 1, P_un, P_un], [.ref 47], (P_hv134 xs 5))) P_i0_1313 (fun _ => rfl) ?_
  refine P_wp_step (S' := (1315, [.ref 0, .ref 2, .ref 47, .ref 63, .ref 64, .int 0, .int 1, P_un, P_un], [.ref 0, .ref 47], (P_hv134 xs 5))) P_i0_1314 (fun _ => rfl) ?_
  refine P_wp_step (S' := (1317, [.ref 0, .ref 2, .ref 47, .ref 63, .ref 64, .int 0, .int 1, P_un, P_un], [.int 0, .ref 0, .ref 47], (P_hv134 xs 5))) P_i0_1315 (fun _ => rfl) ?_
  refine P_wp_step (S' := (1318, [.ref 0, .ref 2, .ref 47, .ref 63, .ref 64, .int 0, .int 1, P_un, P_un], [.int 1, .int 0, .ref 0, .ref 47], (P_hv134 xs 5))) P_i0_1317 (fun _ => rfl) ?_
  refine P_wp_step (S' := (1319, [.ref 0, .ref 2, .ref 47, .ref 63, .ref 64, .int 0, .int 1, P_un, P_un], [.int 1, .ref 0, .ref 47], (P_hv134 xs 5))) P_i0_1318 (fun _ => rfl) ?_
  refine P_wp_step (S' := (1320, [.ref 0, .ref 2, .ref 47, .ref 63, .ref 64, .int 0, .int 1, P_un, P_un], [.int (xs 1), .ref 47], (P_hv134 xs 5))) P_i0_1319 (fun _ => rfl) ?_
  refine P_wp_step (S' := (1321, [.ref 0, .ref 2, .ref 47, .ref 63, .ref 64, .int 0, .int 1, P_un, P_un], [.ref 0, .int (xs 1), .ref 47], (P_hv134 xs 5))) P_i0_1320 (fun _ => rfl) ?_
  refine P_wp_step (S' := (1323, [.ref 0, .ref 2, .ref 47, .ref 63, .ref 64, .int 0, .int 1, P_un, P_un], [.int 0, .ref 0, .int (xs 1), .ref 47], (P_hv134 xs 5))) P_i0_1321 (fun _ => rfl) ?_
  refine P_wp_step (S' := (1324, [.ref 0, .ref 2, .ref 47, .ref 63, .ref 64, .int 0, .int 1, P_un, P_un], [.int 2, .int 0, .ref 0, .int (xs 1), .ref 47], (P_hv134 xs 5))) P_i0_1323 (fun _ => rfl) ?_
  refine P_wp_step (S' := (1325, [.ref 0, .ref 2, .ref 47, .ref 63, .ref 64, .int 0, .int 1, P_un, P_un], [.int 2, .ref 0, .int (xs 1), .ref 47], (P_hv134 xs 5))) P_i0_1324 (fun _ => rfl) ?_
  refine P_wp_step (S' := (1326, [.ref 0, .ref 2, .ref 47, .ref 63, .ref 64, .int 0, .int 1, P_un, P_un], [.int (xs 2), .int (xs 1), .ref 47], (P_hv134 xs 5))) P_i0_1325 (fun _ => rfl) ?_
  refine P_wp_call P_i0_1326 rfl rfl rfl rfl rfl rfl rfl (y2 := 263) (as := [.ref 47, .int (xs 1), .int (xs 2)]) (r0 := []) rfl (Nat.le_of_ble_eq_true rfl) (by decide) rfl (Nat.le_of_ble_eq_true rfl) (P_x243 xs 5 (?_))
  show P_wp P_Y0 200 0 (1329, [.ref 0, .ref 2, .ref 47, .ref 63, .ref 64, .int 0, .int 1, P_un, P_un], [.int 0], (P_hv135 xs 5)) _
  refine P_wp_step (S' := (1331, [.ref 0, .ref 2, .ref 47, .ref 63, .ref 64, .int 0, .int 1, .int 0, P_un], [], (P_hv135 xs 5))) P_i0_1329 (fun _ => rfl) ?_
  refine P_wp_step (S' := (1332, [.ref 0, .ref 2, .ref 47, .ref 63, .ref 64, .int 0, .int 1, .int 0, P_un], [.ref 47], (P_hv135 xs 5))) P_i0_1331 (fun _ => rfl) ?_
  refine P_wp_call P_i0_1332 rfl rfl rfl rfl rfl rfl rfl (y2 := 183) (as := [.ref 47]) (r0 := []) rfl (Nat.le_of_ble_eq_true rfl) (by decide) rfl (Nat.le_of_ble_eq_true rfl) (P_x32 xs 5 (?_))
  show P_wp P_Y0 200 0 (1335, [.ref 0, .ref 2, .ref 47, .ref 63, .ref 64, .int 0, .int 1, .int 0, P_un], [.int 1], (P_hv135 xs 5)) _
  refine P_wp_step (S' := (1337, [.ref 0, .ref 2, .ref 47, .ref 63, .ref 64, .int 0, .int 1, .int 0, P_un], [.int 1, .int 1], (P_hv135 xs 5))) P_i0_1335 (fun _ => rfl) ?_
  refine P_wp_ict P_i0_1337 P_b20 (show P_wp P_Y0 200 0 (1342, [.ref 0, .ref 2, .ref 47, .ref 63, .ref 64, .int 0, .int 1, .int 0, P_un], [], (P_hv135 xs 5)) _ from ?_)
  refine P_wp_step (S' := (1344, [.ref 0, .ref 2, .ref 47, .ref 63, .ref 64, .int 0, .int 1, .int 0, P_un], [.int 1], (P_hv135 xs 5))) P_i0_1342 (fun _ => rfl) ?_
  refine P_wp_izt P_i0_1344 P_b21 (show P_wp P_Y0 200 0 (1359, [.ref 0, .ref 2, .ref 47, .ref 63, .ref 64, .int 0, .int 1, .int 0, P_un], [], (P_hv135 xs 5)) _ from ?_)
  refine P_wp_step (S' := (1553, [.ref 0, .ref 2, .ref 47, .ref 63, .ref 64, .int 0, .int 1, .int 0, P_un], [], (P_hv135 xs 5))) P_i0_1359 (fun _ => rfl) ?_
  refine P_wp_step (S' := (1556, [.ref 0, .ref 2, .ref 47, .ref 63, .ref 64, .int 5, .int 1, .int 0, P_un], [], (P_hv135 xs 5))) P_i0_1553 (fun _ => rfl) ?_
  refine P_wp_step (S' := (28, [.ref 0, .ref 2, .ref 47, .ref 63, .ref 64, .int 5, P_un, P_un, P_un], [], (P_hv135 xs 5))) P_i0_1556 (fun _ => rfl) ?_
  refine P_wp_step (S' := (30, [.ref 0, .ref 2, .ref 47, .ref 63, .ref 64, .int 5, P_un, P_un, P_un], [.int 5], (P_hv135 xs 5))) P_i0_28 (fun _ => rfl) ?_
  refine P_wp_step (S' := (31, [.ref 0, .ref 2, .ref 47, .ref 63, .ref 64, .int 5, P_un, P_un, P_un], [.ref 0, .int 5], (P_hv135 xs 5))) P_i0_30 (fun _ => rfl) ?_
  refine P_wp_step (S' := (32, [.ref 0, .ref 2, .ref 47, .ref 63, .ref 64, .int 5, P_un, P_un, P_un], [.int 5, .int 5], (P_hv135 xs 5))) P_i0_31 (fun _ => rfl) ?_
  refine P_wp_step (S' := (33, [.ref 0, .ref 2, .ref 47, .ref 63, .ref 64, .int 5, P_un, P_un, P_un], [.int 5, .int 5, .int 5], (P_hv135 xs 5))) P_i0_32 (fun _ => rfl) ?_
  refine P_wp_step (S' := (34, [.ref 0, .ref 2, .ref 47, .ref 63, .ref 64, .int 5, P_un, P_un, P_un], [.int 0, .int 5], (P_hv135 xs 5))) P_i0_33 (fun _ => rfl) ?_
  refine P_wp_ict P_i0_34 P_b22 (show P_wp P_Y0 200 0 (1559, [.ref 0, .ref 2, .ref 47, .ref 63, .ref 64, .int 5, P_un, P_un, P_un], [], (P_hv135 xs 5)) _ from ?_)
  refine P_wp_step (S' := (1560, [.ref 0, .ref 2, .ref 47, .ref 63, .ref 64, .int 5, P_un, P_un, P_un], [.int 1], (P_hv135 xs 5))) P_i0_1559 (fun _ => rfl) ?_
  refine P_wp_end (x := (.inl (some (.int 1)), (P_hv135 xs 5))) P_i0_1560 (fun _ => rfl) ?_
  exact ⟨rfl, Nat.le_of_ble_eq_true rfl, Nat.le_of_ble_eq_true rfl⟩
