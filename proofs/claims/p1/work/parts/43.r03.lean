/-! p1: runs, written by wip/p1.py -/
set_option maxRecDepth 20000 in
theorem P_x265 (xs : Nat → Int32) (L : Nat) {Q : P_R → P_H → Prop} (q : Q (.inl (some (.long 51551538814565))) (P_hv132 xs L)) : P_wp P_Y0 198 171 (0, [.long 1662952864986, P_un, .long (-1), P_un], [], (P_hv132 xs L)) Q := by
  refine P_wp_step (S' := (1, [.long 1662952864986, P_un, .long (-1), P_un], [.long 1662952864986], (P_hv132 xs L))) P_i171_0 (fun _ => rfl) ?_
  refine P_wp_step (S' := (4, [.long 1662952864986, P_un, .long (-1), P_un], [.long 31, .long 1662952864986], (P_hv132 xs L))) P_i171_1 (fun _ => rfl) ?_
  refine P_wp_step (S' := (5, [.long 1662952864986, P_un, .long (-1), P_un], [.long 51551538814566], (P_hv132 xs L))) P_i171_4 (fun _ => rfl) ?_
  refine P_wp_step (S' := (6, [.long 1662952864986, P_un, .long (-1), P_un], [.long (-1), .long 51551538814566], (P_hv132 xs L))) P_i171_5 (fun _ => rfl) ?_
  refine P_wp_step (S' := (7, [.long 1662952864986, P_un, .long (-1), P_un], [.long 51551538814565], (P_hv132 xs L))) P_i171_6 (fun _ => rfl) ?_
  refine P_wp_end (x := (.inl (some (.long 51551538814565)), (P_hv132 xs L))) P_i171_7 (fun _ => rfl) ?_
  exact q

set_option maxRecDepth 20000 in
theorem P_x266 (xs : Nat → Int32) (L : Nat) {Q : P_R → P_H → Prop} (q : Q (.inl (some (.int 0))) (P_hv132 xs L)) : P_wp P_Y0 198 92 (0, [.ref 31], [], (P_hv132 xs L)) Q := by
  refine P_wp_step (S' := (1, [.ref 31], [.ref 31], (P_hv132 xs L))) P_i92_0 (fun _ => rfl) ?_
  refine P_wp_step (S' := (4, [.ref 31], [.int 0], (P_hv132 xs L))) P_i92_1 (fun _ => rfl) ?_
  refine P_wp_end (x := (.inl (some (.int 0)), (P_hv132 xs L))) P_i92_4 (fun _ => rfl) ?_
  exact q

set_option maxRecDepth 20000 in
theorem P_x267 (xs : Nat → Int32) (L : Nat) {Q : P_R → P_H → Prop} (q : Q (.inl (some (.long 51551538814565))) (P_hv132 xs L)) : P_wp P_Y0 199 164 (0, [.ref 2, P_un, P_un, P_un], [], (P_hv132 xs L)) Q := by
  refine P_wp_step (S' := (3, [.ref 2, P_un, P_un, P_un], [.long 58086], (P_hv132 xs L))) P_i164_0 (fun _ => rfl) ?_
  refine P_wp_step (S' := (4, [.ref 2, .long 58086, P_un, P_un], [], (P_hv132 xs L))) P_i164_3 (fun _ => rfl) ?_
  refine P_wp_step (S' := (5, [.ref 2, .long 58086, P_un, P_un], [.int 0], (P_hv132 xs L))) P_i164_4 (fun _ => rfl) ?_
  refine P_wp_step (S' := (6, [.ref 2, .long 58086, P_un, .int 0], [], (P_hv132 xs L))) P_i164_5 (fun _ => rfl) ?_
  refine P_wp_step (S' := (7, [.ref 2, .long 58086, P_un, .int 0], [.int 0], (P_hv132 xs L))) P_i164_6 (fun _ => rfl) ?_
  refine P_wp_step (S' := (8, [.ref 2, .long 58086, P_un, .int 0], [.int 4, .int 0], (P_hv132 xs L))) P_i164_7 (fun _ => rfl) ?_
  refine P_wp_icf P_i164_8 P_b45 (show P_wp P_Y0 199 164 (11, [.ref 2, .long 58086, P_un, .int 0], [], (P_hv132 xs L)) _ from ?_)
  refine P_wp_step (S' := (12, [.ref 2, .long 58086, P_un, .int 0], [.long 58086], (P_hv132 xs L))) P_i164_11 (fun _ => rfl) ?_
  refine P_wp_step (S' := (13, [.ref 2, .long 58086, P_un, .int 0], [.ref 2, .long 58086], (P_hv132 xs L))) P_i164_12 (fun _ => rfl) ?_
  refine P_wp_step (S' := (14, [.ref 2, .long 58086, P_un, .int 0], [.int 0, .ref 2, .long 58086], (P_hv132 xs L))) P_i164_13 (fun _ => rfl) ?_
  refine P_wp_call P_i164_14 rfl rfl rfl rfl rfl rfl rfl (y2 := 168) (as := [.ref 2, .int 0]) (r0 := [.long 58086]) rfl (Nat.le_of_ble_eq_true rfl) (by decide) rfl (Nat.le_of_ble_eq_true rfl) (P_x253 xs L (?_))
  show P_wp P_Y0 199 164 (17, [.ref 2, .long 58086, P_un, .int 0], [.int 0, .long 58086], (P_hv132 xs L)) _
  refine P_wp_step (S' := (18, [.ref 2, .long 58086, P_un, .int 0], [.long 0, .long 58086], (P_hv132 xs L))) P_i164_17 (fun _ => rfl) ?_
  refine P_wp_call P_i164_18 rfl rfl rfl rfl rfl rfl rfl (y2 := 171) (as := [.long 58086, .long 0]) (r0 := []) rfl (Nat.le_of_ble_eq_true rfl) (by decide) rfl (Nat.le_of_ble_eq_true rfl) (P_x254 xs L (?_))
  show P_wp P_Y0 199 164 (21, [.ref 2, .long 58086, P_un, .int 0], [.long 1800666], (P_hv132 xs L)) _
  refine P_wp_step (S' := (22, [.ref 2, .long 1800666, P_un, .int 0], [], (P_hv132 xs L))) P_i164_21 (fun _ => rfl) ?_
  refine P_wp_step (S' := (25, [.ref 2, .long 1800666, P_un, .int 1], [], (P_hv132 xs L))) P_i164_22 (fun _ => rfl) ?_
  refine P_wp_step (S' := (6, [.ref 2, .long 1800666, P_un, .int 1], [], (P_hv132 xs L))) P_i164_25 (fun _ => rfl) ?_
  refine P_wp_step (S' := (7, [.ref 2, .long 1800666, P_un, .int 1], [.int 1], (P_hv132 xs L))) P_i164_6 (fun _ => rfl) ?_
  refine P_wp_step (S' := (8, [.ref 2, .long 1800666, P_un, .int 1], [.int 4, .int 1], (P_hv132 xs L))) P_i164_7 (fun _ => rfl) ?_
  refine P_wp_icf P_i164_8 P_b46 (show P_wp P_Y0 199 164 (11, [.ref 2, .long 1800666, P_un, .int 1], [], (P_hv132 xs L)) _ from ?_)
  refine P_wp_step (S' := (12, [.ref 2, .long 1800666, P_un, .int 1], [.long 1800666], (P_hv132 xs L))) P_i164_11 (fun _ => rfl) ?_
  refine P_wp_step (S' := (13, [.ref 2, .long 1800666, P_un, .int 1], [.ref 2, .long 1800666], (P_hv132 xs L))) P_i164_12 (fun _ => rfl) ?_
  refine P_wp_step (S' := (14, [.ref 2, .long 1800666, P_un, .int 1], [.int 1, .ref 2, .long 1800666], (P_hv132 xs L))) P_i164_13 (fun _ => rfl) ?_
  refine P_wp_call P_i164_14 rfl rfl rfl rfl rfl rfl rfl (y2 := 168) (as := [.ref 2, .int 1]) (r0 := [.long 1800666]) rfl (Nat.le_of_ble_eq_true rfl) (by decide) rfl (Nat.le_of_ble_eq_true rfl) (P_x255 xs L (?_))
  show P_wp P_Y0 199 164 (17, [.ref 2, .long 1800666, P_un, .int 1], [.int 0, .long 1800666], (P_hv132 xs L)) _
  refine P_wp_step (S' := (18, [.ref 2, .long 1800666, P_un, .int 1], [.long 0, .long 1800666], (P_hv132 xs L))) P_i164_17 (fun _ => rfl) ?_
  refine P_wp_call P_i164_18 rfl rfl rfl rfl rfl rfl rfl (y2 := 171) (as := [.long 1800666, .long 0]) (r0 := []) rfl (Nat.le_of_ble_eq_true rfl) (by decide) rfl (Nat.le_of_ble_eq_true rfl) (P_x256 xs L (?_))
  show P_wp P_Y0 199 164 (21, [.ref 2, .long 1800666, P_un, .int 1], [.long 55820646], (P_hv132 xs L)) _
  refine P_wp_step (S' := (22, [.ref 2, .long 55820646, P_un, .int 1], [], (P_hv132 xs L))) P_i164_21 (fun _ => rfl) ?_
  refine P_wp_step (S' := (25, [.ref 2, .long 55820646, P_un, .int 2], [], (P_hv132 xs L))) P_i164_22 (fun _ => rfl) ?_
  refine P_wp_step (S' := (6, [.ref 2, .long 55820646, P_un, .int 2], [], (P_hv132 xs L))) P_i164_25 (fun _ => rfl) ?_
  refine P_wp_step (S' := (7, [.ref 2, .long 55820646, P_un, .int 2], [.int 2], (P_hv132 xs L))) P_i164_6 (fun _ => rfl) ?_
  refine P_wp_step (S' := (8, [.ref 2, .long 55820646, P_un, .int 2], [.int 4, .int 2], (P_hv132 xs L))) P_i164_7 (fun _ => rfl) ?_
  refine P_wp_icf P_i164_8 P_b48 (show P_wp P_Y0 199 164 (11, [.ref 2, .long 55820646, P_un, .int 2], [], (P_hv132 xs L)) _ from ?_)
  refine P_wp_step (S' := (12, [.ref 2, .long 55820646, P_un, .int 2], [.long 55820646], (P_hv132 xs L))) P_i164_11 (fun _ => rfl) ?_
  refine P_wp_step (S' := (13, [.ref 2, .long 55820646, P_un, .int 2], [.ref 2, .long 55820646], (P_hv132 xs L))) P_i164_12 (fun _ => rfl) ?_
  refine P_wp_step (S' := (14, [.ref 2, .long 55820646, P_un, .int 2], [.int 2, .ref 2, .long 55820646], (P_hv132 xs L))) P_i164_13 (fun _ => rfl) ?_
  refine P_wp_call P_i164_14 rfl rfl rfl rfl rfl rfl rfl (y2 := 168) (as := [.ref 2, .int 2]) (r0 := [.long 55820646]) rfl (Nat.le_of_ble_eq_true rfl) (by decide) rfl (Nat.le_of_ble_eq_true rfl) (P_x258 xs L (?_))
  show P_wp P_Y0 199 164 (17, [.ref 2, .long 55820646, P_un, .int 2], [.int 0, .long 55820646], (P_hv132 xs L)) _
  refine P_wp_step (S' := (18, [.ref 2, .long 55820646, P_un, .int 2], [.long 0, .long 55820646], (P_hv132 xs L))) P_i164_17 (fun _ => rfl) ?_
  refine P_wp_call P_i164_18 rfl rfl rfl rfl rfl rfl rfl (y2 := 171) (as := [.long 55820646, .long 0]) (r0 := []) rfl (Nat.le_of_ble_eq_true rfl) (by decide) rfl (Nat.le_of_ble_eq_true rfl) (P_x259 xs L (?_))
  show P_wp P_Y0 199 164 (21, [.ref 2, .long 55820646, P_un, .int 2], [.long 1730440026], (P_hv132 xs L)) _
  refine P_wp_step (S' := (22, [.ref 2, .long 1730440026, P_un, .int 2], [], (P_hv132 xs L))) P_i164_21 (fun _ => rfl) ?_
  refine P_wp_step (S' := (25, [.ref 2, .long 1730440026, P_un, .int 3], [], (P_hv132 xs L))) P_i164_22 (fun _ => rfl) ?_
  refine P_wp_step (S' := (6, [.ref 2, .long 1730440026, P_un, .int 3], [], (P_hv132 xs L))) P_i164_25 (fun _ => rfl) ?_
  refine P_wp_step (S' := (7, [.ref 2, .long 1730440026, P_un, .int 3], [.int 3], (P_hv132 xs L))) P_i164_6 (fun _ => rfl) ?_
  refine P_wp_step (S' := (8, [.ref 2, .long 1730440026, P_un, .int 3], [.int 4, .int 3], (P_hv132 xs L))) P_i164_7 (fun _ => rfl) ?_
  refine P_wp_icf P_i164_8 P_b51 (show P_wp P_Y0 199 164 (11, [.ref 2, .long 1730440026, P_un, .int 3], [], (P_hv132 xs L)) _ from ?_)
  refine P_wp_step (S' := (12, [.ref 2, .long 1730440026, P_un, .int 3], [.long 1730440026], (P_hv132 xs L))) P_i164_11 (fun _ => rfl) ?_
  refine P_wp_step (S' := (13, [.ref 2, .long 1730440026, P_un, .int 3], [.ref 2, .long 1730440026], (P_hv132 xs L))) P_i164_12 (fun _ => rfl) ?_
  refine P_wp_step (S' := (14, [.ref 2, .long 1730440026, P_un, .int 3], [.int 3, .ref 2, .long 1730440026], (P_hv132 xs L))) P_i164_13 (fun _ => rfl) ?_
  refine P_wp_call P_i164_14 rfl rfl rfl rfl rfl rfl rfl (y2 := 168) (as := [.ref 2, .int 3]) (r0 := [.long 1730440026]) rfl (Nat.le_of_ble_eq_true rfl) (by decide) rfl (Nat.le_of_ble_eq_true rfl) (P_x260 xs L (?_))
  show P_wp P_Y0 199 164 (17, [.ref 2, .long 1730440026, P_un, .int 3], [.int 0, .long 1730440026], (P_hv132 xs L)) _
  refine P_wp_step (S' := (18, [.ref 2, .long 1730440026, P_un, .int 3], [.long 0, .long 1730440026], (P_hv132 xs L))) P_i164_17 (fun _ => rfl) ?_
  refine P_wp_call P_i164_18 rfl rfl rfl rfl rfl rfl rfl (y2 := 171) (as := [.long 1730440026, .long 0]) (r0 := []) rfl (Nat.le_of_ble_eq_true rfl) (by decide) rfl (Nat.le_of_ble_eq_true rfl) (P_x261 xs L (?_))
  show P_wp P_Y0 199 164 (21, [.ref 2, .long 1730440026, P_un, .int 3], [.long 53643640806], (P_hv132 xs L)) _
  refine P_wp_step (S' := (22, [.ref 2, .long 53643640806, P_un, .int 3], [], (P_hv132 xs L))) P_i164_21 (fun _ => rfl) ?_
  refine P_wp_step (S' := (25, [.ref 2, .long 53643640806, P_un, .int 4], [], (P_hv132 xs L))) P_i164_22 (fun _ => rfl) ?_
  refine P_wp_step (S' := (6, [.ref 2, .long 53643640806, P_un, .int 4], [], (P_hv132 xs L))) P_i164_25 (fun _ => rfl) ?_
  refine P_wp_step (S' := (7, [.ref 2, .long 53643640806, P_un, .int 4], [.int 4], (P_hv132 xs L))) P_i164_6 (fun _ => rfl) ?_
  refine P_wp_step (S' := (8, [.ref 2, .long 53643640806, P_un, .int 4], [.int 4, .int 4], (P_hv132 xs L))) P_i164_7 (fun _ => rfl) ?_
  refine P_wp_icf P_i164_8 P_b54 (show P_wp P_Y0 199 164 (11, [.ref 2, .long 53643640806, P_un, .int 4], [], (P_hv132 xs L)) _ from ?_)
  refine P_wp_step (S' := (12, [.ref 2, .long 53643640806, P_un, .int 4], [.long 53643640806], (P_hv132 xs L))) P_i164_11 (fun _ => rfl) ?_
  refine P_wp_step (S' := (13, [.ref 2, .long 53643640806, P_un, .int 4], [.ref 2, .long 53643640806], (P_hv132 xs L))) P_i164_12 (fun _ => rfl) ?_
  refine P_wp_step (S' := (14, [.ref 2, .long 53643640806, P_un, .int 4], [.int 4, .ref 2, .long 53643640806], (P_hv132 xs L))) P_i164_13 (fun _ => rfl) ?_
  refine P_wp_call P_i164_14 rfl rfl rfl rfl rfl rfl rfl (y2 := 168) (as := [.ref 2, .int 4]) (r0 := [.long 53643640806]) rfl (Nat.le_of_ble_eq_true rfl) (by decide) rfl (Nat.le_of_ble_eq_true rfl) (P_x262 xs L (?_))
  show P_wp P_Y0 199 164 (17, [.ref 2, .long 53643640806, P_un, .int 4], [.int 0, .long 53643640806], (P_hv132 xs L)) _
  refine P_wp_step (S' := (18, [.ref 2, .long 53643640806, P_un, .int 4], [.long 0, .long 53643640806], (P_hv132 xs L))) P_i164_17 (fun _ => rfl) ?_
  refine P_wp_call P_i164_18 rfl rfl rfl rfl rfl rfl rfl (y2 := 171) (as := [.long 53643640806, .long 0]) (r0 := []) rfl (Nat.le_of_ble_eq_true rfl) (by decide) rfl (Nat.le_of_ble_eq_true rfl) (P_x263 xs L (?_))
  show P_wp P_Y0 199 164 (21, [.ref 2, .long 53643640806, P_un, .int 4], [.long 1662952864986], (P_hv132 xs L)) _
  refine P_wp_step (S' := (22, [.ref 2, .long 1662952864986, P_un, .int 4], [], (P_hv132 xs L))) P_i164_21 (fun _ => rfl) ?_
  refine P_wp_step (S' := (25, [.ref 2, .long 1662952864986, P_un, .int 5], [], (P_hv132 xs L))) P_i164_22 (fun _ => rfl) ?_
  refine P_wp_step (S' := (6, [.ref 2, .long 1662952864986, P_un, .int 5], [], (P_hv132 xs L))) P_i164_25 (fun _ => rfl) ?_
  refine P_wp_step (S' := (7, [.ref 2, .long 1662952864986, P_un, .int 5], [.int 5], (P_hv132 xs L))) P_i164_6 (fun _ => rfl) ?_
  refine P_wp_step (S' := (8, [.ref 2, .long 1662952864986, P_un, .int 5], [.int 4, .int 5], (P_hv132 xs L))) P_i164_7 (fun _ => rfl) ?_
  refine P_wp_ict P_i164_8 P_b57 (show P_wp P_Y0 199 164 (28, [.ref 2, .long 1662952864986, P_un, .int 5], [], (P_hv132 xs L)) _ from ?_)
  refine P_wp_step (S' := (29, [.ref 2, .long 1662952864986, P_un, .int 5], [.int 0], (P_hv132 xs L))) P_i164_28 (fun _ => rfl) ?_
  refine P_wp_step (S' := (30, [.ref 2, .long 1662952864986, P_un, .int 0], [], (P_hv132 xs L))) P_i164_29 (fun _ => rfl) ?_
  refine P_wp_step (S' := (31, [.ref 2, .long 1662952864986, P_un, .int 0], [.int 0], (P_hv132 xs L))) P_i164_30 (fun _ => rfl) ?_
  refine P_wp_step (S' := (32, [.ref 2, .long 1662952864986, P_un, .int 0], [.ref 2, .int 0], (P_hv132 xs L))) P_i164_31 (fun _ => rfl) ?_
  refine P_wp_step (S' := (35, [.ref 2, .long 1662952864986, P_un, .int 0], [.ref 3, .int 0], (P_hv132 xs L))) P_i164_32 (fun _ => rfl) ?_
  refine P_wp_call P_i164_35 rfl rfl rfl rfl rfl rfl rfl (y2 := 114) (as := [.ref 3]) (r0 := [.int 0]) rfl (Nat.le_of_ble_eq_true rfl) (by decide) rfl (Nat.le_of_ble_eq_true rfl) (P_x264 xs L (?_))
  show P_wp P_Y0 199 164 (38, [.ref 2, .long 1662952864986, P_un, .int 0], [.int 0, .int 0], (P_hv132 xs L)) _
  refine P_wp_ict P_i164_38 P_b41 (show P_wp P_Y0 199 164 (61, [.ref 2, .long 1662952864986, P_un, .int 0], [], (P_hv132 xs L)) _ from ?_)
  refine P_wp_step (S' := (62, [.ref 2, .long 1662952864986, P_un, .int 0], [.long 1662952864986], (P_hv132 xs L))) P_i164_61 (fun _ => rfl) ?_
  refine P_wp_step (S' := (63, [.ref 2, .long 1662952864986, P_un, .int 0], [.ref 2, .long 1662952864986], (P_hv132 xs L))) P_i164_62 (fun _ => rfl) ?_
  refine P_wp_step (S' := (66, [.ref 2, .long 1662952864986, P_un, .int 0], [.ref 31, .long 1662952864986], (P_hv132 xs L))) P_i164_63 (fun _ => rfl) ?_
  refine P_wp_call P_i164_66 rfl rfl rfl rfl rfl rfl rfl (y2 := 93) (as := [.ref 31]) (r0 := [.long 1662952864986]) rfl (Nat.le_of_ble_eq_true rfl) (by decide) rfl (Nat.le_of_ble_eq_true rfl) (P_x169 xs L (?_))
  show P_wp P_Y0 199 164 (69, [.ref 2, .long 1662952864986, P_un, .int 0], [.int (-1), .long 1662952864986], (P_hv132 xs L)) _
  refine P_wp_step (S' := (70, [.ref 2, .long 1662952864986, P_un, .int 0], [.long (-1), .long 1662952864986], (P_hv132 xs L))) P_i164_69 (fun _ => rfl) ?_
  refine P_wp_call P_i164_70 rfl rfl rfl rfl rfl rfl rfl (y2 := 171) (as := [.long 1662952864986, .long (-1)]) (r0 := []) rfl (Nat.le_of_ble_eq_true rfl) (by decide) rfl (Nat.le_of_ble_eq_true rfl) (P_x265 xs L (?_))
  show P_wp P_Y0 199 164 (73, [.ref 2, .long 1662952864986, P_un, .int 0], [.long 51551538814565], (P_hv132 xs L)) _
  refine P_wp_step (S' := (74, [.ref 2, .long 51551538814565, P_un, .int 0], [], (P_hv132 xs L))) P_i164_73 (fun _ => rfl) ?_
  refine P_wp_step (S' := (75, [.ref 2, .long 51551538814565, P_un, .int 0], [.ref 2], (P_hv132 xs L))) P_i164_74 (fun _ => rfl) ?_
  refine P_wp_step (S' := (78, [.ref 2, .long 51551538814565, P_un, .int 0], [.ref 31], (P_hv132 xs L))) P_i164_75 (fun _ => rfl) ?_
  refine P_wp_call P_i164_78 rfl rfl rfl rfl rfl rfl rfl (y2 := 92) (as := [.ref 31]) (r0 := []) rfl (Nat.le_of_ble_eq_true rfl) (by decide) rfl (Nat.le_of_ble_eq_true rfl) (P_x266 xs L (?_))
  show P_wp P_Y0 199 164 (81, [.ref 2, .long 51551538814565, P_un, .int 0], [.int 0], (P_hv132 xs L)) _
  refine P_wp_izf P_i164_81 P_b19 (show P_wp P_Y0 199 164 (84, [.ref 2, .long 51551538814565, P_un, .int 0], [], (P_hv132 xs L)) _ from ?_)
  refine P_wp_step (S' := (85, [.ref 2, .long 51551538814565, P_un, .int 0], [.long 51551538814565], (P_hv132 xs L))) P_i164_84 (fun _ => rfl) ?_
  refine P_wp_end (x := (.inl (some (.long 51551538814565)), (P_hv132 xs L))) P_i164_85 (fun _ => rfl) ?_
  exact q

set_option maxRecDepth 20000 in
theorem P_x268 (xs : Nat → Int32) (L : Nat) {Q : P_R → P_H → Prop} (q : Q (.inl (some (.int 0))) (P_hv132 xs L)) : P_wp P_Y0 198 211 (0, [.ref 47, .int 0], [], (P_hv132 xs L)) Q := by
  refine P_wp_step (S' := (1, [.ref 47, .int 0], [.int 0], (P_hv132 xs L))) P_i211_0 (fun _ => rfl) ?_
  refine P_wp_step (S' := (2, [.ref 47, .int 0], [.int 2, .int 0], (P_hv132 xs L))) P_i211_1 (fun _ => rfl) ?_
  refine P_wp_icf P_i211_2 P_b58 (show P_wp P_Y0 198 211 (5, [.ref 47, .int 0], [], (P_hv132 xs L)) _ from ?_)
  refine P_wp_step (S' := (6, [.ref 47, .int 0], [.int 0], (P_hv132 xs L))) P_i211_5 (fun _ => rfl) ?_
  refine P_wp_izf P_i211_6 P_b19 (show P_wp P_Y0 198 211 (9, [.ref 47, .int 0], [], (P_hv132 xs L)) _ from ?_)
  refine P_wp_step (S' := (10, [.ref 47, .int 0], [.ref 47], (P_hv132 xs L))) P_i211_9 (fun _ => rfl) ?_
  refine P_wp_step (S' := (13, [.ref 47, .int 0], [.int 0], (P_hv132 xs L))) P_i211_10 (fun _ => rfl) ?_
  refine P_wp_step (S' := (20, [.ref 47, .int 0], [.int 0], (P_hv132 xs L))) P_i211_13 (fun _ => rfl) ?_
  refine P_wp_end (x := (.inl (some (.int 0)), (P_hv132 xs L))) P_i211_20 (fun _ => rfl) ?_
  exact q

set_option maxRecDepth 20000 in
theorem P_x269 (xs : Nat → Int32) (L : Nat) {Q : P_R → P_H → Prop} (q : Q (.inl (some (.int 0))) (P_hv132 xs L)) : P_wp P_Y0 198 211 (0, [.ref 47, .int 1], [], (P_hv132 xs L)) Q := by
  refine P_wp_step (S' := (1, [.ref 47, .int 1], [.int 1], (P_hv132 xs L))) P_i211_0 (fun _ => rfl) ?_
  refine P_wp_step (S' := (2, [.ref 47, .int 1], [.int 2, .int 1], (P_hv132 xs L))) P_i211_1 (fun _ => rfl) ?_
  refine P_wp_icf P_i211_2 P_b60 (show P_wp P_Y0 198 211 (5, [.ref 47, .int 1], [], (P_hv132 xs L)) _ from ?_)
  refine P_wp_step (S' := (6, [.ref 47, .int 1], [.int 1], (P_hv132 xs L))) P_i211_5 (fun _ => rfl) ?_
  refine P_wp_izt P_i211_6 P_b21 (show P_wp P_Y0 198 211 (16, [.ref 47, .int 1], [], (P_hv132 xs L)) _ from ?_)
  refine P_wp_step (S' := (17, [.ref 47, .int 1], [.ref 47], (P_hv132 xs L))) P_i211_16 (fun _ => rfl) ?_
  refine P_wp_step (S' := (20, [.ref 47, .int 1], [.int 0], (P_hv132 xs L))) P_i211_17 (fun _ => rfl) ?_
  refine P_wp_end (x := (.inl (some (.int 0)), (P_hv132 xs L))) P_i211_20 (fun _ => rfl) ?_
  exact q

set_option maxRecDepth 20000 in
theorem P_x270 (xs : Nat → Int32) (L : Nat) {Q : P_R → P_H → Prop} (q : Q (.inl (some (.int 0))) (P_hv132 xs L)) : P_wp P_Y0 198 211 (0, [.ref 47, .int 2], [], (P_hv132 xs L)) Q := by
  refine P_wp_step (S' := (1, [.ref 47, .int 2], [.int 2], (P_hv132 xs L))) P_i211_0 (fun _ => rfl) ?_
  refine P_wp_step (S' := (2, [.ref 47, .int 2], [.int 2, .int 2], (P_hv132 xs L))) P_i211_1 (fun _ => rfl) ?_
  refine P_wp_ict P_i211_2 P_b62 (show P_wp P_Y0 198 211 (21, [.ref 47, .int 2], [], (P_hv132 xs L)) _ from ?_)
  refine P_wp_step (S' := (22, [.ref 47, .int 2], [.ref 47], (P_hv132 xs L))) P_i211_21 (fun _ => rfl) ?_
  refine P_wp_step (S' := (25, [.ref 47, .int 2], [.int 0], (P_hv132 xs L))) P_i211_22 (fun _ => rfl) ?_
  refine P_wp_izf P_i211_25 P_b19 (show P_wp P_Y0 198 211 (28, [.ref 47, .int 2], [], (P_hv132 xs L)) _ from ?_)
  refine P_wp_step (S' := (29, [.ref 47, .int 2], [.int 0], (P_hv132 xs L))) P_i211_28 (fun _ => rfl) ?_
  refine P_wp_step (S' := (60, [.ref 47, .int 2], [.int 0], (P_hv132 xs L))) P_i211_29 (fun _ => rfl) ?_
  refine P_wp_end (x := (.inl (some (.int 0)), (P_hv132 xs L))) P_i211_60 (fun _ => rfl) ?_
  exact q

set_option maxRecDepth 20000 in
theorem P_x271 (xs : Nat → Int32) (L : Nat) {Q : P_R → P_H → Prop} (q : Q (.inl (some (.int 0))) (P_hv132 xs L)) : P_wp P_Y0 198 211 (0, [.ref 47, .int 3], [], (P_hv132 xs L)) Q := by
  refine P_wp_step (S' := (1, [.ref 47, .int 3], [.int 3], (P_hv132 xs L))) P_i211_0 (fun _ => rfl) ?_
  refine P_wp_step (S' := (2, [.ref 47, .int 3], [.int 2, .int 3], (P_hv132 xs L))) P_i211_1 (fun _ => rfl) ?_
  refine P_wp_ict P_i211_2 P_b64 (show P_wp P_Y0 198 211 (21, [.ref 47, .int 3], [], (P_hv132 xs L)) _ from ?_)
  refine P_wp_step (S' := (22, [.ref 47, .int 3], [.ref 47], (P_hv132 xs L))) P_i211_21 (fun _ => rfl) ?_
  refine P_wp_step (S' := (25, [.ref 47, .int 3], [.int 0], (P_hv132 xs L))) P_i211_22 (fun _ => rfl) ?_
  refine P_wp_izf P_i211_25 P_b19 (show P_wp P_Y0 198 211 (28, [.ref 47, .int 3], [], (P_hv132 xs L)) _ from ?_)
  refine P_wp_step (S' := (29, [.ref 47, .int 3], [.int 0], (P_hv132 xs L))) P_i211_28 (fun _ => rfl) ?_
  refine P_wp_step (S' := (60, [.ref 47, .int 3], [.int 0], (P_hv132 xs L))) P_i211_29 (fun _ => rfl) ?_
  refine P_wp_end (x := (.inl (some (.int 0)), (P_hv132 xs L))) P_i211_60 (fun _ => rfl) ?_
  exact q

set_option maxRecDepth 20000 in
theorem P_x272 (xs : Nat → Int32) (L : Nat) {Q : P_R → P_H → Prop} (q : Q (.inl (some (.int 0))) (P_hv132 xs L)) : P_wp P_Y0 198 211 (0, [.ref 47, .int 4], [], (P_hv132 xs L)) Q := by
  refine P_wp_step (S' := (1, [.ref 47, .int 4], [.int 4], (P_hv132 xs L))) P_i211_0 (fun _ => rfl) ?_
  refine P_wp_step (S' := (2, [.ref 47, .int 4], [.int 2, .int 4], (P_hv132 xs L))) P_i211_1 (fun _ => rfl) ?_
  refine P_wp_ict P_i211_2 P_b66 (show P_wp P_Y0 198 211 (21, [.ref 47, .int 4], [], (P_hv132 xs L)) _ from ?_)
  refine P_wp_step (S' := (22, [.ref 47, .int 4], [.ref 47], (P_hv132 xs L))) P_i211_21 (fun _ => rfl) ?_
  refine P_wp_step (S' := (25, [.ref 47, .int 4], [.int 0], (P_hv132 xs L))) P_i211_22 (fun _ => rfl) ?_
  refine P_wp_izf P_i211_25 P_b19 (show P_wp P_Y0 198 211 (28, [.ref 47, .int 4], [], (P_hv132 xs L)) _ from ?_)
  refine P_wp_step (S' := (29, [.ref 47, .int 4], [.int 0], (P_hv132 xs L))) P_i211_28 (fun _ => rfl) ?_
  refine P_wp_step (S' := (60, [.ref 47, .int 4], [.int 0], (P_hv132 xs L))) P_i211_29 (fun _ => rfl) ?_
  refine P_wp_end (x := (.inl (some (.int 0)), (P_hv132 xs L))) P_i211_60 (fun _ => rfl) ?_
  exact q

set_option maxRecDepth 20000 in
theorem P_x273 (xs : Nat → Int32) (L : Nat) {Q : P_R → P_H → Prop} (q : Q (.inl (some (.long 51551538814565))) (P_hv132 xs L)) : P_wp P_Y0 199 269 (0, [.ref 47, P_un, P_un, P_un, P_un, P_un, P_un, P_un, P_un], [], (P_hv132 xs L)) Q := by
  refine P_wp_step (S' := (1, [.ref 47, P_un, P_un, P_un, P_un, P_un, P_un, P_un, P_un], [.ref 47], (P_hv132 xs L))) P_i269_0 (fun _ => rfl) ?_
  refine P_wp_step (S' := (2, [.ref 47, P_un, P_un, P_un, P_un, P_un, P_un, P_un, P_un], [.int 0, .ref 47], (P_hv132 xs L))) P_i269_1 (fun _ => rfl) ?_
  refine P_wp_step (S' := (5, [.ref 47, P_un, P_un, P_un, P_un, P_un, P_un, P_un, P_un], [], (P_hv132 xs L))) P_i269_2 (fun _ => rfl) ?_
  refine P_wp_step (S' := (8, [.ref 47, P_un, P_un, P_un, P_un, P_un, P_un, P_un, P_un], [.long 58086], (P_hv132 xs L))) P_i269_5 (fun _ => rfl) ?_
  refine P_wp_step (S' := (9, [.ref 47, .long 58086, P_un, P_un, P_un, P_un, P_un, P_un, P_un], [], (P_hv132 xs L))) P_i269_8 (fun _ => rfl) ?_
  refine P_wp_step (S' := (10, [.ref 47, .long 58086, P_un, P_un, P_un, P_un, P_un, P_un, P_un], [.int 0], (P_hv132 xs L))) P_i269_9 (fun _ => rfl) ?_
  refine P_wp_step (S' := (11, [.ref 47, .long 58086, P_un, .int 0, P_un, P_un, P_un, P_un, P_un], [], (P_hv132 xs L))) P_i269_10 (fun _ => rfl) ?_
  refine P_wp_step (S' := (12, [.ref 47, .long 58086, P_un, .int 0, P_un, P_un, P_un, P_un, P_un], [.int 0], (P_hv132 xs L))) P_i269_11 (fun _ => rfl) ?_
  refine P_wp_step (S' := (13, [.ref 47, .long 58086, P_un, .int 0, P_un, P_un, P_un, P_un, P_un], [.int 5, .int 0], (P_hv132 xs L))) P_i269_12 (fun _ => rfl) ?_
  refine P_wp_icf P_i269_13 P_b25 (show P_wp P_Y0 199 269 (16, [.ref 47, .long 58086, P_un, .int 0, P_un, P_un, P_un, P_un, P_un], [], (P_hv132 xs L)) _ from ?_)
  refine P_wp_step (S' := (17, [.ref 47, .long 58086, P_un, .int 0, P_un, P_un, P_un, P_un, P_un], [.long 58086], (P_hv132 xs L))) P_i269_16 (fun _ => rfl) ?_
  refine P_wp_step (S' := (20, [.ref 47, .long 58086, P_un, .int 0, P_un, P_un, P_un, P_un, P_un], [.long 31, .long 58086], (P_hv132 xs L))) P_i269_17 (fun _ => rfl) ?_
  refine P_wp_step (S' := (21, [.ref 47, .long 58086, P_un, .int 0, P_un, P_un, P_un, P_un, P_un], [.long 1800666], (P_hv132 xs L))) P_i269_20 (fun _ => rfl) ?_
  refine P_wp_step (S' := (22, [.ref 47, .long 58086, P_un, .int 0, P_un, P_un, P_un, P_un, P_un], [.ref 47, .long 1800666], (P_hv132 xs L))) P_i269_21 (fun _ => rfl) ?_
  refine P_wp_step (S' := (23, [.ref 47, .long 58086, P_un, .int 0, P_un, P_un, P_un, P_un, P_un], [.int 0, .ref 47, .long 1800666], (P_hv132 xs L))) P_i269_22 (fun _ => rfl) ?_
  refine P_wp_call P_i269_23 rfl rfl rfl rfl rfl rfl rfl (y2 := 211) (as := [.ref 47, .int 0]) (r0 := [.long 1800666]) rfl (Nat.le_of_ble_eq_true rfl) (by decide) rfl (Nat.le_of_ble_eq_true rfl) (P_x268 xs L (?_))
  show P_wp P_Y0 199 269 (26, [.ref 47, .long 58086, P_un, .int 0, P_un, P_un, P_un, P_un, P_un], [.int 0, .long 1800666], (P_hv132 xs L)) _
  refine P_wp_step (S' := (27, [.ref 47, .long 58086, P_un, .int 0, P_un, P_un, P_un, P_un, P_un], [.long 0, .long 1800666], (P_hv132 xs L))) P_i269_26 (fun _ => rfl) ?_
  refine P_wp_step (S' := (28, [.ref 47, .long 58086, P_un, .int 0, P_un, P_un, P_un, P_un, P_un], [.long 1800666], (P_hv132 xs L))) P_i269_27 (fun _ => rfl) ?_
  refine P_wp_step (S' := (29, [.ref 47, .long 1800666, P_un, .int 0, P_un, P_un, P_un, P_un, P_un], [], (P_hv132 xs L))) P_i269_28 (fun _ => rfl) ?_
  refine P_wp_step (S' := (32, [.ref 47, .long 1800666, P_un, .int 1, P_un, P_un, P_un, P_un, P_un], [], (P_hv132 xs L))) P_i269_29 (fun _ => rfl) ?_
  refine P_wp_step (S' := (11, [.ref 47, .long 1800666, P_un, .int 1, P_un, P_un, P_un, P_un, P_un], [], (P_hv132 xs L))) P_i269_32 (fun _ => rfl) ?_
  refine P_wp_step (S' := (12, [.ref 47, .long 1800666, P_un, .int 1, P_un, P_un, P_un, P_un, P_un], [.int 1], (P_hv132 xs L))) P_i269_11 (fun _ => rfl) ?_
  refine P_wp_step (S' := (13, [.ref 47, .long 1800666, P_un, .int 1, P_un, P_un, P_un, P_un, P_un], [.int 5, .int 1], (P_hv132 xs L))) P_i269_12 (fun _ => rfl) ?_
  refine P_wp_icf P_i269_13 P_b59 (show P_wp P_Y0 199 269 (16, [.ref 47, .long 1800666, P_un, .int 1, P_un, P_un, P_un, P_un, P_un], [], (P_hv132 xs L)) _ from ?_)
  refine P_wp_step (S' := (17, [.ref 47, .long 1800666, P_un, .int 1, P_un, P_un, P_un, P_un, P_un], [.long 1800666], (P_hv132 xs L))) P_i269_16 (fun _ => rfl) ?_
  refine P_wp_step (S' := (20, [.ref 47, .long 1800666, P_un, .int 1, P_un, P_un, P_un, P_un, P_un], [.long 31, .long 1800666], (P_hv132 xs L))) P_i269_17 (fun _ => rfl) ?_
  refine P_wp_step (S' := (21, [.ref 47, .long 1800666, P_un, .int 1, P_un, P_un, P_un, P_un, P_un], [.long 55820646], (P_hv132 xs L))) P_i269_20 (fun _ => rfl) ?_
  refine P_wp_step (S' := (22, [.ref 47, .long 1800666, P_un, .int 1, P_un, P_un, P_un, P_un, P_un], [.ref 47, .long 55820646], (P_hv132 xs L))) P_i269_21 (fun _ => rfl) ?_
  refine P_wp_step (S' := (23, [.ref 47, .long 1800666, P_un, .int 1, P_un, P_un, P_un, P_un, P_un], [.int 1, .ref 47, .long 55820646], (P_hv132 xs L))) P_i269_22 (fun _ => rfl) ?_
  refine P_wp_call P_i269_23 rfl rfl rfl rfl rfl rfl rfl (y2 := 211) (as := [.ref 47, .int 1]) (r0 := [.long 55820646]) rfl (Nat.le_of_ble_eq_true rfl) (by decide) rfl (Nat.le_of_ble_eq_true rfl) (P_x269 xs L (?_))
  show P_wp P_Y0 199 269 (26, [.ref 47, .long 1800666, P_un, .int 1, P_un, P_un, P_un, P_un, P_un], [.int 0, .long 55820646], (P_hv132 xs L)) _
  refine P_wp_step (S' := (27, [.ref 47, .long 1800666, P_un, .int 1, P_un, P_un, P_un, P_un, P_un], [.long 0, .long 55820646], (P_hv132 xs L))) P_i269_26 (fun _ => rfl) ?_
  refine P_wp_step (S' := (28, [.ref 47, .long 1800666, P_un, .int 1, P_un, P_un, P_un, P_un, P_un], [.long 55820646], (P_hv132 xs L))) P_i269_27 (fun _ => rfl) ?_
  refine P_wp_step (S' := (29, [.ref 47, .long 55820646, P_un, .int 1, P_un, P_un, P_un, P_un, P_un], [], (P_hv132 xs L))) P_i269_28 (fun _ => rfl) ?_
  refine P_wp_step (S' := (32, [.ref 47, .long 55820646, P_un, .int 2, P_un, P_un, P_un, P_un, P_un], [], (P_hv132 xs L))) P_i269_29 (fun _ => rfl) ?_
  refine P_wp_step (S' := (11, [.ref 47, .long 55820646, P_un, .int 2, P_un, P_un, P_un, P_un, P_un], [], (P_hv132 xs L))) P_i269_32 (fun _ => rfl) ?_
  refine P_wp_step (S' := (12, [.ref 47, .long 55820646, P_un, .int 2, P_un, P_un, P_un, P_un, P_un], [.int 2], (P_hv132 xs L))) P_i269_11 (fun _ => rfl) ?_
  refine P_wp_step (S' := (13, [.ref 47, .long 55820646, P_un, .int 2, P_un, P_un, P_un, P_un, P_un], [.int 5, .int 2], (P_hv132 xs L))) P_i269_12 (fun _ => rfl) ?_
  refine P_wp_icf P_i269_13 P_b61 (show P_wp P_Y0 199 269 (16, [.ref 47, .long 55820646, P_un, .int 2, P_un, P_un, P_un, P_un, P_un], [], (P_hv132 xs L)) _ from ?_)
  refine P_wp_step (S' := (17, [.ref 47, .long 55820646, P_un, .int 2, P_un, P_un, P_un, P_un, P_un], [.long 55820646], (P_hv132 xs L))) P_i269_16 (fun _ => rfl) ?_
  refine P_wp_step (S' := (20, [.ref 47, .long 55820646, P_un, .int 2, P_un, P_un, P_un, P_un, P_un], [.long 31, .long 55820646], (P_hv132 xs L))) P_i269_17 (fun _ => rfl) ?_
  refine P_wp_step (S' := (21, [.ref 47, .long 55820646, P_un, .int 2, P_un, P_un, P_un, P_un, P_un], [.long 1730440026], (P_hv132 xs L))) P_i269_20 (fun _ => rfl) ?_
  refine P_wp_step (S' := (22, [.ref 47, .long 55820646, P_un, .int 2, P_un, P_un, P_un, P_un, P_un], [.ref 47, .long 1730440026], (P_hv132 xs L))) P_i269_21 (fun _ => rfl) ?_
  refine P_wp_step (S' := (23, [.ref 47, .long 55820646, P_un, .int 2, P_un, P_un, P_un, P_un, P_un], [.int 2, .ref 47, .long 1730440026], (P_hv132 xs L))) P_i269_22 (fun _ => rfl) ?_
  refine P_wp_call P_i269_23 rfl rfl rfl rfl rfl rfl rfl (y2 := 211) (as := [.ref 47, .int 2]) (r0 := [.long 1730440026]) rfl (Nat.le_of_ble_eq_true rfl) (by decide) rfl (Nat.le_of_ble_eq_true rfl) (P_x270 xs L (?_))
  show P_wp P_Y0 199 269 (26, [.ref 47, .long 55820646, P_un, .int 2, P_un, P_un, P_un, P_un, P_un], [.int 0, .long 1730440026], (P_hv132 xs L)) _
  refine P_wp_step (S' := (27, [.ref 47, .long 55820646, P_un, .int 2, P_un, P_un, P_un, P_un, P_un], [.long 0, .long 1730440026], (P_hv132 xs L))) P_i269_26 (fun _ => rfl) ?_
  refine P_wp_step (S' := (28, [.ref 47, .long 55820646, P_un, .int 2, P_un, P_un, P_un, P_un, P_un], [.long 1730440026], (P_hv132 xs L))) P_i269_27 (fun _ => rfl) ?_
  refine P_wp_step (S' := (29, [.ref 47, .long 1730440026, P_un, .int 2, P_un, P_un, P_un, P_un, P_un], [], (P_hv132 xs L))) P_i269_28 (fun _ => rfl) ?_
  refine P_wp_step (S' := (32, [.ref 47, .long 1730440026, P_un, .int 3, P_un, P_un, P_un, P_un, P_un], [], (P_hv132 xs L))) P_i269_29 (fun _ => rfl) ?_
  refine P_wp_step (S' := (11, [.ref 47, .long 1730440026, P_un, .int 3, P_un, P_un, P_un, P_un, P_un], [], (P_hv132 xs L))) P_i269_32 (fun _ => rfl) ?_
  refine P_wp_step (S' := (12, [.ref 47, .long 1730440026, P_un, .int 3, P_un, P_un, P_un, P_un, P_un], [.int 3], (P_hv132 xs L))) P_i269_11 (fun _ => rfl) ?_
  refine P_wp_step (S' := (13, [.ref 47, .long 1730440026, P_un, .int 3, P_un, P_un, P_un, P_un, P_un], [.int 5, .int 3], (P_hv132 xs L))) P_i269_12 (fun _ => rfl) ?_
  refine P_wp_icf P_i269_13 P_b63 (show P_wp P_Y0 199 269 (16, [.ref 47, .long 1730440026, P_un, .int 3, P_un, P_un, P_un, P_un, P_un], [], (P_hv132 xs L)) _ from ?_)
  refine P_wp_step (S' := (17, [.ref 47, .long 1730440026, P_un, .int 3, P_un, P_un, P_un, P_un, P_un], [.long 1730440026], (P_hv132 xs L))) P_i269_16 (fun _ => rfl) ?_
  refine P_wp_step (S' := (20, [.ref 47, .long 1730440026, P_un, .int 3, P_un, P_un, P_un, P_un, P_un], [.long 31, .long 1730440026], (P_hv132 xs L))) P_i269_17 (fun _ => rfl) ?_
  refine P_wp_step (S' := (21, [.ref 47, .long 1730440026, P_un, .int 3, P_un, P_un, P_un, P_un, P_un], [.long 53643640806], (P_hv132 xs L))) P_i269_20 (fun _ => rfl) ?_
  refine P_wp_step (S' := (22, [.ref 47, .long 1730440026, P_un, .int 3, P_un, P_un, P_un, P_un, P_un], [.ref 47, .long 53643640806], (P_hv132 xs L))) P_i269_21 (fun _ => rfl) ?_
  refine P_wp_step (S' := (23, [.ref 47, .long 1730440026, P_un, .int 3, P_un, P_un, P_un, P_un, P_un], [.int 3, .ref 47, .long 53643640806], (P_hv132 xs L))) P_i269_22 (fun _ => rfl) ?_
  refine P_wp_call P_i269_23 rfl rfl rfl rfl rfl rfl rfl (y2 := 211) (as := [.ref 47, .int 3]) (r0 := [.long 53643640806]) rfl (Nat.le_of_ble_eq_true rfl) (by decide) rfl (Nat.le_of_ble_eq_true rfl) (P_x271 xs L (?_))
  show P_wp P_Y0 199 269 (26, [.ref 47, .long 1730440026, P_un, .int 3, P_un, P_un, P_un, P_un, P_un], [.int 0, .long 53643640806], (P_hv132 xs L)) _
  refine P_wp_step (S' := (27, [.ref 47, .long 1730440026, P_un, .int 3, P_un, P_un, P_un, P_un, P_un], [.long 0, .long 53643640806], (P_hv132 xs L))) P_i269_26 (fun _ => rfl) ?_
  refine P_wp_step (S' := (28, [.ref 47, .long 1730440026, P_un, .int 3, P_un, P_un, P_un, P_un, P_un], [.long 53643640806], (P_hv132 xs L))) P_i269_27 (fun _ => rfl) ?_
  refine P_wp_step (S' := (29, [.ref 47, .long 53643640806, P_un, .int 3, P_un, P_un, P_un, P_un, P_un], [], (P_hv132 xs L))) P_i269_28 (fun _ => rfl) ?_
  refine P_wp_step (S' := (32, [.ref 47, .long 53643640806, P_un, .int 4, P_un, P_un, P_un, P_un, P_un], [], (P_hv132 xs L))) P_i269_29 (fun _ => rfl) ?_
  refine P_wp_step (S' := (11, [.ref 47, .long 53643640806, P_un, .int 4, P_un, P_un, P_un, P_un, P_un], [], (P_hv132 xs L))) P_i269_32 (fun _ => rfl) ?_
  refine P_wp_step (S' := (12, [.ref 47, .long 53643640806, P_un, .int 4, P_un, P_un, P_un, P_un, P_un], [.int 4], (P_hv132 xs L))) P_i269_11 (fun _ => rfl) ?_
  refine P_wp_step (S' := (13, [.ref 47, .long 53643640806, P_un, .int 4, P_un, P_un, P_un, P_un, P_un], [.int 5, .int 4], (P_hv132 xs L))) P_i269_12 (fun _ => rfl) ?_
  refine P_wp_icf P_i269_13 P_b65 (show P_wp P_Y0 199 269 (16, [.ref 47, .long 53643640806, P_un, .int 4, P_un, P_un, P_un, P_un, P_un], [], (P_hv132 xs L)) _ from ?_)
  refine P_wp_step (S' := (17, [.ref 47, .long 53643640806, P_un, .int 4, P_un, P_un, P_un, P_un, P_un], [.long 53643640806], (P_hv132 xs L))) P_i269_16 (fun _ => rfl) ?_
  refine P_wp_step (S' := (20, [.ref 47, .long 53643640806, P_un, .int 4, P_un, P_un, P_un, P_un, P_un], [.long 31, .long 53643640806], (P_hv132 xs L))) P_i269_17 (fun _ => rfl) ?_
  refine P_wp_step (S' := (21, [.ref 47, .long 53643640806, P_un, .int 4, P_un, P_un, P_un, P_un, P_un], [.long 1662952864986], (P_hv132 xs L))) P_i269_20 (fun _ => rfl) ?_
  refine P_wp_step (S' := (22, [.ref 47, .long 53643640806, P_un, .int 4, P_un, P_un, P_un, P_un, P_un], [.ref 47, .long 1662952864986], (P_hv132 xs L))) P_i269_21 (fun _ => rfl) ?_
  refine P_wp_step (S' := (23, [.ref 47, .long 53643640806, P_un, .int 4, P_un, P_un, P_un, P_un, P_un], [.int 4, .ref 47, .long 1662952864986], (P_hv132 xs L))) P_i269_22 (fun _ => rfl) ?_
  refine P_wp_call P_i269_23 rfl rfl rfl rfl rfl rfl rfl (y2 := 211) (as := [.ref 47, .int 4]) (r0 := [.long 1662952864986]) rfl (Nat.le_of_ble_eq_true rfl) (by decide) rfl (Nat.le_of_ble_eq_true rfl) (P_x272 xs L (?_))
  show P_wp P_Y0 199 269 (26, [.ref 47, .long 53643640806, P_un, .int 4, P_un, P_un, P_un, P_un, P_un], [.int 0, .long 1662952864986], (P_hv132 xs L)) _
  refine P_wp_step (S' := (27, [.ref 47, .long 53643640806, P_un, .int 4, P_un, P_un, P_un, P_un, P_un], [.long 0, .long 1662952864986], (P_hv132 xs L))) P_i269_26 (fun _ => rfl) ?_
  refine P_wp_step (S' := (28, [.ref 47, .long 53643640806, P_un, .int 4, P_un, P_un, P_un, P_un, P_un], [.long 1662952864986], (P_hv132 xs L))) P_i269_27 (fun _ => rfl) ?_
  refine P_wp_step (S' := (29, [.ref 47, .long 1662952864986, P_un, .int 4, P_un, P_un, P_un, P_un, P_un], [], (P_hv132 xs L))) P_i269_28 (fun _ => rfl) ?_
  refine P_wp_step (S' := (32, [.ref 47, .long 1662952864986, P_un, .int 5, P_un, P_un, P_un, P_un, P_un], [], (P_hv132 xs L))) P_i269_29 (fun _ => rfl) ?_
  refine P_wp_step (S' := (11, [.ref 47, .long 1662952864986, P_un, .int 5, P_un, P_un, P_un, P_un, P_un], [], (P_hv132 xs L))) P_i269_32 (fun _ => rfl) ?_
  refine P_wp_step (S' := (12, [.ref 47, .long 1662952864986, P_un, .int 5, P_un, P_un, P_un, P_un, P_un], [.int 5], (P_hv132 xs L))) P_i269_11 (fun _ => rfl) ?_
  refine P_wp_step (S' := (13, [.ref 47, .long 1662952864986, P_un, .int 5, P_un, P_un, P_un, P_un, P_un], [.int 5, .int 5], (P_hv132 xs L))) P_i269_12 (fun _ => rfl) ?_
  refine P_wp_ict P_i269_13 P_b67 (show P_wp P_Y0 199 269 (35, [.ref 47, .long 1662952864986, P_un, .int 5, P_un, P_un, P_un, P_un, P_un], [], (P_hv132 xs L)) _ from ?_)
  refine P_wp_step (S' := (36, [.ref 47, .long 1662952864986, P_un, .int 5, P_un, P_un, P_un, P_un, P_un], [.int 0], (P_hv132 xs L))) P_i269_35 (fun _ => rfl) ?_
  refine P_wp_step (S' := (37, [.ref 47, .long 1662952864986, P_un, .int 0, P_un, P_un, P_un, P_un, P_un], [], (P_hv132 xs L))) P_i269_36 (fun _ => rfl) ?_
  refine P_wp_step (S' := (38, [.ref 47, .long 1662952864986, P_un, .int 0, P_un, P_un, P_un, P_un, P_un], [.int 0], (P_hv132 xs L))) P_i269_37 (fun _ => rfl) ?_
  refine P_wp_step (S' := (39, [.ref 47, .long 1662952864986, P_un, .int 0, P_un, P_un, P_un, P_un, P_un], [.ref 47, .int 0], (P_hv132 xs L))) P_i269_38 (fun _ => rfl) ?_
  refine P_wp_step (S' := (42, [.ref 47, .long 1662952864986, P_un, .int 0, P_un, P_un, P_un, P_un, P_un], [.int 0, .int 0], (P_hv132 xs L))) P_i269_39 (fun _ => rfl) ?_
  refine P_wp_ict P_i269_42 P_b41 (show P_wp P_Y0 199 269 (157, [.ref 47, .long 1662952864986, P_un, .int 0, P_un, P_un, P_un, P_un, P_un], [], (P_hv132 xs L)) _ from ?_)
  refine P_wp_step (S' := (158, [.ref 47, .long 1662952864986, P_un, .int 0, P_un, P_un, P_un, P_un, P_un], [.long 1662952864986], (P_hv132 xs L))) P_i269_157 (fun _ => rfl) ?_
  refine P_wp_step (S' := (161, [.ref 47, .long 1662952864986, P_un, .int 0, P_un, P_un, P_un, P_un, P_un], [.long 31, .long 1662952864986], (P_hv132 xs L))) P_i269_158 (fun _ => rfl) ?_
  refine P_wp_step (S' := (162, [.ref 47, .long 1662952864986, P_un, .int 0, P_un, P_un, P_un, P_un, P_un], [.long 51551538814566], (P_hv132 xs L))) P_i269_161 (fun _ => rfl) ?_
  refine P_wp_step (S' := (163, [.ref 47, .long 1662952864986, P_un, .int 0, P_un, P_un, P_un, P_un, P_un], [.ref 47, .long 51551538814566], (P_hv132 xs L))) P_i269_162 (fun _ => rfl) ?_
  refine P_wp_step (S' := (166, [.ref 47, .long 1662952864986, P_un, .int 0, P_un, P_un, P_un, P_un, P_un], [.int (-1), .long 51551538814566], (P_hv132 xs L))) P_i269_163 (fun _ => rfl) ?_
  refine P_wp_step (S' := (167, [.ref 47, .long 1662952864986, P_un, .int 0, P_un, P_un, P_un, P_un, P_un], [.long (-1), .long 51551538814566], (P_hv132 xs L))) P_i269_166 (fun _ => rfl) ?_
  refine P_wp_step (S' := (168, [.ref 47, .long 1662952864986, P_un, .int 0, P_un, P_un, P_un, P_un, P_un], [.long 51551538814565], (P_hv132 xs L))) P_i269_167 (fun _ => rfl) ?_
  refine P_wp_step (S' := (169, [.ref 47, .long 51551538814565, P_un, .int 0, P_un, P_un, P_un, P_un, P_un], [], (P_hv132 xs L))) P_i269_168 (fun _ => rfl) ?_
  refine P_wp_step (S' := (170, [.ref 47, .long 51551538814565, P_un, .int 0, P_un, P_un, P_un, P_un, P_un], [.ref 47], (P_hv132 xs L))) P_i269_169 (fun _ => rfl) ?_
  refine P_wp_step (S' := (173, [.ref 47, .long 51551538814565, P_un, .int 0, P_un, P_un, P_un, P_un, P_un], [.int 0], (P_hv132 xs L))) P_i269_170 (fun _ => rfl) ?_
  refine P_wp_izf P_i269_173 P_b19 (show P_wp P_Y0 199 269 (176, [.ref 47, .long 51551538814565, P_un, .int 0, P_un, P_un, P_un, P_un, P_un], [], (P_hv132 xs L)) _ from ?_)
  refine P_wp_step (S' := (177, [.ref 47, .long 51551538814565, P_un, .int 0, P_un, P_un, P_un, P_un, P_un], [.long 51551538814565], (P_hv132 xs L))) P_i269_176 (fun _ => rfl) ?_
  refine P_wp_end (x := (.inl (some (.long 51551538814565)), (P_hv132 xs L))) P_i269_177 (fun _ => rfl) ?_
  exact q

set_option maxRecDepth 20000 in
theorem P_sh0 (xs : Nat → Int32) : P_wp P_Y0 200 0 (28, [.ref 0, .ref 2, .ref 47, .ref 63, .ref 64, .int 0, P_un, P_un, P_un], [], (P_hv132 xs 0)) (fun r h => r = .inl (some (.int 1)) ∧ h.2.1 ≤ 600002 ∧ h.2.2 ≤ 7302232) := by
  refine P_wp_step (S' := (30, [.ref 0, .ref 2, .ref 47, .ref 63, .ref 64, .int 0, P_un, P_un, P_un], [.int 0], (P_hv132 xs 0))) P_i0_28 (fun _ => rfl) ?_
  refine P_wp_step (S' := (31, [.ref 0, .ref 2, .ref 47, .ref 63, .ref 64, .int 0, P_un, P_un, P_un], [.ref 0, .int 0], (P_hv132 xs 0))) P_i0_30 (fun _ => rfl) ?_
  refine P_wp_step (S' := (32, [.ref 0, .ref 2, .ref 47, .ref 63, .ref 64, .int 0, P_un, P_un, P_un], [.int 0, .int 0], (P_hv132 xs 0))) P_i0_31 (fun _ => rfl) ?_
  refine P_wp_step (S' := (33, [.ref 0, .ref 2, .ref 47, .ref 63, .ref 64, .int 0, P_un, P_un, P_un], [.int 5, .int 0, .int 0], (P_hv132 xs 0))) P_i0_32 (fun _ => rfl) ?_
  refine P_wp_step (S' := (34, [.ref 0, .ref 2, .ref 47, .ref 63, .ref 64, .int 0, P_un, P_un, P_un], [.int (-5), .int 0], (P_hv132 xs 0))) P_i0_33 (fun _ => rfl) ?_
  refine P_wp_ict P_i0_34 P_b13 (show P_wp P_Y0 200 0 (1559, [.ref 0, .ref 2, .ref 47, .ref 63, .ref 64, .int 0, P_un, P_un, P_un], [], (P_hv132 xs 0)) _ from ?_)
  refine P_wp_step (S' := (1560, [.ref 0, .ref 2, .ref 47, .ref 63, .ref 64, .int 0, P_un, P_un, P_un], [.int 1], (P_hv132 xs 0))) P_i0_1559 (fun _ => rfl) ?_
  refine P_wp_end (x := (.inl (some (.int 1)), (P_hv132 xs 0))) P_i0_1560 (fun _ => rfl) ?_
  exact ⟨rfl, Nat.le_of_ble_eq_true rfl, Nat.le_of_ble_eq_true rfl⟩

set_option maxRecDepth 20000 in
theorem P_sh1 (xs : Nat → Int32) : P_wp P_Y0 200 0 (28, [.ref 0, .ref 2, .ref 47, .ref 63, .ref 64, .int 0, P_un, P_un, P_un], [], (P_hv132 xs 1)) (fun r h => r = .inl (some (.int 1)) ∧ h.2.1 ≤ 600002 ∧ h.2.2 ≤ 7302232) := by
  refine P_wp_step (S' := (30, [.ref 0, .ref 2, .ref 47, .ref 63, .ref 64, .int 0, P_un, P_un, P_un], [.int 0], (P_hv132 xs 1))) P_i0_28 (fun _ => rfl) ?_
  refine P_wp_step (S' := (31, [.ref 0, .ref 2, .ref 47, .ref 63, .ref 64, .int 0, P_un, P_un, P_un], [.ref 0, .int 0], (P_hv132 xs 1))) P_i0_30 (fun _ => rfl) ?_
  refine P_wp_step (S' := (32, [.ref 0, .ref 2, .ref 47, .ref 63, .ref 64, .int 0, P_un, P_un, P_un], [.int 1, .int 0], (P_hv132 xs 1))) P_i0_31 (fun _ => rfl) ?_
  refine P_wp_step (S' := (33, [.ref 0, .ref 2, .ref 47, .ref 63, .ref 64, .int 0, P_un, P_un, P_un], [.int 5, .int 1, .int 0], (P_hv132 xs 1))) P_i0_32 (fun _ => rfl) ?_
  refine P_wp_step (S' := (34, [.ref 0, .ref 2, .ref 47, .ref 63, .ref 64, .int 0, P_un, P_un, P_un], [.int (-4), .int 0], (P_hv132 xs 1))) P_i0_33 (fun _ => rfl) ?_
  refine P_wp_ict P_i0_34 P_b14 (show P_wp P_Y0 200 0 (1559, [.ref 0, .ref 2, .ref 47, .ref 63, .ref 64, .int 0, P_un, P_un, P_un], [], (P_hv132 xs 1)) _ from ?_)
  refine P_wp_step (S' := (1560, [.ref 0, .ref 2, .ref 47, .ref 63, .ref 64, .int 0, P_un, P_un, P_un], [.int 1], (P_hv132 xs 1))) P_i0_1559 (fun _ => rfl) ?_
  refine P_wp_end (x := (.inl (some (.int 1)), (P_hv132 xs 1))) P_i0_1560 (fun _ => rfl) ?_
  exact ⟨rfl, Nat.le_of_ble_eq_true rfl, Nat.le_of_ble_eq_true rfl⟩

set_option maxRecDepth 20000 in
theorem P_sh2 (xs : Nat → Int32) : P_wp P_Y0 200 0 (28, [.ref 0, .ref 2, .ref 47, .ref 63, .ref 64, .int 0, P_un, P_un, P_un], [], (P_hv132 xs 2)) (fun r h => r = .inl (some (.int 1)) ∧ h.2.1 ≤ 600002 ∧ h.2.2 ≤ 7302232) := by
  refine P_wp_step (S' := (30, [.ref 0, .ref 2, .ref 47, .ref 63, .ref 64, .int 0, P_un, P_un, P_un], [.int 0], (P_hv132 xs 2))) P_i0_28 (fun _ => rfl) ?_
  refine P_wp_step (S' := (31, [.ref 0, .ref 2, .ref 47, .ref 63, .ref 64, .int 0, P_un, P_un, P_un], [.ref 0, .int 0], (P_hv132 xs 2))) P_i0_30 (fun _ => rfl) ?_
  refine P_wp_step (S' := (32, [.ref 0, .ref 2, .ref 47, .ref 63, .ref 64, .int 0, P_un, P_un, P_un], [.int 2, .int 0], (P_hv132 xs 2))) P_i0_31 (fun _ => rfl) ?_
  refine P_wp_step (S' := (33, [.ref 0, .ref 2, .ref 47, .ref 63, .ref 64, .int 0, P_un, P_un, P_un], [.int 5, .int 2, .int 0], (P_hv132 xs 2))) P_i0_32 (fun _ => rfl) ?_
  refine P_wp_step (S' := (34, [.ref 0, .ref 2, .ref 47, .ref 63, .ref 64, .int 0, P_un, P_un, P_un], [.int (-3), .int 0], (P_hv132 xs 2))) P_i0_33 (fun _ => rfl) ?_
  refine P_wp_ict P_i0_34 P_b15 (show P_wp P_Y0 200 0 (1559, [.ref 0, .ref 2, .ref 47, .ref 63, .ref 64, .int 0, P_un, P_un, P_un], [], (P_hv132 xs 2)) _ from ?_)
  refine P_wp_step (S' := (1560, [.ref 0, .ref 2, .ref 47, .ref 63, .ref 64, .int 0, P_un, P_un, P_un], [.int 1], (P_hv132 xs 2))) P_i0_1559 (fun _ => rfl) ?_
  refine P_wp_end (x := (.inl (some (.int 1)), (P_hv132 xs 2))) P_i0_1560 (fun _ => rfl) ?_
  exact ⟨rfl, Nat.le_of_ble_eq_true rfl, Nat.le_of_ble_eq_true rfl⟩

set_option maxRecDepth 20000 in
theorem P_sh3 (xs : Nat → Int32) : P_wp P_Y0 200 0 (28, [.ref 0, .ref 2, .ref 47, .ref 63, .ref 64, .int 0, P_un, P_un, P_un], [], (P_hv132 xs 3)) (fun r h => r = .inl (some (.int 1)) ∧ h.2.1 ≤ 600002 ∧ h.2.2 ≤ 7302232) := by
  refine P_wp_step (S' := (30, [.ref 0, .ref 2, .ref 47, .ref 63, .ref 64, .int 0, P_un, P_un, P_un], [.int 0], (P_hv132 xs 3))) P_i0_28 (fun _ => rfl) ?_
  refine P_wp_step (S' := (31, [.ref 0, .ref 2, .ref 47, .ref 63, .ref 64, .int 0, P_un, P_un, P_un], [.ref 0, .int 0], (P_hv132 xs 3))) P_i0_30 (fun _ => rfl) ?_
  refine P_wp_step (S' := (32, [.ref 0, .ref 2, .ref 47, .ref 63, .ref 64, .int 0, P_un, P_un, P_un], [.int 3, .int 0], (P_hv132 xs 3))) P_i0_31 (fun _ => rfl) ?_
  refine P_wp_step (S' := (33, [.ref 0, .ref 2, .ref 47, .ref 63, .ref 64, .int 0, P_un, P_un, P_un], [.int 5, .int 3, .int 0], (P_hv132 xs 3))) P_i0_32 (fun _ => rfl) ?_
  refine P_wp_step (S' := (34, [.ref 0, .ref 2, .ref 47, .ref 63, .ref 64, .int 0, P_un, P_un, P_un], [.int (-2), .int 0], (P_hv132 xs 3))) P_i0_33 (fun _ => rfl) ?_
  refine P_wp_ict P_i0_34 P_b16 (show P_wp P_Y0 200 0 (1559, [.ref 0, .ref 2, .ref 47, .ref 63, .ref 64, .int 0, P_un, P_un, P_un], [], (P_hv132 xs 3)) _ from ?_)
  refine P_wp_step (S' := (1560, [.ref 0, .ref 2, .ref 47, .ref 63, .ref 64, .int 0, P_un, P_un, P_un], [.int 1], (P_hv132 xs 3))) P_i0_1559 (fun _ => rfl) ?_
  refine P_wp_end (x := (.inl (some (.int 1)), (P_hv132 xs 3))) P_i0_1560 (fun _ => rfl) ?_
  exact ⟨rfl, Nat.le_of_ble_eq_true rfl, Nat.le_of_ble_eq_true rfl⟩

set_option maxRecDepth 20000 in
theorem P_sh4 (xs : Nat → Int32) : P_wp P_Y0 200 0 (28, [.ref 0, .ref 2, .ref 47, .ref 63, .ref 64, .int 0, P_un, P_un, P_un], [], (P_hv132 xs 4)) (fun r h => r = .inl (some (.int 1)) ∧ h.2.1 ≤ 600002 ∧ h.2.2 ≤ 7302232) := by
  refine P_wp_step (S' := (30, [.ref 0, .ref 2, .ref 47, .ref 63, .ref 64, .int 0, P_un, P_un, P_un], [.int 0], (P_hv132 xs 4))) P_i0_28 (fun _ => rfl) ?_
  refine P_wp_step (S' := (31, [.ref 0, .ref 2, .ref 47, .ref 63, .ref 64, .int 0, P_un, P_un, P_un], [.ref 0, .int 0], (P_hv132 xs 4))) P_i0_30 (fun _ => rfl) ?_
  refine P_wp_step (S' := (32, [.ref 0, .ref 2, .ref 47, .ref 63, .ref 64, .int 0, P_un, P_un, P_un], [.int 4, .int 0], (P_hv132 xs 4))) P_i0_31 (fun _ => rfl) ?_
  refine P_wp_step (S' := (33, [.ref 0, .ref 2, .ref 47, .ref 63, .ref 64, .int 0, P_un, P_un, P_un], [.int 5, .int 4, .int 0], (P_hv132 xs 4))) P_i0_32 (fun _ => rfl) ?_
  refine P_wp_step (S' := (34, [.ref 0, .ref 2, .ref 47, .ref 63, .ref 64, .int 0, P_un, P_un, P_un], [.int (-1), .int 0], (P_hv132 xs 4))) P_i0_33 (fun _ => rfl) ?_
  refine P_wp_ict P_i0_34 P_b17 (show P_wp P_Y0 200 0 (1559, [.ref 0, .ref 2, .ref 47, .ref 63, .ref 64, .int 0, P_un, P_un, P_un], [], (P_hv132 xs 4)) _ from ?_)
  refine P_wp_step (S' := (1560, [.ref 0, .ref 2, .ref 47, .ref 63, .ref 64, .int 0, P_un, P_un, P_un], [.int 1], (P_hv132 xs 4))) P_i0_1559 (fun _ => rfl) ?_
  refine P_wp_end (x := (.inl (some (.int 1)), (P_hv132 xs 4))) P_i0_1560 (fun _ => rfl) ?_
  exact ⟨rfl, Nat.le_of_ble_eq_true rfl, Nat.le_of_ble_eq_true rfl⟩

set_option maxRecDepth 20000 in
theorem P_pa0 (xs : Nat → Int32) (hsw : xs 0 &&& 31 = 0) (hc1 : P_cc .lt (xs 1) 1 = true) (hc2 : P_cc .lt (xs 1) 1 = true) : P_wp P_Y0 200 0 (28, [.ref 0, .ref 2, .ref 47, .ref 63, .ref 64, .int 0, P_un, P_un, P_un], [], (P_hv132 xs 5)) (fun r h => r = .inl (some (.int 1)) ∧ h.2.1 ≤ 600002 ∧ h.2.2 ≤ 7302232) := by
  refine P_wp_step (S' := (30, [.ref 0, .ref 2, .ref 47, .ref 63, .ref 64, .int 0, P_un, P_un, P_un], [.int 0], (P_hv132 xs 5))) P_i0_28 (fun _ => rfl) ?_
  refine P_wp_step (S' := (31, [.ref 0, .ref 2, .ref 47, .ref 63, .ref 64, .int 0, P_un, P_un, P_un], [.ref 0, .int 0], (P_hv132 xs 5))) P_i0_30 (fun _ => rfl) ?_
  refine P_wp_step (S' := (32, [.ref 0, .ref 2, .ref 47, .ref 63, .ref 64, .int 0, P_un, P_un, P_un], [.int 5, .int 0], (P_hv132 xs 5))) P_i0_31 (fun _ => rfl) ?_
  refine P_wp_step (S' := (33, [.ref 0, .ref 2, .ref 47, .ref 63, .ref 64, .int 0, P_un, P_un, P_un], [.int 5, .int 5, .int 0], (P_hv132 xs 5))) P_i0_32 (fun _ => rfl) ?_
  refine P_wp_step (S' := (34, [.ref 0, .ref 2, .ref 47, .ref 63, .ref 64, .int 0, P_un, P_un, P_un], [.int 0, .int 0], (P_hv132 xs 5))) P_i0_33 (fun _ => rfl) ?_
  refine P_wp_icf P_i0_34 P_b18 (show P_wp P_Y0 200 0 (37, [.ref 0, .ref 2, .ref 47, .ref 63, .ref 64, .int 0, P_un, P_un, P_un], [], (P_hv132 xs 5)) _ from ?_)
  refine P_wp_step (S' := (38, [.ref 0, .ref 2, .ref 47, .ref 63, .ref 64, .int 0, P_un, P_un, P_un], [.ref 0], (P_hv132 xs 5))) P_i0_37 (fun _ => rfl) ?_
  refine P_wp_step (S' := (40, [.ref 0, .ref 2, .ref 47, .ref 63, .ref 64, .int 0, P_un, P_un, P_un], [.int 0, .ref 0], (P_hv132 xs 5))) P_i0_38 (fun _ => rfl) ?_
  refine P_wp_step (S' := (41, [.ref 0, .ref 2, .ref 47, .ref 63, .ref 64, .int 0, P_un, P_un, P_un], [.int (xs 0)], (P_hv132 xs 5))) P_i0_40 (fun _ => rfl) ?_
  refine P_wp_step (S' := (43, [.ref 0, .ref 2, .ref 47, .ref 63, .ref 64, .int 0, P_un, P_un, P_un], [.int 31, .int (xs 0)], (P_hv132 xs 5))) P_i0_41 (fun _ => rfl) ?_
  refine P_wp_step (S' := (44, [.ref 0, .ref 2, .ref 47, .ref 63, .ref 64, .int 0, P_un, P_un, P_un], [.int (xs 0 &&& 31)], (P_hv132 xs 5))) P_i0_43 (fun _ => rfl) ?_
  refine P_sw_at hsw (show P_wp P_Y0 200 0 (44, [.ref 0, .ref 2, .ref 47, .ref 63, .ref 64, .int 0, P_un, P_un, P_un], [.int 0], (P_hv132 xs 5)) _ from ?_)
  refine P_wp_step (S' := (168, [.ref 0, .ref 2, .ref 47, .ref 63, .ref 64, .int 0, P_un, P_un, P_un], [], (P_hv132 xs 5))) P_i0_44 (fun _ => P_do_sw (by decide +kernel)) ?_
  refine P_wp_step (S' := (169, [.ref 0, .ref 2, .ref 47, .ref 63, .ref 64, .int 0, P_un, P_un, P_un], [.ref 2], (P_hv132 xs 5))) P_i0_168 (fun _ => rfl) ?_
  refine P_wp_step (S' := (170, [.ref 0, .ref 2, .ref 47, .ref 63, .ref 64, .int 0, P_un, P_un, P_un], [.ref 0, .ref 2], (P_hv132 xs 5))) P_i0_169 (fun _ => rfl) ?_
  refine P_wp_step (S' := (172, [.ref 0, .ref 2, .ref 47, .ref 63, .ref 64, .int 0, P_un, P_un, P_un], [.int 0, .ref 0, .ref 2], (P_hv132 xs 5))) P_i0_170 (fun _ => rfl) ?_
  refine P_wp_step (S' := (173, [.ref 0, .ref 2, .ref 47, .ref 63, .ref 64, .int 0, P_un, P_un, P_un], [.int 1, .int 0, .ref 0, .ref 2], (P_hv132 xs 5))) P_i0_172 (fun _ => rfl) ?_
  refine P_wp_step (S' := (174, [.ref 0, .ref 2, .ref 47, .ref 63, .ref 64, .int 0, P_un, P_un, P_un], [.int 1, .ref 0, .ref 2], (P_hv132 xs 5))) P_i0_173 (fun _ => rfl) ?_
  refine P_wp_step (S' := (175, [.ref 0, .ref 2, .ref 47, .ref 63, .ref 64, .int 0, P_un, P_un, P_un], [.int (xs 1), .ref 2], (P_hv132 xs 5))) P_i0_174 (fun _ => rfl) ?_
  refine P_wp_step (S' := (176, [.ref 0, .ref 2, .ref 47, .ref 63, .ref 64, .int 0, P_un, P_un, P_un], [.ref 63, .int (xs 1), .ref 2], (P_hv132 xs 5))) P_i0_175 (fun _ => rfl) ?_
  refine P_wp_call P_i0_176 rfl rfl rfl rfl rfl rfl rfl (y2 := 270) (as := [.ref 2, .int (xs 1), .ref 63]) (r0 := []) rfl (Nat.le_of_ble_eq_true rfl) (by decide) rfl (Nat.le_of_ble_eq_true rfl) (P_x28 xs 5 hc1 (?_))
  show P_wp P_Y0 200 0 (179, [.ref 0, .ref 2, .ref 47, .ref 63, .ref 64, .int 0, P_un, P_un, P_un], [.int 1], (P_hv134 xs 5)) _
  refine P_wp_step (S' := (181, [.ref 0, .ref 2, .ref 47, .ref 63, .ref 64, .int 0, .int 1, P_un, P_un], [], (P_hv134 xs 5))) P_i0_179 (fun _ => rfl) ?_
  refine P_wp_step (S' := (182, [.ref 0, .ref 2, .ref 47, .ref 63, .ref 64, .int 0, .int 1, P_un, P_un], [.ref 47], (P_hv134 xs 5))) P_i0_181 (fun _ => rfl) ?_
  refine P_wp_step (S' := (183, [.ref 0, .ref 2, .ref 47, .ref 63, .ref 64, .int 0, .int 1, P_un, P_un], [.ref 0, .ref 47], (P_hv134 xs 5))) P_i0_182 (fun _ => rfl) ?_
  refine P_wp_step (S' := (185, [.ref 0, .ref 2, .ref 47, .ref 63, .ref 64, .int 0, .int 1, P_un, P_un], [.int 0, .ref 0, .ref 47], (P_hv134 xs 5))) P_i0_183 (fun _ => rfl) ?_
  refine P_wp_step (S' := (186, [.ref 0, .ref 2, .ref 47, .ref 63, .ref 64, .int 0, .int 1, P_un, P_un], [.int 1, .int 0, .ref 0, .ref 47], (P_hv134 xs 5))) P_i0_185 (fun _ => rfl) ?_
  refine P_wp_step (S' := (187, [.ref 0, .ref 2, .ref 47, .ref 63, .ref 64, .int 0, .int 1, P_un, P_un], [.int 1, .ref 0, .ref 47], (P_hv134 xs 5))) P_i0_186 (fun _ => rfl) ?_
  refine P_wp_step (S' := (188, [.ref 0, .ref 2, .ref 47, .ref 63, .ref 64, .int 0, .int 1, P_un, P_un], [.int (xs 1), .ref 47], (P_hv134 xs 5))) P_i0_187 (fun _ => rfl) ?_
  refine P_wp_call P_i0_188 rfl rfl rfl rfl rfl rfl rfl (y2 := 188) (as := [.ref 47, .int (xs 1)]) (r0 := []) rfl (Nat.le_of_ble_eq_true rfl) (by decide) rfl (Nat.le_of_ble_eq_true rfl) (P_x31 xs 5 hc2 (?_))
  show P_wp P_Y0 200 0 (191, [.ref 0, .ref 2, .ref 47, .ref 63, .ref 64, .int 0, .int 1, P_un, P_un], [.int 0], (P_hv135 xs 5)) _
  refine P_wp_step (S' := (193, [.ref 0, .ref 2, .ref 47, .ref 63, .ref 64, .int 0, .int 1, .int 0, P_un], [], (P_hv135 xs 5))) P_i0_191 (fun _ => rfl) ?_
  refine P_wp_step (S' := (194, [.ref 0, .ref 2, .ref 47, .ref 63, .ref 64, .int 0, .int 1, .int 0, P_un], [.ref 47], (P_hv135 xs 5))) P_i0_193 (fun _ => rfl) ?_
  refine P_wp_call P_i0_194 rfl rfl rfl rfl rfl rfl rfl (y2 := 183) (as := [.ref 47]) (r0 := []) rfl (Nat.le_of_ble_eq_true rfl) (by decide) rfl (Nat.le_of_ble_eq_true rfl) (P_x32 xs 5 (?_))
  show P_wp P_Y0 200 0 (197, [.ref 0, .ref 2, .ref 47, .ref 63, .ref 64, .int 0, .int 1, .int 0, P_un], [.int 1], (P_hv135 xs 5)) _
  refine P_wp_step (S' := (199, [.ref 0, .ref 2, .ref 47, .ref 63, .ref 64, .int 0, .int 1, .int 0, P_un], [.int 1, .int 1], (P_hv135 xs 5))) P_i0_197 (fun _ => rfl) ?_
  refine P_wp_ict P_i0_199 P_b20 (show P_wp P_Y0 200 0 (204, [.ref 0, .ref 2, .ref 47, .ref 63, .ref 64, .int 0, .int 1, .int 0, P_un], [], (P_hv135 xs 5)) _ from ?_)
  refine P_wp_step (S' := (206, [.ref 0, .ref 2, .ref 47, .ref 63, .ref 64, .int 0, .int 1, .int 0, P_un], [.int 1], (P_hv135 xs 5))) P_i0_204 (fun _ => rfl) ?_
  refine P_wp_izt P_i0_206 P_b21 (show P_wp P_Y0 200 0 (221, [.ref 0, .ref 2, .ref 47, .ref 63, .ref 64, .int 0, .int 1, .int 0, P_un], [], (P_hv135 xs 5)) _ from ?_)
  refine P_wp_step (S' := (1553, [.ref 0, .ref 2, .ref 47, .ref 63, .ref 64, .int 0, .int 1, .int 0, P_un], [], (P_hv135 xs 5))) P_i0_221 (fun _ => rfl) ?_
  refine P_wp_step (S' := (1556, [.ref 0, .ref 2, .ref 47, .ref 63, .ref 64, .int 5, .int 1, .int 0, P_un], [], (P_hv135 xs 5))) P_i0_1553 (fun _ => rfl) ?_
  refine P_wp_step (S' := (28, [.ref 0, .ref 2, .ref 47, .ref 63, .ref 64, .int 5, P_un, P_un, P_un], [], (P_hv135 xs 5))) P_i0_1556 (fun _ => rfl) ?_
  refine P_wp_step (S' := (30, [.ref 0, .ref 2, .ref 47, .ref 63, .ref 64, .int 5, P_un, P_un, P_un], [.int 5], (P_hv135 xs 5))) P_i0_28 (fun _ => rfl) ?_
  refine P_wp_step (S' := (31, [.ref 0, .ref 2, .ref 47, .ref 63, .ref 64, .int 5, P_un, P_un, P_un], [.ref 0, .int 5], (P_hv135 xs 5))) P_i0_30 (fun _ => rfl) ?_
  refine P_wp_step (S' := (32, [.ref 0, .ref 2, .ref 47, .ref 63, .ref 64, .int 5, P_un, P_un, P_un], [.int 5, .int 5], (P_hv135 xs 5))) P_i0_31 (fun _ => rfl) ?_
  refine P_wp_step (S' := (33, [.ref 0, .ref 2, .ref 47, .ref 63, .ref 64, .int 5, P_un, P_un, P_un], [.int 5, .int 5, .int 5], (P_hv135 xs 5))) P_i0_32 (fun _ => rfl) ?_
  refine P_wp_step (S' := (34, [.ref 0, .ref 2, .ref 47, .ref 63, .ref 64, .int 5, P_un, P_un, P_un], [.int 0, .int 5], (P_hv135 xs 5))) P_i0_33 (fun _ => rfl) ?_
  refine P_wp_ict P_i0_34 P_b22 (show P_wp P_Y0 200 0 (1559, [.ref 0, .ref 2, .ref 47, .ref 63, .ref 64, .int 5, P_un, P_un, P_un], [], (P_hv135 xs 5)) _ from ?_)
  refine P_wp_step (S' := (1560, [.ref 0, .ref 2, .ref 47, .ref 63, .ref 64, .int 5, P_un, P_un, P_un], [.int 1], (P_hv135 xs 5))) P_i0_1559 (fun _ => rfl) ?_
  refine P_wp_end (x := (.inl (some (.int 1)), (P_hv135 xs 5))) P_i0_1560 (fun _ => rfl) ?_
  exact ⟨rfl, Nat.le_of_ble_eq_true rfl, Nat.le_of_ble_eq_true rfl⟩

set_option maxRecDepth 20000 in
theorem P_pa1 (xs : Nat → Int32) (hsw : xs 0 &&& 31 = 0) (hc1 : P_cc .lt (xs 1) 1 = false) (hc2 : P_cc .le (xs 1) 3 = true) (hc3 : P_cc .lt (xs 1) 1 = false) (hc4 : P_cc .gt (xs 1) 3 = false) : P_wp P_Y0 200 0 (28, [.ref 0, .ref 2, .ref 47, .ref 63, .ref 64, .int 0, P_un, P_un, P_un], [], (P_hv132 xs 5)) (fun r h => r = .inl (some (.int 1)) ∧ h.2.1 ≤ 600002 ∧ h.2.2 ≤ 7302232) := by
  refine P_wp_step (S' := (30, [.ref 0, .ref 2, .ref 47, .ref 63, .ref 64, .int 0, P_un, P_un, P_un], [.int 0], (P_hv132 xs 5))) P_i0_28 (fun _ => rfl) ?_
  refine P_wp_step (S' := (31, [.ref 0, .ref 2, .ref 47, .ref 63, .ref 64, .int 0, P_un, P_un, P_un], [.ref 0, .int 0], (P_hv132 xs 5))) P_i0_30 (fun _ => rfl) ?_
  refine P_wp_step (S' := (32, [.ref 0, .ref 2, .ref 47, .ref 63, .ref 64, .int 0, P_un, P_un, P_un], [.int 5, .int 0], (P_hv132 xs 5))) P_i0_31 (fun _ => rfl) ?_
  refine P_wp_step (S' := (33, [.ref 0, .ref 2, .ref 47, .ref 63, .ref 64, .int 0, P_un, P_un, P_un], [.int 5, .int 5, .int 0], (P_hv132 xs 5))) P_i0_32 (fun _ => rfl) ?_
  refine P_wp_step (S' := (34, [.ref 0, .ref 2, .ref 47, .ref 63, .ref 64, .int 0, P_un, P_un, P_un], [.int 0, .int 0], (P_hv132 xs 5))) P_i0_33 (fun _ => rfl) ?_
  refine P_wp_icf P_i0_34 P_b18 (show P_wp P_Y0 200 0 (37, [.ref 0, .ref 2, .ref 47, .ref 63, .ref 64, .int 0, P_un, P_un, P_un], [], (P_hv132 xs 5)) _ from ?_)
  refine P_wp_step (S' := (38, [.ref 0, .ref 2, .ref 47, .ref 63, .ref 64, .int 0, P_un, P_un, P_un], [.ref 0], (P_hv132 xs 5))) P_i0_37 (fun _ => rfl) ?_
  refine P_wp_step (S' := (40, [.ref 0, .ref 2, .ref 47, .ref 63, .ref 64, .int 0, P_un, P_un, P_un], [.int 0, .ref 0], (P_hv132 xs 5))) P_i0_38 (fun _ => rfl) ?_
  refine P_wp_step (S' := (41, [.ref 0, .ref 2, .ref 47, .ref 63, .ref 64, .int 0, P_un, P_un, P_un], [.int (xs 0)], (P_hv132 xs 5))) P_i0_40 (fun _ => rfl) ?_
  refine P_wp_step (S' := (43, [.ref 0, .ref 2, .ref 47, .ref 63, .ref 64, .int 0, P_un, P_un, P_un], [.int 31, .int (xs 0)], (P_hv132 xs 5))) P_i0_41 (fun _ => rfl) ?_
  refine P_wp_step (S' := (44, [.ref 0, .ref 2, .ref 47, .ref 63, .ref 64, .int 0, P_un, P_un, P_un], [.int (xs 0 &&& 31)], (P_hv132 xs 5))) P_i0_43 (fun _ => rfl) ?_
  refine P_sw_at hsw (show P_wp P_Y0 200 0 (44, [.ref 0, .ref 2, .ref 47, .ref 63, .ref 64, .int 0, P_un, P_un, P_un], [.int 0], (P_hv132 xs 5)) _ from ?_)
  refine P_wp_step (S' := (168, [.ref 0, .ref 2, .ref 47, .ref 63, .ref 64, .int 0, P_un, P_un, P_un], [], (P_hv132 xs 5))) P_i0_44 (fun _ => P_do_sw (by decide +kernel)) ?_
  refine P_wp_step (S' := (169, [.ref 0, .ref 2, .ref 47, .ref 63, .ref 64, .int 0, P_un, P_un, P_un], [.ref 2], (P_hv132 xs 5))) P_i0_168 (fun _ => rfl) ?_
  refine P_wp_step (S' := (170, [.ref 0, .ref 2, .ref 47, .ref 63, .ref 64, .int 0, P_un, P_un, P_un], [.ref 0, .ref 2], (P_hv132 xs 5))) P_i0_169 (fun _ => rfl) ?_
  refine P_wp_step (S' := (172, [.ref 0, .ref 2, .ref 47, .ref 63, .ref 64, .int 0, P_un, P_un, P_un], [.int 0, .ref 0, .ref 2], (P_hv132 xs 5))) P_i0_170 (fun _ => rfl) ?_
  refine P_wp_step (S' := (173, [.ref 0, .ref 2, .ref 47, .ref 63, .ref 64, .int 0, P_un, P_un, P_un], [.int 1, .int 0, .ref 0, .ref 2], (P_hv132 xs 5))) P_i0_172 (fun _ => rfl) ?_
  refine P_wp_step (S' := (174, [.ref 0, .ref 2, .ref 47, .ref 63, .ref 64, .int 0, P_un, P_un, P_un], [.int 1, .ref 0, .ref 2], (P_hv132 xs 5))) P_i0_173 (fun _ => rfl) ?_
  refine P_wp_step (S' := (175, [.ref 0, .ref 2, .ref 47, .ref 63, .ref 64, .int 0, P_un, P_un, P_un], [.int (xs 1), .ref 2], (P_hv132 xs 5))) P_i0_174 (fun _ => rfl) ?_
  refine P_wp_step (S' := (176, [.ref 0, .ref 2, .ref 47, .ref 63, .ref 64, .int 0, P_un, P_un, P_un], [.ref 63, .int (xs 1), .ref 2], (P_hv132 xs 5))) P_i0_175 (fun _ => rfl) ?_
  refine P_wp_call P_i0_176 rfl rfl rfl rfl rfl rfl rfl (y2 := 270) (as := [.ref 2, .int (xs 1), .ref 63]) (r0 := []) rfl (Nat.le_of_ble_eq_true rfl) (by decide) rfl (Nat.le_of_ble_eq_true rfl) (P_x37 xs 5 hc1 hc2 (?_))
  show P_wp P_Y0 200 0 (179, [.ref 0, .ref 2, .ref 47, .ref 63, .ref 64, .int 0, P_un, P_un, P_un], [.int 0], (P_hv144 xs 5)) _
  refine P_wp_step (S' := (181, [.ref 0, .ref 2, .ref 47, .ref 63, .ref 64, .int 0, .int 0, P_un, P_un], [], (P_hv144 xs 5))) P_i0_179 (fun _ => rfl) ?_
  refine P_wp_step (S' := (182, [.ref 0, .ref 2, .ref 47, .ref 63, .ref 64, .int 0, .int 0, P_un, P_un], [.ref 47], (P_hv144 xs 5))) P_i0_181 (fun _ => rfl) ?_
  refine P_wp_step (S' := (183, [.ref 0, .ref 2, .ref 47, .ref 63, .ref 64, .int 0, .int 0, P_un, P_un], [.ref 0, .ref 47], (P_hv144 xs 5))) P_i0_182 (fun _ => rfl) ?_
  refine P_wp_step (S' := (185, [.ref 0, .ref 2, .ref 47, .ref 63, .ref 64, .int 0, .int 0, P_un, P_un], [.int 0, .ref 0, .ref 47], (P_hv144 xs 5))) P_i0_183 (fun _ => rfl) ?_
  refine P_wp_step (S' := (186, [.ref 0, .ref 2, .ref 47, .ref 63, .ref 64, .int 0, .int 0, P_un, P_un], [.int 1, .int 0, .ref 0, .ref 47], (P_hv144 xs 5))) P_i0_185 (fun _ => rfl) ?_
  refine P_wp_step (S' := (187, [.ref 0, .ref 2, .ref 47, .ref 63, .ref 64, .int 0, .int 0, P_un, P_un], [.int 1, .ref 0, .ref 47], (P_hv144 xs 5))) P_i0_186 (fun _ => rfl) ?_
  refine P_wp_step (S' := (188, [.ref 0, .ref 2, .ref 47, .ref 63, .ref 64, .int 0, .int 0, P_un, P_un], [.int (xs 1), .ref 47], (P_hv144 xs 5))) P_i0_187 (fun _ => rfl) ?_
  refine P_wp_call P_i0_188 rfl rfl rfl rfl rfl rfl rfl (y2 := 188) (as := [.ref 47, .int (xs 1)]) (r0 := []) rfl (Nat.le_of_ble_eq_true rfl) (by decide) rfl (Nat.le_of_ble_eq_true rfl) (P_x39 xs 5 hc3 hc4 (?_))
  show P_wp P_Y0 200 0 (191, [.ref 0, .ref 2, .ref 47, .ref 63, .ref 64, .int 0, .int 0, P_un, P_un], [.int 0], (P_hv146 xs 5)) _
  refine P_wp_step (S' := (193, [.ref 0, .ref 2, .ref 47, .ref 63, .ref 64, .int 0, .int 0, .int 0, P_un], [], (P_hv146 xs 5))) P_i0_191 (fun _ => rfl) ?_
  refine P_wp_step (S' := (194, [.ref 0, .ref 2, .ref 47, .ref 63, .ref 64, .int 0, .int 0, .int 0, P_un], [.ref 47], (P_hv146 xs 5))) P_i0_193 (fun _ => rfl) ?_
  refine P_wp_call P_i0_194 rfl rfl rfl rfl rfl rfl rfl (y2 := 183) (as := [.ref 47]) (r0 := []) rfl (Nat.le_of_ble_eq_true rfl) (by decide) rfl (Nat.le_of_ble_eq_true rfl) (P_x40 xs 5 (?_))
  show P_wp P_Y0 200 0 (197, [.ref 0, .ref 2, .ref 47, .ref 63, .ref 64, .int 0, .int 0, .int 0, P_un], [.int 0], (P_hv146 xs 5)) _
  refine P_wp_step (S' := (199, [.ref 0, .ref 2, .ref 47, .ref 63, .ref 64, .int 0, .int 0, .int 0, P_un], [.int 0, .int 0], (P_hv146 xs 5))) P_i0_197 (fun _ => rfl) ?_
  refine P_wp_ict P_i0_199 P_b27 (show P_wp P_Y0 200 0 (204, [.ref 0, .ref 2, .ref 47, .ref 63, .ref 64, .int 0, .int 0, .int 0, P_un], [], (P_hv146 xs 5)) _ from ?_)
  refine P_wp_step (S' := (206, [.ref 0, .ref 2, .ref 47, .ref 63, .ref 64, .int 0, .int 0, .int 0, P_un], [.int 0], (P_hv146 xs 5))) P_i0_204 (fun _ => rfl) ?_
  refine P_wp_izf P_i0_206 P_b19 (show P_wp P_Y0 200 0 (209, [.ref 0, .ref 2, .ref 47, .ref 63, .ref 64, .int 0, .int 0, .int 0, P_un], [], (P_hv146 xs 5)) _ from ?_)
  refine P_wp_step (S' := (210, [.ref 0, .ref 2, .ref 47, .ref 63, .ref 64, .int 0, .int 0, .int 0, P_un], [.ref 63], (P_hv146 xs 5))) P_i0_209 (fun _ => rfl) ?_
  refine P_wp_step (S' := (211, [.ref 0, .ref 2, .ref 47, .ref 63, .ref 64, .int 0, .int 0, .int 0, P_un], [.int 0, .ref 63], (P_hv146 xs 5))) P_i0_210 (fun _ => rfl) ?_
  refine P_wp_step (S' := (212, [.ref 0, .ref 2, .ref 47, .ref 63, .ref 64, .int 0, .int 0, .int 0, P_un], [.long 0], (P_hv146 xs 5))) P_i0_211 (fun _ => rfl) ?_
  refine P_wp_step (S' := (214, [.ref 0, .ref 2, .ref 47, .ref 63, .ref 64, .int 0, .int 0, .int 0, P_un], [.int 0, .long 0], (P_hv146 xs 5))) P_i0_212 (fun _ => rfl) ?_
  refine P_wp_step (S' := (215, [.ref 0, .ref 2, .ref 47, .ref 63, .ref 64, .int 0, .int 0, .int 0, P_un], [.long 0, .long 0], (P_hv146 xs 5))) P_i0_214 (fun _ => rfl) ?_
  refine P_wp_step (S' := (216, [.ref 0, .ref 2, .ref 47, .ref 63, .ref 64, .int 0, .int 0, .int 0, P_un], [.int 0], (P_hv146 xs 5))) P_i0_215 (fun _ => P_do_lcmp (by decide +kernel)) ?_
  refine P_wp_izt P_i0_216 P_b27 (show P_wp P_Y0 200 0 (221, [.ref 0, .ref 2, .ref 47, .ref 63, .ref 64, .int 0, .int 0, .int 0, P_un], [], (P_hv146 xs 5)) _ from ?_)
  refine P_wp_step (S' := (1553, [.ref 0, .ref 2, .ref 47, .ref 63, .ref 64, .int 0, .int 0, .int 0, P_un], [], (P_hv146 xs 5))) P_i0_221 (fun _ => rfl) ?_
  refine P_wp_step (S' := (1556, [.ref 0, .ref 2, .ref 47, .ref 63, .ref 64, .int 5, .int 0, .int 0, P_un], [], (P_hv146 xs 5))) P_i0_1553 (fun _ => rfl) ?_
  refine P_wp_step (S' := (28, [.ref 0, .ref 2, .ref 47, .ref 63, .ref 64, .int 5, P_un, P_un, P_un], [], (P_hv146 xs 5))) P_i0_1556 (fun _ => rfl) ?_
  refine P_wp_step (S' := (30, [.ref 0, .ref 2, .ref 47, .ref 63, .ref 64, .int 5, P_un, P_un, P_un], [.int 5], (P_hv146 xs 5))) P_i0_28 (fun _ => rfl) ?_
  refine P_wp_step (S' := (31, [.ref 0, .ref 2, .ref 47, .ref 63, .ref 64, .int 5, P_un, P_un, P_un], [.ref 0, .int 5], (P_hv146 xs 5))) P_i0_30 (fun _ => rfl) ?_
  refine P_wp_step (S' := (32, [.ref 0, .ref 2, .ref 47, .ref 63, .ref 64, .int 5, P_un, P_un, P_un], [.int 5, .int 5], (P_hv146 xs 5))) P_i0_31 (fun _ => rfl) ?_
  refine P_wp_step (S' := (33, [.ref 0, .ref 2, .ref 47, .ref 63, .ref 64, .int 5, P_un, P_un, P_un], [.int 5, .int 5, .int 5], (P_hv146 xs 5))) P_i0_32 (fun _ => rfl) ?_
  refine P_wp_step (S' := (34, [.ref 0, .ref 2, .ref 47, .ref 63, .ref 64, .int 5, P_un, P_un, P_un], [.int 0, .int 5], (P_hv146 xs 5))) P_i0_33 (fun _ => rfl) ?_
  refine P_wp_ict P_i0_34 P_b22 (show P_wp P_Y0 200 0 (1559, [.ref 0, .ref 2, .ref 47, .ref 63, .ref 64, .int 5, P_un, P_un, P_un], [], (P_hv146 xs 5)) _ from ?_)
  refine P_wp_step (S' := (1560, [.ref 0, .ref 2, .ref 47, .ref 63, .ref 64, .int 5, P_un, P_un, P_un], [.int 1], (P_hv146 xs 5))) P_i0_1559 (fun _ => rfl) ?_
  refine P_wp_end (x := (.inl (some (.int 1)), (P_hv146 xs 5))) P_i0_1560 (fun _ => rfl) ?_
  exact ⟨rfl, Nat.le_of_ble_eq_true rfl, Nat.le_of_ble_eq_true rfl⟩

set_option maxRecDepth 20000 in
theorem P_pa2 (xs : Nat → Int32) (hsw : xs 0 &&& 31 = 0) (hc1 : P_cc .lt (xs 1) 1 = false) (hc2 : P_cc .le (xs 1) 3 = false) (hc3 : P_cc .lt (xs 1) 1 = false) (hc4 : P_cc .gt (xs 1) 3 = true) : P_wp P_Y0 200 0 (28, [.ref 0, .ref 2, .ref 47, .ref 63, .ref 64, .int 0, P_un, P_un, P_un], [], (P_hv132 xs 5)) (fun r h => r = .inl (some (.int 1)) ∧ h.2.1 ≤ 600002 ∧ h.2.2 ≤ 7302232) := by
  refine P_wp_step (S' := (30, [.ref 0, .ref 2, .ref 47, .ref 63, .ref 64, .int 0, P_un, P_un, P_un], [.int 0], (P_hv132 xs 5))) P_i0_28 (fun _ => rfl) ?_
  refine P_wp_step (S' := (31, [.ref 0, .ref 2, .ref 47, .ref 63, .ref 64, .int 0, P_un, P_un, P_un], [.ref 0, .int 0], (P_hv132 xs 5))) P_i0_30 (fun _ => rfl) ?_
  refine P_wp_step (S' := (32, [.ref 0, .ref 2, .ref 47, .ref 63, .ref 64, .int 0, P_un, P_un, P_un], [.int 5, .int 0], (P_hv132 xs 5))) P_i0_31 (fun _ => rfl) ?_
  refine P_wp_step (S' := (33, [.ref 0, .ref 2, .ref 47, .ref 63, .ref 64, .int 0, P_un, P_un, P_un], [.int 5, .int 5, .int 0], (P_hv132 xs 5))) P_i0_32 (fun _ => rfl) ?_
  refine P_wp_step (S' := (34, [.ref 0, .ref 2, .ref 47, .ref 63, .ref 64, .int 0, P_un, P_un, P_un], [.int 0, .int 0], (P_hv132 xs 5))) P_i0_33 (fun _ => rfl) ?_
  refine P_wp_icf P_i0_34 P_b18 (show P_wp P_Y0 200 0 (37, [.ref 0, .ref 2, .ref 47, .ref 63, .ref 64, .int 0, P_un, P_un, P_un], [], (P_hv132 xs 5)) _ from ?_)
  refine P_wp_step (S' := (38, [.ref 0, .ref 2, .ref 47, .ref 63, .ref 64, .int 0, P_un, P_un, P_un], [.ref 0], (P_hv132 xs 5))) P_i0_37 (fun _ => rfl) ?_
  refine P_wp_step (S' := (40, [.ref 0, .ref 2, .ref 47, .ref 63, .ref 64, .int 0, P_un, P_un, P_un], [.int 0, .ref 0], (P_hv132 xs 5))) P_i0_38 (fun _ => rfl) ?_
  refine P_wp_step (S' := (41, [.ref 0, .ref 2, .ref 47, .ref 63, .ref 64, .int 0, P_un, P_un, P_un], [.int (xs 0)], (P_hv132 xs 5))) P_i0_40 (fun _ => rfl) ?_
  refine P_wp_step (S' := (43, [.ref 0, .ref 2, .ref 47, .ref 63, .ref 64, .int 0, P_un, P_un, P_un], [.int 31, .int (xs 0)], (P_hv132 xs 5))) P_i0_41 (fun _ => rfl) ?_
  refine P_wp_step (S' := (44, [.ref 0, .ref 2, .ref 47, .ref 63, .ref 64, .int 0, P_un, P_un, P_un], [.int (xs 0 &&& 31)], (P_hv132 xs 5))) P_i0_43 (fun _ => rfl) ?_
  refine P_sw_at hsw (show P_wp P_Y0 200 0 (44, [.ref 0, .ref 2, .ref 47, .ref 63, .ref 64, .int 0, P_un, P_un, P_un], [.int 0], (P_hv132 xs 5)) _ from ?_)
  refine P_wp_step (S' := (168, [.ref 0, .ref 2, .ref 47, .ref 63, .ref 64, .int 0, P_un, P_un, P_un], [], (P_hv132 xs 5))) P_i0_44 (fun _ => P_do_sw (by decide +kernel)) ?_
  refine P_wp_step (S' := (169, [.ref 0, .ref 2, .ref 47, .ref 63, .ref 64, .int 0, P_un, P_un, P_un], [.ref 2], (P_hv132 xs 5))) P_i0_168 (fun _ => rfl) ?_
  refine P_wp_step (S' := (170, [.ref 0, .ref 2, .ref 47, .ref 63, .ref 64, .int 0, P_un, P_un, P_un], [.ref 0, .ref 2], (P_hv132 xs 5))) P_i0_169 (fun _ => rfl) ?_
  refine P_wp_step (S' := (172, [.ref 0, .ref 2, .ref 47, .ref 63, .ref 64, .int 0, P_un, P_un, P_un], [.int 0, .ref 0, .ref 2], (P_hv132 xs 5))) P_i0_170 (fun _ => rfl) ?_
  refine P_wp_step (S' := (173, [.ref 0, .ref 2, .ref 47, .ref 63, .ref 64, .int 0, P_un, P_un, P_un], [.int 1, .int 0, .ref 0, .ref 2], (P_hv132 xs 5))) P_i0_172 (fun _ => rfl) ?_
  refine P_wp_step (S' := (174, [.ref 0, .ref 2, .ref 47, .ref 63, .ref 64, .int 0, P_un, P_un, P_un], [.int 1, .ref 0, .ref 2], (P_hv132 xs 5))) P_i0_173 (fun _ => rfl) ?_
  refine P_wp_step (S' := (175, [.ref 0, .ref 2, .ref 47, .ref 63, .ref 64, .int 0, P_un, P_un, P_un], [.int (xs 1), .ref 2], (P_hv132 xs 5))) P_i0_174 (fun _ => rfl) ?_
  refine P_wp_step (S' := (176, [.ref 0, .ref 2, .ref 47, .ref 63, .ref 64, .int 0, P_un, P_un, P_un], [.ref 63, .int (xs 1), .ref 2], (P_hv132 xs 5))) P_i0_175 (fun _ => rfl) ?_
  refine P_wp_call P_i0_176 rfl rfl rfl rfl rfl rfl rfl (y2 := 270) (as := [.ref 2, .int (xs 1), .ref 63]) (r0 := []) rfl (Nat.le_of_ble_eq_true rfl) (by decide) rfl (Nat.le_of_ble_eq_true rfl) (P_x42 xs 5 hc1 hc2 (?_))
  show P_wp P_Y0 200 0 (179, [.ref 0, .ref 2, .ref 47, .ref 63, .ref 64, .int 0, P_un, P_un, P_un], [.int 1], (P_hv134 xs 5)) _
  refine P_wp_step (S' := (181, [.ref 0, .ref 2, .ref 47, .ref 63, .ref 64, .int 0, .int 1, P_un, P_un], [], (P_hv134 xs 5))) P_i0_179 (fun _ => rfl) ?_
  refine P_wp_step (S' := (182, [.ref 0, .ref 2, .ref 47, .ref 63, .ref 64, .int 0, .int 1, P_un, P_un], [.ref 47], (P_hv134 xs 5))) P_i0_181 (fun _ => rfl) ?_
  refine P_wp_step (S' := (183, [.ref 0, .ref 2, .ref 47, .ref 63, .ref 64, .int 0, .int 1, P_un, P_un], [.ref 0, .ref 47], (P_hv134 xs 5))) P_i0_182 (fun _ => rfl) ?_
  refine P_wp_step (S' := (185, [.ref 0, .ref 2, .ref 47, .ref 63, .ref 64, .int 0, .int 1, P_un, P_un], [.int 0, .ref 0, .ref 47], (P_hv134 xs 5))) P_i0_183 (fun _ => rfl) ?_
  refine P_wp_step (S' := (186, [.ref 0, .ref 2, .ref 47, .ref 63, .ref 64, .int 0, .int 1, P_un, P_un], [.int 1, .int 0, .ref 0, .ref 47], (P_hv134 xs 5))) P_i0_185 (fun _ => rfl) ?_
  refine P_wp_step (S' := (187, [.ref 0, .ref 2, .ref 47, .ref 63, .ref 64, .int 0, .int 1, P_un, P_un], [.int 1, .ref 0, .ref 47], (P_hv134 xs 5))) P_i0_186 (fun _ => rfl) ?_
  refine P_wp_step (S' := (188, [.ref 0, .ref 2, .ref 47, .ref 63, .ref 64, .int 0, .int 1, P_un, P_un], [.int (xs 1), .ref 47], (P_hv134 xs 5))) P_i0_187 (fun _ => rfl) ?_
  refine P_wp_call P_i0_188 rfl rfl rfl rfl rfl rfl rfl (y2 := 188) (as := [.ref 47, .int (xs 1)]) (r0 := []) rfl (Nat.le_of_ble_eq_true rfl) (by decide) rfl (Nat.le_of_ble_eq_true rfl) (P_x44 xs 5 hc3 hc4 (?_))
  show P_wp P_Y0 200 0 (191, [.ref 0, .ref 2, .ref 47, .ref 63, .ref 64, .int 0, .int 1, P_un, P_un], [.int 0], (P_hv135 xs 5)) _
  refine P_wp_step (S' := (193, [.ref 0, .ref 2, .ref 47, .ref 63, .ref 64, .int 0, .int 1, .int 0, P_un], [], (P_hv135 xs 5))) P_i0_191 (fun _ => rfl) ?_
  refine P_wp_step (S' := (194, [.ref 0, .ref 2, .ref 47, .ref 63, .ref 64, .int 0, .int 1, .int 0, P_un], [.ref 47], (P_hv135 xs 5))) P_i0_193 (fun _ => rfl) ?_
  refine P_wp_call P_i0_194 rfl rfl rfl rfl rfl rfl rfl (y2 := 183) (as := [.ref 47]) (r0 := []) rfl (Nat.le_of_ble_eq_true rfl) (by decide) rfl (Nat.le_of_ble_eq_true rfl) (P_x32 xs 5 (?_))
  show P_wp P_Y0 200 0 (197, [.ref 0, .ref 2, .ref 47, .ref 63, .ref 64, .int 0, .int 1, .int 0, P_un], [.int 1], (P_hv135 xs 5)) _
  refine P_wp_step (S' := (199, [.ref 0, .ref 2, .ref 47, .ref 63, .ref 64, .int 0, .int 1, .int 0, P_un], [.int 1, .int 1], (P_hv135 xs 5))) P_i0_197 (fun _ => rfl) ?_
  refine P_wp_ict P_i0_199 P_b20 (show P_wp P_Y0 200 0 (204, [.ref 0, .ref 2, .ref 47, .ref 63, .ref 64, .int 0, .int 1, .int 0, P_un], [], (P_hv135 xs 5)) _ from ?_)
  refine P_wp_step (S' := (206, [.ref 0, .ref 2, .ref 47, .ref 63, .ref 64, .int 0, .int 1, .int 0, P_un], [.int 1], (P_hv135 xs 5))) P_i0_204 (fun _ => rfl) ?_
  refine P_wp_izt P_i0_206 P_b21 (show P_wp P_Y0 200 0 (221, [.ref 0, .ref 2, .ref 47, .ref 63, .ref 64, .int 0, .int 1, .int 0, P_un], [], (P_hv135 xs 5)) _ from ?_)
  refine P_wp_step (S' := (1553, [.ref 0, .ref 2, .ref 47, .ref 63, .ref 64, .int 0, .int 1, .int 0, P_un], [], (P_hv135 xs 5))) P_i0_221 (fun _ => rfl) ?_
  refine P_wp_step (S' := (1556, [.ref 0, .ref 2, .ref 47, .ref 63, .ref 64, .int 5, .int 1, .int 0, P_un], [], (P_hv135 xs 5))) P_i0_1553 (fun _ => rfl) ?_
  refine P_wp_step (S' := (28, [.ref 0, .ref 2, .ref 47, .ref 63, .ref 64, .int 5, P_un, P_un, P_un], [], (P_hv135 xs 5))) P_i0_1556 (fun _ => rfl) ?_
  refine P_wp_step (S' := (30, [.ref 0, .ref 2, .ref 47, .ref 63, .ref 64, .int 5, P_un, P_un, P_un], [.int 5], (P_hv135 xs 5))) P_i0_28 (fun _ => rfl) ?_
  refine P_wp_step (S' := (31, [.ref 0, .ref 2, .ref 47, .ref 63, .ref 64, .int 5, P_un, P_un, P_un], [.ref 0, .int 5], (P_hv135 xs 5))) P_i0_30 (fun _ => rfl) ?_
  refine P_wp_step (S' := (32, [.ref 0, .ref 2, .ref 47, .ref 63, .ref 64, .int 5, P_un, P_un, P_un], [.int 5, .int 5], (P_hv135 xs 5))) P_i0_31 (fun _ => rfl) ?_
  refine P_wp_step (S' := (33, [.ref 0, .ref 2, .ref 47, .ref 63, .ref 64, .int 5, P_un, P_un, P_un], [.int 5, .int 5, .int 5], (P_hv135 xs 5))) P_i0_32 (fun _ => rfl) ?_
  refine P_wp_step (S' := (34, [.ref 0, .ref 2, .ref 47, .ref 63, .ref 64, .int 5, P_un, P_un, P_un], [.int 0, .int 5], (P_hv135 xs 5))) P_i0_33 (fun _ => rfl) ?_
  refine P_wp_ict P_i0_34 P_b22 (show P_wp P_Y0 200 0 (1559, [.ref 0, .ref 2, .ref 47, .ref 63, .ref 64, .int 5, P_un, P_un, P_un], [], (P_hv135 xs 5)) _ from ?_)
  refine P_wp_step (S' := (1560, [.ref 0, .ref 2, .ref 47, .ref 63, .ref 64, .int 5, P_un, P_un, P_un], [.int 1], (P_hv135 xs 5))) P_i0_1559 (fun _ => rfl) ?_
  refine P_wp_end (x := (.inl (some (.int 1)), (P_hv135 xs 5))) P_i0_1560 (fun _ => rfl) ?_
  exact ⟨rfl, Nat.le_of_ble_eq_true rfl, Nat.le_of_ble_eq_true rfl⟩

set_option maxRecDepth 20000 in
theorem P_pa3 (xs : Nat → Int32) (hsw : xs 0 &&& 31 = 1) (hc1 : P_cc .lt (xs 1) 0 = true) (hc2 : P_cc .lt (xs 1) 0 = true) : P_wp P_Y0 200 0 (28, [.ref 0, .ref 2, .ref 47, .ref 63, .ref 64, .int 0, P_un, P_un, P_un], [], (P_hv132 xs 5)) (fun r h => r = .inl (some (.int 1)) ∧ h.2.1 ≤ 600002 ∧ h.2.2 ≤ 7302232) := by
  refine P_wp_step (S' := (30, [.ref 0, .ref 2, .ref 47, .ref 63, .ref 64, .int 0, P_un, P_un, P_un], [.int 0], (P_hv132 xs 5))) P_i0_28 (fun _ => rfl) ?_
  refine P_wp_step (S' := (31, [.ref 0, .ref 2, .ref 47, .ref 63, .ref 64, .int 0, P_un, P_un, P_un], [.ref 0, .int 0], (P_hv132 xs 5))) P_i0_30 (fun _ => rfl) ?_
  refine P_wp_step (S' := (32, [.ref 0, .ref 2, .ref 47, .ref 63, .ref 64, .int 0, P_un, P_un, P_un], [.int 5, .int 0], (P_hv132 xs 5))) P_i0_31 (fun _ => rfl) ?_
  refine P_wp_step (S' := (33, [.ref 0, .ref 2, .ref 47, .ref 63, .ref 64, .int 0, P_un, P_un, P_un], [.int 5, .int 5, .int 0], (P_hv132 xs 5))) P_i0_32 (fun _ => rfl) ?_
  refine P_wp_step (S' := (34, [.ref 0, .ref 2, .ref 47, .ref 63, .ref 64, .int 0, P_un, P_un, P_un], [.int 0, .int 0], (P_hv132 xs 5))) P_i0_33 (fun _ => rfl) ?_
  refine P_wp_icf P_i0_34 P_b18 (show P_wp P_Y0 200 0 (37, [.ref 0, .ref 2, .ref 47, .ref 63, .ref 64, .int 0, P_un, P_un, P_un], [], (P_hv132 xs 5)) _ from ?_)
  refine P_wp_step (S' := (38, [.ref 0, .ref 2, .ref 47, .ref 63, .ref 64, .int 0, P_un, P_un, P_un], [.ref 0], (P_hv132 xs 5))) P_i0_37 (fun _ => rfl) ?_
  refine P_wp_step (S' := (40, [.ref 0, .ref 2, .ref 47, .ref 63, .ref 64, .int 0, P_un, P_un, P_un], [.int 0, .ref 0], (P_hv132 xs 5))) P_i0_38 (fun _ => rfl) ?_
  refine P_wp_step (S' := (41, [.ref 0, .ref 2, .ref 47, .ref 63, .ref 64, .int 0, P_un, P_un, P_un], [.int (xs 0)], (P_hv132 xs 5))) P_i0_40 (fun _ => rfl) ?_
  refine P_wp_step (S' := (43, [.ref 0, .ref 2, .ref 47, .ref 63, .ref 64, .int 0, P_un, P_un, P_un], [.int 31, .int (xs 0)], (P_hv132 xs 5))) P_i0_41 (fun _ => rfl) ?_
  refine P_wp_step (S' := (44, [.ref 0, .ref 2, .ref 47, .ref 63, .ref 64, .int 0, P_un, P_un, P_un], [.int (xs 0 &&& 31)], (P_hv132 xs 5))) P_i0_43 (fun _ => rfl) ?_
  refine P_sw_at hsw (show P_wp P_Y0 200 0 (44, [.ref 0, .ref 2, .ref 47, .ref 63, .ref 64, .int 0, P_un, P_un, P_un], [.int 1], (P_hv132 xs 5)) _ from ?_)
  refine P_wp_step (S' := (224, [.ref 0, .ref 2, .ref 47, .ref 63, .ref 64, .int 0, P_un, P_un, P_un], [], (P_hv132 xs 5))) P_i0_44 (fun _ => P_do_sw (by decide +kernel)) ?_
  refine P_wp_step (S' := (225, [.ref 0, .ref 2, .ref 47, .ref 63, .ref 64, .int 0, P_un, P_un, P_un], [.ref 2], (P_hv132 xs 5))) P_i0_224 (fun _ => rfl) ?_
  refine P_wp_step (S' := (226, [.ref 0, .ref 2, .ref 47, .ref 63, .ref 64, .int 0, P_un, P_un, P_un], [.ref 0, .ref 2], (P_hv132 xs 5))) P_i0_225 (fun _ => rfl) ?_
  refine P_wp_step (S' := (228, [.ref 0, .ref 2, .ref 47, .ref 63, .ref 64, .int 0, P_un, P_un, P_un], [.int 0, .ref 0, .ref 2], (P_hv132 xs 5))) P_i0_226 (fun _ => rfl) ?_
  refine P_wp_step (S' := (229, [.ref 0, .ref 2, .ref 47, .ref 63, .ref 64, .int 0, P_un, P_un, P_un], [.int 1, .int 0, .ref 0, .ref 2], (P_hv132 xs 5))) P_i0_228 (fun _ => rfl) ?_
  refine P_wp_step (S' := (230, [.ref 0, .ref 2, .ref 47, .ref 63, .ref 64, .int 0, P_un, P_un, P_un], [.int 1, .ref 0, .ref 2], (P_hv132 xs 5))) P_i0_229 (fun _ => rfl) ?_
  refine P_wp_step (S' := (231, [.ref 0, .ref 2, .ref 47, .ref 63, .ref 64, .int 0, P_un, P_un, P_un], [.int (xs 1), .ref 2], (P_hv132 xs 5))) P_i0_230 (fun _ => rfl) ?_
  refine P_wp_step (S' := (232, [.ref 0, .ref 2, .ref 47, .ref 63, .ref 64, .int 0, P_un, P_un, P_un], [.ref 0, .int (xs 1), .ref 2], (P_hv132 xs 5))) P_i0_231 (fun _ => rfl) ?_
  refine P_wp_step (S' := (234, [.ref 0, .ref 2, .ref 47, .ref 63, .ref 64, .int 0, P_un, P_un, P_un], [.int 0, .ref 0, .int (xs 1), .ref 2], (P_hv132 xs 5))) P_i0_232 (fun _ => rfl) ?_
  refine P_wp_step (S' := (235, [.ref 0, .ref 2, .ref 47, .ref 63, .ref 64, .int 0, P_un, P_un, P_un], [.int 2, .int 0, .ref 0, .int (xs 1), .ref 2], (P_hv132 xs 5))) P_i0_234 (fun _ => rfl) ?_
  refine P_wp_step (S' := (236, [.ref 0, .ref 2, .ref 47, .ref 63, .ref 64, .int 0, P_un, P_un, P_un], [.int 2, .ref 0, .int (xs 1), .ref 2], (P_hv132 xs 5))) P_i0_235 (fun _ => rfl) ?_
  refine P_wp_step (S' := (237, [.ref 0, .ref 2, .ref 47, .ref 63, .ref 64, .int 0, P_un, P_un, P_un], [.int (xs 2), .int (xs 1), .ref 2], (P_hv132 xs 5))) P_i0_236 (fun _ => rfl) ?_
  refine P_wp_step (S' := (238, [.ref 0, .ref 2, .ref 47, .ref 63, .ref 64, .int 0, P_un, P_un, P_un], [.ref 0, .int (xs 2), .int (xs 1), .ref 2], (P_hv132 xs 5))) P_i0_237 (fun _ => rfl) ?_
  refine P_wp_step (S' := (240, [.ref 0, .ref 2, .ref 47, .ref 63, .ref 64, .int 0, P_un, P_un, P_un], [.int 0, .ref 0, .int (xs 2), .int (xs 1), .ref 2], (P_hv132 xs 5))) P_i0_238 (fun _ => rfl) ?_
  refine P_wp_step (S' := (241, [.ref 0, .ref 2, .ref 47, .ref 63, .ref 64, .int 0, P_un, P_un, P_un], [.int 3, .int 0, .ref 0, .int (xs 2), .int (xs 1), .ref 2], (P_hv132 xs 5))) P_i0_240 (fun _ => rfl) ?_
  refine P_wp_step (S' := (242, [.ref 0, .ref 2, .ref 47, .ref 63, .ref 64, .int 0, P_un, P_un, P_un], [.int 3, .ref 0, .int (xs 2), .int (xs 1), .ref 2], (P_hv132 xs 5))) P_i0_241 (fun _ => rfl) ?_
  refine P_wp_step (S' := (243, [.ref 0, .ref 2, .ref 47, .ref 63, .ref 64, .int 0, P_un, P_un, P_un], [.int (xs 3), .int (xs 2), .int (xs 1), .ref 2], (P_hv132 xs 5))) P_i0_242 (fun _ => rfl) ?_
  refine P_wp_step (S' := (244, [.ref 0, .ref 2, .ref 47, .ref 63, .ref 64, .int 0, P_un, P_un, P_un], [.ref 0, .int (xs 3), .int (xs 2), .int (xs 1), .ref 2], (P_hv132 xs 5))) P_i0_243 (fun _ => rfl) ?_
  refine P_wp_step (S' := (246, [.ref 0, .ref 2, .ref 47, .ref 63, .ref 64, .int 0, P_un, P_un, P_un], [.int 0, .ref 0, .int (xs 3), .int (xs 2), .int (xs 1), .ref 2], (P_hv132 xs 5))) P_i0_244 (fun _ => rfl) ?_
  refine P_wp_step (S' := (247, [.ref 0, .ref 2, .ref 47, .ref 63, .ref 64, .int 0, P_un, P_un, P_un], [.int 4, .int 0, .ref 0, .int (xs 3), .int (xs 2), .int (xs 1), .ref 2], (P_hv132 xs 5))) P_i0_246 (fun _ => rfl) ?_
  refine P_wp_step (S' := (248, [.ref 0, .ref 2, .ref 47, .ref 63, .ref 64, .int 0, P_un, P_un, P_un], [.int 4, .ref 0, .int (xs 3), .int (xs 2), .int (xs 1), .ref 2], (P_hv132 xs 5))) P_i0_247 (fun _ => rfl) ?_
  refine P_wp_step (S' := (249, [.ref 0, .ref 2, .ref 47, .ref 63, .ref 64, .int 0, P_un, P_un, P_un], [.int (xs 4), .int (xs 3), .int (xs 2), .int (xs 1), .ref 2], (P_hv132 xs 5))) P_i0_248 (fun _ => rfl) ?_
  refine P_wp_step (S' := (250, [.ref 0, .ref 2, .ref 47, .ref 63, .ref 64, .int 0, P_un, P_un, P_un], [.ref 63, .int (xs 4), .int (xs 3), .int (xs 2), .int (xs 1), .ref 2], (P_hv132 xs 5))) P_i0_249 (fun _ => rfl) ?_
  refine P_wp_call P_i0_250 rfl rfl rfl rfl rfl rfl rfl (y2 := 271) (as := [.ref 2, .int (xs 1), .int (xs 2), .int (xs 3), .int (xs 4), .ref 63]) (r0 := []) rfl (Nat.le_of_ble_eq_true rfl) (by decide) rfl (Nat.le_of_ble_eq_true rfl) (P_x47 xs 5 hc1 (?_))
  show P_wp P_Y0 200 0 (253, [.ref 0, .ref 2, .ref 47, .ref 63, .ref 64, .int 0, P_un, P_un, P_un], [.int 1], (P_hv134 xs 5)) _
  refine P_wp_step (S' := (255, [.ref 0, .ref 2, .ref 47, .ref 63, .ref 64, .int 0, .int 1, P_un, P_un], [], (P_hv134 xs 5))) P_i0_253 (fun _ => rfl) ?_
  refine P_wp_step (S' := (256, [.ref 0, .ref 2, .ref 47, .ref 63, .ref 64, .int 0, .int 1, P_un, P_un], [.ref 47], (P_hv134 xs 5))) P_i0_255 (fun _ => rfl) ?_
  refine P_wp_step (S' := (257, [.ref 0, .ref 2, .ref 47, .ref 63, .ref 64, .int 0, .int 1, P_un, P_un], [.ref 0, .ref 47], (P_hv134 xs 5))) P_i0_256 (fun _ => rfl) ?_
  refine P_wp_step (S' := (259, [.ref 0, .ref 2, .ref 47, .ref 63, .ref 64, .int 0, .int 1, P_un, P_un], [.int 0, .ref 0, .ref 47], (P_hv134 xs 5))) P_i0_257 (fun _ => rfl) ?_
  refine P_wp_step (S' := (260, [.ref 0, .ref 2, .ref 47, .ref 63, .ref 64, .int 0, .int 1, P_un, P_un], [.int 1, .int 0, .ref 0, .ref 47], (P_hv134 xs 5))) P_i0_259 (fun _ => rfl) ?_
  refine P_wp_step (S' := (261, [.ref 0, .ref 2, .ref 47, .ref 63, .ref 64, .int 0, .int 1, P_un, P_un], [.int 1, .ref 0, .ref 47], (P_hv134 xs 5))) P_i0_260 (fun _ => rfl) ?_
  refine P_wp_step (S' := (262, [.ref 0, .ref 2, .ref 47, .ref 63, .ref 64, .int 0, .int 1, P_un, P_un], [.int (xs 1), .ref 47], (P_hv134 xs 5))) P_i0_261 (fun _ => rfl) ?_
  refine P_wp_step (S' := (263, [.ref 0, .ref 2, .ref 47, .ref 63, .ref 64, .int 0, .int 1, P_un, P_un], [.ref 0, .int (xs 1), .ref 47], (P_hv134 xs 5))) P_i0_262 (fun _ => rfl) ?_
  refine P_wp_step (S' := (265, [.ref 0, .ref 2, .ref 47, .ref 63, .ref 64, .int 0, .int 1, P_un, P_un], [.int 0, .ref 0, .int (xs 1), .ref 47], (P_hv134 xs 5))) P_i0_263 (fun _ => rfl) ?_
  refine P_wp_step (S' := (266, [.ref 0, .ref 2, .ref 47, .ref 63, .ref 64, .int 0, .int 1, P_un, P_un], [.int 2, .int 0, .ref 0, .int (xs 1), .ref 47], (P_hv134 xs 5))) P_i0_265 (fun _ => rfl) ?_
  refine P_wp_step (S' := (267, [.ref 0, .ref 2, .ref 47, .ref 63, .ref 64, .int 0, .int 1, P_un, P_un], [.int 2, .ref 0, .int (xs 1), .ref 47], (P_hv134 xs 5))) P_i0_266 (fun _ => rfl) ?_
  refine P_wp_step (S' := (268, [.ref 0, .ref 2, .ref 47, .ref 63, .ref 64, .int 0, .int 1, P_un, P_un], [.int (xs 2), .int (xs 1), .ref 47], (P_hv134 xs 5))) P_i0_267 (fun _ => rfl) ?_
  refine P_wp_step (S' := (269, [.ref 0, .ref 2, .ref 47, .ref 63, .ref 64, .int 0, .int 1, P_un, P_un], [.ref 0, .int (xs 2), .int (xs 1), .ref 47], (P_hv134 xs 5))) P_i0_268 (fun _ => rfl) ?_
  refine P_wp_step (S' := (271, [.ref 0, .ref 2, .ref 47, .ref 63, .ref 64, .int 0, .int 1, P_un, P_un], [.int 0, .ref 0, .int (xs 2), .int (xs 1), .ref 47], (P_hv134 xs 5))) P_i0_269 (fun _ => rfl) ?_
  refine P_wp_step (S' := (272, [.ref 0, .ref 2, .ref 47, .ref 63, .ref 64, .int 0, .int 1, P_un, P_un], [.int 3, .int 0, .ref 0, .int (xs 2), .int (xs 1), .ref 47], (P_hv134 xs 5))) P_i0_271 (fun _ => rfl) ?_
  refine P_wp_step (S' := (273, [.ref 0, .ref 2, .ref 47, .ref 63, .ref 64, .int 0, .int 1, P_un, P_un], [.int 3, .ref 0, .int (xs 2), .int (xs 1), .ref 47], (P_hv134 xs 5))) P_i0_272 (fun _ => rfl) ?_
  refine P_wp_step (S' := (274, [.ref 0, .ref 2, .ref 47, .ref 63, .ref 64, .int 0, .int 1, P_un, P_un], [.int (xs 3), .int (xs 2), .int (xs 1), .ref 47], (P_hv134 xs 5))) P_i0_273 (fun _ => rfl) ?_
  refine P_wp_step (S' := (275, [.ref 0, .ref 2, .ref 47, .ref 63, .ref 64, .int 0, .int 1, P_un, P_un], [.ref 0, .int (xs 3), .int (xs 2), .int (xs 1), .ref 47], (P_hv134 xs 5))) P_i0_274 (fun _ => rfl) ?_
  refine P_wp_step (S' := (277, [.ref 0, .ref 2, .ref 47, .ref 63, .ref 64, .int 0, .int 1, P_un, P_un], [.int 0, .ref 0, .int (xs 3), .int (xs 2), .int (xs 1), .ref 47], (P_hv134 xs 5))) P_i0_275 (fun _ => rfl) ?_
  refine P_wp_step (S' := (278, [.ref 0, .ref 2, .ref 47, .ref 63, .ref 64, .int 0, .int 1, P_un, P_un], [.int 4, .int 0, .ref 0, .int (xs 3), .int (xs 2), .int (xs 1), .ref 47], (P_hv134 xs 5))) P_i0_277 (fun _ => rfl) ?_
  refine P_wp_step (S' := (279, [.ref 0, .ref 2, .ref 47, .ref 63, .ref 64, .int 0, .int 1, P_un, P_un], [.int 4, .ref 0, .int (xs 3), .int (xs 2), .int (xs 1), .ref 47], (P_hv134 xs 5))) P_i0_278 (fun _ => rfl) ?_
  refine P_wp_step (S' := (280, [.ref 0, .ref 2, .ref 47, .ref 63, .ref 64, .int 0, .int 1, P_un, P_un], [.int (xs 4), .int (xs 3), .int (xs 2), .int (xs 1), .ref 47], (P_hv134 xs 5))) P_i0_279 (fun _ => rfl) ?_
  refine P_wp_call P_i0_280 rfl rfl rfl rfl rfl rfl rfl (y2 := 191) (as := [.ref 47, .int (xs 1), .int (xs 2), .int (xs 3), .int (xs 4)]) (r0 := []) rfl (Nat.le_of_ble_eq_true rfl) (by decide) rfl (Nat.le_of_ble_eq_true rfl) (P_x50 xs 5 hc2 (?_))
  show P_wp P_Y0 200 0 (283, [.ref 0, .ref 2, .ref 47, .ref 63, .ref 64, .int 0, .int 1, P_un, P_un], [.int 0], (P_hv135 xs 5)) _
  refine P_wp_step (S' := (285, [.ref 0, .ref 2, .ref 47, .ref 63, .ref 64, .int 0, .int 1, .int 0, P_un], [], (P_hv135 xs 5))) P_i0_283 (fun _ => rfl) ?_
  refine P_wp_step (S' := (286, [.ref 0, .ref 2, .ref 47, .ref 63, .ref 64, .int 0, .int 1, .int 0, P_un], [.ref 47], (P_hv135 xs 5))) P_i0_285 (fun _ => rfl) ?_
  refine P_wp_call P_i0_286 rfl rfl rfl rfl rfl rfl rfl (y2 := 183) (as := [.ref 47]) (r0 := []) rfl (Nat.le_of_ble_eq_true rfl) (by decide) rfl (Nat.le_of_ble_eq_true rfl) (P_x32 xs 5 (?_))
  show P_wp P_Y0 200 0 (289, [.ref 0, .ref 2, .ref 47, .ref 63, .ref 64, .int 0, .int 1, .int 0, P_un], [.int 1], (P_hv135 xs 5)) _
  refine P_wp_step (S' := (291, [.ref 0, .ref 2, .ref 47, .ref 63, .ref 64, .int 0, .int 1, .int 0, P_un], [.int 1, .int 1], (P_hv135 xs 5))) P_i0_289 (fun _ => rfl) ?_
  refine P_wp_ict P_i0_291 P_b20 (show P_wp P_Y0 200 0 (296, [.ref 0, .ref 2, .ref 47, .ref 63, .ref 64, .int 0, .int 1, .int 0, P_un], [], (P_hv135 xs 5)) _ from ?_)
  refine P_wp_step (S' := (298, [.ref 0, .ref 2, .ref 47, .ref 63, .ref 64, .int 0, .int 1, .int 0, P_un], [.int 1], (P_hv135 xs 5))) P_i0_296 (fun _ => rfl) ?_
  refine P_wp_izt P_i0_298 P_b21 (show P_wp P_Y0 200 0 (313, [.ref 0, .ref 2, .ref 47, .ref 63, .ref 64, .int 0, .int 1, .int 0, P_un], [], (P_hv135 xs 5)) _ from ?_)
  refine P_wp_step (S' := (1553, [.ref 0, .ref 2, .ref 47, .ref 63, .ref 64, .int 0, .int 1, .int 0, P_un], [], (P_hv135 xs 5))) P_i0_313 (fun _ => rfl) ?_
  refine P_wp_step (S' := (1556, [.ref 0, .ref 2, .ref 47, .ref 63, .ref 64, .int 5, .int 1, .int 0, P_un], [], (P_hv135 xs 5))) P_i0_1553 (fun _ => rfl) ?_
  refine P_wp_step (S' := (28, [.ref 0, .ref 2, .ref 47, .ref 63, .ref 64, .int 5, P_un, P_un, P_un], [], (P_hv135 xs 5))) P_i0_1556 (fun _ => rfl) ?_
  refine P_wp_step (S' := (30, [.ref 0, .ref 2, .ref 47, .ref 63, .ref 64, .int 5, P_un, P_un, P_un], [.int 5], (P_hv135 xs 5))) P_i0_28 (fun _ => rfl) ?_
  refine P_wp_step (S' := (31, [.ref 0, .ref 2, .ref 47, .ref 63, .ref 64, .int 5, P_un, P_un, P_un], [.ref 0, .int 5], (P_hv135 xs 5))) P_i0_30 (fun _ => rfl) ?_
  refine P_wp_step (S' := (32, [.ref 0, .ref 2, .ref 47, .ref 63, .ref 64, .int 5, P_un, P_un, P_un], [.int 5, .int 5], (P_hv135 xs 5))) P_i0_31 (fun _ => rfl) ?_
  refine P_wp_step (S' := (33, [.ref 0, .ref 2, .ref 47, .ref 63, .ref 64, .int 5, P_un, P_un, P_un], [.int 5, .int 5, .int 5], (P_hv135 xs 5))) P_i0_32 (fun _ => rfl) ?_
  refine P_wp_step (S' := (34, [.ref 0, .ref 2, .ref 47, .ref 63, .ref 64, .int 5, P_un, P_un, P_un], [.int 0, .int 5], (P_hv135 xs 5))) P_i0_33 (fun _ => rfl) ?_
  refine P_wp_ict P_i0_34 P_b22 (show P_wp P_Y0 200 0 (1559, [.ref 0, .ref 2, .ref 47, .ref 63, .ref 64, .int 5, P_un, P_un, P_un], [], (P_hv135 xs 5)) _ from ?_)
  refine P_wp_step (S' := (1560, [.ref 0, .ref 2, .ref 47, .ref 63, .ref 64, .int 5, P_un, P_un, P_un], [.int 1], (P_hv135 xs 5))) P_i0_1559 (fun _ => rfl) ?_
  refine P_wp_end (x := (.inl (some (.int 1)), (P_hv135 xs 5))) P_i0_1560 (fun _ => rfl) ?_
  exact ⟨rfl, Nat.le_of_ble_eq_true rfl, Nat.le_of_ble_eq_true rfl⟩

set_option maxRecDepth 20000 in
theorem P_pa4 (xs : Nat → Int32) (hsw : xs 0 &&& 31 = 1) (hc1 : P_cc .lt (xs 1) 0 = false) (hc2 : P_cc .ge (xs 1) 0 = true) (hc3 : P_cc .lt (xs 1) 0 = false) (hc4 : P_cc .gt (xs 1) (-1) = true) : P_wp P_Y0 200 0 (28, [.ref 0, .ref 2, .ref 47, .ref 63, .ref 64, .int 0, P_un, P_un, P_un], [], (P_hv132 xs 5)) (fun r h => r = .inl (some (.int 1)) ∧ h.2.1 ≤ 600002 ∧ h.2.2 ≤ 7302232) := by
  refine P_wp_step (S' := (30, [.ref 0, .ref 2, .ref 47, .ref 63, .ref 64, .int 0, P_un, P_un, P_un], [.int 0], (P_hv132 xs 5))) P_i0_28 (fun _ => rfl) ?_
  refine P_wp_step (S' := (31, [.ref 0, .ref 2, .ref 47, .ref 63, .ref 64, .int 0, P_un, P_un, P_un], [.ref 0, .int 0], (P_hv132 xs 5))) P_i0_30 (fun _ => rfl) ?_
  refine P_wp_step (S' := (32, [.ref 0, .ref 2, .ref 47, .ref 63, .ref 64, .int 0, P_un, P_un, P_un], [.int 5, .int 0], (P_hv132 xs 5))) P_i0_31 (fun _ => rfl) ?_
  refine P_wp_step (S' := (33, [.ref 0, .ref 2, .ref 47, .ref 63, .ref 64, .int 0, P_un, P_un, P_un], [.int 5, .int 5, .int 0], (P_hv132 xs 5))) P_i0_32 (fun _ => rfl) ?_
  refine P_wp_step (S' := (34, [.ref 0, .ref 2, .ref 47, .ref 63, .ref 64, .int 0, P_un, P_un, P_un], [.int 0, .int 0], (P_hv132 xs 5))) P_i0_33 (fun _ => rfl) ?_
  refine P_wp_icf P_i0_34 P_b18 (show P_wp P_Y0 200 0 (37, [.ref 0, .ref 2, .ref 47, .ref 63, .ref 64, .int 0, P_un, P_un, P_un], [], (P_hv132 xs 5)) _ from ?_)
  refine P_wp_step (S' := (38, [.ref 0, .ref 2, .ref 47, .ref 63, .ref 64, .int 0, P_un, P_un, P_un], [.ref 0], (P_hv132 xs 5))) P_i0_37 (fun _ => rfl) ?_
  refine P_wp_step (S' := (40, [.ref 0, .ref 2, .ref 47, .ref 63, .ref 64, .int 0, P_un, P_un, P_un], [.int 0, .ref 0], (P_hv132 xs 5))) P_i0_38 (fun _ => rfl) ?_
  refine P_wp_step (S' := (41, [.ref 0, .ref 2, .ref 47, .ref 63, .ref 64, .int 0, P_un, P_un, P_un], [.int (xs 0)], (P_hv132 xs 5))) P_i0_40 (fun _ => rfl) ?_
  refine P_wp_step (S' := (43, [.ref 0, .ref 2, .ref 47, .ref 63, .ref 64, .int 0, P_un, P_un, P_un], [.int 31, .int (xs 0)], (P_hv132 xs 5))) P_i0_41 (fun _ => rfl) ?_
  refine P_wp_step (S' := (44, [.ref 0, .ref 2, .ref 47, .ref 63, .ref 64, .int 0, P_un, P_un, P_un], [.int (xs 0 &&& 31)], (P_hv132 xs 5))) P_i0_43 (fun _ => rfl) ?_
  refine P_sw_at hsw (show P_wp P_Y0 200 0 (44, [.ref 0, .ref 2, .ref 47, .ref 63, .ref 64, .int 0, P_un, P_un, P_un], [.int 1], (P_hv132 xs 5)) _ from ?_)
  refine P_wp_step (S' := (224, [.ref 0, .ref 2, .ref 47, .ref 63, .ref 64, .int 0, P_un, P_un, P_un], [], (P_hv132 xs 5))) P_i0_44 (fun _ => P_do_sw (by decide +kernel)) ?_
  refine P_wp_step (S' := (225, [.ref 0, .ref 2, .ref 47, .ref 63, .ref 64, .int 0, P_un, P_un, P_un], [.ref 2], (P_hv132 xs 5))) P_i0_224 (fun _ => rfl) ?_
  refine P_wp_step (S' := (226, [.ref 0, .ref 2, .ref 47, .ref 63, .ref 64, .int 0, P_un, P_un, P_un], [.ref 0, .ref 2], (P_hv132 xs 5))) P_i0_225 (fun _ => rfl) ?_
  refine P_wp_step (S' := (228, [.ref 0, .ref 2, .ref 47, .ref 63, .ref 64, .int 0, P_un, P_un, P_un], [.int 0, .ref 0, .ref 2], (P_hv132 xs 5))) P_i0_226 (fun _ => rfl) ?_
  refine P_wp_step (S' := (229, [.ref 0, .ref 2, .ref 47, .ref 63, .ref 64, .int 0, P_un, P_un, P_un], [.int 1, .int 0, .ref 0, .ref 2], (P_hv132 xs 5))) P_i0_228 (fun _ => rfl) ?_
  refine P_wp_step (S' := (230, [.ref 0, .ref 2, .ref 47, .ref 63, .ref 64, .int 0, P_un, P_un, P_un], [.int 1, .ref 0, .ref 2], (P_hv132 xs 5))) P_i0_229 (fun _ => rfl) ?_
  refine P_wp_step (S' := (231, [.ref 0, .ref 2, .ref 47, .ref 63, .ref 64, .int 0, P_un, P_un, P_un], [.int (xs 1), .ref 2], (P_hv132 xs 5))) P_i0_230 (fun _ => rfl) ?_
  refine P_wp_step (S' := (232, [.ref 0, .ref 2, .ref 47, .ref 63, .ref 64, .int 0, P_un, P_un, P_un], [.ref 0, .int (xs 1), .ref 2], (P_hv132 xs 5))) P_i0_231 (fun _ => rfl) ?_
  refine P_wp_step (S' := (234, [.ref 0, .ref 2, .ref 47, .ref 63, .ref 64, .int 0, P_un, P_un, P_un], [.int 0, .ref 0, .int (xs 1), .ref 2], (P_hv132 xs 5))) P_i0_232 (fun _ => rfl) ?_
  refine P_wp_step (S' := (235, [.ref 0, .ref 2, .ref 47, .ref 63, .ref 64, .int 0, P_un, P_un, P_un], [.int 2, .int 0, .ref 0, .int (xs 1), .ref 2], (P_hv132 xs 5))) P_i0_234 (fun _ => rfl) ?_
  refine P_wp_step (S' := (236, [.ref 0, .ref 2, .ref 47, .ref 63, .ref 64, .int 0, P_un, P_un, P_un], [.int 2, .ref 0, .int (xs 1), .ref 2], (P_hv132 xs 5))) P_i0_235 (fun _ => rfl) ?_
  refine P_wp_step (S' := (237, [.ref 0, .ref 2, .ref 47, .ref 63, .ref 64, .int 0, P_un, P_un, P_un], [.int (xs 2), .int (xs 1), .ref 2], (P_hv132 xs 5))) P_i0_236 (fun _ => rfl) ?_
  refine P_wp_step (S' := (238, [.ref 0, .ref 2, .ref 47, .ref 63, .ref 64, .int 0, P_un, P_un, P_un], [.ref 0, .int (xs 2), .int (xs 1), .ref 2], (P_hv132 xs 5))) P_i0_237 (fun _ => rfl) ?_
  refine P_wp_step (S' := (240, [.ref 0, .ref 2, .ref 47, .ref 63, .ref 64, .int 0, P_un, P_un, P_un], [.int 0, .ref 0, .int (xs 2), .int (xs 1), .ref 2], (P_hv132 xs 5))) P_i0_238 (fun _ => rfl) ?_
  refine P_wp_step (S' := (241, [.ref 0, .ref 2, .ref 47, .ref 63, .ref 64, .int 0, P_un, P_un, P_un], [.int 3, .int 0, .ref 0, .int (xs 2), .int (xs 1), .ref 2], (P_hv132 xs 5))) P_i0_240 (fun _ => rfl) ?_
  refine P_wp_step (S' := (242, [.ref 0, .ref 2, .ref 47, .ref 63, .ref 64, .int 0, P_un, P_un, P_un], [.int 3, .ref 0, .int (xs 2), .int (xs 1), .ref 2], (P_hv132 xs 5))) P_i0_241 (fun _ => rfl) ?_
  refine P_wp_step (S' := (243, [.ref 0, .ref 2, .ref 47, .ref 63, .ref 64, .int 0, P_un, P_un, P_un], [.int (xs 3), .int (xs 2), .int (xs 1), .ref 2], (P_hv132 xs 5))) P_i0_242 (fun _ => rfl) ?_
  refine P_wp_step (S' := (244, [.ref 0, .ref 2, .ref 47, .ref 63, .ref 64, .int 0, P_un, P_un, P_un], [.ref 0, .int (xs 3), .int (xs 2), .int (xs 1), .ref 2], (P_hv132 xs 5))) P_i0_243 (fun _ => rfl) ?_
  refine P_wp_step (S' := (246, [.ref 0, .ref 2, .ref 47, .ref 63, .ref 64, .int 0, P_un, P_un, P_un], [.int 0, .ref 0, .int (xs 3), .int (xs 2), .int (xs 1), .ref 2], (P_hv132 xs 5))) P_i0_244 (fun _ => rfl) ?_
  refine P_wp_step (S' := (247, [.ref 0, .ref 2, .ref 47, .ref 63, .ref 64, .int 0, P_un, P_un, P_un], [.int 4, .int 0, .ref 0, .int (xs 3), .int (xs 2), .int (xs 1), .ref 2], (P_hv132 xs 5))) P_i0_246 (fun _ => rfl) ?_
  refine P_wp_step (S' := (248, [.ref 0, .ref 2, .ref 47, .ref 63, .ref 64, .int 0, P_un, P_un, P_un], [.int 4, .ref 0, .int (xs 3), .int (xs 2), .int (xs 1), .ref 2], (P_hv132 xs 5))) P_i0_247 (fun _ => rfl) ?_
  refine P_wp_step (S' := (249, [.ref 0, .ref 2, .ref 47, .ref 63, .ref 64, .int 0, P_un, P_un, P_un], [.int (xs 4), .int (xs 3), .int (xs 2), .int (xs 1), .ref 2], (P_hv132 xs 5))) P_i0_248 (fun _ => rfl) ?_
  refine P_wp_step (S' := (250, [.ref 0, .ref 2, .ref 47, .ref 63, .ref 64, .int 0, P_un, P_un, P_un], [.ref 63, .int (xs 4), .int (xs 3), .int (xs 2), .int (xs 1), .ref 2], (P_hv132 xs 5))) P_i0_249 (fun _ => rfl) ?_
  refine P_wp_call P_i0_250 rfl rfl rfl rfl rfl rfl rfl (y2 := 271) (as := [.ref 2, .int (xs 1), .int (xs 2), .int (xs 3), .int (xs 4), .ref 63]) (r0 := []) rfl (Nat.le_of_ble_eq_true rfl) (by decide) rfl (Nat.le_of_ble_eq_true rfl) (P_x53 xs 5 hc1 hc2 (?_))
  show P_wp P_Y0 200 0 (253, [.ref 0, .ref 2, .ref 47, .ref 63, .ref 64, .int 0, P_un, P_un, P_un], [.int 1], (P_hv134 xs 5)) _
  refine P_wp_step (S' := (255, [.ref 0, .ref 2, .ref 47, .ref 63, .ref 64, .int 0, .int 1, P_un, P_un], [], (P_hv134 xs 5))) P_i0_253 (fun _ => rfl) ?_
  refine P_wp_step (S' := (256, [.ref 0, .ref 2, .ref 47, .ref 63, .ref 64, .int 0, .int 1, P_un, P_un], [.ref 47], (P_hv134 xs 5))) P_i0_255 (fun _ => rfl) ?_
  refine P_wp_step (S' := (257, [.ref 0, .ref 2, .ref 47, .ref 63, .ref 64, .int 0, .int 1, P_un, P_un], [.ref 0, .ref 47], (P_hv134 xs 5))) P_i0_256 (fun _ => rfl) ?_
  refine P_wp_step (S' := (259, [.ref 0, .ref 2, .ref 47, .ref 63, .ref 64, .int 0, .int 1, P_un, P_un], [.int 0, .ref 0, .ref 47], (P_hv134 xs 5))) P_i0_257 (fun _ => rfl) ?_
  refine P_wp_step (S' := (260, [.ref 0, .ref 2, .ref 47, .ref 63, .ref 64, .int 0, .int 1, P_un, P_un], [.int 1, .int 0, .ref 0, .ref 47], (P_hv134 xs 5))) P_i0_259 (fun _ => rfl) ?_
  refine P_wp_step (S' := (261, [.ref 0, .ref 2, .ref 47, .ref 63, .ref 64, .int 0, .int 1, P_un, P_un], [.int 1, .ref 0, .ref 47], (P_hv134 xs 5))) P_i0_260 (fun _ => rfl) ?_
  refine P_wp_step (S' := (262, [.ref 0, .ref 2, .ref 47, .ref 63, .ref 64, .int 0, .int 1, P_un, P_un], [.int (xs 1), .ref 47], (P_hv134 xs 5))) P_i0_261 (fun _ => rfl) ?_
  refine P_wp_step (S' := (263, [.ref 0, .ref 2, .ref 47, .ref 63, .ref 64, .int 0, .int 1, P_un, P_un], [.ref 0, .int (xs 1), .ref 47], (P_hv134 xs 5))) P_i0_262 (fun _ => rfl) ?_
  refine P_wp_step (S' := (265, [.ref 0, .ref 2, .ref 47, .ref 63, .ref 64, .int 0, .int 1, P_un, P_un], [.int 0, .ref 0, .int (xs 1), .ref 47], (P_hv134 xs 5))) P_i0_263 (fun _ => rfl) ?_
  refine P_wp_step (S' := (266, [.ref 0, .ref 2, .ref 47, .ref 63, .ref 64, .int 0, .int 1, P_un, P_un], [.int 2, .int 0, .ref 0, .int (xs 1), .ref 47], (P_hv134 xs 5))) P_i0_265 (fun _ => rfl) ?_
  refine P_wp_step (S' := (267, [.ref 0, .ref 2, .ref 47, .ref 63, .ref 64, .int 0, .int 1, P_un, P_un], [.int 2, .ref 0, .int (xs 1), .ref 47], (P_hv134 xs 5))) P_i0_266 (fun _ => rfl) ?_
  refine P_wp_step (S' := (268, [.ref 0, .ref 2, .ref 47, .ref 63, .ref 64, .int 0, .int 1, P_un, P_un], [.int (xs 2), .int (xs 1), .ref 47], (P_hv134 xs 5))) P_i0_267 (fun _ => rfl) ?_
  refine P_wp_step (S' := (269, [.ref 0, .ref 2, .ref 47, .ref 63, .ref 64, .int 0, .int 1, P_un, P_un], [.ref 0, .int (xs 2), .int (xs 1), .ref 47], (P_hv134 xs 5))) P_i0_268 (fun _ => rfl) ?_
  refine P_wp_step (S' := (271, [.ref 0, .ref 2, .ref 47, .ref 63, .ref 64, .int 0, .int 1, P_un, P_un], [.int 0, .ref 0, .int (xs 2), .int (xs 1), .ref 47], (P_hv134 xs 5))) P_i0_269 (fun _ => rfl) ?_
  refine P_wp_step (S' := (272, [.ref 0, .ref 2, .ref 47, .ref 63, .ref 64, .int 0, .int 1, P_un, P_un], [.int 3, .int 0, .ref 0, .int (xs 2), .int (xs 1), .ref 47], (P_hv134 xs 5))) P_i0_271 (fun _ => rfl) ?_
  refine P_wp_step (S' := (273, [.ref 0, .ref 2, .ref 47, .ref 63, .ref 64, .int 0, .int 1, P_un, P_un], [.int 3, .ref 0, .int (xs 2), .int (xs 1), .ref 47], (P_hv134 xs 5))) P_i0_272 (fun _ => rfl) ?_
  refine P_wp_step (S' := (274, [.ref 0, .ref 2, .ref 47, .ref 63, .ref 64, .int 0, .int 1, P_un, P_un], [.int (xs 3), .int (xs 2), .int (xs 1), .ref 47], (P_hv134 xs 5))) P_i0_273 (fun _ => rfl) ?_
  refine P_wp_step (S' := (275, [.ref 0, .ref 2, .ref 47, .ref 63, .ref 64, .int 0, .int 1, P_un, P_un], [.ref 0, .int (xs 3), .int (xs 2), .int (xs 1), .ref 47], (P_hv134 xs 5))) P_i0_274 (fun _ => rfl) ?_
  refine P_wp_step (S' := (277, [.ref 0, .ref 2, .ref 47, .ref 63, .ref 64, .int 0, .int 1, P_un, P_un], [.int 0, .ref 0, .int (xs 3), .int (xs 2), .int (xs 1), .ref 47], (P_hv134 xs 5))) P_i0_275 (fun _ => rfl) ?_
  refine P_wp_step (S' := (278, [.ref 0, .ref 2, .ref 47, .ref 63, .ref 64, .int 0, .int 1, P_un, P_un], [.int 4, .int 0, .ref 0, .int (xs 3), .int (xs 2), .int (xs 1), .ref 47], (P_hv134 xs 5))) P_i0_277 (fun _ => rfl) ?_
  refine P_wp_step (S' := (279, [.ref 0, .ref 2, .ref 47, .ref 63, .ref 64, .int 0, .int 1, P_un, P_un], [.int 4, .ref 0, .int (xs 3), .int (xs 2), .int (xs 1), .ref 47], (P_hv134 xs 5))) P_i0_278 (fun _ => rfl) ?_
  refine P_wp_step (S' := (280, [.ref 0, .ref 2, .ref 47, .ref 63, .ref 64, .int 0, .int 1, P_un, P_un], [.int (xs 4), .int (xs 3), .int (xs 2), .int (xs 1), .ref 47], (P_hv134 xs 5))) P_i0_279 (fun _ => rfl) ?_
  refine P_wp_call P_i0_280 rfl rfl rfl rfl rfl rfl rfl (y2 := 191) (as := [.ref 47, .int (xs 1), .int (xs 2), .int (xs 3), .int (xs 4)]) (r0 := []) rfl (Nat.le_of_ble_eq_true rfl) (by decide) rfl (Nat.le_of_ble_eq_true rfl) (P_x56 xs 5 hc3 hc4 (?_))
  show P_wp P_Y0 200 0 (283, [.ref 0, .ref 2, .ref 47, .ref 63, .ref 64, .int 0, .int 1, P_un, P_un], [.int 0], (P_hv135 xs 5)) _
  refine P_wp_step (S' := (285, [.ref 0, .ref 2, .ref 47, .ref 63, .ref 64, .int 0, .int 1, .int 0, P_un], [], (P_hv135 xs 5))) P_i0_283 (fun _ => rfl) ?_
  refine P_wp_step (S' := (286, [.ref 0, .ref 2, .ref 47, .ref 63, .ref 64, .int 0, .int 1, .int 0, P_un], [.ref 47], (P_hv135 xs 5))) P_i0_285 (fun _ => rfl) ?_
  refine P_wp_call P_i0_286 rfl rfl rfl rfl rfl rfl rfl (y2 := 183) (as := [.ref 47]) (r0 := []) rfl (Nat.le_of_ble_eq_true rfl) (by decide) rfl (Nat.le_of_ble_eq_true rfl) (P_x32 xs 5 (?_))
  show P_wp P_Y0 200 0 (289, [.ref 0, .ref 2, .ref 47, .ref 63, .ref 64, .int 0, .int 1, .int 0, P_un], [.int 1], (P_hv135 xs 5)) _
  refine P_wp_step (S' := (291, [.ref 0, .ref 2, .ref 47, .ref 63, .ref 64, .int 0, .int 1, .int 0, P_un], [.int 1, .int 1], (P_hv135 xs 5))) P_i0_289 (fun _ => rfl) ?_
  refine P_wp_ict P_i0_291 P_b20 (show P_wp P_Y0 200 0 (296, [.ref 0, .ref 2, .ref 47, .ref 63, .ref 64, .int 0, .int 1, .int 0, P_un], [], (P_hv135 xs 5)) _ from ?_)
  refine P_wp_step (S' := (298, [.ref 0, .ref 2, .ref 47, .ref 63, .ref 64, .int 0, .int 1, .int 0, P_un], [.int 1], (P_hv135 xs 5))) P_i0_296 (fun _ => rfl) ?_
  refine P_wp_izt P_i0_298 P_b21 (show P_wp P_Y0 200 0 (313, [.ref 0, .ref 2, .ref 47, .ref 63, .ref 64, .int 0, .int 1, .int 0, P_un], [], (P_hv135 xs 5)) _ from ?_)
  refine P_wp_step (S' := (1553, [.ref 0, .ref 2, .ref 47, .ref 63, .ref 64, .int 0, .int 1, .int 0, P_un], [], (P_hv135 xs 5))) P_i0_313 (fun _ => rfl) ?_
  refine P_wp_step (S' := (1556, [.ref 0, .ref 2, .ref 47, .ref 63, .ref 64, .int 5, .int 1, .int 0, P_un], [], (P_hv135 xs 5))) P_i0_1553 (fun _ => rfl) ?_
  refine P_wp_step (S' := (28, [.ref 0, .ref 2, .ref 47, .ref 63, .ref 64, .int 5, P_un, P_un, P_un], [], (P_hv135 xs 5))) P_i0_1556 (fun _ => rfl) ?_
  refine P_wp_step (S' := (30, [.ref 0, .ref 2, .ref 47, .ref 63, .ref 64, .int 5, P_un, P_un, P_un], [.int 5], (P_hv135 xs 5))) P_i0_28 (fun _ => rfl) ?_
  refine P_wp_step (S' := (31, [.ref 0, .ref 2, .ref 47, .ref 63, .ref 64, .int 5, P_un, P_un, P_un], [.ref 0, .int 5], (P_hv135 xs 5))) P_i0_30 (fun _ => rfl) ?_
  refine P_wp_step (S' := (32, [.ref 0, .ref 2, .ref 47, .ref 63, .ref 64, .int 5, P_un, P_un, P_un], [.int 5, .int 5], (P_hv135 xs 5))) P_i0_31 (fun _ => rfl) ?_
  refine P_wp_step (S' := (33, [.ref 0, .ref 2, .ref 47, .ref 63, .ref 64, .int 5, P_un, P_un, P_un], [.int 5, .int 5, .int 5], (P_hv135 xs 5))) P_i0_32 (fun _ => rfl) ?_
  refine P_wp_step (S' := (34, [.ref 0, .ref 2, .ref 47, .ref 63, .ref 64, .int 5, P_un, P_un, P_un], [.int 0, .int 5], (P_hv135 xs 5))) P_i0_33 (fun _ => rfl) ?_
  refine P_wp_ict P_i0_34 P_b22 (show P_wp P_Y0 200 0 (1559, [.ref 0, .ref 2, .ref 47, .ref 63, .ref 64, .int 5, P_un, P_un, P_un], [], (P_hv135 xs 5)) _ from ?_)
  refine P_wp_step (S' := (1560, [.ref 0, .ref 2, .ref 47, .ref 63, .ref 64, .int 5, P_un, P_un, P_un], [.int 1], (P_hv135 xs 5))) P_i0_1559 (fun _ => rfl) ?_
  refine P_wp_end (x := (.inl (some (.int 1)), (P_hv135 xs 5))) P_i0_1560 (fun _ => rfl) ?_
  exact ⟨rfl, Nat.le_of_ble_eq_true rfl, Nat.le_of_ble_eq_true rfl⟩

set_option maxRecDepth 20000 in
theorem P_pa5 (xs : Nat → Int32) (hsw : xs 0 &&& 31 = 2) (hc1 : P_cc .lt (xs 1) 0 = true) (hc2 : P_cc .lt (xs 1) 0 = true) : P_wp P_Y0 200 0 (28, [.ref 0, .ref 2, .ref 47, .ref 63, .ref 64, .int 0, P_un, P_un, P_un], [], (P_hv132 xs 5)) (fun r h => r = .inl (some (.int 1)) ∧ h.2.1 ≤ 600002 ∧ h.2.2 ≤ 7302232) := by
  refine P_wp_step (S' := (30, [.ref 0, .ref 2, .ref 47, .ref 63, .ref 64, .int 0, P_un, P_un, P_un], [.int 0], (P_hv132 xs 5))) P_i0_28 (fun _ => rfl) ?_
  refine P_wp_step (S' := (31, [.ref 0, .ref 2, .ref 47, .ref 63, .ref 64, .int 0, P_un, P_un, P_un], [.ref 0, .int 0], (P_hv132 xs 5))) P_i0_30 (fun _ => rfl) ?_
  refine P_wp_step (S' := (32, [.ref 0, .ref 2, .ref 47, .ref 63, .ref 64, .int 0, P_un, P_un, P_un], [.int 5, .int 0], (P_hv132 xs 5))) P_i0_31 (fun _ => rfl) ?_
  refine P_wp_step (S' := (33, [.ref 0, .ref 2, .ref 47, .ref 63, .ref 64, .int 0, P_un, P_un, P_un], [.int 5, .int 5, .int 0], (P_hv132 xs 5))) P_i0_32 (fun _ => rfl) ?_
  refine P_wp_step (S' := (34, [.ref 0, .ref 2, .ref 47, .ref 63, .ref 64, .int 0, P_un, P_un, P_un], [.int 0, .int 0], (P_hv132 xs 5))) P_i0_33 (fun _ => rfl) ?_
  refine P_wp_icf P_i0_34 P_b18 (show P_wp P_Y0 200 0 (37, [.ref 0, .ref 2, .ref 47, .ref 63, .ref 64, .int 0, P_un, P_un, P_un], [], (P_hv132 xs 5)) _ from ?_)
  refine P_wp_step (S' := (38, [.ref 0, .ref 2, .ref 47, .ref 63, .ref 64, .int 0, P_un, P_un, P_un], [.ref 0], (P_hv132 xs 5))) P_i0_37 (fun _ => rfl) ?_
  refine P_wp_step (S' := (40, [.ref 0, .ref 2, .ref 47, .ref 63, .ref 64, .int 0, P_un, P_un, P_un], [.int 0, .ref 0], (P_hv132 xs 5))) P_i0_38 (fun _ => rfl) ?_
  refine P_wp_step (S' := (41, [.ref 0, .ref 2, .ref 47, .ref 63, .ref 64, .int 0, P_un, P_un, P_un], [.int (xs 0)], (P_hv132 xs 5))) P_i0_40 (fun _ => rfl) ?_
  refine P_wp_step (S' := (43, [.ref 0, .ref 2, .ref 47, .ref 63, .ref 64, .int 0, P_un, P_un, P_un], [.int 31, .int (xs 0)], (P_hv132 xs 5))) P_i0_41 (fun _ => rfl) ?_
  refine P_wp_step (S' := (44, [.ref 0, .ref 2, .ref 47, .ref 63, .ref 64, .int 0, P_un, P_un, P_un], [.int (xs 0 &&& 31)], (P_hv132 xs 5))) P_i0_43 (fun _ => rfl) ?_
  refine P_sw_at hsw (show P_wp P_Y0 200 0 (44, [.ref 0, .ref 2, .ref 47, .ref 63, .ref 64, .int 0, P_un, P_un, P_un], [.int 2], (P_hv132 xs 5)) _ from ?_)
  refine P_wp_step (S' := (316, [.ref 0, .ref 2, .ref 47, .ref 63, .ref 64, .int 0, P_un, P_un, P_un], [], (P_hv132 xs 5))) P_i0_44 (fun _ => P_do_sw (by decide +kernel)) ?_
  refine P_wp_step (S' := (317, [.ref 0, .ref 2, .ref 47, .ref 63, .ref 64, .int 0, P_un, P_un, P_un], [.ref 2], (P_hv132 xs 5))) P_i0_316 (fun _ => rfl) ?_
  refine P_wp_step (S' := (318, [.ref 0, .ref 2, .ref 47, .ref 63, .ref 64, .int 0, P_un, P_un, P_un], [.ref 0, .ref 2], (P_hv132 xs 5))) P_i0_317 (fun _ => rfl) ?_
  refine P_wp_step (S' := (320, [.ref 0, .ref 2, .ref 47, .ref 63, .ref 64, .int 0, P_un, P_un, P_un], [.int 0, .ref 0, .ref 2], (P_hv132 xs 5))) P_i0_318 (fun _ => rfl) ?_
  refine P_wp_step (S' := (321, [.ref 0, .ref 2, .ref 47, .ref 63, .ref 64, .int 0, P_un, P_un, P_un], [.int 1, .int 0, .ref 0, .ref 2], (P_hv132 xs 5))) P_i0_320 (fun _ => rfl) ?_
  refine P_wp_step (S' := (322, [.ref 0, .ref 2, .ref 47, .ref 63, .ref 64, .int 0, P_un, P_un, P_un], [.int 1, .ref 0, .ref 2], (P_hv132 xs 5))) P_i0_321 (fun _ => rfl) ?_
  refine P_wp_step (S' := (323, [.ref 0, .ref 2, .ref 47, .ref 63, .ref 64, .int 0, P_un, P_un, P_un], [.int (xs 1), .ref 2], (P_hv132 xs 5))) P_i0_322 (fun _ => rfl) ?_
  refine P_wp_step (S' := (324, [.ref 0, .ref 2, .ref 47, .ref 63, .ref 64, .int 0, P_un, P_un, P_un], [.ref 0, .int (xs 1), .ref 2], (P_hv132 xs 5))) P_i0_323 (fun _ => rfl) ?_
  refine P_wp_step (S' := (326, [.ref 0, .ref 2, .ref 47, .ref 63, .ref 64, .int 0, P_un, P_un, P_un], [.int 0, .ref 0, .int (xs 1), .ref 2], (P_hv132 xs 5))) P_i0_324 (fun _ => rfl) ?_
  refine P_wp_step (S' := (327, [.ref 0, .ref 2, .ref 47, .ref 63, .ref 64, .int 0, P_un, P_un, P_un], [.int 2, .int 0, .ref 0, .int (xs 1), .ref 2], (P_hv132 xs 5))) P_i0_326 (fun _ => rfl) ?_
  refine P_wp_step (S' := (328, [.ref 0, .ref 2, .ref 47, .ref 63, .ref 64, .int 0, P_un, P_un, P_un], [.int 2, .ref 0, .int (xs 1), .ref 2], (P_hv132 xs 5))) P_i0_327 (fun _ => rfl) ?_
  refine P_wp_step (S' := (329, [.ref 0, .ref 2, .ref 47, .ref 63, .ref 64, .int 0, P_un, P_un, P_un], [.int (xs 2), .int (xs 1), .ref 2], (P_hv132 xs 5))) P_i0_328 (fun _ => rfl) ?_
  refine P_wp_step (S' := (330, [.ref 0, .ref 2, .ref 47, .ref 63, .ref 64, .int 0, P_un, P_un, P_un], [.ref 63, .int (xs 2), .int (xs 1), .ref 2], (P_hv132 xs 5))) P_i0_329 (fun _ => rfl) ?_
  refine P_wp_call P_i0_330 rfl rfl rfl rfl rfl rfl rfl (y2 := 272) (as := [.ref 2, .int (xs 1), .int (xs 2), .ref 63]) (r0 := []) rfl (Nat.le_of_ble_eq_true rfl) (by decide) rfl (Nat.le_of_ble_eq_true rfl) (P_x58 xs 5 hc1 (?_))
  show P_wp P_Y0 200 0 (333, [.ref 0, .ref 2, .ref 47, .ref 63, .ref 64, .int 0, P_un, P_un, P_un], [.int 1], (P_hv134 xs 5)) _
  refine P_wp_step (S' := (335, [.ref 0, .ref 2, .ref 47, .ref 63, .ref 64, .int 0, .int 1, P_un, P_un], [], (P_hv134 xs 5))) P_i0_333 (fun _ => rfl) ?_
  refine P_wp_step (S' := (336, [.ref 0, .ref 2, .ref 47, .ref 63, .ref 64, .int 0, .int 1, P_un, P_un], [.ref 47], (P_hv134 xs 5))) P_i0_335 (fun _ => rfl) ?_
  refine P_wp_step (S' := (337, [.ref 0, .ref 2, .ref 47, .ref 63, .ref 64, .int 0, .int 1, P_un, P_un], [.ref 0, .ref 47], (P_hv134 xs 5))) P_i0_336 (fun _ => rfl) ?_
  refine P_wp_step (S' := (339, [.ref 0, .ref 2, .ref 47, .ref 63, .ref 64, .int 0, .int 1, P_un, P_un], [.int 0, .ref 0, .ref 47], (P_hv134 xs 5))) P_i0_337 (fun _ => rfl) ?_
  refine P_wp_step (S' := (340, [.ref 0, .ref 2, .ref 47, .ref 63, .ref 64, .int 0, .int 1, P_un, P_un], [.int 1, .int 0, .ref 0, .ref 47], (P_hv134 xs 5))) P_i0_339 (fun _ => rfl) ?_
  refine P_wp_step (S' := (341, [.ref 0, .ref 2, .ref 47, .ref 63, .ref 64, .int 0, .int 1, P_un, P_un], [.int 1, .ref 0, .ref 47], (P_hv134 xs 5))) P_i0_340 (fun _ => rfl) ?_
  refine P_wp_step (S' := (342, [.ref 0, .ref 2, .ref 47, .ref 63, .ref 64, .int 0, .int 1, P_un, P_un], [.int (xs 1), .ref 47], (P_hv134 xs 5))) P_i0_341 (fun _ => rfl) ?_
  refine P_wp_step (S' := (343, [.ref 0, .ref 2, .ref 47, .ref 63, .ref 64, .int 0, .int 1, P_un, P_un], [.ref 0, .int (xs 1), .ref 47], (P_hv134 xs 5))) P_i0_342 (fun _ => rfl) ?_
  refine P_wp_step (S' := (345, [.ref 0, .ref 2, .ref 47, .ref 63, .ref 64, .int 0, .int 1, P_un, P_un], [.int 0, .ref 0, .int (xs 1), .ref 47], (P_hv134 xs 5))) P_i0_343 (fun _ => rfl) ?_
  refine P_wp_step (S' := (346, [.ref 0, .ref 2, .ref 47, .ref 63, .ref 64, .int 0, .int 1, P_un, P_un], [.int 2, .int 0, .ref 0, .int (xs 1), .ref 47], (P_hv134 xs 5))) P_i0_345 (fun _ => rfl) ?_
  refine P_wp_step (S' := (347, [.ref 0, .ref 2, .ref 47, .ref 63, .ref 64, .int 0, .int 1, P_un, P_un], [.int 2, .ref 0, .int (xs 1), .ref 47], (P_hv134 xs 5))) P_i0_346 (fun _ => rfl) ?_
  refine P_wp_step (S' := (348, [.ref 0, .ref 2, .ref 47, .ref 63, .ref 64, .int 0, .int 1, P_un, P_un], [.int (xs 2), .int (xs 1), .ref 47], (P_hv134 xs 5))) P_i0_347 (fun _ => rfl) ?_
  refine P_wp_call P_i0_348 rfl rfl rfl rfl rfl rfl rfl (y2 := 192) (as := [.ref 47, .int (xs 1), .int (xs 2)]) (r0 := []) rfl (Nat.le_of_ble_eq_true rfl) (by decide) rfl (Nat.le_of_ble_eq_true rfl) (P_x59 xs 5 hc2 (?_))
  show P_wp P_Y0 200 0 (351, [.ref 0, .ref 2, .ref 47, .ref 63, .ref 64, .int 0, .int 1, P_un, P_un], [.int 0], (P_hv135 xs 5)) _
  refine P_wp_step (S' := (353, [.ref 0, .ref 2, .ref 47, .ref 63, .ref 64, .int 0, .int 1, .int 0, P_un], [], (P_hv135 xs 5))) P_i0_351 (fun _ => rfl) ?_
  refine P_wp_step (S' := (354, [.ref 0, .ref 2, .ref 47, .ref 63, .ref 64, .int 0, .int 1, .int 0, P_un], [.ref 47], (P_hv135 xs 5))) P_i0_353 (fun _ => rfl) ?_
  refine P_wp_call P_i0_354 rfl rfl rfl rfl rfl rfl rfl (y2 := 183) (as := [.ref 47]) (r0 := []) rfl (Nat.le_of_ble_eq_true rfl) (by decide) rfl (Nat.le_of_ble_eq_true rfl) (P_x32 xs 5 (?_))
  show P_wp P_Y0 200 0 (357, [.ref 0, .ref 2, .ref 47, .ref 63, .ref 64, .int 0, .int 1, .int 0, P_un], [.int 1], (P_hv135 xs 5)) _
  refine P_wp_step (S' := (359, [.ref 0, .ref 2, .ref 47, .ref 63, .ref 64, .int 0, .int 1, .int 0, P_un], [.int 1, .int 1], (P_hv135 xs 5))) P_i0_357 (fun _ => rfl) ?_
  refine P_wp_ict P_i0_359 P_b20 (show P_wp P_Y0 200 0 (364, [.ref 0, .ref 2, .ref 47, .ref 63, .ref 64, .int 0, .int 1, .int 0, P_un], [], (P_hv135 xs 5)) _ from ?_)
  refine P_wp_step (S' := (366, [.ref 0, .ref 2, .ref 47, .ref 63, .ref 64, .int 0, .int 1, .int 0, P_un], [.int 1], (P_hv135 xs 5))) P_i0_364 (fun _ => rfl) ?_
  refine P_wp_izt P_i0_366 P_b21 (show P_wp P_Y0 200 0 (381, [.ref 0, .ref 2, .ref 47, .ref 63, .ref 64, .int 0, .int 1, .int 0, P_un], [], (P_hv135 xs 5)) _ from ?_)
  refine P_wp_step (S' := (1553, [.ref 0, .ref 2, .ref 47, .ref 63, .ref 64, .int 0, .int 1, .int 0, P_un], [], (P_hv135 xs 5))) P_i0_381 (fun _ => rfl) ?_
  refine P_wp_step (S' := (1556, [.ref 0, .ref 2, .ref 47, .ref 63, .ref 64, .int 5, .int 1, .int 0, P_un], [], (P_hv135 xs 5))) P_i0_1553 (fun _ => rfl) ?_
  refine P_wp_step (S' := (28, [.ref 0, .ref 2, .ref 47, .ref 63, .ref 64, .int 5, P_un, P_un, P_un], [], (P_hv135 xs 5))) P_i0_1556 (fun _ => rfl) ?_
  refine P_wp_step (S' := (30, [.ref 0, .ref 2, .ref 47, .ref 63, .ref 64, .int 5, P_un, P_un, P_un], [.int 5], (P_hv135 xs 5))) P_i0_28 (fun _ => rfl) ?_
  refine P_wp_step (S' := (31, [.ref 0, .ref 2, .ref 47, .ref 63, .ref 64, .int 5, P_un, P_un, P_un], [.ref 0, .int 5], (P_hv135 xs 5))) P_i0_30 (fun _ => rfl) ?_
  refine P_wp_step (S' := (32, [.ref 0, .ref 2, .ref 47, .ref 63, .ref 64, .int 5, P_un, P_un, P_un], [.int 5, .int 5], (P_hv135 xs 5))) P_i0_31 (fun _ => rfl) ?_
  refine P_wp_step (S' := (33, [.ref 0, .ref 2, .ref 47, .ref 63, .ref 64, .int 5, P_un, P_un, P_un], [.int 5, .int 5, .int 5], (P_hv135 xs 5))) P_i0_32 (fun _ => rfl) ?_
  refine P_wp_step (S' := (34, [.ref 0, .ref 2, .ref 47, .ref 63, .ref 64, .int 5, P_un, P_un, P_un], [.int 0, .int 5], (P_hv135 xs 5))) P_i0_33 (fun _ => rfl) ?_
  refine P_wp_ict P_i0_34 P_b22 (show P_wp P_Y0 200 0 (1559, [.ref 0, .ref 2, .ref 47, .ref 63, .ref 64, .int 5, P_un, P_un, P_un], [], (P_hv135 xs 5)) _ from ?_)
  refine P_wp_step (S' := (1560, [.ref 0, .ref 2, .ref 47, .ref 63, .ref 64, .int 5, P_un, P_un, P_un], [.int 1], (P_hv135 xs 5))) P_i0_1559 (fun _ => rfl) ?_
  refine P_wp_end (x := (.inl (some (.int 1)), (P_hv135 xs 5))) P_i0_1560 (fun _ => rfl) ?_
  exact ⟨rfl, Nat.le_of_ble_eq_true rfl, Nat.le_of_ble_eq_true rfl⟩

set_option maxRecDepth 20000 in
theorem P_pa6 (xs : Nat → Int32) (hsw : xs 0 &&& 31 = 2) (hc1 : P_cc .lt (xs 1) 0 = false) (hc2 : P_cc .ge (xs 1) 0 = true) (hc3 : P_cc .lt (xs 1) 0 = false) (hc4 : P_cc .gt (xs 1) (-1) = true) : P_wp P_Y0 200 0 (28, [.ref 0, .ref 2, .ref 47, .ref 63, .ref 64, .int 0, P_un, P_un, P_un], [], (P_hv132 xs 5)) (fun r h => r = .inl (some (.int 1)) ∧ h.2.1 ≤ 600002 ∧ h.2.2 ≤ 7302232) := by
  refine P_wp_step (S' := (30, [.ref 0, .ref 2, .ref 47, .ref 63, .ref 64, .int 0, P_un, P_un, P_un], [.int 0], (P_hv132 xs 5))) P_i0_28 (fun _ => rfl) ?_
  refine P_wp_step (S' := (31, [.ref 0, .ref 2, .ref 47, .ref 63, .ref 64, .int 0, P_un, P_un, P_un], [.ref 0, .int 0], (P_hv132 xs 5))) P_i0_30 (fun _ => rfl) ?_
  refine P_wp_step (S' := (32, [.ref 0, .ref 2, .ref 47, .ref 63, .ref 64, .int 0, P_un, P_un, P_un], [.int 5, .int 0], (P_hv132 xs 5))) P_i0_31 (fun _ => rfl) ?_
  refine P_wp_step (S' := (33, [.ref 0, .ref 2, .ref 47, .ref 63, .ref 64, .int 0, P_un, P_un, P_un], [.int 5, .int 5, .int 0], (P_hv132 xs 5))) P_i0_32 (fun _ => rfl) ?_
  refine P_wp_step (S' := (34, [.ref 0, .ref 2, .ref 47, .ref 63, .ref 64, .int 0, P_un, P_un, P_un], [.int 0, .int 0], (P_hv132 xs 5))) P_i0_33 (fun _ => rfl) ?_
  refine P_wp_icf P_i0_34 P_b18 (show P_wp P_Y0 200 0 (37, [.ref 0, .ref 2, .ref 47, .ref 63, .ref 64, .int 0, P_un, P_un, P_un], [], (P_hv132 xs 5)) _ from ?_)
  refine P_wp_step (S' := (38, [.ref 0, .ref 2, .ref 47, .ref 63, .ref 64, .int 0, P_un, P_un, P_un], [.ref 0], (P_hv132 xs 5))) P_i0_37 (fun _ => rfl) ?_
  refine P_wp_step (S' := (40, [.ref 0, .ref 2, .ref 47, .ref 63, .ref 64, .int 0, P_un, P_un, P_un], [.int 0, .ref 0], (P_hv132 xs 5))) P_i0_38 (fun _ => rfl) ?_
  refine P_wp_step (S' := (41, [.ref 0, .ref 2, .ref 47, .ref 63, .ref 64, .int 0, P_un, P_un, P_un], [.int (xs 0)], (P_hv132 xs 5))) P_i0_40 (fun _ => rfl) ?_
  refine P_wp_step (S' := (43, [.ref 0, .ref 2, .ref 47, .ref 63, .ref 64, .int 0, P_un, P_un, P_un], [.int 31, .int (xs 0)], (P_hv132 xs 5))) P_i0_41 (fun _ => rfl) ?_
  refine P_wp_step (S' := (44, [.ref 0, .ref 2, .ref 47, .ref 63, .ref 64, .int 0, P_un, P_un, P_un], [.int (xs 0 &&& 31)], (P_hv132 xs 5))) P_i0_43 (fun _ => rfl) ?_
  refine P_sw_at hsw (show P_wp P_Y0 200 0 (44, [.ref 0, .ref 2, .ref 47, .ref 63, .ref 64, .int 0, P_un, P_un, P_un], [.int 2], (P_hv132 xs 5)) _ from ?_)
  refine P_wp_step (S' := (316, [.ref 0, .ref 2, .ref 47, .ref 63, .ref 64, .int 0, P_un, P_un, P_un], [], (P_hv132 xs 5))) P_i0_44 (fun _ => P_do_sw (by decide +kernel)) ?_
  refine P_wp_step (S' := (317, [.ref 0, .ref 2, .ref 47, .ref 63, .ref 64, .int 0, P_un, P_un, P_un], [.ref 2], (P_hv132 xs 5))) P_i0_316 (fun _ => rfl) ?_
  refine P_wp_step (S' := (318, [.ref 0, .ref 2, .ref 47, .ref 63, .ref 64, .int 0, P_un, P_un, P_un], [.ref 0, .ref 2], (P_hv132 xs 5))) P_i0_317 (fun _ => rfl) ?_
  refine P_wp_step (S' := (320, [.ref 0, .ref 2, .ref 47, .ref 63, .ref 64, .int 0, P_un, P_un, P_un], [.int 0, .ref 0, .ref 2], (P_hv132 xs 5))) P_i0_318 (fun _ => rfl) ?_
  refine P_wp_step (S' := (321, [.ref 0, .ref 2, .ref 47, .ref 63, .ref 64, .int 0, P_un, P_un, P_un], [.int 1, .int 0, .ref 0, .ref 2], (P_hv132 xs 5))) P_i0_320 (fun _ => rfl) ?_
  refine P_wp_step (S' := (322, [.ref 0, .ref 2, .ref 47, .ref 63, .ref 64, .int 0, P_un, P_un, P_un], [.int 1, .ref 0, .ref 2], (P_hv132 xs 5))) P_i0_321 (fun _ => rfl) ?_
  refine P_wp_step (S' := (323, [.ref 0, .ref 2, .ref 47, .ref 63, .ref 64, .int 0, P_un, P_un, P_un], [.int (xs 1), .ref 2], (P_hv132 xs 5))) P_i0_322 (fun _ => rfl) ?_
  refine P_wp_step (S' := (324, [.ref 0, .ref 2, .ref 47, .ref 63, .ref 64, .int 0, P_un, P_un, P_un], [.ref 0, .int (xs 1), .ref 2], (P_hv132 xs 5))) P_i0_323 (fun _ => rfl) ?_
  refine P_wp_step (S' := (326, [.ref 0, .ref 2, .ref 47, .ref 63, .ref 64, .int 0, P_un, P_un, P_un], [.int 0, .ref 0, .int (xs 1), .ref 2], (P_hv132 xs 5))) P_i0_324 (fun _ => rfl) ?_
  refine P_wp_step (S' := (327, [.ref 0, .ref 2, .ref 47, .ref 63, .ref 64, .int 0, P_un, P_un, P_un], [.int 2, .int 0, .ref 0, .int (xs 1), .ref 2], (P_hv132 xs 5))) P_i0_326 (fun _ => rfl) ?_
  refine P_wp_step (S' := (328, [.ref 0, .ref 2, .ref 47, .ref 63, .ref 64, .int 0, P_un, P_un, P_un], [.int 2, .ref 0, .int (xs 1), .ref 2], (P_hv132 xs 5))) P_i0_327 (fun _ => rfl) ?_
  refine P_wp_step (S' := (329, [.ref 0, .ref 2, .ref 47, .ref 63, .ref 64, .int 0, P_un, P_un, P_un], [.int (xs 2), .int (xs 1), .ref 2], (P_hv132 xs 5))) P_i0_328 (fun _ => rfl) ?_
  refine P_wp_step (S' := (330, [.ref 0, .ref 2, .ref 47, .ref 63, .ref 64, .int 0, P_un, P_un, P_un], [.ref 63, .int (xs 2), .int (xs 1), .ref 2], (P_hv132 xs 5))) P_i0_329 (fun _ => rfl) ?_
  refine P_wp_call P_i0_330 rfl rfl rfl rfl rfl rfl rfl (y2 := 272) (as := [.ref 2, .int (xs 1), .int (xs 2), .ref 63]) (r0 := []) rfl (Nat.le_of_ble_eq_true rfl) (by decide) rfl (Nat.le_of_ble_eq_true rfl) (P_x61 xs 5 hc1 hc2 (?_))
  show P_wp P_Y0 200 0 (333, [.ref 0, .ref 2, .ref 47, .ref 63, .ref 64, .int 0, P_un, P_un, P_un], [.int 1], (P_hv134 xs 5)) _
  refine P_wp_step (S' := (335, [.ref 0, .ref 2, .ref 47, .ref 63, .ref 64, .int 0, .int 1, P_un, P_un], [], (P_hv134 xs 5))) P_i0_333 (fun _ => rfl) ?_
  refine P_wp_step (S' := (336, [.ref 0, .ref 2, .ref 47, .ref 63, .ref 64, .int 0, .int 1, P_un, P_un], [.ref 47], (P_hv134 xs 5))) P_i0_335 (fun _ => rfl) ?_
  refine P_wp_step (S' := (337, [.ref 0, .ref 2, .ref 47, .ref 63, .ref 64, .int 0, .int 1, P_un, P_un], [.ref 0, .ref 47], (P_hv134 xs 5))) P_i0_336 (fun _ => rfl) ?_
  refine P_wp_step (S' := (339, [.ref 0, .ref 2, .ref 47, .ref 63, .ref 64, .int 0, .int 1, P_un, P_un], [.int 0, .ref 0, .ref 47], (P_hv134 xs 5))) P_i0_337 (fun _ => rfl) ?_
  refine P_wp_step (S' := (340, [.ref 0, .ref 2, .ref 47, .ref 63, .ref 64, .int 0, .int 1, P_un, P_un], [.int 1, .int 0, .ref 0, .ref 47], (P_hv134 xs 5))) P_i0_339 (fun _ => rfl) ?_
  refine P_wp_step (S' := (341, [.ref 0, .ref 2, .ref 47, .ref 63, .ref 64, .int 0, .int 1, P_un, P_un], [.int 1, .ref 0, .ref 47], (P_hv134 xs 5))) P_i0_340 (fun _ => rfl) ?_
  refine P_wp_step (S' := (342, [.ref 0, .ref 2, .ref 47, .ref 63, .ref 64, .int 0, .int 1, P_un, P_un], [.int (xs 1), .ref 47], (P_hv134 xs 5))) P_i0_341 (fun _ => rfl) ?_
  refine P_wp_step (S' := (343, [.ref 0, .ref 2, .ref 47, .ref 63, .ref 64, .int 0, .int 1, P_un, P_un], [.ref 0, .int (xs 1), .ref 47], (P_hv134 xs 5))) P_i0_342 (fun _ => rfl) ?_
  refine P_wp_step (S' := (345, [.ref 0, .ref 2, .ref 47, .ref 63, .ref 64, .int 0, .int 1, P_un, P_un], [.int 0, .ref 0, .int (xs 1), .ref 47], (P_hv134 xs 5))) P_i0_343 (fun _ => rfl) ?_
  refine P_wp_step (S' := (346, [.ref 0, .ref 2, .ref 47, .ref 63, .ref 64, .int 0, .int 1, P_un, P_un], [.int 2, .int 0, .ref 0, .int (xs 1), .ref 47], (P_hv134 xs 5))) P_i0_345 (fun _ => rfl) ?_
  refine P_wp_step (S' := (347, [.ref 0, .ref 2, .ref 47, .ref 63, .ref 64, .int 0, .int 1, P_un, P_un], [.int 2, .ref 0, .int (xs 1), .ref 47], (P_hv134 xs 5))) P_i0_346 (fun _ => rfl) ?_
  refine P_wp_step (S' := (348, [.ref 0, .ref 2, .ref 47, .ref 63, .ref 64, .int 0, .int 1, P_un, P_un], [.int (xs 2), .int (xs 1), .ref 47], (P_hv134 xs 5))) P_i0_347 (fun _ => rfl) ?_
  refine P_wp_call P_i0_348 rfl rfl rfl rfl rfl rfl rfl (y2 := 192) (as := [.ref 47, .int (xs 1), .int (xs 2)]) (r0 := []) rfl (Nat.le_of_ble_eq_true rfl) (by decide) rfl (Nat.le_of_ble_eq_true rfl) (P_x62 xs 5 hc3 hc4 (?_))
  show P_wp P_Y0 200 0 (351, [.ref 0, .ref 2, .ref 47, .ref 63, .ref 64, .int 0, .int 1, P_un, P_un], [.int 0], (P_hv135 xs 5)) _
  refine P_wp_step (S' := (353, [.ref 0, .ref 2, .ref 47, .ref 63, .ref 64, .int 0, .int 1, .int 0, P_un], [], (P_hv135 xs 5))) P_i0_351 (fun _ => rfl) ?_
  refine P_wp_step (S' := (354, [.ref 0, .ref 2, .ref 47, .ref 63, .ref 64, .int 0, .int 1, .int 0, P_un], [.ref 47], (P_hv135 xs 5))) P_i0_353 (fun _ => rfl) ?_
  refine P_wp_call P_i0_354 rfl rfl rfl rfl rfl rfl rfl (y2 := 183) (as := [.ref 47]) (r0 := []) rfl (Nat.le_of_ble_eq_true rfl) (by decide) rfl (Nat.le_of_ble_eq_true rfl) (P_x32 xs 5 (?_))
  show P_wp P_Y0 200 0 (357, [.ref 0, .ref 2, .ref 47, .ref 63, .ref 64, .int 0, .int 1, .int 0, P_un], [.int 1], (P_hv135 xs 5)) _
  refine P_wp_step (S' := (359, [.ref 0, .ref 2, .ref 47, .ref 63, .ref 64, .int 0, .int 1, .int 0, P_un], [.int 1, .int 1], (P_hv135 xs 5))) P_i0_357 (fun _ => rfl) ?_
  refine P_wp_ict P_i0_359 P_b20 (show P_wp P_Y0 200 0 (364, [.ref 0, .ref 2, .ref 47, .ref 63, .ref 64, .int 0, .int 1, .int 0, P_un], [], (P_hv135 xs 5)) _ from ?_)
  refine P_wp_step (S' := (366, [.ref 0, .ref 2, .ref 47, .ref 63, .ref 64, .int 0, .int 1, .int 0, P_un], [.int 1], (P_hv135 xs 5))) P_i0_364 (fun _ => rfl) ?_
  refine P_wp_izt P_i0_366 P_b21 (show P_wp P_Y0 200 0 (381, [.ref 0, .ref 2, .ref 47, .ref 63, .ref 64, .int 0, .int 1, .int 0, P_un], [], (P_hv135 xs 5)) _ from ?_)
  refine P_wp_step (S' := (1553, [.ref 0, .ref 2, .ref 47, .ref 63, .ref 64, .int 0, .int 1, .int 0, P_un], [], (P_hv135 xs 5))) P_i0_381 (fun _ => rfl) ?_
  refine P_wp_step (S' := (1556, [.ref 0, .ref 2, .ref 47, .ref 63, .ref 64, .int 5, .int 1, .int 0, P_un], [], (P_hv135 xs 5))) P_i0_1553 (fun _ => rfl) ?_
  refine P_wp_step (S' := (28, [.ref 0, .ref 2, .ref 47, .ref 63, .ref 64, .int 5, P_un, P_un, P_un], [], (P_hv135 xs 5))) P_i0_1556 (fun _ => rfl) ?_
  refine P_wp_step (S' := (30, [.ref 0, .ref 2, .ref 47, .ref 63, .ref 64, .int 5, P_un, P_un, P_un], [.int 5], (P_hv135 xs 5))) P_i0_28 (fun _ => rfl) ?_
  refine P_wp_step (S' := (31, [.ref 0, .ref 2, .ref 47, .ref 63, .ref 64, .int 5, P_un, P_un, P_un], [.ref 0, .int 5], (P_hv135 xs 5))) P_i0_30 (fun _ => rfl) ?_
  refine P_wp_step (S' := (32, [.ref 0, .ref 2, .ref 47, .ref 63, .ref 64, .int 5, P_un, P_un, P_un], [.int 5, .int 5], (P_hv135 xs 5))) P_i0_31 (fun _ => rfl) ?_
  refine P_wp_step (S' := (33, [.ref 0, .ref 2, .ref 47, .ref 63, .ref 64, .int 5, P_un, P_un, P_un], [.int 5, .int 5, .int 5], (P_hv135 xs 5))) P_i0_32 (fun _ => rfl) ?_
  refine P_wp_step (S' := (34, [.ref 0, .ref 2, .ref 47, .ref 63, .ref 64, .int 5, P_un, P_un, P_un], [.int 0, .int 5], (P_hv135 xs 5))) P_i0_33 (fun _ => rfl) ?_
  refine P_wp_ict P_i0_34 P_b22 (show P_wp P_Y0 200 0 (1559, [.ref 0, .ref 2, .ref 47, .ref 63, .ref 64, .int 5, P_un, P_un, P_un], [], (P_hv135 xs 5)) _ from ?_)
  refine P_wp_step (S' := (1560, [.ref 0, .ref 2, .ref 47, .ref 63, .ref 64, .int 5, P_un, P_un, P_un], [.int 1], (P_hv135 xs 5))) P_i0_1559 (fun _ => rfl) ?_
  refine P_wp_end (x := (.inl (some (.int 1)), (P_hv135 xs 5))) P_i0_1560 (fun _ => rfl) ?_
  exact ⟨rfl, Nat.le_of_ble_eq_true rfl, Nat.le_of_ble_eq_true rfl⟩

set_option maxRecDepth 20000 in
theorem P_pa7 (xs : Nat → Int32) (hsw : xs 0 &&& 31 = 3) (hc1 : P_cc .lt (xs 1) 0 = true) (hc2 : P_cc .lt (xs 1) 0 = true) : P_wp P_Y0 200 0 (28, [.ref 0, .ref 2, .ref 47, .ref 63, .ref 64, .int 0, P_un, P_un, P_un], [], (P_hv132 xs 5)) (fun r h => r = .inl (some (.int 1)) ∧ h.2.1 ≤ 600002 ∧ h.2.2 ≤ 7302232) := by
  refine P_wp_step (S' := (30, [.ref 0, .ref 2, .ref 47, .ref 63, .ref 64, .int 0, P_un, P_un, P_un], [.int 0], (P_hv132 xs 5))) P_i0_28 (fun _ => rfl) ?_
  refine P_wp_step (S' := (31, [.ref 0, .ref 2, .ref 47, .ref 63, .ref 64, .int 0, P_un, P_un, P_un], [.ref 0, .int 0], (P_hv132 xs 5))) P_i0_30 (fun _ => rfl) ?_
  refine P_wp_step (S' := (32, [.ref 0, .ref 2, .ref 47, .ref 63, .ref 64, .int 0, P_un, P_un, P_un], [.int 5, .int 0], (P_hv132 xs 5))) P_i0_31 (fun _ => rfl) ?_
  refine P_wp_step (S' := (33, [.ref 0, .ref 2, .ref 47, .ref 63, .ref 64, .int 0, P_un, P_un, P_un], [.int 5, .int 5, .int 0], (P_hv132 xs 5))) P_i0_32 (fun _ => rfl) ?_
  refine P_wp_step (S' := (34, [.ref 0, .ref 2, .ref 47, .ref 63, .ref 64, .int 0, P_un, P_un, P_un], [.int 0, .int 0], (P_hv132 xs 5))) P_i0_33 (fun _ => rfl) ?_
  refine P_wp_icf P_i0_34 P_b18 (show P_wp P_Y0 200 0 (37, [.ref 0, .ref 2, .ref 47, .ref 63, .ref 64, .int 0, P_un, P_un, P_un], [], (P_hv132 xs 5)) _ from ?_)
  refine P_wp_step (S' := (38, [.ref 0, .ref 2, .ref 47, .ref 63, .ref 64, .int 0, P_un, P_un, P_un], [.ref 0], (P_hv132 xs 5))) P_i0_37 (fun _ => rfl) ?_
  refine P_wp_step (S' := (40, [.ref 0, .ref 2, .ref 47, .ref 63, .ref 64, .int 0, P_un, P_un, P_un], [.int 0, .ref 0], (P_hv132 xs 5))) P_i0_38 (fun _ => rfl) ?_
  refine P_wp_step (S' := (41, [.ref 0, .ref 2, .ref 47, .ref 63, .ref 64, .int 0, P_un, P_un, P_un], [.int (xs 0)], (P_hv132 xs 5))) P_i0_40 (fun _ => rfl) ?_
  refine P_wp_step (S' := (43, [.ref 0, .ref 2, .ref 47, .ref 63, .ref 64, .int 0, P_un, P_un, P_un], [.int 31, .int (xs 0)], (P_hv132 xs 5))) P_i0_41 (fun _ => rfl) ?_
  refine P_wp_step (S' := (44, [.ref 0, .ref 2, .ref 47, .ref 63, .ref 64, .int 0, P_un, P_un, P_un], [.int (xs 0 &&& 31)], (P_hv132 xs 5))) P_i0_43 (fun _ => rfl) ?_
  refine P_sw_at hsw (show P_wp P_Y0 200 0 (44, [.ref 0, .ref 2, .ref 47, .ref 63, .ref 64, .int 0, P_un, P_un, P_un], [.int 3], (P_hv132 xs 5)) _ from ?_)
  refine P_wp_step (S' := (384, [.ref 0, .ref 2, .ref 47, .ref 63, .ref 64, .int 0, P_un, P_un, P_un], [], (P_hv132 xs 5))) P_i0_44 (fun _ => P_do_sw (by decide +kernel)) ?_
  refine P_wp_step (S' := (385, [.ref 0, .ref 2, .ref 47, .ref 63, .ref 64, .int 0, P_un, P_un, P_un], [.ref 2], (P_hv132 xs 5))) P_i0_384 (fun _ => rfl) ?_
  refine P_wp_step (S' := (386, [.ref 0, .ref 2, .ref 47, .ref 63, .ref 64, .int 0, P_un, P_un, P_un], [.ref 0, .ref 2], (P_hv132 xs 5))) P_i0_385 (fun _ => rfl) ?_
  refine P_wp_step (S' := (388, [.ref 0, .ref 2, .ref 47, .ref 63, .ref 64, .int 0, P_un, P_un, P_un], [.int 0, .ref 0, .ref 2], (P_hv132 xs 5))) P_i0_386 (fun _ => rfl) ?_
  refine P_wp_step (S' := (389, [.ref 0, .ref 2, .ref 47, .ref 63, .ref 64, .int 0, P_un, P_un, P_un], [.int 1, .int 0, .ref 0, .ref 2], (P_hv132 xs 5))) P_i0_388 (fun _ => rfl) ?_
  refine P_wp_step (S' := (390, [.ref 0, .ref 2, .ref 47, .ref 63, .ref 64, .int 0, P_un, P_un, P_un], [.int 1, .ref 0, .ref 2], (P_hv132 xs 5))) P_i0_389 (fun _ => rfl) ?_
  refine P_wp_step (S' := (391, [.ref 0, .ref 2, .ref 47, .ref 63, .ref 64, .int 0, P_un, P_un, P_un], [.int (xs 1), .ref 2], (P_hv132 xs 5))) P_i0_390 (fun _ => rfl) ?_
  refine P_wp_step (S' := (392, [.ref 0, .ref 2, .ref 47, .ref 63, .ref 64, .int 0, P_un, P_un, P_un], [.ref 0, .int (xs 1), .ref 2], (P_hv132 xs 5))) P_i0_391 (fun _ => rfl) ?_
  refine P_wp_step (S' := (394, [.ref 0, .ref 2, .ref 47, .ref 63, .ref 64, .int 0, P_un, P_un, P_un], [.int 0, .ref 0, .int (xs 1), .ref 2], (P_hv132 xs 5))) P_i0_392 (fun _ => rfl) ?_
  refine P_wp_step (S' := (395, [.ref 0, .ref 2, .ref 47, .ref 63, .ref 64, .int 0, P_un, P_un, P_un], [.int 2, .int 0, .ref 0, .int (xs 1), .ref 2], (P_hv132 xs 5))) P_i0_394 (fun _ => rfl) ?_
  refine P_wp_step (S' := (396, [.ref 0, .ref 2, .ref 47, .ref 63, .ref 64, .int 0, P_un, P_un, P_un], [.int 2, .ref 0, .int (xs 1), .ref 2], (P_hv132 xs 5))) P_i0_395 (fun _ => rfl) ?_
  refine P_wp_step (S' := (397, [.ref 0, .ref 2, .ref 47, .ref 63, .ref 64, .int 0, P_un, P_un, P_un], [.int (xs 2), .int (xs 1), .ref 2], (P_hv132 xs 5))) P_i0_396 (fun _ => rfl) ?_
  refine P_wp_step (S' := (398, [.ref 0, .ref 2, .ref 47, .ref 63, .ref 64, .int 0, P_un, P_un, P_un], [.ref 63, .int (xs 2), .int (xs 1), .ref 2], (P_hv132 xs 5))) P_i0_397 (fun _ => rfl) ?_
  refine P_wp_call P_i0_398 rfl rfl rfl rfl rfl rfl rfl (y2 := 273) (as := [.ref 2, .int (xs 1), .int (xs 2), .ref 63]) (r0 := []) rfl (Nat.le_of_ble_eq_true rfl) (by decide) rfl (Nat.le_of_ble_eq_true rfl) (P_x64 xs 5 hc1 (?_))
  show P_wp P_Y0 200 0 (401, [.ref 0, .ref 2, .ref 47, .ref 63, .ref 64, .int 0, P_un, P_un, P_un], [.int 1], (P_hv134 xs 5)) _
  refine P_wp_step (S' := (403, [.ref 0, .ref 2, .ref 47, .ref 63, .ref 64, .int 0, .int 1, P_un, P_un], [], (P_hv134 xs 5))) P_i0_401 (fun _ => rfl) ?_
  refine P_wp_step (S' := (404, [.ref 0, .ref 2, .ref 47, .ref 63, .ref 64, .int 0, .int 1, P_un, P_un], [.ref 47], (P_hv134 xs 5))) P_i0_403 (fun _ => rfl) ?_
  refine P_wp_step (S' := (405, [.ref 0, .ref 2, .ref 47, .ref 63, .ref 64, .int 0, .int 1, P_un, P_un], [.ref 0, .ref 47], (P_hv134 xs 5))) P_i0_404 (fun _ => rfl) ?_
  refine P_wp_step (S' := (407, [.ref 0, .ref 2, .ref 47, .ref 63, .ref 64, .int 0, .int 1, P_un, P_un], [.int 0, .ref 0, .ref 47], (P_hv134 xs 5))) P_i0_405 (fun _ => rfl) ?_
  refine P_wp_step (S' := (408, [.ref 0, .ref 2, .ref 47, .ref 63, .ref 64, .int 0, .int 1, P_un, P_un], [.int 1, .int 0, .ref 0, .ref 47], (P_hv134 xs 5))) P_i0_407 (fun _ => rfl) ?_
  refine P_wp_step (S' := (409, [.ref 0, .ref 2, .ref 47, .ref 63, .ref 64, .int 0, .int 1, P_un, P_un], [.int 1, .ref 0, .ref 47], (P_hv134 xs 5))) P_i0_408 (fun _ => rfl) ?_
  refine P_wp_step (S' := (410, [.ref 0, .ref 2, .ref 47, .ref 63, .ref 64, .int 0, .int 1, P_un, P_un], [.int (xs 1), .ref 47], (P_hv134 xs 5))) P_i0_409 (fun _ => rfl) ?_
  refine P_wp_step (S' := (411, [.ref 0, .ref 2, .ref 47, .ref 63, .ref 64, .int 0, .int 1, P_un, P_un], [.ref 0, .int (xs 1), .ref 47], (P_hv134 xs 5))) P_i0_410 (fun _ => rfl) ?_
  refine P_wp_step (S' := (413, [.ref 0, .ref 2, .ref 47, .ref 63, .ref 64, .int 0, .int 1, P_un, P_un], [.int 0, .ref 0, .int (xs 1), .ref 47], (P_hv134 xs 5))) P_i0_411 (fun _ => rfl) ?_
  refine P_wp_step (S' := (414, [.ref 0, .ref 2, .ref 47, .ref 63, .ref 64, .int 0, .int 1, P_un, P_un], [.int 2, .int 0, .ref 0, .int (xs 1), .ref 47], (P_hv134 xs 5))) P_i0_413 (fun _ => rfl) ?_
  refine P_wp_step (S' := (415, [.ref 0, .ref 2, .ref 47, .ref 63, .ref 64, .int 0, .int 1, P_un, P_un], [.int 2, .ref 0, .int (xs 1), .ref 47], (P_hv134 xs 5))) P_i0_414 (fun _ => rfl) ?_
  refine P_wp_step (S' := (416, [.ref 0, .ref 2, .ref 47, .ref 63, .ref 64, .int 0, .int 1, P_un, P_un], [.int (xs 2), .int (xs 1), .ref 47], (P_hv134 xs 5))) P_i0_415 (fun _ => rfl) ?_
  refine P_wp_call P_i0_416 rfl rfl rfl rfl rfl rfl rfl (y2 := 194) (as := [.ref 47, .int (xs 1), .int (xs 2)]) (r0 := []) rfl (Nat.le_of_ble_eq_true rfl) (by decide) rfl (Nat.le_of_ble_eq_true rfl) (P_x65 xs 5 hc2 (?_))
  show P_wp P_Y0 200 0 (419, [.ref 0, .ref 2, .ref 47, .ref 63, .ref 64, .int 0, .int 1, P_un, P_un], [.int 0], (P_hv135 xs 5)) _
  refine P_wp_step (S' := (421, [.ref 0, .ref 2, .ref 47, .ref 63, .ref 64, .int 0, .int 1, .int 0, P_un], [], (P_hv135 xs 5))) P_i0_419 (fun _ => rfl) ?_
  refine P_wp_step (S' := (422, [.ref 0, .ref 2, .ref 47, .ref 63, .ref 64, .int 0, .int 1, .int 0, P_un], [.ref 47], (P_hv135 xs 5))) P_i0_421 (fun _ => rfl) ?_
  refine P_wp_call P_i0_422 rfl rfl rfl rfl rfl rfl rfl (y2 := 183) (as := [.ref 47]) (r0 := []) rfl (Nat.le_of_ble_eq_true rfl) (by decide) rfl (Nat.le_of_ble_eq_true rfl) (P_x32 xs 5 (?_))
  show P_wp P_Y0 200 0 (425, [.ref 0, .ref 2, .ref 47, .ref 63, .ref 64, .int 0, .int 1, .int 0, P_un], [.int 1], (P_hv135 xs 5)) _
  refine P_wp_step (S' := (427, [.ref 0, .ref 2, .ref 47, .ref 63, .ref 64, .int 0, .int 1, .int 0, P_un], [.int 1, .int 1], (P_hv135 xs 5))) P_i0_425 (fun _ => rfl) ?_
  refine P_wp_ict P_i0_427 P_b20 (show P_wp P_Y0 200 0 (432, [.ref 0, .ref 2, .ref 47, .ref 63, .ref 64, .int 0, .int 1, .int 0, P_un], [], (P_hv135 xs 5)) _ from ?_)
  refine P_wp_step (S' := (434, [.ref 0, .ref 2, .ref 47, .ref 63, .ref 64, .int 0, .int 1, .int 0, P_un], [.int 1], (P_hv135 xs 5))) P_i0_432 (fun _ => rfl) ?_
  refine P_wp_izt P_i0_434 P_b21 (show P_wp P_Y0 200 0 (449, [.ref 0, .ref 2, .ref 47, .ref 63, .ref 64, .int 0, .int 1, .int 0, P_un], [], (P_hv135 xs 5)) _ from ?_)
  refine P_wp_step (S' := (1553, [.ref 0, .ref 2, .ref 47, .ref 63, .ref 64, .int 0, .int 1, .int 0, P_un], [], (P_hv135 xs 5))) P_i0_449 (fun _ => rfl) ?_
  refine P_wp_step (S' := (1556, [.ref 0, .ref 2, .ref 47, .ref 63, .ref 64, .int 5, .int 1, .int 0, P_un], [], (P_hv135 xs 5))) P_i0_1553 (fun _ => rfl) ?_
  refine P_wp_step (S' := (28, [.ref 0, .ref 2, .ref 47, .ref 63, .ref 64, .int 5, P_un, P_un, P_un], [], (P_hv135 xs 5))) P_i0_1556 (fun _ => rfl) ?_
  refine P_wp_step (S' := (30, [.ref 0, .ref 2, .ref 47, .ref 63, .ref 64, .int 5, P_un, P_un, P_un], [.int 5], (P_hv135 xs 5))) P_i0_28 (fun _ => rfl) ?_
  refine P_wp_step (S' := (31, [.ref 0, .ref 2, .ref 47, .ref 63, .ref 64, .int 5, P_un, P_un, P_un], [.ref 0, .int 5], (P_hv135 xs 5))) P_i0_30 (fun _ => rfl) ?_
  refine P_wp_step (S' := (32, [.ref 0, .ref 2, .ref 47, .ref 63, .ref 64, .int 5, P_un, P_un, P_un], [.int 5, .int 5], (P_hv135 xs 5))) P_i0_31 (fun _ => rfl) ?_
  refine P_wp_step (S' := (33, [.ref 0, .ref 2, .ref 47, .ref 63, .ref 64, .int 5, P_un, P_un, P_un], [.int 5, .int 5, .int 5], (P_hv135 xs 5))) P_i0_32 (fun _ => rfl) ?_
  refine P_wp_step (S' := (34, [.ref 0, .ref 2, .ref 47, .ref 63, .ref 64, .int 5, P_un, P_un, P_un], [.int 0, .int 5], (P_hv135 xs 5))) P_i0_33 (fun _ => rfl) ?_
  refine P_wp_ict P_i0_34 P_b22 (show P_wp P_Y0 200 0 (1559, [.ref 0, .ref 2, .ref 47, .ref 63, .ref 64, .int 5, P_un, P_un, P_un], [], (P_hv135 xs 5)) _ from ?_)
  refine P_wp_step (S' := (1560, [.ref 0, .ref 2, .ref 47, .ref 63, .ref 64, .int 5, P_un, P_un, P_un], [.int 1], (P_hv135 xs 5))) P_i0_1559 (fun _ => rfl) ?_
  refine P_wp_end (x := (.inl (some (.int 1)), (P_hv135 xs 5))) P_i0_1560 (fun _ => rfl) ?_
  exact ⟨rfl, Nat.le_of_ble_eq_true rfl, Nat.le_of_ble_eq_true rfl⟩

set_option maxRecDepth 20000 in
theorem P_pa8 (xs : Nat → Int32) (hsw : xs 0 &&& 31 = 3) (hc1 : P_cc .lt (xs 1) 0 = false) (hc2 : P_cc .ge (xs 1) 0 = true) (hc3 : P_cc .lt (xs 1) 0 = false) (hc4 : P_cc .gt (xs 1) (-1) = true) : P_wp P_Y0 200 0 (28, [.ref 0, .ref 2, .ref 47, .ref 63, .ref 64, .int 0, P_un, P_un, P_un], [], (P_hv132 xs 5)) (fun r h => r = .inl (some (.int 1)) ∧ h.2.1 ≤ 600002 ∧ h.2.2 ≤ 7302232) := by
  refine P_wp_step (S' := (30, [.ref 0, .ref 2, .ref 47, .ref 63, .ref 64, .int 0, P_un, P_un, P_un], [.int 0], (P_hv132 xs 5))) P_i0_28 (fun _ => rfl) ?_
  refine P_wp_step (S' := (31, [.ref 0, .ref 2, .ref 47, .ref 63, .ref 64, .int 0, P_un, P_un, P_un], [.ref 0, .int 0], (P_hv132 xs 5))) P_i0_30 (fun _ => rfl) ?_
  refine P_wp_step (S' := (32, [.ref 0, .ref 2, .ref 47, .ref 63, .ref 64, .int 0, P_un, P_un, P_un], [.int 5, .int 0], (P_hv132 xs 5))) P_i0_31 (fun _ => rfl) ?_
  refine P_wp_step (S' := (33, [.ref 0, .ref 2, .ref 47, .ref 63, .ref 64, .int 0, P_un, P_un, P_un], [.int 5, .int 5, .int 0], (P_hv132 xs 5))) P_i0_32 (fun _ => rfl) ?_
  refine P_wp_step (S' := (34, [.ref 0, .ref 2, .ref 47, .ref 63, .ref 64, .int 0, P_un, P_un, P_un], [.int 0, .int 0], (P_hv132 xs 5))) P_i0_33 (fun _ => rfl) ?_
  refine P_wp_icf P_i0_34 P_b18 (show P_wp P_Y0 200 0 (37, [.ref 0, .ref 2, .ref 47, .ref 63, .ref 64, .int 0, P_un, P_un, P_un], [], (P_hv132 xs 5)) _ from ?_)
  refine P_wp_step (S' := (38, [.ref 0, .ref 2, .ref 47, .ref 63, .ref 64, .int 0, P_un, P_un, P_un], [.ref 0], (P_hv132 xs 5))) P_i0_37 (fun _ => rfl) ?_
  refine P_wp_step (S' := (40, [.ref 0, .ref 2, .ref 47, .ref 63, .ref 64, .int 0, P_un, P_un, P_un], [.int 0, .ref 0], (P_hv132 xs 5))) P_i0_38 (fun _ => rfl) ?_
  refine P_wp_step (S' := (41, [.ref 0, .ref 2, .ref 47, .ref 63, .ref 64, .int 0, P_un, P_un, P_un], [.int (xs 0)], (P_hv132 xs 5))) P_i0_40 (fun _ => rfl) ?_
  refine P_wp_step (S' := (43, [.ref 0, .ref 2, .ref 47, .ref 63, .ref 64, .int 0, P_un, P_un, P_un], [.int 31, .int (xs 0)], (P_hv132 xs 5))) P_i0_41 (fun _ => rfl) ?_
  refine P_wp_step (S' := (44, [.ref 0, .ref 2, .ref 47, .ref 63, .ref 64, .int 0, P_un, P_un, P_un], [.int (xs 0 &&& 31)], (P_hv132 xs 5))) P_i0_43 (fun _ => rfl) ?_
  refine P_sw_at hsw (show P_wp P_Y0 200 0 (44, [.ref 0, .ref 2, .ref 47, .ref 63, .ref 64, .int 0, P_un, P_un, P_un], [.int 3], (P_hv132 xs 5)) _ from ?_)
  refine P_wp_step (S' := (384, [.ref 0, .ref 2, .ref 47, .ref 63, .ref 64, .int 0, P_un, P_un, P_un], [], (P_hv132 xs 5))) P_i0_44 (fun _ => P_do_sw (by decide +kernel)) ?_
  refine P_wp_step (S' := (385, [.ref 0, .ref 2, .ref 47, .ref 63, .ref 64, .int 0, P_un, P_un, P_un], [.ref 2], (P_hv132 xs 5))) P_i0_384 (fun _ => rfl) ?_
  refine P_wp_step (S' := (386, [.ref 0, .ref 2, .ref 47, .ref 63, .ref 64, .int 0, P_un, P_un, P_un], [.ref 0, .ref 2], (P_hv132 xs 5))) P_i0_385 (fun _ => rfl) ?_
  refine P_wp_step (S' := (388, [.ref 0, .ref 2, .ref 47, .ref 63, .ref 64, .int 0, P_un, P_un, P_un], [.int 0, .ref 0, .ref 2], (P_hv132 xs 5))) P_i0_386 (fun _ => rfl) ?_
  refine P_wp_step (S' := (389, [.ref 0, .ref 2, .ref 47, .ref 63, .ref 64, .int 0, P_un, P_un, P_un], [.int 1, .int 0, .ref 0, .ref 2], (P_hv132 xs 5))) P_i0_388 (fun _ => rfl) ?_
  refine P_wp_step (S' := (390, [.ref 0, .ref 2, .ref 47, .ref 63, .ref 64, .int 0, P_un, P_un, P_un], [.int 1, .ref 0, .ref 2], (P_hv132 xs 5))) P_i0_389 (fun _ => rfl) ?_
  refine P_wp_step (S' := (391, [.ref 0, .ref 2, .ref 47, .ref 63, .ref 64, .int 0, P_un, P_un, P_un], [.int (xs 1), .ref 2], (P_hv132 xs 5))) P_i0_390 (fun _ => rfl) ?_
  refine P_wp_step (S' := (392, [.ref 0, .ref 2, .ref 47, .ref 63, .ref 64, .int 0, P_un, P_un, P_un], [.ref 0, .int (xs 1), .ref 2], (P_hv132 xs 5))) P_i0_391 (fun _ => rfl) ?_
  refine P_wp_step (S' := (394, [.ref 0, .ref 2, .ref 47, .ref 63, .ref 64, .int 0, P_un, P_un, P_un], [.int 0, .ref 0, .int (xs 1), .ref 2], (P_hv132 xs 5))) P_i0_392 (fun _ => rfl) ?_
  refine P_wp_step (S' := (395, [.ref 0, .ref 2, .ref 47, .ref 63, .ref 64, .int 0, P_un, P_un, P_un], [.int 2, .int 0, .ref 0, .int (xs 1), .ref 2], (P_hv132 xs 5))) P_i0_394 (fun _ => rfl) ?_
  refine P_wp_step (S' := (396, [.ref 0, .ref 2, .ref 47, .ref 63, .ref 64, .int 0, P_un, P_un, P_un], [.int 2, .ref 0, .int (xs 1), .ref 2], (P_hv132 xs 5))) P_i0_395 (fun _ => rfl) ?_
  refine P_wp_step (S' := (397, [.ref 0, .ref 2, .ref 47, .ref 63, .ref 64, .int 0, P_un, P_un, P_un], [.int (xs 2), .int (xs 1), .ref 2], (P_hv132 xs 5))) P_i0_396 (fun _ => rfl) ?_
  refine P_wp_step (S' := (398, [.ref 0, .ref 2, .ref 47, .ref 63, .ref 64, .int 0, P_un, P_un, P_un], [.ref 63, .int (xs 2), .int (xs 1), .ref 2], (P_hv132 xs 5))) P_i0_397 (fun _ => rfl) ?_
  refine P_wp_call P_i0_398 rfl rfl rfl rfl rfl rfl rfl (y2 := 273) (as := [.ref 2, .int (xs 1), .int (xs 2), .ref 63]) (r0 := []) rfl (Nat.le_of_ble_eq_true rfl) (by decide) rfl (Nat.le_of_ble_eq_true rfl) (P_x67 xs 5 hc1 hc2 (?_))
  show P_wp P_Y0 200 0 (401, [.ref 0, .ref 2, .ref 47, .ref 63, .ref 64, .int 0, P_un, P_un, P_un], [.int 1], (P_hv134 xs 5)) _
  refine P_wp_step (S' := (403, [.ref 0, .ref 2, .ref 47, .ref 63, .ref 64, .int 0, .int 1, P_un, P_un], [], (P_hv134 xs 5))) P_i0_401 (fun _ => rfl) ?_
  refine P_wp_step (S' := (404, [.ref 0, .ref 2, .ref 47, .ref 63, .ref 64, .int 0, .int 1, P_un, P_un], [.ref 47], (P_hv134 xs 5))) P_i0_403 (fun _ => rfl) ?_
  refine P_wp_step (S' := (405, [.ref 0, .ref 2, .ref 47, .ref 63, .ref 64, .int 0, .int 1, P_un, P_un], [.ref 0, .ref 47], (P_hv134 xs 5))) P_i0_404 (fun _ => rfl) ?_
  refine P_wp_step (S' := (407, [.ref 0, .ref 2, .ref 47, .ref 63, .ref 64, .int 0, .int 1, P_un, P_un], [.int 0, .ref 0, .ref 47], (P_hv134 xs 5))) P_i0_405 (fun _ => rfl) ?_
  refine P_wp_step (S' := (408, [.ref 0, .ref 2, .ref 47, .ref 63, .ref 64, .int 0, .int 1, P_un, P_un], [.int 1, .int 0, .ref 0, .ref 47], (P_hv134 xs 5))) P_i0_407 (fun _ => rfl) ?_
  refine P_wp_step (S' := (409, [.ref 0, .ref 2, .ref 47, .ref 63, .ref 64, .int 0, .int 1, P_un, P_un], [.int 1, .ref 0, .ref 47], (P_hv134 xs 5))) P_i0_408 (fun _ => rfl) ?_
  refine P_wp_step (S' := (410, [.ref 0, .ref 2, .ref 47, .ref 63, .ref 64, .int 0, .int 1, P_un, P_un], [.int (xs 1), .ref 47], (P_hv134 xs 5))) P_i0_409 (fun _ => rfl) ?_
  refine P_wp_step (S' := (411, [.ref 0, .ref 2, .ref 47, .ref 63, .ref 64, .int 0, .int 1, P_un, P_un], [.ref 0, .int (xs 1), .ref 47], (P_hv134 xs 5))) P_i0_410 (fun _ => rfl) ?_
  refine P_wp_step (S' := (413, [.ref 0, .ref 2, .ref 47, .ref 63, .ref 64, .int 0, .int 1, P_un, P_un], [.int 0, .ref 0, .int (xs 1), .ref 47], (P_hv134 xs 5))) P_i0_411 (fun _ => rfl) ?_
  refine P_wp_step (S' := (414, [.ref 0, .ref 2, .ref 47, .ref 63, .ref 64, .int 0, .int 1, P_un, P_un], [.int 2, .int 0, .ref 0, .int (xs 1), .ref 47], (P_hv134 xs 5))) P_i0_413 (fun _ => rfl) ?_
  refine P_wp_step (S' := (415, [.ref 0, .ref 2, .ref 47, .ref 63, .ref 64, .int 0, .int 1, P_un, P_un], [.int 2, .ref 0, .int (xs 1), .ref 47], (P_hv134 xs 5))) P_i0_414 (fun _ => rfl) ?_
  refine P_wp_step (S' := (416, [.ref 0, .ref 2, .ref 47, .ref 63, .ref 64, .int 0, .int 1, P_un, P_un], [.int (xs 2), .int (xs 1), .ref 47], (P_hv134 xs 5))) P_i0_415 (fun _ => rfl) ?_
  refine P_wp_call P_i0_416 rfl rfl rfl rfl rfl rfl rfl (y2 := 194) (as := [.ref 47, .int (xs 1), .int (xs 2)]) (r0 := []) rfl (Nat.le_of_ble_eq_true rfl) (by decide) rfl (Nat.le_of_ble_eq_true rfl) (P_x68 xs 5 hc3 hc4 (?_))
  show P_wp P_Y0 200 0 (419, [.ref 0, .ref 2, .ref 47, .ref 63, .ref 64, .int 0, .int 1, P_un, P_un], [.int 0], (P_hv135 xs 5)) _
  refine P_wp_step (S' := (421, [.ref 0, .ref 2, .ref 47, .ref 63, .ref 64, .int 0, .int 1, .int 0, P_un], [], (P_hv135 xs 5))) P_i0_419 (fun _ => rfl) ?_
  refine P_wp_step (S' := (422, [.ref 0, .ref 2, .ref 47, .ref 63, .ref 64, .int 0, .int 1, .int 0, P_un], [.ref 47], (P_hv135 xs 5))) P_i0_421 (fun _ => rfl) ?_
  refine P_wp_call P_i0_422 rfl rfl rfl rfl rfl rfl rfl (y2 := 183) (as := [.ref 47]) (r0 := []) rfl (Nat.le_of_ble_eq_true rfl) (by decide) rfl (Nat.le_of_ble_eq_true rfl) (P_x32 xs 5 (?_))
  show P_wp P_Y0 200 0 (425, [.ref 0, .ref 2, .ref 47, .ref 63, .ref 64, .int 0, .int 1, .int 0, P_un], [.int 1], (P_hv135 xs 5)) _
  refine P_wp_step (S' := (427, [.ref 0, .ref 2, .ref 47, .ref 63, .ref 64, .int 0, .int 1, .int 0, P_un], [.int 1, .int 1], (P_hv135 xs 5))) P_i0_425 (fun _ => rfl) ?_
  refine P_wp_ict P_i0_427 P_b20 (show P_wp P_Y0 200 0 (432, [.ref 0, .ref 2, .ref 47, .ref 63, .ref 64, .int 0, .int 1, .int 0, P_un], [], (P_hv135 xs 5)) _ from ?_)
  refine P_wp_step (S' := (434, [.ref 0, .ref 2, .ref 47, .ref 63, .ref 64, .int 0, .int 1, .int 0, P_un], [.int 1], (P_hv135 xs 5))) P_i0_432 (fun _ => rfl) ?_
  refine P_wp_izt P_i0_434 P_b21 (show P_wp P_Y0 200 0 (449, [.ref 0, .ref 2, .ref 47, .ref 63, .ref 64, .int 0, .int 1, .int 0, P_un], [], (P_hv135 xs 5)) _ from ?_)
  refine P_wp_step (S' := (1553, [.ref 0, .ref 2, .ref 47, .ref 63, .ref 64, .int 0, .int 1, .int 0, P_un], [], (P_hv135 xs 5))) P_i0_449 (fun _ => rfl) ?_
  refine P_wp_step (S' := (1556, [.ref 0, .ref 2, .ref 47, .ref 63, .ref 64, .int 5, .int 1, .int 0, P_un], [], (P_hv135 xs 5))) P_i0_1553 (fun _ => rfl) ?_
  refine P_wp_step (S' := (28, [.ref 0, .ref 2, .ref 47, .ref 63, .ref 64, .int 5, P_un, P_un, P_un], [], (P_hv135 xs 5))) P_i0_1556 (fun _ => rfl) ?_
  refine P_wp_step (S' := (30, [.ref 0, .ref 2, .ref 47, .ref 63, .ref 64, .int 5, P_un, P_un, P_un], [.int 5], (P_hv135 xs 5))) P_i0_28 (fun _ => rfl) ?_
  refine P_wp_step (S' := (31, [.ref 0, .ref 2, .ref 47, .ref 63, .ref 64, .int 5, P_un, P_un, P_un], [.ref 0, .int 5], (P_hv135 xs 5))) P_i0_30 (fun _ => rfl) ?_
  refine P_wp_step (S' := (32, [.ref 0, .ref 2, .ref 47, .ref 63, .ref 64, .int 5, P_un, P_un, P_un], [.int 5, .int 5], (P_hv135 xs 5))) P_i0_31 (fun _ => rfl) ?_
  refine P_wp_step (S' := (33, [.ref 0, .ref 2, .ref 47, .ref 63, .ref 64, .int 5, P_un, P_un, P_un], [.int 5, .int 5, .int 5], (P_hv135 xs 5))) P_i0_32 (fun _ => rfl) ?_
  refine P_wp_step (S' := (34, [.ref 0, .ref 2, .ref 47, .ref 63, .ref 64, .int 5, P_un, P_un, P_un], [.int 0, .int 5], (P_hv135 xs 5))) P_i0_33 (fun _ => rfl) ?_
  refine P_wp_ict P_i0_34 P_b22 (show P_wp P_Y0 200 0 (1559, [.ref 0, .ref 2, .ref 47, .ref 63, .ref 64, .int 5, P_un, P_un, P_un], [], (P_hv135 xs 5)) _ from ?_)
  refine P_wp_step (S' := (1560, [.ref 0, .ref 2, .ref 47, .ref 63, .ref 64, .int 5, P_un, P_un, P_un], [.int 1], (P_hv135 xs 5))) P_i0_1559 (fun _ => rfl) ?_
  refine P_wp_end (x := (.inl (some (.int 1)), (P_hv135 xs 5))) P_i0_1560 (fun _ => rfl) ?_
  exact ⟨rfl, Nat.le_of_ble_eq_true rfl, Nat.le_of_ble_eq_true rfl⟩

set_option maxRecDepth 20000 in
theorem P_pa9 (xs : Nat → Int32) (hsw : xs 0 &&& 31 = 4) (hc1 : P_cc .lt (xs 1) 0 = true) (hc2 : P_cc .lt (xs 1) 20 = true) (hc3 : P_cc .lt (xs 1) 100 = true) (hc4 : P_cc .lt (xs 1) 1000 = true) (hc5 : P_cc .lt (xs 1) 0 = true) (hc6 : P_cc .lt (xs 1) 20 = true) (hc7 : P_cc .lt (xs 1) 100 = true) (hc8 : P_cc .lt (xs 1) 1000 = true) : P_wp P_Y0 200 0 (28, [.ref 0, .ref 2, .ref 47, .ref 63, .ref 64, .int 0, P_un, P_un, P_un], [], (P_hv132 xs 5)) (fun r h => r = .inl (some (.int 1)) ∧ h.2.1 ≤ 600002 ∧ h.2.2 ≤ 7302232) := by
  refine P_wp_step (S' := (30, [.ref 0, .ref 2, .ref 47, .ref 63, .ref 64, .int 0, P_un, P_un, P_un], [.int 0], (P_hv132 xs 5))) P_i0_28 (fun _ => rfl) ?_
  refine P_wp_step (S' := (31, [.ref 0, .ref 2, .ref 47, .ref 63, .ref 64, .int 0, P_un, P_un, P_un], [.ref 0, .int 0], (P_hv132 xs 5))) P_i0_30 (fun _ => rfl) ?_
  refine P_wp_step (S' := (32, [.ref 0, .ref 2, .ref 47, .ref 63, .ref 64, .int 0, P_un, P_un, P_un], [.int 5, .int 0], (P_hv132 xs 5))) P_i0_31 (fun _ => rfl) ?_
  refine P_wp_step (S' := (33, [.ref 0, .ref 2, .ref 47, .ref 63, .ref 64, .int 0, P_un, P_un, P_un], [.int 5, .int 5, .int 0], (P_hv132 xs 5))) P_i0_32 (fun _ => rfl) ?_
  refine P_wp_step (S' := (34, [.ref 0, .ref 2, .ref 47, .ref 63, .ref 64, .int 0, P_un, P_un, P_un], [.int 0, .int 0], (P_hv132 xs 5))) P_i0_33 (fun _ => rfl) ?_
  refine P_wp_icf P_i0_34 P_b18 (show P_wp P_Y0 200 0 (37, [.ref 0, .ref 2, .ref 47, .ref 63, .ref 64, .int 0, P_un, P_un, P_un], [], (P_hv132 xs 5)) _ from ?_)
  refine P_wp_step (S' := (38, [.ref 0, .ref 2, .ref 47, .ref 63, .ref 64, .int 0, P_un, P_un, P_un], [.ref 0], (P_hv132 xs 5))) P_i0_37 (fun _ => rfl) ?_
  refine P_wp_step (S' := (40, [.ref 0, .ref 2, .ref 47, .ref 63, .ref 64, .int 0, P_un, P_un, P_un], [.int 0, .ref 0], (P_hv132 xs 5))) P_i0_38 (fun _ => rfl) ?_
  refine P_wp_step (S' := (41, [.ref 0, .ref 2, .ref 47, .ref 63, .ref 64, .int 0, P_un, P_un, P_un], [.int (xs 0)], (P_hv132 xs 5))) P_i0_40 (fun _ => rfl) ?_
  refine P_wp_step (S' := (43, [.ref 0, .ref 2, .ref 47, .ref 63, .ref 64, .int 0, P_un, P_un, P_un], [.int 31, .int (xs 0)], (P_hv132 xs 5))) P_i0_41 (fun _ => rfl) ?_
  refine P_wp_step (S' := (44, [.ref 0, .ref 2, .ref 47, .ref 63, .ref 64, .int 0, P_un, P_un, P_un], [.int (xs 0 &&& 31)], (P_hv132 xs 5))) P_i0_43 (fun _ => rfl) ?_
  refine P_sw_at hsw (show P_wp P_Y0 200 0 (44, [.ref 0, .ref 2, .ref 47, .ref 63, .ref 64, .int 0, P_un, P_un, P_un], [.int 4], (P_hv132 xs 5)) _ from ?_)
  refine P_wp_step (S' := (452, [.ref 0, .ref 2, .ref 47, .ref 63, .ref 64, .int 0, P_un, P_un, P_un], [], (P_hv132 xs 5))) P_i0_44 (fun _ => P_do_sw (by decide +kernel)) ?_
  refine P_wp_step (S' := (453, [.ref 0, .ref 2, .ref 47, .ref 63, .ref 64, .int 0, P_un, P_un, P_un], [.ref 2], (P_hv132 xs 5))) P_i0_452 (fun _ => rfl) ?_
  refine P_wp_step (S' := (454, [.ref 0, .ref 2, .ref 47, .ref 63, .ref 64, .int 0, P_un, P_un, P_un], [.ref 0, .ref 2], (P_hv132 xs 5))) P_i0_453 (fun _ => rfl) ?_
  refine P_wp_step (S' := (456, [.ref 0, .ref 2, .ref 47, .ref 63, .ref 64, .int 0, P_un, P_un, P_un], [.int 0, .ref 0, .ref 2], (P_hv132 xs 5))) P_i0_454 (fun _ => rfl) ?_
  refine P_wp_step (S' := (457, [.ref 0, .ref 2, .ref 47, .ref 63, .ref 64, .int 0, P_un, P_un, P_un], [.int 1, .int 0, .ref 0, .ref 2], (P_hv132 xs 5))) P_i0_456 (fun _ => rfl) ?_
  refine P_wp_step (S' := (458, [.ref 0, .ref 2, .ref 47, .ref 63, .ref 64, .int 0, P_un, P_un, P_un], [.int 1, .ref 0, .ref 2], (P_hv132 xs 5))) P_i0_457 (fun _ => rfl) ?_
  refine P_wp_step (S' := (459, [.ref 0, .ref 2, .ref 47, .ref 63, .ref 64, .int 0, P_un, P_un, P_un], [.int (xs 1), .ref 2], (P_hv132 xs 5))) P_i0_458 (fun _ => rfl) ?_
  refine P_wp_step (S' := (460, [.ref 0, .ref 2, .ref 47, .ref 63, .ref 64, .int 0, P_un, P_un, P_un], [.ref 63, .int (xs 1), .ref 2], (P_hv132 xs 5))) P_i0_459 (fun _ => rfl) ?_
  refine P_wp_call P_i0_460 rfl rfl rfl rfl rfl rfl rfl (y2 := 274) (as := [.ref 2, .int (xs 1), .ref 63]) (r0 := []) rfl (Nat.le_of_ble_eq_true rfl) (by decide) rfl (Nat.le_of_ble_eq_true rfl) (P_x74 xs 5 hc1 hc2 hc3 hc4 (?_))
  show P_wp P_Y0 200 0 (463, [.ref 0, .ref 2, .ref 47, .ref 63, .ref 64, .int 0, P_un, P_un, P_un], [.int 1], (P_hv134 xs 5)) _
  refine P_wp_step (S' := (465, [.ref 0, .ref 2, .ref 47, .ref 63, .ref 64, .int 0, .int 1, P_un, P_un], [], (P_hv134 xs 5))) P_i0_463 (fun _ => rfl) ?_
  refine P_wp_step (S' := (466, [.ref 0, .ref 2, .ref 47, .ref 63, .ref 64, .int 0, .int 1, P_un, P_un], [.ref 47], (P_hv134 xs 5))) P_i0_465 (fun _ => rfl) ?_
  refine P_wp_step (S' := (467, [.ref 0, .ref 2, .ref 47, .ref 63, .ref 64, .int 0, .int 1, P_un, P_un], [.ref 0, .ref 47], (P_hv134 xs 5))) P_i0_466 (fun _ => rfl) ?_
  refine P_wp_step (S' := (469, [.ref 0, .ref 2, .ref 47, .ref 63, .ref 64, .int 0, .int 1, P_un, P_un], [.int 0, .ref 0, .ref 47], (P_hv134 xs 5))) P_i0_467 (fun _ => rfl) ?_
  refine P_wp_step (S' := (470, [.ref 0, .ref 2, .ref 47, .ref 63, .ref 64, .int 0, .int 1, P_un, P_un], [.int 1, .int 0, .ref 0, .ref 47], (P_hv134 xs 5))) P_i0_469 (fun _ => rfl) ?_
  refine P_wp_step (S' := (471, [.ref 0, .ref 2, .ref 47, .ref 63, .ref 64, .int 0, .int 1, P_un, P_un], [.int 1, .ref 0, .ref 47], (P_hv134 xs 5))) P_i0_470 (fun _ => rfl) ?_
  refine P_wp_step (S' := (472, [.ref 0, .ref 2, .ref 47, .ref 63, .ref 64, .int 0, .int 1, P_un, P_un], [.int (xs 1), .ref 47], (P_hv134 xs 5))) P_i0_471 (fun _ => rfl) ?_
  refine P_wp_call P_i0_472 rfl rfl rfl rfl rfl rfl rfl (y2 := 195) (as := [.ref 47, .int (xs 1)]) (r0 := []) rfl (Nat.le_of_ble_eq_true rfl) (by decide) rfl (Nat.le_of_ble_eq_true rfl) (P_x79 xs 5 hc5 hc6 hc7 hc8 (?_))
  show P_wp P_Y0 200 0 (475, [.ref 0, .ref 2, .ref 47, .ref 63, .ref 64, .int 0, .int 1, P_un, P_un], [.int 0], (P_hv135 xs 5)) _
  refine P_wp_step (S' := (477, [.ref 0, .ref 2, .ref 47, .ref 63, .ref 64, .int 0, .int 1, .int 0, P_un], [], (P_hv135 xs 5))) P_i0_475 (fun _ => rfl) ?_
  refine P_wp_step (S' := (478, [.ref 0, .ref 2, .ref 47, .ref 63, .ref 64, .int 0, .int 1, .int 0, P_un], [.ref 47], (P_hv135 xs 5))) P_i0_477 (fun _ => rfl) ?_
  refine P_wp_call P_i0_478 rfl rfl rfl rfl rfl rfl rfl (y2 := 183) (as := [.ref 47]) (r0 := []) rfl (Nat.le_of_ble_eq_true rfl) (by decide) rfl (Nat.le_of_ble_eq_true rfl) (P_x32 xs 5 (?_))
  show P_wp P_Y0 200 0 (481, [.ref 0, .ref 2, .ref 47, .ref 63, .ref 64, .int 0, .int 1, .int 0, P_un], [.int 1], (P_hv135 xs 5)) _
  refine P_wp_step (S' := (483, [.ref 0, .ref 2, .ref 47, .ref 63, .ref 64, .int 0, .int 1, .int 0, P_un], [.int 1, .int 1], (P_hv135 xs 5))) P_i0_481 (fun _ => rfl) ?_
  refine P_wp_ict P_i0_483 P_b20 (show P_wp P_Y0 200 0 (488, [.ref 0, .ref 2, .ref 47, .ref 63, .ref 64, .int 0, .int 1, .int 0, P_un], [], (P_hv135 xs 5)) _ from ?_)
  refine P_wp_step (S' := (490, [.ref 0, .ref 2, .ref 47, .ref 63, .ref 64, .int 0, .int 1, .int 0, P_un], [.int 1], (P_hv135 xs 5))) P_i0_488 (fun _ => rfl) ?_
  refine P_wp_izt P_i0_490 P_b21 (show P_wp P_Y0 200 0 (505, [.ref 0, .ref 2, .ref 47, .ref 63, .ref 64, .int 0, .int 1, .int 0, P_un], [], (P_hv135 xs 5)) _ from ?_)
  refine P_wp_step (S' := (1553, [.ref 0, .ref 2, .ref 47, .ref 63, .ref 64, .int 0, .int 1, .int 0, P_un], [], (P_hv135 xs 5))) P_i0_505 (fun _ => rfl) ?_
  refine P_wp_step (S' := (1556, [.ref 0, .ref 2, .ref 47, .ref 63, .ref 64, .int 5, .int 1, .int 0, P_un], [], (P_hv135 xs 5))) P_i0_1553 (fun _ => rfl) ?_
  refine P_wp_step (S' := (28, [.ref 0, .ref 2, .ref 47, .ref 63, .ref 64, .int 5, P_un, P_un, P_un], [], (P_hv135 xs 5))) P_i0_1556 (fun _ => rfl) ?_
  refine P_wp_step (S' := (30, [.ref 0, .ref 2, .ref 47, .ref 63, .ref 64, .int 5, P_un, P_un, P_un], [.int 5], (P_hv135 xs 5))) P_i0_28 (fun _ => rfl) ?_
  refine P_wp_step (S' := (31, [.ref 0, .ref 2, .ref 47, .ref 63, .ref 64, .int 5, P_un, P_un, P_un], [.ref 0, .int 5], (P_hv135 xs 5))) P_i0_30 (fun _ => rfl) ?_
  refine P_wp_step (S' := (32, [.ref 0, .ref 2, .ref 47, .ref 63, .ref 64, .int 5, P_un, P_un, P_un], [.int 5, .int 5], (P_hv135 xs 5))) P_i0_31 (fun _ => rfl) ?_
  refine P_wp_step (S' := (33, [.ref 0, .ref 2, .ref 47, .ref 63, .ref 64, .int 5, P_un, P_un, P_un], [.int 5, .int 5, .int 5], (P_hv135 xs 5))) P_i0_32 (fun _ => rfl) ?_
  refine P_wp_step (S' := (34, [.ref 0, .ref 2, .ref 47, .ref 63, .ref 64, .int 5, P_un, P_un, P_un], [.int 0, .int 5], (P_hv135 xs 5))) P_i0_33 (fun _ => rfl) ?_
  refine P_wp_ict P_i0_34 P_b22 (show P_wp P_Y0 200 0 (1559, [.ref 0, .ref 2, .ref 47, .ref 63, .ref 64, .int 5, P_un, P_un, P_un], [], (P_hv135 xs 5)) _ from ?_)
  refine P_wp_step (S' := (1560, [.ref 0, .ref 2, .ref 47, .ref 63, .ref 64, .int 5, P_un, P_un, P_un], [.int 1], (P_hv135 xs 5))) P_i0_1559 (fun _ => rfl) ?_
  refine P_wp_end (x := (.inl (some (.int 1)), (P_hv135 xs 5))) P_i0_1560 (fun _ => rfl) ?_
  exact ⟨rfl, Nat.le_of_ble_eq_true rfl, Nat.le_of_ble_eq_true rfl⟩

set_option maxRecDepth 20000 in
theorem P_pa10 (xs : Nat → Int32) (hsw : xs 0 &&& 31 = 4) (hc1 : P_cc .lt (xs 1) 0 = false) (hc2 : P_cc .le (xs 1) 11 = true) (hc3 : P_cc .lt (xs 1) 0 = false) (hc4 : P_cc .gt (xs 1) 11 = false) : P_wp P_Y0 200 0 (28, [.ref 0, .ref 2, .ref 47, .ref 63, .ref 64, .int 0, P_un, P_un, P_un], [], (P_hv132 xs 5)) (fun r h => r = .inl (some (.int 1)) ∧ h.2.1 ≤ 600002 ∧ h.2.2 ≤ 7302232) := by
  refine P_wp_step (S' := (30, [.ref 0, .ref 2, .ref 47, .ref 63, .ref 64, .int 0, P_un, P_un, P_un], [.int 0], (P_hv132 xs 5))) P_i0_28 (fun _ => rfl) ?_
  refine P_wp_step (S' := (31, [.ref 0, .ref 2, .ref 47, .ref 63, .ref 64, .int 0, P_un, P_un, P_un], [.ref 0, .int 0], (P_hv132 xs 5))) P_i0_30 (fun _ => rfl) ?_
  refine P_wp_step (S' := (32, [.ref 0, .ref 2, .ref 47, .ref 63, .ref 64, .int 0, P_un, P_un, P_un], [.int 5, .int 0], (P_hv132 xs 5))) P_i0_31 (fun _ => rfl) ?_
  refine P_wp_step (S' := (33, [.ref 0, .ref 2, .ref 47, .ref 63, .ref 64, .int 0, P_un, P_un, P_un], [.int 5, .int 5, .int 0], (P_hv132 xs 5))) P_i0_32 (fun _ => rfl) ?_
  refine P_wp_step (S' := (34, [.ref 0, .ref 2, .ref 47, .ref 63, .ref 64, .int 0, P_un, P_un, P_un], [.int 0, .int 0], (P_hv132 xs 5))) P_i0_33 (fun _ => rfl) ?_
  refine P_wp_icf P_i0_34 P_b18 (show P_wp P_Y0 200 0 (37, [.ref 0, .ref 2, .ref 47, .ref 63, .ref 64, .int 0, P_un, P_un, P_un], [], (P_hv132 xs 5)) _ from ?_)
  refine P_wp_step (S' := (38, [.ref 0, .ref 2, .ref 47, .ref 63, .ref 64, .int 0, P_un, P_un, P_un], [.ref 0], (P_hv132 xs 5))) P_i0_37 (fun _ => rfl) ?_
  refine P_wp_step (S' := (40, [.ref 0, .ref 2, .ref 47, .ref 63, .ref 64, .int 0, P_un, P_un, P_un], [.int 0, .ref 0], (P_hv132 xs 5))) P_i0_38 (fun _ => rfl) ?_
  refine P_wp_step (S' := (41, [.ref 0, .ref 2, .ref 47, .ref 63, .ref 64, .int 0, P_un, P_un, P_un], [.int (xs 0)], (P_hv132 xs 5))) P_i0_40 (fun _ => rfl) ?_
  refine P_wp_step (S' := (43, [.ref 0, .ref 2, .ref 47, .ref 63, .ref 64, .int 0, P_un, P_un, P_un], [.int 31, .int (xs 0)], (P_hv132 xs 5))) P_i0_41 (fun _ => rfl) ?_
  refine P_wp_step (S' := (44, [.ref 0, .ref 2, .ref 47, .ref 63, .ref 64, .int 0, P_un, P_un, P_un], [.int (xs 0 &&& 31)], (P_hv132 xs 5))) P_i0_43 (fun _ => rfl) ?_
  refine P_sw_at hsw (show P_wp P_Y0 200 0 (44, [.ref 0, .ref 2, .ref 47, .ref 63, .ref 64, .int 0, P_un, P_un, P_un], [.int 4], (P_hv132 xs 5)) _ from ?_)
  refine P_wp_step (S' := (452, [.ref 0, .ref 2, .ref 47, .ref 63, .ref 64, .int 0, P_un, P_un, P_un], [], (P_hv132 xs 5))) P_i0_44 (fun _ => P_do_sw (by decide +kernel)) ?_
  refine P_wp_step (S' := (453, [.ref 0, .ref 2, .ref 47, .ref 63, .ref 64, .int 0, P_un, P_un, P_un], [.ref 2], (P_hv132 xs 5))) P_i0_452 (fun _ => rfl) ?_
  refine P_wp_step (S' := (454, [.ref 0, .ref 2, .ref 47, .ref 63, .ref 64, .int 0, P_un, P_un, P_un], [.ref 0, .ref 2], (P_hv132 xs 5))) P_i0_453 (fun _ => rfl) ?_
  refine P_wp_step (S' := (456, [.ref 0, .ref 2, .ref 47, .ref 63, .ref 64, .int 0, P_un, P_un, P_un], [.int 0, .ref 0, .ref 2], (P_hv132 xs 5))) P_i0_454 (fun _ => rfl) ?_
  refine P_wp_step (S' := (457, [.ref 0, .ref 2, .ref 47, .ref 63, .ref 64, .int 0, P_un, P_un, P_un], [.int 1, .int 0, .ref 0, .ref 2], (P_hv132 xs 5))) P_i0_456 (fun _ => rfl) ?_
  refine P_wp_step (S' := (458, [.ref 0, .ref 2, .ref 47, .ref 63, .ref 64, .int 0, P_un, P_un, P_un], [.int 1, .ref 0, .ref 2], (P_hv132 xs 5))) P_i0_457 (fun _ => rfl) ?_
  refine P_wp_step (S' := (459, [.ref 0, .ref 2, .ref 47, .ref 63, .ref 64, .int 0, P_un, P_un, P_un], [.int (xs 1), .ref 2], (P_hv132 xs 5))) P_i0_458 (fun _ => rfl) ?_
  refine P_wp_step (S' := (460, [.ref 0, .ref 2, .ref 47, .ref 63, .ref 64, .int 0, P_un, P_un, P_un], [.ref 63, .int (xs 1), .ref 2], (P_hv132 xs 5))) P_i0_459 (fun _ => rfl) ?_
  refine P_wp_call P_i0_460 rfl rfl rfl rfl rfl rfl rfl (y2 := 274) (as := [.ref 2, .int (xs 1), .ref 63]) (r0 := []) rfl (Nat.le_of_ble_eq_true rfl) (by decide) rfl (Nat.le_of_ble_eq_true rfl) (P_x90 xs 5 hc1 hc2 (?_))
  show P_wp P_Y0 200 0 (463, [.ref 0, .ref 2, .ref 47, .ref 63, .ref 64, .int 0, P_un, P_un, P_un], [.int 0], (P_hv149 xs 5)) _
  refine P_wp_step (S' := (465, [.ref 0, .ref 2, .ref 47, .ref 63, .ref 64, .int 0, .int 0, P_un, P_un], [], (P_hv149 xs 5))) P_i0_463 (fun _ => rfl) ?_
  refine P_wp_step (S' := (466, [.ref 0, .ref 2, .ref 47, .ref 63, .ref 64, .int 0, .int 0, P_un, P_un], [.ref 47], (P_hv149 xs 5))) P_i0_465 (fun _ => rfl) ?_
  refine P_wp_step (S' := (467, [.ref 0, .ref 2, .ref 47, .ref 63, .ref 64, .int 0, .int 0, P_un, P_un], [.ref 0, .ref 47], (P_hv149 xs 5))) P_i0_466 (fun _ => rfl) ?_
  refine P_wp_step (S' := (469, [.ref 0, .ref 2, .ref 47, .ref 63, .ref 64, .int 0, .int 0, P_un, P_un], [.int 0, .ref 0, .ref 47], (P_hv149 xs 5))) P_i0_467 (fun _ => rfl) ?_
  refine P_wp_step (S' := (470, [.ref 0, .ref 2, .ref 47, .ref 63, .ref 64, .int 0, .int 0, P_un, P_un], [.int 1, .int 0, .ref 0, .ref 47], (P_hv149 xs 5))) P_i0_469 (fun _ => rfl) ?_
  refine P_wp_step (S' := (471, [.ref 0, .ref 2, .ref 47, .ref 63, .ref 64, .int 0, .int 0, P_un, P_un], [.int 1, .ref 0, .ref 47], (P_hv149 xs 5))) P_i0_470 (fun _ => rfl) ?_
  refine P_wp_step (S' := (472, [.ref 0, .ref 2, .ref 47, .ref 63, .ref 64, .int 0, .int 0, P_un, P_un], [.int (xs 1), .ref 47], (P_hv149 xs 5))) P_i0_471 (fun _ => rfl) ?_
  refine P_wp_call P_i0_472 rfl rfl rfl rfl rfl rfl rfl (y2 := 195) (as := [.ref 47, .int (xs 1)]) (r0 := []) rfl (Nat.le_of_ble_eq_true rfl) (by decide) rfl (Nat.le_of_ble_eq_true rfl) (P_x93 xs 5 hc3 hc4 (?_))
  show P_wp P_Y0 200 0 (475, [.ref 0, .ref 2, .ref 47, .ref 63, .ref 64, .int 0, .int 0, P_un, P_un], [.int 1], (P_hv151 xs 5)) _
  refine P_wp_step (S' := (477, [.ref 0, .ref 2, .ref 47, .ref 63, .ref 64, .int 0, .int 0, .int 1, P_un], [], (P_hv151 xs 5))) P_i0_475 (fun _ => rfl) ?_
  refine P_wp_step (S' := (478, [.ref 0, .ref 2, .ref 47, .ref 63, .ref 64, .int 0, .int 0, .int 1, P_un], [.ref 47], (P_hv151 xs 5))) P_i0_477 (fun _ => rfl) ?_
  refine P_wp_call P_i0_478 rfl rfl rfl rfl rfl rfl rfl (y2 := 183) (as := [.ref 47]) (r0 := []) rfl (Nat.le_of_ble_eq_true rfl) (by decide) rfl (Nat.le_of_ble_eq_true rfl) (P_x94 xs 5 (?_))
  show P_wp P_Y0 200 0 (481, [.ref 0, .ref 2, .ref 47, .ref 63, .ref 64, .int 0, .int 0, .int 1, P_un], [.int 0], (P_hv151 xs 5)) _
  refine P_wp_step (S' := (483, [.ref 0, .ref 2, .ref 47, .ref 63, .ref 64, .int 0, .int 0, .int 1, P_un], [.int 0, .int 0], (P_hv151 xs 5))) P_i0_481 (fun _ => rfl) ?_
  refine P_wp_ict P_i0_483 P_b27 (show P_wp P_Y0 200 0 (488, [.ref 0, .ref 2, .ref 47, .ref 63, .ref 64, .int 0, .int 0, .int 1, P_un], [], (P_hv151 xs 5)) _ from ?_)
  refine P_wp_step (S' := (490, [.ref 0, .ref 2, .ref 47, .ref 63, .ref 64, .int 0, .int 0, .int 1, P_un], [.int 0], (P_hv151 xs 5))) P_i0_488 (fun _ => rfl) ?_
  refine P_wp_izf P_i0_490 P_b19 (show P_wp P_Y0 200 0 (493, [.ref 0, .ref 2, .ref 47, .ref 63, .ref 64, .int 0, .int 0, .int 1, P_un], [], (P_hv151 xs 5)) _ from ?_)
  refine P_wp_step (S' := (494, [.ref 0, .ref 2, .ref 47, .ref 63, .ref 64, .int 0, .int 0, .int 1, P_un], [.ref 63], (P_hv151 xs 5))) P_i0_493 (fun _ => rfl) ?_
  refine P_wp_step (S' := (495, [.ref 0, .ref 2, .ref 47, .ref 63, .ref 64, .int 0, .int 0, .int 1, P_un], [.int 0, .ref 63], (P_hv151 xs 5))) P_i0_494 (fun _ => rfl) ?_
  refine P_wp_step (S' := (496, [.ref 0, .ref 2, .ref 47, .ref 63, .ref 64, .int 0, .int 0, .int 1, P_un], [.long 1], (P_hv151 xs 5))) P_i0_495 (fun _ => rfl) ?_
  refine P_wp_step (S' := (498, [.ref 0, .ref 2, .ref 47, .ref 63, .ref 64, .int 0, .int 0, .int 1, P_un], [.int 1, .long 1], (P_hv151 xs 5))) P_i0_496 (fun _ => rfl) ?_
  refine P_wp_step (S' := (499, [.ref 0, .ref 2, .ref 47, .ref 63, .ref 64, .int 0, .int 0, .int 1, P_un], [.long 1, .long 1], (P_hv151 xs 5))) P_i0_498 (fun _ => rfl) ?_
  refine P_wp_step (S' := (500, [.ref 0, .ref 2, .ref 47, .ref 63, .ref 64, .int 0, .int 0, .int 1, P_un], [.int 0], (P_hv151 xs 5))) P_i0_499 (fun _ => P_do_lcmp (by decide +kernel)) ?_
  refine P_wp_izt P_i0_500 P_b27 (show P_wp P_Y0 200 0 (505, [.ref 0, .ref 2, .ref 47, .ref 63, .ref 64, .int 0, .int 0, .int 1, P_un], [], (P_hv151 xs 5)) _ from ?_)
  refine P_wp_step (S' := (1553, [.ref 0, .ref 2, .ref 47, .ref 63, .ref 64, .int 0, .int 0, .int 1, P_un], [], (P_hv151 xs 5))) P_i0_505 (fun _ => rfl) ?_
  refine P_wp_step (S' := (1556, [.ref 0, .ref 2, .ref 47, .ref 63, .ref 64, .int 5, .int 0, .int 1, P_un], [], (P_hv151 xs 5))) P_i0_1553 (fun _ => rfl) ?_
  refine P_wp_step (S' := (28, [.ref 0, .ref 2, .ref 47, .ref 63, .ref 64, .int 5, P_un, P_un, P_un], [], (P_hv151 xs 5))) P_i0_1556 (fun _ => rfl) ?_
  refine P_wp_step (S' := (30, [.ref 0, .ref 2, .ref 47, .ref 63, .ref 64, .int 5, P_un, P_un, P_un], [.int 5], (P_hv151 xs 5))) P_i0_28 (fun _ => rfl) ?_
  refine P_wp_step (S' := (31, [.ref 0, .ref 2, .ref 47, .ref 63, .ref 64, .int 5, P_un, P_un, P_un], [.ref 0, .int 5], (P_hv151 xs 5))) P_i0_30 (fun _ => rfl) ?_
  refine P_wp_step (S' := (32, [.ref 0, .ref 2, .ref 47, .ref 63, .ref 64, .int 5, P_un, P_un, P_un], [.int 5, .int 5], (P_hv151 xs 5))) P_i0_31 (fun _ => rfl) ?_
  refine P_wp_step (S' := (33, [.ref 0, .ref 2, .ref 47, .ref 63, .ref 64, .int 5, P_un, P_un, P_un], [.int 5, .int 5, .int 5], (P_hv151 xs 5))) P_i0_32 (fun _ => rfl) ?_
  refine P_wp_step (S' := (34, [.ref 0, .ref 2, .ref 47, .ref 63, .ref 64, .int 5, P_un, P_un, P_un], [.int 0, .int 5], (P_hv151 xs 5))) P_i0_33 (fun _ => rfl) ?_
  refine P_wp_ict P_i0_34 P_b22 (show P_wp P_Y0 200 0 (1559, [.ref 0, .ref 2, .ref 47, .ref 63, .ref 64, .int 5, P_un, P_un, P_un], [], (P_hv151 xs 5)) _ from ?_)
  refine P_wp_step (S' := (1560, [.ref 0, .ref 2, .ref 47, .ref 63, .ref 64, .int 5, P_un, P_un, P_un], [.int 1], (P_hv151 xs 5))) P_i0_1559 (fun _ => rfl) ?_
  refine P_wp_end (x := (.inl (some (.int 1)), (P_hv151 xs 5))) P_i0_1560 (fun _ => rfl) ?_
  exact ⟨rfl, Nat.le_of_ble_eq_true rfl, Nat.le_of_ble_eq_true rfl⟩

set_option maxRecDepth 20000 in
theorem P_pa11 (xs : Nat → Int32) (hsw : xs 0 &&& 31 = 4) (hc1 : P_cc .lt (xs 1) 0 = false) (hc2 : P_cc .le (xs 1) 11 = false) (hc3 : P_cc .lt (xs 1) 20 = true) (hc4 : P_cc .lt (xs 1) 100 = true) (hc5 : P_cc .lt (xs 1) 1000 = true) (hc6 : P_cc .lt (xs 1) 0 = false) (hc7 : P_cc .gt (xs 1) 11 = true) (hc8 : P_cc .lt (xs 1) 20 = true) (hc9 : P_cc .lt (xs 1) 100 = true) (hc10 : P_cc .lt (xs 1) 1000 = true) : P_wp P_Y0 200 0 (28, [.ref 0, .ref 2, .ref 47, .ref 63, .ref 64, .int 0, P_un, P_un, P_un], [], (P_hv132 xs 5)) (fun r h => r = .inl (some (.int 1)) ∧ h.2.1 ≤ 600002 ∧ h.2.2 ≤ 7302232) := by
  refine P_wp_step (S' := (30, [.ref 0, .ref 2, .ref 47, .ref 63, .ref 64, .int 0, P_un, P_un, P_un], [.int 0], (P_hv132 xs 5))) P_i0_28 (fun _ => rfl) ?_
  refine P_wp_step (S' := (31, [.ref 0, .ref 2, .ref 47, .ref 63, .ref 64, .int 0, P_un, P_un, P_un], [.ref 0, .int 0], (P_hv132 xs 5))) P_i0_30 (fun _ => rfl) ?_
  refine P_wp_step (S' := (32, [.ref 0, .ref 2, .ref 47, .ref 63, .ref 64, .int 0, P_un, P_un, P_un], [.int 5, .int 0], (P_hv132 xs 5))) P_i0_31 (fun _ => rfl) ?_
  refine P_wp_step (S' := (33, [.ref 0, .ref 2, .ref 47, .ref 63, .ref 64, .int 0, P_un, P_un, P_un], [.int 5, .int 5, .int 0], (P_hv132 xs 5))) P_i0_32 (fun _ => rfl) ?_
  refine P_wp_step (S' := (34, [.ref 0, .ref 2, .ref 47, .ref 63, .ref 64, .int 0, P_un, P_un, P_un], [.int 0, .int 0], (P_hv132 xs 5))) P_i0_33 (fun _ => rfl) ?_
  refine P_wp_icf P_i0_34 P_b18 (show P_wp P_Y0 200 0 (37, [.ref 0, .ref 2, .ref 47, .ref 63, .ref 64, .int 0, P_un, P_un, P_un], [], (P_hv132 xs 5)) _ from ?_)
  refine P_wp_step (S' := (38, [.ref 0, .ref 2, .ref 47, .ref 63, .ref 64, .int 0, P_un, P_un, P_un], [.ref 0], (P_hv132 xs 5))) P_i0_37 (fun _ => rfl) ?_
  refine P_wp_step (S' := (40, [.ref 0, .ref 2, .ref 47, .ref 63, .ref 64, .int 0, P_un, P_un, P_un], [.int 0, .ref 0], (P_hv132 xs 5))) P_i0_38 (fun _ => rfl) ?_
  refine P_wp_step (S' := (41, [.ref 0, .ref 2, .ref 47, .ref 63, .ref 64, .int 0, P_un, P_un, P_un], [.int (xs 0)], (P_hv132 xs 5))) P_i0_40 (fun _ => rfl) ?_
  refine P_wp_step (S' := (43, [.ref 0, .ref 2, .ref 47, .ref 63, .ref 64, .int 0, P_un, P_un, P_un], [.int 31, .int (xs 0)], (P_hv132 xs 5))) P_i0_41 (fun _ => rfl) ?_
  refine P_wp_step (S' := (44, [.ref 0, .ref 2, .ref 47, .ref 63, .ref 64, .int 0, P_un, P_un, P_un], [.int (xs 0 &&& 31)], (P_hv132 xs 5))) P_i0_43 (fun _ => rfl) ?_
  refine P_sw_at hsw (show P_wp P_Y0 200 0 (44, [.ref 0, .ref 2, .ref 47, .ref 63, .ref 64, .int 0, P_un, P_un, P_un], [.int 4], (P_hv132 xs 5)) _ from ?_)
  refine P_wp_step (S' := (452, [.ref 0, .ref 2, .ref 47, .ref 63, .ref 64, .int 0, P_un, P_un, P_un], [], (P_hv132 xs 5))) P_i0_44 (fun _ => P_do_sw (by decide +kernel)) ?_
  refine P_wp_step (S' := (453, [.ref 0, .ref 2, .ref 47, .ref 63, .ref 64, .int 0, P_un, P_un, P_un], [.ref 2], (P_hv132 xs 5))) P_i0_452 (fun _ => rfl) ?_
  refine P_wp_step (S' := (454, [.ref 0, .ref 2, .ref 47, .ref 63, .ref 64, .int 0, P_un, P_un, P_un], [.ref 0, .ref 2], (P_hv132 xs 5))) P_i0_453 (fun _ => rfl) ?_
  refine P_wp_step (S' := (456, [.ref 0, .ref 2, .ref 47, .ref 63, .ref 64, .int 0, P_un, P_un, P_un], [.int 0, .ref 0, .ref 2], (P_hv132 xs 5))) P_i0_454 (fun _ => rfl) ?_
  refine P_wp_step (S' := (457, [.ref 0, .ref 2, .ref 47, .ref 63, .ref 64, .int 0, P_un, P_un, P_un], [.int 1, .int 0, .ref 0, .ref 2], (P_hv132 xs 5))) P_i0_456 (fun _ => rfl) ?_
  refine P_wp_step (S' := (458, [.ref 0, .ref 2, .ref 47, .ref 63, .ref 64, .int 0, P_un, P_un, P_un], [.int 1, .ref 0, .ref 2], (P_hv132 xs 5))) P_i0_457 (fun _ => rfl) ?_
  refine P_wp_step (S' := (459, [.ref 0, .ref 2, .ref 47, .ref 63, .ref 64, .int 0, P_un, P_un, P_un], [.int (xs 1), .ref 2], (P_hv132 xs 5))) P_i0_458 (fun _ => rfl) ?_
  refine P_wp_step (S' := (460, [.ref 0, .ref 2, .ref 47, .ref 63, .ref 64, .int 0, P_un, P_un, P_un], [.ref 63, .int (xs 1), .ref 2], (P_hv132 xs 5))) P_i0_459 (fun _ => rfl) ?_
  refine P_wp_call P_i0_460 rfl rfl rfl rfl rfl rfl rfl (y2 := 274) (as := [.ref 2, .int (xs 1), .ref 63]) (r0 := []) rfl (Nat.le_of_ble_eq_true rfl) (by decide) rfl (Nat.le_of_ble_eq_true rfl) (P_x97 xs 5 hc1 hc2 hc3 hc4 hc5 (?_))
  show P_wp P_Y0 200 0 (463, [.ref 0, .ref 2, .ref 47, .ref 63, .ref 64, .int 0, P_un, P_un, P_un], [.int 1], (P_hv134 xs 5)) _
  refine P_wp_step (S' := (465, [.ref 0, .ref 2, .ref 47, .ref 63, .ref 64, .int 0, .int 1, P_un, P_un], [], (P_hv134 xs 5))) P_i0_463 (fun _ => rfl) ?_
  refine P_wp_step (S' := (466, [.ref 0, .ref 2, .ref 47, .ref 63, .ref 64, .int 0, .int 1, P_un, P_un], [.ref 47], (P_hv134 xs 5))) P_i0_465 (fun _ => rfl) ?_
  refine P_wp_step (S' := (467, [.ref 0, .ref 2, .ref 47, .ref 63, .ref 64, .int 0, .int 1, P_un, P_un], [.ref 0, .ref 47], (P_hv134 xs 5))) P_i0_466 (fun _ => rfl) ?_
  refine P_wp_step (S' := (469, [.ref 0, .ref 2, .ref 47, .ref 63, .ref 64, .int 0, .int 1, P_un, P_un], [.int 0, .ref 0, .ref 47], (P_hv134 xs 5))) P_i0_467 (fun _ => rfl) ?_
  refine P_wp_step (S' := (470, [.ref 0, .ref 2, .ref 47, .ref 63, .ref 64, .int 0, .int 1, P_un, P_un], [.int 1, .int 0, .ref 0, .ref 47], (P_hv134 xs 5))) P_i0_469 (fun _ => rfl) ?_
  refine P_wp_step (S' := (471, [.ref 0, .ref 2, .ref 47, .ref 63, .ref 64, .int 0, .int 1, P_un, P_un], [.int 1, .ref 0, .ref 47], (P_hv134 xs 5))) P_i0_470 (fun _ => rfl) ?_
  refine P_wp_step (S' := (472, [.ref 0, .ref 2, .ref 47, .ref 63, .ref 64, .int 0, .int 1, P_un, P_un], [.int (xs 1), .ref 47], (P_hv134 xs 5))) P_i0_471 (fun _ => rfl) ?_
  refine P_wp_call P_i0_472 rfl rfl rfl rfl rfl rfl rfl (y2 := 195) (as := [.ref 47, .int (xs 1)]) (r0 := []) rfl (Nat.le_of_ble_eq_true rfl) (by decide) rfl (Nat.le_of_ble_eq_true rfl) (P_x99 xs 5 hc6 hc7 hc8 hc9 hc10 (?_))
  show P_wp P_Y0 200 0 (475, [.ref 0, .ref 2, .ref 47, .ref 63, .ref 64, .int 0, .int 1, P_un, P_un], [.int 0], (P_hv135 xs 5)) _
  refine P_wp_step (S' := (477, [.ref 0, .ref 2, .ref 47, .ref 63, .ref 64, .int 0, .int 1, .int 0, P_un], [], (P_hv135 xs 5))) P_i0_475 (fun _ => rfl) ?_
  refine P_wp_step (S' := (478, [.ref 0, .ref 2, .ref 47, .ref 63, .ref 64, .int 0, .int 1, .int 0, P_un], [.ref 47], (P_hv135 xs 5))) P_i0_477 (fun _ => rfl) ?_
  refine P_wp_call P_i0_478 rfl rfl rfl rfl rfl rfl rfl (y2 := 183) (as := [.ref 47]) (r0 := []) rfl (Nat.le_of_ble_eq_true rfl) (by decide) rfl (Nat.le_of_ble_eq_true rfl) (P_x32 xs 5 (?_))
  show P_wp P_Y0 200 0 (481, [.ref 0, .ref 2, .ref 47, .ref 63, .ref 64, .int 0, .int 1, .int 0, P_un], [.int 1], (P_hv135 xs 5)) _
  refine P_wp_step (S' := (483, [.ref 0, .ref 2, .ref 47, .ref 63, .ref 64, .int 0, .int 1, .int 0, P_un], [.int 1, .int 1], (P_hv135 xs 5))) P_i0_481 (fun _ => rfl) ?_
  refine P_wp_ict P_i0_483 P_b20 (show P_wp P_Y0 200 0 (488, [.ref 0, .ref 2, .ref 47, .ref 63, .ref 64, .int 0, .int 1, .int 0, P_un], [], (P_hv135 xs 5)) _ from ?_)
  refine P_wp_step (S' := (490, [.ref 0, .ref 2, .ref 47, .ref 63, .ref 64, .int 0, .int 1, .int 0, P_un], [.int 1], (P_hv135 xs 5))) P_i0_488 (fun _ => rfl) ?_
  refine P_wp_izt P_i0_490 P_b21 (show P_wp P_Y0 200 0 (505, [.ref 0, .ref 2, .ref 47, .ref 63, .ref 64, .int 0, .int 1, .int 0, P_un], [], (P_hv135 xs 5)) _ from ?_)
  refine P_wp_step (S' := (1553, [.ref 0, .ref 2, .ref 47, .ref 63, .ref 64, .int 0, .int 1, .int 0, P_un], [], (P_hv135 xs 5))) P_i0_505 (fun _ => rfl) ?_
  refine P_wp_step (S' := (1556, [.ref 0, .ref 2, .ref 47, .ref 63, .ref 64, .int 5, .int 1, .int 0, P_un], [], (P_hv135 xs 5))) P_i0_1553 (fun _ => rfl) ?_
  refine P_wp_step (S' := (28, [.ref 0, .ref 2, .ref 47, .ref 63, .ref 64, .int 5, P_un, P_un, P_un], [], (P_hv135 xs 5))) P_i0_1556 (fun _ => rfl) ?_
  refine P_wp_step (S' := (30, [.ref 0, .ref 2, .ref 47, .ref 63, .ref 64, .int 5, P_un, P_un, P_un], [.int 5], (P_hv135 xs 5))) P_i0_28 (fun _ => rfl) ?_
  refine P_wp_step (S' := (31, [.ref 0, .ref 2, .ref 47, .ref 63, .ref 64, .int 5, P_un, P_un, P_un], [.ref 0, .int 5], (P_hv135 xs 5))) P_i0_30 (fun _ => rfl) ?_
  refine P_wp_step (S' := (32, [.ref 0, .ref 2, .ref 47, .ref 63, .ref 64, .int 5, P_un, P_un, P_un], [.int 5, .int 5], (P_hv135 xs 5))) P_i0_31 (fun _ => rfl) ?_
  refine P_wp_step (S' := (33, [.ref 0, .ref 2, .ref 47, .ref 63, .ref 64, .int 5, P_un, P_un, P_un], [.int 5, .int 5, .int 5], (P_hv135 xs 5))) P_i0_32 (fun _ => rfl) ?_
  refine P_wp_step (S' := (34, [.ref 0, .ref 2, .ref 47, .ref 63, .ref 64, .int 5, P_un, P_un, P_un], [.int 0, .int 5], (P_hv135 xs 5))) P_i0_33 (fun _ => rfl) ?_
  refine P_wp_ict P_i0_34 P_b22 (show P_wp P_Y0 200 0 (1559, [.ref 0, .ref 2, .ref 47, .ref 63, .ref 64, .int 5, P_un, P_un, P_un], [], (P_hv135 xs 5)) _ from ?_)
  refine P_wp_step (S' := (1560, [.ref 0, .ref 2, .ref 47, .ref 63, .ref 64, .int 5, P_un, P_un, P_un], [.int 1], (P_hv135 xs 5))) P_i0_1559 (fun _ => rfl) ?_
  refine P_wp_end (x := (.inl (some (.int 1)), (P_hv135 xs 5))) P_i0_1560 (fun _ => rfl) ?_
  exact ⟨rfl, Nat.le_of_ble_eq_true rfl, Nat.le_of_ble_eq_true rfl⟩

set_option maxRecDepth 20000 in
theorem P_pa12 (xs : Nat → Int32) (hsw : xs 0 &&& 31 = 4) (hc1 : P_cc .lt (xs 1) 0 = false) (hc2 : P_cc .le (xs 1) 11 = false) (hc3 : P_cc .lt (xs 1) 20 = false) (hc4 : P_cc .ge (xs 1) 25 = true) (hc5 : P_cc .lt (xs 1) 100 = true) (hc6 : P_cc .lt (xs 1) 1000 = true) (hc7 : P_cc .lt (xs 1) 0 = false) (hc8 : P_cc .gt (xs 1) 11 = true) (hc9 : P_cc .lt (xs 1) 20 = false) (hc10 : P_cc .gt (xs 1) 24 = true) (hc11 : P_cc .lt (xs 1) 100 = true) (hc12 : P_cc .lt (xs 1) 1000 = true) : P_wp P_Y0 200 0 (28, [.ref 0, .ref 2, .ref 47, .ref 63, .ref 64, .int 0, P_un, P_un, P_un], [], (P_hv132 xs 5)) (fun r h => r = .inl (some (.int 1)) ∧ h.2.1 ≤ 600002 ∧ h.2.2 ≤ 7302232) := by
  refine P_wp_step (S' := (30, [.ref 0, .ref 2, .ref 47, .ref 63, .ref 64, .int 0, P_un, P_un, P_un], [.int 0], (P_hv132 xs 5))) P_i0_28 (fun _ => rfl) ?_
  refine P_wp_step (S' := (31, [.ref 0, .ref 2, .ref 47, .ref 63, .ref 64, .int 0, P_un, P_un, P_un], [.ref 0, .int 0], (P_hv132 xs 5))) P_i0_30 (fun _ => rfl) ?_
  refine P_wp_step (S' := (32, [.ref 0, .ref 2, .ref 47, .ref 63, .ref 64, .int 0, P_un, P_un, P_un], [.int 5, .int 0], (P_hv132 xs 5))) P_i0_31 (fun _ => rfl) ?_
  refine P_wp_step (S' := (33, [.ref 0, .ref 2, .ref 47, .ref 63, .ref 64, .int 0, P_un, P_un, P_un], [.int 5, .int 5, .int 0], (P_hv132 xs 5))) P_i0_32 (fun _ => rfl) ?_
  refine P_wp_step (S' := (34, [.ref 0, .ref 2, .ref 47, .ref 63, .ref 64, .int 0, P_un, P_un, P_un], [.int 0, .int 0], (P_hv132 xs 5))) P_i0_33 (fun _ => rfl) ?_
  refine P_wp_icf P_i0_34 P_b18 (show P_wp P_Y0 200 0 (37, [.ref 0, .ref 2, .ref 47, .ref 63, .ref 64, .int 0, P_un, P_un, P_un], [], (P_hv132 xs 5)) _ from ?_)
  refine P_wp_step (S' := (38, [.ref 0, .ref 2, .ref 47, .ref 63, .ref 64, .int 0, P_un, P_un, P_un], [.ref 0], (P_hv132 xs 5))) P_i0_37 (fun _ => rfl) ?_
  refine P_wp_step (S' := (40, [.ref 0, .ref 2, .ref 47, .ref 63, .ref 64, .int 0, P_un, P_un, P_un], [.int 0, .ref 0], (P_hv132 xs 5))) P_i0_38 (fun _ => rfl) ?_
  refine P_wp_step (S' := (41, [.ref 0, .ref 2, .ref 47, .ref 63, .ref 64, .int 0, P_un, P_un, P_un], [.int (xs 0)], (P_hv132 xs 5))) P_i0_40 (fun _ => rfl) ?_
  refine P_wp_step (S' := (43, [.ref 0, .ref 2, .ref 47, .ref 63, .ref 64, .int 0, P_un, P_un, P_un], [.int 31, .int (xs 0)], (P_hv132 xs 5))) P_i0_41 (fun _ => rfl) ?_
  refine P_wp_step (S' := (44, [.ref 0, .ref 2, .ref 47, .ref 63, .ref 64, .int 0, P_un, P_un, P_un], [.int (xs 0 &&& 31)], (P_hv132 xs 5))) P_i0_43 (fun _ => rfl) ?_
  refine P_sw_at hsw (show P_wp P_Y0 200 0 (44, [.ref 0, .ref 2, .ref 47, .ref 63, .ref 64, .int 0, P_un, P_un, P_un], [.int 4], (P_hv132 xs 5)) _ from ?_)
  refine P_wp_step (S' := (452, [.ref 0, .ref 2, .ref 47, .ref 63, .ref 64, .int 0, P_un, P_un, P_un], [], (P_hv132 xs 5))) P_i0_44 (fun _ => P_do_sw (by decide +kernel)) ?_
  refine P_wp_step (S' := (453, [.ref 0, .ref 2, .ref 47, .ref 63, .ref 64, .int 0, P_un, P_un, P_un], [.ref 2], (P_hv132 xs 5))) P_i0_452 (fun _ => rfl) ?_
  refine P_wp_step (S' := (454, [.ref 0, .ref 2, .ref 47, .ref 63, .ref 64, .int 0, P_un, P_un, P_un], [.ref 0, .ref 2], (P_hv132 xs 5))) P_i0_453 (fun _ => rfl) ?_
  refine P_wp_step (S' := (456, [.ref 0, .ref 2, .ref 47, .ref 63, .ref 64, .int 0, P_un, P_un, P_un], [.int 0, .ref 0, .ref 2], (P_hv132 xs 5))) P_i0_454 (fun _ => rfl) ?_
  refine P_wp_step (S' := (457, [.ref 0, .ref 2, .ref 47, .ref 63, .ref 64, .int 0, P_un, P_un, P_un], [.int 1, .int 0, .ref 0, .ref 2], (P_hv132 xs 5))) P_i0_456 (fun _ => rfl) ?_
  refine P_wp_step (S' := (458, [.ref 0, .ref 2, .ref 47, .ref 63, .ref 64, .int 0, P_un, P_un, P_un], [.int 1, .ref 0, .ref 2], (P_hv132 xs 5))) P_i0_457 (fun _ => rfl) ?_
  refine P_wp_step (S' := (459, [.ref 0, .ref 2, .ref 47, .ref 63, .ref 64, .int 0, P_un, P_un, P_un], [.int (xs 1), .ref 2], (P_hv132 xs 5))) P_i0_458 (fun _ => rfl) ?_
  refine P_wp_step (S' := (460, [.ref 0, .ref 2, .ref 47, .ref 63, .ref 64, .int 0, P_un, P_un, P_un], [.ref 63, .int (xs 1), .ref 2], (P_hv132 xs 5))) P_i0_459 (fun _ => rfl) ?_
  refine P_wp_call P_i0_460 rfl rfl rfl rfl rfl rfl rfl (y2 := 274) (as := [.ref 2, .int (xs 1), .ref 63]) (r0 := []) rfl (Nat.le_of_ble_eq_true rfl) (by decide) rfl (Nat.le_of_ble_eq_true rfl) (P_x103 xs 5 hc1 hc2 hc3 hc4 hc5 hc6 (?_))
  show P_wp P_Y0 200 0 (463, [.ref 0, .ref 2, .ref 47, .ref 63, .ref 64, .int 0, P_un, P_un, P_un], [.int 1], (P_hv134 xs 5)) _
  refine P_wp_step (S' := (465, [.ref 0, .ref 2, .ref 47, .ref 63, .ref 64, .int 0, .int 1, P_un, P_un], [], (P_hv134 xs 5))) P_i0_463 (fun _ => rfl) ?_
  refine P_wp_step (S' := (466, [.ref 0, .ref 2, .ref 47, .ref 63, .ref 64, .int 0, .int 1, P_un, P_un], [.ref 47], (P_hv134 xs 5))) P_i0_465 (fun _ => rfl) ?_
  refine P_wp_step (S' := (467, [.ref 0, .ref 2, .ref 47, .ref 63, .ref 64, .int 0, .int 1, P_un, P_un], [.ref 0, .ref 47], (P_hv134 xs 5))) P_i0_466 (fun _ => rfl) ?_
  refine P_wp_step (S' := (469, [.ref 0, .ref 2, .ref 47, .ref 63, .ref 64, .int 0, .int 1, P_un, P_un], [.int 0, .ref 0, .ref 47], (P_hv134 xs 5))) P_i0_467 (fun _ => rfl) ?_
  refine P_wp_step (S' := (470, [.ref 0, .ref 2, .ref 47, .ref 63, .ref 64, .int 0, .int 1, P_un, P_un], [.int 1, .int 0, .ref 0, .ref 47], (P_hv134 xs 5))) P_i0_469 (fun _ => rfl) ?_
  refine P_wp_step (S' := (471, [.ref 0, .ref 2, .ref 47, .ref 63, .ref 64, .int 0, .int 1, P_un, P_un], [.int 1, .ref 0, .ref 47], (P_hv134 xs 5))) P_i0_470 (fun _ => rfl) ?_
  refine P_wp_step (S' := (472, [.ref 0, .ref 2, .ref 47, .ref 63, .ref 64, .int 0, .int 1, P_un, P_un], [.int (xs 1), .ref 47], (P_hv134 xs 5))) P_i0_471 (fun _ => rfl) ?_
  refine P_wp_call P_i0_472 rfl rfl rfl rfl rfl rfl rfl (y2 := 195) (as := [.ref 47, .int (xs 1)]) (r0 := []) rfl (Nat.le_of_ble_eq_true rfl) (by decide) rfl (Nat.le_of_ble_eq_true rfl) (P_x105 xs 5 hc7 hc8 hc9 hc10 hc11 hc12 (?_))
  show P_wp P_Y0 200 0 (475, [.ref 0, .ref 2, .ref 47, .ref 63, .ref 64, .int 0, .int 1, P_un, P_un], [.int 0], (P_hv135 xs 5)) _
  refine P_wp_step (S' := (477, [.ref 0, .ref 2, .ref 47, .ref 63, .ref 64, .int 0, .int 1, .int 0, P_un], [], (P_hv135 xs 5))) P_i0_475 (fun _ => rfl) ?_
  refine P_wp_step (S' := (478, [.ref 0, .ref 2, .ref 47, .ref 63, .ref 64, .int 0, .int 1, .int 0, P_un], [.ref 47], (P_hv135 xs 5))) P_i0_477 (fun _ => rfl) ?_
  refine P_wp_call P_i0_478 rfl rfl rfl rfl rfl rfl rfl (y2 := 183) (as := [.ref 47]) (r0 := []) rfl (Nat.le_of_ble_eq_true rfl) (by decide) rfl (Nat.le_of_ble_eq_true rfl) (P_x32 xs 5 (?_))
  show P_wp P_Y0 200 0 (481, [.ref 0, .ref 2, .ref 47, .ref 63, .ref 64, .int 0, .int 1, .int 0, P_un], [.int 1], (P_hv135 xs 5)) _
  refine P_wp_step (S' := (483, [.ref 0, .ref 2, .ref 47, .ref 63, .ref 64, .int 0, .int 1, .int 0, P_un], [.int 1, .int 1], (P_hv135 xs 5))) P_i0_481 (fun _ => rfl) ?_
  refine P_wp_ict P_i0_483 P_b20 (show P_wp P_Y0 200 0 (488, [.ref 0, .ref 2, .ref 47, .ref 63, .ref 64, .int 0, .int 1, .int 0, P_un], [], (P_hv135 xs 5)) _ from ?_)
  refine P_wp_step (S' := (490, [.ref 0, .ref 2, .ref 47, .ref 63, .ref 64, .int 0, .int 1, .int 0, P_un], [.int 1], (P_hv135 xs 5))) P_i0_488 (fun _ => rfl) ?_
  refine P_wp_izt P_i0_490 P_b21 (show P_wp P_Y0 200 0 (505, [.ref 0, .ref 2, .ref 47, .ref 63, .ref 64, .int 0, .int 1, .int 0, P_un], [], (P_hv135 xs 5)) _ from ?_)
  refine P_wp_step (S' := (1553, [.ref 0, .ref 2, .ref 47, .ref 63, .ref 64, .int 0, .int 1, .int 0, P_un], [], (P_hv135 xs 5))) P_i0_505 (fun _ => rfl) ?_
  refine P_wp_step (S' := (1556, [.ref 0, .ref 2, .ref 47, .ref 63, .ref 64, .int 5, .int 1, .int 0, P_un], [], (P_hv135 xs 5))) P_i0_1553 (fun _ => rfl) ?_
  refine P_wp_step (S' := (28, [.ref 0, .ref 2, .ref 47, .ref 63, .ref 64, .int 5, P_un, P_un, P_un], [], (P_hv135 xs 5))) P_i0_1556 (fun _ => rfl) ?_
  refine P_wp_step (S' := (30, [.ref 0, .ref 2, .ref 47, .ref 63, .ref 64, .int 5, P_un, P_un, P_un], [.int 5], (P_hv135 xs 5))) P_i0_28 (fun _ => rfl) ?_
  refine P_wp_step (S' := (31, [.ref 0, .ref 2, .ref 47, .ref 63, .ref 64, .int 5, P_un, P_un, P_un], [.ref 0, .int 5], (P_hv135 xs 5))) P_i0_30 (fun _ => rfl) ?_
  refine P_wp_step (S' := (32, [.ref 0, .ref 2, .ref 47, .ref 63, .ref 64, .int 5, P_un, P_un, P_un], [.int 5, .int 5], (P_hv135 xs 5))) P_i0_31 (fun _ => rfl) ?_
  refine P_wp_step (S' := (33, [.ref 0, .ref 2, .ref 47, .ref 63, .ref 64, .int 5, P_un, P_un, P_un], [.int 5, .int 5, .int 5], (P_hv135 xs 5))) P_i0_32 (fun _ => rfl) ?_
  refine P_wp_step (S' := (34, [.ref 0, .ref 2, .ref 47, .ref 63, .ref 64, .int 5, P_un, P_un, P_un], [.int 0, .int 5], (P_hv135 xs 5))) P_i0_33 (fun _ => rfl) ?_
  refine P_wp_ict P_i0_34 P_b22 (show P_wp P_Y0 200 0 (1559, [.ref 0, .ref 2, .ref 47, .ref 63, .ref 64, .int 5, P_un, P_un, P_un], [], (P_hv135 xs 5)) _ from ?_)
  refine P_wp_step (S' := (1560, [.ref 0, .ref 2, .ref 47, .ref 63, .ref 64, .int 5, P_un, P_un, P_un], [.int 1], (P_hv135 xs 5))) P_i0_1559 (fun _ => rfl) ?_
  refine P_wp_end (x := (.inl (some (.int 1)), (P_hv135 xs 5))) P_i0_1560 (fun _ => rfl) ?_
  exact ⟨rfl, Nat.le_of_ble_eq_true rfl, Nat.le_of_ble_eq_true rfl⟩

set_option maxRecDepth 20000 in
theorem P_pa13 (xs : Nat → Int32) (hsw : xs 0 &&& 31 = 4) (hc1 : P_cc .lt (xs 1) 0 = false) (hc2 : P_cc .le (xs 1) 11 = false) (hc3 : P_cc .lt (xs 1) 20 = false) (hc4 : P_cc .ge (xs 1) 25 = true) (hc5 : P_cc .lt (xs 1) 100 = false) (hc6 : P_cc .gt (xs 1) 199 = true) (hc7 : P_cc .lt (xs 1) 1000 = true) (hc8 : P_cc .lt (xs 1) 0 = false) (hc9 : P_cc .gt (xs 1) 11 = true) (hc10 : P_cc .lt (xs 1) 20 = false) (hc11 : P_cc .gt (xs 1) 24 = true) (hc12 : P_cc .lt (xs 1) 100 = false) (hc13 : P_cc .gt (xs 1) 199 = true) (hc14 : P_cc .lt (xs 1) 1000 = true) : P_wp P_Y0 200 0 (28, [.ref 0, .ref 2, .ref 47, .ref 63, .ref 64, .int 0, P_un, P_un, P_un], [], (P_hv132 xs 5)) (fun r h => r = .inl (some (.int 1)) ∧ h.2.1 ≤ 600002 ∧ h.2.2 ≤ 7302232) := by
  refine P_wp_step (S' := (30, [.ref 0, .ref 2, .ref 47, .ref 63, .ref 64, .int 0, P_un, P_un, P_un], [.int 0], (P_hv132 xs 5))) P_i0_28 (fun _ => rfl) ?_
  refine P_wp_step (S' := (31, [.ref 0, .ref 2, .ref 47, .ref 63, .ref 64, .int 0, P_un, P_un, P_un], [.ref 0, .int 0], (P_hv132 xs 5))) P_i0_30 (fun _ => rfl) ?_
  refine P_wp_step (S' := (32, [.ref 0, .ref 2, .ref 47, .ref 63, .ref 64, .int 0, P_un, P_un, P_un], [.int 5, .int 0], (P_hv132 xs 5))) P_i0_31 (fun _ => rfl) ?_
  refine P_wp_step (S' := (33, [.ref 0, .ref 2, .ref 47, .ref 63, .ref 64, .int 0, P_un, P_un, P_un], [.int 5, .int 5, .int 0], (P_hv132 xs 5))) P_i0_32 (fun _ => rfl) ?_
  refine P_wp_step (S' := (34, [.ref 0, .ref 2, .ref 47, .ref 63, .ref 64, .int 0, P_un, P_un, P_un], [.int 0, .int 0], (P_hv132 xs 5))) P_i0_33 (fun _ => rfl) ?_
  refine P_wp_icf P_i0_34 P_b18 (show P_wp P_Y0 200 0 (37, [.ref 0, .ref 2, .ref 47, .ref 63, .ref 64, .int 0, P_un, P_un, P_un], [], (P_hv132 xs 5)) _ from ?_)
  refine P_wp_step (S' := (38, [.ref 0, .ref 2, .ref 47, .ref 63, .ref 64, .int 0, P_un, P_un, P_un], [.ref 0], (P_hv132 xs 5))) P_i0_37 (fun _ => rfl) ?_
  refine P_wp_step (S' := (40, [.ref 0, .ref 2, .ref 47, .ref 63, .ref 64, .int 0, P_un, P_un, P_un], [.int 0, .ref 0], (P_hv132 xs 5))) P_i0_38 (fun _ => rfl) ?_
  refine P_wp_step (S' := (41, [.ref 0, .ref 2, .ref 47, .ref 63, .ref 64, .int 0, P_un, P_un, P_un], [.int (xs 0)], (P_hv132 xs 5))) P_i0_40 (fun _ => rfl) ?_
  refine P_wp_step (S' := (43, [.ref 0, .ref 2, .ref 47, .ref 63, .ref 64, .int 0, P_un, P_un, P_un], [.int 31, .int (xs 0)], (P_hv132 xs 5))) P_i0_41 (fun _ => rfl) ?_
  refine P_wp_step (S' := (44, [.ref 0, .ref 2, .ref 47, .ref 63, .ref 64, .int 0, P_un, P_un, P_un], [.int (xs 0 &&& 31)], (P_hv132 xs 5))) P_i0_43 (fun _ => rfl) ?_
  refine P_sw_at hsw (show P_wp P_Y0 200 0 (44, [.ref 0, .ref 2, .ref 47, .ref 63, .ref 64, .int 0, P_un, P_un, P_un], [.int 4], (P_hv132 xs 5)) _ from ?_)
  refine P_wp_step (S' := (452, [.ref 0, .ref 2, .ref 47, .ref 63, .ref 64, .int 0, P_un, P_un, P_un], [], (P_hv132 xs 5))) P_i0_44 (fun _ => P_do_sw (by decide +kernel)) ?_
  refine P_wp_step (S' := (453, [.ref 0, .ref 2, .ref 47, .ref 63, .ref 64, .int 0, P_un, P_un, P_un], [.ref 2], (P_hv132 xs 5))) P_i0_452 (fun _ => rfl) ?_
  refine P_wp_step (S' := (454, [.ref 0, .ref 2, .ref 47, .ref 63, .ref 64, .int 0, P_un, P_un, P_un], [.ref 0, .ref 2], (P_hv132 xs 5))) P_i0_453 (fun _ => rfl) ?_
  refine P_wp_step (S' := (456, [.ref 0, .ref 2, .ref 47, .ref 63, .ref 64, .int 0, P_un, P_un, P_un], [.int 0, .ref 0, .ref 2], (P_hv132 xs 5))) P_i0_454 (fun _ => rfl) ?_
  refine P_wp_step (S' := (457, [.ref 0, .ref 2, .ref 47, .ref 63, .ref 64, .int 0, P_un, P_un, P_un], [.int 1, .int 0, .ref 0, .ref 2], (P_hv132 xs 5))) P_i0_456 (fun _ => rfl) ?_
  refine P_wp_step (S' := (458, [.ref 0, .ref 2, .ref 47, .ref 63, .ref 64, .int 0, P_un, P_un, P_un], [.int 1, .ref 0, .ref 2], (P_hv132 xs 5))) P_i0_457 (fun _ => rfl) ?_
  refine P_wp_step (S' := (459, [.ref 0, .ref 2, .ref 47, .ref 63, .ref 64, .int 0, P_un, P_un, P_un], [.int (xs 1), .ref 2], (P_hv132 xs 5))) P_i0_458 (fun _ => rfl) ?_
  refine P_wp_step (S' := (460, [.ref 0, .ref 2, .ref 47, .ref 63, .ref 64, .int 0, P_un, P_un, P_un], [.ref 63, .int (xs 1), .ref 2], (P_hv132 xs 5))) P_i0_459 (fun _ => rfl) ?_
  refine P_wp_call P_i0_460 rfl rfl rfl rfl rfl rfl rfl (y2 := 274) (as := [.ref 2, .int (xs 1), .ref 63]) (r0 := []) rfl (Nat.le_of_ble_eq_true rfl) (by decide) rfl (Nat.le_of_ble_eq_true rfl) (P_x109 xs 5 hc1 hc2 hc3 hc4 hc5 hc6 hc7 (?_))
  show P_wp P_Y0 200 0 (463, [.ref 0, .ref 2, .ref 47, .ref 63, .ref 64, .int 0, P_un, P_un, P_un], [.int 1], (P_hv134 xs 5)) _
  refine P_wp_step (S' := (465, [.ref 0, .ref 2, .ref 47, .ref 63, .ref 64, .int 0, .int 1, P_un, P_un], [], (P_hv134 xs 5))) P_i0_463 (fun _ => rfl) ?_
  refine P_wp_step (S' := (466, [.ref 0, .ref 2, .ref 47, .ref 63, .ref 64, .int 0, .int 1, P_un, P_un], [.ref 47], (P_hv134 xs 5))) P_i0_465 (fun _ => rfl) ?_
  refine P_wp_step (S' := (467, [.ref 0, .ref 2, .ref 47, .ref 63, .ref 64, .int 0, .int 1, P_un, P_un], [.ref 0, .ref 47], (P_hv134 xs 5))) P_i0_466 (fun _ => rfl) ?_
  refine P_wp_step (S' := (469, [.ref 0, .ref 2, .ref 47, .ref 63, .ref 64, .int 0, .int 1, P_un, P_un], [.int 0, .ref 0, .ref 47], (P_hv134 xs 5))) P_i0_467 (fun _ => rfl) ?_
  refine P_wp_step (S' := (470, [.ref 0, .ref 2, .ref 47, .ref 63, .ref 64, .int 0, .int 1, P_un, P_un], [.int 1, .int 0, .ref 0, .ref 47], (P_hv134 xs 5))) P_i0_469 (fun _ => rfl) ?_
  refine P_wp_step (S' := (471, [.ref 0, .ref 2, .ref 47, .ref 63, .ref 64, .int 0, .int 1, P_un, P_un], [.int 1, .ref 0, .ref 47], (P_hv134 xs 5))) P_i0_470 (fun _ => rfl) ?_
  refine P_wp_step (S' := (472, [.ref 0, .ref 2, .ref 47, .ref 63, .ref 64, .int 0, .int 1, P_un, P_un], [.int (xs 1), .ref 47], (P_hv134 xs 5))) P_i0_471 (fun _ => rfl) ?_
  refine P_wp_call P_i0_472 rfl rfl rfl rfl rfl rfl rfl (y2 := 195) (as := [.ref 47, .int (xs 1)]) (r0 := []) rfl (Nat.le_of_ble_eq_true rfl) (by decide) rfl (Nat.le_of_ble_eq_true rfl) (P_x111 xs 5 hc8 hc9 hc10 hc11 hc12 hc13 hc14 (?_))
  show P_wp P_Y0 200 0 (475, [.ref 0, .ref 2, .ref 47, .ref 63, .ref 64, .int 0, .int 1, P_un, P_un], [.int 0], (P_hv135 xs 5)) _
  refine P_wp_step (S' := (477, [.ref 0, .ref 2, .ref 47, .ref 63, .ref 64, .int 0, .int 1, .int 0, P_un], [], (P_hv135 xs 5))) P_i0_475 (fun _ => rfl) ?_
  refine P_wp_step (S' := (478, [.ref 0, .ref 2, .ref 47, .ref 63, .ref 64, .int 0, .int 1, .int 0, P_un], [.ref 47], (P_hv135 xs 5))) P_i0_477 (fun _ => rfl) ?_
  refine P_wp_call P_i0_478 rfl rfl rfl rfl rfl rfl rfl (y2 := 183) (as := [.ref 47]) (r0 := []) rfl (Nat.le_of_ble_eq_true rfl) (by decide) rfl (Nat.le_of_ble_eq_true rfl) (P_x32 xs 5 (?_))
  show P_wp P_Y0 200 0 (481, [.ref 0, .ref 2, .ref 47, .ref 63, .ref 64, .int 0, .int 1, .int 0, P_un], [.int 1], (P_hv135 xs 5)) _
  refine P_wp_step (S' := (483, [.ref 0, .ref 2, .ref 47, .ref 63, .ref 64, .int 0, .int 1, .int 0, P_un], [.int 1, .int 1], (P_hv135 xs 5))) P_i0_481 (fun _ => rfl) ?_
  refine P_wp_ict P_i0_483 P_b20 (show P_wp P_Y0 200 0 (488, [.ref 0, .ref 2, .ref 47, .ref 63, .ref 64, .int 0, .int 1, .int 0, P_un], [], (P_hv135 xs 5)) _ from ?_)
  refine P_wp_step (S' := (490, [.ref 0, .ref 2, .ref 47, .ref 63, .ref 64, .int 0, .int 1, .int 0, P_un], [.int 1], (P_hv135 xs 5))) P_i0_488 (fun _ => rfl) ?_
  refine P_wp_izt P_i0_490 P_b21 (show P_wp P_Y0 200 0 (505, [.ref 0, .ref 2, .ref 47, .ref 63, .ref 64, .int 0, .int 1, .int 0, P_un], [], (P_hv135 xs 5)) _ from ?_)
  refine P_wp_step (S' := (1553, [.ref 0, .ref 2, .ref 47, .ref 63, .ref 64, .int 0, .int 1, .int 0, P_un], [], (P_hv135 xs 5))) P_i0_505 (fun _ => rfl) ?_
  refine P_wp_step (S' := (1556, [.ref 0, .ref 2, .ref 47, .ref 63, .ref 64, .int 5, .int 1, .int 0, P_un], [], (P_hv135 xs 5))) P_i0_1553 (fun _ => rfl) ?_
  refine P_wp_step (S' := (28, [.ref 0, .ref 2, .ref 47, .ref 63, .ref 64, .int 5, P_un, P_un, P_un], [], (P_hv135 xs 5))) P_i0_1556 (fun _ => rfl) ?_
  refine P_wp_step (S' := (30, [.ref 0, .ref 2, .ref 47, .ref 63, .ref 64, .int 5, P_un, P_un, P_un], [.int 5], (P_hv135 xs 5))) P_i0_28 (fun _ => rfl) ?_
  refine P_wp_step (S' := (31, [.ref 0, .ref 2, .ref 47, .ref 63, .ref 64, .int 5, P_un, P_un, P_un], [.ref 0, .int 5], (P_hv135 xs 5))) P_i0_30 (fun _ => rfl) ?_
  refine P_wp_step (S' := (32, [.ref 0, .ref 2, .ref 47, .ref 63, .ref 64, .int 5, P_un, P_un, P_un], [.int 5, .int 5], (P_hv135 xs 5))) P_i0_31 (fun _ => rfl) ?_
  refine P_wp_step (S' := (33, [.ref 0, .ref 2, .ref 47, .ref 63, .ref 64, .int 5, P_un, P_un, P_un], [.int 5, .int 5, .int 5], (P_hv135 xs 5))) P_i0_32 (fun _ => rfl) ?_
  refine P_wp_step (S' := (34, [.ref 0, .ref 2, .ref 47, .ref 63, .ref 64, .int 5, P_un, P_un, P_un], [.int 0, .int 5], (P_hv135 xs 5))) P_i0_33 (fun _ => rfl) ?_
  refine P_wp_ict P_i0_34 P_b22 (show P_wp P_Y0 200 0 (1559, [.ref 0, .ref 2, .ref 47, .ref 63, .ref 64, .int 5, P_un, P_un, P_un], [], (P_hv135 xs 5)) _ from ?_)
  refine P_wp_step (S' := (1560, [.ref 0, .ref 2, .ref 47, .ref 63, .ref 64, .int 5, P_un, P_un, P_un], [.int 1], (P_hv135 xs 5))) P_i0_1559 (fun _ => rfl) ?_
  refine P_wp_end (x := (.inl (some (.int 1)), (P_hv135 xs 5))) P_i0_1560 (fun _ => rfl) ?_
  exact ⟨rfl, Nat.le_of_ble_eq_true rfl, Nat.le_of_ble_eq_true rfl⟩

set_option maxRecDepth 20000 in
theorem P_pa14 (xs : Nat → Int32) (hsw : xs 0 &&& 31 = 4) (hc1 : P_cc .lt (xs 1) 0 = false) (hc2 : P_cc .le (xs 1) 11 = false) (hc3 : P_cc .lt (xs 1) 20 = false) (hc4 : P_cc .ge (xs 1) 25 = true) (hc5 : P_cc .lt (xs 1) 100 = false) (hc6 : P_cc .gt (xs 1) 199 = true) (hc7 : P_cc .lt (xs 1) 1000 = false) (hc8 : P_cc .gt (xs 1) 1999 = true) (hc9 : P_cc .lt (xs 1) 0 = false) (hc10 : P_cc .gt (xs 1) 11 = true) (hc11 : P_cc .lt (xs 1) 20 = false) (hc12 : P_cc .gt (xs 1) 24 = true) (hc13 : P_cc .lt (xs 1) 100 = false) (hc14 : P_cc .gt (xs 1) 199 = true) (hc15 : P_cc .lt (xs 1) 1000 = false) (hc16 : P_cc .gt (xs 1) 1999 = true) : P_wp P_Y0 200 0 (28, [.ref 0, .ref 2, .ref 47, .ref 63, .ref 64, .int 0, P_un, P_un, P_un], [], (P_hv132 xs 5)) (fun r h => r = .inl (some (.int 1)) ∧ h.2.1 ≤ 600002 ∧ h.2.2 ≤ 7302232) := by
  refine P_wp_step (S' := (30, [.ref 0, .ref 2, .ref 47, .ref 63, .ref 64, .int 0, P_un, P_un, P_un], [.int 0], (P_hv132 xs 5))) P_i0_28 (fun _ => rfl) ?_
  refine P_wp_step (S' := (31, [.ref 0, .ref 2, .ref 47, .ref 63, .ref 64, .int 0, P_un, P_un, P_un], [.ref 0, .int 0], (P_hv132 xs 5))) P_i0_30 (fun _ => rfl) ?_
  refine P_wp_step (S' := (32, [.ref 0, .ref 2, .ref 47, .ref 63, .ref 64, .int 0, P_un, P_un, P_un], [.int 5, .int 0], (P_hv132 xs 5))) P_i0_31 (fun _ => rfl) ?_
  refine P_wp_step (S' := (33, [.ref 0, .ref 2, .ref 47, .ref 63, .ref 64, .int 0, P_un, P_un, P_un], [.int 5, .int 5, .int 0], (P_hv132 xs 5))) P_i0_32 (fun _ => rfl) ?_
  refine P_wp_step (S' := (34, [.ref 0, .ref 2, .ref 47, .ref 63, .ref 64, .int 0, P_un, P_un, P_un], [.int 0, .int 0], (P_hv132 xs 5))) P_i0_33 (fun _ => rfl) ?_
  refine P_wp_icf P_i0_34 P_b18 (show P_wp P_Y0 200 0 (37, [.ref 0, .ref 2, .ref 47, .ref 63, .ref 64, .int 0, P_un, P_un, P_un], [], (P_hv132 xs 5)) _ from ?_)
  refine P_wp_step (S' := (38, [.ref 0, .ref 2, .ref 47, .ref 63, .ref 64, .int 0, P_un, P_un, P_un], [.ref 0], (P_hv132 xs 5))) P_i0_37 (fun _ => rfl) ?_
  refine P_wp_step (S' := (40, [.ref 0, .ref 2, .ref 47, .ref 63, .ref 64, .int 0, P_un, P_un, P_un], [.int 0, .ref 0], (P_hv132 xs 5))) P_i0_38 (fun _ => rfl) ?_
  refine P_wp_step (S' := (41, [.ref 0, .ref 2, .ref 47, .ref 63, .ref 64, .int 0, P_un, P_un, P_un], [.int (xs 0)], (P_hv132 xs 5))) P_i0_40 (fun _ => rfl) ?_
  refine P_wp_step (S' := (43, [.ref 0, .ref 2, .ref 47, .ref 63, .ref 64, .int 0, P_un, P_un, P_un], [.int 31, .int (xs 0)], (P_hv132 xs 5))) P_i0_41 (fun _ => rfl) ?_
  refine P_wp_step (S' := (44, [.ref 0, .ref 2, .ref 47, .ref 63, .ref 64, .int 0, P_un, P_un, P_un], [.int (xs 0 &&& 31)], (P_hv132 xs 5))) P_i0_43 (fun _ => rfl) ?_
  refine P_sw_at hsw (show P_wp P_Y0 200 0 (44, [.ref 0, .ref 2, .ref 47, .ref 63, .ref 64, .int 0, P_un, P_un, P_un], [.int 4], (P_hv132 xs 5)) _ from ?_)
  refine P_wp_step (S' := (452, [.ref 0, .ref 2, .ref 47, .ref 63, .ref 64, .int 0, P_un, P_un, P_un], [], (P_hv132 xs 5))) P_i0_44 (fun _ => P_do_sw (by decide +kernel)) ?_
  refine P_wp_step (S' := (453, [.ref 0, .ref 2, .ref 47, .ref 63, .ref 64, .int 0, P_un, P_un, P_un], [.ref 2], (P_hv132 xs 5))) P_i0_452 (fun _ => rfl) ?_
  refine P_wp_step (S' := (454, [.ref 0, .ref 2, .ref 47, .ref 63, .ref 64, .int 0, P_un, P_un, P_un], [.ref 0, .ref 2], (P_hv132 xs 5))) P_i0_453 (fun _ => rfl) ?_
  refine P_wp_step (S' := (456, [.ref 0, .ref 2, .ref 47, .ref 63, .ref 64, .int 0, P_un, P_un, P_un], [.int 0, .ref 0, .ref 2], (P_hv132 xs 5))) P_i0_454 (fun _ => rfl) ?_
  refine P_wp_step (S' := (457, [.ref 0, .ref 2, .ref 47, .ref 63, .ref 64, .int 0, P_un, P_un, P_un], [.int 1, .int 0, .ref 0, .ref 2], (P_hv132 xs 5))) P_i0_456 (fun _ => rfl) ?_
  refine P_wp_step (S' := (458, [.ref 0, .ref 2, .ref 47, .ref 63, .ref 64, .int 0, P_un, P_un, P_un], [.int 1, .ref 0, .ref 2], (P_hv132 xs 5))) P_i0_457 (fun _ => rfl) ?_
  refine P_wp_step (S' := (459, [.ref 0, .ref 2, .ref 47, .ref 63, .ref 64, .int 0, P_un, P_un, P_un], [.int (xs 1), .ref 2], (P_hv132 xs 5))) P_i0_458 (fun _ => rfl) ?_
  refine P_wp_step (S' := (460, [.ref 0, .ref 2, .ref 47, .ref 63, .ref 64, .int 0, P_un, P_un, P_un], [.ref 63, .int (xs 1), .ref 2], (P_hv132 xs 5))) P_i0_459 (fun _ => rfl) ?_
  refine P_wp_call P_i0_460 rfl rfl rfl rfl rfl rfl rfl (y2 := 274) (as := [.ref 2, .int (xs 1), .ref 63]) (r0 := []) rfl (Nat.le_of_ble_eq_true rfl) (by decide) rfl (Nat.le_of_ble_eq_true rfl) (P_x115 xs 5 hc1 hc2 hc3 hc4 hc5 hc6 hc7 hc8 (?_))
  show P_wp P_Y0 200 0 (463, [.ref 0, .ref 2, .ref 47, .ref 63, .ref 64, .int 0, P_un, P_un, P_un], [.int 1], (P_hv134 xs 5)) _
  refine P_wp_step (S' := (465, [.ref 0, .ref 2, .ref 47, .ref 63, .ref 64, .int 0, .int 1, P_un, P_un], [], (P_hv134 xs 5))) P_i0_463 (fun _ => rfl) ?_
  refine P_wp_step (S' := (466, [.ref 0, .ref 2, .ref 47, .ref 63, .ref 64, .int 0, .int 1, P_un, P_un], [.ref 47], (P_hv134 xs 5))) P_i0_465 (fun _ => rfl) ?_
  refine P_wp_step (S' := (467, [.ref 0, .ref 2, .ref 47, .ref 63, .ref 64, .int 0, .int 1, P_un, P_un], [.ref 0, .ref 47], (P_hv134 xs 5))) P_i0_466 (fun _ => rfl) ?_
  refine P_wp_step (S' := (469, [.ref 0, .ref 2, .ref 47, .ref 63, .ref 64, .int 0, .int 1, P_un, P_un], [.int 0, .ref 0, .ref 47], (P_hv134 xs 5))) P_i0_467 (fun _ => rfl) ?_
  refine P_wp_step (S' := (470, [.ref 0, .ref 2, .ref 47, .ref 63, .ref 64, .int 0, .int 1, P_un, P_un], [.int 1, .int 0, .ref 0, .ref 47], (P_hv134 xs 5))) P_i0_469 (fun _ => rfl) ?_
  refine P_wp_step (S' := (471, [.ref 0, .ref 2, .ref 47, .ref 63, .ref 64, .int 0, .int 1, P_un, P_un], [.int 1, .ref 0, .ref 47], (P_hv134 xs 5))) P_i0_470 (fun _ => rfl) ?_
  refine P_wp_step (S' := (472, [.ref 0, .ref 2, .ref 47, .ref 63, .ref 64, .int 0, .int 1, P_un, P_un], [.int (xs 1), .ref 47], (P_hv134 xs 5))) P_i0_471 (fun _ => rfl) ?_
  refine P_wp_call P_i0_472 rfl rfl rfl rfl rfl rfl rfl (y2 := 195) (as := [.ref 47, .int (xs 1)]) (r0 := []) rfl (Nat.le_of_ble_eq_true rfl) (by decide) rfl (Nat.le_of_ble_eq_true rfl) (P_x117 xs 5 hc9 hc10 hc11 hc12 hc13 hc14 hc15 hc16 (?_))
  show P_wp P_Y0 200 0 (475, [.ref 0, .ref 2, .ref 47, .ref 63, .ref 64, .int 0, .int 1, P_un, P_un], [.int 0], (P_hv135 xs 5)) _
  refine P_wp_step (S' := (477, [.ref 0, .ref 2, .ref 47, .ref 63, .ref 64, .int 0, .int 1, .int 0, P_un], [], (P_hv135 xs 5))) P_i0_475 (fun _ => rfl) ?_
  refine P_wp_step (S' := (478, [.ref 0, .ref 2, .ref 47, .ref 63, .ref 64, .int 0, .int 1, .int 0, P_un], [.ref 47], (P_hv135 xs 5))) P_i0_477 (fun _ => rfl) ?_
  refine P_wp_call P_i0_478 rfl rfl rfl rfl rfl rfl rfl (y2 := 183) (as := [.ref 47]) (r0 := []) rfl (Nat.le_of_ble_eq_true rfl) (by decide) rfl (Nat.le_of_ble_eq_true rfl) (P_x32 xs 5 (?_))
  show P_wp P_Y0 200 0 (481, [.ref 0, .ref 2, .ref 47, .ref 63, .ref 64, .int 0, .int 1, .int 0, P_un], [.int 1], (P_hv135 xs 5)) _
  refine P_wp_step (S' := (483, [.ref 0, .ref 2, .ref 47, .ref 63, .ref 64, .int 0, .int 1, .int 0, P_un], [.int 1, .int 1], (P_hv135 xs 5))) P_i0_481 (fun _ => rfl) ?_
  refine P_wp_ict P_i0_483 P_b20 (show P_wp P_Y0 200 0 (488, [.ref 0, .ref 2, .ref 47, .ref 63, .ref 64, .int 0, .int 1, .int 0, P_un], [], (P_hv135 xs 5)) _ from ?_)
  refine P_wp_step (S' := (490, [.ref 0, .ref 2, .ref 47, .ref 63, .ref 64, .int 0, .int 1, .int 0, P_un], [.int 1], (P_hv135 xs 5))) P_i0_488 (fun _ => rfl) ?_
  refine P_wp_izt P_i0_490 P_b21 (show P_wp P_Y0 200 0 (505, [.ref 0, .ref 2, .ref 47, .ref 63, .ref 64, .int 0, .int 1, .int 0, P_un], [], (P_hv135 xs 5)) _ from ?_)
  refine P_wp_step (S' := (1553, [.ref 0, .ref 2, .ref 47, .ref 63, .ref 64, .int 0, .int 1, .int 0, P_un], [], (P_hv135 xs 5))) P_i0_505 (fun _ => rfl) ?_
  refine P_wp_step (S' := (1556, [.ref 0, .ref 2, .ref 47, .ref 63, .ref 64, .int 5, .int 1, .int 0, P_un], [], (P_hv135 xs 5))) P_i0_1553 (fun _ => rfl) ?_
  refine P_wp_step (S' := (28, [.ref 0, .ref 2, .ref 47, .ref 63, .ref 64, .int 5, P_un, P_un, P_un], [], (P_hv135 xs 5))) P_i0_1556 (fun _ => rfl) ?_
  refine P_wp_step (S' := (30, [.ref 0, .ref 2, .ref 47, .ref 63, .ref 64, .int 5, P_un, P_un, P_un], [.int 5], (P_hv135 xs 5))) P_i0_28 (fun _ => rfl) ?_
  refine P_wp_step (S' := (31, [.ref 0, .ref 2, .ref 47, .ref 63, .ref 64, .int 5, P_un, P_un, P_un], [.ref 0, .int 5], (P_hv135 xs 5))) P_i0_30 (fun _ => rfl) ?_
  refine P_wp_step (S' := (32, [.ref 0, .ref 2, .ref 47, .ref 63, .ref 64, .int 5, P_un, P_un, P_un], [.int 5, .int 5], (P_hv135 xs 5))) P_i0_31 (fun _ => rfl) ?_
  refine P_wp_step (S' := (33, [.ref 0, .ref 2, .ref 47, .ref 63, .ref 64, .int 5, P_un, P_un, P_un], [.int 5, .int 5, .int 5], (P_hv135 xs 5))) P_i0_32 (fun _ => rfl) ?_
  refine P_wp_step (S' := (34, [.ref 0, .ref 2, .ref 47, .ref 63, .ref 64, .int 5, P_un, P_un, P_un], [.int 0, .int 5], (P_hv135 xs 5))) P_i0_33 (fun _ => rfl) ?_
  refine P_wp_ict P_i0_34 P_b22 (show P_wp P_Y0 200 0 (1559, [.ref 0, .ref 2, .ref 47, .ref 63, .ref 64, .int 5, P_un, P_un, P_un], [], (P_hv135 xs 5)) _ from ?_)
  refine P_wp_step (S' := (1560, [.ref 0, .ref 2, .ref 47, .ref 63, .ref 64, .int 5, P_un, P_un, P_un], [.int 1], (P_hv135 xs 5))) P_i0_1559 (fun _ => rfl) ?_
  refine P_wp_end (x := (.inl (some (.int 1)), (P_hv135 xs 5))) P_i0_1560 (fun _ => rfl) ?_
  exact ⟨rfl, Nat.le_of_ble_eq_true rfl, Nat.le_of_ble_eq_true rfl⟩
