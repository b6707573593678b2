/-! p1: runs, written by wip/p1.py -/
set_option maxRecDepth 20000 in
theorem P_x79 (xs : Nat → Int32) (L : Nat) (hq1 : P_cc .lt (xs 1) 0 = true) (hq2 : P_cc .lt (xs 1) 20 = true) (hq3 : P_cc .lt (xs 1) 100 = true) (hq4 : P_cc .lt (xs 1) 1000 = true) {Q : P_R → P_H → Prop} (q : Q (.inl (some (.int 0))) (P_hv135 xs L)) : P_wp P_Y0 199 195 (0, [.ref 47, .int (xs 1)], [], (P_hv134 xs L)) Q := by
  refine P_wp_step (S' := (1, [.ref 47, .int (xs 1)], [.ref 47], (P_hv134 xs L))) P_i195_0 (fun _ => rfl) ?_
  refine P_wp_step (S' := (2, [.ref 47, .int (xs 1)], [.int 0, .ref 47], (P_hv134 xs L))) P_i195_1 (fun _ => rfl) ?_
  refine P_wp_step (S' := (5, [.ref 47, .int (xs 1)], [], (P_hv134 xs L))) P_i195_2 (fun _ => rfl) ?_
  refine P_wp_step (S' := (6, [.ref 47, .int (xs 1)], [.int (xs 1)], (P_hv134 xs L))) P_i195_5 (fun _ => rfl) ?_
  refine P_wp_step (S' := (7, [.ref 47, .int (xs 1)], [.int 0, .int (xs 1)], (P_hv134 xs L))) P_i195_6 (fun _ => rfl) ?_
  refine P_wp_step (S' := (9, [.ref 47, .int (xs 1)], [.int 11, .int 0, .int (xs 1)], (P_hv134 xs L))) P_i195_7 (fun _ => rfl) ?_
  refine P_wp_call P_i195_9 rfl rfl rfl rfl rfl rfl rfl (y2 := 186) (as := [.int (xs 1), .int 0, .int 11]) (r0 := []) rfl (Nat.le_of_ble_eq_true rfl) (by decide) rfl (Nat.le_of_ble_eq_true rfl) (P_x75 xs L hq1 (?_))
  show P_wp P_Y0 199 195 (12, [.ref 47, .int (xs 1)], [.int 0], (P_hv134 xs L)) _
  refine P_wp_izf P_i195_12 P_b19 (show P_wp P_Y0 199 195 (15, [.ref 47, .int (xs 1)], [], (P_hv134 xs L)) _ from ?_)
  refine P_wp_step (S' := (16, [.ref 47, .int (xs 1)], [.int (xs 1)], (P_hv134 xs L))) P_i195_15 (fun _ => rfl) ?_
  refine P_wp_step (S' := (18, [.ref 47, .int (xs 1)], [.int 20, .int (xs 1)], (P_hv134 xs L))) P_i195_16 (fun _ => rfl) ?_
  refine P_wp_step (S' := (20, [.ref 47, .int (xs 1)], [.int 24, .int 20, .int (xs 1)], (P_hv134 xs L))) P_i195_18 (fun _ => rfl) ?_
  refine P_wp_call P_i195_20 rfl rfl rfl rfl rfl rfl rfl (y2 := 186) (as := [.int (xs 1), .int 20, .int 24]) (r0 := []) rfl (Nat.le_of_ble_eq_true rfl) (by decide) rfl (Nat.le_of_ble_eq_true rfl) (P_x76 xs L hq2 (?_))
  show P_wp P_Y0 199 195 (23, [.ref 47, .int (xs 1)], [.int 0], (P_hv134 xs L)) _
  refine P_wp_izf P_i195_23 P_b19 (show P_wp P_Y0 199 195 (26, [.ref 47, .int (xs 1)], [], (P_hv134 xs L)) _ from ?_)
  refine P_wp_step (S' := (27, [.ref 47, .int (xs 1)], [.int (xs 1)], (P_hv134 xs L))) P_i195_26 (fun _ => rfl) ?_
  refine P_wp_step (S' := (29, [.ref 47, .int (xs 1)], [.int 100, .int (xs 1)], (P_hv134 xs L))) P_i195_27 (fun _ => rfl) ?_
  refine P_wp_step (S' := (32, [.ref 47, .int (xs 1)], [.int 199, .int 100, .int (xs 1)], (P_hv134 xs L))) P_i195_29 (fun _ => rfl) ?_
  refine P_wp_call P_i195_32 rfl rfl rfl rfl rfl rfl rfl (y2 := 186) (as := [.int (xs 1), .int 100, .int 199]) (r0 := []) rfl (Nat.le_of_ble_eq_true rfl) (by decide) rfl (Nat.le_of_ble_eq_true rfl) (P_x77 xs L hq3 (?_))
  show P_wp P_Y0 199 195 (35, [.ref 47, .int (xs 1)], [.int 0], (P_hv134 xs L)) _
  refine P_wp_izf P_i195_35 P_b19 (show P_wp P_Y0 199 195 (38, [.ref 47, .int (xs 1)], [], (P_hv134 xs L)) _ from ?_)
  refine P_wp_step (S' := (39, [.ref 47, .int (xs 1)], [.int (xs 1)], (P_hv134 xs L))) P_i195_38 (fun _ => rfl) ?_
  refine P_wp_step (S' := (42, [.ref 47, .int (xs 1)], [.int 1000, .int (xs 1)], (P_hv134 xs L))) P_i195_39 (fun _ => rfl) ?_
  refine P_wp_step (S' := (45, [.ref 47, .int (xs 1)], [.int 1999, .int 1000, .int (xs 1)], (P_hv134 xs L))) P_i195_42 (fun _ => rfl) ?_
  refine P_wp_call P_i195_45 rfl rfl rfl rfl rfl rfl rfl (y2 := 186) (as := [.int (xs 1), .int 1000, .int 1999]) (r0 := []) rfl (Nat.le_of_ble_eq_true rfl) (by decide) rfl (Nat.le_of_ble_eq_true rfl) (P_x78 xs L hq4 (?_))
  show P_wp P_Y0 199 195 (48, [.ref 47, .int (xs 1)], [.int 0], (P_hv134 xs L)) _
  refine P_wp_izf P_i195_48 P_b19 (show P_wp P_Y0 199 195 (51, [.ref 47, .int (xs 1)], [], (P_hv134 xs L)) _ from ?_)
  refine P_wp_step (S' := (52, [.ref 47, .int (xs 1)], [.ref 47], (P_hv134 xs L))) P_i195_51 (fun _ => rfl) ?_
  refine P_wp_step (S' := (53, [.ref 47, .int (xs 1)], [.int 1, .ref 47], (P_hv134 xs L))) P_i195_52 (fun _ => rfl) ?_
  refine P_wp_call P_i195_53 rfl rfl rfl rfl rfl rfl rfl (y2 := 184) (as := [.ref 47, .int 1]) (r0 := []) rfl (Nat.le_of_ble_eq_true rfl) (by decide) rfl (Nat.le_of_ble_eq_true rfl) (P_x30 xs L (?_))
  show P_wp P_Y0 199 195 (56, [.ref 47, .int (xs 1)], [.int 0], (P_hv135 xs L)) _
  refine P_wp_end (x := (.inl (some (.int 0)), (P_hv135 xs L))) P_i195_56 (fun _ => rfl) ?_
  exact q

set_option maxRecDepth 20000 in
theorem P_x80 (xs : Nat → Int32) (L : Nat) (hq1 : P_cc .lt (xs 1) 0 = false) (hq2 : P_cc .le (xs 1) 11 = true) {Q : P_R → P_H → Prop} (q : Q (.inl (some (.int 1))) (P_hv132 xs L)) : P_wp P_Y0 197 173 (0, [.int (xs 1)], [], (P_hv132 xs L)) Q := by
  refine P_wp_step (S' := (1, [.int (xs 1)], [.int (xs 1)], (P_hv132 xs L))) P_i173_0 (fun _ => rfl) ?_
  refine P_wp_izf P_i173_1 hq1 (show P_wp P_Y0 197 173 (4, [.int (xs 1)], [], (P_hv132 xs L)) _ from ?_)
  refine P_wp_step (S' := (5, [.int (xs 1)], [.int (xs 1)], (P_hv132 xs L))) P_i173_4 (fun _ => rfl) ?_
  refine P_wp_step (S' := (7, [.int (xs 1)], [.int 11, .int (xs 1)], (P_hv132 xs L))) P_i173_5 (fun _ => rfl) ?_
  refine P_wp_ict P_i173_7 hq2 (show P_wp P_Y0 197 173 (31, [.int (xs 1)], [], (P_hv132 xs L)) _ from ?_)
  refine P_wp_step (S' := (32, [.int (xs 1)], [.int 1], (P_hv132 xs L))) P_i173_31 (fun _ => rfl) ?_
  refine P_wp_step (S' := (36, [.int (xs 1)], [.int 1], (P_hv132 xs L))) P_i173_32 (fun _ => rfl) ?_
  refine P_wp_end (x := (.inl (some (.int 1)), (P_hv132 xs L))) P_i173_36 (fun _ => rfl) ?_
  exact q

set_option maxRecDepth 20000 in
theorem P_x81 (xs : Nat → Int32) (L : Nat) {Q : P_R → P_H → Prop} (q : Q (.inl (some (.int 0))) (P_hv132 xs L)) : P_wp P_Y0 197 91 (0, [.ref 31], [], (P_hv132 xs L)) Q := by
  refine P_wp_step (S' := (1, [.ref 31], [.ref 31], (P_hv132 xs L))) P_i91_0 (fun _ => rfl) ?_
  refine P_wp_step (S' := (4, [.ref 31], [.int 0], (P_hv132 xs L))) P_i91_1 (fun _ => rfl) ?_
  refine P_wp_end (x := (.inl (some (.int 0)), (P_hv132 xs L))) P_i91_4 (fun _ => rfl) ?_
  exact q

set_option maxRecDepth 20000 in
theorem P_x82 (xs : Nat → Int32) (L : Nat) {Q : P_R → P_H → Prop} (q : Q (.inl none) (P_hv147 xs L)) : P_wp P_Y0 196 180 (0, [.ref 32, .int 0, .int (xs 1)], [], (P_hv132 xs L)) Q := by
  refine P_wp_step (S' := (1, [.ref 32, .int 0, .int (xs 1)], [.int 0], (P_hv132 xs L))) P_i180_0 (fun _ => rfl) ?_
  refine P_wp_izf P_i180_1 P_b24 (show P_wp P_Y0 196 180 (4, [.ref 32, .int 0, .int (xs 1)], [], (P_hv132 xs L)) _ from ?_)
  refine P_wp_step (S' := (5, [.ref 32, .int 0, .int (xs 1)], [.int 0], (P_hv132 xs L))) P_i180_4 (fun _ => rfl) ?_
  refine P_wp_step (S' := (6, [.ref 32, .int 0, .int (xs 1)], [.ref 32, .int 0], (P_hv132 xs L))) P_i180_5 (fun _ => rfl) ?_
  refine P_wp_step (S' := (7, [.ref 32, .int 0, .int (xs 1)], [.int 40, .int 0], (P_hv132 xs L))) P_i180_6 (fun _ => rfl) ?_
  refine P_wp_icf P_i180_7 P_b29 (show P_wp P_Y0 196 180 (10, [.ref 32, .int 0, .int (xs 1)], [], (P_hv132 xs L)) _ from ?_)
  refine P_wp_step (S' := (11, [.ref 32, .int 0, .int (xs 1)], [.ref 32], (P_hv132 xs L))) P_i180_10 (fun _ => rfl) ?_
  refine P_wp_step (S' := (12, [.ref 32, .int 0, .int (xs 1)], [.int 0, .ref 32], (P_hv132 xs L))) P_i180_11 (fun _ => rfl) ?_
  refine P_wp_step (S' := (13, [.ref 32, .int 0, .int (xs 1)], [.int (xs 1), .int 0, .ref 32], (P_hv132 xs L))) P_i180_12 (fun _ => rfl) ?_
  refine P_wp_step (S' := (14, [.ref 32, .int 0, .int (xs 1)], [], (P_hv147 xs L))) P_i180_13 (fun _ => rfl) ?_
  refine P_wp_end (x := (.inl none, (P_hv147 xs L))) P_i180_14 (fun _ => rfl) ?_
  exact q

set_option maxRecDepth 20000 in
theorem P_x83 (xs : Nat → Int32) (L : Nat) {Q : P_R → P_H → Prop} (q : Q (.inl none) (P_hv148 xs L)) : P_wp P_Y0 196 96 (0, [.ref 31], [], (P_hv148 xs L)) Q := by
  refine P_wp_step (S' := (1, [.ref 31], [.ref 31], (P_hv148 xs L))) P_i96_0 (fun _ => rfl) ?_
  refine P_wp_step (S' := (2, [.ref 31], [.int 0, .ref 31], (P_hv148 xs L))) P_i96_1 (fun _ => rfl) ?_
  refine P_wp_step (S' := (5, [.ref 31], [], (P_hv148 xs L))) P_i96_2 (fun _ => rfl) ?_
  refine P_wp_step (S' := (6, [.ref 31], [.ref 31], (P_hv148 xs L))) P_i96_5 (fun _ => rfl) ?_
  refine P_wp_step (S' := (7, [.ref 31], [.int (-1), .ref 31], (P_hv148 xs L))) P_i96_6 (fun _ => rfl) ?_
  refine P_wp_step (S' := (10, [.ref 31], [], (P_hv148 xs L))) P_i96_7 (fun _ => rfl) ?_
  refine P_wp_end (x := (.inl none, (P_hv148 xs L))) P_i96_10 (fun _ => rfl) ?_
  exact q

set_option maxRecDepth 20000 in
theorem P_x84 (xs : Nat → Int32) (L : Nat) {Q : P_R → P_H → Prop} (q : Q (.inl none) (P_hv148 xs L)) : P_wp P_Y0 197 94 (0, [.ref 31, .int (xs 1)], [], (P_hv132 xs L)) Q := by
  refine P_wp_step (S' := (1, [.ref 31, .int (xs 1)], [.ref 31], (P_hv132 xs L))) P_i94_0 (fun _ => rfl) ?_
  refine P_wp_step (S' := (4, [.ref 31, .int (xs 1)], [.int 0], (P_hv132 xs L))) P_i94_1 (fun _ => rfl) ?_
  refine P_wp_step (S' := (5, [.ref 31, .int (xs 1)], [.ref 31, .int 0], (P_hv132 xs L))) P_i94_4 (fun _ => rfl) ?_
  refine P_wp_step (S' := (8, [.ref 31, .int (xs 1)], [.ref 32, .int 0], (P_hv132 xs L))) P_i94_5 (fun _ => rfl) ?_
  refine P_wp_step (S' := (9, [.ref 31, .int (xs 1)], [.int 40, .int 0], (P_hv132 xs L))) P_i94_8 (fun _ => rfl) ?_
  refine P_wp_icf P_i94_9 P_b29 (show P_wp P_Y0 197 94 (12, [.ref 31, .int (xs 1)], [], (P_hv132 xs L)) _ from ?_)
  refine P_wp_step (S' := (13, [.ref 31, .int (xs 1)], [.ref 31], (P_hv132 xs L))) P_i94_12 (fun _ => rfl) ?_
  refine P_wp_step (S' := (16, [.ref 31, .int (xs 1)], [.ref 32], (P_hv132 xs L))) P_i94_13 (fun _ => rfl) ?_
  refine P_wp_step (S' := (17, [.ref 31, .int (xs 1)], [.ref 31, .ref 32], (P_hv132 xs L))) P_i94_16 (fun _ => rfl) ?_
  refine P_wp_step (S' := (20, [.ref 31, .int (xs 1)], [.int 0, .ref 32], (P_hv132 xs L))) P_i94_17 (fun _ => rfl) ?_
  refine P_wp_step (S' := (21, [.ref 31, .int (xs 1)], [.int (xs 1), .int 0, .ref 32], (P_hv132 xs L))) P_i94_20 (fun _ => rfl) ?_
  refine P_wp_call P_i94_21 rfl rfl rfl rfl rfl rfl rfl (y2 := 180) (as := [.ref 32, .int 0, .int (xs 1)]) (r0 := []) rfl (Nat.le_of_ble_eq_true rfl) (by decide) rfl (Nat.le_of_ble_eq_true rfl) (P_x82 xs L (?_))
  show P_wp P_Y0 197 94 (24, [.ref 31, .int (xs 1)], [], (P_hv147 xs L)) _
  refine P_wp_step (S' := (25, [.ref 31, .int (xs 1)], [.ref 31], (P_hv147 xs L))) P_i94_24 (fun _ => rfl) ?_
  refine P_wp_step (S' := (26, [.ref 31, .int (xs 1)], [.ref 31, .ref 31], (P_hv147 xs L))) P_i94_25 (fun _ => rfl) ?_
  refine P_wp_step (S' := (29, [.ref 31, .int (xs 1)], [.int 0, .ref 31], (P_hv147 xs L))) P_i94_26 (fun _ => rfl) ?_
  refine P_wp_step (S' := (30, [.ref 31, .int (xs 1)], [.int 1, .int 0, .ref 31], (P_hv147 xs L))) P_i94_29 (fun _ => rfl) ?_
  refine P_wp_step (S' := (31, [.ref 31, .int (xs 1)], [.int 1, .ref 31], (P_hv147 xs L))) P_i94_30 (fun _ => rfl) ?_
  refine P_wp_step (S' := (34, [.ref 31, .int (xs 1)], [], (P_hv148 xs L))) P_i94_31 (fun _ => rfl) ?_
  refine P_wp_step (S' := (35, [.ref 31, .int (xs 1)], [.ref 31], (P_hv148 xs L))) P_i94_34 (fun _ => rfl) ?_
  refine P_wp_call P_i94_35 rfl rfl rfl rfl rfl rfl rfl (y2 := 96) (as := [.ref 31]) (r0 := []) rfl (Nat.le_of_ble_eq_true rfl) (by decide) rfl (Nat.le_of_ble_eq_true rfl) (P_x83 xs L (?_))
  show P_wp P_Y0 197 94 (38, [.ref 31, .int (xs 1)], [], (P_hv148 xs L)) _
  refine P_wp_end (x := (.inl none, (P_hv148 xs L))) P_i94_38 (fun _ => rfl) ?_
  exact q

set_option maxRecDepth 20000 in
theorem P_x85 (xs : Nat → Int32) (L : Nat) {Q : P_R → P_H → Prop} (q : Q (.inl none) (P_hv148 xs L)) : P_wp P_Y0 196 85 (0, [.ref 46], [], (P_hv148 xs L)) Q := by
  refine P_wp_step (S' := (1, [.ref 46], [.ref 46], (P_hv148 xs L))) P_i85_0 (fun _ => rfl) ?_
  refine P_wp_step (S' := (2, [.ref 46], [.int 0, .ref 46], (P_hv148 xs L))) P_i85_1 (fun _ => rfl) ?_
  refine P_wp_step (S' := (5, [.ref 46], [], (P_hv148 xs L))) P_i85_2 (fun _ => rfl) ?_
  refine P_wp_step (S' := (6, [.ref 46], [.ref 46], (P_hv148 xs L))) P_i85_5 (fun _ => rfl) ?_
  refine P_wp_step (S' := (7, [.ref 46], [.int 0, .ref 46], (P_hv148 xs L))) P_i85_6 (fun _ => rfl) ?_
  refine P_wp_step (S' := (10, [.ref 46], [], (P_hv148 xs L))) P_i85_7 (fun _ => rfl) ?_
  refine P_wp_step (S' := (11, [.ref 46], [.ref 46], (P_hv148 xs L))) P_i85_10 (fun _ => rfl) ?_
  refine P_wp_step (S' := (12, [.ref 46], [.int 0, .ref 46], (P_hv148 xs L))) P_i85_11 (fun _ => rfl) ?_
  refine P_wp_step (S' := (15, [.ref 46], [], (P_hv148 xs L))) P_i85_12 (fun _ => rfl) ?_
  refine P_wp_step (S' := (16, [.ref 46], [.ref 46], (P_hv148 xs L))) P_i85_15 (fun _ => rfl) ?_
  refine P_wp_step (S' := (17, [.ref 46], [.int 0, .ref 46], (P_hv148 xs L))) P_i85_16 (fun _ => rfl) ?_
  refine P_wp_step (S' := (20, [.ref 46], [], (P_hv148 xs L))) P_i85_17 (fun _ => rfl) ?_
  refine P_wp_end (x := (.inl none, (P_hv148 xs L))) P_i85_20 (fun _ => rfl) ?_
  exact q

set_option maxRecDepth 20000 in
theorem P_x86 (xs : Nat → Int32) (L : Nat) {Q : P_R → P_H → Prop} (q : Q (.inl none) (P_hv148 xs L)) : P_wp P_Y0 196 2 (0, [.ref 33], [], (P_hv148 xs L)) Q := by
  refine P_wp_step (S' := (1, [.ref 33], [.ref 33], (P_hv148 xs L))) P_i2_0 (fun _ => rfl) ?_
  refine P_wp_step (S' := (2, [.ref 33], [.int 0, .ref 33], (P_hv148 xs L))) P_i2_1 (fun _ => rfl) ?_
  refine P_wp_step (S' := (5, [.ref 33], [], (P_hv148 xs L))) P_i2_2 (fun _ => rfl) ?_
  refine P_wp_end (x := (.inl none, (P_hv148 xs L))) P_i2_5 (fun _ => rfl) ?_
  exact q

set_option maxRecDepth 20000 in
theorem P_x87 (xs : Nat → Int32) (L : Nat) {Q : P_R → P_H → Prop} (q : Q (.inl none) (P_hv148 xs L)) : P_wp P_Y0 197 170 (0, [.ref 2], [], (P_hv148 xs L)) Q := by
  refine P_wp_step (S' := (1, [.ref 2], [.ref 2], (P_hv148 xs L))) P_i170_0 (fun _ => rfl) ?_
  refine P_wp_step (S' := (4, [.ref 2], [.ref 46], (P_hv148 xs L))) P_i170_1 (fun _ => rfl) ?_
  refine P_wp_call P_i170_4 rfl rfl rfl rfl rfl rfl rfl (y2 := 85) (as := [.ref 46]) (r0 := []) rfl (Nat.le_of_ble_eq_true rfl) (by decide) rfl (Nat.le_of_ble_eq_true rfl) (P_x85 xs L (?_))
  show P_wp P_Y0 197 170 (7, [.ref 2], [], (P_hv148 xs L)) _
  refine P_wp_step (S' := (8, [.ref 2], [.ref 2], (P_hv148 xs L))) P_i170_7 (fun _ => rfl) ?_
  refine P_wp_step (S' := (11, [.ref 2], [.ref 33], (P_hv148 xs L))) P_i170_8 (fun _ => rfl) ?_
  refine P_wp_call P_i170_11 rfl rfl rfl rfl rfl rfl rfl (y2 := 2) (as := [.ref 33]) (r0 := []) rfl (Nat.le_of_ble_eq_true rfl) (by decide) rfl (Nat.le_of_ble_eq_true rfl) (P_x86 xs L (?_))
  show P_wp P_Y0 197 170 (14, [.ref 2], [], (P_hv148 xs L)) _
  refine P_wp_end (x := (.inl none, (P_hv148 xs L))) P_i170_14 (fun _ => rfl) ?_
  exact q

set_option maxRecDepth 20000 in
theorem P_x88 (xs : Nat → Int32) (L : Nat) {Q : P_R → P_H → Prop} (q : Q (.inl (some (.int 1))) (P_hv148 xs L)) : P_wp P_Y0 197 91 (0, [.ref 31], [], (P_hv148 xs L)) Q := by
  refine P_wp_step (S' := (1, [.ref 31], [.ref 31], (P_hv148 xs L))) P_i91_0 (fun _ => rfl) ?_
  refine P_wp_step (S' := (4, [.ref 31], [.int 1], (P_hv148 xs L))) P_i91_1 (fun _ => rfl) ?_
  refine P_wp_end (x := (.inl (some (.int 1)), (P_hv148 xs L))) P_i91_4 (fun _ => rfl) ?_
  exact q

set_option maxRecDepth 20000 in
theorem P_x89 (xs : Nat → Int32) (L : Nat) (hq1 : P_cc .lt (xs 1) 0 = false) (hq2 : P_cc .le (xs 1) 11 = true) {Q : P_R → P_H → Prop} (q : Q (.inl (some (.int 1))) (P_hv148 xs L)) : P_wp P_Y0 198 142 (0, [.ref 2, .int (xs 1)], [], (P_hv132 xs L)) Q := by
  refine P_wp_step (S' := (1, [.ref 2, .int (xs 1)], [.int (xs 1)], (P_hv132 xs L))) P_i142_0 (fun _ => rfl) ?_
  refine P_wp_call P_i142_1 rfl rfl rfl rfl rfl rfl rfl (y2 := 173) (as := [.int (xs 1)]) (r0 := []) rfl (Nat.le_of_ble_eq_true rfl) (by decide) rfl (Nat.le_of_ble_eq_true rfl) (P_x80 xs L hq1 hq2 (?_))
  show P_wp P_Y0 198 142 (4, [.ref 2, .int (xs 1)], [.int 1], (P_hv132 xs L)) _
  refine P_wp_izt P_i142_4 P_b21 (show P_wp P_Y0 198 142 (17, [.ref 2, .int (xs 1)], [], (P_hv132 xs L)) _ from ?_)
  refine P_wp_step (S' := (18, [.ref 2, .int (xs 1)], [.ref 2], (P_hv132 xs L))) P_i142_17 (fun _ => rfl) ?_
  refine P_wp_step (S' := (21, [.ref 2, .int (xs 1)], [.ref 31], (P_hv132 xs L))) P_i142_18 (fun _ => rfl) ?_
  refine P_wp_call P_i142_21 rfl rfl rfl rfl rfl rfl rfl (y2 := 91) (as := [.ref 31]) (r0 := []) rfl (Nat.le_of_ble_eq_true rfl) (by decide) rfl (Nat.le_of_ble_eq_true rfl) (P_x81 xs L (?_))
  show P_wp P_Y0 198 142 (24, [.ref 2, .int (xs 1)], [.int 0], (P_hv132 xs L)) _
  refine P_wp_step (S' := (26, [.ref 2, .int (xs 1)], [.int 40, .int 0], (P_hv132 xs L))) P_i142_24 (fun _ => rfl) ?_
  refine P_wp_ict P_i142_26 P_b28 (show P_wp P_Y0 198 142 (39, [.ref 2, .int (xs 1)], [], (P_hv132 xs L)) _ from ?_)
  refine P_wp_step (S' := (40, [.ref 2, .int (xs 1)], [.ref 2], (P_hv132 xs L))) P_i142_39 (fun _ => rfl) ?_
  refine P_wp_step (S' := (43, [.ref 2, .int (xs 1)], [.ref 31], (P_hv132 xs L))) P_i142_40 (fun _ => rfl) ?_
  refine P_wp_step (S' := (44, [.ref 2, .int (xs 1)], [.int (xs 1), .ref 31], (P_hv132 xs L))) P_i142_43 (fun _ => rfl) ?_
  refine P_wp_call P_i142_44 rfl rfl rfl rfl rfl rfl rfl (y2 := 94) (as := [.ref 31, .int (xs 1)]) (r0 := []) rfl (Nat.le_of_ble_eq_true rfl) (by decide) rfl (Nat.le_of_ble_eq_true rfl) (P_x84 xs L (?_))
  show P_wp P_Y0 198 142 (47, [.ref 2, .int (xs 1)], [], (P_hv148 xs L)) _
  refine P_wp_step (S' := (48, [.ref 2, .int (xs 1)], [.ref 2], (P_hv148 xs L))) P_i142_47 (fun _ => rfl) ?_
  refine P_wp_call P_i142_48 rfl rfl rfl rfl rfl rfl rfl (y2 := 170) (as := [.ref 2]) (r0 := []) rfl (Nat.le_of_ble_eq_true rfl) (by decide) rfl (Nat.le_of_ble_eq_true rfl) (P_x87 xs L (?_))
  show P_wp P_Y0 198 142 (51, [.ref 2, .int (xs 1)], [], (P_hv148 xs L)) _
  refine P_wp_step (S' := (52, [.ref 2, .int (xs 1)], [.ref 2], (P_hv148 xs L))) P_i142_51 (fun _ => rfl) ?_
  refine P_wp_step (S' := (55, [.ref 2, .int (xs 1)], [.ref 31], (P_hv148 xs L))) P_i142_52 (fun _ => rfl) ?_
  refine P_wp_call P_i142_55 rfl rfl rfl rfl rfl rfl rfl (y2 := 91) (as := [.ref 31]) (r0 := []) rfl (Nat.le_of_ble_eq_true rfl) (by decide) rfl (Nat.le_of_ble_eq_true rfl) (P_x88 xs L (?_))
  show P_wp P_Y0 198 142 (58, [.ref 2, .int (xs 1)], [.int 1], (P_hv148 xs L)) _
  refine P_wp_end (x := (.inl (some (.int 1)), (P_hv148 xs L))) P_i142_58 (fun _ => rfl) ?_
  exact q

set_option maxRecDepth 20000 in
theorem P_x90 (xs : Nat → Int32) (L : Nat) (hq1 : P_cc .lt (xs 1) 0 = false) (hq2 : P_cc .le (xs 1) 11 = true) {Q : P_R → P_H → Prop} (q : Q (.inl (some (.int 0))) (P_hv149 xs L)) : P_wp P_Y0 199 274 (0, [.ref 2, .int (xs 1), .ref 63, P_un], [], (P_hv132 xs L)) Q := by
  refine P_wp_step (S' := (1, [.ref 2, .int (xs 1), .ref 63, P_un], [.ref 63], (P_hv132 xs L))) P_i274_0 (fun _ => rfl) ?_
  refine P_wp_step (S' := (2, [.ref 2, .int (xs 1), .ref 63, P_un], [.int 0, .ref 63], (P_hv132 xs L))) P_i274_1 (fun _ => rfl) ?_
  refine P_wp_step (S' := (3, [.ref 2, .int (xs 1), .ref 63, P_un], [.ref 2, .int 0, .ref 63], (P_hv132 xs L))) P_i274_2 (fun _ => rfl) ?_
  refine P_wp_step (S' := (4, [.ref 2, .int (xs 1), .ref 63, P_un], [.int (xs 1), .ref 2, .int 0, .ref 63], (P_hv132 xs L))) P_i274_3 (fun _ => rfl) ?_
  refine P_wp_call P_i274_4 rfl rfl rfl rfl rfl rfl rfl (y2 := 142) (as := [.ref 2, .int (xs 1)]) (r0 := [.int 0, .ref 63]) rfl (Nat.le_of_ble_eq_true rfl) (by decide) rfl (Nat.le_of_ble_eq_true rfl) (P_x89 xs L hq1 hq2 (?_))
  show P_wp P_Y0 199 274 (7, [.ref 2, .int (xs 1), .ref 63, P_un], [.int 1, .int 0, .ref 63], (P_hv148 xs L)) _
  refine P_wp_step (S' := (8, [.ref 2, .int (xs 1), .ref 63, P_un], [.long 1, .int 0, .ref 63], (P_hv148 xs L))) P_i274_7 (fun _ => rfl) ?_
  refine P_wp_step (S' := (9, [.ref 2, .int (xs 1), .ref 63, P_un], [], (P_hv149 xs L))) P_i274_8 (fun _ => rfl) ?_
  refine P_wp_step (S' := (18, [.ref 2, .int (xs 1), .ref 63, P_un], [], (P_hv149 xs L))) P_i274_9 (fun _ => rfl) ?_
  refine P_wp_step (S' := (19, [.ref 2, .int (xs 1), .ref 63, P_un], [.int 0], (P_hv149 xs L))) P_i274_18 (fun _ => rfl) ?_
  refine P_wp_end (x := (.inl (some (.int 0)), (P_hv149 xs L))) P_i274_19 (fun _ => rfl) ?_
  exact q

set_option maxRecDepth 20000 in
theorem P_x91 (xs : Nat → Int32) (L : Nat) (hq1 : P_cc .lt (xs 1) 0 = false) (hq2 : P_cc .gt (xs 1) 11 = false) {Q : P_R → P_H → Prop} (q : Q (.inl (some (.int 1))) (P_hv149 xs L)) : P_wp P_Y0 198 186 (0, [.int (xs 1), .int 0, .int 11], [], (P_hv149 xs L)) Q := by
  refine P_wp_step (S' := (1, [.int (xs 1), .int 0, .int 11], [.int (xs 1)], (P_hv149 xs L))) P_i186_0 (fun _ => rfl) ?_
  refine P_wp_step (S' := (2, [.int (xs 1), .int 0, .int 11], [.int 0, .int (xs 1)], (P_hv149 xs L))) P_i186_1 (fun _ => rfl) ?_
  refine P_wp_icf P_i186_2 hq1 (show P_wp P_Y0 198 186 (5, [.int (xs 1), .int 0, .int 11], [], (P_hv149 xs L)) _ from ?_)
  refine P_wp_step (S' := (6, [.int (xs 1), .int 0, .int 11], [.int (xs 1)], (P_hv149 xs L))) P_i186_5 (fun _ => rfl) ?_
  refine P_wp_step (S' := (7, [.int (xs 1), .int 0, .int 11], [.int 11, .int (xs 1)], (P_hv149 xs L))) P_i186_6 (fun _ => rfl) ?_
  refine P_wp_icf P_i186_7 hq2 (show P_wp P_Y0 198 186 (10, [.int (xs 1), .int 0, .int 11], [], (P_hv149 xs L)) _ from ?_)
  refine P_wp_step (S' := (11, [.int (xs 1), .int 0, .int 11], [.int 1], (P_hv149 xs L))) P_i186_10 (fun _ => rfl) ?_
  refine P_wp_step (S' := (15, [.int (xs 1), .int 0, .int 11], [.int 1], (P_hv149 xs L))) P_i186_11 (fun _ => rfl) ?_
  refine P_wp_end (x := (.inl (some (.int 1)), (P_hv149 xs L))) P_i186_15 (fun _ => rfl) ?_
  exact q

set_option maxRecDepth 20000 in
theorem P_x92 (xs : Nat → Int32) (L : Nat) {Q : P_R → P_H → Prop} (q : Q (.inl none) (P_hv150 xs L)) : P_wp P_Y0 198 190 (0, [.ref 47], [], (P_hv150 xs L)) Q := by
  refine P_wp_step (S' := (1, [.ref 47], [.ref 47], (P_hv150 xs L))) P_i190_0 (fun _ => rfl) ?_
  refine P_wp_step (S' := (2, [.ref 47], [.int 0, .ref 47], (P_hv150 xs L))) P_i190_1 (fun _ => rfl) ?_
  refine P_wp_step (S' := (5, [.ref 47], [], (P_hv150 xs L))) P_i190_2 (fun _ => rfl) ?_
  refine P_wp_step (S' := (6, [.ref 47], [.ref 47], (P_hv150 xs L))) P_i190_5 (fun _ => rfl) ?_
  refine P_wp_step (S' := (7, [.ref 47], [.int 0, .ref 47], (P_hv150 xs L))) P_i190_6 (fun _ => rfl) ?_
  refine P_wp_step (S' := (10, [.ref 47], [], (P_hv150 xs L))) P_i190_7 (fun _ => rfl) ?_
  refine P_wp_end (x := (.inl none, (P_hv150 xs L))) P_i190_10 (fun _ => rfl) ?_
  exact q

set_option maxRecDepth 20000 in
theorem P_x93 (xs : Nat → Int32) (L : Nat) (hq1 : P_cc .lt (xs 1) 0 = false) (hq2 : P_cc .gt (xs 1) 11 = false) {Q : P_R → P_H → Prop} (q : Q (.inl (some (.int 1))) (P_hv151 xs L)) : P_wp P_Y0 199 195 (0, [.ref 47, .int (xs 1)], [], (P_hv149 xs L)) Q := by
  refine P_wp_step (S' := (1, [.ref 47, .int (xs 1)], [.ref 47], (P_hv149 xs L))) P_i195_0 (fun _ => rfl) ?_
  refine P_wp_step (S' := (2, [.ref 47, .int (xs 1)], [.int 0, .ref 47], (P_hv149 xs L))) P_i195_1 (fun _ => rfl) ?_
  refine P_wp_step (S' := (5, [.ref 47, .int (xs 1)], [], (P_hv149 xs L))) P_i195_2 (fun _ => rfl) ?_
  refine P_wp_step (S' := (6, [.ref 47, .int (xs 1)], [.int (xs 1)], (P_hv149 xs L))) P_i195_5 (fun _ => rfl) ?_
  refine P_wp_step (S' := (7, [.ref 47, .int (xs 1)], [.int 0, .int (xs 1)], (P_hv149 xs L))) P_i195_6 (fun _ => rfl) ?_
  refine P_wp_step (S' := (9, [.ref 47, .int (xs 1)], [.int 11, .int 0, .int (xs 1)], (P_hv149 xs L))) P_i195_7 (fun _ => rfl) ?_
  refine P_wp_call P_i195_9 rfl rfl rfl rfl rfl rfl rfl (y2 := 186) (as := [.int (xs 1), .int 0, .int 11]) (r0 := []) rfl (Nat.le_of_ble_eq_true rfl) (by decide) rfl (Nat.le_of_ble_eq_true rfl) (P_x91 xs L hq1 hq2 (?_))
  show P_wp P_Y0 199 195 (12, [.ref 47, .int (xs 1)], [.int 1], (P_hv149 xs L)) _
  refine P_wp_izt P_i195_12 P_b21 (show P_wp P_Y0 199 195 (57, [.ref 47, .int (xs 1)], [], (P_hv149 xs L)) _ from ?_)
  refine P_wp_step (S' := (58, [.ref 47, .int (xs 1)], [.ref 47], (P_hv149 xs L))) P_i195_57 (fun _ => rfl) ?_
  refine P_wp_step (S' := (61, [.ref 47, .int (xs 1)], [.int 0], (P_hv149 xs L))) P_i195_58 (fun _ => rfl) ?_
  refine P_wp_step (S' := (63, [.ref 47, .int (xs 1)], [.int 40, .int 0], (P_hv149 xs L))) P_i195_61 (fun _ => rfl) ?_
  refine P_wp_ict P_i195_63 P_b30 (show P_wp P_Y0 199 195 (72, [.ref 47, .int (xs 1)], [], (P_hv149 xs L)) _ from ?_)
  refine P_wp_step (S' := (73, [.ref 47, .int (xs 1)], [.ref 47], (P_hv149 xs L))) P_i195_72 (fun _ => rfl) ?_
  refine P_wp_step (S' := (76, [.ref 47, .int (xs 1)], [.ref 51], (P_hv149 xs L))) P_i195_73 (fun _ => rfl) ?_
  refine P_wp_step (S' := (77, [.ref 47, .int (xs 1)], [.ref 47, .ref 51], (P_hv149 xs L))) P_i195_76 (fun _ => rfl) ?_
  refine P_wp_step (S' := (80, [.ref 47, .int (xs 1)], [.int 0, .ref 51], (P_hv149 xs L))) P_i195_77 (fun _ => rfl) ?_
  refine P_wp_step (S' := (81, [.ref 47, .int (xs 1)], [.int (xs 1), .int 0, .ref 51], (P_hv149 xs L))) P_i195_80 (fun _ => rfl) ?_
  refine P_wp_step (S' := (82, [.ref 47, .int (xs 1)], [], (P_hv150 xs L))) P_i195_81 (fun _ => rfl) ?_
  refine P_wp_step (S' := (83, [.ref 47, .int (xs 1)], [.ref 47], (P_hv150 xs L))) P_i195_82 (fun _ => rfl) ?_
  refine P_wp_step (S' := (84, [.ref 47, .int (xs 1)], [.int 0, .ref 47], (P_hv150 xs L))) P_i195_83 (fun _ => rfl) ?_
  refine P_wp_step (S' := (87, [.ref 47, .int (xs 1)], [], (P_hv150 xs L))) P_i195_84 (fun _ => rfl) ?_
  refine P_wp_step (S' := (88, [.ref 47, .int (xs 1)], [.ref 47], (P_hv150 xs L))) P_i195_87 (fun _ => rfl) ?_
  refine P_wp_step (S' := (89, [.ref 47, .int (xs 1)], [.int (-1), .ref 47], (P_hv150 xs L))) P_i195_88 (fun _ => rfl) ?_
  refine P_wp_step (S' := (92, [.ref 47, .int (xs 1)], [], (P_hv150 xs L))) P_i195_89 (fun _ => rfl) ?_
  refine P_wp_step (S' := (93, [.ref 47, .int (xs 1)], [.ref 47], (P_hv150 xs L))) P_i195_92 (fun _ => rfl) ?_
  refine P_wp_call P_i195_93 rfl rfl rfl rfl rfl rfl rfl (y2 := 190) (as := [.ref 47]) (r0 := []) rfl (Nat.le_of_ble_eq_true rfl) (by decide) rfl (Nat.le_of_ble_eq_true rfl) (P_x92 xs L (?_))
  show P_wp P_Y0 199 195 (96, [.ref 47, .int (xs 1)], [], (P_hv150 xs L)) _
  refine P_wp_step (S' := (97, [.ref 47, .int (xs 1)], [.ref 47], (P_hv150 xs L))) P_i195_96 (fun _ => rfl) ?_
  refine P_wp_step (S' := (98, [.ref 47, .int (xs 1)], [.ref 47, .ref 47], (P_hv150 xs L))) P_i195_97 (fun _ => rfl) ?_
  refine P_wp_step (S' := (101, [.ref 47, .int (xs 1)], [.int 0, .ref 47], (P_hv150 xs L))) P_i195_98 (fun _ => rfl) ?_
  refine P_wp_step (S' := (102, [.ref 47, .int (xs 1)], [.int 1, .int 0, .ref 47], (P_hv150 xs L))) P_i195_101 (fun _ => rfl) ?_
  refine P_wp_step (S' := (103, [.ref 47, .int (xs 1)], [.int 1, .ref 47], (P_hv150 xs L))) P_i195_102 (fun _ => rfl) ?_
  refine P_wp_step (S' := (104, [.ref 47, .int (xs 1)], [.int 1, .ref 47, .int 1], (P_hv150 xs L))) P_i195_103 (fun _ => rfl) ?_
  refine P_wp_step (S' := (107, [.ref 47, .int (xs 1)], [.int 1], (P_hv151 xs L))) P_i195_104 (fun _ => rfl) ?_
  refine P_wp_end (x := (.inl (some (.int 1)), (P_hv151 xs L))) P_i195_107 (fun _ => rfl) ?_
  exact q

set_option maxRecDepth 20000 in
theorem P_x94 (xs : Nat → Int32) (L : Nat) {Q : P_R → P_H → Prop} (q : Q (.inl (some (.int 0))) (P_hv151 xs L)) : P_wp P_Y0 199 183 (0, [.ref 47], [], (P_hv151 xs L)) Q := by
  refine P_wp_step (S' := (1, [.ref 47], [.ref 47], (P_hv151 xs L))) P_i183_0 (fun _ => rfl) ?_
  refine P_wp_step (S' := (4, [.ref 47], [.int 0], (P_hv151 xs L))) P_i183_1 (fun _ => rfl) ?_
  refine P_wp_end (x := (.inl (some (.int 0)), (P_hv151 xs L))) P_i183_4 (fun _ => rfl) ?_
  exact q

set_option maxRecDepth 20000 in
theorem P_x95 (xs : Nat → Int32) (L : Nat) (hq1 : P_cc .lt (xs 1) 0 = false) (hq2 : P_cc .le (xs 1) 11 = false) (hq3 : P_cc .lt (xs 1) 20 = true) (hq4 : P_cc .lt (xs 1) 100 = true) (hq5 : P_cc .lt (xs 1) 1000 = true) {Q : P_R → P_H → Prop} (q : Q (.inl (some (.int 0))) (P_hv132 xs L)) : P_wp P_Y0 197 173 (0, [.int (xs 1)], [], (P_hv132 xs L)) Q := by
  refine P_wp_step (S' := (1, [.int (xs 1)], [.int (xs 1)], (P_hv132 xs L))) P_i173_0 (fun _ => rfl) ?_
  refine P_wp_izf P_i173_1 hq1 (show P_wp P_Y0 197 173 (4, [.int (xs 1)], [], (P_hv132 xs L)) _ from ?_)
  refine P_wp_step (S' := (5, [.int (xs 1)], [.int (xs 1)], (P_hv132 xs L))) P_i173_4 (fun _ => rfl) ?_
  refine P_wp_step (S' := (7, [.int (xs 1)], [.int 11, .int (xs 1)], (P_hv132 xs L))) P_i173_5 (fun _ => rfl) ?_
  refine P_wp_icf P_i173_7 hq2 (show P_wp P_Y0 197 173 (10, [.int (xs 1)], [], (P_hv132 xs L)) _ from ?_)
  refine P_wp_step (S' := (11, [.int (xs 1)], [.int (xs 1)], (P_hv132 xs L))) P_i173_10 (fun _ => rfl) ?_
  refine P_wp_call P_i173_11 rfl rfl rfl rfl rfl rfl rfl (y2 := 174) (as := [.int (xs 1)]) (r0 := []) rfl (Nat.le_of_ble_eq_true rfl) (by decide) rfl (Nat.le_of_ble_eq_true rfl) (P_x69 xs L hq3 (?_))
  show P_wp P_Y0 197 173 (14, [.int (xs 1)], [.int 0], (P_hv132 xs L)) _
  refine P_wp_izf P_i173_14 P_b19 (show P_wp P_Y0 197 173 (17, [.int (xs 1)], [], (P_hv132 xs L)) _ from ?_)
  refine P_wp_step (S' := (18, [.int (xs 1)], [.int (xs 1)], (P_hv132 xs L))) P_i173_17 (fun _ => rfl) ?_
  refine P_wp_call P_i173_18 rfl rfl rfl rfl rfl rfl rfl (y2 := 175) (as := [.int (xs 1)]) (r0 := []) rfl (Nat.le_of_ble_eq_true rfl) (by decide) rfl (Nat.le_of_ble_eq_true rfl) (P_x70 xs L hq4 (?_))
  show P_wp P_Y0 197 173 (21, [.int (xs 1)], [.int 0], (P_hv132 xs L)) _
  refine P_wp_izf P_i173_21 P_b19 (show P_wp P_Y0 197 173 (24, [.int (xs 1)], [], (P_hv132 xs L)) _ from ?_)
  refine P_wp_step (S' := (25, [.int (xs 1)], [.int (xs 1)], (P_hv132 xs L))) P_i173_24 (fun _ => rfl) ?_
  refine P_wp_call P_i173_25 rfl rfl rfl rfl rfl rfl rfl (y2 := 176) (as := [.int (xs 1)]) (r0 := []) rfl (Nat.le_of_ble_eq_true rfl) (by decide) rfl (Nat.le_of_ble_eq_true rfl) (P_x71 xs L hq5 (?_))
  show P_wp P_Y0 197 173 (28, [.int (xs 1)], [.int 0], (P_hv132 xs L)) _
  refine P_wp_izt P_i173_28 P_b27 (show P_wp P_Y0 197 173 (35, [.int (xs 1)], [], (P_hv132 xs L)) _ from ?_)
  refine P_wp_step (S' := (36, [.int (xs 1)], [.int 0], (P_hv132 xs L))) P_i173_35 (fun _ => rfl) ?_
  refine P_wp_end (x := (.inl (some (.int 0)), (P_hv132 xs L))) P_i173_36 (fun _ => rfl) ?_
  exact q

set_option maxRecDepth 20000 in
theorem P_x96 (xs : Nat → Int32) (L : Nat) (hq1 : P_cc .lt (xs 1) 0 = false) (hq2 : P_cc .le (xs 1) 11 = false) (hq3 : P_cc .lt (xs 1) 20 = true) (hq4 : P_cc .lt (xs 1) 100 = true) (hq5 : P_cc .lt (xs 1) 1000 = true) {Q : P_R → P_H → Prop} (q : Q (.inr 0) (P_hv134 xs L)) : P_wp P_Y0 198 142 (0, [.ref 2, .int (xs 1)], [], (P_hv132 xs L)) Q := by
  refine P_wp_step (S' := (1, [.ref 2, .int (xs 1)], [.int (xs 1)], (P_hv132 xs L))) P_i142_0 (fun _ => rfl) ?_
  refine P_wp_call P_i142_1 rfl rfl rfl rfl rfl rfl rfl (y2 := 173) (as := [.int (xs 1)]) (r0 := []) rfl (Nat.le_of_ble_eq_true rfl) (by decide) rfl (Nat.le_of_ble_eq_true rfl) (P_x95 xs L hq1 hq2 hq3 hq4 hq5 (?_))
  show P_wp P_Y0 198 142 (4, [.ref 2, .int (xs 1)], [.int 0], (P_hv132 xs L)) _
  refine P_wp_izf P_i142_4 P_b19 (show P_wp P_Y0 198 142 (7, [.ref 2, .int (xs 1)], [], (P_hv132 xs L)) _ from ?_)
  refine P_wp_end (x := (.inr 0, (P_hv134 xs L))) P_i142_7 (fun _ => rfl) ?_
  exact q

set_option maxRecDepth 20000 in
theorem P_x97 (xs : Nat → Int32) (L : Nat) (hq1 : P_cc .lt (xs 1) 0 = false) (hq2 : P_cc .le (xs 1) 11 = false) (hq3 : P_cc .lt (xs 1) 20 = true) (hq4 : P_cc .lt (xs 1) 100 = true) (hq5 : P_cc .lt (xs 1) 1000 = true) {Q : P_R → P_H → Prop} (q : Q (.inl (some (.int 1))) (P_hv134 xs L)) : P_wp P_Y0 199 274 (0, [.ref 2, .int (xs 1), .ref 63, P_un], [], (P_hv132 xs L)) Q := by
  refine P_wp_step (S' := (1, [.ref 2, .int (xs 1), .ref 63, P_un], [.ref 63], (P_hv132 xs L))) P_i274_0 (fun _ => rfl) ?_
  refine P_wp_step (S' := (2, [.ref 2, .int (xs 1), .ref 63, P_un], [.int 0, .ref 63], (P_hv132 xs L))) P_i274_1 (fun _ => rfl) ?_
  refine P_wp_step (S' := (3, [.ref 2, .int (xs 1), .ref 63, P_un], [.ref 2, .int 0, .ref 63], (P_hv132 xs L))) P_i274_2 (fun _ => rfl) ?_
  refine P_wp_step (S' := (4, [.ref 2, .int (xs 1), .ref 63, P_un], [.int (xs 1), .ref 2, .int 0, .ref 63], (P_hv132 xs L))) P_i274_3 (fun _ => rfl) ?_
  refine P_wp_call P_i274_4 rfl rfl rfl rfl rfl rfl rfl (y2 := 142) (as := [.ref 2, .int (xs 1)]) (r0 := [.int 0, .ref 63]) rfl (Nat.le_of_ble_eq_true rfl) (by decide) rfl (Nat.le_of_ble_eq_true rfl) (P_x96 xs L hq1 hq2 hq3 hq4 hq5 (?_))
  refine ⟨show 3 < 4 by decide, ?_⟩
  show P_wp P_Y0 199 274 (13, [.ref 2, .int (xs 1), .ref 63, P_un], [], (P_hv134 xs L)) _
  refine P_wp_step (S' := (14, [.ref 2, .int (xs 1), .ref 63, P_un], [.int 1], (P_hv134 xs L))) P_i274_13 (fun _ => rfl) ?_
  refine P_wp_end (x := (.inl (some (.int 1)), (P_hv134 xs L))) P_i274_14 (fun _ => rfl) ?_
  exact q

set_option maxRecDepth 20000 in
theorem P_x98 (xs : Nat → Int32) (L : Nat) (hq1 : P_cc .lt (xs 1) 0 = false) (hq2 : P_cc .gt (xs 1) 11 = true) {Q : P_R → P_H → Prop} (q : Q (.inl (some (.int 0))) (P_hv134 xs L)) : P_wp P_Y0 198 186 (0, [.int (xs 1), .int 0, .int 11], [], (P_hv134 xs L)) Q := by
  refine P_wp_step (S' := (1, [.int (xs 1), .int 0, .int 11], [.int (xs 1)], (P_hv134 xs L))) P_i186_0 (fun _ => rfl) ?_
  refine P_wp_step (S' := (2, [.int (xs 1), .int 0, .int 11], [.int 0, .int (xs 1)], (P_hv134 xs L))) P_i186_1 (fun _ => rfl) ?_
  refine P_wp_icf P_i186_2 hq1 (show P_wp P_Y0 198 186 (5, [.int (xs 1), .int 0, .int 11], [], (P_hv134 xs L)) _ from ?_)
  refine P_wp_step (S' := (6, [.int (xs 1), .int 0, .int 11], [.int (xs 1)], (P_hv134 xs L))) P_i186_5 (fun _ => rfl) ?_
  refine P_wp_step (S' := (7, [.int (xs 1), .int 0, .int 11], [.int 11, .int (xs 1)], (P_hv134 xs L))) P_i186_6 (fun _ => rfl) ?_
  refine P_wp_ict P_i186_7 hq2 (show P_wp P_Y0 198 186 (14, [.int (xs 1), .int 0, .int 11], [], (P_hv134 xs L)) _ from ?_)
  refine P_wp_step (S' := (15, [.int (xs 1), .int 0, .int 11], [.int 0], (P_hv134 xs L))) P_i186_14 (fun _ => rfl) ?_
  refine P_wp_end (x := (.inl (some (.int 0)), (P_hv134 xs L))) P_i186_15 (fun _ => rfl) ?_
  exact q

set_option maxRecDepth 20000 in
theorem P_x99 (xs : Nat → Int32) (L : Nat) (hq1 : P_cc .lt (xs 1) 0 = false) (hq2 : P_cc .gt (xs 1) 11 = true) (hq3 : P_cc .lt (xs 1) 20 = true) (hq4 : P_cc .lt (xs 1) 100 = true) (hq5 : P_cc .lt (xs 1) 1000 = true) {Q : P_R → P_H → Prop} (q : Q (.inl (some (.int 0))) (P_hv135 xs L)) : P_wp P_Y0 199 195 (0, [.ref 47, .int (xs 1)], [], (P_hv134 xs L)) Q := by
  refine P_wp_step (S' := (1, [.ref 47, .int (xs 1)], [.ref 47], (P_hv134 xs L))) P_i195_0 (fun _ => rfl) ?_
  refine P_wp_step (S' := (2, [.ref 47, .int (xs 1)], [.int 0, .ref 47], (P_hv134 xs L))) P_i195_1 (fun _ => rfl) ?_
  refine P_wp_step (S' := (5, [.ref 47, .int (xs 1)], [], (P_hv134 xs L))) P_i195_2 (fun _ => rfl) ?_
  refine P_wp_step (S' := (6, [.ref 47, .int (xs 1)], [.int (xs 1)], (P_hv134 xs L))) P_i195_5 (fun _ => rfl) ?_
  refine P_wp_step (S' := (7, [.ref 47, .int (xs 1)], [.int 0, .int (xs 1)], (P_hv134 xs L))) P_i195_6 (fun _ => rfl) ?_
  refine P_wp_step (S' := (9, [.ref 47, .int (xs 1)], [.int 11, .int 0, .int (xs 1)], (P_hv134 xs L))) P_i195_7 (fun _ => rfl) ?_
  refine P_wp_call P_i195_9 rfl rfl rfl rfl rfl rfl rfl (y2 := 186) (as := [.int (xs 1), .int 0, .int 11]) (r0 := []) rfl (Nat.le_of_ble_eq_true rfl) (by decide) rfl (Nat.le_of_ble_eq_true rfl) (P_x98 xs L hq1 hq2 (?_))
  show P_wp P_Y0 199 195 (12, [.ref 47, .int (xs 1)], [.int 0], (P_hv134 xs L)) _
  refine P_wp_izf P_i195_12 P_b19 (show P_wp P_Y0 199 195 (15, [.ref 47, .int (xs 1)], [], (P_hv134 xs L)) _ from ?_)
  refine P_wp_step (S' := (16, [.ref 47, .int (xs 1)], [.int (xs 1)], (P_hv134 xs L))) P_i195_15 (fun _ => rfl) ?_
  refine P_wp_step (S' := (18, [.ref 47, .int (xs 1)], [.int 20, .int (xs 1)], (P_hv134 xs L))) P_i195_16 (fun _ => rfl) ?_
  refine P_wp_step (S' := (20, [.ref 47, .int (xs 1)], [.int 24, .int 20, .int (xs 1)], (P_hv134 xs L))) P_i195_18 (fun _ => rfl) ?_
  refine P_wp_call P_i195_20 rfl rfl rfl rfl rfl rfl rfl (y2 := 186) (as := [.int (xs 1), .int 20, .int 24]) (r0 := []) rfl (Nat.le_of_ble_eq_true rfl) (by decide) rfl (Nat.le_of_ble_eq_true rfl) (P_x76 xs L hq3 (?_))
  show P_wp P_Y0 199 195 (23, [.ref 47, .int (xs 1)], [.int 0], (P_hv134 xs L)) _
  refine P_wp_izf P_i195_23 P_b19 (show P_wp P_Y0 199 195 (26, [.ref 47, .int (xs 1)], [], (P_hv134 xs L)) _ from ?_)
  refine P_wp_step (S' := (27, [.ref 47, .int (xs 1)], [.int (xs 1)], (P_hv134 xs L))) P_i195_26 (fun _ => rfl) ?_
  refine P_wp_step (S' := (29, [.ref 47, .int (xs 1)], [.int 100, .int (xs 1)], (P_hv134 xs L))) P_i195_27 (fun _ => rfl) ?_
  refine P_wp_step (S' := (32, [.ref 47, .int (xs 1)], [.int 199, .int 100, .int (xs 1)], (P_hv134 xs L))) P_i195_29 (fun _ => rfl) ?_
  refine P_wp_call P_i195_32 rfl rfl rfl rfl rfl rfl rfl (y2 := 186) (as := [.int (xs 1), .int 100, .int 199]) (r0 := []) rfl (Nat.le_of_ble_eq_true rfl) (by decide) rfl (Nat.le_of_ble_eq_true rfl) (P_x77 xs L hq4 (?_))
  show P_wp P_Y0 199 195 (35, [.ref 47, .int (xs 1)], [.int 0], (P_hv134 xs L)) _
  refine P_wp_izf P_i195_35 P_b19 (show P_wp P_Y0 199 195 (38, [.ref 47, .int (xs 1)], [], (P_hv134 xs L)) _ from ?_)
  refine P_wp_step (S' := (39, [.ref 47, .int (xs 1)], [.int (xs 1)], (P_hv134 xs L))) P_i195_38 (fun _ => rfl) ?_
  refine P_wp_step (S' := (42, [.ref 47, .int (xs 1)], [.int 1000, .int (xs 1)], (P_hv134 xs L))) P_i195_39 (fun _ => rfl) ?_
  refine P_wp_step (S' := (45, [.ref 47, .int (xs 1)], [.int 1999, .int 1000, .int (xs 1)], (P_hv134 xs L))) P_i195_42 (fun _ => rfl) ?_
  refine P_wp_call P_i195_45 rfl rfl rfl rfl rfl rfl rfl (y2 := 186) (as := [.int (xs 1), .int 1000, .int 1999]) (r0 := []) rfl (Nat.le_of_ble_eq_true rfl) (by decide) rfl (Nat.le_of_ble_eq_true rfl) (P_x78 xs L hq5 (?_))
  show P_wp P_Y0 199 195 (48, [.ref 47, .int (xs 1)], [.int 0], (P_hv134 xs L)) _
  refine P_wp_izf P_i195_48 P_b19 (show P_wp P_Y0 199 195 (51, [.ref 47, .int (xs 1)], [], (P_hv134 xs L)) _ from ?_)
  refine P_wp_step (S' := (52, [.ref 47, .int (xs 1)], [.ref 47], (P_hv134 xs L))) P_i195_51 (fun _ => rfl) ?_
  refine P_wp_step (S' := (53, [.ref 47, .int (xs 1)], [.int 1, .ref 47], (P_hv134 xs L))) P_i195_52 (fun _ => rfl) ?_
  refine P_wp_call P_i195_53 rfl rfl rfl rfl rfl rfl rfl (y2 := 184) (as := [.ref 47, .int 1]) (r0 := []) rfl (Nat.le_of_ble_eq_true rfl) (by decide) rfl (Nat.le_of_ble_eq_true rfl) (P_x30 xs L (?_))
  show P_wp P_Y0 199 195 (56, [.ref 47, .int (xs 1)], [.int 0], (P_hv135 xs L)) _
  refine P_wp_end (x := (.inl (some (.int 0)), (P_hv135 xs L))) P_i195_56 (fun _ => rfl) ?_
  exact q

set_option maxRecDepth 20000 in
theorem P_x100 (xs : Nat → Int32) (L : Nat) (hq1 : P_cc .lt (xs 1) 20 = false) (hq2 : P_cc .ge (xs 1) 25 = true) {Q : P_R → P_H → Prop} (q : Q (.inl (some (.int 0))) (P_hv132 xs L)) : P_wp P_Y0 196 174 (0, [.int (xs 1)], [], (P_hv132 xs L)) Q := by
  refine P_wp_step (S' := (1, [.int (xs 1)], [.int (xs 1)], (P_hv132 xs L))) P_i174_0 (fun _ => rfl) ?_
  refine P_wp_step (S' := (3, [.int (xs 1)], [.int 20, .int (xs 1)], (P_hv132 xs L))) P_i174_1 (fun _ => rfl) ?_
  refine P_wp_icf P_i174_3 hq1 (show P_wp P_Y0 196 174 (6, [.int (xs 1)], [], (P_hv132 xs L)) _ from ?_)
  refine P_wp_step (S' := (7, [.int (xs 1)], [.int (xs 1)], (P_hv132 xs L))) P_i174_6 (fun _ => rfl) ?_
  refine P_wp_step (S' := (9, [.int (xs 1)], [.int 25, .int (xs 1)], (P_hv132 xs L))) P_i174_7 (fun _ => rfl) ?_
  refine P_wp_ict P_i174_9 hq2 (show P_wp P_Y0 196 174 (16, [.int (xs 1)], [], (P_hv132 xs L)) _ from ?_)
  refine P_wp_step (S' := (17, [.int (xs 1)], [.int 0], (P_hv132 xs L))) P_i174_16 (fun _ => rfl) ?_
  refine P_wp_end (x := (.inl (some (.int 0)), (P_hv132 xs L))) P_i174_17 (fun _ => rfl) ?_
  exact q

set_option maxRecDepth 20000 in
theorem P_x101 (xs : Nat → Int32) (L : Nat) (hq1 : P_cc .lt (xs 1) 0 = false) (hq2 : P_cc .le (xs 1) 11 = false) (hq3 : P_cc .lt (xs 1) 20 = false) (hq4 : P_cc .ge (xs 1) 25 = true) (hq5 : P_cc .lt (xs 1) 100 = true) (hq6 : P_cc .lt (xs 1) 1000 = true) {Q : P_R → P_H → Prop} (q : Q (.inl (some (.int 0))) (P_hv132 xs L)) : P_wp P_Y0 197 173 (0, [.int (xs 1)], [], (P_hv132 xs L)) Q := by
  refine P_wp_step (S' := (1, [.int (xs 1)], [.int (xs 1)], (P_hv132 xs L))) P_i173_0 (fun _ => rfl) ?_
  refine P_wp_izf P_i173_1 hq1 (show P_wp P_Y0 197 173 (4, [.int (xs 1)], [], (P_hv132 xs L)) _ from ?_)
  refine P_wp_step (S' := (5, [.int (xs 1)], [.int (xs 1)], (P_hv132 xs L))) P_i173_4 (fun _ => rfl) ?_
  refine P_wp_step (S' := (7, [.int (xs 1)], [.int 11, .int (xs 1)], (P_hv132 xs L))) P_i173_5 (fun _ => rfl) ?_
  refine P_wp_icf P_i173_7 hq2 (show P_wp P_Y0 197 173 (10, [.int (xs 1)], [], (P_hv132 xs L)) _ from ?_)
  refine P_wp_step (S' := (11, [.int (xs 1)], [.int (xs 1)], (P_hv132 xs L))) P_i173_10 (fun _ => rfl) ?_
  refine P_wp_call P_i173_11 rfl rfl rfl rfl rfl rfl rfl (y2 := 174) (as := [.int (xs 1)]) (r0 := []) rfl (Nat.le_of_ble_eq_true rfl) (by decide) rfl (Nat.le_of_ble_eq_true rfl) (P_x100 xs L hq3 hq4 (?_))
  show P_wp P_Y0 197 173 (14, [.int (xs 1)], [.int 0], (P_hv132 xs L)) _
  refine P_wp_izf P_i173_14 P_b19 (show P_wp P_Y0 197 173 (17, [.int (xs 1)], [], (P_hv132 xs L)) _ from ?_)
  refine P_wp_step (S' := (18, [.int (xs 1)], [.int (xs 1)], (P_hv132 xs L))) P_i173_17 (fun _ => rfl) ?_
  refine P_wp_call P_i173_18 rfl rfl rfl rfl rfl rfl rfl (y2 := 175) (as := [.int (xs 1)]) (r0 := []) rfl (Nat.le_of_ble_eq_true rfl) (by decide) rfl (Nat.le_of_ble_eq_true rfl) (P_x70 xs L hq5 (?_))
  show P_wp P_Y0 197 173 (21, [.int (xs 1)], [.int 0], (P_hv132 xs L)) _
  refine P_wp_izf P_i173_21 P_b19 (show P_wp P_Y0 197 173 (24, [.int (xs 1)], [], (P_hv132 xs L)) _ from ?_)
  refine P_wp_step (S' := (25, [.int (xs 1)], [.int (xs 1)], (P_hv132 xs L))) P_i173_24 (fun _ => rfl) ?_
  refine P_wp_call P_i173_25 rfl rfl rfl rfl rfl rfl rfl (y2 := 176) (as := [.int (xs 1)]) (r0 := []) rfl (Nat.le_of_ble_eq_true rfl) (by decide) rfl (Nat.le_of_ble_eq_true rfl) (P_x71 xs L hq6 (?_))
  show P_wp P_Y0 197 173 (28, [.int (xs 1)], [.int 0], (P_hv132 xs L)) _
  refine P_wp_izt P_i173_28 P_b27 (show P_wp P_Y0 197 173 (35, [.int (xs 1)], [], (P_hv132 xs L)) _ from ?_)
  refine P_wp_step (S' := (36, [.int (xs 1)], [.int 0], (P_hv132 xs L))) P_i173_35 (fun _ => rfl) ?_
  refine P_wp_end (x := (.inl (some (.int 0)), (P_hv132 xs L))) P_i173_36 (fun _ => rfl) ?_
  exact q

set_option maxRecDepth 20000 in
theorem P_x102 (xs : Nat → Int32) (L : Nat) (hq1 : P_cc .lt (xs 1) 0 = false) (hq2 : P_cc .le (xs 1) 11 = false) (hq3 : P_cc .lt (xs 1) 20 = false) (hq4 : P_cc .ge (xs 1) 25 = true) (hq5 : P_cc .lt (xs 1) 100 = true) (hq6 : P_cc .lt (xs 1) 1000 = true) {Q : P_R → P_H → Prop} (q : Q (.inr 0) (P_hv134 xs L)) : P_wp P_Y0 198 142 (0, [.ref 2, .int (xs 1)], [], (P_hv132 xs L)) Q := by
  refine P_wp_step (S' := (1, [.ref 2, .int (xs 1)], [.int (xs 1)], (P_hv132 xs L))) P_i142_0 (fun _ => rfl) ?_
  refine P_wp_call P_i142_1 rfl rfl rfl rfl rfl rfl rfl (y2 := 173) (as := [.int (xs 1)]) (r0 := []) rfl (Nat.le_of_ble_eq_true rfl) (by decide) rfl (Nat.le_of_ble_eq_true rfl) (P_x101 xs L hq1 hq2 hq3 hq4 hq5 hq6 (?_))
  show P_wp P_Y0 198 142 (4, [.ref 2, .int (xs 1)], [.int 0], (P_hv132 xs L)) _
  refine P_wp_izf P_i142_4 P_b19 (show P_wp P_Y0 198 142 (7, [.ref 2, .int (xs 1)], [], (P_hv132 xs L)) _ from ?_)
  refine P_wp_end (x := (.inr 0, (P_hv134 xs L))) P_i142_7 (fun _ => rfl) ?_
  exact q

set_option maxRecDepth 20000 in
theorem P_x103 (xs : Nat → Int32) (L : Nat) (hq1 : P_cc .lt (xs 1) 0 = false) (hq2 : P_cc .le (xs 1) 11 = false) (hq3 : P_cc .lt (xs 1) 20 = false) (hq4 : P_cc .ge (xs 1) 25 = true) (hq5 : P_cc .lt (xs 1) 100 = true) (hq6 : P_cc .lt (xs 1) 1000 = true) {Q : P_R → P_H → Prop} (q : Q (.inl (some (.int 1))) (P_hv134 xs L)) : P_wp P_Y0 199 274 (0, [.ref 2, .int (xs 1), .ref 63, P_un], [], (P_hv132 xs L)) Q := by
  refine P_wp_step (S' := (1, [.ref 2, .int (xs 1), .ref 63, P_un], [.ref 63], (P_hv132 xs L))) P_i274_0 (fun _ => rfl) ?_
  refine P_wp_step (S' := (2, [.ref 2, .int (xs 1), .ref 63, P_un], [.int 0, .ref 63], (P_hv132 xs L))) P_i274_1 (fun _ => rfl) ?_
  refine P_wp_step (S' := (3, [.ref 2, .int (xs 1), .ref 63, P_un], [.ref 2, .int 0, .ref 63], (P_hv132 xs L))) P_i274_2 (fun _ => rfl) ?_
  refine P_wp_step (S' := (4, [.ref 2, .int (xs 1), .ref 63, P_un], [.int (xs 1), .ref 2, .int 0, .ref 63], (P_hv132 xs L))) P_i274_3 (fun _ => rfl) ?_
  refine P_wp_call P_i274_4 rfl rfl rfl rfl rfl rfl rfl (y2 := 142) (as := [.ref 2, .int (xs 1)]) (r0 := [.int 0, .ref 63]) rfl (Nat.le_of_ble_eq_true rfl) (by decide) rfl (Nat.le_of_ble_eq_true rfl) (P_x102 xs L hq1 hq2 hq3 hq4 hq5 hq6 (?_))
  refine ⟨show 3 < 4 by decide, ?_⟩
  show P_wp P_Y0 199 274 (13, [.ref 2, .int (xs 1), .ref 63, P_un], [], (P_hv134 xs L)) _
  refine P_wp_step (S' := (14, [.ref 2, .int (xs 1), .ref 63, P_un], [.int 1], (P_hv134 xs L))) P_i274_13 (fun _ => rfl) ?_
  refine P_wp_end (x := (.inl (some (.int 1)), (P_hv134 xs L))) P_i274_14 (fun _ => rfl) ?_
  exact q

set_option maxRecDepth 20000 in
theorem P_x104 (xs : Nat → Int32) (L : Nat) (hq1 : P_cc .lt (xs 1) 20 = false) (hq2 : P_cc .gt (xs 1) 24 = true) {Q : P_R → P_H → Prop} (q : Q (.inl (some (.int 0))) (P_hv134 xs L)) : P_wp P_Y0 198 186 (0, [.int (xs 1), .int 20, .int 24], [], (P_hv134 xs L)) Q := by
  refine P_wp_step (S' := (1, [.int (xs 1), .int 20, .int 24], [.int (xs 1)], (P_hv134 xs L))) P_i186_0 (fun _ => rfl) ?_
  refine P_wp_step (S' := (2, [.int (xs 1), .int 20, .int 24], [.int 20, .int (xs 1)], (P_hv134 xs L))) P_i186_1 (fun _ => rfl) ?_
  refine P_wp_icf P_i186_2 hq1 (show P_wp P_Y0 198 186 (5, [.int (xs 1), .int 20, .int 24], [], (P_hv134 xs L)) _ from ?_)
  refine P_wp_step (S' := (6, [.int (xs 1), .int 20, .int 24], [.int (xs 1)], (P_hv134 xs L))) P_i186_5 (fun _ => rfl) ?_
  refine P_wp_step (S' := (7, [.int (xs 1), .int 20, .int 24], [.int 24, .int (xs 1)], (P_hv134 xs L))) P_i186_6 (fun _ => rfl) ?_
  refine P_wp_ict P_i186_7 hq2 (show P_wp P_Y0 198 186 (14, [.int (xs 1), .int 20, .int 24], [], (P_hv134 xs L)) _ from ?_)
  refine P_wp_step (S' := (15, [.int (xs 1), .int 20, .int 24], [.int 0], (P_hv134 xs L))) P_i186_14 (fun _ => rfl) ?_
  refine P_wp_end (x := (.inl (some (.int 0)), (P_hv134 xs L))) P_i186_15 (fun _ => rfl) ?_
  exact q

set_option maxRecDepth 20000 in
theorem P_x105 (xs : Nat → Int32) (L : Nat) (hq1 : P_cc .lt (xs 1) 0 = false) (hq2 : P_cc .gt (xs 1) 11 = true) (hq3 : P_cc .lt (xs 1) 20 = false) (hq4 : P_cc .gt (xs 1) 24 = true) (hq5 : P_cc .lt (xs 1) 100 = true) (hq6 : P_cc .lt (xs 1) 1000 = true) {Q : P_R → P_H → Prop} (q : Q (.inl (some (.int 0))) (P_hv135 xs L)) : P_wp P_Y0 199 195 (0, [.ref 47, .int (xs 1)], [], (P_hv134 xs L)) Q := by
  refine P_wp_step (S' := (1, [.ref 47, .int (xs 1)], [.ref 47], (P_hv134 xs L))) P_i195_0 (fun _ => rfl) ?_
  refine P_wp_step (S' := (2, [.ref 47, .int (xs 1)], [.int 0, .ref 47], (P_hv134 xs L))) P_i195_1 (fun _ => rfl) ?_
  refine P_wp_step (S' := (5, [.ref 47, .int (xs 1)], [], (P_hv134 xs L))) P_i195_2 (fun _ => rfl) ?_
  refine P_wp_step (S' := (6, [.ref 47, .int (xs 1)], [.int (xs 1)], (P_hv134 xs L))) P_i195_5 (fun _ => rfl) ?_
  refine P_wp_step (S' := (7, [.ref 47, .int (xs 1)], [.int 0, .int (xs 1)], (P_hv134 xs L))) P_i195_6 (fun _ => rfl) ?_
  refine P_wp_step (S' := (9, [.ref 47, .int (xs 1)], [.int 11, .int 0, .int (xs 1)], (P_hv134 xs L))) P_i195_7 (fun _ => rfl) ?_
  refine P_wp_call P_i195_9 rfl rfl rfl rfl rfl rfl rfl (y2 := 186) (as := [.int (xs 1), .int 0, .int 11]) (r0 := []) rfl (Nat.le_of_ble_eq_true rfl) (by decide) rfl (Nat.le_of_ble_eq_true rfl) (P_x98 xs L hq1 hq2 (?_))
  show P_wp P_Y0 199 195 (12, [.ref 47, .int (xs 1)], [.int 0], (P_hv134 xs L)) _
  refine P_wp_izf P_i195_12 P_b19 (show P_wp P_Y0 199 195 (15, [.ref 47, .int (xs 1)], [], (P_hv134 xs L)) _ from ?_)
  refine P_wp_step (S' := (16, [.ref 47, .int (xs 1)], [.int (xs 1)], (P_hv134 xs L))) P_i195_15 (fun _ => rfl) ?_
  refine P_wp_step (S' := (18, [.ref 47, .int (xs 1)], [.int 20, .int (xs 1)], (P_hv134 xs L))) P_i195_16 (fun _ => rfl) ?_
  refine P_wp_step (S' := (20, [.ref 47, .int (xs 1)], [.int 24, .int 20, .int (xs 1)], (P_hv134 xs L))) P_i195_18 (fun _ => rfl) ?_
  refine P_wp_call P_i195_20 rfl rfl rfl rfl rfl rfl rfl (y2 := 186) (as := [.int (xs 1), .int 20, .int 24]) (r0 := []) rfl (Nat.le_of_ble_eq_true rfl) (by decide) rfl (Nat.le_of_ble_eq_true rfl) (P_x104 xs L hq3 hq4 (?_))
  show P_wp P_Y0 199 195 (23, [.ref 47, .int (xs 1)], [.int 0], (P_hv134 xs L)) _
  refine P_wp_izf P_i195_23 P_b19 (show P_wp P_Y0 199 195 (26, [.ref 47, .int (xs 1)], [], (P_hv134 xs L)) _ from ?_)
  refine P_wp_step (S' := (27, [.ref 47, .int (xs 1)], [.int (xs 1)], (P_hv134 xs L))) P_i195_26 (fun _ => rfl) ?_
  refine P_wp_step (S' := (29, [.ref 47, .int (xs 1)], [.int 100, .int (xs 1)], (P_hv134 xs L))) P_i195_27 (fun _ => rfl) ?_
  refine P_wp_step (S' := (32, [.ref 47, .int (xs 1)], [.int 199, .int 100, .int (xs 1)], (P_hv134 xs L))) P_i195_29 (fun _ => rfl) ?_
  refine P_wp_call P_i195_32 rfl rfl rfl rfl rfl rfl rfl (y2 := 186) (as := [.int (xs 1), .int 100, .int 199]) (r0 := []) rfl (Nat.le_of_ble_eq_true rfl) (by decide) rfl (Nat.le_of_ble_eq_true rfl) (P_x77 xs L hq5 (?_))
  show P_wp P_Y0 199 195 (35, [.ref 47, .int (xs 1)], [.int 0], (P_hv134 xs L)) _
  refine P_wp_izf P_i195_35 P_b19 (show P_wp P_Y0 199 195 (38, [.ref 47, .int (xs 1)], [], (P_hv134 xs L)) _ from ?_)
  refine P_wp_step (S' := (39, [.ref 47, .int (xs 1)], [.int (xs 1)], (P_hv134 xs L))) P_i195_38 (fun _ => rfl) ?_
  refine P_wp_step (S' := (42, [.ref 47, .int (xs 1)], [.int 1000, .int (xs 1)], (P_hv134 xs L))) P_i195_39 (fun _ => rfl) ?_
  refine P_wp_step (S' := (45, [.ref 47, .int (xs 1)], [.int 1999, .int 1000, .int (xs 1)], (P_hv134 xs L))) P_i195_42 (fun _ => rfl) ?_
  refine P_wp_call P_i195_45 rfl rfl rfl rfl rfl rfl rfl (y2 := 186) (as := [.int (xs 1), .int 1000, .int 1999]) (r0 := []) rfl (Nat.le_of_ble_eq_true rfl) (by decide) rfl (Nat.le_of_ble_eq_true rfl) (P_x78 xs L hq6 (?_))
  show P_wp P_Y0 199 195 (48, [.ref 47, .int (xs 1)], [.int 0], (P_hv134 xs L)) _
  refine P_wp_izf P_i195_48 P_b19 (show P_wp P_Y0 199 195 (51, [.ref 47, .int (xs 1)], [], (P_hv134 xs L)) _ from ?_)
  refine P_wp_step (S' := (52, [.ref 47, .int (xs 1)], [.ref 47], (P_hv134 xs L))) P_i195_51 (fun _ => rfl) ?_
  refine P_wp_step (S' := (53, [.ref 47, .int (xs 1)], [.int 1, .ref 47], (P_hv134 xs L))) P_i195_52 (fun _ => rfl) ?_
  refine P_wp_call P_i195_53 rfl rfl rfl rfl rfl rfl rfl (y2 := 184) (as := [.ref 47, .int 1]) (r0 := []) rfl (Nat.le_of_ble_eq_true rfl) (by decide) rfl (Nat.le_of_ble_eq_true rfl) (P_x30 xs L (?_))
  show P_wp P_Y0 199 195 (56, [.ref 47, .int (xs 1)], [.int 0], (P_hv135 xs L)) _
  refine P_wp_end (x := (.inl (some (.int 0)), (P_hv135 xs L))) P_i195_56 (fun _ => rfl) ?_
  exact q

set_option maxRecDepth 20000 in
theorem P_x106 (xs : Nat → Int32) (L : Nat) (hq1 : P_cc .lt (xs 1) 100 = false) (hq2 : P_cc .gt (xs 1) 199 = true) {Q : P_R → P_H → Prop} (q : Q (.inl (some (.int 0))) (P_hv132 xs L)) : P_wp P_Y0 196 175 (0, [.int (xs 1)], [], (P_hv132 xs L)) Q := by
  refine P_wp_step (S' := (1, [.int (xs 1)], [.int (xs 1)], (P_hv132 xs L))) P_i175_0 (fun _ => rfl) ?_
  refine P_wp_step (S' := (3, [.int (xs 1)], [.int 100, .int (xs 1)], (P_hv132 xs L))) P_i175_1 (fun _ => rfl) ?_
  refine P_wp_icf P_i175_3 hq1 (show P_wp P_Y0 196 175 (6, [.int (xs 1)], [], (P_hv132 xs L)) _ from ?_)
  refine P_wp_step (S' := (7, [.int (xs 1)], [.int (xs 1)], (P_hv132 xs L))) P_i175_6 (fun _ => rfl) ?_
  refine P_wp_step (S' := (10, [.int (xs 1)], [.int 199, .int (xs 1)], (P_hv132 xs L))) P_i175_7 (fun _ => rfl) ?_
  refine P_wp_ict P_i175_10 hq2 (show P_wp P_Y0 196 175 (17, [.int (xs 1)], [], (P_hv132 xs L)) _ from ?_)
  refine P_wp_step (S' := (18, [.int (xs 1)], [.int 0], (P_hv132 xs L))) P_i175_17 (fun _ => rfl) ?_
  refine P_wp_end (x := (.inl (some (.int 0)), (P_hv132 xs L))) P_i175_18 (fun _ => rfl) ?_
  exact q

set_option maxRecDepth 20000 in
theorem P_x107 (xs : Nat → Int32) (L : Nat) (hq1 : P_cc .lt (xs 1) 0 = false) (hq2 : P_cc .le (xs 1) 11 = false) (hq3 : P_cc .lt (xs 1) 20 = false) (hq4 : P_cc .ge (xs 1) 25 = true) (hq5 : P_cc .lt (xs 1) 100 = false) (hq6 : P_cc .gt (xs 1) 199 = true) (hq7 : P_cc .lt (xs 1) 1000 = true) {Q : P_R → P_H → Prop} (q : Q (.inl (some (.int 0))) (P_hv132 xs L)) : P_wp P_Y0 197 173 (0, [.int (xs 1)], [], (P_hv132 xs L)) Q := by
  refine P_wp_step (S' := (1, [.int (xs 1)], [.int (xs 1)], (P_hv132 xs L))) P_i173_0 (fun _ => rfl) ?_
  refine P_wp_izf P_i173_1 hq1 (show P_wp P_Y0 197 173 (4, [.int (xs 1)], [], (P_hv132 xs L)) _ from ?_)
  refine P_wp_step (S' := (5, [.int (xs 1)], [.int (xs 1)], (P_hv132 xs L))) P_i173_4 (fun _ => rfl) ?_
  refine P_wp_step (S' := (7, [.int (xs 1)], [.int 11, .int (xs 1)], (P_hv132 xs L))) P_i173_5 (fun _ => rfl) ?_
  refine P_wp_icf P_i173_7 hq2 (show P_wp P_Y0 197 173 (10, [.int (xs 1)], [], (P_hv132 xs L)) _ from ?_)
  refine P_wp_step (S' := (11, [.int (xs 1)], [.int (xs 1)], (P_hv132 xs L))) P_i173_10 (fun _ => rfl) ?_
  refine P_wp_call P_i173_11 rfl rfl rfl rfl rfl rfl rfl (y2 := 174) (as := [.int (xs 1)]) (r0 := []) rfl (Nat.le_of_ble_eq_true rfl) (by decide) rfl (Nat.le_of_ble_eq_true rfl) (P_x100 xs L hq3 hq4 (?_))
  show P_wp P_Y0 197 173 (14, [.int (xs 1)], [.int 0], (P_hv132 xs L)) _
  refine P_wp_izf P_i173_14 P_b19 (show P_wp P_Y0 197 173 (17, [.int (xs 1)], [], (P_hv132 xs L)) _ from ?_)
  refine P_wp_step (S' := (18, [.int (xs 1)], [.int (xs 1)], (P_hv132 xs L))) P_i173_17 (fun _ => rfl) ?_
  refine P_wp_call P_i173_18 rfl rfl rfl rfl rfl rfl rfl (y2 := 175) (as := [.int (xs 1)]) (r0 := []) rfl (Nat.le_of_ble_eq_true rfl) (by decide) rfl (Nat.le_of_ble_eq_true rfl) (P_x106 xs L hq5 hq6 (?_))
  show P_wp P_Y0 197 173 (21, [.int (xs 1)], [.int 0], (P_hv132 xs L)) _
  refine P_wp_izf P_i173_21 P_b19 (show P_wp P_Y0 197 173 (24, [.int (xs 1)], [], (P_hv132 xs L)) _ from ?_)
  refine P_wp_step (S' := (25, [.int (xs 1)], [.int (xs 1)], (P_hv132 xs L))) P_i173_24 (fun _ => rfl) ?_
  refine P_wp_call P_i173_25 rfl rfl rfl rfl rfl rfl rfl (y2 := 176) (as := [.int (xs 1)]) (r0 := []) rfl (Nat.le_of_ble_eq_true rfl) (by decide) rfl (Nat.le_of_ble_eq_true rfl) (P_x71 xs L hq7 (?_))
  show P_wp P_Y0 197 173 (28, [.int (xs 1)], [.int 0], (P_hv132 xs L)) _
  refine P_wp_izt P_i173_28 P_b27 (show P_wp P_Y0 197 173 (35, [.int (xs 1)], [], (P_hv132 xs L)) _ from ?_)
  refine P_wp_step (S' := (36, [.int (xs 1)], [.int 0], (P_hv132 xs L))) P_i173_35 (fun _ => rfl) ?_
  refine P_wp_end (x := (.inl (some (.int 0)), (P_hv132 xs L))) P_i173_36 (fun _ => rfl) ?_
  exact q

set_option maxRecDepth 20000 in
theorem P_x108 (xs : Nat → Int32) (L : Nat) (hq1 : P_cc .lt (xs 1) 0 = false) (hq2 : P_cc .le (xs 1) 11 = false) (hq3 : P_cc .lt (xs 1) 20 = false) (hq4 : P_cc .ge (xs 1) 25 = true) (hq5 : P_cc .lt (xs 1) 100 = false) (hq6 : P_cc .gt (xs 1) 199 = true) (hq7 : P_cc .lt (xs 1) 1000 = true) {Q : P_R → P_H → Prop} (q : Q (.inr 0) (P_hv134 xs L)) : P_wp P_Y0 198 142 (0, [.ref 2, .int (xs 1)], [], (P_hv132 xs L)) Q := by
  refine P_wp_step (S' := (1, [.ref 2, .int (xs 1)], [.int (xs 1)], (P_hv132 xs L))) P_i142_0 (fun _ => rfl) ?_
  refine P_wp_call P_i142_1 rfl rfl rfl rfl rfl rfl rfl (y2 := 173) (as := [.int (xs 1)]) (r0 := []) rfl (Nat.le_of_ble_eq_true rfl) (by decide) rfl (Nat.le_of_ble_eq_true rfl) (P_x107 xs L hq1 hq2 hq3 hq4 hq5 hq6 hq7 (?_))
  show P_wp P_Y0 198 142 (4, [.ref 2, .int (xs 1)], [.int 0], (P_hv132 xs L)) _
  refine P_wp_izf P_i142_4 P_b19 (show P_wp P_Y0 198 142 (7, [.ref 2, .int (xs 1)], [], (P_hv132 xs L)) _ from ?_)
  refine P_wp_end (x := (.inr 0, (P_hv134 xs L))) P_i142_7 (fun _ => rfl) ?_
  exact q

set_option maxRecDepth 20000 in
theorem P_x109 (xs : Nat → Int32) (L : Nat) (hq1 : P_cc .lt (xs 1) 0 = false) (hq2 : P_cc .le (xs 1) 11 = false) (hq3 : P_cc .lt (xs 1) 20 = false) (hq4 : P_cc .ge (xs 1) 25 = true) (hq5 : P_cc .lt (xs 1) 100 = false) (hq6 : P_cc .gt (xs 1) 199 = true) (hq7 : P_cc .lt (xs 1) 1000 = true) {Q : P_R → P_H → Prop} (q : Q (.inl (some (.int 1))) (P_hv134 xs L)) : P_wp P_Y0 199 274 (0, [.ref 2, .int (xs 1), .ref 63, P_un], [], (P_hv132 xs L)) Q := by
  refine P_wp_step (S' := (1, [.ref 2, .int (xs 1), .ref 63, P_un], [.ref 63], (P_hv132 xs L))) P_i274_0 (fun _ => rfl) ?_
  refine P_wp_step (S' := (2, [.ref 2, .int (xs 1), .ref 63, P_un], [.int 0, .ref 63], (P_hv132 xs L))) P_i274_1 (fun _ => rfl) ?_
  refine P_wp_step (S' := (3, [.ref 2, .int (xs 1), .ref 63, P_un], [.ref 2, .int 0, .ref 63], (P_hv132 xs L))) P_i274_2 (fun _ => rfl) ?_
  refine P_wp_step (S' := (4, [.ref 2, .int (xs 1), .ref 63, P_un], [.int (xs 1), .ref 2, .int 0, .ref 63], (P_hv132 xs L))) P_i274_3 (fun _ => rfl) ?_
  refine P_wp_call P_i274_4 rfl rfl rfl rfl rfl rfl rfl (y2 := 142) (as := [.ref 2, .int (xs 1)]) (r0 := [.int 0, .ref 63]) rfl (Nat.le_of_ble_eq_true rfl) (by decide) rfl (Nat.le_of_ble_eq_true rfl) (P_x108 xs L hq1 hq2 hq3 hq4 hq5 hq6 hq7 (?_))
  refine ⟨show 3 < 4 by decide, ?_⟩
  show P_wp P_Y0 199 274 (13, [.ref 2, .int (xs 1), .ref 63, P_un], [], (P_hv134 xs L)) _
  refine P_wp_step (S' := (14, [.ref 2, .int (xs 1), .ref 63, P_un], [.int 1], (P_hv134 xs L))) P_i274_13 (fun _ => rfl) ?_
  refine P_wp_end (x := (.inl (some (.int 1)), (P_hv134 xs L))) P_i274_14 (fun _ => rfl) ?_
  exact q

set_option maxRecDepth 20000 in
theorem P_x110 (xs : Nat → Int32) (L : Nat) (hq1 : P_cc .lt (xs 1) 100 = false) (hq2 : P_cc .gt (xs 1) 199 = true) {Q : P_R → P_H → Prop} (q : Q (.inl (some (.int 0))) (P_hv134 xs L)) : P_wp P_Y0 198 186 (0, [.int (xs 1), .int 100, .int 199], [], (P_hv134 xs L)) Q := by
  refine P_wp_step (S' := (1, [.int (xs 1), .int 100, .int 199], [.int (xs 1)], (P_hv134 xs L))) P_i186_0 (fun _ => rfl) ?_
  refine P_wp_step (S' := (2, [.int (xs 1), .int 100, .int 199], [.int 100, .int (xs 1)], (P_hv134 xs L))) P_i186_1 (fun _ => rfl) ?_
  refine P_wp_icf P_i186_2 hq1 (show P_wp P_Y0 198 186 (5, [.int (xs 1), .int 100, .int 199], [], (P_hv134 xs L)) _ from ?_)
  refine P_wp_step (S' := (6, [.int (xs 1), .int 100, .int 199], [.int (xs 1)], (P_hv134 xs L))) P_i186_5 (fun _ => rfl) ?_
  refine P_wp_step (S' := (7, [.int (xs 1), .int 100, .int 199], [.int 199, .int (xs 1)], (P_hv134 xs L))) P_i186_6 (fun _ => rfl) ?_
  refine P_wp_ict P_i186_7 hq2 (show P_wp P_Y0 198 186 (14, [.int (xs 1), .int 100, .int 199], [], (P_hv134 xs L)) _ from ?_)
  refine P_wp_step (S' := (15, [.int (xs 1), .int 100, .int 199], [.int 0], (P_hv134 xs L))) P_i186_14 (fun _ => rfl) ?_
  refine P_wp_end (x := (.inl (some (.int 0)), (P_hv134 xs L))) P_i186_15 (fun _ => rfl) ?_
  exact q

set_option maxRecDepth 20000 in
theorem P_x111 (xs : Nat → Int32) (L : Nat) (hq1 : P_cc .lt (xs 1) 0 = false) (hq2 : P_cc .gt (xs 1) 11 = true) (hq3 : P_cc .lt (xs 1) 20 = false) (hq4 : P_cc .gt (xs 1) 24 = true) (hq5 : P_cc .lt (xs 1) 100 = false) (hq6 : P_cc .gt (xs 1) 199 = true) (hq7 : P_cc .lt (xs 1) 1000 = true) {Q : P_R → P_H → Prop} (q : Q (.inl (some (.int 0))) (P_hv135 xs L)) : P_wp P_Y0 199 195 (0, [.ref 47, .int (xs 1)], [], (P_hv134 xs L)) Q := by
  refine P_wp_step (S' := (1, [.ref 47, .int (xs 1)], [.ref 47], (P_hv134 xs L))) P_i195_0 (fun _ => rfl) ?_
  refine P_wp_step (S' := (2, [.ref 47, .int (xs 1)], [.int 0, .ref 47], (P_hv134 xs L))) P_i195_1 (fun _ => rfl) ?_
  refine P_wp_step (S' := (5, [.ref 47, .int (xs 1)], [], (P_hv134 xs L))) P_i195_2 (fun _ => rfl) ?_
  refine P_wp_step (S' := (6, [.ref 47, .int (xs 1)], [.int (xs 1)], (P_hv134 xs L))) P_i195_5 (fun _ => rfl) ?_
  refine P_wp_step (S' := (7, [.ref 47, .int (xs 1)], [.int 0, .int (xs 1)], (P_hv134 xs L))) P_i195_6 (fun _ => rfl) ?_
  refine P_wp_step (S' := (9, [.ref 47, .int (xs 1)], [.int 11, .int 0, .int (xs 1)], (P_hv134 xs L))) P_i195_7 (fun _ => rfl) ?_
  refine P_wp_call P_i195_9 rfl rfl rfl rfl rfl rfl rfl (y2 := 186) (as := [.int (xs 1), .int 0, .int 11]) (r0 := []) rfl (Nat.le_of_ble_eq_true rfl) (by decide) rfl (Nat.le_of_ble_eq_true rfl) (P_x98 xs L hq1 hq2 (?_))
  show P_wp P_Y0 199 195 (12, [.ref 47, .int (xs 1)], [.int 0], (P_hv134 xs L)) _
  refine P_wp_izf P_i195_12 P_b19 (show P_wp P_Y0 199 195 (15, [.ref 47, .int (xs 1)], [], (P_hv134 xs L)) _ from ?_)
  refine P_wp_step (S' := (16, [.ref 47, .int (xs 1)], [.int (xs 1)], (P_hv134 xs L))) P_i195_15 (fun _ => rfl) ?_
  refine P_wp_step (S' := (18, [.ref 47, .int (xs 1)], [.int 20, .int (xs 1)], (P_hv134 xs L))) P_i195_16 (fun _ => rfl) ?_
  refine P_wp_step (S' := (20, [.ref 47, .int (xs 1)], [.int 24, .int 20, .int (xs 1)], (P_hv134 xs L))) P_i195_18 (fun _ => rfl) ?_
  refine P_wp_call P_i195_20 rfl rfl rfl rfl rfl rfl rfl (y2 := 186) (as := [.int (xs 1), .int 20, .int 24]) (r0 := []) rfl (Nat.le_of_ble_eq_true rfl) (by decide) rfl (Nat.le_of_ble_eq_true rfl) (P_x104 xs L hq3 hq4 (?_))
  show P_wp P_Y0 199 195 (23, [.ref 47, .int (xs 1)], [.int 0], (P_hv134 xs L)) _
  refine P_wp_izf P_i195_23 P_b19 (show P_wp P_Y0 199 195 (26, [.ref 47, .int (xs 1)], [], (P_hv134 xs L)) _ from ?_)
  refine P_wp_step (S' := (27, [.ref 47, .int (xs 1)], [.int (xs 1)], (P_hv134 xs L))) P_i195_26 (fun _ => rfl) ?_
  refine P_wp_step (S' := (29, [.ref 47, .int (xs 1)], [.int 100, .int (xs 1)], (P_hv134 xs L))) P_i195_27 (fun _ => rfl) ?_
  refine P_wp_step (S' := (32, [.ref 47, .int (xs 1)], [.int 199, .int 100, .int (xs 1)], (P_hv134 xs L))) P_i195_29 (fun _ => rfl) ?_
  refine P_wp_call P_i195_32 rfl rfl rfl rfl rfl rfl rfl (y2 := 186) (as := [.int (xs 1), .int 100, .int 199]) (r0 := []) rfl (Nat.le_of_ble_eq_true rfl) (by decide) rfl (Nat.le_of_ble_eq_true rfl) (P_x110 xs L hq5 hq6 (?_))
  show P_wp P_Y0 199 195 (35, [.ref 47, .int (xs 1)], [.int 0], (P_hv134 xs L)) _
  refine P_wp_izf P_i195_35 P_b19 (show P_wp P_Y0 199 195 (38, [.ref 47, .int (xs 1)], [], (P_hv134 xs L)) _ from ?_)
  refine P_wp_step (S' := (39, [.ref 47, .int (xs 1)], [.int (xs 1)], (P_hv134 xs L))) P_i195_38 (fun _ => rfl) ?_
  refine P_wp_step (S' := (42, [.ref 47, .int (xs 1)], [.int 1000, .int (xs 1)], (P_hv134 xs L))) P_i195_39 (fun _ => rfl) ?_
  refine P_wp_step (S' := (45, [.ref 47, .int (xs 1)], [.int 1999, .int 1000, .int (xs 1)], (P_hv134 xs L))) P_i195_42 (fun _ => rfl) ?_
  refine P_wp_call P_i195_45 rfl rfl rfl rfl rfl rfl rfl (y2 := 186) (as := [.int (xs 1), .int 1000, .int 1999]) (r0 := []) rfl (Nat.le_of_ble_eq_true rfl) (by decide) rfl (Nat.le_of_ble_eq_true rfl) (P_x78 xs L hq7 (?_))
  show P_wp P_Y0 199 195 (48, [.ref 47, .int (xs 1)], [.int 0], (P_hv134 xs L)) _
  refine P_wp_izf P_i195_48 P_b19 (show P_wp P_Y0 199 195 (51, [.ref 47, .int (xs 1)], [], (P_hv134 xs L)) _ from ?_)
  refine P_wp_step (S' := (52, [.ref 47, .int (xs 1)], [.ref 47], (P_hv134 xs L))) P_i195_51 (fun _ => rfl) ?_
  refine P_wp_step (S' := (53, [.ref 47, .int (xs 1)], [.int 1, .ref 47], (P_hv134 xs L))) P_i195_52 (fun _ => rfl) ?_
  refine P_wp_call P_i195_53 rfl rfl rfl rfl rfl rfl rfl (y2 := 184) (as := [.ref 47, .int 1]) (r0 := []) rfl (Nat.le_of_ble_eq_true rfl) (by decide) rfl (Nat.le_of_ble_eq_true rfl) (P_x30 xs L (?_))
  show P_wp P_Y0 199 195 (56, [.ref 47, .int (xs 1)], [.int 0], (P_hv135 xs L)) _
  refine P_wp_end (x := (.inl (some (.int 0)), (P_hv135 xs L))) P_i195_56 (fun _ => rfl) ?_
  exact q

set_option maxRecDepth 20000 in
theorem P_x112 (xs : Nat → Int32) (L : Nat) (hq1 : P_cc .lt (xs 1) 1000 = false) (hq2 : P_cc .gt (xs 1) 1999 = true) {Q : P_R → P_H → Prop} (q : Q (.inl (some (.int 0))) (P_hv132 xs L)) : P_wp P_Y0 196 176 (0, [.int (xs 1)], [], (P_hv132 xs L)) Q := by
  refine P_wp_step (S' := (1, [.int (xs 1)], [.int (xs 1)], (P_hv132 xs L))) P_i176_0 (fun _ => rfl) ?_
  refine P_wp_step (S' := (4, [.int (xs 1)], [.int 1000, .int (xs 1)], (P_hv132 xs L))) P_i176_1 (fun _ => rfl) ?_
  refine P_wp_icf P_i176_4 hq1 (show P_wp P_Y0 196 176 (7, [.int (xs 1)], [], (P_hv132 xs L)) _ from ?_)
  refine P_wp_step (S' := (8, [.int (xs 1)], [.int (xs 1)], (P_hv132 xs L))) P_i176_7 (fun _ => rfl) ?_
  refine P_wp_step (S' := (11, [.int (xs 1)], [.int 1999, .int (xs 1)], (P_hv132 xs L))) P_i176_8 (fun _ => rfl) ?_
  refine P_wp_ict P_i176_11 hq2 (show P_wp P_Y0 196 176 (18, [.int (xs 1)], [], (P_hv132 xs L)) _ from ?_)
  refine P_wp_step (S' := (19, [.int (xs 1)], [.int 0], (P_hv132 xs L))) P_i176_18 (fun _ => rfl) ?_
  refine P_wp_end (x := (.inl (some (.int 0)), (P_hv132 xs L))) P_i176_19 (fun _ => rfl) ?_
  exact q

set_option maxRecDepth 20000 in
theorem P_x113 (xs : Nat → Int32) (L : Nat) (hq1 : P_cc .lt (xs 1) 0 = false) (hq2 : P_cc .le (xs 1) 11 = false) (hq3 : P_cc .lt (xs 1) 20 = false) (hq4 : P_cc .ge (xs 1) 25 = true) (hq5 : P_cc .lt (xs 1) 100 = false) (hq6 : P_cc .gt (xs 1) 199 = true) (hq7 : P_cc .lt (xs 1) 1000 = false) (hq8 : P_cc .gt (xs 1) 1999 = true) {Q : P_R → P_H → Prop} (q : Q (.inl (some (.int 0))) (P_hv132 xs L)) : P_wp P_Y0 197 173 (0, [.int (xs 1)], [], (P_hv132 xs L)) Q := by
  refine P_wp_step (S' := (1, [.int (xs 1)], [.int (xs 1)], (P_hv132 xs L))) P_i173_0 (fun _ => rfl) ?_
  refine P_wp_izf P_i173_1 hq1 (show P_wp P_Y0 197 173 (4, [.int (xs 1)], [], (P_hv132 xs L)) _ from ?_)
  refine P_wp_step (S' := (5, [.int (xs 1)], [.int (xs 1)], (P_hv132 xs L))) P_i173_4 (fun _ => rfl) ?_
  refine P_wp_step (S' := (7, [.int (xs 1)], [.int 11, .int (xs 1)], (P_hv132 xs L))) P_i173_5 (fun _ => rfl) ?_
  refine P_wp_icf P_i173_7 hq2 (show P_wp P_Y0 197 173 (10, [.int (xs 1)], [], (P_hv132 xs L)) _ from ?_)
  refine P_wp_step (S' := (11, [.int (xs 1)], [.int (xs 1)], (P_hv132 xs L))) P_i173_10 (fun _ => rfl) ?_
  refine P_wp_call P_i173_11 rfl rfl rfl rfl rfl rfl rfl (y2 := 174) (as := [.int (xs 1)]) (r0 := []) rfl (Nat.le_of_ble_eq_true rfl) (by decide) rfl (Nat.le_of_ble_eq_true rfl) (P_x100 xs L hq3 hq4 (?_))
  show P_wp P_Y0 197 173 (14, [.int (xs 1)], [.int 0], (P_hv132 xs L)) _
  refine P_wp_izf P_i173_14 P_b19 (show P_wp P_Y0 197 173 (17, [.int (xs 1)], [], (P_hv132 xs L)) _ from ?_)
  refine P_wp_step (S' := (18, [.int (xs 1)], [.int (xs 1)], (P_hv132 xs L))) P_i173_17 (fun _ => rfl) ?_
  refine P_wp_call P_i173_18 rfl rfl rfl rfl rfl rfl rfl (y2 := 175) (as := [.int (xs 1)]) (r0 := []) rfl (Nat.le_of_ble_eq_true rfl) (by decide) rfl (Nat.le_of_ble_eq_true rfl) (P_x106 xs L hq5 hq6 (?_))
  show P_wp P_Y0 197 173 (21, [.int (xs 1)], [.int 0], (P_hv132 xs L)) _
  refine P_wp_izf P_i173_21 P_b19 (show P_wp P_Y0 197 173 (24, [.int (xs 1)], [], (P_hv132 xs L)) _ from ?_)
  refine P_wp_step (S' := (25, [.int (xs 1)], [.int (xs 1)], (P_hv132 xs L))) P_i173_24 (fun _ => rfl) ?_
  refine P_wp_call P_i173_25 rfl rfl rfl rfl rfl rfl rfl (y2 := 176) (as := [.int (xs 1)]) (r0 := []) rfl (Nat.le_of_ble_eq_true rfl) (by decide) rfl (Nat.le_of_ble_eq_true rfl) (P_x112 xs L hq7 hq8 (?_))
  show P_wp P_Y0 197 173 (28, [.int (xs 1)], [.int 0], (P_hv132 xs L)) _
  refine P_wp_izt P_i173_28 P_b27 (show P_wp P_Y0 197 173 (35, [.int (xs 1)], [], (P_hv132 xs L)) _ from ?_)
  refine P_wp_step (S' := (36, [.int (xs 1)], [.int 0], (P_hv132 xs L))) P_i173_35 (fun _ => rfl) ?_
  refine P_wp_end (x := (.inl (some (.int 0)), (P_hv132 xs L))) P_i173_36 (fun _ => rfl) ?_
  exact q

set_option maxRecDepth 20000 in
theorem P_x114 (xs : Nat → Int32) (L : Nat) (hq1 : P_cc .lt (xs 1) 0 = false) (hq2 : P_cc .le (xs 1) 11 = false) (hq3 : P_cc .lt (xs 1) 20 = false) (hq4 : P_cc .ge (xs 1) 25 = true) (hq5 : P_cc .lt (xs 1) 100 = false) (hq6 : P_cc .gt (xs 1) 199 = true) (hq7 : P_cc .lt (xs 1) 1000 = false) (hq8 : P_cc .gt (xs 1) 1999 = true) {Q : P_R → P_H → Prop} (q : Q (.inr 0) (P_hv134 xs L)) : P_wp P_Y0 198 142 (0, [.ref 2, .int (xs 1)], [], (P_hv132 xs L)) Q := by
  refine P_wp_step (S' := (1, [.ref 2, .int (xs 1)], [.int (xs 1)], (P_hv132 xs L))) P_i142_0 (fun _ => rfl) ?_
  refine P_wp_call P_i142_1 rfl rfl rfl rfl rfl rfl rfl (y2 := 173) (as := [.int (xs 1)]) (r0 := []) rfl (Nat.le_of_ble_eq_true rfl) (by decide) rfl (Nat.le_of_ble_eq_true rfl) (P_x113 xs L hq1 hq2 hq3 hq4 hq5 hq6 hq7 hq8 (?_))
  show P_wp P_Y0 198 142 (4, [.ref 2, .int (xs 1)], [.int 0], (P_hv132 xs L)) _
  refine P_wp_izf P_i142_4 P_b19 (show P_wp P_Y0 198 142 (7, [.ref 2, .int (xs 1)], [], (P_hv132 xs L)) _ from ?_)
  refine P_wp_end (x := (.inr 0, (P_hv134 xs L))) P_i142_7 (fun _ => rfl) ?_
  exact q

set_option maxRecDepth 20000 in
theorem P_x115 (xs : Nat → Int32) (L : Nat) (hq1 : P_cc .lt (xs 1) 0 = false) (hq2 : P_cc .le (xs 1) 11 = false) (hq3 : P_cc .lt (xs 1) 20 = false) (hq4 : P_cc .ge (xs 1) 25 = true) (hq5 : P_cc .lt (xs 1) 100 = false) (hq6 : P_cc .gt (xs 1) 199 = true) (hq7 : P_cc .lt (xs 1) 1000 = false) (hq8 : P_cc .gt (xs 1) 1999 = true) {Q : P_R → P_H → Prop} (q : Q (.inl (some (.int 1))) (P_hv134 xs L)) : P_wp P_Y0 199 274 (0, [.ref 2, .int (xs 1), .ref 63, P_un], [], (P_hv132 xs L)) Q := by
  refine P_wp_step (S' := (1, [.ref 2, .int (xs 1), .ref 63, P_un], [.ref 63], (P_hv132 xs L))) P_i274_0 (fun _ => rfl) ?_
  refine P_wp_step (S' := (2, [.ref 2, .int (xs 1), .ref 63, P_un], [.int 0, .ref 63], (P_hv132 xs L))) P_i274_1 (fun _ => rfl) ?_
  refine P_wp_step (S' := (3, [.ref 2, .int (xs 1), .ref 63, P_un], [.ref 2, .int 0, .ref 63], (P_hv132 xs L))) P_i274_2 (fun _ => rfl) ?_
  refine P_wp_step (S' := (4, [.ref 2, .int (xs 1), .ref 63, P_un], [.int (xs 1), .ref 2, .int 0, .ref 63], (P_hv132 xs L))) P_i274_3 (fun _ => rfl) ?_
  refine P_wp_call P_i274_4 rfl rfl rfl rfl rfl rfl rfl (y2 := 142) (as := [.ref 2, .int (xs 1)]) (r0 := [.int 0, .ref 63]) rfl (Nat.le_of_ble_eq_true rfl) (by decide) rfl (Nat.le_of_ble_eq_true rfl) (P_x114 xs L hq1 hq2 hq3 hq4 hq5 hq6 hq7 hq8 (?_))
  refine ⟨show 3 < 4 by decide, ?_⟩
  show P_wp P_Y0 199 274 (13, [.ref 2, .int (xs 1), .ref 63, P_un], [], (P_hv134 xs L)) _
  refine P_wp_step (S' := (14, [.ref 2, .int (xs 1), .ref 63, P_un], [.int 1], (P_hv134 xs L))) P_i274_13 (fun _ => rfl) ?_
  refine P_wp_end (x := (.inl (some (.int 1)), (P_hv134 xs L))) P_i274_14 (fun _ => rfl) ?_
  exact q

set_option maxRecDepth 20000 in
theorem P_x116 (xs : Nat → Int32) (L : Nat) (hq1 : P_cc .lt (xs 1) 1000 = false) (hq2 : P_cc .gt (xs 1) 1999 = true) {Q : P_R → P_H → Prop} (q : Q (.inl (some (.int 0))) (P_hv134 xs L)) : P_wp P_Y0 198 186 (0, [.int (xs 1), .int 1000, .int 1999], [], (P_hv134 xs L)) Q := by
  refine P_wp_step (S' := (1, [.int (xs 1), .int 1000, .int 1999], [.int (xs 1)], (P_hv134 xs L))) P_i186_0 (fun _ => rfl) ?_
  refine P_wp_step (S' := (2, [.int (xs 1), .int 1000, .int 1999], [.int 1000, .int (xs 1)], (P_hv134 xs L))) P_i186_1 (fun _ => rfl) ?_
  refine P_wp_icf P_i186_2 hq1 (show P_wp P_Y0 198 186 (5, [.int (xs 1), .int 1000, .int 1999], [], (P_hv134 xs L)) _ from ?_)
  refine P_wp_step (S' := (6, [.int (xs 1), .int 1000, .int 1999], [.int (xs 1)], (P_hv134 xs L))) P_i186_5 (fun _ => rfl) ?_
  refine P_wp_step (S' := (7, [.int (xs 1), .int 1000, .int 1999], [.int 1999, .int (xs 1)], (P_hv134 xs L))) P_i186_6 (fun _ => rfl) ?_
  refine P_wp_ict P_i186_7 hq2 (show P_wp P_Y0 198 186 (14, [.int (xs 1), .int 1000, .int 1999], [], (P_hv134 xs L)) _ from ?_)
  refine P_wp_step (S' := (15, [.int (xs 1), .int 1000, .int 1999], [.int 0], (P_hv134 xs L))) P_i186_14 (fun _ => rfl) ?_
  refine P_wp_end (x := (.inl (some (.int 0)), (P_hv134 xs L))) P_i186_15 (fun _ => rfl) ?_
  exact q

set_option maxRecDepth 20000 in
theorem P_x117 (xs : Nat → Int32) (L : Nat) (hq1 : P_cc .lt (xs 1) 0 = false) (hq2 : P_cc .gt (xs 1) 11 = true) (hq3 : P_cc .lt (xs 1) 20 = false) (hq4 : P_cc .gt (xs 1) 24 = true) (hq5 : P_cc .lt (xs 1) 100 = false) (hq6 : P_cc .gt (xs 1) 199 = true) (hq7 : P_cc .lt (xs 1) 1000 = false) (hq8 : P_cc .gt (xs 1) 1999 = true) {Q : P_R → P_H → Prop} (q : Q (.inl (some (.int 0))) (P_hv135 xs L)) : P_wp P_Y0 199 195 (0, [.ref 47, .int (xs 1)], [], (P_hv134 xs L)) Q := by
  refine P_wp_step (S' := (1, [.ref 47, .int (xs 1)], [.ref 47], (P_hv134 xs L))) P_i195_0 (fun _ => rfl) ?_
  refine P_wp_step (S' := (2, [.ref 47, .int (xs 1)], [.int 0, .ref 47], (P_hv134 xs L))) P_i195_1 (fun _ => rfl) ?_
  refine P_wp_step (S' := (5, [.ref 47, .int (xs 1)], [], (P_hv134 xs L))) P_i195_2 (fun _ => rfl) ?_
  refine P_wp_step (S' := (6, [.ref 47, .int (xs 1)], [.int (xs 1)], (P_hv134 xs L))) P_i195_5 (fun _ => rfl) ?_
  refine P_wp_step (S' := (7, [.ref 47, .int (xs 1)], [.int 0, .int (xs 1)], (P_hv134 xs L))) P_i195_6 (fun _ => rfl) ?_
  refine P_wp_step (S' := (9, [.ref 47, .int (xs 1)], [.int 11, .int 0, .int (xs 1)], (P_hv134 xs L))) P_i195_7 (fun _ => rfl) ?_
  refine P_wp_call P_i195_9 rfl rfl rfl rfl rfl rfl rfl (y2 := 186) (as := [.int (xs 1), .int 0, .int 11]) (r0 := []) rfl (Nat.le_of_ble_eq_true rfl) (by decide) rfl (Nat.le_of_ble_eq_true rfl) (P_x98 xs L hq1 hq2 (?_))
  show P_wp P_Y0 199 195 (12, [.ref 47, .int (xs 1)], [.int 0], (P_hv134 xs L)) _
  refine P_wp_izf P_i195_12 P_b19 (show P_wp P_Y0 199 195 (15, [.ref 47, .int (xs 1)], [], (P_hv134 xs L)) _ from ?_)
  refine P_wp_step (S' := (16, [.ref 47, .int (xs 1)], [.int (xs 1)], (P_hv134 xs L))) P_i195_15 (fun _ => rfl) ?_
  refine P_wp_step (S' := (18, [.ref 47, .int (xs 1)], [.int 20, .int (xs 1)], (P_hv134 xs L))) P_i195_16 (fun _ => rfl) ?_
  refine P_wp_step (S' := (20, [.ref 47, .int (xs 1)], [.int 24, .int 20, .int (xs 1)], (P_hv134 xs L))) P_i195_18 (fun _ => rfl) ?_
  refine P_wp_call P_i195_20 rfl rfl rfl rfl rfl rfl rfl (y2 := 186) (as := [.int (xs 1), .int 20, .int 24]) (r0 := []) rfl (Nat.le_of_ble_eq_true rfl) (by decide) rfl (Nat.le_of_ble_eq_true rfl) (P_x104 xs L hq3 hq4 (?_))
  show P_wp P_Y0 199 195 (23, [.ref 47, .int (xs 1)], [.int 0], (P_hv134 xs L)) _
  refine P_wp_izf P_i195_23 P_b19 (show P_wp P_Y0 199 195 (26, [.ref 47, .int (xs 1)], [], (P_hv134 xs L)) _ from ?_)
  refine P_wp_step (S' := (27, [.ref 47, .int (xs 1)], [.int (xs 1)], (P_hv134 xs L))) P_i195_26 (fun _ => rfl) ?_
  refine P_wp_step (S' := (29, [.ref 47, .int (xs 1)], [.int 100, .int (xs 1)], (P_hv134 xs L))) P_i195_27 (fun _ => rfl) ?_
  refine P_wp_step (S' := (32, [.ref 47, .int (xs 1)], [.int 199, .int 100, .int (xs 1)], (P_hv134 xs L))) P_i195_29 (fun _ => rfl) ?_
  refine P_wp_call P_i195_32 rfl rfl rfl rfl rfl rfl rfl (y2 := 186) (as := [.int (xs 1), .int 100, .int 199]) (r0 := []) rfl (Nat.le_of_ble_eq_true rfl) (by decide) rfl (Nat.le_of_ble_eq_true rfl) (P_x110 xs L hq5 hq6 (?_))
  show P_wp P_Y0 199 195 (35, [.ref 47, .int (xs 1)], [.int 0], (P_hv134 xs L)) _
  refine P_wp_izf P_i195_35 P_b19 (show P_wp P_Y0 199 195 (38, [.ref 47, .int (xs 1)], [], (P_hv134 xs L)) _ from ?_)
  refine P_wp_step (S' := (39, [.ref 47, .int (xs 1)], [.int (xs 1)], (P_hv134 xs L))) P_i195_38 (fun _ => rfl) ?_
  refine P_wp_step (S' := (42, [.ref 47, .int (xs 1)], [.int 1000, .int (xs 1)], (P_hv134 xs L))) P_i195_39 (fun _ => rfl) ?_
  refine P_wp_step (S' := (45, [.ref 47, .int (xs 1)], [.int 1999, .int 1000, .int (xs 1)], (P_hv134 xs L))) P_i195_42 (fun _ => rfl) ?_
  refine P_wp_call P_i195_45 rfl rfl rfl rfl rfl rfl rfl (y2 := 186) (as := [.int (xs 1), .int 1000, .int 1999]) (r0 := []) rfl (Nat.le_of_ble_eq_true rfl) (by decide) rfl (Nat.le_of_ble_eq_true rfl) (P_x116 xs L hq7 hq8 (?_))
  show P_wp P_Y0 199 195 (48, [.ref 47, .int (xs 1)], [.int 0], (P_hv134 xs L)) _
  refine P_wp_izf P_i195_48 P_b19 (show P_wp P_Y0 199 195 (51, [.ref 47, .int (xs 1)], [], (P_hv134 xs L)) _ from ?_)
  refine P_wp_step (S' := (52, [.ref 47, .int (xs 1)], [.ref 47], (P_hv134 xs L))) P_i195_51 (fun _ => rfl) ?_
  refine P_wp_step (S' := (53, [.ref 47, .int (xs 1)], [.int 1, .ref 47], (P_hv134 xs L))) P_i195_52 (fun _ => rfl) ?_
  refine P_wp_call P_i195_53 rfl rfl rfl rfl rfl rfl rfl (y2 := 184) (as := [.ref 47, .int 1]) (r0 := []) rfl (Nat.le_of_ble_eq_true rfl) (by decide) rfl (Nat.le_of_ble_eq_true rfl) (P_x30 xs L (?_))
  show P_wp P_Y0 199 195 (56, [.ref 47, .int (xs 1)], [.int 0], (P_hv135 xs L)) _
  refine P_wp_end (x := (.inl (some (.int 0)), (P_hv135 xs L))) P_i195_56 (fun _ => rfl) ?_
  exact q

set_option maxRecDepth 20000 in
theorem P_x118 (xs : Nat → Int32) (L : Nat) (hq1 : P_cc .lt (xs 1) 1000 = false) (hq2 : P_cc .gt (xs 1) 1999 = false) {Q : P_R → P_H → Prop} (q : Q (.inl (some (.int 1))) (P_hv132 xs L)) : P_wp P_Y0 196 176 (0, [.int (xs 1)], [], (P_hv132 xs L)) Q := by
  refine P_wp_step (S' := (1, [.int (xs 1)], [.int (xs 1)], (P_hv132 xs L))) P_i176_0 (fun _ => rfl) ?_
  refine P_wp_step (S' := (4, [.int (xs 1)], [.int 1000, .int (xs 1)], (P_hv132 xs L))) P_i176_1 (fun _ => rfl) ?_
  refine P_wp_icf P_i176_4 hq1 (show P_wp P_Y0 196 176 (7, [.int (xs 1)], [], (P_hv132 xs L)) _ from ?_)
  refine P_wp_step (S' := (8, [.int (xs 1)], [.int (xs 1)], (P_hv132 xs L))) P_i176_7 (fun _ => rfl) ?_
  refine P_wp_step (S' := (11, [.int (xs 1)], [.int 1999, .int (xs 1)], (P_hv132 xs L))) P_i176_8 (fun _ => rfl) ?_
  refine P_wp_icf P_i176_11 hq2 (show P_wp P_Y0 196 176 (14, [.int (xs 1)], [], (P_hv132 xs L)) _ from ?_)
  refine P_wp_step (S' := (15, [.int (xs 1)], [.int 1], (P_hv132 xs L))) P_i176_14 (fun _ => rfl) ?_
  refine P_wp_step (S' := (19, [.int (xs 1)], [.int 1], (P_hv132 xs L))) P_i176_15 (fun _ => rfl) ?_
  refine P_wp_end (x := (.inl (some (.int 1)), (P_hv132 xs L))) P_i176_19 (fun _ => rfl) ?_
  exact q

set_option maxRecDepth 20000 in
theorem P_x119 (xs : Nat → Int32) (L : Nat) (hq1 : P_cc .lt (xs 1) 0 = false) (hq2 : P_cc .le (xs 1) 11 = false) (hq3 : P_cc .lt (xs 1) 20 = false) (hq4 : P_cc .ge (xs 1) 25 = true) (hq5 : P_cc .lt (xs 1) 100 = false) (hq6 : P_cc .gt (xs 1) 199 = true) (hq7 : P_cc .lt (xs 1) 1000 = false) (hq8 : P_cc .gt (xs 1) 1999 = false) {Q : P_R → P_H → Prop} (q : Q (.inl (some (.int 1))) (P_hv132 xs L)) : P_wp P_Y0 197 173 (0, [.int (xs 1)], [], (P_hv132 xs L)) Q := by
  refine P_wp_step (S' := (1, [.int (xs 1)], [.int (xs 1)], (P_hv132 xs L))) P_i173_0 (fun _ => rfl) ?_
  refine P_wp_izf P_i173_1 hq1 (show P_wp P_Y0 197 173 (4, [.int (xs 1)], [], (P_hv132 xs L)) _ from ?_)
  refine P_wp_step (S' := (5, [.int (xs 1)], [.int (xs 1)], (P_hv132 xs L))) P_i173_4 (fun _ => rfl) ?_
  refine P_wp_step (S' := (7, [.int (xs 1)], [.int 11, .int (xs 1)], (P_hv132 xs L))) P_i173_5 (fun _ => rfl) ?_
  refine P_wp_icf P_i173_7 hq2 (show P_wp P_Y0 197 173 (10, [.int (xs 1)], [], (P_hv132 xs L)) _ from ?_)
  refine P_wp_step (S' := (11, [.int (xs 1)], [.int (xs 1)], (P_hv132 xs L))) P_i173_10 (fun _ => rfl) ?_
  refine P_wp_call P_i173_11 rfl rfl rfl rfl rfl rfl rfl (y2 := 174) (as := [.int (xs 1)]) (r0 := []) rfl (Nat.le_of_ble_eq_true rfl) (by decide) rfl (Nat.le_of_ble_eq_true rfl) (P_x100 xs L hq3 hq4 (?_))
  show P_wp P_Y0 197 173 (14, [.int (xs 1)], [.int 0], (P_hv132 xs L)) _
  refine P_wp_izf P_i173_14 P_b19 (show P_wp P_Y0 197 173 (17, [.int (xs 1)], [], (P_hv132 xs L)) _ from ?_)
  refine P_wp_step (S' := (18, [.int (xs 1)], [.int (xs 1)], (P_hv132 xs L))) P_i173_17 (fun _ => rfl) ?_
  refine P_wp_call P_i173_18 rfl rfl rfl rfl rfl rfl rfl (y2 := 175) (as := [.int (xs 1)]) (r0 := []) rfl (Nat.le_of_ble_eq_true rfl) (by decide) rfl (Nat.le_of_ble_eq_true rfl) (P_x106 xs L hq5 hq6 (?_))
  show P_wp P_Y0 197 173 (21, [.int (xs 1)], [.int 0], (P_hv132 xs L)) _
  refine P_wp_izf P_i173_21 P_b19 (show P_wp P_Y0 197 173 (24, [.int (xs 1)], [], (P_hv132 xs L)) _ from ?_)
  refine P_wp_step (S' := (25, [.int (xs 1)], [.int (xs 1)], (P_hv132 xs L))) P_i173_24 (fun _ => rfl) ?_
  refine P_wp_call P_i173_25 rfl rfl rfl rfl rfl rfl rfl (y2 := 176) (as := [.int (xs 1)]) (r0 := []) rfl (Nat.le_of_ble_eq_true rfl) (by decide) rfl (Nat.le_of_ble_eq_true rfl) (P_x118 xs L hq7 hq8 (?_))
  show P_wp P_Y0 197 173 (28, [.int (xs 1)], [.int 1], (P_hv132 xs L)) _
  refine P_wp_izf P_i173_28 P_b31 (show P_wp P_Y0 197 173 (31, [.int (xs 1)], [], (P_hv132 xs L)) _ from ?_)
  refine P_wp_step (S' := (32, [.int (xs 1)], [.int 1], (P_hv132 xs L))) P_i173_31 (fun _ => rfl) ?_
  refine P_wp_step (S' := (36, [.int (xs 1)], [.int 1], (P_hv132 xs L))) P_i173_32 (fun _ => rfl) ?_
  refine P_wp_end (x := (.inl (some (.int 1)), (P_hv132 xs L))) P_i173_36 (fun _ => rfl) ?_
  exact q

set_option maxRecDepth 20000 in
theorem P_x120 (xs : Nat → Int32) (L : Nat) (hq1 : P_cc .lt (xs 1) 0 = false) (hq2 : P_cc .le (xs 1) 11 = false) (hq3 : P_cc .lt (xs 1) 20 = false) (hq4 : P_cc .ge (xs 1) 25 = true) (hq5 : P_cc .lt (xs 1) 100 = false) (hq6 : P_cc .gt (xs 1) 199 = true) (hq7 : P_cc .lt (xs 1) 1000 = false) (hq8 : P_cc .gt (xs 1) 1999 = false) {Q : P_R → P_H → Prop} (q : Q (.inl (some (.int 1))) (P_hv148 xs L)) : P_wp P_Y0 198 142 (0, [.ref 2, .int (xs 1)], [], (P_hv132 xs L)) Q := by
  refine P_wp_step (S' := (1, [.ref 2, .int (xs 1)], [.int (xs 1)], (P_hv132 xs L))) P_i142_0 (fun _ => rfl) ?_
  refine P_wp_call P_i142_1 rfl rfl rfl rfl rfl rfl rfl (y2 := 173) (as := [.int (xs 1)]) (r0 := []) rfl (Nat.le_of_ble_eq_true rfl) (by decide) rfl (Nat.le_of_ble_eq_true rfl) (P_x119 xs L hq1 hq2 hq3 hq4 hq5 hq6 hq7 hq8 (?_))
  show P_wp P_Y0 198 142 (4, [.ref 2, .int (xs 1)], [.int 1], (P_hv132 xs L)) _
  refine P_wp_izt P_i142_4 P_b21 (show P_wp P_Y0 198 142 (17, [.ref 2, .int (xs 1)], [], (P_hv132 xs L)) _ from ?_)
  refine P_wp_step (S' := (18, [.ref 2, .int (xs 1)], [.ref 2], (P_hv132 xs L))) P_i142_17 (fun _ => rfl) ?_
  refine P_wp_step (S' := (21, [.ref 2, .int (xs 1)], [.ref 31], (P_hv132 xs L))) P_i142_18 (fun _ => rfl) ?_
  refine P_wp_call P_i142_21 rfl rfl rfl rfl rfl rfl rfl (y2 := 91) (as := [.ref 31]) (r0 := []) rfl (Nat.le_of_ble_eq_true rfl) (by decide) rfl (Nat.le_of_ble_eq_true rfl) (P_x81 xs L (?_))
  show P_wp P_Y0 198 142 (24, [.ref 2, .int (xs 1)], [.int 0], (P_hv132 xs L)) _
  refine P_wp_step (S' := (26, [.ref 2, .int (xs 1)], [.int 40, .int 0], (P_hv132 xs L))) P_i142_24 (fun _ => rfl) ?_
  refine P_wp_ict P_i142_26 P_b28 (show P_wp P_Y0 198 142 (39, [.ref 2, .int (xs 1)], [], (P_hv132 xs L)) _ from ?_)
  refine P_wp_step (S' := (40, [.ref 2, .int (xs 1)], [.ref 2], (P_hv132 xs L))) P_i142_39 (fun _ => rfl) ?_
  refine P_wp_step (S' := (43, [.ref 2, .int (xs 1)], [.ref 31], (P_hv132 xs L))) P_i142_40 (fun _ => rfl) ?_
  refine P_wp_step (S' := (44, [.ref 2, .int (xs 1)], [.int (xs 1), .ref 31], (P_hv132 xs L))) P_i142_43 (fun _ => rfl) ?_
  refine P_wp_call P_i142_44 rfl rfl rfl rfl rfl rfl rfl (y2 := 94) (as := [.ref 31, .int (xs 1)]) (r0 := []) rfl (Nat.le_of_ble_eq_true rfl) (by decide) rfl (Nat.le_of_ble_eq_true rfl) (P_x84 xs L (?_))
  show P_wp P_Y0 198 142 (47, [.ref 2, .int (xs 1)], [], (P_hv148 xs L)) _
  refine P_wp_step (S' := (48, [.ref 2, .int (xs 1)], [.ref 2], (P_hv148 xs L))) P_i142_47 (fun _ => rfl) ?_
  refine P_wp_call P_i142_48 rfl rfl rfl rfl rfl rfl rfl (y2 := 170) (as := [.ref 2]) (r0 := []) rfl (Nat.le_of_ble_eq_true rfl) (by decide) rfl (Nat.le_of_ble_eq_true rfl) (P_x87 xs L (?_))
  show P_wp P_Y0 198 142 (51, [.ref 2, .int (xs 1)], [], (P_hv148 xs L)) _
  refine P_wp_step (S' := (52, [.ref 2, .int (xs 1)], [.ref 2], (P_hv148 xs L))) P_i142_51 (fun _ => rfl) ?_
  refine P_wp_step (S' := (55, [.ref 2, .int (xs 1)], [.ref 31], (P_hv148 xs L))) P_i142_52 (fun _ => rfl) ?_
  refine P_wp_call P_i142_55 rfl rfl rfl rfl rfl rfl rfl (y2 := 91) (as := [.ref 31]) (r0 := []) rfl (Nat.le_of_ble_eq_true rfl) (by decide) rfl (Nat.le_of_ble_eq_true rfl) (P_x88 xs L (?_))
  show P_wp P_Y0 198 142 (58, [.ref 2, .int (xs 1)], [.int 1], (P_hv148 xs L)) _
  refine P_wp_end (x := (.inl (some (.int 1)), (P_hv148 xs L))) P_i142_58 (fun _ => rfl) ?_
  exact q

set_option maxRecDepth 20000 in
theorem P_x121 (xs : Nat → Int32) (L : Nat) (hq1 : P_cc .lt (xs 1) 0 = false) (hq2 : P_cc .le (xs 1) 11 = false) (hq3 : P_cc .lt (xs 1) 20 = false) (hq4 : P_cc .ge (xs 1) 25 = true) (hq5 : P_cc .lt (xs 1) 100 = false) (hq6 : P_cc .gt (xs 1) 199 = true) (hq7 : P_cc .lt (xs 1) 1000 = false) (hq8 : P_cc .gt (xs 1) 1999 = false) {Q : P_R → P_H → Prop} (q : Q (.inl (some (.int 0))) (P_hv149 xs L)) : P_wp P_Y0 199 274 (0, [.ref 2, .int (xs 1), .ref 63, P_un], [], (P_hv132 xs L)) Q := by
  refine P_wp_step (S' := (1, [.ref 2, .int (xs 1), .ref 63, P_un], [.ref 63], (P_hv132 xs L))) P_i274_0 (fun _ => rfl) ?_
  refine P_wp_step (S' := (2, [.ref 2, .int (xs 1), .ref 63, P_un], [.int 0, .ref 63], (P_hv132 xs L))) P_i274_1 (fun _ => rfl) ?_
  refine P_wp_step (S' := (3, [.ref 2, .int (xs 1), .ref 63, P_un], [.ref 2, .int 0, .ref 63], (P_hv132 xs L))) P_i274_2 (fun _ => rfl) ?_
  refine P_wp_step (S' := (4, [.ref 2, .int (xs 1), .ref 63, P_un], [.int (xs 1), .ref 2, .int 0, .ref 63], (P_hv132 xs L))) P_i274_3 (fun _ => rfl) ?_
  refine P_wp_call P_i274_4 rfl rfl rfl rfl rfl rfl rfl (y2 := 142) (as := [.ref 2, .int (xs 1)]) (r0 := [.int 0, .ref 63]) rfl (Nat.le_of_ble_eq_true rfl) (by decide) rfl (Nat.le_of_ble_eq_true rfl) (P_x120 xs L hq1 hq2 hq3 hq4 hq5 hq6 hq7 hq8 (?_))
  show P_wp P_Y0 199 274 (7, [.ref 2, .int (xs 1), .ref 63, P_un], [.int 1, .int 0, .ref 63], (P_hv148 xs L)) _
  refine P_wp_step (S' := (8, [.ref 2, .int (xs 1), .ref 63, P_un], [.long 1, .int 0, .ref 63], (P_hv148 xs L))) P_i274_7 (fun _ => rfl) ?_
  refine P_wp_step (S' := (9, [.ref 2, .int (xs 1), .ref 63, P_un], [], (P_hv149 xs L))) P_i274_8 (fun _ => rfl) ?_
  refine P_wp_step (S' := (18, [.ref 2, .int (xs 1), .ref 63, P_un], [], (P_hv149 xs L))) P_i274_9 (fun _ => rfl) ?_
  refine P_wp_step (S' := (19, [.ref 2, .int (xs 1), .ref 63, P_un], [.int 0], (P_hv149 xs L))) P_i274_18 (fun _ => rfl) ?_
  refine P_wp_end (x := (.inl (some (.int 0)), (P_hv149 xs L))) P_i274_19 (fun _ => rfl) ?_
  exact q

set_option maxRecDepth 20000 in
theorem P_x122 (xs : Nat → Int32) (L : Nat) (hq1 : P_cc .lt (xs 1) 0 = false) (hq2 : P_cc .gt (xs 1) 11 = true) {Q : P_R → P_H → Prop} (q : Q (.inl (some (.int 0))) (P_hv149 xs L)) : P_wp P_Y0 198 186 (0, [.int (xs 1), .int 0, .int 11], [], (P_hv149 xs L)) Q := by
  refine P_wp_step (S' := (1, [.int (xs 1), .int 0, .int 11], [.int (xs 1)], (P_hv149 xs L))) P_i186_0 (fun _ => rfl) ?_
  refine P_wp_step (S' := (2, [.int (xs 1), .int 0, .int 11], [.int 0, .int (xs 1)], (P_hv149 xs L))) P_i186_1 (fun _ => rfl) ?_
  refine P_wp_icf P_i186_2 hq1 (show P_wp P_Y0 198 186 (5, [.int (xs 1), .int 0, .int 11], [], (P_hv149 xs L)) _ from ?_)
  refine P_wp_step (S' := (6, [.int (xs 1), .int 0, .int 11], [.int (xs 1)], (P_hv149 xs L))) P_i186_5 (fun _ => rfl) ?_
  refine P_wp_step (S' := (7, [.int (xs 1), .int 0, .int 11], [.int 11, .int (xs 1)], (P_hv149 xs L))) P_i186_6 (fun _ => rfl) ?_
  refine P_wp_ict P_i186_7 hq2 (show P_wp P_Y0 198 186 (14, [.int (xs 1), .int 0, .int 11], [], (P_hv149 xs L)) _ from ?_)
  refine P_wp_step (S' := (15, [.int (xs 1), .int 0, .int 11], [.int 0], (P_hv149 xs L))) P_i186_14 (fun _ => rfl) ?_
  refine P_wp_end (x := (.inl (some (.int 0)), (P_hv149 xs L))) P_i186_15 (fun _ => rfl) ?_
  exact q

set_option maxRecDepth 20000 in
theorem P_x123 (xs : Nat → Int32) (L : Nat) (hq1 : P_cc .lt (xs 1) 20 = false) (hq2 : P_cc .gt (xs 1) 24 = true) {Q : P_R → P_H → Prop} (q : Q (.inl (some (.int 0))) (P_hv149 xs L)) : P_wp P_Y0 198 186 (0, [.int (xs 1), .int 20, .int 24], [], (P_hv149 xs L)) Q := by
  refine P_wp_step (S' := (1, [.int (xs 1), .int 20, .int 24], [.int (xs 1)], (P_hv149 xs L))) P_i186_0 (fun _ => rfl) ?_
  refine P_wp_step (S' := (2, [.int (xs 1), .int 20, .int 24], [.int 20, .int (xs 1)], (P_hv149 xs L))) P_i186_1 (fun _ => rfl) ?_
  refine P_wp_icf P_i186_2 hq1 (show P_wp P_Y0 198 186 (5, [.int (xs 1), .int 20, .int 24], [], (P_hv149 xs L)) _ from ?_)
  refine P_wp_step (S' := (6, [.int (xs 1), .int 20, .int 24], [.int (xs 1)], (P_hv149 xs L))) P_i186_5 (fun _ => rfl) ?_
  refine P_wp_step (S' := (7, [.int (xs 1), .int 20, .int 24], [.int 24, .int (xs 1)], (P_hv149 xs L))) P_i186_6 (fun _ => rfl) ?_
  refine P_wp_ict P_i186_7 hq2 (show P_wp P_Y0 198 186 (14, [.int (xs 1), .int 20, .int 24], [], (P_hv149 xs L)) _ from ?_)
  refine P_wp_step (S' := (15, [.int (xs 1), .int 20, .int 24], [.int 0], (P_hv149 xs L))) P_i186_14 (fun _ => rfl) ?_
  refine P_wp_end (x := (.inl (some (.int 0)), (P_hv149 xs L))) P_i186_15 (fun _ => rfl) ?_
  exact q

set_option maxRecDepth 20000 in
theorem P_x124 (xs : Nat → Int32) (L : Nat) (hq1 : P_cc .lt (xs 1) 100 = false) (hq2 : P_cc .gt (xs 1) 199 = true) {Q : P_R → P_H → Prop} (q : Q (.inl (some (.int 0))) (P_hv149 xs L)) : P_wp P_Y0 198 186 (0, [.int (xs 1), .int 100, .int 199], [], (P_hv149 xs L)) Q := by
  refine P_wp_step (S' := (1, [.int (xs 1), .int 100, .int 199], [.int (xs 1)], (P_hv149 xs L))) P_i186_0 (fun _ => rfl) ?_
  refine P_wp_step (S' := (2, [.int (xs 1), .int 100, .int 199], [.int 100, .int (xs 1)], (P_hv149 xs L))) P_i186_1 (fun _ => rfl) ?_
  refine P_wp_icf P_i186_2 hq1 (show P_wp P_Y0 198 186 (5, [.int (xs 1), .int 100, .int 199], [], (P_hv149 xs L)) _ from ?_)
  refine P_wp_step (S' := (6, [.int (xs 1), .int 100, .int 199], [.int (xs 1)], (P_hv149 xs L))) P_i186_5 (fun _ => rfl) ?_
  refine P_wp_step (S' := (7, [.int (xs 1), .int 100, .int 199], [.int 199, .int (xs 1)], (P_hv149 xs L))) P_i186_6 (fun _ => rfl) ?_
  refine P_wp_ict P_i186_7 hq2 (show P_wp P_Y0 198 186 (14, [.int (xs 1), .int 100, .int 199], [], (P_hv149 xs L)) _ from ?_)
  refine P_wp_step (S' := (15, [.int (xs 1), .int 100, .int 199], [.int 0], (P_hv149 xs L))) P_i186_14 (fun _ => rfl) ?_
  refine P_wp_end (x := (.inl (some (.int 0)), (P_hv149 xs L))) P_i186_15 (fun _ => rfl) ?_
  exact q

set_option maxRecDepth 20000 in
theorem P_x125 (xs : Nat → Int32) (L : Nat) (hq1 : P_cc .lt (xs 1) 1000 = false) (hq2 : P_cc .gt (xs 1) 1999 = false) {Q : P_R → P_H → Prop} (q : Q (.inl (some (.int 1))) (P_hv149 xs L)) : P_wp P_Y0 198 186 (0, [.int (xs 1), .int 1000, .int 1999], [], (P_hv149 xs L)) Q := by
  refine P_wp_step (S' := (1, [.int (xs 1), .int 1000, .int 1999], [.int (xs 1)], (P_hv149 xs L))) P_i186_0 (fun _ => rfl) ?_
  refine P_wp_step (S' := (2, [.int (xs 1), .int 1000, .int 1999], [.int 1000, .int (xs 1)], (P_hv149 xs L))) P_i186_1 (fun _ => rfl) ?_
  refine P_wp_icf P_i186_2 hq1 (show P_wp P_Y0 198 186 (5, [.int (xs 1), .int 1000, .int 1999], [], (P_hv149 xs L)) _ from ?_)
  refine P_wp_step (S' := (6, [.int (xs 1), .int 1000, .int 1999], [.int (xs 1)], (P_hv149 xs L))) P_i186_5 (fun _ => rfl) ?_
  refine P_wp_step (S' := (7, [.int (xs 1), .int 1000, .int 1999], [.int 1999, .int (xs 1)], (P_hv149 xs L))) P_i186_6 (fun _ => rfl) ?_
  refine P_wp_icf P_i186_7 hq2 (show P_wp P_Y0 198 186 (10, [.int (xs 1), .int 1000, .int 1999], [], (P_hv149 xs L)) _ from ?_)
  refine P_wp_step (S' := (11, [.int (xs 1), .int 1000, .int 1999], [.int 1], (P_hv149 xs L))) P_i186_10 (fun _ => rfl) ?_
  refine P_wp_step (S' := (15, [.int (xs 1), .int 1000, .int 1999], [.int 1], (P_hv149 xs L))) P_i186_11 (fun _ => rfl) ?_
  refine P_wp_end (x := (.inl (some (.int 1)), (P_hv149 xs L))) P_i186_15 (fun _ => rfl) ?_
  exact q

set_option maxRecDepth 20000 in
theorem P_x126 (xs : Nat → Int32) (L : Nat) (hq1 : P_cc .lt (xs 1) 0 = false) (hq2 : P_cc .gt (xs 1) 11 = true) (hq3 : P_cc .lt (xs 1) 20 = false) (hq4 : P_cc .gt (xs 1) 24 = true) (hq5 : P_cc .lt (xs 1) 100 = false) (hq6 : P_cc .gt (xs 1) 199 = true) (hq7 : P_cc .lt (xs 1) 1000 = false) (hq8 : P_cc .gt (xs 1) 1999 = false) {Q : P_R → P_H → Prop} (q : Q (.inl (some (.int 1))) (P_hv151 xs L)) : P_wp P_Y0 199 195 (0, [.ref 47, .int (xs 1)], [], (P_hv149 xs L)) Q := by
  refine P_wp_step (S' := (1, [.ref 47, .int (xs 1)], [.ref 47], (P_hv149 xs L))) P_i195_0 (fun _ => rfl) ?_
  refine P_wp_step (S' := (2, [.ref 47, .int (xs 1)], [.int 0, .ref 47], (P_hv149 xs L))) P_i195_1 (fun _ => rfl) ?_
  refine P_wp_step (S' := (5, [.ref 47, .int (xs 1)], [], (P_hv149 xs L))) P_i195_2 (fun _ => rfl) ?_
  refine P_wp_step (S' := (6, [.ref 47, .int (xs 1)], [.int (xs 1)], (P_hv149 xs L))) P_i195_5 (fun _ => rfl) ?_
  refine P_wp_step (S' := (7, [.ref 47, .int (xs 1)], [.int 0, .int (xs 1)], (P_hv149 xs L))) P_i195_6 (fun _ => rfl) ?_
  refine P_wp_step (S' := (9, [.ref 47, .int (xs 1)], [.int 11, .int 0, .int (xs 1)], (P_hv149 xs L))) P_i195_7 (fun _ => rfl) ?_
  refine P_wp_call P_i195_9 rfl rfl rfl rfl rfl rfl rfl (y2 := 186) (as := [.int (xs 1), .int 0, .int 11]) (r0 := []) rfl (Nat.le_of_ble_eq_true rfl) (by decide) rfl (Nat.le_of_ble_eq_true rfl) (P_x122 xs L hq1 hq2 (?_))
  show P_wp P_Y0 199 195 (12, [.ref 47, .int (xs 1)], [.int 0], (P_hv149 xs L)) _
  refine P_wp_izf P_i195_12 P_b19 (show P_wp P_Y0 199 195 (15, [.ref 47, .int (xs 1)], [], (P_hv149 xs L)) _ from ?_)
  refine P_wp_step (S' := (16, [.ref 47, .int (xs 1)], [.int (xs 1)], (P_hv149 xs L))) P_i195_15 (fun _ => rfl) ?_
  refine P_wp_step (S' := (18, [.ref 47, .int (xs 1)], [.int 20, .int (xs 1)], (P_hv149 xs L))) P_i195_16 (fun _ => rfl) ?_
  refine P_wp_step (S' := (20, [.ref 47, .int (xs 1)], [.int 24, .int 20, .int (xs 1)], (P_hv149 xs L))) P_i195_18 (fun _ => rfl) ?_
  refine P_wp_call P_i195_20 rfl rfl rfl rfl rfl rfl rfl (y2 := 186) (as := [.int (xs 1), .int 20, .int 24]) (r0 := []) rfl (Nat.le_of_ble_eq_true rfl) (by decide) rfl (Nat.le_of_ble_eq_true rfl) (P_x123 xs L hq3 hq4 (?_))
  show P_wp P_Y0 199 195 (23, [.ref 47, .int (xs 1)], [.int 0], (P_hv149 xs L)) _
  refine P_wp_izf P_i195_23 P_b19 (show P_wp P_Y0 199 195 (26, [.ref 47, .int (xs 1)], [], (P_hv149 xs L)) _ from ?_)
  refine P_wp_step (S' := (27, [.ref 47, .int (xs 1)], [.int (xs 1)], (P_hv149 xs L))) P_i195_26 (fun _ => rfl) ?_
  refine P_wp_step (S' := (29, [.ref 47, .int (xs 1)], [.int 100, .int (xs 1)], (P_hv149 xs L))) P_i195_27 (fun _ => rfl) ?_
  refine P_wp_step (S' := (32, [.ref 47, .int (xs 1)], [.int 199, .int 100, .int (xs 1)], (P_hv149 xs L))) P_i195_29 (fun _ => rfl) ?_
  refine P_wp_call P_i195_32 rfl rfl rfl rfl rfl rfl rfl (y2 := 186) (as := [.int (xs 1), .int 100, .int 199]) (r0 := []) rfl (Nat.le_of_ble_eq_true rfl) (by decide) rfl (Nat.le_of_ble_eq_true rfl) (P_x124 xs L hq5 hq6 (?_))
  show P_wp P_Y0 199 195 (35, [.ref 47, .int (xs 1)], [.int 0], (P_hv149 xs L)) _
  refine P_wp_izf P_i195_35 P_b19 (show P_wp P_Y0 199 195 (38, [.ref 47, .int (xs 1)], [], (P_hv149 xs L)) _ from ?_)
  refine P_wp_step (S' := (39, [.ref 47, .int (xs 1)], [.int (xs 1)], (P_hv149 xs L))) P_i195_38 (fun _ => rfl) ?_
  refine P_wp_step (S' := (42, [.ref 47, .int (xs 1)], [.int 1000, .int (xs 1)], (P_hv149 xs L))) P_i195_39 (fun _ => rfl) ?_
  refine P_wp_step (S' := (45, [.ref 47, .int (xs 1)], [.int 1999, .int 1000, .int (xs 1)], (P_hv149 xs L))) P_i195_42 (fun _ => rfl) ?_
  refine P_wp_call P_i195_45 rfl rfl rfl rfl rfl rfl rfl (y2 := 186) (as := [.int (xs 1), .int 1000, .int 1999]) (r0 := []) rfl (Nat.le_of_ble_eq_true rfl) (by decide) rfl (Nat.le_of_ble_eq_true rfl) (P_x125 xs L hq7 hq8 (?_))
  show P_wp P_Y0 199 195 (48, [.ref 47, .int (xs 1)], [.int 1], (P_hv149 xs L)) _
  refine P_wp_izt P_i195_48 P_b21 (show P_wp P_Y0 199 195 (57, [.ref 47, .int (xs 1)], [], (P_hv149 xs L)) _ from ?_)
  refine P_wp_step (S' := (58, [.ref 47, .int (xs 1)], [.ref 47], (P_hv149 xs L))) P_i195_57 (fun _ => rfl) ?_
  refine P_wp_step (S' := (61, [.ref 47, .int (xs 1)], [.int 0], (P_hv149 xs L))) P_i195_58 (fun _ => rfl) ?_
  refine P_wp_step (S' := (63, [.ref 47, .int (xs 1)], [.int 40, .int 0], (P_hv149 xs L))) P_i195_61 (fun _ => rfl) ?_
  refine P_wp_ict P_i195_63 P_b30 (show P_wp P_Y0 199 195 (72, [.ref 47, .int (xs 1)], [], (P_hv149 xs L)) _ from ?_)
  refine P_wp_step (S' := (73, [.ref 47, .int (xs 1)], [.ref 47], (P_hv149 xs L))) P_i195_72 (fun _ => rfl) ?_
  refine P_wp_step (S' := (76, [.ref 47, .int (xs 1)], [.ref 51], (P_hv149 xs L))) P_i195_73 (fun _ => rfl) ?_
  refine P_wp_step (S' := (77, [.ref 47, .int (xs 1)], [.ref 47, .ref 51], (P_hv149 xs L))) P_i195_76 (fun _ => rfl) ?_
  refine P_wp_step (S' := (80, [.ref 47, .int (xs 1)], [.int 0, .ref 51], (P_hv149 xs L))) P_i195_77 (fun _ => rfl) ?_
  refine P_wp_step (S' := (81, [.ref 47, .int (xs 1)], [.int (xs 1), .int 0, .ref 51], (P_hv149 xs L))) P_i195_80 (fun _ => rfl) ?_
  refine P_wp_step (S' := (82, [.ref 47, .int (xs 1)], [], (P_hv150 xs L))) P_i195_81 (fun _ => rfl) ?_
  refine P_wp_step (S' := (83, [.ref 47, .int (xs 1)], [.ref 47], (P_hv150 xs L))) P_i195_82 (fun _ => rfl) ?_
  refine P_wp_step (S' := (84, [.ref 47, .int (xs 1)], [.int 0, .ref 47], (P_hv150 xs L))) P_i195_83 (fun _ => rfl) ?_
  refine P_wp_step (S' := (87, [.ref 47, .int (xs 1)], [], (P_hv150 xs L))) P_i195_84 (fun _ => rfl) ?_
  refine P_wp_step (S' := (88, [.ref 47, .int (xs 1)], [.ref 47], (P_hv150 xs L))) P_i195_87 (fun _ => rfl) ?_
  refine P_wp_step (S' := (89, [.ref 47, .int (xs 1)], [.int (-1), .ref 47], (P_hv150 xs L))) P_i195_88 (fun _ => rfl) ?_
  refine P_wp_step (S' := (92, [.ref 47, .int (xs 1)], [], (P_hv150 xs L))) P_i195_89 (fun _ => rfl) ?_
  refine P_wp_step (S' := (93, [.ref 47, .int (xs 1)], [.ref 47], (P_hv150 xs L))) P_i195_92 (fun _ => rfl) ?_
  refine P_wp_call P_i195_93 rfl rfl rfl rfl rfl rfl rfl (y2 := 190) (as := [.ref 47]) (r0 := []) rfl (Nat.le_of_ble_eq_true rfl) (by decide) rfl (Nat.le_of_ble_eq_true rfl) (P_x92 xs L (?_))
  show P_wp P_Y0 199 195 (96, [.ref 47, .int (xs 1)], [], (P_hv150 xs L)) _
  refine P_wp_step (S' := (97, [.ref 47, .int (xs 1)], [.ref 47], (P_hv150 xs L))) P_i195_96 (fun _ => rfl) ?_
  refine P_wp_step (S' := (98, [.ref 47, .int (xs 1)], [.ref 47, .ref 47], (P_hv150 xs L))) P_i195_97 (fun _ => rfl) ?_
  refine P_wp_step (S' := (101, [.ref 47, .int (xs 1)], [.int 0, .ref 47], (P_hv150 xs L))) P_i195_98 (fun _ => rfl) ?_
  refine P_wp_step (S' := (102, [.ref 47, .int (xs 1)], [.int 1, .int 0, .ref 47], (P_hv150 xs L))) P_i195_101 (fun _ => rfl) ?_
  refine P_wp_step (S' := (103, [.ref 47, .int (xs 1)], [.int 1, .ref 47], (P_hv150 xs L))) P_i195_102 (fun _ => rfl) ?_
  refine P_wp_step (S' := (104, [.ref 47, .int (xs 1)], [.int 1, .ref 47, .int 1], (P_hv150 xs L))) P_i195_103 (fun _ => rfl) ?_
  refine P_wp_step (S' := (107, [.ref 47, .int (xs 1)], [.int 1], (P_hv151 xs L))) P_i195_104 (fun _ => rfl) ?_
  refine P_wp_end (x := (.inl (some (.int 1)), (P_hv151 xs L))) P_i195_107 (fun _ => rfl) ?_
  exact q

set_option maxRecDepth 20000 in
theorem P_x127 (xs : Nat → Int32) (L : Nat) (hq1 : P_cc .lt (xs 1) 100 = false) (hq2 : P_cc .gt (xs 1) 199 = false) {Q : P_R → P_H → Prop} (q : Q (.inl (some (.int 1))) (P_hv132 xs L)) : P_wp P_Y0 196 175 (0, [.int (xs 1)], [], (P_hv132 xs L)) Q := by
  refine P_wp_step (S' := (1, [.int (xs 1)], [.int (xs 1)], (P_hv132 xs L))) P_i175_0 (fun _ => rfl) ?_
  refine P_wp_step (S' := (3, [.int (xs 1)], [.int 100, .int (xs 1)], (P_hv132 xs L))) P_i175_1 (fun _ => rfl) ?_
  refine P_wp_icf P_i175_3 hq1 (show P_wp P_Y0 196 175 (6, [.int (xs 1)], [], (P_hv132 xs L)) _ from ?_)
  refine P_wp_step (S' := (7, [.int (xs 1)], [.int (xs 1)], (P_hv132 xs L))) P_i175_6 (fun _ => rfl) ?_
  refine P_wp_step (S' := (10, [.int (xs 1)], [.int 199, .int (xs 1)], (P_hv132 xs L))) P_i175_7 (fun _ => rfl) ?_
  refine P_wp_icf P_i175_10 hq2 (show P_wp P_Y0 196 175 (13, [.int (xs 1)], [], (P_hv132 xs L)) _ from ?_)
  refine P_wp_step (S' := (14, [.int (xs 1)], [.int 1], (P_hv132 xs L))) P_i175_13 (fun _ => rfl) ?_
  refine P_wp_step (S' := (18, [.int (xs 1)], [.int 1], (P_hv132 xs L))) P_i175_14 (fun _ => rfl) ?_
  refine P_wp_end (x := (.inl (some (.int 1)), (P_hv132 xs L))) P_i175_18 (fun _ => rfl) ?_
  exact q

set_option maxRecDepth 20000 in
theorem P_x128 (xs : Nat → Int32) (L : Nat) (hq1 : P_cc .lt (xs 1) 0 = false) (hq2 : P_cc .le (xs 1) 11 = false) (hq3 : P_cc .lt (xs 1) 20 = false) (hq4 : P_cc .ge (xs 1) 25 = true) (hq5 : P_cc .lt (xs 1) 100 = false) (hq6 : P_cc .gt (xs 1) 199 = false) {Q : P_R → P_H → Prop} (q : Q (.inl (some (.int 1))) (P_hv132 xs L)) : P_wp P_Y0 197 173 (0, [.int (xs 1)], [], (P_hv132 xs L)) Q := by
  refine P_wp_step (S' := (1, [.int (xs 1)], [.int (xs 1)], (P_hv132 xs L))) P_i173_0 (fun _ => rfl) ?_
  refine P_wp_izf P_i173_1 hq1 (show P_wp P_Y0 197 173 (4, [.int (xs 1)], [], (P_hv132 xs L)) _ from ?_)
  refine P_wp_step (S' := (5, [.int (xs 1)], [.int (xs 1)], (P_hv132 xs L))) P_i173_4 (fun _ => rfl) ?_
  refine P_wp_step (S' := (7, [.int (xs 1)], [.int 11, .int (xs 1)], (P_hv132 xs L))) P_i173_5 (fun _ => rfl) ?_
  refine P_wp_icf P_i173_7 hq2 (show P_wp P_Y0 197 173 (10, [.int (xs 1)], [], (P_hv132 xs L)) _ from ?_)
  refine P_wp_step (S' := (11, [.int (xs 1)], [.int (xs 1)], (P_hv132 xs L))) P_i173_10 (fun _ => rfl) ?_
  refine P_wp_call P_i173_11 rfl rfl rfl rfl rfl rfl rfl (y2 := 174) (as := [.int (xs 1)]) (r0 := []) rfl (Nat.le_of_ble_eq_true rfl) (by decide) rfl (Nat.le_of_ble_eq_true rfl) (P_x100 xs L hq3 hq4 (?_))
  show P_wp P_Y0 197 173 (14, [.int (xs 1)], [.int 0], (P_hv132 xs L)) _
  refine P_wp_izf P_i173_14 P_b19 (show P_wp P_Y0 197 173 (17, [.int (xs 1)], [], (P_hv132 xs L)) _ from ?_)
  refine P_wp_step (S' := (18, [.int (xs 1)], [.int (xs 1)], (P_hv132 xs L))) P_i173_17 (fun _ => rfl) ?_
  refine P_wp_call P_i173_18 rfl rfl rfl rfl rfl rfl rfl (y2 := 175) (as := [.int (xs 1)]) (r0 := []) rfl (Nat.le_of_ble_eq_true rfl) (by decide) rfl (Nat.le_of_ble_eq_true rfl) (P_x127 xs L hq5 hq6 (?_))
  show P_wp P_Y0 197 173 (21, [.int (xs 1)], [.int 1], (P_hv132 xs L)) _
  refine P_wp_izt P_i173_21 P_b21 (show P_wp P_Y0 197 173 (31, [.int (xs 1)], [], (P_hv132 xs L)) _ from ?_)
  refine P_wp_step (S' := (32, [.int (xs 1)], [.int 1], (P_hv132 xs L))) P_i173_31 (fun _ => rfl) ?_
  refine P_wp_step (S' := (36, [.int (xs 1)], [.int 1], (P_hv132 xs L))) P_i173_32 (fun _ => rfl) ?_
  refine P_wp_end (x := (.inl (some (.int 1)), (P_hv132 xs L))) P_i173_36 (fun _ => rfl) ?_
  exact q

set_option maxRecDepth 20000 in
theorem P_x129 (xs : Nat → Int32) (L : Nat) (hq1 : P_cc .lt (xs 1) 0 = false) (hq2 : P_cc .le (xs 1) 11 = false) (hq3 : P_cc .lt (xs 1) 20 = false) (hq4 : P_cc .ge (xs 1) 25 = true) (hq5 : P_cc .lt (xs 1) 100 = false) (hq6 : P_cc .gt (xs 1) 199 = false) {Q : P_R → P_H → Prop} (q : Q (.inl (some (.int 1))) (P_hv148 xs L)) : P_wp P_Y0 198 142 (0, [.ref 2, .int (xs 1)], [], (P_hv132 xs L)) Q := by
  refine P_wp_step (S' := (1, [.ref 2, .int (xs 1)], [.int (xs 1)], (P_hv132 xs L))) P_i142_0 (fun _ => rfl) ?_
  refine P_wp_call P_i142_1 rfl rfl rfl rfl rfl rfl rfl (y2 := 173) (as := [.int (xs 1)]) (r0 := []) rfl (Nat.le_of_ble_eq_true rfl) (by decide) rfl (Nat.le_of_ble_eq_true rfl) (P_x128 xs L hq1 hq2 hq3 hq4 hq5 hq6 (?_))
  show P_wp P_Y0 198 142 (4, [.ref 2, .int (xs 1)], [.int 1], (P_hv132 xs L)) _
  refine P_wp_izt P_i142_4 P_b21 (show P_wp P_Y0 198 142 (17, [.ref 2, .int (xs 1)], [], (P_hv132 xs L)) _ from ?_)
  refine P_wp_step (S' := (18, [.ref 2, .int (xs 1)], [.ref 2], (P_hv132 xs L))) P_i142_17 (fun _ => rfl) ?_
  refine P_wp_step (S' := (21, [.ref 2, .int (xs 1)], [.ref 31], (P_hv132 xs L))) P_i142_18 (fun _ => rfl) ?_
  refine P_wp_call P_i142_21 rfl rfl rfl rfl rfl rfl rfl (y2 := 91) (as := [.ref 31]) (r0 := []) rfl (Nat.le_of_ble_eq_true rfl) (by decide) rfl (Nat.le_of_ble_eq_true rfl) (P_x81 xs L (?_))
  show P_wp P_Y0 198 142 (24, [.ref 2, .int (xs 1)], [.int 0], (P_hv132 xs L)) _
  refine P_wp_step (S' := (26, [.ref 2, .int (xs 1)], [.int 40, .int 0], (P_hv132 xs L))) P_i142_24 (fun _ => rfl) ?_
  refine P_wp_ict P_i142_26 P_b28 (show P_wp P_Y0 198 142 (39, [.ref 2, .int (xs 1)], [], (P_hv132 xs L)) _ from ?_)
  refine P_wp_step (S' := (40, [.ref 2, .int (xs 1)], [.ref 2], (P_hv132 xs L))) P_i142_39 (fun _ => rfl) ?_
  refine P_wp_step (S' := (43, [.ref 2, .int (xs 1)], [.ref 31], (P_hv132 xs L))) P_i142_40 (fun _ => rfl) ?_
  refine P_wp_step (S' := (44, [.ref 2, .int (xs 1)], [.int (xs 1), .ref 31], (P_hv132 xs L))) P_i142_43 (fun _ => rfl) ?_
  refine P_wp_call P_i142_44 rfl rfl rfl rfl rfl rfl rfl (y2 := 94) (as := [.ref 31, .int (xs 1)]) (r0 := []) rfl (Nat.le_of_ble_eq_true rfl) (by decide) rfl (Nat.le_of_ble_eq_true rfl) (P_x84 xs L (?_))
  show P_wp P_Y0 198 142 (47, [.ref 2, .int (xs 1)], [], (P_hv148 xs L)) _
  refine P_wp_step (S' := (48, [.ref 2, .int (xs 1)], [.ref 2], (P_hv148 xs L))) P_i142_47 (fun _ => rfl) ?_
  refine P_wp_call P_i142_48 rfl rfl rfl rfl rfl rfl rfl (y2 := 170) (as := [.ref 2]) (r0 := []) rfl (Nat.le_of_ble_eq_true rfl) (by decide) rfl (Nat.le_of_ble_eq_true rfl) (P_x87 xs L (?_))
  show P_wp P_Y0 198 142 (51, [.ref 2, .int (xs 1)], [], (P_hv148 xs L)) _
  refine P_wp_step (S' := (52, [.ref 2, .int (xs 1)], [.ref 2], (P_hv148 xs L))) P_i142_51 (fun _ => rfl) ?_
  refine P_wp_step (S' := (55, [.ref 2, .int (xs 1)], [.ref 31], (P_hv148 xs L))) P_i142_52 (fun _ => rfl) ?_
  refine P_wp_call P_i142_55 rfl rfl rfl rfl rfl rfl rfl (y2 := 91) (as := [.ref 31]) (r0 := []) rfl (Nat.le_of_ble_eq_true rfl) (by decide) rfl (Nat.le_of_ble_eq_true rfl) (P_x88 xs L (?_))
  show P_wp P_Y0 198 142 (58, [.ref 2, .int (xs 1)], [.int 1], (P_hv148 xs L)) _
  refine P_wp_end (x := (.inl (some (.int 1)), (P_hv148 xs L))) P_i142_58 (fun _ => rfl) ?_
  exact q

set_option maxRecDepth 20000 in
theorem P_x130 (xs : Nat → Int32) (L : Nat) (hq1 : P_cc .lt (xs 1) 0 = false) (hq2 : P_cc .le (xs 1) 11 = false) (hq3 : P_cc .lt (xs 1) 20 = false) (hq4 : P_cc .ge (xs 1) 25 = true) (hq5 : P_cc .lt (xs 1) 100 = false) (hq6 : P_cc .gt (xs 1) 199 = false) {Q : P_R → P_H → Prop} (q : Q (.inl (some (.int 0))) (P_hv149 xs L)) : P_wp P_Y0 199 274 (0, [.ref 2, .int (xs 1), .ref 63, P_un], [], (P_hv132 xs L)) Q := by
  refine P_wp_step (S' := (1, [.ref 2, .int (xs 1), .ref 63, P_un], [.ref 63], (P_hv132 xs L))) P_i274_0 (fun _ => rfl) ?_
  refine P_wp_step (S' := (2, [.ref 2, .int (xs 1), .ref 63, P_un], [.int 0, .ref 63], (P_hv132 xs L))) P_i274_1 (fun _ => rfl) ?_
  refine P_wp_step (S' := (3, [.ref 2, .int (xs 1), .ref 63, P_un], [.ref 2, .int 0, .ref 63], (P_hv132 xs L))) P_i274_2 (fun _ => rfl) ?_
  refine P_wp_step (S' := (4, [.ref 2, .int (xs 1), .ref 63, P_un], [.int (xs 1), .ref 2, .int 0, .ref 63], (P_hv132 xs L))) P_i274_3 (fun _ => rfl) ?_
  refine P_wp_call P_i274_4 rfl rfl rfl rfl rfl rfl rfl (y2 := 142) (as := [.ref 2, .int (xs 1)]) (r0 := [.int 0, .ref 63]) rfl (Nat.le_of_ble_eq_true rfl) (by decide) rfl (Nat.le_of_ble_eq_true rfl) (P_x129 xs L hq1 hq2 hq3 hq4 hq5 hq6 (?_))
  show P_wp P_Y0 199 274 (7, [.ref 2, .int (xs 1), .ref 63, P_un], [.int 1, .int 0, .ref 63], (P_hv148 xs L)) _
  refine P_wp_step (S' := (8, [.ref 2, .int (xs 1), .ref 63, P_un], [.long 1, .int 0, .ref 63], (P_hv148 xs L))) P_i274_7 (fun _ => rfl) ?_
  refine P_wp_step (S' := (9, [.ref 2, .int (xs 1), .ref 63, P_un], [], (P_hv149 xs L))) P_i274_8 (fun _ => rfl) ?_
  refine P_wp_step (S' := (18, [.ref 2, .int (xs 1), .ref 63, P_un], [], (P_hv149 xs L))) P_i274_9 (fun _ => rfl) ?_
  refine P_wp_step (S' := (19, [.ref 2, .int (xs 1), .ref 63, P_un], [.int 0], (P_hv149 xs L))) P_i274_18 (fun _ => rfl) ?_
  refine P_wp_end (x := (.inl (some (.int 0)), (P_hv149 xs L))) P_i274_19 (fun _ => rfl) ?_
  exact q

set_option maxRecDepth 20000 in
theorem P_x131 (xs : Nat → Int32) (L : Nat) (hq1 : P_cc .lt (xs 1) 100 = false) (hq2 : P_cc .gt (xs 1) 199 = false) {Q : P_R → P_H → Prop} (q : Q (.inl (some (.int 1))) (P_hv149 xs L)) : P_wp P_Y0 198 186 (0, [.int (xs 1), .int 100, .int 199], [], (P_hv149 xs L)) Q := by
  refine P_wp_step (S' := (1, [.int (xs 1), .int 100, .int 199], [.int (xs 1)], (P_hv149 xs L))) P_i186_0 (fun _ => rfl) ?_
  refine P_wp_step (S' := (2, [.int (xs 1), .int 100, .int 199], [.int 100, .int (xs 1)], (P_hv149 xs L))) P_i186_1 (fun _ => rfl) ?_
  refine P_wp_icf P_i186_2 hq1 (show P_wp P_Y0 198 186 (5, [.int (xs 1), .int 100, .int 199], [], (P_hv149 xs L)) _ from ?_)
  refine P_wp_step (S' := (6, [.int (xs 1), .int 100, .int 199], [.int (xs 1)], (P_hv149 xs L))) P_i186_5 (fun _ => rfl) ?_
  refine P_wp_step (S' := (7, [.int (xs 1), .int 100, .int 199], [.int 199, .int (xs 1)], (P_hv149 xs L))) P_i186_6 (fun _ => rfl) ?_
  refine P_wp_icf P_i186_7 hq2 (show P_wp P_Y0 198 186 (10, [.int (xs 1), .int 100, .int 199], [], (P_hv149 xs L)) _ from ?_)
  refine P_wp_step (S' := (11, [.int (xs 1), .int 100, .int 199], [.int 1], (P_hv149 xs L))) P_i186_10 (fun _ => rfl) ?_
  refine P_wp_step (S' := (15, [.int (xs 1), .int 100, .int 199], [.int 1], (P_hv149 xs L))) P_i186_11 (fun _ => rfl) ?_
  refine P_wp_end (x := (.inl (some (.int 1)), (P_hv149 xs L))) P_i186_15 (fun _ => rfl) ?_
  exact q

set_option maxRecDepth 20000 in
theorem P_x132 (xs : Nat → Int32) (L : Nat) (hq1 : P_cc .lt (xs 1) 0 = false) (hq2 : P_cc .gt (xs 1) 11 = true) (hq3 : P_cc .lt (xs 1) 20 = false) (hq4 : P_cc .gt (xs 1) 24 = true) (hq5 : P_cc .lt (xs 1) 100 = false) (hq6 : P_cc .gt (xs 1) 199 = false) {Q : P_R → P_H → Prop} (q : Q (.inl (some (.int 1))) (P_hv151 xs L)) : P_wp P_Y0 199 195 (0, [.ref 47, .int (xs 1)], [], (P_hv149 xs L)) Q := by
  refine P_wp_step (S' := (1, [.ref 47, .int (xs 1)], [.ref 47], (P_hv149 xs L))) P_i195_0 (fun _ => rfl) ?_
  refine P_wp_step (S' := (2, [.ref 47, .int (xs 1)], [.int 0, .ref 47], (P_hv149 xs L))) P_i195_1 (fun _ => rfl) ?_
  refine P_wp_step (S' := (5, [.ref 47, .int (xs 1)], [], (P_hv149 xs L))) P_i195_2 (fun _ => rfl) ?_
  refine P_wp_step (S' := (6, [.ref 47, .int (xs 1)], [.int (xs 1)], (P_hv149 xs L))) P_i195_5 (fun _ => rfl) ?_
  refine P_wp_step (S' := (7, [.ref 47, .int (xs 1)], [.int 0, .int (xs 1)], (P_hv149 xs L))) P_i195_6 (fun _ => rfl) ?_
  refine P_wp_step (S' := (9, [.ref 47, .int (xs 1)], [.int 11, .int 0, .int (xs 1)], (P_hv149 xs L))) P_i195_7 (fun _ => rfl) ?_
  refine P_wp_call P_i195_9 rfl rfl rfl rfl rfl rfl rfl (y2 := 186) (as := [.int (xs 1), .int 0, .int 11]) (r0 := []) rfl (Nat.le_of_ble_eq_true rfl) (by decide) rfl (Nat.le_of_ble_eq_true rfl) (P_x122 xs L hq1 hq2 (?_))
  show P_wp P_Y0 199 195 (12, [.ref 47, .int (xs 1)], [.int 0], (P_hv149 xs L)) _
  refine P_wp_izf P_i195_12 P_b19 (show P_wp P_Y0 199 195 (15, [.ref 47, .int (xs 1)], [], (P_hv149 xs L)) _ from ?_)
  refine P_wp_step (S' := (16, [.ref 47, .int (xs 1)], [.int (xs 1)], (P_hv149 xs L))) P_i195_15 (fun _ => rfl) ?_
  refine P_wp_step (S' := (18, [.ref 47, .int (xs 1)], [.int 20, .int (xs 1)], (P_hv149 xs L))) P_i195_16 (fun _ => rfl) ?_
  refine P_wp_step (S' := (20, [.ref 47, .int (xs 1)], [.int 24, .int 20, .int (xs 1)], (P_hv149 xs L))) P_i195_18 (fun _ => rfl) ?_
  refine P_wp_call P_i195_20 rfl rfl rfl rfl rfl rfl rfl (y2 := 186) (as := [.int (xs 1), .int 20, .int 24]) (r0 := []) rfl (Nat.le_of_ble_eq_true rfl) (by decide) rfl (Nat.le_of_ble_eq_true rfl) (P_x123 xs L hq3 hq4 (?_))
  show P_wp P_Y0 199 195 (23, [.ref 47, .int (xs 1)], [.int 0], (P_hv149 xs L)) _
  refine P_wp_izf P_i195_23 P_b19 (show P_wp P_Y0 199 195 (26, [.ref 47, .int (xs 1)], [], (P_hv149 xs L)) _ from ?_)
  refine P_wp_step (S' := (27, [.ref 47, .int (xs 1)], [.int (xs 1)], (P_hv149 xs L))) P_i195_26 (fun _ => rfl) ?_
  refine P_wp_step (S' := (29, [.ref 47, .int (xs 1)], [.int 100, .int (xs 1)], (P_hv149 xs L))) P_i195_27 (fun _ => rfl) ?_
  refine P_wp_step (S' := (32, [.ref 47, .int (xs 1)], [.int 199, .int 100, .int (xs 1)], (P_hv149 xs L))) P_i195_29 (fun _ => rfl) ?_
  refine P_wp_call P_i195_32 rfl rfl rfl rfl rfl rfl rfl (y2 := 186) (as := [.int (xs 1), .int 100, .int 199]) (r0 := []) rfl (Nat.le_of_ble_eq_true rfl) (by decide) rfl (Nat.le_of_ble_eq_true rfl) (P_x131 xs L hq5 hq6 (?_))
  show P_wp P_Y0 199 195 (35, [.ref 47, .int (xs 1)], [.int 1], (P_hv149 xs L)) _
  refine P_wp_izt P_i195_35 P_b21 (show P_wp P_Y0 199 195 (57, [.ref 47, .int (xs 1)], [], (P_hv149 xs L)) _ from ?_)
  refine P_wp_step (S' := (58, [.ref 47, .int (xs 1)], [.ref 47], (P_hv149 xs L))) P_i195_57 (fun _ => rfl) ?_
  refine P_wp_step (S' := (61, [.ref 47, .int (xs 1)], [.int 0], (P_hv149 xs L))) P_i195_58 (fun _ => rfl) ?_
  refine P_wp_step (S' := (63, [.ref 47, .int (xs 1)], [.int 40, .int 0], (P_hv149 xs L))) P_i195_61 (fun _ => rfl) ?_
  refine P_wp_ict P_i195_63 P_b30 (show P_wp P_Y0 199 195 (72, [.ref 47, .int (xs 1)], [], (P_hv149 xs L)) _ from ?_)
  refine P_wp_step (S' := (73, [.ref 47, .int (xs 1)], [.ref 47], (P_hv149 xs L))) P_i195_72 (fun _ => rfl) ?_
  refine P_wp_step (S' := (76, [.ref 47, .int (xs 1)], [.ref 51], (P_hv149 xs L))) P_i195_73 (fun _ => rfl) ?_
  refine P_wp_step (S' := (77, [.ref 47, .int (xs 1)], [.ref 47, .ref 51], (P_hv149 xs L))) P_i195_76 (fun _ => rfl) ?_
  refine P_wp_step (S' := (80, [.ref 47, .int (xs 1)], [.int 0, .ref 51], (P_hv149 xs L))) P_i195_77 (fun _ => rfl) ?_
  refine P_wp_step (S' := (81, [.ref 47, .int (xs 1)], [.int (xs 1), .int 0, .ref 51], (P_hv149 xs L))) P_i195_80 (fun _ => rfl) ?_
  refine P_wp_step (S' := (82, [.ref 47, .int (xs 1)], [], (P_hv150 xs L))) P_i195_81 (fun _ => rfl) ?_
  refine P_wp_step (S' := (83, [.ref 47, .int (xs 1)], [.ref 47], (P_hv150 xs L))) P_i195_82 (fun _ => rfl) ?_
  refine P_wp_step (S' := (84, [.ref 47, .int (xs 1)], [.int 0, .ref 47], (P_hv150 xs L))) P_i195_83 (fun _ => rfl) ?_
  refine P_wp_step (S' := (87, [.ref 47, .int (xs 1)], [], (P_hv150 xs L))) P_i195_84 (fun _ => rfl) ?_
  refine P_wp_step (S' := (88, [.ref 47, .int (xs 1)], [.ref 47], (P_hv150 xs L))) P_i195_87 (fun _ => rfl) ?_
  refine P_wp_step (S' := (89, [.ref 47, .int (xs 1)], [.int (-1), .ref 47], (P_hv150 xs L))) P_i195_88 (fun _ => rfl) ?_
  refine P_wp_step (S' := (92, [.ref 47, .int (xs 1)], [], (P_hv150 xs L))) P_i195_89 (fun _ => rfl) ?_
  refine P_wp_step (S' := (93, [.ref 47, .int (xs 1)], [.ref 47], (P_hv150 xs L))) P_i195_92 (fun _ => rfl) ?_
  refine P_wp_call P_i195_93 rfl rfl rfl rfl rfl rfl rfl (y2 := 190) (as := [.ref 47]) (r0 := []) rfl (Nat.le_of_ble_eq_true rfl) (by decide) rfl (Nat.le_of_ble_eq_true rfl) (P_x92 xs L (?_))
  show P_wp P_Y0 199 195 (96, [.ref 47, .int (xs 1)], [], (P_hv150 xs L)) _
  refine P_wp_step (S' := (97, [.ref 47, .int (xs 1)], [.ref 47], (P_hv150 xs L))) P_i195_96 (fun _ => rfl) ?_
  refine P_wp_step (S' := (98, [.ref 47, .int (xs 1)], [.ref 47, .ref 47], (P_hv150 xs L))) P_i195_97 (fun _ => rfl) ?_
  refine P_wp_step (S' := (101, [.ref 47, .int (xs 1)], [.int 0, .ref 47], (P_hv150 xs L))) P_i195_98 (fun _ => rfl) ?_
  refine P_wp_step (S' := (102, [.ref 47, .int (xs 1)], [.int 1, .int 0, .ref 47], (P_hv150 xs L))) P_i195_101 (fun _ => rfl) ?_
  refine P_wp_step (S' := (103, [.ref 47, .int (xs 1)], [.int 1, .ref 47], (P_hv150 xs L))) P_i195_102 (fun _ => rfl) ?_
  refine P_wp_step (S' := (104, [.ref 47, .int (xs 1)], [.int 1, .ref 47, .int 1], (P_hv150 xs L))) P_i195_103 (fun _ => rfl) ?_
  refine P_wp_step (S' := (107, [.ref 47, .int (xs 1)], [.int 1], (P_hv151 xs L))) P_i195_104 (fun _ => rfl) ?_
  refine P_wp_end (x := (.inl (some (.int 1)), (P_hv151 xs L))) P_i195_107 (fun _ => rfl) ?_
  exact q

set_option maxRecDepth 20000 in
theorem P_x133 (xs : Nat → Int32) (L : Nat) (hq1 : P_cc .lt (xs 1) 20 = false) (hq2 : P_cc .ge (xs 1) 25 = false) {Q : P_R → P_H → Prop} (q : Q (.inl (some (.int 1))) (P_hv132 xs L)) : P_wp P_Y0 196 174 (0, [.int (xs 1)], [], (P_hv132 xs L)) Q := by
  refine P_wp_step (S' := (1, [.int (xs 1)], [.int (xs 1)], (P_hv132 xs L))) P_i174_0 (fun _ => rfl) ?_
  refine P_wp_step (S' := (3, [.int (xs 1)], [.int 20, .int (xs 1)], (P_hv132 xs L))) P_i174_1 (fun _ => rfl) ?_
  refine P_wp_icf P_i174_3 hq1 (show P_wp P_Y0 196 174 (6, [.int (xs 1)], [], (P_hv132 xs L)) _ from ?_)
  refine P_wp_step (S' := (7, [.int (xs 1)], [.int (xs 1)], (P_hv132 xs L))) P_i174_6 (fun _ => rfl) ?_
  refine P_wp_step (S' := (9, [.int (xs 1)], [.int 25, .int (xs 1)], (P_hv132 xs L))) P_i174_7 (fun _ => rfl) ?_
  refine P_wp_icf P_i174_9 hq2 (show P_wp P_Y0 196 174 (12, [.int (xs 1)], [], (P_hv132 xs L)) _ from ?_)
  refine P_wp_step (S' := (13, [.int (xs 1)], [.int 1], (P_hv132 xs L))) P_i174_12 (fun _ => rfl) ?_
  refine P_wp_step (S' := (17, [.int (xs 1)], [.int 1], (P_hv132 xs L))) P_i174_13 (fun _ => rfl) ?_
  refine P_wp_end (x := (.inl (some (.int 1)), (P_hv132 xs L))) P_i174_17 (fun _ => rfl) ?_
  exact q

set_option maxRecDepth 20000 in
theorem P_x134 (xs : Nat → Int32) (L : Nat) (hq1 : P_cc .lt (xs 1) 0 = false) (hq2 : P_cc .le (xs 1) 11 = false) (hq3 : P_cc .lt (xs 1) 20 = false) (hq4 : P_cc .ge (xs 1) 25 = false) {Q : P_R → P_H → Prop} (q : Q (.inl (some (.int 1))) (P_hv132 xs L)) : P_wp P_Y0 197 173 (0, [.int (xs 1)], [], (P_hv132 xs L)) Q := by
  refine P_wp_step (S' := (1, [.int (xs 1)], [.int (xs 1)], (P_hv132 xs L))) P_i173_0 (fun _ => rfl) ?_
  refine P_wp_izf P_i173_1 hq1 (show P_wp P_Y0 197 173 (4, [.int (xs 1)], [], (P_hv132 xs L)) _ from ?_)
  refine P_wp_step (S' := (5, [.int (xs 1)], [.int (xs 1)], (P_hv132 xs L))) P_i173_4 (fun _ => rfl) ?_
  refine P_wp_step (S' := (7, [.int (xs 1)], [.int 11, .int (xs 1)], (P_hv132 xs L))) P_i173_5 (fun _ => rfl) ?_
  refine P_wp_icf P_i173_7 hq2 (show P_wp P_Y0 197 173 (10, [.int (xs 1)], [], (P_hv132 xs L)) _ from ?_)
  refine P_wp_step (S' := (11, [.int (xs 1)], [.int (xs 1)], (P_hv132 xs L))) P_i173_10 (fun _ => rfl) ?_
  refine P_wp_call P_i173_11 rfl rfl rfl rfl rfl rfl rfl (y2 := 174) (as := [.int (xs 1)]) (r0 := []) rfl (Nat.le_of_ble_eq_true rfl) (by decide) rfl (Nat.le_of_ble_eq_true rfl) (P_x133 xs L hq3 hq4 (?_))
  show P_wp P_Y0 197 173 (14, [.int (xs 1)], [.int 1], (P_hv132 xs L)) _
  refine P_wp_izt P_i173_14 P_b21 (show P_wp P_Y0 197 173 (31, [.int (xs 1)], [], (P_hv132 xs L)) _ from ?_)
  refine P_wp_step (S' := (32, [.int (xs 1)], [.int 1], (P_hv132 xs L))) P_i173_31 (fun _ => rfl) ?_
  refine P_wp_step (S' := (36, [.int (xs 1)], [.int 1], (P_hv132 xs L))) P_i173_32 (fun _ => rfl) ?_
  refine P_wp_end (x := (.inl (some (.int 1)), (P_hv132 xs L))) P_i173_36 (fun _ => rfl) ?_
  exact q

set_option maxRecDepth 20000 in
theorem P_x135 (xs : Nat → Int32) (L : Nat) (hq1 : P_cc .lt (xs 1) 0 = false) (hq2 : P_cc .le (xs 1) 11 = false) (hq3 : P_cc .lt (xs 1) 20 = false) (hq4 : P_cc .ge (xs 1) 25 = false) {Q : P_R → P_H → Prop} (q : Q (.inl (some (.int 1))) (P_hv148 xs L)) : P_wp P_Y0 198 142 (0, [.ref 2, .int (xs 1)], [], (P_hv132 xs L)) Q := by
  refine P_wp_step (S' := (1, [.ref 2, .int (xs 1)], [.int (xs 1)], (P_hv132 xs L))) P_i142_0 (fun _ => rfl) ?_
  refine P_wp_call P_i142_1 rfl rfl rfl rfl rfl rfl rfl (y2 := 173) (as := [.int (xs 1)]) (r0 := []) rfl (Nat.le_of_ble_eq_true rfl) (by decide) rfl (Nat.le_of_ble_eq_true rfl) (P_x134 xs L hq1 hq2 hq3 hq4 (?_))
  show P_wp P_Y0 198 142 (4, [.ref 2, .int (xs 1)], [.int 1], (P_hv132 xs L)) _
  refine P_wp_izt P_i142_4 P_b21 (show P_wp P_Y0 198 142 (17, [.ref 2, .int (xs 1)], [], (P_hv132 xs L)) _ from ?_)
  refine P_wp_step (S' := (18, [.ref 2, .int (xs 1)], [.ref 2], (P_hv132 xs L))) P_i142_17 (fun _ => rfl) ?_
  refine P_wp_step (S' := (21, [.ref 2, .int (xs 1)], [.ref 31], (P_hv132 xs L))) P_i142_18 (fun _ => rfl) ?_
  refine P_wp_call P_i142_21 rfl rfl rfl rfl rfl rfl rfl (y2 := 91) (as := [.ref 31]) (r0 := []) rfl (Nat.le_of_ble_eq_true rfl) (by decide) rfl (Nat.le_of_ble_eq_true rfl) (P_x81 xs L (?_))
  show P_wp P_Y0 198 142 (24, [.ref 2, .int (xs 1)], [.int 0], (P_hv132 xs L)) _
  refine P_wp_step (S' := (26, [.ref 2, .int (xs 1)], [.int 40, .int 0], (P_hv132 xs L))) P_i142_24 (fun _ => rfl) ?_
  refine P_wp_ict P_i142_26 P_b28 (show P_wp P_Y0 198 142 (39, [.ref 2, .int (xs 1)], [], (P_hv132 xs L)) _ from ?_)
  refine P_wp_step (S' := (40, [.ref 2, .int (xs 1)], [.ref 2], (P_hv132 xs L))) P_i142_39 (fun _ => rfl) ?_
  refine P_wp_step (S' := (43, [.ref 2, .int (xs 1)], [.ref 31], (P_hv132 xs L))) P_i142_40 (fun _ => rfl) ?_
  refine P_wp_step (S' := (44, [.ref 2, .int (xs 1)], [.int (xs 1), .ref 31], (P_hv132 xs L))) P_i142_43 (fun _ => rfl) ?_
  refine P_wp_call P_i142_44 rfl rfl rfl rfl rfl rfl rfl (y2 := 94) (as := [.ref 31, .int (xs 1)]) (r0 := []) rfl (Nat.le_of_ble_eq_true rfl) (by decide) rfl (Nat.le_of_ble_eq_true rfl) (P_x84 xs L (?_))
  show P_wp P_Y0 198 142 (47, [.ref 2, .int (xs 1)], [], (P_hv148 xs L)) _
  refine P_wp_step (S' := (48, [.ref 2, .int (xs 1)], [.ref 2], (P_hv148 xs L))) P_i142_47 (fun _ => rfl) ?_
  refine P_wp_call P_i142_48 rfl rfl rfl rfl rfl rfl rfl (y2 := 170) (as := [.ref 2]) (r0 := []) rfl (Nat.le_of_ble_eq_true rfl) (by decide) rfl (Nat.le_of_ble_eq_true rfl) (P_x87 xs L (?_))
  show P_wp P_Y0 198 142 (51, [.ref 2, .int (xs 1)], [], (P_hv148 xs L)) _
  refine P_wp_step (S' := (52, [.ref 2, .int (xs 1)], [.ref 2], (P_hv148 xs L))) P_i142_51 (fun _ => rfl) ?_
  refine P_wp_step (S' := (55, [.ref 2, .int (xs 1)], [.ref 31], (P_hv148 xs L))) P_i142_52 (fun _ => rfl) ?_
  refine P_wp_call P_i142_55 rfl rfl rfl rfl rfl rfl rfl (y2 := 91) (as := [.ref 31]) (r0 := []) rfl (Nat.le_of_ble_eq_true rfl) (by decide) rfl (Nat.le_of_ble_eq_true rfl) (P_x88 xs L (?_))
  show P_wp P_Y0 198 142 (58, [.ref 2, .int (xs 1)], [.int 1], (P_hv148 xs L)) _
  refine P_wp_end (x := (.inl (some (.int 1)), (P_hv148 xs L))) P_i142_58 (fun _ => rfl) ?_
  exact q

set_option maxRecDepth 20000 in
theorem P_x136 (xs : Nat → Int32) (L : Nat) (hq1 : P_cc .lt (xs 1) 0 = false) (hq2 : P_cc .le (xs 1) 11 = false) (hq3 : P_cc .lt (xs 1) 20 = false) (hq4 : P_cc .ge (xs 1) 25 = false) {Q : P_R → P_H → Prop} (q : Q (.inl (some (.int 0))) (P_hv149 xs L)) : P_wp P_Y0 199 274 (0, [.ref 2, .int (xs 1), .ref 63, P_un], [], (P_hv132 xs L)) Q := by
  refine P_wp_step (S' := (1, [.ref 2, .int (xs 1), .ref 63, P_un], [.ref 63], (P_hv132 xs L))) P_i274_0 (fun _ => rfl) ?_
  refine P_wp_step (S' := (2, [.ref 2, .int (xs 1), .ref 63, P_un], [.int 0, .ref 63], (P_hv132 xs L))) P_i274_1 (fun _ => rfl) ?_
  refine P_wp_step (S' := (3, [.ref 2, .int (xs 1), .ref 63, P_un], [.ref 2, .int 0, .ref 63], (P_hv132 xs L))) P_i274_2 (fun _ => rfl) ?_
  refine P_wp_step (S' := (4, [.ref 2, .int (xs 1), .ref 63, P_un], [.int (xs 1), .ref 2, .int 0, .ref 63], (P_hv132 xs L))) P_i274_3 (fun _ => rfl) ?_
  refine P_wp_call P_i274_4 rfl rfl rfl rfl rfl rfl rfl (y2 := 142) (as := [.ref 2, .int (xs 1)]) (r0 := [.int 0, .ref 63]) rfl (Nat.le_of_ble_eq_true rfl) (by decide) rfl (Nat.le_of_ble_eq_true rfl) (P_x135 xs L hq1 hq2 hq3 hq4 (?_))
  show P_wp P_Y0 199 274 (7, [.ref 2, .int (xs 1), .ref 63, P_un], [.int 1, .int 0, .ref 63], (P_hv148 xs L)) _
  refine P_wp_step (S' := (8, [.ref 2, .int (xs 1), .ref 63, P_un], [.long 1, .int 0, .ref 63], (P_hv148 xs L))) P_i274_7 (fun _ => rfl) ?_
  refine P_wp_step (S' := (9, [.ref 2, .int (xs 1), .ref 63, P_un], [], (P_hv149 xs L))) P_i274_8 (fun _ => rfl) ?_
  refine P_wp_step (S' := (18, [.ref 2, .int (xs 1), .ref 63, P_un], [], (P_hv149 xs L))) P_i274_9 (fun _ => rfl) ?_
  refine P_wp_step (S' := (19, [.ref 2, .int (xs 1), .ref 63, P_un], [.int 0], (P_hv149 xs L))) P_i274_18 (fun _ => rfl) ?_
  refine P_wp_end (x := (.inl (some (.int 0)), (P_hv149 xs L))) P_i274_19 (fun _ => rfl) ?_
  exact q

set_option maxRecDepth 20000 in
theorem P_x137 (xs : Nat → Int32) (L : Nat) (hq1 : P_cc .lt (xs 1) 20 = false) (hq2 : P_cc .gt (xs 1) 24 = false) {Q : P_R → P_H → Prop} (q : Q (.inl (some (.int 1))) (P_hv149 xs L)) : P_wp P_Y0 198 186 (0, [.int (xs 1), .int 20, .int 24], [], (P_hv149 xs L)) Q := by
  refine P_wp_step (S' := (1, [.int (xs 1), .int 20, .int 24], [.int (xs 1)], (P_hv149 xs L))) P_i186_0 (fun _ => rfl) ?_
  refine P_wp_step (S' := (2, [.int (xs 1), .int 20, .int 24], [.int 20, .int (xs 1)], (P_hv149 xs L))) P_i186_1 (fun _ => rfl) ?_
  refine P_wp_icf P_i186_2 hq1 (show P_wp P_Y0 198 186 (5, [.int (xs 1), .int 20, .int 24], [], (P_hv149 xs L)) _ from ?_)
  refine P_wp_step (S' := (6, [.int (xs 1), .int 20, .int 24], [.int (xs 1)], (P_hv149 xs L))) P_i186_5 (fun _ => rfl) ?_
  refine P_wp_step (S' := (7, [.int (xs 1), .int 20, .int 24], [.int 24, .int (xs 1)], (P_hv149 xs L))) P_i186_6 (fun _ => rfl) ?_
  refine P_wp_icf P_i186_7 hq2 (show P_wp P_Y0 198 186 (10, [.int (xs 1), .int 20, .int 24], [], (P_hv149 xs L)) _ from ?_)
  refine P_wp_step (S' := (11, [.int (xs 1), .int 20, .int 24], [.int 1], (P_hv149 xs L))) P_i186_10 (fun _ => rfl) ?_
  refine P_wp_step (S' := (15, [.int (xs 1), .int 20, .int 24], [.int 1], (P_hv149 xs L))) P_i186_11 (fun _ => rfl) ?_
  refine P_wp_end (x := (.inl (some (.int 1)), (P_hv149 xs L))) P_i186_15 (fun _ => rfl) ?_
  exact q

set_option maxRecDepth 20000 in
theorem P_x138 (xs : Nat → Int32) (L : Nat) (hq1 : P_cc .lt (xs 1) 0 = false) (hq2 : P_cc .gt (xs 1) 11 = true) (hq3 : P_cc .lt (xs 1) 20 = false) (hq4 : P_cc .gt (xs 1) 24 = false) {Q : P_R → P_H → Prop} (q : Q (.inl (some (.int 1))) (P_hv151 xs L)) : P_wp P_Y0 199 195 (0, [.ref 47, .int (xs 1)], [], (P_hv149 xs L)) Q := by
  refine P_wp_step (S' := (1, [.ref 47, .int (xs 1)], [.ref 47], (P_hv149 xs L))) P_i195_0 (fun _ => rfl) ?_
  refine P_wp_step (S' := (2, [.ref 47, .int (xs 1)], [.int 0, .ref 47], (P_hv149 xs L))) P_i195_1 (fun _ => rfl) ?_
  refine P_wp_step (S' := (5, [.ref 47, .int (xs 1)], [], (P_hv149 xs L))) P_i195_2 (fun _ => rfl) ?_
  refine P_wp_step (S' := (6, [.ref 47, .int (xs 1)], [.int (xs 1)], (P_hv149 xs L))) P_i195_5 (fun _ => rfl) ?_
  refine P_wp_step (S' := (7, [.ref 47, .int (xs 1)], [.int 0, .int (xs 1)], (P_hv149 xs L))) P_i195_6 (fun _ => rfl) ?_
  refine P_wp_step (S' := (9, [.ref 47, .int (xs 1)], [.int 11, .int 0, .int (xs 1)], (P_hv149 xs L))) P_i195_7 (fun _ => rfl) ?_
  refine P_wp_call P_i195_9 rfl rfl rfl rfl rfl rfl rfl (y2 := 186) (as := [.int (xs 1), .int 0, .int 11]) (r0 := []) rfl (Nat.le_of_ble_eq_true rfl) (by decide) rfl (Nat.le_of_ble_eq_true rfl) (P_x122 xs L hq1 hq2 (?_))
  show P_wp P_Y0 199 195 (12, [.ref 47, .int (xs 1)], [.int 0], (P_hv149 xs L)) _
  refine P_wp_izf P_i195_12 P_b19 (show P_wp P_Y0 199 195 (15, [.ref 47, .int (xs 1)], [], (P_hv149 xs L)) _ from ?_)
  refine P_wp_step (S' := (16, [.ref 47, .int (xs 1)], [.int (xs 1)], (P_hv149 xs L))) P_i195_15 (fun _ => rfl) ?_
  refine P_wp_step (S' := (18, [.ref 47, .int (xs 1)], [.int 20, .int (xs 1)], (P_hv149 xs L))) P_i195_16 (fun _ => rfl) ?_
  refine P_wp_step (S' := (20, [.ref 47, .int (xs 1)], [.int 24, .int 20, .int (xs 1)], (P_hv149 xs L))) P_i195_18 (fun _ => rfl) ?_
  refine P_wp_call P_i195_20 rfl rfl rfl rfl rfl rfl rfl (y2 := 186) (as := [.int (xs 1), .int 20, .int 24]) (r0 := []) rfl (Nat.le_of_ble_eq_true rfl) (by decide) rfl (Nat.le_of_ble_eq_true rfl) (P_x137 xs L hq3 hq4 (?_))
  show P_wp P_Y0 199 195 (23, [.ref 47, .int (xs 1)], [.int 1], (P_hv149 xs L)) _
  refine P_wp_izt P_i195_23 P_b21 (show P_wp P_Y0 199 195 (57, [.ref 47, .int (xs 1)], [], (P_hv149 xs L)) _ from ?_)
  refine P_wp_step (S' := (58, [.ref 47, .int (xs 1)], [.ref 47], (P_hv149 xs L))) P_i195_57 (fun _ => rfl) ?_
  refine P_wp_step (S' := (61, [.ref 47, .int (xs 1)], [.int 0], (P_hv149 xs L))) P_i195_58 (fun _ => rfl) ?_
  refine P_wp_step (S' := (63, [.ref 47, .int (xs 1)], [.int 40, .int 0], (P_hv149 xs L))) P_i195_61 (fun _ => rfl) ?_
  refine P_wp_ict P_i195_63 P_b30 (show P_wp P_Y0 199 195 (72, [.ref 47, .int (xs 1)], [], (P_hv149 xs L)) _ from ?_)
  refine P_wp_step (S' := (73, [.ref 47, .int (xs 1)], [.ref 47], (P_hv149 xs L))) P_i195_72 (fun _ => rfl) ?_
  refine P_wp_step (S' := (76, [.ref 47, .int (xs 1)], [.ref 51], (P_hv149 xs L))) P_i195_73 (fun _ => rfl) ?_
  refine P_wp_step (S' := (77, [.ref 47, .int (xs 1)], [.ref 47, .ref 51], (P_hv149 xs L))) P_i195_76 (fun _ => rfl) ?_
  refine P_wp_step (S' := (80, [.ref 47, .int (xs 1)], [.int 0, .ref 51], (P_hv149 xs L))) P_i195_77 (fun _ => rfl) ?_
  refine P_wp_step (S' := (81, [.ref 47, .int (xs 1)], [.int (xs 1), .int 0, .ref 51], (P_hv149 xs L))) P_i195_80 (fun _ => rfl) ?_
  refine P_wp_step (S' := (82, [.ref 47, .int (xs 1)], [], (P_hv150 xs L))) P_i195_81 (fun _ => rfl) ?_
  refine P_wp_step (S' := (83, [.ref 47, .int (xs 1)], [.ref 47], (P_hv150 xs L))) P_i195_82 (fun _ => rfl) ?_
  refine P_wp_step (S' := (84, [.ref 47, .int (xs 1)], [.int 0, .ref 47], (P_hv150 xs L))) P_i195_83 (fun _ => rfl) ?_
  refine P_wp_step (S' := (87, [.ref 47, .int (xs 1)], [], (P_hv150 xs L))) P_i195_84 (fun _ => rfl) ?_
  refine P_wp_step (S' := (88, [.ref 47, .int (xs 1)], [.ref 47], (P_hv150 xs L))) P_i195_87 (fun _ => rfl) ?_
  refine P_wp_step (S' := (89, [.ref 47, .int (xs 1)], [.int (-1), .ref 47], (P_hv150 xs L))) P_i195_88 (fun _ => rfl) ?_
  refine P_wp_step (S' := (92, [.ref 47, .int (xs 1)], [], (P_hv150 xs L))) P_i195_89 (fun _ => rfl) ?_
  refine P_wp_step (S' := (93, [.ref 47, .int (xs 1)], [.ref 47], (P_hv150 xs L))) P_i195_92 (fun _ => rfl) ?_
  refine P_wp_call P_i195_93 rfl rfl rfl rfl rfl rfl rfl (y2 := 190) (as := [.ref 47]) (r0 := []) rfl (Nat.le_of_ble_eq_true rfl) (by decide) rfl (Nat.le_of_ble_eq_true rfl) (P_x92 xs L (?_))
  show P_wp P_Y0 199 195 (96, [.ref 47, .int (xs 1)], [], (P_hv150 xs L)) _
  refine P_wp_step (S' := (97, [.ref 47, .int (xs 1)], [.ref 47], (P_hv150 xs L))) P_i195_96 (fun _ => rfl) ?_
  refine P_wp_step (S' := (98, [.ref 47, .int (xs 1)], [.ref 47, .ref 47], (P_hv150 xs L))) P_i195_97 (fun _ => rfl) ?_
  refine P_wp_step (S' := (101, [.ref 47, .int (xs 1)], [.int 0, .ref 47], (P_hv150 xs L))) P_i195_98 (fun _ => rfl) ?_
  refine P_wp_step (S' := (102, [.ref 47, .int (xs 1)], [.int 1, .int 0, .ref 47], (P_hv150 xs L))) P_i195_101 (fun _ => rfl) ?_
  refine P_wp_step (S' := (103, [.ref 47, .int (xs 1)], [.int 1, .ref 47], (P_hv150 xs L))) P_i195_102 (fun _ => rfl) ?_
  refine P_wp_step (S' := (104, [.ref 47, .int (xs 1)], [.int 1, .ref 47, .int 1], (P_hv150 xs L))) P_i195_103 (fun _ => rfl) ?_
  refine P_wp_step (S' := (107, [.ref 47, .int (xs 1)], [.int 1], (P_hv151 xs L))) P_i195_104 (fun _ => rfl) ?_
  refine P_wp_end (x := (.inl (some (.int 1)), (P_hv151 xs L))) P_i195_107 (fun _ => rfl) ?_
  exact q

set_option maxRecDepth 20000 in
theorem P_x139 (xs : Nat → Int32) (L : Nat) {Q : P_R → P_H → Prop} (q : Q (.inl (some (.int 0))) (P_hv132 xs L)) : P_wp P_Y0 198 91 (0, [.ref 31], [], (P_hv132 xs L)) Q := by
  refine P_wp_step (S' := (1, [.ref 31], [.ref 31], (P_hv132 xs L))) P_i91_0 (fun _ => rfl) ?_
  refine P_wp_step (S' := (4, [.ref 31], [.int 0], (P_hv132 xs L))) P_i91_1 (fun _ => rfl) ?_
  refine P_wp_end (x := (.inl (some (.int 0)), (P_hv132 xs L))) P_i91_4 (fun _ => rfl) ?_
  exact q

set_option maxRecDepth 20000 in
theorem P_x140 (xs : Nat → Int32) (L : Nat) {Q : P_R → P_H → Prop} (q : Q (.inl none) (P_hv132 xs L)) : P_wp P_Y0 197 96 (0, [.ref 31], [], (P_hv132 xs L)) Q := by
  refine P_wp_step (S' := (1, [.ref 31], [.ref 31], (P_hv132 xs L))) P_i96_0 (fun _ => rfl) ?_
  refine P_wp_step (S' := (2, [.ref 31], [.int 0, .ref 31], (P_hv132 xs L))) P_i96_1 (fun _ => rfl) ?_
  refine P_wp_step (S' := (5, [.ref 31], [], (P_hv132 xs L))) P_i96_2 (fun _ => rfl) ?_
  refine P_wp_step (S' := (6, [.ref 31], [.ref 31], (P_hv132 xs L))) P_i96_5 (fun _ => rfl) ?_
  refine P_wp_step (S' := (7, [.ref 31], [.int (-1), .ref 31], (P_hv132 xs L))) P_i96_6 (fun _ => rfl) ?_
  refine P_wp_step (S' := (10, [.ref 31], [], (P_hv132 xs L))) P_i96_7 (fun _ => rfl) ?_
  refine P_wp_end (x := (.inl none, (P_hv132 xs L))) P_i96_10 (fun _ => rfl) ?_
  exact q

set_option maxRecDepth 20000 in
theorem P_x141 (xs : Nat → Int32) (L : Nat) {Q : P_R → P_H → Prop} (q : Q (.inl none) (P_hv132 xs L)) : P_wp P_Y0 198 95 (0, [.ref 31], [], (P_hv132 xs L)) Q := by
  refine P_wp_step (S' := (1, [.ref 31], [.ref 31], (P_hv132 xs L))) P_i95_0 (fun _ => rfl) ?_
  refine P_wp_step (S' := (2, [.ref 31], [.int 0, .ref 31], (P_hv132 xs L))) P_i95_1 (fun _ => rfl) ?_
  refine P_wp_step (S' := (5, [.ref 31], [], (P_hv132 xs L))) P_i95_2 (fun _ => rfl) ?_
  refine P_wp_step (S' := (6, [.ref 31], [.ref 31], (P_hv132 xs L))) P_i95_5 (fun _ => rfl) ?_
  refine P_wp_call P_i95_6 rfl rfl rfl rfl rfl rfl rfl (y2 := 96) (as := [.ref 31]) (r0 := []) rfl (Nat.le_of_ble_eq_true rfl) (by decide) rfl (Nat.le_of_ble_eq_true rfl) (P_x140 xs L (?_))
  show P_wp P_Y0 198 95 (9, [.ref 31], [], (P_hv132 xs L)) _
  refine P_wp_end (x := (.inl none, (P_hv132 xs L))) P_i95_9 (fun _ => rfl) ?_
  exact q

set_option maxRecDepth 20000 in
theorem P_x142 (xs : Nat → Int32) (L : Nat) {Q : P_R → P_H → Prop} (q : Q (.inl none) (P_hv132 xs L)) : P_wp P_Y0 197 85 (0, [.ref 46], [], (P_hv132 xs L)) Q := by
  refine P_wp_step (S' := (1, [.ref 46], [.ref 46], (P_hv132 xs L))) P_i85_0 (fun _ => rfl) ?_
  refine P_wp_step (S' := (2, [.ref 46], [.int 0, .ref 46], (P_hv132 xs L))) P_i85_1 (fun _ => rfl) ?_
  refine P_wp_step (S' := (5, [.ref 46], [], (P_hv132 xs L))) P_i85_2 (fun _ => rfl) ?_
  refine P_wp_step (S' := (6, [.ref 46], [.ref 46], (P_hv132 xs L))) P_i85_5 (fun _ => rfl) ?_
  refine P_wp_step (S' := (7, [.ref 46], [.int 0, .ref 46], (P_hv132 xs L))) P_i85_6 (fun _ => rfl) ?_
  refine P_wp_step (S' := (10, [.ref 46], [], (P_hv132 xs L))) P_i85_7 (fun _ => rfl) ?_
  refine P_wp_step (S' := (11, [.ref 46], [.ref 46], (P_hv132 xs L))) P_i85_10 (fun _ => rfl) ?_
  refine P_wp_step (S' := (12, [.ref 46], [.int 0, .ref 46], (P_hv132 xs L))) P_i85_11 (fun _ => rfl) ?_
  refine P_wp_step (S' := (15, [.ref 46], [], (P_hv132 xs L))) P_i85_12 (fun _ => rfl) ?_
  refine P_wp_step (S' := (16, [.ref 46], [.ref 46], (P_hv132 xs L))) P_i85_15 (fun _ => rfl) ?_
  refine P_wp_step (S' := (17, [.ref 46], [.int 0, .ref 46], (P_hv132 xs L))) P_i85_16 (fun _ => rfl) ?_
  refine P_wp_step (S' := (20, [.ref 46], [], (P_hv132 xs L))) P_i85_17 (fun _ => rfl) ?_
  refine P_wp_end (x := (.inl none, (P_hv132 xs L))) P_i85_20 (fun _ => rfl) ?_
  exact q

set_option maxRecDepth 20000 in
theorem P_x143 (xs : Nat → Int32) (L : Nat) {Q : P_R → P_H → Prop} (q : Q (.inl none) (P_hv132 xs L)) : P_wp P_Y0 197 2 (0, [.ref 33], [], (P_hv132 xs L)) Q := by
  refine P_wp_step (S' := (1, [.ref 33], [.ref 33], (P_hv132 xs L))) P_i2_0 (fun _ => rfl) ?_
  refine P_wp_step (S' := (2, [.ref 33], [.int 0, .ref 33], (P_hv132 xs L))) P_i2_1 (fun _ => rfl) ?_
  refine P_wp_step (S' := (5, [.ref 33], [], (P_hv132 xs L))) P_i2_2 (fun _ => rfl) ?_
  refine P_wp_end (x := (.inl none, (P_hv132 xs L))) P_i2_5 (fun _ => rfl) ?_
  exact q

set_option maxRecDepth 20000 in
theorem P_x144 (xs : Nat → Int32) (L : Nat) {Q : P_R → P_H → Prop} (q : Q (.inl none) (P_hv132 xs L)) : P_wp P_Y0 198 170 (0, [.ref 2], [], (P_hv132 xs L)) Q := by
  refine P_wp_step (S' := (1, [.ref 2], [.ref 2], (P_hv132 xs L))) P_i170_0 (fun _ => rfl) ?_
  refine P_wp_step (S' := (4, [.ref 2], [.ref 46], (P_hv132 xs L))) P_i170_1 (fun _ => rfl) ?_
  refine P_wp_call P_i170_4 rfl rfl rfl rfl rfl rfl rfl (y2 := 85) (as := [.ref 46]) (r0 := []) rfl (Nat.le_of_ble_eq_true rfl) (by decide) rfl (Nat.le_of_ble_eq_true rfl) (P_x142 xs L (?_))
  show P_wp P_Y0 198 170 (7, [.ref 2], [], (P_hv132 xs L)) _
  refine P_wp_step (S' := (8, [.ref 2], [.ref 2], (P_hv132 xs L))) P_i170_7 (fun _ => rfl) ?_
  refine P_wp_step (S' := (11, [.ref 2], [.ref 33], (P_hv132 xs L))) P_i170_8 (fun _ => rfl) ?_
  refine P_wp_call P_i170_11 rfl rfl rfl rfl rfl rfl rfl (y2 := 2) (as := [.ref 33]) (r0 := []) rfl (Nat.le_of_ble_eq_true rfl) (by decide) rfl (Nat.le_of_ble_eq_true rfl) (P_x143 xs L (?_))
  show P_wp P_Y0 198 170 (14, [.ref 2], [], (P_hv132 xs L)) _
  refine P_wp_end (x := (.inl none, (P_hv132 xs L))) P_i170_14 (fun _ => rfl) ?_
  exact q

set_option maxRecDepth 20000 in
theorem P_x145 (xs : Nat → Int32) (L : Nat) {Q : P_R → P_H → Prop} (q : Q (.inl (some (.int 0))) (P_hv132 xs L)) : P_wp P_Y0 199 143 (0, [.ref 2, P_un], [], (P_hv132 xs L)) Q := by
  refine P_wp_step (S' := (1, [.ref 2, P_un], [.ref 2], (P_hv132 xs L))) P_i143_0 (fun _ => rfl) ?_
  refine P_wp_step (S' := (4, [.ref 2, P_un], [.ref 31], (P_hv132 xs L))) P_i143_1 (fun _ => rfl) ?_
  refine P_wp_call P_i143_4 rfl rfl rfl rfl rfl rfl rfl (y2 := 91) (as := [.ref 31]) (r0 := []) rfl (Nat.le_of_ble_eq_true rfl) (by decide) rfl (Nat.le_of_ble_eq_true rfl) (P_x139 xs L (?_))
  show P_wp P_Y0 199 143 (7, [.ref 2, P_un], [.int 0], (P_hv132 xs L)) _
  refine P_wp_step (S' := (8, [.ref 2, .int 0], [], (P_hv132 xs L))) P_i143_7 (fun _ => rfl) ?_
  refine P_wp_step (S' := (9, [.ref 2, .int 0], [.ref 2], (P_hv132 xs L))) P_i143_8 (fun _ => rfl) ?_
  refine P_wp_step (S' := (12, [.ref 2, .int 0], [.ref 31], (P_hv132 xs L))) P_i143_9 (fun _ => rfl) ?_
  refine P_wp_call P_i143_12 rfl rfl rfl rfl rfl rfl rfl (y2 := 95) (as := [.ref 31]) (r0 := []) rfl (Nat.le_of_ble_eq_true rfl) (by decide) rfl (Nat.le_of_ble_eq_true rfl) (P_x141 xs L (?_))
  show P_wp P_Y0 199 143 (15, [.ref 2, .int 0], [], (P_hv132 xs L)) _
  refine P_wp_step (S' := (16, [.ref 2, .int 0], [.ref 2], (P_hv132 xs L))) P_i143_15 (fun _ => rfl) ?_
  refine P_wp_call P_i143_16 rfl rfl rfl rfl rfl rfl rfl (y2 := 170) (as := [.ref 2]) (r0 := []) rfl (Nat.le_of_ble_eq_true rfl) (by decide) rfl (Nat.le_of_ble_eq_true rfl) (P_x144 xs L (?_))
  show P_wp P_Y0 199 143 (19, [.ref 2, .int 0], [], (P_hv132 xs L)) _
  refine P_wp_step (S' := (20, [.ref 2, .int 0], [.int 0], (P_hv132 xs L))) P_i143_19 (fun _ => rfl) ?_
  refine P_wp_end (x := (.inl (some (.int 0)), (P_hv132 xs L))) P_i143_20 (fun _ => rfl) ?_
  exact q

set_option maxRecDepth 20000 in
theorem P_x146 (xs : Nat → Int32) (L : Nat) {Q : P_R → P_H → Prop} (q : Q (.inl none) (P_hv132 xs L)) : P_wp P_Y0 198 190 (0, [.ref 47], [], (P_hv132 xs L)) Q := by
  refine P_wp_step (S' := (1, [.ref 47], [.ref 47], (P_hv132 xs L))) P_i190_0 (fun _ => rfl) ?_
  refine P_wp_step (S' := (2, [.ref 47], [.int 0, .ref 47], (P_hv132 xs L))) P_i190_1 (fun _ => rfl) ?_
  refine P_wp_step (S' := (5, [.ref 47], [], (P_hv132 xs L))) P_i190_2 (fun _ => rfl) ?_
  refine P_wp_step (S' := (6, [.ref 47], [.ref 47], (P_hv132 xs L))) P_i190_5 (fun _ => rfl) ?_
  refine P_wp_step (S' := (7, [.ref 47], [.int 0, .ref 47], (P_hv132 xs L))) P_i190_6 (fun _ => rfl) ?_
  refine P_wp_step (S' := (10, [.ref 47], [], (P_hv132 xs L))) P_i190_7 (fun _ => rfl) ?_
  refine P_wp_end (x := (.inl none, (P_hv132 xs L))) P_i190_10 (fun _ => rfl) ?_
  exact q

set_option maxRecDepth 20000 in
theorem P_x147 (xs : Nat → Int32) (L : Nat) {Q : P_R → P_H → Prop} (q : Q (.inl (some (.int 0))) (P_hv132 xs L)) : P_wp P_Y0 198 185 (0, [.ref 47, .int 0], [], (P_hv132 xs L)) Q := by
  refine P_wp_step (S' := (1, [.ref 47, .int 0], [.ref 47], (P_hv132 xs L))) P_i185_0 (fun _ => rfl) ?_
  refine P_wp_step (S' := (2, [.ref 47, .int 0], [.int 0, .ref 47], (P_hv132 xs L))) P_i185_1 (fun _ => rfl) ?_
  refine P_wp_step (S' := (5, [.ref 47, .int 0], [], (P_hv132 xs L))) P_i185_2 (fun _ => rfl) ?_
  refine P_wp_step (S' := (6, [.ref 47, .int 0], [.int 0], (P_hv132 xs L))) P_i185_5 (fun _ => rfl) ?_
  refine P_wp_end (x := (.inl (some (.int 0)), (P_hv132 xs L))) P_i185_6 (fun _ => rfl) ?_
  exact q

set_option maxRecDepth 20000 in
theorem P_x148 (xs : Nat → Int32) (L : Nat) {Q : P_R → P_H → Prop} (q : Q (.inl (some (.int 0))) (P_hv132 xs L)) : P_wp P_Y0 199 196 (0, [.ref 47, P_un], [], (P_hv132 xs L)) Q := by
  refine P_wp_step (S' := (1, [.ref 47, P_un], [.ref 47], (P_hv132 xs L))) P_i196_0 (fun _ => rfl) ?_
  refine P_wp_step (S' := (4, [.ref 47, P_un], [.int 0], (P_hv132 xs L))) P_i196_1 (fun _ => rfl) ?_
  refine P_wp_step (S' := (5, [.ref 47, .int 0], [], (P_hv132 xs L))) P_i196_4 (fun _ => rfl) ?_
  refine P_wp_step (S' := (6, [.ref 47, .int 0], [.ref 47], (P_hv132 xs L))) P_i196_5 (fun _ => rfl) ?_
  refine P_wp_step (S' := (7, [.ref 47, .int 0], [.int 0, .ref 47], (P_hv132 xs L))) P_i196_6 (fun _ => rfl) ?_
  refine P_wp_step (S' := (10, [.ref 47, .int 0], [], (P_hv132 xs L))) P_i196_7 (fun _ => rfl) ?_
  refine P_wp_step (S' := (11, [.ref 47, .int 0], [.ref 47], (P_hv132 xs L))) P_i196_10 (fun _ => rfl) ?_
  refine P_wp_step (S' := (12, [.ref 47, .int 0], [.int 0, .ref 47], (P_hv132 xs L))) P_i196_11 (fun _ => rfl) ?_
  refine P_wp_step (S' := (15, [.ref 47, .int 0], [], (P_hv132 xs L))) P_i196_12 (fun _ => rfl) ?_
  refine P_wp_step (S' := (16, [.ref 47, .int 0], [.ref 47], (P_hv132 xs L))) P_i196_15 (fun _ => rfl) ?_
  refine P_wp_step (S' := (17, [.ref 47, .int 0], [.int (-1), .ref 47], (P_hv132 xs L))) P_i196_16 (fun _ => rfl) ?_
  refine P_wp_step (S' := (20, [.ref 47, .int 0], [], (P_hv132 xs L))) P_i196_17 (fun _ => rfl) ?_
  refine P_wp_step (S' := (21, [.ref 47, .int 0], [.ref 47], (P_hv132 xs L))) P_i196_20 (fun _ => rfl) ?_
  refine P_wp_call P_i196_21 rfl rfl rfl rfl rfl rfl rfl (y2 := 190) (as := [.ref 47]) (r0 := []) rfl (Nat.le_of_ble_eq_true rfl) (by decide) rfl (Nat.le_of_ble_eq_true rfl) (P_x146 xs L (?_))
  show P_wp P_Y0 199 196 (24, [.ref 47, .int 0], [], (P_hv132 xs L)) _
  refine P_wp_step (S' := (25, [.ref 47, .int 0], [.ref 47], (P_hv132 xs L))) P_i196_24 (fun _ => rfl) ?_
  refine P_wp_step (S' := (26, [.ref 47, .int 0], [.int 0, .ref 47], (P_hv132 xs L))) P_i196_25 (fun _ => rfl) ?_
  refine P_wp_call P_i196_26 rfl rfl rfl rfl rfl rfl rfl (y2 := 185) (as := [.ref 47, .int 0]) (r0 := []) rfl (Nat.le_of_ble_eq_true rfl) (by decide) rfl (Nat.le_of_ble_eq_true rfl) (P_x147 xs L (?_))
  show P_wp P_Y0 199 196 (29, [.ref 47, .int 0], [.int 0], (P_hv132 xs L)) _
  refine P_wp_end (x := (.inl (some (.int 0)), (P_hv132 xs L))) P_i196_29 (fun _ => rfl) ?_
  exact q

set_option maxRecDepth 20000 in
theorem P_x149 (xs : Nat → Int32) (L : Nat) {Q : P_R → P_H → Prop} (q : Q (.inl none) (P_hv154 xs L)) : P_wp P_Y0 197 23 (0, [.ref 8], [], (P_hv132 xs L)) Q := by
  refine P_wp_step (S' := (1, [.ref 8], [.ref 8], (P_hv132 xs L))) P_i23_0 (fun _ => rfl) ?_
  refine P_wp_step (S' := (2, [.ref 8], [.int 0, .ref 8], (P_hv132 xs L))) P_i23_1 (fun _ => rfl) ?_
  refine P_wp_step (S' := (5, [.ref 8], [], (P_hv132 xs L))) P_i23_2 (fun _ => rfl) ?_
  refine P_wp_step (S' := (6, [.ref 8], [.ref 8], (P_hv132 xs L))) P_i23_5 (fun _ => rfl) ?_
  refine P_wp_step (S' := (7, [.ref 8], [.int 0, .ref 8], (P_hv132 xs L))) P_i23_6 (fun _ => rfl) ?_
  refine P_wp_step (S' := (10, [.ref 8], [], (P_hv132 xs L))) P_i23_7 (fun _ => rfl) ?_
  refine P_wp_step (S' := (11, [.ref 8], [.ref 8], (P_hv132 xs L))) P_i23_10 (fun _ => rfl) ?_
  refine P_wp_step (S' := (12, [.ref 8], [.int (-1), .ref 8], (P_hv132 xs L))) P_i23_11 (fun _ => rfl) ?_
  refine P_wp_step (S' := (15, [.ref 8], [], (P_hv152 xs L))) P_i23_12 (fun _ => rfl) ?_
  refine P_wp_step (S' := (16, [.ref 8], [.ref 8], (P_hv152 xs L))) P_i23_15 (fun _ => rfl) ?_
  refine P_wp_step (S' := (17, [.ref 8], [.int (-1), .ref 8], (P_hv152 xs L))) P_i23_16 (fun _ => rfl) ?_
  refine P_wp_step (S' := (20, [.ref 8], [], (P_hv153 xs L))) P_i23_17 (fun _ => rfl) ?_
  refine P_wp_step (S' := (21, [.ref 8], [.ref 8], (P_hv153 xs L))) P_i23_20 (fun _ => rfl) ?_
  refine P_wp_step (S' := (23, [.ref 8], [.int 1000000000, .ref 8], (P_hv153 xs L))) P_i23_21 (fun _ => rfl) ?_
  refine P_wp_step (S' := (26, [.ref 8], [], (P_hv154 xs L))) P_i23_23 (fun _ => rfl) ?_
  refine P_wp_end (x := (.inl none, (P_hv154 xs L))) P_i23_26 (fun _ => rfl) ?_
  exact q

set_option maxRecDepth 20000 in
theorem P_x150 (xs : Nat → Int32) (L : Nat) {Q : P_R → P_H → Prop} (q : Q (.inl (some (.int 0))) (P_hv154 xs L)) : P_wp P_Y0 195 179 (0, [.ref 1, .int 0], [], (P_hv154 xs L)) Q := by
  refine P_wp_step (S' := (1, [.ref 1, .int 0], [.int 0], (P_hv154 xs L))) P_i179_0 (fun _ => rfl) ?_
  refine P_wp_izf P_i179_1 P_b24 (show P_wp P_Y0 195 179 (4, [.ref 1, .int 0], [], (P_hv154 xs L)) _ from ?_)
  refine P_wp_step (S' := (5, [.ref 1, .int 0], [.int 0], (P_hv154 xs L))) P_i179_4 (fun _ => rfl) ?_
  refine P_wp_step (S' := (6, [.ref 1, .int 0], [.ref 1, .int 0], (P_hv154 xs L))) P_i179_5 (fun _ => rfl) ?_
  refine P_wp_step (S' := (7, [.ref 1, .int 0], [.int 18, .int 0], (P_hv154 xs L))) P_i179_6 (fun _ => rfl) ?_
  refine P_wp_icf P_i179_7 P_b33 (show P_wp P_Y0 195 179 (10, [.ref 1, .int 0], [], (P_hv154 xs L)) _ from ?_)
  refine P_wp_step (S' := (11, [.ref 1, .int 0], [.ref 1], (P_hv154 xs L))) P_i179_10 (fun _ => rfl) ?_
  refine P_wp_step (S' := (12, [.ref 1, .int 0], [.int 0, .ref 1], (P_hv154 xs L))) P_i179_11 (fun _ => rfl) ?_
  refine P_wp_step (S' := (13, [.ref 1, .int 0], [.int 0], (P_hv154 xs L))) P_i179_12 (fun _ => rfl) ?_
  refine P_wp_step (S' := (17, [.ref 1, .int 0], [.int 0], (P_hv154 xs L))) P_i179_13 (fun _ => rfl) ?_
  refine P_wp_end (x := (.inl (some (.int 0)), (P_hv154 xs L))) P_i179_17 (fun _ => rfl) ?_
  exact q

set_option maxRecDepth 20000 in
theorem P_x151 (xs : Nat → Int32) (L : Nat) {Q : P_R → P_H → Prop} (q : Q (.inl (some (.int 1))) (P_hv155 xs L)) : P_wp P_Y0 195 179 (0, [.ref 1, .int 1], [], (P_hv155 xs L)) Q := by
  refine P_wp_step (S' := (1, [.ref 1, .int 1], [.int 1], (P_hv155 xs L))) P_i179_0 (fun _ => rfl) ?_
  refine P_wp_izf P_i179_1 P_b35 (show P_wp P_Y0 195 179 (4, [.ref 1, .int 1], [], (P_hv155 xs L)) _ from ?_)
  refine P_wp_step (S' := (5, [.ref 1, .int 1], [.int 1], (P_hv155 xs L))) P_i179_4 (fun _ => rfl) ?_
  refine P_wp_step (S' := (6, [.ref 1, .int 1], [.ref 1, .int 1], (P_hv155 xs L))) P_i179_5 (fun _ => rfl) ?_
  refine P_wp_step (S' := (7, [.ref 1, .int 1], [.int 18, .int 1], (P_hv155 xs L))) P_i179_6 (fun _ => rfl) ?_
  refine P_wp_icf P_i179_7 P_b36 (show P_wp P_Y0 195 179 (10, [.ref 1, .int 1], [], (P_hv155 xs L)) _ from ?_)
  refine P_wp_step (S' := (11, [.ref 1, .int 1], [.ref 1], (P_hv155 xs L))) P_i179_10 (fun _ => rfl) ?_
  refine P_wp_step (S' := (12, [.ref 1, .int 1], [.int 1, .ref 1], (P_hv155 xs L))) P_i179_11 (fun _ => rfl) ?_
  refine P_wp_step (S' := (13, [.ref 1, .int 1], [.int 1], (P_hv155 xs L))) P_i179_12 (fun _ => rfl) ?_
  refine P_wp_step (S' := (17, [.ref 1, .int 1], [.int 1], (P_hv155 xs L))) P_i179_13 (fun _ => rfl) ?_
  refine P_wp_end (x := (.inl (some (.int 1)), (P_hv155 xs L))) P_i179_17 (fun _ => rfl) ?_
  exact q

set_option maxRecDepth 20000 in
theorem P_x152 (xs : Nat → Int32) (L : Nat) {Q : P_R → P_H → Prop} (q : Q (.inl (some (.int 2))) (P_hv156 xs L)) : P_wp P_Y0 195 179 (0, [.ref 1, .int 2], [], (P_hv156 xs L)) Q := by
  refine P_wp_step (S' := (1, [.ref 1, .int 2], [.int 2], (P_hv156 xs L))) P_i179_0 (fun _ => rfl) ?_
  refine P_wp_izf P_i179_1 P_b38 (show P_wp P_Y0 195 179 (4, [.ref 1, .int 2], [], (P_hv156 xs L)) _ from ?_)
  refine P_wp_step (S' := (5, [.ref 1, .int 2], [.int 2], (P_hv156 xs L))) P_i179_4 (fun _ => rfl) ?_
  refine P_wp_step (S' := (6, [.ref 1, .int 2], [.ref 1, .int 2], (P_hv156 xs L))) P_i179_5 (fun _ => rfl) ?_
  refine P_wp_step (S' := (7, [.ref 1, .int 2], [.int 18, .int 2], (P_hv156 xs L))) P_i179_6 (fun _ => rfl) ?_
  refine P_wp_icf P_i179_7 P_b39 (show P_wp P_Y0 195 179 (10, [.ref 1, .int 2], [], (P_hv156 xs L)) _ from ?_)
  refine P_wp_step (S' := (11, [.ref 1, .int 2], [.ref 1], (P_hv156 xs L))) P_i179_10 (fun _ => rfl) ?_
  refine P_wp_step (S' := (12, [.ref 1, .int 2], [.int 2, .ref 1], (P_hv156 xs L))) P_i179_11 (fun _ => rfl) ?_
  refine P_wp_step (S' := (13, [.ref 1, .int 2], [.int 2], (P_hv156 xs L))) P_i179_12 (fun _ => rfl) ?_
  refine P_wp_step (S' := (17, [.ref 1, .int 2], [.int 2], (P_hv156 xs L))) P_i179_13 (fun _ => rfl) ?_
  refine P_wp_end (x := (.inl (some (.int 2)), (P_hv156 xs L))) P_i179_17 (fun _ => rfl) ?_
  exact q

set_option maxRecDepth 20000 in
theorem P_x153 (xs : Nat → Int32) (L : Nat) {Q : P_R → P_H → Prop} (q : Q (.inl none) (P_hv157 xs L)) : P_wp P_Y0 196 82 (0, [.ref 15, .int 0, P_un], [], (P_hv154 xs L)) Q := by
  refine P_wp_step (S' := (1, [.ref 15, .int 0, P_un], [.int 0], (P_hv154 xs L))) P_i82_0 (fun _ => rfl) ?_
  refine P_wp_step (S' := (2, [.ref 15, .int 0, .int 0], [], (P_hv154 xs L))) P_i82_1 (fun _ => rfl) ?_
  refine P_wp_step (S' := (3, [.ref 15, .int 0, .int 0], [.int 0], (P_hv154 xs L))) P_i82_2 (fun _ => rfl) ?_
  refine P_wp_step (S' := (4, [.ref 15, .int 0, .int 0], [.ref 15, .int 0], (P_hv154 xs L))) P_i82_3 (fun _ => rfl) ?_
  refine P_wp_step (S' := (7, [.ref 15, .int 0, .int 0], [.ref 30, .int 0], (P_hv154 xs L))) P_i82_4 (fun _ => rfl) ?_
  refine P_wp_step (S' := (8, [.ref 15, .int 0, .int 0], [.int 3, .int 0], (P_hv154 xs L))) P_i82_7 (fun _ => rfl) ?_
  refine P_wp_icf P_i82_8 P_b32 (show P_wp P_Y0 196 82 (11, [.ref 15, .int 0, .int 0], [], (P_hv154 xs L)) _ from ?_)
  refine P_wp_step (S' := (12, [.ref 15, .int 0, .int 0], [.ref 15], (P_hv154 xs L))) P_i82_11 (fun _ => rfl) ?_
  refine P_wp_step (S' := (15, [.ref 15, .int 0, .int 0], [.ref 30], (P_hv154 xs L))) P_i82_12 (fun _ => rfl) ?_
  refine P_wp_step (S' := (16, [.ref 15, .int 0, .int 0], [.int 0, .ref 30], (P_hv154 xs L))) P_i82_15 (fun _ => rfl) ?_
  refine P_wp_step (S' := (19, [.ref 15, .int 0, .int 0], [.ref 1, .int 0, .ref 30], (P_hv154 xs L))) P_i82_16 (fun _ => rfl) ?_
  refine P_wp_step (S' := (20, [.ref 15, .int 0, .int 0], [.int 0, .ref 1, .int 0, .ref 30], (P_hv154 xs L))) P_i82_19 (fun _ => rfl) ?_
  refine P_wp_step (S' := (21, [.ref 15, .int 0, .int 0], [.int 0, .int 0, .ref 1, .int 0, .ref 30], (P_hv154 xs L))) P_i82_20 (fun _ => rfl) ?_
  refine P_wp_step (S' := (22, [.ref 15, .int 0, .int 0], [.int 0, .ref 1, .int 0, .ref 30], (P_hv154 xs L))) P_i82_21 (fun _ => rfl) ?_
  refine P_wp_call P_i82_22 rfl rfl rfl rfl rfl rfl rfl (y2 := 179) (as := [.ref 1, .int 0]) (r0 := [.int 0, .ref 30]) rfl (Nat.le_of_ble_eq_true rfl) (by decide) rfl (Nat.le_of_ble_eq_true rfl) (P_x150 xs L (?_))
  show P_wp P_Y0 196 82 (25, [.ref 15, .int 0, .int 0], [.int 0, .int 0, .ref 30], (P_hv154 xs L)) _
  refine P_wp_step (S' := (26, [.ref 15, .int 0, .int 0], [], (P_hv155 xs L))) P_i82_25 (fun _ => rfl) ?_
  refine P_wp_step (S' := (29, [.ref 15, .int 0, .int 1], [], (P_hv155 xs L))) P_i82_26 (fun _ => rfl) ?_
  refine P_wp_step (S' := (2, [.ref 15, .int 0, .int 1], [], (P_hv155 xs L))) P_i82_29 (fun _ => rfl) ?_
  refine P_wp_step (S' := (3, [.ref 15, .int 0, .int 1], [.int 1], (P_hv155 xs L))) P_i82_2 (fun _ => rfl) ?_
  refine P_wp_step (S' := (4, [.ref 15, .int 0, .int 1], [.ref 15, .int 1], (P_hv155 xs L))) P_i82_3 (fun _ => rfl) ?_
  refine P_wp_step (S' := (7, [.ref 15, .int 0, .int 1], [.ref 30, .int 1], (P_hv155 xs L))) P_i82_4 (fun _ => rfl) ?_
  refine P_wp_step (S' := (8, [.ref 15, .int 0, .int 1], [.int 3, .int 1], (P_hv155 xs L))) P_i82_7 (fun _ => rfl) ?_
  refine P_wp_icf P_i82_8 P_b34 (show P_wp P_Y0 196 82 (11, [.ref 15, .int 0, .int 1], [], (P_hv155 xs L)) _ from ?_)
  refine P_wp_step (S' := (12, [.ref 15, .int 0, .int 1], [.ref 15], (P_hv155 xs L))) P_i82_11 (fun _ => rfl) ?_
  refine P_wp_step (S' := (15, [.ref 15, .int 0, .int 1], [.ref 30], (P_hv155 xs L))) P_i82_12 (fun _ => rfl) ?_
  refine P_wp_step (S' := (16, [.ref 15, .int 0, .int 1], [.int 1, .ref 30], (P_hv155 xs L))) P_i82_15 (fun _ => rfl) ?_
  refine P_wp_step (S' := (19, [.ref 15, .int 0, .int 1], [.ref 1, .int 1, .ref 30], (P_hv155 xs L))) P_i82_16 (fun _ => rfl) ?_
  refine P_wp_step (S' := (20, [.ref 15, .int 0, .int 1], [.int 0, .ref 1, .int 1, .ref 30], (P_hv155 xs L))) P_i82_19 (fun _ => rfl) ?_
  refine P_wp_step (S' := (21, [.ref 15, .int 0, .int 1], [.int 1, .int 0, .ref 1, .int 1, .ref 30], (P_hv155 xs L))) P_i82_20 (fun _ => rfl) ?_
  refine P_wp_step (S' := (22, [.ref 15, .int 0, .int 1], [.int 1, .ref 1, .int 1, .ref 30], (P_hv155 xs L))) P_i82_21 (fun _ => rfl) ?_
  refine P_wp_call P_i82_22 rfl rfl rfl rfl rfl rfl rfl (y2 := 179) (as := [.ref 1, .int 1]) (r0 := [.int 1, .ref 30]) rfl (Nat.le_of_ble_eq_true rfl) (by decide) rfl (Nat.le_of_ble_eq_true rfl) (P_x151 xs L (?_))
  show P_wp P_Y0 196 82 (25, [.ref 15, .int 0, .int 1], [.int 1, .int 1, .ref 30], (P_hv155 xs L)) _
  refine P_wp_step (S' := (26, [.ref 15, .int 0, .int 1], [], (P_hv156 xs L))) P_i82_25 (fun _ => rfl) ?_
  refine P_wp_step (S' := (29, [.ref 15, .int 0, .int 2], [], (P_hv156 xs L))) P_i82_26 (fun _ => rfl) ?_
  refine P_wp_step (S' := (2, [.ref 15, .int 0, .int 2], [], (P_hv156 xs L))) P_i82_29 (fun _ => rfl) ?_
  refine P_wp_step (S' := (3, [.ref 15, .int 0, .int 2], [.int 2], (P_hv156 xs L))) P_i82_2 (fun _ => rfl) ?_
  refine P_wp_step (S' := (4, [.ref 15, .int 0, .int 2], [.ref 15, .int 2], (P_hv156 xs L))) P_i82_3 (fun _ => rfl) ?_
  refine P_wp_step (S' := (7, [.ref 15, .int 0, .int 2], [.ref 30, .int 2], (P_hv156 xs L))) P_i82_4 (fun _ => rfl) ?_
  refine P_wp_step (S' := (8, [.ref 15, .int 0, .int 2], [.int 3, .int 2], (P_hv156 xs L))) P_i82_7 (fun _ => rfl) ?_
  refine P_wp_icf P_i82_8 P_b37 (show P_wp P_Y0 196 82 (11, [.ref 15, .int 0, .int 2], [], (P_hv156 xs L)) _ from ?_)
  refine P_wp_step (S' := (12, [.ref 15, .int 0, .int 2], [.ref 15], (P_hv156 xs L))) P_i82_11 (fun _ => rfl) ?_
  refine P_wp_step (S' := (15, [.ref 15, .int 0, .int 2], [.ref 30], (P_hv156 xs L))) P_i82_12 (fun _ => rfl) ?_
  refine P_wp_step (S' := (16, [.ref 15, .int 0, .int 2], [.int 2, .ref 30], (P_hv156 xs L))) P_i82_15 (fun _ => rfl) ?_
  refine P_wp_step (S' := (19, [.ref 15, .int 0, .int 2], [.ref 1, .int 2, .ref 30], (P_hv156 xs L))) P_i82_16 (fun _ => rfl) ?_
  refine P_wp_step (S' := (20, [.ref 15, .int 0, .int 2], [.int 0, .ref 1, .int 2, .ref 30], (P_hv156 xs L))) P_i82_19 (fun _ => rfl) ?_
  refine P_wp_step (S' := (21, [.ref 15, .int 0, .int 2], [.int 2, .int 0, .ref 1, .int 2, .ref 30], (P_hv156 xs L))) P_i82_20 (fun _ => rfl) ?_
  refine P_wp_step (S' := (22, [.ref 15, .int 0, .int 2], [.int 2, .ref 1, .int 2, .ref 30], (P_hv156 xs L))) P_i82_21 (fun _ => rfl) ?_
  refine P_wp_call P_i82_22 rfl rfl rfl rfl rfl rfl rfl (y2 := 179) (as := [.ref 1, .int 2]) (r0 := [.int 2, .ref 30]) rfl (Nat.le_of_ble_eq_true rfl) (by decide) rfl (Nat.le_of_ble_eq_true rfl) (P_x152 xs L (?_))
  show P_wp P_Y0 196 82 (25, [.ref 15, .int 0, .int 2], [.int 2, .int 2, .ref 30], (P_hv156 xs L)) _
  refine P_wp_step (S' := (26, [.ref 15, .int 0, .int 2], [], (P_hv157 xs L))) P_i82_25 (fun _ => rfl) ?_
  refine P_wp_step (S' := (29, [.ref 15, .int 0, .int 3], [], (P_hv157 xs L))) P_i82_26 (fun _ => rfl) ?_
  refine P_wp_step (S' := (2, [.ref 15, .int 0, .int 3], [], (P_hv157 xs L))) P_i82_29 (fun _ => rfl) ?_
  refine P_wp_step (S' := (3, [.ref 15, .int 0, .int 3], [.int 3], (P_hv157 xs L))) P_i82_2 (fun _ => rfl) ?_
  refine P_wp_step (S' := (4, [.ref 15, .int 0, .int 3], [.ref 15, .int 3], (P_hv157 xs L))) P_i82_3 (fun _ => rfl) ?_
  refine P_wp_step (S' := (7, [.ref 15, .int 0, .int 3], [.ref 30, .int 3], (P_hv157 xs L))) P_i82_4 (fun _ => rfl) ?_
  refine P_wp_step (S' := (8, [.ref 15, .int 0, .int 3], [.int 3, .int 3], (P_hv157 xs L))) P_i82_7 (fun _ => rfl) ?_
  refine P_wp_ict P_i82_8 P_b40 (show P_wp P_Y0 196 82 (32, [.ref 15, .int 0, .int 3], [], (P_hv157 xs L)) _ from ?_)
  refine P_wp_step (S' := (33, [.ref 15, .int 0, .int 3], [.int 0], (P_hv157 xs L))) P_i82_32 (fun _ => rfl) ?_
  refine P_wp_step (S' := (34, [.ref 15, P_un, .int 0], [], (P_hv157 xs L))) P_i82_33 (fun _ => rfl) ?_
  refine P_wp_step (S' := (35, [.ref 15, P_un, .int 0], [.int 0], (P_hv157 xs L))) P_i82_34 (fun _ => rfl) ?_
  refine P_wp_step (S' := (36, [.ref 15, P_un, .int 0], [.ref 15, .int 0], (P_hv157 xs L))) P_i82_35 (fun _ => rfl) ?_
  refine P_wp_step (S' := (39, [.ref 15, P_un, .int 0], [.int 0, .int 0], (P_hv157 xs L))) P_i82_36 (fun _ => rfl) ?_
  refine P_wp_ict P_i82_39 P_b41 (show P_wp P_Y0 196 82 (65, [.ref 15, P_un, .int 0], [], (P_hv157 xs L)) _ from ?_)
  refine P_wp_end (x := (.inl none, (P_hv157 xs L))) P_i82_65 (fun _ => rfl) ?_
  exact q
