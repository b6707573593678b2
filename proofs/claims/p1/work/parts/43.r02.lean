/-! p1: runs, written by wip/p1.py -/
set_option maxRecDepth 20000 in
theorem P_x154 (xs : Nat → Int32) (L : Nat) {Q : P_R → P_H → Prop} (q : Q (.inl none) (P_hv157 xs L)) : P_wp P_Y0 197 54 (0, [.ref 15], [], (P_hv154 xs L)) Q := by
  refine P_wp_step (S' := (1, [.ref 15], [.ref 15], (P_hv154 xs L))) P_i54_0 (fun _ => rfl) ?_
  refine P_wp_step (S' := (2, [.ref 15], [.int 0, .ref 15], (P_hv154 xs L))) P_i54_1 (fun _ => rfl) ?_
  refine P_wp_step (S' := (5, [.ref 15], [], (P_hv154 xs L))) P_i54_2 (fun _ => rfl) ?_
  refine P_wp_step (S' := (6, [.ref 15], [.ref 15], (P_hv154 xs L))) P_i54_5 (fun _ => rfl) ?_
  refine P_wp_step (S' := (7, [.ref 15], [.int 0, .ref 15], (P_hv154 xs L))) P_i54_6 (fun _ => rfl) ?_
  refine P_wp_step (S' := (10, [.ref 15], [], (P_hv154 xs L))) P_i54_7 (fun _ => rfl) ?_
  refine P_wp_step (S' := (11, [.ref 15], [.ref 15], (P_hv154 xs L))) P_i54_10 (fun _ => rfl) ?_
  refine P_wp_step (S' := (12, [.ref 15], [.int 0, .ref 15], (P_hv154 xs L))) P_i54_11 (fun _ => rfl) ?_
  refine P_wp_call P_i54_12 rfl rfl rfl rfl rfl rfl rfl (y2 := 82) (as := [.ref 15, .int 0]) (r0 := []) rfl (Nat.le_of_ble_eq_true rfl) (by decide) rfl (Nat.le_of_ble_eq_true rfl) (P_x153 xs L (?_))
  show P_wp P_Y0 197 54 (15, [.ref 15], [], (P_hv157 xs L)) _
  refine P_wp_end (x := (.inl none, (P_hv157 xs L))) P_i54_15 (fun _ => rfl) ?_
  exact q

set_option maxRecDepth 20000 in
theorem P_x155 (xs : Nat → Int32) (L : Nat) {Q : P_R → P_H → Prop} (q : Q (.inl (some (.int (-1)))) (P_hv157 xs L)) : P_wp P_Y0 196 110 (0, [.ref 31], [], (P_hv157 xs L)) Q := by
  refine P_wp_step (S' := (1, [.ref 31], [.ref 31], (P_hv157 xs L))) P_i110_0 (fun _ => rfl) ?_
  refine P_wp_step (S' := (4, [.ref 31], [.int 0], (P_hv157 xs L))) P_i110_1 (fun _ => rfl) ?_
  refine P_wp_step (S' := (5, [.ref 31], [.ref 31, .int 0], (P_hv157 xs L))) P_i110_4 (fun _ => rfl) ?_
  refine P_wp_step (S' := (8, [.ref 31], [.int 0, .int 0], (P_hv157 xs L))) P_i110_5 (fun _ => rfl) ?_
  refine P_wp_ict P_i110_8 P_b41 (show P_wp P_Y0 196 110 (25, [.ref 31], [], (P_hv157 xs L)) _ from ?_)
  refine P_wp_step (S' := (26, [.ref 31], [.int (-1)], (P_hv157 xs L))) P_i110_25 (fun _ => rfl) ?_
  refine P_wp_end (x := (.inl (some (.int (-1))), (P_hv157 xs L))) P_i110_26 (fun _ => rfl) ?_
  exact q

set_option maxRecDepth 20000 in
theorem P_x156 (xs : Nat → Int32) (L : Nat) {Q : P_R → P_H → Prop} (q : Q (.inl (some (.int 0))) (P_hv159 xs L)) : P_wp P_Y0 196 112 (0, [.ref 31, .int 1, .int 0], [], (P_hv157 xs L)) Q := by
  refine P_wp_step (S' := (1, [.ref 31, .int 1, .int 0], [.ref 31], (P_hv157 xs L))) P_i112_0 (fun _ => rfl) ?_
  refine P_wp_step (S' := (2, [.ref 31, .int 1, .int 0], [.int 1, .ref 31], (P_hv157 xs L))) P_i112_1 (fun _ => rfl) ?_
  refine P_wp_step (S' := (5, [.ref 31, .int 1, .int 0], [], (P_hv158 xs L))) P_i112_2 (fun _ => rfl) ?_
  refine P_wp_step (S' := (6, [.ref 31, .int 1, .int 0], [.ref 31], (P_hv158 xs L))) P_i112_5 (fun _ => rfl) ?_
  refine P_wp_step (S' := (7, [.ref 31, .int 1, .int 0], [.int 0, .ref 31], (P_hv158 xs L))) P_i112_6 (fun _ => rfl) ?_
  refine P_wp_step (S' := (10, [.ref 31, .int 1, .int 0], [], (P_hv159 xs L))) P_i112_7 (fun _ => rfl) ?_
  refine P_wp_step (S' := (11, [.ref 31, .int 1, .int 0], [.int 0], (P_hv159 xs L))) P_i112_10 (fun _ => rfl) ?_
  refine P_wp_end (x := (.inl (some (.int 0)), (P_hv159 xs L))) P_i112_11 (fun _ => rfl) ?_
  exact q

set_option maxRecDepth 20000 in
theorem P_x157 (xs : Nat → Int32) (L : Nat) {Q : P_R → P_H → Prop} (q : Q (.inl (some (.int 0))) (P_hv159 xs L)) : P_wp P_Y0 197 98 (0, [.ref 31], [], (P_hv157 xs L)) Q := by
  refine P_wp_step (S' := (1, [.ref 31], [.ref 31], (P_hv157 xs L))) P_i98_0 (fun _ => rfl) ?_
  refine P_wp_call P_i98_1 rfl rfl rfl rfl rfl rfl rfl (y2 := 110) (as := [.ref 31]) (r0 := []) rfl (Nat.le_of_ble_eq_true rfl) (by decide) rfl (Nat.le_of_ble_eq_true rfl) (P_x155 xs L (?_))
  show P_wp P_Y0 197 98 (4, [.ref 31], [.int (-1)], (P_hv157 xs L)) _
  refine P_wp_izf P_i98_4 P_b42 (show P_wp P_Y0 197 98 (7, [.ref 31], [], (P_hv157 xs L)) _ from ?_)
  refine P_wp_step (S' := (8, [.ref 31], [.ref 31], (P_hv157 xs L))) P_i98_7 (fun _ => rfl) ?_
  refine P_wp_step (S' := (9, [.ref 31], [.int 1, .ref 31], (P_hv157 xs L))) P_i98_8 (fun _ => rfl) ?_
  refine P_wp_step (S' := (10, [.ref 31], [.ref 31, .int 1, .ref 31], (P_hv157 xs L))) P_i98_9 (fun _ => rfl) ?_
  refine P_wp_step (S' := (13, [.ref 31], [.int 0, .int 1, .ref 31], (P_hv157 xs L))) P_i98_10 (fun _ => rfl) ?_
  refine P_wp_call P_i98_13 rfl rfl rfl rfl rfl rfl rfl (y2 := 112) (as := [.ref 31, .int 1, .int 0]) (r0 := []) rfl (Nat.le_of_ble_eq_true rfl) (by decide) rfl (Nat.le_of_ble_eq_true rfl) (P_x156 xs L (?_))
  show P_wp P_Y0 197 98 (16, [.ref 31], [.int 0], (P_hv159 xs L)) _
  refine P_wp_end (x := (.inl (some (.int 0)), (P_hv159 xs L))) P_i98_16 (fun _ => rfl) ?_
  exact q

set_option maxRecDepth 20000 in
theorem P_x158 (xs : Nat → Int32) (L : Nat) {Q : P_R → P_H → Prop} (q : Q (.inl (some (.int 1))) (P_hv159 xs L)) : P_wp P_Y0 198 97 (0, [.ref 31], [], (P_hv132 xs L)) Q := by
  refine P_wp_step (S' := (1, [.ref 31], [.ref 31], (P_hv132 xs L))) P_i97_0 (fun _ => rfl) ?_
  refine P_wp_step (S' := (2, [.ref 31], [.int 0, .ref 31], (P_hv132 xs L))) P_i97_1 (fun _ => rfl) ?_
  refine P_wp_step (S' := (5, [.ref 31], [], (P_hv132 xs L))) P_i97_2 (fun _ => rfl) ?_
  refine P_wp_step (S' := (6, [.ref 31], [.ref 31], (P_hv132 xs L))) P_i97_5 (fun _ => rfl) ?_
  refine P_wp_step (S' := (7, [.ref 31], [.int 0, .ref 31], (P_hv132 xs L))) P_i97_6 (fun _ => rfl) ?_
  refine P_wp_step (S' := (10, [.ref 31], [], (P_hv132 xs L))) P_i97_7 (fun _ => rfl) ?_
  refine P_wp_step (S' := (11, [.ref 31], [.ref 31], (P_hv132 xs L))) P_i97_10 (fun _ => rfl) ?_
  refine P_wp_step (S' := (12, [.ref 31], [.int (-1), .ref 31], (P_hv132 xs L))) P_i97_11 (fun _ => rfl) ?_
  refine P_wp_step (S' := (15, [.ref 31], [], (P_hv132 xs L))) P_i97_12 (fun _ => rfl) ?_
  refine P_wp_step (S' := (16, [.ref 31], [.ref 31], (P_hv132 xs L))) P_i97_15 (fun _ => rfl) ?_
  refine P_wp_step (S' := (19, [.ref 31], [.ref 8], (P_hv132 xs L))) P_i97_16 (fun _ => rfl) ?_
  refine P_wp_call P_i97_19 rfl rfl rfl rfl rfl rfl rfl (y2 := 23) (as := [.ref 8]) (r0 := []) rfl (Nat.le_of_ble_eq_true rfl) (by decide) rfl (Nat.le_of_ble_eq_true rfl) (P_x149 xs L (?_))
  show P_wp P_Y0 198 97 (22, [.ref 31], [], (P_hv154 xs L)) _
  refine P_wp_step (S' := (23, [.ref 31], [.ref 31], (P_hv154 xs L))) P_i97_22 (fun _ => rfl) ?_
  refine P_wp_step (S' := (26, [.ref 31], [.ref 15], (P_hv154 xs L))) P_i97_23 (fun _ => rfl) ?_
  refine P_wp_call P_i97_26 rfl rfl rfl rfl rfl rfl rfl (y2 := 54) (as := [.ref 15]) (r0 := []) rfl (Nat.le_of_ble_eq_true rfl) (by decide) rfl (Nat.le_of_ble_eq_true rfl) (P_x154 xs L (?_))
  show P_wp P_Y0 198 97 (29, [.ref 31], [], (P_hv157 xs L)) _
  refine P_wp_step (S' := (30, [.ref 31], [.ref 31], (P_hv157 xs L))) P_i97_29 (fun _ => rfl) ?_
  refine P_wp_step (S' := (31, [.ref 31], [.ref 31, .ref 31], (P_hv157 xs L))) P_i97_30 (fun _ => rfl) ?_
  refine P_wp_call P_i97_31 rfl rfl rfl rfl rfl rfl rfl (y2 := 98) (as := [.ref 31]) (r0 := [.ref 31]) rfl (Nat.le_of_ble_eq_true rfl) (by decide) rfl (Nat.le_of_ble_eq_true rfl) (P_x157 xs L (?_))
  show P_wp P_Y0 198 97 (34, [.ref 31], [.int 0, .ref 31], (P_hv159 xs L)) _
  refine P_wp_izt P_i97_34 P_b27 (show P_wp P_Y0 198 97 (62, [.ref 31], [.ref 31], (P_hv159 xs L)) _ from ?_)
  refine P_wp_step (S' := (63, [.ref 31], [.int 0, .ref 31], (P_hv159 xs L))) P_i97_62 (fun _ => rfl) ?_
  refine P_wp_step (S' := (66, [.ref 31], [], (P_hv159 xs L))) P_i97_63 (fun _ => rfl) ?_
  refine P_wp_step (S' := (67, [.ref 31], [.ref 31], (P_hv159 xs L))) P_i97_66 (fun _ => rfl) ?_
  refine P_wp_step (S' := (70, [.ref 31], [.int 1], (P_hv159 xs L))) P_i97_67 (fun _ => rfl) ?_
  refine P_wp_end (x := (.inl (some (.int 1)), (P_hv159 xs L))) P_i97_70 (fun _ => rfl) ?_
  exact q

set_option maxRecDepth 20000 in
theorem P_x159 (xs : Nat → Int32) (L : Nat) {Q : P_R → P_H → Prop} (q : Q (.inl none) (P_hv159 xs L)) : P_wp P_Y0 197 85 (0, [.ref 46], [], (P_hv159 xs L)) Q := by
  refine P_wp_step (S' := (1, [.ref 46], [.ref 46], (P_hv159 xs L))) P_i85_0 (fun _ => rfl) ?_
  refine P_wp_step (S' := (2, [.ref 46], [.int 0, .ref 46], (P_hv159 xs L))) P_i85_1 (fun _ => rfl) ?_
  refine P_wp_step (S' := (5, [.ref 46], [], (P_hv159 xs L))) P_i85_2 (fun _ => rfl) ?_
  refine P_wp_step (S' := (6, [.ref 46], [.ref 46], (P_hv159 xs L))) P_i85_5 (fun _ => rfl) ?_
  refine P_wp_step (S' := (7, [.ref 46], [.int 0, .ref 46], (P_hv159 xs L))) P_i85_6 (fun _ => rfl) ?_
  refine P_wp_step (S' := (10, [.ref 46], [], (P_hv159 xs L))) P_i85_7 (fun _ => rfl) ?_
  refine P_wp_step (S' := (11, [.ref 46], [.ref 46], (P_hv159 xs L))) P_i85_10 (fun _ => rfl) ?_
  refine P_wp_step (S' := (12, [.ref 46], [.int 0, .ref 46], (P_hv159 xs L))) P_i85_11 (fun _ => rfl) ?_
  refine P_wp_step (S' := (15, [.ref 46], [], (P_hv159 xs L))) P_i85_12 (fun _ => rfl) ?_
  refine P_wp_step (S' := (16, [.ref 46], [.ref 46], (P_hv159 xs L))) P_i85_15 (fun _ => rfl) ?_
  refine P_wp_step (S' := (17, [.ref 46], [.int 0, .ref 46], (P_hv159 xs L))) P_i85_16 (fun _ => rfl) ?_
  refine P_wp_step (S' := (20, [.ref 46], [], (P_hv159 xs L))) P_i85_17 (fun _ => rfl) ?_
  refine P_wp_end (x := (.inl none, (P_hv159 xs L))) P_i85_20 (fun _ => rfl) ?_
  exact q

set_option maxRecDepth 20000 in
theorem P_x160 (xs : Nat → Int32) (L : Nat) {Q : P_R → P_H → Prop} (q : Q (.inl none) (P_hv159 xs L)) : P_wp P_Y0 197 2 (0, [.ref 33], [], (P_hv159 xs L)) Q := by
  refine P_wp_step (S' := (1, [.ref 33], [.ref 33], (P_hv159 xs L))) P_i2_0 (fun _ => rfl) ?_
  refine P_wp_step (S' := (2, [.ref 33], [.int 0, .ref 33], (P_hv159 xs L))) P_i2_1 (fun _ => rfl) ?_
  refine P_wp_step (S' := (5, [.ref 33], [], (P_hv159 xs L))) P_i2_2 (fun _ => rfl) ?_
  refine P_wp_end (x := (.inl none, (P_hv159 xs L))) P_i2_5 (fun _ => rfl) ?_
  exact q

set_option maxRecDepth 20000 in
theorem P_x161 (xs : Nat → Int32) (L : Nat) {Q : P_R → P_H → Prop} (q : Q (.inl none) (P_hv159 xs L)) : P_wp P_Y0 198 170 (0, [.ref 2], [], (P_hv159 xs L)) Q := by
  refine P_wp_step (S' := (1, [.ref 2], [.ref 2], (P_hv159 xs L))) P_i170_0 (fun _ => rfl) ?_
  refine P_wp_step (S' := (4, [.ref 2], [.ref 46], (P_hv159 xs L))) P_i170_1 (fun _ => rfl) ?_
  refine P_wp_call P_i170_4 rfl rfl rfl rfl rfl rfl rfl (y2 := 85) (as := [.ref 46]) (r0 := []) rfl (Nat.le_of_ble_eq_true rfl) (by decide) rfl (Nat.le_of_ble_eq_true rfl) (P_x159 xs L (?_))
  show P_wp P_Y0 198 170 (7, [.ref 2], [], (P_hv159 xs L)) _
  refine P_wp_step (S' := (8, [.ref 2], [.ref 2], (P_hv159 xs L))) P_i170_7 (fun _ => rfl) ?_
  refine P_wp_step (S' := (11, [.ref 2], [.ref 33], (P_hv159 xs L))) P_i170_8 (fun _ => rfl) ?_
  refine P_wp_call P_i170_11 rfl rfl rfl rfl rfl rfl rfl (y2 := 2) (as := [.ref 33]) (r0 := []) rfl (Nat.le_of_ble_eq_true rfl) (by decide) rfl (Nat.le_of_ble_eq_true rfl) (P_x160 xs L (?_))
  show P_wp P_Y0 198 170 (14, [.ref 2], [], (P_hv159 xs L)) _
  refine P_wp_end (x := (.inl none, (P_hv159 xs L))) P_i170_14 (fun _ => rfl) ?_
  exact q

set_option maxRecDepth 20000 in
theorem P_x162 (xs : Nat → Int32) (L : Nat) {Q : P_R → P_H → Prop} (q : Q (.inl (some (.int 1))) (P_hv159 xs L)) : P_wp P_Y0 199 144 (0, [.ref 2, P_un], [], (P_hv132 xs L)) Q := by
  refine P_wp_step (S' := (1, [.ref 2, P_un], [.ref 2], (P_hv132 xs L))) P_i144_0 (fun _ => rfl) ?_
  refine P_wp_step (S' := (4, [.ref 2, P_un], [.ref 31], (P_hv132 xs L))) P_i144_1 (fun _ => rfl) ?_
  refine P_wp_call P_i144_4 rfl rfl rfl rfl rfl rfl rfl (y2 := 97) (as := [.ref 31]) (r0 := []) rfl (Nat.le_of_ble_eq_true rfl) (by decide) rfl (Nat.le_of_ble_eq_true rfl) (P_x158 xs L (?_))
  show P_wp P_Y0 199 144 (7, [.ref 2, P_un], [.int 1], (P_hv159 xs L)) _
  refine P_wp_step (S' := (8, [.ref 2, .int 1], [], (P_hv159 xs L))) P_i144_7 (fun _ => rfl) ?_
  refine P_wp_step (S' := (9, [.ref 2, .int 1], [.ref 2], (P_hv159 xs L))) P_i144_8 (fun _ => rfl) ?_
  refine P_wp_call P_i144_9 rfl rfl rfl rfl rfl rfl rfl (y2 := 170) (as := [.ref 2]) (r0 := []) rfl (Nat.le_of_ble_eq_true rfl) (by decide) rfl (Nat.le_of_ble_eq_true rfl) (P_x161 xs L (?_))
  show P_wp P_Y0 199 144 (12, [.ref 2, .int 1], [], (P_hv159 xs L)) _
  refine P_wp_step (S' := (13, [.ref 2, .int 1], [.int 1], (P_hv159 xs L))) P_i144_12 (fun _ => rfl) ?_
  refine P_wp_end (x := (.inl (some (.int 1)), (P_hv159 xs L))) P_i144_13 (fun _ => rfl) ?_
  exact q

set_option maxRecDepth 20000 in
theorem P_x163 (xs : Nat → Int32) (L : Nat) {Q : P_R → P_H → Prop} (q : Q (.inl none) (P_hv159 xs L)) : P_wp P_Y0 198 190 (0, [.ref 47], [], (P_hv159 xs L)) Q := by
  refine P_wp_step (S' := (1, [.ref 47], [.ref 47], (P_hv159 xs L))) P_i190_0 (fun _ => rfl) ?_
  refine P_wp_step (S' := (2, [.ref 47], [.int 0, .ref 47], (P_hv159 xs L))) P_i190_1 (fun _ => rfl) ?_
  refine P_wp_step (S' := (5, [.ref 47], [], (P_hv159 xs L))) P_i190_2 (fun _ => rfl) ?_
  refine P_wp_step (S' := (6, [.ref 47], [.ref 47], (P_hv159 xs L))) P_i190_5 (fun _ => rfl) ?_
  refine P_wp_step (S' := (7, [.ref 47], [.int 0, .ref 47], (P_hv159 xs L))) P_i190_6 (fun _ => rfl) ?_
  refine P_wp_step (S' := (10, [.ref 47], [], (P_hv159 xs L))) P_i190_7 (fun _ => rfl) ?_
  refine P_wp_end (x := (.inl none, (P_hv159 xs L))) P_i190_10 (fun _ => rfl) ?_
  exact q

set_option maxRecDepth 20000 in
theorem P_x164 (xs : Nat → Int32) (L : Nat) {Q : P_R → P_H → Prop} (q : Q (.inl (some (.int (-1)))) (P_hv159 xs L)) : P_wp P_Y0 195 197 (0, [.ref 47], [], (P_hv159 xs L)) Q := by
  refine P_wp_step (S' := (1, [.ref 47], [.ref 47], (P_hv159 xs L))) P_i197_0 (fun _ => rfl) ?_
  refine P_wp_step (S' := (4, [.ref 47], [.int 0], (P_hv159 xs L))) P_i197_1 (fun _ => rfl) ?_
  refine P_wp_step (S' := (5, [.ref 47], [.ref 47, .int 0], (P_hv159 xs L))) P_i197_4 (fun _ => rfl) ?_
  refine P_wp_step (S' := (8, [.ref 47], [.int 0, .int 0], (P_hv159 xs L))) P_i197_5 (fun _ => rfl) ?_
  refine P_wp_ict P_i197_8 P_b41 (show P_wp P_Y0 195 197 (23, [.ref 47], [], (P_hv159 xs L)) _ from ?_)
  refine P_wp_step (S' := (24, [.ref 47], [.int (-1)], (P_hv159 xs L))) P_i197_23 (fun _ => rfl) ?_
  refine P_wp_end (x := (.inl (some (.int (-1))), (P_hv159 xs L))) P_i197_24 (fun _ => rfl) ?_
  exact q

set_option maxRecDepth 20000 in
theorem P_x165 (xs : Nat → Int32) (L : Nat) {Q : P_R → P_H → Prop} (q : Q (.inl (some (.int 0))) (P_hv159 xs L)) : P_wp P_Y0 196 199 (0, [.ref 47, .int 0, P_un], [], (P_hv159 xs L)) Q := by
  refine P_wp_step (S' := (1, [.ref 47, .int 0, P_un], [.ref 47], (P_hv159 xs L))) P_i199_0 (fun _ => rfl) ?_
  refine P_wp_call P_i199_1 rfl rfl rfl rfl rfl rfl rfl (y2 := 197) (as := [.ref 47]) (r0 := []) rfl (Nat.le_of_ble_eq_true rfl) (by decide) rfl (Nat.le_of_ble_eq_true rfl) (P_x164 xs L (?_))
  show P_wp P_Y0 196 199 (4, [.ref 47, .int 0, P_un], [.int (-1)], (P_hv159 xs L)) _
  refine P_wp_step (S' := (5, [.ref 47, .int 0, P_un], [.int 0, .int (-1)], (P_hv159 xs L))) P_i199_4 (fun _ => rfl) ?_
  refine P_wp_ict P_i199_5 P_b43 (show P_wp P_Y0 196 199 (12, [.ref 47, .int 0, P_un], [], (P_hv159 xs L)) _ from ?_)
  refine P_wp_step (S' := (13, [.ref 47, .int 0, P_un], [.int 0], (P_hv159 xs L))) P_i199_12 (fun _ => rfl) ?_
  refine P_wp_step (S' := (14, [.ref 47, .int 0, .int 0], [], (P_hv159 xs L))) P_i199_13 (fun _ => rfl) ?_
  refine P_wp_step (S' := (15, [.ref 47, .int 0, .int 0], [.ref 47], (P_hv159 xs L))) P_i199_14 (fun _ => rfl) ?_
  refine P_wp_step (S' := (16, [.ref 47, .int 0, .int 0], [.ref 47, .ref 47], (P_hv159 xs L))) P_i199_15 (fun _ => rfl) ?_
  refine P_wp_step (S' := (19, [.ref 47, .int 0, .int 0], [.int 0, .ref 47], (P_hv159 xs L))) P_i199_16 (fun _ => rfl) ?_
  refine P_wp_step (S' := (20, [.ref 47, .int 0, .int 0], [.int 0, .int 0, .ref 47], (P_hv159 xs L))) P_i199_19 (fun _ => rfl) ?_
  refine P_wp_izt P_i199_20 P_b27 (show P_wp P_Y0 196 199 (27, [.ref 47, .int 0, .int 0], [.int 0, .ref 47], (P_hv159 xs L)) _ from ?_)
  refine P_wp_step (S' := (28, [.ref 47, .int 0, .int 0], [.int 0, .int 0, .ref 47], (P_hv159 xs L))) P_i199_27 (fun _ => rfl) ?_
  refine P_wp_step (S' := (29, [.ref 47, .int 0, .int 0], [.int 0, .ref 47], (P_hv159 xs L))) P_i199_28 (fun _ => rfl) ?_
  refine P_wp_step (S' := (32, [.ref 47, .int 0, .int 0], [], (P_hv159 xs L))) P_i199_29 (fun _ => rfl) ?_
  refine P_wp_step (S' := (33, [.ref 47, .int 0, .int 0], [.int 0], (P_hv159 xs L))) P_i199_32 (fun _ => rfl) ?_
  refine P_wp_end (x := (.inl (some (.int 0)), (P_hv159 xs L))) P_i199_33 (fun _ => rfl) ?_
  exact q

set_option maxRecDepth 20000 in
theorem P_x166 (xs : Nat → Int32) (L : Nat) {Q : P_R → P_H → Prop} (q : Q (.inl (some (.int 1))) (P_hv159 xs L)) : P_wp P_Y0 197 202 (0, [.ref 47, P_un], [], (P_hv159 xs L)) Q := by
  refine P_wp_step (S' := (1, [.ref 47, P_un], [.ref 47], (P_hv159 xs L))) P_i202_0 (fun _ => rfl) ?_
  refine P_wp_step (S' := (2, [.ref 47, P_un], [.int 0, .ref 47], (P_hv159 xs L))) P_i202_1 (fun _ => rfl) ?_
  refine P_wp_step (S' := (5, [.ref 47, P_un], [], (P_hv159 xs L))) P_i202_2 (fun _ => rfl) ?_
  refine P_wp_step (S' := (6, [.ref 47, P_un], [.ref 47], (P_hv159 xs L))) P_i202_5 (fun _ => rfl) ?_
  refine P_wp_step (S' := (7, [.ref 47, P_un], [.int 0, .ref 47], (P_hv159 xs L))) P_i202_6 (fun _ => rfl) ?_
  refine P_wp_call P_i202_7 rfl rfl rfl rfl rfl rfl rfl (y2 := 199) (as := [.ref 47, .int 0]) (r0 := []) rfl (Nat.le_of_ble_eq_true rfl) (by decide) rfl (Nat.le_of_ble_eq_true rfl) (P_x165 xs L (?_))
  show P_wp P_Y0 197 202 (10, [.ref 47, P_un], [.int 0], (P_hv159 xs L)) _
  refine P_wp_izf P_i202_10 P_b19 (show P_wp P_Y0 197 202 (13, [.ref 47, P_un], [], (P_hv159 xs L)) _ from ?_)
  refine P_wp_step (S' := (14, [.ref 47, P_un], [.int 1], (P_hv159 xs L))) P_i202_13 (fun _ => rfl) ?_
  refine P_wp_end (x := (.inl (some (.int 1)), (P_hv159 xs L))) P_i202_14 (fun _ => rfl) ?_
  exact q

set_option maxRecDepth 20000 in
theorem P_x167 (xs : Nat → Int32) (L : Nat) {Q : P_R → P_H → Prop} (q : Q (.inl (some (.int 1))) (P_hv159 xs L)) : P_wp P_Y0 198 208 (0, [.ref 47, P_un], [], (P_hv159 xs L)) Q := by
  refine P_wp_step (S' := (1, [.ref 47, P_un], [.ref 47], (P_hv159 xs L))) P_i208_0 (fun _ => rfl) ?_
  refine P_wp_step (S' := (2, [.ref 47, P_un], [.int 0, .ref 47], (P_hv159 xs L))) P_i208_1 (fun _ => rfl) ?_
  refine P_wp_step (S' := (5, [.ref 47, P_un], [], (P_hv159 xs L))) P_i208_2 (fun _ => rfl) ?_
  refine P_wp_step (S' := (6, [.ref 47, P_un], [.ref 47], (P_hv159 xs L))) P_i208_5 (fun _ => rfl) ?_
  refine P_wp_call P_i208_6 rfl rfl rfl rfl rfl rfl rfl (y2 := 202) (as := [.ref 47]) (r0 := []) rfl (Nat.le_of_ble_eq_true rfl) (by decide) rfl (Nat.le_of_ble_eq_true rfl) (P_x166 xs L (?_))
  show P_wp P_Y0 198 208 (9, [.ref 47, P_un], [.int 1], (P_hv159 xs L)) _
  refine P_wp_step (S' := (10, [.ref 47, .int 1], [], (P_hv159 xs L))) P_i208_9 (fun _ => rfl) ?_
  refine P_wp_step (S' := (11, [.ref 47, .int 1], [.int 1], (P_hv159 xs L))) P_i208_10 (fun _ => rfl) ?_
  refine P_wp_izt P_i208_11 P_b21 (show P_wp P_Y0 198 208 (19, [.ref 47, .int 1], [], (P_hv159 xs L)) _ from ?_)
  refine P_wp_step (S' := (20, [.ref 47, .int 1], [.int 1], (P_hv159 xs L))) P_i208_19 (fun _ => rfl) ?_
  refine P_wp_izt P_i208_20 P_b21 (show P_wp P_Y0 198 208 (28, [.ref 47, .int 1], [], (P_hv159 xs L)) _ from ?_)
  refine P_wp_step (S' := (29, [.ref 47, .int 1], [.int 1], (P_hv159 xs L))) P_i208_28 (fun _ => rfl) ?_
  refine P_wp_izt P_i208_29 P_b21 (show P_wp P_Y0 198 208 (37, [.ref 47, .int 1], [], (P_hv159 xs L)) _ from ?_)
  refine P_wp_step (S' := (38, [.ref 47, .int 1], [.int 1], (P_hv159 xs L))) P_i208_37 (fun _ => rfl) ?_
  refine P_wp_izt P_i208_38 P_b21 (show P_wp P_Y0 198 208 (48, [.ref 47, .int 1], [], (P_hv159 xs L)) _ from ?_)
  refine P_wp_step (S' := (49, [.ref 47, .int 1], [.int 1], (P_hv159 xs L))) P_i208_48 (fun _ => rfl) ?_
  refine P_wp_end (x := (.inl (some (.int 1)), (P_hv159 xs L))) P_i208_49 (fun _ => rfl) ?_
  exact q

set_option maxRecDepth 20000 in
theorem P_x168 (xs : Nat → Int32) (L : Nat) {Q : P_R → P_H → Prop} (q : Q (.inl (some (.int 1))) (P_hv163 xs L)) : P_wp P_Y0 199 209 (0, [.ref 47, P_un, P_un], [], (P_hv159 xs L)) Q := by
  refine P_wp_step (S' := (1, [.ref 47, P_un, P_un], [.ref 47], (P_hv159 xs L))) P_i209_0 (fun _ => rfl) ?_
  refine P_wp_step (S' := (2, [.ref 47, P_un, P_un], [.int 0, .ref 47], (P_hv159 xs L))) P_i209_1 (fun _ => rfl) ?_
  refine P_wp_step (S' := (5, [.ref 47, P_un, P_un], [], (P_hv159 xs L))) P_i209_2 (fun _ => rfl) ?_
  refine P_wp_step (S' := (6, [.ref 47, P_un, P_un], [.ref 47], (P_hv159 xs L))) P_i209_5 (fun _ => rfl) ?_
  refine P_wp_call P_i209_6 rfl rfl rfl rfl rfl rfl rfl (y2 := 190) (as := [.ref 47]) (r0 := []) rfl (Nat.le_of_ble_eq_true rfl) (by decide) rfl (Nat.le_of_ble_eq_true rfl) (P_x163 xs L (?_))
  show P_wp P_Y0 199 209 (9, [.ref 47, P_un, P_un], [], (P_hv159 xs L)) _
  refine P_wp_step (S' := (10, [.ref 47, P_un, P_un], [.ref 47], (P_hv159 xs L))) P_i209_9 (fun _ => rfl) ?_
  refine P_wp_call P_i209_10 rfl rfl rfl rfl rfl rfl rfl (y2 := 208) (as := [.ref 47]) (r0 := []) rfl (Nat.le_of_ble_eq_true rfl) (by decide) rfl (Nat.le_of_ble_eq_true rfl) (P_x167 xs L (?_))
  show P_wp P_Y0 199 209 (13, [.ref 47, P_un, P_un], [.int 1], (P_hv159 xs L)) _
  refine P_wp_step (S' := (14, [.ref 47, .int 1, P_un], [], (P_hv159 xs L))) P_i209_13 (fun _ => rfl) ?_
  refine P_wp_step (S' := (15, [.ref 47, .int 1, P_un], [.ref 47], (P_hv159 xs L))) P_i209_14 (fun _ => rfl) ?_
  refine P_wp_step (S' := (16, [.ref 47, .int 1, P_un], [.int 1, .ref 47], (P_hv159 xs L))) P_i209_15 (fun _ => rfl) ?_
  refine P_wp_izt P_i209_16 P_b21 (show P_wp P_Y0 199 209 (23, [.ref 47, .int 1, P_un], [.ref 47], (P_hv159 xs L)) _ from ?_)
  refine P_wp_step (S' := (24, [.ref 47, .int 1, P_un], [.int 0, .ref 47], (P_hv159 xs L))) P_i209_23 (fun _ => rfl) ?_
  refine P_wp_step (S' := (27, [.ref 47, .int 1, P_un], [], (P_hv159 xs L))) P_i209_24 (fun _ => rfl) ?_
  refine P_wp_step (S' := (28, [.ref 47, .int 1, P_un], [.ref 47], (P_hv159 xs L))) P_i209_27 (fun _ => rfl) ?_
  refine P_wp_step (S' := (29, [.ref 47, .int 1, P_un], [.ref 47, .ref 47], (P_hv159 xs L))) P_i209_28 (fun _ => rfl) ?_
  refine P_wp_step (S' := (32, [.ref 47, .int 1, P_un], [.int 0, .ref 47], (P_hv159 xs L))) P_i209_29 (fun _ => rfl) ?_
  refine P_wp_izt P_i209_32 P_b27 (show P_wp P_Y0 199 209 (39, [.ref 47, .int 1, P_un], [.ref 47], (P_hv159 xs L)) _ from ?_)
  refine P_wp_step (S' := (40, [.ref 47, .int 1, P_un], [.ref 47, .ref 47], (P_hv159 xs L))) P_i209_39 (fun _ => rfl) ?_
  refine P_wp_step (S' := (43, [.ref 47, .int 1, P_un], [.int 0, .ref 47], (P_hv159 xs L))) P_i209_40 (fun _ => rfl) ?_
  refine P_wp_step (S' := (46, [.ref 47, .int 1, P_un], [], (P_hv160 xs L))) P_i209_43 (fun _ => rfl) ?_
  refine P_wp_step (S' := (47, [.ref 47, .int 1, P_un], [.ref 47], (P_hv160 xs L))) P_i209_46 (fun _ => rfl) ?_
  refine P_wp_step (S' := (48, [.ref 47, .int 1, P_un], [.int 0, .ref 47], (P_hv160 xs L))) P_i209_47 (fun _ => rfl) ?_
  refine P_wp_step (S' := (51, [.ref 47, .int 1, P_un], [], (P_hv160 xs L))) P_i209_48 (fun _ => rfl) ?_
  refine P_wp_step (S' := (52, [.ref 47, .int 1, P_un], [.int 0], (P_hv160 xs L))) P_i209_51 (fun _ => rfl) ?_
  refine P_wp_step (S' := (53, [.ref 47, .int 1, .int 0], [], (P_hv160 xs L))) P_i209_52 (fun _ => rfl) ?_
  refine P_wp_step (S' := (54, [.ref 47, .int 1, .int 0], [.int 0], (P_hv160 xs L))) P_i209_53 (fun _ => rfl) ?_
  refine P_wp_step (S' := (55, [.ref 47, .int 1, .int 0], [.int 3, .int 0], (P_hv160 xs L))) P_i209_54 (fun _ => rfl) ?_
  refine P_wp_icf P_i209_55 P_b32 (show P_wp P_Y0 199 209 (58, [.ref 47, .int 1, .int 0], [], (P_hv160 xs L)) _ from ?_)
  refine P_wp_step (S' := (59, [.ref 47, .int 1, .int 0], [.ref 47], (P_hv160 xs L))) P_i209_58 (fun _ => rfl) ?_
  refine P_wp_step (S' := (62, [.ref 47, .int 1, .int 0], [.ref 59], (P_hv160 xs L))) P_i209_59 (fun _ => rfl) ?_
  refine P_wp_step (S' := (63, [.ref 47, .int 1, .int 0], [.int 0, .ref 59], (P_hv160 xs L))) P_i209_62 (fun _ => rfl) ?_
  refine P_wp_step (S' := (64, [.ref 47, .int 1, .int 0], [.int 0, .int 0, .ref 59], (P_hv160 xs L))) P_i209_63 (fun _ => rfl) ?_
  refine P_wp_step (S' := (65, [.ref 47, .int 1, .int 0], [], (P_hv161 xs L))) P_i209_64 (fun _ => rfl) ?_
  refine P_wp_step (S' := (68, [.ref 47, .int 1, .int 1], [], (P_hv161 xs L))) P_i209_65 (fun _ => rfl) ?_
  refine P_wp_step (S' := (53, [.ref 47, .int 1, .int 1], [], (P_hv161 xs L))) P_i209_68 (fun _ => rfl) ?_
  refine P_wp_step (S' := (54, [.ref 47, .int 1, .int 1], [.int 1], (P_hv161 xs L))) P_i209_53 (fun _ => rfl) ?_
  refine P_wp_step (S' := (55, [.ref 47, .int 1, .int 1], [.int 3, .int 1], (P_hv161 xs L))) P_i209_54 (fun _ => rfl) ?_
  refine P_wp_icf P_i209_55 P_b34 (show P_wp P_Y0 199 209 (58, [.ref 47, .int 1, .int 1], [], (P_hv161 xs L)) _ from ?_)
  refine P_wp_step (S' := (59, [.ref 47, .int 1, .int 1], [.ref 47], (P_hv161 xs L))) P_i209_58 (fun _ => rfl) ?_
  refine P_wp_step (S' := (62, [.ref 47, .int 1, .int 1], [.ref 59], (P_hv161 xs L))) P_i209_59 (fun _ => rfl) ?_
  refine P_wp_step (S' := (63, [.ref 47, .int 1, .int 1], [.int 1, .ref 59], (P_hv161 xs L))) P_i209_62 (fun _ => rfl) ?_
  refine P_wp_step (S' := (64, [.ref 47, .int 1, .int 1], [.int 1, .int 1, .ref 59], (P_hv161 xs L))) P_i209_63 (fun _ => rfl) ?_
  refine P_wp_step (S' := (65, [.ref 47, .int 1, .int 1], [], (P_hv162 xs L))) P_i209_64 (fun _ => rfl) ?_
  refine P_wp_step (S' := (68, [.ref 47, .int 1, .int 2], [], (P_hv162 xs L))) P_i209_65 (fun _ => rfl) ?_
  refine P_wp_step (S' := (53, [.ref 47, .int 1, .int 2], [], (P_hv162 xs L))) P_i209_68 (fun _ => rfl) ?_
  refine P_wp_step (S' := (54, [.ref 47, .int 1, .int 2], [.int 2], (P_hv162 xs L))) P_i209_53 (fun _ => rfl) ?_
  refine P_wp_step (S' := (55, [.ref 47, .int 1, .int 2], [.int 3, .int 2], (P_hv162 xs L))) P_i209_54 (fun _ => rfl) ?_
  refine P_wp_icf P_i209_55 P_b37 (show P_wp P_Y0 199 209 (58, [.ref 47, .int 1, .int 2], [], (P_hv162 xs L)) _ from ?_)
  refine P_wp_step (S' := (59, [.ref 47, .int 1, .int 2], [.ref 47], (P_hv162 xs L))) P_i209_58 (fun _ => rfl) ?_
  refine P_wp_step (S' := (62, [.ref 47, .int 1, .int 2], [.ref 59], (P_hv162 xs L))) P_i209_59 (fun _ => rfl) ?_
  refine P_wp_step (S' := (63, [.ref 47, .int 1, .int 2], [.int 2, .ref 59], (P_hv162 xs L))) P_i209_62 (fun _ => rfl) ?_
  refine P_wp_step (S' := (64, [.ref 47, .int 1, .int 2], [.int 2, .int 2, .ref 59], (P_hv162 xs L))) P_i209_63 (fun _ => rfl) ?_
  refine P_wp_step (S' := (65, [.ref 47, .int 1, .int 2], [], (P_hv163 xs L))) P_i209_64 (fun _ => rfl) ?_
  refine P_wp_step (S' := (68, [.ref 47, .int 1, .int 3], [], (P_hv163 xs L))) P_i209_65 (fun _ => rfl) ?_
  refine P_wp_step (S' := (53, [.ref 47, .int 1, .int 3], [], (P_hv163 xs L))) P_i209_68 (fun _ => rfl) ?_
  refine P_wp_step (S' := (54, [.ref 47, .int 1, .int 3], [.int 3], (P_hv163 xs L))) P_i209_53 (fun _ => rfl) ?_
  refine P_wp_step (S' := (55, [.ref 47, .int 1, .int 3], [.int 3, .int 3], (P_hv163 xs L))) P_i209_54 (fun _ => rfl) ?_
  refine P_wp_ict P_i209_55 P_b40 (show P_wp P_Y0 199 209 (71, [.ref 47, .int 1, .int 3], [], (P_hv163 xs L)) _ from ?_)
  refine P_wp_step (S' := (72, [.ref 47, .int 1, .int 3], [.int 0], (P_hv163 xs L))) P_i209_71 (fun _ => rfl) ?_
  refine P_wp_step (S' := (73, [.ref 47, .int 1, .int 0], [], (P_hv163 xs L))) P_i209_72 (fun _ => rfl) ?_
  refine P_wp_step (S' := (74, [.ref 47, .int 1, .int 0], [.int 0], (P_hv163 xs L))) P_i209_73 (fun _ => rfl) ?_
  refine P_wp_step (S' := (75, [.ref 47, .int 1, .int 0], [.ref 47, .int 0], (P_hv163 xs L))) P_i209_74 (fun _ => rfl) ?_
  refine P_wp_step (S' := (78, [.ref 47, .int 1, .int 0], [.int 0, .int 0], (P_hv163 xs L))) P_i209_75 (fun _ => rfl) ?_
  refine P_wp_ict P_i209_78 P_b41 (show P_wp P_Y0 199 209 (99, [.ref 47, .int 1, .int 0], [], (P_hv163 xs L)) _ from ?_)
  refine P_wp_step (S' := (100, [.ref 47, .int 1, .int 0], [.int 1], (P_hv163 xs L))) P_i209_99 (fun _ => rfl) ?_
  refine P_wp_end (x := (.inl (some (.int 1)), (P_hv163 xs L))) P_i209_100 (fun _ => rfl) ?_
  exact q

set_option maxRecDepth 20000 in
theorem P_x169 (xs : Nat → Int32) (L : Nat) {Q : P_R → P_H → Prop} (q : Q (.inl (some (.int (-1)))) (P_hv132 xs L)) : P_wp P_Y0 198 93 (0, [.ref 31], [], (P_hv132 xs L)) Q := by
  refine P_wp_step (S' := (1, [.ref 31], [.ref 31], (P_hv132 xs L))) P_i93_0 (fun _ => rfl) ?_
  refine P_wp_step (S' := (4, [.ref 31], [.int (-1)], (P_hv132 xs L))) P_i93_1 (fun _ => rfl) ?_
  refine P_wp_end (x := (.inl (some (.int (-1))), (P_hv132 xs L))) P_i93_4 (fun _ => rfl) ?_
  exact q

set_option maxRecDepth 20000 in
theorem P_x170 (xs : Nat → Int32) (L : Nat) {Q : P_R → P_H → Prop} (q : Q (.inl (some (.int (-1)))) (P_hv132 xs L)) : P_wp P_Y0 199 145 (0, [.ref 2], [], (P_hv132 xs L)) Q := by
  refine P_wp_step (S' := (1, [.ref 2], [.ref 2], (P_hv132 xs L))) P_i145_0 (fun _ => rfl) ?_
  refine P_wp_step (S' := (4, [.ref 2], [.ref 31], (P_hv132 xs L))) P_i145_1 (fun _ => rfl) ?_
  refine P_wp_call P_i145_4 rfl rfl rfl rfl rfl rfl rfl (y2 := 93) (as := [.ref 31]) (r0 := []) rfl (Nat.le_of_ble_eq_true rfl) (by decide) rfl (Nat.le_of_ble_eq_true rfl) (P_x169 xs L (?_))
  show P_wp P_Y0 199 145 (7, [.ref 2], [.int (-1)], (P_hv132 xs L)) _
  refine P_wp_end (x := (.inl (some (.int (-1))), (P_hv132 xs L))) P_i145_7 (fun _ => rfl) ?_
  exact q

set_option maxRecDepth 20000 in
theorem P_x171 (xs : Nat → Int32) (L : Nat) {Q : P_R → P_H → Prop} (q : Q (.inl (some (.int (-1)))) (P_hv132 xs L)) : P_wp P_Y0 198 185 (0, [.ref 47, .int (-1)], [], (P_hv132 xs L)) Q := by
  refine P_wp_step (S' := (1, [.ref 47, .int (-1)], [.ref 47], (P_hv132 xs L))) P_i185_0 (fun _ => rfl) ?_
  refine P_wp_step (S' := (2, [.ref 47, .int (-1)], [.int 0, .ref 47], (P_hv132 xs L))) P_i185_1 (fun _ => rfl) ?_
  refine P_wp_step (S' := (5, [.ref 47, .int (-1)], [], (P_hv132 xs L))) P_i185_2 (fun _ => rfl) ?_
  refine P_wp_step (S' := (6, [.ref 47, .int (-1)], [.int (-1)], (P_hv132 xs L))) P_i185_5 (fun _ => rfl) ?_
  refine P_wp_end (x := (.inl (some (.int (-1))), (P_hv132 xs L))) P_i185_6 (fun _ => rfl) ?_
  exact q

set_option maxRecDepth 20000 in
theorem P_x172 (xs : Nat → Int32) (L : Nat) {Q : P_R → P_H → Prop} (q : Q (.inl (some (.int (-1)))) (P_hv132 xs L)) : P_wp P_Y0 199 210 (0, [.ref 47], [], (P_hv132 xs L)) Q := by
  refine P_wp_step (S' := (1, [.ref 47], [.ref 47], (P_hv132 xs L))) P_i210_0 (fun _ => rfl) ?_
  refine P_wp_step (S' := (2, [.ref 47], [.ref 47, .ref 47], (P_hv132 xs L))) P_i210_1 (fun _ => rfl) ?_
  refine P_wp_step (S' := (5, [.ref 47], [.int (-1), .ref 47], (P_hv132 xs L))) P_i210_2 (fun _ => rfl) ?_
  refine P_wp_call P_i210_5 rfl rfl rfl rfl rfl rfl rfl (y2 := 185) (as := [.ref 47, .int (-1)]) (r0 := []) rfl (Nat.le_of_ble_eq_true rfl) (by decide) rfl (Nat.le_of_ble_eq_true rfl) (P_x171 xs L (?_))
  show P_wp P_Y0 199 210 (8, [.ref 47], [.int (-1)], (P_hv132 xs L)) _
  refine P_wp_end (x := (.inl (some (.int (-1))), (P_hv132 xs L))) P_i210_8 (fun _ => rfl) ?_
  exact q

set_option maxRecDepth 20000 in
theorem P_x173 (xs : Nat → Int32) (L : Nat) (hq1 : P_cc .lt (xs 1) 0 = true) {Q : P_R → P_H → Prop} (q : Q (.inr 0) (P_hv134 xs L)) : P_wp P_Y0 198 146 (0, [.ref 2, .int (xs 1)], [], (P_hv132 xs L)) Q := by
  refine P_wp_step (S' := (1, [.ref 2, .int (xs 1)], [.int (xs 1)], (P_hv132 xs L))) P_i146_0 (fun _ => rfl) ?_
  refine P_wp_izt P_i146_1 hq1 (show P_wp P_Y0 198 146 (9, [.ref 2, .int (xs 1)], [], (P_hv132 xs L)) _ from ?_)
  refine P_wp_end (x := (.inr 0, (P_hv134 xs L))) P_i146_9 (fun _ => rfl) ?_
  exact q

set_option maxRecDepth 20000 in
theorem P_x174 (xs : Nat → Int32) (L : Nat) (hq1 : P_cc .lt (xs 1) 0 = true) {Q : P_R → P_H → Prop} (q : Q (.inl (some (.int 1))) (P_hv134 xs L)) : P_wp P_Y0 199 275 (0, [.ref 2, .int (xs 1), .ref 63, P_un], [], (P_hv132 xs L)) Q := by
  refine P_wp_step (S' := (1, [.ref 2, .int (xs 1), .ref 63, P_un], [.ref 63], (P_hv132 xs L))) P_i275_0 (fun _ => rfl) ?_
  refine P_wp_step (S' := (2, [.ref 2, .int (xs 1), .ref 63, P_un], [.int 0, .ref 63], (P_hv132 xs L))) P_i275_1 (fun _ => rfl) ?_
  refine P_wp_step (S' := (3, [.ref 2, .int (xs 1), .ref 63, P_un], [.ref 2, .int 0, .ref 63], (P_hv132 xs L))) P_i275_2 (fun _ => rfl) ?_
  refine P_wp_step (S' := (4, [.ref 2, .int (xs 1), .ref 63, P_un], [.int (xs 1), .ref 2, .int 0, .ref 63], (P_hv132 xs L))) P_i275_3 (fun _ => rfl) ?_
  refine P_wp_call P_i275_4 rfl rfl rfl rfl rfl rfl rfl (y2 := 146) (as := [.ref 2, .int (xs 1)]) (r0 := [.int 0, .ref 63]) rfl (Nat.le_of_ble_eq_true rfl) (by decide) rfl (Nat.le_of_ble_eq_true rfl) (P_x173 xs L hq1 (?_))
  refine ⟨show 3 < 4 by decide, ?_⟩
  show P_wp P_Y0 199 275 (13, [.ref 2, .int (xs 1), .ref 63, P_un], [], (P_hv134 xs L)) _
  refine P_wp_step (S' := (14, [.ref 2, .int (xs 1), .ref 63, P_un], [.int 1], (P_hv134 xs L))) P_i275_13 (fun _ => rfl) ?_
  refine P_wp_end (x := (.inl (some (.int 1)), (P_hv134 xs L))) P_i275_14 (fun _ => rfl) ?_
  exact q

set_option maxRecDepth 20000 in
theorem P_x175 (xs : Nat → Int32) (L : Nat) (hq1 : P_cc .lt (xs 1) 0 = true) {Q : P_R → P_H → Prop} (q : Q (.inl (some (.int 0))) (P_hv134 xs L)) : P_wp P_Y0 198 186 (0, [.int (xs 1), .int 0, .int 4], [], (P_hv134 xs L)) Q := by
  refine P_wp_step (S' := (1, [.int (xs 1), .int 0, .int 4], [.int (xs 1)], (P_hv134 xs L))) P_i186_0 (fun _ => rfl) ?_
  refine P_wp_step (S' := (2, [.int (xs 1), .int 0, .int 4], [.int 0, .int (xs 1)], (P_hv134 xs L))) P_i186_1 (fun _ => rfl) ?_
  refine P_wp_ict P_i186_2 hq1 (show P_wp P_Y0 198 186 (14, [.int (xs 1), .int 0, .int 4], [], (P_hv134 xs L)) _ from ?_)
  refine P_wp_step (S' := (15, [.int (xs 1), .int 0, .int 4], [.int 0], (P_hv134 xs L))) P_i186_14 (fun _ => rfl) ?_
  refine P_wp_end (x := (.inl (some (.int 0)), (P_hv134 xs L))) P_i186_15 (fun _ => rfl) ?_
  exact q

set_option maxRecDepth 20000 in
theorem P_x176 (xs : Nat → Int32) (L : Nat) (hq1 : P_cc .lt (xs 1) 0 = true) {Q : P_R → P_H → Prop} (q : Q (.inl (some (.int 0))) (P_hv135 xs L)) : P_wp P_Y0 199 212 (0, [.ref 47, .int (xs 1)], [], (P_hv134 xs L)) Q := by
  refine P_wp_step (S' := (1, [.ref 47, .int (xs 1)], [.ref 47], (P_hv134 xs L))) P_i212_0 (fun _ => rfl) ?_
  refine P_wp_step (S' := (2, [.ref 47, .int (xs 1)], [.int 0, .ref 47], (P_hv134 xs L))) P_i212_1 (fun _ => rfl) ?_
  refine P_wp_step (S' := (5, [.ref 47, .int (xs 1)], [], (P_hv134 xs L))) P_i212_2 (fun _ => rfl) ?_
  refine P_wp_step (S' := (6, [.ref 47, .int (xs 1)], [.int (xs 1)], (P_hv134 xs L))) P_i212_5 (fun _ => rfl) ?_
  refine P_wp_step (S' := (7, [.ref 47, .int (xs 1)], [.int 0, .int (xs 1)], (P_hv134 xs L))) P_i212_6 (fun _ => rfl) ?_
  refine P_wp_step (S' := (8, [.ref 47, .int (xs 1)], [.int 4, .int 0, .int (xs 1)], (P_hv134 xs L))) P_i212_7 (fun _ => rfl) ?_
  refine P_wp_call P_i212_8 rfl rfl rfl rfl rfl rfl rfl (y2 := 186) (as := [.int (xs 1), .int 0, .int 4]) (r0 := []) rfl (Nat.le_of_ble_eq_true rfl) (by decide) rfl (Nat.le_of_ble_eq_true rfl) (P_x175 xs L hq1 (?_))
  show P_wp P_Y0 199 212 (11, [.ref 47, .int (xs 1)], [.int 0], (P_hv134 xs L)) _
  refine P_wp_izt P_i212_11 P_b27 (show P_wp P_Y0 199 212 (22, [.ref 47, .int (xs 1)], [], (P_hv134 xs L)) _ from ?_)
  refine P_wp_step (S' := (23, [.ref 47, .int (xs 1)], [.ref 47], (P_hv134 xs L))) P_i212_22 (fun _ => rfl) ?_
  refine P_wp_step (S' := (24, [.ref 47, .int (xs 1)], [.int 1, .ref 47], (P_hv134 xs L))) P_i212_23 (fun _ => rfl) ?_
  refine P_wp_call P_i212_24 rfl rfl rfl rfl rfl rfl rfl (y2 := 184) (as := [.ref 47, .int 1]) (r0 := []) rfl (Nat.le_of_ble_eq_true rfl) (by decide) rfl (Nat.le_of_ble_eq_true rfl) (P_x30 xs L (?_))
  show P_wp P_Y0 199 212 (27, [.ref 47, .int (xs 1)], [.int 0], (P_hv135 xs L)) _
  refine P_wp_end (x := (.inl (some (.int 0)), (P_hv135 xs L))) P_i212_27 (fun _ => rfl) ?_
  exact q

set_option maxRecDepth 20000 in
theorem P_x177 (xs : Nat → Int32) (L : Nat) {Q : P_R → P_H → Prop} (q : Q (.inl (some (.int 0))) (P_hv132 xs L)) : P_wp P_Y0 196 92 (0, [.ref 31], [], (P_hv132 xs L)) Q := by
  refine P_wp_step (S' := (1, [.ref 31], [.ref 31], (P_hv132 xs L))) P_i92_0 (fun _ => rfl) ?_
  refine P_wp_step (S' := (4, [.ref 31], [.int 0], (P_hv132 xs L))) P_i92_1 (fun _ => rfl) ?_
  refine P_wp_end (x := (.inl (some (.int 0)), (P_hv132 xs L))) P_i92_4 (fun _ => rfl) ?_
  exact q

set_option maxRecDepth 20000 in
theorem P_x178 (xs : Nat → Int32) (L : Nat) (hq1 : P_cc .ne (xs 1) 0 = true) (hq2 : P_cc .ne (xs 1) 1 = true) {Q : P_R → P_H → Prop} (q : Q (.inl (some (.int 0))) (P_hv132 xs L)) : P_wp P_Y0 197 168 (0, [.ref 2, .int (xs 1)], [], (P_hv132 xs L)) Q := by
  refine P_wp_step (S' := (1, [.ref 2, .int (xs 1)], [.int (xs 1)], (P_hv132 xs L))) P_i168_0 (fun _ => rfl) ?_
  refine P_wp_izt P_i168_1 hq1 (show P_wp P_Y0 197 168 (12, [.ref 2, .int (xs 1)], [], (P_hv132 xs L)) _ from ?_)
  refine P_wp_step (S' := (13, [.ref 2, .int (xs 1)], [.int (xs 1)], (P_hv132 xs L))) P_i168_12 (fun _ => rfl) ?_
  refine P_wp_step (S' := (14, [.ref 2, .int (xs 1)], [.int 1, .int (xs 1)], (P_hv132 xs L))) P_i168_13 (fun _ => rfl) ?_
  refine P_wp_ict P_i168_14 hq2 (show P_wp P_Y0 197 168 (25, [.ref 2, .int (xs 1)], [], (P_hv132 xs L)) _ from ?_)
  refine P_wp_step (S' := (26, [.ref 2, .int (xs 1)], [.ref 2], (P_hv132 xs L))) P_i168_25 (fun _ => rfl) ?_
  refine P_wp_step (S' := (29, [.ref 2, .int (xs 1)], [.ref 31], (P_hv132 xs L))) P_i168_26 (fun _ => rfl) ?_
  refine P_wp_call P_i168_29 rfl rfl rfl rfl rfl rfl rfl (y2 := 92) (as := [.ref 31]) (r0 := []) rfl (Nat.le_of_ble_eq_true rfl) (by decide) rfl (Nat.le_of_ble_eq_true rfl) (P_x177 xs L (?_))
  show P_wp P_Y0 197 168 (32, [.ref 2, .int (xs 1)], [.int 0], (P_hv132 xs L)) _
  refine P_wp_izf P_i168_32 P_b19 (show P_wp P_Y0 197 168 (35, [.ref 2, .int (xs 1)], [], (P_hv132 xs L)) _ from ?_)
  refine P_wp_step (S' := (36, [.ref 2, .int (xs 1)], [.int 0], (P_hv132 xs L))) P_i168_35 (fun _ => rfl) ?_
  refine P_wp_end (x := (.inl (some (.int 0)), (P_hv132 xs L))) P_i168_36 (fun _ => rfl) ?_
  exact q

set_option maxRecDepth 20000 in
theorem P_x179 (xs : Nat → Int32) (L : Nat) (hq1 : P_cc .lt (xs 1) 0 = false) (hq2 : P_cc .le (xs 1) 4 = true) (hq3 : P_cc .ne (xs 1) 0 = true) (hq4 : P_cc .ne (xs 1) 1 = true) {Q : P_R → P_H → Prop} (q : Q (.inl (some (.int 0))) (P_hv132 xs L)) : P_wp P_Y0 198 146 (0, [.ref 2, .int (xs 1)], [], (P_hv132 xs L)) Q := by
  refine P_wp_step (S' := (1, [.ref 2, .int (xs 1)], [.int (xs 1)], (P_hv132 xs L))) P_i146_0 (fun _ => rfl) ?_
  refine P_wp_izf P_i146_1 hq1 (show P_wp P_Y0 198 146 (4, [.ref 2, .int (xs 1)], [], (P_hv132 xs L)) _ from ?_)
  refine P_wp_step (S' := (5, [.ref 2, .int (xs 1)], [.int (xs 1)], (P_hv132 xs L))) P_i146_4 (fun _ => rfl) ?_
  refine P_wp_step (S' := (6, [.ref 2, .int (xs 1)], [.int 4, .int (xs 1)], (P_hv132 xs L))) P_i146_5 (fun _ => rfl) ?_
  refine P_wp_ict P_i146_6 hq2 (show P_wp P_Y0 198 146 (19, [.ref 2, .int (xs 1)], [], (P_hv132 xs L)) _ from ?_)
  refine P_wp_step (S' := (20, [.ref 2, .int (xs 1)], [.ref 2], (P_hv132 xs L))) P_i146_19 (fun _ => rfl) ?_
  refine P_wp_step (S' := (21, [.ref 2, .int (xs 1)], [.int (xs 1), .ref 2], (P_hv132 xs L))) P_i146_20 (fun _ => rfl) ?_
  refine P_wp_call P_i146_21 rfl rfl rfl rfl rfl rfl rfl (y2 := 168) (as := [.ref 2, .int (xs 1)]) (r0 := []) rfl (Nat.le_of_ble_eq_true rfl) (by decide) rfl (Nat.le_of_ble_eq_true rfl) (P_x178 xs L hq3 hq4 (?_))
  show P_wp P_Y0 198 146 (24, [.ref 2, .int (xs 1)], [.int 0], (P_hv132 xs L)) _
  refine P_wp_end (x := (.inl (some (.int 0)), (P_hv132 xs L))) P_i146_24 (fun _ => rfl) ?_
  exact q

set_option maxRecDepth 20000 in
theorem P_x180 (xs : Nat → Int32) (L : Nat) (hq1 : P_cc .lt (xs 1) 0 = false) (hq2 : P_cc .le (xs 1) 4 = true) (hq3 : P_cc .ne (xs 1) 0 = true) (hq4 : P_cc .ne (xs 1) 1 = true) {Q : P_R → P_H → Prop} (q : Q (.inl (some (.int 0))) (P_hv164 xs L)) : P_wp P_Y0 199 275 (0, [.ref 2, .int (xs 1), .ref 63, P_un], [], (P_hv132 xs L)) Q := by
  refine P_wp_step (S' := (1, [.ref 2, .int (xs 1), .ref 63, P_un], [.ref 63], (P_hv132 xs L))) P_i275_0 (fun _ => rfl) ?_
  refine P_wp_step (S' := (2, [.ref 2, .int (xs 1), .ref 63, P_un], [.int 0, .ref 63], (P_hv132 xs L))) P_i275_1 (fun _ => rfl) ?_
  refine P_wp_step (S' := (3, [.ref 2, .int (xs 1), .ref 63, P_un], [.ref 2, .int 0, .ref 63], (P_hv132 xs L))) P_i275_2 (fun _ => rfl) ?_
  refine P_wp_step (S' := (4, [.ref 2, .int (xs 1), .ref 63, P_un], [.int (xs 1), .ref 2, .int 0, .ref 63], (P_hv132 xs L))) P_i275_3 (fun _ => rfl) ?_
  refine P_wp_call P_i275_4 rfl rfl rfl rfl rfl rfl rfl (y2 := 146) (as := [.ref 2, .int (xs 1)]) (r0 := [.int 0, .ref 63]) rfl (Nat.le_of_ble_eq_true rfl) (by decide) rfl (Nat.le_of_ble_eq_true rfl) (P_x179 xs L hq1 hq2 hq3 hq4 (?_))
  show P_wp P_Y0 199 275 (7, [.ref 2, .int (xs 1), .ref 63, P_un], [.int 0, .int 0, .ref 63], (P_hv132 xs L)) _
  refine P_wp_step (S' := (8, [.ref 2, .int (xs 1), .ref 63, P_un], [.long 0, .int 0, .ref 63], (P_hv132 xs L))) P_i275_7 (fun _ => rfl) ?_
  refine P_wp_step (S' := (9, [.ref 2, .int (xs 1), .ref 63, P_un], [], (P_hv164 xs L))) P_i275_8 (fun _ => rfl) ?_
  refine P_wp_step (S' := (15, [.ref 2, .int (xs 1), .ref 63, P_un], [], (P_hv164 xs L))) P_i275_9 (fun _ => rfl) ?_
  refine P_wp_step (S' := (16, [.ref 2, .int (xs 1), .ref 63, P_un], [.int 0], (P_hv164 xs L))) P_i275_15 (fun _ => rfl) ?_
  refine P_wp_end (x := (.inl (some (.int 0)), (P_hv164 xs L))) P_i275_16 (fun _ => rfl) ?_
  exact q

set_option maxRecDepth 20000 in
theorem P_x181 (xs : Nat → Int32) (L : Nat) (hq1 : P_cc .lt (xs 1) 0 = false) (hq2 : P_cc .gt (xs 1) 4 = false) {Q : P_R → P_H → Prop} (q : Q (.inl (some (.int 1))) (P_hv164 xs L)) : P_wp P_Y0 198 186 (0, [.int (xs 1), .int 0, .int 4], [], (P_hv164 xs L)) Q := by
  refine P_wp_step (S' := (1, [.int (xs 1), .int 0, .int 4], [.int (xs 1)], (P_hv164 xs L))) P_i186_0 (fun _ => rfl) ?_
  refine P_wp_step (S' := (2, [.int (xs 1), .int 0, .int 4], [.int 0, .int (xs 1)], (P_hv164 xs L))) P_i186_1 (fun _ => rfl) ?_
  refine P_wp_icf P_i186_2 hq1 (show P_wp P_Y0 198 186 (5, [.int (xs 1), .int 0, .int 4], [], (P_hv164 xs L)) _ from ?_)
  refine P_wp_step (S' := (6, [.int (xs 1), .int 0, .int 4], [.int (xs 1)], (P_hv164 xs L))) P_i186_5 (fun _ => rfl) ?_
  refine P_wp_step (S' := (7, [.int (xs 1), .int 0, .int 4], [.int 4, .int (xs 1)], (P_hv164 xs L))) P_i186_6 (fun _ => rfl) ?_
  refine P_wp_icf P_i186_7 hq2 (show P_wp P_Y0 198 186 (10, [.int (xs 1), .int 0, .int 4], [], (P_hv164 xs L)) _ from ?_)
  refine P_wp_step (S' := (11, [.int (xs 1), .int 0, .int 4], [.int 1], (P_hv164 xs L))) P_i186_10 (fun _ => rfl) ?_
  refine P_wp_step (S' := (15, [.int (xs 1), .int 0, .int 4], [.int 1], (P_hv164 xs L))) P_i186_11 (fun _ => rfl) ?_
  refine P_wp_end (x := (.inl (some (.int 1)), (P_hv164 xs L))) P_i186_15 (fun _ => rfl) ?_
  exact q

set_option maxRecDepth 20000 in
theorem P_x182 (xs : Nat → Int32) (L : Nat) (hq1 : P_cc .ge (xs 1) 2 = true) {Q : P_R → P_H → Prop} (q : Q (.inl (some (.int 0))) (P_hv164 xs L)) : P_wp P_Y0 198 211 (0, [.ref 47, .int (xs 1)], [], (P_hv164 xs L)) Q := by
  refine P_wp_step (S' := (1, [.ref 47, .int (xs 1)], [.int (xs 1)], (P_hv164 xs L))) P_i211_0 (fun _ => rfl) ?_
  refine P_wp_step (S' := (2, [.ref 47, .int (xs 1)], [.int 2, .int (xs 1)], (P_hv164 xs L))) P_i211_1 (fun _ => rfl) ?_
  refine P_wp_ict P_i211_2 hq1 (show P_wp P_Y0 198 211 (21, [.ref 47, .int (xs 1)], [], (P_hv164 xs L)) _ from ?_)
  refine P_wp_step (S' := (22, [.ref 47, .int (xs 1)], [.ref 47], (P_hv164 xs L))) P_i211_21 (fun _ => rfl) ?_
  refine P_wp_step (S' := (25, [.ref 47, .int (xs 1)], [.int 0], (P_hv164 xs L))) P_i211_22 (fun _ => rfl) ?_
  refine P_wp_izf P_i211_25 P_b19 (show P_wp P_Y0 198 211 (28, [.ref 47, .int (xs 1)], [], (P_hv164 xs L)) _ from ?_)
  refine P_wp_step (S' := (29, [.ref 47, .int (xs 1)], [.int 0], (P_hv164 xs L))) P_i211_28 (fun _ => rfl) ?_
  refine P_wp_step (S' := (60, [.ref 47, .int (xs 1)], [.int 0], (P_hv164 xs L))) P_i211_29 (fun _ => rfl) ?_
  refine P_wp_end (x := (.inl (some (.int 0)), (P_hv164 xs L))) P_i211_60 (fun _ => rfl) ?_
  exact q

set_option maxRecDepth 20000 in
theorem P_x183 (xs : Nat → Int32) (L : Nat) (hq1 : P_cc .lt (xs 1) 0 = false) (hq2 : P_cc .gt (xs 1) 4 = false) (hq3 : P_cc .ge (xs 1) 2 = true) {Q : P_R → P_H → Prop} (q : Q (.inl (some (.int 0))) (P_hv164 xs L)) : P_wp P_Y0 199 212 (0, [.ref 47, .int (xs 1)], [], (P_hv164 xs L)) Q := by
  refine P_wp_step (S' := (1, [.ref 47, .int (xs 1)], [.ref 47], (P_hv164 xs L))) P_i212_0 (fun _ => rfl) ?_
  refine P_wp_step (S' := (2, [.ref 47, .int (xs 1)], [.int 0, .ref 47], (P_hv164 xs L))) P_i212_1 (fun _ => rfl) ?_
  refine P_wp_step (S' := (5, [.ref 47, .int (xs 1)], [], (P_hv164 xs L))) P_i212_2 (fun _ => rfl) ?_
  refine P_wp_step (S' := (6, [.ref 47, .int (xs 1)], [.int (xs 1)], (P_hv164 xs L))) P_i212_5 (fun _ => rfl) ?_
  refine P_wp_step (S' := (7, [.ref 47, .int (xs 1)], [.int 0, .int (xs 1)], (P_hv164 xs L))) P_i212_6 (fun _ => rfl) ?_
  refine P_wp_step (S' := (8, [.ref 47, .int (xs 1)], [.int 4, .int 0, .int (xs 1)], (P_hv164 xs L))) P_i212_7 (fun _ => rfl) ?_
  refine P_wp_call P_i212_8 rfl rfl rfl rfl rfl rfl rfl (y2 := 186) (as := [.int (xs 1), .int 0, .int 4]) (r0 := []) rfl (Nat.le_of_ble_eq_true rfl) (by decide) rfl (Nat.le_of_ble_eq_true rfl) (P_x181 xs L hq1 hq2 (?_))
  show P_wp P_Y0 199 212 (11, [.ref 47, .int (xs 1)], [.int 1], (P_hv164 xs L)) _
  refine P_wp_izf P_i212_11 P_b31 (show P_wp P_Y0 199 212 (14, [.ref 47, .int (xs 1)], [], (P_hv164 xs L)) _ from ?_)
  refine P_wp_step (S' := (15, [.ref 47, .int (xs 1)], [.ref 47], (P_hv164 xs L))) P_i212_14 (fun _ => rfl) ?_
  refine P_wp_step (S' := (16, [.ref 47, .int (xs 1)], [.int (xs 1), .ref 47], (P_hv164 xs L))) P_i212_15 (fun _ => rfl) ?_
  refine P_wp_call P_i212_16 rfl rfl rfl rfl rfl rfl rfl (y2 := 211) (as := [.ref 47, .int (xs 1)]) (r0 := []) rfl (Nat.le_of_ble_eq_true rfl) (by decide) rfl (Nat.le_of_ble_eq_true rfl) (P_x182 xs L hq3 (?_))
  show P_wp P_Y0 199 212 (19, [.ref 47, .int (xs 1)], [.int 0], (P_hv164 xs L)) _
  refine P_wp_step (S' := (27, [.ref 47, .int (xs 1)], [.int 0], (P_hv164 xs L))) P_i212_19 (fun _ => rfl) ?_
  refine P_wp_end (x := (.inl (some (.int 0)), (P_hv164 xs L))) P_i212_27 (fun _ => rfl) ?_
  exact q

set_option maxRecDepth 20000 in
theorem P_x184 (xs : Nat → Int32) (L : Nat) {Q : P_R → P_H → Prop} (q : Q (.inl (some (.int 0))) (P_hv164 xs L)) : P_wp P_Y0 199 183 (0, [.ref 47], [], (P_hv164 xs L)) Q := by
  refine P_wp_step (S' := (1, [.ref 47], [.ref 47], (P_hv164 xs L))) P_i183_0 (fun _ => rfl) ?_
  refine P_wp_step (S' := (4, [.ref 47], [.int 0], (P_hv164 xs L))) P_i183_1 (fun _ => rfl) ?_
  refine P_wp_end (x := (.inl (some (.int 0)), (P_hv164 xs L))) P_i183_4 (fun _ => rfl) ?_
  exact q

set_option maxRecDepth 20000 in
theorem P_x185 (xs : Nat → Int32) (L : Nat) {Q : P_R → P_H → Prop} (q : Q (.inl (some (.int 0))) (P_hv132 xs L)) : P_wp P_Y0 196 91 (0, [.ref 31], [], (P_hv132 xs L)) Q := by
  refine P_wp_step (S' := (1, [.ref 31], [.ref 31], (P_hv132 xs L))) P_i91_0 (fun _ => rfl) ?_
  refine P_wp_step (S' := (4, [.ref 31], [.int 0], (P_hv132 xs L))) P_i91_1 (fun _ => rfl) ?_
  refine P_wp_end (x := (.inl (some (.int 0)), (P_hv132 xs L))) P_i91_4 (fun _ => rfl) ?_
  exact q

set_option maxRecDepth 20000 in
theorem P_x186 (xs : Nat → Int32) (L : Nat) (hq1 : P_cc .ne (xs 1) 0 = true) (hq2 : P_cc .ne (xs 1) 1 = false) {Q : P_R → P_H → Prop} (q : Q (.inl (some (.int 0))) (P_hv132 xs L)) : P_wp P_Y0 197 168 (0, [.ref 2, .int (xs 1)], [], (P_hv132 xs L)) Q := by
  refine P_wp_step (S' := (1, [.ref 2, .int (xs 1)], [.int (xs 1)], (P_hv132 xs L))) P_i168_0 (fun _ => rfl) ?_
  refine P_wp_izt P_i168_1 hq1 (show P_wp P_Y0 197 168 (12, [.ref 2, .int (xs 1)], [], (P_hv132 xs L)) _ from ?_)
  refine P_wp_step (S' := (13, [.ref 2, .int (xs 1)], [.int (xs 1)], (P_hv132 xs L))) P_i168_12 (fun _ => rfl) ?_
  refine P_wp_step (S' := (14, [.ref 2, .int (xs 1)], [.int 1, .int (xs 1)], (P_hv132 xs L))) P_i168_13 (fun _ => rfl) ?_
  refine P_wp_icf P_i168_14 hq2 (show P_wp P_Y0 197 168 (17, [.ref 2, .int (xs 1)], [], (P_hv132 xs L)) _ from ?_)
  refine P_wp_step (S' := (18, [.ref 2, .int (xs 1)], [.ref 2], (P_hv132 xs L))) P_i168_17 (fun _ => rfl) ?_
  refine P_wp_step (S' := (21, [.ref 2, .int (xs 1)], [.ref 31], (P_hv132 xs L))) P_i168_18 (fun _ => rfl) ?_
  refine P_wp_call P_i168_21 rfl rfl rfl rfl rfl rfl rfl (y2 := 91) (as := [.ref 31]) (r0 := []) rfl (Nat.le_of_ble_eq_true rfl) (by decide) rfl (Nat.le_of_ble_eq_true rfl) (P_x185 xs L (?_))
  show P_wp P_Y0 197 168 (24, [.ref 2, .int (xs 1)], [.int 0], (P_hv132 xs L)) _
  refine P_wp_end (x := (.inl (some (.int 0)), (P_hv132 xs L))) P_i168_24 (fun _ => rfl) ?_
  exact q

set_option maxRecDepth 20000 in
theorem P_x187 (xs : Nat → Int32) (L : Nat) (hq1 : P_cc .lt (xs 1) 0 = false) (hq2 : P_cc .le (xs 1) 4 = true) (hq3 : P_cc .ne (xs 1) 0 = true) (hq4 : P_cc .ne (xs 1) 1 = false) {Q : P_R → P_H → Prop} (q : Q (.inl (some (.int 0))) (P_hv132 xs L)) : P_wp P_Y0 198 146 (0, [.ref 2, .int (xs 1)], [], (P_hv132 xs L)) Q := by
  refine P_wp_step (S' := (1, [.ref 2, .int (xs 1)], [.int (xs 1)], (P_hv132 xs L))) P_i146_0 (fun _ => rfl) ?_
  refine P_wp_izf P_i146_1 hq1 (show P_wp P_Y0 198 146 (4, [.ref 2, .int (xs 1)], [], (P_hv132 xs L)) _ from ?_)
  refine P_wp_step (S' := (5, [.ref 2, .int (xs 1)], [.int (xs 1)], (P_hv132 xs L))) P_i146_4 (fun _ => rfl) ?_
  refine P_wp_step (S' := (6, [.ref 2, .int (xs 1)], [.int 4, .int (xs 1)], (P_hv132 xs L))) P_i146_5 (fun _ => rfl) ?_
  refine P_wp_ict P_i146_6 hq2 (show P_wp P_Y0 198 146 (19, [.ref 2, .int (xs 1)], [], (P_hv132 xs L)) _ from ?_)
  refine P_wp_step (S' := (20, [.ref 2, .int (xs 1)], [.ref 2], (P_hv132 xs L))) P_i146_19 (fun _ => rfl) ?_
  refine P_wp_step (S' := (21, [.ref 2, .int (xs 1)], [.int (xs 1), .ref 2], (P_hv132 xs L))) P_i146_20 (fun _ => rfl) ?_
  refine P_wp_call P_i146_21 rfl rfl rfl rfl rfl rfl rfl (y2 := 168) (as := [.ref 2, .int (xs 1)]) (r0 := []) rfl (Nat.le_of_ble_eq_true rfl) (by decide) rfl (Nat.le_of_ble_eq_true rfl) (P_x186 xs L hq3 hq4 (?_))
  show P_wp P_Y0 198 146 (24, [.ref 2, .int (xs 1)], [.int 0], (P_hv132 xs L)) _
  refine P_wp_end (x := (.inl (some (.int 0)), (P_hv132 xs L))) P_i146_24 (fun _ => rfl) ?_
  exact q

set_option maxRecDepth 20000 in
theorem P_x188 (xs : Nat → Int32) (L : Nat) (hq1 : P_cc .lt (xs 1) 0 = false) (hq2 : P_cc .le (xs 1) 4 = true) (hq3 : P_cc .ne (xs 1) 0 = true) (hq4 : P_cc .ne (xs 1) 1 = false) {Q : P_R → P_H → Prop} (q : Q (.inl (some (.int 0))) (P_hv164 xs L)) : P_wp P_Y0 199 275 (0, [.ref 2, .int (xs 1), .ref 63, P_un], [], (P_hv132 xs L)) Q := by
  refine P_wp_step (S' := (1, [.ref 2, .int (xs 1), .ref 63, P_un], [.ref 63], (P_hv132 xs L))) P_i275_0 (fun _ => rfl) ?_
  refine P_wp_step (S' := (2, [.ref 2, .int (xs 1), .ref 63, P_un], [.int 0, .ref 63], (P_hv132 xs L))) P_i275_1 (fun _ => rfl) ?_
  refine P_wp_step (S' := (3, [.ref 2, .int (xs 1), .ref 63, P_un], [.ref 2, .int 0, .ref 63], (P_hv132 xs L))) P_i275_2 (fun _ => rfl) ?_
  refine P_wp_step (S' := (4, [.ref 2, .int (xs 1), .ref 63, P_un], [.int (xs 1), .ref 2, .int 0, .ref 63], (P_hv132 xs L))) P_i275_3 (fun _ => rfl) ?_
  refine P_wp_call P_i275_4 rfl rfl rfl rfl rfl rfl rfl (y2 := 146) (as := [.ref 2, .int (xs 1)]) (r0 := [.int 0, .ref 63]) rfl (Nat.le_of_ble_eq_true rfl) (by decide) rfl (Nat.le_of_ble_eq_true rfl) (P_x187 xs L hq1 hq2 hq3 hq4 (?_))
  show P_wp P_Y0 199 275 (7, [.ref 2, .int (xs 1), .ref 63, P_un], [.int 0, .int 0, .ref 63], (P_hv132 xs L)) _
  refine P_wp_step (S' := (8, [.ref 2, .int (xs 1), .ref 63, P_un], [.long 0, .int 0, .ref 63], (P_hv132 xs L))) P_i275_7 (fun _ => rfl) ?_
  refine P_wp_step (S' := (9, [.ref 2, .int (xs 1), .ref 63, P_un], [], (P_hv164 xs L))) P_i275_8 (fun _ => rfl) ?_
  refine P_wp_step (S' := (15, [.ref 2, .int (xs 1), .ref 63, P_un], [], (P_hv164 xs L))) P_i275_9 (fun _ => rfl) ?_
  refine P_wp_step (S' := (16, [.ref 2, .int (xs 1), .ref 63, P_un], [.int 0], (P_hv164 xs L))) P_i275_15 (fun _ => rfl) ?_
  refine P_wp_end (x := (.inl (some (.int 0)), (P_hv164 xs L))) P_i275_16 (fun _ => rfl) ?_
  exact q

set_option maxRecDepth 20000 in
theorem P_x189 (xs : Nat → Int32) (L : Nat) (hq1 : P_cc .ge (xs 1) 2 = false) (hq2 : P_cc .ne (xs 1) 0 = true) {Q : P_R → P_H → Prop} (q : Q (.inl (some (.int 0))) (P_hv164 xs L)) : P_wp P_Y0 198 211 (0, [.ref 47, .int (xs 1)], [], (P_hv164 xs L)) Q := by
  refine P_wp_step (S' := (1, [.ref 47, .int (xs 1)], [.int (xs 1)], (P_hv164 xs L))) P_i211_0 (fun _ => rfl) ?_
  refine P_wp_step (S' := (2, [.ref 47, .int (xs 1)], [.int 2, .int (xs 1)], (P_hv164 xs L))) P_i211_1 (fun _ => rfl) ?_
  refine P_wp_icf P_i211_2 hq1 (show P_wp P_Y0 198 211 (5, [.ref 47, .int (xs 1)], [], (P_hv164 xs L)) _ from ?_)
  refine P_wp_step (S' := (6, [.ref 47, .int (xs 1)], [.int (xs 1)], (P_hv164 xs L))) P_i211_5 (fun _ => rfl) ?_
  refine P_wp_izt P_i211_6 hq2 (show P_wp P_Y0 198 211 (16, [.ref 47, .int (xs 1)], [], (P_hv164 xs L)) _ from ?_)
  refine P_wp_step (S' := (17, [.ref 47, .int (xs 1)], [.ref 47], (P_hv164 xs L))) P_i211_16 (fun _ => rfl) ?_
  refine P_wp_step (S' := (20, [.ref 47, .int (xs 1)], [.int 0], (P_hv164 xs L))) P_i211_17 (fun _ => rfl) ?_
  refine P_wp_end (x := (.inl (some (.int 0)), (P_hv164 xs L))) P_i211_20 (fun _ => rfl) ?_
  exact q

set_option maxRecDepth 20000 in
theorem P_x190 (xs : Nat → Int32) (L : Nat) (hq1 : P_cc .lt (xs 1) 0 = false) (hq2 : P_cc .gt (xs 1) 4 = false) (hq3 : P_cc .ge (xs 1) 2 = false) (hq4 : P_cc .ne (xs 1) 0 = true) {Q : P_R → P_H → Prop} (q : Q (.inl (some (.int 0))) (P_hv164 xs L)) : P_wp P_Y0 199 212 (0, [.ref 47, .int (xs 1)], [], (P_hv164 xs L)) Q := by
  refine P_wp_step (S' := (1, [.ref 47, .int (xs 1)], [.ref 47], (P_hv164 xs L))) P_i212_0 (fun _ => rfl) ?_
  refine P_wp_step (S' := (2, [.ref 47, .int (xs 1)], [.int 0, .ref 47], (P_hv164 xs L))) P_i212_1 (fun _ => rfl) ?_
  refine P_wp_step (S' := (5, [.ref 47, .int (xs 1)], [], (P_hv164 xs L))) P_i212_2 (fun _ => rfl) ?_
  refine P_wp_step (S' := (6, [.ref 47, .int (xs 1)], [.int (xs 1)], (P_hv164 xs L))) P_i212_5 (fun _ => rfl) ?_
  refine P_wp_step (S' := (7, [.ref 47, .int (xs 1)], [.int 0, .int (xs 1)], (P_hv164 xs L))) P_i212_6 (fun _ => rfl) ?_
  refine P_wp_step (S' := (8, [.ref 47, .int (xs 1)], [.int 4, .int 0, .int (xs 1)], (P_hv164 xs L))) P_i212_7 (fun _ => rfl) ?_
  refine P_wp_call P_i212_8 rfl rfl rfl rfl rfl rfl rfl (y2 := 186) (as := [.int (xs 1), .int 0, .int 4]) (r0 := []) rfl (Nat.le_of_ble_eq_true rfl) (by decide) rfl (Nat.le_of_ble_eq_true rfl) (P_x181 xs L hq1 hq2 (?_))
  show P_wp P_Y0 199 212 (11, [.ref 47, .int (xs 1)], [.int 1], (P_hv164 xs L)) _
  refine P_wp_izf P_i212_11 P_b31 (show P_wp P_Y0 199 212 (14, [.ref 47, .int (xs 1)], [], (P_hv164 xs L)) _ from ?_)
  refine P_wp_step (S' := (15, [.ref 47, .int (xs 1)], [.ref 47], (P_hv164 xs L))) P_i212_14 (fun _ => rfl) ?_
  refine P_wp_step (S' := (16, [.ref 47, .int (xs 1)], [.int (xs 1), .ref 47], (P_hv164 xs L))) P_i212_15 (fun _ => rfl) ?_
  refine P_wp_call P_i212_16 rfl rfl rfl rfl rfl rfl rfl (y2 := 211) (as := [.ref 47, .int (xs 1)]) (r0 := []) rfl (Nat.le_of_ble_eq_true rfl) (by decide) rfl (Nat.le_of_ble_eq_true rfl) (P_x189 xs L hq3 hq4 (?_))
  show P_wp P_Y0 199 212 (19, [.ref 47, .int (xs 1)], [.int 0], (P_hv164 xs L)) _
  refine P_wp_step (S' := (27, [.ref 47, .int (xs 1)], [.int 0], (P_hv164 xs L))) P_i212_19 (fun _ => rfl) ?_
  refine P_wp_end (x := (.inl (some (.int 0)), (P_hv164 xs L))) P_i212_27 (fun _ => rfl) ?_
  exact q

set_option maxRecDepth 20000 in
theorem P_x191 (xs : Nat → Int32) (L : Nat) {Q : P_R → P_H → Prop} (q : Q (.inl (some (.int 0))) (P_hv132 xs L)) : P_wp P_Y0 196 114 (0, [.ref 3], [], (P_hv132 xs L)) Q := by
  refine P_wp_step (S' := (1, [.ref 3], [.ref 3], (P_hv132 xs L))) P_i114_0 (fun _ => rfl) ?_
  refine P_wp_step (S' := (4, [.ref 3], [.int 0], (P_hv132 xs L))) P_i114_1 (fun _ => rfl) ?_
  refine P_wp_end (x := (.inl (some (.int 0)), (P_hv132 xs L))) P_i114_4 (fun _ => rfl) ?_
  exact q

set_option maxRecDepth 20000 in
theorem P_x192 (xs : Nat → Int32) (L : Nat) (hq1 : P_cc .ne (xs 1) 0 = false) {Q : P_R → P_H → Prop} (q : Q (.inl (some (.int 0))) (P_hv132 xs L)) : P_wp P_Y0 197 168 (0, [.ref 2, .int (xs 1)], [], (P_hv132 xs L)) Q := by
  refine P_wp_step (S' := (1, [.ref 2, .int (xs 1)], [.int (xs 1)], (P_hv132 xs L))) P_i168_0 (fun _ => rfl) ?_
  refine P_wp_izf P_i168_1 hq1 (show P_wp P_Y0 197 168 (4, [.ref 2, .int (xs 1)], [], (P_hv132 xs L)) _ from ?_)
  refine P_wp_step (S' := (5, [.ref 2, .int (xs 1)], [.ref 2], (P_hv132 xs L))) P_i168_4 (fun _ => rfl) ?_
  refine P_wp_step (S' := (8, [.ref 2, .int (xs 1)], [.ref 3], (P_hv132 xs L))) P_i168_5 (fun _ => rfl) ?_
  refine P_wp_call P_i168_8 rfl rfl rfl rfl rfl rfl rfl (y2 := 114) (as := [.ref 3]) (r0 := []) rfl (Nat.le_of_ble_eq_true rfl) (by decide) rfl (Nat.le_of_ble_eq_true rfl) (P_x191 xs L (?_))
  show P_wp P_Y0 197 168 (11, [.ref 2, .int (xs 1)], [.int 0], (P_hv132 xs L)) _
  refine P_wp_end (x := (.inl (some (.int 0)), (P_hv132 xs L))) P_i168_11 (fun _ => rfl) ?_
  exact q

set_option maxRecDepth 20000 in
theorem P_x193 (xs : Nat → Int32) (L : Nat) (hq1 : P_cc .lt (xs 1) 0 = false) (hq2 : P_cc .le (xs 1) 4 = true) (hq3 : P_cc .ne (xs 1) 0 = false) {Q : P_R → P_H → Prop} (q : Q (.inl (some (.int 0))) (P_hv132 xs L)) : P_wp P_Y0 198 146 (0, [.ref 2, .int (xs 1)], [], (P_hv132 xs L)) Q := by
  refine P_wp_step (S' := (1, [.ref 2, .int (xs 1)], [.int (xs 1)], (P_hv132 xs L))) P_i146_0 (fun _ => rfl) ?_
  refine P_wp_izf P_i146_1 hq1 (show P_wp P_Y0 198 146 (4, [.ref 2, .int (xs 1)], [], (P_hv132 xs L)) _ from ?_)
  refine P_wp_step (S' := (5, [.ref 2, .int (xs 1)], [.int (xs 1)], (P_hv132 xs L))) P_i146_4 (fun _ => rfl) ?_
  refine P_wp_step (S' := (6, [.ref 2, .int (xs 1)], [.int 4, .int (xs 1)], (P_hv132 xs L))) P_i146_5 (fun _ => rfl) ?_
  refine P_wp_ict P_i146_6 hq2 (show P_wp P_Y0 198 146 (19, [.ref 2, .int (xs 1)], [], (P_hv132 xs L)) _ from ?_)
  refine P_wp_step (S' := (20, [.ref 2, .int (xs 1)], [.ref 2], (P_hv132 xs L))) P_i146_19 (fun _ => rfl) ?_
  refine P_wp_step (S' := (21, [.ref 2, .int (xs 1)], [.int (xs 1), .ref 2], (P_hv132 xs L))) P_i146_20 (fun _ => rfl) ?_
  refine P_wp_call P_i146_21 rfl rfl rfl rfl rfl rfl rfl (y2 := 168) (as := [.ref 2, .int (xs 1)]) (r0 := []) rfl (Nat.le_of_ble_eq_true rfl) (by decide) rfl (Nat.le_of_ble_eq_true rfl) (P_x192 xs L hq3 (?_))
  show P_wp P_Y0 198 146 (24, [.ref 2, .int (xs 1)], [.int 0], (P_hv132 xs L)) _
  refine P_wp_end (x := (.inl (some (.int 0)), (P_hv132 xs L))) P_i146_24 (fun _ => rfl) ?_
  exact q

set_option maxRecDepth 20000 in
theorem P_x194 (xs : Nat → Int32) (L : Nat) (hq1 : P_cc .lt (xs 1) 0 = false) (hq2 : P_cc .le (xs 1) 4 = true) (hq3 : P_cc .ne (xs 1) 0 = false) {Q : P_R → P_H → Prop} (q : Q (.inl (some (.int 0))) (P_hv164 xs L)) : P_wp P_Y0 199 275 (0, [.ref 2, .int (xs 1), .ref 63, P_un], [], (P_hv132 xs L)) Q := by
  refine P_wp_step (S' := (1, [.ref 2, .int (xs 1), .ref 63, P_un], [.ref 63], (P_hv132 xs L))) P_i275_0 (fun _ => rfl) ?_
  refine P_wp_step (S' := (2, [.ref 2, .int (xs 1), .ref 63, P_un], [.int 0, .ref 63], (P_hv132 xs L))) P_i275_1 (fun _ => rfl) ?_
  refine P_wp_step (S' := (3, [.ref 2, .int (xs 1), .ref 63, P_un], [.ref 2, .int 0, .ref 63], (P_hv132 xs L))) P_i275_2 (fun _ => rfl) ?_
  refine P_wp_step (S' := (4, [.ref 2, .int (xs 1), .ref 63, P_un], [.int (xs 1), .ref 2, .int 0, .ref 63], (P_hv132 xs L))) P_i275_3 (fun _ => rfl) ?_
  refine P_wp_call P_i275_4 rfl rfl rfl rfl rfl rfl rfl (y2 := 146) (as := [.ref 2, .int (xs 1)]) (r0 := [.int 0, .ref 63]) rfl (Nat.le_of_ble_eq_true rfl) (by decide) rfl (Nat.le_of_ble_eq_true rfl) (P_x193 xs L hq1 hq2 hq3 (?_))
  show P_wp P_Y0 199 275 (7, [.ref 2, .int (xs 1), .ref 63, P_un], [.int 0, .int 0, .ref 63], (P_hv132 xs L)) _
  refine P_wp_step (S' := (8, [.ref 2, .int (xs 1), .ref 63, P_un], [.long 0, .int 0, .ref 63], (P_hv132 xs L))) P_i275_7 (fun _ => rfl) ?_
  refine P_wp_step (S' := (9, [.ref 2, .int (xs 1), .ref 63, P_un], [], (P_hv164 xs L))) P_i275_8 (fun _ => rfl) ?_
  refine P_wp_step (S' := (15, [.ref 2, .int (xs 1), .ref 63, P_un], [], (P_hv164 xs L))) P_i275_9 (fun _ => rfl) ?_
  refine P_wp_step (S' := (16, [.ref 2, .int (xs 1), .ref 63, P_un], [.int 0], (P_hv164 xs L))) P_i275_15 (fun _ => rfl) ?_
  refine P_wp_end (x := (.inl (some (.int 0)), (P_hv164 xs L))) P_i275_16 (fun _ => rfl) ?_
  exact q

set_option maxRecDepth 20000 in
theorem P_x195 (xs : Nat → Int32) (L : Nat) (hq1 : P_cc .ge (xs 1) 2 = false) (hq2 : P_cc .ne (xs 1) 0 = false) {Q : P_R → P_H → Prop} (q : Q (.inl (some (.int 0))) (P_hv164 xs L)) : P_wp P_Y0 198 211 (0, [.ref 47, .int (xs 1)], [], (P_hv164 xs L)) Q := by
  refine P_wp_step (S' := (1, [.ref 47, .int (xs 1)], [.int (xs 1)], (P_hv164 xs L))) P_i211_0 (fun _ => rfl) ?_
  refine P_wp_step (S' := (2, [.ref 47, .int (xs 1)], [.int 2, .int (xs 1)], (P_hv164 xs L))) P_i211_1 (fun _ => rfl) ?_
  refine P_wp_icf P_i211_2 hq1 (show P_wp P_Y0 198 211 (5, [.ref 47, .int (xs 1)], [], (P_hv164 xs L)) _ from ?_)
  refine P_wp_step (S' := (6, [.ref 47, .int (xs 1)], [.int (xs 1)], (P_hv164 xs L))) P_i211_5 (fun _ => rfl) ?_
  refine P_wp_izf P_i211_6 hq2 (show P_wp P_Y0 198 211 (9, [.ref 47, .int (xs 1)], [], (P_hv164 xs L)) _ from ?_)
  refine P_wp_step (S' := (10, [.ref 47, .int (xs 1)], [.ref 47], (P_hv164 xs L))) P_i211_9 (fun _ => rfl) ?_
  refine P_wp_step (S' := (13, [.ref 47, .int (xs 1)], [.int 0], (P_hv164 xs L))) P_i211_10 (fun _ => rfl) ?_
  refine P_wp_step (S' := (20, [.ref 47, .int (xs 1)], [.int 0], (P_hv164 xs L))) P_i211_13 (fun _ => rfl) ?_
  refine P_wp_end (x := (.inl (some (.int 0)), (P_hv164 xs L))) P_i211_20 (fun _ => rfl) ?_
  exact q

set_option maxRecDepth 20000 in
theorem P_x196 (xs : Nat → Int32) (L : Nat) (hq1 : P_cc .lt (xs 1) 0 = false) (hq2 : P_cc .gt (xs 1) 4 = false) (hq3 : P_cc .ge (xs 1) 2 = false) (hq4 : P_cc .ne (xs 1) 0 = false) {Q : P_R → P_H → Prop} (q : Q (.inl (some (.int 0))) (P_hv164 xs L)) : P_wp P_Y0 199 212 (0, [.ref 47, .int (xs 1)], [], (P_hv164 xs L)) Q := by
  refine P_wp_step (S' := (1, [.ref 47, .int (xs 1)], [.ref 47], (P_hv164 xs L))) P_i212_0 (fun _ => rfl) ?_
  refine P_wp_step (S' := (2, [.ref 47, .int (xs 1)], [.int 0, .ref 47], (P_hv164 xs L))) P_i212_1 (fun _ => rfl) ?_
  refine P_wp_step (S' := (5, [.ref 47, .int (xs 1)], [], (P_hv164 xs L))) P_i212_2 (fun _ => rfl) ?_
  refine P_wp_step (S' := (6, [.ref 47, .int (xs 1)], [.int (xs 1)], (P_hv164 xs L))) P_i212_5 (fun _ => rfl) ?_
  refine P_wp_step (S' := (7, [.ref 47, .int (xs 1)], [.int 0, .int (xs 1)], (P_hv164 xs L))) P_i212_6 (fun _ => rfl) ?_
  refine P_wp_step (S' := (8, [.ref 47, .int (xs 1)], [.int 4, .int 0, .int (xs 1)], (P_hv164 xs L))) P_i212_7 (fun _ => rfl) ?_
  refine P_wp_call P_i212_8 rfl rfl rfl rfl rfl rfl rfl (y2 := 186) (as := [.int (xs 1), .int 0, .int 4]) (r0 := []) rfl (Nat.le_of_ble_eq_true rfl) (by decide) rfl (Nat.le_of_ble_eq_true rfl) (P_x181 xs L hq1 hq2 (?_))
  show P_wp P_Y0 199 212 (11, [.ref 47, .int (xs 1)], [.int 1], (P_hv164 xs L)) _
  refine P_wp_izf P_i212_11 P_b31 (show P_wp P_Y0 199 212 (14, [.ref 47, .int (xs 1)], [], (P_hv164 xs L)) _ from ?_)
  refine P_wp_step (S' := (15, [.ref 47, .int (xs 1)], [.ref 47], (P_hv164 xs L))) P_i212_14 (fun _ => rfl) ?_
  refine P_wp_step (S' := (16, [.ref 47, .int (xs 1)], [.int (xs 1), .ref 47], (P_hv164 xs L))) P_i212_15 (fun _ => rfl) ?_
  refine P_wp_call P_i212_16 rfl rfl rfl rfl rfl rfl rfl (y2 := 211) (as := [.ref 47, .int (xs 1)]) (r0 := []) rfl (Nat.le_of_ble_eq_true rfl) (by decide) rfl (Nat.le_of_ble_eq_true rfl) (P_x195 xs L hq3 hq4 (?_))
  show P_wp P_Y0 199 212 (19, [.ref 47, .int (xs 1)], [.int 0], (P_hv164 xs L)) _
  refine P_wp_step (S' := (27, [.ref 47, .int (xs 1)], [.int 0], (P_hv164 xs L))) P_i212_19 (fun _ => rfl) ?_
  refine P_wp_end (x := (.inl (some (.int 0)), (P_hv164 xs L))) P_i212_27 (fun _ => rfl) ?_
  exact q

set_option maxRecDepth 20000 in
theorem P_x197 (xs : Nat → Int32) (L : Nat) (hq1 : P_cc .lt (xs 1) 0 = false) (hq2 : P_cc .le (xs 1) 4 = false) {Q : P_R → P_H → Prop} (q : Q (.inr 0) (P_hv134 xs L)) : P_wp P_Y0 198 146 (0, [.ref 2, .int (xs 1)], [], (P_hv132 xs L)) Q := by
  refine P_wp_step (S' := (1, [.ref 2, .int (xs 1)], [.int (xs 1)], (P_hv132 xs L))) P_i146_0 (fun _ => rfl) ?_
  refine P_wp_izf P_i146_1 hq1 (show P_wp P_Y0 198 146 (4, [.ref 2, .int (xs 1)], [], (P_hv132 xs L)) _ from ?_)
  refine P_wp_step (S' := (5, [.ref 2, .int (xs 1)], [.int (xs 1)], (P_hv132 xs L))) P_i146_4 (fun _ => rfl) ?_
  refine P_wp_step (S' := (6, [.ref 2, .int (xs 1)], [.int 4, .int (xs 1)], (P_hv132 xs L))) P_i146_5 (fun _ => rfl) ?_
  refine P_wp_icf P_i146_6 hq2 (show P_wp P_Y0 198 146 (9, [.ref 2, .int (xs 1)], [], (P_hv132 xs L)) _ from ?_)
  refine P_wp_end (x := (.inr 0, (P_hv134 xs L))) P_i146_9 (fun _ => rfl) ?_
  exact q

set_option maxRecDepth 20000 in
theorem P_x198 (xs : Nat → Int32) (L : Nat) (hq1 : P_cc .lt (xs 1) 0 = false) (hq2 : P_cc .le (xs 1) 4 = false) {Q : P_R → P_H → Prop} (q : Q (.inl (some (.int 1))) (P_hv134 xs L)) : P_wp P_Y0 199 275 (0, [.ref 2, .int (xs 1), .ref 63, P_un], [], (P_hv132 xs L)) Q := by
  refine P_wp_step (S' := (1, [.ref 2, .int (xs 1), .ref 63, P_un], [.ref 63], (P_hv132 xs L))) P_i275_0 (fun _ => rfl) ?_
  refine P_wp_step (S' := (2, [.ref 2, .int (xs 1), .ref 63, P_un], [.int 0, .ref 63], (P_hv132 xs L))) P_i275_1 (fun _ => rfl) ?_
  refine P_wp_step (S' := (3, [.ref 2, .int (xs 1), .ref 63, P_un], [.ref 2, .int 0, .ref 63], (P_hv132 xs L))) P_i275_2 (fun _ => rfl) ?_
  refine P_wp_step (S' := (4, [.ref 2, .int (xs 1), .ref 63, P_un], [.int (xs 1), .ref 2, .int 0, .ref 63], (P_hv132 xs L))) P_i275_3 (fun _ => rfl) ?_
  refine P_wp_call P_i275_4 rfl rfl rfl rfl rfl rfl rfl (y2 := 146) (as := [.ref 2, .int (xs 1)]) (r0 := [.int 0, .ref 63]) rfl (Nat.le_of_ble_eq_true rfl) (by decide) rfl (Nat.le_of_ble_eq_true rfl) (P_x197 xs L hq1 hq2 (?_))
  refine ⟨show 3 < 4 by decide, ?_⟩
  show P_wp P_Y0 199 275 (13, [.ref 2, .int (xs 1), .ref 63, P_un], [], (P_hv134 xs L)) _
  refine P_wp_step (S' := (14, [.ref 2, .int (xs 1), .ref 63, P_un], [.int 1], (P_hv134 xs L))) P_i275_13 (fun _ => rfl) ?_
  refine P_wp_end (x := (.inl (some (.int 1)), (P_hv134 xs L))) P_i275_14 (fun _ => rfl) ?_
  exact q

set_option maxRecDepth 20000 in
theorem P_x199 (xs : Nat → Int32) (L : Nat) (hq1 : P_cc .lt (xs 1) 0 = false) (hq2 : P_cc .gt (xs 1) 4 = true) {Q : P_R → P_H → Prop} (q : Q (.inl (some (.int 0))) (P_hv134 xs L)) : P_wp P_Y0 198 186 (0, [.int (xs 1), .int 0, .int 4], [], (P_hv134 xs L)) Q := by
  refine P_wp_step (S' := (1, [.int (xs 1), .int 0, .int 4], [.int (xs 1)], (P_hv134 xs L))) P_i186_0 (fun _ => rfl) ?_
  refine P_wp_step (S' := (2, [.int (xs 1), .int 0, .int 4], [.int 0, .int (xs 1)], (P_hv134 xs L))) P_i186_1 (fun _ => rfl) ?_
  refine P_wp_icf P_i186_2 hq1 (show P_wp P_Y0 198 186 (5, [.int (xs 1), .int 0, .int 4], [], (P_hv134 xs L)) _ from ?_)
  refine P_wp_step (S' := (6, [.int (xs 1), .int 0, .int 4], [.int (xs 1)], (P_hv134 xs L))) P_i186_5 (fun _ => rfl) ?_
  refine P_wp_step (S' := (7, [.int (xs 1), .int 0, .int 4], [.int 4, .int (xs 1)], (P_hv134 xs L))) P_i186_6 (fun _ => rfl) ?_
  refine P_wp_ict P_i186_7 hq2 (show P_wp P_Y0 198 186 (14, [.int (xs 1), .int 0, .int 4], [], (P_hv134 xs L)) _ from ?_)
  refine P_wp_step (S' := (15, [.int (xs 1), .int 0, .int 4], [.int 0], (P_hv134 xs L))) P_i186_14 (fun _ => rfl) ?_
  refine P_wp_end (x := (.inl (some (.int 0)), (P_hv134 xs L))) P_i186_15 (fun _ => rfl) ?_
  exact q

set_option maxRecDepth 20000 in
theorem P_x200 (xs : Nat → Int32) (L : Nat) (hq1 : P_cc .lt (xs 1) 0 = false) (hq2 : P_cc .gt (xs 1) 4 = true) {Q : P_R → P_H → Prop} (q : Q (.inl (some (.int 0))) (P_hv135 xs L)) : P_wp P_Y0 199 212 (0, [.ref 47, .int (xs 1)], [], (P_hv134 xs L)) Q := by
  refine P_wp_step (S' := (1, [.ref 47, .int (xs 1)], [.ref 47], (P_hv134 xs L))) P_i212_0 (fun _ => rfl) ?_
  refine P_wp_step (S' := (2, [.ref 47, .int (xs 1)], [.int 0, .ref 47], (P_hv134 xs L))) P_i212_1 (fun _ => rfl) ?_
  refine P_wp_step (S' := (5, [.ref 47, .int (xs 1)], [], (P_hv134 xs L))) P_i212_2 (fun _ => rfl) ?_
  refine P_wp_step (S' := (6, [.ref 47, .int (xs 1)], [.int (xs 1)], (P_hv134 xs L))) P_i212_5 (fun _ => rfl) ?_
  refine P_wp_step (S' := (7, [.ref 47, .int (xs 1)], [.int 0, .int (xs 1)], (P_hv134 xs L))) P_i212_6 (fun _ => rfl) ?_
  refine P_wp_step (S' := (8, [.ref 47, .int (xs 1)], [.int 4, .int 0, .int (xs 1)], (P_hv134 xs L))) P_i212_7 (fun _ => rfl) ?_
  refine P_wp_call P_i212_8 rfl rfl rfl rfl rfl rfl rfl (y2 := 186) (as := [.int (xs 1), .int 0, .int 4]) (r0 := []) rfl (Nat.le_of_ble_eq_true rfl) (by decide) rfl (Nat.le_of_ble_eq_true rfl) (P_x199 xs L hq1 hq2 (?_))
  show P_wp P_Y0 199 212 (11, [.ref 47, .int (xs 1)], [.int 0], (P_hv134 xs L)) _
  refine P_wp_izt P_i212_11 P_b27 (show P_wp P_Y0 199 212 (22, [.ref 47, .int (xs 1)], [], (P_hv134 xs L)) _ from ?_)
  refine P_wp_step (S' := (23, [.ref 47, .int (xs 1)], [.ref 47], (P_hv134 xs L))) P_i212_22 (fun _ => rfl) ?_
  refine P_wp_step (S' := (24, [.ref 47, .int (xs 1)], [.int 1, .ref 47], (P_hv134 xs L))) P_i212_23 (fun _ => rfl) ?_
  refine P_wp_call P_i212_24 rfl rfl rfl rfl rfl rfl rfl (y2 := 184) (as := [.ref 47, .int 1]) (r0 := []) rfl (Nat.le_of_ble_eq_true rfl) (by decide) rfl (Nat.le_of_ble_eq_true rfl) (P_x30 xs L (?_))
  show P_wp P_Y0 199 212 (27, [.ref 47, .int (xs 1)], [.int 0], (P_hv135 xs L)) _
  refine P_wp_end (x := (.inl (some (.int 0)), (P_hv135 xs L))) P_i212_27 (fun _ => rfl) ?_
  exact q

set_option maxRecDepth 20000 in
theorem P_x201 (xs : Nat → Int32) (L : Nat) {Q : P_R → P_H → Prop} (q : Q (.inr 1) (P_hv134 xs L)) : P_wp P_Y0 197 169 (0, [.ref 2], [], (P_hv132 xs L)) Q := by
  refine P_wp_step (S' := (1, [.ref 2], [.ref 2], (P_hv132 xs L))) P_i169_0 (fun _ => rfl) ?_
  refine P_wp_step (S' := (4, [.ref 2], [.ref 31], (P_hv132 xs L))) P_i169_1 (fun _ => rfl) ?_
  refine P_wp_call P_i169_4 rfl rfl rfl rfl rfl rfl rfl (y2 := 92) (as := [.ref 31]) (r0 := []) rfl (Nat.le_of_ble_eq_true rfl) (by decide) rfl (Nat.le_of_ble_eq_true rfl) (P_x177 xs L (?_))
  show P_wp P_Y0 197 169 (7, [.ref 2], [.int 0], (P_hv132 xs L)) _
  refine P_wp_izf P_i169_7 P_b19 (show P_wp P_Y0 197 169 (10, [.ref 2], [], (P_hv132 xs L)) _ from ?_)
  refine P_wp_end (x := (.inr 1, (P_hv134 xs L))) P_i169_10 (fun _ => rfl) ?_
  exact q

set_option maxRecDepth 20000 in
theorem P_x202 (xs : Nat → Int32) (L : Nat) {Q : P_R → P_H → Prop} (q : Q (.inr 1) (P_hv134 xs L)) : P_wp P_Y0 198 147 (0, [.ref 2, .int (xs 1), .int (xs 2)], [], (P_hv132 xs L)) Q := by
  refine P_wp_step (S' := (1, [.ref 2, .int (xs 1), .int (xs 2)], [.ref 2], (P_hv132 xs L))) P_i147_0 (fun _ => rfl) ?_
  refine P_wp_call P_i147_1 rfl rfl rfl rfl rfl rfl rfl (y2 := 169) (as := [.ref 2]) (r0 := []) rfl (Nat.le_of_ble_eq_true rfl) (by decide) rfl (Nat.le_of_ble_eq_true rfl) (P_x201 xs L (?_))
  show Q (.inr 1) (P_hv134 xs L)
  exact q

set_option maxRecDepth 20000 in
theorem P_x203 (xs : Nat → Int32) (L : Nat) {Q : P_R → P_H → Prop} (q : Q (.inl (some (.int 1))) (P_hv134 xs L)) : P_wp P_Y0 199 276 (0, [.ref 2, .int (xs 1), .int (xs 2), .ref 63, P_un], [], (P_hv132 xs L)) Q := by
  refine P_wp_step (S' := (1, [.ref 2, .int (xs 1), .int (xs 2), .ref 63, P_un], [.ref 63], (P_hv132 xs L))) P_i276_0 (fun _ => rfl) ?_
  refine P_wp_step (S' := (2, [.ref 2, .int (xs 1), .int (xs 2), .ref 63, P_un], [.int 0, .ref 63], (P_hv132 xs L))) P_i276_1 (fun _ => rfl) ?_
  refine P_wp_step (S' := (3, [.ref 2, .int (xs 1), .int (xs 2), .ref 63, P_un], [.ref 2, .int 0, .ref 63], (P_hv132 xs L))) P_i276_2 (fun _ => rfl) ?_
  refine P_wp_step (S' := (4, [.ref 2, .int (xs 1), .int (xs 2), .ref 63, P_un], [.int (xs 1), .ref 2, .int 0, .ref 63], (P_hv132 xs L))) P_i276_3 (fun _ => rfl) ?_
  refine P_wp_step (S' := (5, [.ref 2, .int (xs 1), .int (xs 2), .ref 63, P_un], [.int (xs 2), .int (xs 1), .ref 2, .int 0, .ref 63], (P_hv132 xs L))) P_i276_4 (fun _ => rfl) ?_
  refine P_wp_call P_i276_5 rfl rfl rfl rfl rfl rfl rfl (y2 := 147) (as := [.ref 2, .int (xs 1), .int (xs 2)]) (r0 := [.int 0, .ref 63]) rfl (Nat.le_of_ble_eq_true rfl) (by decide) rfl (Nat.le_of_ble_eq_true rfl) (P_x202 xs L (?_))
  refine ⟨show 4 < 5 by decide, ?_⟩
  show P_wp P_Y0 199 276 (15, [.ref 2, .int (xs 1), .int (xs 2), .ref 63, P_un], [], (P_hv134 xs L)) _
  refine P_wp_step (S' := (16, [.ref 2, .int (xs 1), .int (xs 2), .ref 63, P_un], [.int 1], (P_hv134 xs L))) P_i276_15 (fun _ => rfl) ?_
  refine P_wp_end (x := (.inl (some (.int 1)), (P_hv134 xs L))) P_i276_16 (fun _ => rfl) ?_
  exact q

set_option maxRecDepth 20000 in
theorem P_x204 (xs : Nat → Int32) (L : Nat) {Q : P_R → P_H → Prop} (q : Q (.inl (some (.int 0))) (P_hv135 xs L)) : P_wp P_Y0 199 220 (0, [.ref 47, .int (xs 1), .int (xs 2)], [], (P_hv134 xs L)) Q := by
  refine P_wp_step (S' := (1, [.ref 47, .int (xs 1), .int (xs 2)], [.ref 47], (P_hv134 xs L))) P_i220_0 (fun _ => rfl) ?_
  refine P_wp_step (S' := (2, [.ref 47, .int (xs 1), .int (xs 2)], [.int 0, .ref 47], (P_hv134 xs L))) P_i220_1 (fun _ => rfl) ?_
  refine P_wp_step (S' := (5, [.ref 47, .int (xs 1), .int (xs 2)], [], (P_hv134 xs L))) P_i220_2 (fun _ => rfl) ?_
  refine P_wp_step (S' := (6, [.ref 47, .int (xs 1), .int (xs 2)], [.ref 47], (P_hv134 xs L))) P_i220_5 (fun _ => rfl) ?_
  refine P_wp_step (S' := (9, [.ref 47, .int (xs 1), .int (xs 2)], [.int 0], (P_hv134 xs L))) P_i220_6 (fun _ => rfl) ?_
  refine P_wp_izf P_i220_9 P_b19 (show P_wp P_Y0 199 220 (12, [.ref 47, .int (xs 1), .int (xs 2)], [], (P_hv134 xs L)) _ from ?_)
  refine P_wp_step (S' := (13, [.ref 47, .int (xs 1), .int (xs 2)], [.ref 47], (P_hv134 xs L))) P_i220_12 (fun _ => rfl) ?_
  refine P_wp_step (S' := (14, [.ref 47, .int (xs 1), .int (xs 2)], [.int 1, .ref 47], (P_hv134 xs L))) P_i220_13 (fun _ => rfl) ?_
  refine P_wp_call P_i220_14 rfl rfl rfl rfl rfl rfl rfl (y2 := 184) (as := [.ref 47, .int 1]) (r0 := []) rfl (Nat.le_of_ble_eq_true rfl) (by decide) rfl (Nat.le_of_ble_eq_true rfl) (P_x30 xs L (?_))
  show P_wp P_Y0 199 220 (17, [.ref 47, .int (xs 1), .int (xs 2)], [.int 0], (P_hv135 xs L)) _
  refine P_wp_end (x := (.inl (some (.int 0)), (P_hv135 xs L))) P_i220_17 (fun _ => rfl) ?_
  exact q

set_option maxRecDepth 20000 in
theorem P_x205 (xs : Nat → Int32) (L : Nat) {Q : P_R → P_H → Prop} (q : Q (.inr 1) (P_hv134 xs L)) : P_wp P_Y0 198 148 (0, [.ref 2, .int (xs 1), P_un], [], (P_hv132 xs L)) Q := by
  refine P_wp_step (S' := (1, [.ref 2, .int (xs 1), P_un], [.ref 2], (P_hv132 xs L))) P_i148_0 (fun _ => rfl) ?_
  refine P_wp_call P_i148_1 rfl rfl rfl rfl rfl rfl rfl (y2 := 169) (as := [.ref 2]) (r0 := []) rfl (Nat.le_of_ble_eq_true rfl) (by decide) rfl (Nat.le_of_ble_eq_true rfl) (P_x201 xs L (?_))
  show Q (.inr 1) (P_hv134 xs L)
  exact q

set_option maxRecDepth 20000 in
theorem P_x206 (xs : Nat → Int32) (L : Nat) {Q : P_R → P_H → Prop} (q : Q (.inl (some (.int 1))) (P_hv134 xs L)) : P_wp P_Y0 199 277 (0, [.ref 2, .int (xs 1), .ref 63, P_un], [], (P_hv132 xs L)) Q := by
  refine P_wp_step (S' := (1, [.ref 2, .int (xs 1), .ref 63, P_un], [.ref 63], (P_hv132 xs L))) P_i277_0 (fun _ => rfl) ?_
  refine P_wp_step (S' := (2, [.ref 2, .int (xs 1), .ref 63, P_un], [.int 0, .ref 63], (P_hv132 xs L))) P_i277_1 (fun _ => rfl) ?_
  refine P_wp_step (S' := (3, [.ref 2, .int (xs 1), .ref 63, P_un], [.ref 2, .int 0, .ref 63], (P_hv132 xs L))) P_i277_2 (fun _ => rfl) ?_
  refine P_wp_step (S' := (4, [.ref 2, .int (xs 1), .ref 63, P_un], [.int (xs 1), .ref 2, .int 0, .ref 63], (P_hv132 xs L))) P_i277_3 (fun _ => rfl) ?_
  refine P_wp_call P_i277_4 rfl rfl rfl rfl rfl rfl rfl (y2 := 148) (as := [.ref 2, .int (xs 1)]) (r0 := [.int 0, .ref 63]) rfl (Nat.le_of_ble_eq_true rfl) (by decide) rfl (Nat.le_of_ble_eq_true rfl) (P_x205 xs L (?_))
  refine ⟨show 3 < 4 by decide, ?_⟩
  show P_wp P_Y0 199 277 (13, [.ref 2, .int (xs 1), .ref 63, P_un], [], (P_hv134 xs L)) _
  refine P_wp_step (S' := (14, [.ref 2, .int (xs 1), .ref 63, P_un], [.int 1], (P_hv134 xs L))) P_i277_13 (fun _ => rfl) ?_
  refine P_wp_end (x := (.inl (some (.int 1)), (P_hv134 xs L))) P_i277_14 (fun _ => rfl) ?_
  exact q

set_option maxRecDepth 20000 in
theorem P_x207 (xs : Nat → Int32) (L : Nat) {Q : P_R → P_H → Prop} (q : Q (.inl (some (.int 0))) (P_hv135 xs L)) : P_wp P_Y0 199 227 (0, [.ref 47, .int (xs 1), P_un], [], (P_hv134 xs L)) Q := by
  refine P_wp_step (S' := (1, [.ref 47, .int (xs 1), P_un], [.ref 47], (P_hv134 xs L))) P_i227_0 (fun _ => rfl) ?_
  refine P_wp_step (S' := (2, [.ref 47, .int (xs 1), P_un], [.int 0, .ref 47], (P_hv134 xs L))) P_i227_1 (fun _ => rfl) ?_
  refine P_wp_step (S' := (5, [.ref 47, .int (xs 1), P_un], [], (P_hv134 xs L))) P_i227_2 (fun _ => rfl) ?_
  refine P_wp_step (S' := (6, [.ref 47, .int (xs 1), P_un], [.ref 47], (P_hv134 xs L))) P_i227_5 (fun _ => rfl) ?_
  refine P_wp_step (S' := (9, [.ref 47, .int (xs 1), P_un], [.int 0], (P_hv134 xs L))) P_i227_6 (fun _ => rfl) ?_
  refine P_wp_izf P_i227_9 P_b19 (show P_wp P_Y0 199 227 (12, [.ref 47, .int (xs 1), P_un], [], (P_hv134 xs L)) _ from ?_)
  refine P_wp_step (S' := (13, [.ref 47, .int (xs 1), P_un], [.ref 47], (P_hv134 xs L))) P_i227_12 (fun _ => rfl) ?_
  refine P_wp_step (S' := (14, [.ref 47, .int (xs 1), P_un], [.int 1, .ref 47], (P_hv134 xs L))) P_i227_13 (fun _ => rfl) ?_
  refine P_wp_call P_i227_14 rfl rfl rfl rfl rfl rfl rfl (y2 := 184) (as := [.ref 47, .int 1]) (r0 := []) rfl (Nat.le_of_ble_eq_true rfl) (by decide) rfl (Nat.le_of_ble_eq_true rfl) (P_x30 xs L (?_))
  show P_wp P_Y0 199 227 (17, [.ref 47, .int (xs 1), P_un], [.int 0], (P_hv135 xs L)) _
  refine P_wp_end (x := (.inl (some (.int 0)), (P_hv135 xs L))) P_i227_17 (fun _ => rfl) ?_
  exact q

set_option maxRecDepth 20000 in
theorem P_x208 (xs : Nat → Int32) (L : Nat) {Q : P_R → P_H → Prop} (q : Q (.inr 1) (P_hv134 xs L)) : P_wp P_Y0 198 149 (0, [.ref 2, .int (xs 1), .int (xs 2)], [], (P_hv132 xs L)) Q := by
  refine P_wp_step (S' := (1, [.ref 2, .int (xs 1), .int (xs 2)], [.ref 2], (P_hv132 xs L))) P_i149_0 (fun _ => rfl) ?_
  refine P_wp_call P_i149_1 rfl rfl rfl rfl rfl rfl rfl (y2 := 169) (as := [.ref 2]) (r0 := []) rfl (Nat.le_of_ble_eq_true rfl) (by decide) rfl (Nat.le_of_ble_eq_true rfl) (P_x201 xs L (?_))
  show Q (.inr 1) (P_hv134 xs L)
  exact q

set_option maxRecDepth 20000 in
theorem P_x209 (xs : Nat → Int32) (L : Nat) {Q : P_R → P_H → Prop} (q : Q (.inl (some (.int 1))) (P_hv134 xs L)) : P_wp P_Y0 199 278 (0, [.ref 2, .int (xs 1), .int (xs 2), .ref 63, P_un], [], (P_hv132 xs L)) Q := by
  refine P_wp_step (S' := (1, [.ref 2, .int (xs 1), .int (xs 2), .ref 63, P_un], [.ref 63], (P_hv132 xs L))) P_i278_0 (fun _ => rfl) ?_
  refine P_wp_step (S' := (2, [.ref 2, .int (xs 1), .int (xs 2), .ref 63, P_un], [.int 0, .ref 63], (P_hv132 xs L))) P_i278_1 (fun _ => rfl) ?_
  refine P_wp_step (S' := (3, [.ref 2, .int (xs 1), .int (xs 2), .ref 63, P_un], [.ref 2, .int 0, .ref 63], (P_hv132 xs L))) P_i278_2 (fun _ => rfl) ?_
  refine P_wp_step (S' := (4, [.ref 2, .int (xs 1), .int (xs 2), .ref 63, P_un], [.int (xs 1), .ref 2, .int 0, .ref 63], (P_hv132 xs L))) P_i278_3 (fun _ => rfl) ?_
  refine P_wp_step (S' := (5, [.ref 2, .int (xs 1), .int (xs 2), .ref 63, P_un], [.int (xs 2), .int (xs 1), .ref 2, .int 0, .ref 63], (P_hv132 xs L))) P_i278_4 (fun _ => rfl) ?_
  refine P_wp_call P_i278_5 rfl rfl rfl rfl rfl rfl rfl (y2 := 149) (as := [.ref 2, .int (xs 1), .int (xs 2)]) (r0 := [.int 0, .ref 63]) rfl (Nat.le_of_ble_eq_true rfl) (by decide) rfl (Nat.le_of_ble_eq_true rfl) (P_x208 xs L (?_))
  refine ⟨show 4 < 5 by decide, ?_⟩
  show P_wp P_Y0 199 278 (15, [.ref 2, .int (xs 1), .int (xs 2), .ref 63, P_un], [], (P_hv134 xs L)) _
  refine P_wp_step (S' := (16, [.ref 2, .int (xs 1), .int (xs 2), .ref 63, P_un], [.int 1], (P_hv134 xs L))) P_i278_15 (fun _ => rfl) ?_
  refine P_wp_end (x := (.inl (some (.int 1)), (P_hv134 xs L))) P_i278_16 (fun _ => rfl) ?_
  exact q

set_option maxRecDepth 20000 in
theorem P_x210 (xs : Nat → Int32) (L : Nat) {Q : P_R → P_H → Prop} (q : Q (.inl (some (.int 0))) (P_hv135 xs L)) : P_wp P_Y0 199 228 (0, [.ref 47, .int (xs 1), .int (xs 2), P_un, P_un], [], (P_hv134 xs L)) Q := by
  refine P_wp_step (S' := (1, [.ref 47, .int (xs 1), .int (xs 2), P_un, P_un], [.ref 47], (P_hv134 xs L))) P_i228_0 (fun _ => rfl) ?_
  refine P_wp_step (S' := (2, [.ref 47, .int (xs 1), .int (xs 2), P_un, P_un], [.int 0, .ref 47], (P_hv134 xs L))) P_i228_1 (fun _ => rfl) ?_
  refine P_wp_step (S' := (5, [.ref 47, .int (xs 1), .int (xs 2), P_un, P_un], [], (P_hv134 xs L))) P_i228_2 (fun _ => rfl) ?_
  refine P_wp_step (S' := (6, [.ref 47, .int (xs 1), .int (xs 2), P_un, P_un], [.ref 47], (P_hv134 xs L))) P_i228_5 (fun _ => rfl) ?_
  refine P_wp_step (S' := (9, [.ref 47, .int (xs 1), .int (xs 2), P_un, P_un], [.int 0], (P_hv134 xs L))) P_i228_6 (fun _ => rfl) ?_
  refine P_wp_izf P_i228_9 P_b19 (show P_wp P_Y0 199 228 (12, [.ref 47, .int (xs 1), .int (xs 2), P_un, P_un], [], (P_hv134 xs L)) _ from ?_)
  refine P_wp_step (S' := (13, [.ref 47, .int (xs 1), .int (xs 2), P_un, P_un], [.ref 47], (P_hv134 xs L))) P_i228_12 (fun _ => rfl) ?_
  refine P_wp_step (S' := (14, [.ref 47, .int (xs 1), .int (xs 2), P_un, P_un], [.int 1, .ref 47], (P_hv134 xs L))) P_i228_13 (fun _ => rfl) ?_
  refine P_wp_call P_i228_14 rfl rfl rfl rfl rfl rfl rfl (y2 := 184) (as := [.ref 47, .int 1]) (r0 := []) rfl (Nat.le_of_ble_eq_true rfl) (by decide) rfl (Nat.le_of_ble_eq_true rfl) (P_x30 xs L (?_))
  show P_wp P_Y0 199 228 (17, [.ref 47, .int (xs 1), .int (xs 2), P_un, P_un], [.int 0], (P_hv135 xs L)) _
  refine P_wp_end (x := (.inl (some (.int 0)), (P_hv135 xs L))) P_i228_17 (fun _ => rfl) ?_
  exact q

set_option maxRecDepth 20000 in
theorem P_x211 (xs : Nat → Int32) (L : Nat) {Q : P_R → P_H → Prop} (q : Q (.inr 1) (P_hv134 xs L)) : P_wp P_Y0 198 150 (0, [.ref 2, P_un, P_un], [], (P_hv132 xs L)) Q := by
  refine P_wp_step (S' := (1, [.ref 2, P_un, P_un], [.ref 2], (P_hv132 xs L))) P_i150_0 (fun _ => rfl) ?_
  refine P_wp_call P_i150_1 rfl rfl rfl rfl rfl rfl rfl (y2 := 169) (as := [.ref 2]) (r0 := []) rfl (Nat.le_of_ble_eq_true rfl) (by decide) rfl (Nat.le_of_ble_eq_true rfl) (P_x201 xs L (?_))
  show Q (.inr 1) (P_hv134 xs L)
  exact q

set_option maxRecDepth 20000 in
theorem P_x212 (xs : Nat → Int32) (L : Nat) {Q : P_R → P_H → Prop} (q : Q (.inl (some (.int 1))) (P_hv134 xs L)) : P_wp P_Y0 199 279 (0, [.ref 2, .ref 63, P_un], [], (P_hv132 xs L)) Q := by
  refine P_wp_step (S' := (1, [.ref 2, .ref 63, P_un], [.ref 63], (P_hv132 xs L))) P_i279_0 (fun _ => rfl) ?_
  refine P_wp_step (S' := (2, [.ref 2, .ref 63, P_un], [.int 0, .ref 63], (P_hv132 xs L))) P_i279_1 (fun _ => rfl) ?_
  refine P_wp_step (S' := (3, [.ref 2, .ref 63, P_un], [.ref 2, .int 0, .ref 63], (P_hv132 xs L))) P_i279_2 (fun _ => rfl) ?_
  refine P_wp_call P_i279_3 rfl rfl rfl rfl rfl rfl rfl (y2 := 150) (as := [.ref 2]) (r0 := [.int 0, .ref 63]) rfl (Nat.le_of_ble_eq_true rfl) (by decide) rfl (Nat.le_of_ble_eq_true rfl) (P_x211 xs L (?_))
  refine ⟨show 2 < 3 by decide, ?_⟩
  show P_wp P_Y0 199 279 (11, [.ref 2, .ref 63, P_un], [], (P_hv134 xs L)) _
  refine P_wp_step (S' := (12, [.ref 2, .ref 63, P_un], [.int 1], (P_hv134 xs L))) P_i279_11 (fun _ => rfl) ?_
  refine P_wp_end (x := (.inl (some (.int 1)), (P_hv134 xs L))) P_i279_12 (fun _ => rfl) ?_
  exact q

set_option maxRecDepth 20000 in
theorem P_x213 (xs : Nat → Int32) (L : Nat) {Q : P_R → P_H → Prop} (q : Q (.inl (some (.long 0))) (P_hv135 xs L)) : P_wp P_Y0 199 232 (0, [.ref 47, P_un, P_un, P_un, P_un, P_un, P_un, P_un, P_un, P_un], [], (P_hv134 xs L)) Q := by
  refine P_wp_step (S' := (1, [.ref 47, P_un, P_un, P_un, P_un, P_un, P_un, P_un, P_un, P_un], [.ref 47], (P_hv134 xs L))) P_i232_0 (fun _ => rfl) ?_
  refine P_wp_step (S' := (2, [.ref 47, P_un, P_un, P_un, P_un, P_un, P_un, P_un, P_un, P_un], [.int 0, .ref 47], (P_hv134 xs L))) P_i232_1 (fun _ => rfl) ?_
  refine P_wp_step (S' := (5, [.ref 47, P_un, P_un, P_un, P_un, P_un, P_un, P_un, P_un, P_un], [], (P_hv134 xs L))) P_i232_2 (fun _ => rfl) ?_
  refine P_wp_step (S' := (6, [.ref 47, P_un, P_un, P_un, P_un, P_un, P_un, P_un, P_un, P_un], [.ref 47], (P_hv134 xs L))) P_i232_5 (fun _ => rfl) ?_
  refine P_wp_step (S' := (9, [.ref 47, P_un, P_un, P_un, P_un, P_un, P_un, P_un, P_un, P_un], [.int 0], (P_hv134 xs L))) P_i232_6 (fun _ => rfl) ?_
  refine P_wp_izf P_i232_9 P_b19 (show P_wp P_Y0 199 232 (12, [.ref 47, P_un, P_un, P_un, P_un, P_un, P_un, P_un, P_un, P_un], [], (P_hv134 xs L)) _ from ?_)
  refine P_wp_step (S' := (13, [.ref 47, P_un, P_un, P_un, P_un, P_un, P_un, P_un, P_un, P_un], [.ref 47], (P_hv134 xs L))) P_i232_12 (fun _ => rfl) ?_
  refine P_wp_step (S' := (14, [.ref 47, P_un, P_un, P_un, P_un, P_un, P_un, P_un, P_un, P_un], [.int 1, .ref 47], (P_hv134 xs L))) P_i232_13 (fun _ => rfl) ?_
  refine P_wp_call P_i232_14 rfl rfl rfl rfl rfl rfl rfl (y2 := 184) (as := [.ref 47, .int 1]) (r0 := []) rfl (Nat.le_of_ble_eq_true rfl) (by decide) rfl (Nat.le_of_ble_eq_true rfl) (P_x30 xs L (?_))
  show P_wp P_Y0 199 232 (17, [.ref 47, P_un, P_un, P_un, P_un, P_un, P_un, P_un, P_un, P_un], [.int 0], (P_hv135 xs L)) _
  refine P_wp_step (S' := (18, [.ref 47, P_un, P_un, P_un, P_un, P_un, P_un, P_un, P_un, P_un], [.long 0], (P_hv135 xs L))) P_i232_17 (fun _ => rfl) ?_
  refine P_wp_end (x := (.inl (some (.long 0)), (P_hv135 xs L))) P_i232_18 (fun _ => rfl) ?_
  exact q

set_option maxRecDepth 20000 in
theorem P_x214 (xs : Nat → Int32) (L : Nat) {Q : P_R → P_H → Prop} (q : Q (.inr 1) (P_hv134 xs L)) : P_wp P_Y0 198 151 (0, [.ref 2, .int (xs 1)], [], (P_hv132 xs L)) Q := by
  refine P_wp_step (S' := (1, [.ref 2, .int (xs 1)], [.ref 2], (P_hv132 xs L))) P_i151_0 (fun _ => rfl) ?_
  refine P_wp_call P_i151_1 rfl rfl rfl rfl rfl rfl rfl (y2 := 169) (as := [.ref 2]) (r0 := []) rfl (Nat.le_of_ble_eq_true rfl) (by decide) rfl (Nat.le_of_ble_eq_true rfl) (P_x201 xs L (?_))
  show Q (.inr 1) (P_hv134 xs L)
  exact q

set_option maxRecDepth 20000 in
theorem P_x215 (xs : Nat → Int32) (L : Nat) {Q : P_R → P_H → Prop} (q : Q (.inl (some (.int 1))) (P_hv134 xs L)) : P_wp P_Y0 199 280 (0, [.ref 2, .int (xs 1), .ref 63, P_un], [], (P_hv132 xs L)) Q := by
  refine P_wp_step (S' := (1, [.ref 2, .int (xs 1), .ref 63, P_un], [.ref 63], (P_hv132 xs L))) P_i280_0 (fun _ => rfl) ?_
  refine P_wp_step (S' := (2, [.ref 2, .int (xs 1), .ref 63, P_un], [.int 0, .ref 63], (P_hv132 xs L))) P_i280_1 (fun _ => rfl) ?_
  refine P_wp_step (S' := (3, [.ref 2, .int (xs 1), .ref 63, P_un], [.ref 2, .int 0, .ref 63], (P_hv132 xs L))) P_i280_2 (fun _ => rfl) ?_
  refine P_wp_step (S' := (4, [.ref 2, .int (xs 1), .ref 63, P_un], [.int (xs 1), .ref 2, .int 0, .ref 63], (P_hv132 xs L))) P_i280_3 (fun _ => rfl) ?_
  refine P_wp_call P_i280_4 rfl rfl rfl rfl rfl rfl rfl (y2 := 151) (as := [.ref 2, .int (xs 1)]) (r0 := [.int 0, .ref 63]) rfl (Nat.le_of_ble_eq_true rfl) (by decide) rfl (Nat.le_of_ble_eq_true rfl) (P_x214 xs L (?_))
  refine ⟨show 3 < 4 by decide, ?_⟩
  show P_wp P_Y0 199 280 (13, [.ref 2, .int (xs 1), .ref 63, P_un], [], (P_hv134 xs L)) _
  refine P_wp_step (S' := (14, [.ref 2, .int (xs 1), .ref 63, P_un], [.int 1], (P_hv134 xs L))) P_i280_13 (fun _ => rfl) ?_
  refine P_wp_end (x := (.inl (some (.int 1)), (P_hv134 xs L))) P_i280_14 (fun _ => rfl) ?_
  exact q

set_option maxRecDepth 20000 in
theorem P_x216 (xs : Nat → Int32) (L : Nat) {Q : P_R → P_H → Prop} (q : Q (.inl (some (.int 0))) (P_hv135 xs L)) : P_wp P_Y0 199 233 (0, [.ref 47, .int (xs 1)], [], (P_hv134 xs L)) Q := by
  refine P_wp_step (S' := (1, [.ref 47, .int (xs 1)], [.ref 47], (P_hv134 xs L))) P_i233_0 (fun _ => rfl) ?_
  refine P_wp_step (S' := (2, [.ref 47, .int (xs 1)], [.int 0, .ref 47], (P_hv134 xs L))) P_i233_1 (fun _ => rfl) ?_
  refine P_wp_step (S' := (5, [.ref 47, .int (xs 1)], [], (P_hv134 xs L))) P_i233_2 (fun _ => rfl) ?_
  refine P_wp_step (S' := (6, [.ref 47, .int (xs 1)], [.ref 47], (P_hv134 xs L))) P_i233_5 (fun _ => rfl) ?_
  refine P_wp_step (S' := (9, [.ref 47, .int (xs 1)], [.int 0], (P_hv134 xs L))) P_i233_6 (fun _ => rfl) ?_
  refine P_wp_izf P_i233_9 P_b19 (show P_wp P_Y0 199 233 (12, [.ref 47, .int (xs 1)], [], (P_hv134 xs L)) _ from ?_)
  refine P_wp_step (S' := (13, [.ref 47, .int (xs 1)], [.ref 47], (P_hv134 xs L))) P_i233_12 (fun _ => rfl) ?_
  refine P_wp_step (S' := (14, [.ref 47, .int (xs 1)], [.int 1, .ref 47], (P_hv134 xs L))) P_i233_13 (fun _ => rfl) ?_
  refine P_wp_call P_i233_14 rfl rfl rfl rfl rfl rfl rfl (y2 := 184) (as := [.ref 47, .int 1]) (r0 := []) rfl (Nat.le_of_ble_eq_true rfl) (by decide) rfl (Nat.le_of_ble_eq_true rfl) (P_x30 xs L (?_))
  show P_wp P_Y0 199 233 (17, [.ref 47, .int (xs 1)], [.int 0], (P_hv135 xs L)) _
  refine P_wp_end (x := (.inl (some (.int 0)), (P_hv135 xs L))) P_i233_17 (fun _ => rfl) ?_
  exact q

set_option maxRecDepth 20000 in
theorem P_x217 (xs : Nat → Int32) (L : Nat) {Q : P_R → P_H → Prop} (q : Q (.inr 1) (P_hv134 xs L)) : P_wp P_Y0 198 152 (0, [.ref 2, .int (xs 1)], [], (P_hv132 xs L)) Q := by
  refine P_wp_step (S' := (1, [.ref 2, .int (xs 1)], [.ref 2], (P_hv132 xs L))) P_i152_0 (fun _ => rfl) ?_
  refine P_wp_call P_i152_1 rfl rfl rfl rfl rfl rfl rfl (y2 := 169) (as := [.ref 2]) (r0 := []) rfl (Nat.le_of_ble_eq_true rfl) (by decide) rfl (Nat.le_of_ble_eq_true rfl) (P_x201 xs L (?_))
  show Q (.inr 1) (P_hv134 xs L)
  exact q

set_option maxRecDepth 20000 in
theorem P_x218 (xs : Nat → Int32) (L : Nat) {Q : P_R → P_H → Prop} (q : Q (.inl (some (.int 1))) (P_hv134 xs L)) : P_wp P_Y0 199 281 (0, [.ref 2, .int (xs 1), .ref 63, P_un], [], (P_hv132 xs L)) Q := by
  refine P_wp_step (S' := (1, [.ref 2, .int (xs 1), .ref 63, P_un], [.ref 63], (P_hv132 xs L))) P_i281_0 (fun _ => rfl) ?_
  refine P_wp_step (S' := (2, [.ref 2, .int (xs 1), .ref 63, P_un], [.int 0, .ref 63], (P_hv132 xs L))) P_i281_1 (fun _ => rfl) ?_
  refine P_wp_step (S' := (3, [.ref 2, .int (xs 1), .ref 63, P_un], [.ref 2, .int 0, .ref 63], (P_hv132 xs L))) P_i281_2 (fun _ => rfl) ?_
  refine P_wp_step (S' := (4, [.ref 2, .int (xs 1), .ref 63, P_un], [.int (xs 1), .ref 2, .int 0, .ref 63], (P_hv132 xs L))) P_i281_3 (fun _ => rfl) ?_
  refine P_wp_call P_i281_4 rfl rfl rfl rfl rfl rfl rfl (y2 := 152) (as := [.ref 2, .int (xs 1)]) (r0 := [.int 0, .ref 63]) rfl (Nat.le_of_ble_eq_true rfl) (by decide) rfl (Nat.le_of_ble_eq_true rfl) (P_x217 xs L (?_))
  refine ⟨show 3 < 4 by decide, ?_⟩
  show P_wp P_Y0 199 281 (12, [.ref 2, .int (xs 1), .ref 63, P_un], [], (P_hv134 xs L)) _
  refine P_wp_step (S' := (13, [.ref 2, .int (xs 1), .ref 63, P_un], [.int 1], (P_hv134 xs L))) P_i281_12 (fun _ => rfl) ?_
  refine P_wp_end (x := (.inl (some (.int 1)), (P_hv134 xs L))) P_i281_13 (fun _ => rfl) ?_
  exact q

set_option maxRecDepth 20000 in
theorem P_x219 (xs : Nat → Int32) (L : Nat) {Q : P_R → P_H → Prop} (q : Q (.inl (some (.long 0))) (P_hv135 xs L)) : P_wp P_Y0 199 234 (0, [.ref 47, .int (xs 1)], [], (P_hv134 xs L)) Q := by
  refine P_wp_step (S' := (1, [.ref 47, .int (xs 1)], [.ref 47], (P_hv134 xs L))) P_i234_0 (fun _ => rfl) ?_
  refine P_wp_step (S' := (2, [.ref 47, .int (xs 1)], [.int 0, .ref 47], (P_hv134 xs L))) P_i234_1 (fun _ => rfl) ?_
  refine P_wp_step (S' := (5, [.ref 47, .int (xs 1)], [], (P_hv134 xs L))) P_i234_2 (fun _ => rfl) ?_
  refine P_wp_step (S' := (6, [.ref 47, .int (xs 1)], [.ref 47], (P_hv134 xs L))) P_i234_5 (fun _ => rfl) ?_
  refine P_wp_step (S' := (9, [.ref 47, .int (xs 1)], [.int 0], (P_hv134 xs L))) P_i234_6 (fun _ => rfl) ?_
  refine P_wp_izf P_i234_9 P_b19 (show P_wp P_Y0 199 234 (12, [.ref 47, .int (xs 1)], [], (P_hv134 xs L)) _ from ?_)
  refine P_wp_step (S' := (13, [.ref 47, .int (xs 1)], [.ref 47], (P_hv134 xs L))) P_i234_12 (fun _ => rfl) ?_
  refine P_wp_step (S' := (14, [.ref 47, .int (xs 1)], [.int 1, .ref 47], (P_hv134 xs L))) P_i234_13 (fun _ => rfl) ?_
  refine P_wp_call P_i234_14 rfl rfl rfl rfl rfl rfl rfl (y2 := 184) (as := [.ref 47, .int 1]) (r0 := []) rfl (Nat.le_of_ble_eq_true rfl) (by decide) rfl (Nat.le_of_ble_eq_true rfl) (P_x30 xs L (?_))
  show P_wp P_Y0 199 234 (17, [.ref 47, .int (xs 1)], [.int 0], (P_hv135 xs L)) _
  refine P_wp_step (S' := (18, [.ref 47, .int (xs 1)], [.long 0], (P_hv135 xs L))) P_i234_17 (fun _ => rfl) ?_
  refine P_wp_end (x := (.inl (some (.long 0)), (P_hv135 xs L))) P_i234_18 (fun _ => rfl) ?_
  exact q

set_option maxRecDepth 20000 in
theorem P_x220 (xs : Nat → Int32) (L : Nat) {Q : P_R → P_H → Prop} (q : Q (.inr 1) (P_hv134 xs L)) : P_wp P_Y0 198 153 (0, [.ref 2], [], (P_hv132 xs L)) Q := by
  refine P_wp_step (S' := (1, [.ref 2], [.ref 2], (P_hv132 xs L))) P_i153_0 (fun _ => rfl) ?_
  refine P_wp_call P_i153_1 rfl rfl rfl rfl rfl rfl rfl (y2 := 169) (as := [.ref 2]) (r0 := []) rfl (Nat.le_of_ble_eq_true rfl) (by decide) rfl (Nat.le_of_ble_eq_true rfl) (P_x201 xs L (?_))
  show Q (.inr 1) (P_hv134 xs L)
  exact q

set_option maxRecDepth 20000 in
theorem P_x221 (xs : Nat → Int32) (L : Nat) {Q : P_R → P_H → Prop} (q : Q (.inl (some (.int 1))) (P_hv134 xs L)) : P_wp P_Y0 199 282 (0, [.ref 2, .ref 63, P_un], [], (P_hv132 xs L)) Q := by
  refine P_wp_step (S' := (1, [.ref 2, .ref 63, P_un], [.ref 63], (P_hv132 xs L))) P_i282_0 (fun _ => rfl) ?_
  refine P_wp_step (S' := (2, [.ref 2, .ref 63, P_un], [.int 0, .ref 63], (P_hv132 xs L))) P_i282_1 (fun _ => rfl) ?_
  refine P_wp_step (S' := (3, [.ref 2, .ref 63, P_un], [.ref 2, .int 0, .ref 63], (P_hv132 xs L))) P_i282_2 (fun _ => rfl) ?_
  refine P_wp_call P_i282_3 rfl rfl rfl rfl rfl rfl rfl (y2 := 153) (as := [.ref 2]) (r0 := [.int 0, .ref 63]) rfl (Nat.le_of_ble_eq_true rfl) (by decide) rfl (Nat.le_of_ble_eq_true rfl) (P_x220 xs L (?_))
  refine ⟨show 2 < 3 by decide, ?_⟩
  show P_wp P_Y0 199 282 (11, [.ref 2, .ref 63, P_un], [], (P_hv134 xs L)) _
  refine P_wp_step (S' := (12, [.ref 2, .ref 63, P_un], [.int 1], (P_hv134 xs L))) P_i282_11 (fun _ => rfl) ?_
  refine P_wp_end (x := (.inl (some (.int 1)), (P_hv134 xs L))) P_i282_12 (fun _ => rfl) ?_
  exact q

set_option maxRecDepth 20000 in
theorem P_x222 (xs : Nat → Int32) (L : Nat) {Q : P_R → P_H → Prop} (q : Q (.inl (some (.long 0))) (P_hv135 xs L)) : P_wp P_Y0 199 235 (0, [.ref 47], [], (P_hv134 xs L)) Q := by
  refine P_wp_step (S' := (1, [.ref 47], [.ref 47], (P_hv134 xs L))) P_i235_0 (fun _ => rfl) ?_
  refine P_wp_step (S' := (2, [.ref 47], [.int 0, .ref 47], (P_hv134 xs L))) P_i235_1 (fun _ => rfl) ?_
  refine P_wp_step (S' := (5, [.ref 47], [], (P_hv134 xs L))) P_i235_2 (fun _ => rfl) ?_
  refine P_wp_step (S' := (6, [.ref 47], [.ref 47], (P_hv134 xs L))) P_i235_5 (fun _ => rfl) ?_
  refine P_wp_step (S' := (9, [.ref 47], [.int 0], (P_hv134 xs L))) P_i235_6 (fun _ => rfl) ?_
  refine P_wp_izt P_i235_9 P_b27 (show P_wp P_Y0 199 235 (19, [.ref 47], [], (P_hv134 xs L)) _ from ?_)
  refine P_wp_step (S' := (20, [.ref 47], [.ref 47], (P_hv134 xs L))) P_i235_19 (fun _ => rfl) ?_
  refine P_wp_step (S' := (21, [.ref 47], [.int 1, .ref 47], (P_hv134 xs L))) P_i235_20 (fun _ => rfl) ?_
  refine P_wp_call P_i235_21 rfl rfl rfl rfl rfl rfl rfl (y2 := 184) (as := [.ref 47, .int 1]) (r0 := []) rfl (Nat.le_of_ble_eq_true rfl) (by decide) rfl (Nat.le_of_ble_eq_true rfl) (P_x30 xs L (?_))
  show P_wp P_Y0 199 235 (24, [.ref 47], [.int 0], (P_hv135 xs L)) _
  refine P_wp_step (S' := (25, [.ref 47], [.long 0], (P_hv135 xs L))) P_i235_24 (fun _ => rfl) ?_
  refine P_wp_end (x := (.inl (some (.long 0)), (P_hv135 xs L))) P_i235_25 (fun _ => rfl) ?_
  exact q

set_option maxRecDepth 20000 in
theorem P_x223 (xs : Nat → Int32) (L : Nat) {Q : P_R → P_H → Prop} (q : Q (.inr 1) (P_hv134 xs L)) : P_wp P_Y0 198 154 (0, [.ref 2], [], (P_hv132 xs L)) Q := by
  refine P_wp_step (S' := (1, [.ref 2], [.ref 2], (P_hv132 xs L))) P_i154_0 (fun _ => rfl) ?_
  refine P_wp_call P_i154_1 rfl rfl rfl rfl rfl rfl rfl (y2 := 169) (as := [.ref 2]) (r0 := []) rfl (Nat.le_of_ble_eq_true rfl) (by decide) rfl (Nat.le_of_ble_eq_true rfl) (P_x201 xs L (?_))
  show Q (.inr 1) (P_hv134 xs L)
  exact q

set_option maxRecDepth 20000 in
theorem P_x224 (xs : Nat → Int32) (L : Nat) {Q : P_R → P_H → Prop} (q : Q (.inl (some (.int 1))) (P_hv134 xs L)) : P_wp P_Y0 199 283 (0, [.ref 2, .ref 63, P_un], [], (P_hv132 xs L)) Q := by
  refine P_wp_step (S' := (1, [.ref 2, .ref 63, P_un], [.ref 63], (P_hv132 xs L))) P_i283_0 (fun _ => rfl) ?_
  refine P_wp_step (S' := (2, [.ref 2, .ref 63, P_un], [.int 0, .ref 63], (P_hv132 xs L))) P_i283_1 (fun _ => rfl) ?_
  refine P_wp_step (S' := (3, [.ref 2, .ref 63, P_un], [.ref 2, .int 0, .ref 63], (P_hv132 xs L))) P_i283_2 (fun _ => rfl) ?_
  refine P_wp_call P_i283_3 rfl rfl rfl rfl rfl rfl rfl (y2 := 154) (as := [.ref 2]) (r0 := [.int 0, .ref 63]) rfl (Nat.le_of_ble_eq_true rfl) (by decide) rfl (Nat.le_of_ble_eq_true rfl) (P_x223 xs L (?_))
  refine ⟨show 2 < 3 by decide, ?_⟩
  show P_wp P_Y0 199 283 (19, [.ref 2, .ref 63, P_un], [], (P_hv134 xs L)) _
  refine P_wp_step (S' := (20, [.ref 2, .ref 63, P_un], [.int 1], (P_hv134 xs L))) P_i283_19 (fun _ => rfl) ?_
  refine P_wp_end (x := (.inl (some (.int 1)), (P_hv134 xs L))) P_i283_20 (fun _ => rfl) ?_
  exact q

set_option maxRecDepth 20000 in
theorem P_x225 (xs : Nat → Int32) (L : Nat) {Q : P_R → P_H → Prop} (q : Q (.inl (some (.int 0))) (P_hv135 xs L)) : P_wp P_Y0 199 236 (0, [.ref 47], [], (P_hv134 xs L)) Q := by
  refine P_wp_step (S' := (1, [.ref 47], [.ref 47], (P_hv134 xs L))) P_i236_0 (fun _ => rfl) ?_
  refine P_wp_step (S' := (2, [.ref 47], [.ref 47, .ref 47], (P_hv134 xs L))) P_i236_1 (fun _ => rfl) ?_
  refine P_wp_step (S' := (5, [.ref 47], [.int 0, .ref 47], (P_hv134 xs L))) P_i236_2 (fun _ => rfl) ?_
  refine P_wp_izt P_i236_5 P_b27 (show P_wp P_Y0 199 236 (12, [.ref 47], [.ref 47], (P_hv134 xs L)) _ from ?_)
  refine P_wp_step (S' := (13, [.ref 47], [.int 1, .ref 47], (P_hv134 xs L))) P_i236_12 (fun _ => rfl) ?_
  refine P_wp_step (S' := (16, [.ref 47], [], (P_hv135 xs L))) P_i236_13 (fun _ => rfl) ?_
  refine P_wp_step (S' := (17, [.ref 47], [.ref 47], (P_hv135 xs L))) P_i236_16 (fun _ => rfl) ?_
  refine P_wp_step (S' := (20, [.ref 47], [.int 0], (P_hv135 xs L))) P_i236_17 (fun _ => rfl) ?_
  refine P_wp_izt P_i236_20 P_b27 (show P_wp P_Y0 199 236 (34, [.ref 47], [], (P_hv135 xs L)) _ from ?_)
  refine P_wp_step (S' := (35, [.ref 47], [.int 0], (P_hv135 xs L))) P_i236_34 (fun _ => rfl) ?_
  refine P_wp_end (x := (.inl (some (.int 0)), (P_hv135 xs L))) P_i236_35 (fun _ => rfl) ?_
  exact q

set_option maxRecDepth 20000 in
theorem P_x226 (xs : Nat → Int32) (L : Nat) {Q : P_R → P_H → Prop} (q : Q (.inr 1) (P_hv134 xs L)) : P_wp P_Y0 198 155 (0, [.ref 2], [], (P_hv132 xs L)) Q := by
  refine P_wp_step (S' := (1, [.ref 2], [.ref 2], (P_hv132 xs L))) P_i155_0 (fun _ => rfl) ?_
  refine P_wp_call P_i155_1 rfl rfl rfl rfl rfl rfl rfl (y2 := 169) (as := [.ref 2]) (r0 := []) rfl (Nat.le_of_ble_eq_true rfl) (by decide) rfl (Nat.le_of_ble_eq_true rfl) (P_x201 xs L (?_))
  show Q (.inr 1) (P_hv134 xs L)
  exact q

set_option maxRecDepth 20000 in
theorem P_x227 (xs : Nat → Int32) (L : Nat) {Q : P_R → P_H → Prop} (q : Q (.inl (some (.int 1))) (P_hv134 xs L)) : P_wp P_Y0 199 284 (0, [.ref 2, .ref 63, P_un], [], (P_hv132 xs L)) Q := by
  refine P_wp_step (S' := (1, [.ref 2, .ref 63, P_un], [.ref 63], (P_hv132 xs L))) P_i284_0 (fun _ => rfl) ?_
  refine P_wp_step (S' := (2, [.ref 2, .ref 63, P_un], [.int 0, .ref 63], (P_hv132 xs L))) P_i284_1 (fun _ => rfl) ?_
  refine P_wp_step (S' := (3, [.ref 2, .ref 63, P_un], [.ref 2, .int 0, .ref 63], (P_hv132 xs L))) P_i284_2 (fun _ => rfl) ?_
  refine P_wp_call P_i284_3 rfl rfl rfl rfl rfl rfl rfl (y2 := 155) (as := [.ref 2]) (r0 := [.int 0, .ref 63]) rfl (Nat.le_of_ble_eq_true rfl) (by decide) rfl (Nat.le_of_ble_eq_true rfl) (P_x226 xs L (?_))
  refine ⟨show 2 < 3 by decide, ?_⟩
  show P_wp P_Y0 199 284 (12, [.ref 2, .ref 63, P_un], [], (P_hv134 xs L)) _
  refine P_wp_step (S' := (13, [.ref 2, .ref 63, P_un], [.int 1], (P_hv134 xs L))) P_i284_12 (fun _ => rfl) ?_
  refine P_wp_end (x := (.inl (some (.int 1)), (P_hv134 xs L))) P_i284_13 (fun _ => rfl) ?_
  exact q

set_option maxRecDepth 20000 in
theorem P_x228 (xs : Nat → Int32) (L : Nat) {Q : P_R → P_H → Prop} (q : Q (.inl (some (.int 0))) (P_hv135 xs L)) : P_wp P_Y0 199 255 (0, [.ref 47], [], (P_hv134 xs L)) Q := by
  refine P_wp_step (S' := (1, [.ref 47], [.ref 47], (P_hv134 xs L))) P_i255_0 (fun _ => rfl) ?_
  refine P_wp_step (S' := (2, [.ref 47], [.int 0, .ref 47], (P_hv134 xs L))) P_i255_1 (fun _ => rfl) ?_
  refine P_wp_step (S' := (5, [.ref 47], [], (P_hv134 xs L))) P_i255_2 (fun _ => rfl) ?_
  refine P_wp_step (S' := (6, [.ref 47], [.ref 47], (P_hv134 xs L))) P_i255_5 (fun _ => rfl) ?_
  refine P_wp_step (S' := (9, [.ref 47], [.int 0], (P_hv134 xs L))) P_i255_6 (fun _ => rfl) ?_
  refine P_wp_izf P_i255_9 P_b19 (show P_wp P_Y0 199 255 (12, [.ref 47], [], (P_hv134 xs L)) _ from ?_)
  refine P_wp_step (S' := (13, [.ref 47], [.ref 47], (P_hv134 xs L))) P_i255_12 (fun _ => rfl) ?_
  refine P_wp_step (S' := (14, [.ref 47], [.int 1, .ref 47], (P_hv134 xs L))) P_i255_13 (fun _ => rfl) ?_
  refine P_wp_call P_i255_14 rfl rfl rfl rfl rfl rfl rfl (y2 := 184) (as := [.ref 47, .int 1]) (r0 := []) rfl (Nat.le_of_ble_eq_true rfl) (by decide) rfl (Nat.le_of_ble_eq_true rfl) (P_x30 xs L (?_))
  show P_wp P_Y0 199 255 (17, [.ref 47], [.int 0], (P_hv135 xs L)) _
  refine P_wp_end (x := (.inl (some (.int 0)), (P_hv135 xs L))) P_i255_17 (fun _ => rfl) ?_
  exact q

set_option maxRecDepth 20000 in
theorem P_x229 (xs : Nat → Int32) (L : Nat) {Q : P_R → P_H → Prop} (q : Q (.inr 1) (P_hv134 xs L)) : P_wp P_Y0 198 156 (0, [.ref 2], [], (P_hv132 xs L)) Q := by
  refine P_wp_step (S' := (1, [.ref 2], [.ref 2], (P_hv132 xs L))) P_i156_0 (fun _ => rfl) ?_
  refine P_wp_call P_i156_1 rfl rfl rfl rfl rfl rfl rfl (y2 := 169) (as := [.ref 2]) (r0 := []) rfl (Nat.le_of_ble_eq_true rfl) (by decide) rfl (Nat.le_of_ble_eq_true rfl) (P_x201 xs L (?_))
  show Q (.inr 1) (P_hv134 xs L)
  exact q

set_option maxRecDepth 20000 in
theorem P_x230 (xs : Nat → Int32) (L : Nat) {Q : P_R → P_H → Prop} (q : Q (.inl (some (.int 1))) (P_hv134 xs L)) : P_wp P_Y0 199 285 (0, [.ref 2, .ref 63, P_un], [], (P_hv132 xs L)) Q := by
  refine P_wp_step (S' := (1, [.ref 2, .ref 63, P_un], [.ref 63], (P_hv132 xs L))) P_i285_0 (fun _ => rfl) ?_
  refine P_wp_step (S' := (2, [.ref 2, .ref 63, P_un], [.int 0, .ref 63], (P_hv132 xs L))) P_i285_1 (fun _ => rfl) ?_
  refine P_wp_step (S' := (3, [.ref 2, .ref 63, P_un], [.ref 2, .int 0, .ref 63], (P_hv132 xs L))) P_i285_2 (fun _ => rfl) ?_
  refine P_wp_call P_i285_3 rfl rfl rfl rfl rfl rfl rfl (y2 := 156) (as := [.ref 2]) (r0 := [.int 0, .ref 63]) rfl (Nat.le_of_ble_eq_true rfl) (by decide) rfl (Nat.le_of_ble_eq_true rfl) (P_x229 xs L (?_))
  refine ⟨show 2 < 3 by decide, ?_⟩
  show P_wp P_Y0 199 285 (19, [.ref 2, .ref 63, P_un], [], (P_hv134 xs L)) _
  refine P_wp_step (S' := (20, [.ref 2, .ref 63, P_un], [.int 1], (P_hv134 xs L))) P_i285_19 (fun _ => rfl) ?_
  refine P_wp_end (x := (.inl (some (.int 1)), (P_hv134 xs L))) P_i285_20 (fun _ => rfl) ?_
  exact q

set_option maxRecDepth 20000 in
theorem P_x231 (xs : Nat → Int32) (L : Nat) {Q : P_R → P_H → Prop} (q : Q (.inl (some (.int 0))) (P_hv135 xs L)) : P_wp P_Y0 199 258 (0, [.ref 47], [], (P_hv134 xs L)) Q := by
  refine P_wp_step (S' := (1, [.ref 47], [.ref 47], (P_hv134 xs L))) P_i258_0 (fun _ => rfl) ?_
  refine P_wp_step (S' := (2, [.ref 47], [.ref 47, .ref 47], (P_hv134 xs L))) P_i258_1 (fun _ => rfl) ?_
  refine P_wp_step (S' := (5, [.ref 47], [.int 0, .ref 47], (P_hv134 xs L))) P_i258_2 (fun _ => rfl) ?_
  refine P_wp_izt P_i258_5 P_b27 (show P_wp P_Y0 199 258 (19, [.ref 47], [.ref 47], (P_hv134 xs L)) _ from ?_)
  refine P_wp_step (S' := (20, [.ref 47], [.int 1, .ref 47], (P_hv134 xs L))) P_i258_19 (fun _ => rfl) ?_
  refine P_wp_step (S' := (23, [.ref 47], [], (P_hv135 xs L))) P_i258_20 (fun _ => rfl) ?_
  refine P_wp_step (S' := (24, [.ref 47], [.ref 47], (P_hv135 xs L))) P_i258_23 (fun _ => rfl) ?_
  refine P_wp_step (S' := (27, [.ref 47], [.int 1], (P_hv135 xs L))) P_i258_24 (fun _ => rfl) ?_
  refine P_wp_izt P_i258_27 P_b21 (show P_wp P_Y0 199 258 (37, [.ref 47], [], (P_hv135 xs L)) _ from ?_)
  refine P_wp_step (S' := (38, [.ref 47], [.int 0], (P_hv135 xs L))) P_i258_37 (fun _ => rfl) ?_
  refine P_wp_end (x := (.inl (some (.int 0)), (P_hv135 xs L))) P_i258_38 (fun _ => rfl) ?_
  exact q

set_option maxRecDepth 20000 in
theorem P_x232 (xs : Nat → Int32) (L : Nat) {Q : P_R → P_H → Prop} (q : Q (.inr 1) (P_hv134 xs L)) : P_wp P_Y0 198 157 (0, [.ref 2, .int (xs 1)], [], (P_hv132 xs L)) Q := by
  refine P_wp_step (S' := (1, [.ref 2, .int (xs 1)], [.ref 2], (P_hv132 xs L))) P_i157_0 (fun _ => rfl) ?_
  refine P_wp_call P_i157_1 rfl rfl rfl rfl rfl rfl rfl (y2 := 169) (as := [.ref 2]) (r0 := []) rfl (Nat.le_of_ble_eq_true rfl) (by decide) rfl (Nat.le_of_ble_eq_true rfl) (P_x201 xs L (?_))
  show Q (.inr 1) (P_hv134 xs L)
  exact q

set_option maxRecDepth 20000 in
theorem P_x233 (xs : Nat → Int32) (L : Nat) {Q : P_R → P_H → Prop} (q : Q (.inl (some (.int 1))) (P_hv134 xs L)) : P_wp P_Y0 199 286 (0, [.ref 2, .int (xs 1), .ref 63, P_un], [], (P_hv132 xs L)) Q := by
  refine P_wp_step (S' := (1, [.ref 2, .int (xs 1), .ref 63, P_un], [.ref 63], (P_hv132 xs L))) P_i286_0 (fun _ => rfl) ?_
  refine P_wp_step (S' := (2, [.ref 2, .int (xs 1), .ref 63, P_un], [.int 0, .ref 63], (P_hv132 xs L))) P_i286_1 (fun _ => rfl) ?_
  refine P_wp_step (S' := (3, [.ref 2, .int (xs 1), .ref 63, P_un], [.ref 2, .int 0, .ref 63], (P_hv132 xs L))) P_i286_2 (fun _ => rfl) ?_
  refine P_wp_step (S' := (4, [.ref 2, .int (xs 1), .ref 63, P_un], [.int (xs 1), .ref 2, .int 0, .ref 63], (P_hv132 xs L))) P_i286_3 (fun _ => rfl) ?_
  refine P_wp_call P_i286_4 rfl rfl rfl rfl rfl rfl rfl (y2 := 157) (as := [.ref 2, .int (xs 1)]) (r0 := [.int 0, .ref 63]) rfl (Nat.le_of_ble_eq_true rfl) (by decide) rfl (Nat.le_of_ble_eq_true rfl) (P_x232 xs L (?_))
  refine ⟨show 3 < 4 by decide, ?_⟩
  show P_wp P_Y0 199 286 (13, [.ref 2, .int (xs 1), .ref 63, P_un], [], (P_hv134 xs L)) _
  refine P_wp_step (S' := (14, [.ref 2, .int (xs 1), .ref 63, P_un], [.int 1], (P_hv134 xs L))) P_i286_13 (fun _ => rfl) ?_
  refine P_wp_end (x := (.inl (some (.int 1)), (P_hv134 xs L))) P_i286_14 (fun _ => rfl) ?_
  exact q

set_option maxRecDepth 20000 in
theorem P_x234 (xs : Nat → Int32) (L : Nat) {Q : P_R → P_H → Prop} (q : Q (.inl (some (.int 0))) (P_hv135 xs L)) : P_wp P_Y0 199 259 (0, [.ref 47, .int (xs 1)], [], (P_hv134 xs L)) Q := by
  refine P_wp_step (S' := (1, [.ref 47, .int (xs 1)], [.ref 47], (P_hv134 xs L))) P_i259_0 (fun _ => rfl) ?_
  refine P_wp_step (S' := (2, [.ref 47, .int (xs 1)], [.int 0, .ref 47], (P_hv134 xs L))) P_i259_1 (fun _ => rfl) ?_
  refine P_wp_step (S' := (5, [.ref 47, .int (xs 1)], [], (P_hv134 xs L))) P_i259_2 (fun _ => rfl) ?_
  refine P_wp_step (S' := (6, [.ref 47, .int (xs 1)], [.ref 47], (P_hv134 xs L))) P_i259_5 (fun _ => rfl) ?_
  refine P_wp_step (S' := (9, [.ref 47, .int (xs 1)], [.int 0], (P_hv134 xs L))) P_i259_6 (fun _ => rfl) ?_
  refine P_wp_izt P_i259_9 P_b27 (show P_wp P_Y0 199 259 (26, [.ref 47, .int (xs 1)], [], (P_hv134 xs L)) _ from ?_)
  refine P_wp_step (S' := (27, [.ref 47, .int (xs 1)], [.ref 47], (P_hv134 xs L))) P_i259_26 (fun _ => rfl) ?_
  refine P_wp_step (S' := (28, [.ref 47, .int (xs 1)], [.int 1, .ref 47], (P_hv134 xs L))) P_i259_27 (fun _ => rfl) ?_
  refine P_wp_call P_i259_28 rfl rfl rfl rfl rfl rfl rfl (y2 := 184) (as := [.ref 47, .int 1]) (r0 := []) rfl (Nat.le_of_ble_eq_true rfl) (by decide) rfl (Nat.le_of_ble_eq_true rfl) (P_x30 xs L (?_))
  show P_wp P_Y0 199 259 (31, [.ref 47, .int (xs 1)], [.int 0], (P_hv135 xs L)) _
  refine P_wp_end (x := (.inl (some (.int 0)), (P_hv135 xs L))) P_i259_31 (fun _ => rfl) ?_
  exact q

set_option maxRecDepth 20000 in
theorem P_x235 (xs : Nat → Int32) (L : Nat) {Q : P_R → P_H → Prop} (q : Q (.inr 1) (P_hv134 xs L)) : P_wp P_Y0 198 158 (0, [.ref 2, .int (xs 1)], [], (P_hv132 xs L)) Q := by
  refine P_wp_step (S' := (1, [.ref 2, .int (xs 1)], [.ref 2], (P_hv132 xs L))) P_i158_0 (fun _ => rfl) ?_
  refine P_wp_call P_i158_1 rfl rfl rfl rfl rfl rfl rfl (y2 := 169) (as := [.ref 2]) (r0 := []) rfl (Nat.le_of_ble_eq_true rfl) (by decide) rfl (Nat.le_of_ble_eq_true rfl) (P_x201 xs L (?_))
  show Q (.inr 1) (P_hv134 xs L)
  exact q

set_option maxRecDepth 20000 in
theorem P_x236 (xs : Nat → Int32) (L : Nat) {Q : P_R → P_H → Prop} (q : Q (.inl (some (.int 1))) (P_hv134 xs L)) : P_wp P_Y0 199 287 (0, [.ref 2, .int (xs 1), .ref 63, P_un], [], (P_hv132 xs L)) Q := by
  refine P_wp_step (S' := (1, [.ref 2, .int (xs 1), .ref 63, P_un], [.ref 63], (P_hv132 xs L))) P_i287_0 (fun _ => rfl) ?_
  refine P_wp_step (S' := (2, [.ref 2, .int (xs 1), .ref 63, P_un], [.int 0, .ref 63], (P_hv132 xs L))) P_i287_1 (fun _ => rfl) ?_
  refine P_wp_step (S' := (3, [.ref 2, .int (xs 1), .ref 63, P_un], [.ref 2, .int 0, .ref 63], (P_hv132 xs L))) P_i287_2 (fun _ => rfl) ?_
  refine P_wp_step (S' := (4, [.ref 2, .int (xs 1), .ref 63, P_un], [.int (xs 1), .ref 2, .int 0, .ref 63], (P_hv132 xs L))) P_i287_3 (fun _ => rfl) ?_
  refine P_wp_call P_i287_4 rfl rfl rfl rfl rfl rfl rfl (y2 := 158) (as := [.ref 2, .int (xs 1)]) (r0 := [.int 0, .ref 63]) rfl (Nat.le_of_ble_eq_true rfl) (by decide) rfl (Nat.le_of_ble_eq_true rfl) (P_x235 xs L (?_))
  refine ⟨show 3 < 4 by decide, ?_⟩
  show P_wp P_Y0 199 287 (13, [.ref 2, .int (xs 1), .ref 63, P_un], [], (P_hv134 xs L)) _
  refine P_wp_step (S' := (14, [.ref 2, .int (xs 1), .ref 63, P_un], [.int 1], (P_hv134 xs L))) P_i287_13 (fun _ => rfl) ?_
  refine P_wp_end (x := (.inl (some (.int 1)), (P_hv134 xs L))) P_i287_14 (fun _ => rfl) ?_
  exact q

set_option maxRecDepth 20000 in
theorem P_x237 (xs : Nat → Int32) (L : Nat) {Q : P_R → P_H → Prop} (q : Q (.inl (some (.int 0))) (P_hv135 xs L)) : P_wp P_Y0 199 261 (0, [.ref 47, .int (xs 1)], [], (P_hv134 xs L)) Q := by
  refine P_wp_step (S' := (1, [.ref 47, .int (xs 1)], [.ref 47], (P_hv134 xs L))) P_i261_0 (fun _ => rfl) ?_
  refine P_wp_step (S' := (2, [.ref 47, .int (xs 1)], [.int 0, .ref 47], (P_hv134 xs L))) P_i261_1 (fun _ => rfl) ?_
  refine P_wp_step (S' := (5, [.ref 47, .int (xs 1)], [], (P_hv134 xs L))) P_i261_2 (fun _ => rfl) ?_
  refine P_wp_step (S' := (6, [.ref 47, .int (xs 1)], [.ref 47], (P_hv134 xs L))) P_i261_5 (fun _ => rfl) ?_
  refine P_wp_step (S' := (9, [.ref 47, .int (xs 1)], [.int 0], (P_hv134 xs L))) P_i261_6 (fun _ => rfl) ?_
  refine P_wp_izf P_i261_9 P_b19 (show P_wp P_Y0 199 261 (12, [.ref 47, .int (xs 1)], [], (P_hv134 xs L)) _ from ?_)
  refine P_wp_step (S' := (13, [.ref 47, .int (xs 1)], [.ref 47], (P_hv134 xs L))) P_i261_12 (fun _ => rfl) ?_
  refine P_wp_step (S' := (14, [.ref 47, .int (xs 1)], [.int 1, .ref 47], (P_hv134 xs L))) P_i261_13 (fun _ => rfl) ?_
  refine P_wp_call P_i261_14 rfl rfl rfl rfl rfl rfl rfl (y2 := 184) (as := [.ref 47, .int 1]) (r0 := []) rfl (Nat.le_of_ble_eq_true rfl) (by decide) rfl (Nat.le_of_ble_eq_true rfl) (P_x30 xs L (?_))
  show P_wp P_Y0 199 261 (17, [.ref 47, .int (xs 1)], [.int 0], (P_hv135 xs L)) _
  refine P_wp_end (x := (.inl (some (.int 0)), (P_hv135 xs L))) P_i261_17 (fun _ => rfl) ?_
  exact q

set_option maxRecDepth 20000 in
theorem P_x238 (xs : Nat → Int32) (L : Nat) {Q : P_R → P_H → Prop} (q : Q (.inr 1) (P_hv134 xs L)) : P_wp P_Y0 198 159 (0, [.ref 2], [], (P_hv132 xs L)) Q := by
  refine P_wp_step (S' := (1, [.ref 2], [.ref 2], (P_hv132 xs L))) P_i159_0 (fun _ => rfl) ?_
  refine P_wp_call P_i159_1 rfl rfl rfl rfl rfl rfl rfl (y2 := 169) (as := [.ref 2]) (r0 := []) rfl (Nat.le_of_ble_eq_true rfl) (by decide) rfl (Nat.le_of_ble_eq_true rfl) (P_x201 xs L (?_))
  show Q (.inr 1) (P_hv134 xs L)
  exact q

set_option maxRecDepth 20000 in
theorem P_x239 (xs : Nat → Int32) (L : Nat) {Q : P_R → P_H → Prop} (q : Q (.inl (some (.int 1))) (P_hv134 xs L)) : P_wp P_Y0 199 288 (0, [.ref 2, .ref 63, P_un], [], (P_hv132 xs L)) Q := by
  refine P_wp_step (S' := (1, [.ref 2, .ref 63, P_un], [.ref 63], (P_hv132 xs L))) P_i288_0 (fun _ => rfl) ?_
  refine P_wp_step (S' := (2, [.ref 2, .ref 63, P_un], [.int 0, .ref 63], (P_hv132 xs L))) P_i288_1 (fun _ => rfl) ?_
  refine P_wp_step (S' := (3, [.ref 2, .ref 63, P_un], [.ref 2, .int 0, .ref 63], (P_hv132 xs L))) P_i288_2 (fun _ => rfl) ?_
  refine P_wp_call P_i288_3 rfl rfl rfl rfl rfl rfl rfl (y2 := 159) (as := [.ref 2]) (r0 := [.int 0, .ref 63]) rfl (Nat.le_of_ble_eq_true rfl) (by decide) rfl (Nat.le_of_ble_eq_true rfl) (P_x238 xs L (?_))
  refine ⟨show 2 < 3 by decide, ?_⟩
  show P_wp P_Y0 199 288 (12, [.ref 2, .ref 63, P_un], [], (P_hv134 xs L)) _
  refine P_wp_step (S' := (13, [.ref 2, .ref 63, P_un], [.int 1], (P_hv134 xs L))) P_i288_12 (fun _ => rfl) ?_
  refine P_wp_end (x := (.inl (some (.int 1)), (P_hv134 xs L))) P_i288_13 (fun _ => rfl) ?_
  exact q

set_option maxRecDepth 20000 in
theorem P_x240 (xs : Nat → Int32) (L : Nat) {Q : P_R → P_H → Prop} (q : Q (.inl (some (.int 0))) (P_hv135 xs L)) : P_wp P_Y0 199 262 (0, [.ref 47], [], (P_hv134 xs L)) Q := by
  refine P_wp_step (S' := (1, [.ref 47], [.ref 47], (P_hv134 xs L))) P_i262_0 (fun _ => rfl) ?_
  refine P_wp_step (S' := (2, [.ref 47], [.int 0, .ref 47], (P_hv134 xs L))) P_i262_1 (fun _ => rfl) ?_
  refine P_wp_step (S' := (5, [.ref 47], [], (P_hv134 xs L))) P_i262_2 (fun _ => rfl) ?_
  refine P_wp_step (S' := (6, [.ref 47], [.ref 47], (P_hv134 xs L))) P_i262_5 (fun _ => rfl) ?_
  refine P_wp_step (S' := (9, [.ref 47], [.int 0], (P_hv134 xs L))) P_i262_6 (fun _ => rfl) ?_
  refine P_wp_izt P_i262_9 P_b27 (show P_wp P_Y0 199 262 (20, [.ref 47], [], (P_hv134 xs L)) _ from ?_)
  refine P_wp_step (S' := (21, [.ref 47], [.ref 47], (P_hv134 xs L))) P_i262_20 (fun _ => rfl) ?_
  refine P_wp_step (S' := (22, [.ref 47], [.int 1, .ref 47], (P_hv134 xs L))) P_i262_21 (fun _ => rfl) ?_
  refine P_wp_call P_i262_22 rfl rfl rfl rfl rfl rfl rfl (y2 := 184) (as := [.ref 47, .int 1]) (r0 := []) rfl (Nat.le_of_ble_eq_true rfl) (by decide) rfl (Nat.le_of_ble_eq_true rfl) (P_x30 xs L (?_))
  show P_wp P_Y0 199 262 (25, [.ref 47], [.int 0], (P_hv135 xs L)) _
  refine P_wp_end (x := (.inl (some (.int 0)), (P_hv135 xs L))) P_i262_25 (fun _ => rfl) ?_
  exact q

set_option maxRecDepth 20000 in
theorem P_x241 (xs : Nat → Int32) (L : Nat) {Q : P_R → P_H → Prop} (q : Q (.inr 1) (P_hv134 xs L)) : P_wp P_Y0 198 160 (0, [.ref 2, .int (xs 1), .int (xs 2)], [], (P_hv132 xs L)) Q := by
  refine P_wp_step (S' := (1, [.ref 2, .int (xs 1), .int (xs 2)], [.ref 2], (P_hv132 xs L))) P_i160_0 (fun _ => rfl) ?_
  refine P_wp_call P_i160_1 rfl rfl rfl rfl rfl rfl rfl (y2 := 169) (as := [.ref 2]) (r0 := []) rfl (Nat.le_of_ble_eq_true rfl) (by decide) rfl (Nat.le_of_ble_eq_true rfl) (P_x201 xs L (?_))
  show Q (.inr 1) (P_hv134 xs L)
  exact q

set_option maxRecDepth 20000 in
theorem P_x242 (xs : Nat → Int32) (L : Nat) {Q : P_R → P_H → Prop} (q : Q (.inl (some (.int 1))) (P_hv134 xs L)) : P_wp P_Y0 199 289 (0, [.ref 2, .int (xs 1), .int (xs 2), .ref 63, P_un], [], (P_hv132 xs L)) Q := by
  refine P_wp_step (S' := (1, [.ref 2, .int (xs 1), .int (xs 2), .ref 63, P_un], [.ref 63], (P_hv132 xs L))) P_i289_0 (fun _ => rfl) ?_
  refine P_wp_step (S' := (2, [.ref 2, .int (xs 1), .int (xs 2), .ref 63, P_un], [.int 0, .ref 63], (P_hv132 xs L))) P_i289_1 (fun _ => rfl) ?_
  refine P_wp_step (S' := (3, [.ref 2, .int (xs 1), .int (xs 2), .ref 63, P_un], [.ref 2, .int 0, .ref 63], (P_hv132 xs L))) P_i289_2 (fun _ => rfl) ?_
  refine P_wp_step (S' := (4, [.ref 2, .int (xs 1), .int (xs 2), .ref 63, P_un], [.int (xs 1), .ref 2, .int 0, .ref 63], (P_hv132 xs L))) P_i289_3 (fun _ => rfl) ?_
  refine P_wp_step (S' := (5, [.ref 2, .int (xs 1), .int (xs 2), .ref 63, P_un], [.int (xs 2), .int (xs 1), .ref 2, .int 0, .ref 63], (P_hv132 xs L))) P_i289_4 (fun _ => rfl) ?_
  refine P_wp_call P_i289_5 rfl rfl rfl rfl rfl rfl rfl (y2 := 160) (as := [.ref 2, .int (xs 1), .int (xs 2)]) (r0 := [.int 0, .ref 63]) rfl (Nat.le_of_ble_eq_true rfl) (by decide) rfl (Nat.le_of_ble_eq_true rfl) (P_x241 xs L (?_))
  refine ⟨show 4 < 5 by decide, ?_⟩
  show P_wp P_Y0 199 289 (15, [.ref 2, .int (xs 1), .int (xs 2), .ref 63, P_un], [], (P_hv134 xs L)) _
  refine P_wp_step (S' := (16, [.ref 2, .int (xs 1), .int (xs 2), .ref 63, P_un], [.int 1], (P_hv134 xs L))) P_i289_15 (fun _ => rfl) ?_
  refine P_wp_end (x := (.inl (some (.int 1)), (P_hv134 xs L))) P_i289_16 (fun _ => rfl) ?_
  exact q

set_option maxRecDepth 20000 in
theorem P_x243 (xs : Nat → Int32) (L : Nat) {Q : P_R → P_H → Prop} (q : Q (.inl (some (.int 0))) (P_hv135 xs L)) : P_wp P_Y0 199 263 (0, [.ref 47, .int (xs 1), .int (xs 2), P_un], [], (P_hv134 xs L)) Q := by
  refine P_wp_step (S' := (1, [.ref 47, .int (xs 1), .int (xs 2), P_un], [.ref 47], (P_hv134 xs L))) P_i263_0 (fun _ => rfl) ?_
  refine P_wp_step (S' := (2, [.ref 47, .int (xs 1), .int (xs 2), P_un], [.int 0, .ref 47], (P_hv134 xs L))) P_i263_1 (fun _ => rfl) ?_
  refine P_wp_step (S' := (5, [.ref 47, .int (xs 1), .int (xs 2), P_un], [], (P_hv134 xs L))) P_i263_2 (fun _ => rfl) ?_
  refine P_wp_step (S' := (6, [.ref 47, .int (xs 1), .int (xs 2), P_un], [.ref 47], (P_hv134 xs L))) P_i263_5 (fun _ => rfl) ?_
  refine P_wp_step (S' := (9, [.ref 47, .int (xs 1), .int (xs 2), P_un], [.int 0], (P_hv134 xs L))) P_i263_6 (fun _ => rfl) ?_
  refine P_wp_izf P_i263_9 P_b19 (show P_wp P_Y0 199 263 (12, [.ref 47, .int (xs 1), .int (xs 2), P_un], [], (P_hv134 xs L)) _ from ?_)
  refine P_wp_step (S' := (13, [.ref 47, .int (xs 1), .int (xs 2), P_un], [.ref 47], (P_hv134 xs L))) P_i263_12 (fun _ => rfl) ?_
  refine P_wp_step (S' := (14, [.ref 47, .int (xs 1), .int (xs 2), P_un], [.int 1, .ref 47], (P_hv134 xs L))) P_i263_13 (fun _ => rfl) ?_
  refine P_wp_call P_i263_14 rfl rfl rfl rfl rfl rfl rfl (y2 := 184) (as := [.ref 47, .int 1]) (r0 := []) rfl (Nat.le_of_ble_eq_true rfl) (by decide) rfl (Nat.le_of_ble_eq_true rfl) (P_x30 xs L (?_))
  show P_wp P_Y0 199 263 (17, [.ref 47, .int (xs 1), .int (xs 2), P_un], [.int 0], (P_hv135 xs L)) _
  refine P_wp_end (x := (.inl (some (.int 0)), (P_hv135 xs L))) P_i263_17 (fun _ => rfl) ?_
  exact q

set_option maxRecDepth 20000 in
theorem P_x244 (xs : Nat → Int32) (L : Nat) {Q : P_R → P_H → Prop} (q : Q (.inr 1) (P_hv134 xs L)) : P_wp P_Y0 198 161 (0, [.ref 2, .int (xs 1)], [], (P_hv132 xs L)) Q := by
  refine P_wp_step (S' := (1, [.ref 2, .int (xs 1)], [.ref 2], (P_hv132 xs L))) P_i161_0 (fun _ => rfl) ?_
  refine P_wp_call P_i161_1 rfl rfl rfl rfl rfl rfl rfl (y2 := 169) (as := [.ref 2]) (r0 := []) rfl (Nat.le_of_ble_eq_true rfl) (by decide) rfl (Nat.le_of_ble_eq_true rfl) (P_x201 xs L (?_))
  show Q (.inr 1) (P_hv134 xs L)
  exact q

set_option maxRecDepth 20000 in
theorem P_x245 (xs : Nat → Int32) (L : Nat) {Q : P_R → P_H → Prop} (q : Q (.inl (some (.int 1))) (P_hv134 xs L)) : P_wp P_Y0 199 290 (0, [.ref 2, .int (xs 1), .ref 63, P_un], [], (P_hv132 xs L)) Q := by
  refine P_wp_step (S' := (1, [.ref 2, .int (xs 1), .ref 63, P_un], [.ref 63], (P_hv132 xs L))) P_i290_0 (fun _ => rfl) ?_
  refine P_wp_step (S' := (2, [.ref 2, .int (xs 1), .ref 63, P_un], [.int 0, .ref 63], (P_hv132 xs L))) P_i290_1 (fun _ => rfl) ?_
  refine P_wp_step (S' := (3, [.ref 2, .int (xs 1), .ref 63, P_un], [.ref 2, .int 0, .ref 63], (P_hv132 xs L))) P_i290_2 (fun _ => rfl) ?_
  refine P_wp_step (S' := (4, [.ref 2, .int (xs 1), .ref 63, P_un], [.int (xs 1), .ref 2, .int 0, .ref 63], (P_hv132 xs L))) P_i290_3 (fun _ => rfl) ?_
  refine P_wp_call P_i290_4 rfl rfl rfl rfl rfl rfl rfl (y2 := 161) (as := [.ref 2, .int (xs 1)]) (r0 := [.int 0, .ref 63]) rfl (Nat.le_of_ble_eq_true rfl) (by decide) rfl (Nat.le_of_ble_eq_true rfl) (P_x244 xs L (?_))
  refine ⟨show 3 < 4 by decide, ?_⟩
  show P_wp P_Y0 199 290 (13, [.ref 2, .int (xs 1), .ref 63, P_un], [], (P_hv134 xs L)) _
  refine P_wp_step (S' := (14, [.ref 2, .int (xs 1), .ref 63, P_un], [.int 1], (P_hv134 xs L))) P_i290_13 (fun _ => rfl) ?_
  refine P_wp_end (x := (.inl (some (.int 1)), (P_hv134 xs L))) P_i290_14 (fun _ => rfl) ?_
  exact q

set_option maxRecDepth 20000 in
theorem P_x246 (xs : Nat → Int32) (L : Nat) {Q : P_R → P_H → Prop} (q : Q (.inl (some (.int 0))) (P_hv135 xs L)) : P_wp P_Y0 199 265 (0, [.ref 47, .int (xs 1)], [], (P_hv134 xs L)) Q := by
  refine P_wp_step (S' := (1, [.ref 47, .int (xs 1)], [.ref 47], (P_hv134 xs L))) P_i265_0 (fun _ => rfl) ?_
  refine P_wp_step (S' := (2, [.ref 47, .int (xs 1)], [.int 0, .ref 47], (P_hv134 xs L))) P_i265_1 (fun _ => rfl) ?_
  refine P_wp_step (S' := (5, [.ref 47, .int (xs 1)], [], (P_hv134 xs L))) P_i265_2 (fun _ => rfl) ?_
  refine P_wp_step (S' := (6, [.ref 47, .int (xs 1)], [.ref 47], (P_hv134 xs L))) P_i265_5 (fun _ => rfl) ?_
  refine P_wp_step (S' := (9, [.ref 47, .int (xs 1)], [.int 0], (P_hv134 xs L))) P_i265_6 (fun _ => rfl) ?_
  refine P_wp_izf P_i265_9 P_b19 (show P_wp P_Y0 199 265 (12, [.ref 47, .int (xs 1)], [], (P_hv134 xs L)) _ from ?_)
  refine P_wp_step (S' := (13, [.ref 47, .int (xs 1)], [.ref 47], (P_hv134 xs L))) P_i265_12 (fun _ => rfl) ?_
  refine P_wp_step (S' := (14, [.ref 47, .int (xs 1)], [.int 1, .ref 47], (P_hv134 xs L))) P_i265_13 (fun _ => rfl) ?_
  refine P_wp_call P_i265_14 rfl rfl rfl rfl rfl rfl rfl (y2 := 184) (as := [.ref 47, .int 1]) (r0 := []) rfl (Nat.le_of_ble_eq_true rfl) (by decide) rfl (Nat.le_of_ble_eq_true rfl) (P_x30 xs L (?_))
  show P_wp P_Y0 199 265 (17, [.ref 47, .int (xs 1)], [.int 0], (P_hv135 xs L)) _
  refine P_wp_end (x := (.inl (some (.int 0)), (P_hv135 xs L))) P_i265_17 (fun _ => rfl) ?_
  exact q

set_option maxRecDepth 20000 in
theorem P_x247 (xs : Nat → Int32) (L : Nat) {Q : P_R → P_H → Prop} (q : Q (.inr 1) (P_hv134 xs L)) : P_wp P_Y0 198 162 (0, [.ref 2, .int (xs 1)], [], (P_hv132 xs L)) Q := by
  refine P_wp_step (S' := (1, [.ref 2, .int (xs 1)], [.ref 2], (P_hv132 xs L))) P_i162_0 (fun _ => rfl) ?_
  refine P_wp_call P_i162_1 rfl rfl rfl rfl rfl rfl rfl (y2 := 169) (as := [.ref 2]) (r0 := []) rfl (Nat.le_of_ble_eq_true rfl) (by decide) rfl (Nat.le_of_ble_eq_true rfl) (P_x201 xs L (?_))
  show Q (.inr 1) (P_hv134 xs L)
  exact q

set_option maxRecDepth 20000 in
theorem P_x248 (xs : Nat → Int32) (L : Nat) {Q : P_R → P_H → Prop} (q : Q (.inl (some (.int 1))) (P_hv134 xs L)) : P_wp P_Y0 199 291 (0, [.ref 2, .int (xs 1), .ref 63, P_un], [], (P_hv132 xs L)) Q := by
  refine P_wp_step (S' := (1, [.ref 2, .int (xs 1), .ref 63, P_un], [.ref 63], (P_hv132 xs L))) P_i291_0 (fun _ => rfl) ?_
  refine P_wp_step (S' := (2, [.ref 2, .int (xs 1), .ref 63, P_un], [.int 0, .ref 63], (P_hv132 xs L))) P_i291_1 (fun _ => rfl) ?_
  refine P_wp_step (S' := (3, [.ref 2, .int (xs 1), .ref 63, P_un], [.ref 2, .int 0, .ref 63], (P_hv132 xs L))) P_i291_2 (fun _ => rfl) ?_
  refine P_wp_step (S' := (4, [.ref 2, .int (xs 1), .ref 63, P_un], [.int (xs 1), .ref 2, .int 0, .ref 63], (P_hv132 xs L))) P_i291_3 (fun _ => rfl) ?_
  refine P_wp_call P_i291_4 rfl rfl rfl rfl rfl rfl rfl (y2 := 162) (as := [.ref 2, .int (xs 1)]) (r0 := [.int 0, .ref 63]) rfl (Nat.le_of_ble_eq_true rfl) (by decide) rfl (Nat.le_of_ble_eq_true rfl) (P_x247 xs L (?_))
  refine ⟨show 3 < 4 by decide, ?_⟩
  show P_wp P_Y0 199 291 (13, [.ref 2, .int (xs 1), .ref 63, P_un], [], (P_hv134 xs L)) _
  refine P_wp_step (S' := (14, [.ref 2, .int (xs 1), .ref 63, P_un], [.int 1], (P_hv134 xs L))) P_i291_13 (fun _ => rfl) ?_
  refine P_wp_end (x := (.inl (some (.int 1)), (P_hv134 xs L))) P_i291_14 (fun _ => rfl) ?_
  exact q

set_option maxRecDepth 20000 in
theorem P_x249 (xs : Nat → Int32) (L : Nat) {Q : P_R → P_H → Prop} (q : Q (.inl (some (.int 0))) (P_hv135 xs L)) : P_wp P_Y0 199 267 (0, [.ref 47, .int (xs 1)], [], (P_hv134 xs L)) Q := by
  refine P_wp_step (S' := (1, [.ref 47, .int (xs 1)], [.ref 47], (P_hv134 xs L))) P_i267_0 (fun _ => rfl) ?_
  refine P_wp_step (S' := (2, [.ref 47, .int (xs 1)], [.int 0, .ref 47], (P_hv134 xs L))) P_i267_1 (fun _ => rfl) ?_
  refine P_wp_step (S' := (5, [.ref 47, .int (xs 1)], [], (P_hv134 xs L))) P_i267_2 (fun _ => rfl) ?_
  refine P_wp_step (S' := (6, [.ref 47, .int (xs 1)], [.ref 47], (P_hv134 xs L))) P_i267_5 (fun _ => rfl) ?_
  refine P_wp_step (S' := (9, [.ref 47, .int (xs 1)], [.int 0], (P_hv134 xs L))) P_i267_6 (fun _ => rfl) ?_
  refine P_wp_izf P_i267_9 P_b19 (show P_wp P_Y0 199 267 (12, [.ref 47, .int (xs 1)], [], (P_hv134 xs L)) _ from ?_)
  refine P_wp_step (S' := (13, [.ref 47, .int (xs 1)], [.ref 47], (P_hv134 xs L))) P_i267_12 (fun _ => rfl) ?_
  refine P_wp_step (S' := (14, [.ref 47, .int (xs 1)], [.int 1, .ref 47], (P_hv134 xs L))) P_i267_13 (fun _ => rfl) ?_
  refine P_wp_call P_i267_14 rfl rfl rfl rfl rfl rfl rfl (y2 := 184) (as := [.ref 47, .int 1]) (r0 := []) rfl (Nat.le_of_ble_eq_true rfl) (by decide) rfl (Nat.le_of_ble_eq_true rfl) (P_x30 xs L (?_))
  show P_wp P_Y0 199 267 (17, [.ref 47, .int (xs 1)], [.int 0], (P_hv135 xs L)) _
  refine P_wp_end (x := (.inl (some (.int 0)), (P_hv135 xs L))) P_i267_17 (fun _ => rfl) ?_
  exact q

set_option maxRecDepth 20000 in
theorem P_x250 (xs : Nat → Int32) (L : Nat) {Q : P_R → P_H → Prop} (q : Q (.inr 1) (P_hv134 xs L)) : P_wp P_Y0 198 163 (0, [.ref 2, P_un], [], (P_hv132 xs L)) Q := by
  refine P_wp_step (S' := (1, [.ref 2, P_un], [.ref 2], (P_hv132 xs L))) P_i163_0 (fun _ => rfl) ?_
  refine P_wp_call P_i163_1 rfl rfl rfl rfl rfl rfl rfl (y2 := 169) (as := [.ref 2]) (r0 := []) rfl (Nat.le_of_ble_eq_true rfl) (by decide) rfl (Nat.le_of_ble_eq_true rfl) (P_x201 xs L (?_))
  show Q (.inr 1) (P_hv134 xs L)
  exact q

set_option maxRecDepth 20000 in
theorem P_x251 (xs : Nat → Int32) (L : Nat) {Q : P_R → P_H → Prop} (q : Q (.inl (some (.int 1))) (P_hv134 xs L)) : P_wp P_Y0 199 292 (0, [.ref 2, .ref 64, P_un], [], (P_hv132 xs L)) Q := by
  refine P_wp_step (S' := (1, [.ref 2, .ref 64, P_un], [.ref 64], (P_hv132 xs L))) P_i292_0 (fun _ => rfl) ?_
  refine P_wp_step (S' := (2, [.ref 2, .ref 64, P_un], [.int 0, .ref 64], (P_hv132 xs L))) P_i292_1 (fun _ => rfl) ?_
  refine P_wp_step (S' := (3, [.ref 2, .ref 64, P_un], [.ref 2, .int 0, .ref 64], (P_hv132 xs L))) P_i292_2 (fun _ => rfl) ?_
  refine P_wp_call P_i292_3 rfl rfl rfl rfl rfl rfl rfl (y2 := 163) (as := [.ref 2]) (r0 := [.int 0, .ref 64]) rfl (Nat.le_of_ble_eq_true rfl) (by decide) rfl (Nat.le_of_ble_eq_true rfl) (P_x250 xs L (?_))
  refine ⟨show 2 < 3 by decide, ?_⟩
  show P_wp P_Y0 199 292 (11, [.ref 2, .ref 64, P_un], [], (P_hv134 xs L)) _
  refine P_wp_step (S' := (12, [.ref 2, .ref 64, P_un], [.int 1], (P_hv134 xs L))) P_i292_11 (fun _ => rfl) ?_
  refine P_wp_end (x := (.inl (some (.int 1)), (P_hv134 xs L))) P_i292_12 (fun _ => rfl) ?_
  exact q

set_option maxRecDepth 20000 in
theorem P_x252 (xs : Nat → Int32) (L : Nat) {Q : P_R → P_H → Prop} (q : Q (.inl (some (.double 0))) (P_hv135 xs L)) : P_wp P_Y0 199 268 (0, [.ref 47, P_un, P_un], [], (P_hv134 xs L)) Q := by
  refine P_wp_step (S' := (1, [.ref 47, P_un, P_un], [.ref 47], (P_hv134 xs L))) P_i268_0 (fun _ => rfl) ?_
  refine P_wp_step (S' := (2, [.ref 47, P_un, P_un], [.ref 47, .ref 47], (P_hv134 xs L))) P_i268_1 (fun _ => rfl) ?_
  refine P_wp_step (S' := (5, [.ref 47, P_un, P_un], [.int 0, .ref 47], (P_hv134 xs L))) P_i268_2 (fun _ => rfl) ?_
  refine P_wp_izt P_i268_5 P_b27 (show P_wp P_Y0 199 268 (12, [.ref 47, P_un, P_un], [.ref 47], (P_hv134 xs L)) _ from ?_)
  refine P_wp_step (S' := (13, [.ref 47, P_un, P_un], [.int 1, .ref 47], (P_hv134 xs L))) P_i268_12 (fun _ => rfl) ?_
  refine P_wp_step (S' := (16, [.ref 47, P_un, P_un], [], (P_hv135 xs L))) P_i268_13 (fun _ => rfl) ?_
  refine P_wp_step (S' := (17, [.ref 47, P_un, P_un], [.ref 47], (P_hv135 xs L))) P_i268_16 (fun _ => rfl) ?_
  refine P_wp_step (S' := (20, [.ref 47, P_un, P_un], [.int 0], (P_hv135 xs L))) P_i268_17 (fun _ => rfl) ?_
  refine P_wp_izf P_i268_20 P_b19 (show P_wp P_Y0 199 268 (23, [.ref 47, P_un, P_un], [], (P_hv135 xs L)) _ from ?_)
  refine P_wp_step (S' := (24, [.ref 47, P_un, P_un], [.double 0], (P_hv135 xs L))) P_i268_23 (fun _ => rfl) ?_
  refine P_wp_end (x := (.inl (some (.double 0)), (P_hv135 xs L))) P_i268_24 (fun _ => rfl) ?_
  exact q

set_option maxRecDepth 20000 in
theorem P_x253 (xs : Nat → Int32) (L : Nat) {Q : P_R → P_H → Prop} (q : Q (.inl (some (.int 0))) (P_hv132 xs L)) : P_wp P_Y0 198 168 (0, [.ref 2, .int 0], [], (P_hv132 xs L)) Q := by
  refine P_wp_step (S' := (1, [.ref 2, .int 0], [.int 0], (P_hv132 xs L))) P_i168_0 (fun _ => rfl) ?_
  refine P_wp_izf P_i168_1 P_b19 (show P_wp P_Y0 198 168 (4, [.ref 2, .int 0], [], (P_hv132 xs L)) _ from ?_)
  refine P_wp_step (S' := (5, [.ref 2, .int 0], [.ref 2], (P_hv132 xs L))) P_i168_4 (fun _ => rfl) ?_
  refine P_wp_step (S' := (8, [.ref 2, .int 0], [.ref 3], (P_hv132 xs L))) P_i168_5 (fun _ => rfl) ?_
  refine P_wp_call P_i168_8 rfl rfl rfl rfl rfl rfl rfl (y2 := 114) (as := [.ref 3]) (r0 := []) rfl (Nat.le_of_ble_eq_true rfl) (by decide) rfl (Nat.le_of_ble_eq_true rfl) (P_x33 xs L (?_))
  show P_wp P_Y0 198 168 (11, [.ref 2, .int 0], [.int 0], (P_hv132 xs L)) _
  refine P_wp_end (x := (.inl (some (.int 0)), (P_hv132 xs L))) P_i168_11 (fun _ => rfl) ?_
  exact q

set_option maxRecDepth 20000 in
theorem P_x254 (xs : Nat → Int32) (L : Nat) {Q : P_R → P_H → Prop} (q : Q (.inl (some (.long 1800666))) (P_hv132 xs L)) : P_wp P_Y0 198 171 (0, [.long 58086, P_un, .long 0, P_un], [], (P_hv132 xs L)) Q := by
  refine P_wp_step (S' := (1, [.long 58086, P_un, .long 0, P_un], [.long 58086], (P_hv132 xs L))) P_i171_0 (fun _ => rfl) ?_
  refine P_wp_step (S' := (4, [.long 58086, P_un, .long 0, P_un], [.long 31, .long 58086], (P_hv132 xs L))) P_i171_1 (fun _ => rfl) ?_
  refine P_wp_step (S' := (5, [.long 58086, P_un, .long 0, P_un], [.long 1800666], (P_hv132 xs L))) P_i171_4 (fun _ => rfl) ?_
  refine P_wp_step (S' := (6, [.long 58086, P_un, .long 0, P_un], [.long 0, .long 1800666], (P_hv132 xs L))) P_i171_5 (fun _ => rfl) ?_
  refine P_wp_step (S' := (7, [.long 58086, P_un, .long 0, P_un], [.long 1800666], (P_hv132 xs L))) P_i171_6 (fun _ => rfl) ?_
  refine P_wp_end (x := (.inl (some (.long 1800666)), (P_hv132 xs L))) P_i171_7 (fun _ => rfl) ?_
  exact q

set_option maxRecDepth 20000 in
theorem P_x255 (xs : Nat → Int32) (L : Nat) {Q : P_R → P_H → Prop} (q : Q (.inl (some (.int 0))) (P_hv132 xs L)) : P_wp P_Y0 198 168 (0, [.ref 2, .int 1], [], (P_hv132 xs L)) Q := by
  refine P_wp_step (S' := (1, [.ref 2, .int 1], [.int 1], (P_hv132 xs L))) P_i168_0 (fun _ => rfl) ?_
  refine P_wp_izt P_i168_1 P_b21 (show P_wp P_Y0 198 168 (12, [.ref 2, .int 1], [], (P_hv132 xs L)) _ from ?_)
  refine P_wp_step (S' := (13, [.ref 2, .int 1], [.int 1], (P_hv132 xs L))) P_i168_12 (fun _ => rfl) ?_
  refine P_wp_step (S' := (14, [.ref 2, .int 1], [.int 1, .int 1], (P_hv132 xs L))) P_i168_13 (fun _ => rfl) ?_
  refine P_wp_icf P_i168_14 P_b47 (show P_wp P_Y0 198 168 (17, [.ref 2, .int 1], [], (P_hv132 xs L)) _ from ?_)
  refine P_wp_step (S' := (18, [.ref 2, .int 1], [.ref 2], (P_hv132 xs L))) P_i168_17 (fun _ => rfl) ?_
  refine P_wp_step (S' := (21, [.ref 2, .int 1], [.ref 31], (P_hv132 xs L))) P_i168_18 (fun _ => rfl) ?_
  refine P_wp_call P_i168_21 rfl rfl rfl rfl rfl rfl rfl (y2 := 91) (as := [.ref 31]) (r0 := []) rfl (Nat.le_of_ble_eq_true rfl) (by decide) rfl (Nat.le_of_ble_eq_true rfl) (P_x81 xs L (?_))
  show P_wp P_Y0 198 168 (24, [.ref 2, .int 1], [.int 0], (P_hv132 xs L)) _
  refine P_wp_end (x := (.inl (some (.int 0)), (P_hv132 xs L))) P_i168_24 (fun _ => rfl) ?_
  exact q

set_option maxRecDepth 20000 in
theorem P_x256 (xs : Nat → Int32) (L : Nat) {Q : P_R → P_H → Prop} (q : Q (.inl (some (.long 55820646))) (P_hv132 xs L)) : P_wp P_Y0 198 171 (0, [.long 1800666, P_un, .long 0, P_un], [], (P_hv132 xs L)) Q := by
  refine P_wp_step (S' := (1, [.long 1800666, P_un, .long 0, P_un], [.long 1800666], (P_hv132 xs L))) P_i171_0 (fun _ => rfl) ?_
  refine P_wp_step (S' := (4, [.long 1800666, P_un, .long 0, P_un], [.long 31, .long 1800666], (P_hv132 xs L))) P_i171_1 (fun _ => rfl) ?_
  refine P_wp_step (S' := (5, [.long 1800666, P_un, .long 0, P_un], [.long 55820646], (P_hv132 xs L))) P_i171_4 (fun _ => rfl) ?_
  refine P_wp_step (S' := (6, [.long 1800666, P_un, .long 0, P_un], [.long 0, .long 55820646], (P_hv132 xs L))) P_i171_5 (fun _ => rfl) ?_
  refine P_wp_step (S' := (7, [.long 1800666, P_un, .long 0, P_un], [.long 55820646], (P_hv132 xs L))) P_i171_6 (fun _ => rfl) ?_
  refine P_wp_end (x := (.inl (some (.long 55820646)), (P_hv132 xs L))) P_i171_7 (fun _ => rfl) ?_
  exact q

set_option maxRecDepth 20000 in
theorem P_x257 (xs : Nat → Int32) (L : Nat) {Q : P_R → P_H → Prop} (q : Q (.inl (some (.int 0))) (P_hv132 xs L)) : P_wp P_Y0 197 92 (0, [.ref 31], [], (P_hv132 xs L)) Q := by
  refine P_wp_step (S' := (1, [.ref 31], [.ref 31], (P_hv132 xs L))) P_i92_0 (fun _ => rfl) ?_
  refine P_wp_step (S' := (4, [.ref 31], [.int 0], (P_hv132 xs L))) P_i92_1 (fun _ => rfl) ?_
  refine P_wp_end (x := (.inl (some (.int 0)), (P_hv132 xs L))) P_i92_4 (fun _ => rfl) ?_
  exact q

set_option maxRecDepth 20000 in
theorem P_x258 (xs : Nat → Int32) (L : Nat) {Q : P_R → P_H → Prop} (q : Q (.inl (some (.int 0))) (P_hv132 xs L)) : P_wp P_Y0 198 168 (0, [.ref 2, .int 2], [], (P_hv132 xs L)) Q := by
  refine P_wp_step (S' := (1, [.ref 2, .int 2], [.int 2], (P_hv132 xs L))) P_i168_0 (fun _ => rfl) ?_
  refine P_wp_izt P_i168_1 P_b49 (show P_wp P_Y0 198 168 (12, [.ref 2, .int 2], [], (P_hv132 xs L)) _ from ?_)
  refine P_wp_step (S' := (13, [.ref 2, .int 2], [.int 2], (P_hv132 xs L))) P_i168_12 (fun _ => rfl) ?_
  refine P_wp_step (S' := (14, [.ref 2, .int 2], [.int 1, .int 2], (P_hv132 xs L))) P_i168_13 (fun _ => rfl) ?_
  refine P_wp_ict P_i168_14 P_b50 (show P_wp P_Y0 198 168 (25, [.ref 2, .int 2], [], (P_hv132 xs L)) _ from ?_)
  refine P_wp_step (S' := (26, [.ref 2, .int 2], [.ref 2], (P_hv132 xs L))) P_i168_25 (fun _ => rfl) ?_
  refine P_wp_step (S' := (29, [.ref 2, .int 2], [.ref 31], (P_hv132 xs L))) P_i168_26 (fun _ => rfl) ?_
  refine P_wp_call P_i168_29 rfl rfl rfl rfl rfl rfl rfl (y2 := 92) (as := [.ref 31]) (r0 := []) rfl (Nat.le_of_ble_eq_true rfl) (by decide) rfl (Nat.le_of_ble_eq_true rfl) (P_x257 xs L (?_))
  show P_wp P_Y0 198 168 (32, [.ref 2, .int 2], [.int 0], (P_hv132 xs L)) _
  refine P_wp_izf P_i168_32 P_b19 (show P_wp P_Y0 198 168 (35, [.ref 2, .int 2], [], (P_hv132 xs L)) _ from ?_)
  refine P_wp_step (S' := (36, [.ref 2, .int 2], [.int 0], (P_hv132 xs L))) P_i168_35 (fun _ => rfl) ?_
  refine P_wp_end (x := (.inl (some (.int 0)), (P_hv132 xs L))) P_i168_36 (fun _ => rfl) ?_
  exact q

set_option maxRecDepth 20000 in
theorem P_x259 (xs : Nat → Int32) (L : Nat) {Q : P_R → P_H → Prop} (q : Q (.inl (some (.long 1730440026))) (P_hv132 xs L)) : P_wp P_Y0 198 171 (0, [.long 55820646, P_un, .long 0, P_un], [], (P_hv132 xs L)) Q := by
  refine P_wp_step (S' := (1, [.long 55820646, P_un, .long 0, P_un], [.long 55820646], (P_hv132 xs L))) P_i171_0 (fun _ => rfl) ?_
  refine P_wp_step (S' := (4, [.long 55820646, P_un, .long 0, P_un], [.long 31, .long 55820646], (P_hv132 xs L))) P_i171_1 (fun _ => rfl) ?_
  refine P_wp_step (S' := (5, [.long 55820646, P_un, .long 0, P_un], [.long 1730440026], (P_hv132 xs L))) P_i171_4 (fun _ => rfl) ?_
  refine P_wp_step (S' := (6, [.long 55820646, P_un, .long 0, P_un], [.long 0, .long 1730440026], (P_hv132 xs L))) P_i171_5 (fun _ => rfl) ?_
  refine P_wp_step (S' := (7, [.long 55820646, P_un, .long 0, P_un], [.long 1730440026], (P_hv132 xs L))) P_i171_6 (fun _ => rfl) ?_
  refine P_wp_end (x := (.inl (some (.long 1730440026)), (P_hv132 xs L))) P_i171_7 (fun _ => rfl) ?_
  exact q

set_option maxRecDepth 20000 in
theorem P_x260 (xs : Nat → Int32) (L : Nat) {Q : P_R → P_H → Prop} (q : Q (.inl (some (.int 0))) (P_hv132 xs L)) : P_wp P_Y0 198 168 (0, [.ref 2, .int 3], [], (P_hv132 xs L)) Q := by
  refine P_wp_step (S' := (1, [.ref 2, .int 3], [.int 3], (P_hv132 xs L))) P_i168_0 (fun _ => rfl) ?_
  refine P_wp_izt P_i168_1 P_b52 (show P_wp P_Y0 198 168 (12, [.ref 2, .int 3], [], (P_hv132 xs L)) _ from ?_)
  refine P_wp_step (S' := (13, [.ref 2, .int 3], [.int 3], (P_hv132 xs L))) P_i168_12 (fun _ => rfl) ?_
  refine P_wp_step (S' := (14, [.ref 2, .int 3], [.int 1, .int 3], (P_hv132 xs L))) P_i168_13 (fun _ => rfl) ?_
  refine P_wp_ict P_i168_14 P_b53 (show P_wp P_Y0 198 168 (25, [.ref 2, .int 3], [], (P_hv132 xs L)) _ from ?_)
  refine P_wp_step (S' := (26, [.ref 2, .int 3], [.ref 2], (P_hv132 xs L))) P_i168_25 (fun _ => rfl) ?_
  refine P_wp_step (S' := (29, [.ref 2, .int 3], [.ref 31], (P_hv132 xs L))) P_i168_26 (fun _ => rfl) ?_
  refine P_wp_call P_i168_29 rfl rfl rfl rfl rfl rfl rfl (y2 := 92) (as := [.ref 31]) (r0 := []) rfl (Nat.le_of_ble_eq_true rfl) (by decide) rfl (Nat.le_of_ble_eq_true rfl) (P_x257 xs L (?_))
  show P_wp P_Y0 198 168 (32, [.ref 2, .int 3], [.int 0], (P_hv132 xs L)) _
  refine P_wp_izf P_i168_32 P_b19 (show P_wp P_Y0 198 168 (35, [.ref 2, .int 3], [], (P_hv132 xs L)) _ from ?_)
  refine P_wp_step (S' := (36, [.ref 2, .int 3], [.int 0], (P_hv132 xs L))) P_i168_35 (fun _ => rfl) ?_
  refine P_wp_end (x := (.inl (some (.int 0)), (P_hv132 xs L))) P_i168_36 (fun _ => rfl) ?_
  exact q

set_option maxRecDepth 20000 in
theorem P_x261 (xs : Nat → Int32) (L : Nat) {Q : P_R → P_H → Prop} (q : Q (.inl (some (.long 53643640806))) (P_hv132 xs L)) : P_wp P_Y0 198 171 (0, [.long 1730440026, P_un, .long 0, P_un], [], (P_hv132 xs L)) Q := by
  refine P_wp_step (S' := (1, [.long 1730440026, P_un, .long 0, P_un], [.long 1730440026], (P_hv132 xs L))) P_i171_0 (fun _ => rfl) ?_
  refine P_wp_step (S' := (4, [.long 1730440026, P_un, .long 0, P_un], [.long 31, .long 1730440026], (P_hv132 xs L))) P_i171_1 (fun _ => rfl) ?_
  refine P_wp_step (S' := (5, [.long 1730440026, P_un, .long 0, P_un], [.long 53643640806], (P_hv132 xs L))) P_i171_4 (fun _ => rfl) ?_
  refine P_wp_step (S' := (6, [.long 1730440026, P_un, .long 0, P_un], [.long 0, .long 53643640806], (P_hv132 xs L))) P_i171_5 (fun _ => rfl) ?_
  refine P_wp_step (S' := (7, [.long 1730440026, P_un, .long 0, P_un], [.long 53643640806], (P_hv132 xs L))) P_i171_6 (fun _ => rfl) ?_
  refine P_wp_end (x := (.inl (some (.long 53643640806)), (P_hv132 xs L))) P_i171_7 (fun _ => rfl) ?_
  exact q

set_option maxRecDepth 20000 in
theorem P_x262 (xs : Nat → Int32) (L : Nat) {Q : P_R → P_H → Prop} (q : Q (.inl (some (.int 0))) (P_hv132 xs L)) : P_wp P_Y0 198 168 (0, [.ref 2, .int 4], [], (P_hv132 xs L)) Q := by
  refine P_wp_step (S' := (1, [.ref 2, .int 4], [.int 4], (P_hv132 xs L))) P_i168_0 (fun _ => rfl) ?_
  refine P_wp_izt P_i168_1 P_b55 (show P_wp P_Y0 198 168 (12, [.ref 2, .int 4], [], (P_hv132 xs L)) _ from ?_)
  refine P_wp_step (S' := (13, [.ref 2, .int 4], [.int 4], (P_hv132 xs L))) P_i168_12 (fun _ => rfl) ?_
  refine P_wp_step (S' := (14, [.ref 2, .int 4], [.int 1, .int 4], (P_hv132 xs L))) P_i168_13 (fun _ => rfl) ?_
  refine P_wp_ict P_i168_14 P_b56 (show P_wp P_Y0 198 168 (25, [.ref 2, .int 4], [], (P_hv132 xs L)) _ from ?_)
  refine P_wp_step (S' := (26, [.ref 2, .int 4], [.ref 2], (P_hv132 xs L))) P_i168_25 (fun _ => rfl) ?_
  refine P_wp_step (S' := (29, [.ref 2, .int 4], [.ref 31], (P_hv132 xs L))) P_i168_26 (fun _ => rfl) ?_
  refine P_wp_call P_i168_29 rfl rfl rfl rfl rfl rfl rfl (y2 := 92) (as := [.ref 31]) (r0 := []) rfl (Nat.le_of_ble_eq_true rfl) (by decide) rfl (Nat.le_of_ble_eq_true rfl) (P_x257 xs L (?_))
  show P_wp P_Y0 198 168 (32, [.ref 2, .int 4], [.int 0], (P_hv132 xs L)) _
  refine P_wp_izf P_i168_32 P_b19 (show P_wp P_Y0 198 168 (35, [.ref 2, .int 4], [], (P_hv132 xs L)) _ from ?_)
  refine P_wp_step (S' := (36, [.ref 2, .int 4], [.int 0], (P_hv132 xs L))) P_i168_35 (fun _ => rfl) ?_
  refine P_wp_end (x := (.inl (some (.int 0)), (P_hv132 xs L))) P_i168_36 (fun _ => rfl) ?_
  exact q

set_option maxRecDepth 20000 in
theorem P_x263 (xs : Nat → Int32) (L : Nat) {Q : P_R → P_H → Prop} (q : Q (.inl (some (.long 1662952864986))) (P_hv132 xs L)) : P_wp P_Y0 198 171 (0, [.long 53643640806, P_un, .long 0, P_un], [], (P_hv132 xs L)) Q := by
  refine P_wp_step (S' := (1, [.long 53643640806, P_un, .long 0, P_un], [.long 53643640806], (P_hv132 xs L))) P_i171_0 (fun _ => rfl) ?_
  refine P_wp_step (S' := (4, [.long 53643640806, P_un, .long 0, P_un], [.long 31, .long 53643640806], (P_hv132 xs L))) P_i171_1 (fun _ => rfl) ?_
  refine P_wp_step (S' := (5, [.long 53643640806, P_un, .long 0, P_un], [.long 1662952864986], (P_hv132 xs L))) P_i171_4 (fun _ => rfl) ?_
  refine P_wp_step (S' := (6, [.long 53643640806, P_un, .long 0, P_un], [.long 0, .long 1662952864986], (P_hv132 xs L))) P_i171_5 (fun _ => rfl) ?_
  refine P_wp_step (S' := (7, [.long 53643640806, P_un, .long 0, P_un], [.long 1662952864986], (P_hv132 xs L))) P_i171_6 (fun _ => rfl) ?_
  refine P_wp_end (x := (.inl (some (.long 1662952864986)), (P_hv132 xs L))) P_i171_7 (fun _ => rfl) ?_
  exact q

set_option maxRecDepth 20000 in
theorem P_x264 (xs : Nat → Int32) (L : Nat) {Q : P_R → P_H → Prop} (q : Q (.inl (some (.int 0))) (P_hv132 xs L)) : P_wp P_Y0 198 114 (0, [.ref 3], [], (P_hv132 xs L)) Q := by
  refine P_wp_step (S' := (1, [.ref 3], [.ref 3], (P_hv132 xs L))) P_i114_0 (fun _ => rfl) ?_
  refine P_wp_step (S' := (4, [.ref 3], [.int 0], (P_hv132 xs L))) P_i114_1 (fun _ => rfl) ?_
  refine P_wp_end (x := (.inl (some (.int 0)), (P_hv132 xs L))) P_i114_4 (fun _ => rfl) ?_
  exact q
