/-! p1: runs, written by wip/p1.py -/
set_option maxRecDepth 20000 in
theorem P_x0 (xs : Nat → Int32) (L : Nat) {Q : P_R → P_H → Prop} (q : Q (.inl none) (P_hv8 xs L)) : P_wp P_Y0 197 118 (0, [.ref 5, .int 0], [], (P_hv4 xs L)) Q := by
  refine P_wp_step (S' := (1, [.ref 5, .int 0], [.ref 5], (P_hv4 xs L))) P_i118_0 (fun _ => rfl) ?_
  refine P_wp_step (S' := (4, [.ref 5, .int 0], [], (P_hv4 xs L))) P_i118_1 (fun _ => rfl) ?_
  refine P_wp_step (S' := (5, [.ref 5, .int 0], [.ref 5], (P_hv4 xs L))) P_i118_4 (fun _ => rfl) ?_
  refine P_wp_step (S' := (6, [.ref 5, .int 0], [.int 0, .ref 5], (P_hv4 xs L))) P_i118_5 (fun _ => rfl) ?_
  refine P_wp_step (S' := (9, [.ref 5, .int 0], [], (P_hv4 xs L))) P_i118_6 (fun _ => rfl) ?_
  refine P_wp_step (S' := (10, [.ref 5, .int 0], [.ref 5], (P_hv4 xs L))) P_i118_9 (fun _ => rfl) ?_
  refine P_wp_step (S' := (12, [.ref 5, .int 0], [.int 42, .ref 5], (P_hv4 xs L))) P_i118_10 (fun _ => rfl) ?_
  refine P_wp_step (S' := (14, [.ref 5, .int 0], [.ref 6, .ref 5], (P_hv5 xs L))) P_i118_12 (fun _ => rfl) ?_
  refine P_wp_step (S' := (17, [.ref 5, .int 0], [], (P_hv6 xs L))) P_i118_14 (fun _ => rfl) ?_
  refine P_wp_step (S' := (18, [.ref 5, .int 0], [.ref 5], (P_hv6 xs L))) P_i118_17 (fun _ => rfl) ?_
  refine P_wp_step (S' := (19, [.ref 5, .int 0], [.int 3, .ref 5], (P_hv6 xs L))) P_i118_18 (fun _ => rfl) ?_
  refine P_wp_step (S' := (21, [.ref 5, .int 0], [.ref 7, .ref 5], (P_hv7 xs L))) P_i118_19 (fun _ => rfl) ?_
  refine P_wp_step (S' := (24, [.ref 5, .int 0], [], (P_hv8 xs L))) P_i118_21 (fun _ => rfl) ?_
  refine P_wp_end (x := (.inl none, (P_hv8 xs L))) P_i118_24 (fun _ => rfl) ?_
  exact q

set_option maxRecDepth 20000 in
theorem P_x1 (xs : Nat → Int32) (L : Nat) {Q : P_R → P_H → Prop} (q : Q (.inl none) (P_hv9 xs L)) : P_wp P_Y0 198 113 (0, [.ref 3], [], (P_hv1 xs L)) Q := by
  refine P_wp_step (S' := (1, [.ref 3], [.ref 3], (P_hv1 xs L))) P_i113_0 (fun _ => rfl) ?_
  refine P_wp_step (S' := (4, [.ref 3], [], (P_hv1 xs L))) P_i113_1 (fun _ => rfl) ?_
  refine P_wp_step (S' := (5, [.ref 3], [.ref 3], (P_hv1 xs L))) P_i113_4 (fun _ => rfl) ?_
  refine P_wp_step (S' := (6, [.ref 3], [.int 5, .ref 3], (P_hv1 xs L))) P_i113_5 (fun _ => rfl) ?_
  refine P_wp_step (S' := (9, [.ref 3], [.ref 4, .ref 3], (P_hv2 xs L))) P_i113_6 (fun _ => rfl) ?_
  refine P_wp_step (S' := (12, [.ref 3], [], (P_hv3 xs L))) P_i113_9 (fun _ => rfl) ?_
  refine P_wp_step (S' := (13, [.ref 3], [.ref 3], (P_hv3 xs L))) P_i113_12 (fun _ => rfl) ?_
  refine P_wp_step (S' := (16, [.ref 3], [.ref 5, .ref 3], (P_hv4 xs L))) P_i113_13 (fun _ => rfl) ?_
  refine P_wp_step (S' := (17, [.ref 3], [.ref 5, .ref 5, .ref 3], (P_hv4 xs L))) P_i113_16 (fun _ => rfl) ?_
  refine P_wp_step (S' := (18, [.ref 3], [.int 0, .ref 5, .ref 5, .ref 3], (P_hv4 xs L))) P_i113_17 (fun _ => rfl) ?_
  refine P_wp_call P_i113_18 rfl rfl rfl rfl rfl rfl rfl (y2 := 118) (as := [.ref 5, .int 0]) (r0 := [.ref 5, .ref 3]) rfl (Nat.le_of_ble_eq_true rfl) (by decide) rfl (Nat.le_of_ble_eq_true rfl) (P_x0 xs L (?_))
  show P_wp P_Y0 198 113 (21, [.ref 3], [.ref 5, .ref 3], (P_hv8 xs L)) _
  refine P_wp_step (S' := (24, [.ref 3], [], (P_hv9 xs L))) P_i113_21 (fun _ => rfl) ?_
  refine P_wp_end (x := (.inl none, (P_hv9 xs L))) P_i113_24 (fun _ => rfl) ?_
  exact q

set_option maxRecDepth 20000 in
theorem P_x2 (xs : Nat → Int32) (L : Nat) {Q : P_R → P_H → Prop} (q : Q (.inl none) (P_hv22 xs L)) : P_wp P_Y0 197 118 (0, [.ref 12, .int 0], [], (P_hv18 xs L)) Q := by
  refine P_wp_step (S' := (1, [.ref 12, .int 0], [.ref 12], (P_hv18 xs L))) P_i118_0 (fun _ => rfl) ?_
  refine P_wp_step (S' := (4, [.ref 12, .int 0], [], (P_hv18 xs L))) P_i118_1 (fun _ => rfl) ?_
  refine P_wp_step (S' := (5, [.ref 12, .int 0], [.ref 12], (P_hv18 xs L))) P_i118_4 (fun _ => rfl) ?_
  refine P_wp_step (S' := (6, [.ref 12, .int 0], [.int 0, .ref 12], (P_hv18 xs L))) P_i118_5 (fun _ => rfl) ?_
  refine P_wp_step (S' := (9, [.ref 12, .int 0], [], (P_hv18 xs L))) P_i118_6 (fun _ => rfl) ?_
  refine P_wp_step (S' := (10, [.ref 12, .int 0], [.ref 12], (P_hv18 xs L))) P_i118_9 (fun _ => rfl) ?_
  refine P_wp_step (S' := (12, [.ref 12, .int 0], [.int 42, .ref 12], (P_hv18 xs L))) P_i118_10 (fun _ => rfl) ?_
  refine P_wp_step (S' := (14, [.ref 12, .int 0], [.ref 13, .ref 12], (P_hv19 xs L))) P_i118_12 (fun _ => rfl) ?_
  refine P_wp_step (S' := (17, [.ref 12, .int 0], [], (P_hv20 xs L))) P_i118_14 (fun _ => rfl) ?_
  refine P_wp_step (S' := (18, [.ref 12, .int 0], [.ref 12], (P_hv20 xs L))) P_i118_17 (fun _ => rfl) ?_
  refine P_wp_step (S' := (19, [.ref 12, .int 0], [.int 3, .ref 12], (P_hv20 xs L))) P_i118_18 (fun _ => rfl) ?_
  refine P_wp_step (S' := (21, [.ref 12, .int 0], [.ref 14, .ref 12], (P_hv21 xs L))) P_i118_19 (fun _ => rfl) ?_
  refine P_wp_step (S' := (24, [.ref 12, .int 0], [], (P_hv22 xs L))) P_i118_21 (fun _ => rfl) ?_
  refine P_wp_end (x := (.inl none, (P_hv22 xs L))) P_i118_24 (fun _ => rfl) ?_
  exact q

set_option maxRecDepth 20000 in
theorem P_x3 (xs : Nat → Int32) (L : Nat) {Q : P_R → P_H → Prop} (q : Q (.inl none) (P_hv23 xs L)) : P_wp P_Y0 198 22 (0, [.ref 8], [], (P_hv11 xs L)) Q := by
  refine P_wp_step (S' := (1, [.ref 8], [.ref 8], (P_hv11 xs L))) P_i22_0 (fun _ => rfl) ?_
  refine P_wp_step (S' := (4, [.ref 8], [], (P_hv11 xs L))) P_i22_1 (fun _ => rfl) ?_
  refine P_wp_step (S' := (5, [.ref 8], [.ref 8], (P_hv11 xs L))) P_i22_4 (fun _ => rfl) ?_
  refine P_wp_step (S' := (6, [.ref 8], [.int 4, .ref 8], (P_hv11 xs L))) P_i22_5 (fun _ => rfl) ?_
  refine P_wp_step (S' := (8, [.ref 8], [.ref 9, .ref 8], (P_hv12 xs L))) P_i22_6 (fun _ => rfl) ?_
  refine P_wp_step (S' := (11, [.ref 8], [], (P_hv13 xs L))) P_i22_8 (fun _ => rfl) ?_
  refine P_wp_step (S' := (12, [.ref 8], [.ref 8], (P_hv13 xs L))) P_i22_11 (fun _ => rfl) ?_
  refine P_wp_step (S' := (13, [.ref 8], [.int 4, .ref 8], (P_hv13 xs L))) P_i22_12 (fun _ => rfl) ?_
  refine P_wp_step (S' := (15, [.ref 8], [.ref 10, .ref 8], (P_hv14 xs L))) P_i22_13 (fun _ => rfl) ?_
  refine P_wp_step (S' := (18, [.ref 8], [], (P_hv15 xs L))) P_i22_15 (fun _ => rfl) ?_
  refine P_wp_step (S' := (19, [.ref 8], [.ref 8], (P_hv15 xs L))) P_i22_18 (fun _ => rfl) ?_
  refine P_wp_step (S' := (20, [.ref 8], [.int 3, .ref 8], (P_hv15 xs L))) P_i22_19 (fun _ => rfl) ?_
  refine P_wp_step (S' := (23, [.ref 8], [.ref 11, .ref 8], (P_hv16 xs L))) P_i22_20 (fun _ => rfl) ?_
  refine P_wp_step (S' := (26, [.ref 8], [], (P_hv17 xs L))) P_i22_23 (fun _ => rfl) ?_
  refine P_wp_step (S' := (27, [.ref 8], [.ref 8], (P_hv17 xs L))) P_i22_26 (fun _ => rfl) ?_
  refine P_wp_step (S' := (30, [.ref 8], [.ref 12, .ref 8], (P_hv18 xs L))) P_i22_27 (fun _ => rfl) ?_
  refine P_wp_step (S' := (31, [.ref 8], [.ref 12, .ref 12, .ref 8], (P_hv18 xs L))) P_i22_30 (fun _ => rfl) ?_
  refine P_wp_step (S' := (32, [.ref 8], [.int 0, .ref 12, .ref 12, .ref 8], (P_hv18 xs L))) P_i22_31 (fun _ => rfl) ?_
  refine P_wp_call P_i22_32 rfl rfl rfl rfl rfl rfl rfl (y2 := 118) (as := [.ref 12, .int 0]) (r0 := [.ref 12, .ref 8]) rfl (Nat.le_of_ble_eq_true rfl) (by decide) rfl (Nat.le_of_ble_eq_true rfl) (P_x2 xs L (?_))
  show P_wp P_Y0 198 22 (35, [.ref 8], [.ref 12, .ref 8], (P_hv22 xs L)) _
  refine P_wp_step (S' := (38, [.ref 8], [], (P_hv23 xs L))) P_i22_35 (fun _ => rfl) ?_
  refine P_wp_end (x := (.inl none, (P_hv23 xs L))) P_i22_38 (fun _ => rfl) ?_
  exact q

set_option maxRecDepth 20000 in
theorem P_x4 (xs : Nat → Int32) (L : Nat) {Q : P_R → P_H → Prop} (q : Q (.inl none) (P_hv29 xs L)) : P_wp P_Y0 197 14 (0, [.ref 17], [], (P_hv29 xs L)) Q := by
  refine P_wp_step (S' := (1, [.ref 17], [.ref 17], (P_hv29 xs L))) P_i14_0 (fun _ => rfl) ?_
  refine P_wp_step (S' := (4, [.ref 17], [], (P_hv29 xs L))) P_i14_1 (fun _ => rfl) ?_
  refine P_wp_end (x := (.inl none, (P_hv29 xs L))) P_i14_4 (fun _ => rfl) ?_
  exact q

set_option maxRecDepth 20000 in
theorem P_x5 (xs : Nat → Int32) (L : Nat) {Q : P_R → P_H → Prop} (q : Q (.inl none) (P_hv31 xs L)) : P_wp P_Y0 197 14 (0, [.ref 18], [], (P_hv31 xs L)) Q := by
  refine P_wp_step (S' := (1, [.ref 18], [.ref 18], (P_hv31 xs L))) P_i14_0 (fun _ => rfl) ?_
  refine P_wp_step (S' := (4, [.ref 18], [], (P_hv31 xs L))) P_i14_1 (fun _ => rfl) ?_
  refine P_wp_end (x := (.inl none, (P_hv31 xs L))) P_i14_4 (fun _ => rfl) ?_
  exact q

set_option maxRecDepth 20000 in
theorem P_x6 (xs : Nat → Int32) (L : Nat) {Q : P_R → P_H → Prop} (q : Q (.inl none) (P_hv33 xs L)) : P_wp P_Y0 197 14 (0, [.ref 19], [], (P_hv33 xs L)) Q := by
  refine P_wp_step (S' := (1, [.ref 19], [.ref 19], (P_hv33 xs L))) P_i14_0 (fun _ => rfl) ?_
  refine P_wp_step (S' := (4, [.ref 19], [], (P_hv33 xs L))) P_i14_1 (fun _ => rfl) ?_
  refine P_wp_end (x := (.inl none, (P_hv33 xs L))) P_i14_4 (fun _ => rfl) ?_
  exact q

set_option maxRecDepth 20000 in
theorem P_x7 (xs : Nat → Int32) (L : Nat) {Q : P_R → P_H → Prop} (q : Q (.inl none) (P_hv35 xs L)) : P_wp P_Y0 197 14 (0, [.ref 20], [], (P_hv35 xs L)) Q := by
  refine P_wp_step (S' := (1, [.ref 20], [.ref 20], (P_hv35 xs L))) P_i14_0 (fun _ => rfl) ?_
  refine P_wp_step (S' := (4, [.ref 20], [], (P_hv35 xs L))) P_i14_1 (fun _ => rfl) ?_
  refine P_wp_end (x := (.inl none, (P_hv35 xs L))) P_i14_4 (fun _ => rfl) ?_
  exact q

set_option maxRecDepth 20000 in
theorem P_x8 (xs : Nat → Int32) (L : Nat) {Q : P_R → P_H → Prop} (q : Q (.inl none) (P_hv37 xs L)) : P_wp P_Y0 197 14 (0, [.ref 21], [], (P_hv37 xs L)) Q := by
  refine P_wp_step (S' := (1, [.ref 21], [.ref 21], (P_hv37 xs L))) P_i14_0 (fun _ => rfl) ?_
  refine P_wp_step (S' := (4, [.ref 21], [], (P_hv37 xs L))) P_i14_1 (fun _ => rfl) ?_
  refine P_wp_end (x := (.inl none, (P_hv37 xs L))) P_i14_4 (fun _ => rfl) ?_
  exact q

set_option maxRecDepth 20000 in
theorem P_x9 (xs : Nat → Int32) (L : Nat) {Q : P_R → P_H → Prop} (q : Q (.inl none) (P_hv39 xs L)) : P_wp P_Y0 197 14 (0, [.ref 22], [], (P_hv39 xs L)) Q := by
  refine P_wp_step (S' := (1, [.ref 22], [.ref 22], (P_hv39 xs L))) P_i14_0 (fun _ => rfl) ?_
  refine P_wp_step (S' := (4, [.ref 22], [], (P_hv39 xs L))) P_i14_1 (fun _ => rfl) ?_
  refine P_wp_end (x := (.inl none, (P_hv39 xs L))) P_i14_4 (fun _ => rfl) ?_
  exact q

set_option maxRecDepth 20000 in
theorem P_x10 (xs : Nat → Int32) (L : Nat) {Q : P_R → P_H → Prop} (q : Q (.inl none) (P_hv41 xs L)) : P_wp P_Y0 197 14 (0, [.ref 23], [], (P_hv41 xs L)) Q := by
  refine P_wp_step (S' := (1, [.ref 23], [.ref 23], (P_hv41 xs L))) P_i14_0 (fun _ => rfl) ?_
  refine P_wp_step (S' := (4, [.ref 23], [], (P_hv41 xs L))) P_i14_1 (fun _ => rfl) ?_
  refine P_wp_end (x := (.inl none, (P_hv41 xs L))) P_i14_4 (fun _ => rfl) ?_
  exact q

set_option maxRecDepth 20000 in
theorem P_x11 (xs : Nat → Int32) (L : Nat) {Q : P_R → P_H → Prop} (q : Q (.inl none) (P_hv43 xs L)) : P_wp P_Y0 197 14 (0, [.ref 24], [], (P_hv43 xs L)) Q := by
  refine P_wp_step (S' := (1, [.ref 24], [.ref 24], (P_hv43 xs L))) P_i14_0 (fun _ => rfl) ?_
  refine P_wp_step (S' := (4, [.ref 24], [], (P_hv43 xs L))) P_i14_1 (fun _ => rfl) ?_
  refine P_wp_end (x := (.inl none, (P_hv43 xs L))) P_i14_4 (fun _ => rfl) ?_
  exact q

set_option maxRecDepth 20000 in
theorem P_x12 (xs : Nat → Int32) (L : Nat) {Q : P_R → P_H → Prop} (q : Q (.inl none) (P_hv45 xs L)) : P_wp P_Y0 197 14 (0, [.ref 25], [], (P_hv45 xs L)) Q := by
  refine P_wp_step (S' := (1, [.ref 25], [.ref 25], (P_hv45 xs L))) P_i14_0 (fun _ => rfl) ?_
  refine P_wp_step (S' := (4, [.ref 25], [], (P_hv45 xs L))) P_i14_1 (fun _ => rfl) ?_
  refine P_wp_end (x := (.inl none, (P_hv45 xs L))) P_i14_4 (fun _ => rfl) ?_
  exact q

set_option maxRecDepth 20000 in
theorem P_x13 (xs : Nat → Int32) (L : Nat) {Q : P_R → P_H → Prop} (q : Q (.inl none) (P_hv47 xs L)) : P_wp P_Y0 197 14 (0, [.ref 26], [], (P_hv47 xs L)) Q := by
  refine P_wp_step (S' := (1, [.ref 26], [.ref 26], (P_hv47 xs L))) P_i14_0 (fun _ => rfl) ?_
  refine P_wp_step (S' := (4, [.ref 26], [], (P_hv47 xs L))) P_i14_1 (fun _ => rfl) ?_
  refine P_wp_end (x := (.inl none, (P_hv47 xs L))) P_i14_4 (fun _ => rfl) ?_
  exact q

set_option maxRecDepth 20000 in
theorem P_x14 (xs : Nat → Int32) (L : Nat) {Q : P_R → P_H → Prop} (q : Q (.inl none) (P_hv49 xs L)) : P_wp P_Y0 197 14 (0, [.ref 27], [], (P_hv49 xs L)) Q := by
  refine P_wp_step (S' := (1, [.ref 27], [.ref 27], (P_hv49 xs L))) P_i14_0 (fun _ => rfl) ?_
  refine P_wp_step (S' := (4, [.ref 27], [], (P_hv49 xs L))) P_i14_1 (fun _ => rfl) ?_
  refine P_wp_end (x := (.inl none, (P_hv49 xs L))) P_i14_4 (fun _ => rfl) ?_
  exact q

set_option maxRecDepth 20000 in
theorem P_x15 (xs : Nat → Int32) (L : Nat) {Q : P_R → P_H → Prop} (q : Q (.inl none) (P_hv51 xs L)) : P_wp P_Y0 197 14 (0, [.ref 28], [], (P_hv51 xs L)) Q := by
  refine P_wp_step (S' := (1, [.ref 28], [.ref 28], (P_hv51 xs L))) P_i14_0 (fun _ => rfl) ?_
  refine P_wp_step (S' := (4, [.ref 28], [], (P_hv51 xs L))) P_i14_1 (fun _ => rfl) ?_
  refine P_wp_end (x := (.inl none, (P_hv51 xs L))) P_i14_4 (fun _ => rfl) ?_
  exact q

set_option maxRecDepth 20000 in
theorem P_x16 (xs : Nat → Int32) (L : Nat) {Q : P_R → P_H → Prop} (q : Q (.inl none) (P_hv53 xs L)) : P_wp P_Y0 197 14 (0, [.ref 29], [], (P_hv53 xs L)) Q := by
  refine P_wp_step (S' := (1, [.ref 29], [.ref 29], (P_hv53 xs L))) P_i14_0 (fun _ => rfl) ?_
  refine P_wp_step (S' := (4, [.ref 29], [], (P_hv53 xs L))) P_i14_1 (fun _ => rfl) ?_
  refine P_wp_end (x := (.inl none, (P_hv53 xs L))) P_i14_4 (fun _ => rfl) ?_
  exact q

set_option maxRecDepth 20000 in
theorem P_x17 (xs : Nat → Int32) (L : Nat) {Q : P_R → P_H → Prop} (q : Q (.inl none) (P_hv56 xs L)) : P_wp P_Y0 198 53 (0, [.ref 15, .ref 8, P_un], [], (P_hv25 xs L)) Q := by
  refine P_wp_step (S' := (1, [.ref 15, .ref 8, P_un], [.ref 15], (P_hv25 xs L))) P_i53_0 (fun _ => rfl) ?_
  refine P_wp_step (S' := (4, [.ref 15, .ref 8, P_un], [], (P_hv25 xs L))) P_i53_1 (fun _ => rfl) ?_
  refine P_wp_step (S' := (5, [.ref 15, .ref 8, P_un], [.ref 15], (P_hv25 xs L))) P_i53_4 (fun _ => rfl) ?_
  refine P_wp_step (S' := (6, [.ref 15, .ref 8, P_un], [.ref 8, .ref 15], (P_hv25 xs L))) P_i53_5 (fun _ => rfl) ?_
  refine P_wp_step (S' := (9, [.ref 15, .ref 8, P_un], [], (P_hv26 xs L))) P_i53_6 (fun _ => rfl) ?_
  refine P_wp_step (S' := (10, [.ref 15, .ref 8, P_un], [.ref 15], (P_hv26 xs L))) P_i53_9 (fun _ => rfl) ?_
  refine P_wp_step (S' := (12, [.ref 15, .ref 8, P_un], [.int 12, .ref 15], (P_hv26 xs L))) P_i53_10 (fun _ => rfl) ?_
  refine P_wp_step (S' := (15, [.ref 15, .ref 8, P_un], [.ref 16, .ref 15], (P_hv27 xs L))) P_i53_12 (fun _ => rfl) ?_
  refine P_wp_step (S' := (18, [.ref 15, .ref 8, P_un], [], (P_hv28 xs L))) P_i53_15 (fun _ => rfl) ?_
  refine P_wp_step (S' := (19, [.ref 15, .ref 8, P_un], [.int 0], (P_hv28 xs L))) P_i53_18 (fun _ => rfl) ?_
  refine P_wp_step (S' := (20, [.ref 15, P_un, .int 0], [], (P_hv28 xs L))) P_i53_19 (fun _ => rfl) ?_
  refine P_wp_step (S' := (21, [.ref 15, P_un, .int 0], [.int 0], (P_hv28 xs L))) P_i53_20 (fun _ => rfl) ?_
  refine P_wp_step (S' := (22, [.ref 15, P_un, .int 0], [.ref 15, .int 0], (P_hv28 xs L))) P_i53_21 (fun _ => rfl) ?_
  refine P_wp_step (S' := (25, [.ref 15, P_un, .int 0], [.ref 16, .int 0], (P_hv28 xs L))) P_i53_22 (fun _ => rfl) ?_
  refine P_wp_step (S' := (26, [.ref 15, P_un, .int 0], [.int 12, .int 0], (P_hv28 xs L))) P_i53_25 (fun _ => rfl) ?_
  refine P_wp_icf P_i53_26 P_b0 (show P_wp P_Y0 198 53 (29, [.ref 15, P_un, .int 0], [], (P_hv28 xs L)) _ from ?_)
  refine P_wp_step (S' := (30, [.ref 15, P_un, .int 0], [.ref 15], (P_hv28 xs L))) P_i53_29 (fun _ => rfl) ?_
  refine P_wp_step (S' := (33, [.ref 15, P_un, .int 0], [.ref 16], (P_hv28 xs L))) P_i53_30 (fun _ => rfl) ?_
  refine P_wp_step (S' := (34, [.ref 15, P_un, .int 0], [.int 0, .ref 16], (P_hv28 xs L))) P_i53_33 (fun _ => rfl) ?_
  refine P_wp_step (S' := (37, [.ref 15, P_un, .int 0], [.ref 17, .int 0, .ref 16], (P_hv29 xs L))) P_i53_34 (fun _ => rfl) ?_
  refine P_wp_step (S' := (38, [.ref 15, P_un, .int 0], [.ref 17, .ref 17, .int 0, .ref 16], (P_hv29 xs L))) P_i53_37 (fun _ => rfl) ?_
  refine P_wp_call P_i53_38 rfl rfl rfl rfl rfl rfl rfl (y2 := 14) (as := [.ref 17]) (r0 := [.ref 17, .int 0, .ref 16]) rfl (Nat.le_of_ble_eq_true rfl) (by decide) rfl (Nat.le_of_ble_eq_true rfl) (P_x4 xs L (?_))
  show P_wp P_Y0 198 53 (41, [.ref 15, P_un, .int 0], [.ref 17, .int 0, .ref 16], (P_hv29 xs L)) _
  refine P_wp_step (S' := (42, [.ref 15, P_un, .int 0], [], (P_hv30 xs L))) P_i53_41 (fun _ => rfl) ?_
  refine P_wp_step (S' := (45, [.ref 15, P_un, .int 1], [], (P_hv30 xs L))) P_i53_42 (fun _ => rfl) ?_
  refine P_wp_step (S' := (20, [.ref 15, P_un, .int 1], [], (P_hv30 xs L))) P_i53_45 (fun _ => rfl) ?_
  refine P_wp_step (S' := (21, [.ref 15, P_un, .int 1], [.int 1], (P_hv30 xs L))) P_i53_20 (fun _ => rfl) ?_
  refine P_wp_step (S' := (22, [.ref 15, P_un, .int 1], [.ref 15, .int 1], (P_hv30 xs L))) P_i53_21 (fun _ => rfl) ?_
  refine P_wp_step (S' := (25, [.ref 15, P_un, .int 1], [.ref 16, .int 1], (P_hv30 xs L))) P_i53_22 (fun _ => rfl) ?_
  refine P_wp_step (S' := (26, [.ref 15, P_un, .int 1], [.int 12, .int 1], (P_hv30 xs L))) P_i53_25 (fun _ => rfl) ?_
  refine P_wp_icf P_i53_26 P_b1 (show P_wp P_Y0 198 53 (29, [.ref 15, P_un, .int 1], [], (P_hv30 xs L)) _ from ?_)
  refine P_wp_step (S' := (30, [.ref 15, P_un, .int 1], [.ref 15], (P_hv30 xs L))) P_i53_29 (fun _ => rfl) ?_
  refine P_wp_step (S' := (33, [.ref 15, P_un, .int 1], [.ref 16], (P_hv30 xs L))) P_i53_30 (fun _ => rfl) ?_
  refine P_wp_step (S' := (34, [.ref 15, P_un, .int 1], [.int 1, .ref 16], (P_hv30 xs L))) P_i53_33 (fun _ => rfl) ?_
  refine P_wp_step (S' := (37, [.ref 15, P_un, .int 1], [.ref 18, .int 1, .ref 16], (P_hv31 xs L))) P_i53_34 (fun _ => rfl) ?_
  refine P_wp_step (S' := (38, [.ref 15, P_un, .int 1], [.ref 18, .ref 18, .int 1, .ref 16], (P_hv31 xs L))) P_i53_37 (fun _ => rfl) ?_
  refine P_wp_call P_i53_38 rfl rfl rfl rfl rfl rfl rfl (y2 := 14) (as := [.ref 18]) (r0 := [.ref 18, .int 1, .ref 16]) rfl (Nat.le_of_ble_eq_true rfl) (by decide) rfl (Nat.le_of_ble_eq_true rfl) (P_x5 xs L (?_))
  show P_wp P_Y0 198 53 (41, [.ref 15, P_un, .int 1], [.ref 18, .int 1, .ref 16], (P_hv31 xs L)) _
  refine P_wp_step (S' := (42, [.ref 15, P_un, .int 1], [], (P_hv32 xs L))) P_i53_41 (fun _ => rfl) ?_
  refine P_wp_step (S' := (45, [.ref 15, P_un, .int 2], [], (P_hv32 xs L))) P_i53_42 (fun _ => rfl) ?_
  refine P_wp_step (S' := (20, [.ref 15, P_un, .int 2], [], (P_hv32 xs L))) P_i53_45 (fun _ => rfl) ?_
  refine P_wp_step (S' := (21, [.ref 15, P_un, .int 2], [.int 2], (P_hv32 xs L))) P_i53_20 (fun _ => rfl) ?_
  refine P_wp_step (S' := (22, [.ref 15, P_un, .int 2], [.ref 15, .int 2], (P_hv32 xs L))) P_i53_21 (fun _ => rfl) ?_
  refine P_wp_step (S' := (25, [.ref 15, P_un, .int 2], [.ref 16, .int 2], (P_hv32 xs L))) P_i53_22 (fun _ => rfl) ?_
  refine P_wp_step (S' := (26, [.ref 15, P_un, .int 2], [.int 12, .int 2], (P_hv32 xs L))) P_i53_25 (fun _ => rfl) ?_
  refine P_wp_icf P_i53_26 P_b2 (show P_wp P_Y0 198 53 (29, [.ref 15, P_un, .int 2], [], (P_hv32 xs L)) _ from ?_)
  refine P_wp_step (S' := (30, [.ref 15, P_un, .int 2], [.ref 15], (P_hv32 xs L))) P_i53_29 (fun _ => rfl) ?_
  refine P_wp_step (S' := (33, [.ref 15, P_un, .int 2], [.ref 16], (P_hv32 xs L))) P_i53_30 (fun _ => rfl) ?_
  refine P_wp_step (S' := (34, [.ref 15, P_un, .int 2], [.int 2, .ref 16], (P_hv32 xs L))) P_i53_33 (fun _ => rfl) ?_
  refine P_wp_step (S' := (37, [.ref 15, P_un, .int 2], [.ref 19, .int 2, .ref 16], (P_hv33 xs L))) P_i53_34 (fun _ => rfl) ?_
  refine P_wp_step (S' := (38, [.ref 15, P_un, .int 2], [.ref 19, .ref 19, .int 2, .ref 16], (P_hv33 xs L))) P_i53_37 (fun _ => rfl) ?_
  refine P_wp_call P_i53_38 rfl rfl rfl rfl rfl rfl rfl (y2 := 14) (as := [.ref 19]) (r0 := [.ref 19, .int 2, .ref 16]) rfl (Nat.le_of_ble_eq_true rfl) (by decide) rfl (Nat.le_of_ble_eq_true rfl) (P_x6 xs L (?_))
  show P_wp P_Y0 198 53 (41, [.ref 15, P_un, .int 2], [.ref 19, .int 2, .ref 16], (P_hv33 xs L)) _
  refine P_wp_step (S' := (42, [.ref 15, P_un, .int 2], [], (P_hv34 xs L))) P_i53_41 (fun _ => rfl) ?_
  refine P_wp_step (S' := (45, [.ref 15, P_un, .int 3], [], (P_hv34 xs L))) P_i53_42 (fun _ => rfl) ?_
  refine P_wp_step (S' := (20, [.ref 15, P_un, .int 3], [], (P_hv34 xs L))) P_i53_45 (fun _ => rfl) ?_
  refine P_wp_step (S' := (21, [.ref 15, P_un, .int 3], [.int 3], (P_hv34 xs L))) P_i53_20 (fun _ => rfl) ?_
  refine P_wp_step (S' := (22, [.ref 15, P_un, .int 3], [.ref 15, .int 3], (P_hv34 xs L))) P_i53_21 (fun _ => rfl) ?_
  refine P_wp_step (S' := (25, [.ref 15, P_un, .int 3], [.ref 16, .int 3], (P_hv34 xs L))) P_i53_22 (fun _ => rfl) ?_
  refine P_wp_step (S' := (26, [.ref 15, P_un, .int 3], [.int 12, .int 3], (P_hv34 xs L))) P_i53_25 (fun _ => rfl) ?_
  refine P_wp_icf P_i53_26 P_b3 (show P_wp P_Y0 198 53 (29, [.ref 15, P_un, .int 3], [], (P_hv34 xs L)) _ from ?_)
  refine P_wp_step (S' := (30, [.ref 15, P_un, .int 3], [.ref 15], (P_hv34 xs L))) P_i53_29 (fun _ => rfl) ?_
  refine P_wp_step (S' := (33, [.ref 15, P_un, .int 3], [.ref 16], (P_hv34 xs L))) P_i53_30 (fun _ => rfl) ?_
  refine P_wp_step (S' := (34, [.ref 15, P_un, .int 3], [.int 3, .ref 16], (P_hv34 xs L))) P_i53_33 (fun _ => rfl) ?_
  refine P_wp_step (S' := (37, [.ref 15, P_un, .int 3], [.ref 20, .int 3, .ref 16], (P_hv35 xs L))) P_i53_34 (fun _ => rfl) ?_
  refine P_wp_step (S' := (38, [.ref 15, P_un, .int 3], [.ref 20, .ref 20, .int 3, .ref 16], (P_hv35 xs L))) P_i53_37 (fun _ => rfl) ?_
  refine P_wp_call P_i53_38 rfl rfl rfl rfl rfl rfl rfl (y2 := 14) (as := [.ref 20]) (r0 := [.ref 20, .int 3, .ref 16]) rfl (Nat.le_of_ble_eq_true rfl) (by decide) rfl (Nat.le_of_ble_eq_true rfl) (P_x7 xs L (?_))
  show P_wp P_Y0 198 53 (41, [.ref 15, P_un, .int 3], [.ref 20, .int 3, .ref 16], (P_hv35 xs L)) _
  refine P_wp_step (S' := (42, [.ref 15, P_un, .int 3], [], (P_hv36 xs L))) P_i53_41 (fun _ => rfl) ?_
  refine P_wp_step (S' := (45, [.ref 15, P_un, .int 4], [], (P_hv36 xs L))) P_i53_42 (fun _ => rfl) ?_
  refine P_wp_step (S' := (20, [.ref 15, P_un, .int 4], [], (P_hv36 xs L))) P_i53_45 (fun _ => rfl) ?_
  refine P_wp_step (S' := (21, [.ref 15, P_un, .int 4], [.int 4], (P_hv36 xs L))) P_i53_20 (fun _ => rfl) ?_
  refine P_wp_step (S' := (22, [.ref 15, P_un, .int 4], [.ref 15, .int 4], (P_hv36 xs L))) P_i53_21 (fun _ => rfl) ?_
  refine P_wp_step (S' := (25, [.ref 15, P_un, .int 4], [.ref 16, .int 4], (P_hv36 xs L))) P_i53_22 (fun _ => rfl) ?_
  refine P_wp_step (S' := (26, [.ref 15, P_un, .int 4], [.int 12, .int 4], (P_hv36 xs L))) P_i53_25 (fun _ => rfl) ?_
  refine P_wp_icf P_i53_26 P_b4 (show P_wp P_Y0 198 53 (29, [.ref 15, P_un, .int 4], [], (P_hv36 xs L)) _ from ?_)
  refine P_wp_step (S' := (30, [.ref 15, P_un, .int 4], [.ref 15], (P_hv36 xs L))) P_i53_29 (fun _ => rfl) ?_
  refine P_wp_step (S' := (33, [.ref 15, P_un, .int 4], [.ref 16], (P_hv36 xs L))) P_i53_30 (fun _ => rfl) ?_
  refine P_wp_step (S' := (34, [.ref 15, P_un, .int 4], [.int 4, .ref 16], (P_hv36 xs L))) P_i53_33 (fun _ => rfl) ?_
  refine P_wp_step (S' := (37, [.ref 15, P_un, .int 4], [.ref 21, .int 4, .ref 16], (P_hv37 xs L))) P_i53_34 (fun _ => rfl) ?_
  refine P_wp_step (S' := (38, [.ref 15, P_un, .int 4], [.ref 21, .ref 21, .int 4, .ref 16], (P_hv37 xs L))) P_i53_37 (fun _ => rfl) ?_
  refine P_wp_call P_i53_38 rfl rfl rfl rfl rfl rfl rfl (y2 := 14) (as := [.ref 21]) (r0 := [.ref 21, .int 4, .ref 16]) rfl (Nat.le_of_ble_eq_true rfl) (by decide) rfl (Nat.le_of_ble_eq_true rfl) (P_x8 xs L (?_))
  show P_wp P_Y0 198 53 (41, [.ref 15, P_un, .int 4], [.ref 21, .int 4, .ref 16], (P_hv37 xs L)) _
  refine P_wp_step (S' := (42, [.ref 15, P_un, .int 4], [], (P_hv38 xs L))) P_i53_41 (fun _ => rfl) ?_
  refine P_wp_step (S' := (45, [.ref 15, P_un, .int 5], [], (P_hv38 xs L))) P_i53_42 (fun _ => rfl) ?_
  refine P_wp_step (S' := (20, [.ref 15, P_un, .int 5], [], (P_hv38 xs L))) P_i53_45 (fun _ => rfl) ?_
  refine P_wp_step (S' := (21, [.ref 15, P_un, .int 5], [.int 5], (P_hv38 xs L))) P_i53_20 (fun _ => rfl) ?_
  refine P_wp_step (S' := (22, [.ref 15, P_un, .int 5], [.ref 15, .int 5], (P_hv38 xs L))) P_i53_21 (fun _ => rfl) ?_
  refine P_wp_step (S' := (25, [.ref 15, P_un, .int 5], [.ref 16, .int 5], (P_hv38 xs L))) P_i53_22 (fun _ => rfl) ?_
  refine P_wp_step (S' := (26, [.ref 15, P_un, .int 5], [.int 12, .int 5], (P_hv38 xs L))) P_i53_25 (fun _ => rfl) ?_
  refine P_wp_icf P_i53_26 P_b5 (show P_wp P_Y0 198 53 (29, [.ref 15, P_un, .int 5], [], (P_hv38 xs L)) _ from ?_)
  refine P_wp_step (S' := (30, [.ref 15, P_un, .int 5], [.ref 15], (P_hv38 xs L))) P_i53_29 (fun _ => rfl) ?_
  refine P_wp_step (S' := (33, [.ref 15, P_un, .int 5], [.ref 16], (P_hv38 xs L))) P_i53_30 (fun _ => rfl) ?_
  refine P_wp_step (S' := (34, [.ref 15, P_un, .int 5], [.int 5, .ref 16], (P_hv38 xs L))) P_i53_33 (fun _ => rfl) ?_
  refine P_wp_step (S' := (37, [.ref 15, P_un, .int 5], [.ref 22, .int 5, .ref 16], (P_hv39 xs L))) P_i53_34 (fun _ => rfl) ?_
  refine P_wp_step (S' := (38, [.ref 15, P_un, .int 5], [.ref 22, .ref 22, .int 5, .ref 16], (P_hv39 xs L))) P_i53_37 (fun _ => rfl) ?_
  refine P_wp_call P_i53_38 rfl rfl rfl rfl rfl rfl rfl (y2 := 14) (as := [.ref 22]) (r0 := [.ref 22, .int 5, .ref 16]) rfl (Nat.le_of_ble_eq_true rfl) (by decide) rfl (Nat.le_of_ble_eq_true rfl) (P_x9 xs L (?_))
  show P_wp P_Y0 198 53 (41, [.ref 15, P_un, .int 5], [.ref 22, .int 5, .ref 16], (P_hv39 xs L)) _
  refine P_wp_step (S' := (42, [.ref 15, P_un, .int 5], [], (P_hv40 xs L))) P_i53_41 (fun _ => rfl) ?_
  refine P_wp_step (S' := (45, [.ref 15, P_un, .int 6], [], (P_hv40 xs L))) P_i53_42 (fun _ => rfl) ?_
  refine P_wp_step (S' := (20, [.ref 15, P_un, .int 6], [], (P_hv40 xs L))) P_i53_45 (fun _ => rfl) ?_
  refine P_wp_step (S' := (21, [.ref 15, P_un, .int 6], [.int 6], (P_hv40 xs L))) P_i53_20 (fun _ => rfl) ?_
  refine P_wp_step (S' := (22, [.ref 15, P_un, .int 6], [.ref 15, .int 6], (P_hv40 xs L))) P_i53_21 (fun _ => rfl) ?_
  refine P_wp_step (S' := (25, [.ref 15, P_un, .int 6], [.ref 16, .int 6], (P_hv40 xs L))) P_i53_22 (fun _ => rfl) ?_
  refine P_wp_step (S' := (26, [.ref 15, P_un, .int 6], [.int 12, .int 6], (P_hv40 xs L))) P_i53_25 (fun _ => rfl) ?_
  refine P_wp_icf P_i53_26 P_b6 (show P_wp P_Y0 198 53 (29, [.ref 15, P_un, .int 6], [], (P_hv40 xs L)) _ from ?_)
  refine P_wp_step (S' := (30, [.ref 15, P_un, .int 6], [.ref 15], (P_hv40 xs L))) P_i53_29 (fun _ => rfl) ?_
  refine P_wp_step (S' := (33, [.ref 15, P_un, .int 6], [.ref 16], (P_hv40 xs L))) P_i53_30 (fun _ => rfl) ?_
  refine P_wp_step (S' := (34, [.ref 15, P_un, .int 6], [.int 6, .ref 16], (P_hv40 xs L))) P_i53_33 (fun _ => rfl) ?_
  refine P_wp_step (S' := (37, [.ref 15, P_un, .int 6], [.ref 23, .int 6, .ref 16], (P_hv41 xs L))) P_i53_34 (fun _ => rfl) ?_
  refine P_wp_step (S' := (38, [.ref 15, P_un, .int 6], [.ref 23, .ref 23, .int 6, .ref 16], (P_hv41 xs L))) P_i53_37 (fun _ => rfl) ?_
  refine P_wp_call P_i53_38 rfl rfl rfl rfl rfl rfl rfl (y2 := 14) (as := [.ref 23]) (r0 := [.ref 23, .int 6, .ref 16]) rfl (Nat.le_of_ble_eq_true rfl) (by decide) rfl (Nat.le_of_ble_eq_true rfl) (P_x10 xs L (?_))
  show P_wp P_Y0 198 53 (41, [.ref 15, P_un, .int 6], [.ref 23, .int 6, .ref 16], (P_hv41 xs L)) _
  refine P_wp_step (S' := (42, [.ref 15, P_un, .int 6], [], (P_hv42 xs L))) P_i53_41 (fun _ => rfl) ?_
  refine P_wp_step (S' := (45, [.ref 15, P_un, .int 7], [], (P_hv42 xs L))) P_i53_42 (fun _ => rfl) ?_
  refine P_wp_step (S' := (20, [.ref 15, P_un, .int 7], [], (P_hv42 xs L))) P_i53_45 (fun _ => rfl) ?_
  refine P_wp_step (S' := (21, [.ref 15, P_un, .int 7], [.int 7], (P_hv42 xs L))) P_i53_20 (fun _ => rfl) ?_
  refine P_wp_step (S' := (22, [.ref 15, P_un, .int 7], [.ref 15, .int 7], (P_hv42 xs L))) P_i53_21 (fun _ => rfl) ?_
  refine P_wp_step (S' := (25, [.ref 15, P_un, .int 7], [.ref 16, .int 7], (P_hv42 xs L))) P_i53_22 (fun _ => rfl) ?_
  refine P_wp_step (S' := (26, [.ref 15, P_un, .int 7], [.int 12, .int 7], (P_hv42 xs L))) P_i53_25 (fun _ => rfl) ?_
  refine P_wp_icf P_i53_26 P_b7 (show P_wp P_Y0 198 53 (29, [.ref 15, P_un, .int 7], [], (P_hv42 xs L)) _ from ?_)
  refine P_wp_step (S' := (30, [.ref 15, P_un, .int 7], [.ref 15], (P_hv42 xs L))) P_i53_29 (fun _ => rfl) ?_
  refine P_wp_step (S' := (33, [.ref 15, P_un, .int 7], [.ref 16], (P_hv42 xs L))) P_i53_30 (fun _ => rfl) ?_
  refine P_wp_step (S' := (34, [.ref 15, P_un, .int 7], [.int 7, .ref 16], (P_hv42 xs L))) P_i53_33 (fun _ => rfl) ?_
  refine P_wp_step (S' := (37, [.ref 15, P_un, .int 7], [.ref 24, .int 7, .ref 16], (P_hv43 xs L))) P_i53_34 (fun _ => rfl) ?_
  refine P_wp_step (S' := (38, [.ref 15, P_un, .int 7], [.ref 24, .ref 24, .int 7, .ref 16], (P_hv43 xs L))) P_i53_37 (fun _ => rfl) ?_
  refine P_wp_call P_i53_38 rfl rfl rfl rfl rfl rfl rfl (y2 := 14) (as := [.ref 24]) (r0 := [.ref 24, .int 7, .ref 16]) rfl (Nat.le_of_ble_eq_true rfl) (by decide) rfl (Nat.le_of_ble_eq_true rfl) (P_x11 xs L (?_))
  show P_wp P_Y0 198 53 (41, [.ref 15, P_un, .int 7], [.ref 24, .int 7, .ref 16], (P_hv43 xs L)) _
  refine P_wp_step (S' := (42, [.ref 15, P_un, .int 7], [], (P_hv44 xs L))) P_i53_41 (fun _ => rfl) ?_
  refine P_wp_step (S' := (45, [.ref 15, P_un, .int 8], [], (P_hv44 xs L))) P_i53_42 (fun _ => rfl) ?_
  refine P_wp_step (S' := (20, [.ref 15, P_un, .int 8], [], (P_hv44 xs L))) P_i53_45 (fun _ => rfl) ?_
  refine P_wp_step (S' := (21, [.ref 15, P_un, .int 8], [.int 8], (P_hv44 xs L))) P_i53_20 (fun _ => rfl) ?_
  refine P_wp_step (S' := (22, [.ref 15, P_un, .int 8], [.ref 15, .int 8], (P_hv44 xs L))) P_i53_21 (fun _ => rfl) ?_
  refine P_wp_step (S' := (25, [.ref 15, P_un, .int 8], [.ref 16, .int 8], (P_hv44 xs L))) P_i53_22 (fun _ => rfl) ?_
  refine P_wp_step (S' := (26, [.ref 15, P_un, .int 8], [.int 12, .int 8], (P_hv44 xs L))) P_i53_25 (fun _ => rfl) ?_
  refine P_wp_icf P_i53_26 P_b8 (show P_wp P_Y0 198 53 (29, [.ref 15, P_un, .int 8], [], (P_hv44 xs L)) _ from ?_)
  refine P_wp_step (S' := (30, [.ref 15, P_un, .int 8], [.ref 15], (P_hv44 xs L))) P_i53_29 (fun _ => rfl) ?_
  refine P_wp_step (S' := (33, [.ref 15, P_un, .int 8], [.ref 16], (P_hv44 xs L))) P_i53_30 (fun _ => rfl) ?_
  refine P_wp_step (S' := (34, [.ref 15, P_un, .int 8], [.int 8, .ref 16], (P_hv44 xs L))) P_i53_33 (fun _ => rfl) ?_
  refine P_wp_step (S' := (37, [.ref 15, P_un, .int 8], [.ref 25, .int 8, .ref 16], (P_hv45 xs L))) P_i53_34 (fun _ => rfl) ?_
  refine P_wp_step (S' := (38, [.ref 15, P_un, .int 8], [.ref 25, .ref 25, .int 8, .ref 16], (P_hv45 xs L))) P_i53_37 (fun _ => rfl) ?_
  refine P_wp_call P_i53_38 rfl rfl rfl rfl rfl rfl rfl (y2 := 14) (as := [.ref 25]) (r0 := [.ref 25, .int 8, .ref 16]) rfl (Nat.le_of_ble_eq_true rfl) (by decide) rfl (Nat.le_of_ble_eq_true rfl) (P_x12 xs L (?_))
  show P_wp P_Y0 198 53 (41, [.ref 15, P_un, .int 8], [.ref 25, .int 8, .ref 16], (P_hv45 xs L)) _
  refine P_wp_step (S' := (42, [.ref 15, P_un, .int 8], [], (P_hv46 xs L))) P_i53_41 (fun _ => rfl) ?_
  refine P_wp_step (S' := (45, [.ref 15, P_un, .int 9], [], (P_hv46 xs L))) P_i53_42 (fun _ => rfl) ?_
  refine P_wp_step (S' := (20, [.ref 15, P_un, .int 9], [], (P_hv46 xs L))) P_i53_45 (fun _ => rfl) ?_
  refine P_wp_step (S' := (21, [.ref 15, P_un, .int 9], [.int 9], (P_hv46 xs L))) P_i53_20 (fun _ => rfl) ?_
  refine P_wp_step (S' := (22, [.ref 15, P_un, .int 9], [.ref 15, .int 9], (P_hv46 xs L))) P_i53_21 (fun _ => rfl) ?_
  refine P_wp_step (S' := (25, [.ref 15, P_un, .int 9], [.ref 16, .int 9], (P_hv46 xs L))) P_i53_22 (fun _ => rfl) ?_
  refine P_wp_step (S' := (26, [.ref 15, P_un, .int 9], [.int 12, .int 9], (P_hv46 xs L))) P_i53_25 (fun _ => rfl) ?_
  refine P_wp_icf P_i53_26 P_b9 (show P_wp P_Y0 198 53 (29, [.ref 15, P_un, .int 9], [], (P_hv46 xs L)) _ from ?_)
  refine P_wp_step (S' := (30, [.ref 15, P_un, .int 9], [.ref 15], (P_hv46 xs L))) P_i53_29 (fun _ => rfl) ?_
  refine P_wp_step (S' := (33, [.ref 15, P_un, .int 9], [.ref 16], (P_hv46 xs L))) P_i53_30 (fun _ => rfl) ?_
  refine P_wp_step (S' := (34, [.ref 15, P_un, .int 9], [.int 9, .ref 16], (P_hv46 xs L))) P_i53_33 (fun _ => rfl) ?_
  refine P_wp_step (S' := (37, [.ref 15, P_un, .int 9], [.ref 26, .int 9, .ref 16], (P_hv47 xs L))) P_i53_34 (fun _ => rfl) ?_
  refine P_wp_step (S' := (38, [.ref 15, P_un, .int 9], [.ref 26, .ref 26, .int 9, .ref 16], (P_hv47 xs L))) P_i53_37 (fun _ => rfl) ?_
  refine P_wp_call P_i53_38 rfl rfl rfl rfl rfl rfl rfl (y2 := 14) (as := [.ref 26]) (r0 := [.ref 26, .int 9, .ref 16]) rfl (Nat.le_of_ble_eq_true rfl) (by decide) rfl (Nat.le_of_ble_eq_true rfl) (P_x13 xs L (?_))
  show P_wp P_Y0 198 53 (41, [.ref 15, P_un, .int 9], [.ref 26, .int 9, .ref 16], (P_hv47 xs L)) _
  refine P_wp_step (S' := (42, [.ref 15, P_un, .int 9], [], (P_hv48 xs L))) P_i53_41 (fun _ => rfl) ?_
  refine P_wp_step (S' := (45, [.ref 15, P_un, .int 10], [], (P_hv48 xs L))) P_i53_42 (fun _ => rfl) ?_
  refine P_wp_step (S' := (20, [.ref 15, P_un, .int 10], [], (P_hv48 xs L))) P_i53_45 (fun _ => rfl) ?_
  refine P_wp_step (S' := (21, [.ref 15, P_un, .int 10], [.int 10], (P_hv48 xs L))) P_i53_20 (fun _ => rfl) ?_
  refine P_wp_step (S' := (22, [.ref 15, P_un, .int 10], [.ref 15, .int 10], (P_hv48 xs L))) P_i53_21 (fun _ => rfl) ?_
  refine P_wp_step (S' := (25, [.ref 15, P_un, .int 10], [.ref 16, .int 10], (P_hv48 xs L))) P_i53_22 (fun _ => rfl) ?_
  refine P_wp_step (S' := (26, [.ref 15, P_un, .int 10], [.int 12, .int 10], (P_hv48 xs L))) P_i53_25 (fun _ => rfl) ?_
  refine P_wp_icf P_i53_26 P_b10 (show P_wp P_Y0 198 53 (29, [.ref 15, P_un, .int 10], [], (P_hv48 xs L)) _ from ?_)
  refine P_wp_step (S' := (30, [.ref 15, P_un, .int 10], [.ref 15], (P_hv48 xs L))) P_i53_29 (fun _ => rfl) ?_
  refine P_wp_step (S' := (33, [.ref 15, P_un, .int 10], [.ref 16], (P_hv48 xs L))) P_i53_30 (fun _ => rfl) ?_
  refine P_wp_step (S' := (34, [.ref 15, P_un, .int 10], [.int 10, .ref 16], (P_hv48 xs L))) P_i53_33 (fun _ => rfl) ?_
  refine P_wp_step (S' := (37, [.ref 15, P_un, .int 10], [.ref 27, .int 10, .ref 16], (P_hv49 xs L))) P_i53_34 (fun _ => rfl) ?_
  refine P_wp_step (S' := (38, [.ref 15, P_un, .int 10], [.ref 27, .ref 27, .int 10, .ref 16], (P_hv49 xs L))) P_i53_37 (fun _ => rfl) ?_
  refine P_wp_call P_i53_38 rfl rfl rfl rfl rfl rfl rfl (y2 := 14) (as := [.ref 27]) (r0 := [.ref 27, .int 10, .ref 16]) rfl (Nat.le_of_ble_eq_true rfl) (by decide) rfl (Nat.le_of_ble_eq_true rfl) (P_x14 xs L (?_))
  show P_wp P_Y0 198 53 (41, [.ref 15, P_un, .int 10], [.ref 27, .int 10, .ref 16], (P_hv49 xs L)) _
  refine P_wp_step (S' := (42, [.ref 15, P_un, .int 10], [], (P_hv50 xs L))) P_i53_41 (fun _ => rfl) ?_
  refine P_wp_step (S' := (45, [.ref 15, P_un, .int 11], [], (P_hv50 xs L))) P_i53_42 (fun _ => rfl) ?_
  refine P_wp_step (S' := (20, [.ref 15, P_un, .int 11], [], (P_hv50 xs L))) P_i53_45 (fun _ => rfl) ?_
  refine P_wp_step (S' := (21, [.ref 15, P_un, .int 11], [.int 11], (P_hv50 xs L))) P_i53_20 (fun _ => rfl) ?_
  refine P_wp_step (S' := (22, [.ref 15, P_un, .int 11], [.ref 15, .int 11], (P_hv50 xs L))) P_i53_21 (fun _ => rfl) ?_
  refine P_wp_step (S' := (25, [.ref 15, P_un, .int 11], [.ref 16, .int 11], (P_hv50 xs L))) P_i53_22 (fun _ => rfl) ?_
  refine P_wp_step (S' := (26, [.ref 15, P_un, .int 11], [.int 12, .int 11], (P_hv50 xs L))) P_i53_25 (fun _ => rfl) ?_
  refine P_wp_icf P_i53_26 P_b11 (show P_wp P_Y0 198 53 (29, [.ref 15, P_un, .int 11], [], (P_hv50 xs L)) _ from ?_)
  refine P_wp_step (S' := (30, [.ref 15, P_un, .int 11], [.ref 15], (P_hv50 xs L))) P_i53_29 (fun _ => rfl) ?_
  refine P_wp_step (S' := (33, [.ref 15, P_un, .int 11], [.ref 16], (P_hv50 xs L))) P_i53_30 (fun _ => rfl) ?_
  refine P_wp_step (S' := (34, [.ref 15, P_un, .int 11], [.int 11, .ref 16], (P_hv50 xs L))) P_i53_33 (fun _ => rfl) ?_
  refine P_wp_step (S' := (37, [.ref 15, P_un, .int 11], [.ref 28, .int 11, .ref 16], (P_hv51 xs L))) P_i53_34 (fun _ => rfl) ?_
  refine P_wp_step (S' := (38, [.ref 15, P_un, .int 11], [.ref 28, .ref 28, .int 11, .ref 16], (P_hv51 xs L))) P_i53_37 (fun _ => rfl) ?_
  refine P_wp_call P_i53_38 rfl rfl rfl rfl rfl rfl rfl (y2 := 14) (as := [.ref 28]) (r0 := [.ref 28, .int 11, .ref 16]) rfl (Nat.le_of_ble_eq_true rfl) (by decide) rfl (Nat.le_of_ble_eq_true rfl) (P_x15 xs L (?_))
  show P_wp P_Y0 198 53 (41, [.ref 15, P_un, .int 11], [.ref 28, .int 11, .ref 16], (P_hv51 xs L)) _
  refine P_wp_step (S' := (42, [.ref 15, P_un, .int 11], [], (P_hv52 xs L))) P_i53_41 (fun _ => rfl) ?_
  refine P_wp_step (S' := (45, [.ref 15, P_un, .int 12], [], (P_hv52 xs L))) P_i53_42 (fun _ => rfl) ?_
  refine P_wp_step (S' := (20, [.ref 15, P_un, .int 12], [], (P_hv52 xs L))) P_i53_45 (fun _ => rfl) ?_
  refine P_wp_step (S' := (21, [.ref 15, P_un, .int 12], [.int 12], (P_hv52 xs L))) P_i53_20 (fun _ => rfl) ?_
  refine P_wp_step (S' := (22, [.ref 15, P_un, .int 12], [.ref 15, .int 12], (P_hv52 xs L))) P_i53_21 (fun _ => rfl) ?_
  refine P_wp_step (S' := (25, [.ref 15, P_un, .int 12], [.ref 16, .int 12], (P_hv52 xs L))) P_i53_22 (fun _ => rfl) ?_
  refine P_wp_step (S' := (26, [.ref 15, P_un, .int 12], [.int 12, .int 12], (P_hv52 xs L))) P_i53_25 (fun _ => rfl) ?_
  refine P_wp_ict P_i53_26 P_b12 (show P_wp P_Y0 198 53 (48, [.ref 15, P_un, .int 12], [], (P_hv52 xs L)) _ from ?_)
  refine P_wp_step (S' := (49, [.ref 15, P_un, .int 12], [.ref 15], (P_hv52 xs L))) P_i53_48 (fun _ => rfl) ?_
  refine P_wp_step (S' := (52, [.ref 15, P_un, .int 12], [.ref 29, .ref 15], (P_hv53 xs L))) P_i53_49 (fun _ => rfl) ?_
  refine P_wp_step (S' := (53, [.ref 15, P_un, .int 12], [.ref 29, .ref 29, .ref 15], (P_hv53 xs L))) P_i53_52 (fun _ => rfl) ?_
  refine P_wp_call P_i53_53 rfl rfl rfl rfl rfl rfl rfl (y2 := 14) (as := [.ref 29]) (r0 := [.ref 29, .ref 15]) rfl (Nat.le_of_ble_eq_true rfl) (by decide) rfl (Nat.le_of_ble_eq_true rfl) (P_x16 xs L (?_))
  show P_wp P_Y0 198 53 (56, [.ref 15, P_un, .int 12], [.ref 29, .ref 15], (P_hv53 xs L)) _
  refine P_wp_step (S' := (59, [.ref 15, P_un, .int 12], [], (P_hv54 xs L))) P_i53_56 (fun _ => rfl) ?_
  refine P_wp_step (S' := (60, [.ref 15, P_un, .int 12], [.ref 15], (P_hv54 xs L))) P_i53_59 (fun _ => rfl) ?_
  refine P_wp_step (S' := (61, [.ref 15, P_un, .int 12], [.int 3, .ref 15], (P_hv54 xs L))) P_i53_60 (fun _ => rfl) ?_
  refine P_wp_step (S' := (63, [.ref 15, P_un, .int 12], [.ref 30, .ref 15], (P_hv55 xs L))) P_i53_61 (fun _ => rfl) ?_
  refine P_wp_step (S' := (66, [.ref 15, P_un, .int 12], [], (P_hv56 xs L))) P_i53_63 (fun _ => rfl) ?_
  refine P_wp_end (x := (.inl none, (P_hv56 xs L))) P_i53_66 (fun _ => rfl) ?_
  exact q

set_option maxRecDepth 20000 in
theorem P_x18 (xs : Nat → Int32) (L : Nat) {Q : P_R → P_H → Prop} (q : Q (.inl none) (P_hv64 xs L)) : P_wp P_Y0 198 90 (0, [.ref 31, .ref 3, .ref 8, .ref 15], [], (P_hv58 xs L)) Q := by
  refine P_wp_step (S' := (1, [.ref 31, .ref 3, .ref 8, .ref 15], [.ref 31], (P_hv58 xs L))) P_i90_0 (fun _ => rfl) ?_
  refine P_wp_step (S' := (4, [.ref 31, .ref 3, .ref 8, .ref 15], [], (P_hv58 xs L))) P_i90_1 (fun _ => rfl) ?_
  refine P_wp_step (S' := (5, [.ref 31, .ref 3, .ref 8, .ref 15], [.ref 31], (P_hv58 xs L))) P_i90_4 (fun _ => rfl) ?_
  refine P_wp_step (S' := (6, [.ref 31, .ref 3, .ref 8, .ref 15], [.ref 3, .ref 31], (P_hv58 xs L))) P_i90_5 (fun _ => rfl) ?_
  refine P_wp_step (S' := (9, [.ref 31, .ref 3, .ref 8, .ref 15], [], (P_hv59 xs L))) P_i90_6 (fun _ => rfl) ?_
  refine P_wp_step (S' := (10, [.ref 31, .ref 3, .ref 8, .ref 15], [.ref 31], (P_hv59 xs L))) P_i90_9 (fun _ => rfl) ?_
  refine P_wp_step (S' := (11, [.ref 31, .ref 3, .ref 8, .ref 15], [.ref 8, .ref 31], (P_hv59 xs L))) P_i90_10 (fun _ => rfl) ?_
  refine P_wp_step (S' := (14, [.ref 31, .ref 3, .ref 8, .ref 15], [], (P_hv60 xs L))) P_i90_11 (fun _ => rfl) ?_
  refine P_wp_step (S' := (15, [.ref 31, .ref 3, .ref 8, .ref 15], [.ref 31], (P_hv60 xs L))) P_i90_14 (fun _ => rfl) ?_
  refine P_wp_step (S' := (16, [.ref 31, .ref 3, .ref 8, .ref 15], [.ref 15, .ref 31], (P_hv60 xs L))) P_i90_15 (fun _ => rfl) ?_
  refine P_wp_step (S' := (19, [.ref 31, .ref 3, .ref 8, .ref 15], [], (P_hv61 xs L))) P_i90_16 (fun _ => rfl) ?_
  refine P_wp_step (S' := (20, [.ref 31, .ref 3, .ref 8, .ref 15], [.ref 31], (P_hv61 xs L))) P_i90_19 (fun _ => rfl) ?_
  refine P_wp_step (S' := (22, [.ref 31, .ref 3, .ref 8, .ref 15], [.int 40, .ref 31], (P_hv61 xs L))) P_i90_20 (fun _ => rfl) ?_
  refine P_wp_step (S' := (24, [.ref 31, .ref 3, .ref 8, .ref 15], [.ref 32, .ref 31], (P_hv62 xs L))) P_i90_22 (fun _ => rfl) ?_
  refine P_wp_step (S' := (27, [.ref 31, .ref 3, .ref 8, .ref 15], [], (P_hv63 xs L))) P_i90_24 (fun _ => rfl) ?_
  refine P_wp_step (S' := (28, [.ref 31, .ref 3, .ref 8, .ref 15], [.ref 31], (P_hv63 xs L))) P_i90_27 (fun _ => rfl) ?_
  refine P_wp_step (S' := (29, [.ref 31, .ref 3, .ref 8, .ref 15], [.int (-1), .ref 31], (P_hv63 xs L))) P_i90_28 (fun _ => rfl) ?_
  refine P_wp_step (S' := (32, [.ref 31, .ref 3, .ref 8, .ref 15], [], (P_hv64 xs L))) P_i90_29 (fun _ => rfl) ?_
  refine P_wp_end (x := (.inl none, (P_hv64 xs L))) P_i90_32 (fun _ => rfl) ?_
  exact q

set_option maxRecDepth 20000 in
theorem P_x19 (xs : Nat → Int32) (L : Nat) {Q : P_R → P_H → Prop} (q : Q (.inl none) (P_hv70 xs L)) : P_wp P_Y0 197 128 (0, [.ref 33, .ref 8, .ref 15], [], (P_hv66 xs L)) Q := by
  refine P_wp_step (S' := (1, [.ref 33, .ref 8, .ref 15], [.ref 33], (P_hv66 xs L))) P_i128_0 (fun _ => rfl) ?_
  refine P_wp_step (S' := (4, [.ref 33, .ref 8, .ref 15], [], (P_hv66 xs L))) P_i128_1 (fun _ => rfl) ?_
  refine P_wp_step (S' := (5, [.ref 33, .ref 8, .ref 15], [.ref 33], (P_hv66 xs L))) P_i128_4 (fun _ => rfl) ?_
  refine P_wp_step (S' := (6, [.ref 33, .ref 8, .ref 15], [.ref 8, .ref 33], (P_hv66 xs L))) P_i128_5 (fun _ => rfl) ?_
  refine P_wp_step (S' := (9, [.ref 33, .ref 8, .ref 15], [], (P_hv67 xs L))) P_i128_6 (fun _ => rfl) ?_
  refine P_wp_step (S' := (10, [.ref 33, .ref 8, .ref 15], [.ref 33], (P_hv67 xs L))) P_i128_9 (fun _ => rfl) ?_
  refine P_wp_step (S' := (11, [.ref 33, .ref 8, .ref 15], [.ref 15, .ref 33], (P_hv67 xs L))) P_i128_10 (fun _ => rfl) ?_
  refine P_wp_step (S' := (14, [.ref 33, .ref 8, .ref 15], [], (P_hv68 xs L))) P_i128_11 (fun _ => rfl) ?_
  refine P_wp_step (S' := (15, [.ref 33, .ref 8, .ref 15], [.ref 33], (P_hv68 xs L))) P_i128_14 (fun _ => rfl) ?_
  refine P_wp_step (S' := (16, [.ref 33, .ref 8, .ref 15], [.int 3, .ref 33], (P_hv68 xs L))) P_i128_15 (fun _ => rfl) ?_
  refine P_wp_step (S' := (18, [.ref 33, .ref 8, .ref 15], [.ref 34, .ref 33], (P_hv69 xs L))) P_i128_16 (fun _ => rfl) ?_
  refine P_wp_step (S' := (21, [.ref 33, .ref 8, .ref 15], [], (P_hv70 xs L))) P_i128_18 (fun _ => rfl) ?_
  refine P_wp_end (x := (.inl none, (P_hv70 xs L))) P_i128_21 (fun _ => rfl) ?_
  exact q

set_option maxRecDepth 20000 in
theorem P_x20 (xs : Nat → Int32) (L : Nat) {Q : P_R → P_H → Prop} (q : Q (.inl none) (P_hv78 xs L)) : P_wp P_Y0 197 44 (0, [.ref 35, .ref 8], [], (P_hv71 xs L)) Q := by
  refine P_wp_step (S' := (1, [.ref 35, .ref 8], [.ref 35], (P_hv71 xs L))) P_i44_0 (fun _ => rfl) ?_
  refine P_wp_step (S' := (4, [.ref 35, .ref 8], [], (P_hv71 xs L))) P_i44_1 (fun _ => rfl) ?_
  refine P_wp_step (S' := (5, [.ref 35, .ref 8], [.ref 35], (P_hv71 xs L))) P_i44_4 (fun _ => rfl) ?_
  refine P_wp_step (S' := (6, [.ref 35, .ref 8], [.ref 8, .ref 35], (P_hv71 xs L))) P_i44_5 (fun _ => rfl) ?_
  refine P_wp_step (S' := (9, [.ref 35, .ref 8], [], (P_hv72 xs L))) P_i44_6 (fun _ => rfl) ?_
  refine P_wp_step (S' := (10, [.ref 35, .ref 8], [.ref 35], (P_hv72 xs L))) P_i44_9 (fun _ => rfl) ?_
  refine P_wp_step (S' := (12, [.ref 35, .ref 8], [.int 14, .ref 35], (P_hv72 xs L))) P_i44_10 (fun _ => rfl) ?_
  refine P_wp_step (S' := (14, [.ref 35, .ref 8], [.ref 36, .ref 35], (P_hv73 xs L))) P_i44_12 (fun _ => rfl) ?_
  refine P_wp_step (S' := (17, [.ref 35, .ref 8], [], (P_hv74 xs L))) P_i44_14 (fun _ => rfl) ?_
  refine P_wp_step (S' := (18, [.ref 35, .ref 8], [.ref 35], (P_hv74 xs L))) P_i44_17 (fun _ => rfl) ?_
  refine P_wp_step (S' := (20, [.ref 35, .ref 8], [.int 14, .ref 35], (P_hv74 xs L))) P_i44_18 (fun _ => rfl) ?_
  refine P_wp_step (S' := (22, [.ref 35, .ref 8], [.ref 37, .ref 35], (P_hv75 xs L))) P_i44_20 (fun _ => rfl) ?_
  refine P_wp_step (S' := (25, [.ref 35, .ref 8], [], (P_hv76 xs L))) P_i44_22 (fun _ => rfl) ?_
  refine P_wp_step (S' := (26, [.ref 35, .ref 8], [.ref 35], (P_hv76 xs L))) P_i44_25 (fun _ => rfl) ?_
  refine P_wp_step (S' := (28, [.ref 35, .ref 8], [.int 56, .ref 35], (P_hv76 xs L))) P_i44_26 (fun _ => rfl) ?_
  refine P_wp_step (S' := (30, [.ref 35, .ref 8], [.ref 38, .ref 35], (P_hv77 xs L))) P_i44_28 (fun _ => rfl) ?_
  refine P_wp_step (S' := (33, [.ref 35, .ref 8], [], (P_hv78 xs L))) P_i44_30 (fun _ => rfl) ?_
  refine P_wp_end (x := (.inl none, (P_hv78 xs L))) P_i44_33 (fun _ => rfl) ?_
  exact q

set_option maxRecDepth 20000 in
theorem P_x21 (xs : Nat → Int32) (L : Nat) {Q : P_R → P_H → Prop} (q : Q (.inl none) (P_hv89 xs L)) : P_wp P_Y0 198 1 (0, [.ref 33, .ref 8, .ref 15], [], (P_hv66 xs L)) Q := by
  refine P_wp_step (S' := (1, [.ref 33, .ref 8, .ref 15], [.ref 33], (P_hv66 xs L))) P_i1_0 (fun _ => rfl) ?_
  refine P_wp_step (S' := (2, [.ref 33, .ref 8, .ref 15], [.ref 8, .ref 33], (P_hv66 xs L))) P_i1_1 (fun _ => rfl) ?_
  refine P_wp_step (S' := (3, [.ref 33, .ref 8, .ref 15], [.ref 15, .ref 8, .ref 33], (P_hv66 xs L))) P_i1_2 (fun _ => rfl) ?_
  refine P_wp_call P_i1_3 rfl rfl rfl rfl rfl rfl rfl (y2 := 128) (as := [.ref 33, .ref 8, .ref 15]) (r0 := []) rfl (Nat.le_of_ble_eq_true rfl) (by decide) rfl (Nat.le_of_ble_eq_true rfl) (P_x19 xs L (?_))
  show P_wp P_Y0 198 1 (6, [.ref 33, .ref 8, .ref 15], [], (P_hv70 xs L)) _
  refine P_wp_step (S' := (7, [.ref 33, .ref 8, .ref 15], [.ref 33], (P_hv70 xs L))) P_i1_6 (fun _ => rfl) ?_
  refine P_wp_step (S' := (10, [.ref 33, .ref 8, .ref 15], [.ref 35, .ref 33], (P_hv71 xs L))) P_i1_7 (fun _ => rfl) ?_
  refine P_wp_step (S' := (11, [.ref 33, .ref 8, .ref 15], [.ref 35, .ref 35, .ref 33], (P_hv71 xs L))) P_i1_10 (fun _ => rfl) ?_
  refine P_wp_step (S' := (12, [.ref 33, .ref 8, .ref 15], [.ref 8, .ref 35, .ref 35, .ref 33], (P_hv71 xs L))) P_i1_11 (fun _ => rfl) ?_
  refine P_wp_call P_i1_12 rfl rfl rfl rfl rfl rfl rfl (y2 := 44) (as := [.ref 35, .ref 8]) (r0 := [.ref 35, .ref 33]) rfl (Nat.le_of_ble_eq_true rfl) (by decide) rfl (Nat.le_of_ble_eq_true rfl) (P_x20 xs L (?_))
  show P_wp P_Y0 198 1 (15, [.ref 33, .ref 8, .ref 15], [.ref 35, .ref 33], (P_hv78 xs L)) _
  refine P_wp_step (S' := (18, [.ref 33, .ref 8, .ref 15], [], (P_hv79 xs L))) P_i1_15 (fun _ => rfl) ?_
  refine P_wp_step (S' := (19, [.ref 33, .ref 8, .ref 15], [.ref 33], (P_hv79 xs L))) P_i1_18 (fun _ => rfl) ?_
  refine P_wp_step (S' := (22, [.ref 33, .ref 8, .ref 15], [.int 2744, .ref 33], (P_hv79 xs L))) P_i1_19 (fun _ => rfl) ?_
  refine P_wp_step (S' := (24, [.ref 33, .ref 8, .ref 15], [.ref 39, .ref 33], (P_hv80 xs L))) P_i1_22 (fun _ => rfl) ?_
  refine P_wp_step (S' := (27, [.ref 33, .ref 8, .ref 15], [], (P_hv81 xs L))) P_i1_24 (fun _ => rfl) ?_
  refine P_wp_step (S' := (28, [.ref 33, .ref 8, .ref 15], [.ref 33], (P_hv81 xs L))) P_i1_27 (fun _ => rfl) ?_
  refine P_wp_step (S' := (31, [.ref 33, .ref 8, .ref 15], [.int 2744, .ref 33], (P_hv81 xs L))) P_i1_28 (fun _ => rfl) ?_
  refine P_wp_step (S' := (33, [.ref 33, .ref 8, .ref 15], [.ref 40, .ref 33], (P_hv82 xs L))) P_i1_31 (fun _ => rfl) ?_
  refine P_wp_step (S' := (36, [.ref 33, .ref 8, .ref 15], [], (P_hv83 xs L))) P_i1_33 (fun _ => rfl) ?_
  refine P_wp_step (S' := (37, [.ref 33, .ref 8, .ref 15], [.ref 33], (P_hv83 xs L))) P_i1_36 (fun _ => rfl) ?_
  refine P_wp_step (S' := (40, [.ref 33, .ref 8, .ref 15], [.int 2744, .ref 33], (P_hv83 xs L))) P_i1_37 (fun _ => rfl) ?_
  refine P_wp_step (S' := (42, [.ref 33, .ref 8, .ref 15], [.ref 41, .ref 33], (P_hv84 xs L))) P_i1_40 (fun _ => rfl) ?_
  refine P_wp_step (S' := (45, [.ref 33, .ref 8, .ref 15], [], (P_hv85 xs L))) P_i1_42 (fun _ => rfl) ?_
  refine P_wp_step (S' := (46, [.ref 33, .ref 8, .ref 15], [.ref 33], (P_hv85 xs L))) P_i1_45 (fun _ => rfl) ?_
  refine P_wp_step (S' := (49, [.ref 33, .ref 8, .ref 15], [.int 2744, .ref 33], (P_hv85 xs L))) P_i1_46 (fun _ => rfl) ?_
  refine P_wp_step (S' := (51, [.ref 33, .ref 8, .ref 15], [.ref 42, .ref 33], (P_hv86 xs L))) P_i1_49 (fun _ => rfl) ?_
  refine P_wp_step (S' := (54, [.ref 33, .ref 8, .ref 15], [], (P_hv87 xs L))) P_i1_51 (fun _ => rfl) ?_
  refine P_wp_step (S' := (55, [.ref 33, .ref 8, .ref 15], [.ref 33], (P_hv87 xs L))) P_i1_54 (fun _ => rfl) ?_
  refine P_wp_step (S' := (58, [.ref 33, .ref 8, .ref 15], [.int 2744, .ref 33], (P_hv87 xs L))) P_i1_55 (fun _ => rfl) ?_
  refine P_wp_step (S' := (60, [.ref 33, .ref 8, .ref 15], [.ref 43, .ref 33], (P_hv88 xs L))) P_i1_58 (fun _ => rfl) ?_
  refine P_wp_step (S' := (63, [.ref 33, .ref 8, .ref 15], [], (P_hv89 xs L))) P_i1_60 (fun _ => rfl) ?_
  refine P_wp_end (x := (.inl none, (P_hv89 xs L))) P_i1_63 (fun _ => rfl) ?_
  exact q

set_option maxRecDepth 20000 in
theorem P_x22 (xs : Nat → Int32) (L : Nat) {Q : P_R → P_H → Prop} (q : Q (.inl none) (P_hv95 xs L)) : P_wp P_Y0 197 128 (0, [.ref 44, .ref 8, .ref 15], [], (P_hv91 xs L)) Q := by
  refine P_wp_step (S' := (1, [.ref 44, .ref 8, .ref 15], [.ref 44], (P_hv91 xs L))) P_i128_0 (fun _ => rfl) ?_
  refine P_wp_step (S' := (4, [.ref 44, .ref 8, .ref 15], [], (P_hv91 xs L))) P_i128_1 (fun _ => rfl) ?_
  refine P_wp_step (S' := (5, [.ref 44, .ref 8, .ref 15], [.ref 44], (P_hv91 xs L))) P_i128_4 (fun _ => rfl) ?_
  refine P_wp_step (S' := (6, [.ref 44, .ref 8, .ref 15], [.ref 8, .ref 44], (P_hv91 xs L))) P_i128_5 (fun _ => rfl) ?_
  refine P_wp_step (S' := (9, [.ref 44, .ref 8, .ref 15], [], (P_hv92 xs L))) P_i128_6 (fun _ => rfl) ?_
  refine P_wp_step (S' := (10, [.ref 44, .ref 8, .ref 15], [.ref 44], (P_hv92 xs L))) P_i128_9 (fun _ => rfl) ?_
  refine P_wp_step (S' := (11, [.ref 44, .ref 8, .ref 15], [.ref 15, .ref 44], (P_hv92 xs L))) P_i128_10 (fun _ => rfl) ?_
  refine P_wp_step (S' := (14, [.ref 44, .ref 8, .ref 15], [], (P_hv93 xs L))) P_i128_11 (fun _ => rfl) ?_
  refine P_wp_step (S' := (15, [.ref 44, .ref 8, .ref 15], [.ref 44], (P_hv93 xs L))) P_i128_14 (fun _ => rfl) ?_
  refine P_wp_step (S' := (16, [.ref 44, .ref 8, .ref 15], [.int 3, .ref 44], (P_hv93 xs L))) P_i128_15 (fun _ => rfl) ?_
  refine P_wp_step (S' := (18, [.ref 44, .ref 8, .ref 15], [.ref 45, .ref 44], (P_hv94 xs L))) P_i128_16 (fun _ => rfl) ?_
  refine P_wp_step (S' := (21, [.ref 44, .ref 8, .ref 15], [], (P_hv95 xs L))) P_i128_18 (fun _ => rfl) ?_
  refine P_wp_end (x := (.inl none, (P_hv95 xs L))) P_i128_21 (fun _ => rfl) ?_
  exact q

set_option maxRecDepth 20000 in
theorem P_x23 (xs : Nat → Int32) (L : Nat) {Q : P_R → P_H → Prop} (q : Q (.inl none) (P_hv95 xs L)) : P_wp P_Y0 198 20 (0, [.ref 44, .ref 8, .ref 15], [], (P_hv91 xs L)) Q := by
  refine P_wp_step (S' := (1, [.ref 44, .ref 8, .ref 15], [.ref 44], (P_hv91 xs L))) P_i20_0 (fun _ => rfl) ?_
  refine P_wp_step (S' := (2, [.ref 44, .ref 8, .ref 15], [.ref 8, .ref 44], (P_hv91 xs L))) P_i20_1 (fun _ => rfl) ?_
  refine P_wp_step (S' := (3, [.ref 44, .ref 8, .ref 15], [.ref 15, .ref 8, .ref 44], (P_hv91 xs L))) P_i20_2 (fun _ => rfl) ?_
  refine P_wp_call P_i20_3 rfl rfl rfl rfl rfl rfl rfl (y2 := 128) (as := [.ref 44, .ref 8, .ref 15]) (r0 := []) rfl (Nat.le_of_ble_eq_true rfl) (by decide) rfl (Nat.le_of_ble_eq_true rfl) (P_x22 xs L (?_))
  show P_wp P_Y0 198 20 (6, [.ref 44, .ref 8, .ref 15], [], (P_hv95 xs L)) _
  refine P_wp_end (x := (.inl none, (P_hv95 xs L))) P_i20_6 (fun _ => rfl) ?_
  exact q

set_option maxRecDepth 20000 in
theorem P_x24 (xs : Nat → Int32) (L : Nat) {Q : P_R → P_H → Prop} (q : Q (.inl none) (P_hv97 xs L)) : P_wp P_Y0 198 83 (0, [.ref 46], [], (P_hv97 xs L)) Q := by
  refine P_wp_step (S' := (1, [.ref 46], [.ref 46], (P_hv97 xs L))) P_i83_0 (fun _ => rfl) ?_
  refine P_wp_step (S' := (4, [.ref 46], [], (P_hv97 xs L))) P_i83_1 (fun _ => rfl) ?_
  refine P_wp_end (x := (.inl none, (P_hv97 xs L))) P_i83_4 (fun _ => rfl) ?_
  exact q

set_option maxRecDepth 20000 in
theorem P_x25 (xs : Nat → Int32) (L : Nat) {Q : P_R → P_H → Prop} (q : Q (.inl none) (P_hv98 xs L)) : P_wp P_Y0 199 137 (0, [.ref 2], [], (P_hv0 xs L)) Q := by
  refine P_wp_step (S' := (1, [.ref 2], [.ref 2], (P_hv0 xs L))) P_i137_0 (fun _ => rfl) ?_
  refine P_wp_step (S' := (4, [.ref 2], [], (P_hv0 xs L))) P_i137_1 (fun _ => rfl) ?_
  refine P_wp_step (S' := (5, [.ref 2], [.ref 2], (P_hv0 xs L))) P_i137_4 (fun _ => rfl) ?_
  refine P_wp_step (S' := (8, [.ref 2], [.ref 3, .ref 2], (P_hv1 xs L))) P_i137_5 (fun _ => rfl) ?_
  refine P_wp_step (S' := (9, [.ref 2], [.ref 3, .ref 3, .ref 2], (P_hv1 xs L))) P_i137_8 (fun _ => rfl) ?_
  refine P_wp_call P_i137_9 rfl rfl rfl rfl rfl rfl rfl (y2 := 113) (as := [.ref 3]) (r0 := [.ref 3, .ref 2]) rfl (Nat.le_of_ble_eq_true rfl) (by decide) rfl (Nat.le_of_ble_eq_true rfl) (P_x1 xs L (?_))
  show P_wp P_Y0 199 137 (12, [.ref 2], [.ref 3, .ref 2], (P_hv9 xs L)) _
  refine P_wp_step (S' := (15, [.ref 2], [], (P_hv10 xs L))) P_i137_12 (fun _ => rfl) ?_
  refine P_wp_step (S' := (16, [.ref 2], [.ref 2], (P_hv10 xs L))) P_i137_15 (fun _ => rfl) ?_
  refine P_wp_step (S' := (19, [.ref 2], [.ref 8, .ref 2], (P_hv11 xs L))) P_i137_16 (fun _ => rfl) ?_
  refine P_wp_step (S' := (20, [.ref 2], [.ref 8, .ref 8, .ref 2], (P_hv11 xs L))) P_i137_19 (fun _ => rfl) ?_
  refine P_wp_call P_i137_20 rfl rfl rfl rfl rfl rfl rfl (y2 := 22) (as := [.ref 8]) (r0 := [.ref 8, .ref 2]) rfl (Nat.le_of_ble_eq_true rfl) (by decide) rfl (Nat.le_of_ble_eq_true rfl) (P_x3 xs L (?_))
  show P_wp P_Y0 199 137 (23, [.ref 2], [.ref 8, .ref 2], (P_hv23 xs L)) _
  refine P_wp_step (S' := (26, [.ref 2], [], (P_hv24 xs L))) P_i137_23 (fun _ => rfl) ?_
  refine P_wp_step (S' := (27, [.ref 2], [.ref 2], (P_hv24 xs L))) P_i137_26 (fun _ => rfl) ?_
  refine P_wp_step (S' := (30, [.ref 2], [.ref 15, .ref 2], (P_hv25 xs L))) P_i137_27 (fun _ => rfl) ?_
  refine P_wp_step (S' := (31, [.ref 2], [.ref 15, .ref 15, .ref 2], (P_hv25 xs L))) P_i137_30 (fun _ => rfl) ?_
  refine P_wp_step (S' := (32, [.ref 2], [.ref 2, .ref 15, .ref 15, .ref 2], (P_hv25 xs L))) P_i137_31 (fun _ => rfl) ?_
  refine P_wp_step (S' := (35, [.ref 2], [.ref 8, .ref 15, .ref 15, .ref 2], (P_hv25 xs L))) P_i137_32 (fun _ => rfl) ?_
  refine P_wp_call P_i137_35 rfl rfl rfl rfl rfl rfl rfl (y2 := 53) (as := [.ref 15, .ref 8]) (r0 := [.ref 15, .ref 2]) rfl (Nat.le_of_ble_eq_true rfl) (by decide) rfl (Nat.le_of_ble_eq_true rfl) (P_x17 xs L (?_))
  show P_wp P_Y0 199 137 (38, [.ref 2], [.ref 15, .ref 2], (P_hv56 xs L)) _
  refine P_wp_step (S' := (41, [.ref 2], [], (P_hv57 xs L))) P_i137_38 (fun _ => rfl) ?_
  refine P_wp_step (S' := (42, [.ref 2], [.ref 2], (P_hv57 xs L))) P_i137_41 (fun _ => rfl) ?_
  refine P_wp_step (S' := (45, [.ref 2], [.ref 31, .ref 2], (P_hv58 xs L))) P_i137_42 (fun _ => rfl) ?_
  refine P_wp_step (S' := (46, [.ref 2], [.ref 31, .ref 31, .ref 2], (P_hv58 xs L))) P_i137_45 (fun _ => rfl) ?_
  refine P_wp_step (S' := (47, [.ref 2], [.ref 2, .ref 31, .ref 31, .ref 2], (P_hv58 xs L))) P_i137_46 (fun _ => rfl) ?_
  refine P_wp_step (S' := (50, [.ref 2], [.ref 3, .ref 31, .ref 31, .ref 2], (P_hv58 xs L))) P_i137_47 (fun _ => rfl) ?_
  refine P_wp_step (S' := (51, [.ref 2], [.ref 2, .ref 3, .ref 31, .ref 31, .ref 2], (P_hv58 xs L))) P_i137_50 (fun _ => rfl) ?_
  refine P_wp_step (S' := (54, [.ref 2], [.ref 8, .ref 3, .ref 31, .ref 31, .ref 2], (P_hv58 xs L))) P_i137_51 (fun _ => rfl) ?_
  refine P_wp_step (S' := (55, [.ref 2], [.ref 2, .ref 8, .ref 3, .ref 31, .ref 31, .ref 2], (P_hv58 xs L))) P_i137_54 (fun _ => rfl) ?_
  refine P_wp_step (S' := (58, [.ref 2], [.ref 15, .ref 8, .ref 3, .ref 31, .ref 31, .ref 2], (P_hv58 xs L))) P_i137_55 (fun _ => rfl) ?_
  refine P_wp_call P_i137_58 rfl rfl rfl rfl rfl rfl rfl (y2 := 90) (as := [.ref 31, .ref 3, .ref 8, .ref 15]) (r0 := [.ref 31, .ref 2]) rfl (Nat.le_of_ble_eq_true rfl) (by decide) rfl (Nat.le_of_ble_eq_true rfl) (P_x18 xs L (?_))
  show P_wp P_Y0 199 137 (61, [.ref 2], [.ref 31, .ref 2], (P_hv64 xs L)) _
  refine P_wp_step (S' := (64, [.ref 2], [], (P_hv65 xs L))) P_i137_61 (fun _ => rfl) ?_
  refine P_wp_step (S' := (65, [.ref 2], [.ref 2], (P_hv65 xs L))) P_i137_64 (fun _ => rfl) ?_
  refine P_wp_step (S' := (68, [.ref 2], [.ref 33, .ref 2], (P_hv66 xs L))) P_i137_65 (fun _ => rfl) ?_
  refine P_wp_step (S' := (69, [.ref 2], [.ref 33, .ref 33, .ref 2], (P_hv66 xs L))) P_i137_68 (fun _ => rfl) ?_
  refine P_wp_step (S' := (70, [.ref 2], [.ref 2, .ref 33, .ref 33, .ref 2], (P_hv66 xs L))) P_i137_69 (fun _ => rfl) ?_
  refine P_wp_step (S' := (73, [.ref 2], [.ref 8, .ref 33, .ref 33, .ref 2], (P_hv66 xs L))) P_i137_70 (fun _ => rfl) ?_
  refine P_wp_step (S' := (74, [.ref 2], [.ref 2, .ref 8, .ref 33, .ref 33, .ref 2], (P_hv66 xs L))) P_i137_73 (fun _ => rfl) ?_
  refine P_wp_step (S' := (77, [.ref 2], [.ref 15, .ref 8, .ref 33, .ref 33, .ref 2], (P_hv66 xs L))) P_i137_74 (fun _ => rfl) ?_
  refine P_wp_call P_i137_77 rfl rfl rfl rfl rfl rfl rfl (y2 := 1) (as := [.ref 33, .ref 8, .ref 15]) (r0 := [.ref 33, .ref 2]) rfl (Nat.le_of_ble_eq_true rfl) (by decide) rfl (Nat.le_of_ble_eq_true rfl) (P_x21 xs L (?_))
  show P_wp P_Y0 199 137 (80, [.ref 2], [.ref 33, .ref 2], (P_hv89 xs L)) _
  refine P_wp_step (S' := (83, [.ref 2], [], (P_hv90 xs L))) P_i137_80 (fun _ => rfl) ?_
  refine P_wp_step (S' := (84, [.ref 2], [.ref 2], (P_hv90 xs L))) P_i137_83 (fun _ => rfl) ?_
  refine P_wp_step (S' := (87, [.ref 2], [.ref 44, .ref 2], (P_hv91 xs L))) P_i137_84 (fun _ => rfl) ?_
  refine P_wp_step (S' := (88, [.ref 2], [.ref 44, .ref 44, .ref 2], (P_hv91 xs L))) P_i137_87 (fun _ => rfl) ?_
  refine P_wp_step (S' := (89, [.ref 2], [.ref 2, .ref 44, .ref 44, .ref 2], (P_hv91 xs L))) P_i137_88 (fun _ => rfl) ?_
  refine P_wp_step (S' := (92, [.ref 2], [.ref 8, .ref 44, .ref 44, .ref 2], (P_hv91 xs L))) P_i137_89 (fun _ => rfl) ?_
  refine P_wp_step (S' := (93, [.ref 2], [.ref 2, .ref 8, .ref 44, .ref 44, .ref 2], (P_hv91 xs L))) P_i137_92 (fun _ => rfl) ?_
  refine P_wp_step (S' := (96, [.ref 2], [.ref 15, .ref 8, .ref 44, .ref 44, .ref 2], (P_hv91 xs L))) P_i137_93 (fun _ => rfl) ?_
  refine P_wp_call P_i137_96 rfl rfl rfl rfl rfl rfl rfl (y2 := 20) (as := [.ref 44, .ref 8, .ref 15]) (r0 := [.ref 44, .ref 2]) rfl (Nat.le_of_ble_eq_true rfl) (by decide) rfl (Nat.le_of_ble_eq_true rfl) (P_x23 xs L (?_))
  show P_wp P_Y0 199 137 (99, [.ref 2], [.ref 44, .ref 2], (P_hv95 xs L)) _
  refine P_wp_step (S' := (102, [.ref 2], [], (P_hv96 xs L))) P_i137_99 (fun _ => rfl) ?_
  refine P_wp_step (S' := (103, [.ref 2], [.ref 2], (P_hv96 xs L))) P_i137_102 (fun _ => rfl) ?_
  refine P_wp_step (S' := (106, [.ref 2], [.ref 46, .ref 2], (P_hv97 xs L))) P_i137_103 (fun _ => rfl) ?_
  refine P_wp_step (S' := (107, [.ref 2], [.ref 46, .ref 46, .ref 2], (P_hv97 xs L))) P_i137_106 (fun _ => rfl) ?_
  refine P_wp_call P_i137_107 rfl rfl rfl rfl rfl rfl rfl (y2 := 83) (as := [.ref 46]) (r0 := [.ref 46, .ref 2]) rfl (Nat.le_of_ble_eq_true rfl) (by decide) rfl (Nat.le_of_ble_eq_true rfl) (P_x24 xs L (?_))
  show P_wp P_Y0 199 137 (110, [.ref 2], [.ref 46, .ref 2], (P_hv97 xs L)) _
  refine P_wp_step (S' := (113, [.ref 2], [], (P_hv98 xs L))) P_i137_110 (fun _ => rfl) ?_
  refine P_wp_end (x := (.inl none, (P_hv98 xs L))) P_i137_113 (fun _ => rfl) ?_
  exact q

set_option maxRecDepth 20000 in
theorem P_x26 (xs : Nat → Int32) (L : Nat) {Q : P_R → P_H → Prop} (q : Q (.inl none) (P_hv130 xs L)) : P_wp P_Y0 199 182 (0, [.ref 47], [], (P_hv99 xs L)) Q := by
  refine P_wp_step (S' := (1, [.ref 47], [.ref 47], (P_hv99 xs L))) P_i182_0 (fun _ => rfl) ?_
  refine P_wp_step (S' := (4, [.ref 47], [], (P_hv99 xs L))) P_i182_1 (fun _ => rfl) ?_
  refine P_wp_step (S' := (5, [.ref 47], [.ref 47], (P_hv99 xs L))) P_i182_4 (fun _ => rfl) ?_
  refine P_wp_step (S' := (6, [.ref 47], [.int 5, .ref 47], (P_hv99 xs L))) P_i182_5 (fun _ => rfl) ?_
  refine P_wp_step (S' := (8, [.ref 47], [.ref 48, .ref 47], (P_hv100 xs L))) P_i182_6 (fun _ => rfl) ?_
  refine P_wp_step (S' := (11, [.ref 47], [], (P_hv101 xs L))) P_i182_8 (fun _ => rfl) ?_
  refine P_wp_step (S' := (12, [.ref 47], [.ref 47], (P_hv101 xs L))) P_i182_11 (fun _ => rfl) ?_
  refine P_wp_step (S' := (13, [.ref 47], [.int 5, .ref 47], (P_hv101 xs L))) P_i182_12 (fun _ => rfl) ?_
  refine P_wp_step (S' := (15, [.ref 47], [.ref 49, .ref 47], (P_hv102 xs L))) P_i182_13 (fun _ => rfl) ?_
  refine P_wp_step (S' := (18, [.ref 47], [], (P_hv103 xs L))) P_i182_15 (fun _ => rfl) ?_
  refine P_wp_step (S' := (19, [.ref 47], [.ref 47], (P_hv103 xs L))) P_i182_18 (fun _ => rfl) ?_
  refine P_wp_step (S' := (22, [.ref 47], [.int 210, .ref 47], (P_hv103 xs L))) P_i182_19 (fun _ => rfl) ?_
  refine P_wp_step (S' := (24, [.ref 47], [.ref 50, .ref 47], (P_hv104 xs L))) P_i182_22 (fun _ => rfl) ?_
  refine P_wp_step (S' := (27, [.ref 47], [], (P_hv105 xs L))) P_i182_24 (fun _ => rfl) ?_
  refine P_wp_step (S' := (28, [.ref 47], [.ref 47], (P_hv105 xs L))) P_i182_27 (fun _ => rfl) ?_
  refine P_wp_step (S' := (30, [.ref 47], [.int 40, .ref 47], (P_hv105 xs L))) P_i182_28 (fun _ => rfl) ?_
  refine P_wp_step (S' := (32, [.ref 47], [.ref 51, .ref 47], (P_hv106 xs L))) P_i182_30 (fun _ => rfl) ?_
  refine P_wp_step (S' := (35, [.ref 47], [], (P_hv107 xs L))) P_i182_32 (fun _ => rfl) ?_
  refine P_wp_step (S' := (36, [.ref 47], [.ref 47], (P_hv107 xs L))) P_i182_35 (fun _ => rfl) ?_
  refine P_wp_step (S' := (37, [.ref 47], [.int (-1), .ref 47], (P_hv107 xs L))) P_i182_36 (fun _ => rfl) ?_
  refine P_wp_step (S' := (40, [.ref 47], [], (P_hv108 xs L))) P_i182_37 (fun _ => rfl) ?_
  refine P_wp_step (S' := (41, [.ref 47], [.ref 47], (P_hv108 xs L))) P_i182_40 (fun _ => rfl) ?_
  refine P_wp_step (S' := (42, [.ref 47], [.int 4, .ref 47], (P_hv108 xs L))) P_i182_41 (fun _ => rfl) ?_
  refine P_wp_step (S' := (44, [.ref 47], [.ref 52, .ref 47], (P_hv109 xs L))) P_i182_42 (fun _ => rfl) ?_
  refine P_wp_step (S' := (47, [.ref 47], [], (P_hv110 xs L))) P_i182_44 (fun _ => rfl) ?_
  refine P_wp_step (S' := (48, [.ref 47], [.ref 47], (P_hv110 xs L))) P_i182_47 (fun _ => rfl) ?_
  refine P_wp_step (S' := (49, [.ref 47], [.int 4, .ref 47], (P_hv110 xs L))) P_i182_48 (fun _ => rfl) ?_
  refine P_wp_step (S' := (51, [.ref 47], [.ref 53, .ref 47], (P_hv111 xs L))) P_i182_49 (fun _ => rfl) ?_
  refine P_wp_step (S' := (54, [.ref 47], [], (P_hv112 xs L))) P_i182_51 (fun _ => rfl) ?_
  refine P_wp_step (S' := (55, [.ref 47], [.ref 47], (P_hv112 xs L))) P_i182_54 (fun _ => rfl) ?_
  refine P_wp_step (S' := (56, [.ref 47], [.int 3, .ref 47], (P_hv112 xs L))) P_i182_55 (fun _ => rfl) ?_
  refine P_wp_step (S' := (58, [.ref 47], [.ref 54, .ref 47], (P_hv113 xs L))) P_i182_56 (fun _ => rfl) ?_
  refine P_wp_step (S' := (61, [.ref 47], [], (P_hv114 xs L))) P_i182_58 (fun _ => rfl) ?_
  refine P_wp_step (S' := (62, [.ref 47], [.ref 47], (P_hv114 xs L))) P_i182_61 (fun _ => rfl) ?_
  refine P_wp_step (S' := (64, [.ref 47], [.int 12, .ref 47], (P_hv114 xs L))) P_i182_62 (fun _ => rfl) ?_
  refine P_wp_step (S' := (66, [.ref 47], [.ref 55, .ref 47], (P_hv115 xs L))) P_i182_64 (fun _ => rfl) ?_
  refine P_wp_step (S' := (69, [.ref 47], [], (P_hv116 xs L))) P_i182_66 (fun _ => rfl) ?_
  refine P_wp_step (S' := (70, [.ref 47], [.ref 47], (P_hv116 xs L))) P_i182_69 (fun _ => rfl) ?_
  refine P_wp_step (S' := (72, [.ref 47], [.int 12, .ref 47], (P_hv116 xs L))) P_i182_70 (fun _ => rfl) ?_
  refine P_wp_step (S' := (74, [.ref 47], [.ref 56, .ref 47], (P_hv117 xs L))) P_i182_72 (fun _ => rfl) ?_
  refine P_wp_step (S' := (77, [.ref 47], [], (P_hv118 xs L))) P_i182_74 (fun _ => rfl) ?_
  refine P_wp_step (S' := (78, [.ref 47], [.ref 47], (P_hv118 xs L))) P_i182_77 (fun _ => rfl) ?_
  refine P_wp_step (S' := (80, [.ref 47], [.int 12, .ref 47], (P_hv118 xs L))) P_i182_78 (fun _ => rfl) ?_
  refine P_wp_step (S' := (82, [.ref 47], [.ref 57, .ref 47], (P_hv119 xs L))) P_i182_80 (fun _ => rfl) ?_
  refine P_wp_step (S' := (85, [.ref 47], [], (P_hv120 xs L))) P_i182_82 (fun _ => rfl) ?_
  refine P_wp_step (S' := (86, [.ref 47], [.ref 47], (P_hv120 xs L))) P_i182_85 (fun _ => rfl) ?_
  refine P_wp_step (S' := (88, [.ref 47], [.int 12, .ref 47], (P_hv120 xs L))) P_i182_86 (fun _ => rfl) ?_
  refine P_wp_step (S' := (90, [.ref 47], [.ref 58, .ref 47], (P_hv121 xs L))) P_i182_88 (fun _ => rfl) ?_
  refine P_wp_step (S' := (93, [.ref 47], [], (P_hv122 xs L))) P_i182_90 (fun _ => rfl) ?_
  refine P_wp_step (S' := (94, [.ref 47], [.ref 47], (P_hv122 xs L))) P_i182_93 (fun _ => rfl) ?_
  refine P_wp_step (S' := (95, [.ref 47], [.int 3, .ref 47], (P_hv122 xs L))) P_i182_94 (fun _ => rfl) ?_
  refine P_wp_step (S' := (97, [.ref 47], [.ref 59, .ref 47], (P_hv123 xs L))) P_i182_95 (fun _ => rfl) ?_
  refine P_wp_step (S' := (100, [.ref 47], [], (P_hv124 xs L))) P_i182_97 (fun _ => rfl) ?_
  refine P_wp_step (S' := (101, [.ref 47], [.ref 47], (P_hv124 xs L))) P_i182_100 (fun _ => rfl) ?_
  refine P_wp_step (S' := (102, [.ref 47], [.int 0, .ref 47], (P_hv124 xs L))) P_i182_101 (fun _ => rfl) ?_
  refine P_wp_step (S' := (104, [.ref 47], [.ref 60, .ref 47], (P_hv125 xs L))) P_i182_102 (fun _ => rfl) ?_
  refine P_wp_step (S' := (107, [.ref 47], [], (P_hv126 xs L))) P_i182_104 (fun _ => rfl) ?_
  refine P_wp_step (S' := (108, [.ref 47], [.ref 47], (P_hv126 xs L))) P_i182_107 (fun _ => rfl) ?_
  refine P_wp_step (S' := (109, [.ref 47], [.int 3, .ref 47], (P_hv126 xs L))) P_i182_108 (fun _ => rfl) ?_
  refine P_wp_step (S' := (111, [.ref 47], [.ref 61, .ref 47], (P_hv127 xs L))) P_i182_109 (fun _ => rfl) ?_
  refine P_wp_step (S' := (114, [.ref 47], [], (P_hv128 xs L))) P_i182_111 (fun _ => rfl) ?_
  refine P_wp_step (S' := (115, [.ref 47], [.ref 47], (P_hv128 xs L))) P_i182_114 (fun _ => rfl) ?_
  refine P_wp_step (S' := (116, [.ref 47], [.int 0, .ref 47], (P_hv128 xs L))) P_i182_115 (fun _ => rfl) ?_
  refine P_wp_step (S' := (119, [.ref 47], [.ref 62, .ref 47], (P_hv129 xs L))) P_i182_116 (fun _ => rfl) ?_
  refine P_wp_step (S' := (122, [.ref 47], [], (P_hv130 xs L))) P_i182_119 (fun _ => rfl) ?_
  refine P_wp_end (x := (.inl none, (P_hv130 xs L))) P_i182_122 (fun _ => rfl) ?_
  exact q

set_option maxRecDepth 20000 in
theorem P_con (xs : Nat → Int32) (L : Nat) {Q : P_R → P_H → Prop} (q : P_wp P_Y0 200 0 (28, [.ref 0, .ref 2, .ref 47, .ref 63, .ref 64, .int 0, P_un, P_un, P_un], [], (P_hv132 xs L)) Q) : P_wp P_Y0 200 0 (0, [.ref 0, P_un, P_un, P_un, P_un, P_un, P_un, P_un, P_un], [], (P_hv133 xs L)) Q := by
  refine P_wp_step (S' := (3, [.ref 0, P_un, P_un, P_un, P_un, P_un, P_un, P_un, P_un], [.ref 2], (P_hv0 xs L))) P_i0_0 (fun _ => rfl) ?_
  refine P_wp_step (S' := (4, [.ref 0, P_un, P_un, P_un, P_un, P_un, P_un, P_un, P_un], [.ref 2, .ref 2], (P_hv0 xs L))) P_i0_3 (fun _ => rfl) ?_
  refine P_wp_call P_i0_4 rfl rfl rfl rfl rfl rfl rfl (y2 := 137) (as := [.ref 2]) (r0 := [.ref 2]) rfl (Nat.le_of_ble_eq_true rfl) (by decide) rfl (Nat.le_of_ble_eq_true rfl) (P_x25 xs L (?_))
  show P_wp P_Y0 200 0 (7, [.ref 0, P_un, P_un, P_un, P_un, P_un, P_un, P_un, P_un], [.ref 2], (P_hv98 xs L)) _
  refine P_wp_step (S' := (8, [.ref 0, .ref 2, P_un, P_un, P_un, P_un, P_un, P_un, P_un], [], (P_hv98 xs L))) P_i0_7 (fun _ => rfl) ?_
  refine P_wp_step (S' := (11, [.ref 0, .ref 2, P_un, P_un, P_un, P_un, P_un, P_un, P_un], [.ref 47], (P_hv99 xs L))) P_i0_8 (fun _ => rfl) ?_
  refine P_wp_step (S' := (12, [.ref 0, .ref 2, P_un, P_un, P_un, P_un, P_un, P_un, P_un], [.ref 47, .ref 47], (P_hv99 xs L))) P_i0_11 (fun _ => rfl) ?_
  refine P_wp_call P_i0_12 rfl rfl rfl rfl rfl rfl rfl (y2 := 182) (as := [.ref 47]) (r0 := [.ref 47]) rfl (Nat.le_of_ble_eq_true rfl) (by decide) rfl (Nat.le_of_ble_eq_true rfl) (P_x26 xs L (?_))
  show P_wp P_Y0 200 0 (15, [.ref 0, .ref 2, P_un, P_un, P_un, P_un, P_un, P_un, P_un], [.ref 47], (P_hv130 xs L)) _
  refine P_wp_step (S' := (16, [.ref 0, .ref 2, .ref 47, P_un, P_un, P_un, P_un, P_un, P_un], [], (P_hv130 xs L))) P_i0_15 (fun _ => rfl) ?_
  refine P_wp_step (S' := (17, [.ref 0, .ref 2, .ref 47, P_un, P_un, P_un, P_un, P_un, P_un], [.int 1], (P_hv130 xs L))) P_i0_16 (fun _ => rfl) ?_
  refine P_wp_step (S' := (19, [.ref 0, .ref 2, .ref 47, P_un, P_un, P_un, P_un, P_un, P_un], [.ref 63], (P_hv131 xs L))) P_i0_17 (fun _ => rfl) ?_
  refine P_wp_step (S' := (20, [.ref 0, .ref 2, .ref 47, .ref 63, P_un, P_un, P_un, P_un, P_un], [], (P_hv131 xs L))) P_i0_19 (fun _ => rfl) ?_
  refine P_wp_step (S' := (21, [.ref 0, .ref 2, .ref 47, .ref 63, P_un, P_un, P_un, P_un, P_un], [.int 1], (P_hv131 xs L))) P_i0_20 (fun _ => rfl) ?_
  refine P_wp_step (S' := (23, [.ref 0, .ref 2, .ref 47, .ref 63, P_un, P_un, P_un, P_un, P_un], [.ref 64], (P_hv132 xs L))) P_i0_21 (fun _ => rfl) ?_
  refine P_wp_step (S' := (25, [.ref 0, .ref 2, .ref 47, .ref 63, .ref 64, P_un, P_un, P_un, P_un], [], (P_hv132 xs L))) P_i0_23 (fun _ => rfl) ?_
  refine P_wp_step (S' := (26, [.ref 0, .ref 2, .ref 47, .ref 63, .ref 64, P_un, P_un, P_un, P_un], [.int 0], (P_hv132 xs L))) P_i0_25 (fun _ => rfl) ?_
  refine P_wp_step (S' := (28, [.ref 0, .ref 2, .ref 47, .ref 63, .ref 64, .int 0, P_un, P_un, P_un], [], (P_hv132 xs L))) P_i0_26 (fun _ => rfl) ?_
  exact q

set_option maxRecDepth 20000 in
theorem P_x27 (xs : Nat → Int32) (L : Nat) (hq1 : P_cc .lt (xs 1) 1 = true) {Q : P_R → P_H → Prop} (q : Q (.inr 0) (P_hv134 xs L)) : P_wp P_Y0 198 138 (0, [.ref 2, .int (xs 1)], [], (P_hv132 xs L)) Q := by
  refine P_wp_step (S' := (1, [.ref 2, .int (xs 1)], [.int (xs 1)], (P_hv132 xs L))) P_i138_0 (fun _ => rfl) ?_
  refine P_wp_step (S' := (2, [.ref 2, .int (xs 1)], [.int 1, .int (xs 1)], (P_hv132 xs L))) P_i138_1 (fun _ => rfl) ?_
  refine P_wp_ict P_i138_2 hq1 (show P_wp P_Y0 198 138 (10, [.ref 2, .int (xs 1)], [], (P_hv132 xs L)) _ from ?_)
  refine P_wp_end (x := (.inr 0, (P_hv134 xs L))) P_i138_10 (fun _ => rfl) ?_
  exact q

set_option maxRecDepth 20000 in
theorem P_x28 (xs : Nat → Int32) (L : Nat) (hq1 : P_cc .lt (xs 1) 1 = true) {Q : P_R → P_H → Prop} (q : Q (.inl (some (.int 1))) (P_hv134 xs L)) : P_wp P_Y0 199 270 (0, [.ref 2, .int (xs 1), .ref 63, P_un], [], (P_hv132 xs L)) Q := by
  refine P_wp_step (S' := (1, [.ref 2, .int (xs 1), .ref 63, P_un], [.ref 63], (P_hv132 xs L))) P_i270_0 (fun _ => rfl) ?_
  refine P_wp_step (S' := (2, [.ref 2, .int (xs 1), .ref 63, P_un], [.int 0, .ref 63], (P_hv132 xs L))) P_i270_1 (fun _ => rfl) ?_
  refine P_wp_step (S' := (3, [.ref 2, .int (xs 1), .ref 63, P_un], [.ref 2, .int 0, .ref 63], (P_hv132 xs L))) P_i270_2 (fun _ => rfl) ?_
  refine P_wp_step (S' := (4, [.ref 2, .int (xs 1), .ref 63, P_un], [.int (xs 1), .ref 2, .int 0, .ref 63], (P_hv132 xs L))) P_i270_3 (fun _ => rfl) ?_
  refine P_wp_call P_i270_4 rfl rfl rfl rfl rfl rfl rfl (y2 := 138) (as := [.ref 2, .int (xs 1)]) (r0 := [.int 0, .ref 63]) rfl (Nat.le_of_ble_eq_true rfl) (by decide) rfl (Nat.le_of_ble_eq_true rfl) (P_x27 xs L hq1 (?_))
  refine ⟨show 3 < 4 by decide, ?_⟩
  show P_wp P_Y0 199 270 (13, [.ref 2, .int (xs 1), .ref 63, P_un], [], (P_hv134 xs L)) _
  refine P_wp_step (S' := (14, [.ref 2, .int (xs 1), .ref 63, P_un], [.int 1], (P_hv134 xs L))) P_i270_13 (fun _ => rfl) ?_
  refine P_wp_end (x := (.inl (some (.int 1)), (P_hv134 xs L))) P_i270_14 (fun _ => rfl) ?_
  exact q

set_option maxRecDepth 20000 in
theorem P_x29 (xs : Nat → Int32) (L : Nat) (hq1 : P_cc .lt (xs 1) 1 = true) {Q : P_R → P_H → Prop} (q : Q (.inl (some (.int 0))) (P_hv134 xs L)) : P_wp P_Y0 198 186 (0, [.int (xs 1), .int 1, .int 3], [], (P_hv134 xs L)) Q := by
  refine P_wp_step (S' := (1, [.int (xs 1), .int 1, .int 3], [.int (xs 1)], (P_hv134 xs L))) P_i186_0 (fun _ => rfl) ?_
  refine P_wp_step (S' := (2, [.int (xs 1), .int 1, .int 3], [.int 1, .int (xs 1)], (P_hv134 xs L))) P_i186_1 (fun _ => rfl) ?_
  refine P_wp_ict P_i186_2 hq1 (show P_wp P_Y0 198 186 (14, [.int (xs 1), .int 1, .int 3], [], (P_hv134 xs L)) _ from ?_)
  refine P_wp_step (S' := (15, [.int (xs 1), .int 1, .int 3], [.int 0], (P_hv134 xs L))) P_i186_14 (fun _ => rfl) ?_
  refine P_wp_end (x := (.inl (some (.int 0)), (P_hv134 xs L))) P_i186_15 (fun _ => rfl) ?_
  exact q

set_option maxRecDepth 20000 in
theorem P_x30 (xs : Nat → Int32) (L : Nat) {Q : P_R → P_H → Prop} (q : Q (.inl (some (.int 0))) (P_hv135 xs L)) : P_wp P_Y0 198 184 (0, [.ref 47, .int 1], [], (P_hv134 xs L)) Q := by
  refine P_wp_step (S' := (1, [.ref 47, .int 1], [.ref 47], (P_hv134 xs L))) P_i184_0 (fun _ => rfl) ?_
  refine P_wp_step (S' := (2, [.ref 47, .int 1], [.int 1, .ref 47], (P_hv134 xs L))) P_i184_1 (fun _ => rfl) ?_
  refine P_wp_step (S' := (5, [.ref 47, .int 1], [], (P_hv135 xs L))) P_i184_2 (fun _ => rfl) ?_
  refine P_wp_step (S' := (6, [.ref 47, .int 1], [.int 0], (P_hv135 xs L))) P_i184_5 (fun _ => rfl) ?_
  refine P_wp_end (x := (.inl (some (.int 0)), (P_hv135 xs L))) P_i184_6 (fun _ => rfl) ?_
  exact q

set_option maxRecDepth 20000 in
theorem P_x31 (xs : Nat → Int32) (L : Nat) (hq1 : P_cc .lt (xs 1) 1 = true) {Q : P_R → P_H → Prop} (q : Q (.inl (some (.int 0))) (P_hv135 xs L)) : P_wp P_Y0 199 188 (0, [.ref 47, .int (xs 1)], [], (P_hv134 xs L)) Q := by
  refine P_wp_step (S' := (1, [.ref 47, .int (xs 1)], [.ref 47], (P_hv134 xs L))) P_i188_0 (fun _ => rfl) ?_
  refine P_wp_step (S' := (2, [.ref 47, .int (xs 1)], [.int 0, .ref 47], (P_hv134 xs L))) P_i188_1 (fun _ => rfl) ?_
  refine P_wp_step (S' := (5, [.ref 47, .int (xs 1)], [], (P_hv134 xs L))) P_i188_2 (fun _ => rfl) ?_
  refine P_wp_step (S' := (6, [.ref 47, .int (xs 1)], [.int (xs 1)], (P_hv134 xs L))) P_i188_5 (fun _ => rfl) ?_
  refine P_wp_step (S' := (7, [.ref 47, .int (xs 1)], [.int 1, .int (xs 1)], (P_hv134 xs L))) P_i188_6 (fun _ => rfl) ?_
  refine P_wp_step (S' := (8, [.ref 47, .int (xs 1)], [.int 3, .int 1, .int (xs 1)], (P_hv134 xs L))) P_i188_7 (fun _ => rfl) ?_
  refine P_wp_call P_i188_8 rfl rfl rfl rfl rfl rfl rfl (y2 := 186) (as := [.int (xs 1), .int 1, .int 3]) (r0 := []) rfl (Nat.le_of_ble_eq_true rfl) (by decide) rfl (Nat.le_of_ble_eq_true rfl) (P_x29 xs L hq1 (?_))
  show P_wp P_Y0 199 188 (11, [.ref 47, .int (xs 1)], [.int 0], (P_hv134 xs L)) _
  refine P_wp_izf P_i188_11 P_b19 (show P_wp P_Y0 199 188 (14, [.ref 47, .int (xs 1)], [], (P_hv134 xs L)) _ from ?_)
  refine P_wp_step (S' := (15, [.ref 47, .int (xs 1)], [.ref 47], (P_hv134 xs L))) P_i188_14 (fun _ => rfl) ?_
  refine P_wp_step (S' := (16, [.ref 47, .int (xs 1)], [.int 1, .ref 47], (P_hv134 xs L))) P_i188_15 (fun _ => rfl) ?_
  refine P_wp_call P_i188_16 rfl rfl rfl rfl rfl rfl rfl (y2 := 184) (as := [.ref 47, .int 1]) (r0 := []) rfl (Nat.le_of_ble_eq_true rfl) (by decide) rfl (Nat.le_of_ble_eq_true rfl) (P_x30 xs L (?_))
  show P_wp P_Y0 199 188 (19, [.ref 47, .int (xs 1)], [.int 0], (P_hv135 xs L)) _
  refine P_wp_end (x := (.inl (some (.int 0)), (P_hv135 xs L))) P_i188_19 (fun _ => rfl) ?_
  exact q

set_option maxRecDepth 20000 in
theorem P_x32 (xs : Nat → Int32) (L : Nat) {Q : P_R → P_H → Prop} (q : Q (.inl (some (.int 1))) (P_hv135 xs L)) : P_wp P_Y0 199 183 (0, [.ref 47], [], (P_hv135 xs L)) Q := by
  refine P_wp_step (S' := (1, [.ref 47], [.ref 47], (P_hv135 xs L))) P_i183_0 (fun _ => rfl) ?_
  refine P_wp_step (S' := (4, [.ref 47], [.int 1], (P_hv135 xs L))) P_i183_1 (fun _ => rfl) ?_
  refine P_wp_end (x := (.inl (some (.int 1)), (P_hv135 xs L))) P_i183_4 (fun _ => rfl) ?_
  exact q

set_option maxRecDepth 20000 in
theorem P_x33 (xs : Nat → Int32) (L : Nat) {Q : P_R → P_H → Prop} (q : Q (.inl (some (.int 0))) (P_hv132 xs L)) : P_wp P_Y0 197 114 (0, [.ref 3], [], (P_hv132 xs L)) Q := by
  refine P_wp_step (S' := (1, [.ref 3], [.ref 3], (P_hv132 xs L))) P_i114_0 (fun _ => rfl) ?_
  refine P_wp_step (S' := (4, [.ref 3], [.int 0], (P_hv132 xs L))) P_i114_1 (fun _ => rfl) ?_
  refine P_wp_end (x := (.inl (some (.int 0)), (P_hv132 xs L))) P_i114_4 (fun _ => rfl) ?_
  exact q

set_option maxRecDepth 20000 in
theorem P_x34 (xs : Nat → Int32) (L : Nat) {Q : P_R → P_H → Prop} (q : Q (.inl none) (P_hv141 xs L)) : P_wp P_Y0 196 118 (0, [.ref 65, .int (xs 1)], [], (P_hv136 xs L)) Q := by
  refine P_wp_step (S' := (1, [.ref 65, .int (xs 1)], [.ref 65], (P_hv136 xs L))) P_i118_0 (fun _ => rfl) ?_
  refine P_wp_step (S' := (4, [.ref 65, .int (xs 1)], [], (P_hv136 xs L))) P_i118_1 (fun _ => rfl) ?_
  refine P_wp_step (S' := (5, [.ref 65, .int (xs 1)], [.ref 65], (P_hv136 xs L))) P_i118_4 (fun _ => rfl) ?_
  refine P_wp_step (S' := (6, [.ref 65, .int (xs 1)], [.int (xs 1), .ref 65], (P_hv136 xs L))) P_i118_5 (fun _ => rfl) ?_
  refine P_wp_step (S' := (9, [.ref 65, .int (xs 1)], [], (P_hv137 xs L))) P_i118_6 (fun _ => rfl) ?_
  refine P_wp_step (S' := (10, [.ref 65, .int (xs 1)], [.ref 65], (P_hv137 xs L))) P_i118_9 (fun _ => rfl) ?_
  refine P_wp_step (S' := (12, [.ref 65, .int (xs 1)], [.int 42, .ref 65], (P_hv137 xs L))) P_i118_10 (fun _ => rfl) ?_
  refine P_wp_step (S' := (14, [.ref 65, .int (xs 1)], [.ref 66, .ref 65], (P_hv138 xs L))) P_i118_12 (fun _ => rfl) ?_
  refine P_wp_step (S' := (17, [.ref 65, .int (xs 1)], [], (P_hv139 xs L))) P_i118_14 (fun _ => rfl) ?_
  refine P_wp_step (S' := (18, [.ref 65, .int (xs 1)], [.ref 65], (P_hv139 xs L))) P_i118_17 (fun _ => rfl) ?_
  refine P_wp_step (S' := (19, [.ref 65, .int (xs 1)], [.int 3, .ref 65], (P_hv139 xs L))) P_i118_18 (fun _ => rfl) ?_
  refine P_wp_step (S' := (21, [.ref 65, .int (xs 1)], [.ref 67, .ref 65], (P_hv140 xs L))) P_i118_19 (fun _ => rfl) ?_
  refine P_wp_step (S' := (24, [.ref 65, .int (xs 1)], [], (P_hv141 xs L))) P_i118_21 (fun _ => rfl) ?_
  refine P_wp_end (x := (.inl none, (P_hv141 xs L))) P_i118_24 (fun _ => rfl) ?_
  exact q

set_option maxRecDepth 20000 in
theorem P_x35 (xs : Nat → Int32) (L : Nat) {Q : P_R → P_H → Prop} (q : Q (.inl (some (.int 0))) (P_hv143 xs L)) : P_wp P_Y0 197 117 (0, [.ref 3, .int (xs 1), P_un], [], (P_hv132 xs L)) Q := by
  refine P_wp_step (S' := (1, [.ref 3, .int (xs 1), P_un], [.ref 3], (P_hv132 xs L))) P_i117_0 (fun _ => rfl) ?_
  refine P_wp_step (S' := (4, [.ref 3, .int (xs 1), P_un], [.int 0], (P_hv132 xs L))) P_i117_1 (fun _ => rfl) ?_
  refine P_wp_step (S' := (5, [.ref 3, .int (xs 1), .int 0], [], (P_hv132 xs L))) P_i117_4 (fun _ => rfl) ?_
  refine P_wp_step (S' := (6, [.ref 3, .int (xs 1), .int 0], [.int 0], (P_hv132 xs L))) P_i117_5 (fun _ => rfl) ?_
  refine P_wp_izf P_i117_6 P_b24 (show P_wp P_Y0 197 117 (9, [.ref 3, .int (xs 1), .int 0], [], (P_hv132 xs L)) _ from ?_)
  refine P_wp_step (S' := (10, [.ref 3, .int (xs 1), .int 0], [.int 0], (P_hv132 xs L))) P_i117_9 (fun _ => rfl) ?_
  refine P_wp_step (S' := (11, [.ref 3, .int (xs 1), .int 0], [.ref 3, .int 0], (P_hv132 xs L))) P_i117_10 (fun _ => rfl) ?_
  refine P_wp_step (S' := (14, [.ref 3, .int (xs 1), .int 0], [.ref 4, .int 0], (P_hv132 xs L))) P_i117_11 (fun _ => rfl) ?_
  refine P_wp_step (S' := (15, [.ref 3, .int (xs 1), .int 0], [.int 5, .int 0], (P_hv132 xs L))) P_i117_14 (fun _ => rfl) ?_
  refine P_wp_icf P_i117_15 P_b25 (show P_wp P_Y0 197 117 (18, [.ref 3, .int (xs 1), .int 0], [], (P_hv132 xs L)) _ from ?_)
  refine P_wp_step (S' := (19, [.ref 3, .int (xs 1), .int 0], [.ref 3], (P_hv132 xs L))) P_i117_18 (fun _ => rfl) ?_
  refine P_wp_step (S' := (22, [.ref 3, .int (xs 1), .int 0], [.ref 4], (P_hv132 xs L))) P_i117_19 (fun _ => rfl) ?_
  refine P_wp_step (S' := (23, [.ref 3, .int (xs 1), .int 0], [.int 0, .ref 4], (P_hv132 xs L))) P_i117_22 (fun _ => rfl) ?_
  refine P_wp_step (S' := (26, [.ref 3, .int (xs 1), .int 0], [.ref 65, .int 0, .ref 4], (P_hv136 xs L))) P_i117_23 (fun _ => rfl) ?_
  refine P_wp_step (S' := (27, [.ref 3, .int (xs 1), .int 0], [.ref 65, .ref 65, .int 0, .ref 4], (P_hv136 xs L))) P_i117_26 (fun _ => rfl) ?_
  refine P_wp_step (S' := (28, [.ref 3, .int (xs 1), .int 0], [.int (xs 1), .ref 65, .ref 65, .int 0, .ref 4], (P_hv136 xs L))) P_i117_27 (fun _ => rfl) ?_
  refine P_wp_call P_i117_28 rfl rfl rfl rfl rfl rfl rfl (y2 := 118) (as := [.ref 65, .int (xs 1)]) (r0 := [.ref 65, .int 0, .ref 4]) rfl (Nat.le_of_ble_eq_true rfl) (by decide) rfl (Nat.le_of_ble_eq_true rfl) (P_x34 xs L (?_))
  show P_wp P_Y0 197 117 (31, [.ref 3, .int (xs 1), .int 0], [.ref 65, .int 0, .ref 4], (P_hv141 xs L)) _
  refine P_wp_step (S' := (32, [.ref 3, .int (xs 1), .int 0], [], (P_hv142 xs L))) P_i117_31 (fun _ => rfl) ?_
  refine P_wp_step (S' := (33, [.ref 3, .int (xs 1), .int 0], [.ref 3], (P_hv142 xs L))) P_i117_32 (fun _ => rfl) ?_
  refine P_wp_step (S' := (34, [.ref 3, .int (xs 1), .int 0], [.ref 3, .ref 3], (P_hv142 xs L))) P_i117_33 (fun _ => rfl) ?_
  refine P_wp_step (S' := (37, [.ref 3, .int (xs 1), .int 0], [.int 0, .ref 3], (P_hv142 xs L))) P_i117_34 (fun _ => rfl) ?_
  refine P_wp_step (S' := (38, [.ref 3, .int (xs 1), .int 0], [.int 1, .int 0, .ref 3], (P_hv142 xs L))) P_i117_37 (fun _ => rfl) ?_
  refine P_wp_step (S' := (39, [.ref 3, .int (xs 1), .int 0], [.int 1, .ref 3], (P_hv142 xs L))) P_i117_38 (fun _ => rfl) ?_
  refine P_wp_step (S' := (42, [.ref 3, .int (xs 1), .int 0], [], (P_hv143 xs L))) P_i117_39 (fun _ => rfl) ?_
  refine P_wp_step (S' := (43, [.ref 3, .int (xs 1), .int 0], [.int 0], (P_hv143 xs L))) P_i117_42 (fun _ => rfl) ?_
  refine P_wp_end (x := (.inl (some (.int 0)), (P_hv143 xs L))) P_i117_43 (fun _ => rfl) ?_
  exact q

set_option maxRecDepth 20000 in
theorem P_x36 (xs : Nat → Int32) (L : Nat) (hq1 : P_cc .lt (xs 1) 1 = false) (hq2 : P_cc .le (xs 1) 3 = true) {Q : P_R → P_H → Prop} (q : Q (.inl (some (.int 0))) (P_hv143 xs L)) : P_wp P_Y0 198 138 (0, [.ref 2, .int (xs 1)], [], (P_hv132 xs L)) Q := by
  refine P_wp_step (S' := (1, [.ref 2, .int (xs 1)], [.int (xs 1)], (P_hv132 xs L))) P_i138_0 (fun _ => rfl) ?_
  refine P_wp_step (S' := (2, [.ref 2, .int (xs 1)], [.int 1, .int (xs 1)], (P_hv132 xs L))) P_i138_1 (fun _ => rfl) ?_
  refine P_wp_icf P_i138_2 hq1 (show P_wp P_Y0 198 138 (5, [.ref 2, .int (xs 1)], [], (P_hv132 xs L)) _ from ?_)
  refine P_wp_step (S' := (6, [.ref 2, .int (xs 1)], [.int (xs 1)], (P_hv132 xs L))) P_i138_5 (fun _ => rfl) ?_
  refine P_wp_step (S' := (7, [.ref 2, .int (xs 1)], [.int 3, .int (xs 1)], (P_hv132 xs L))) P_i138_6 (fun _ => rfl) ?_
  refine P_wp_ict P_i138_7 hq2 (show P_wp P_Y0 198 138 (20, [.ref 2, .int (xs 1)], [], (P_hv132 xs L)) _ from ?_)
  refine P_wp_step (S' := (21, [.ref 2, .int (xs 1)], [.ref 2], (P_hv132 xs L))) P_i138_20 (fun _ => rfl) ?_
  refine P_wp_step (S' := (24, [.ref 2, .int (xs 1)], [.ref 3], (P_hv132 xs L))) P_i138_21 (fun _ => rfl) ?_
  refine P_wp_call P_i138_24 rfl rfl rfl rfl rfl rfl rfl (y2 := 114) (as := [.ref 3]) (r0 := []) rfl (Nat.le_of_ble_eq_true rfl) (by decide) rfl (Nat.le_of_ble_eq_true rfl) (P_x33 xs L (?_))
  show P_wp P_Y0 198 138 (27, [.ref 2, .int (xs 1)], [.int 0], (P_hv132 xs L)) _
  refine P_wp_step (S' := (28, [.ref 2, .int (xs 1)], [.int 5, .int 0], (P_hv132 xs L))) P_i138_27 (fun _ => rfl) ?_
  refine P_wp_ict P_i138_28 P_b23 (show P_wp P_Y0 198 138 (41, [.ref 2, .int (xs 1)], [], (P_hv132 xs L)) _ from ?_)
  refine P_wp_step (S' := (42, [.ref 2, .int (xs 1)], [.ref 2], (P_hv132 xs L))) P_i138_41 (fun _ => rfl) ?_
  refine P_wp_step (S' := (45, [.ref 2, .int (xs 1)], [.ref 3], (P_hv132 xs L))) P_i138_42 (fun _ => rfl) ?_
  refine P_wp_step (S' := (46, [.ref 2, .int (xs 1)], [.int (xs 1), .ref 3], (P_hv132 xs L))) P_i138_45 (fun _ => rfl) ?_
  refine P_wp_call P_i138_46 rfl rfl rfl rfl rfl rfl rfl (y2 := 117) (as := [.ref 3, .int (xs 1)]) (r0 := []) rfl (Nat.le_of_ble_eq_true rfl) (by decide) rfl (Nat.le_of_ble_eq_true rfl) (P_x35 xs L (?_))
  show P_wp P_Y0 198 138 (49, [.ref 2, .int (xs 1)], [.int 0], (P_hv143 xs L)) _
  refine P_wp_end (x := (.inl (some (.int 0)), (P_hv143 xs L))) P_i138_49 (fun _ => rfl) ?_
  exact q

set_option maxRecDepth 20000 in
theorem P_x37 (xs : Nat → Int32) (L : Nat) (hq1 : P_cc .lt (xs 1) 1 = false) (hq2 : P_cc .le (xs 1) 3 = true) {Q : P_R → P_H → Prop} (q : Q (.inl (some (.int 0))) (P_hv144 xs L)) : P_wp P_Y0 199 270 (0, [.ref 2, .int (xs 1), .ref 63, P_un], [], (P_hv132 xs L)) Q := by
  refine P_wp_step (S' := (1, [.ref 2, .int (xs 1), .ref 63, P_un], [.ref 63], (P_hv132 xs L))) P_i270_0 (fun _ => rfl) ?_
  refine P_wp_step (S' := (2, [.ref 2, .int (xs 1), .ref 63, P_un], [.int 0, .ref 63], (P_hv132 xs L))) P_i270_1 (fun _ => rfl) ?_
  refine P_wp_step (S' := (3, [.ref 2, .int (xs 1), .ref 63, P_un], [.ref 2, .int 0, .ref 63], (P_hv132 xs L))) P_i270_2 (fun _ => rfl) ?_
  refine P_wp_step (S' := (4, [.ref 2, .int (xs 1), .ref 63, P_un], [.int (xs 1), .ref 2, .int 0, .ref 63], (P_hv132 xs L))) P_i270_3 (fun _ => rfl) ?_
  refine P_wp_call P_i270_4 rfl rfl rfl rfl rfl rfl rfl (y2 := 138) (as := [.ref 2, .int (xs 1)]) (r0 := [.int 0, .ref 63]) rfl (Nat.le_of_ble_eq_true rfl) (by decide) rfl (Nat.le_of_ble_eq_true rfl) (P_x36 xs L hq1 hq2 (?_))
  show P_wp P_Y0 199 270 (7, [.ref 2, .int (xs 1), .ref 63, P_un], [.int 0, .int 0, .ref 63], (P_hv143 xs L)) _
  refine P_wp_step (S' := (8, [.ref 2, .int (xs 1), .ref 63, P_un], [.long 0, .int 0, .ref 63], (P_hv143 xs L))) P_i270_7 (fun _ => rfl) ?_
  refine P_wp_step (S' := (9, [.ref 2, .int (xs 1), .ref 63, P_un], [], (P_hv144 xs L))) P_i270_8 (fun _ => rfl) ?_
  refine P_wp_step (S' := (18, [.ref 2, .int (xs 1), .ref 63, P_un], [], (P_hv144 xs L))) P_i270_9 (fun _ => rfl) ?_
  refine P_wp_step (S' := (19, [.ref 2, .int (xs 1), .ref 63, P_un], [.int 0], (P_hv144 xs L))) P_i270_18 (fun _ => rfl) ?_
  refine P_wp_end (x := (.inl (some (.int 0)), (P_hv144 xs L))) P_i270_19 (fun _ => rfl) ?_
  exact q

set_option maxRecDepth 20000 in
theorem P_x38 (xs : Nat → Int32) (L : Nat) (hq1 : P_cc .lt (xs 1) 1 = false) (hq2 : P_cc .gt (xs 1) 3 = false) {Q : P_R → P_H → Prop} (q : Q (.inl (some (.int 1))) (P_hv144 xs L)) : P_wp P_Y0 198 186 (0, [.int (xs 1), .int 1, .int 3], [], (P_hv144 xs L)) Q := by
  refine P_wp_step (S' := (1, [.int (xs 1), .int 1, .int 3], [.int (xs 1)], (P_hv144 xs L))) P_i186_0 (fun _ => rfl) ?_
  refine P_wp_step (S' := (2, [.int (xs 1), .int 1, .int 3], [.int 1, .int (xs 1)], (P_hv144 xs L))) P_i186_1 (fun _ => rfl) ?_
  refine P_wp_icf P_i186_2 hq1 (show P_wp P_Y0 198 186 (5, [.int (xs 1), .int 1, .int 3], [], (P_hv144 xs L)) _ from ?_)
  refine P_wp_step (S' := (6, [.int (xs 1), .int 1, .int 3], [.int (xs 1)], (P_hv144 xs L))) P_i186_5 (fun _ => rfl) ?_
  refine P_wp_step (S' := (7, [.int (xs 1), .int 1, .int 3], [.int 3, .int (xs 1)], (P_hv144 xs L))) P_i186_6 (fun _ => rfl) ?_
  refine P_wp_icf P_i186_7 hq2 (show P_wp P_Y0 198 186 (10, [.int (xs 1), .int 1, .int 3], [], (P_hv144 xs L)) _ from ?_)
  refine P_wp_step (S' := (11, [.int (xs 1), .int 1, .int 3], [.int 1], (P_hv144 xs L))) P_i186_10 (fun _ => rfl) ?_
  refine P_wp_step (S' := (15, [.int (xs 1), .int 1, .int 3], [.int 1], (P_hv144 xs L))) P_i186_11 (fun _ => rfl) ?_
  refine P_wp_end (x := (.inl (some (.int 1)), (P_hv144 xs L))) P_i186_15 (fun _ => rfl) ?_
  exact q

set_option maxRecDepth 20000 in
theorem P_x39 (xs : Nat → Int32) (L : Nat) (hq1 : P_cc .lt (xs 1) 1 = false) (hq2 : P_cc .gt (xs 1) 3 = false) {Q : P_R → P_H → Prop} (q : Q (.inl (some (.int 0))) (P_hv146 xs L)) : P_wp P_Y0 199 188 (0, [.ref 47, .int (xs 1)], [], (P_hv144 xs L)) Q := by
  refine P_wp_step (S' := (1, [.ref 47, .int (xs 1)], [.ref 47], (P_hv144 xs L))) P_i188_0 (fun _ => rfl) ?_
  refine P_wp_step (S' := (2, [.ref 47, .int (xs 1)], [.int 0, .ref 47], (P_hv144 xs L))) P_i188_1 (fun _ => rfl) ?_
  refine P_wp_step (S' := (5, [.ref 47, .int (xs 1)], [], (P_hv144 xs L))) P_i188_2 (fun _ => rfl) ?_
  refine P_wp_step (S' := (6, [.ref 47, .int (xs 1)], [.int (xs 1)], (P_hv144 xs L))) P_i188_5 (fun _ => rfl) ?_
  refine P_wp_step (S' := (7, [.ref 47, .int (xs 1)], [.int 1, .int (xs 1)], (P_hv144 xs L))) P_i188_6 (fun _ => rfl) ?_
  refine P_wp_step (S' := (8, [.ref 47, .int (xs 1)], [.int 3, .int 1, .int (xs 1)], (P_hv144 xs L))) P_i188_7 (fun _ => rfl) ?_
  refine P_wp_call P_i188_8 rfl rfl rfl rfl rfl rfl rfl (y2 := 186) (as := [.int (xs 1), .int 1, .int 3]) (r0 := []) rfl (Nat.le_of_ble_eq_true rfl) (by decide) rfl (Nat.le_of_ble_eq_true rfl) (P_x38 xs L hq1 hq2 (?_))
  show P_wp P_Y0 199 188 (11, [.ref 47, .int (xs 1)], [.int 1], (P_hv144 xs L)) _
  refine P_wp_izt P_i188_11 P_b21 (show P_wp P_Y0 199 188 (20, [.ref 47, .int (xs 1)], [], (P_hv144 xs L)) _ from ?_)
  refine P_wp_step (S' := (21, [.ref 47, .int (xs 1)], [.ref 47], (P_hv144 xs L))) P_i188_20 (fun _ => rfl) ?_
  refine P_wp_step (S' := (24, [.ref 47, .int (xs 1)], [.int 0], (P_hv144 xs L))) P_i188_21 (fun _ => rfl) ?_
  refine P_wp_step (S' := (25, [.ref 47, .int (xs 1)], [.int 5, .int 0], (P_hv144 xs L))) P_i188_24 (fun _ => rfl) ?_
  refine P_wp_ict P_i188_25 P_b26 (show P_wp P_Y0 199 188 (34, [.ref 47, .int (xs 1)], [], (P_hv144 xs L)) _ from ?_)
  refine P_wp_step (S' := (35, [.ref 47, .int (xs 1)], [.ref 47], (P_hv144 xs L))) P_i188_34 (fun _ => rfl) ?_
  refine P_wp_step (S' := (38, [.ref 47, .int (xs 1)], [.ref 48], (P_hv144 xs L))) P_i188_35 (fun _ => rfl) ?_
  refine P_wp_step (S' := (39, [.ref 47, .int (xs 1)], [.ref 47, .ref 48], (P_hv144 xs L))) P_i188_38 (fun _ => rfl) ?_
  refine P_wp_step (S' := (42, [.ref 47, .int (xs 1)], [.int 0, .ref 48], (P_hv144 xs L))) P_i188_39 (fun _ => rfl) ?_
  refine P_wp_step (S' := (43, [.ref 47, .int (xs 1)], [.int (xs 1), .int 0, .ref 48], (P_hv144 xs L))) P_i188_42 (fun _ => rfl) ?_
  refine P_wp_step (S' := (44, [.ref 47, .int (xs 1)], [], (P_hv145 xs L))) P_i188_43 (fun _ => rfl) ?_
  refine P_wp_step (S' := (45, [.ref 47, .int (xs 1)], [.ref 47], (P_hv145 xs L))) P_i188_44 (fun _ => rfl) ?_
  refine P_wp_step (S' := (46, [.ref 47, .int (xs 1)], [.ref 47, .ref 47], (P_hv145 xs L))) P_i188_45 (fun _ => rfl) ?_
  refine P_wp_step (S' := (49, [.ref 47, .int (xs 1)], [.int 0, .ref 47], (P_hv145 xs L))) P_i188_46 (fun _ => rfl) ?_
  refine P_wp_step (S' := (50, [.ref 47, .int (xs 1)], [.int 0, .ref 47, .int 0], (P_hv145 xs L))) P_i188_49 (fun _ => rfl) ?_
  refine P_wp_step (S' := (51, [.ref 47, .int (xs 1)], [.int 1, .int 0, .ref 47, .int 0], (P_hv145 xs L))) P_i188_50 (fun _ => rfl) ?_
  refine P_wp_step (S' := (52, [.ref 47, .int (xs 1)], [.int 1, .ref 47, .int 0], (P_hv145 xs L))) P_i188_51 (fun _ => rfl) ?_
  refine P_wp_step (S' := (55, [.ref 47, .int (xs 1)], [.int 0], (P_hv146 xs L))) P_i188_52 (fun _ => rfl) ?_
  refine P_wp_end (x := (.inl (some (.int 0)), (P_hv146 xs L))) P_i188_55 (fun _ => rfl) ?_
  exact q

set_option maxRecDepth 20000 in
theorem P_x40 (xs : Nat → Int32) (L : Nat) {Q : P_R → P_H → Prop} (q : Q (.inl (some (.int 0))) (P_hv146 xs L)) : P_wp P_Y0 199 183 (0, [.ref 47], [], (P_hv146 xs L)) Q := by
  refine P_wp_step (S' := (1, [.ref 47], [.ref 47], (P_hv146 xs L))) P_i183_0 (fun _ => rfl) ?_
  refine P_wp_step (S' := (4, [.ref 47], [.int 0], (P_hv146 xs L))) P_i183_1 (fun _ => rfl) ?_
  refine P_wp_end (x := (.inl (some (.int 0)), (P_hv146 xs L))) P_i183_4 (fun _ => rfl) ?_
  exact q

set_option maxRecDepth 20000 in
theorem P_x41 (xs : Nat → Int32) (L : Nat) (hq1 : P_cc .lt (xs 1) 1 = false) (hq2 : P_cc .le (xs 1) 3 = false) {Q : P_R → P_H → Prop} (q : Q (.inr 0) (P_hv134 xs L)) : P_wp P_Y0 198 138 (0, [.ref 2, .int (xs 1)], [], (P_hv132 xs L)) Q := by
  refine P_wp_step (S' := (1, [.ref 2, .int (xs 1)], [.int (xs 1)], (P_hv132 xs L))) P_i138_0 (fun _ => rfl) ?_
  refine P_wp_step (S' := (2, [.ref 2, .int (xs 1)], [.int 1, .int (xs 1)], (P_hv132 xs L))) P_i138_1 (fun _ => rfl) ?_
  refine P_wp_icf P_i138_2 hq1 (show P_wp P_Y0 198 138 (5, [.ref 2, .int (xs 1)], [], (P_hv132 xs L)) _ from ?_)
  refine P_wp_step (S' := (6, [.ref 2, .int (xs 1)], [.int (xs 1)], (P_hv132 xs L))) P_i138_5 (fun _ => rfl) ?_
  refine P_wp_step (S' := (7, [.ref 2, .int (xs 1)], [.int 3, .int (xs 1)], (P_hv132 xs L))) P_i138_6 (fun _ => rfl) ?_
  refine P_wp_icf P_i138_7 hq2 (show P_wp P_Y0 198 138 (10, [.ref 2, .int (xs 1)], [], (P_hv132 xs L)) _ from ?_)
  refine P_wp_end (x := (.inr 0, (P_hv134 xs L))) P_i138_10 (fun _ => rfl) ?_
  exact q

set_option maxRecDepth 20000 in
theorem P_x42 (xs : Nat → Int32) (L : Nat) (hq1 : P_cc .lt (xs 1) 1 = false) (hq2 : P_cc .le (xs 1) 3 = false) {Q : P_R → P_H → Prop} (q : Q (.inl (some (.int 1))) (P_hv134 xs L)) : P_wp P_Y0 199 270 (0, [.ref 2, .int (xs 1), .ref 63, P_un], [], (P_hv132 xs L)) Q := by
  refine P_wp_step (S' := (1, [.ref 2, .int (xs 1), .ref 63, P_un], [.ref 63], (P_hv132 xs L))) P_i270_0 (fun _ => rfl) ?_
  refine P_wp_step (S' := (2, [.ref 2, .int (xs 1), .ref 63, P_un], [.int 0, .ref 63], (P_hv132 xs L))) P_i270_1 (fun _ => rfl) ?_
  refine P_wp_step (S' := (3, [.ref 2, .int (xs 1), .ref 63, P_un], [.ref 2, .int 0, .ref 63], (P_hv132 xs L))) P_i270_2 (fun _ => rfl) ?_
  refine P_wp_step (S' := (4, [.ref 2, .int (xs 1), .ref 63, P_un], [.int (xs 1), .ref 2, .int 0, .ref 63], (P_hv132 xs L))) P_i270_3 (fun _ => rfl) ?_
  refine P_wp_call P_i270_4 rfl rfl rfl rfl rfl rfl rfl (y2 := 138) (as := [.ref 2, .int (xs 1)]) (r0 := [.int 0, .ref 63]) rfl (Nat.le_of_ble_eq_true rfl) (by decide) rfl (Nat.le_of_ble_eq_true rfl) (P_x41 xs L hq1 hq2 (?_))
  refine ⟨show 3 < 4 by decide, ?_⟩
  show P_wp P_Y0 199 270 (13, [.ref 2, .int (xs 1), .ref 63, P_un], [], (P_hv134 xs L)) _
  refine P_wp_step (S' := (14, [.ref 2, .int (xs 1), .ref 63, P_un], [.int 1], (P_hv134 xs L))) P_i270_13 (fun _ => rfl) ?_
  refine P_wp_end (x := (.inl (some (.int 1)), (P_hv134 xs L))) P_i270_14 (fun _ => rfl) ?_
  exact q

set_option maxRecDepth 20000 in
theorem P_x43 (xs : Nat → Int32) (L : Nat) (hq1 : P_cc .lt (xs 1) 1 = false) (hq2 : P_cc .gt (xs 1) 3 = true) {Q : P_R → P_H → Prop} (q : Q (.inl (some (.int 0))) (P_hv134 xs L)) : P_wp P_Y0 198 186 (0, [.int (xs 1), .int 1, .int 3], [], (P_hv134 xs L)) Q := by
  refine P_wp_step (S' := (1, [.int (xs 1), .int 1, .int 3], [.int (xs 1)], (P_hv134 xs L))) P_i186_0 (fun _ => rfl) ?_
  refine P_wp_step (S' := (2, [.int (xs 1), .int 1, .int 3], [.int 1, .int (xs 1)], (P_hv134 xs L))) P_i186_1 (fun _ => rfl) ?_
  refine P_wp_icf P_i186_2 hq1 (show P_wp P_Y0 198 186 (5, [.int (xs 1), .int 1, .int 3], [], (P_hv134 xs L)) _ from ?_)
  refine P_wp_step (S' := (6, [.int (xs 1), .int 1, .int 3], [.int (xs 1)], (P_hv134 xs L))) P_i186_5 (fun _ => rfl) ?_
  refine P_wp_step (S' := (7, [.int (xs 1), .int 1, .int 3], [.int 3, .int (xs 1)], (P_hv134 xs L))) P_i186_6 (fun _ => rfl) ?_
  refine P_wp_ict P_i186_7 hq2 (show P_wp P_Y0 198 186 (14, [.int (xs 1), .int 1, .int 3], [], (P_hv134 xs L)) _ from ?_)
  refine P_wp_step (S' := (15, [.int (xs 1), .int 1, .int 3], [.int 0], (P_hv134 xs L))) P_i186_14 (fun _ => rfl) ?_
  refine P_wp_end (x := (.inl (some (.int 0)), (P_hv134 xs L))) P_i186_15 (fun _ => rfl) ?_
  exact q

set_option maxRecDepth 20000 in
theorem P_x44 (xs : Nat → Int32) (L : Nat) (hq1 : P_cc .lt (xs 1) 1 = false) (hq2 : P_cc .gt (xs 1) 3 = true) {Q : P_R → P_H → Prop} (q : Q (.inl (some (.int 0))) (P_hv135 xs L)) : P_wp P_Y0 199 188 (0, [.ref 47, .int (xs 1)], [], (P_hv134 xs L)) Q := by
  refine P_wp_step (S' := (1, [.ref 47, .int (xs 1)], [.ref 47], (P_hv134 xs L))) P_i188_0 (fun _ => rfl) ?_
  refine P_wp_step (S' := (2, [.ref 47, .int (xs 1)], [.int 0, .ref 47], (P_hv134 xs L))) P_i188_1 (fun _ => rfl) ?_
  refine P_wp_step (S' := (5, [.ref 47, .int (xs 1)], [], (P_hv134 xs L))) P_i188_2 (fun _ => rfl) ?_
  refine P_wp_step (S' := (6, [.ref 47, .int (xs 1)], [.int (xs 1)], (P_hv134 xs L))) P_i188_5 (fun _ => rfl) ?_
  refine P_wp_step (S' := (7, [.ref 47, .int (xs 1)], [.int 1, .int (xs 1)], (P_hv134 xs L))) P_i188_6 (fun _ => rfl) ?_
  refine P_wp_step (S' := (8, [.ref 47, .int (xs 1)], [.int 3, .int 1, .int (xs 1)], (P_hv134 xs L))) P_i188_7 (fun _ => rfl) ?_
  refine P_wp_call P_i188_8 rfl rfl rfl rfl rfl rfl rfl (y2 := 186) (as := [.int (xs 1), .int 1, .int 3]) (r0 := []) rfl (Nat.le_of_ble_eq_true rfl) (by decide) rfl (Nat.le_of_ble_eq_true rfl) (P_x43 xs L hq1 hq2 (?_))
  show P_wp P_Y0 199 188 (11, [.ref 47, .int (xs 1)], [.int 0], (P_hv134 xs L)) _
  refine P_wp_izf P_i188_11 P_b19 (show P_wp P_Y0 199 188 (14, [.ref 47, .int (xs 1)], [], (P_hv134 xs L)) _ from ?_)
  refine P_wp_step (S' := (15, [.ref 47, .int (xs 1)], [.ref 47], (P_hv134 xs L))) P_i188_14 (fun _ => rfl) ?_
  refine P_wp_step (S' := (16, [.ref 47, .int (xs 1)], [.int 1, .ref 47], (P_hv134 xs L))) P_i188_15 (fun _ => rfl) ?_
  refine P_wp_call P_i188_16 rfl rfl rfl rfl rfl rfl rfl (y2 := 184) (as := [.ref 47, .int 1]) (r0 := []) rfl (Nat.le_of_ble_eq_true rfl) (by decide) rfl (Nat.le_of_ble_eq_true rfl) (P_x30 xs L (?_))
  show P_wp P_Y0 199 188 (19, [.ref 47, .int (xs 1)], [.int 0], (P_hv135 xs L)) _
  refine P_wp_end (x := (.inl (some (.int 0)), (P_hv135 xs L))) P_i188_19 (fun _ => rfl) ?_
  exact q

set_option maxRecDepth 20000 in
theorem P_x45 (xs : Nat → Int32) (L : Nat) (hq1 : P_cc .lt (xs 1) 0 = true) {Q : P_R → P_H → Prop} (q : Q (.inl (some (.int 0))) (P_hv132 xs L)) : P_wp P_Y0 197 115 (0, [.ref 3, .int (xs 1)], [], (P_hv132 xs L)) Q := by
  refine P_wp_step (S' := (1, [.ref 3, .int (xs 1)], [.int (xs 1)], (P_hv132 xs L))) P_i115_0 (fun _ => rfl) ?_
  refine P_wp_izt P_i115_1 hq1 (show P_wp P_Y0 197 115 (16, [.ref 3, .int (xs 1)], [], (P_hv132 xs L)) _ from ?_)
  refine P_wp_step (S' := (17, [.ref 3, .int (xs 1)], [.int 0], (P_hv132 xs L))) P_i115_16 (fun _ => rfl) ?_
  refine P_wp_end (x := (.inl (some (.int 0)), (P_hv132 xs L))) P_i115_17 (fun _ => rfl) ?_
  exact q

set_option maxRecDepth 20000 in
theorem P_x46 (xs : Nat → Int32) (L : Nat) (hq1 : P_cc .lt (xs 1) 0 = true) {Q : P_R → P_H → Prop} (q : Q (.inr 2) (P_hv134 xs L)) : P_wp P_Y0 198 139 (0, [.ref 2, .int (xs 1), .int (xs 2), .int (xs 3), .int (xs 4), P_un, P_un], [], (P_hv132 xs L)) Q := by
  refine P_wp_step (S' := (1, [.ref 2, .int (xs 1), .int (xs 2), .int (xs 3), .int (xs 4), P_un, P_un], [.ref 2], (P_hv132 xs L))) P_i139_0 (fun _ => rfl) ?_
  refine P_wp_step (S' := (4, [.ref 2, .int (xs 1), .int (xs 2), .int (xs 3), .int (xs 4), P_un, P_un], [.ref 3], (P_hv132 xs L))) P_i139_1 (fun _ => rfl) ?_
  refine P_wp_step (S' := (5, [.ref 2, .int (xs 1), .int (xs 2), .int (xs 3), .int (xs 4), P_un, P_un], [.int (xs 1), .ref 3], (P_hv132 xs L))) P_i139_4 (fun _ => rfl) ?_
  refine P_wp_call P_i139_5 rfl rfl rfl rfl rfl rfl rfl (y2 := 115) (as := [.ref 3, .int (xs 1)]) (r0 := []) rfl (Nat.le_of_ble_eq_true rfl) (by decide) rfl (Nat.le_of_ble_eq_true rfl) (P_x45 xs L hq1 (?_))
  show P_wp P_Y0 198 139 (8, [.ref 2, .int (xs 1), .int (xs 2), .int (xs 3), .int (xs 4), P_un, P_un], [.int 0], (P_hv132 xs L)) _
  refine P_wp_izf P_i139_8 P_b19 (show P_wp P_Y0 198 139 (11, [.ref 2, .int (xs 1), .int (xs 2), .int (xs 3), .int (xs 4), P_un, P_un], [], (P_hv132 xs L)) _ from ?_)
  refine P_wp_end (x := (.inr 2, (P_hv134 xs L))) P_i139_11 (fun _ => rfl) ?_
  exact q

set_option maxRecDepth 20000 in
theorem P_x47 (xs : Nat → Int32) (L : Nat) (hq1 : P_cc .lt (xs 1) 0 = true) {Q : P_R → P_H → Prop} (q : Q (.inl (some (.int 1))) (P_hv134 xs L)) : P_wp P_Y0 199 271 (0, [.ref 2, .int (xs 1), .int (xs 2), .int (xs 3), .int (xs 4), .ref 63, P_un], [], (P_hv132 xs L)) Q := by
  refine P_wp_step (S' := (2, [.ref 2, .int (xs 1), .int (xs 2), .int (xs 3), .int (xs 4), .ref 63, P_un], [.ref 63], (P_hv132 xs L))) P_i271_0 (fun _ => rfl) ?_
  refine P_wp_step (S' := (3, [.ref 2, .int (xs 1), .int (xs 2), .int (xs 3), .int (xs 4), .ref 63, P_un], [.int 0, .ref 63], (P_hv132 xs L))) P_i271_2 (fun _ => rfl) ?_
  refine P_wp_step (S' := (4, [.ref 2, .int (xs 1), .int (xs 2), .int (xs 3), .int (xs 4), .ref 63, P_un], [.ref 2, .int 0, .ref 63], (P_hv132 xs L))) P_i271_3 (fun _ => rfl) ?_
  refine P_wp_step (S' := (5, [.ref 2, .int (xs 1), .int (xs 2), .int (xs 3), .int (xs 4), .ref 63, P_un], [.int (xs 1), .ref 2, .int 0, .ref 63], (P_hv132 xs L))) P_i271_4 (fun _ => rfl) ?_
  refine P_wp_step (S' := (6, [.ref 2, .int (xs 1), .int (xs 2), .int (xs 3), .int (xs 4), .ref 63, P_un], [.int (xs 2), .int (xs 1), .ref 2, .int 0, .ref 63], (P_hv132 xs L))) P_i271_5 (fun _ => rfl) ?_
  refine P_wp_step (S' := (7, [.ref 2, .int (xs 1), .int (xs 2), .int (xs 3), .int (xs 4), .ref 63, P_un], [.int (xs 3), .int (xs 2), .int (xs 1), .ref 2, .int 0, .ref 63], (P_hv132 xs L))) P_i271_6 (fun _ => rfl) ?_
  refine P_wp_step (S' := (9, [.ref 2, .int (xs 1), .int (xs 2), .int (xs 3), .int (xs 4), .ref 63, P_un], [.int (xs 4), .int (xs 3), .int (xs 2), .int (xs 1), .ref 2, .int 0, .ref 63], (P_hv132 xs L))) P_i271_7 (fun _ => rfl) ?_
  refine P_wp_call P_i271_9 rfl rfl rfl rfl rfl rfl rfl (y2 := 139) (as := [.ref 2, .int (xs 1), .int (xs 2), .int (xs 3), .int (xs 4)]) (r0 := [.int 0, .ref 63]) rfl (Nat.le_of_ble_eq_true rfl) (by decide) rfl (Nat.le_of_ble_eq_true rfl) (P_x46 xs L hq1 (?_))
  refine ⟨show 6 < 7 by decide, ?_⟩
  show P_wp P_Y0 199 271 (19, [.ref 2, .int (xs 1), .int (xs 2), .int (xs 3), .int (xs 4), .ref 63, P_un], [], (P_hv134 xs L)) _
  refine P_wp_step (S' := (20, [.ref 2, .int (xs 1), .int (xs 2), .int (xs 3), .int (xs 4), .ref 63, P_un], [.int 1], (P_hv134 xs L))) P_i271_19 (fun _ => rfl) ?_
  refine P_wp_end (x := (.inl (some (.int 1)), (P_hv134 xs L))) P_i271_20 (fun _ => rfl) ?_
  exact q

set_option maxRecDepth 20000 in
theorem P_x48 (xs : Nat → Int32) (L : Nat) (hq1 : P_cc .lt (xs 1) 0 = true) {Q : P_R → P_H → Prop} (q : Q (.inl (some (.int 0))) (P_hv134 xs L)) : P_wp P_Y0 197 186 (0, [.int (xs 1), .int 0, .int (-1)], [], (P_hv134 xs L)) Q := by
  refine P_wp_step (S' := (1, [.int (xs 1), .int 0, .int (-1)], [.int (xs 1)], (P_hv134 xs L))) P_i186_0 (fun _ => rfl) ?_
  refine P_wp_step (S' := (2, [.int (xs 1), .int 0, .int (-1)], [.int 0, .int (xs 1)], (P_hv134 xs L))) P_i186_1 (fun _ => rfl) ?_
  refine P_wp_ict P_i186_2 hq1 (show P_wp P_Y0 197 186 (14, [.int (xs 1), .int 0, .int (-1)], [], (P_hv134 xs L)) _ from ?_)
  refine P_wp_step (S' := (15, [.int (xs 1), .int 0, .int (-1)], [.int 0], (P_hv134 xs L))) P_i186_14 (fun _ => rfl) ?_
  refine P_wp_end (x := (.inl (some (.int 0)), (P_hv134 xs L))) P_i186_15 (fun _ => rfl) ?_
  exact q

set_option maxRecDepth 20000 in
theorem P_x49 (xs : Nat → Int32) (L : Nat) (hq1 : P_cc .lt (xs 1) 0 = true) {Q : P_R → P_H → Prop} (q : Q (.inl (some (.int 0))) (P_hv134 xs L)) : P_wp P_Y0 198 187 (0, [.ref 47, .int (xs 1)], [], (P_hv134 xs L)) Q := by
  refine P_wp_step (S' := (1, [.ref 47, .int (xs 1)], [.int (xs 1)], (P_hv134 xs L))) P_i187_0 (fun _ => rfl) ?_
  refine P_wp_step (S' := (2, [.ref 47, .int (xs 1)], [.int 0, .int (xs 1)], (P_hv134 xs L))) P_i187_1 (fun _ => rfl) ?_
  refine P_wp_step (S' := (3, [.ref 47, .int (xs 1)], [.ref 47, .int 0, .int (xs 1)], (P_hv134 xs L))) P_i187_2 (fun _ => rfl) ?_
  refine P_wp_step (S' := (6, [.ref 47, .int (xs 1)], [.int 0, .int 0, .int (xs 1)], (P_hv134 xs L))) P_i187_3 (fun _ => rfl) ?_
  refine P_wp_step (S' := (7, [.ref 47, .int (xs 1)], [.int 1, .int 0, .int 0, .int (xs 1)], (P_hv134 xs L))) P_i187_6 (fun _ => rfl) ?_
  refine P_wp_step (S' := (8, [.ref 47, .int (xs 1)], [.int (-1), .int 0, .int (xs 1)], (P_hv134 xs L))) P_i187_7 (fun _ => rfl) ?_
  refine P_wp_call P_i187_8 rfl rfl rfl rfl rfl rfl rfl (y2 := 186) (as := [.int (xs 1), .int 0, .int (-1)]) (r0 := []) rfl (Nat.le_of_ble_eq_true rfl) (by decide) rfl (Nat.le_of_ble_eq_true rfl) (P_x48 xs L hq1 (?_))
  show P_wp P_Y0 198 187 (11, [.ref 47, .int (xs 1)], [.int 0], (P_hv134 xs L)) _
  refine P_wp_end (x := (.inl (some (.int 0)), (P_hv134 xs L))) P_i187_11 (fun _ => rfl) ?_
  exact q

set_option maxRecDepth 20000 in
theorem P_x50 (xs : Nat → Int32) (L : Nat) (hq1 : P_cc .lt (xs 1) 0 = true) {Q : P_R → P_H → Prop} (q : Q (.inl (some (.int 0))) (P_hv135 xs L)) : P_wp P_Y0 199 191 (0, [.ref 47, .int (xs 1), .int (xs 2), .int (xs 3), .int (xs 4), P_un, P_un], [], (P_hv134 xs L)) Q := by
  refine P_wp_step (S' := (1, [.ref 47, .int (xs 1), .int (xs 2), .int (xs 3), .int (xs 4), P_un, P_un], [.ref 47], (P_hv134 xs L))) P_i191_0 (fun _ => rfl) ?_
  refine P_wp_step (S' := (2, [.ref 47, .int (xs 1), .int (xs 2), .int (xs 3), .int (xs 4), P_un, P_un], [.int 0, .ref 47], (P_hv134 xs L))) P_i191_1 (fun _ => rfl) ?_
  refine P_wp_step (S' := (5, [.ref 47, .int (xs 1), .int (xs 2), .int (xs 3), .int (xs 4), P_un, P_un], [], (P_hv134 xs L))) P_i191_2 (fun _ => rfl) ?_
  refine P_wp_step (S' := (6, [.ref 47, .int (xs 1), .int (xs 2), .int (xs 3), .int (xs 4), P_un, P_un], [.ref 47], (P_hv134 xs L))) P_i191_5 (fun _ => rfl) ?_
  refine P_wp_step (S' := (7, [.ref 47, .int (xs 1), .int (xs 2), .int (xs 3), .int (xs 4), P_un, P_un], [.int (xs 1), .ref 47], (P_hv134 xs L))) P_i191_6 (fun _ => rfl) ?_
  refine P_wp_call P_i191_7 rfl rfl rfl rfl rfl rfl rfl (y2 := 187) (as := [.ref 47, .int (xs 1)]) (r0 := []) rfl (Nat.le_of_ble_eq_true rfl) (by decide) rfl (Nat.le_of_ble_eq_true rfl) (P_x49 xs L hq1 (?_))
  show P_wp P_Y0 199 191 (10, [.ref 47, .int (xs 1), .int (xs 2), .int (xs 3), .int (xs 4), P_un, P_un], [.int 0], (P_hv134 xs L)) _
  refine P_wp_izf P_i191_10 P_b19 (show P_wp P_Y0 199 191 (13, [.ref 47, .int (xs 1), .int (xs 2), .int (xs 3), .int (xs 4), P_un, P_un], [], (P_hv134 xs L)) _ from ?_)
  refine P_wp_step (S' := (14, [.ref 47, .int (xs 1), .int (xs 2), .int (xs 3), .int (xs 4), P_un, P_un], [.ref 47], (P_hv134 xs L))) P_i191_13 (fun _ => rfl) ?_
  refine P_wp_step (S' := (15, [.ref 47, .int (xs 1), .int (xs 2), .int (xs 3), .int (xs 4), P_un, P_un], [.int 1, .ref 47], (P_hv134 xs L))) P_i191_14 (fun _ => rfl) ?_
  refine P_wp_call P_i191_15 rfl rfl rfl rfl rfl rfl rfl (y2 := 184) (as := [.ref 47, .int 1]) (r0 := []) rfl (Nat.le_of_ble_eq_true rfl) (by decide) rfl (Nat.le_of_ble_eq_true rfl) (P_x30 xs L (?_))
  show P_wp P_Y0 199 191 (18, [.ref 47, .int (xs 1), .int (xs 2), .int (xs 3), .int (xs 4), P_un, P_un], [.int 0], (P_hv135 xs L)) _
  refine P_wp_end (x := (.inl (some (.int 0)), (P_hv135 xs L))) P_i191_18 (fun _ => rfl) ?_
  exact q

set_option maxRecDepth 20000 in
theorem P_x51 (xs : Nat → Int32) (L : Nat) (hq1 : P_cc .lt (xs 1) 0 = false) (hq2 : P_cc .ge (xs 1) 0 = true) {Q : P_R → P_H → Prop} (q : Q (.inl (some (.int 0))) (P_hv132 xs L)) : P_wp P_Y0 197 115 (0, [.ref 3, .int (xs 1)], [], (P_hv132 xs L)) Q := by
  refine P_wp_step (S' := (1, [.ref 3, .int (xs 1)], [.int (xs 1)], (P_hv132 xs L))) P_i115_0 (fun _ => rfl) ?_
  refine P_wp_izf P_i115_1 hq1 (show P_wp P_Y0 197 115 (4, [.ref 3, .int (xs 1)], [], (P_hv132 xs L)) _ from ?_)
  refine P_wp_step (S' := (5, [.ref 3, .int (xs 1)], [.int (xs 1)], (P_hv132 xs L))) P_i115_4 (fun _ => rfl) ?_
  refine P_wp_step (S' := (6, [.ref 3, .int (xs 1)], [.ref 3, .int (xs 1)], (P_hv132 xs L))) P_i115_5 (fun _ => rfl) ?_
  refine P_wp_step (S' := (9, [.ref 3, .int (xs 1)], [.int 0, .int (xs 1)], (P_hv132 xs L))) P_i115_6 (fun _ => rfl) ?_
  refine P_wp_ict P_i115_9 hq2 (show P_wp P_Y0 197 115 (16, [.ref 3, .int (xs 1)], [], (P_hv132 xs L)) _ from ?_)
  refine P_wp_step (S' := (17, [.ref 3, .int (xs 1)], [.int 0], (P_hv132 xs L))) P_i115_16 (fun _ => rfl) ?_
  refine P_wp_end (x := (.inl (some (.int 0)), (P_hv132 xs L))) P_i115_17 (fun _ => rfl) ?_
  exact q

set_option maxRecDepth 20000 in
theorem P_x52 (xs : Nat → Int32) (L : Nat) (hq1 : P_cc .lt (xs 1) 0 = false) (hq2 : P_cc .ge (xs 1) 0 = true) {Q : P_R → P_H → Prop} (q : Q (.inr 2) (P_hv134 xs L)) : P_wp P_Y0 198 139 (0, [.ref 2, .int (xs 1), .int (xs 2), .int (xs 3), .int (xs 4), P_un, P_un], [], (P_hv132 xs L)) Q := by
  refine P_wp_step (S' := (1, [.ref 2, .int (xs 1), .int (xs 2), .int (xs 3), .int (xs 4), P_un, P_un], [.ref 2], (P_hv132 xs L))) P_i139_0 (fun _ => rfl) ?_
  refine P_wp_step (S' := (4, [.ref 2, .int (xs 1), .int (xs 2), .int (xs 3), .int (xs 4), P_un, P_un], [.ref 3], (P_hv132 xs L))) P_i139_1 (fun _ => rfl) ?_
  refine P_wp_step (S' := (5, [.ref 2, .int (xs 1), .int (xs 2), .int (xs 3), .int (xs 4), P_un, P_un], [.int (xs 1), .ref 3], (P_hv132 xs L))) P_i139_4 (fun _ => rfl) ?_
  refine P_wp_call P_i139_5 rfl rfl rfl rfl rfl rfl rfl (y2 := 115) (as := [.ref 3, .int (xs 1)]) (r0 := []) rfl (Nat.le_of_ble_eq_true rfl) (by decide) rfl (Nat.le_of_ble_eq_true rfl) (P_x51 xs L hq1 hq2 (?_))
  show P_wp P_Y0 198 139 (8, [.ref 2, .int (xs 1), .int (xs 2), .int (xs 3), .int (xs 4), P_un, P_un], [.int 0], (P_hv132 xs L)) _
  refine P_wp_izf P_i139_8 P_b19 (show P_wp P_Y0 198 139 (11, [.ref 2, .int (xs 1), .int (xs 2), .int (xs 3), .int (xs 4), P_un, P_un], [], (P_hv132 xs L)) _ from ?_)
  refine P_wp_end (x := (.inr 2, (P_hv134 xs L))) P_i139_11 (fun _ => rfl) ?_
  exact q

set_option maxRecDepth 20000 in
theorem P_x53 (xs : Nat → Int32) (L : Nat) (hq1 : P_cc .lt (xs 1) 0 = false) (hq2 : P_cc .ge (xs 1) 0 = true) {Q : P_R → P_H → Prop} (q : Q (.inl (some (.int 1))) (P_hv134 xs L)) : P_wp P_Y0 199 271 (0, [.ref 2, .int (xs 1), .int (xs 2), .int (xs 3), .int (xs 4), .ref 63, P_un], [], (P_hv132 xs L)) Q := by
  refine P_wp_step (S' := (2, [.ref 2, .int (xs 1), .int (xs 2), .int (xs 3), .int (xs 4), .ref 63, P_un], [.ref 63], (P_hv132 xs L))) P_i271_0 (fun _ => rfl) ?_
  refine P_wp_step (S' := (3, [.ref 2, .int (xs 1), .int (xs 2), .int (xs 3), .int (xs 4), .ref 63, P_un], [.int 0, .ref 63], (P_hv132 xs L))) P_i271_2 (fun _ => rfl) ?_
  refine P_wp_step (S' := (4, [.ref 2, .int (xs 1), .int (xs 2), .int (xs 3), .int (xs 4), .ref 63, P_un], [.ref 2, .int 0, .ref 63], (P_hv132 xs L))) P_i271_3 (fun _ => rfl) ?_
  refine P_wp_step (S' := (5, [.ref 2, .int (xs 1), .int (xs 2), .int (xs 3), .int (xs 4), .ref 63, P_un], [.int (xs 1), .ref 2, .int 0, .ref 63], (P_hv132 xs L))) P_i271_4 (fun _ => rfl) ?_
  refine P_wp_step (S' := (6, [.ref 2, .int (xs 1), .int (xs 2), .int (xs 3), .int (xs 4), .ref 63, P_un], [.int (xs 2), .int (xs 1), .ref 2, .int 0, .ref 63], (P_hv132 xs L))) P_i271_5 (fun _ => rfl) ?_
  refine P_wp_step (S' := (7, [.ref 2, .int (xs 1), .int (xs 2), .int (xs 3), .int (xs 4), .ref 63, P_un], [.int (xs 3), .int (xs 2), .int (xs 1), .ref 2, .int 0, .ref 63], (P_hv132 xs L))) P_i271_6 (fun _ => rfl) ?_
  refine P_wp_step (S' := (9, [.ref 2, .int (xs 1), .int (xs 2), .int (xs 3), .int (xs 4), .ref 63, P_un], [.int (xs 4), .int (xs 3), .int (xs 2), .int (xs 1), .ref 2, .int 0, .ref 63], (P_hv132 xs L))) P_i271_7 (fun _ => rfl) ?_
  refine P_wp_call P_i271_9 rfl rfl rfl rfl rfl rfl rfl (y2 := 139) (as := [.ref 2, .int (xs 1), .int (xs 2), .int (xs 3), .int (xs 4)]) (r0 := [.int 0, .ref 63]) rfl (Nat.le_of_ble_eq_true rfl) (by decide) rfl (Nat.le_of_ble_eq_true rfl) (P_x52 xs L hq1 hq2 (?_))
  refine ⟨show 6 < 7 by decide, ?_⟩
  show P_wp P_Y0 199 271 (19, [.ref 2, .int (xs 1), .int (xs 2), .int (xs 3), .int (xs 4), .ref 63, P_un], [], (P_hv134 xs L)) _
  refine P_wp_step (S' := (20, [.ref 2, .int (xs 1), .int (xs 2), .int (xs 3), .int (xs 4), .ref 63, P_un], [.int 1], (P_hv134 xs L))) P_i271_19 (fun _ => rfl) ?_
  refine P_wp_end (x := (.inl (some (.int 1)), (P_hv134 xs L))) P_i271_20 (fun _ => rfl) ?_
  exact q

set_option maxRecDepth 20000 in
theorem P_x54 (xs : Nat → Int32) (L : Nat) (hq1 : P_cc .lt (xs 1) 0 = false) (hq2 : P_cc .gt (xs 1) (-1) = true) {Q : P_R → P_H → Prop} (q : Q (.inl (some (.int 0))) (P_hv134 xs L)) : P_wp P_Y0 197 186 (0, [.int (xs 1), .int 0, .int (-1)], [], (P_hv134 xs L)) Q := by
  refine P_wp_step (S' := (1, [.int (xs 1), .int 0, .int (-1)], [.int (xs 1)], (P_hv134 xs L))) P_i186_0 (fun _ => rfl) ?_
  refine P_wp_step (S' := (2, [.int (xs 1), .int 0, .int (-1)], [.int 0, .int (xs 1)], (P_hv134 xs L))) P_i186_1 (fun _ => rfl) ?_
  refine P_wp_icf P_i186_2 hq1 (show P_wp P_Y0 197 186 (5, [.int (xs 1), .int 0, .int (-1)], [], (P_hv134 xs L)) _ from ?_)
  refine P_wp_step (S' := (6, [.int (xs 1), .int 0, .int (-1)], [.int (xs 1)], (P_hv134 xs L))) P_i186_5 (fun _ => rfl) ?_
  refine P_wp_step (S' := (7, [.int (xs 1), .int 0, .int (-1)], [.int (-1), .int (xs 1)], (P_hv134 xs L))) P_i186_6 (fun _ => rfl) ?_
  refine P_wp_ict P_i186_7 hq2 (show P_wp P_Y0 197 186 (14, [.int (xs 1), .int 0, .int (-1)], [], (P_hv134 xs L)) _ from ?_)
  refine P_wp_step (S' := (15, [.int (xs 1), .int 0, .int (-1)], [.int 0], (P_hv134 xs L))) P_i186_14 (fun _ => rfl) ?_
  refine P_wp_end (x := (.inl (some (.int 0)), (P_hv134 xs L))) P_i186_15 (fun _ => rfl) ?_
  exact q

set_option maxRecDepth 20000 in
theorem P_x55 (xs : Nat → Int32) (L : Nat) (hq1 : P_cc .lt (xs 1) 0 = false) (hq2 : P_cc .gt (xs 1) (-1) = true) {Q : P_R → P_H → Prop} (q : Q (.inl (some (.int 0))) (P_hv134 xs L)) : P_wp P_Y0 198 187 (0, [.ref 47, .int (xs 1)], [], (P_hv134 xs L)) Q := by
  refine P_wp_step (S' := (1, [.ref 47, .int (xs 1)], [.int (xs 1)], (P_hv134 xs L))) P_i187_0 (fun _ => rfl) ?_
  refine P_wp_step (S' := (2, [.ref 47, .int (xs 1)], [.int 0, .int (xs 1)], (P_hv134 xs L))) P_i187_1 (fun _ => rfl) ?_
  refine P_wp_step (S' := (3, [.ref 47, .int (xs 1)], [.ref 47, .int 0, .int (xs 1)], (P_hv134 xs L))) P_i187_2 (fun _ => rfl) ?_
  refine P_wp_step (S' := (6, [.ref 47, .int (xs 1)], [.int 0, .int 0, .int (xs 1)], (P_hv134 xs L))) P_i187_3 (fun _ => rfl) ?_
  refine P_wp_step (S' := (7, [.ref 47, .int (xs 1)], [.int 1, .int 0, .int 0, .int (xs 1)], (P_hv134 xs L))) P_i187_6 (fun _ => rfl) ?_
  refine P_wp_step (S' := (8, [.ref 47, .int (xs 1)], [.int (-1), .int 0, .int (xs 1)], (P_hv134 xs L))) P_i187_7 (fun _ => rfl) ?_
  refine P_wp_call P_i187_8 rfl rfl rfl rfl rfl rfl rfl (y2 := 186) (as := [.int (xs 1), .int 0, .int (-1)]) (r0 := []) rfl (Nat.le_of_ble_eq_true rfl) (by decide) rfl (Nat.le_of_ble_eq_true rfl) (P_x54 xs L hq1 hq2 (?_))
  show P_wp P_Y0 198 187 (11, [.ref 47, .int (xs 1)], [.int 0], (P_hv134 xs L)) _
  refine P_wp_end (x := (.inl (some (.int 0)), (P_hv134 xs L))) P_i187_11 (fun _ => rfl) ?_
  exact q

set_option maxRecDepth 20000 in
theorem P_x56 (xs : Nat → Int32) (L : Nat) (hq1 : P_cc .lt (xs 1) 0 = false) (hq2 : P_cc .gt (xs 1) (-1) = true) {Q : P_R → P_H → Prop} (q : Q (.inl (some (.int 0))) (P_hv135 xs L)) : P_wp P_Y0 199 191 (0, [.ref 47, .int (xs 1), .int (xs 2), .int (xs 3), .int (xs 4), P_un, P_un], [], (P_hv134 xs L)) Q := by
  refine P_wp_step (S' := (1, [.ref 47, .int (xs 1), .int (xs 2), .int (xs 3), .int (xs 4), P_un, P_un], [.ref 47], (P_hv134 xs L))) P_i191_0 (fun _ => rfl) ?_
  refine P_wp_step (S' := (2, [.ref 47, .int (xs 1), .int (xs 2), .int (xs 3), .int (xs 4), P_un, P_un], [.int 0, .ref 47], (P_hv134 xs L))) P_i191_1 (fun _ => rfl) ?_
  refine P_wp_step (S' := (5, [.ref 47, .int (xs 1), .int (xs 2), .int (xs 3), .int (xs 4), P_un, P_un], [], (P_hv134 xs L))) P_i191_2 (fun _ => rfl) ?_
  refine P_wp_step (S' := (6, [.ref 47, .int (xs 1), .int (xs 2), .int (xs 3), .int (xs 4), P_un, P_un], [.ref 47], (P_hv134 xs L))) P_i191_5 (fun _ => rfl) ?_
  refine P_wp_step (S' := (7, [.ref 47, .int (xs 1), .int (xs 2), .int (xs 3), .int (xs 4), P_un, P_un], [.int (xs 1), .ref 47], (P_hv134 xs L))) P_i191_6 (fun _ => rfl) ?_
  refine P_wp_call P_i191_7 rfl rfl rfl rfl rfl rfl rfl (y2 := 187) (as := [.ref 47, .int (xs 1)]) (r0 := []) rfl (Nat.le_of_ble_eq_true rfl) (by decide) rfl (Nat.le_of_ble_eq_true rfl) (P_x55 xs L hq1 hq2 (?_))
  show P_wp P_Y0 199 191 (10, [.ref 47, .int (xs 1), .int (xs 2), .int (xs 3), .int (xs 4), P_un, P_un], [.int 0], (P_hv134 xs L)) _
  refine P_wp_izf P_i191_10 P_b19 (show P_wp P_Y0 199 191 (13, [.ref 47, .int (xs 1), .int (xs 2), .int (xs 3), .int (xs 4), P_un, P_un], [], (P_hv134 xs L)) _ from ?_)
  refine P_wp_step (S' := (14, [.ref 47, .int (xs 1), .int (xs 2), .int (xs 3), .int (xs 4), P_un, P_un], [.ref 47], (P_hv134 xs L))) P_i191_13 (fun _ => rfl) ?_
  refine P_wp_step (S' := (15, [.ref 47, .int (xs 1), .int (xs 2), .int (xs 3), .int (xs 4), P_un, P_un], [.int 1, .ref 47], (P_hv134 xs L))) P_i191_14 (fun _ => rfl) ?_
  refine P_wp_call P_i191_15 rfl rfl rfl rfl rfl rfl rfl (y2 := 184) (as := [.ref 47, .int 1]) (r0 := []) rfl (Nat.le_of_ble_eq_true rfl) (by decide) rfl (Nat.le_of_ble_eq_true rfl) (P_x30 xs L (?_))
  show P_wp P_Y0 199 191 (18, [.ref 47, .int (xs 1), .int (xs 2), .int (xs 3), .int (xs 4), P_un, P_un], [.int 0], (P_hv135 xs L)) _
  refine P_wp_end (x := (.inl (some (.int 0)), (P_hv135 xs L))) P_i191_18 (fun _ => rfl) ?_
  exact q

set_option maxRecDepth 20000 in
theorem P_x57 (xs : Nat → Int32) (L : Nat) (hq1 : P_cc .lt (xs 1) 0 = true) {Q : P_R → P_H → Prop} (q : Q (.inr 2) (P_hv134 xs L)) : P_wp P_Y0 198 140 (0, [.ref 2, .int (xs 1), .int (xs 2), P_un], [], (P_hv132 xs L)) Q := by
  refine P_wp_step (S' := (1, [.ref 2, .int (xs 1), .int (xs 2), P_un], [.ref 2], (P_hv132 xs L))) P_i140_0 (fun _ => rfl) ?_
  refine P_wp_step (S' := (4, [.ref 2, .int (xs 1), .int (xs 2), P_un], [.ref 3], (P_hv132 xs L))) P_i140_1 (fun _ => rfl) ?_
  refine P_wp_step (S' := (5, [.ref 2, .int (xs 1), .int (xs 2), P_un], [.int (xs 1), .ref 3], (P_hv132 xs L))) P_i140_4 (fun _ => rfl) ?_
  refine P_wp_call P_i140_5 rfl rfl rfl rfl rfl rfl rfl (y2 := 115) (as := [.ref 3, .int (xs 1)]) (r0 := []) rfl (Nat.le_of_ble_eq_true rfl) (by decide) rfl (Nat.le_of_ble_eq_true rfl) (P_x45 xs L hq1 (?_))
  show P_wp P_Y0 198 140 (8, [.ref 2, .int (xs 1), .int (xs 2), P_un], [.int 0], (P_hv132 xs L)) _
  refine P_wp_izt P_i140_8 P_b27 (show P_wp P_Y0 198 140 (30, [.ref 2, .int (xs 1), .int (xs 2), P_un], [], (P_hv132 xs L)) _ from ?_)
  refine P_wp_end (x := (.inr 2, (P_hv134 xs L))) P_i140_30 (fun _ => rfl) ?_
  exact q

set_option maxRecDepth 20000 in
theorem P_x58 (xs : Nat → Int32) (L : Nat) (hq1 : P_cc .lt (xs 1) 0 = true) {Q : P_R → P_H → Prop} (q : Q (.inl (some (.int 1))) (P_hv134 xs L)) : P_wp P_Y0 199 272 (0, [.ref 2, .int (xs 1), .int (xs 2), .ref 63, P_un], [], (P_hv132 xs L)) Q := by
  refine P_wp_step (S' := (1, [.ref 2, .int (xs 1), .int (xs 2), .ref 63, P_un], [.ref 63], (P_hv132 xs L))) P_i272_0 (fun _ => rfl) ?_
  refine P_wp_step (S' := (2, [.ref 2, .int (xs 1), .int (xs 2), .ref 63, P_un], [.int 0, .ref 63], (P_hv132 xs L))) P_i272_1 (fun _ => rfl) ?_
  refine P_wp_step (S' := (3, [.ref 2, .int (xs 1), .int (xs 2), .ref 63, P_un], [.ref 2, .int 0, .ref 63], (P_hv132 xs L))) P_i272_2 (fun _ => rfl) ?_
  refine P_wp_step (S' := (4, [.ref 2, .int (xs 1), .int (xs 2), .ref 63, P_un], [.int (xs 1), .ref 2, .int 0, .ref 63], (P_hv132 xs L))) P_i272_3 (fun _ => rfl) ?_
  refine P_wp_step (S' := (5, [.ref 2, .int (xs 1), .int (xs 2), .ref 63, P_un], [.int (xs 2), .int (xs 1), .ref 2, .int 0, .ref 63], (P_hv132 xs L))) P_i272_4 (fun _ => rfl) ?_
  refine P_wp_call P_i272_5 rfl rfl rfl rfl rfl rfl rfl (y2 := 140) (as := [.ref 2, .int (xs 1), .int (xs 2)]) (r0 := [.int 0, .ref 63]) rfl (Nat.le_of_ble_eq_true rfl) (by decide) rfl (Nat.le_of_ble_eq_true rfl) (P_x57 xs L hq1 (?_))
  refine ⟨show 4 < 5 by decide, ?_⟩
  show P_wp P_Y0 199 272 (15, [.ref 2, .int (xs 1), .int (xs 2), .ref 63, P_un], [], (P_hv134 xs L)) _
  refine P_wp_step (S' := (16, [.ref 2, .int (xs 1), .int (xs 2), .ref 63, P_un], [.int 1], (P_hv134 xs L))) P_i272_15 (fun _ => rfl) ?_
  refine P_wp_end (x := (.inl (some (.int 1)), (P_hv134 xs L))) P_i272_16 (fun _ => rfl) ?_
  exact q

set_option maxRecDepth 20000 in
theorem P_x59 (xs : Nat → Int32) (L : Nat) (hq1 : P_cc .lt (xs 1) 0 = true) {Q : P_R → P_H → Prop} (q : Q (.inl (some (.int 0))) (P_hv135 xs L)) : P_wp P_Y0 199 192 (0, [.ref 47, .int (xs 1), .int (xs 2), P_un], [], (P_hv134 xs L)) Q := by
  refine P_wp_step (S' := (1, [.ref 47, .int (xs 1), .int (xs 2), P_un], [.ref 47], (P_hv134 xs L))) P_i192_0 (fun _ => rfl) ?_
  refine P_wp_step (S' := (2, [.ref 47, .int (xs 1), .int (xs 2), P_un], [.int 0, .ref 47], (P_hv134 xs L))) P_i192_1 (fun _ => rfl) ?_
  refine P_wp_step (S' := (5, [.ref 47, .int (xs 1), .int (xs 2), P_un], [], (P_hv134 xs L))) P_i192_2 (fun _ => rfl) ?_
  refine P_wp_step (S' := (6, [.ref 47, .int (xs 1), .int (xs 2), P_un], [.ref 47], (P_hv134 xs L))) P_i192_5 (fun _ => rfl) ?_
  refine P_wp_step (S' := (7, [.ref 47, .int (xs 1), .int (xs 2), P_un], [.int (xs 1), .ref 47], (P_hv134 xs L))) P_i192_6 (fun _ => rfl) ?_
  refine P_wp_call P_i192_7 rfl rfl rfl rfl rfl rfl rfl (y2 := 187) (as := [.ref 47, .int (xs 1)]) (r0 := []) rfl (Nat.le_of_ble_eq_true rfl) (by decide) rfl (Nat.le_of_ble_eq_true rfl) (P_x49 xs L hq1 (?_))
  show P_wp P_Y0 199 192 (10, [.ref 47, .int (xs 1), .int (xs 2), P_un], [.int 0], (P_hv134 xs L)) _
  refine P_wp_izt P_i192_10 P_b27 (show P_wp P_Y0 199 192 (29, [.ref 47, .int (xs 1), .int (xs 2), P_un], [], (P_hv134 xs L)) _ from ?_)
  refine P_wp_step (S' := (30, [.ref 47, .int (xs 1), .int (xs 2), P_un], [.ref 47], (P_hv134 xs L))) P_i192_29 (fun _ => rfl) ?_
  refine P_wp_step (S' := (31, [.ref 47, .int (xs 1), .int (xs 2), P_un], [.int 1, .ref 47], (P_hv134 xs L))) P_i192_30 (fun _ => rfl) ?_
  refine P_wp_call P_i192_31 rfl rfl rfl rfl rfl rfl rfl (y2 := 184) (as := [.ref 47, .int 1]) (r0 := []) rfl (Nat.le_of_ble_eq_true rfl) (by decide) rfl (Nat.le_of_ble_eq_true rfl) (P_x30 xs L (?_))
  show P_wp P_Y0 199 192 (34, [.ref 47, .int (xs 1), .int (xs 2), P_un], [.int 0], (P_hv135 xs L)) _
  refine P_wp_end (x := (.inl (some (.int 0)), (P_hv135 xs L))) P_i192_34 (fun _ => rfl) ?_
  exact q

set_option maxRecDepth 20000 in
theorem P_x60 (xs : Nat → Int32) (L : Nat) (hq1 : P_cc .lt (xs 1) 0 = false) (hq2 : P_cc .ge (xs 1) 0 = true) {Q : P_R → P_H → Prop} (q : Q (.inr 2) (P_hv134 xs L)) : P_wp P_Y0 198 140 (0, [.ref 2, .int (xs 1), .int (xs 2), P_un], [], (P_hv132 xs L)) Q := by
  refine P_wp_step (S' := (1, [.ref 2, .int (xs 1), .int (xs 2), P_un], [.ref 2], (P_hv132 xs L))) P_i140_0 (fun _ => rfl) ?_
  refine P_wp_step (S' := (4, [.ref 2, .int (xs 1), .int (xs 2), P_un], [.ref 3], (P_hv132 xs L))) P_i140_1 (fun _ => rfl) ?_
  refine P_wp_step (S' := (5, [.ref 2, .int (xs 1), .int (xs 2), P_un], [.int (xs 1), .ref 3], (P_hv132 xs L))) P_i140_4 (fun _ => rfl) ?_
  refine P_wp_call P_i140_5 rfl rfl rfl rfl rfl rfl rfl (y2 := 115) (as := [.ref 3, .int (xs 1)]) (r0 := []) rfl (Nat.le_of_ble_eq_true rfl) (by decide) rfl (Nat.le_of_ble_eq_true rfl) (P_x51 xs L hq1 hq2 (?_))
  show P_wp P_Y0 198 140 (8, [.ref 2, .int (xs 1), .int (xs 2), P_un], [.int 0], (P_hv132 xs L)) _
  refine P_wp_izt P_i140_8 P_b27 (show P_wp P_Y0 198 140 (30, [.ref 2, .int (xs 1), .int (xs 2), P_un], [], (P_hv132 xs L)) _ from ?_)
  refine P_wp_end (x := (.inr 2, (P_hv134 xs L))) P_i140_30 (fun _ => rfl) ?_
  exact q

set_option maxRecDepth 20000 in
theorem P_x61 (xs : Nat → Int32) (L : Nat) (hq1 : P_cc .lt (xs 1) 0 = false) (hq2 : P_cc .ge (xs 1) 0 = true) {Q : P_R → P_H → Prop} (q : Q (.inl (some (.int 1))) (P_hv134 xs L)) : P_wp P_Y0 199 272 (0, [.ref 2, .int (xs 1), .int (xs 2), .ref 63, P_un], [], (P_hv132 xs L)) Q := by
  refine P_wp_step (S' := (1, [.ref 2, .int (xs 1), .int (xs 2), .ref 63, P_un], [.ref 63], (P_hv132 xs L))) P_i272_0 (fun _ => rfl) ?_
  refine P_wp_step (S' := (2, [.ref 2, .int (xs 1), .int (xs 2), .ref 63, P_un], [.int 0, .ref 63], (P_hv132 xs L))) P_i272_1 (fun _ => rfl) ?_
  refine P_wp_step (S' := (3, [.ref 2, .int (xs 1), .int (xs 2), .ref 63, P_un], [.ref 2, .int 0, .ref 63], (P_hv132 xs L))) P_i272_2 (fun _ => rfl) ?_
  refine P_wp_step (S' := (4, [.ref 2, .int (xs 1), .int (xs 2), .ref 63, P_un], [.int (xs 1), .ref 2, .int 0, .ref 63], (P_hv132 xs L))) P_i272_3 (fun _ => rfl) ?_
  refine P_wp_step (S' := (5, [.ref 2, .int (xs 1), .int (xs 2), .ref 63, P_un], [.int (xs 2), .int (xs 1), .ref 2, .int 0, .ref 63], (P_hv132 xs L))) P_i272_4 (fun _ => rfl) ?_
  refine P_wp_call P_i272_5 rfl rfl rfl rfl rfl rfl rfl (y2 := 140) (as := [.ref 2, .int (xs 1), .int (xs 2)]) (r0 := [.int 0, .ref 63]) rfl (Nat.le_of_ble_eq_true rfl) (by decide) rfl (Nat.le_of_ble_eq_true rfl) (P_x60 xs L hq1 hq2 (?_))
  refine ⟨show 4 < 5 by decide, ?_⟩
  show P_wp P_Y0 199 272 (15, [.ref 2, .int (xs 1), .int (xs 2), .ref 63, P_un], [], (P_hv134 xs L)) _
  refine P_wp_step (S' := (16, [.ref 2, .int (xs 1), .int (xs 2), .ref 63, P_un], [.int 1], (P_hv134 xs L))) P_i272_15 (fun _ => rfl) ?_
  refine P_wp_end (x := (.inl (some (.int 1)), (P_hv134 xs L))) P_i272_16 (fun _ => rfl) ?_
  exact q

set_option maxRecDepth 20000 in
theorem P_x62 (xs : Nat → Int32) (L : Nat) (hq1 : P_cc .lt (xs 1) 0 = false) (hq2 : P_cc .gt (xs 1) (-1) = true) {Q : P_R → P_H → Prop} (q : Q (.inl (some (.int 0))) (P_hv135 xs L)) : P_wp P_Y0 199 192 (0, [.ref 47, .int (xs 1), .int (xs 2), P_un], [], (P_hv134 xs L)) Q := by
  refine P_wp_step (S' := (1, [.ref 47, .int (xs 1), .int (xs 2), P_un], [.ref 47], (P_hv134 xs L))) P_i192_0 (fun _ => rfl) ?_
  refine P_wp_step (S' := (2, [.ref 47, .int (xs 1), .int (xs 2), P_un], [.int 0, .ref 47], (P_hv134 xs L))) P_i192_1 (fun _ => rfl) ?_
  refine P_wp_step (S' := (5, [.ref 47, .int (xs 1), .int (xs 2), P_un], [], (P_hv134 xs L))) P_i192_2 (fun _ => rfl) ?_
  refine P_wp_step (S' := (6, [.ref 47, .int (xs 1), .int (xs 2), P_un], [.ref 47], (P_hv134 xs L))) P_i192_5 (fun _ => rfl) ?_
  refine P_wp_step (S' := (7, [.ref 47, .int (xs 1), .int (xs 2), P_un], [.int (xs 1), .ref 47], (P_hv134 xs L))) P_i192_6 (fun _ => rfl) ?_
  refine P_wp_call P_i192_7 rfl rfl rfl rfl rfl rfl rfl (y2 := 187) (as := [.ref 47, .int (xs 1)]) (r0 := []) rfl (Nat.le_of_ble_eq_true rfl) (by decide) rfl (Nat.le_of_ble_eq_true rfl) (P_x55 xs L hq1 hq2 (?_))
  show P_wp P_Y0 199 192 (10, [.ref 47, .int (xs 1), .int (xs 2), P_un], [.int 0], (P_hv134 xs L)) _
  refine P_wp_izt P_i192_10 P_b27 (show P_wp P_Y0 199 192 (29, [.ref 47, .int (xs 1), .int (xs 2), P_un], [], (P_hv134 xs L)) _ from ?_)
  refine P_wp_step (S' := (30, [.ref 47, .int (xs 1), .int (xs 2), P_un], [.ref 47], (P_hv134 xs L))) P_i192_29 (fun _ => rfl) ?_
  refine P_wp_step (S' := (31, [.ref 47, .int (xs 1), .int (xs 2), P_un], [.int 1, .ref 47], (P_hv134 xs L))) P_i192_30 (fun _ => rfl) ?_
  refine P_wp_call P_i192_31 rfl rfl rfl rfl rfl rfl rfl (y2 := 184) (as := [.ref 47, .int 1]) (r0 := []) rfl (Nat.le_of_ble_eq_true rfl) (by decide) rfl (Nat.le_of_ble_eq_true rfl) (P_x30 xs L (?_))
  show P_wp P_Y0 199 192 (34, [.ref 47, .int (xs 1), .int (xs 2), P_un], [.int 0], (P_hv135 xs L)) _
  refine P_wp_end (x := (.inl (some (.int 0)), (P_hv135 xs L))) P_i192_34 (fun _ => rfl) ?_
  exact q

set_option maxRecDepth 20000 in
theorem P_x63 (xs : Nat → Int32) (L : Nat) (hq1 : P_cc .lt (xs 1) 0 = true) {Q : P_R → P_H → Prop} (q : Q (.inr 2) (P_hv134 xs L)) : P_wp P_Y0 198 141 (0, [.ref 2, .int (xs 1), .int (xs 2)], [], (P_hv132 xs L)) Q := by
  refine P_wp_step (S' := (1, [.ref 2, .int (xs 1), .int (xs 2)], [.ref 2], (P_hv132 xs L))) P_i141_0 (fun _ => rfl) ?_
  refine P_wp_step (S' := (4, [.ref 2, .int (xs 1), .int (xs 2)], [.ref 3], (P_hv132 xs L))) P_i141_1 (fun _ => rfl) ?_
  refine P_wp_step (S' := (5, [.ref 2, .int (xs 1), .int (xs 2)], [.int (xs 1), .ref 3], (P_hv132 xs L))) P_i141_4 (fun _ => rfl) ?_
  refine P_wp_call P_i141_5 rfl rfl rfl rfl rfl rfl rfl (y2 := 115) (as := [.ref 3, .int (xs 1)]) (r0 := []) rfl (Nat.le_of_ble_eq_true rfl) (by decide) rfl (Nat.le_of_ble_eq_true rfl) (P_x45 xs L hq1 (?_))
  show P_wp P_Y0 198 141 (8, [.ref 2, .int (xs 1), .int (xs 2)], [.int 0], (P_hv132 xs L)) _
  refine P_wp_izt P_i141_8 P_b27 (show P_wp P_Y0 198 141 (30, [.ref 2, .int (xs 1), .int (xs 2)], [], (P_hv132 xs L)) _ from ?_)
  refine P_wp_end (x := (.inr 2, (P_hv134 xs L))) P_i141_30 (fun _ => rfl) ?_
  exact q

set_option maxRecDepth 20000 in
theorem P_x64 (xs : Nat → Int32) (L : Nat) (hq1 : P_cc .lt (xs 1) 0 = true) {Q : P_R → P_H → Prop} (q : Q (.inl (some (.int 1))) (P_hv134 xs L)) : P_wp P_Y0 199 273 (0, [.ref 2, .int (xs 1), .int (xs 2), .ref 63, P_un], [], (P_hv132 xs L)) Q := by
  refine P_wp_step (S' := (1, [.ref 2, .int (xs 1), .int (xs 2), .ref 63, P_un], [.ref 63], (P_hv132 xs L))) P_i273_0 (fun _ => rfl) ?_
  refine P_wp_step (S' := (2, [.ref 2, .int (xs 1), .int (xs 2), .ref 63, P_un], [.int 0, .ref 63], (P_hv132 xs L))) P_i273_1 (fun _ => rfl) ?_
  refine P_wp_step (S' := (3, [.ref 2, .int (xs 1), .int (xs 2), .ref 63, P_un], [.ref 2, .int 0, .ref 63], (P_hv132 xs L))) P_i273_2 (fun _ => rfl) ?_
  refine P_wp_step (S' := (4, [.ref 2, .int (xs 1), .int (xs 2), .ref 63, P_un], [.int (xs 1), .ref 2, .int 0, .ref 63], (P_hv132 xs L))) P_i273_3 (fun _ => rfl) ?_
  refine P_wp_step (S' := (5, [.ref 2, .int (xs 1), .int (xs 2), .ref 63, P_un], [.int (xs 2), .int (xs 1), .ref 2, .int 0, .ref 63], (P_hv132 xs L))) P_i273_4 (fun _ => rfl) ?_
  refine P_wp_call P_i273_5 rfl rfl rfl rfl rfl rfl rfl (y2 := 141) (as := [.ref 2, .int (xs 1), .int (xs 2)]) (r0 := [.int 0, .ref 63]) rfl (Nat.le_of_ble_eq_true rfl) (by decide) rfl (Nat.le_of_ble_eq_true rfl) (P_x63 xs L hq1 (?_))
  refine ⟨show 4 < 5 by decide, ?_⟩
  show P_wp P_Y0 199 273 (15, [.ref 2, .int (xs 1), .int (xs 2), .ref 63, P_un], [], (P_hv134 xs L)) _
  refine P_wp_step (S' := (16, [.ref 2, .int (xs 1), .int (xs 2), .ref 63, P_un], [.int 1], (P_hv134 xs L))) P_i273_15 (fun _ => rfl) ?_
  refine P_wp_end (x := (.inl (some (.int 1)), (P_hv134 xs L))) P_i273_16 (fun _ => rfl) ?_
  exact q

set_option maxRecDepth 20000 in
theorem P_x65 (xs : Nat → Int32) (L : Nat) (hq1 : P_cc .lt (xs 1) 0 = true) {Q : P_R → P_H → Prop} (q : Q (.inl (some (.int 0))) (P_hv135 xs L)) : P_wp P_Y0 199 194 (0, [.ref 47, .int (xs 1), .int (xs 2)], [], (P_hv134 xs L)) Q := by
  refine P_wp_step (S' := (1, [.ref 47, .int (xs 1), .int (xs 2)], [.ref 47], (P_hv134 xs L))) P_i194_0 (fun _ => rfl) ?_
  refine P_wp_step (S' := (2, [.ref 47, .int (xs 1), .int (xs 2)], [.int 0, .ref 47], (P_hv134 xs L))) P_i194_1 (fun _ => rfl) ?_
  refine P_wp_step (S' := (5, [.ref 47, .int (xs 1), .int (xs 2)], [], (P_hv134 xs L))) P_i194_2 (fun _ => rfl) ?_
  refine P_wp_step (S' := (6, [.ref 47, .int (xs 1), .int (xs 2)], [.ref 47], (P_hv134 xs L))) P_i194_5 (fun _ => rfl) ?_
  refine P_wp_step (S' := (7, [.ref 47, .int (xs 1), .int (xs 2)], [.int (xs 1), .ref 47], (P_hv134 xs L))) P_i194_6 (fun _ => rfl) ?_
  refine P_wp_call P_i194_7 rfl rfl rfl rfl rfl rfl rfl (y2 := 187) (as := [.ref 47, .int (xs 1)]) (r0 := []) rfl (Nat.le_of_ble_eq_true rfl) (by decide) rfl (Nat.le_of_ble_eq_true rfl) (P_x49 xs L hq1 (?_))
  show P_wp P_Y0 199 194 (10, [.ref 47, .int (xs 1), .int (xs 2)], [.int 0], (P_hv134 xs L)) _
  refine P_wp_izt P_i194_10 P_b27 (show P_wp P_Y0 199 194 (38, [.ref 47, .int (xs 1), .int (xs 2)], [], (P_hv134 xs L)) _ from ?_)
  refine P_wp_step (S' := (39, [.ref 47, .int (xs 1), .int (xs 2)], [.ref 47], (P_hv134 xs L))) P_i194_38 (fun _ => rfl) ?_
  refine P_wp_step (S' := (40, [.ref 47, .int (xs 1), .int (xs 2)], [.int 1, .ref 47], (P_hv134 xs L))) P_i194_39 (fun _ => rfl) ?_
  refine P_wp_call P_i194_40 rfl rfl rfl rfl rfl rfl rfl (y2 := 184) (as := [.ref 47, .int 1]) (r0 := []) rfl (Nat.le_of_ble_eq_true rfl) (by decide) rfl (Nat.le_of_ble_eq_true rfl) (P_x30 xs L (?_))
  show P_wp P_Y0 199 194 (43, [.ref 47, .int (xs 1), .int (xs 2)], [.int 0], (P_hv135 xs L)) _
  refine P_wp_end (x := (.inl (some (.int 0)), (P_hv135 xs L))) P_i194_43 (fun _ => rfl) ?_
  exact q

set_option maxRecDepth 20000 in
theorem P_x66 (xs : Nat → Int32) (L : Nat) (hq1 : P_cc .lt (xs 1) 0 = false) (hq2 : P_cc .ge (xs 1) 0 = true) {Q : P_R → P_H → Prop} (q : Q (.inr 2) (P_hv134 xs L)) : P_wp P_Y0 198 141 (0, [.ref 2, .int (xs 1), .int (xs 2)], [], (P_hv132 xs L)) Q := by
  refine P_wp_step (S' := (1, [.ref 2, .int (xs 1), .int (xs 2)], [.ref 2], (P_hv132 xs L))) P_i141_0 (fun _ => rfl) ?_
  refine P_wp_step (S' := (4, [.ref 2, .int (xs 1), .int (xs 2)], [.ref 3], (P_hv132 xs L))) P_i141_1 (fun _ => rfl) ?_
  refine P_wp_step (S' := (5, [.ref 2, .int (xs 1), .int (xs 2)], [.int (xs 1), .ref 3], (P_hv132 xs L))) P_i141_4 (fun _ => rfl) ?_
  refine P_wp_call P_i141_5 rfl rfl rfl rfl rfl rfl rfl (y2 := 115) (as := [.ref 3, .int (xs 1)]) (r0 := []) rfl (Nat.le_of_ble_eq_true rfl) (by decide) rfl (Nat.le_of_ble_eq_true rfl) (P_x51 xs L hq1 hq2 (?_))
  show P_wp P_Y0 198 141 (8, [.ref 2, .int (xs 1), .int (xs 2)], [.int 0], (P_hv132 xs L)) _
  refine P_wp_izt P_i141_8 P_b27 (show P_wp P_Y0 198 141 (30, [.ref 2, .int (xs 1), .int (xs 2)], [], (P_hv132 xs L)) _ from ?_)
  refine P_wp_end (x := (.inr 2, (P_hv134 xs L))) P_i141_30 (fun _ => rfl) ?_
  exact q

set_option maxRecDepth 20000 in
theorem P_x67 (xs : Nat → Int32) (L : Nat) (hq1 : P_cc .lt (xs 1) 0 = false) (hq2 : P_cc .ge (xs 1) 0 = true) {Q : P_R → P_H → Prop} (q : Q (.inl (some (.int 1))) (P_hv134 xs L)) : P_wp P_Y0 199 273 (0, [.ref 2, .int (xs 1), .int (xs 2), .ref 63, P_un], [], (P_hv132 xs L)) Q := by
  refine P_wp_step (S' := (1, [.ref 2, .int (xs 1), .int (xs 2), .ref 63, P_un], [.ref 63], (P_hv132 xs L))) P_i273_0 (fun _ => rfl) ?_
  refine P_wp_step (S' := (2, [.ref 2, .int (xs 1), .int (xs 2), .ref 63, P_un], [.int 0, .ref 63], (P_hv132 xs L))) P_i273_1 (fun _ => rfl) ?_
  refine P_wp_step (S' := (3, [.ref 2, .int (xs 1), .int (xs 2), .ref 63, P_un], [.ref 2, .int 0, .ref 63], (P_hv132 xs L))) P_i273_2 (fun _ => rfl) ?_
  refine P_wp_step (S' := (4, [.ref 2, .int (xs 1), .int (xs 2), .ref 63, P_un], [.int (xs 1), .ref 2, .int 0, .ref 63], (P_hv132 xs L))) P_i273_3 (fun _ => rfl) ?_
  refine P_wp_step (S' := (5, [.ref 2, .int (xs 1), .int (xs 2), .ref 63, P_un], [.int (xs 2), .int (xs 1), .ref 2, .int 0, .ref 63], (P_hv132 xs L))) P_i273_4 (fun _ => rfl) ?_
  refine P_wp_call P_i273_5 rfl rfl rfl rfl rfl rfl rfl (y2 := 141) (as := [.ref 2, .int (xs 1), .int (xs 2)]) (r0 := [.int 0, .ref 63]) rfl (Nat.le_of_ble_eq_true rfl) (by decide) rfl (Nat.le_of_ble_eq_true rfl) (P_x66 xs L hq1 hq2 (?_))
  refine ⟨show 4 < 5 by decide, ?_⟩
  show P_wp P_Y0 199 273 (15, [.ref 2, .int (xs 1), .int (xs 2), .ref 63, P_un], [], (P_hv134 xs L)) _
  refine P_wp_step (S' := (16, [.ref 2, .int (xs 1), .int (xs 2), .ref 63, P_un], [.int 1], (P_hv134 xs L))) P_i273_15 (fun _ => rfl) ?_
  refine P_wp_end (x := (.inl (some (.int 1)), (P_hv134 xs L))) P_i273_16 (fun _ => rfl) ?_
  exact q

set_option maxRecDepth 20000 in
theorem P_x68 (xs : Nat → Int32) (L : Nat) (hq1 : P_cc .lt (xs 1) 0 = false) (hq2 : P_cc .gt (xs 1) (-1) = true) {Q : P_R → P_H → Prop} (q : Q (.inl (some (.int 0))) (P_hv135 xs L)) : P_wp P_Y0 199 194 (0, [.ref 47, .int (xs 1), .int (xs 2)], [], (P_hv134 xs L)) Q := by
  refine P_wp_step (S' := (1, [.ref 47, .int (xs 1), .int (xs 2)], [.ref 47], (P_hv134 xs L))) P_i194_0 (fun _ => rfl) ?_
  refine P_wp_step (S' := (2, [.ref 47, .int (xs 1), .int (xs 2)], [.int 0, .ref 47], (P_hv134 xs L))) P_i194_1 (fun _ => rfl) ?_
  refine P_wp_step (S' := (5, [.ref 47, .int (xs 1), .int (xs 2)], [], (P_hv134 xs L))) P_i194_2 (fun _ => rfl) ?_
  refine P_wp_step (S' := (6, [.ref 47, .int (xs 1), .int (xs 2)], [.ref 47], (P_hv134 xs L))) P_i194_5 (fun _ => rfl) ?_
  refine P_wp_step (S' := (7, [.ref 47, .int (xs 1), .int (xs 2)], [.int (xs 1), .ref 47], (P_hv134 xs L))) P_i194_6 (fun _ => rfl) ?_
  refine P_wp_call P_i194_7 rfl rfl rfl rfl rfl rfl rfl (y2 := 187) (as := [.ref 47, .int (xs 1)]) (r0 := []) rfl (Nat.le_of_ble_eq_true rfl) (by decide) rfl (Nat.le_of_ble_eq_true rfl) (P_x55 xs L hq1 hq2 (?_))
  show P_wp P_Y0 199 194 (10, [.ref 47, .int (xs 1), .int (xs 2)], [.int 0], (P_hv134 xs L)) _
  refine P_wp_izt P_i194_10 P_b27 (show P_wp P_Y0 199 194 (38, [.ref 47, .int (xs 1), .int (xs 2)], [], (P_hv134 xs L)) _ from ?_)
  refine P_wp_step (S' := (39, [.ref 47, .int (xs 1), .int (xs 2)], [.ref 47], (P_hv134 xs L))) P_i194_38 (fun _ => rfl) ?_
  refine P_wp_step (S' := (40, [.ref 47, .int (xs 1), .int (xs 2)], [.int 1, .ref 47], (P_hv134 xs L))) P_i194_39 (fun _ => rfl) ?_
  refine P_wp_call P_i194_40 rfl rfl rfl rfl rfl rfl rfl (y2 := 184) (as := [.ref 47, .int 1]) (r0 := []) rfl (Nat.le_of_ble_eq_true rfl) (by decide) rfl (Nat.le_of_ble_eq_true rfl) (P_x30 xs L (?_))
  show P_wp P_Y0 199 194 (43, [.ref 47, .int (xs 1), .int (xs 2)], [.int 0], (P_hv135 xs L)) _
  refine P_wp_end (x := (.inl (some (.int 0)), (P_hv135 xs L))) P_i194_43 (fun _ => rfl) ?_
  exact q

set_option maxRecDepth 20000 in
theorem P_x69 (xs : Nat → Int32) (L : Nat) (hq1 : P_cc .lt (xs 1) 20 = true) {Q : P_R → P_H → Prop} (q : Q (.inl (some (.int 0))) (P_hv132 xs L)) : P_wp P_Y0 196 174 (0, [.int (xs 1)], [], (P_hv132 xs L)) Q := by
  refine P_wp_step (S' := (1, [.int (xs 1)], [.int (xs 1)], (P_hv132 xs L))) P_i174_0 (fun _ => rfl) ?_
  refine P_wp_step (S' := (3, [.int (xs 1)], [.int 20, .int (xs 1)], (P_hv132 xs L))) P_i174_1 (fun _ => rfl) ?_
  refine P_wp_ict P_i174_3 hq1 (show P_wp P_Y0 196 174 (16, [.int (xs 1)], [], (P_hv132 xs L)) _ from ?_)
  refine P_wp_step (S' := (17, [.int (xs 1)], [.int 0], (P_hv132 xs L))) P_i174_16 (fun _ => rfl) ?_
  refine P_wp_end (x := (.inl (some (.int 0)), (P_hv132 xs L))) P_i174_17 (fun _ => rfl) ?_
  exact q

set_option maxRecDepth 20000 in
theorem P_x70 (xs : Nat → Int32) (L : Nat) (hq1 : P_cc .lt (xs 1) 100 = true) {Q : P_R → P_H → Prop} (q : Q (.inl (some (.int 0))) (P_hv132 xs L)) : P_wp P_Y0 196 175 (0, [.int (xs 1)], [], (P_hv132 xs L)) Q := by
  refine P_wp_step (S' := (1, [.int (xs 1)], [.int (xs 1)], (P_hv132 xs L))) P_i175_0 (fun _ => rfl) ?_
  refine P_wp_step (S' := (3, [.int (xs 1)], [.int 100, .int (xs 1)], (P_hv132 xs L))) P_i175_1 (fun _ => rfl) ?_
  refine P_wp_ict P_i175_3 hq1 (show P_wp P_Y0 196 175 (17, [.int (xs 1)], [], (P_hv132 xs L)) _ from ?_)
  refine P_wp_step (S' := (18, [.int (xs 1)], [.int 0], (P_hv132 xs L))) P_i175_17 (fun _ => rfl) ?_
  refine P_wp_end (x := (.inl (some (.int 0)), (P_hv132 xs L))) P_i175_18 (fun _ => rfl) ?_
  exact q

set_option maxRecDepth 20000 in
theorem P_x71 (xs : Nat → Int32) (L : Nat) (hq1 : P_cc .lt (xs 1) 1000 = true) {Q : P_R → P_H → Prop} (q : Q (.inl (some (.int 0))) (P_hv132 xs L)) : P_wp P_Y0 196 176 (0, [.int (xs 1)], [], (P_hv132 xs L)) Q := by
  refine P_wp_step (S' := (1, [.int (xs 1)], [.int (xs 1)], (P_hv132 xs L))) P_i176_0 (fun _ => rfl) ?_
  refine P_wp_step (S' := (4, [.int (xs 1)], [.int 1000, .int (xs 1)], (P_hv132 xs L))) P_i176_1 (fun _ => rfl) ?_
  refine P_wp_ict P_i176_4 hq1 (show P_wp P_Y0 196 176 (18, [.int (xs 1)], [], (P_hv132 xs L)) _ from ?_)
  refine P_wp_step (S' := (19, [.int (xs 1)], [.int 0], (P_hv132 xs L))) P_i176_18 (fun _ => rfl) ?_
  refine P_wp_end (x := (.inl (some (.int 0)), (P_hv132 xs L))) P_i176_19 (fun _ => rfl) ?_
  exact q

set_option maxRecDepth 20000 in
theorem P_x72 (xs : Nat → Int32) (L : Nat) (hq1 : P_cc .lt (xs 1) 0 = true) (hq2 : P_cc .lt (xs 1) 20 = true) (hq3 : P_cc .lt (xs 1) 100 = true) (hq4 : P_cc .lt (xs 1) 1000 = true) {Q : P_R → P_H → Prop} (q : Q (.inl (some (.int 0))) (P_hv132 xs L)) : P_wp P_Y0 197 173 (0, [.int (xs 1)], [], (P_hv132 xs L)) Q := by
  refine P_wp_step (S' := (1, [.int (xs 1)], [.int (xs 1)], (P_hv132 xs L))) P_i173_0 (fun _ => rfl) ?_
  refine P_wp_izt P_i173_1 hq1 (show P_wp P_Y0 197 173 (10, [.int (xs 1)], [], (P_hv132 xs L)) _ from ?_)
  refine P_wp_step (S' := (11, [.int (xs 1)], [.int (xs 1)], (P_hv132 xs L))) P_i173_10 (fun _ => rfl) ?_
  refine P_wp_call P_i173_11 rfl rfl rfl rfl rfl rfl rfl (y2 := 174) (as := [.int (xs 1)]) (r0 := []) rfl (Nat.le_of_ble_eq_true rfl) (by decide) rfl (Nat.le_of_ble_eq_true rfl) (P_x69 xs L hq2 (?_))
  show P_wp P_Y0 197 173 (14, [.int (xs 1)], [.int 0], (P_hv132 xs L)) _
  refine P_wp_izf P_i173_14 P_b19 (show P_wp P_Y0 197 173 (17, [.int (xs 1)], [], (P_hv132 xs L)) _ from ?_)
  refine P_wp_step (S' := (18, [.int (xs 1)], [.int (xs 1)], (P_hv132 xs L))) P_i173_17 (fun _ => rfl) ?_
  refine P_wp_call P_i173_18 rfl rfl rfl rfl rfl rfl rfl (y2 := 175) (as := [.int (xs 1)]) (r0 := []) rfl (Nat.le_of_ble_eq_true rfl) (by decide) rfl (Nat.le_of_ble_eq_true rfl) (P_x70 xs L hq3 (?_))
  show P_wp P_Y0 197 173 (21, [.int (xs 1)], [.int 0], (P_hv132 xs L)) _
  refine P_wp_izf P_i173_21 P_b19 (show P_wp P_Y0 197 173 (24, [.int (xs 1)], [], (P_hv132 xs L)) _ from ?_)
  refine P_wp_step (S' := (25, [.int (xs 1)], [.int (xs 1)], (P_hv132 xs L))) P_i173_24 (fun _ => rfl) ?_
  refine P_wp_call P_i173_25 rfl rfl rfl rfl rfl rfl rfl (y2 := 176) (as := [.int (xs 1)]) (r0 := []) rfl (Nat.le_of_ble_eq_true rfl) (by decide) rfl (Nat.le_of_ble_eq_true rfl) (P_x71 xs L hq4 (?_))
  show P_wp P_Y0 197 173 (28, [.int (xs 1)], [.int 0], (P_hv132 xs L)) _
  refine P_wp_izt P_i173_28 P_b27 (show P_wp P_Y0 197 173 (35, [.int (xs 1)], [], (P_hv132 xs L)) _ from ?_)
  refine P_wp_step (S' := (36, [.int (xs 1)], [.int 0], (P_hv132 xs L))) P_i173_35 (fun _ => rfl) ?_
  refine P_wp_end (x := (.inl (some (.int 0)), (P_hv132 xs L))) P_i173_36 (fun _ => rfl) ?_
  exact q

set_option maxRecDepth 20000 in
theorem P_x73 (xs : Nat → Int32) (L : Nat) (hq1 : P_cc .lt (xs 1) 0 = true) (hq2 : P_cc .lt (xs 1) 20 = true) (hq3 : P_cc .lt (xs 1) 100 = true) (hq4 : P_cc .lt (xs 1) 1000 = true) {Q : P_R → P_H → Prop} (q : Q (.inr 0) (P_hv134 xs L)) : P_wp P_Y0 198 142 (0, [.ref 2, .int (xs 1)], [], (P_hv132 xs L)) Q := by
  refine P_wp_step (S' := (1, [.ref 2, .int (xs 1)], [.int (xs 1)], (P_hv132 xs L))) P_i142_0 (fun _ => rfl) ?_
  refine P_wp_call P_i142_1 rfl rfl rfl rfl rfl rfl rfl (y2 := 173) (as := [.int (xs 1)]) (r0 := []) rfl (Nat.le_of_ble_eq_true rfl) (by decide) rfl (Nat.le_of_ble_eq_true rfl) (P_x72 xs L hq1 hq2 hq3 hq4 (?_))
  show P_wp P_Y0 198 142 (4, [.ref 2, .int (xs 1)], [.int 0], (P_hv132 xs L)) _
  refine P_wp_izf P_i142_4 P_b19 (show P_wp P_Y0 198 142 (7, [.ref 2, .int (xs 1)], [], (P_hv132 xs L)) _ from ?_)
  refine P_wp_end (x := (.inr 0, (P_hv134 xs L))) P_i142_7 (fun _ => rfl) ?_
  exact q

set_option maxRecDepth 20000 in
theorem P_x74 (xs : Nat → Int32) (L : Nat) (hq1 : P_cc .lt (xs 1) 0 = true) (hq2 : P_cc .lt (xs 1) 20 = true) (hq3 : P_cc .lt (xs 1) 100 = true) (hq4 : P_cc .lt (xs 1) 1000 = true) {Q : P_R → P_H → Prop} (q : Q (.inl (some (.int 1))) (P_hv134 xs L)) : P_wp P_Y0 199 274 (0, [.ref 2, .int (xs 1), .ref 63, P_un], [], (P_hv132 xs L)) Q := by
  refine P_wp_step (S' := (1, [.ref 2, .int (xs 1), .ref 63, P_un], [.ref 63], (P_hv132 xs L))) P_i274_0 (fun _ => rfl) ?_
  refine P_wp_step (S' := (2, [.ref 2, .int (xs 1), .ref 63, P_un], [.int 0, .ref 63], (P_hv132 xs L))) P_i274_1 (fun _ => rfl) ?_
  refine P_wp_step (S' := (3, [.ref 2, .int (xs 1), .ref 63, P_un], [.ref 2, .int 0, .ref 63], (P_hv132 xs L))) P_i274_2 (fun _ => rfl) ?_
  refine P_wp_step (S' := (4, [.ref 2, .int (xs 1), .ref 63, P_un], [.int (xs 1), .ref 2, .int 0, .ref 63], (P_hv132 xs L))) P_i274_3 (fun _ => rfl) ?_
  refine P_wp_call P_i274_4 rfl rfl rfl rfl rfl rfl rfl (y2 := 142) (as := [.ref 2, .int (xs 1)]) (r0 := [.int 0, .ref 63]) rfl (Nat.le_of_ble_eq_true rfl) (by decide) rfl (Nat.le_of_ble_eq_true rfl) (P_x73 xs L hq1 hq2 hq3 hq4 (?_))
  refine ⟨show 3 < 4 by decide, ?_⟩
  show P_wp P_Y0 199 274 (13, [.ref 2, .int (xs 1), .ref 63, P_un], [], (P_hv134 xs L)) _
  refine P_wp_step (S' := (14, [.ref 2, .int (xs 1), .ref 63, P_un], [.int 1], (P_hv134 xs L))) P_i274_13 (fun _ => rfl) ?_
  refine P_wp_end (x := (.inl (some (.int 1)), (P_hv134 xs L))) P_i274_14 (fun _ => rfl) ?_
  exact q

set_option maxRecDepth 20000 in
theorem P_x75 (xs : Nat → Int32) (L : Nat) (hq1 : P_cc .lt (xs 1) 0 = true) {Q : P_R → P_H → Prop} (q : Q (.inl (some (.int 0))) (P_hv134 xs L)) : P_wp P_Y0 198 186 (0, [.int (xs 1), .int 0, .int 11], [], (P_hv134 xs L)) Q := by
  refine P_wp_step (S' := (1, [.int (xs 1), .int 0, .int 11], [.int (xs 1)], (P_hv134 xs L))) P_i186_0 (fun _ => rfl) ?_
  refine P_wp_step (S' := (2, [.int (xs 1), .int 0, .int 11], [.int 0, .int (xs 1)], (P_hv134 xs L))) P_i186_1 (fun _ => rfl) ?_
  refine P_wp_ict P_i186_2 hq1 (show P_wp P_Y0 198 186 (14, [.int (xs 1), .int 0, .int 11], [], (P_hv134 xs L)) _ from ?_)
  refine P_wp_step (S' := (15, [.int (xs 1), .int 0, .int 11], [.int 0], (P_hv134 xs L))) P_i186_14 (fun _ => rfl) ?_
  refine P_wp_end (x := (.inl (some (.int 0)), (P_hv134 xs L))) P_i186_15 (fun _ => rfl) ?_
  exact q

set_option maxRecDepth 20000 in
theorem P_x76 (xs : Nat → Int32) (L : Nat) (hq1 : P_cc .lt (xs 1) 20 = true) {Q : P_R → P_H → Prop} (q : Q (.inl (some (.int 0))) (P_hv134 xs L)) : P_wp P_Y0 198 186 (0, [.int (xs 1), .int 20, .int 24], [], (P_hv134 xs L)) Q := by
  refine P_wp_step (S' := (1, [.int (xs 1), .int 20, .int 24], [.int (xs 1)], (P_hv134 xs L))) P_i186_0 (fun _ => rfl) ?_
  refine P_wp_step (S' := (2, [.int (xs 1), .int 20, .int 24], [.int 20, .int (xs 1)], (P_hv134 xs L))) P_i186_1 (fun _ => rfl) ?_
  refine P_wp_ict P_i186_2 hq1 (show P_wp P_Y0 198 186 (14, [.int (xs 1), .int 20, .int 24], [], (P_hv134 xs L)) _ from ?_)
  refine P_wp_step (S' := (15, [.int (xs 1), .int 20, .int 24], [.int 0], (P_hv134 xs L))) P_i186_14 (fun _ => rfl) ?_
  refine P_wp_end (x := (.inl (some (.int 0)), (P_hv134 xs L))) P_i186_15 (fun _ => rfl) ?_
  exact q

set_option maxRecDepth 20000 in
theorem P_x77 (xs : Nat → Int32) (L : Nat) (hq1 : P_cc .lt (xs 1) 100 = true) {Q : P_R → P_H → Prop} (q : Q (.inl (some (.int 0))) (P_hv134 xs L)) : P_wp P_Y0 198 186 (0, [.int (xs 1), .int 100, .int 199], [], (P_hv134 xs L)) Q := by
  refine P_wp_step (S' := (1, [.int (xs 1), .int 100, .int 199], [.int (xs 1)], (P_hv134 xs L))) P_i186_0 (fun _ => rfl) ?_
  refine P_wp_step (S' := (2, [.int (xs 1), .int 100, .int 199], [.int 100, .int (xs 1)], (P_hv134 xs L))) P_i186_1 (fun _ => rfl) ?_
  refine P_wp_ict P_i186_2 hq1 (show P_wp P_Y0 198 186 (14, [.int (xs 1), .int 100, .int 199], [], (P_hv134 xs L)) _ from ?_)
  refine P_wp_step (S' := (15, [.int (xs 1), .int 100, .int 199], [.int 0], (P_hv134 xs L))) P_i186_14 (fun _ => rfl) ?_
  refine P_wp_end (x := (.inl (some (.int 0)), (P_hv134 xs L))) P_i186_15 (fun _ => rfl) ?_
  exact q

set_option maxRecDepth 20000 in
theorem P_x78 (xs : Nat → Int32) (L : Nat) (hq1 : P_cc .lt (xs 1) 1000 = true) {Q : P_R → P_H → Prop} (q : Q (.inl (some (.int 0))) (P_hv134 xs L)) : P_wp P_Y0 198 186 (0, [.int (xs 1), .int 1000, .int 1999], [], (P_hv134 xs L)) Q := by
  refine P_wp_step (S' := (1, [.int (xs 1), .int 1000, .int 1999], [.int (xs 1)], (P_hv134 xs L))) P_i186_0 (fun _ => rfl) ?_
  refine P_wp_step (S' := (2, [.int (xs 1), .int 1000, .int 1999], [.int 1000, .int (xs 1)], (P_hv134 xs L))) P_i186_1 (fun _ => rfl) ?_
  refine P_wp_ict P_i186_2 hq1 (show P_wp P_Y0 198 186 (14, [.int (xs 1), .int 1000, .int 1999], [], (P_hv134 xs L)) _ from ?_)
  refine P_wp_step (S' := (15, [.int (xs 1), .int 1000, .int 1999], [.int 0], (P_hv134 xs L))) P_i186_14 (fun _ => rfl) ?_
  refine P_wp_end (x := (.inl (some (.int 0)), (P_hv134 xs L))) P_i186_15 (fun _ => rfl) ?_
  exact q
