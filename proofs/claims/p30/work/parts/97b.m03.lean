/-! TABLES of this claim, written by wip/gen.py: methods -/
/-- OrchardQuery.swap(II)I -/
def P_l148 : List (Nat × P_I) := [(1, .invokevirtual 159, 4, 0, 132, [], []), (5, .getfield 19, 8, 10, 2, [], []), (9, .invokevirtual 181, 12, 1, 136, [], []), (16, .getfield 19, 19, 10, 2, [], []), (20, .invokevirtual 181, 23, 1, 136, [], []), (37, .getfield 28, 40, 10, 3, [], []), (42, .invokevirtual 186, 45, 2, 137, [], []), (46, .invokevirtual 116, 49, 0, 124, [], []), (50, .getfield 28, 53, 10, 3, [], []), (54, .invokevirtual 190, 57, 1, 66, [], [])]
set_option maxRecDepth 20000 in
theorem P_k148 : ∀ q ∈ P_l148, P_lnk P_cl P_aty P_stat P_tx P_N0 P_Tb P_Y0 "OrchardQuery" false prog_1_method_13_code [] q.1 q.2.1 q.2.2.2.1 q.2.2.2.2.1 :=
  P_all_cons (P_lnk_vi (P_vall (l := P_v132) rfl (P_all_cons (show P_vok _ _ _ 10 168 from ⟨_, rfl, rfl, w_1_2, w_1_139, (Or.inl ⟨P_sg 0 rfl, w_p_2, (Or.inl w_1_137)⟩)⟩) (P_all_nil)))) <|
  P_all_cons (P_lnk_get (P_s1 (c := 10) (P := fun ci => P_fok P_cl P_Tb "OrchardQuery" 19 ci 2) rfl ⟨_, _, _, "OrchardQuery", rfl, by decide, (Or.inl rfl), (Or.inl w_4_173)⟩)) <|
  P_all_cons (P_lnk_vi (P_vall (l := P_v136) rfl (P_all_cons (show P_vok _ _ _ 3 37 from ⟨_, rfl, rfl, w_1_5, w_1_232, (Or.inl ⟨P_sg 1 rfl, w_1_233, (Or.inl w_1_231)⟩)⟩) (P_all_nil)))) <|
  P_all_cons (P_lnk_get (P_s1 (c := 10) (P := fun ci => P_fok P_cl P_Tb "OrchardQuery" 19 ci 2) rfl ⟨_, _, _, "OrchardQuery", rfl, by decide, (Or.inl rfl), (Or.inl w_4_173)⟩)) <|
  P_all_cons (P_lnk_vi (P_vall (l := P_v136) rfl (P_all_cons (show P_vok _ _ _ 3 37 from ⟨_, rfl, rfl, w_1_5, w_1_232, (Or.inl ⟨P_sg 1 rfl, w_1_233, (Or.inl w_1_231)⟩)⟩) (P_all_nil)))) <|
  P_all_cons (P_lnk_get (P_s1 (c := 10) (P := fun ci => P_fok P_cl P_Tb "OrchardQuery" 28 ci 3) rfl ⟨_, _, _, "OrchardQuery", rfl, by decide, (Or.inl rfl), (Or.inl w_4_174)⟩)) <|
  P_all_cons (P_lnk_vi (P_vall (l := P_v137) rfl (P_all_cons (show P_vok _ _ _ 5 79 from ⟨_, rfl, rfl, w_1_6, w_6_135, (Or.inl ⟨P_sg 2 rfl, w_6_136, (Or.inl w_6_134)⟩)⟩) (P_all_nil)))) <|
  P_all_cons (P_lnk_vi (P_vall (l := P_v124) rfl (P_all_cons (show P_vok _ _ _ 10 169 from ⟨_, rfl, rfl, w_1_2, w_5_55, (Or.inl ⟨P_sg 0 rfl, w_p_17, (Or.inl w_5_53)⟩)⟩) (P_all_nil)))) <|
  P_all_cons (P_lnk_get (P_s1 (c := 10) (P := fun ci => P_fok P_cl P_Tb "OrchardQuery" 28 ci 3) rfl ⟨_, _, _, "OrchardQuery", rfl, by decide, (Or.inl rfl), (Or.inl w_4_174)⟩)) <|
  P_all_cons (P_lnk_vi (P_vall (l := P_v66) rfl (P_all_cons (show P_vok _ _ _ 5 58 from ⟨_, rfl, rfl, w_1_6, w_1_237, (Or.inl ⟨P_sg 1 rfl, w_1_238, (Or.inl w_1_236)⟩)⟩) (P_all_nil)))) <|
  P_all_nil
set_option maxRecDepth 20000 in
theorem P_m148 : P_mstC 148 3 (Option.some Jvm.ClassFile.FieldType.int) P_e148 [] := P_meth (mx := 3) (rt := (Option.some Jvm.ClassFile.FieldType.int)) (hs := []) "OrchardQuery" false prog_1_method_13_code [] rfl rfl rfl rfl (by decide +kernel) (by decide +kernel) (fun _ => P_g148) (by decide) (fun _ _ => by decide +kernel) (fun q => by cases q) (P_all_cons (by decide +kernel) <| P_all_cons (by decide +kernel) <| P_all_nil) P_l148 (by decide +kernel) P_k148 (fun _ _ => P_hok_nil)
/-- OrchardQuery.best()J -/
def P_l149 : List (Nat × P_I) := [(1, .invokevirtual 159, 4, 0, 132, [], []), (5, .getfield 28, 8, 10, 3, [], []), (8, .invokevirtual 193, 11, 0, 138, [], []), (13, .invokevirtual 116, 16, 0, 124, [], [])]
set_option maxRecDepth 20000 in
theorem P_k149 : ∀ q ∈ P_l149, P_lnk P_cl P_aty P_stat P_tx P_N0 P_Tb P_Y0 "OrchardQuery" false prog_1_method_14_code [] q.1 q.2.1 q.2.2.2.1 q.2.2.2.2.1 :=
  P_all_cons (P_lnk_vi (P_vall (l := P_v132) rfl (P_all_cons (show P_vok _ _ _ 10 168 from ⟨_, rfl, rfl, w_1_2, w_1_139, (Or.inl ⟨P_sg 0 rfl, w_p_2, (Or.inl w_1_137)⟩)⟩) (P_all_nil)))) <|
  P_all_cons (P_lnk_get (P_s1 (c := 10) (P := fun ci => P_fok P_cl P_Tb "OrchardQuery" 28 ci 3) rfl ⟨_, _, _, "OrchardQuery", rfl, by decide, (Or.inl rfl), (Or.inl w_4_174)⟩)) <|
  P_all_cons (P_lnk_vi (P_vall (l := P_v138) rfl (P_all_cons (show P_vok _ _ _ 5 80 from ⟨_, rfl, rfl, w_1_6, w_6_166, (Or.inl ⟨P_sg 0 rfl, w_6_167, (Or.inl w_6_165)⟩)⟩) (P_all_nil)))) <|
  P_all_cons (P_lnk_vi (P_vall (l := P_v124) rfl (P_all_cons (show P_vok _ _ _ 10 169 from ⟨_, rfl, rfl, w_1_2, w_5_55, (Or.inl ⟨P_sg 0 rfl, w_p_17, (Or.inl w_5_53)⟩)⟩) (P_all_nil)))) <|
  P_all_nil
set_option maxRecDepth 20000 in
theorem P_m149 : P_mstC 149 3 (Option.some Jvm.ClassFile.FieldType.long) P_e149 [] := P_meth (mx := 3) (rt := (Option.some Jvm.ClassFile.FieldType.long)) (hs := []) "OrchardQuery" false prog_1_method_14_code [] rfl rfl rfl rfl (by decide +kernel) (by decide +kernel) (fun _ => P_g149) (by decide) (fun _ _ => by decide +kernel) (fun q => by cases q) (P_all_cons (by decide +kernel) <| P_all_nil) P_l149 (by decide +kernel) P_k149 (fun _ _ => P_hok_nil)
/-- OrchardQuery.order(I)I -/
def P_l150 : List (Nat × P_I) := [(1, .invokevirtual 159, 4, 0, 132, [], []), (5, .getfield 19, 8, 10, 2, [], []), (9, .invokevirtual 181, 12, 1, 136, [], []), (26, .getfield 28, 29, 10, 3, [], []), (30, .invokevirtual 190, 33, 1, 66, [], [])]
set_option maxRecDepth 20000 in
theorem P_k150 : ∀ q ∈ P_l150, P_lnk P_cl P_aty P_stat P_tx P_N0 P_Tb P_Y0 "OrchardQuery" false prog_1_method_15_code [] q.1 q.2.1 q.2.2.2.1 q.2.2.2.2.1 :=
  P_all_cons (P_lnk_vi (P_vall (l := P_v132) rfl (P_all_cons (show P_vok _ _ _ 10 168 from ⟨_, rfl, rfl, w_1_2, w_1_139, (Or.inl ⟨P_sg 0 rfl, w_p_2, (Or.inl w_1_137)⟩)⟩) (P_all_nil)))) <|
  P_all_cons (P_lnk_get (P_s1 (c := 10) (P := fun ci => P_fok P_cl P_Tb "OrchardQuery" 19 ci 2) rfl ⟨_, _, _, "OrchardQuery", rfl, by decide, (Or.inl rfl), (Or.inl w_4_173)⟩)) <|
  P_all_cons (P_lnk_vi (P_vall (l := P_v136) rfl (P_all_cons (show P_vok _ _ _ 3 37 from ⟨_, rfl, rfl, w_1_5, w_1_232, (Or.inl ⟨P_sg 1 rfl, w_1_233, (Or.inl w_1_231)⟩)⟩) (P_all_nil)))) <|
  P_all_cons (P_lnk_get (P_s1 (c := 10) (P := fun ci => P_fok P_cl P_Tb "OrchardQuery" 28 ci 3) rfl ⟨_, _, _, "OrchardQuery", rfl, by decide, (Or.inl rfl), (Or.inl w_4_174)⟩)) <|
  P_all_cons (P_lnk_vi (P_vall (l := P_v66) rfl (P_all_cons (show P_vok _ _ _ 5 58 from ⟨_, rfl, rfl, w_1_6, w_1_237, (Or.inl ⟨P_sg 1 rfl, w_1_238, (Or.inl w_1_236)⟩)⟩) (P_all_nil)))) <|
  P_all_nil
set_option maxRecDepth 20000 in
theorem P_m150 : P_mstC 150 2 (Option.some Jvm.ClassFile.FieldType.int) P_e150 [] := P_meth (mx := 2) (rt := (Option.some Jvm.ClassFile.FieldType.int)) (hs := []) "OrchardQuery" false prog_1_method_15_code [] rfl rfl rfl rfl (by decide +kernel) (by decide +kernel) (fun _ => P_g150) (by decide) (fun _ _ => by decide +kernel) (fun q => by cases q) (P_all_cons (by decide +kernel) <| P_all_cons (by decide +kernel) <| P_all_nil) P_l150 (by decide +kernel) P_k150 (fun _ _ => P_hok_nil)
/-- OrchardQuery.guess(I)J -/
def P_l151 : List (Nat × P_I) := [(1, .invokevirtual 159, 4, 0, 132, [], []), (5, .getfield 19, 8, 10, 2, [], []), (9, .invokevirtual 181, 12, 1, 136, [], []), (26, .getfield 28, 29, 10, 3, [], []), (30, .invokevirtual 199, 33, 1, 139, [], [])]
set_option maxRecDepth 20000 in
theorem P_k151 : ∀ q ∈ P_l151, P_lnk P_cl P_aty P_stat P_tx P_N0 P_Tb P_Y0 "OrchardQuery" false prog_1_method_16_code [] q.1 q.2.1 q.2.2.2.1 q.2.2.2.2.1 :=
  P_all_cons (P_lnk_vi (P_vall (l := P_v132) rfl (P_all_cons (show P_vok _ _ _ 10 168 from ⟨_, rfl, rfl, w_1_2, w_1_139, (Or.inl ⟨P_sg 0 rfl, w_p_2, (Or.inl w_1_137)⟩)⟩) (P_all_nil)))) <|
  P_all_cons (P_lnk_get (P_s1 (c := 10) (P := fun ci => P_fok P_cl P_Tb "OrchardQuery" 19 ci 2) rfl ⟨_, _, _, "OrchardQuery", rfl, by decide, (Or.inl rfl), (Or.inl w_4_173)⟩)) <|
  P_all_cons (P_lnk_vi (P_vall (l := P_v136) rfl (P_all_cons (show P_vok _ _ _ 3 37 from ⟨_, rfl, rfl, w_1_5, w_1_232, (Or.inl ⟨P_sg 1 rfl, w_1_233, (Or.inl w_1_231)⟩)⟩) (P_all_nil)))) <|
  P_all_cons (P_lnk_get (P_s1 (c := 10) (P := fun ci => P_fok P_cl P_Tb "OrchardQuery" 28 ci 3) rfl ⟨_, _, _, "OrchardQuery", rfl, by decide, (Or.inl rfl), (Or.inl w_4_174)⟩)) <|
  P_all_cons (P_lnk_vi (P_vall (l := P_v139) rfl (P_all_cons (show P_vok _ _ _ 5 66 from ⟨_, rfl, rfl, w_1_6, w_2_7, (Or.inl ⟨P_sg 1 rfl, w_2_8, (Or.inl w_2_6)⟩)⟩) (P_all_nil)))) <|
  P_all_nil
set_option maxRecDepth 20000 in
theorem P_m151 : P_mstC 151 2 (Option.some Jvm.ClassFile.FieldType.long) P_e151 [] := P_meth (mx := 2) (rt := (Option.some Jvm.ClassFile.FieldType.long)) (hs := []) "OrchardQuery" false prog_1_method_16_code [] rfl rfl rfl rfl (by decide +kernel) (by decide +kernel) (fun _ => P_g151) (by decide) (fun _ _ => by decide +kernel) (fun q => by cases q) (P_all_cons (by decide +kernel) <| P_all_cons (by decide +kernel) <| P_all_nil) P_l151 (by decide +kernel) P_k151 (fun _ _ => P_hok_nil)
/-- OrchardQuery.cost()J -/
def P_l152 : List (Nat × P_I) := [(1, .invokevirtual 159, 4, 0, 132, [], []), (5, .getfield 28, 8, 10, 3, [], []), (8, .invokevirtual 203, 11, 0, 82, [], [])]
set_option maxRecDepth 20000 in
theorem P_k152 : ∀ q ∈ P_l152, P_lnk P_cl P_aty P_stat P_tx P_N0 P_Tb P_Y0 "OrchardQuery" false prog_1_method_17_code [] q.1 q.2.1 q.2.2.2.1 q.2.2.2.2.1 :=
  P_all_cons (P_lnk_vi (P_vall (l := P_v132) rfl (P_all_cons (show P_vok _ _ _ 10 168 from ⟨_, rfl, rfl, w_1_2, w_1_139, (Or.inl ⟨P_sg 0 rfl, w_p_2, (Or.inl w_1_137)⟩)⟩) (P_all_nil)))) <|
  P_all_cons (P_lnk_get (P_s1 (c := 10) (P := fun ci => P_fok P_cl P_Tb "OrchardQuery" 28 ci 3) rfl ⟨_, _, _, "OrchardQuery", rfl, by decide, (Or.inl rfl), (Or.inl w_4_174)⟩)) <|
  P_all_cons (P_lnk_vi (P_vall (l := P_v82) rfl (P_all_cons (show P_vok _ _ _ 5 67 from ⟨_, rfl, rfl, w_1_6, w_2_32, (Or.inl ⟨P_sg 0 rfl, w_2_33, (Or.inl w_2_31)⟩)⟩) (P_all_nil)))) <|
  P_all_nil
set_option maxRecDepth 20000 in
theorem P_m152 : P_mstC 152 1 (Option.some Jvm.ClassFile.FieldType.long) P_e152 [] := P_meth (mx := 1) (rt := (Option.some Jvm.ClassFile.FieldType.long)) (hs := []) "OrchardQuery" false prog_1_method_17_code [] rfl rfl rfl rfl (by decide +kernel) (by decide +kernel) (fun _ => P_g152) (by decide) (fun _ _ => by decide +kernel) (fun q => by cases q) (P_all_cons (by decide +kernel) <| P_all_nil) P_l152 (by decide +kernel) P_k152 (fun _ _ => P_hok_nil)
/-- OrchardQuery.isEmpty()Z -/
def P_l153 : List (Nat × P_I) := [(1, .invokevirtual 159, 4, 0, 132, [], []), (5, .getfield 28, 8, 10, 3, [], []), (8, .invokevirtual 206, 11, 0, 25, [], [])]
set_option maxRecDepth 20000 in
theorem P_k153 : ∀ q ∈ P_l153, P_lnk P_cl P_aty P_stat P_tx P_N0 P_Tb P_Y0 "OrchardQuery" false prog_1_method_18_code [] q.1 q.2.1 q.2.2.2.1 q.2.2.2.2.1 :=
  P_all_cons (P_lnk_vi (P_vall (l := P_v132) rfl (P_all_cons (show P_vok _ _ _ 10 168 from ⟨_, rfl, rfl, w_1_2, w_1_139, (Or.inl ⟨P_sg 0 rfl, w_p_2, (Or.inl w_1_137)⟩)⟩) (P_all_nil)))) <|
  P_all_cons (P_lnk_get (P_s1 (c := 10) (P := fun ci => P_fok P_cl P_Tb "OrchardQuery" 28 ci 3) rfl ⟨_, _, _, "OrchardQuery", rfl, by decide, (Or.inl rfl), (Or.inl w_4_174)⟩)) <|
  P_all_cons (P_lnk_vi (P_vall (l := P_v25) rfl (P_all_cons (show P_vok _ _ _ 5 57 from ⟨_, rfl, rfl, w_1_6, w_2_40, (Or.inl ⟨P_sg 0 rfl, w_2_41, (Or.inl w_2_39)⟩)⟩) (P_all_nil)))) <|
  P_all_nil
set_option maxRecDepth 20000 in
theorem P_m153 : P_mstC 153 1 (Option.some Jvm.ClassFile.FieldType.boolean) P_e153 [] := P_meth (mx := 1) (rt := (Option.some Jvm.ClassFile.FieldType.boolean)) (hs := []) "OrchardQuery" false prog_1_method_18_code [] rfl rfl rfl rfl (by decide +kernel) (by decide +kernel) (fun _ => P_g153) (by decide) (fun _ _ => by decide +kernel) (fun q => by cases q) (P_all_cons (by decide +kernel) <| P_all_nil) P_l153 (by decide +kernel) P_k153 (fun _ _ => P_hok_nil)
/-- OrchardQuery.open()I -/
def P_l154 : List (Nat × P_I) := [(1, .invokevirtual 159, 4, 0, 132, [], []), (5, .getfield 60, 8, 10, 6, [], []), (8, .invokevirtual 209, 11, 0, 140, [], []), (12, .getfield 19, 15, 10, 2, [], []), (15, .invokevirtual 212, 18, 0, 53, [], [])]
set_option maxRecDepth 20000 in
theorem P_k154 : ∀ q ∈ P_l154, P_lnk P_cl P_aty P_stat P_tx P_N0 P_Tb P_Y0 "OrchardQuery" false prog_1_method_19_code [] q.1 q.2.1 q.2.2.2.1 q.2.2.2.2.1 :=
  P_all_cons (P_lnk_vi (P_vall (l := P_v132) rfl (P_all_cons (show P_vok _ _ _ 10 168 from ⟨_, rfl, rfl, w_1_2, w_1_139, (Or.inl ⟨P_sg 0 rfl, w_p_2, (Or.inl w_1_137)⟩)⟩) (P_all_nil)))) <|
  P_all_cons (P_lnk_get (P_s1 (c := 10) (P := fun ci => P_fok P_cl P_Tb "OrchardQuery" 60 ci 6) rfl ⟨_, _, _, "OrchardQuery", rfl, by decide, (Or.inl rfl), (Or.inl w_4_177)⟩)) <|
  P_all_cons (P_lnk_vi (P_vall (l := P_v140) rfl (P_all_cons (show P_vok _ _ _ 6 84 from ⟨_, rfl, rfl, w_1_13, w_2_48, (Or.inl ⟨P_sg 0 rfl, w_2_49, (Or.inl w_2_47)⟩)⟩) (P_all_nil)))) <|
  P_all_cons (P_lnk_get (P_s1 (c := 10) (P := fun ci => P_fok P_cl P_Tb "OrchardQuery" 19 ci 2) rfl ⟨_, _, _, "OrchardQuery", rfl, by decide, (Or.inl rfl), (Or.inl w_4_173)⟩)) <|
  P_all_cons (P_lnk_vi (P_vall (l := P_v53) rfl (P_all_cons (show P_vok _ _ _ 3 29 from ⟨_, rfl, rfl, w_1_5, w_1_122, (Or.inl ⟨P_sg 0 rfl, w_1_123, (Or.inl w_1_121)⟩)⟩) (P_all_nil)))) <|
  P_all_nil
set_option maxRecDepth 20000 in
theorem P_m154 : P_mstC 154 1 (Option.some Jvm.ClassFile.FieldType.int) P_e154 [] := P_meth (mx := 1) (rt := (Option.some Jvm.ClassFile.FieldType.int)) (hs := []) "OrchardQuery" false prog_1_method_19_code [] rfl rfl rfl rfl (by decide +kernel) (by decide +kernel) (fun _ => P_g154) (by decide) (fun _ _ => by decide +kernel) (fun q => by cases q) (P_all_cons (by decide +kernel) <| P_all_nil) P_l154 (by decide +kernel) P_k154 (fun _ _ => P_hok_nil)
/-- OrchardQuery.next()Z -/
def P_l155 : List (Nat × P_I) := [(1, .invokevirtual 159, 4, 0, 132, [], []), (5, .getfield 60, 8, 10, 6, [], []), (8, .invokevirtual 215, 11, 0, 141, [], []), (25, .getfield 46, 28, 10, 4, [], []), (28, .invokevirtual 220, 31, 0, 142, [], []), (32, .getfield 60, 35, 10, 6, [], []), (36, .getfield 46, 39, 10, 4, [], []), (39, .invokevirtual 223, 42, 1, 143, [], [])]
set_option maxRecDepth 20000 in
theorem P_k155 : ∀ q ∈ P_l155, P_lnk P_cl P_aty P_stat P_tx P_N0 P_Tb P_Y0 "OrchardQuery" false prog_1_method_20_code [] q.1 q.2.1 q.2.2.2.1 q.2.2.2.2.1 :=
  P_all_cons (P_lnk_vi (P_vall (l := P_v132) rfl (P_all_cons (show P_vok _ _ _ 10 168 from ⟨_, rfl, rfl, w_1_2, w_1_139, (Or.inl ⟨P_sg 0 rfl, w_p_2, (Or.inl w_1_137)⟩)⟩) (P_all_nil)))) <|
  P_all_cons (P_lnk_get (P_s1 (c := 10) (P := fun ci => P_fok P_cl P_Tb "OrchardQuery" 60 ci 6) rfl ⟨_, _, _, "OrchardQuery", rfl, by decide, (Or.inl rfl), (Or.inl w_4_177)⟩)) <|
  P_all_cons (P_lnk_vi (P_vall (l := P_v141) rfl (P_all_cons (show P_vok _ _ _ 6 86 from ⟨_, rfl, rfl, w_1_13, w_2_60, (Or.inl ⟨P_sg 0 rfl, w_2_61, (Or.inl w_2_59)⟩)⟩) (P_all_nil)))) <|
  P_all_cons (P_lnk_get (P_s1 (c := 10) (P := fun ci => P_fok P_cl P_Tb "OrchardQuery" 46 ci 4) rfl ⟨_, _, _, "OrchardQuery", rfl, by decide, (Or.inl rfl), (Or.inl w_4_175)⟩)) <|
  P_all_cons (P_lnk_vi (P_vall (l := P_v142) rfl (P_all_cons (show P_vok _ _ _ 0 3 from ⟨_, rfl, rfl, w_1_10, w_2_65, (Or.inl ⟨P_sg 0 rfl, w_2_66, (Or.inl w_2_64)⟩)⟩) (P_all_nil)))) <|
  P_all_cons (P_lnk_get (P_s1 (c := 10) (P := fun ci => P_fok P_cl P_Tb "OrchardQuery" 60 ci 6) rfl ⟨_, _, _, "OrchardQuery", rfl, by decide, (Or.inl rfl), (Or.inl w_4_177)⟩)) <|
  P_all_cons (P_lnk_get (P_s1 (c := 10) (P := fun ci => P_fok P_cl P_Tb "OrchardQuery" 46 ci 4) rfl ⟨_, _, _, "OrchardQuery", rfl, by decide, (Or.inl rfl), (Or.inl w_4_175)⟩)) <|
  P_all_cons (P_lnk_vi (P_vall (l := P_v143) rfl (P_all_cons (show P_vok _ _ _ 6 88 from ⟨_, rfl, rfl, w_1_13, w_3_8, (Or.inl ⟨P_sg 1 rfl, w_3_9, (Or.inl w_3_7)⟩)⟩) (P_all_nil)))) <|
  P_all_nil
set_option maxRecDepth 20000 in
theorem P_m155 : P_mstC 155 1 (Option.some Jvm.ClassFile.FieldType.boolean) P_e155 [] := P_meth (mx := 1) (rt := (Option.some Jvm.ClassFile.FieldType.boolean)) (hs := []) "OrchardQuery" false prog_1_method_20_code [] rfl rfl rfl rfl (by decide +kernel) (by decide +kernel) (fun _ => P_g155) (by decide) (fun _ _ => by decide +kernel) (fun q => by cases q) (P_all_cons (by decide +kernel) <| P_all_cons (by decide +kernel) <| P_all_nil) P_l155 (by decide +kernel) P_k155 (fun _ _ => P_hok_nil)
/-- OrchardQuery.value(I)I -/
def P_l156 : List (Nat × P_I) := [(1, .invokevirtual 159, 4, 0, 132, [], []), (5, .getfield 60, 8, 10, 6, [], []), (8, .invokevirtual 227, 11, 0, 144, [], []), (25, .getfield 19, 28, 10, 2, [], []), (29, .invokevirtual 232, 32, 1, 113, [], []), (46, .getfield 46, 49, 10, 4, [], []), (49, .invokevirtual 220, 52, 0, 142, [], []), (53, .getfield 46, 56, 10, 4, [], []), (57, .getfield 60, 60, 10, 6, [], []), (60, .invokevirtual 227, 63, 0, 144, [], []), (66, .invokevirtual 237, 69, 2, 46, [], [])]
set_option maxRecDepth 20000 in
theorem P_k156 : ∀ q ∈ P_l156, P_lnk P_cl P_aty P_stat P_tx P_N0 P_Tb P_Y0 "OrchardQuery" false prog_1_method_21_code [] q.1 q.2.1 q.2.2.2.1 q.2.2.2.2.1 :=
  P_all_cons (P_lnk_vi (P_vall (l := P_v132) rfl (P_all_cons (show P_vok _ _ _ 10 168 from ⟨_, rfl, rfl, w_1_2, w_1_139, (Or.inl ⟨P_sg 0 rfl, w_p_2, (Or.inl w_1_137)⟩)⟩) (P_all_nil)))) <|
  P_all_cons (P_lnk_get (P_s1 (c := 10) (P := fun ci => P_fok P_cl P_Tb "OrchardQuery" 60 ci 6) rfl ⟨_, _, _, "OrchardQuery", rfl, by decide, (Or.inl rfl), (Or.inl w_4_177)⟩)) <|
  P_all_cons (P_lnk_vi (P_vall (l := P_v144) rfl (P_all_cons (show P_vok _ _ _ 6 87 from ⟨_, rfl, rfl, w_1_13, w_3_30, (Or.inl ⟨P_sg 0 rfl, w_3_31, (Or.inl w_3_29)⟩)⟩) (P_all_nil)))) <|
  P_all_cons (P_lnk_get (P_s1 (c := 10) (P := fun ci => P_fok P_cl P_Tb "OrchardQuery" 19 ci 2) rfl ⟨_, _, _, "OrchardQuery", rfl, by decide, (Or.inl rfl), (Or.inl w_4_173)⟩)) <|
  P_all_cons (P_lnk_vi (P_vall (l := P_v113) rfl (P_all_cons (show P_vok _ _ _ 3 36 from ⟨_, rfl, rfl, w_1_5, w_3_35, (Or.inl ⟨P_sg 1 rfl, w_3_36, (Or.inl w_3_34)⟩)⟩) (P_all_nil)))) <|
  P_all_cons (P_lnk_get (P_s1 (c := 10) (P := fun ci => P_fok P_cl P_Tb "OrchardQuery" 46 ci 4) rfl ⟨_, _, _, "OrchardQuery", rfl, by decide, (Or.inl rfl), (Or.inl w_4_175)⟩)) <|
  P_all_cons (P_lnk_vi (P_vall (l := P_v142) rfl (P_all_cons (show P_vok _ _ _ 0 3 from ⟨_, rfl, rfl, w_1_10, w_2_65, (Or.inl ⟨P_sg 0 rfl, w_2_66, (Or.inl w_2_64)⟩)⟩) (P_all_nil)))) <|
  P_all_cons (P_lnk_get (P_s1 (c := 10) (P := fun ci => P_fok P_cl P_Tb "OrchardQuery" 46 ci 4) rfl ⟨_, _, _, "OrchardQuery", rfl, by decide, (Or.inl rfl), (Or.inl w_4_175)⟩)) <|
  P_all_cons (P_lnk_get (P_s1 (c := 10) (P := fun ci => P_fok P_cl P_Tb "OrchardQuery" 60 ci 6) rfl ⟨_, _, _, "OrchardQuery", rfl, by decide, (Or.inl rfl), (Or.inl w_4_177)⟩)) <|
  P_all_cons (P_lnk_vi (P_vall (l := P_v144) rfl (P_all_cons (show P_vok _ _ _ 6 87 from ⟨_, rfl, rfl, w_1_13, w_3_30, (Or.inl ⟨P_sg 0 rfl, w_3_31, (Or.inl w_3_29)⟩)⟩) (P_all_nil)))) <|
  P_all_cons (P_lnk_vi (P_vall (l := P_v46) rfl (P_all_cons (show P_vok _ _ _ 0 8 from ⟨_, rfl, rfl, w_1_10, w_2_234, (Or.inl ⟨P_sg 2 rfl, w_2_235, (Or.inl w_3_39)⟩)⟩) (P_all_nil)))) <|
  P_all_nil
set_option maxRecDepth 20000 in
theorem P_m156 : P_mstC 156 2 (Option.some Jvm.ClassFile.FieldType.int) P_e156 [] := P_meth (mx := 2) (rt := (Option.some Jvm.ClassFile.FieldType.int)) (hs := []) "OrchardQuery" false prog_1_method_21_code [] rfl rfl rfl rfl (by decide +kernel) (by decide +kernel) (fun _ => P_g156) (by decide) (fun _ _ => by decide +kernel) (fun q => by cases q) (P_all_cons (by decide +kernel) <| P_all_cons (by decide +kernel) <| P_all_cons (by decide +kernel) <| P_all_nil) P_l156 (by decide +kernel) P_k156 (fun _ _ => P_hok_nil)
/-- OrchardQuery.done(I)I -/
def P_l157 : List (Nat × P_I) := [(1, .invokevirtual 159, 4, 0, 132, [], []), (24, .getfield 60, 27, 10, 6, [], []), (28, .invokevirtual 243, 31, 1, 145, [], [])]
set_option maxRecDepth 20000 in
theorem P_k157 : ∀ q ∈ P_l157, P_lnk P_cl P_aty P_stat P_tx P_N0 P_Tb P_Y0 "OrchardQuery" false prog_1_method_22_code [] q.1 q.2.1 q.2.2.2.1 q.2.2.2.2.1 :=
  P_all_cons (P_lnk_vi (P_vall (l := P_v132) rfl (P_all_cons (show P_vok _ _ _ 10 168 from ⟨_, rfl, rfl, w_1_2, w_1_139, (Or.inl ⟨P_sg 0 rfl, w_p_2, (Or.inl w_1_137)⟩)⟩) (P_all_nil)))) <|
  P_all_cons (P_lnk_get (P_s1 (c := 10) (P := fun ci => P_fok P_cl P_Tb "OrchardQuery" 60 ci 6) rfl ⟨_, _, _, "OrchardQuery", rfl, by decide, (Or.inl rfl), (Or.inl w_4_177)⟩)) <|
  P_all_cons (P_lnk_vi (P_vall (l := P_v145) rfl (P_all_cons (show P_vok _ _ _ 6 89 from ⟨_, rfl, rfl, w_1_13, w_3_46, (Or.inl ⟨P_sg 1 rfl, w_3_47, (Or.inl w_3_45)⟩)⟩) (P_all_nil)))) <|
  P_all_nil
set_option maxRecDepth 20000 in
theorem P_m157 : P_mstC 157 2 (Option.some Jvm.ClassFile.FieldType.int) P_e157 [] := P_meth (mx := 2) (rt := (Option.some Jvm.ClassFile.FieldType.int)) (hs := []) "OrchardQuery" false prog_1_method_22_code [] rfl rfl rfl rfl (by decide +kernel) (by decide +kernel) (fun _ => P_g157) (by decide) (fun _ _ => by decide +kernel) (fun q => by cases q) (P_all_cons (by decide +kernel) <| P_all_nil) P_l157 (by decide +kernel) P_k157 (fun _ _ => P_hok_nil)
/-- OrchardQuery.results()I -/
def P_l158 : List (Nat × P_I) := [(1, .invokevirtual 159, 4, 0, 132, [], []), (5, .getfield 46, 8, 10, 4, [], []), (8, .invokevirtual 220, 11, 0, 142, [], []), (12, .getfield 46, 15, 10, 4, [], []), (15, .invokevirtual 245, 18, 0, 84, [], [])]
set_option maxRecDepth 20000 in
theorem P_k158 : ∀ q ∈ P_l158, P_lnk P_cl P_aty P_stat P_tx P_N0 P_Tb P_Y0 "OrchardQuery" false prog_1_method_23_code [] q.1 q.2.1 q.2.2.2.1 q.2.2.2.2.1 :=
  P_all_cons (P_lnk_vi (P_vall (l := P_v132) rfl (P_all_cons (show P_vok _ _ _ 10 168 from ⟨_, rfl, rfl, w_1_2, w_1_139, (Or.inl ⟨P_sg 0 rfl, w_p_2, (Or.inl w_1_137)⟩)⟩) (P_all_nil)))) <|
  P_all_cons (P_lnk_get (P_s1 (c := 10) (P := fun ci => P_fok P_cl P_Tb "OrchardQuery" 46 ci 4) rfl ⟨_, _, _, "OrchardQuery", rfl, by decide, (Or.inl rfl), (Or.inl w_4_175)⟩)) <|
  P_all_cons (P_lnk_vi (P_vall (l := P_v142) rfl (P_all_cons (show P_vok _ _ _ 0 3 from ⟨_, rfl, rfl, w_1_10, w_2_65, (Or.inl ⟨P_sg 0 rfl, w_2_66, (Or.inl w_2_64)⟩)⟩) (P_all_nil)))) <|
  P_all_cons (P_lnk_get (P_s1 (c := 10) (P := fun ci => P_fok P_cl P_Tb "OrchardQuery" 46 ci 4) rfl ⟨_, _, _, "OrchardQuery", rfl, by decide, (Or.inl rfl), (Or.inl w_4_175)⟩)) <|
  P_all_cons (P_lnk_vi (P_vall (l := P_v84) rfl (P_all_cons (show P_vok _ _ _ 0 5 from ⟨_, rfl, rfl, w_1_10, w_3_12, (Or.inl ⟨P_sg 0 rfl, w_3_13, (Or.inl w_3_53)⟩)⟩) (P_all_nil)))) <|
  P_all_nil
set_option maxRecDepth 20000 in
theorem P_m158 : P_mstC 158 1 (Option.some Jvm.ClassFile.FieldType.int) P_e158 [] := P_meth (mx := 1) (rt := (Option.some Jvm.ClassFile.FieldType.int)) (hs := []) "OrchardQuery" false prog_1_method_23_code [] rfl rfl rfl rfl (by decide +kernel) (by decide +kernel) (fun _ => P_g158) (by decide) (fun _ _ => by decide +kernel) (fun q => by cases q) (P_all_cons (by decide +kernel) <| P_all_nil) P_l158 (by decide +kernel) P_k158 (fun _ _ => P_hok_nil)
/-- OrchardQuery.result(II)I -/
def P_l159 : List (Nat × P_I) := [(1, .invokevirtual 159, 4, 0, 132, [], []), (5, .getfield 46, 8, 10, 4, [], []), (8, .invokevirtual 220, 11, 0, 142, [], []), (17, .getfield 46, 20, 10, 4, [], []), (20, .invokevirtual 245, 23, 0, 84, [], []), (27, .getfield 19, 30, 10, 2, [], []), (31, .invokevirtual 232, 34, 1, 113, [], []), (48, .getfield 46, 51, 10, 4, [], []), (53, .invokevirtual 237, 56, 2, 46, [], [])]
set_option maxRecDepth 20000 in
theorem P_k159 : ∀ q ∈ P_l159, P_lnk P_cl P_aty P_stat P_tx P_N0 P_Tb P_Y0 "OrchardQuery" false prog_1_method_24_code [] q.1 q.2.1 q.2.2.2.1 q.2.2.2.2.1 :=
  P_all_cons (P_lnk_vi (P_vall (l := P_v132) rfl (P_all_cons (show P_vok _ _ _ 10 168 from ⟨_, rfl, rfl, w_1_2, w_1_139, (Or.inl ⟨P_sg 0 rfl, w_p_2, (Or.inl w_1_137)⟩)⟩) (P_all_nil)))) <|
  P_all_cons (P_lnk_get (P_s1 (c := 10) (P := fun ci => P_fok P_cl P_Tb "OrchardQuery" 46 ci 4) rfl ⟨_, _, _, "OrchardQuery", rfl, by decide, (Or.inl rfl), (Or.inl w_4_175)⟩)) <|
  P_all_cons (P_lnk_vi (P_vall (l := P_v142) rfl (P_all_cons (show P_vok _ _ _ 0 3 from ⟨_, rfl, rfl, w_1_10, w_2_65, (Or.inl ⟨P_sg 0 rfl, w_2_66, (Or.inl w_2_64)⟩)⟩) (P_all_nil)))) <|
  P_all_cons (P_lnk_get (P_s1 (c := 10) (P := fun ci => P_fok P_cl P_Tb "OrchardQuery" 46 ci 4) rfl ⟨_, _, _, "OrchardQuery", rfl, by decide, (Or.inl rfl), (Or.inl w_4_175)⟩)) <|
  P_all_cons (P_lnk_vi (P_vall (l := P_v84) rfl (P_all_cons (show P_vok _ _ _ 0 5 from ⟨_, rfl, rfl, w_1_10, w_3_12, (Or.inl ⟨P_sg 0 rfl, w_3_13, (Or.inl w_3_53)⟩)⟩) (P_all_nil)))) <|
  P_all_cons (P_lnk_get (P_s1 (c := 10) (P := fun ci => P_fok P_cl P_Tb "OrchardQuery" 19 ci 2) rfl ⟨_, _, _, "OrchardQuery", rfl, by decide, (Or.inl rfl), (Or.inl w_4_173)⟩)) <|
  P_all_cons (P_lnk_vi (P_vall (l := P_v113) rfl (P_all_cons (show P_vok _ _ _ 3 36 from ⟨_, rfl, rfl, w_1_5, w_3_35, (Or.inl ⟨P_sg 1 rfl, w_3_36, (Or.inl w_3_34)⟩)⟩) (P_all_nil)))) <|
  P_all_cons (P_lnk_get (P_s1 (c := 10) (P := fun ci => P_fok P_cl P_Tb "OrchardQuery" 46 ci 4) rfl ⟨_, _, _, "OrchardQuery", rfl, by decide, (Or.inl rfl), (Or.inl w_4_175)⟩)) <|
  P_all_cons (P_lnk_vi (P_vall (l := P_v46) rfl (P_all_cons (show P_vok _ _ _ 0 8 from ⟨_, rfl, rfl, w_1_10, w_2_234, (Or.inl ⟨P_sg 2 rfl, w_2_235, (Or.inl w_3_39)⟩)⟩) (P_all_nil)))) <|
  P_all_nil
set_option maxRecDepth 20000 in
theorem P_m159 : P_mstC 159 3 (Option.some Jvm.ClassFile.FieldType.int) P_e159 [] := P_meth (mx := 3) (rt := (Option.some Jvm.ClassFile.FieldType.int)) (hs := []) "OrchardQuery" false prog_1_method_24_code [] rfl rfl rfl rfl (by decide +kernel) (by decide +kernel) (fun _ => P_g159) (by decide) (fun _ _ => by decide +kernel) (fun q => by cases q) (P_all_cons (by decide +kernel) <| P_all_cons (by decide +kernel) <| P_all_nil) P_l159 (by decide +kernel) P_k159 (fun _ _ => P_hok_nil)
/-- OrchardQuery.wouldDo(I)I -/
def P_l160 : List (Nat × P_I) := [(1, .invokevirtual 159, 4, 0, 132, [], []), (24, .getfield 46, 27, 10, 4, [], []), (27, .invokevirtual 220, 30, 0, 142, [], []), (35, .getfield 46, 38, 10, 4, [], []), (38, .invokevirtual 252, 41, 0, 34, [], []), (45, .getfield 46, 48, 10, 4, [], []), (48, .invokevirtual 255, 51, 0, 35, [], [])]
set_option maxRecDepth 20000 in
theorem P_k160 : ∀ q ∈ P_l160, P_lnk P_cl P_aty P_stat P_tx P_N0 P_Tb P_Y0 "OrchardQuery" false prog_1_method_25_code [] q.1 q.2.1 q.2.2.2.1 q.2.2.2.2.1 :=
  P_all_cons (P_lnk_vi (P_vall (l := P_v132) rfl (P_all_cons (show P_vok _ _ _ 10 168 from ⟨_, rfl, rfl, w_1_2, w_1_139, (Or.inl ⟨P_sg 0 rfl, w_p_2, (Or.inl w_1_137)⟩)⟩) (P_all_nil)))) <|
  P_all_cons (P_lnk_get (P_s1 (c := 10) (P := fun ci => P_fok P_cl P_Tb "OrchardQuery" 46 ci 4) rfl ⟨_, _, _, "OrchardQuery", rfl, by decide, (Or.inl rfl), (Or.inl w_4_175)⟩)) <|
  P_all_cons (P_lnk_vi (P_vall (l := P_v142) rfl (P_all_cons (show P_vok _ _ _ 0 3 from ⟨_, rfl, rfl, w_1_10, w_2_65, (Or.inl ⟨P_sg 0 rfl, w_2_66, (Or.inl w_2_64)⟩)⟩) (P_all_nil)))) <|
  P_all_cons (P_lnk_get (P_s1 (c := 10) (P := fun ci => P_fok P_cl P_Tb "OrchardQuery" 46 ci 4) rfl ⟨_, _, _, "OrchardQuery", rfl, by decide, (Or.inl rfl), (Or.inl w_4_175)⟩)) <|
  P_all_cons (P_lnk_vi (P_vall (l := P_v34) rfl (P_all_cons (show P_vok _ _ _ 0 129 from ⟨_, rfl, rfl, w_1_9, w_2_191, (Or.inr ⟨⟨"OrchardQuery$Answer", "reads", "()I"⟩, "OrchardQuery$Walk", P_sg 0 rfl, by decide, w_3_64, w_2_188, w_2_190, (Or.inl ⟨w_2_191, _, _, _, w_2_192⟩)⟩)⟩) (P_all_nil)))) <|
  P_all_cons (P_lnk_get (P_s1 (c := 10) (P := fun ci => P_fok P_cl P_Tb "OrchardQuery" 46 ci 4) rfl ⟨_, _, _, "OrchardQuery", rfl, by decide, (Or.inl rfl), (Or.inl w_4_175)⟩)) <|
  P_all_cons (P_lnk_vi (P_vall (l := P_v35) rfl (P_all_cons (show P_vok _ _ _ 0 130 from ⟨_, rfl, rfl, w_1_9, w_2_197, (Or.inr ⟨⟨"OrchardQuery$Answer", "checks", "()I"⟩, "OrchardQuery$Walk", P_sg 0 rfl, by decide, w_3_65, w_2_194, w_2_196, (Or.inl ⟨w_2_197, _, _, _, w_2_198⟩)⟩)⟩) (P_all_nil)))) <|
  P_all_nil
set_option maxRecDepth 20000 in
theorem P_m160 : P_mstC 160 2 (Option.some Jvm.ClassFile.FieldType.int) P_e160 [] := P_meth (mx := 2) (rt := (Option.some Jvm.ClassFile.FieldType.int)) (hs := []) "OrchardQuery" false prog_1_method_25_code [] rfl rfl rfl rfl (by decide +kernel) (by decide +kernel) (fun _ => P_g160) (by decide) (fun _ _ => by decide +kernel) (fun q => by cases q) (P_all_cons (by decide +kernel) <| P_all_cons (by decide +kernel) <| P_all_nil) P_l160 (by decide +kernel) P_k160 (fun _ _ => P_hok_nil)
/-- OrchardQuery.meetingsWithout(I)I -/
def P_l161 : List (Nat × P_I) := [(1, .invokevirtual 159, 4, 0, 132, [], []), (5, .getfield 28, 8, 10, 3, [], []), (9, .invokevirtual 162, 12, 1, 133, [], []), (26, .getfield 53, 29, 10, 5, [], []), (30, .ldc_w 258, 33, 1000000000, 0, [], []), (33, .invokevirtual 259, 36, 2, 146, [], []), (37, .getfield 53, 40, 10, 5, [], []), (40, .invokevirtual 262, 43, 0, 147, [], [])]
set_option maxRecDepth 20000 in
theorem P_k161 : ∀ q ∈ P_l161, P_lnk P_cl P_aty P_stat P_tx P_N0 P_Tb P_Y0 "OrchardQuery" false prog_1_method_26_code [] q.1 q.2.1 q.2.2.2.1 q.2.2.2.2.1 :=
  P_all_cons (P_lnk_vi (P_vall (l := P_v132) rfl (P_all_cons (show P_vok _ _ _ 10 168 from ⟨_, rfl, rfl, w_1_2, w_1_139, (Or.inl ⟨P_sg 0 rfl, w_p_2, (Or.inl w_1_137)⟩)⟩) (P_all_nil)))) <|
  P_all_cons (P_lnk_get (P_s1 (c := 10) (P := fun ci => P_fok P_cl P_Tb "OrchardQuery" 28 ci 3) rfl ⟨_, _, _, "OrchardQuery", rfl, by decide, (Or.inl rfl), (Or.inl w_4_174)⟩)) <|
  P_all_cons (P_lnk_vi (P_vall (l := P_v133) rfl (P_all_cons (show P_vok _ _ _ 5 56 from ⟨_, rfl, rfl, w_1_6, w_1_158, (Or.inl ⟨P_sg 1 rfl, w_1_159, (Or.inl w_1_157)⟩)⟩) (P_all_nil)))) <|
  P_all_cons (P_lnk_get (P_s1 (c := 10) (P := fun ci => P_fok P_cl P_Tb "OrchardQuery" 53 ci 5) rfl ⟨_, _, _, "OrchardQuery", rfl, by decide, (Or.inl rfl), (Or.inl w_4_176)⟩)) <|
  P_all_cons (P_lnk_ldcw w_3_70) <|
  P_all_cons (P_lnk_vi (P_vall (l := P_v146) rfl (P_all_cons (show P_vok _ _ _ 2 133 from ⟨_, rfl, rfl, w_1_9, w_2_103, (Or.inr ⟨⟨"OrchardQuery$Count", "walk", "(II)V"⟩, "OrchardQuery$Walk", P_sg 2 rfl, by decide, w_3_71, w_3_72, w_3_73, (Or.inl ⟨w_2_103, _, _, _, w_2_104⟩)⟩)⟩) (P_all_nil)))) <|
  P_all_cons (P_lnk_get (P_s1 (c := 10) (P := fun ci => P_fok P_cl P_Tb "OrchardQuery" 53 ci 5) rfl ⟨_, _, _, "OrchardQuery", rfl, by decide, (Or.inl rfl), (Or.inl w_4_176)⟩)) <|
  P_all_cons (P_lnk_vi (P_vall (l := P_v147) rfl (P_all_cons (show P_vok _ _ _ 2 131 from ⟨_, rfl, rfl, w_1_9, w_3_78, (Or.inr ⟨⟨"OrchardQuery$Count", "meetings", "()I"⟩, "OrchardQuery$Walk", P_sg 0 rfl, by decide, w_3_74, w_3_75, w_3_77, (Or.inl ⟨w_3_78, _, _, _, w_3_79⟩)⟩)⟩) (P_all_nil)))) <|
  P_all_nil
set_option maxRecDepth 20000 in
theorem P_m161 : P_mstC 161 2 (Option.some Jvm.ClassFile.FieldType.int) P_e161 [] := P_meth (mx := 2) (rt := (Option.some Jvm.ClassFile.FieldType.int)) (hs := []) "OrchardQuery" false prog_1_method_26_code [] rfl rfl rfl rfl (by decide +kernel) (by decide +kernel) (fun _ => P_g161) (by decide) (fun _ _ => by decide +kernel) (fun q => by cases q) (P_all_cons (by decide +kernel) <| P_all_cons (by decide +kernel) <| P_all_nil) P_l161 (by decide +kernel) P_k161 (fun _ _ => P_hok_nil)
/-- OrchardQuery.share()D -/
def P_l162 : List (Nat × P_I) := [(1, .invokevirtual 159, 4, 0, 132, [], []), (5, .getfield 19, 8, 10, 2, [], []), (8, .invokevirtual 265, 11, 0, 148, [], []), (17, .getfield 28, 20, 10, 3, [], []), (20, .invokevirtual 206, 23, 0, 25, [], []), (29, .getfield 53, 32, 10, 5, [], []), (33, .ldc_w 258, 36, 1000000000, 0, [], []), (36, .invokevirtual 259, 39, 2, 146, [], []), (40, .getfield 53, 43, 10, 5, [], []), (43, .invokevirtual 262, 46, 0, 147, [], [])]
set_option maxRecDepth 20000 in
theorem P_k162 : ∀ q ∈ P_l162, P_lnk P_cl P_aty P_stat P_tx P_N0 P_Tb P_Y0 "OrchardQuery" false prog_1_method_27_code [] q.1 q.2.1 q.2.2.2.1 q.2.2.2.2.1 :=
  P_all_cons (P_lnk_vi (P_vall (l := P_v132) rfl (P_all_cons (show P_vok _ _ _ 10 168 from ⟨_, rfl, rfl, w_1_2, w_1_139, (Or.inl ⟨P_sg 0 rfl, w_p_2, (Or.inl w_1_137)⟩)⟩) (P_all_nil)))) <|
  P_all_cons (P_lnk_get (P_s1 (c := 10) (P := fun ci => P_fok P_cl P_Tb "OrchardQuery" 19 ci 2) rfl ⟨_, _, _, "OrchardQuery", rfl, by decide, (Or.inl rfl), (Or.inl w_4_173)⟩)) <|
  P_all_cons (P_lnk_vi (P_vall (l := P_v148) rfl (P_all_cons (show P_vok _ _ _ 3 41 from ⟨_, rfl, rfl, w_1_5, w_3_85, (Or.inl ⟨P_sg 0 rfl, w_3_86, (Or.inl w_3_84)⟩)⟩) (P_all_nil)))) <|
  P_all_cons (P_lnk_get (P_s1 (c := 10) (P := fun ci => P_fok P_cl P_Tb "OrchardQuery" 28 ci 3) rfl ⟨_, _, _, "OrchardQuery", rfl, by decide, (Or.inl rfl), (Or.inl w_4_174)⟩)) <|
  P_all_cons (P_lnk_vi (P_vall (l := P_v25) rfl (P_all_cons (show P_vok _ _ _ 5 57 from ⟨_, rfl, rfl, w_1_6, w_2_40, (Or.inl ⟨P_sg 0 rfl, w_2_41, (Or.inl w_2_39)⟩)⟩) (P_all_nil)))) <|
  P_all_cons (P_lnk_get (P_s1 (c := 10) (P := fun ci => P_fok P_cl P_Tb "OrchardQuery" 53 ci 5) rfl ⟨_, _, _, "OrchardQuery", rfl, by decide, (Or.inl rfl), (Or.inl w_4_176)⟩)) <|
  P_all_cons (P_lnk_ldcw w_3_70) <|
  P_all_cons (P_lnk_vi (P_vall (l := P_v146) rfl (P_all_cons (show P_vok _ _ _ 2 133 from ⟨_, rfl, rfl, w_1_9, w_2_103, (Or.inr ⟨⟨"OrchardQuery$Count", "walk", "(II)V"⟩, "OrchardQuery$Walk", P_sg 2 rfl, by decide, w_3_71, w_3_72, w_3_73, (Or.inl ⟨w_2_103, _, _, _, w_2_104⟩)⟩)⟩) (P_all_nil)))) <|
  P_all_cons (P_lnk_get (P_s1 (c := 10) (P := fun ci => P_fok P_cl P_Tb "OrchardQuery" 53 ci 5) rfl ⟨_, _, _, "OrchardQuery", rfl, by decide, (Or.inl rfl), (Or.inl w_4_176)⟩)) <|
  P_all_cons (P_lnk_vi (P_vall (l := P_v147) rfl (P_all_cons (show P_vok _ _ _ 2 131 from ⟨_, rfl, rfl, w_1_9, w_3_78, (Or.inr ⟨⟨"OrchardQuery$Count", "meetings", "()I"⟩, "OrchardQuery$Walk", P_sg 0 rfl, by decide, w_3_74, w_3_75, w_3_77, (Or.inl ⟨w_3_78, _, _, _, w_3_79⟩)⟩)⟩) (P_all_nil)))) <|
  P_all_nil
set_option maxRecDepth 20000 in
theorem P_m162 : P_mstC 162 2 (Option.some Jvm.ClassFile.FieldType.double) P_e162 [] := P_meth (mx := 2) (rt := (Option.some Jvm.ClassFile.FieldType.double)) (hs := []) "OrchardQuery" false prog_1_method_27_code [] rfl rfl rfl rfl (by decide +kernel) (by decide +kernel) (fun _ => P_g162) (by decide) (fun _ _ => by decide +kernel) (fun q => by cases q) (P_all_cons (by decide +kernel) <| P_all_cons (by decide +kernel) <| P_all_nil) P_l162 (by decide +kernel) P_k162 (fun _ _ => P_hok_nil)
/-- OrchardQuery.digest()J -/
def P_l163 : List (Nat × P_I) := [(0, .ldc2_w 268, 3, 58086, 0, [], []), (14, .invokevirtual 156, 17, 1, 131, [], []), (18, .invokestatic 270, 21, 2, 170, [], []), (32, .getfield 12, 35, 10, 0, [], []), (35, .invokevirtual 71, 38, 0, 121, [], []), (44, .getfield 12, 47, 10, 0, [], []), (48, .invokevirtual 93, 51, 1, 106, [], []), (51, .invokevirtual 274, 54, 2, 149, [], []), (63, .getfield 37, 66, 10, 1, [], []), (66, .invokevirtual 151, 69, 0, 130, [], []), (70, .invokestatic 270, 73, 2, 170, [], []), (75, .getfield 37, 78, 10, 1, [], []), (78, .invokevirtual 278, 81, 0, 150, [], []), (87, .getfield 46, 90, 10, 4, [], []), (90, .invokevirtual 220, 93, 0, 142, [], []), (96, .invokevirtual 281, 99, 1, 151, [], []), (99, .invokevirtual 285, 102, 1, 152, [], [])]
set_option maxRecDepth 20000 in
theorem P_k163 : ∀ q ∈ P_l163, P_lnk P_cl P_aty P_stat P_tx P_N0 P_Tb P_Y0 "OrchardQuery" false prog_1_method_28_code [] q.1 q.2.1 q.2.2.2.1 q.2.2.2.2.1 :=
  P_all_cons (P_lnk_ldl w_3_93) <|
  P_all_cons (P_lnk_vi (P_vall (l := P_v131) rfl (P_all_cons (show P_vok _ _ _ 10 167 from ⟨_, rfl, rfl, w_1_2, w_1_106, (Or.inl ⟨P_sg 1 rfl, w_p_1, (Or.inl w_1_104)⟩)⟩) (P_all_nil)))) <|
  P_all_cons (P_lnk_st (by decide) (fun _ => ⟨P_sg 2 rfl, w_1_2, w_3_95, (Or.inl w_3_94)⟩)) <|
  P_all_cons (P_lnk_get (P_s1 (c := 10) (P := fun ci => P_fok P_cl P_Tb "OrchardQuery" 12 ci 0) rfl ⟨_, _, _, "OrchardQuery", rfl, by decide, (Or.inl rfl), (Or.inl w_4_171)⟩)) <|
  P_all_cons (P_lnk_vi (P_vall (l := P_v121) rfl (P_all_cons (show P_vok _ _ _ 8 114 from ⟨_, rfl, rfl, w_1_3, w_1_110, (Or.inl ⟨P_sg 0 rfl, w_1_111, (Or.inl w_1_109)⟩)⟩) (P_all_nil)))) <|
  P_all_cons (P_lnk_get (P_s1 (c := 10) (P := fun ci => P_fok P_cl P_Tb "OrchardQuery" 12 ci 0) rfl ⟨_, _, _, "OrchardQuery", rfl, by decide, (Or.inl rfl), (Or.inl w_4_171)⟩)) <|
  P_all_cons (P_lnk_vi (P_vall (l := P_v106) rfl (P_all_cons (show P_vok _ _ _ 8 116 from ⟨_, rfl, rfl, w_1_3, w_3_99, (Or.inl ⟨P_sg 1 rfl, w_3_100, (Or.inl w_3_98)⟩)⟩) (P_all_nil)))) <|
  P_all_cons (P_lnk_vi (P_vall (l := P_v149) rfl (P_all_cons (show P_vok _ _ _ 10 164 from ⟨_, rfl, rfl, w_1_2, w_3_104, (Or.inl ⟨P_sg 2 rfl, w_p_13, (Or.inl w_3_102)⟩)⟩) (P_all_nil)))) <|
  P_all_cons (P_lnk_get (P_s1 (c := 10) (P := fun ci => P_fok P_cl P_Tb "OrchardQuery" 37 ci 1) rfl ⟨_, _, _, "OrchardQuery", rfl, by decide, (Or.inl rfl), (Or.inl w_4_172)⟩)) <|
  P_all_cons (P_lnk_vi (P_vall (l := P_v130) rfl (P_all_cons (show P_vok _ _ _ 7 93 from ⟨_, rfl, rfl, w_1_8, w_1_27, (Or.inl ⟨P_sg 0 rfl, w_1_28, (Or.inl w_1_26)⟩)⟩) (P_all_nil)))) <|
  P_all_cons (P_lnk_st (by decide) (fun _ => ⟨P_sg 2 rfl, w_1_2, w_3_95, (Or.inl w_3_94)⟩)) <|
  P_all_cons (P_lnk_get (P_s1 (c := 10) (P := fun ci => P_fok P_cl P_Tb "OrchardQuery" 37 ci 1) rfl ⟨_, _, _, "OrchardQuery", rfl, by decide, (Or.inl rfl), (Or.inl w_4_172)⟩)) <|
  P_all_cons (P_lnk_vi (P_vall (l := P_v150) rfl (P_all_cons (show P_vok _ _ _ 7 92 from ⟨_, rfl, rfl, w_1_8, w_1_118, (Or.inl ⟨P_sg 0 rfl, w_1_119, (Or.inl w_1_117)⟩)⟩) (P_all_nil)))) <|
  P_all_cons (P_lnk_get (P_s1 (c := 10) (P := fun ci => P_fok P_cl P_Tb "OrchardQuery" 46 ci 4) rfl ⟨_, _, _, "OrchardQuery", rfl, by decide, (Or.inl rfl), (Or.inl w_4_175)⟩)) <|
  P_all_cons (P_lnk_vi (P_vall (l := P_v142) rfl (P_all_cons (show P_vok _ _ _ 0 3 from ⟨_, rfl, rfl, w_1_10, w_2_65, (Or.inl ⟨P_sg 0 rfl, w_2_66, (Or.inl w_2_64)⟩)⟩) (P_all_nil)))) <|
  P_all_cons (P_lnk_vi (P_vall (l := P_v151) rfl (P_all_cons (show P_vok _ _ _ 10 165 from ⟨_, rfl, rfl, w_1_2, w_3_115, (Or.inl ⟨P_sg 1 rfl, w_p_14, (Or.inl w_3_113)⟩)⟩) (P_all_nil)))) <|
  P_all_cons (P_lnk_vi (P_vall (l := P_v152) rfl (P_all_cons (show P_vok _ _ _ 10 166 from ⟨_, rfl, rfl, w_1_2, w_3_119, (Or.inl ⟨P_sg 1 rfl, w_p_15, (Or.inl w_3_117)⟩)⟩) (P_all_nil)))) <|
  P_all_nil
set_option maxRecDepth 20000 in
theorem P_m163 : P_mstC 163 4 (Option.some Jvm.ClassFile.FieldType.long) P_e163 [] := P_meth (mx := 4) (rt := (Option.some Jvm.ClassFile.FieldType.long)) (hs := []) "OrchardQuery" false prog_1_method_28_code [] rfl rfl rfl rfl (by decide +kernel) (by decide +kernel) (fun _ => P_g163) (by decide) (fun _ _ => by decide +kernel) (fun q => by cases q) (P_all_cons (by decide +kernel) <| P_all_cons (by decide +kernel) <| P_all_cons (by decide +kernel) <| P_all_cons (by decide +kernel) <| P_all_nil) P_l163 (by decide +kernel) P_k163 (fun _ _ => P_hok_nil)
/-- OrchardQuery.digestOfTable(JLOrchardQuery$Table;)J -/
def P_l164 : List (Nat × P_I) := [(2, .invokevirtual 119, 5, 0, 51, [], []), (6, .invokestatic 270, 9, 2, 170, [], []), (17, .invokevirtual 119, 20, 0, 51, [], []), (29, .invokevirtual 97, 32, 0, 49, [], []), (42, .invokevirtual 288, 45, 2, 55, [], []), (46, .invokestatic 270, 49, 2, 170, [], []), (69, .invokevirtual 97, 72, 0, 49, [], []), (80, .invokevirtual 130, 83, 1, 50, [], []), (84, .invokestatic 270, 87, 2, 170, [], [])]
set_option maxRecDepth 20000 in
theorem P_k164 : ∀ q ∈ P_l164, P_lnk P_cl P_aty P_stat P_tx P_N0 P_Tb P_Y0 "OrchardQuery" false prog_1_method_29_code [] q.1 q.2.1 q.2.2.2.1 q.2.2.2.2.1 :=
  P_all_cons (P_lnk_vi (P_vall (l := P_v51) rfl (P_all_cons (show P_vok _ _ _ 9 120 from ⟨_, rfl, rfl, w_1_4, w_2_18, (Or.inl ⟨P_sg 0 rfl, w_2_19, (Or.inl w_3_106)⟩)⟩) (P_all_nil)))) <|
  P_all_cons (P_lnk_st (by decide) (fun _ => ⟨P_sg 2 rfl, w_1_2, w_3_95, (Or.inl w_3_94)⟩)) <|
  P_all_cons (P_lnk_vi (P_vall (l := P_v51) rfl (P_all_cons (show P_vok _ _ _ 9 120 from ⟨_, rfl, rfl, w_1_4, w_2_18, (Or.inl ⟨P_sg 0 rfl, w_2_19, (Or.inl w_3_106)⟩)⟩) (P_all_nil)))) <|
  P_all_cons (P_lnk_vi (P_vall (l := P_v49) rfl (P_all_cons (show P_vok _ _ _ 9 119 from ⟨_, rfl, rfl, w_1_4, w_3_108, (Or.inl ⟨P_sg 0 rfl, w_3_109, (Or.inl w_3_107)⟩)⟩) (P_all_nil)))) <|
  P_all_cons (P_lnk_vi (P_vall (l := P_v55) rfl (P_all_cons (show P_vok _ _ _ 9 122 from ⟨_, rfl, rfl, w_1_4, w_2_134, (Or.inl ⟨P_sg 2 rfl, w_2_135, (Or.inl w_3_111)⟩)⟩) (P_all_nil)))) <|
  P_all_cons (P_lnk_st (by decide) (fun _ => ⟨P_sg 2 rfl, w_1_2, w_3_95, (Or.inl w_3_94)⟩)) <|
  P_all_cons (P_lnk_vi (P_vall (l := P_v49) rfl (P_all_cons (show P_vok _ _ _ 9 119 from ⟨_, rfl, rfl, w_1_4, w_3_108, (Or.inl ⟨P_sg 0 rfl, w_3_109, (Or.inl w_3_107)⟩)⟩) (P_all_nil)))) <|
  P_all_cons (P_lnk_vi (P_vall (l := P_v50) rfl (P_all_cons (show P_vok _ _ _ 9 125 from ⟨_, rfl, rfl, w_1_4, w_1_221, (Or.inl ⟨P_sg 1 rfl, w_1_222, (Or.inl w_3_112)⟩)⟩) (P_all_nil)))) <|
  P_all_cons (P_lnk_st (by decide) (fun _ => ⟨P_sg 2 rfl, w_1_2, w_3_95, (Or.inl w_3_94)⟩)) <|
  P_all_nil
set_option maxRecDepth 20000 in
theorem P_m164 : P_mstC 164 8 (Option.some Jvm.ClassFile.FieldType.long) P_e164 [] := P_meth (mx := 8) (rt := (Option.some Jvm.ClassFile.FieldType.long)) (hs := []) "OrchardQuery" false prog_1_method_29_code [] rfl rfl rfl rfl (by decide +kernel) (by decide +kernel) (fun _ => P_g164) (by decide) (fun _ _ => by decide +kernel) (fun q => by cases q) (P_all_cons (by decide +kernel) <| P_all_cons (by decide +kernel) <| P_all_cons (by decide +kernel) <| P_all_cons (by decide +kernel) <| P_all_nil) P_l164 (by decide +kernel) P_k164 (fun _ _ => P_hok_nil)
/-- OrchardQuery.digestOfPlan(J)J -/
def P_l165 : List (Nat × P_I) := [(2, .getfield 28, 5, 10, 3, [], []), (5, .invokevirtual 206, 8, 0, 25, [], []), (16, .invokestatic 270, 19, 2, 170, [], []), (26, .getfield 28, 29, 10, 3, [], []), (29, .invokevirtual 291, 32, 0, 119, [], []), (46, .getfield 28, 49, 10, 3, [], []), (50, .getfield 28, 53, 10, 3, [], []), (55, .invokevirtual 169, 58, 1, 57, [], []), (60, .invokevirtual 172, 63, 2, 134, [], []), (64, .invokestatic 270, 67, 2, 170, [], []), (86, .getfield 19, 89, 10, 2, [], []), (89, .invokevirtual 294, 92, 0, 58, [], []), (97, .getfield 28, 100, 10, 3, [], []), (102, .invokevirtual 190, 105, 1, 66, [], []), (106, .invokestatic 270, 109, 2, 170, [], []), (112, .getfield 28, 115, 10, 3, [], []), (117, .invokevirtual 199, 120, 1, 139, [], []), (120, .invokestatic 270, 123, 2, 170, [], []), (132, .getfield 28, 135, 10, 3, [], []), (135, .invokevirtual 203, 138, 0, 82, [], []), (138, .invokestatic 270, 141, 2, 170, [], [])]
set_option maxRecDepth 20000 in
theorem P_k165 : ∀ q ∈ P_l165, P_lnk P_cl P_aty P_stat P_tx P_N0 P_Tb P_Y0 "OrchardQuery" false prog_1_method_30_code [] q.1 q.2.1 q.2.2.2.1 q.2.2.2.2.1 :=
  P_all_cons (P_lnk_get (P_s1 (c := 10) (P := fun ci => P_fok P_cl P_Tb "OrchardQuery" 28 ci 3) rfl ⟨_, _, _, "OrchardQuery", rfl, by decide, (Or.inl rfl), (Or.inl w_4_174)⟩)) <|
  P_all_cons (P_lnk_vi (P_vall (l := P_v25) rfl (P_all_cons (show P_vok _ _ _ 5 57 from ⟨_, rfl, rfl, w_1_6, w_2_40, (Or.inl ⟨P_sg 0 rfl, w_2_41, (Or.inl w_2_39)⟩)⟩) (P_all_nil)))) <|
  P_all_cons (P_lnk_st (by decide) (fun _ => ⟨P_sg 2 rfl, w_1_2, w_3_95, (Or.inl w_3_94)⟩)) <|
  P_all_cons (P_lnk_get (P_s1 (c := 10) (P := fun ci => P_fok P_cl P_Tb "OrchardQuery" 28 ci 3) rfl ⟨_, _, _, "OrchardQuery", rfl, by decide, (Or.inl rfl), (Or.inl w_4_174)⟩)) <|
  P_all_cons (P_lnk_vi (P_vall (l := P_v119) rfl (P_all_cons (show P_vok _ _ _ 5 55 from ⟨_, rfl, rfl, w_1_6, w_1_130, (Or.inl ⟨P_sg 0 rfl, w_1_131, (Or.inl w_1_129)⟩)⟩) (P_all_nil)))) <|
  P_all_cons (P_lnk_get (P_s1 (c := 10) (P := fun ci => P_fok P_cl P_Tb "OrchardQuery" 28 ci 3) rfl ⟨_, _, _, "OrchardQuery", rfl, by decide, (Or.inl rfl), (Or.inl w_4_174)⟩)) <|
  P_all_cons (P_lnk_get (P_s1 (c := 10) (P := fun ci => P_fok P_cl P_Tb "OrchardQuery" 28 ci 3) rfl ⟨_, _, _, "OrchardQuery", rfl, by decide, (Or.inl rfl), (Or.inl w_4_174)⟩)) <|
  P_all_cons (P_lnk_vi (P_vall (l := P_v57) rfl (P_all_cons (show P_vok _ _ _ 5 59 from ⟨_, rfl, rfl, w_1_6, w_1_179, (Or.inl ⟨P_sg 1 rfl, w_1_180, (Or.inl w_1_178)⟩)⟩) (P_all_nil)))) <|
  P_all_cons (P_lnk_vi (P_vall (l := P_v134) rfl (P_all_cons (show P_vok _ _ _ 5 62 from ⟨_, rfl, rfl, w_1_6, w_1_183, (Or.inl ⟨P_sg 2 rfl, w_1_184, (Or.inl w_1_182)⟩)⟩) (P_all_nil)))) <|
  P_all_cons (P_lnk_st (by decide) (fun _ => ⟨P_sg 2 rfl, w_1_2, w_3_95, (Or.inl w_3_94)⟩)) <|
  P_all_cons (P_lnk_get (P_s1 (c := 10) (P := fun ci => P_fok P_cl P_Tb "OrchardQuery" 19 ci 2) rfl ⟨_, _, _, "OrchardQuery", rfl, by decide, (Or.inl rfl), (Or.inl w_4_173)⟩)) <|
  P_all_cons (P_lnk_vi (P_vall (l := P_v58) rfl (P_all_cons (show P_vok _ _ _ 3 30 from ⟨_, rfl, rfl, w_1_5, w_1_126, (Or.inl ⟨P_sg 0 rfl, w_1_127, (Or.inl w_1_125)⟩)⟩) (P_all_nil)))) <|
  P_all_cons (P_lnk_get (P_s1 (c := 10) (P := fun ci => P_fok P_cl P_Tb "OrchardQuery" 28 ci 3) rfl ⟨_, _, _, "OrchardQuery", rfl, by decide, (Or.inl rfl), (Or.inl w_4_174)⟩)) <|
  P_all_cons (P_lnk_vi (P_vall (l := P_v66) rfl (P_all_cons (show P_vok _ _ _ 5 58 from ⟨_, rfl, rfl, w_1_6, w_1_237, (Or.inl ⟨P_sg 1 rfl, w_1_238, (Or.inl w_1_236)⟩)⟩) (P_all_nil)))) <|
  P_all_cons (P_lnk_st (by decide) (fun _ => ⟨P_sg 2 rfl, w_1_2, w_3_95, (Or.inl w_3_94)⟩)) <|
  P_all_cons (P_lnk_get (P_s1 (c := 10) (P := fun ci => P_fok P_cl P_Tb "OrchardQuery" 28 ci 3) rfl ⟨_, _, _, "OrchardQuery", rfl, by decide, (Or.inl rfl), (Or.inl w_4_174)⟩)) <|
  P_all_cons (P_lnk_vi (P_vall (l := P_v139) rfl (P_all_cons (show P_vok _ _ _ 5 66 from ⟨_, rfl, rfl, w_1_6, w_2_7, (Or.inl ⟨P_sg 1 rfl, w_2_8, (Or.inl w_2_6)⟩)⟩) (P_all_nil)))) <|
  P_all_cons (P_lnk_st (by decide) (fun _ => ⟨P_sg 2 rfl, w_1_2, w_3_95, (Or.inl w_3_94)⟩)) <|
  P_all_cons (P_lnk_get (P_s1 (c := 10) (P := fun ci => P_fok P_cl P_Tb "OrchardQuery" 28 ci 3) rfl ⟨_, _, _, "OrchardQuery", rfl, by decide, (Or.inl rfl), (Or.inl w_4_174)⟩)) <|
  P_all_cons (P_lnk_vi (P_vall (l := P_v82) rfl (P_all_cons (show P_vok _ _ _ 5 67 from ⟨_, rfl, rfl, w_1_6, w_2_32, (Or.inl ⟨P_sg 0 rfl, w_2_33, (Or.inl w_2_31)⟩)⟩) (P_all_nil)))) <|
  P_all_cons (P_lnk_st (by decide) (fun _ => ⟨P_sg 2 rfl, w_1_2, w_3_95, (Or.inl w_3_94)⟩)) <|
  P_all_nil
set_option maxRecDepth 20000 in
theorem P_m165 : P_mstC 165 7 (Option.some Jvm.ClassFile.FieldType.long) P_e165 [] := P_meth (mx := 7) (rt := (Option.some Jvm.ClassFile.FieldType.long)) (hs := []) "OrchardQuery" false prog_1_method_30_code [] rfl rfl rfl rfl (by decide +kernel) (by decide +kernel) (fun _ => P_g165) (by decide) (fun _ _ => by decide +kernel) (fun q => by cases q) (P_all_cons (by decide +kernel) <| P_all_cons (by decide +kernel) <| P_all_cons (by decide +kernel) <| P_all_cons (by decide +kernel) <| P_all_cons (by decide +kernel) <| P_all_nil) P_l165 (by decide +kernel) P_k165 (fun _ _ => P_hok_nil)
/-- OrchardQuery.digestOfResults(J)J -/
def P_l166 : List (Nat × P_I) := [(13, .getfield 60, 16, 10, 6, [], []), (18, .invokevirtual 243, 21, 1, 145, [], []), (22, .invokestatic 270, 25, 2, 170, [], []), (34, .getfield 46, 37, 10, 4, [], []), (37, .invokevirtual 245, 40, 0, 84, [], []), (41, .invokestatic 270, 44, 2, 170, [], []), (51, .getfield 46, 54, 10, 4, [], []), (54, .invokevirtual 245, 57, 0, 84, [], []), (73, .getfield 19, 76, 10, 2, [], []), (76, .invokevirtual 212, 79, 0, 53, [], []), (84, .getfield 46, 87, 10, 4, [], []), (91, .invokevirtual 237, 94, 2, 46, [], []), (95, .invokestatic 270, 98, 2, 170, [], []), (113, .getfield 46, 116, 10, 4, [], []), (116, .invokevirtual 252, 119, 0, 34, [], []), (120, .invokestatic 270, 123, 2, 170, [], []), (124, .getfield 46, 127, 10, 4, [], []), (127, .invokevirtual 255, 130, 0, 35, [], []), (131, .invokestatic 270, 134, 2, 170, [], [])]
set_option maxRecDepth 20000 in
theorem P_k166 : ∀ q ∈ P_l166, P_lnk P_cl P_aty P_stat P_tx P_N0 P_Tb P_Y0 "OrchardQuery" false prog_1_method_31_code [] q.1 q.2.1 q.2.2.2.1 q.2.2.2.2.1 :=
  P_all_cons (P_lnk_get (P_s1 (c := 10) (P := fun ci => P_fok P_cl P_Tb "OrchardQuery" 60 ci 6) rfl ⟨_, _, _, "OrchardQuery", rfl, by decide, (Or.inl rfl), (Or.inl w_4_177)⟩)) <|
  P_all_cons (P_lnk_vi (P_vall (l := P_v145) rfl (P_all_cons (show P_vok _ _ _ 6 89 from ⟨_, rfl, rfl, w_1_13, w_3_46, (Or.inl ⟨P_sg 1 rfl, w_3_47, (Or.inl w_3_45)⟩)⟩) (P_all_nil)))) <|
  P_all_cons (P_lnk_st (by decide) (fun _ => ⟨P_sg 2 rfl, w_1_2, w_3_95, (Or.inl w_3_94)⟩)) <|
  P_all_cons (P_lnk_get (P_s1 (c := 10) (P := fun ci => P_fok P_cl P_Tb "OrchardQuery" 46 ci 4) rfl ⟨_, _, _, "OrchardQuery", rfl, by decide, (Or.inl rfl), (Or.inl w_4_175)⟩)) <|
  P_all_cons (P_lnk_vi (P_vall (l := P_v84) rfl (P_all_cons (show P_vok _ _ _ 0 5 from ⟨_, rfl, rfl, w_1_10, w_3_12, (Or.inl ⟨P_sg 0 rfl, w_3_13, (Or.inl w_3_53)⟩)⟩) (P_all_nil)))) <|
  P_all_cons (P_lnk_st (by decide) (fun _ => ⟨P_sg 2 rfl, w_1_2, w_3_95, (Or.inl w_3_94)⟩)) <|
  P_all_cons (P_lnk_get (P_s1 (c := 10) (P := fun ci => P_fok P_cl P_Tb "OrchardQuery" 46 ci 4) rfl ⟨_, _, _, "OrchardQuery", rfl, by decide, (Or.inl rfl), (Or.inl w_4_175)⟩)) <|
  P_all_cons (P_lnk_vi (P_vall (l := P_v84) rfl (P_all_cons (show P_vok _ _ _ 0 5 from ⟨_, rfl, rfl, w_1_10, w_3_12, (Or.inl ⟨P_sg 0 rfl, w_3_13, (Or.inl w_3_53)⟩)⟩) (P_all_nil)))) <|
  P_all_cons (P_lnk_get (P_s1 (c := 10) (P := fun ci => P_fok P_cl P_Tb "OrchardQuery" 19 ci 2) rfl ⟨_, _, _, "OrchardQuery", rfl, by decide, (Or.inl rfl), (Or.inl w_4_173)⟩)) <|
  P_all_cons (P_lnk_vi (P_vall (l := P_v53) rfl (P_all_cons (show P_vok _ _ _ 3 29 from ⟨_, rfl, rfl, w_1_5, w_1_122, (Or.inl ⟨P_sg 0 rfl, w_1_123, (Or.inl w_1_121)⟩)⟩) (P_all_nil)))) <|
  P_all_cons (P_lnk_get (P_s1 (c := 10) (P := fun ci => P_fok P_cl P_Tb "OrchardQuery" 46 ci 4) rfl ⟨_, _, _, "OrchardQuery", rfl, by decide, (Or.inl rfl), (Or.inl w_4_175)⟩)) <|
  P_all_cons (P_lnk_vi (P_vall (l := P_v46) rfl (P_all_cons (show P_vok _ _ _ 0 8 from ⟨_, rfl, rfl, w_1_10, w_2_234, (Or.inl ⟨P_sg 2 rfl, w_2_235, (Or.inl w_3_39)⟩)⟩) (P_all_nil)))) <|
  P_all_cons (P_lnk_st (by decide) (fun _ => ⟨P_sg 2 rfl, w_1_2, w_3_95, (Or.inl w_3_94)⟩)) <|
  P_all_cons (P_lnk_get (P_s1 (c := 10) (P := fun ci => P_fok P_cl P_Tb "OrchardQuery" 46 ci 4) rfl ⟨_, _, _, "OrchardQuery", rfl, by decide, (Or.inl rfl), (Or.inl w_4_175)⟩)) <|
  P_all_cons (P_lnk_vi (P_vall (l := P_v34) rfl (P_all_cons (show P_vok _ _ _ 0 129 from ⟨_, rfl, rfl, w_1_9, w_2_191, (Or.inr ⟨⟨"OrchardQuery$Answer", "reads", "()I"⟩, "OrchardQuery$Walk", P_sg 0 rfl, by decide, w_3_64, w_2_188, w_2_190, (Or.inl ⟨w_2_191, _, _, _, w_2_192⟩)⟩)⟩) (P_all_nil)))) <|
  P_all_cons (P_lnk_st (by decide) (fun _ => ⟨P_sg 2 rfl, w_1_2, w_3_95, (Or.inl w_3_94)⟩)) <|
  P_all_cons (P_lnk_get (P_s1 (c := 10) (P := fun ci => P_fok P_cl P_Tb "OrchardQuery" 46 ci 4) rfl ⟨_, _, _, "OrchardQuery", rfl, by decide, (Or.inl rfl), (Or.inl w_4_175)⟩)) <|
  P_all_cons (P_lnk_vi (P_vall (l := P_v35) rfl (P_all_cons (show P_vok _ _ _ 0 130 from ⟨_, rfl, rfl, w_1_9, w_2_197, (Or.inr ⟨⟨"OrchardQuery$Answer", "checks", "()I"⟩, "OrchardQuery$Walk", P_sg 0 rfl, by decide, w_3_65, w_2_194, w_2_196, (Or.inl ⟨w_2_197, _, _, _, w_2_198⟩)⟩)⟩) (P_all_nil)))) <|
  P_all_cons (P_lnk_st (by decide) (fun _ => ⟨P_sg 2 rfl, w_1_2, w_3_95, (Or.inl w_3_94)⟩)) <|
  P_all_nil
set_option maxRecDepth 20000 in
theorem P_m166 : P_mstC 166 7 (Option.some Jvm.ClassFile.FieldType.long) P_e166 [] := P_meth (mx := 7) (rt := (Option.some Jvm.ClassFile.FieldType.long)) (hs := []) "OrchardQuery" false prog_1_method_31_code [] rfl rfl rfl rfl (by decide +kernel) (by decide +kernel) (fun _ => P_g166) (by decide) (fun _ _ => by decide +kernel) (fun q => by cases q) (P_all_cons (by decide +kernel) <| P_all_cons (by decide +kernel) <| P_all_cons (by decide +kernel) <| P_all_cons (by decide +kernel) <| P_all_cons (by decide +kernel) <| P_all_nil) P_l166 (by decide +kernel) P_k166 (fun _ _ => P_hok_nil)
/-- OrchardQuery.howMany(I)I -/
def P_l167 : List (Nat × P_I) := [(5, .getfield 12, 8, 10, 0, [], []), (8, .invokevirtual 71, 11, 0, 121, [], []), (18, .getfield 37, 21, 10, 1, [], []), (21, .invokevirtual 138, 24, 0, 126, [], []), (26, .getfield 37, 29, 10, 1, [], []), (29, .invokevirtual 278, 32, 0, 150, [], []), (43, .getfield 19, 46, 10, 2, [], []), (46, .invokevirtual 212, 49, 0, 53, [], []), (56, .getfield 19, 59, 10, 2, [], []), (59, .invokevirtual 294, 62, 0, 58, [], []), (66, .getfield 28, 69, 10, 3, [], []), (69, .invokevirtual 291, 72, 0, 119, [], [])]
set_option maxRecDepth 20000 in
theorem P_k167 : ∀ q ∈ P_l167, P_lnk P_cl P_aty P_stat P_tx P_N0 P_Tb P_Y0 "OrchardQuery" false prog_1_method_32_code [] q.1 q.2.1 q.2.2.2.1 q.2.2.2.2.1 :=
  P_all_cons (P_lnk_get (P_s1 (c := 10) (P := fun ci => P_fok P_cl P_Tb "OrchardQuery" 12 ci 0) rfl ⟨_, _, _, "OrchardQuery", rfl, by decide, (Or.inl rfl), (Or.inl w_4_171)⟩)) <|
  P_all_cons (P_lnk_vi (P_vall (l := P_v121) rfl (P_all_cons (show P_vok _ _ _ 8 114 from ⟨_, rfl, rfl, w_1_3, w_1_110, (Or.inl ⟨P_sg 0 rfl, w_1_111, (Or.inl w_1_109)⟩)⟩) (P_all_nil)))) <|
  P_all_cons (P_lnk_get (P_s1 (c := 10) (P := fun ci => P_fok P_cl P_Tb "OrchardQuery" 37 ci 1) rfl ⟨_, _, _, "OrchardQuery", rfl, by decide, (Or.inl rfl), (Or.inl w_4_172)⟩)) <|
  P_all_cons (P_lnk_vi (P_vall (l := P_v126) rfl (P_all_cons (show P_vok _ _ _ 7 91 from ⟨_, rfl, rfl, w_1_8, w_1_114, (Or.inl ⟨P_sg 0 rfl, w_1_115, (Or.inl w_1_113)⟩)⟩) (P_all_nil)))) <|
  P_all_cons (P_lnk_get (P_s1 (c := 10) (P := fun ci => P_fok P_cl P_Tb "OrchardQuery" 37 ci 1) rfl ⟨_, _, _, "OrchardQuery", rfl, by decide, (Or.inl rfl), (Or.inl w_4_172)⟩)) <|
  P_all_cons (P_lnk_vi (P_vall (l := P_v150) rfl (P_all_cons (show P_vok _ _ _ 7 92 from ⟨_, rfl, rfl, w_1_8, w_1_118, (Or.inl ⟨P_sg 0 rfl, w_1_119, (Or.inl w_1_117)⟩)⟩) (P_all_nil)))) <|
  P_all_cons (P_lnk_get (P_s1 (c := 10) (P := fun ci => P_fok P_cl P_Tb "OrchardQuery" 19 ci 2) rfl ⟨_, _, _, "OrchardQuery", rfl, by decide, (Or.inl rfl), (Or.inl w_4_173)⟩)) <|
  P_all_cons (P_lnk_vi (P_vall (l := P_v53) rfl (P_all_cons (show P_vok _ _ _ 3 29 from ⟨_, rfl, rfl, w_1_5, w_1_122, (Or.inl ⟨P_sg 0 rfl, w_1_123, (Or.inl w_1_121)⟩)⟩) (P_all_nil)))) <|
  P_all_cons (P_lnk_get (P_s1 (c := 10) (P := fun ci => P_fok P_cl P_Tb "OrchardQuery" 19 ci 2) rfl ⟨_, _, _, "OrchardQuery", rfl, by decide, (Or.inl rfl), (Or.inl w_4_173)⟩)) <|
  P_all_cons (P_lnk_vi (P_vall (l := P_v58) rfl (P_all_cons (show P_vok _ _ _ 3 30 from ⟨_, rfl, rfl, w_1_5, w_1_126, (Or.inl ⟨P_sg 0 rfl, w_1_127, (Or.inl w_1_125)⟩)⟩) (P_all_nil)))) <|
  P_all_cons (P_lnk_get (P_s1 (c := 10) (P := fun ci => P_fok P_cl P_Tb "OrchardQuery" 28 ci 3) rfl ⟨_, _, _, "OrchardQuery", rfl, by decide, (Or.inl rfl), (Or.inl w_4_174)⟩)) <|
  P_all_cons (P_lnk_vi (P_vall (l := P_v119) rfl (P_all_cons (show P_vok _ _ _ 5 55 from ⟨_, rfl, rfl, w_1_6, w_1_130, (Or.inl ⟨P_sg 0 rfl, w_1_131, (Or.inl w_1_129)⟩)⟩) (P_all_nil)))) <|
  P_all_nil
set_option maxRecDepth 20000 in
theorem P_m167 : P_mstC 167 2 (Option.some Jvm.ClassFile.FieldType.int) P_e167 [] := P_meth (mx := 2) (rt := (Option.some Jvm.ClassFile.FieldType.int)) (hs := []) "OrchardQuery" false prog_1_method_32_code [] rfl rfl rfl rfl (by decide +kernel) (by decide +kernel) (fun _ => P_g167) (by decide) (fun _ _ => by decide +kernel) (fun q => by cases q) (P_all_cons (by decide +kernel) <| P_all_cons (by decide +kernel) <| P_all_cons (by decide +kernel) <| P_all_nil) P_l167 (by decide +kernel) P_k167 (fun _ _ => P_hok_nil)
/-- OrchardQuery.refuseUnread()V -/
def P_l168 : List (Nat × P_I) := [(1, .getfield 37, 4, 10, 1, [], []), (4, .invokevirtual 278, 7, 0, 150, [], [])]
set_option maxRecDepth 20000 in
theorem P_k168 : ∀ q ∈ P_l168, P_lnk P_cl P_aty P_stat P_tx P_N0 P_Tb P_Y0 "OrchardQuery" false prog_1_method_33_code [] q.1 q.2.1 q.2.2.2.1 q.2.2.2.2.1 :=
  P_all_cons (P_lnk_get (P_s1 (c := 10) (P := fun ci => P_fok P_cl P_Tb "OrchardQuery" 37 ci 1) rfl ⟨_, _, _, "OrchardQuery", rfl, by decide, (Or.inl rfl), (Or.inl w_4_172)⟩)) <|
  P_all_cons (P_lnk_vi (P_vall (l := P_v150) rfl (P_all_cons (show P_vok _ _ _ 7 92 from ⟨_, rfl, rfl, w_1_8, w_1_118, (Or.inl ⟨P_sg 0 rfl, w_1_119, (Or.inl w_1_117)⟩)⟩) (P_all_nil)))) <|
  P_all_nil
set_option maxRecDepth 20000 in
theorem P_m168 : P_mstC 168 1 (Option.none : Option Jvm.ClassFile.FieldType) P_e168 [] := P_meth (mx := 1) (rt := (Option.none : Option Jvm.ClassFile.FieldType)) (hs := []) "OrchardQuery" false prog_1_method_33_code [] rfl rfl rfl rfl (by decide +kernel) (by decide +kernel) (fun _ => P_g168) (by decide) (fun _ _ => by decide +kernel) (fun q => by cases q) (P_all_cons (by decide +kernel) <| P_all_nil) P_l168 (by decide +kernel) P_k168 (fun _ _ => P_hok_nil)
/-- OrchardQuery.becomeOther()V -/
def P_l169 : List (Nat × P_I) := [(1, .getfield 60, 4, 10, 6, [], []), (4, .invokevirtual 299, 7, 0, 83, [], []), (8, .getfield 46, 11, 10, 4, [], []), (11, .invokevirtual 302, 14, 0, 153, [], [])]
set_option maxRecDepth 20000 in
theorem P_k169 : ∀ q ∈ P_l169, P_lnk P_cl P_aty P_stat P_tx P_N0 P_Tb P_Y0 "OrchardQuery" false prog_1_method_34_code [] q.1 q.2.1 q.2.2.2.1 q.2.2.2.2.1 :=
  P_all_cons (P_lnk_get (P_s1 (c := 10) (P := fun ci => P_fok P_cl P_Tb "OrchardQuery" 60 ci 6) rfl ⟨_, _, _, "OrchardQuery", rfl, by decide, (Or.inl rfl), (Or.inl w_4_177)⟩)) <|
  P_all_cons (P_lnk_vi (P_vall (l := P_v83) rfl (P_all_cons (show P_vok _ _ _ 6 85 from ⟨_, rfl, rfl, w_1_13, w_2_52, (Or.inl ⟨P_sg 0 rfl, w_2_53, (Or.inl w_5_57)⟩)⟩) (P_all_nil)))) <|
  P_all_cons (P_lnk_get (P_s1 (c := 10) (P := fun ci => P_fok P_cl P_Tb "OrchardQuery" 46 ci 4) rfl ⟨_, _, _, "OrchardQuery", rfl, by decide, (Or.inl rfl), (Or.inl w_4_175)⟩)) <|
  P_all_cons (P_lnk_vi (P_vall (l := P_v153) rfl (P_all_cons (show P_vok _ _ _ 0 2 from ⟨_, rfl, rfl, w_1_10, w_5_59, (Or.inl ⟨P_sg 0 rfl, w_5_60, (Or.inl w_5_58)⟩)⟩) (P_all_nil)))) <|
  P_all_nil
set_option maxRecDepth 20000 in
theorem P_m169 : P_mstC 169 1 (Option.none : Option Jvm.ClassFile.FieldType) P_e169 [] := P_meth (mx := 1) (rt := (Option.none : Option Jvm.ClassFile.FieldType)) (hs := []) "OrchardQuery" false prog_1_method_34_code [] rfl rfl rfl rfl (by decide +kernel) (by decide +kernel) (fun _ => P_g169) (by decide) (fun _ _ => by decide +kernel) (fun q => by cases q) (P_all_cons (by decide +kernel) <| P_all_nil) P_l169 (by decide +kernel) P_k169 (fun _ _ => P_hok_nil)
/-- OrchardQuery.mix(JJ)J -/
def P_l170 : List (Nat × P_I) := [(1, .ldc2_w 305, 4, 31, 0, [], [])]
set_option maxRecDepth 20000 in
theorem P_k170 : ∀ q ∈ P_l170, P_lnk P_cl P_aty P_stat P_tx P_N0 P_Tb P_Y0 "OrchardQuery" false prog_1_method_35_code [] q.1 q.2.1 q.2.2.2.1 q.2.2.2.2.1 :=
  P_all_cons (P_lnk_ldl w_3_97) <|
  P_all_nil
set_option maxRecDepth 20000 in
theorem P_m170 : P_mstC 170 4 (Option.some Jvm.ClassFile.FieldType.long) P_e170 [] := P_meth (mx := 4) (rt := (Option.some Jvm.ClassFile.FieldType.long)) (hs := []) "OrchardQuery" false prog_1_method_35_code [] rfl rfl rfl rfl (by decide +kernel) (by decide +kernel) (fun _ => P_g170) (by decide) (fun _ _ => by decide +kernel) (fun q => by cases q) (P_all_cons (by decide +kernel) <| P_all_nil) P_l170 (by decide +kernel) P_k170 (fun _ _ => P_hok_nil)
/-- OrchardQuery.isValue(I)Z -/
def P_l171 : List (Nat × P_I) := []
set_option maxRecDepth 20000 in
theorem P_k171 : ∀ q ∈ P_l171, P_lnk P_cl P_aty P_stat P_tx P_N0 P_Tb P_Y0 "OrchardQuery" false prog_1_method_36_code [] q.1 q.2.1 q.2.2.2.1 q.2.2.2.2.1 :=
  P_all_nil
set_option maxRecDepth 20000 in
theorem P_m171 : P_mstC 171 1 (Option.some Jvm.ClassFile.FieldType.boolean) P_e171 [] := P_meth (mx := 1) (rt := (Option.some Jvm.ClassFile.FieldType.boolean)) (hs := []) "OrchardQuery" false prog_1_method_36_code [] rfl rfl rfl rfl (by decide +kernel) (by decide +kernel) (fun _ => P_g171) (by decide) (fun _ _ => by decide +kernel) (fun q => by cases q) (P_all_cons (by decide +kernel) <| P_all_nil) P_l171 (by decide +kernel) P_k171 (fun _ _ => P_hok_nil)
/-- OrchardQuery.isToken(I)Z -/
def P_l172 : List (Nat × P_I) := [(11, .invokestatic 307, 14, 1, 173, [], []), (18, .invokestatic 310, 21, 1, 174, [], []), (25, .invokestatic 313, 28, 1, 175, [], [])]
set_option maxRecDepth 20000 in
theorem P_k172 : ∀ q ∈ P_l172, P_lnk P_cl P_aty P_stat P_tx P_N0 P_Tb P_Y0 "OrchardQuery" false prog_1_method_37_code [] q.1 q.2.1 q.2.2.2.1 q.2.2.2.2.1 :=
  P_all_cons (P_lnk_st (by decide) (fun _ => ⟨P_sg 1 rfl, w_1_2, w_5_137, (Or.inl w_5_136)⟩)) <|
  P_all_cons (P_lnk_st (by decide) (fun _ => ⟨P_sg 1 rfl, w_1_2, w_1_199, (Or.inl w_5_139)⟩)) <|
  P_all_cons (P_lnk_st (by decide) (fun _ => ⟨P_sg 1 rfl, w_1_2, w_2_128, (Or.inl w_5_140)⟩)) <|
  P_all_nil
set_option maxRecDepth 20000 in
theorem P_m172 : P_mstC 172 1 (Option.some Jvm.ClassFile.FieldType.boolean) P_e172 [] := P_meth (mx := 1) (rt := (Option.some Jvm.ClassFile.FieldType.boolean)) (hs := []) "OrchardQuery" false prog_1_method_37_code [] rfl rfl rfl rfl (by decide +kernel) (by decide +kernel) (fun _ => P_g172) (by decide) (fun _ _ => by decide +kernel) (fun q => by cases q) (P_all_cons (by decide +kernel) <| P_all_cons (by decide +kernel) <| P_all_nil) P_l172 (by decide +kernel) P_k172 (fun _ _ => P_hok_nil)
/-- OrchardQuery.isTable(I)Z -/
def P_l173 : List (Nat × P_I) := []
set_option maxRecDepth 20000 in
theorem P_k173 : ∀ q ∈ P_l173, P_lnk P_cl P_aty P_stat P_tx P_N0 P_Tb P_Y0 "OrchardQuery" false prog_1_method_38_code [] q.1 q.2.1 q.2.2.2.1 q.2.2.2.2.1 :=
  P_all_nil
set_option maxRecDepth 20000 in
theorem P_m173 : P_mstC 173 1 (Option.some Jvm.ClassFile.FieldType.boolean) P_e173 [] := P_meth (mx := 1) (rt := (Option.some Jvm.ClassFile.FieldType.boolean)) (hs := []) "OrchardQuery" false prog_1_method_38_code [] rfl rfl rfl rfl (by decide +kernel) (by decide +kernel) (fun _ => P_g173) (by decide) (fun _ _ => by decide +kernel) (fun q => by cases q) (P_all_cons (by decide +kernel) <| P_all_nil) P_l173 (by decide +kernel) P_k173 (fun _ _ => P_hok_nil)
/-- OrchardQuery.isColumn(I)Z -/
def P_l174 : List (Nat × P_I) := []
set_option maxRecDepth 20000 in
theorem P_k174 : ∀ q ∈ P_l174, P_lnk P_cl P_aty P_stat P_tx P_N0 P_Tb P_Y0 "OrchardQuery" false prog_1_method_39_code [] q.1 q.2.1 q.2.2.2.1 q.2.2.2.2.1 :=
  P_all_nil
set_option maxRecDepth 20000 in
theorem P_m174 : P_mstC 174 1 (Option.some Jvm.ClassFile.FieldType.boolean) P_e174 [] := P_meth (mx := 1) (rt := (Option.some Jvm.ClassFile.FieldType.boolean)) (hs := []) "OrchardQuery" false prog_1_method_39_code [] rfl rfl rfl rfl (by decide +kernel) (by decide +kernel) (fun _ => P_g174) (by decide) (fun _ _ => by decide +kernel) (fun q => by cases q) (P_all_cons (by decide +kernel) <| P_all_nil) P_l174 (by decide +kernel) P_k174 (fun _ _ => P_hok_nil)
/-- OrchardQuery.isNumber(I)Z -/
def P_l175 : List (Nat × P_I) := []
set_option maxRecDepth 20000 in
theorem P_k175 : ∀ q ∈ P_l175, P_lnk P_cl P_aty P_stat P_tx P_N0 P_Tb P_Y0 "OrchardQuery" false prog_1_method_40_code [] q.1 q.2.1 q.2.2.2.1 q.2.2.2.2.1 :=
  P_all_nil
set_option maxRecDepth 20000 in
theorem P_m175 : P_mstC 175 1 (Option.some Jvm.ClassFile.FieldType.boolean) P_e175 [] := P_meth (mx := 1) (rt := (Option.some Jvm.ClassFile.FieldType.boolean)) (hs := []) "OrchardQuery" false prog_1_method_40_code [] rfl rfl rfl rfl (by decide +kernel) (by decide +kernel) (fun _ => P_g175) (by decide) (fun _ _ => by decide +kernel) (fun q => by cases q) (P_all_cons (by decide +kernel) <| P_all_nil) P_l175 (by decide +kernel) P_k175 (fun _ _ => P_hok_nil)
/-- OrchardQuery.seatOf(I)I -/
def P_l176 : List (Nat × P_I) := []
set_option maxRecDepth 20000 in
theorem P_k176 : ∀ q ∈ P_l176, P_lnk P_cl P_aty P_stat P_tx P_N0 P_Tb P_Y0 "OrchardQuery" false prog_1_method_41_code [] q.1 q.2.1 q.2.2.2.1 q.2.2.2.2.1 :=
  P_all_nil
set_option maxRecDepth 20000 in
theorem P_m176 : P_mstC 176 1 (Option.some Jvm.ClassFile.FieldType.int) P_e176 [] := P_meth (mx := 1) (rt := (Option.some Jvm.ClassFile.FieldType.int)) (hs := []) "OrchardQuery" false prog_1_method_41_code [] rfl rfl rfl rfl (by decide +kernel) (by decide +kernel) (fun _ => P_g176) (by decide) (fun _ _ => by decide +kernel) (fun q => by cases q) (P_all_cons (by decide +kernel) <| P_all_nil) P_l176 (by decide +kernel) P_k176 (fun _ _ => P_hok_nil)
/-- OrchardQuery.columnOf(I)I -/
def P_l177 : List (Nat × P_I) := []
set_option maxRecDepth 20000 in
theorem P_k177 : ∀ q ∈ P_l177, P_lnk P_cl P_aty P_stat P_tx P_N0 P_Tb P_Y0 "OrchardQuery" false prog_1_method_42_code [] q.1 q.2.1 q.2.2.2.1 q.2.2.2.2.1 :=
  P_all_nil
set_option maxRecDepth 20000 in
theorem P_m177 : P_mstC 177 1 (Option.some Jvm.ClassFile.FieldType.int) P_e177 [] := P_meth (mx := 1) (rt := (Option.some Jvm.ClassFile.FieldType.int)) (hs := []) "OrchardQuery" false prog_1_method_42_code [] rfl rfl rfl rfl (by decide +kernel) (by decide +kernel) (fun _ => P_g177) (by decide) (fun _ _ => by decide +kernel) (fun q => by cases q) (P_all_cons (by decide +kernel) <| P_all_nil) P_l177 (by decide +kernel) P_k177 (fun _ _ => P_hok_nil)
/-- OrchardQuery.get([II)I -/
def P_l178 : List (Nat × P_I) := []
set_option maxRecDepth 20000 in
theorem P_k178 : ∀ q ∈ P_l178, P_lnk P_cl P_aty P_stat P_tx P_N0 P_Tb P_Y0 "OrchardQuery" false prog_1_method_43_code [] q.1 q.2.1 q.2.2.2.1 q.2.2.2.2.1 :=
  P_all_nil
set_option maxRecDepth 20000 in
theorem P_m178 : P_mstC 178 2 (Option.some Jvm.ClassFile.FieldType.int) P_e178 [] := P_meth (mx := 2) (rt := (Option.some Jvm.ClassFile.FieldType.int)) (hs := []) "OrchardQuery" false prog_1_method_43_code [] rfl rfl rfl rfl (by decide +kernel) (by decide +kernel) (fun _ => P_g178) (by decide) (fun _ _ => by decide +kernel) (fun q => by cases q) (P_all_cons (by decide +kernel) <| P_all_nil) P_l178 (by decide +kernel) P_k178 (fun _ _ => P_hok_nil)
/-- OrchardQuery.put([III)V -/
def P_l179 : List (Nat × P_I) := []
set_option maxRecDepth 20000 in
theorem P_k179 : ∀ q ∈ P_l179, P_lnk P_cl P_aty P_stat P_tx P_N0 P_Tb P_Y0 "OrchardQuery" false prog_1_method_44_code [] q.1 q.2.1 q.2.2.2.1 q.2.2.2.2.1 :=
  P_all_nil
set_option maxRecDepth 20000 in
theorem P_m179 : P_mstC 179 3 (Option.none : Option Jvm.ClassFile.FieldType) P_e179 [] := P_meth (mx := 3) (rt := (Option.none : Option Jvm.ClassFile.FieldType)) (hs := []) "OrchardQuery" false prog_1_method_44_code [] rfl rfl rfl rfl (by decide +kernel) (by decide +kernel) (fun _ => P_g179) (by decide) (fun _ _ => by decide +kernel) (fun q => by cases q) (P_all_cons (by decide +kernel) <| P_all_nil) P_l179 (by decide +kernel) P_k179 (fun _ _ => P_hok_nil)
/-- OrchardQuery.fill([II)V -/
def P_l180 : List (Nat × P_I) := []
set_option maxRecDepth 20000 in
theorem P_k180 : ∀ q ∈ P_l180, P_lnk P_cl P_aty P_stat P_tx P_N0 P_Tb P_Y0 "OrchardQuery" false prog_1_method_45_code [] q.1 q.2.1 q.2.2.2.1 q.2.2.2.2.1 :=
  P_all_nil
set_option maxRecDepth 20000 in
theorem P_m180 : P_mstC 180 3 (Option.none : Option Jvm.ClassFile.FieldType) P_e180 [] := P_meth (mx := 3) (rt := (Option.none : Option Jvm.ClassFile.FieldType)) (hs := []) "OrchardQuery" false prog_1_method_45_code [] rfl rfl rfl rfl (by decide +kernel) (by decide +kernel) (fun _ => P_g180) (by decide) (fun _ _ => by decide +kernel) (fun q => by cases q) (P_all_cons (by decide +kernel) <| P_all_nil) P_l180 (by decide +kernel) P_k180 (fun _ _ => P_hok_nil)
/-- OrchardQueryLaw$Grove.<init>([II)V -/
def P_l181 : List (Nat × P_I) := [(1, .invokespecial 1, 4, 0, 9000, [], []), (5, .new 7, 8, 0, 10, [], []), (9, .invokespecial 9, 12, 0, 137, [], []), (12, .putfield 10, 15, 11, 0, [], []), (18, .multianewarray 16 2, 22, 0, 201, [], []), (22, .putfield 18, 25, 11, 3, [], []), (27, .newarray .int, 29, 0, 0, [], []), (29, .putfield 21, 32, 11, 4, [], []), (34, .newarray .int, 36, 0, 0, [], []), (36, .putfield 25, 39, 11, 5, [], []), (41, .newarray .int, 43, 0, 0, [], []), (43, .putfield 28, 46, 11, 6, [], []), (48, .newarray .int, 50, 0, 0, [], []), (50, .putfield 31, 53, 11, 7, [], []), (55, .putfield 34, 58, 11, 8, [], []), (60, .putfield 38, 63, 11, 9, [], []), (65, .putfield 41, 68, 11, 10, [], []), (70, .anewarray 44, 73, 0, 200, [], []), (73, .putfield 45, 76, 11, 11, [], []), (78, .newarray .int, 80, 0, 0, [], []), (80, .putfield 49, 83, 11, 12, [], []), (85, .putfield 52, 88, 11, 1, [], []), (90, .putfield 55, 93, 11, 2, [], [])]
set_option maxRecDepth 20000 in
theorem P_k181 : ∀ q ∈ P_l181, P_lnk P_cl P_aty P_stat P_tx P_N0 P_Tb P_Y0 "OrchardQueryLaw$Grove" true prog_14_method_1_code [] q.1 q.2.1 q.2.2.2.1 q.2.2.2.2.1 :=
  P_all_cons (P_lnk_oj (fun _ => ⟨w_3_126, w_1_60, w_1_61⟩)) <|
  P_all_cons (P_lnk_new (by decide) rfl w_3_127 w_1_107 w_1_2) <|
  P_all_cons (P_lnk_sp (by decide) (fun _ => ⟨P_sg 0 rfl, w_1_2, w_3_129, rfl, rfl, (Or.inl w_3_128)⟩)) <|
  P_all_cons (P_lnk_put (P_s1 (c := 11) (P := fun ci => P_pok P_cl P_Tb "OrchardQueryLaw$Grove" true 10 ci 0) rfl ⟨_, _, _, "OrchardQueryLaw$Grove", rfl, by decide, (Or.inl rfl), (Or.inl ⟨w_4_197, (Or.inr ⟨rfl, rfl, rfl⟩)⟩)⟩)) <|
  P_all_cons (P_lnk_mna w_4_193 w_4_194 w_4_195) <|
  P_all_cons (P_lnk_put (P_s1 (c := 11) (P := fun ci => P_pok P_cl P_Tb "OrchardQueryLaw$Grove" true 18 ci 3) rfl ⟨_, _, _, "OrchardQueryLaw$Grove", rfl, by decide, (Or.inl rfl), (Or.inl ⟨w_4_201, (Or.inl rfl)⟩)⟩)) <|
  P_all_cons (P_lnk_nwa rfl w_3_158) <|
  P_all_cons (P_lnk_put (P_s1 (c := 11) (P := fun ci => P_pok P_cl P_Tb "OrchardQueryLaw$Grove" true 21 ci 4) rfl ⟨_, _, _, "OrchardQueryLaw$Grove", rfl, by decide, (Or.inl rfl), (Or.inl ⟨w_4_203, (Or.inl rfl)⟩)⟩)) <|
  P_all_cons (P_lnk_nwa rfl w_3_158) <|
  P_all_cons (P_lnk_put (P_s1 (c := 11) (P := fun ci => P_pok P_cl P_Tb "OrchardQueryLaw$Grove" true 25 ci 5) rfl ⟨_, _, _, "OrchardQueryLaw$Grove", rfl, by decide, (Or.inl rfl), (Or.inl ⟨w_4_204, (Or.inl rfl)⟩)⟩)) <|
  P_all_cons (P_lnk_nwa rfl w_3_158) <|
  P_all_cons (P_lnk_put (P_s1 (c := 11) (P := fun ci => P_pok P_cl P_Tb "OrchardQueryLaw$Grove" true 28 ci 6) rfl ⟨_, _, _, "OrchardQueryLaw$Grove", rfl, by decide, (Or.inl rfl), (Or.inl ⟨w_4_205, (Or.inl rfl)⟩)⟩)) <|
  P_all_cons (P_lnk_nwa rfl w_3_158) <|
  P_all_cons (P_lnk_put (P_s1 (c := 11) (P := fun ci => P_pok P_cl P_Tb "OrchardQueryLaw$Grove" true 31 ci 7) rfl ⟨_, _, _, "OrchardQueryLaw$Grove", rfl, by decide, (Or.inl rfl), (Or.inl ⟨w_4_207, (Or.inl rfl)⟩)⟩)) <|
  P_all_cons (P_lnk_put (P_s1 (c := 11) (P := fun ci => P_pok P_cl P_Tb "OrchardQueryLaw$Grove" true 34 ci 8) rfl ⟨_, _, _, "OrchardQueryLaw$Grove", rfl, by decide, (Or.inl rfl), (Or.inl ⟨w_4_209, (Or.inl rfl)⟩)⟩)) <|
  P_all_cons (P_lnk_put (P_s1 (c := 11) (P := fun ci => P_pok P_cl P_Tb "OrchardQueryLaw$Grove" true 38 ci 9) rfl ⟨_, _, _, "OrchardQueryLaw$Grove", rfl, by decide, (Or.inl rfl), (Or.inl ⟨w_4_211, (Or.inl rfl)⟩)⟩)) <|
  P_all_cons (P_lnk_put (P_s1 (c := 11) (P := fun ci => P_pok P_cl P_Tb "OrchardQueryLaw$Grove" true 41 ci 10) rfl ⟨_, _, _, "OrchardQueryLaw$Grove", rfl, by decide, (Or.inl rfl), (Or.inl ⟨w_4_213, (Or.inl rfl)⟩)⟩)) <|
  P_all_cons (P_lnk_anr (t := .int) rfl w_4_196 w_4_195) <|
  P_all_cons (P_lnk_put (P_s1 (c := 11) (P := fun ci => P_pok P_cl P_Tb "OrchardQueryLaw$Grove" true 45 ci 11) rfl ⟨_, _, _, "OrchardQueryLaw$Grove", rfl, by decide, (Or.inl rfl), (Or.inl ⟨w_4_215, (Or.inl rfl)⟩)⟩)) <|
  P_all_cons (P_lnk_nwa rfl w_3_158) <|
  P_all_cons (P_lnk_put (P_s1 (c := 11) (P := fun ci => P_pok P_cl P_Tb "OrchardQueryLaw$Grove" true 49 ci 12) rfl ⟨_, _, _, "OrchardQueryLaw$Grove", rfl, by decide, (Or.inl rfl), (Or.inl ⟨w_4_216, (Or.inl rfl)⟩)⟩)) <|
  P_all_cons (P_lnk_put (P_s1 (c := 11) (P := fun ci => P_pok P_cl P_Tb "OrchardQueryLaw$Grove" true 52 ci 1) rfl ⟨_, _, _, "OrchardQueryLaw$Grove", rfl, by decide, (Or.inl rfl), (Or.inl ⟨w_4_199, (Or.inr ⟨rfl, rfl, rfl⟩)⟩)⟩)) <|
  P_all_cons (P_lnk_put (P_s1 (c := 11) (P := fun ci => P_pok P_cl P_Tb "OrchardQueryLaw$Grove" true 55 ci 2) rfl ⟨_, _, _, "OrchardQueryLaw$Grove", rfl, by decide, (Or.inl rfl), (Or.inl ⟨w_4_200, (Or.inl rfl)⟩)⟩)) <|
  P_all_nil
set_option maxRecDepth 20000 in
theorem P_m181 : P_mstC 181 3 (Option.none : Option Jvm.ClassFile.FieldType) P_e181 [] := P_meth (mx := 3) (rt := (Option.none : Option Jvm.ClassFile.FieldType)) (hs := []) "OrchardQueryLaw$Grove" true prog_14_method_1_code [] rfl rfl rfl rfl (by decide +kernel) (by decide +kernel) (fun _ => P_g181) (by decide) (fun t q => by cases q) (fun _ => rfl) (P_all_cons (by decide +kernel) <| P_all_cons (by decide +kernel) <| P_all_cons (by decide +kernel) <| P_all_nil) P_l181 (by decide +kernel) P_k181 (fun _ _ => P_hok_nil)
/-- OrchardQueryLaw$Grove.draw(I)I -/
def P_l182 : List (Nat × P_I) := [(1, .getfield 52, 4, 11, 1, [], []), (5, .getfield 55, 8, 11, 2, [], []), (11, .invokestatic 58, 14, 2, 207, [], []), (15, .getfield 55, 18, 11, 2, [], []), (29, .getfield 55, 32, 11, 2, [], []), (35, .invokestatic 64, 38, 2, 206, [], []), (41, .getfield 55, 44, 11, 2, [], []), (46, .putfield 55, 49, 11, 2, [], [])]
set_option maxRecDepth 20000 in
theorem P_k182 : ∀ q ∈ P_l182, P_lnk P_cl P_aty P_stat P_tx P_N0 P_Tb P_Y0 "OrchardQueryLaw$Grove" false prog_14_method_2_code [] q.1 q.2.1 q.2.2.2.1 q.2.2.2.2.1 :=
  P_all_cons (P_lnk_get (P_s1 (c := 11) (P := fun ci => P_fok P_cl P_Tb "OrchardQueryLaw$Grove" 52 ci 1) rfl ⟨_, _, _, "OrchardQueryLaw$Grove", rfl, by decide, (Or.inl rfl), (Or.inl w_4_199)⟩)) <|
  P_all_cons (P_lnk_get (P_s1 (c := 11) (P := fun ci => P_fok P_cl P_Tb "OrchardQueryLaw$Grove" 55 ci 2) rfl ⟨_, _, _, "OrchardQueryLaw$Grove", rfl, by decide, (Or.inl rfl), (Or.inl w_4_200)⟩)) <|
  P_all_cons (P_lnk_st (by decide) (fun _ => ⟨P_sg 2 rfl, w_1_0, w_5_16, (Or.inr ⟨rfl, _, w_5_15⟩)⟩)) <|
  P_all_cons (P_lnk_get (P_s1 (c := 11) (P := fun ci => P_fok P_cl P_Tb "OrchardQueryLaw$Grove" 55 ci 2) rfl ⟨_, _, _, "OrchardQueryLaw$Grove", rfl, by decide, (Or.inl rfl), (Or.inl w_4_200)⟩)) <|
  P_all_cons (P_lnk_get (P_s1 (c := 11) (P := fun ci => P_fok P_cl P_Tb "OrchardQueryLaw$Grove" 55 ci 2) rfl ⟨_, _, _, "OrchardQueryLaw$Grove", rfl, by decide, (Or.inl rfl), (Or.inl w_4_200)⟩)) <|
  P_all_cons (P_lnk_st (by decide) (fun _ => ⟨P_sg 2 rfl, w_1_0, w_5_20, (Or.inr ⟨rfl, _, w_5_19⟩)⟩)) <|
  P_all_cons (P_lnk_get (P_s1 (c := 11) (P := fun ci => P_fok P_cl P_Tb "OrchardQueryLaw$Grove" 55 ci 2) rfl ⟨_, _, _, "OrchardQueryLaw$Grove", rfl, by decide, (Or.inl rfl), (Or.inl w_4_200)⟩)) <|
  P_all_cons (P_lnk_put (P_s1 (c := 11) (P := fun ci => P_pok P_cl P_Tb "OrchardQueryLaw$Grove" false 55 ci 2) rfl ⟨_, _, _, "OrchardQueryLaw$Grove", rfl, by decide, (Or.inl rfl), (Or.inl ⟨w_4_200, (Or.inl rfl)⟩)⟩)) <|
  P_all_nil
set_option maxRecDepth 20000 in
theorem P_m182 : P_mstC 182 3 (Option.some Jvm.ClassFile.FieldType.int) P_e182 [] := P_meth (mx := 3) (rt := (Option.some Jvm.ClassFile.FieldType.int)) (hs := []) "OrchardQueryLaw$Grove" false prog_14_method_2_code [] rfl rfl rfl rfl (by decide +kernel) (by decide +kernel) (fun _ => P_g182) (by decide) (fun _ _ => by decide +kernel) (fun q => by cases q) (P_all_cons (by decide +kernel) <| P_all_cons (by decide +kernel) <| P_all_nil) P_l182 (by decide +kernel) P_k182 (fun _ _ => P_hok_nil)
/-- OrchardQueryLaw$Grove.plus([II)[I -/
def P_l183 : List (Nat × P_I) := [(4, .newarray .int, 6, 0, 0, [], []), (13, .invokestatic 68, 16, 5, 9003, [], [])]
set_option maxRecDepth 20000 in
theorem P_k183 : ∀ q ∈ P_l183, P_lnk P_cl P_aty P_stat P_tx P_N0 P_Tb P_Y0 "OrchardQueryLaw$Grove" false prog_14_method_3_code [] q.1 q.2.1 q.2.2.2.1 q.2.2.2.2.1 :=
  P_all_cons (P_lnk_nwa rfl w_3_158) <|
  P_all_cons (P_lnk_cpy w_5_31 w_5_33 w_5_32 w_1_14 w_4_195 w_4_194) <|
  P_all_nil
set_option maxRecDepth 20000 in
theorem P_m183 : P_mstC 183 3 (Option.some (Jvm.ClassFile.FieldType.array Jvm.ClassFile.FieldType.int)) P_e183 [] := P_meth (mx := 3) (rt := (Option.some (Jvm.ClassFile.FieldType.array Jvm.ClassFile.FieldType.int))) (hs := []) "OrchardQueryLaw$Grove" false prog_14_method_3_code [] rfl rfl rfl rfl (by decide +kernel) (by decide +kernel) (fun _ => P_g183) (by decide) (fun _ _ => by decide +kernel) (fun q => by cases q) (P_all_cons (by decide +kernel) <| P_all_nil) P_l183 (by decide +kernel) P_k183 (fun _ _ => P_hok_nil)
/-- OrchardQueryLaw$Grove.with([[II[I)[[I -/
def P_l184 : List (Nat × P_I) := [(4, .anewarray 44, 7, 0, 200, [], []), (13, .invokestatic 68, 16, 5, 9003, [], []), (19, .aastore, 20, 0, 1, [], []), (30, .invokestatic 68, 33, 5, 9003, [], [])]
set_option maxRecDepth 20000 in
theorem P_k184 : ∀ q ∈ P_l184, P_lnk P_cl P_aty P_stat P_tx P_N0 P_Tb P_Y0 "OrchardQueryLaw$Grove" false prog_14_method_4_code [] q.1 q.2.1 q.2.2.2.1 q.2.2.2.2.1 :=
  P_all_cons (P_lnk_anr (t := .int) rfl w_4_196 w_4_195) <|
  P_all_cons (P_lnk_cpy w_5_31 w_5_33 w_5_32 w_1_14 w_4_195 w_4_194) <|
  P_all_cons (P_lnk_as1 w_4_195 w_4_194) <|
  P_all_cons (P_lnk_cpy w_5_31 w_5_33 w_5_32 w_1_14 w_4_195 w_4_194) <|
  P_all_nil
set_option maxRecDepth 20000 in
theorem P_m184 : P_mstC 184 4 (Option.some (Jvm.ClassFile.FieldType.array (Jvm.ClassFile.FieldType.array Jvm.ClassFile.FieldType.int))) P_e184 [] := P_meth (mx := 4) (rt := (Option.some (Jvm.ClassFile.FieldType.array (Jvm.ClassFile.FieldType.array Jvm.ClassFile.FieldType.int)))) (hs := []) "OrchardQueryLaw$Grove" false prog_14_method_4_code [] rfl rfl rfl rfl (by decide +kernel) (by decide +kernel) (fun _ => P_g184) (by decide) (fun _ _ => by decide +kernel) (fun q => by cases q) (P_all_cons (by decide +kernel) <| P_all_cons (by decide +kernel) <| P_all_nil) P_l184 (by decide +kernel) P_k184 (fun _ _ => P_hok_nil)
/-- OrchardQueryLaw$Grove.without([[II)[[I -/
def P_l185 : List (Nat × P_I) := [(4, .anewarray 44, 7, 0, 200, [], []), (13, .invokestatic 68, 16, 5, 9003, [], []), (26, .invokestatic 68, 29, 5, 9003, [], [])]
set_option maxRecDepth 20000 in
theorem P_k185 : ∀ q ∈ P_l185, P_lnk P_cl P_aty P_stat P_tx P_N0 P_Tb P_Y0 "OrchardQueryLaw$Grove" false prog_14_method_5_code [] q.1 q.2.1 q.2.2.2.1 q.2.2.2.2.1 :=
  P_all_cons (P_lnk_anr (t := .int) rfl w_4_196 w_4_195) <|
  P_all_cons (P_lnk_cpy w_5_31 w_5_33 w_5_32 w_1_14 w_4_195 w_4_194) <|
  P_all_cons (P_lnk_cpy w_5_31 w_5_33 w_5_32 w_1_14 w_4_195 w_4_194) <|
  P_all_nil
set_option maxRecDepth 20000 in
theorem P_m185 : P_mstC 185 3 (Option.some (Jvm.ClassFile.FieldType.array (Jvm.ClassFile.FieldType.array Jvm.ClassFile.FieldType.int))) P_e185 [] := P_meth (mx := 3) (rt := (Option.some (Jvm.ClassFile.FieldType.array (Jvm.ClassFile.FieldType.array Jvm.ClassFile.FieldType.int)))) (hs := []) "OrchardQueryLaw$Grove" false prog_14_method_5_code [] rfl rfl rfl rfl (by decide +kernel) (by decide +kernel) (fun _ => P_g185) (by decide) (fun _ _ => by decide +kernel) (fun q => by cases q) (P_all_cons (by decide +kernel) <| P_all_nil) P_l185 (by decide +kernel) P_k185 (fun _ _ => P_hok_nil)
/-- OrchardQueryLaw$Grove.addTable()Z -/
def P_l186 : List (Nat × P_I) := [(1, .getfield 18, 4, 11, 3, [], []), (14, .invokevirtual 74, 17, 1, 1, [], []), (21, .getfield 21, 24, 11, 4, [], []), (25, .invokestatic 78, 28, 2, 183, [], []), (28, .putfield 21, 31, 11, 4, [], []), (32, .getfield 18, 35, 11, 3, [], []), (39, .multianewarray 16 2, 43, 0, 201, [], []), (45, .getfield 18, 48, 11, 3, [], []), (52, .getfield 18, 55, 11, 3, [], []), (56, .invokestatic 68, 59, 5, 9003, [], []), (61, .putfield 18, 64, 11, 3, [], []), (65, .getfield 10, 68, 11, 0, [], []), (69, .invokevirtual 82, 72, 1, 154, [], []), (73, .getfield 18, 76, 11, 3, [], [])]
set_option maxRecDepth 20000 in
theorem P_k186 : ∀ q ∈ P_l186, P_lnk P_cl P_aty P_stat P_tx P_N0 P_Tb P_Y0 "OrchardQueryLaw$Grove" false prog_14_method_6_code [] q.1 q.2.1 q.2.2.2.1 q.2.2.2.2.1 :=
  P_all_cons (P_lnk_get (P_s1 (c := 11) (P := fun ci => P_fok P_cl P_Tb "OrchardQueryLaw$Grove" 18 ci 3) rfl ⟨_, _, _, "OrchardQueryLaw$Grove", rfl, by decide, (Or.inl rfl), (Or.inl w_4_201)⟩)) <|
  P_all_cons (P_lnk_vi (P_vall (l := P_v1) rfl (P_all_cons (show P_vok _ _ _ 11 182 from ⟨_, rfl, rfl, w_1_1, w_5_12, (Or.inl ⟨P_sg 1 rfl, w_5_13, (Or.inl w_5_27)⟩)⟩) (P_all_nil)))) <|
  P_all_cons (P_lnk_get (P_s1 (c := 11) (P := fun ci => P_fok P_cl P_Tb "OrchardQueryLaw$Grove" 21 ci 4) rfl ⟨_, _, _, "OrchardQueryLaw$Grove", rfl, by decide, (Or.inl rfl), (Or.inl w_4_203)⟩)) <|
  P_all_cons (P_lnk_st (by decide) (fun _ => ⟨P_sg 2 rfl, w_1_1, w_5_71, (Or.inl w_5_70)⟩)) <|
  P_all_cons (P_lnk_put (P_s1 (c := 11) (P := fun ci => P_pok P_cl P_Tb "OrchardQueryLaw$Grove" false 21 ci 4) rfl ⟨_, _, _, "OrchardQueryLaw$Grove", rfl, by decide, (Or.inl rfl), (Or.inl ⟨w_4_203, (Or.inl rfl)⟩)⟩)) <|
  P_all_cons (P_lnk_get (P_s1 (c := 11) (P := fun ci => P_fok P_cl P_Tb "OrchardQueryLaw$Grove" 18 ci 3) rfl ⟨_, _, _, "OrchardQueryLaw$Grove", rfl, by decide, (Or.inl rfl), (Or.inl w_4_201)⟩)) <|
  P_all_cons (P_lnk_mna w_4_193 w_4_194 w_4_195) <|
  P_all_cons (P_lnk_get (P_s1 (c := 11) (P := fun ci => P_fok P_cl P_Tb "OrchardQueryLaw$Grove" 18 ci 3) rfl ⟨_, _, _, "OrchardQueryLaw$Grove", rfl, by decide, (Or.inl rfl), (Or.inl w_4_201)⟩)) <|
  P_all_cons (P_lnk_get (P_s1 (c := 11) (P := fun ci => P_fok P_cl P_Tb "OrchardQueryLaw$Grove" 18 ci 3) rfl ⟨_, _, _, "OrchardQueryLaw$Grove", rfl, by decide, (Or.inl rfl), (Or.inl w_4_201)⟩)) <|
  P_all_cons (P_lnk_cpy w_5_31 w_5_33 w_5_32 w_1_14 w_4_195 w_4_194) <|
  P_all_cons (P_lnk_put (P_s1 (c := 11) (P := fun ci => P_pok P_cl P_Tb "OrchardQueryLaw$Grove" false 18 ci 3) rfl ⟨_, _, _, "OrchardQueryLaw$Grove", rfl, by decide, (Or.inl rfl), (Or.inl ⟨w_4_201, (Or.inl rfl)⟩)⟩)) <|
  P_all_cons (P_lnk_get (P_s1 (c := 11) (P := fun ci => P_fok P_cl P_Tb "OrchardQueryLaw$Grove" 10 ci 0) rfl ⟨_, _, _, "OrchardQueryLaw$Grove", rfl, by decide, (Or.inl rfl), (Or.inl w_4_197)⟩)) <|
  P_all_cons (P_lnk_vi (P_vall (l := P_v154) rfl (P_all_cons (show P_vok _ _ _ 10 138 from ⟨_, rfl, rfl, w_1_2, w_5_74, (Or.inl ⟨P_sg 1 rfl, w_5_75, (Or.inl w_5_73)⟩)⟩) (P_all_nil)))) <|
  P_all_cons (P_lnk_get (P_s1 (c := 11) (P := fun ci => P_fok P_cl P_Tb "OrchardQueryLaw$Grove" 18 ci 3) rfl ⟨_, _, _, "OrchardQueryLaw$Grove", rfl, by decide, (Or.inl rfl), (Or.inl w_4_201)⟩)) <|
  P_all_nil
set_option maxRecDepth 20000 in
theorem P_m186 : P_mstC 186 3 (Option.some Jvm.ClassFile.FieldType.boolean) P_e186 [] := P_meth (mx := 3) (rt := (Option.some Jvm.ClassFile.FieldType.boolean)) (hs := []) "OrchardQueryLaw$Grove" false prog_14_method_6_code [] rfl rfl rfl rfl (by decide +kernel) (by decide +kernel) (fun _ => P_g186) (by decide) (fun _ _ => by decide +kernel) (fun q => by cases q) (P_all_cons (by decide +kernel) <| P_all_cons (by decide +kernel) <| P_all_cons (by decide +kernel) <| P_all_nil) P_l186 (by decide +kernel) P_k186 (fun _ _ => P_hok_nil)
/-- OrchardQueryLaw$Grove.addRow(I)Z -/
def P_l187 : List (Nat × P_I) := [(1, .getfield 18, 4, 11, 3, [], []), (15, .newarray .int, 17, 0, 0, [], []), (21, .invokevirtual 74, 24, 1, 1, [], []), (29, .invokevirtual 74, 32, 1, 1, [], []), (39, .invokevirtual 74, 42, 1, 1, [], []), (45, .getfield 21, 48, 11, 4, [], []), (50, .newarray .int, 52, 0, 0, [], []), (59, .invokestatic 68, 62, 5, 9003, [], []), (63, .getfield 18, 66, 11, 3, [], []), (68, .getfield 18, 71, 11, 3, [], []), (74, .getfield 18, 77, 11, 3, [], []), (81, .invokestatic 85, 84, 3, 184, [], []), (84, .aastore, 85, 0, 1, [], []), (86, .getfield 10, 89, 11, 0, [], []), (99, .invokevirtual 89, 102, 4, 155, [], []), (103, .getfield 18, 106, 11, 3, [], [])]
set_option maxRecDepth 20000 in
theorem P_k187 : ∀ q ∈ P_l187, P_lnk P_cl P_aty P_stat P_tx P_N0 P_Tb P_Y0 "OrchardQueryLaw$Grove" false prog_14_method_7_code [] q.1 q.2.1 q.2.2.2.1 q.2.2.2.2.1 :=
  P_all_cons (P_lnk_get (P_s1 (c := 11) (P := fun ci => P_fok P_cl P_Tb "OrchardQueryLaw$Grove" 18 ci 3) rfl ⟨_, _, _, "OrchardQueryLaw$Grove", rfl, by decide, (Or.inl rfl), (Or.inl w_4_201)⟩)) <|
  P_all_cons (P_lnk_nwa rfl w_3_158) <|
  P_all_cons (P_lnk_vi (P_vall (l := P_v1) rfl (P_all_cons (show P_vok _ _ _ 11 182 from ⟨_, rfl, rfl, w_1_1, w_5_12, (Or.inl ⟨P_sg 1 rfl, w_5_13, (Or.inl w_5_27)⟩)⟩) (P_all_nil)))) <|
  P_all_cons (P_lnk_vi (P_vall (l := P_v1) rfl (P_all_cons (show P_vok _ _ _ 11 182 from ⟨_, rfl, rfl, w_1_1, w_5_12, (Or.inl ⟨P_sg 1 rfl, w_5_13, (Or.inl w_5_27)⟩)⟩) (P_all_nil)))) <|
  P_all_cons (P_lnk_vi (P_vall (l := P_v1) rfl (P_all_cons (show P_vok _ _ _ 11 182 from ⟨_, rfl, rfl, w_1_1, w_5_12, (Or.inl ⟨P_sg 1 rfl, w_5_13, (Or.inl w_5_27)⟩)⟩) (P_all_nil)))) <|
  P_all_cons (P_lnk_get (P_s1 (c := 11) (P := fun ci => P_fok P_cl P_Tb "OrchardQueryLaw$Grove" 21 ci 4) rfl ⟨_, _, _, "OrchardQueryLaw$Grove", rfl, by decide, (Or.inl rfl), (Or.inl w_4_203)⟩)) <|
  P_all_cons (P_lnk_nwa rfl w_3_158) <|
  P_all_cons (P_lnk_cpy w_5_31 w_5_33 w_5_32 w_1_14 w_4_195 w_4_194) <|
  P_all_cons (P_lnk_get (P_s1 (c := 11) (P := fun ci => P_fok P_cl P_Tb "OrchardQueryLaw$Grove" 18 ci 3) rfl ⟨_, _, _, "OrchardQueryLaw$Grove", rfl, by decide, (Or.inl rfl), (Or.inl w_4_201)⟩)) <|
  P_all_cons (P_lnk_get (P_s1 (c := 11) (P := fun ci => P_fok P_cl P_Tb "OrchardQueryLaw$Grove" 18 ci 3) rfl ⟨_, _, _, "OrchardQueryLaw$Grove", rfl, by decide, (Or.inl rfl), (Or.inl w_4_201)⟩)) <|
  P_all_cons (P_lnk_get (P_s1 (c := 11) (P := fun ci => P_fok P_cl P_Tb "OrchardQueryLaw$Grove" 18 ci 3) rfl ⟨_, _, _, "OrchardQueryLaw$Grove", rfl, by decide, (Or.inl rfl), (Or.inl w_4_201)⟩)) <|
  P_all_cons (P_lnk_st (by decide) (fun _ => ⟨P_sg 3 rfl, w_1_1, w_5_88, (Or.inl w_5_87)⟩)) <|
  P_all_cons (P_lnk_as1 w_4_195 w_4_194) <|
  P_all_cons (P_lnk_get (P_s1 (c := 11) (P := fun ci => P_fok P_cl P_Tb "OrchardQueryLaw$Grove" 10 ci 0) rfl ⟨_, _, _, "OrchardQueryLaw$Grove", rfl, by decide, (Or.inl rfl), (Or.inl w_4_197)⟩)) <|
  P_all_cons (P_lnk_vi (P_vall (l := P_v155) rfl (P_all_cons (show P_vok _ _ _ 10 139 from ⟨_, rfl, rfl, w_1_2, w_5_91, (Or.inl ⟨P_sg 4 rfl, w_5_92, (Or.inl w_5_90)⟩)⟩) (P_all_nil)))) <|
  P_all_cons (P_lnk_get (P_s1 (c := 11) (P := fun ci => P_fok P_cl P_Tb "OrchardQueryLaw$Grove" 18 ci 3) rfl ⟨_, _, _, "OrchardQueryLaw$Grove", rfl, by decide, (Or.inl rfl), (Or.inl w_4_201)⟩)) <|
  P_all_nil
set_option maxRecDepth 20000 in
theorem P_m187 : P_mstC 187 4 (Option.some Jvm.ClassFile.FieldType.boolean) P_e187 [] := P_meth (mx := 4) (rt := (Option.some Jvm.ClassFile.FieldType.boolean)) (hs := []) "OrchardQueryLaw$Grove" false prog_14_method_7_code [] rfl rfl rfl rfl (by decide +kernel) (by decide +kernel) (fun _ => P_g187) (by decide) (fun _ _ => by decide +kernel) (fun q => by cases q) (P_all_cons (by decide +kernel) <| P_all_cons (by decide +kernel) <| P_all_cons (by decide +kernel) <| P_all_cons (by decide +kernel) <| P_all_nil) P_l187 (by decide +kernel) P_k187 (fun _ _ => P_hok_nil)
/-- OrchardQueryLaw$Grove.drop(I)Z -/
def P_l188 : List (Nat × P_I) := [(1, .getfield 18, 4, 11, 3, [], []), (14, .getfield 18, 17, 11, 3, [], []), (20, .invokevirtual 74, 23, 1, 1, [], []), (25, .getfield 18, 28, 11, 3, [], []), (30, .getfield 18, 33, 11, 3, [], []), (36, .invokestatic 93, 39, 2, 185, [], []), (39, .aastore, 40, 0, 1, [], []), (41, .getfield 10, 44, 11, 0, [], []), (46, .invokevirtual 97, 49, 2, 156, [], []), (50, .getfield 18, 53, 11, 3, [], [])]
set_option maxRecDepth 20000 in
theorem P_k188 : ∀ q ∈ P_l188, P_lnk P_cl P_aty P_stat P_tx P_N0 P_Tb P_Y0 "OrchardQueryLaw$Grove" false prog_14_method_8_code [] q.1 q.2.1 q.2.2.2.1 q.2.2.2.2.1 :=
  P_all_cons (P_lnk_get (P_s1 (c := 11) (P := fun ci => P_fok P_cl P_Tb "OrchardQueryLaw$Grove" 18 ci 3) rfl ⟨_, _, _, "OrchardQueryLaw$Grove", rfl, by decide, (Or.inl rfl), (Or.inl w_4_201)⟩)) <|
  P_all_cons (P_lnk_get (P_s1 (c := 11) (P := fun ci => P_fok P_cl P_Tb "OrchardQueryLaw$Grove" 18 ci 3) rfl ⟨_, _, _, "OrchardQueryLaw$Grove", rfl, by decide, (Or.inl rfl), (Or.inl w_4_201)⟩)) <|
  P_all_cons (P_lnk_vi (P_vall (l := P_v1) rfl (P_all_cons (show P_vok _ _ _ 11 182 from ⟨_, rfl, rfl, w_1_1, w_5_12, (Or.inl ⟨P_sg 1 rfl, w_5_13, (Or.inl w_5_27)⟩)⟩) (P_all_nil)))) <|
  P_all_cons (P_lnk_get (P_s1 (c := 11) (P := fun ci => P_fok P_cl P_Tb "OrchardQueryLaw$Grove" 18 ci 3) rfl ⟨_, _, _, "OrchardQueryLaw$Grove", rfl, by decide, (Or.inl rfl), (Or.inl w_4_201)⟩)) <|
  P_all_cons (P_lnk_get (P_s1 (c := 11) (P := fun ci => P_fok P_cl P_Tb "OrchardQueryLaw$Grove" 18 ci 3) rfl ⟨_, _, _, "OrchardQueryLaw$Grove", rfl, by decide, (Or.inl rfl), (Or.inl w_4_201)⟩)) <|
  P_all_cons (P_lnk_st (by decide) (fun _ => ⟨P_sg 2 rfl, w_1_1, w_5_29, (Or.inl w_5_28)⟩)) <|
  P_all_cons (P_lnk_as1 w_4_195 w_4_194) <|
  P_all_cons (P_lnk_get (P_s1 (c := 11) (P := fun ci => P_fok P_cl P_Tb "OrchardQueryLaw$Grove" 10 ci 0) rfl ⟨_, _, _, "OrchardQueryLaw$Grove", rfl, by decide, (Or.inl rfl), (Or.inl w_4_197)⟩)) <|
  P_all_cons (P_lnk_vi (P_vall (l := P_v156) rfl (P_all_cons (show P_vok _ _ _ 10 140 from ⟨_, rfl, rfl, w_1_2, w_5_35, (Or.inl ⟨P_sg 2 rfl, w_5_36, (Or.inl w_5_34)⟩)⟩) (P_all_nil)))) <|
  P_all_cons (P_lnk_get (P_s1 (c := 11) (P := fun ci => P_fok P_cl P_Tb "OrchardQueryLaw$Grove" 18 ci 3) rfl ⟨_, _, _, "OrchardQueryLaw$Grove", rfl, by decide, (Or.inl rfl), (Or.inl w_4_201)⟩)) <|
  P_all_nil
set_option maxRecDepth 20000 in
theorem P_m188 : P_mstC 188 3 (Option.some Jvm.ClassFile.FieldType.boolean) P_e188 [] := P_meth (mx := 3) (rt := (Option.some Jvm.ClassFile.FieldType.boolean)) (hs := []) "OrchardQueryLaw$Grove" false prog_14_method_8_code [] rfl rfl rfl rfl (by decide +kernel) (by decide +kernel) (fun _ => P_g188) (by decide) (fun _ _ => by decide +kernel) (fun q => by cases q) (P_all_cons (by decide +kernel) <| P_all_cons (by decide +kernel) <| P_all_cons (by decide +kernel) <| P_all_nil) P_l188 (by decide +kernel) P_k188 (fun _ _ => P_hok_nil)
/-- OrchardQueryLaw$Grove.found()Z -/
def P_l189 : List (Nat × P_I) := [(8, .invokevirtual 100, 11, 0, 157, [], []), (33, .invokevirtual 74, 36, 1, 1, [], []), (36, .invokevirtual 104, 39, 1, 158, [], []), (51, .invokevirtual 108, 54, 0, 159, [], []), (58, .getfield 10, 61, 11, 0, [], []), (61, .invokevirtual 111, 64, 0, 160, [], [])]
set_option maxRecDepth 20000 in
theorem P_k189 : ∀ q ∈ P_l189, P_lnk P_cl P_aty P_stat P_tx P_N0 P_Tb P_Y0 "OrchardQueryLaw$Grove" false prog_14_method_9_code [] q.1 q.2.1 q.2.2.2.1 q.2.2.2.2.1 :=
  P_all_cons (P_lnk_vi (P_vall (l := P_v157) rfl (P_all_cons (show P_vok _ _ _ 11 186 from ⟨_, rfl, rfl, w_1_1, w_5_67, (Or.inl ⟨P_sg 0 rfl, w_5_68, (Or.inl w_5_66)⟩)⟩) (P_all_nil)))) <|
  P_all_cons (P_lnk_vi (P_vall (l := P_v1) rfl (P_all_cons (show P_vok _ _ _ 11 182 from ⟨_, rfl, rfl, w_1_1, w_5_12, (Or.inl ⟨P_sg 1 rfl, w_5_13, (Or.inl w_5_27)⟩)⟩) (P_all_nil)))) <|
  P_all_cons (P_lnk_vi (P_vall (l := P_v158) rfl (P_all_cons (show P_vok _ _ _ 11 187 from ⟨_, rfl, rfl, w_1_1, w_5_84, (Or.inl ⟨P_sg 1 rfl, w_5_85, (Or.inl w_5_83)⟩)⟩) (P_all_nil)))) <|
  P_all_cons (P_lnk_vi (P_vall (l := P_v159) rfl (P_all_cons (show P_vok _ _ _ 11 192 from ⟨_, rfl, rfl, w_1_1, w_5_110, (Or.inl ⟨P_sg 0 rfl, w_5_111, (Or.inl w_5_109)⟩)⟩) (P_all_nil)))) <|
  P_all_cons (P_lnk_get (P_s1 (c := 11) (P := fun ci => P_fok P_cl P_Tb "OrchardQueryLaw$Grove" 10 ci 0) rfl ⟨_, _, _, "OrchardQueryLaw$Grove", rfl, by decide, (Or.inl rfl), (Or.inl w_4_197)⟩)) <|
  P_all_cons (P_lnk_vi (P_vall (l := P_v160) rfl (P_all_cons (show P_vok _ _ _ 10 143 from ⟨_, rfl, rfl, w_1_2, w_5_157, (Or.inl ⟨P_sg 0 rfl, w_5_158, (Or.inl w_5_156)⟩)⟩) (P_all_nil)))) <|
  P_all_nil
set_option maxRecDepth 20000 in
theorem P_m189 : P_mstC 189 2 (Option.some Jvm.ClassFile.FieldType.boolean) P_e189 [] := P_meth (mx := 2) (rt := (Option.some Jvm.ClassFile.FieldType.boolean)) (hs := []) "OrchardQueryLaw$Grove" false prog_14_method_9_code [] rfl rfl rfl rfl (by decide +kernel) (by decide +kernel) (fun _ => P_g189) (by decide) (fun _ _ => by decide +kernel) (fun q => by cases q) (P_all_cons (by decide +kernel) <| P_all_cons (by decide +kernel) <| P_all_cons (by decide +kernel) <| P_all_nil) P_l189 (by decide +kernel) P_k189 (fun _ _ => P_hok_nil)
/-- OrchardQueryLaw$Grove.token(I)Z -/
def P_l190 : List (Nat × P_I) := [(2, .getfield 25, 5, 11, 5, [], []), (6, .invokestatic 78, 9, 2, 183, [], []), (9, .putfield 25, 12, 11, 5, [], []), (13, .getfield 10, 16, 11, 0, [], []), (17, .invokevirtual 115, 20, 1, 161, [], []), (21, .getfield 25, 24, 11, 5, [], [])]
set_option maxRecDepth 20000 in
theorem P_k190 : ∀ q ∈ P_l190, P_lnk P_cl P_aty P_stat P_tx P_N0 P_Tb P_Y0 "OrchardQueryLaw$Grove" false prog_14_method_10_code [] q.1 q.2.1 q.2.2.2.1 q.2.2.2.2.1 :=
  P_all_cons (P_lnk_get (P_s1 (c := 11) (P := fun ci => P_fok P_cl P_Tb "OrchardQueryLaw$Grove" 25 ci 5) rfl ⟨_, _, _, "OrchardQueryLaw$Grove", rfl, by decide, (Or.inl rfl), (Or.inl w_4_204)⟩)) <|
  P_all_cons (P_lnk_st (by decide) (fun _ => ⟨P_sg 2 rfl, w_1_1, w_5_71, (Or.inl w_5_70)⟩)) <|
  P_all_cons (P_lnk_put (P_s1 (c := 11) (P := fun ci => P_pok P_cl P_Tb "OrchardQueryLaw$Grove" false 25 ci 5) rfl ⟨_, _, _, "OrchardQueryLaw$Grove", rfl, by decide, (Or.inl rfl), (Or.inl ⟨w_4_204, (Or.inl rfl)⟩)⟩)) <|
  P_all_cons (P_lnk_get (P_s1 (c := 11) (P := fun ci => P_fok P_cl P_Tb "OrchardQueryLaw$Grove" 10 ci 0) rfl ⟨_, _, _, "OrchardQueryLaw$Grove", rfl, by decide, (Or.inl rfl), (Or.inl w_4_197)⟩)) <|
  P_all_cons (P_lnk_vi (P_vall (l := P_v161) rfl (P_all_cons (show P_vok _ _ _ 10 141 from ⟨_, rfl, rfl, w_1_2, w_5_130, (Or.inl ⟨P_sg 1 rfl, w_5_131, (Or.inl w_5_129)⟩)⟩) (P_all_nil)))) <|
  P_all_cons (P_lnk_get (P_s1 (c := 11) (P := fun ci => P_fok P_cl P_Tb "OrchardQueryLaw$Grove" 25 ci 5) rfl ⟨_, _, _, "OrchardQueryLaw$Grove", rfl, by decide, (Or.inl rfl), (Or.inl w_4_204)⟩)) <|
  P_all_nil
set_option maxRecDepth 20000 in
theorem P_m190 : P_mstC 190 2 (Option.some Jvm.ClassFile.FieldType.boolean) P_e190 [] := P_meth (mx := 2) (rt := (Option.some Jvm.ClassFile.FieldType.boolean)) (hs := []) "OrchardQueryLaw$Grove" false prog_14_method_10_code [] rfl rfl rfl rfl (by decide +kernel) (by decide +kernel) (fun _ => P_g190) (by decide) (fun _ _ => by decide +kernel) (fun q => by cases q) (P_all_cons (by decide +kernel) <| P_all_cons (by decide +kernel) <| P_all_nil) P_l190 (by decide +kernel) P_k190 (fun _ _ => P_hok_nil)
/-- OrchardQueryLaw$Grove.column()I -/
def P_l191 : List (Nat × P_I) := [(2, .getfield 31, 5, 11, 7, [], []), (6, .invokevirtual 74, 9, 1, 1, [], []), (19, .getfield 21, 22, 11, 4, [], []), (23, .getfield 31, 26, 11, 7, [], []), (29, .invokevirtual 74, 32, 1, 1, [], [])]
set_option maxRecDepth 20000 in
theorem P_k191 : ∀ q ∈ P_l191, P_lnk P_cl P_aty P_stat P_tx P_N0 P_Tb P_Y0 "OrchardQueryLaw$Grove" false prog_14_method_11_code [] q.1 q.2.1 q.2.2.2.1 q.2.2.2.2.1 :=
  P_all_cons (P_lnk_get (P_s1 (c := 11) (P := fun ci => P_fok P_cl P_Tb "OrchardQueryLaw$Grove" 31 ci 7) rfl ⟨_, _, _, "OrchardQueryLaw$Grove", rfl, by decide, (Or.inl rfl), (Or.inl w_4_207)⟩)) <|
  P_all_cons (P_lnk_vi (P_vall (l := P_v1) rfl (P_all_cons (show P_vok _ _ _ 11 182 from ⟨_, rfl, rfl, w_1_1, w_5_12, (Or.inl ⟨P_sg 1 rfl, w_5_13, (Or.inl w_5_27)⟩)⟩) (P_all_nil)))) <|
  P_all_cons (P_lnk_get (P_s1 (c := 11) (P := fun ci => P_fok P_cl P_Tb "OrchardQueryLaw$Grove" 21 ci 4) rfl ⟨_, _, _, "OrchardQueryLaw$Grove", rfl, by decide, (Or.inl rfl), (Or.inl w_4_203)⟩)) <|
  P_all_cons (P_lnk_get (P_s1 (c := 11) (P := fun ci => P_fok P_cl P_Tb "OrchardQueryLaw$Grove" 31 ci 7) rfl ⟨_, _, _, "OrchardQueryLaw$Grove", rfl, by decide, (Or.inl rfl), (Or.inl w_4_207)⟩)) <|
  P_all_cons (P_lnk_vi (P_vall (l := P_v1) rfl (P_all_cons (show P_vok _ _ _ 11 182 from ⟨_, rfl, rfl, w_1_1, w_5_12, (Or.inl ⟨P_sg 1 rfl, w_5_13, (Or.inl w_5_27)⟩)⟩) (P_all_nil)))) <|
  P_all_nil
set_option maxRecDepth 20000 in
theorem P_m191 : P_mstC 191 2 (Option.some Jvm.ClassFile.FieldType.int) P_e191 [] := P_meth (mx := 2) (rt := (Option.some Jvm.ClassFile.FieldType.int)) (hs := []) "OrchardQueryLaw$Grove" false prog_14_method_11_code [] rfl rfl rfl rfl (by decide +kernel) (by decide +kernel) (fun _ => P_g191) (by decide) (fun _ _ => by decide +kernel) (fun q => by cases q) (P_all_cons (by decide +kernel) <| P_all_cons (by decide +kernel) <| P_all_nil) P_l191 (by decide +kernel) P_k191 (fun _ _ => P_hok_nil)
/-- OrchardQueryLaw$Grove.write()Z -/
def P_l192 : List (Nat × P_I) := [(1, .getfield 10, 4, 11, 0, [], []), (4, .invokevirtual 118, 7, 0, 162, [], []), (8, .getfield 25, 11, 11, 5, [], []), (19, .newarray .int, 21, 0, 0, [], []), (21, .putfield 25, 24, 11, 5, [], []), (26, .newarray .int, 28, 0, 0, [], []), (28, .putfield 31, 31, 11, 7, [], []), (33, .invokevirtual 74, 36, 1, 1, [], []), (45, .invokevirtual 74, 48, 1, 1, [], []), (55, .getfield 31, 58, 11, 7, [], []), (60, .getfield 18, 63, 11, 3, [], []), (64, .invokevirtual 74, 67, 1, 1, [], []), (67, .invokestatic 78, 70, 2, 183, [], []), (70, .putfield 31, 73, 11, 7, [], []), (81, .newarray .int, 83, 0, 0, [], []), (83, .putfield 28, 86, 11, 6, [], []), (88, .invokevirtual 74, 91, 1, 1, [], []), (102, .invokevirtual 121, 105, 1, 163, [], []), (112, .invokevirtual 74, 115, 1, 1, [], []), (126, .invokevirtual 74, 129, 1, 1, [], []), (135, .invokevirtual 123, 138, 0, 164, [], []), (142, .getfield 28, 145, 11, 6, [], []), (168, .invokestatic 78, 171, 2, 183, [], []), (171, .putfield 28, 174, 11, 6, [], []), (182, .invokevirtual 121, 185, 1, 163, [], []), (196, .invokevirtual 121, 199, 1, 163, [], []), (210, .invokevirtual 121, 213, 1, 163, [], []), (226, .invokevirtual 121, 229, 1, 163, [], []), (235, .getfield 31, 238, 11, 7, [], []), (263, .invokevirtual 121, 266, 1, 163, [], []), (279, .anewarray 44, 282, 0, 200, [], []), (282, .putfield 45, 285, 11, 11, [], []), (288, .invokevirtual 74, 291, 1, 1, [], []), (300, .newarray .int, 302, 0, 0, [], []), (305, .invokevirtual 123, 308, 0, 164, [], []), (315, .invokevirtual 74, 318, 1, 1, [], []), (327, .invokevirtual 74, 330, 1, 1, [], []), (336, .invokevirtual 74, 339, 1, 1, [], []), (343, .invokevirtual 123, 346, 0, 164, [], []), (354, .invokevirtual 74, 357, 1, 1, [], []), (362, .getfield 31, 365, 11, 7, [], []), (373, .getfield 45, 376, 11, 11, [], []), (379, .invokestatic 85, 382, 3, 184, [], []), (382, .putfield 45, 385, 11, 11, [], []), (395, .invokevirtual 121, 398, 1, 163, [], []), (406, .invokevirtual 121, 409, 1, 163, [], []), (417, .invokevirtual 121, 420, 1, 163, [], []), (428, .invokevirtual 121, 431, 1, 163, [], []), (449, .invokevirtual 74, 452, 1, 1, [], []), (456, .invokevirtual 123, 459, 0, 164, [], []), (463, .putfield 34, 466, 11, 8, [], []), (469, .invokevirtual 74, 472, 1, 1, [], []), (477, .getfield 28, 480, 11, 6, [], []), (481, .invokevirtual 74, 484, 1, 1, [], []), (488, .putfield 38, 491, 11, 9, [], []), (494, .invokevirtual 74, 497, 1, 1, [], []), (503, .invokevirtual 74, 506, 1, 1, [], []), (510, .putfield 41, 513, 11, 10, [], []), (514, .getfield 34, 517, 11, 8, [], []), (522, .invokevirtual 121, 525, 1, 163, [], []), (530, .getfield 34, 533, 11, 8, [], []), (533, .invokevirtual 121, 536, 1, 163, [], []), (540, .getfield 38, 543, 11, 9, [], []), (548, .invokevirtual 121, 551, 1, 163, [], []), (559, .getfield 38, 562, 11, 9, [], []), (563, .invokevirtual 121, 566, 1, 163, [], []), (570, .getfield 41, 573, 11, 10, [], []), (579, .invokevirtual 121, 582, 1, 163, [], []), (590, .getfield 41, 593, 11, 10, [], []), (594, .invokevirtual 121, 597, 1, 163, [], []), (603, .invokevirtual 126, 606, 0, 165, [], [])]
set_option maxRecDepth 20000 in
theorem P_k192 : ∀ q ∈ P_l192, P_lnk P_cl P_aty P_stat P_tx P_N0 P_Tb P_Y0 "OrchardQueryLaw$Grove" false prog_14_method_12_code [] q.1 q.2.1 q.2.2.2.1 q.2.2.2.2.1 :=
  P_all_cons (P_lnk_get (P_s1 (c := 11) (P := fun ci => P_fok P_cl P_Tb "OrchardQueryLaw$Grove" 10 ci 0) rfl ⟨_, _, _, "OrchardQueryLaw$Grove", rfl, by decide, (Or.inl rfl), (Or.inl w_4_197)⟩)) <|
  P_all_cons (P_lnk_vi (P_vall (l := P_v162) rfl (P_all_cons (show P_vok _ _ _ 10 142 from ⟨_, rfl, rfl, w_1_2, w_5_114, (Or.inl ⟨P_sg 0 rfl, w_5_115, (Or.inl w_5_113)⟩)⟩) (P_all_nil)))) <|
  P_all_cons (P_lnk_get (P_s1 (c := 11) (P := fun ci => P_fok P_cl P_Tb "OrchardQueryLaw$Grove" 25 ci 5) rfl ⟨_, _, _, "OrchardQueryLaw$Grove", rfl, by decide, (Or.inl rfl), (Or.inl w_4_204)⟩)) <|
  P_all_cons (P_lnk_nwa rfl w_3_158) <|
  P_all_cons (P_lnk_put (P_s1 (c := 11) (P := fun ci => P_pok P_cl P_Tb "OrchardQueryLaw$Grove" false 25 ci 5) rfl ⟨_, _, _, "OrchardQueryLaw$Grove", rfl, by decide, (Or.inl rfl), (Or.inl ⟨w_4_204, (Or.inl rfl)⟩)⟩)) <|
  P_all_cons (P_lnk_nwa rfl w_3_158) <|
  P_all_cons (P_lnk_put (P_s1 (c := 11) (P := fun ci => P_pok P_cl P_Tb "OrchardQueryLaw$Grove" false 31 ci 7) rfl ⟨_, _, _, "OrchardQueryLaw$Grove", rfl, by decide, (Or.inl rfl), (Or.inl ⟨w_4_207, (Or.inl rfl)⟩)⟩)) <|
  P_all_cons (P_lnk_vi (P_vall (l := P_v1) rfl (P_all_cons (show P_vok _ _ _ 11 182 from ⟨_, rfl, rfl, w_1_1, w_5_12, (Or.inl ⟨P_sg 1 rfl, w_5_13, (Or.inl w_5_27)⟩)⟩) (P_all_nil)))) <|
  P_all_cons (P_lnk_vi (P_vall (l := P_v1) rfl (P_all_cons (show P_vok _ _ _ 11 182 from ⟨_, rfl, rfl, w_1_1, w_5_12, (Or.inl ⟨P_sg 1 rfl, w_5_13, (Or.inl w_5_27)⟩)⟩) (P_all_nil)))) <|
  P_all_cons (P_lnk_get (P_s1 (c := 11) (P := fun ci => P_fok P_cl P_Tb "OrchardQueryLaw$Grove" 31 ci 7) rfl ⟨_, _, _, "OrchardQueryLaw$Grove", rfl, by decide, (Or.inl rfl), (Or.inl w_4_207)⟩)) <|
  P_all_cons (P_lnk_get (P_s1 (c := 11) (P := fun ci => P_fok P_cl P_Tb "OrchardQueryLaw$Grove" 18 ci 3) rfl ⟨_, _, _, "OrchardQueryLaw$Grove", rfl, by decide, (Or.inl rfl), (Or.inl w_4_201)⟩)) <|
  P_all_cons (P_lnk_vi (P_vall (l := P_v1) rfl (P_all_cons (show P_vok _ _ _ 11 182 from ⟨_, rfl, rfl, w_1_1, w_5_12, (Or.inl ⟨P_sg 1 rfl, w_5_13, (Or.inl w_5_27)⟩)⟩) (P_all_nil)))) <|
  P_all_cons (P_lnk_st (by decide) (fun _ => ⟨P_sg 2 rfl, w_1_1, w_5_71, (Or.inl w_5_70)⟩)) <|
  P_all_cons (P_lnk_put (P_s1 (c := 11) (P := fun ci => P_pok P_cl P_Tb "OrchardQueryLaw$Grove" false 31 ci 7) rfl ⟨_, _, _, "OrchardQueryLaw$Grove", rfl, by decide, (Or.inl rfl), (Or.inl ⟨w_4_207, (Or.inl rfl)⟩)⟩)) <|
  P_all_cons (P_lnk_nwa rfl w_3_158) <|
  P_all_cons (P_lnk_put (P_s1 (c := 11) (P := fun ci => P_pok P_cl P_Tb "OrchardQueryLaw$Grove" false 28 ci 6) rfl ⟨_, _, _, "OrchardQueryLaw$Grove", rfl, by decide, (Or.inl rfl), (Or.inl ⟨w_4_205, (Or.inl rfl)⟩)⟩)) <|
  P_all_cons (P_lnk_vi (P_vall (l := P_v1) rfl (P_all_cons (show P_vok _ _ _ 11 182 from ⟨_, rfl, rfl, w_1_1, w_5_12, (Or.inl ⟨P_sg 1 rfl, w_5_13, (Or.inl w_5_27)⟩)⟩) (P_all_nil)))) <|
  P_all_cons (P_lnk_vi (P_vall (l := P_v163) rfl (P_all_cons (show P_vok _ _ _ 11 190 from ⟨_, rfl, rfl, w_1_1, w_5_127, (Or.inl ⟨P_sg 1 rfl, w_p_19, (Or.inl w_5_125)⟩)⟩) (P_all_nil)))) <|
  P_all_cons (P_lnk_vi (P_vall (l := P_v1) rfl (P_all_cons (show P_vok _ _ _ 11 182 from ⟨_, rfl, rfl, w_1_1, w_5_12, (Or.inl ⟨P_sg 1 rfl, w_5_13, (Or.inl w_5_27)⟩)⟩) (P_all_nil)))) <|
  P_all_cons (P_lnk_vi (P_vall (l := P_v1) rfl (P_all_cons (show P_vok _ _ _ 11 182 from ⟨_, rfl, rfl, w_1_1, w_5_12, (Or.inl ⟨P_sg 1 rfl, w_5_13, (Or.inl w_5_27)⟩)⟩) (P_all_nil)))) <|
  P_all_cons (P_lnk_vi (P_vall (l := P_v164) rfl (P_all_cons (show P_vok _ _ _ 11 191 from ⟨_, rfl, rfl, w_1_1, w_5_150, (Or.inl ⟨P_sg 0 rfl, w_p_20, (Or.inl w_5_148)⟩)⟩) (P_all_nil)))) <|
  P_all_cons (P_lnk_get (P_s1 (c := 11) (P := fun ci => P_fok P_cl P_Tb "OrchardQueryLaw$Grove" 28 ci 6) rfl ⟨_, _, _, "OrchardQueryLaw$Grove", rfl, by decide, (Or.inl rfl), (Or.inl w_4_205)⟩)) <|
  P_all_cons (P_lnk_st (by decide) (fun _ => ⟨P_sg 2 rfl, w_1_1, w_5_71, (Or.inl w_5_70)⟩)) <|
  P_all_cons (P_lnk_put (P_s1 (c := 11) (P := fun ci => P_pok P_cl P_Tb "OrchardQueryLaw$Grove" false 28 ci 6) rfl ⟨_, _, _, "OrchardQueryLaw$Grove", rfl, by decide, (Or.inl rfl), (Or.inl ⟨w_4_205, (Or.inl rfl)⟩)⟩)) <|
  P_all_cons (P_lnk_vi (P_vall (l := P_v163) rfl (P_all_cons (show P_vok _ _ _ 11 190 from ⟨_, rfl, rfl, w_1_1, w_5_127, (Or.inl ⟨P_sg 1 rfl, w_p_19, (Or.inl w_5_125)⟩)⟩) (P_all_nil)))) <|
  P_all_cons (P_lnk_vi (P_vall (l := P_v163) rfl (P_all_cons (show P_vok _ _ _ 11 190 from ⟨_, rfl, rfl, w_1_1, w_5_127, (Or.inl ⟨P_sg 1 rfl, w_p_19, (Or.inl w_5_125)⟩)⟩) (P_all_nil)))) <|
  P_all_cons (P_lnk_vi (P_vall (l := P_v163) rfl (P_all_cons (show P_vok _ _ _ 11 190 from ⟨_, rfl, rfl, w_1_1, w_5_127, (Or.inl ⟨P_sg 1 rfl, w_p_19, (Or.inl w_5_125)⟩)⟩) (P_all_nil)))) <|
  P_all_cons (P_lnk_vi (P_vall (l := P_v163) rfl (P_all_cons (show P_vok _ _ _ 11 190 from ⟨_, rfl, rfl, w_1_1, w_5_127, (Or.inl ⟨P_sg 1 rfl, w_p_19, (Or.inl w_5_125)⟩)⟩) (P_all_nil)))) <|
  P_all_cons (P_lnk_get (P_s1 (c := 11) (P := fun ci => P_fok P_cl P_Tb "OrchardQueryLaw$Grove" 31 ci 7) rfl ⟨_, _, _, "OrchardQueryLaw$Grove", rfl, by decide, (Or.inl rfl), (Or.inl w_4_207)⟩)) <|
  P_all_cons (P_lnk_vi (P_vall (l := P_v163) rfl (P_all_cons (show P_vok _ _ _ 11 190 from ⟨_, rfl, rfl, w_1_1, w_5_127, (Or.inl ⟨P_sg 1 rfl, w_p_19, (Or.inl w_5_125)⟩)⟩) (P_all_nil)))) <|
  P_all_cons (P_lnk_anr (t := .int) rfl w_4_196 w_4_195) <|
  P_all_cons (P_lnk_put (P_s1 (c := 11) (P := fun ci => P_pok P_cl P_Tb "OrchardQueryLaw$Grove" false 45 ci 11) rfl ⟨_, _, _, "OrchardQueryLaw$Grove", rfl, by decide, (Or.inl rfl), (Or.inl ⟨w_4_215, (Or.inl rfl)⟩)⟩)) <|
  P_all_cons (P_lnk_vi (P_vall (l := P_v1) rfl (P_all_cons (show P_vok _ _ _ 11 182 from ⟨_, rfl, rfl, w_1_1, w_5_12, (Or.inl ⟨P_sg 1 rfl, w_5_13, (Or.inl w_5_27)⟩)⟩) (P_all_nil)))) <|
  P_all_cons (P_lnk_nwa rfl w_3_158) <|
  P_all_cons (P_lnk_vi (P_vall (l := P_v164) rfl (P_all_cons (show P_vok _ _ _ 11 191 from ⟨_, rfl, rfl, w_1_1, w_5_150, (Or.inl ⟨P_sg 0 rfl, w_p_20, (Or.inl w_5_148)⟩)⟩) (P_all_nil)))) <|
  P_all_cons (P_lnk_vi (P_vall (l := P_v1) rfl (P_all_cons (show P_vok _ _ _ 11 182 from ⟨_, rfl, rfl, w_1_1, w_5_12, (Or.inl ⟨P_sg 1 rfl, w_5_13, (Or.inl w_5_27)⟩)⟩) (P_all_nil)))) <|
  P_all_cons (P_lnk_vi (P_vall (l := P_v1) rfl (P_all_cons (show P_vok _ _ _ 11 182 from ⟨_, rfl, rfl, w_1_1, w_5_12, (Or.inl ⟨P_sg 1 rfl, w_5_13, (Or.inl w_5_27)⟩)⟩) (P_all_nil)))) <|
  P_all_cons (P_lnk_vi (P_vall (l := P_v1) rfl (P_all_cons (show P_vok _ _ _ 11 182 from ⟨_, rfl, rfl, w_1_1, w_5_12, (Or.inl ⟨P_sg 1 rfl, w_5_13, (Or.inl w_5_27)⟩)⟩) (P_all_nil)))) <|
  P_all_cons (P_lnk_vi (P_vall (l := P_v164) rfl (P_all_cons (show P_vok _ _ _ 11 191 from ⟨_, rfl, rfl, w_1_1, w_5_150, (Or.inl ⟨P_sg 0 rfl, w_p_20, (Or.inl w_5_148)⟩)⟩) (P_all_nil)))) <|
  P_all_cons (P_lnk_vi (P_vall (l := P_v1) rfl (P_all_cons (show P_vok _ _ _ 11 182 from ⟨_, rfl, rfl, w_1_1, w_5_12, (Or.inl ⟨P_sg 1 rfl, w_5_13, (Or.inl w_5_27)⟩)⟩) (P_all_nil)))) <|
  P_all_cons (P_lnk_get (P_s1 (c := 11) (P := fun ci => P_fok P_cl P_Tb "OrchardQueryLaw$Grove" 31 ci 7) rfl ⟨_, _, _, "OrchardQueryLaw$Grove", rfl, by decide, (Or.inl rfl), (Or.inl w_4_207)⟩)) <|
  P_all_cons (P_lnk_get (P_s1 (c := 11) (P := fun ci => P_fok P_cl P_Tb "OrchardQueryLaw$Grove" 45 ci 11) rfl ⟨_, _, _, "OrchardQueryLaw$Grove", rfl, by decide, (Or.inl rfl), (Or.inl w_4_215)⟩)) <|
  P_all_cons (P_lnk_st (by decide) (fun _ => ⟨P_sg 3 rfl, w_1_1, w_5_88, (Or.inl w_5_87)⟩)) <|
  P_all_cons (P_lnk_put (P_s1 (c := 11) (P := fun ci => P_pok P_cl P_Tb "OrchardQueryLaw$Grove" false 45 ci 11) rfl ⟨_, _, _, "OrchardQueryLaw$Grove", rfl, by decide, (Or.inl rfl), (Or.inl ⟨w_4_215, (Or.inl rfl)⟩)⟩)) <|
  P_all_cons (P_lnk_vi (P_vall (l := P_v163) rfl (P_all_cons (show P_vok _ _ _ 11 190 from ⟨_, rfl, rfl, w_1_1, w_5_127, (Or.inl ⟨P_sg 1 rfl, w_p_19, (Or.inl w_5_125)⟩)⟩) (P_all_nil)))) <|
  P_all_cons (P_lnk_vi (P_vall (l := P_v163) rfl (P_all_cons (show P_vok _ _ _ 11 190 from ⟨_, rfl, rfl, w_1_1, w_5_127, (Or.inl ⟨P_sg 1 rfl, w_p_19, (Or.inl w_5_125)⟩)⟩) (P_all_nil)))) <|
  P_all_cons (P_lnk_vi (P_vall (l := P_v163) rfl (P_all_cons (show P_vok _ _ _ 11 190 from ⟨_, rfl, rfl, w_1_1, w_5_127, (Or.inl ⟨P_sg 1 rfl, w_p_19, (Or.inl w_5_125)⟩)⟩) (P_all_nil)))) <|
  P_all_cons (P_lnk_vi (P_vall (l := P_v163) rfl (P_all_cons (show P_vok _ _ _ 11 190 from ⟨_, rfl, rfl, w_1_1, w_5_127, (Or.inl ⟨P_sg 1 rfl, w_p_19, (Or.inl w_5_125)⟩)⟩) (P_all_nil)))) <|
  P_all_cons (P_lnk_vi (P_vall (l := P_v1) rfl (P_all_cons (show P_vok _ _ _ 11 182 from ⟨_, rfl, rfl, w_1_1, w_5_12, (Or.inl ⟨P_sg 1 rfl, w_5_13, (Or.inl w_5_27)⟩)⟩) (P_all_nil)))) <|
  P_all_cons (P_lnk_vi (P_vall (l := P_v164) rfl (P_all_cons (show P_vok _ _ _ 11 191 from ⟨_, rfl, rfl, w_1_1, w_5_150, (Or.inl ⟨P_sg 0 rfl, w_p_20, (Or.inl w_5_148)⟩)⟩) (P_all_nil)))) <|
  P_all_cons (P_lnk_put (P_s1 (c := 11) (P := fun ci => P_pok P_cl P_Tb "OrchardQueryLaw$Grove" false 34 ci 8) rfl ⟨_, _, _, "OrchardQueryLaw$Grove", rfl, by decide, (Or.inl rfl), (Or.inl ⟨w_4_209, (Or.inl rfl)⟩)⟩)) <|
  P_all_cons (P_lnk_vi (P_vall (l := P_v1) rfl (P_all_cons (show P_vok _ _ _ 11 182 from ⟨_, rfl, rfl, w_1_1, w_5_12, (Or.inl ⟨P_sg 1 rfl, w_5_13, (Or.inl w_5_27)⟩)⟩) (P_all_nil)))) <|
  P_all_cons (P_lnk_get (P_s1 (c := 11) (P := fun ci => P_fok P_cl P_Tb "OrchardQueryLaw$Grove" 28 ci 6) rfl ⟨_, _, _, "OrchardQueryLaw$Grove", rfl, by decide, (Or.inl rfl), (Or.inl w_4_205)⟩)) <|
  P_all_cons (P_lnk_vi (P_vall (l := P_v1) rfl (P_all_cons (show P_vok _ _ _ 11 182 from ⟨_, rfl, rfl, w_1_1, w_5_12, (Or.inl ⟨P_sg 1 rfl, w_5_13, (Or.inl w_5_27)⟩)⟩) (P_all_nil)))) <|
  P_all_cons (P_lnk_put (P_s1 (c := 11) (P := fun ci => P_pok P_cl P_Tb "OrchardQueryLaw$Grove" false 38 ci 9) rfl ⟨_, _, _, "OrchardQueryLaw$Grove", rfl, by decide, (Or.inl rfl), (Or.inl ⟨w_4_211, (Or.inl rfl)⟩)⟩)) <|
  P_all_cons (P_lnk_vi (P_vall (l := P_v1) rfl (P_all_cons (show P_vok _ _ _ 11 182 from ⟨_, rfl, rfl, w_1_1, w_5_12, (Or.inl ⟨P_sg 1 rfl, w_5_13, (Or.inl w_5_27)⟩)⟩) (P_all_nil)))) <|
  P_all_cons (P_lnk_vi (P_vall (l := P_v1) rfl (P_all_cons (show P_vok _ _ _ 11 182 from ⟨_, rfl, rfl, w_1_1, w_5_12, (Or.inl ⟨P_sg 1 rfl, w_5_13, (Or.inl w_5_27)⟩)⟩) (P_all_nil)))) <|
  P_all_cons (P_lnk_put (P_s1 (c := 11) (P := fun ci => P_pok P_cl P_Tb "OrchardQueryLaw$Grove" false 41 ci 10) rfl ⟨_, _, _, "OrchardQueryLaw$Grove", rfl, by decide, (Or.inl rfl), (Or.inl ⟨w_4_213, (Or.inl rfl)⟩)⟩)) <|
  P_all_cons (P_lnk_get (P_s1 (c := 11) (P := fun ci => P_fok P_cl P_Tb "OrchardQueryLaw$Grove" 34 ci 8) rfl ⟨_, _, _, "OrchardQueryLaw$Grove", rfl, by decide, (Or.inl rfl), (Or.inl w_4_209)⟩)) <|
  P_all_cons (P_lnk_vi (P_vall (l := P_v163) rfl (P_all_cons (show P_vok _ _ _ 11 190 from ⟨_, rfl, rfl, w_1_1, w_5_127, (Or.inl ⟨P_sg 1 rfl, w_p_19, (Or.inl w_5_125)⟩)⟩) (P_all_nil)))) <|
  P_all_cons (P_lnk_get (P_s1 (c := 11) (P := fun ci => P_fok P_cl P_Tb "OrchardQueryLaw$Grove" 34 ci 8) rfl ⟨_, _, _, "OrchardQueryLaw$Grove", rfl, by decide, (Or.inl rfl), (Or.inl w_4_209)⟩)) <|
  P_all_cons (P_lnk_vi (P_vall (l := P_v163) rfl (P_all_cons (show P_vok _ _ _ 11 190 from ⟨_, rfl, rfl, w_1_1, w_5_127, (Or.inl ⟨P_sg 1 rfl, w_p_19, (Or.inl w_5_125)⟩)⟩) (P_all_nil)))) <|
  P_all_cons (P_lnk_get (P_s1 (c := 11) (P := fun ci => P_fok P_cl P_Tb "OrchardQueryLaw$Grove" 38 ci 9) rfl ⟨_, _, _, "OrchardQueryLaw$Grove", rfl, by decide, (Or.inl rfl), (Or.inl w_4_211)⟩)) <|
  P_all_cons (P_lnk_vi (P_vall (l := P_v163) rfl (P_all_cons (show P_vok _ _ _ 11 190 from ⟨_, rfl, rfl, w_1_1, w_5_127, (Or.inl ⟨P_sg 1 rfl, w_p_19, (Or.inl w_5_125)⟩)⟩) (P_all_nil)))) <|
  P_all_cons (P_lnk_get (P_s1 (c := 11) (P := fun ci => P_fok P_cl P_Tb "OrchardQueryLaw$Grove" 38 ci 9) rfl ⟨_, _, _, "OrchardQueryLaw$Grove", rfl, by decide, (Or.inl rfl), (Or.inl w_4_211)⟩)) <|
  P_all_cons (P_lnk_vi (P_vall (l := P_v163) rfl (P_all_cons (show P_vok _ _ _ 11 190 from ⟨_, rfl, rfl, w_1_1, w_5_127, (Or.inl ⟨P_sg 1 rfl, w_p_19, (Or.inl w_5_125)⟩)⟩) (P_all_nil)))) <|
  P_all_cons (P_lnk_get (P_s1 (c := 11) (P := fun ci => P_fok P_cl P_Tb "OrchardQueryLaw$Grove" 41 ci 10) rfl ⟨_, _, _, "OrchardQueryLaw$Grove", rfl, by decide, (Or.inl rfl), (Or.inl w_4_213)⟩)) <|
  P_all_cons (P_lnk_vi (P_vall (l := P_v163) rfl (P_all_cons (show P_vok _ _ _ 11 190 from ⟨_, rfl, rfl, w_1_1, w_5_127, (Or.inl ⟨P_sg 1 rfl, w_p_19, (Or.inl w_5_125)⟩)⟩) (P_all_nil)))) <|
  P_all_cons (P_lnk_get (P_s1 (c := 11) (P := fun ci => P_fok P_cl P_Tb "OrchardQueryLaw$Grove" 41 ci 10) rfl ⟨_, _, _, "OrchardQueryLaw$Grove", rfl, by decide, (Or.inl rfl), (Or.inl w_4_213)⟩)) <|
  P_all_cons (P_lnk_vi (P_vall (l := P_v163) rfl (P_all_cons (show P_vok _ _ _ 11 190 from ⟨_, rfl, rfl, w_1_1, w_5_127, (Or.inl ⟨P_sg 1 rfl, w_p_19, (Or.inl w_5_125)⟩)⟩) (P_all_nil)))) <|
  P_all_cons (P_lnk_vi (P_vall (l := P_v165) rfl (P_all_cons (show P_vok _ _ _ 11 193 from ⟨_, rfl, rfl, w_1_1, w_5_153, (Or.inl ⟨P_sg 0 rfl, w_5_154, (Or.inl w_5_152)⟩)⟩) (P_all_nil)))) <|
  P_all_nil
set_option maxRecDepth 20000 in
theorem P_m192 : P_mstC 192 6 (Option.some Jvm.ClassFile.FieldType.boolean) P_e192 [] := P_meth (mx := 6) (rt := (Option.some Jvm.ClassFile.FieldType.boolean)) (hs := []) "OrchardQueryLaw$Grove" false prog_14_method_12_code [] rfl rfl rfl rfl (by decide +kernel) (by decide +kernel) (fun _ => P_g192) (by decide) (fun _ _ => by decide +kernel) (fun q => by cases q) (P_all_cons (by decide +kernel) <| P_all_cons (by decide +kernel) <| P_all_cons (by decide +kernel) <| P_all_cons (by decide +kernel) <| P_all_cons (by decide +kernel) <| P_all_cons (by decide +kernel) <| P_all_cons (by decide +kernel) <| P_all_cons (by decide +kernel) <| P_all_cons (by decide +kernel) <| P_all_cons (by decide +kernel) <| P_all_cons (by decide +kernel) <| P_all_cons (by decide +kernel) <| P_all_cons (by decide +kernel) <| P_all_cons (by decide +kernel) <| P_all_cons (by decide +kernel) <| P_all_cons (by decide +kernel) <| P_all_cons (by decide +kernel) <| P_all_cons (by decide +kernel) <| P_all_cons (by decide +kernel) <| P_all_nil) P_l192 (by decide +kernel) P_k192 (fun _ _ => P_hok_nil)
