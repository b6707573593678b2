/-! TABLES of this claim, written by wip/gen.py: methods -/
/-- OrchardQuery.read()I -/
def P_l144 : List (Nat × P_I) := [(1, .getfield 37, 4, 10, 1, [], []), (4, .invokevirtual 148, 7, 0, 137, [], []), (9, .invokevirtual 116, 12, 0, 132, [], [])]
set_option maxRecDepth 20000 in
theorem P_k144 : ∀ q ∈ P_l144, P_lnk P_cl P_aty P_stat P_tx P_N0 P_Tb P_Y0 "OrchardQuery" false prog_1_method_8_code [] q.1 q.2.1 q.2.2.2.1 q.2.2.2.2.1 :=
  P_all_cons (P_lnk_get (P_s1 (c := 10) (P := fun ci => P_fok P_cl P_Tb "OrchardQuery" 37 ci 1) rfl ⟨_, _, _, "OrchardQuery", rfl, by decide, (Or.inl rfl), (Or.inl w_2_72)⟩)) <|
  P_all_cons (P_lnk_vi (P_vall (l := P_v137) rfl (P_all_cons (show P_vok _ _ _ 7 97 from ⟨_, rfl, rfl, w_1_7, w_2_126, (Or.inl ⟨P_sg 0 rfl, w_2_127, (Or.inl w_2_125)⟩)⟩) (P_all_nil)))) <|
  P_all_cons (P_lnk_vi (P_vall (l := P_v132) rfl (P_all_cons (show P_vok _ _ _ 10 170 from ⟨_, rfl, rfl, w_1_1, w_2_111, (Or.inl ⟨P_sg 0 rfl, w_p_1, (Or.inl w_2_109)⟩)⟩) (P_all_nil)))) <|
  P_all_nil
set_option maxRecDepth 20000 in
theorem P_m144 : P_mst 144 2 (Option.some Jvm.ClassFile.FieldType.int) P_e144 [] := P_meth (mx := 2) (rt := (Option.some Jvm.ClassFile.FieldType.int)) (hs := []) "OrchardQuery" false prog_1_method_8_code [] rfl rfl rfl rfl (by decide +kernel) (by decide +kernel) (fun _ => P_g144) (by decide) (fun _ _ => by decide +kernel) (fun q => by cases q) (P_all_cons (by decide +kernel) <| P_all_nil) P_l144 (by decide +kernel) P_k144 (fun _ _ => P_hok_nil)
/-- OrchardQuery.faultAt()I -/
def P_l145 : List (Nat × P_I) := [(1, .getfield 37, 4, 10, 1, [], []), (4, .invokevirtual 151, 7, 0, 138, [], [])]
set_option maxRecDepth 20000 in
theorem P_k145 : ∀ q ∈ P_l145, P_lnk P_cl P_aty P_stat P_tx P_N0 P_Tb P_Y0 "OrchardQuery" false prog_1_method_9_code [] q.1 q.2.1 q.2.2.2.1 q.2.2.2.2.1 :=
  P_all_cons (P_lnk_get (P_s1 (c := 10) (P := fun ci => P_fok P_cl P_Tb "OrchardQuery" 37 ci 1) rfl ⟨_, _, _, "OrchardQuery", rfl, by decide, (Or.inl rfl), (Or.inl w_2_72)⟩)) <|
  P_all_cons (P_lnk_vi (P_vall (l := P_v138) rfl (P_all_cons (show P_vok _ _ _ 7 93 from ⟨_, rfl, rfl, w_1_7, w_3_68, (Or.inl ⟨P_sg 0 rfl, w_3_69, (Or.inl w_3_67)⟩)⟩) (P_all_nil)))) <|
  P_all_nil
set_option maxRecDepth 20000 in
theorem P_m145 : P_mst 145 1 (Option.some Jvm.ClassFile.FieldType.int) P_e145 [] := P_meth (mx := 1) (rt := (Option.some Jvm.ClassFile.FieldType.int)) (hs := []) "OrchardQuery" false prog_1_method_9_code [] rfl rfl rfl rfl (by decide +kernel) (by decide +kernel) (fun _ => P_g145) (by decide) (fun _ _ => by decide +kernel) (fun q => by cases q) (P_all_cons (by decide +kernel) <| P_all_nil) P_l145 (by decide +kernel) P_k145 (fun _ _ => P_hok_nil)
/-- OrchardQuery.many(I)I -/
def P_l146 : List (Nat × P_I) := [(9, .new 64, 12, 0, 1000, [], []), (21, .invokevirtual 156, 24, 1, 139, [], [])]
set_option maxRecDepth 20000 in
theorem P_k146 : ∀ q ∈ P_l146, P_lnk P_cl P_aty P_stat P_tx P_N0 P_Tb P_Y0 "OrchardQuery" false prog_1_method_10_code [] q.1 q.2.1 q.2.2.2.1 q.2.2.2.2.1 :=
  P_all_cons (P_lnk_thr (by decide) (fun _ => ⟨"what is 0 to 4", 154, 68, P_BB, rfl, rfl, by decide +kernel, by decide +kernel, w_4_122, w_1_17, by decide +kernel, P_at_10_68, by decide +kernel, by decide +kernel, (Or.inl ⟨by decide +kernel, by decide +kernel, by decide +kernel⟩)⟩)) <|
  P_all_cons (P_lnk_vi (P_vall (l := P_v139) rfl (P_all_cons (show P_vok _ _ _ 10 168 from ⟨_, rfl, rfl, w_1_1, w_3_78, (Or.inl ⟨P_sg 1 rfl, w_p_20, (Or.inl w_3_76)⟩)⟩) (P_all_nil)))) <|
  P_all_nil
set_option maxRecDepth 20000 in
theorem P_m146 : P_mst 146 2 (Option.some Jvm.ClassFile.FieldType.int) P_e146 [] := P_meth (mx := 2) (rt := (Option.some Jvm.ClassFile.FieldType.int)) (hs := []) "OrchardQuery" false prog_1_method_10_code [] rfl rfl rfl rfl (by decide +kernel) (by decide +kernel) (fun _ => P_g146) (by decide) (fun _ _ => by decide +kernel) (fun q => by cases q) (P_all_cons (by decide +kernel) <| P_all_nil) P_l146 (by decide +kernel) P_k146 (fun _ _ => P_hok_nil)
/-- OrchardQuery.condition(II)I -/
def P_l147 : List (Nat × P_I) := [(1, .invokevirtual 159, 4, 0, 140, [], []), (5, .getfield 28, 8, 10, 3, [], []), (9, .invokevirtual 162, 12, 1, 141, [], []), (15, .new 88, 18, 0, 1002, [], []), (34, .new 64, 37, 0, 1000, [], []), (45, .getfield 28, 48, 10, 3, [], []), (49, .getfield 28, 52, 10, 3, [], []), (53, .invokevirtual 169, 56, 1, 65, [], []), (57, .invokevirtual 172, 60, 2, 142, [], [])]
set_option maxRecDepth 20000 in
theorem P_k147 : ∀ q ∈ P_l147, P_lnk P_cl P_aty P_stat P_tx P_N0 P_Tb P_Y0 "OrchardQuery" false prog_1_method_11_code [] q.1 q.2.1 q.2.2.2.1 q.2.2.2.2.1 :=
  P_all_cons (P_lnk_vi (P_vall (l := P_v140) rfl (P_all_cons (show P_vok _ _ _ 10 169 from ⟨_, rfl, rfl, w_1_1, w_5_72, (Or.inl ⟨P_sg 0 rfl, w_p_34, (Or.inl w_5_70)⟩)⟩) (P_all_nil)))) <|
  P_all_cons (P_lnk_get (P_s1 (c := 10) (P := fun ci => P_fok P_cl P_Tb "OrchardQuery" 28 ci 3) rfl ⟨_, _, _, "OrchardQuery", rfl, by decide, (Or.inl rfl), (Or.inl w_2_74)⟩)) <|
  P_all_cons (P_lnk_vi (P_vall (l := P_v141) rfl (P_all_cons (show P_vok _ _ _ 5 56 from ⟨_, rfl, rfl, w_1_5, w_5_76, (Or.inl ⟨P_sg 1 rfl, w_5_77, (Or.inl w_5_75)⟩)⟩) (P_all_nil)))) <|
  P_all_cons (P_lnk_thr (by decide) (fun _ => ⟨"no such condition", 165, 92, P_BB, rfl, rfl, by decide +kernel, by decide +kernel, w_4_219, w_1_19, by decide +kernel, P_at_10_92, by decide +kernel, by decide +kernel, (Or.inl ⟨by decide +kernel, by decide +kernel, by decide +kernel⟩)⟩)) <|
  P_all_cons (P_lnk_thr (by decide) (fun _ => ⟨"what is 0 to 5", 167, 68, P_BB, rfl, rfl, by decide +kernel, by decide +kernel, w_4_122, w_1_17, by decide +kernel, P_at_10_68, by decide +kernel, by decide +kernel, (Or.inl ⟨by decide +kernel, by decide +kernel, by decide +kernel⟩)⟩)) <|
  P_all_cons (P_lnk_get (P_s1 (c := 10) (P := fun ci => P_fok P_cl P_Tb "OrchardQuery" 28 ci 3) rfl ⟨_, _, _, "OrchardQuery", rfl, by decide, (Or.inl rfl), (Or.inl w_2_74)⟩)) <|
  P_all_cons (P_lnk_get (P_s1 (c := 10) (P := fun ci => P_fok P_cl P_Tb "OrchardQuery" 28 ci 3) rfl ⟨_, _, _, "OrchardQuery", rfl, by decide, (Or.inl rfl), (Or.inl w_2_74)⟩)) <|
  P_all_cons (P_lnk_vi (P_vall (l := P_v65) rfl (P_all_cons (show P_vok _ _ _ 5 59 from ⟨_, rfl, rfl, w_1_5, w_2_148, (Or.inl ⟨P_sg 1 rfl, w_2_149, (Or.inl w_4_63)⟩)⟩) (P_all_nil)))) <|
  P_all_cons (P_lnk_vi (P_vall (l := P_v142) rfl (P_all_cons (show P_vok _ _ _ 5 62 from ⟨_, rfl, rfl, w_1_5, w_4_65, (Or.inl ⟨P_sg 2 rfl, w_4_66, (Or.inl w_4_64)⟩)⟩) (P_all_nil)))) <|
  P_all_nil
set_option maxRecDepth 20000 in
theorem P_m147 : P_mst 147 3 (Option.some Jvm.ClassFile.FieldType.int) P_e147 [] := P_meth (mx := 3) (rt := (Option.some Jvm.ClassFile.FieldType.int)) (hs := []) "OrchardQuery" false prog_1_method_11_code [] rfl rfl rfl rfl (by decide +kernel) (by decide +kernel) (fun _ => P_g147) (by decide) (fun _ _ => by decide +kernel) (fun q => by cases q) (P_all_cons (by decide +kernel) <| P_all_cons (by decide +kernel) <| P_all_nil) P_l147 (by decide +kernel) P_k147 (fun _ _ => P_hok_nil)
/-- OrchardQuery.rewrite(I)I -/
def P_l148 : List (Nat × P_I) := [(1, .invokevirtual 159, 4, 0, 140, [], []), (13, .new 64, 16, 0, 1000, [], []), (24, .getfield 28, 27, 10, 3, [], []), (28, .invokevirtual 178, 31, 1, 143, [], []), (33, .invokevirtual 116, 36, 0, 132, [], [])]
set_option maxRecDepth 20000 in
theorem P_k148 : ∀ q ∈ P_l148, P_lnk P_cl P_aty P_stat P_tx P_N0 P_Tb P_Y0 "OrchardQuery" false prog_1_method_12_code [] q.1 q.2.1 q.2.2.2.1 q.2.2.2.2.1 :=
  P_all_cons (P_lnk_vi (P_vall (l := P_v140) rfl (P_all_cons (show P_vok _ _ _ 10 169 from ⟨_, rfl, rfl, w_1_1, w_5_72, (Or.inl ⟨P_sg 0 rfl, w_p_34, (Or.inl w_5_70)⟩)⟩) (P_all_nil)))) <|
  P_all_cons (P_lnk_thr (by decide) (fun _ => ⟨"a rule is 0 to 3", 176, 68, P_BB, rfl, rfl, by decide +kernel, by decide +kernel, w_4_122, w_1_17, by decide +kernel, P_at_10_68, by decide +kernel, by decide +kernel, (Or.inl ⟨by decide +kernel, by decide +kernel, by decide +kernel⟩)⟩)) <|
  P_all_cons (P_lnk_get (P_s1 (c := 10) (P := fun ci => P_fok P_cl P_Tb "OrchardQuery" 28 ci 3) rfl ⟨_, _, _, "OrchardQuery", rfl, by decide, (Or.inl rfl), (Or.inl w_2_74)⟩)) <|
  P_all_cons (P_lnk_vi (P_vall (l := P_v143) rfl (P_all_cons (show P_vok _ _ _ 5 70 from ⟨_, rfl, rfl, w_1_5, w_5_90, (Or.inl ⟨P_sg 1 rfl, w_5_91, (Or.inl w_5_89)⟩)⟩) (P_all_nil)))) <|
  P_all_cons (P_lnk_vi (P_vall (l := P_v132) rfl (P_all_cons (show P_vok _ _ _ 10 170 from ⟨_, rfl, rfl, w_1_1, w_2_111, (Or.inl ⟨P_sg 0 rfl, w_p_1, (Or.inl w_2_109)⟩)⟩) (P_all_nil)))) <|
  P_all_nil
set_option maxRecDepth 20000 in
theorem P_m148 : P_mst 148 3 (Option.some Jvm.ClassFile.FieldType.int) P_e148 [] := P_meth (mx := 3) (rt := (Option.some Jvm.ClassFile.FieldType.int)) (hs := []) "OrchardQuery" false prog_1_method_12_code [] rfl rfl rfl rfl (by decide +kernel) (by decide +kernel) (fun _ => P_g148) (by decide) (fun _ _ => by decide +kernel) (fun q => by cases q) (P_all_cons (by decide +kernel) <| P_all_cons (by decide +kernel) <| P_all_nil) P_l148 (by decide +kernel) P_k148 (fun _ _ => P_hok_nil)
/-- OrchardQuery.swap(II)I -/
def P_l149 : List (Nat × P_I) := [(1, .invokevirtual 159, 4, 0, 140, [], []), (5, .getfield 19, 8, 10, 2, [], []), (9, .invokevirtual 181, 12, 1, 144, [], []), (16, .getfield 19, 19, 10, 2, [], []), (20, .invokevirtual 181, 23, 1, 144, [], []), (26, .new 88, 29, 0, 1002, [], []), (37, .getfield 28, 40, 10, 3, [], []), (42, .invokevirtual 186, 45, 2, 145, [], []), (46, .invokevirtual 116, 49, 0, 132, [], []), (50, .getfield 28, 53, 10, 3, [], []), (54, .invokevirtual 190, 57, 1, 74, [], [])]
set_option maxRecDepth 20000 in
theorem P_k149 : ∀ q ∈ P_l149, P_lnk P_cl P_aty P_stat P_tx P_N0 P_Tb P_Y0 "OrchardQuery" false prog_1_method_13_code [] q.1 q.2.1 q.2.2.2.1 q.2.2.2.2.1 :=
  P_all_cons (P_lnk_vi (P_vall (l := P_v140) rfl (P_all_cons (show P_vok _ _ _ 10 169 from ⟨_, rfl, rfl, w_1_1, w_5_72, (Or.inl ⟨P_sg 0 rfl, w_p_34, (Or.inl w_5_70)⟩)⟩) (P_all_nil)))) <|
  P_all_cons (P_lnk_get (P_s1 (c := 10) (P := fun ci => P_fok P_cl P_Tb "OrchardQuery" 19 ci 2) rfl ⟨_, _, _, "OrchardQuery", rfl, by decide, (Or.inl rfl), (Or.inl w_2_73)⟩)) <|
  P_all_cons (P_lnk_vi (P_vall (l := P_v144) rfl (P_all_cons (show P_vok _ _ _ 3 37 from ⟨_, rfl, rfl, w_1_4, w_5_156, (Or.inl ⟨P_sg 1 rfl, w_5_157, (Or.inl w_5_155)⟩)⟩) (P_all_nil)))) <|
  P_all_cons (P_lnk_get (P_s1 (c := 10) (P := fun ci => P_fok P_cl P_Tb "OrchardQuery" 19 ci 2) rfl ⟨_, _, _, "OrchardQuery", rfl, by decide, (Or.inl rfl), (Or.inl w_2_73)⟩)) <|
  P_all_cons (P_lnk_vi (P_vall (l := P_v144) rfl (P_all_cons (show P_vok _ _ _ 3 37 from ⟨_, rfl, rfl, w_1_4, w_5_156, (Or.inl ⟨P_sg 1 rfl, w_5_157, (Or.inl w_5_155)⟩)⟩) (P_all_nil)))) <|
  P_all_cons (P_lnk_thr (by decide) (fun _ => ⟨"no such place", 184, 92, P_BB, rfl, rfl, by decide +kernel, by decide +kernel, w_4_219, w_1_19, by decide +kernel, P_at_10_92, by decide +kernel, by decide +kernel, (Or.inl ⟨by decide +kernel, by decide +kernel, by decide +kernel⟩)⟩)) <|
  P_all_cons (P_lnk_get (P_s1 (c := 10) (P := fun ci => P_fok P_cl P_Tb "OrchardQuery" 28 ci 3) rfl ⟨_, _, _, "OrchardQuery", rfl, by decide, (Or.inl rfl), (Or.inl w_2_74)⟩)) <|
  P_all_cons (P_lnk_vi (P_vall (l := P_v145) rfl (P_all_cons (show P_vok _ _ _ 5 79 from ⟨_, rfl, rfl, w_1_5, w_5_161, (Or.inl ⟨P_sg 2 rfl, w_5_162, (Or.inl w_5_160)⟩)⟩) (P_all_nil)))) <|
  P_all_cons (P_lnk_vi (P_vall (l := P_v132) rfl (P_all_cons (show P_vok _ _ _ 10 170 from ⟨_, rfl, rfl, w_1_1, w_2_111, (Or.inl ⟨P_sg 0 rfl, w_p_1, (Or.inl w_2_109)⟩)⟩) (P_all_nil)))) <|
  P_all_cons (P_lnk_get (P_s1 (c := 10) (P := fun ci => P_fok P_cl P_Tb "OrchardQuery" 28 ci 3) rfl ⟨_, _, _, "OrchardQuery", rfl, by decide, (Or.inl rfl), (Or.inl w_2_74)⟩)) <|
  P_all_cons (P_lnk_vi (P_vall (l := P_v74) rfl (P_all_cons (show P_vok _ _ _ 5 58 from ⟨_, rfl, rfl, w_1_5, w_3_170, (Or.inl ⟨P_sg 1 rfl, w_3_171, (Or.inl w_4_77)⟩)⟩) (P_all_nil)))) <|
  P_all_nil
set_option maxRecDepth 20000 in
theorem P_m149 : P_mst 149 3 (Option.some Jvm.ClassFile.FieldType.int) P_e149 [] := P_meth (mx := 3) (rt := (Option.some Jvm.ClassFile.FieldType.int)) (hs := []) "OrchardQuery" false prog_1_method_13_code [] rfl rfl rfl rfl (by decide +kernel) (by decide +kernel) (fun _ => P_g149) (by decide) (fun _ _ => by decide +kernel) (fun q => by cases q) (P_all_cons (by decide +kernel) <| P_all_cons (by decide +kernel) <| P_all_nil) P_l149 (by decide +kernel) P_k149 (fun _ _ => P_hok_nil)
/-- OrchardQuery.best()J -/
def P_l150 : List (Nat × P_I) := [(1, .invokevirtual 159, 4, 0, 140, [], []), (5, .getfield 28, 8, 10, 3, [], []), (8, .invokevirtual 193, 11, 0, 146, [], []), (13, .invokevirtual 116, 16, 0, 132, [], [])]
set_option maxRecDepth 20000 in
theorem P_k150 : ∀ q ∈ P_l150, P_lnk P_cl P_aty P_stat P_tx P_N0 P_Tb P_Y0 "OrchardQuery" false prog_1_method_14_code [] q.1 q.2.1 q.2.2.2.1 q.2.2.2.2.1 :=
  P_all_cons (P_lnk_vi (P_vall (l := P_v140) rfl (P_all_cons (show P_vok _ _ _ 10 169 from ⟨_, rfl, rfl, w_1_1, w_5_72, (Or.inl ⟨P_sg 0 rfl, w_p_34, (Or.inl w_5_70)⟩)⟩) (P_all_nil)))) <|
  P_all_cons (P_lnk_get (P_s1 (c := 10) (P := fun ci => P_fok P_cl P_Tb "OrchardQuery" 28 ci 3) rfl ⟨_, _, _, "OrchardQuery", rfl, by decide, (Or.inl rfl), (Or.inl w_2_74)⟩)) <|
  P_all_cons (P_lnk_vi (P_vall (l := P_v146) rfl (P_all_cons (show P_vok _ _ _ 5 80 from ⟨_, rfl, rfl, w_1_5, w_5_173, (Or.inl ⟨P_sg 0 rfl, w_5_174, (Or.inl w_5_172)⟩)⟩) (P_all_nil)))) <|
  P_all_cons (P_lnk_vi (P_vall (l := P_v132) rfl (P_all_cons (show P_vok _ _ _ 10 170 from ⟨_, rfl, rfl, w_1_1, w_2_111, (Or.inl ⟨P_sg 0 rfl, w_p_1, (Or.inl w_2_109)⟩)⟩) (P_all_nil)))) <|
  P_all_nil
set_option maxRecDepth 20000 in
theorem P_m150 : P_mst 150 3 (Option.some Jvm.ClassFile.FieldType.long) P_e150 [] := P_meth (mx := 3) (rt := (Option.some Jvm.ClassFile.FieldType.long)) (hs := []) "OrchardQuery" false prog_1_method_14_code [] rfl rfl rfl rfl (by decide +kernel) (by decide +kernel) (fun _ => P_g150) (by decide) (fun _ _ => by decide +kernel) (fun q => by cases q) (P_all_cons (by decide +kernel) <| P_all_nil) P_l150 (by decide +kernel) P_k150 (fun _ _ => P_hok_nil)
/-- OrchardQuery.order(I)I -/
def P_l151 : List (Nat × P_I) := [(1, .invokevirtual 159, 4, 0, 140, [], []), (5, .getfield 19, 8, 10, 2, [], []), (9, .invokevirtual 181, 12, 1, 144, [], []), (15, .new 88, 18, 0, 1002, [], []), (26, .getfield 28, 29, 10, 3, [], []), (30, .invokevirtual 190, 33, 1, 74, [], [])]
set_option maxRecDepth 20000 in
theorem P_k151 : ∀ q ∈ P_l151, P_lnk P_cl P_aty P_stat P_tx P_N0 P_Tb P_Y0 "OrchardQuery" false prog_1_method_15_code [] q.1 q.2.1 q.2.2.2.1 q.2.2.2.2.1 :=
  P_all_cons (P_lnk_vi (P_vall (l := P_v140) rfl (P_all_cons (show P_vok _ _ _ 10 169 from ⟨_, rfl, rfl, w_1_1, w_5_72, (Or.inl ⟨P_sg 0 rfl, w_p_34, (Or.inl w_5_70)⟩)⟩) (P_all_nil)))) <|
  P_all_cons (P_lnk_get (P_s1 (c := 10) (P := fun ci => P_fok P_cl P_Tb "OrchardQuery" 19 ci 2) rfl ⟨_, _, _, "OrchardQuery", rfl, by decide, (Or.inl rfl), (Or.inl w_2_73)⟩)) <|
  P_all_cons (P_lnk_vi (P_vall (l := P_v144) rfl (P_all_cons (show P_vok _ _ _ 3 37 from ⟨_, rfl, rfl, w_1_4, w_5_156, (Or.inl ⟨P_sg 1 rfl, w_5_157, (Or.inl w_5_155)⟩)⟩) (P_all_nil)))) <|
  P_all_cons (P_lnk_thr (by decide) (fun _ => ⟨"no such place", 184, 92, P_BB, rfl, rfl, by decide +kernel, by decide +kernel, w_4_219, w_1_19, by decide +kernel, P_at_10_92, by decide +kernel, by decide +kernel, (Or.inl ⟨by decide +kernel, by decide +kernel, by decide +kernel⟩)⟩)) <|
  P_all_cons (P_lnk_get (P_s1 (c := 10) (P := fun ci => P_fok P_cl P_Tb "OrchardQuery" 28 ci 3) rfl ⟨_, _, _, "OrchardQuery", rfl, by decide, (Or.inl rfl), (Or.inl w_2_74)⟩)) <|
  P_all_cons (P_lnk_vi (P_vall (l := P_v74) rfl (P_all_cons (show P_vok _ _ _ 5 58 from ⟨_, rfl, rfl, w_1_5, w_3_170, (Or.inl ⟨P_sg 1 rfl, w_3_171, (Or.inl w_4_77)⟩)⟩) (P_all_nil)))) <|
  P_all_nil
set_option maxRecDepth 20000 in
theorem P_m151 : P_mst 151 2 (Option.some Jvm.ClassFile.FieldType.int) P_e151 [] := P_meth (mx := 2) (rt := (Option.some Jvm.ClassFile.FieldType.int)) (hs := []) "OrchardQuery" false prog_1_method_15_code [] rfl rfl rfl rfl (by decide +kernel) (by decide +kernel) (fun _ => P_g151) (by decide) (fun _ _ => by decide +kernel) (fun q => by cases q) (P_all_cons (by decide +kernel) <| P_all_cons (by decide +kernel) <| P_all_nil) P_l151 (by decide +kernel) P_k151 (fun _ _ => P_hok_nil)
/-- OrchardQuery.guess(I)J -/
def P_l152 : List (Nat × P_I) := [(1, .invokevirtual 159, 4, 0, 140, [], []), (5, .getfield 19, 8, 10, 2, [], []), (9, .invokevirtual 181, 12, 1, 144, [], []), (15, .new 88, 18, 0, 1002, [], []), (26, .getfield 28, 29, 10, 3, [], []), (30, .invokevirtual 199, 33, 1, 147, [], [])]
set_option maxRecDepth 20000 in
theorem P_k152 : ∀ q ∈ P_l152, P_lnk P_cl P_aty P_stat P_tx P_N0 P_Tb P_Y0 "OrchardQuery" false prog_1_method_16_code [] q.1 q.2.1 q.2.2.2.1 q.2.2.2.2.1 :=
  P_all_cons (P_lnk_vi (P_vall (l := P_v140) rfl (P_all_cons (show P_vok _ _ _ 10 169 from ⟨_, rfl, rfl, w_1_1, w_5_72, (Or.inl ⟨P_sg 0 rfl, w_p_34, (Or.inl w_5_70)⟩)⟩) (P_all_nil)))) <|
  P_all_cons (P_lnk_get (P_s1 (c := 10) (P := fun ci => P_fok P_cl P_Tb "OrchardQuery" 19 ci 2) rfl ⟨_, _, _, "OrchardQuery", rfl, by decide, (Or.inl rfl), (Or.inl w_2_73)⟩)) <|
  P_all_cons (P_lnk_vi (P_vall (l := P_v144) rfl (P_all_cons (show P_vok _ _ _ 3 37 from ⟨_, rfl, rfl, w_1_4, w_5_156, (Or.inl ⟨P_sg 1 rfl, w_5_157, (Or.inl w_5_155)⟩)⟩) (P_all_nil)))) <|
  P_all_cons (P_lnk_thr (by decide) (fun _ => ⟨"no such level", 197, 92, P_BB, rfl, rfl, by decide +kernel, by decide +kernel, w_4_219, w_1_19, by decide +kernel, P_at_10_92, by decide +kernel, by decide +kernel, (Or.inl ⟨by decide +kernel, by decide +kernel, by decide +kernel⟩)⟩)) <|
  P_all_cons (P_lnk_get (P_s1 (c := 10) (P := fun ci => P_fok P_cl P_Tb "OrchardQuery" 28 ci 3) rfl ⟨_, _, _, "OrchardQuery", rfl, by decide, (Or.inl rfl), (Or.inl w_2_74)⟩)) <|
  P_all_cons (P_lnk_vi (P_vall (l := P_v147) rfl (P_all_cons (show P_vok _ _ _ 5 66 from ⟨_, rfl, rfl, w_1_5, w_4_79, (Or.inl ⟨P_sg 1 rfl, w_4_80, (Or.inl w_4_78)⟩)⟩) (P_all_nil)))) <|
  P_all_nil
set_option maxRecDepth 20000 in
theorem P_m152 : P_mst 152 2 (Option.some Jvm.ClassFile.FieldType.long) P_e152 [] := P_meth (mx := 2) (rt := (Option.some Jvm.ClassFile.FieldType.long)) (hs := []) "OrchardQuery" false prog_1_method_16_code [] rfl rfl rfl rfl (by decide +kernel) (by decide +kernel) (fun _ => P_g152) (by decide) (fun _ _ => by decide +kernel) (fun q => by cases q) (P_all_cons (by decide +kernel) <| P_all_cons (by decide +kernel) <| P_all_nil) P_l152 (by decide +kernel) P_k152 (fun _ _ => P_hok_nil)
/-- OrchardQuery.cost()J -/
def P_l153 : List (Nat × P_I) := [(1, .invokevirtual 159, 4, 0, 140, [], []), (5, .getfield 28, 8, 10, 3, [], []), (8, .invokevirtual 203, 11, 0, 90, [], [])]
set_option maxRecDepth 20000 in
theorem P_k153 : ∀ q ∈ P_l153, P_lnk P_cl P_aty P_stat P_tx P_N0 P_Tb P_Y0 "OrchardQuery" false prog_1_method_17_code [] q.1 q.2.1 q.2.2.2.1 q.2.2.2.2.1 :=
  P_all_cons (P_lnk_vi (P_vall (l := P_v140) rfl (P_all_cons (show P_vok _ _ _ 10 169 from ⟨_, rfl, rfl, w_1_1, w_5_72, (Or.inl ⟨P_sg 0 rfl, w_p_34, (Or.inl w_5_70)⟩)⟩) (P_all_nil)))) <|
  P_all_cons (P_lnk_get (P_s1 (c := 10) (P := fun ci => P_fok P_cl P_Tb "OrchardQuery" 28 ci 3) rfl ⟨_, _, _, "OrchardQuery", rfl, by decide, (Or.inl rfl), (Or.inl w_2_74)⟩)) <|
  P_all_cons (P_lnk_vi (P_vall (l := P_v90) rfl (P_all_cons (show P_vok _ _ _ 5 67 from ⟨_, rfl, rfl, w_1_5, w_4_95, (Or.inl ⟨P_sg 0 rfl, w_4_96, (Or.inl w_4_94)⟩)⟩) (P_all_nil)))) <|
  P_all_nil
set_option maxRecDepth 20000 in
theorem P_m153 : P_mst 153 1 (Option.some Jvm.ClassFile.FieldType.long) P_e153 [] := P_meth (mx := 1) (rt := (Option.some Jvm.ClassFile.FieldType.long)) (hs := []) "OrchardQuery" false prog_1_method_17_code [] rfl rfl rfl rfl (by decide +kernel) (by decide +kernel) (fun _ => P_g153) (by decide) (fun _ _ => by decide +kernel) (fun q => by cases q) (P_all_cons (by decide +kernel) <| P_all_nil) P_l153 (by decide +kernel) P_k153 (fun _ _ => P_hok_nil)
/-- OrchardQuery.isEmpty()Z -/
def P_l154 : List (Nat × P_I) := [(1, .invokevirtual 159, 4, 0, 140, [], []), (5, .getfield 28, 8, 10, 3, [], []), (8, .invokevirtual 206, 11, 0, 33, [], [])]
set_option maxRecDepth 20000 in
theorem P_k154 : ∀ q ∈ P_l154, P_lnk P_cl P_aty P_stat P_tx P_N0 P_Tb P_Y0 "OrchardQuery" false prog_1_method_18_code [] q.1 q.2.1 q.2.2.2.1 q.2.2.2.2.1 :=
  P_all_cons (P_lnk_vi (P_vall (l := P_v140) rfl (P_all_cons (show P_vok _ _ _ 10 169 from ⟨_, rfl, rfl, w_1_1, w_5_72, (Or.inl ⟨P_sg 0 rfl, w_p_34, (Or.inl w_5_70)⟩)⟩) (P_all_nil)))) <|
  P_all_cons (P_lnk_get (P_s1 (c := 10) (P := fun ci => P_fok P_cl P_Tb "OrchardQuery" 28 ci 3) rfl ⟨_, _, _, "OrchardQuery", rfl, by decide, (Or.inl rfl), (Or.inl w_2_74)⟩)) <|
  P_all_cons (P_lnk_vi (P_vall (l := P_v33) rfl (P_all_cons (show P_vok _ _ _ 5 57 from ⟨_, rfl, rfl, w_1_5, w_3_132, (Or.inl ⟨P_sg 0 rfl, w_3_133, (Or.inl w_4_62)⟩)⟩) (P_all_nil)))) <|
  P_all_nil
set_option maxRecDepth 20000 in
theorem P_m154 : P_mst 154 1 (Option.some Jvm.ClassFile.FieldType.boolean) P_e154 [] := P_meth (mx := 1) (rt := (Option.some Jvm.ClassFile.FieldType.boolean)) (hs := []) "OrchardQuery" false prog_1_method_18_code [] rfl rfl rfl rfl (by decide +kernel) (by decide +kernel) (fun _ => P_g154) (by decide) (fun _ _ => by decide +kernel) (fun q => by cases q) (P_all_cons (by decide +kernel) <| P_all_nil) P_l154 (by decide +kernel) P_k154 (fun _ _ => P_hok_nil)
/-- OrchardQuery.open()I -/
def P_l155 : List (Nat × P_I) := [(1, .invokevirtual 159, 4, 0, 140, [], []), (5, .getfield 60, 8, 10, 6, [], []), (8, .invokevirtual 209, 11, 0, 148, [], []), (12, .getfield 19, 15, 10, 2, [], []), (15, .invokevirtual 212, 18, 0, 61, [], [])]
set_option maxRecDepth 20000 in
theorem P_k155 : ∀ q ∈ P_l155, P_lnk P_cl P_aty P_stat P_tx P_N0 P_Tb P_Y0 "OrchardQuery" false prog_1_method_19_code [] q.1 q.2.1 q.2.2.2.1 q.2.2.2.2.1 :=
  P_all_cons (P_lnk_vi (P_vall (l := P_v140) rfl (P_all_cons (show P_vok _ _ _ 10 169 from ⟨_, rfl, rfl, w_1_1, w_5_72, (Or.inl ⟨P_sg 0 rfl, w_p_34, (Or.inl w_5_70)⟩)⟩) (P_all_nil)))) <|
  P_all_cons (P_lnk_get (P_s1 (c := 10) (P := fun ci => P_fok P_cl P_Tb "OrchardQuery" 60 ci 6) rfl ⟨_, _, _, "OrchardQuery", rfl, by decide, (Or.inl rfl), (Or.inl w_2_77)⟩)) <|
  P_all_cons (P_lnk_vi (P_vall (l := P_v148) rfl (P_all_cons (show P_vok _ _ _ 6 84 from ⟨_, rfl, rfl, w_1_12, w_5_219, (Or.inl ⟨P_sg 0 rfl, w_5_220, (Or.inl w_5_218)⟩)⟩) (P_all_nil)))) <|
  P_all_cons (P_lnk_get (P_s1 (c := 10) (P := fun ci => P_fok P_cl P_Tb "OrchardQuery" 19 ci 2) rfl ⟨_, _, _, "OrchardQuery", rfl, by decide, (Or.inl rfl), (Or.inl w_2_73)⟩)) <|
  P_all_cons (P_lnk_vi (P_vall (l := P_v61) rfl (P_all_cons (show P_vok _ _ _ 3 29 from ⟨_, rfl, rfl, w_1_4, w_3_89, (Or.inl ⟨P_sg 0 rfl, w_3_90, (Or.inl w_3_88)⟩)⟩) (P_all_nil)))) <|
  P_all_nil
set_option maxRecDepth 20000 in
theorem P_m155 : P_mst 155 1 (Option.some Jvm.ClassFile.FieldType.int) P_e155 [] := P_meth (mx := 1) (rt := (Option.some Jvm.ClassFile.FieldType.int)) (hs := []) "OrchardQuery" false prog_1_method_19_code [] rfl rfl rfl rfl (by decide +kernel) (by decide +kernel) (fun _ => P_g155) (by decide) (fun _ _ => by decide +kernel) (fun q => by cases q) (P_all_cons (by decide +kernel) <| P_all_nil) P_l155 (by decide +kernel) P_k155 (fun _ _ => P_hok_nil)
/-- OrchardQuery.next()Z -/
def P_l156 : List (Nat × P_I) := [(1, .invokevirtual 159, 4, 0, 140, [], []), (5, .getfield 60, 8, 10, 6, [], []), (8, .invokevirtual 215, 11, 0, 149, [], []), (14, .new 75, 17, 0, 1001, [], []), (25, .getfield 46, 28, 10, 4, [], []), (28, .invokevirtual 220, 31, 0, 150, [], []), (32, .getfield 60, 35, 10, 6, [], []), (36, .getfield 46, 39, 10, 4, [], []), (39, .invokevirtual 223, 42, 1, 151, [], [])]
set_option maxRecDepth 20000 in
theorem P_k156 : ∀ q ∈ P_l156, P_lnk P_cl P_aty P_stat P_tx P_N0 P_Tb P_Y0 "OrchardQuery" false prog_1_method_20_code [] q.1 q.2.1 q.2.2.2.1 q.2.2.2.2.1 :=
  P_all_cons (P_lnk_vi (P_vall (l := P_v140) rfl (P_all_cons (show P_vok _ _ _ 10 169 from ⟨_, rfl, rfl, w_1_1, w_5_72, (Or.inl ⟨P_sg 0 rfl, w_p_34, (Or.inl w_5_70)⟩)⟩) (P_all_nil)))) <|
  P_all_cons (P_lnk_get (P_s1 (c := 10) (P := fun ci => P_fok P_cl P_Tb "OrchardQuery" 60 ci 6) rfl ⟨_, _, _, "OrchardQuery", rfl, by decide, (Or.inl rfl), (Or.inl w_2_77)⟩)) <|
  P_all_cons (P_lnk_vi (P_vall (l := P_v149) rfl (P_all_cons (show P_vok _ _ _ 6 86 from ⟨_, rfl, rfl, w_1_12, w_5_231, (Or.inl ⟨P_sg 0 rfl, w_5_232, (Or.inl w_5_230)⟩)⟩) (P_all_nil)))) <|
  P_all_cons (P_lnk_thr (by decide) (fun _ => ⟨"nothing is pulled", 218, 79, P_BB, rfl, rfl, by decide +kernel, by decide +kernel, w_4_190, w_1_18, by decide +kernel, P_at_10_79, by decide +kernel, by decide +kernel, (Or.inl ⟨by decide +kernel, by decide +kernel, by decide +kernel⟩)⟩)) <|
  P_all_cons (P_lnk_get (P_s1 (c := 10) (P := fun ci => P_fok P_cl P_Tb "OrchardQuery" 46 ci 4) rfl ⟨_, _, _, "OrchardQuery", rfl, by decide, (Or.inl rfl), (Or.inl w_2_75)⟩)) <|
  P_all_cons (P_lnk_vi (P_vall (l := P_v150) rfl (P_all_cons (show P_vok _ _ _ 0 3 from ⟨_, rfl, rfl, w_1_9, w_3_121, (Or.inl ⟨P_sg 0 rfl, w_3_122, (Or.inl w_3_120)⟩)⟩) (P_all_nil)))) <|
  P_all_cons (P_lnk_get (P_s1 (c := 10) (P := fun ci => P_fok P_cl P_Tb "OrchardQuery" 60 ci 6) rfl ⟨_, _, _, "OrchardQuery", rfl, by decide, (Or.inl rfl), (Or.inl w_2_77)⟩)) <|
  P_all_cons (P_lnk_get (P_s1 (c := 10) (P := fun ci => P_fok P_cl P_Tb "OrchardQuery" 46 ci 4) rfl ⟨_, _, _, "OrchardQuery", rfl, by decide, (Or.inl rfl), (Or.inl w_2_75)⟩)) <|
  P_all_cons (P_lnk_vi (P_vall (l := P_v151) rfl (P_all_cons (show P_vok _ _ _ 6 88 from ⟨_, rfl, rfl, w_1_12, w_5_236, (Or.inl ⟨P_sg 1 rfl, w_5_237, (Or.inl w_5_235)⟩)⟩) (P_all_nil)))) <|
  P_all_nil
set_option maxRecDepth 20000 in
theorem P_m156 : P_mst 156 1 (Option.some Jvm.ClassFile.FieldType.boolean) P_e156 [] := P_meth (mx := 1) (rt := (Option.some Jvm.ClassFile.FieldType.boolean)) (hs := []) "OrchardQuery" false prog_1_method_20_code [] rfl rfl rfl rfl (by decide +kernel) (by decide +kernel) (fun _ => P_g156) (by decide) (fun _ _ => by decide +kernel) (fun q => by cases q) (P_all_cons (by decide +kernel) <| P_all_cons (by decide +kernel) <| P_all_nil) P_l156 (by decide +kernel) P_k156 (fun _ _ => P_hok_nil)
/-- OrchardQuery.value(I)I -/
def P_l157 : List (Nat × P_I) := [(1, .invokevirtual 159, 4, 0, 140, [], []), (5, .getfield 60, 8, 10, 6, [], []), (8, .invokevirtual 227, 11, 0, 152, [], []), (14, .new 75, 17, 0, 1001, [], []), (25, .getfield 19, 28, 10, 2, [], []), (29, .invokevirtual 232, 32, 1, 121, [], []), (35, .new 88, 38, 0, 1002, [], []), (46, .getfield 46, 49, 10, 4, [], []), (49, .invokevirtual 220, 52, 0, 150, [], []), (53, .getfield 46, 56, 10, 4, [], []), (57, .getfield 60, 60, 10, 6, [], []), (60, .invokevirtual 227, 63, 0, 152, [], []), (66, .invokevirtual 237, 69, 2, 54, [], [])]
set_option maxRecDepth 20000 in
theorem P_k157 : ∀ q ∈ P_l157, P_lnk P_cl P_aty P_stat P_tx P_N0 P_Tb P_Y0 "OrchardQuery" false prog_1_method_21_code [] q.1 q.2.1 q.2.2.2.1 q.2.2.2.2.1 :=
  P_all_cons (P_lnk_vi (P_vall (l := P_v140) rfl (P_all_cons (show P_vok _ _ _ 10 169 from ⟨_, rfl, rfl, w_1_1, w_5_72, (Or.inl ⟨P_sg 0 rfl, w_p_34, (Or.inl w_5_70)⟩)⟩) (P_all_nil)))) <|
  P_all_cons (P_lnk_get (P_s1 (c := 10) (P := fun ci => P_fok P_cl P_Tb "OrchardQuery" 60 ci 6) rfl ⟨_, _, _, "OrchardQuery", rfl, by decide, (Or.inl rfl), (Or.inl w_2_77)⟩)) <|
  P_all_cons (P_lnk_vi (P_vall (l := P_v152) rfl (P_all_cons (show P_vok _ _ _ 6 87 from ⟨_, rfl, rfl, w_1_12, w_6_18, (Or.inl ⟨P_sg 0 rfl, w_6_19, (Or.inl w_6_17)⟩)⟩) (P_all_nil)))) <|
  P_all_cons (P_lnk_thr (by decide) (fun _ => ⟨"no result was pulled", 230, 79, P_BB, rfl, rfl, by decide +kernel, by decide +kernel, w_4_190, w_1_18, by decide +kernel, P_at_10_79, by decide +kernel, by decide +kernel, (Or.inl ⟨by decide +kernel, by decide +kernel, by decide +kernel⟩)⟩)) <|
  P_all_cons (P_lnk_get (P_s1 (c := 10) (P := fun ci => P_fok P_cl P_Tb "OrchardQuery" 19 ci 2) rfl ⟨_, _, _, "OrchardQuery", rfl, by decide, (Or.inl rfl), (Or.inl w_2_73)⟩)) <|
  P_all_cons (P_lnk_vi (P_vall (l := P_v121) rfl (P_all_cons (show P_vok _ _ _ 3 36 from ⟨_, rfl, rfl, w_1_4, w_3_60, (Or.inl ⟨P_sg 1 rfl, w_3_61, (Or.inl w_6_22)⟩)⟩) (P_all_nil)))) <|
  P_all_cons (P_lnk_thr (by decide) (fun _ => ⟨"no such item", 235, 92, P_BB, rfl, rfl, by decide +kernel, by decide +kernel, w_4_219, w_1_19, by decide +kernel, P_at_10_92, by decide +kernel, by decide +kernel, (Or.inl ⟨by decide +kernel, by decide +kernel, by decide +kernel⟩)⟩)) <|
  P_all_cons (P_lnk_get (P_s1 (c := 10) (P := fun ci => P_fok P_cl P_Tb "OrchardQuery" 46 ci 4) rfl ⟨_, _, _, "OrchardQuery", rfl, by decide, (Or.inl rfl), (Or.inl w_2_75)⟩)) <|
  P_all_cons (P_lnk_vi (P_vall (l := P_v150) rfl (P_all_cons (show P_vok _ _ _ 0 3 from ⟨_, rfl, rfl, w_1_9, w_3_121, (Or.inl ⟨P_sg 0 rfl, w_3_122, (Or.inl w_3_120)⟩)⟩) (P_all_nil)))) <|
  P_all_cons (P_lnk_get (P_s1 (c := 10) (P := fun ci => P_fok P_cl P_Tb "OrchardQuery" 46 ci 4) rfl ⟨_, _, _, "OrchardQuery", rfl, by decide, (Or.inl rfl), (Or.inl w_2_75)⟩)) <|
  P_all_cons (P_lnk_get (P_s1 (c := 10) (P := fun ci => P_fok P_cl P_Tb "OrchardQuery" 60 ci 6) rfl ⟨_, _, _, "OrchardQuery", rfl, by decide, (Or.inl rfl), (Or.inl w_2_77)⟩)) <|
  P_all_cons (P_lnk_vi (P_vall (l := P_v152) rfl (P_all_cons (show P_vok _ _ _ 6 87 from ⟨_, rfl, rfl, w_1_12, w_6_18, (Or.inl ⟨P_sg 0 rfl, w_6_19, (Or.inl w_6_17)⟩)⟩) (P_all_nil)))) <|
  P_all_cons (P_lnk_vi (P_vall (l := P_v54) rfl (P_all_cons (show P_vok _ _ _ 0 8 from ⟨_, rfl, rfl, w_1_9, w_4_45, (Or.inl ⟨P_sg 2 rfl, w_4_46, (Or.inl w_4_110)⟩)⟩) (P_all_nil)))) <|
  P_all_nil
set_option maxRecDepth 20000 in
theorem P_m157 : P_mst 157 2 (Option.some Jvm.ClassFile.FieldType.int) P_e157 [] := P_meth (mx := 2) (rt := (Option.some Jvm.ClassFile.FieldType.int)) (hs := []) "OrchardQuery" false prog_1_method_21_code [] rfl rfl rfl rfl (by decide +kernel) (by decide +kernel) (fun _ => P_g157) (by decide) (fun _ _ => by decide +kernel) (fun q => by cases q) (P_all_cons (by decide +kernel) <| P_all_cons (by decide +kernel) <| P_all_cons (by decide +kernel) <| P_all_nil) P_l157 (by decide +kernel) P_k157 (fun _ _ => P_hok_nil)
/-- OrchardQuery.done(I)I -/
def P_l158 : List (Nat × P_I) := [(1, .invokevirtual 159, 4, 0, 140, [], []), (13, .new 64, 16, 0, 1000, [], []), (24, .getfield 60, 27, 10, 6, [], []), (28, .invokevirtual 243, 31, 1, 153, [], [])]
set_option maxRecDepth 20000 in
theorem P_k158 : ∀ q ∈ P_l158, P_lnk P_cl P_aty P_stat P_tx P_N0 P_Tb P_Y0 "OrchardQuery" false prog_1_method_22_code [] q.1 q.2.1 q.2.2.2.1 q.2.2.2.2.1 :=
  P_all_cons (P_lnk_vi (P_vall (l := P_v140) rfl (P_all_cons (show P_vok _ _ _ 10 169 from ⟨_, rfl, rfl, w_1_1, w_5_72, (Or.inl ⟨P_sg 0 rfl, w_p_34, (Or.inl w_5_70)⟩)⟩) (P_all_nil)))) <|
  P_all_cons (P_lnk_thr (by decide) (fun _ => ⟨"what is 0 to 2", 241, 68, P_BB, rfl, rfl, by decide +kernel, by decide +kernel, w_4_122, w_1_17, by decide +kernel, P_at_10_68, by decide +kernel, by decide +kernel, (Or.inl ⟨by decide +kernel, by decide +kernel, by decide +kernel⟩)⟩)) <|
  P_all_cons (P_lnk_get (P_s1 (c := 10) (P := fun ci => P_fok P_cl P_Tb "OrchardQuery" 60 ci 6) rfl ⟨_, _, _, "OrchardQuery", rfl, by decide, (Or.inl rfl), (Or.inl w_2_77)⟩)) <|
  P_all_cons (P_lnk_vi (P_vall (l := P_v153) rfl (P_all_cons (show P_vok _ _ _ 6 89 from ⟨_, rfl, rfl, w_1_12, w_4_103, (Or.inl ⟨P_sg 1 rfl, w_4_104, (Or.inl w_4_102)⟩)⟩) (P_all_nil)))) <|
  P_all_nil
set_option maxRecDepth 20000 in
theorem P_m158 : P_mst 158 2 (Option.some Jvm.ClassFile.FieldType.int) P_e158 [] := P_meth (mx := 2) (rt := (Option.some Jvm.ClassFile.FieldType.int)) (hs := []) "OrchardQuery" false prog_1_method_22_code [] rfl rfl rfl rfl (by decide +kernel) (by decide +kernel) (fun _ => P_g158) (by decide) (fun _ _ => by decide +kernel) (fun q => by cases q) (P_all_cons (by decide +kernel) <| P_all_nil) P_l158 (by decide +kernel) P_k158 (fun _ _ => P_hok_nil)
/-- OrchardQuery.results()I -/
def P_l159 : List (Nat × P_I) := [(1, .invokevirtual 159, 4, 0, 140, [], []), (5, .getfield 46, 8, 10, 4, [], []), (8, .invokevirtual 220, 11, 0, 150, [], []), (12, .getfield 46, 15, 10, 4, [], []), (15, .invokevirtual 245, 18, 0, 92, [], [])]
set_option maxRecDepth 20000 in
theorem P_k159 : ∀ q ∈ P_l159, P_lnk P_cl P_aty P_stat P_tx P_N0 P_Tb P_Y0 "OrchardQuery" false prog_1_method_23_code [] q.1 q.2.1 q.2.2.2.1 q.2.2.2.2.1 :=
  P_all_cons (P_lnk_vi (P_vall (l := P_v140) rfl (P_all_cons (show P_vok _ _ _ 10 169 from ⟨_, rfl, rfl, w_1_1, w_5_72, (Or.inl ⟨P_sg 0 rfl, w_p_34, (Or.inl w_5_70)⟩)⟩) (P_all_nil)))) <|
  P_all_cons (P_lnk_get (P_s1 (c := 10) (P := fun ci => P_fok P_cl P_Tb "OrchardQuery" 46 ci 4) rfl ⟨_, _, _, "OrchardQuery", rfl, by decide, (Or.inl rfl), (Or.inl w_2_75)⟩)) <|
  P_all_cons (P_lnk_vi (P_vall (l := P_v150) rfl (P_all_cons (show P_vok _ _ _ 0 3 from ⟨_, rfl, rfl, w_1_9, w_3_121, (Or.inl ⟨P_sg 0 rfl, w_3_122, (Or.inl w_3_120)⟩)⟩) (P_all_nil)))) <|
  P_all_cons (P_lnk_get (P_s1 (c := 10) (P := fun ci => P_fok P_cl P_Tb "OrchardQuery" 46 ci 4) rfl ⟨_, _, _, "OrchardQuery", rfl, by decide, (Or.inl rfl), (Or.inl w_2_75)⟩)) <|
  P_all_cons (P_lnk_vi (P_vall (l := P_v92) rfl (P_all_cons (show P_vok _ _ _ 0 5 from ⟨_, rfl, rfl, w_1_9, w_4_107, (Or.inl ⟨P_sg 0 rfl, w_4_108, (Or.inl w_4_106)⟩)⟩) (P_all_nil)))) <|
  P_all_nil
set_option maxRecDepth 20000 in
theorem P_m159 : P_mst 159 1 (Option.some Jvm.ClassFile.FieldType.int) P_e159 [] := P_meth (mx := 1) (rt := (Option.some Jvm.ClassFile.FieldType.int)) (hs := []) "OrchardQuery" false prog_1_method_23_code [] rfl rfl rfl rfl (by decide +kernel) (by decide +kernel) (fun _ => P_g159) (by decide) (fun _ _ => by decide +kernel) (fun q => by cases q) (P_all_cons (by decide +kernel) <| P_all_nil) P_l159 (by decide +kernel) P_k159 (fun _ _ => P_hok_nil)
/-- OrchardQuery.result(II)I -/
def P_l160 : List (Nat × P_I) := [(1, .invokevirtual 159, 4, 0, 140, [], []), (5, .getfield 46, 8, 10, 4, [], []), (8, .invokevirtual 220, 11, 0, 150, [], []), (17, .getfield 46, 20, 10, 4, [], []), (20, .invokevirtual 245, 23, 0, 92, [], []), (27, .getfield 19, 30, 10, 2, [], []), (31, .invokevirtual 232, 34, 1, 121, [], []), (37, .new 88, 40, 0, 1002, [], []), (48, .getfield 46, 51, 10, 4, [], []), (53, .invokevirtual 237, 56, 2, 54, [], [])]
set_option maxRecDepth 20000 in
theorem P_k160 : ∀ q ∈ P_l160, P_lnk P_cl P_aty P_stat P_tx P_N0 P_Tb P_Y0 "OrchardQuery" false prog_1_method_24_code [] q.1 q.2.1 q.2.2.2.1 q.2.2.2.2.1 :=
  P_all_cons (P_lnk_vi (P_vall (l := P_v140) rfl (P_all_cons (show P_vok _ _ _ 10 169 from ⟨_, rfl, rfl, w_1_1, w_5_72, (Or.inl ⟨P_sg 0 rfl, w_p_34, (Or.inl w_5_70)⟩)⟩) (P_all_nil)))) <|
  P_all_cons (P_lnk_get (P_s1 (c := 10) (P := fun ci => P_fok P_cl P_Tb "OrchardQuery" 46 ci 4) rfl ⟨_, _, _, "OrchardQuery", rfl, by decide, (Or.inl rfl), (Or.inl w_2_75)⟩)) <|
  P_all_cons (P_lnk_vi (P_vall (l := P_v150) rfl (P_all_cons (show P_vok _ _ _ 0 3 from ⟨_, rfl, rfl, w_1_9, w_3_121, (Or.inl ⟨P_sg 0 rfl, w_3_122, (Or.inl w_3_120)⟩)⟩) (P_all_nil)))) <|
  P_all_cons (P_lnk_get (P_s1 (c := 10) (P := fun ci => P_fok P_cl P_Tb "OrchardQuery" 46 ci 4) rfl ⟨_, _, _, "OrchardQuery", rfl, by decide, (Or.inl rfl), (Or.inl w_2_75)⟩)) <|
  P_all_cons (P_lnk_vi (P_vall (l := P_v92) rfl (P_all_cons (show P_vok _ _ _ 0 5 from ⟨_, rfl, rfl, w_1_9, w_4_107, (Or.inl ⟨P_sg 0 rfl, w_4_108, (Or.inl w_4_106)⟩)⟩) (P_all_nil)))) <|
  P_all_cons (P_lnk_get (P_s1 (c := 10) (P := fun ci => P_fok P_cl P_Tb "OrchardQuery" 19 ci 2) rfl ⟨_, _, _, "OrchardQuery", rfl, by decide, (Or.inl rfl), (Or.inl w_2_73)⟩)) <|
  P_all_cons (P_lnk_vi (P_vall (l := P_v121) rfl (P_all_cons (show P_vok _ _ _ 3 36 from ⟨_, rfl, rfl, w_1_4, w_3_60, (Or.inl ⟨P_sg 1 rfl, w_3_61, (Or.inl w_6_22)⟩)⟩) (P_all_nil)))) <|
  P_all_cons (P_lnk_thr (by decide) (fun _ => ⟨"no such result or item", 248, 92, P_BB, rfl, rfl, by decide +kernel, by decide +kernel, w_4_219, w_1_19, by decide +kernel, P_at_10_92, by decide +kernel, by decide +kernel, (Or.inl ⟨by decide +kernel, by decide +kernel, by decide +kernel⟩)⟩)) <|
  P_all_cons (P_lnk_get (P_s1 (c := 10) (P := fun ci => P_fok P_cl P_Tb "OrchardQuery" 46 ci 4) rfl ⟨_, _, _, "OrchardQuery", rfl, by decide, (Or.inl rfl), (Or.inl w_2_75)⟩)) <|
  P_all_cons (P_lnk_vi (P_vall (l := P_v54) rfl (P_all_cons (show P_vok _ _ _ 0 8 from ⟨_, rfl, rfl, w_1_9, w_4_45, (Or.inl ⟨P_sg 2 rfl, w_4_46, (Or.inl w_4_110)⟩)⟩) (P_all_nil)))) <|
  P_all_nil
set_option maxRecDepth 20000 in
theorem P_m160 : P_mst 160 3 (Option.some Jvm.ClassFile.FieldType.int) P_e160 [] := P_meth (mx := 3) (rt := (Option.some Jvm.ClassFile.FieldType.int)) (hs := []) "OrchardQuery" false prog_1_method_24_code [] rfl rfl rfl rfl (by decide +kernel) (by decide +kernel) (fun _ => P_g160) (by decide) (fun _ _ => by decide +kernel) (fun q => by cases q) (P_all_cons (by decide +kernel) <| P_all_cons (by decide +kernel) <| P_all_nil) P_l160 (by decide +kernel) P_k160 (fun _ _ => P_hok_nil)
/-- OrchardQuery.wouldDo(I)I -/
def P_l161 : List (Nat × P_I) := [(1, .invokevirtual 159, 4, 0, 140, [], []), (13, .new 64, 16, 0, 1000, [], []), (24, .getfield 46, 27, 10, 4, [], []), (27, .invokevirtual 220, 30, 0, 150, [], []), (35, .getfield 46, 38, 10, 4, [], []), (38, .invokevirtual 252, 41, 0, 42, [], []), (45, .getfield 46, 48, 10, 4, [], []), (48, .invokevirtual 255, 51, 0, 43, [], [])]
set_option maxRecDepth 20000 in
theorem P_k161 : ∀ q ∈ P_l161, P_lnk P_cl P_aty P_stat P_tx P_N0 P_Tb P_Y0 "OrchardQuery" false prog_1_method_25_code [] q.1 q.2.1 q.2.2.2.1 q.2.2.2.2.1 :=
  P_all_cons (P_lnk_vi (P_vall (l := P_v140) rfl (P_all_cons (show P_vok _ _ _ 10 169 from ⟨_, rfl, rfl, w_1_1, w_5_72, (Or.inl ⟨P_sg 0 rfl, w_p_34, (Or.inl w_5_70)⟩)⟩) (P_all_nil)))) <|
  P_all_cons (P_lnk_thr (by decide) (fun _ => ⟨"what is 0 or 1", 250, 68, P_BB, rfl, rfl, by decide +kernel, by decide +kernel, w_4_122, w_1_17, by decide +kernel, P_at_10_68, by decide +kernel, by decide +kernel, (Or.inl ⟨by decide +kernel, by decide +kernel, by decide +kernel⟩)⟩)) <|
  P_all_cons (P_lnk_get (P_s1 (c := 10) (P := fun ci => P_fok P_cl P_Tb "OrchardQuery" 46 ci 4) rfl ⟨_, _, _, "OrchardQuery", rfl, by decide, (Or.inl rfl), (Or.inl w_2_75)⟩)) <|
  P_all_cons (P_lnk_vi (P_vall (l := P_v150) rfl (P_all_cons (show P_vok _ _ _ 0 3 from ⟨_, rfl, rfl, w_1_9, w_3_121, (Or.inl ⟨P_sg 0 rfl, w_3_122, (Or.inl w_3_120)⟩)⟩) (P_all_nil)))) <|
  P_all_cons (P_lnk_get (P_s1 (c := 10) (P := fun ci => P_fok P_cl P_Tb "OrchardQuery" 46 ci 4) rfl ⟨_, _, _, "OrchardQuery", rfl, by decide, (Or.inl rfl), (Or.inl w_2_75)⟩)) <|
  P_all_cons (P_lnk_vi (P_vall (l := P_v42) rfl (P_all_cons (show P_vok _ _ _ 0 129 from ⟨_, rfl, rfl, w_1_8, w_4_5, (Or.inr ⟨⟨"OrchardQuery$Answer", "reads", "()I"⟩, "OrchardQuery$Walk", P_sg 0 rfl, by decide, w_4_111, w_4_2, w_4_4, (Or.inl ⟨w_4_5, _, _, _, w_4_6⟩)⟩)⟩) (P_all_nil)))) <|
  P_all_cons (P_lnk_get (P_s1 (c := 10) (P := fun ci => P_fok P_cl P_Tb "OrchardQuery" 46 ci 4) rfl ⟨_, _, _, "OrchardQuery", rfl, by decide, (Or.inl rfl), (Or.inl w_2_75)⟩)) <|
  P_all_cons (P_lnk_vi (P_vall (l := P_v43) rfl (P_all_cons (show P_vok _ _ _ 0 130 from ⟨_, rfl, rfl, w_1_8, w_4_11, (Or.inr ⟨⟨"OrchardQuery$Answer", "checks", "()I"⟩, "OrchardQuery$Walk", P_sg 0 rfl, by decide, w_4_112, w_4_8, w_4_10, (Or.inl ⟨w_4_11, _, _, _, w_4_12⟩)⟩)⟩) (P_all_nil)))) <|
  P_all_nil
set_option maxRecDepth 20000 in
theorem P_m161 : P_mst 161 2 (Option.some Jvm.ClassFile.FieldType.int) P_e161 [] := P_meth (mx := 2) (rt := (Option.some Jvm.ClassFile.FieldType.int)) (hs := []) "OrchardQuery" false prog_1_method_25_code [] rfl rfl rfl rfl (by decide +kernel) (by decide +kernel) (fun _ => P_g161) (by decide) (fun _ _ => by decide +kernel) (fun q => by cases q) (P_all_cons (by decide +kernel) <| P_all_cons (by decide +kernel) <| P_all_nil) P_l161 (by decide +kernel) P_k161 (fun _ _ => P_hok_nil)
/-- OrchardQuery.meetingsWithout(I)I -/
def P_l162 : List (Nat × P_I) := [(1, .invokevirtual 159, 4, 0, 140, [], []), (5, .getfield 28, 8, 10, 3, [], []), (9, .invokevirtual 162, 12, 1, 141, [], []), (15, .new 88, 18, 0, 1002, [], []), (26, .getfield 53, 29, 10, 5, [], []), (30, .ldc_w 258, 33, 1000000000, 0, [], []), (33, .invokevirtual 259, 36, 2, 154, [], []), (37, .getfield 53, 40, 10, 5, [], []), (40, .invokevirtual 262, 43, 0, 155, [], [])]
set_option maxRecDepth 20000 in
theorem P_k162 : ∀ q ∈ P_l162, P_lnk P_cl P_aty P_stat P_tx P_N0 P_Tb P_Y0 "OrchardQuery" false prog_1_method_26_code [] q.1 q.2.1 q.2.2.2.1 q.2.2.2.2.1 :=
  P_all_cons (P_lnk_vi (P_vall (l := P_v140) rfl (P_all_cons (show P_vok _ _ _ 10 169 from ⟨_, rfl, rfl, w_1_1, w_5_72, (Or.inl ⟨P_sg 0 rfl, w_p_34, (Or.inl w_5_70)⟩)⟩) (P_all_nil)))) <|
  P_all_cons (P_lnk_get (P_s1 (c := 10) (P := fun ci => P_fok P_cl P_Tb "OrchardQuery" 28 ci 3) rfl ⟨_, _, _, "OrchardQuery", rfl, by decide, (Or.inl rfl), (Or.inl w_2_74)⟩)) <|
  P_all_cons (P_lnk_vi (P_vall (l := P_v141) rfl (P_all_cons (show P_vok _ _ _ 5 56 from ⟨_, rfl, rfl, w_1_5, w_5_76, (Or.inl ⟨P_sg 1 rfl, w_5_77, (Or.inl w_5_75)⟩)⟩) (P_all_nil)))) <|
  P_all_cons (P_lnk_thr (by decide) (fun _ => ⟨"no such condition", 165, 92, P_BB, rfl, rfl, by decide +kernel, by decide +kernel, w_4_219, w_1_19, by decide +kernel, P_at_10_92, by decide +kernel, by decide +kernel, (Or.inl ⟨by decide +kernel, by decide +kernel, by decide +kernel⟩)⟩)) <|
  P_all_cons (P_lnk_get (P_s1 (c := 10) (P := fun ci => P_fok P_cl P_Tb "OrchardQuery" 53 ci 5) rfl ⟨_, _, _, "OrchardQuery", rfl, by decide, (Or.inl rfl), (Or.inl w_2_76)⟩)) <|
  P_all_cons (P_lnk_ldcw w_6_62) <|
  P_all_cons (P_lnk_vi (P_vall (l := P_v154) rfl (P_all_cons (show P_vok _ _ _ 2 133 from ⟨_, rfl, rfl, w_1_8, w_3_161, (Or.inr ⟨⟨"OrchardQuery$Count", "walk", "(II)V"⟩, "OrchardQuery$Walk", P_sg 2 rfl, by decide, w_6_63, w_6_64, w_6_65, (Or.inl ⟨w_3_161, _, _, _, w_3_162⟩)⟩)⟩) (P_all_nil)))) <|
  P_all_cons (P_lnk_get (P_s1 (c := 10) (P := fun ci => P_fok P_cl P_Tb "OrchardQuery" 53 ci 5) rfl ⟨_, _, _, "OrchardQuery", rfl, by decide, (Or.inl rfl), (Or.inl w_2_76)⟩)) <|
  P_all_cons (P_lnk_vi (P_vall (l := P_v155) rfl (P_all_cons (show P_vok _ _ _ 2 131 from ⟨_, rfl, rfl, w_1_8, w_6_70, (Or.inr ⟨⟨"OrchardQuery$Count", "meetings", "()I"⟩, "OrchardQuery$Walk", P_sg 0 rfl, by decide, w_6_66, w_6_67, w_6_69, (Or.inl ⟨w_6_70, _, _, _, w_6_71⟩)⟩)⟩) (P_all_nil)))) <|
  P_all_nil
set_option maxRecDepth 20000 in
theorem P_m162 : P_mst 162 2 (Option.some Jvm.ClassFile.FieldType.int) P_e162 [] := P_meth (mx := 2) (rt := (Option.some Jvm.ClassFile.FieldType.int)) (hs := []) "OrchardQuery" false prog_1_method_26_code [] rfl rfl rfl rfl (by decide +kernel) (by decide +kernel) (fun _ => P_g162) (by decide) (fun _ _ => by decide +kernel) (fun q => by cases q) (P_all_cons (by decide +kernel) <| P_all_cons (by decide +kernel) <| P_all_nil) P_l162 (by decide +kernel) P_k162 (fun _ _ => P_hok_nil)
/-- OrchardQuery.share()D -/
def P_l163 : List (Nat × P_I) := [(1, .invokevirtual 159, 4, 0, 140, [], []), (5, .getfield 19, 8, 10, 2, [], []), (8, .invokevirtual 265, 11, 0, 156, [], []), (17, .getfield 28, 20, 10, 3, [], []), (20, .invokevirtual 206, 23, 0, 33, [], []), (29, .getfield 53, 32, 10, 5, [], []), (33, .ldc_w 258, 36, 1000000000, 0, [], []), (36, .invokevirtual 259, 39, 2, 154, [], []), (40, .getfield 53, 43, 10, 5, [], []), (43, .invokevirtual 262, 46, 0, 155, [], [])]
set_option maxRecDepth 20000 in
theorem P_k163 : ∀ q ∈ P_l163, P_lnk P_cl P_aty P_stat P_tx P_N0 P_Tb P_Y0 "OrchardQuery" false prog_1_method_27_code [] q.1 q.2.1 q.2.2.2.1 q.2.2.2.2.1 :=
  P_all_cons (P_lnk_vi (P_vall (l := P_v140) rfl (P_all_cons (show P_vok _ _ _ 10 169 from ⟨_, rfl, rfl, w_1_1, w_5_72, (Or.inl ⟨P_sg 0 rfl, w_p_34, (Or.inl w_5_70)⟩)⟩) (P_all_nil)))) <|
  P_all_cons (P_lnk_get (P_s1 (c := 10) (P := fun ci => P_fok P_cl P_Tb "OrchardQuery" 19 ci 2) rfl ⟨_, _, _, "OrchardQuery", rfl, by decide, (Or.inl rfl), (Or.inl w_2_73)⟩)) <|
  P_all_cons (P_lnk_vi (P_vall (l := P_v156) rfl (P_all_cons (show P_vok _ _ _ 3 41 from ⟨_, rfl, rfl, w_1_4, w_6_80, (Or.inl ⟨P_sg 0 rfl, w_6_81, (Or.inl w_6_79)⟩)⟩) (P_all_nil)))) <|
  P_all_cons (P_lnk_get (P_s1 (c := 10) (P := fun ci => P_fok P_cl P_Tb "OrchardQuery" 28 ci 3) rfl ⟨_, _, _, "OrchardQuery", rfl, by decide, (Or.inl rfl), (Or.inl w_2_74)⟩)) <|
  P_all_cons (P_lnk_vi (P_vall (l := P_v33) rfl (P_all_cons (show P_vok _ _ _ 5 57 from ⟨_, rfl, rfl, w_1_5, w_3_132, (Or.inl ⟨P_sg 0 rfl, w_3_133, (Or.inl w_4_62)⟩)⟩) (P_all_nil)))) <|
  P_all_cons (P_lnk_get (P_s1 (c := 10) (P := fun ci => P_fok P_cl P_Tb "OrchardQuery" 53 ci 5) rfl ⟨_, _, _, "OrchardQuery", rfl, by decide, (Or.inl rfl), (Or.inl w_2_76)⟩)) <|
  P_all_cons (P_lnk_ldcw w_6_62) <|
  P_all_cons (P_lnk_vi (P_vall (l := P_v154) rfl (P_all_cons (show P_vok _ _ _ 2 133 from ⟨_, rfl, rfl, w_1_8, w_3_161, (Or.inr ⟨⟨"OrchardQuery$Count", "walk", "(II)V"⟩, "OrchardQuery$Walk", P_sg 2 rfl, by decide, w_6_63, w_6_64, w_6_65, (Or.inl ⟨w_3_161, _, _, _, w_3_162⟩)⟩)⟩) (P_all_nil)))) <|
  P_all_cons (P_lnk_get (P_s1 (c := 10) (P := fun ci => P_fok P_cl P_Tb "OrchardQuery" 53 ci 5) rfl ⟨_, _, _, "OrchardQuery", rfl, by decide, (Or.inl rfl), (Or.inl w_2_76)⟩)) <|
  P_all_cons (P_lnk_vi (P_vall (l := P_v155) rfl (P_all_cons (show P_vok _ _ _ 2 131 from ⟨_, rfl, rfl, w_1_8, w_6_70, (Or.inr ⟨⟨"OrchardQuery$Count", "meetings", "()I"⟩, "OrchardQuery$Walk", P_sg 0 rfl, by decide, w_6_66, w_6_67, w_6_69, (Or.inl ⟨w_6_70, _, _, _, w_6_71⟩)⟩)⟩) (P_all_nil)))) <|
  P_all_nil
set_option maxRecDepth 20000 in
theorem P_m163 : P_mst 163 2 (Option.some Jvm.ClassFile.FieldType.double) P_e163 [] := P_meth (mx := 2) (rt := (Option.some Jvm.ClassFile.FieldType.double)) (hs := []) "OrchardQuery" false prog_1_method_27_code [] rfl rfl rfl rfl (by decide +kernel) (by decide +kernel) (fun _ => P_g163) (by decide) (fun _ _ => by decide +kernel) (fun q => by cases q) (P_all_cons (by decide +kernel) <| P_all_cons (by decide +kernel) <| P_all_nil) P_l163 (by decide +kernel) P_k163 (fun _ _ => P_hok_nil)
/-- OrchardQuery.digest()J -/
def P_l164 : List (Nat × P_I) := [(0, .ldc2_w 268, 3, 58086, 0, [], []), (14, .invokevirtual 156, 17, 1, 139, [], []), (18, .invokestatic 270, 21, 2, 171, [], []), (32, .getfield 12, 35, 10, 0, [], []), (35, .invokevirtual 71, 38, 0, 129, [], []), (44, .getfield 12, 47, 10, 0, [], []), (48, .invokevirtual 93, 51, 1, 114, [], []), (51, .invokevirtual 274, 54, 2, 157, [], []), (63, .getfield 37, 66, 10, 1, [], []), (66, .invokevirtual 151, 69, 0, 138, [], []), (70, .invokestatic 270, 73, 2, 171, [], []), (75, .getfield 37, 78, 10, 1, [], []), (78, .invokevirtual 278, 81, 0, 158, [], []), (87, .getfield 46, 90, 10, 4, [], []), (90, .invokevirtual 220, 93, 0, 150, [], []), (96, .invokevirtual 281, 99, 1, 159, [], []), (99, .invokevirtual 285, 102, 1, 160, [], [])]
set_option maxRecDepth 20000 in
theorem P_k164 : ∀ q ∈ P_l164, P_lnk P_cl P_aty P_stat P_tx P_N0 P_Tb P_Y0 "OrchardQuery" false prog_1_method_28_code [] q.1 q.2.1 q.2.2.2.1 q.2.2.2.2.1 :=
  P_all_cons (P_lnk_ldl w_3_75) <|
  P_all_cons (P_lnk_vi (P_vall (l := P_v139) rfl (P_all_cons (show P_vok _ _ _ 10 168 from ⟨_, rfl, rfl, w_1_1, w_3_78, (Or.inl ⟨P_sg 1 rfl, w_p_20, (Or.inl w_3_76)⟩)⟩) (P_all_nil)))) <|
  P_all_cons (P_lnk_st (by decide) (fun _ => ⟨P_sg 2 rfl, w_1_1, w_3_98, (Or.inl w_3_97)⟩)) <|
  P_all_cons (P_lnk_get (P_s1 (c := 10) (P := fun ci => P_fok P_cl P_Tb "OrchardQuery" 12 ci 0) rfl ⟨_, _, _, "OrchardQuery", rfl, by decide, (Or.inl rfl), (Or.inl w_2_71)⟩)) <|
  P_all_cons (P_lnk_vi (P_vall (l := P_v129) rfl (P_all_cons (show P_vok _ _ _ 8 114 from ⟨_, rfl, rfl, w_1_2, w_3_81, (Or.inl ⟨P_sg 0 rfl, w_3_82, (Or.inl w_3_80)⟩)⟩) (P_all_nil)))) <|
  P_all_cons (P_lnk_get (P_s1 (c := 10) (P := fun ci => P_fok P_cl P_Tb "OrchardQuery" 12 ci 0) rfl ⟨_, _, _, "OrchardQuery", rfl, by decide, (Or.inl rfl), (Or.inl w_2_71)⟩)) <|
  P_all_cons (P_lnk_vi (P_vall (l := P_v114) rfl (P_all_cons (show P_vok _ _ _ 8 116 from ⟨_, rfl, rfl, w_1_2, w_2_213, (Or.inl ⟨P_sg 1 rfl, w_2_214, (Or.inl w_3_101)⟩)⟩) (P_all_nil)))) <|
  P_all_cons (P_lnk_vi (P_vall (l := P_v157) rfl (P_all_cons (show P_vok _ _ _ 10 165 from ⟨_, rfl, rfl, w_1_1, w_3_104, (Or.inl ⟨P_sg 2 rfl, w_p_21, (Or.inl w_3_102)⟩)⟩) (P_all_nil)))) <|
  P_all_cons (P_lnk_get (P_s1 (c := 10) (P := fun ci => P_fok P_cl P_Tb "OrchardQuery" 37 ci 1) rfl ⟨_, _, _, "OrchardQuery", rfl, by decide, (Or.inl rfl), (Or.inl w_2_72)⟩)) <|
  P_all_cons (P_lnk_vi (P_vall (l := P_v138) rfl (P_all_cons (show P_vok _ _ _ 7 93 from ⟨_, rfl, rfl, w_1_7, w_3_68, (Or.inl ⟨P_sg 0 rfl, w_3_69, (Or.inl w_3_67)⟩)⟩) (P_all_nil)))) <|
  P_all_cons (P_lnk_st (by decide) (fun _ => ⟨P_sg 2 rfl, w_1_1, w_3_98, (Or.inl w_3_97)⟩)) <|
  P_all_cons (P_lnk_get (P_s1 (c := 10) (P := fun ci => P_fok P_cl P_Tb "OrchardQuery" 37 ci 1) rfl ⟨_, _, _, "OrchardQuery", rfl, by decide, (Or.inl rfl), (Or.inl w_2_72)⟩)) <|
  P_all_cons (P_lnk_vi (P_vall (l := P_v158) rfl (P_all_cons (show P_vok _ _ _ 7 92 from ⟨_, rfl, rfl, w_1_7, w_3_85, (Or.inl ⟨P_sg 0 rfl, w_3_86, (Or.inl w_3_84)⟩)⟩) (P_all_nil)))) <|
  P_all_cons (P_lnk_get (P_s1 (c := 10) (P := fun ci => P_fok P_cl P_Tb "OrchardQuery" 46 ci 4) rfl ⟨_, _, _, "OrchardQuery", rfl, by decide, (Or.inl rfl), (Or.inl w_2_75)⟩)) <|
  P_all_cons (P_lnk_vi (P_vall (l := P_v150) rfl (P_all_cons (show P_vok _ _ _ 0 3 from ⟨_, rfl, rfl, w_1_9, w_3_121, (Or.inl ⟨P_sg 0 rfl, w_3_122, (Or.inl w_3_120)⟩)⟩) (P_all_nil)))) <|
  P_all_cons (P_lnk_vi (P_vall (l := P_v159) rfl (P_all_cons (show P_vok _ _ _ 10 166 from ⟨_, rfl, rfl, w_1_1, w_4_60, (Or.inl ⟨P_sg 1 rfl, w_p_27, (Or.inl w_4_58)⟩)⟩) (P_all_nil)))) <|
  P_all_cons (P_lnk_vi (P_vall (l := P_v160) rfl (P_all_cons (show P_vok _ _ _ 10 167 from ⟨_, rfl, rfl, w_1_1, w_4_100, (Or.inl ⟨P_sg 1 rfl, w_p_31, (Or.inl w_4_98)⟩)⟩) (P_all_nil)))) <|
  P_all_nil
set_option maxRecDepth 20000 in
theorem P_m164 : P_mst 164 4 (Option.some Jvm.ClassFile.FieldType.long) P_e164 [] := P_meth (mx := 4) (rt := (Option.some Jvm.ClassFile.FieldType.long)) (hs := []) "OrchardQuery" false prog_1_method_28_code [] rfl rfl rfl rfl (by decide +kernel) (by decide +kernel) (fun _ => P_g164) (by decide) (fun _ _ => by decide +kernel) (fun q => by cases q) (P_all_cons (by decide +kernel) <| P_all_cons (by decide +kernel) <| P_all_cons (by decide +kernel) <| P_all_cons (by decide +kernel) <| P_all_nil) P_l164 (by decide +kernel) P_k164 (fun _ _ => P_hok_nil)
/-- OrchardQuery.digestOfTable(JLOrchardQuery$Table;)J -/
def P_l165 : List (Nat × P_I) := [(2, .invokevirtual 119, 5, 0, 59, [], []), (6, .invokestatic 270, 9, 2, 171, [], []), (17, .invokevirtual 119, 20, 0, 59, [], []), (29, .invokevirtual 97, 32, 0, 57, [], []), (42, .invokevirtual 288, 45, 2, 63, [], []), (46, .invokestatic 270, 49, 2, 171, [], []), (69, .invokevirtual 97, 72, 0, 57, [], []), (80, .invokevirtual 130, 83, 1, 58, [], []), (84, .invokestatic 270, 87, 2, 171, [], [])]
set_option maxRecDepth 20000 in
theorem P_k165 : ∀ q ∈ P_l165, P_lnk P_cl P_aty P_stat P_tx P_N0 P_Tb P_Y0 "OrchardQuery" false prog_1_method_29_code [] q.1 q.2.1 q.2.2.2.1 q.2.2.2.2.1 :=
  P_all_cons (P_lnk_vi (P_vall (l := P_v59) rfl (P_all_cons (show P_vok _ _ _ 9 120 from ⟨_, rfl, rfl, w_1_3, w_3_107, (Or.inl ⟨P_sg 0 rfl, w_3_108, (Or.inl w_3_106)⟩)⟩) (P_all_nil)))) <|
  P_all_cons (P_lnk_st (by decide) (fun _ => ⟨P_sg 2 rfl, w_1_1, w_3_98, (Or.inl w_3_97)⟩)) <|
  P_all_cons (P_lnk_vi (P_vall (l := P_v59) rfl (P_all_cons (show P_vok _ _ _ 9 120 from ⟨_, rfl, rfl, w_1_3, w_3_107, (Or.inl ⟨P_sg 0 rfl, w_3_108, (Or.inl w_3_106)⟩)⟩) (P_all_nil)))) <|
  P_all_cons (P_lnk_vi (P_vall (l := P_v57) rfl (P_all_cons (show P_vok _ _ _ 9 119 from ⟨_, rfl, rfl, w_1_3, w_3_48, (Or.inl ⟨P_sg 0 rfl, w_3_49, (Or.inl w_3_110)⟩)⟩) (P_all_nil)))) <|
  P_all_cons (P_lnk_vi (P_vall (l := P_v63) rfl (P_all_cons (show P_vok _ _ _ 9 122 from ⟨_, rfl, rfl, w_1_3, w_3_112, (Or.inl ⟨P_sg 2 rfl, w_3_113, (Or.inl w_3_111)⟩)⟩) (P_all_nil)))) <|
  P_all_cons (P_lnk_st (by decide) (fun _ => ⟨P_sg 2 rfl, w_1_1, w_3_98, (Or.inl w_3_97)⟩)) <|
  P_all_cons (P_lnk_vi (P_vall (l := P_v57) rfl (P_all_cons (show P_vok _ _ _ 9 119 from ⟨_, rfl, rfl, w_1_3, w_3_48, (Or.inl ⟨P_sg 0 rfl, w_3_49, (Or.inl w_3_110)⟩)⟩) (P_all_nil)))) <|
  P_all_cons (P_lnk_vi (P_vall (l := P_v58) rfl (P_all_cons (show P_vok _ _ _ 9 125 from ⟨_, rfl, rfl, w_1_3, w_3_116, (Or.inl ⟨P_sg 1 rfl, w_3_117, (Or.inl w_3_115)⟩)⟩) (P_all_nil)))) <|
  P_all_cons (P_lnk_st (by decide) (fun _ => ⟨P_sg 2 rfl, w_1_1, w_3_98, (Or.inl w_3_97)⟩)) <|
  P_all_nil
set_option maxRecDepth 20000 in
theorem P_m165 : P_mst 165 8 (Option.some Jvm.ClassFile.FieldType.long) P_e165 [] := P_meth (mx := 8) (rt := (Option.some Jvm.ClassFile.FieldType.long)) (hs := []) "OrchardQuery" false prog_1_method_29_code [] rfl rfl rfl rfl (by decide +kernel) (by decide +kernel) (fun _ => P_g165) (by decide) (fun _ _ => by decide +kernel) (fun q => by cases q) (P_all_cons (by decide +kernel) <| P_all_cons (by decide +kernel) <| P_all_cons (by decide +kernel) <| P_all_cons (by decide +kernel) <| P_all_nil) P_l165 (by decide +kernel) P_k165 (fun _ _ => P_hok_nil)
/-- OrchardQuery.digestOfPlan(J)J -/
def P_l166 : List (Nat × P_I) := [(2, .getfield 28, 5, 10, 3, [], []), (5, .invokevirtual 206, 8, 0, 33, [], []), (16, .invokestatic 270, 19, 2, 171, [], []), (26, .getfield 28, 29, 10, 3, [], []), (29, .invokevirtual 291, 32, 0, 127, [], []), (46, .getfield 28, 49, 10, 3, [], []), (50, .getfield 28, 53, 10, 3, [], []), (55, .invokevirtual 169, 58, 1, 65, [], []), (60, .invokevirtual 172, 63, 2, 142, [], []), (64, .invokestatic 270, 67, 2, 171, [], []), (86, .getfield 19, 89, 10, 2, [], []), (89, .invokevirtual 294, 92, 0, 66, [], []), (97, .getfield 28, 100, 10, 3, [], []), (102, .invokevirtual 190, 105, 1, 74, [], []), (106, .invokestatic 270, 109, 2, 171, [], []), (112, .getfield 28, 115, 10, 3, [], []), (117, .invokevirtual 199, 120, 1, 147, [], []), (120, .invokestatic 270, 123, 2, 171, [], []), (132, .getfield 28, 135, 10, 3, [], []), (135, .invokevirtual 203, 138, 0, 90, [], []), (138, .invokestatic 270, 141, 2, 171, [], [])]
set_option maxRecDepth 20000 in
theorem P_k166 : ∀ q ∈ P_l166, P_lnk P_cl P_aty P_stat P_tx P_N0 P_Tb P_Y0 "OrchardQuery" false prog_1_method_30_code [] q.1 q.2.1 q.2.2.2.1 q.2.2.2.2.1 :=
  P_all_cons (P_lnk_get (P_s1 (c := 10) (P := fun ci => P_fok P_cl P_Tb "OrchardQuery" 28 ci 3) rfl ⟨_, _, _, "OrchardQuery", rfl, by decide, (Or.inl rfl), (Or.inl w_2_74)⟩)) <|
  P_all_cons (P_lnk_vi (P_vall (l := P_v33) rfl (P_all_cons (show P_vok _ _ _ 5 57 from ⟨_, rfl, rfl, w_1_5, w_3_132, (Or.inl ⟨P_sg 0 rfl, w_3_133, (Or.inl w_4_62)⟩)⟩) (P_all_nil)))) <|
  P_all_cons (P_lnk_st (by decide) (fun _ => ⟨P_sg 2 rfl, w_1_1, w_3_98, (Or.inl w_3_97)⟩)) <|
  P_all_cons (P_lnk_get (P_s1 (c := 10) (P := fun ci => P_fok P_cl P_Tb "OrchardQuery" 28 ci 3) rfl ⟨_, _, _, "OrchardQuery", rfl, by decide, (Or.inl rfl), (Or.inl w_2_74)⟩)) <|
  P_all_cons (P_lnk_vi (P_vall (l := P_v127) rfl (P_all_cons (show P_vok _ _ _ 5 55 from ⟨_, rfl, rfl, w_1_5, w_3_94, (Or.inl ⟨P_sg 0 rfl, w_3_95, (Or.inl w_3_93)⟩)⟩) (P_all_nil)))) <|
  P_all_cons (P_lnk_get (P_s1 (c := 10) (P := fun ci => P_fok P_cl P_Tb "OrchardQuery" 28 ci 3) rfl ⟨_, _, _, "OrchardQuery", rfl, by decide, (Or.inl rfl), (Or.inl w_2_74)⟩)) <|
  P_all_cons (P_lnk_get (P_s1 (c := 10) (P := fun ci => P_fok P_cl P_Tb "OrchardQuery" 28 ci 3) rfl ⟨_, _, _, "OrchardQuery", rfl, by decide, (Or.inl rfl), (Or.inl w_2_74)⟩)) <|
  P_all_cons (P_lnk_vi (P_vall (l := P_v65) rfl (P_all_cons (show P_vok _ _ _ 5 59 from ⟨_, rfl, rfl, w_1_5, w_2_148, (Or.inl ⟨P_sg 1 rfl, w_2_149, (Or.inl w_4_63)⟩)⟩) (P_all_nil)))) <|
  P_all_cons (P_lnk_vi (P_vall (l := P_v142) rfl (P_all_cons (show P_vok _ _ _ 5 62 from ⟨_, rfl, rfl, w_1_5, w_4_65, (Or.inl ⟨P_sg 2 rfl, w_4_66, (Or.inl w_4_64)⟩)⟩) (P_all_nil)))) <|
  P_all_cons (P_lnk_st (by decide) (fun _ => ⟨P_sg 2 rfl, w_1_1, w_3_98, (Or.inl w_3_97)⟩)) <|
  P_all_cons (P_lnk_get (P_s1 (c := 10) (P := fun ci => P_fok P_cl P_Tb "OrchardQuery" 19 ci 2) rfl ⟨_, _, _, "OrchardQuery", rfl, by decide, (Or.inl rfl), (Or.inl w_2_73)⟩)) <|
  P_all_cons (P_lnk_vi (P_vall (l := P_v66) rfl (P_all_cons (show P_vok _ _ _ 3 30 from ⟨_, rfl, rfl, w_1_4, w_3_0, (Or.inl ⟨P_sg 0 rfl, w_3_1, (Or.inl w_3_92)⟩)⟩) (P_all_nil)))) <|
  P_all_cons (P_lnk_get (P_s1 (c := 10) (P := fun ci => P_fok P_cl P_Tb "OrchardQuery" 28 ci 3) rfl ⟨_, _, _, "OrchardQuery", rfl, by decide, (Or.inl rfl), (Or.inl w_2_74)⟩)) <|
  P_all_cons (P_lnk_vi (P_vall (l := P_v74) rfl (P_all_cons (show P_vok _ _ _ 5 58 from ⟨_, rfl, rfl, w_1_5, w_3_170, (Or.inl ⟨P_sg 1 rfl, w_3_171, (Or.inl w_4_77)⟩)⟩) (P_all_nil)))) <|
  P_all_cons (P_lnk_st (by decide) (fun _ => ⟨P_sg 2 rfl, w_1_1, w_3_98, (Or.inl w_3_97)⟩)) <|
  P_all_cons (P_lnk_get (P_s1 (c := 10) (P := fun ci => P_fok P_cl P_Tb "OrchardQuery" 28 ci 3) rfl ⟨_, _, _, "OrchardQuery", rfl, by decide, (Or.inl rfl), (Or.inl w_2_74)⟩)) <|
  P_all_cons (P_lnk_vi (P_vall (l := P_v147) rfl (P_all_cons (show P_vok _ _ _ 5 66 from ⟨_, rfl, rfl, w_1_5, w_4_79, (Or.inl ⟨P_sg 1 rfl, w_4_80, (Or.inl w_4_78)⟩)⟩) (P_all_nil)))) <|
  P_all_cons (P_lnk_st (by decide) (fun _ => ⟨P_sg 2 rfl, w_1_1, w_3_98, (Or.inl w_3_97)⟩)) <|
  P_all_cons (P_lnk_get (P_s1 (c := 10) (P := fun ci => P_fok P_cl P_Tb "OrchardQuery" 28 ci 3) rfl ⟨_, _, _, "OrchardQuery", rfl, by decide, (Or.inl rfl), (Or.inl w_2_74)⟩)) <|
  P_all_cons (P_lnk_vi (P_vall (l := P_v90) rfl (P_all_cons (show P_vok _ _ _ 5 67 from ⟨_, rfl, rfl, w_1_5, w_4_95, (Or.inl ⟨P_sg 0 rfl, w_4_96, (Or.inl w_4_94)⟩)⟩) (P_all_nil)))) <|
  P_all_cons (P_lnk_st (by decide) (fun _ => ⟨P_sg 2 rfl, w_1_1, w_3_98, (Or.inl w_3_97)⟩)) <|
  P_all_nil
set_option maxRecDepth 20000 in
theorem P_m166 : P_mst 166 7 (Option.some Jvm.ClassFile.FieldType.long) P_e166 [] := P_meth (mx := 7) (rt := (Option.some Jvm.ClassFile.FieldType.long)) (hs := []) "OrchardQuery" false prog_1_method_30_code [] rfl rfl rfl rfl (by decide +kernel) (by decide +kernel) (fun _ => P_g166) (by decide) (fun _ _ => by decide +kernel) (fun q => by cases q) (P_all_cons (by decide +kernel) <| P_all_cons (by decide +kernel) <| P_all_cons (by decide +kernel) <| P_all_cons (by decide +kernel) <| P_all_cons (by decide +kernel) <| P_all_nil) P_l166 (by decide +kernel) P_k166 (fun _ _ => P_hok_nil)
/-- OrchardQuery.digestOfResults(J)J -/
def P_l167 : List (Nat × P_I) := [(13, .getfield 60, 16, 10, 6, [], []), (18, .invokevirtual 243, 21, 1, 153, [], []), (22, .invokestatic 270, 25, 2, 171, [], []), (34, .getfield 46, 37, 10, 4, [], []), (37, .invokevirtual 245, 40, 0, 92, [], []), (41, .invokestatic 270, 44, 2, 171, [], []), (51, .getfield 46, 54, 10, 4, [], []), (54, .invokevirtual 245, 57, 0, 92, [], []), (73, .getfield 19, 76, 10, 2, [], []), (76, .invokevirtual 212, 79, 0, 61, [], []), (84, .getfield 46, 87, 10, 4, [], []), (91, .invokevirtual 237, 94, 2, 54, [], []), (95, .invokestatic 270, 98, 2, 171, [], []), (113, .getfield 46, 116, 10, 4, [], []), (116, .invokevirtual 252, 119, 0, 42, [], []), (120, .invokestatic 270, 123, 2, 171, [], []), (124, .getfield 46, 127, 10, 4, [], []), (127, .invokevirtual 255, 130, 0, 43, [], []), (131, .invokestatic 270, 134, 2, 171, [], [])]
set_option maxRecDepth 20000 in
theorem P_k167 : ∀ q ∈ P_l167, P_lnk P_cl P_aty P_stat P_tx P_N0 P_Tb P_Y0 "OrchardQuery" false prog_1_method_31_code [] q.1 q.2.1 q.2.2.2.1 q.2.2.2.2.1 :=
  P_all_cons (P_lnk_get (P_s1 (c := 10) (P := fun ci => P_fok P_cl P_Tb "OrchardQuery" 60 ci 6) rfl ⟨_, _, _, "OrchardQuery", rfl, by decide, (Or.inl rfl), (Or.inl w_2_77)⟩)) <|
  P_all_cons (P_lnk_vi (P_vall (l := P_v153) rfl (P_all_cons (show P_vok _ _ _ 6 89 from ⟨_, rfl, rfl, w_1_12, w_4_103, (Or.inl ⟨P_sg 1 rfl, w_4_104, (Or.inl w_4_102)⟩)⟩) (P_all_nil)))) <|
  P_all_cons (P_lnk_st (by decide) (fun _ => ⟨P_sg 2 rfl, w_1_1, w_3_98, (Or.inl w_3_97)⟩)) <|
  P_all_cons (P_lnk_get (P_s1 (c := 10) (P := fun ci => P_fok P_cl P_Tb "OrchardQuery" 46 ci 4) rfl ⟨_, _, _, "OrchardQuery", rfl, by decide, (Or.inl rfl), (Or.inl w_2_75)⟩)) <|
  P_all_cons (P_lnk_vi (P_vall (l := P_v92) rfl (P_all_cons (show P_vok _ _ _ 0 5 from ⟨_, rfl, rfl, w_1_9, w_4_107, (Or.inl ⟨P_sg 0 rfl, w_4_108, (Or.inl w_4_106)⟩)⟩) (P_all_nil)))) <|
  P_all_cons (P_lnk_st (by decide) (fun _ => ⟨P_sg 2 rfl, w_1_1, w_3_98, (Or.inl w_3_97)⟩)) <|
  P_all_cons (P_lnk_get (P_s1 (c := 10) (P := fun ci => P_fok P_cl P_Tb "OrchardQuery" 46 ci 4) rfl ⟨_, _, _, "OrchardQuery", rfl, by decide, (Or.inl rfl), (Or.inl w_2_75)⟩)) <|
  P_all_cons (P_lnk_vi (P_vall (l := P_v92) rfl (P_all_cons (show P_vok _ _ _ 0 5 from ⟨_, rfl, rfl, w_1_9, w_4_107, (Or.inl ⟨P_sg 0 rfl, w_4_108, (Or.inl w_4_106)⟩)⟩) (P_all_nil)))) <|
  P_all_cons (P_lnk_get (P_s1 (c := 10) (P := fun ci => P_fok P_cl P_Tb "OrchardQuery" 19 ci 2) rfl ⟨_, _, _, "OrchardQuery", rfl, by decide, (Or.inl rfl), (Or.inl w_2_73)⟩)) <|
  P_all_cons (P_lnk_vi (P_vall (l := P_v61) rfl (P_all_cons (show P_vok _ _ _ 3 29 from ⟨_, rfl, rfl, w_1_4, w_3_89, (Or.inl ⟨P_sg 0 rfl, w_3_90, (Or.inl w_3_88)⟩)⟩) (P_all_nil)))) <|
  P_all_cons (P_lnk_get (P_s1 (c := 10) (P := fun ci => P_fok P_cl P_Tb "OrchardQuery" 46 ci 4) rfl ⟨_, _, _, "OrchardQuery", rfl, by decide, (Or.inl rfl), (Or.inl w_2_75)⟩)) <|
  P_all_cons (P_lnk_vi (P_vall (l := P_v54) rfl (P_all_cons (show P_vok _ _ _ 0 8 from ⟨_, rfl, rfl, w_1_9, w_4_45, (Or.inl ⟨P_sg 2 rfl, w_4_46, (Or.inl w_4_110)⟩)⟩) (P_all_nil)))) <|
  P_all_cons (P_lnk_st (by decide) (fun _ => ⟨P_sg 2 rfl, w_1_1, w_3_98, (Or.inl w_3_97)⟩)) <|
  P_all_cons (P_lnk_get (P_s1 (c := 10) (P := fun ci => P_fok P_cl P_Tb "OrchardQuery" 46 ci 4) rfl ⟨_, _, _, "OrchardQuery", rfl, by decide, (Or.inl rfl), (Or.inl w_2_75)⟩)) <|
  P_all_cons (P_lnk_vi (P_vall (l := P_v42) rfl (P_all_cons (show P_vok _ _ _ 0 129 from ⟨_, rfl, rfl, w_1_8, w_4_5, (Or.inr ⟨⟨"OrchardQuery$Answer", "reads", "()I"⟩, "OrchardQuery$Walk", P_sg 0 rfl, by decide, w_4_111, w_4_2, w_4_4, (Or.inl ⟨w_4_5, _, _, _, w_4_6⟩)⟩)⟩) (P_all_nil)))) <|
  P_all_cons (P_lnk_st (by decide) (fun _ => ⟨P_sg 2 rfl, w_1_1, w_3_98, (Or.inl w_3_97)⟩)) <|
  P_all_cons (P_lnk_get (P_s1 (c := 10) (P := fun ci => P_fok P_cl P_Tb "OrchardQuery" 46 ci 4) rfl ⟨_, _, _, "OrchardQuery", rfl, by decide, (Or.inl rfl), (Or.inl w_2_75)⟩)) <|
  P_all_cons (P_lnk_vi (P_vall (l := P_v43) rfl (P_all_cons (show P_vok _ _ _ 0 130 from ⟨_, rfl, rfl, w_1_8, w_4_11, (Or.inr ⟨⟨"OrchardQuery$Answer", "checks", "()I"⟩, "OrchardQuery$Walk", P_sg 0 rfl, by decide, w_4_112, w_4_8, w_4_10, (Or.inl ⟨w_4_11, _, _, _, w_4_12⟩)⟩)⟩) (P_all_nil)))) <|
  P_all_cons (P_lnk_st (by decide) (fun _ => ⟨P_sg 2 rfl, w_1_1, w_3_98, (Or.inl w_3_97)⟩)) <|
  P_all_nil
set_option maxRecDepth 20000 in
theorem P_m167 : P_mst 167 7 (Option.some Jvm.ClassFile.FieldType.long) P_e167 [] := P_meth (mx := 7) (rt := (Option.some Jvm.ClassFile.FieldType.long)) (hs := []) "OrchardQuery" false prog_1_method_31_code [] rfl rfl rfl rfl (by decide +kernel) (by decide +kernel) (fun _ => P_g167) (by decide) (fun _ _ => by decide +kernel) (fun q => by cases q) (P_all_cons (by decide +kernel) <| P_all_cons (by decide +kernel) <| P_all_cons (by decide +kernel) <| P_all_cons (by decide +kernel) <| P_all_cons (by decide +kernel) <| P_all_nil) P_l167 (by decide +kernel) P_k167 (fun _ _ => P_hok_nil)
/-- OrchardQuery.howMany(I)I -/
def P_l168 : List (Nat × P_I) := [(5, .getfield 12, 8, 10, 0, [], []), (8, .invokevirtual 71, 11, 0, 129, [], []), (18, .getfield 37, 21, 10, 1, [], []), (21, .invokevirtual 138, 24, 0, 134, [], []), (26, .getfield 37, 29, 10, 1, [], []), (29, .invokevirtual 278, 32, 0, 158, [], []), (43, .getfield 19, 46, 10, 2, [], []), (46, .invokevirtual 212, 49, 0, 61, [], []), (56, .getfield 19, 59, 10, 2, [], []), (59, .invokevirtual 294, 62, 0, 66, [], []), (66, .getfield 28, 69, 10, 3, [], []), (69, .invokevirtual 291, 72, 0, 127, [], [])]
set_option maxRecDepth 20000 in
theorem P_k168 : ∀ q ∈ P_l168, P_lnk P_cl P_aty P_stat P_tx P_N0 P_Tb P_Y0 "OrchardQuery" false prog_1_method_32_code [] q.1 q.2.1 q.2.2.2.1 q.2.2.2.2.1 :=
  P_all_cons (P_lnk_get (P_s1 (c := 10) (P := fun ci => P_fok P_cl P_Tb "OrchardQuery" 12 ci 0) rfl ⟨_, _, _, "OrchardQuery", rfl, by decide, (Or.inl rfl), (Or.inl w_2_71)⟩)) <|
  P_all_cons (P_lnk_vi (P_vall (l := P_v129) rfl (P_all_cons (show P_vok _ _ _ 8 114 from ⟨_, rfl, rfl, w_1_2, w_3_81, (Or.inl ⟨P_sg 0 rfl, w_3_82, (Or.inl w_3_80)⟩)⟩) (P_all_nil)))) <|
  P_all_cons (P_lnk_get (P_s1 (c := 10) (P := fun ci => P_fok P_cl P_Tb "OrchardQuery" 37 ci 1) rfl ⟨_, _, _, "OrchardQuery", rfl, by decide, (Or.inl rfl), (Or.inl w_2_72)⟩)) <|
  P_all_cons (P_lnk_vi (P_vall (l := P_v134) rfl (P_all_cons (show P_vok _ _ _ 7 91 from ⟨_, rfl, rfl, w_1_7, w_2_98, (Or.inl ⟨P_sg 0 rfl, w_2_99, (Or.inl w_2_97)⟩)⟩) (P_all_nil)))) <|
  P_all_cons (P_lnk_get (P_s1 (c := 10) (P := fun ci => P_fok P_cl P_Tb "OrchardQuery" 37 ci 1) rfl ⟨_, _, _, "OrchardQuery", rfl, by decide, (Or.inl rfl), (Or.inl w_2_72)⟩)) <|
  P_all_cons (P_lnk_vi (P_vall (l := P_v158) rfl (P_all_cons (show P_vok _ _ _ 7 92 from ⟨_, rfl, rfl, w_1_7, w_3_85, (Or.inl ⟨P_sg 0 rfl, w_3_86, (Or.inl w_3_84)⟩)⟩) (P_all_nil)))) <|
  P_all_cons (P_lnk_get (P_s1 (c := 10) (P := fun ci => P_fok P_cl P_Tb "OrchardQuery" 19 ci 2) rfl ⟨_, _, _, "OrchardQuery", rfl, by decide, (Or.inl rfl), (Or.inl w_2_73)⟩)) <|
  P_all_cons (P_lnk_vi (P_vall (l := P_v61) rfl (P_all_cons (show P_vok _ _ _ 3 29 from ⟨_, rfl, rfl, w_1_4, w_3_89, (Or.inl ⟨P_sg 0 rfl, w_3_90, (Or.inl w_3_88)⟩)⟩) (P_all_nil)))) <|
  P_all_cons (P_lnk_get (P_s1 (c := 10) (P := fun ci => P_fok P_cl P_Tb "OrchardQuery" 19 ci 2) rfl ⟨_, _, _, "OrchardQuery", rfl, by decide, (Or.inl rfl), (Or.inl w_2_73)⟩)) <|
  P_all_cons (P_lnk_vi (P_vall (l := P_v66) rfl (P_all_cons (show P_vok _ _ _ 3 30 from ⟨_, rfl, rfl, w_1_4, w_3_0, (Or.inl ⟨P_sg 0 rfl, w_3_1, (Or.inl w_3_92)⟩)⟩) (P_all_nil)))) <|
  P_all_cons (P_lnk_get (P_s1 (c := 10) (P := fun ci => P_fok P_cl P_Tb "OrchardQuery" 28 ci 3) rfl ⟨_, _, _, "OrchardQuery", rfl, by decide, (Or.inl rfl), (Or.inl w_2_74)⟩)) <|
  P_all_cons (P_lnk_vi (P_vall (l := P_v127) rfl (P_all_cons (show P_vok _ _ _ 5 55 from ⟨_, rfl, rfl, w_1_5, w_3_94, (Or.inl ⟨P_sg 0 rfl, w_3_95, (Or.inl w_3_93)⟩)⟩) (P_all_nil)))) <|
  P_all_nil
set_option maxRecDepth 20000 in
theorem P_m168 : P_mst 168 2 (Option.some Jvm.ClassFile.FieldType.int) P_e168 [] := P_meth (mx := 2) (rt := (Option.some Jvm.ClassFile.FieldType.int)) (hs := []) "OrchardQuery" false prog_1_method_32_code [] rfl rfl rfl rfl (by decide +kernel) (by decide +kernel) (fun _ => P_g168) (by decide) (fun _ _ => by decide +kernel) (fun q => by cases q) (P_all_cons (by decide +kernel) <| P_all_cons (by decide +kernel) <| P_all_cons (by decide +kernel) <| P_all_nil) P_l168 (by decide +kernel) P_k168 (fun _ _ => P_hok_nil)
/-- OrchardQuery.refuseUnread()V -/
def P_l169 : List (Nat × P_I) := [(1, .getfield 37, 4, 10, 1, [], []), (4, .invokevirtual 278, 7, 0, 158, [], []), (10, .new 75, 13, 0, 1001, [], [])]
set_option maxRecDepth 20000 in
theorem P_k169 : ∀ q ∈ P_l169, P_lnk P_cl P_aty P_stat P_tx P_N0 P_Tb P_Y0 "OrchardQuery" false prog_1_method_33_code [] q.1 q.2.1 q.2.2.2.1 q.2.2.2.2.1 :=
  P_all_cons (P_lnk_get (P_s1 (c := 10) (P := fun ci => P_fok P_cl P_Tb "OrchardQuery" 37 ci 1) rfl ⟨_, _, _, "OrchardQuery", rfl, by decide, (Or.inl rfl), (Or.inl w_2_72)⟩)) <|
  P_all_cons (P_lnk_vi (P_vall (l := P_v158) rfl (P_all_cons (show P_vok _ _ _ 7 92 from ⟨_, rfl, rfl, w_1_7, w_3_85, (Or.inl ⟨P_sg 0 rfl, w_3_86, (Or.inl w_3_84)⟩)⟩) (P_all_nil)))) <|
  P_all_cons (P_lnk_thr (by decide) (fun _ => ⟨"the query is not read", 297, 79, P_BB, rfl, rfl, by decide +kernel, by decide +kernel, w_4_190, w_1_18, by decide +kernel, P_at_10_79, by decide +kernel, by decide +kernel, (Or.inr ⟨by decide +kernel, by decide +kernel, by decide +kernel⟩)⟩)) <|
  P_all_nil
set_option maxRecDepth 20000 in
theorem P_m169 : P_mst 169 1 (Option.none : Option Jvm.ClassFile.FieldType) P_e169 [] := P_meth (mx := 1) (rt := (Option.none : Option Jvm.ClassFile.FieldType)) (hs := []) "OrchardQuery" false prog_1_method_33_code [] rfl rfl rfl rfl (by decide +kernel) (by decide +kernel) (fun _ => P_g169) (by decide) (fun _ _ => by decide +kernel) (fun q => by cases q) (P_all_cons (by decide +kernel) <| P_all_nil) P_l169 (by decide +kernel) P_k169 (fun _ _ => P_hok_nil)
/-- OrchardQuery.becomeOther()V -/
def P_l170 : List (Nat × P_I) := [(1, .getfield 60, 4, 10, 6, [], []), (4, .invokevirtual 299, 7, 0, 91, [], []), (8, .getfield 46, 11, 10, 4, [], []), (11, .invokevirtual 302, 14, 0, 161, [], [])]
set_option maxRecDepth 20000 in
theorem P_k170 : ∀ q ∈ P_l170, P_lnk P_cl P_aty P_stat P_tx P_N0 P_Tb P_Y0 "OrchardQuery" false prog_1_method_34_code [] q.1 q.2.1 q.2.2.2.1 q.2.2.2.2.1 :=
  P_all_cons (P_lnk_get (P_s1 (c := 10) (P := fun ci => P_fok P_cl P_Tb "OrchardQuery" 60 ci 6) rfl ⟨_, _, _, "OrchardQuery", rfl, by decide, (Or.inl rfl), (Or.inl w_2_77)⟩)) <|
  P_all_cons (P_lnk_vi (P_vall (l := P_v91) rfl (P_all_cons (show P_vok _ _ _ 6 85 from ⟨_, rfl, rfl, w_1_12, w_2_114, (Or.inl ⟨P_sg 0 rfl, w_2_115, (Or.inl w_2_113)⟩)⟩) (P_all_nil)))) <|
  P_all_cons (P_lnk_get (P_s1 (c := 10) (P := fun ci => P_fok P_cl P_Tb "OrchardQuery" 46 ci 4) rfl ⟨_, _, _, "OrchardQuery", rfl, by decide, (Or.inl rfl), (Or.inl w_2_75)⟩)) <|
  P_all_cons (P_lnk_vi (P_vall (l := P_v161) rfl (P_all_cons (show P_vok _ _ _ 0 2 from ⟨_, rfl, rfl, w_1_9, w_2_118, (Or.inl ⟨P_sg 0 rfl, w_2_119, (Or.inl w_2_117)⟩)⟩) (P_all_nil)))) <|
  P_all_nil
set_option maxRecDepth 20000 in
theorem P_m170 : P_mst 170 1 (Option.none : Option Jvm.ClassFile.FieldType) P_e170 [] := P_meth (mx := 1) (rt := (Option.none : Option Jvm.ClassFile.FieldType)) (hs := []) "OrchardQuery" false prog_1_method_34_code [] rfl rfl rfl rfl (by decide +kernel) (by decide +kernel) (fun _ => P_g170) (by decide) (fun _ _ => by decide +kernel) (fun q => by cases q) (P_all_cons (by decide +kernel) <| P_all_nil) P_l170 (by decide +kernel) P_k170 (fun _ _ => P_hok_nil)
/-- OrchardQuery.mix(JJ)J -/
def P_l171 : List (Nat × P_I) := [(1, .ldc2_w 305, 4, 31, 0, [], [])]
set_option maxRecDepth 20000 in
theorem P_k171 : ∀ q ∈ P_l171, P_lnk P_cl P_aty P_stat P_tx P_N0 P_Tb P_Y0 "OrchardQuery" false prog_1_method_35_code [] q.1 q.2.1 q.2.2.2.1 q.2.2.2.2.1 :=
  P_all_cons (P_lnk_ldl w_3_100) <|
  P_all_nil
set_option maxRecDepth 20000 in
theorem P_m171 : P_mst 171 4 (Option.some Jvm.ClassFile.FieldType.long) P_e171 [] := P_meth (mx := 4) (rt := (Option.some Jvm.ClassFile.FieldType.long)) (hs := []) "OrchardQuery" false prog_1_method_35_code [] rfl rfl rfl rfl (by decide +kernel) (by decide +kernel) (fun _ => P_g171) (by decide) (fun _ _ => by decide +kernel) (fun q => by cases q) (P_all_cons (by decide +kernel) <| P_all_nil) P_l171 (by decide +kernel) P_k171 (fun _ _ => P_hok_nil)
/-- OrchardQuery.isValue(I)Z -/
def P_l172 : List (Nat × P_I) := []
set_option maxRecDepth 20000 in
theorem P_k172 : ∀ q ∈ P_l172, P_lnk P_cl P_aty P_stat P_tx P_N0 P_Tb P_Y0 "OrchardQuery" false prog_1_method_36_code [] q.1 q.2.1 q.2.2.2.1 q.2.2.2.2.1 :=
  P_all_nil
set_option maxRecDepth 20000 in
theorem P_m172 : P_mst 172 1 (Option.some Jvm.ClassFile.FieldType.boolean) P_e172 [] := P_meth (mx := 1) (rt := (Option.some Jvm.ClassFile.FieldType.boolean)) (hs := []) "OrchardQuery" false prog_1_method_36_code [] rfl rfl rfl rfl (by decide +kernel) (by decide +kernel) (fun _ => P_g172) (by decide) (fun _ _ => by decide +kernel) (fun q => by cases q) (P_all_cons (by decide +kernel) <| P_all_nil) P_l172 (by decide +kernel) P_k172 (fun _ _ => P_hok_nil)
/-- OrchardQuery.isToken(I)Z -/
def P_l173 : List (Nat × P_I) := [(11, .invokestatic 307, 14, 1, 174, [], []), (18, .invokestatic 310, 21, 1, 175, [], []), (25, .invokestatic 313, 28, 1, 176, [], [])]
set_option maxRecDepth 20000 in
theorem P_k173 : ∀ q ∈ P_l173, P_lnk P_cl P_aty P_stat P_tx P_N0 P_Tb P_Y0 "OrchardQuery" false prog_1_method_37_code [] q.1 q.2.1 q.2.2.2.1 q.2.2.2.2.1 :=
  P_all_cons (P_lnk_st (by decide) (fun _ => ⟨P_sg 1 rfl, w_1_1, w_2_206, (Or.inl w_5_45)⟩)) <|
  P_all_cons (P_lnk_st (by decide) (fun _ => ⟨P_sg 1 rfl, w_1_1, w_2_163, (Or.inl w_5_46)⟩)) <|
  P_all_cons (P_lnk_st (by decide) (fun _ => ⟨P_sg 1 rfl, w_1_1, w_2_233, (Or.inl w_5_47)⟩)) <|
  P_all_nil
set_option maxRecDepth 20000 in
theorem P_m173 : P_mst 173 1 (Option.some Jvm.ClassFile.FieldType.boolean) P_e173 [] := P_meth (mx := 1) (rt := (Option.some Jvm.ClassFile.FieldType.boolean)) (hs := []) "OrchardQuery" false prog_1_method_37_code [] rfl rfl rfl rfl (by decide +kernel) (by decide +kernel) (fun _ => P_g173) (by decide) (fun _ _ => by decide +kernel) (fun q => by cases q) (P_all_cons (by decide +kernel) <| P_all_cons (by decide +kernel) <| P_all_nil) P_l173 (by decide +kernel) P_k173 (fun _ _ => P_hok_nil)
/-- OrchardQuery.isTable(I)Z -/
def P_l174 : List (Nat × P_I) := []
set_option maxRecDepth 20000 in
theorem P_k174 : ∀ q ∈ P_l174, P_lnk P_cl P_aty P_stat P_tx P_N0 P_Tb P_Y0 "OrchardQuery" false prog_1_method_38_code [] q.1 q.2.1 q.2.2.2.1 q.2.2.2.2.1 :=
  P_all_nil
set_option maxRecDepth 20000 in
theorem P_m174 : P_mst 174 1 (Option.some Jvm.ClassFile.FieldType.boolean) P_e174 [] := P_meth (mx := 1) (rt := (Option.some Jvm.ClassFile.FieldType.boolean)) (hs := []) "OrchardQuery" false prog_1_method_38_code [] rfl rfl rfl rfl (by decide +kernel) (by decide +kernel) (fun _ => P_g174) (by decide) (fun _ _ => by decide +kernel) (fun q => by cases q) (P_all_cons (by decide +kernel) <| P_all_nil) P_l174 (by decide +kernel) P_k174 (fun _ _ => P_hok_nil)
/-- OrchardQuery.isColumn(I)Z -/
def P_l175 : List (Nat × P_I) := []
set_option maxRecDepth 20000 in
theorem P_k175 : ∀ q ∈ P_l175, P_lnk P_cl P_aty P_stat P_tx P_N0 P_Tb P_Y0 "OrchardQuery" false prog_1_method_39_code [] q.1 q.2.1 q.2.2.2.1 q.2.2.2.2.1 :=
  P_all_nil
set_option maxRecDepth 20000 in
theorem P_m175 : P_mst 175 1 (Option.some Jvm.ClassFile.FieldType.boolean) P_e175 [] := P_meth (mx := 1) (rt := (Option.some Jvm.ClassFile.FieldType.boolean)) (hs := []) "OrchardQuery" false prog_1_method_39_code [] rfl rfl rfl rfl (by decide +kernel) (by decide +kernel) (fun _ => P_g175) (by decide) (fun _ _ => by decide +kernel) (fun q => by cases q) (P_all_cons (by decide +kernel) <| P_all_nil) P_l175 (by decide +kernel) P_k175 (fun _ _ => P_hok_nil)
/-- OrchardQuery.isNumber(I)Z -/
def P_l176 : List (Nat × P_I) := []
set_option maxRecDepth 20000 in
theorem P_k176 : ∀ q ∈ P_l176, P_lnk P_cl P_aty P_stat P_tx P_N0 P_Tb P_Y0 "OrchardQuery" false prog_1_method_40_code [] q.1 q.2.1 q.2.2.2.1 q.2.2.2.2.1 :=
  P_all_nil
set_option maxRecDepth 20000 in
theorem P_m176 : P_mst 176 1 (Option.some Jvm.ClassFile.FieldType.boolean) P_e176 [] := P_meth (mx := 1) (rt := (Option.some Jvm.ClassFile.FieldType.boolean)) (hs := []) "OrchardQuery" false prog_1_method_40_code [] rfl rfl rfl rfl (by decide +kernel) (by decide +kernel) (fun _ => P_g176) (by decide) (fun _ _ => by decide +kernel) (fun q => by cases q) (P_all_cons (by decide +kernel) <| P_all_nil) P_l176 (by decide +kernel) P_k176 (fun _ _ => P_hok_nil)
/-- OrchardQuery.seatOf(I)I -/
def P_l177 : List (Nat × P_I) := []
set_option maxRecDepth 20000 in
theorem P_k177 : ∀ q ∈ P_l177, P_lnk P_cl P_aty P_stat P_tx P_N0 P_Tb P_Y0 "OrchardQuery" false prog_1_method_41_code [] q.1 q.2.1 q.2.2.2.1 q.2.2.2.2.1 :=
  P_all_nil
set_option maxRecDepth 20000 in
theorem P_m177 : P_mst 177 1 (Option.some Jvm.ClassFile.FieldType.int) P_e177 [] := P_meth (mx := 1) (rt := (Option.some Jvm.ClassFile.FieldType.int)) (hs := []) "OrchardQuery" false prog_1_method_41_code [] rfl rfl rfl rfl (by decide +kernel) (by decide +kernel) (fun _ => P_g177) (by decide) (fun _ _ => by decide +kernel) (fun q => by cases q) (P_all_cons (by decide +kernel) <| P_all_nil) P_l177 (by decide +kernel) P_k177 (fun _ _ => P_hok_nil)
/-- OrchardQuery.columnOf(I)I -/
def P_l178 : List (Nat × P_I) := []
set_option maxRecDepth 20000 in
theorem P_k178 : ∀ q ∈ P_l178, P_lnk P_cl P_aty P_stat P_tx P_N0 P_Tb P_Y0 "OrchardQuery" false prog_1_method_42_code [] q.1 q.2.1 q.2.2.2.1 q.2.2.2.2.1 :=
  P_all_nil
set_option maxRecDepth 20000 in
theorem P_m178 : P_mst 178 1 (Option.some Jvm.ClassFile.FieldType.int) P_e178 [] := P_meth (mx := 1) (rt := (Option.some Jvm.ClassFile.FieldType.int)) (hs := []) "OrchardQuery" false prog_1_method_42_code [] rfl rfl rfl rfl (by decide +kernel) (by decide +kernel) (fun _ => P_g178) (by decide) (fun _ _ => by decide +kernel) (fun q => by cases q) (P_all_cons (by decide +kernel) <| P_all_nil) P_l178 (by decide +kernel) P_k178 (fun _ _ => P_hok_nil)
/-- OrchardQuery.get([II)I -/
def P_l179 : List (Nat × P_I) := []
set_option maxRecDepth 20000 in
theorem P_k179 : ∀ q ∈ P_l179, P_lnk P_cl P_aty P_stat P_tx P_N0 P_Tb P_Y0 "OrchardQuery" false prog_1_method_43_code [] q.1 q.2.1 q.2.2.2.1 q.2.2.2.2.1 :=
  P_all_nil
set_option maxRecDepth 20000 in
theorem P_m179 : P_mst 179 2 (Option.some Jvm.ClassFile.FieldType.int) P_e179 [] := P_meth (mx := 2) (rt := (Option.some Jvm.ClassFile.FieldType.int)) (hs := []) "OrchardQuery" false prog_1_method_43_code [] rfl rfl rfl rfl (by decide +kernel) (by decide +kernel) (fun _ => P_g179) (by decide) (fun _ _ => by decide +kernel) (fun q => by cases q) (P_all_cons (by decide +kernel) <| P_all_nil) P_l179 (by decide +kernel) P_k179 (fun _ _ => P_hok_nil)
/-- OrchardQuery.put([III)V -/
def P_l180 : List (Nat × P_I) := []
set_option maxRecDepth 20000 in
theorem P_k180 : ∀ q ∈ P_l180, P_lnk P_cl P_aty P_stat P_tx P_N0 P_Tb P_Y0 "OrchardQuery" false prog_1_method_44_code [] q.1 q.2.1 q.2.2.2.1 q.2.2.2.2.1 :=
  P_all_nil
set_option maxRecDepth 20000 in
theorem P_m180 : P_mst 180 3 (Option.none : Option Jvm.ClassFile.FieldType) P_e180 [] := P_meth (mx := 3) (rt := (Option.none : Option Jvm.ClassFile.FieldType)) (hs := []) "OrchardQuery" false prog_1_method_44_code [] rfl rfl rfl rfl (by decide +kernel) (by decide +kernel) (fun _ => P_g180) (by decide) (fun _ _ => by decide +kernel) (fun q => by cases q) (P_all_cons (by decide +kernel) <| P_all_nil) P_l180 (by decide +kernel) P_k180 (fun _ _ => P_hok_nil)
/-- OrchardQuery.fill([II)V -/
def P_l181 : List (Nat × P_I) := []
set_option maxRecDepth 20000 in
theorem P_k181 : ∀ q ∈ P_l181, P_lnk P_cl P_aty P_stat P_tx P_N0 P_Tb P_Y0 "OrchardQuery" false prog_1_method_45_code [] q.1 q.2.1 q.2.2.2.1 q.2.2.2.2.1 :=
  P_all_nil
set_option maxRecDepth 20000 in
theorem P_m181 : P_mst 181 3 (Option.none : Option Jvm.ClassFile.FieldType) P_e181 [] := P_meth (mx := 3) (rt := (Option.none : Option Jvm.ClassFile.FieldType)) (hs := []) "OrchardQuery" false prog_1_method_45_code [] rfl rfl rfl rfl (by decide +kernel) (by decide +kernel) (fun _ => P_g181) (by decide) (fun _ _ => by decide +kernel) (fun q => by cases q) (P_all_cons (by decide +kernel) <| P_all_nil) P_l181 (by decide +kernel) P_k181 (fun _ _ => P_hok_nil)
/-- OrchardQueryModel.<init>()V -/
def P_l182 : List (Nat × P_I) := [(1, .invokespecial 1, 4, 0, 9000, [], []), (6, .newarray .int, 8, 0, 0, [], []), (8, .putfield 9, 11, 11, 2, [], []), (13, .newarray .int, 15, 0, 0, [], []), (15, .putfield 13, 18, 11, 3, [], []), (22, .newarray .int, 24, 0, 0, [], []), (24, .putfield 16, 27, 11, 4, [], []), (30, .newarray .int, 32, 0, 0, [], []), (32, .putfield 19, 35, 11, 6, [], []), (37, .putfield 22, 40, 11, 8, [], []), (42, .newarray .int, 44, 0, 0, [], []), (44, .putfield 26, 47, 11, 10, [], []), (49, .newarray .boolean, 51, 0, 3, [], []), (51, .putfield 29, 54, 11, 11, [], []), (56, .newarray .int, 58, 0, 0, [], []), (58, .putfield 33, 61, 11, 13, [], []), (64, .newarray .int, 66, 0, 0, [], []), (66, .putfield 36, 69, 11, 18, [], []), (72, .newarray .int, 74, 0, 0, [], []), (74, .putfield 39, 77, 11, 19, [], []), (80, .newarray .int, 82, 0, 0, [], []), (82, .putfield 42, 85, 11, 20, [], []), (88, .newarray .int, 90, 0, 0, [], []), (90, .putfield 45, 93, 11, 21, [], []), (95, .newarray .int, 97, 0, 0, [], []), (97, .putfield 48, 100, 11, 22, [], []), (102, .newarray .int, 104, 0, 0, [], []), (104, .putfield 51, 107, 11, 27, [], []), (109, .newarray .int, 111, 0, 0, [], []), (111, .putfield 54, 114, 11, 28, [], []), (116, .anewarray 57, 119, 0, 200, [], []), (119, .putfield 58, 122, 11, 34, [], [])]
set_option maxRecDepth 20000 in
theorem P_k182 : ∀ q ∈ P_l182, P_lnk P_cl P_aty P_stat P_tx P_N0 P_Tb P_Y0 "OrchardQueryModel" true prog_14_method_1_code [] q.1 q.2.1 q.2.2.2.1 q.2.2.2.2.1 :=
  P_all_cons (P_lnk_oj (fun _ => ⟨w_6_89, w_1_28, w_1_29⟩)) <|
  P_all_cons (P_lnk_nwa rfl w_1_56) <|
  P_all_cons (P_lnk_put (P_s1 (c := 11) (P := fun ci => P_pok P_cl P_Tb "OrchardQueryModel" true 9 ci 2) rfl ⟨_, _, _, "OrchardQueryModel", rfl, by decide, (Or.inl rfl), (Or.inl ⟨w_6_94, (Or.inr ⟨rfl, rfl, rfl⟩)⟩)⟩)) <|
  P_all_cons (P_lnk_nwa rfl w_1_56) <|
  P_all_cons (P_lnk_put (P_s1 (c := 11) (P := fun ci => P_pok P_cl P_Tb "OrchardQueryModel" true 13 ci 3) rfl ⟨_, _, _, "OrchardQueryModel", rfl, by decide, (Or.inl rfl), (Or.inl ⟨w_6_95, (Or.inr ⟨rfl, rfl, rfl⟩)⟩)⟩)) <|
  P_all_cons (P_lnk_nwa rfl w_1_56) <|
  P_all_cons (P_lnk_put (P_s1 (c := 11) (P := fun ci => P_pok P_cl P_Tb "OrchardQueryModel" true 16 ci 4) rfl ⟨_, _, _, "OrchardQueryModel", rfl, by decide, (Or.inl rfl), (Or.inl ⟨w_6_96, (Or.inr ⟨rfl, rfl, rfl⟩)⟩)⟩)) <|
  P_all_cons (P_lnk_nwa rfl w_1_56) <|
  P_all_cons (P_lnk_put (P_s1 (c := 11) (P := fun ci => P_pok P_cl P_Tb "OrchardQueryModel" true 19 ci 6) rfl ⟨_, _, _, "OrchardQueryModel", rfl, by decide, (Or.inl rfl), (Or.inl ⟨w_6_98, (Or.inr ⟨rfl, rfl, rfl⟩)⟩)⟩)) <|
  P_all_cons (P_lnk_put (P_s1 (c := 11) (P := fun ci => P_pok P_cl P_Tb "OrchardQueryModel" true 22 ci 8) rfl ⟨_, _, _, "OrchardQueryModel", rfl, by decide, (Or.inl rfl), (Or.inl ⟨w_6_100, (Or.inl rfl)⟩)⟩)) <|
  P_all_cons (P_lnk_nwa rfl w_1_56) <|
  P_all_cons (P_lnk_put (P_s1 (c := 11) (P := fun ci => P_pok P_cl P_Tb "OrchardQueryModel" true 26 ci 10) rfl ⟨_, _, _, "OrchardQueryModel", rfl, by decide, (Or.inl rfl), (Or.inl ⟨w_6_102, (Or.inr ⟨rfl, rfl, rfl⟩)⟩)⟩)) <|
  P_all_cons (P_lnk_nwa rfl w_6_198) <|
  P_all_cons (P_lnk_put (P_s1 (c := 11) (P := fun ci => P_pok P_cl P_Tb "OrchardQueryModel" true 29 ci 11) rfl ⟨_, _, _, "OrchardQueryModel", rfl, by decide, (Or.inl rfl), (Or.inl ⟨w_6_103, (Or.inr ⟨rfl, rfl, rfl⟩)⟩)⟩)) <|
  P_all_cons (P_lnk_nwa rfl w_1_56) <|
  P_all_cons (P_lnk_put (P_s1 (c := 11) (P := fun ci => P_pok P_cl P_Tb "OrchardQueryModel" true 33 ci 13) rfl ⟨_, _, _, "OrchardQueryModel", rfl, by decide, (Or.inl rfl), (Or.inl ⟨w_6_105, (Or.inr ⟨rfl, rfl, rfl⟩)⟩)⟩)) <|
  P_all_cons (P_lnk_nwa rfl w_1_56) <|
  P_all_cons (P_lnk_put (P_s1 (c := 11) (P := fun ci => P_pok P_cl P_Tb "OrchardQueryModel" true 36 ci 18) rfl ⟨_, _, _, "OrchardQueryModel", rfl, by decide, (Or.inl rfl), (Or.inl ⟨w_6_110, (Or.inr ⟨rfl, rfl, rfl⟩)⟩)⟩)) <|
  P_all_cons (P_lnk_nwa rfl w_1_56) <|
  P_all_cons (P_lnk_put (P_s1 (c := 11) (P := fun ci => P_pok P_cl P_Tb "OrchardQueryModel" true 39 ci 19) rfl ⟨_, _, _, "OrchardQueryModel", rfl, by decide, (Or.inl rfl), (Or.inl ⟨w_6_111, (Or.inr ⟨rfl, rfl, rfl⟩)⟩)⟩)) <|
  P_all_cons (P_lnk_nwa rfl w_1_56) <|
  P_all_cons (P_lnk_put (P_s1 (c := 11) (P := fun ci => P_pok P_cl P_Tb "OrchardQueryModel" true 42 ci 20) rfl ⟨_, _, _, "OrchardQueryModel", rfl, by decide, (Or.inl rfl), (Or.inl ⟨w_6_112, (Or.inr ⟨rfl, rfl, rfl⟩)⟩)⟩)) <|
  P_all_cons (P_lnk_nwa rfl w_1_56) <|
  P_all_cons (P_lnk_put (P_s1 (c := 11) (P := fun ci => P_pok P_cl P_Tb "OrchardQueryModel" true 45 ci 21) rfl ⟨_, _, _, "OrchardQueryModel", rfl, by decide, (Or.inl rfl), (Or.inl ⟨w_6_113, (Or.inr ⟨rfl, rfl, rfl⟩)⟩)⟩)) <|
  P_all_cons (P_lnk_nwa rfl w_1_56) <|
  P_all_cons (P_lnk_put (P_s1 (c := 11) (P := fun ci => P_pok P_cl P_Tb "OrchardQueryModel" true 48 ci 22) rfl ⟨_, _, _, "OrchardQueryModel", rfl, by decide, (Or.inl rfl), (Or.inl ⟨w_6_114, (Or.inr ⟨rfl, rfl, rfl⟩)⟩)⟩)) <|
  P_all_cons (P_lnk_nwa rfl w_1_56) <|
  P_all_cons (P_lnk_put (P_s1 (c := 11) (P := fun ci => P_pok P_cl P_Tb "OrchardQueryModel" true 51 ci 27) rfl ⟨_, _, _, "OrchardQueryModel", rfl, by decide, (Or.inl rfl), (Or.inl ⟨w_6_119, (Or.inl rfl)⟩)⟩)) <|
  P_all_cons (P_lnk_nwa rfl w_1_56) <|
  P_all_cons (P_lnk_put (P_s1 (c := 11) (P := fun ci => P_pok P_cl P_Tb "OrchardQueryModel" true 54 ci 28) rfl ⟨_, _, _, "OrchardQueryModel", rfl, by decide, (Or.inl rfl), (Or.inl ⟨w_6_120, (Or.inr ⟨rfl, rfl, rfl⟩)⟩)⟩)) <|
  P_all_cons (P_lnk_anr (t := .int) rfl w_6_90 w_6_91) <|
  P_all_cons (P_lnk_put (P_s1 (c := 11) (P := fun ci => P_pok P_cl P_Tb "OrchardQueryModel" true 58 ci 34) rfl ⟨_, _, _, "OrchardQueryModel", rfl, by decide, (Or.inl rfl), (Or.inl ⟨w_6_126, (Or.inl rfl)⟩)⟩)) <|
  P_all_nil
set_option maxRecDepth 20000 in
theorem P_m182 : P_mst 182 1 (Option.none : Option Jvm.ClassFile.FieldType) P_e182 [] := P_meth (mx := 1) (rt := (Option.none : Option Jvm.ClassFile.FieldType)) (hs := []) "OrchardQueryModel" true prog_14_method_1_code [] rfl rfl rfl rfl (by decide +kernel) (by decide +kernel) (fun _ => P_g182) (by decide) (fun t q => by cases q) (fun _ => rfl) (P_all_cons (by decide +kernel) <| P_all_cons (by decide +kernel) <| P_all_cons (by decide +kernel) <| P_all_cons (by decide +kernel) <| P_all_nil) P_l182 (by decide +kernel) P_k182 (fun _ _ => P_hok_nil)
/-- OrchardQueryModel.thrown()I -/
def P_l183 : List (Nat × P_I) := [(1, .getfield 62, 4, 11, 0, [], [])]
set_option maxRecDepth 20000 in
theorem P_k183 : ∀ q ∈ P_l183, P_lnk P_cl P_aty P_stat P_tx P_N0 P_Tb P_Y0 "OrchardQueryModel" false prog_14_method_2_code [] q.1 q.2.1 q.2.2.2.1 q.2.2.2.2.1 :=
  P_all_cons (P_lnk_get (P_s1 (c := 11) (P := fun ci => P_fok P_cl P_Tb "OrchardQueryModel" 62 ci 0) rfl ⟨_, _, _, "OrchardQueryModel", rfl, by decide, (Or.inl rfl), (Or.inl w_6_92)⟩)) <|
  P_all_nil
set_option maxRecDepth 20000 in
theorem P_m183 : P_mst 183 1 (Option.some Jvm.ClassFile.FieldType.int) P_e183 [] := P_meth (mx := 1) (rt := (Option.some Jvm.ClassFile.FieldType.int)) (hs := []) "OrchardQueryModel" false prog_14_method_2_code [] rfl rfl rfl rfl (by decide +kernel) (by decide +kernel) (fun _ => P_g183) (by decide) (fun _ _ => by decide +kernel) (fun q => by cases q) (P_all_cons (by decide +kernel) <| P_all_nil) P_l183 (by decide +kernel) P_k183 (fun _ _ => P_hok_nil)
/-- OrchardQueryModel.no(I)I -/
def P_l184 : List (Nat × P_I) := [(2, .putfield 62, 5, 11, 0, [], [])]
set_option maxRecDepth 20000 in
theorem P_k184 : ∀ q ∈ P_l184, P_lnk P_cl P_aty P_stat P_tx P_N0 P_Tb P_Y0 "OrchardQueryModel" false prog_14_method_3_code [] q.1 q.2.1 q.2.2.2.1 q.2.2.2.2.1 :=
  P_all_cons (P_lnk_put (P_s1 (c := 11) (P := fun ci => P_pok P_cl P_Tb "OrchardQueryModel" false 62 ci 0) rfl ⟨_, _, _, "OrchardQueryModel", rfl, by decide, (Or.inl rfl), (Or.inl ⟨w_6_92, (Or.inl rfl)⟩)⟩)) <|
  P_all_nil
set_option maxRecDepth 20000 in
theorem P_m184 : P_mst 184 2 (Option.some Jvm.ClassFile.FieldType.int) P_e184 [] := P_meth (mx := 2) (rt := (Option.some Jvm.ClassFile.FieldType.int)) (hs := []) "OrchardQueryModel" false prog_14_method_3_code [] rfl rfl rfl rfl (by decide +kernel) (by decide +kernel) (fun _ => P_g184) (by decide) (fun _ _ => by decide +kernel) (fun q => by cases q) (P_all_cons (by decide +kernel) <| P_all_nil) P_l184 (by decide +kernel) P_k184 (fun _ _ => P_hok_nil)
/-- OrchardQueryModel.ok(I)I -/
def P_l185 : List (Nat × P_I) := [(2, .putfield 62, 5, 11, 0, [], [])]
set_option maxRecDepth 20000 in
theorem P_k185 : ∀ q ∈ P_l185, P_lnk P_cl P_aty P_stat P_tx P_N0 P_Tb P_Y0 "OrchardQueryModel" false prog_14_method_4_code [] q.1 q.2.1 q.2.2.2.1 q.2.2.2.2.1 :=
  P_all_cons (P_lnk_put (P_s1 (c := 11) (P := fun ci => P_pok P_cl P_Tb "OrchardQueryModel" false 62 ci 0) rfl ⟨_, _, _, "OrchardQueryModel", rfl, by decide, (Or.inl rfl), (Or.inl ⟨w_6_92, (Or.inl rfl)⟩)⟩)) <|
  P_all_nil
set_option maxRecDepth 20000 in
theorem P_m185 : P_mst 185 2 (Option.some Jvm.ClassFile.FieldType.int) P_e185 [] := P_meth (mx := 2) (rt := (Option.some Jvm.ClassFile.FieldType.int)) (hs := []) "OrchardQueryModel" false prog_14_method_4_code [] rfl rfl rfl rfl (by decide +kernel) (by decide +kernel) (fun _ => P_g185) (by decide) (fun _ _ => by decide +kernel) (fun q => by cases q) (P_all_cons (by decide +kernel) <| P_all_nil) P_l185 (by decide +kernel) P_k185 (fun _ _ => P_hok_nil)
/-- OrchardQueryModel.isIn(III)Z -/
def P_l186 : List (Nat × P_I) := []
set_option maxRecDepth 20000 in
theorem P_k186 : ∀ q ∈ P_l186, P_lnk P_cl P_aty P_stat P_tx P_N0 P_Tb P_Y0 "OrchardQueryModel" false prog_14_method_5_code [] q.1 q.2.1 q.2.2.2.1 q.2.2.2.2.1 :=
  P_all_nil
set_option maxRecDepth 20000 in
theorem P_m186 : P_mst 186 3 (Option.some Jvm.ClassFile.FieldType.boolean) P_e186 [] := P_meth (mx := 3) (rt := (Option.some Jvm.ClassFile.FieldType.boolean)) (hs := []) "OrchardQueryModel" false prog_14_method_5_code [] rfl rfl rfl rfl (by decide +kernel) (by decide +kernel) (fun _ => P_g186) (by decide) (fun _ _ => by decide +kernel) (fun q => by cases q) (P_all_cons (by decide +kernel) <| P_all_nil) P_l186 (by decide +kernel) P_k186 (fun _ _ => P_hok_nil)
/-- OrchardQueryModel.isTable(I)Z -/
def P_l187 : List (Nat × P_I) := [(3, .getfield 65, 6, 11, 1, [], []), (8, .invokestatic 68, 11, 3, 186, [], [])]
set_option maxRecDepth 20000 in
theorem P_k187 : ∀ q ∈ P_l187, P_lnk P_cl P_aty P_stat P_tx P_N0 P_Tb P_Y0 "OrchardQueryModel" false prog_14_method_6_code [] q.1 q.2.1 q.2.2.2.1 q.2.2.2.2.1 :=
  P_all_cons (P_lnk_get (P_s1 (c := 11) (P := fun ci => P_fok P_cl P_Tb "OrchardQueryModel" 65 ci 1) rfl ⟨_, _, _, "OrchardQueryModel", rfl, by decide, (Or.inl rfl), (Or.inl w_6_93)⟩)) <|
  P_all_cons (P_lnk_st (by decide) (fun _ => ⟨P_sg 3 rfl, w_1_13, w_6_208, (Or.inl w_6_207)⟩)) <|
  P_all_nil
set_option maxRecDepth 20000 in
theorem P_m187 : P_mst 187 2 (Option.some Jvm.ClassFile.FieldType.boolean) P_e187 [] := P_meth (mx := 2) (rt := (Option.some Jvm.ClassFile.FieldType.boolean)) (hs := []) "OrchardQueryModel" false prog_14_method_6_code [] rfl rfl rfl rfl (by decide +kernel) (by decide +kernel) (fun _ => P_g187) (by decide) (fun _ _ => by decide +kernel) (fun q => by cases q) (P_all_cons (by decide +kernel) <| P_all_nil) P_l187 (by decide +kernel) P_k187 (fun _ _ => P_hok_nil)
/-- OrchardQueryModel.table(I)I -/
def P_l188 : List (Nat × P_I) := [(2, .putfield 62, 5, 11, 0, [], []), (8, .invokestatic 68, 11, 3, 186, [], []), (16, .invokevirtual 72, 19, 1, 162, [], []), (21, .getfield 65, 24, 11, 1, [], []), (30, .invokevirtual 72, 33, 1, 162, [], []), (35, .getfield 9, 38, 11, 2, [], []), (39, .getfield 65, 42, 11, 1, [], []), (46, .getfield 65, 49, 11, 1, [], []), (52, .putfield 65, 55, 11, 1, [], [])]
set_option maxRecDepth 20000 in
theorem P_k188 : ∀ q ∈ P_l188, P_lnk P_cl P_aty P_stat P_tx P_N0 P_Tb P_Y0 "OrchardQueryModel" false prog_14_method_7_code [] q.1 q.2.1 q.2.2.2.1 q.2.2.2.2.1 :=
  P_all_cons (P_lnk_put (P_s1 (c := 11) (P := fun ci => P_pok P_cl P_Tb "OrchardQueryModel" false 62 ci 0) rfl ⟨_, _, _, "OrchardQueryModel", rfl, by decide, (Or.inl rfl), (Or.inl ⟨w_6_92, (Or.inl rfl)⟩)⟩)) <|
  P_all_cons (P_lnk_st (by decide) (fun _ => ⟨P_sg 3 rfl, w_1_13, w_6_208, (Or.inl w_6_207)⟩)) <|
  P_all_cons (P_lnk_vi (P_vall (l := P_v162) rfl (P_all_cons (show P_vok _ _ _ 11 184 from ⟨_, rfl, rfl, w_1_13, w_6_212, (Or.inl ⟨P_sg 1 rfl, w_p_45, (Or.inl w_6_210)⟩)⟩) (P_all_nil)))) <|
  P_all_cons (P_lnk_get (P_s1 (c := 11) (P := fun ci => P_fok P_cl P_Tb "OrchardQueryModel" 65 ci 1) rfl ⟨_, _, _, "OrchardQueryModel", rfl, by decide, (Or.inl rfl), (Or.inl w_6_93)⟩)) <|
  P_all_cons (P_lnk_vi (P_vall (l := P_v162) rfl (P_all_cons (show P_vok _ _ _ 11 184 from ⟨_, rfl, rfl, w_1_13, w_6_212, (Or.inl ⟨P_sg 1 rfl, w_p_45, (Or.inl w_6_210)⟩)⟩) (P_all_nil)))) <|
  P_all_cons (P_lnk_get (P_s1 (c := 11) (P := fun ci => P_fok P_cl P_Tb "OrchardQueryModel" 9 ci 2) rfl ⟨_, _, _, "OrchardQueryModel", rfl, by decide, (Or.inl rfl), (Or.inl w_6_94)⟩)) <|
  P_all_cons (P_lnk_get (P_s1 (c := 11) (P := fun ci => P_fok P_cl P_Tb "OrchardQueryModel" 65 ci 1) rfl ⟨_, _, _, "OrchardQueryModel", rfl, by decide, (Or.inl rfl), (Or.inl w_6_93)⟩)) <|
  P_all_cons (P_lnk_get (P_s1 (c := 11) (P := fun ci => P_fok P_cl P_Tb "OrchardQueryModel" 65 ci 1) rfl ⟨_, _, _, "OrchardQueryModel", rfl, by decide, (Or.inl rfl), (Or.inl w_6_93)⟩)) <|
  P_all_cons (P_lnk_put (P_s1 (c := 11) (P := fun ci => P_pok P_cl P_Tb "OrchardQueryModel" false 65 ci 1) rfl ⟨_, _, _, "OrchardQueryModel", rfl, by decide, (Or.inl rfl), (Or.inl ⟨w_6_93, (Or.inl rfl)⟩)⟩)) <|
  P_all_nil
set_option maxRecDepth 20000 in
theorem P_m188 : P_mst 188 2 (Option.some Jvm.ClassFile.FieldType.int) P_e188 [] := P_meth (mx := 2) (rt := (Option.some Jvm.ClassFile.FieldType.int)) (hs := []) "OrchardQueryModel" false prog_14_method_7_code [] rfl rfl rfl rfl (by decide +kernel) (by decide +kernel) (fun _ => P_g188) (by decide) (fun _ _ => by decide +kernel) (fun q => by cases q) (P_all_cons (by decide +kernel) <| P_all_cons (by decide +kernel) <| P_all_nil) P_l188 (by decide +kernel) P_k188 (fun _ _ => P_hok_nil)
/-- OrchardQueryModel.valueAt(III)I -/
def P_l189 : List (Nat × P_I) := [(1, .getfield 16, 4, 11, 4, [], [])]
set_option maxRecDepth 20000 in
theorem P_k189 : ∀ q ∈ P_l189, P_lnk P_cl P_aty P_stat P_tx P_N0 P_Tb P_Y0 "OrchardQueryModel" false prog_14_method_8_code [] q.1 q.2.1 q.2.2.2.1 q.2.2.2.2.1 :=
  P_all_cons (P_lnk_get (P_s1 (c := 11) (P := fun ci => P_fok P_cl P_Tb "OrchardQueryModel" 16 ci 4) rfl ⟨_, _, _, "OrchardQueryModel", rfl, by decide, (Or.inl rfl), (Or.inl w_6_96)⟩)) <|
  P_all_nil
set_option maxRecDepth 20000 in
theorem P_m189 : P_mst 189 4 (Option.some Jvm.ClassFile.FieldType.int) P_e189 [] := P_meth (mx := 4) (rt := (Option.some Jvm.ClassFile.FieldType.int)) (hs := []) "OrchardQueryModel" false prog_14_method_8_code [] rfl rfl rfl rfl (by decide +kernel) (by decide +kernel) (fun _ => P_g189) (by decide) (fun _ _ => by decide +kernel) (fun q => by cases q) (P_all_cons (by decide +kernel) <| P_all_nil) P_l189 (by decide +kernel) P_k189 (fun _ _ => P_hok_nil)
/-- OrchardQueryModel.end()V -/
def P_l190 : List (Nat × P_I) := [(2, .putfield 76, 5, 11, 24, [], []), (7, .putfield 80, 10, 11, 25, [], [])]
set_option maxRecDepth 20000 in
theorem P_k190 : ∀ q ∈ P_l190, P_lnk P_cl P_aty P_stat P_tx P_N0 P_Tb P_Y0 "OrchardQueryModel" false prog_14_method_9_code [] q.1 q.2.1 q.2.2.2.1 q.2.2.2.2.1 :=
  P_all_cons (P_lnk_put (P_s1 (c := 11) (P := fun ci => P_pok P_cl P_Tb "OrchardQueryModel" false 76 ci 24) rfl ⟨_, _, _, "OrchardQueryModel", rfl, by decide, (Or.inl rfl), (Or.inl ⟨w_6_116, (Or.inl rfl)⟩)⟩)) <|
  P_all_cons (P_lnk_put (P_s1 (c := 11) (P := fun ci => P_pok P_cl P_Tb "OrchardQueryModel" false 80 ci 25) rfl ⟨_, _, _, "OrchardQueryModel", rfl, by decide, (Or.inl rfl), (Or.inl ⟨w_6_117, (Or.inl rfl)⟩)⟩)) <|
  P_all_nil
set_option maxRecDepth 20000 in
theorem P_m190 : P_mst 190 1 (Option.none : Option Jvm.ClassFile.FieldType) P_e190 [] := P_meth (mx := 1) (rt := (Option.none : Option Jvm.ClassFile.FieldType)) (hs := []) "OrchardQueryModel" false prog_14_method_9_code [] rfl rfl rfl rfl (by decide +kernel) (by decide +kernel) (fun _ => P_g190) (by decide) (fun _ _ => by decide +kernel) (fun q => by cases q) (P_all_cons (by decide +kernel) <| P_all_nil) P_l190 (by decide +kernel) P_k190 (fun _ _ => P_hok_nil)
/-- OrchardQueryModel.row(IIII)I -/
def P_l191 : List (Nat × P_I) := [(2, .putfield 62, 5, 11, 0, [], []), (7, .invokevirtual 83, 10, 1, 163, [], []), (15, .invokevirtual 72, 18, 1, 162, [], []), (20, .newarray .int, 22, 0, 0, [], []), (43, .getfield 9, 46, 11, 2, [], []), (62, .invokestatic 68, 65, 3, 186, [], []), (70, .invokevirtual 72, 73, 1, 162, [], []), (81, .getfield 13, 84, 11, 3, [], []), (93, .invokevirtual 72, 96, 1, 162, [], []), (101, .getfield 16, 104, 11, 4, [], []), (109, .getfield 13, 112, 11, 3, [], []), (118, .getfield 9, 121, 11, 2, [], []), (127, .invokevirtual 93, 130, 0, 164, [], []), (131, .getfield 13, 134, 11, 3, [], [])]
set_option maxRecDepth 20000 in
theorem P_k191 : ∀ q ∈ P_l191, P_lnk P_cl P_aty P_stat P_tx P_N0 P_Tb P_Y0 "OrchardQueryModel" false prog_14_method_10_code [] q.1 q.2.1 q.2.2.2.1 q.2.2.2.2.1 :=
  P_all_cons (P_lnk_put (P_s1 (c := 11) (P := fun ci => P_pok P_cl P_Tb "OrchardQueryModel" false 62 ci 0) rfl ⟨_, _, _, "OrchardQueryModel", rfl, by decide, (Or.inl rfl), (Or.inl ⟨w_6_92, (Or.inl rfl)⟩)⟩)) <|
  P_all_cons (P_lnk_vi (P_vall (l := P_v163) rfl (P_all_cons (show P_vok _ _ _ 11 187 from ⟨_, rfl, rfl, w_1_13, w_6_220, (Or.inl ⟨P_sg 1 rfl, w_p_46, (Or.inl w_6_218)⟩)⟩) (P_all_nil)))) <|
  P_all_cons (P_lnk_vi (P_vall (l := P_v162) rfl (P_all_cons (show P_vok _ _ _ 11 184 from ⟨_, rfl, rfl, w_1_13, w_6_212, (Or.inl ⟨P_sg 1 rfl, w_p_45, (Or.inl w_6_210)⟩)⟩) (P_all_nil)))) <|
  P_all_cons (P_lnk_nwa rfl w_1_56) <|
  P_all_cons (P_lnk_get (P_s1 (c := 11) (P := fun ci => P_fok P_cl P_Tb "OrchardQueryModel" 9 ci 2) rfl ⟨_, _, _, "OrchardQueryModel", rfl, by decide, (Or.inl rfl), (Or.inl w_6_94)⟩)) <|
  P_all_cons (P_lnk_st (by decide) (fun _ => ⟨P_sg 3 rfl, w_1_13, w_6_208, (Or.inl w_6_207)⟩)) <|
  P_all_cons (P_lnk_vi (P_vall (l := P_v162) rfl (P_all_cons (show P_vok _ _ _ 11 184 from ⟨_, rfl, rfl, w_1_13, w_6_212, (Or.inl ⟨P_sg 1 rfl, w_p_45, (Or.inl w_6_210)⟩)⟩) (P_all_nil)))) <|
  P_all_cons (P_lnk_get (P_s1 (c := 11) (P := fun ci => P_fok P_cl P_Tb "OrchardQueryModel" 13 ci 3) rfl ⟨_, _, _, "OrchardQueryModel", rfl, by decide, (Or.inl rfl), (Or.inl w_6_95)⟩)) <|
  P_all_cons (P_lnk_vi (P_vall (l := P_v162) rfl (P_all_cons (show P_vok _ _ _ 11 184 from ⟨_, rfl, rfl, w_1_13, w_6_212, (Or.inl ⟨P_sg 1 rfl, w_p_45, (Or.inl w_6_210)⟩)⟩) (P_all_nil)))) <|
  P_all_cons (P_lnk_get (P_s1 (c := 11) (P := fun ci => P_fok P_cl P_Tb "OrchardQueryModel" 16 ci 4) rfl ⟨_, _, _, "OrchardQueryModel", rfl, by decide, (Or.inl rfl), (Or.inl w_6_96)⟩)) <|
  P_all_cons (P_lnk_get (P_s1 (c := 11) (P := fun ci => P_fok P_cl P_Tb "OrchardQueryModel" 13 ci 3) rfl ⟨_, _, _, "OrchardQueryModel", rfl, by decide, (Or.inl rfl), (Or.inl w_6_95)⟩)) <|
  P_all_cons (P_lnk_get (P_s1 (c := 11) (P := fun ci => P_fok P_cl P_Tb "OrchardQueryModel" 9 ci 2) rfl ⟨_, _, _, "OrchardQueryModel", rfl, by decide, (Or.inl rfl), (Or.inl w_6_94)⟩)) <|
  P_all_cons (P_lnk_vi (P_vall (l := P_v164) rfl (P_all_cons (show P_vok _ _ _ 11 190 from ⟨_, rfl, rfl, w_1_13, w_6_227, (Or.inl ⟨P_sg 0 rfl, w_p_47, (Or.inl w_6_225)⟩)⟩) (P_all_nil)))) <|
  P_all_cons (P_lnk_get (P_s1 (c := 11) (P := fun ci => P_fok P_cl P_Tb "OrchardQueryModel" 13 ci 3) rfl ⟨_, _, _, "OrchardQueryModel", rfl, by decide, (Or.inl rfl), (Or.inl w_6_95)⟩)) <|
  P_all_nil
set_option maxRecDepth 20000 in
theorem P_m191 : P_mst 191 7 (Option.some Jvm.ClassFile.FieldType.int) P_e191 [] := P_meth (mx := 7) (rt := (Option.some Jvm.ClassFile.FieldType.int)) (hs := []) "OrchardQueryModel" false prog_14_method_10_code [] rfl rfl rfl rfl (by decide +kernel) (by decide +kernel) (fun _ => P_g191) (by decide) (fun _ _ => by decide +kernel) (fun q => by cases q) (P_all_cons (by decide +kernel) <| P_all_cons (by decide +kernel) <| P_all_cons (by decide +kernel) <| P_all_cons (by decide +kernel) <| P_all_cons (by decide +kernel) <| P_all_nil) P_l191 (by decide +kernel) P_k191 (fun _ _ => P_hok_nil)
/-- OrchardQueryModel.drop(II)I -/
def P_l192 : List (Nat × P_I) := [(2, .putfield 62, 5, 11, 0, [], []), (7, .invokevirtual 83, 10, 1, 163, [], []), (16, .getfield 13, 19, 11, 3, [], []), (23, .invokestatic 68, 26, 3, 186, [], []), (31, .invokevirtual 72, 34, 1, 162, [], []), (45, .getfield 16, 48, 11, 4, [], []), (52, .getfield 16, 55, 11, 4, [], []), (57, .getfield 13, 60, 11, 3, [], []), (72, .invokevirtual 93, 75, 0, 164, [], []), (76, .getfield 13, 79, 11, 3, [], [])]
set_option maxRecDepth 20000 in
theorem P_k192 : ∀ q ∈ P_l192, P_lnk P_cl P_aty P_stat P_tx P_N0 P_Tb P_Y0 "OrchardQueryModel" false prog_14_method_11_code [] q.1 q.2.1 q.2.2.2.1 q.2.2.2.2.1 :=
  P_all_cons (P_lnk_put (P_s1 (c := 11) (P := fun ci => P_pok P_cl P_Tb "OrchardQueryModel" false 62 ci 0) rfl ⟨_, _, _, "OrchardQueryModel", rfl, by decide, (Or.inl rfl), (Or.inl ⟨w_6_92, (Or.inl rfl)⟩)⟩)) <|
  P_all_cons (P_lnk_vi (P_vall (l := P_v163) rfl (P_all_cons (show P_vok _ _ _ 11 187 from ⟨_, rfl, rfl, w_1_13, w_6_220, (Or.inl ⟨P_sg 1 rfl, w_p_46, (Or.inl w_6_218)⟩)⟩) (P_all_nil)))) <|
  P_all_cons (P_lnk_get (P_s1 (c := 11) (P := fun ci => P_fok P_cl P_Tb "OrchardQueryModel" 13 ci 3) rfl ⟨_, _, _, "OrchardQueryModel", rfl, by decide, (Or.inl rfl), (Or.inl w_6_95)⟩)) <|
  P_all_cons (P_lnk_st (by decide) (fun _ => ⟨P_sg 3 rfl, w_1_13, w_6_208, (Or.inl w_6_207)⟩)) <|
  P_all_cons (P_lnk_vi (P_vall (l := P_v162) rfl (P_all_cons (show P_vok _ _ _ 11 184 from ⟨_, rfl, rfl, w_1_13, w_6_212, (Or.inl ⟨P_sg 1 rfl, w_p_45, (Or.inl w_6_210)⟩)⟩) (P_all_nil)))) <|
  P_all_cons (P_lnk_get (P_s1 (c := 11) (P := fun ci => P_fok P_cl P_Tb "OrchardQueryModel" 16 ci 4) rfl ⟨_, _, _, "OrchardQueryModel", rfl, by decide, (Or.inl rfl), (Or.inl w_6_96)⟩)) <|
  P_all_cons (P_lnk_get (P_s1 (c := 11) (P := fun ci => P_fok P_cl P_Tb "OrchardQueryModel" 16 ci 4) rfl ⟨_, _, _, "OrchardQueryModel", rfl, by decide, (Or.inl rfl), (Or.inl w_6_96)⟩)) <|
  P_all_cons (P_lnk_get (P_s1 (c := 11) (P := fun ci => P_fok P_cl P_Tb "OrchardQueryModel" 13 ci 3) rfl ⟨_, _, _, "OrchardQueryModel", rfl, by decide, (Or.inl rfl), (Or.inl w_6_95)⟩)) <|
  P_all_cons (P_lnk_vi (P_vall (l := P_v164) rfl (P_all_cons (show P_vok _ _ _ 11 190 from ⟨_, rfl, rfl, w_1_13, w_6_227, (Or.inl ⟨P_sg 0 rfl, w_p_47, (Or.inl w_6_225)⟩)⟩) (P_all_nil)))) <|
  P_all_cons (P_lnk_get (P_s1 (c := 11) (P := fun ci => P_fok P_cl P_Tb "OrchardQueryModel" 13 ci 3) rfl ⟨_, _, _, "OrchardQueryModel", rfl, by decide, (Or.inl rfl), (Or.inl w_6_95)⟩)) <|
  P_all_nil
set_option maxRecDepth 20000 in
theorem P_m192 : P_mst 192 4 (Option.some Jvm.ClassFile.FieldType.int) P_e192 [] := P_meth (mx := 4) (rt := (Option.some Jvm.ClassFile.FieldType.int)) (hs := []) "OrchardQueryModel" false prog_14_method_11_code [] rfl rfl rfl rfl (by decide +kernel) (by decide +kernel) (fun _ => P_g192) (by decide) (fun _ _ => by decide +kernel) (fun q => by cases q) (P_all_cons (by decide +kernel) <| P_all_cons (by decide +kernel) <| P_all_cons (by decide +kernel) <| P_all_nil) P_l192 (by decide +kernel) P_k192 (fun _ _ => P_hok_nil)
/-- OrchardQueryModel.varietyNow(II)I -/
def P_l193 : List (Nat × P_I) := [(8, .getfield 13, 11, 11, 3, [], []), (36, .invokevirtual 96, 39, 3, 165, [], []), (44, .invokevirtual 96, 47, 3, 165, [], [])]
set_option maxRecDepth 20000 in
theorem P_k193 : ∀ q ∈ P_l193, P_lnk P_cl P_aty P_stat P_tx P_N0 P_Tb P_Y0 "OrchardQueryModel" false prog_14_method_12_code [] q.1 q.2.1 q.2.2.2.1 q.2.2.2.2.1 :=
  P_all_cons (P_lnk_get (P_s1 (c := 11) (P := fun ci => P_fok P_cl P_Tb "OrchardQueryModel" 13 ci 3) rfl ⟨_, _, _, "OrchardQueryModel", rfl, by decide, (Or.inl rfl), (Or.inl w_6_95)⟩)) <|
  P_all_cons (P_lnk_vi (P_vall (l := P_v165) rfl (P_all_cons (show P_vok _ _ _ 11 189 from ⟨_, rfl, rfl, w_1_13, w_7_3, (Or.inl ⟨P_sg 3 rfl, w_p_49, (Or.inl w_7_1)⟩)⟩) (P_all_nil)))) <|
  P_all_cons (P_lnk_vi (P_vall (l := P_v165) rfl (P_all_cons (show P_vok _ _ _ 11 189 from ⟨_, rfl, rfl, w_1_13, w_7_3, (Or.inl ⟨P_sg 3 rfl, w_p_49, (Or.inl w_7_1)⟩)⟩) (P_all_nil)))) <|
  P_all_nil
set_option maxRecDepth 20000 in
theorem P_m193 : P_mst 193 7 (Option.some Jvm.ClassFile.FieldType.int) P_e193 [] := P_meth (mx := 7) (rt := (Option.some Jvm.ClassFile.FieldType.int)) (hs := []) "OrchardQueryModel" false prog_14_method_12_code [] rfl rfl rfl rfl (by decide +kernel) (by decide +kernel) (fun _ => P_g193) (by decide) (fun _ _ => by decide +kernel) (fun q => by cases q) (P_all_cons (by decide +kernel) <| P_all_cons (by decide +kernel) <| P_all_cons (by decide +kernel) <| P_all_nil) P_l193 (by decide +kernel) P_k193 (fun _ _ => P_hok_nil)
/-- OrchardQueryModel.variety(II)I -/
def P_l194 : List (Nat × P_I) := [(2, .putfield 62, 5, 11, 0, [], []), (7, .invokevirtual 83, 10, 1, 163, [], []), (16, .getfield 9, 19, 11, 2, [], []), (23, .invokestatic 68, 26, 3, 186, [], []), (32, .invokevirtual 100, 35, 2, 166, [], []), (40, .invokevirtual 72, 43, 1, 162, [], [])]
set_option maxRecDepth 20000 in
theorem P_k194 : ∀ q ∈ P_l194, P_lnk P_cl P_aty P_stat P_tx P_N0 P_Tb P_Y0 "OrchardQueryModel" false prog_14_method_13_code [] q.1 q.2.1 q.2.2.2.1 q.2.2.2.2.1 :=
  P_all_cons (P_lnk_put (P_s1 (c := 11) (P := fun ci => P_pok P_cl P_Tb "OrchardQueryModel" false 62 ci 0) rfl ⟨_, _, _, "OrchardQueryModel", rfl, by decide, (Or.inl rfl), (Or.inl ⟨w_6_92, (Or.inl rfl)⟩)⟩)) <|
  P_all_cons (P_lnk_vi (P_vall (l := P_v163) rfl (P_all_cons (show P_vok _ _ _ 11 187 from ⟨_, rfl, rfl, w_1_13, w_6_220, (Or.inl ⟨P_sg 1 rfl, w_p_46, (Or.inl w_6_218)⟩)⟩) (P_all_nil)))) <|
  P_all_cons (P_lnk_get (P_s1 (c := 11) (P := fun ci => P_fok P_cl P_Tb "OrchardQueryModel" 9 ci 2) rfl ⟨_, _, _, "OrchardQueryModel", rfl, by decide, (Or.inl rfl), (Or.inl w_6_94)⟩)) <|
  P_all_cons (P_lnk_st (by decide) (fun _ => ⟨P_sg 3 rfl, w_1_13, w_6_208, (Or.inl w_6_207)⟩)) <|
  P_all_cons (P_lnk_vi (P_vall (l := P_v166) rfl (P_all_cons (show P_vok _ _ _ 11 193 from ⟨_, rfl, rfl, w_1_13, w_6_239, (Or.inl ⟨P_sg 2 rfl, w_p_48, (Or.inl w_6_237)⟩)⟩) (P_all_nil)))) <|
  P_all_cons (P_lnk_vi (P_vall (l := P_v162) rfl (P_all_cons (show P_vok _ _ _ 11 184 from ⟨_, rfl, rfl, w_1_13, w_6_212, (Or.inl ⟨P_sg 1 rfl, w_p_45, (Or.inl w_6_210)⟩)⟩) (P_all_nil)))) <|
  P_all_nil
set_option maxRecDepth 20000 in
theorem P_m194 : P_mst 194 3 (Option.some Jvm.ClassFile.FieldType.int) P_e194 [] := P_meth (mx := 3) (rt := (Option.some Jvm.ClassFile.FieldType.int)) (hs := []) "OrchardQueryModel" false prog_14_method_13_code [] rfl rfl rfl rfl (by decide +kernel) (by decide +kernel) (fun _ => P_g194) (by decide) (fun _ _ => by decide +kernel) (fun q => by cases q) (P_all_cons (by decide +kernel) <| P_all_cons (by decide +kernel) <| P_all_nil) P_l194 (by decide +kernel) P_k194 (fun _ _ => P_hok_nil)
