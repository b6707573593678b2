/-! TABLES of this claim, written by wip/gen.py: methods -/
/-- OrchardQueryModel.token(I)I -/
def P_l195 : List (Nat × P_I) := [(2, .putfield 62, 5, 11, 0, [], []), (9, .invokestatic 68, 12, 3, 186, [], []), (20, .invokestatic 68, 23, 3, 186, [], []), (32, .invokestatic 68, 35, 3, 186, [], []), (45, .invokestatic 68, 48, 3, 186, [], []), (53, .invokevirtual 72, 56, 1, 162, [], []), (58, .getfield 104, 61, 11, 5, [], []), (68, .invokevirtual 72, 71, 1, 162, [], []), (73, .getfield 19, 76, 11, 6, [], []), (77, .getfield 104, 80, 11, 5, [], []), (84, .putfield 107, 87, 11, 7, [], []), (89, .putfield 22, 92, 11, 8, [], []), (93, .invokevirtual 93, 96, 0, 164, [], []), (98, .getfield 104, 101, 11, 5, [], []), (104, .putfield 104, 107, 11, 5, [], [])]
set_option maxRecDepth 20000 in
theorem P_k195 : ∀ q ∈ P_l195, P_lnk P_cl P_aty P_stat P_tx P_N0 P_Tb P_Y0 "OrchardQueryModel" false prog_14_method_14_code [] q.1 q.2.1 q.2.2.2.1 q.2.2.2.2.1 :=
  P_all_cons (P_lnk_put (P_s1 (c := 11) (P := fun ci => P_pok P_cl P_Tb "OrchardQueryModel" false 62 ci 0) rfl ⟨_, _, _, "OrchardQueryModel", rfl, by decide, (Or.inl rfl), (Or.inl ⟨w_6_92, (Or.inl rfl)⟩)⟩)) <|
  P_all_cons (P_lnk_st (by decide) (fun _ => ⟨P_sg 3 rfl, w_1_13, w_6_208, (Or.inl w_6_207)⟩)) <|
  P_all_cons (P_lnk_st (by decide) (fun _ => ⟨P_sg 3 rfl, w_1_13, w_6_208, (Or.inl w_6_207)⟩)) <|
  P_all_cons (P_lnk_st (by decide) (fun _ => ⟨P_sg 3 rfl, w_1_13, w_6_208, (Or.inl w_6_207)⟩)) <|
  P_all_cons (P_lnk_st (by decide) (fun _ => ⟨P_sg 3 rfl, w_1_13, w_6_208, (Or.inl w_6_207)⟩)) <|
  P_all_cons (P_lnk_vi (P_vall (l := P_v162) rfl (P_all_cons (show P_vok _ _ _ 11 184 from ⟨_, rfl, rfl, w_1_13, w_6_212, (Or.inl ⟨P_sg 1 rfl, w_p_45, (Or.inl w_6_210)⟩)⟩) (P_all_nil)))) <|
  P_all_cons (P_lnk_get (P_s1 (c := 11) (P := fun ci => P_fok P_cl P_Tb "OrchardQueryModel" 104 ci 5) rfl ⟨_, _, _, "OrchardQueryModel", rfl, by decide, (Or.inl rfl), (Or.inl w_6_97)⟩)) <|
  P_all_cons (P_lnk_vi (P_vall (l := P_v162) rfl (P_all_cons (show P_vok _ _ _ 11 184 from ⟨_, rfl, rfl, w_1_13, w_6_212, (Or.inl ⟨P_sg 1 rfl, w_p_45, (Or.inl w_6_210)⟩)⟩) (P_all_nil)))) <|
  P_all_cons (P_lnk_get (P_s1 (c := 11) (P := fun ci => P_fok P_cl P_Tb "OrchardQueryModel" 19 ci 6) rfl ⟨_, _, _, "OrchardQueryModel", rfl, by decide, (Or.inl rfl), (Or.inl w_6_98)⟩)) <|
  P_all_cons (P_lnk_get (P_s1 (c := 11) (P := fun ci => P_fok P_cl P_Tb "OrchardQueryModel" 104 ci 5) rfl ⟨_, _, _, "OrchardQueryModel", rfl, by decide, (Or.inl rfl), (Or.inl w_6_97)⟩)) <|
  P_all_cons (P_lnk_put (P_s1 (c := 11) (P := fun ci => P_pok P_cl P_Tb "OrchardQueryModel" false 107 ci 7) rfl ⟨_, _, _, "OrchardQueryModel", rfl, by decide, (Or.inl rfl), (Or.inl ⟨w_6_99, (Or.inl rfl)⟩)⟩)) <|
  P_all_cons (P_lnk_put (P_s1 (c := 11) (P := fun ci => P_pok P_cl P_Tb "OrchardQueryModel" false 22 ci 8) rfl ⟨_, _, _, "OrchardQueryModel", rfl, by decide, (Or.inl rfl), (Or.inl ⟨w_6_100, (Or.inl rfl)⟩)⟩)) <|
  P_all_cons (P_lnk_vi (P_vall (l := P_v164) rfl (P_all_cons (show P_vok _ _ _ 11 190 from ⟨_, rfl, rfl, w_1_13, w_6_227, (Or.inl ⟨P_sg 0 rfl, w_p_47, (Or.inl w_6_225)⟩)⟩) (P_all_nil)))) <|
  P_all_cons (P_lnk_get (P_s1 (c := 11) (P := fun ci => P_fok P_cl P_Tb "OrchardQueryModel" 104 ci 5) rfl ⟨_, _, _, "OrchardQueryModel", rfl, by decide, (Or.inl rfl), (Or.inl w_6_97)⟩)) <|
  P_all_cons (P_lnk_put (P_s1 (c := 11) (P := fun ci => P_pok P_cl P_Tb "OrchardQueryModel" false 104 ci 5) rfl ⟨_, _, _, "OrchardQueryModel", rfl, by decide, (Or.inl rfl), (Or.inl ⟨w_6_97, (Or.inl rfl)⟩)⟩)) <|
  P_all_nil
set_option maxRecDepth 20000 in
theorem P_m195 : P_mst 195 2 (Option.some Jvm.ClassFile.FieldType.int) P_e195 [] := P_meth (mx := 2) (rt := (Option.some Jvm.ClassFile.FieldType.int)) (hs := []) "OrchardQueryModel" false prog_14_method_14_code [] rfl rfl rfl rfl (by decide +kernel) (by decide +kernel) (fun _ => P_g195) (by decide) (fun _ _ => by decide +kernel) (fun q => by cases q) (P_all_cons (by decide +kernel) <| P_all_cons (by decide +kernel) <| P_all_cons (by decide +kernel) <| P_all_cons (by decide +kernel) <| P_all_nil) P_l195 (by decide +kernel) P_k195 (fun _ _ => P_hok_nil)
/-- OrchardQueryModel.clear()I -/
def P_l196 : List (Nat × P_I) := [(1, .getfield 104, 4, 11, 5, [], []), (7, .putfield 104, 10, 11, 5, [], []), (12, .putfield 107, 15, 11, 7, [], []), (17, .putfield 22, 20, 11, 8, [], []), (21, .invokevirtual 93, 24, 0, 164, [], []), (26, .invokevirtual 110, 29, 1, 167, [], [])]
set_option maxRecDepth 20000 in
theorem P_k196 : ∀ q ∈ P_l196, P_lnk P_cl P_aty P_stat P_tx P_N0 P_Tb P_Y0 "OrchardQueryModel" false prog_14_method_15_code [] q.1 q.2.1 q.2.2.2.1 q.2.2.2.2.1 :=
  P_all_cons (P_lnk_get (P_s1 (c := 11) (P := fun ci => P_fok P_cl P_Tb "OrchardQueryModel" 104 ci 5) rfl ⟨_, _, _, "OrchardQueryModel", rfl, by decide, (Or.inl rfl), (Or.inl w_6_97)⟩)) <|
  P_all_cons (P_lnk_put (P_s1 (c := 11) (P := fun ci => P_pok P_cl P_Tb "OrchardQueryModel" false 104 ci 5) rfl ⟨_, _, _, "OrchardQueryModel", rfl, by decide, (Or.inl rfl), (Or.inl ⟨w_6_97, (Or.inl rfl)⟩)⟩)) <|
  P_all_cons (P_lnk_put (P_s1 (c := 11) (P := fun ci => P_pok P_cl P_Tb "OrchardQueryModel" false 107 ci 7) rfl ⟨_, _, _, "OrchardQueryModel", rfl, by decide, (Or.inl rfl), (Or.inl ⟨w_6_99, (Or.inl rfl)⟩)⟩)) <|
  P_all_cons (P_lnk_put (P_s1 (c := 11) (P := fun ci => P_pok P_cl P_Tb "OrchardQueryModel" false 22 ci 8) rfl ⟨_, _, _, "OrchardQueryModel", rfl, by decide, (Or.inl rfl), (Or.inl ⟨w_6_100, (Or.inl rfl)⟩)⟩)) <|
  P_all_cons (P_lnk_vi (P_vall (l := P_v164) rfl (P_all_cons (show P_vok _ _ _ 11 190 from ⟨_, rfl, rfl, w_1_13, w_6_227, (Or.inl ⟨P_sg 0 rfl, w_p_47, (Or.inl w_6_225)⟩)⟩) (P_all_nil)))) <|
  P_all_cons (P_lnk_vi (P_vall (l := P_v167) rfl (P_all_cons (show P_vok _ _ _ 11 185 from ⟨_, rfl, rfl, w_1_13, w_7_15, (Or.inl ⟨P_sg 1 rfl, w_p_50, (Or.inl w_7_13)⟩)⟩) (P_all_nil)))) <|
  P_all_nil
set_option maxRecDepth 20000 in
theorem P_m196 : P_mst 196 2 (Option.some Jvm.ClassFile.FieldType.int) P_e196 [] := P_meth (mx := 2) (rt := (Option.some Jvm.ClassFile.FieldType.int)) (hs := []) "OrchardQueryModel" false prog_14_method_15_code [] rfl rfl rfl rfl (by decide +kernel) (by decide +kernel) (fun _ => P_g196) (by decide) (fun _ _ => by decide +kernel) (fun q => by cases q) (P_all_cons (by decide +kernel) <| P_all_nil) P_l196 (by decide +kernel) P_k196 (fun _ _ => P_hok_nil)
/-- OrchardQueryModel.word()I -/
def P_l197 : List (Nat × P_I) := [(1, .getfield 113, 4, 11, 33, [], []), (5, .getfield 104, 8, 11, 5, [], []), (12, .getfield 19, 15, 11, 6, [], []), (16, .getfield 113, 19, 11, 33, [], [])]
set_option maxRecDepth 20000 in
theorem P_k197 : ∀ q ∈ P_l197, P_lnk P_cl P_aty P_stat P_tx P_N0 P_Tb P_Y0 "OrchardQueryModel" false prog_14_method_16_code [] q.1 q.2.1 q.2.2.2.1 q.2.2.2.2.1 :=
  P_all_cons (P_lnk_get (P_s1 (c := 11) (P := fun ci => P_fok P_cl P_Tb "OrchardQueryModel" 113 ci 33) rfl ⟨_, _, _, "OrchardQueryModel", rfl, by decide, (Or.inl rfl), (Or.inl w_6_125)⟩)) <|
  P_all_cons (P_lnk_get (P_s1 (c := 11) (P := fun ci => P_fok P_cl P_Tb "OrchardQueryModel" 104 ci 5) rfl ⟨_, _, _, "OrchardQueryModel", rfl, by decide, (Or.inl rfl), (Or.inl w_6_97)⟩)) <|
  P_all_cons (P_lnk_get (P_s1 (c := 11) (P := fun ci => P_fok P_cl P_Tb "OrchardQueryModel" 19 ci 6) rfl ⟨_, _, _, "OrchardQueryModel", rfl, by decide, (Or.inl rfl), (Or.inl w_6_98)⟩)) <|
  P_all_cons (P_lnk_get (P_s1 (c := 11) (P := fun ci => P_fok P_cl P_Tb "OrchardQueryModel" 113 ci 33) rfl ⟨_, _, _, "OrchardQueryModel", rfl, by decide, (Or.inl rfl), (Or.inl w_6_125)⟩)) <|
  P_all_nil
set_option maxRecDepth 20000 in
theorem P_m197 : P_mst 197 1 (Option.some Jvm.ClassFile.FieldType.int) P_e197 [] := P_meth (mx := 1) (rt := (Option.some Jvm.ClassFile.FieldType.int)) (hs := []) "OrchardQueryModel" false prog_14_method_16_code [] rfl rfl rfl rfl (by decide +kernel) (by decide +kernel) (fun _ => P_g197) (by decide) (fun _ _ => by decide +kernel) (fun q => by cases q) (P_all_cons (by decide +kernel) <| P_all_nil) P_l197 (by decide +kernel) P_k197 (fun _ _ => P_hok_nil)
/-- OrchardQueryModel.isNext(II)Z -/
def P_l198 : List (Nat × P_I) := [(1, .invokevirtual 116, 4, 0, 168, [], []), (6, .invokestatic 68, 9, 3, 186, [], [])]
set_option maxRecDepth 20000 in
theorem P_k198 : ∀ q ∈ P_l198, P_lnk P_cl P_aty P_stat P_tx P_N0 P_Tb P_Y0 "OrchardQueryModel" false prog_14_method_17_code [] q.1 q.2.1 q.2.2.2.1 q.2.2.2.2.1 :=
  P_all_cons (P_lnk_vi (P_vall (l := P_v168) rfl (P_all_cons (show P_vok _ _ _ 11 197 from ⟨_, rfl, rfl, w_1_13, w_7_35, (Or.inl ⟨P_sg 0 rfl, w_p_54, (Or.inl w_7_33)⟩)⟩) (P_all_nil)))) <|
  P_all_cons (P_lnk_st (by decide) (fun _ => ⟨P_sg 3 rfl, w_1_13, w_6_208, (Or.inl w_6_207)⟩)) <|
  P_all_nil
set_option maxRecDepth 20000 in
theorem P_m198 : P_mst 198 3 (Option.some Jvm.ClassFile.FieldType.boolean) P_e198 [] := P_meth (mx := 3) (rt := (Option.some Jvm.ClassFile.FieldType.boolean)) (hs := []) "OrchardQueryModel" false prog_14_method_17_code [] rfl rfl rfl rfl (by decide +kernel) (by decide +kernel) (fun _ => P_g198) (by decide) (fun _ _ => by decide +kernel) (fun q => by cases q) (P_all_cons (by decide +kernel) <| P_all_nil) P_l198 (by decide +kernel) P_k198 (fun _ _ => P_hok_nil)
/-- OrchardQueryModel.takes(I)Z -/
def P_l199 : List (Nat × P_I) := [(1, .invokevirtual 116, 4, 0, 168, [], []), (16, .getfield 113, 19, 11, 33, [], []), (29, .putfield 113, 32, 11, 33, [], [])]
set_option maxRecDepth 20000 in
theorem P_k199 : ∀ q ∈ P_l199, P_lnk P_cl P_aty P_stat P_tx P_N0 P_Tb P_Y0 "OrchardQueryModel" false prog_14_method_18_code [] q.1 q.2.1 q.2.2.2.1 q.2.2.2.2.1 :=
  P_all_cons (P_lnk_vi (P_vall (l := P_v168) rfl (P_all_cons (show P_vok _ _ _ 11 197 from ⟨_, rfl, rfl, w_1_13, w_7_35, (Or.inl ⟨P_sg 0 rfl, w_p_54, (Or.inl w_7_33)⟩)⟩) (P_all_nil)))) <|
  P_all_cons (P_lnk_get (P_s1 (c := 11) (P := fun ci => P_fok P_cl P_Tb "OrchardQueryModel" 113 ci 33) rfl ⟨_, _, _, "OrchardQueryModel", rfl, by decide, (Or.inl rfl), (Or.inl w_6_125)⟩)) <|
  P_all_cons (P_lnk_put (P_s1 (c := 11) (P := fun ci => P_pok P_cl P_Tb "OrchardQueryModel" false 113 ci 33) rfl ⟨_, _, _, "OrchardQueryModel", rfl, by decide, (Or.inl rfl), (Or.inl ⟨w_6_125, (Or.inl rfl)⟩)⟩)) <|
  P_all_nil
set_option maxRecDepth 20000 in
theorem P_m199 : P_mst 199 3 (Option.some Jvm.ClassFile.FieldType.boolean) P_e199 [] := P_meth (mx := 3) (rt := (Option.some Jvm.ClassFile.FieldType.boolean)) (hs := []) "OrchardQueryModel" false prog_14_method_18_code [] rfl rfl rfl rfl (by decide +kernel) (by decide +kernel) (fun _ => P_g199) (by decide) (fun _ _ => by decide +kernel) (fun q => by cases q) (P_all_cons (by decide +kernel) <| P_all_cons (by decide +kernel) <| P_all_nil) P_l199 (by decide +kernel) P_k199 (fun _ _ => P_hok_nil)
/-- OrchardQueryModel.isColumnNext()Z -/
def P_l200 : List (Nat × P_I) := [(6, .invokevirtual 120, 9, 2, 169, [], [])]
set_option maxRecDepth 20000 in
theorem P_k200 : ∀ q ∈ P_l200, P_lnk P_cl P_aty P_stat P_tx P_N0 P_Tb P_Y0 "OrchardQueryModel" false prog_14_method_19_code [] q.1 q.2.1 q.2.2.2.1 q.2.2.2.2.1 :=
  P_all_cons (P_lnk_vi (P_vall (l := P_v169) rfl (P_all_cons (show P_vok _ _ _ 11 198 from ⟨_, rfl, rfl, w_1_13, w_7_43, (Or.inl ⟨P_sg 2 rfl, w_p_56, (Or.inl w_7_41)⟩)⟩) (P_all_nil)))) <|
  P_all_nil
set_option maxRecDepth 20000 in
theorem P_m200 : P_mst 200 1 (Option.some Jvm.ClassFile.FieldType.boolean) P_e200 [] := P_meth (mx := 1) (rt := (Option.some Jvm.ClassFile.FieldType.boolean)) (hs := []) "OrchardQueryModel" false prog_14_method_19_code [] rfl rfl rfl rfl (by decide +kernel) (by decide +kernel) (fun _ => P_g200) (by decide) (fun _ _ => by decide +kernel) (fun q => by cases q) (P_all_cons (by decide +kernel) <| P_all_nil) P_l200 (by decide +kernel) P_k200 (fun _ _ => P_hok_nil)
/-- OrchardQueryModel.isNumberNext()Z -/
def P_l201 : List (Nat × P_I) := [(7, .invokevirtual 120, 10, 2, 169, [], [])]
set_option maxRecDepth 20000 in
theorem P_k201 : ∀ q ∈ P_l201, P_lnk P_cl P_aty P_stat P_tx P_N0 P_Tb P_Y0 "OrchardQueryModel" false prog_14_method_20_code [] q.1 q.2.1 q.2.2.2.1 q.2.2.2.2.1 :=
  P_all_cons (P_lnk_vi (P_vall (l := P_v169) rfl (P_all_cons (show P_vok _ _ _ 11 198 from ⟨_, rfl, rfl, w_1_13, w_7_43, (Or.inl ⟨P_sg 2 rfl, w_p_56, (Or.inl w_7_41)⟩)⟩) (P_all_nil)))) <|
  P_all_nil
set_option maxRecDepth 20000 in
theorem P_m201 : P_mst 201 1 (Option.some Jvm.ClassFile.FieldType.boolean) P_e201 [] := P_meth (mx := 1) (rt := (Option.some Jvm.ClassFile.FieldType.boolean)) (hs := []) "OrchardQueryModel" false prog_14_method_20_code [] rfl rfl rfl rfl (by decide +kernel) (by decide +kernel) (fun _ => P_g201) (by decide) (fun _ _ => by decide +kernel) (fun q => by cases q) (P_all_cons (by decide +kernel) <| P_all_nil) P_l201 (by decide +kernel) P_k201 (fun _ _ => P_hok_nil)
/-- OrchardQueryModel.readItems()I -/
def P_l202 : List (Nat × P_I) := [(2, .putfield 124, 5, 11, 9, [], []), (7, .invokevirtual 127, 10, 1, 170, [], []), (16, .getfield 124, 19, 11, 9, [], []), (23, .invokevirtual 116, 26, 0, 168, [], []), (31, .getfield 124, 34, 11, 9, [], []), (44, .getfield 124, 47, 11, 9, [], []), (54, .getfield 29, 57, 11, 11, [], []), (58, .getfield 124, 61, 11, 9, [], []), (64, .invokevirtual 127, 67, 1, 170, [], []), (69, .getfield 29, 72, 11, 11, [], []), (73, .getfield 124, 76, 11, 9, [], []), (81, .invokevirtual 116, 84, 0, 168, [], []), (90, .invokevirtual 130, 93, 0, 171, [], []), (107, .getfield 29, 110, 11, 11, [], []), (111, .getfield 124, 114, 11, 9, [], []), (119, .invokevirtual 130, 122, 0, 171, [], []), (128, .getfield 26, 131, 11, 10, [], []), (133, .getfield 124, 136, 11, 9, [], []), (139, .putfield 124, 142, 11, 9, [], []), (143, .getfield 19, 146, 11, 6, [], []), (148, .getfield 113, 151, 11, 33, [], []), (154, .putfield 113, 157, 11, 33, [], []), (164, .getfield 113, 167, 11, 33, [], []), (169, .putfield 113, 172, 11, 33, [], [])]
set_option maxRecDepth 20000 in
theorem P_k202 : ∀ q ∈ P_l202, P_lnk P_cl P_aty P_stat P_tx P_N0 P_Tb P_Y0 "OrchardQueryModel" false prog_14_method_21_code [] q.1 q.2.1 q.2.2.2.1 q.2.2.2.2.1 :=
  P_all_cons (P_lnk_put (P_s1 (c := 11) (P := fun ci => P_pok P_cl P_Tb "OrchardQueryModel" false 124 ci 9) rfl ⟨_, _, _, "OrchardQueryModel", rfl, by decide, (Or.inl rfl), (Or.inl ⟨w_6_101, (Or.inl rfl)⟩)⟩)) <|
  P_all_cons (P_lnk_vi (P_vall (l := P_v170) rfl (P_all_cons (show P_vok _ _ _ 11 199 from ⟨_, rfl, rfl, w_1_13, w_7_31, (Or.inl ⟨P_sg 1 rfl, w_p_53, (Or.inl w_7_29)⟩)⟩) (P_all_nil)))) <|
  P_all_cons (P_lnk_get (P_s1 (c := 11) (P := fun ci => P_fok P_cl P_Tb "OrchardQueryModel" 124 ci 9) rfl ⟨_, _, _, "OrchardQueryModel", rfl, by decide, (Or.inl rfl), (Or.inl w_6_101)⟩)) <|
  P_all_cons (P_lnk_vi (P_vall (l := P_v168) rfl (P_all_cons (show P_vok _ _ _ 11 197 from ⟨_, rfl, rfl, w_1_13, w_7_35, (Or.inl ⟨P_sg 0 rfl, w_p_54, (Or.inl w_7_33)⟩)⟩) (P_all_nil)))) <|
  P_all_cons (P_lnk_get (P_s1 (c := 11) (P := fun ci => P_fok P_cl P_Tb "OrchardQueryModel" 124 ci 9) rfl ⟨_, _, _, "OrchardQueryModel", rfl, by decide, (Or.inl rfl), (Or.inl w_6_101)⟩)) <|
  P_all_cons (P_lnk_get (P_s1 (c := 11) (P := fun ci => P_fok P_cl P_Tb "OrchardQueryModel" 124 ci 9) rfl ⟨_, _, _, "OrchardQueryModel", rfl, by decide, (Or.inl rfl), (Or.inl w_6_101)⟩)) <|
  P_all_cons (P_lnk_get (P_s1 (c := 11) (P := fun ci => P_fok P_cl P_Tb "OrchardQueryModel" 29 ci 11) rfl ⟨_, _, _, "OrchardQueryModel", rfl, by decide, (Or.inl rfl), (Or.inl w_6_103)⟩)) <|
  P_all_cons (P_lnk_get (P_s1 (c := 11) (P := fun ci => P_fok P_cl P_Tb "OrchardQueryModel" 124 ci 9) rfl ⟨_, _, _, "OrchardQueryModel", rfl, by decide, (Or.inl rfl), (Or.inl w_6_101)⟩)) <|
  P_all_cons (P_lnk_vi (P_vall (l := P_v170) rfl (P_all_cons (show P_vok _ _ _ 11 199 from ⟨_, rfl, rfl, w_1_13, w_7_31, (Or.inl ⟨P_sg 1 rfl, w_p_53, (Or.inl w_7_29)⟩)⟩) (P_all_nil)))) <|
  P_all_cons (P_lnk_get (P_s1 (c := 11) (P := fun ci => P_fok P_cl P_Tb "OrchardQueryModel" 29 ci 11) rfl ⟨_, _, _, "OrchardQueryModel", rfl, by decide, (Or.inl rfl), (Or.inl w_6_103)⟩)) <|
  P_all_cons (P_lnk_get (P_s1 (c := 11) (P := fun ci => P_fok P_cl P_Tb "OrchardQueryModel" 124 ci 9) rfl ⟨_, _, _, "OrchardQueryModel", rfl, by decide, (Or.inl rfl), (Or.inl w_6_101)⟩)) <|
  P_all_cons (P_lnk_vi (P_vall (l := P_v168) rfl (P_all_cons (show P_vok _ _ _ 11 197 from ⟨_, rfl, rfl, w_1_13, w_7_35, (Or.inl ⟨P_sg 0 rfl, w_p_54, (Or.inl w_7_33)⟩)⟩) (P_all_nil)))) <|
  P_all_cons (P_lnk_vi (P_vall (l := P_v171) rfl (P_all_cons (show P_vok _ _ _ 11 200 from ⟨_, rfl, rfl, w_1_13, w_7_39, (Or.inl ⟨P_sg 0 rfl, w_p_55, (Or.inl w_7_37)⟩)⟩) (P_all_nil)))) <|
  P_all_cons (P_lnk_get (P_s1 (c := 11) (P := fun ci => P_fok P_cl P_Tb "OrchardQueryModel" 29 ci 11) rfl ⟨_, _, _, "OrchardQueryModel", rfl, by decide, (Or.inl rfl), (Or.inl w_6_103)⟩)) <|
  P_all_cons (P_lnk_get (P_s1 (c := 11) (P := fun ci => P_fok P_cl P_Tb "OrchardQueryModel" 124 ci 9) rfl ⟨_, _, _, "OrchardQueryModel", rfl, by decide, (Or.inl rfl), (Or.inl w_6_101)⟩)) <|
  P_all_cons (P_lnk_vi (P_vall (l := P_v171) rfl (P_all_cons (show P_vok _ _ _ 11 200 from ⟨_, rfl, rfl, w_1_13, w_7_39, (Or.inl ⟨P_sg 0 rfl, w_p_55, (Or.inl w_7_37)⟩)⟩) (P_all_nil)))) <|
  P_all_cons (P_lnk_get (P_s1 (c := 11) (P := fun ci => P_fok P_cl P_Tb "OrchardQueryModel" 26 ci 10) rfl ⟨_, _, _, "OrchardQueryModel", rfl, by decide, (Or.inl rfl), (Or.inl w_6_102)⟩)) <|
  P_all_cons (P_lnk_get (P_s1 (c := 11) (P := fun ci => P_fok P_cl P_Tb "OrchardQueryModel" 124 ci 9) rfl ⟨_, _, _, "OrchardQueryModel", rfl, by decide, (Or.inl rfl), (Or.inl w_6_101)⟩)) <|
  P_all_cons (P_lnk_put (P_s1 (c := 11) (P := fun ci => P_pok P_cl P_Tb "OrchardQueryModel" false 124 ci 9) rfl ⟨_, _, _, "OrchardQueryModel", rfl, by decide, (Or.inl rfl), (Or.inl ⟨w_6_101, (Or.inl rfl)⟩)⟩)) <|
  P_all_cons (P_lnk_get (P_s1 (c := 11) (P := fun ci => P_fok P_cl P_Tb "OrchardQueryModel" 19 ci 6) rfl ⟨_, _, _, "OrchardQueryModel", rfl, by decide, (Or.inl rfl), (Or.inl w_6_98)⟩)) <|
  P_all_cons (P_lnk_get (P_s1 (c := 11) (P := fun ci => P_fok P_cl P_Tb "OrchardQueryModel" 113 ci 33) rfl ⟨_, _, _, "OrchardQueryModel", rfl, by decide, (Or.inl rfl), (Or.inl w_6_125)⟩)) <|
  P_all_cons (P_lnk_put (P_s1 (c := 11) (P := fun ci => P_pok P_cl P_Tb "OrchardQueryModel" false 113 ci 33) rfl ⟨_, _, _, "OrchardQueryModel", rfl, by decide, (Or.inl rfl), (Or.inl ⟨w_6_125, (Or.inl rfl)⟩)⟩)) <|
  P_all_cons (P_lnk_get (P_s1 (c := 11) (P := fun ci => P_fok P_cl P_Tb "OrchardQueryModel" 113 ci 33) rfl ⟨_, _, _, "OrchardQueryModel", rfl, by decide, (Or.inl rfl), (Or.inl w_6_125)⟩)) <|
  P_all_cons (P_lnk_put (P_s1 (c := 11) (P := fun ci => P_pok P_cl P_Tb "OrchardQueryModel" false 113 ci 33) rfl ⟨_, _, _, "OrchardQueryModel", rfl, by decide, (Or.inl rfl), (Or.inl ⟨w_6_125, (Or.inl rfl)⟩)⟩)) <|
  P_all_nil
set_option maxRecDepth 20000 in
theorem P_m202 : P_mst 202 2 (Option.some Jvm.ClassFile.FieldType.int) P_e202 [] := P_meth (mx := 2) (rt := (Option.some Jvm.ClassFile.FieldType.int)) (hs := []) "OrchardQueryModel" false prog_14_method_21_code [] rfl rfl rfl rfl (by decide +kernel) (by decide +kernel) (fun _ => P_g202) (by decide) (fun _ _ => by decide +kernel) (fun q => by cases q) (P_all_cons (by decide +kernel) <| P_all_cons (by decide +kernel) <| P_all_cons (by decide +kernel) <| P_all_cons (by decide +kernel) <| P_all_cons (by decide +kernel) <| P_all_cons (by decide +kernel) <| P_all_nil) P_l202 (by decide +kernel) P_k202 (fun _ _ => P_hok_nil)
/-- OrchardQueryModel.readTables()I -/
def P_l203 : List (Nat × P_I) := [(2, .putfield 134, 5, 11, 12, [], []), (6, .getfield 134, 9, 11, 12, [], []), (13, .getfield 134, 16, 11, 12, [], []), (25, .invokevirtual 120, 28, 2, 169, [], []), (33, .invokevirtual 116, 36, 0, 168, [], []), (39, .invokevirtual 83, 42, 1, 163, [], []), (48, .getfield 33, 51, 11, 13, [], []), (53, .getfield 134, 56, 11, 12, [], []), (59, .putfield 134, 62, 11, 12, [], []), (63, .getfield 19, 66, 11, 6, [], []), (68, .getfield 113, 71, 11, 33, [], []), (74, .putfield 113, 77, 11, 33, [], [])]
set_option maxRecDepth 20000 in
theorem P_k203 : ∀ q ∈ P_l203, P_lnk P_cl P_aty P_stat P_tx P_N0 P_Tb P_Y0 "OrchardQueryModel" false prog_14_method_22_code [] q.1 q.2.1 q.2.2.2.1 q.2.2.2.2.1 :=
  P_all_cons (P_lnk_put (P_s1 (c := 11) (P := fun ci => P_pok P_cl P_Tb "OrchardQueryModel" false 134 ci 12) rfl ⟨_, _, _, "OrchardQueryModel", rfl, by decide, (Or.inl rfl), (Or.inl ⟨w_6_104, (Or.inl rfl)⟩)⟩)) <|
  P_all_cons (P_lnk_get (P_s1 (c := 11) (P := fun ci => P_fok P_cl P_Tb "OrchardQueryModel" 134 ci 12) rfl ⟨_, _, _, "OrchardQueryModel", rfl, by decide, (Or.inl rfl), (Or.inl w_6_104)⟩)) <|
  P_all_cons (P_lnk_get (P_s1 (c := 11) (P := fun ci => P_fok P_cl P_Tb "OrchardQueryModel" 134 ci 12) rfl ⟨_, _, _, "OrchardQueryModel", rfl, by decide, (Or.inl rfl), (Or.inl w_6_104)⟩)) <|
  P_all_cons (P_lnk_vi (P_vall (l := P_v169) rfl (P_all_cons (show P_vok _ _ _ 11 198 from ⟨_, rfl, rfl, w_1_13, w_7_43, (Or.inl ⟨P_sg 2 rfl, w_p_56, (Or.inl w_7_41)⟩)⟩) (P_all_nil)))) <|
  P_all_cons (P_lnk_vi (P_vall (l := P_v168) rfl (P_all_cons (show P_vok _ _ _ 11 197 from ⟨_, rfl, rfl, w_1_13, w_7_35, (Or.inl ⟨P_sg 0 rfl, w_p_54, (Or.inl w_7_33)⟩)⟩) (P_all_nil)))) <|
  P_all_cons (P_lnk_vi (P_vall (l := P_v163) rfl (P_all_cons (show P_vok _ _ _ 11 187 from ⟨_, rfl, rfl, w_1_13, w_6_220, (Or.inl ⟨P_sg 1 rfl, w_p_46, (Or.inl w_6_218)⟩)⟩) (P_all_nil)))) <|
  P_all_cons (P_lnk_get (P_s1 (c := 11) (P := fun ci => P_fok P_cl P_Tb "OrchardQueryModel" 33 ci 13) rfl ⟨_, _, _, "OrchardQueryModel", rfl, by decide, (Or.inl rfl), (Or.inl w_6_105)⟩)) <|
  P_all_cons (P_lnk_get (P_s1 (c := 11) (P := fun ci => P_fok P_cl P_Tb "OrchardQueryModel" 134 ci 12) rfl ⟨_, _, _, "OrchardQueryModel", rfl, by decide, (Or.inl rfl), (Or.inl w_6_104)⟩)) <|
  P_all_cons (P_lnk_put (P_s1 (c := 11) (P := fun ci => P_pok P_cl P_Tb "OrchardQueryModel" false 134 ci 12) rfl ⟨_, _, _, "OrchardQueryModel", rfl, by decide, (Or.inl rfl), (Or.inl ⟨w_6_104, (Or.inl rfl)⟩)⟩)) <|
  P_all_cons (P_lnk_get (P_s1 (c := 11) (P := fun ci => P_fok P_cl P_Tb "OrchardQueryModel" 19 ci 6) rfl ⟨_, _, _, "OrchardQueryModel", rfl, by decide, (Or.inl rfl), (Or.inl w_6_98)⟩)) <|
  P_all_cons (P_lnk_get (P_s1 (c := 11) (P := fun ci => P_fok P_cl P_Tb "OrchardQueryModel" 113 ci 33) rfl ⟨_, _, _, "OrchardQueryModel", rfl, by decide, (Or.inl rfl), (Or.inl w_6_125)⟩)) <|
  P_all_cons (P_lnk_put (P_s1 (c := 11) (P := fun ci => P_pok P_cl P_Tb "OrchardQueryModel" false 113 ci 33) rfl ⟨_, _, _, "OrchardQueryModel", rfl, by decide, (Or.inl rfl), (Or.inl ⟨w_6_125, (Or.inl rfl)⟩)⟩)) <|
  P_all_nil
set_option maxRecDepth 20000 in
theorem P_m203 : P_mst 203 1 (Option.some Jvm.ClassFile.FieldType.int) P_e203 [] := P_meth (mx := 1) (rt := (Option.some Jvm.ClassFile.FieldType.int)) (hs := []) "OrchardQueryModel" false prog_14_method_22_code [] rfl rfl rfl rfl (by decide +kernel) (by decide +kernel) (fun _ => P_g203) (by decide) (fun _ _ => by decide +kernel) (fun q => by cases q) (P_all_cons (by decide +kernel) <| P_all_cons (by decide +kernel) <| P_all_cons (by decide +kernel) <| P_all_nil) P_l203 (by decide +kernel) P_k203 (fun _ _ => P_hok_nil)
/-- OrchardQueryModel.readConditions()I -/
def P_l204 : List (Nat × P_I) := [(2, .putfield 137, 5, 11, 17, [], []), (7, .invokevirtual 127, 10, 1, 170, [], []), (16, .invokevirtual 130, 19, 0, 171, [], []), (25, .getfield 36, 28, 11, 18, [], []), (29, .getfield 137, 32, 11, 17, [], []), (33, .getfield 19, 36, 11, 6, [], []), (38, .getfield 113, 41, 11, 33, [], []), (44, .putfield 113, 47, 11, 33, [], []), (54, .invokevirtual 120, 57, 2, 169, [], []), (64, .getfield 39, 67, 11, 19, [], []), (68, .getfield 137, 71, 11, 17, [], []), (72, .getfield 19, 75, 11, 6, [], []), (77, .getfield 113, 80, 11, 33, [], []), (83, .putfield 113, 86, 11, 33, [], []), (89, .invokevirtual 130, 92, 0, 171, [], []), (96, .invokevirtual 140, 99, 0, 172, [], []), (106, .getfield 42, 109, 11, 20, [], []), (111, .getfield 137, 114, 11, 17, [], []), (117, .putfield 137, 120, 11, 17, [], []), (121, .getfield 19, 124, 11, 6, [], []), (126, .getfield 113, 129, 11, 33, [], []), (132, .putfield 113, 135, 11, 33, [], []), (138, .getfield 137, 141, 11, 17, [], []), (148, .invokevirtual 127, 151, 1, 170, [], [])]
set_option maxRecDepth 20000 in
theorem P_k204 : ∀ q ∈ P_l204, P_lnk P_cl P_aty P_stat P_tx P_N0 P_Tb P_Y0 "OrchardQueryModel" false prog_14_method_23_code [] q.1 q.2.1 q.2.2.2.1 q.2.2.2.2.1 :=
  P_all_cons (P_lnk_put (P_s1 (c := 11) (P := fun ci => P_pok P_cl P_Tb "OrchardQueryModel" false 137 ci 17) rfl ⟨_, _, _, "OrchardQueryModel", rfl, by decide, (Or.inl rfl), (Or.inl ⟨w_6_109, (Or.inl rfl)⟩)⟩)) <|
  P_all_cons (P_lnk_vi (P_vall (l := P_v170) rfl (P_all_cons (show P_vok _ _ _ 11 199 from ⟨_, rfl, rfl, w_1_13, w_7_31, (Or.inl ⟨P_sg 1 rfl, w_p_53, (Or.inl w_7_29)⟩)⟩) (P_all_nil)))) <|
  P_all_cons (P_lnk_vi (P_vall (l := P_v171) rfl (P_all_cons (show P_vok _ _ _ 11 200 from ⟨_, rfl, rfl, w_1_13, w_7_39, (Or.inl ⟨P_sg 0 rfl, w_p_55, (Or.inl w_7_37)⟩)⟩) (P_all_nil)))) <|
  P_all_cons (P_lnk_get (P_s1 (c := 11) (P := fun ci => P_fok P_cl P_Tb "OrchardQueryModel" 36 ci 18) rfl ⟨_, _, _, "OrchardQueryModel", rfl, by decide, (Or.inl rfl), (Or.inl w_6_110)⟩)) <|
  P_all_cons (P_lnk_get (P_s1 (c := 11) (P := fun ci => P_fok P_cl P_Tb "OrchardQueryModel" 137 ci 17) rfl ⟨_, _, _, "OrchardQueryModel", rfl, by decide, (Or.inl rfl), (Or.inl w_6_109)⟩)) <|
  P_all_cons (P_lnk_get (P_s1 (c := 11) (P := fun ci => P_fok P_cl P_Tb "OrchardQueryModel" 19 ci 6) rfl ⟨_, _, _, "OrchardQueryModel", rfl, by decide, (Or.inl rfl), (Or.inl w_6_98)⟩)) <|
  P_all_cons (P_lnk_get (P_s1 (c := 11) (P := fun ci => P_fok P_cl P_Tb "OrchardQueryModel" 113 ci 33) rfl ⟨_, _, _, "OrchardQueryModel", rfl, by decide, (Or.inl rfl), (Or.inl w_6_125)⟩)) <|
  P_all_cons (P_lnk_put (P_s1 (c := 11) (P := fun ci => P_pok P_cl P_Tb "OrchardQueryModel" false 113 ci 33) rfl ⟨_, _, _, "OrchardQueryModel", rfl, by decide, (Or.inl rfl), (Or.inl ⟨w_6_125, (Or.inl rfl)⟩)⟩)) <|
  P_all_cons (P_lnk_vi (P_vall (l := P_v169) rfl (P_all_cons (show P_vok _ _ _ 11 198 from ⟨_, rfl, rfl, w_1_13, w_7_43, (Or.inl ⟨P_sg 2 rfl, w_p_56, (Or.inl w_7_41)⟩)⟩) (P_all_nil)))) <|
  P_all_cons (P_lnk_get (P_s1 (c := 11) (P := fun ci => P_fok P_cl P_Tb "OrchardQueryModel" 39 ci 19) rfl ⟨_, _, _, "OrchardQueryModel", rfl, by decide, (Or.inl rfl), (Or.inl w_6_111)⟩)) <|
  P_all_cons (P_lnk_get (P_s1 (c := 11) (P := fun ci => P_fok P_cl P_Tb "OrchardQueryModel" 137 ci 17) rfl ⟨_, _, _, "OrchardQueryModel", rfl, by decide, (Or.inl rfl), (Or.inl w_6_109)⟩)) <|
  P_all_cons (P_lnk_get (P_s1 (c := 11) (P := fun ci => P_fok P_cl P_Tb "OrchardQueryModel" 19 ci 6) rfl ⟨_, _, _, "OrchardQueryModel", rfl, by decide, (Or.inl rfl), (Or.inl w_6_98)⟩)) <|
  P_all_cons (P_lnk_get (P_s1 (c := 11) (P := fun ci => P_fok P_cl P_Tb "OrchardQueryModel" 113 ci 33) rfl ⟨_, _, _, "OrchardQueryModel", rfl, by decide, (Or.inl rfl), (Or.inl w_6_125)⟩)) <|
  P_all_cons (P_lnk_put (P_s1 (c := 11) (P := fun ci => P_pok P_cl P_Tb "OrchardQueryModel" false 113 ci 33) rfl ⟨_, _, _, "OrchardQueryModel", rfl, by decide, (Or.inl rfl), (Or.inl ⟨w_6_125, (Or.inl rfl)⟩)⟩)) <|
  P_all_cons (P_lnk_vi (P_vall (l := P_v171) rfl (P_all_cons (show P_vok _ _ _ 11 200 from ⟨_, rfl, rfl, w_1_13, w_7_39, (Or.inl ⟨P_sg 0 rfl, w_p_55, (Or.inl w_7_37)⟩)⟩) (P_all_nil)))) <|
  P_all_cons (P_lnk_vi (P_vall (l := P_v172) rfl (P_all_cons (show P_vok _ _ _ 11 201 from ⟨_, rfl, rfl, w_1_13, w_7_55, (Or.inl ⟨P_sg 0 rfl, w_p_59, (Or.inl w_7_53)⟩)⟩) (P_all_nil)))) <|
  P_all_cons (P_lnk_get (P_s1 (c := 11) (P := fun ci => P_fok P_cl P_Tb "OrchardQueryModel" 42 ci 20) rfl ⟨_, _, _, "OrchardQueryModel", rfl, by decide, (Or.inl rfl), (Or.inl w_6_112)⟩)) <|
  P_all_cons (P_lnk_get (P_s1 (c := 11) (P := fun ci => P_fok P_cl P_Tb "OrchardQueryModel" 137 ci 17) rfl ⟨_, _, _, "OrchardQueryModel", rfl, by decide, (Or.inl rfl), (Or.inl w_6_109)⟩)) <|
  P_all_cons (P_lnk_put (P_s1 (c := 11) (P := fun ci => P_pok P_cl P_Tb "OrchardQueryModel" false 137 ci 17) rfl ⟨_, _, _, "OrchardQueryModel", rfl, by decide, (Or.inl rfl), (Or.inl ⟨w_6_109, (Or.inl rfl)⟩)⟩)) <|
  P_all_cons (P_lnk_get (P_s1 (c := 11) (P := fun ci => P_fok P_cl P_Tb "OrchardQueryModel" 19 ci 6) rfl ⟨_, _, _, "OrchardQueryModel", rfl, by decide, (Or.inl rfl), (Or.inl w_6_98)⟩)) <|
  P_all_cons (P_lnk_get (P_s1 (c := 11) (P := fun ci => P_fok P_cl P_Tb "OrchardQueryModel" 113 ci 33) rfl ⟨_, _, _, "OrchardQueryModel", rfl, by decide, (Or.inl rfl), (Or.inl w_6_125)⟩)) <|
  P_all_cons (P_lnk_put (P_s1 (c := 11) (P := fun ci => P_pok P_cl P_Tb "OrchardQueryModel" false 113 ci 33) rfl ⟨_, _, _, "OrchardQueryModel", rfl, by decide, (Or.inl rfl), (Or.inl ⟨w_6_125, (Or.inl rfl)⟩)⟩)) <|
  P_all_cons (P_lnk_get (P_s1 (c := 11) (P := fun ci => P_fok P_cl P_Tb "OrchardQueryModel" 137 ci 17) rfl ⟨_, _, _, "OrchardQueryModel", rfl, by decide, (Or.inl rfl), (Or.inl w_6_109)⟩)) <|
  P_all_cons (P_lnk_vi (P_vall (l := P_v170) rfl (P_all_cons (show P_vok _ _ _ 11 199 from ⟨_, rfl, rfl, w_1_13, w_7_31, (Or.inl ⟨P_sg 1 rfl, w_p_53, (Or.inl w_7_29)⟩)⟩) (P_all_nil)))) <|
  P_all_nil
set_option maxRecDepth 20000 in
theorem P_m204 : P_mst 204 1 (Option.some Jvm.ClassFile.FieldType.int) P_e204 [] := P_meth (mx := 1) (rt := (Option.some Jvm.ClassFile.FieldType.int)) (hs := []) "OrchardQueryModel" false prog_14_method_23_code [] rfl rfl rfl rfl (by decide +kernel) (by decide +kernel) (fun _ => P_g204) (by decide) (fun _ _ => by decide +kernel) (fun q => by cases q) (P_all_cons (by decide +kernel) <| P_all_cons (by decide +kernel) <| P_all_cons (by decide +kernel) <| P_all_cons (by decide +kernel) <| P_all_cons (by decide +kernel) <| P_all_nil) P_l204 (by decide +kernel) P_k204 (fun _ _ => P_hok_nil)
/-- OrchardQueryModel.readEnd()I -/
def P_l205 : List (Nat × P_I) := [(2, .putfield 143, 5, 11, 14, [], []), (7, .putfield 146, 10, 11, 15, [], []), (12, .putfield 149, 15, 11, 16, [], []), (17, .invokevirtual 127, 20, 1, 170, [], []), (24, .invokevirtual 130, 27, 0, 171, [], []), (34, .getfield 19, 37, 11, 6, [], []), (39, .getfield 113, 42, 11, 33, [], []), (45, .putfield 113, 48, 11, 33, [], []), (49, .putfield 143, 52, 11, 14, [], []), (54, .invokevirtual 127, 57, 1, 170, [], []), (61, .invokevirtual 140, 64, 0, 172, [], []), (72, .getfield 19, 75, 11, 6, [], []), (77, .getfield 113, 80, 11, 33, [], []), (83, .putfield 113, 86, 11, 33, [], []), (91, .putfield 146, 94, 11, 15, [], []), (97, .invokevirtual 127, 100, 1, 170, [], []), (104, .invokevirtual 140, 107, 0, 172, [], []), (115, .getfield 19, 118, 11, 6, [], []), (120, .getfield 113, 123, 11, 33, [], []), (126, .putfield 113, 129, 11, 33, [], []), (134, .putfield 149, 137, 11, 16, [], []), (138, .getfield 113, 141, 11, 33, [], []), (142, .getfield 104, 145, 11, 5, [], [])]
set_option maxRecDepth 20000 in
theorem P_k205 : ∀ q ∈ P_l205, P_lnk P_cl P_aty P_stat P_tx P_N0 P_Tb P_Y0 "OrchardQueryModel" false prog_14_method_24_code [] q.1 q.2.1 q.2.2.2.1 q.2.2.2.2.1 :=
  P_all_cons (P_lnk_put (P_s1 (c := 11) (P := fun ci => P_pok P_cl P_Tb "OrchardQueryModel" false 143 ci 14) rfl ⟨_, _, _, "OrchardQueryModel", rfl, by decide, (Or.inl rfl), (Or.inl ⟨w_6_106, (Or.inl rfl)⟩)⟩)) <|
  P_all_cons (P_lnk_put (P_s1 (c := 11) (P := fun ci => P_pok P_cl P_Tb "OrchardQueryModel" false 146 ci 15) rfl ⟨_, _, _, "OrchardQueryModel", rfl, by decide, (Or.inl rfl), (Or.inl ⟨w_6_107, (Or.inl rfl)⟩)⟩)) <|
  P_all_cons (P_lnk_put (P_s1 (c := 11) (P := fun ci => P_pok P_cl P_Tb "OrchardQueryModel" false 149 ci 16) rfl ⟨_, _, _, "OrchardQueryModel", rfl, by decide, (Or.inl rfl), (Or.inl ⟨w_6_108, (Or.inl rfl)⟩)⟩)) <|
  P_all_cons (P_lnk_vi (P_vall (l := P_v170) rfl (P_all_cons (show P_vok _ _ _ 11 199 from ⟨_, rfl, rfl, w_1_13, w_7_31, (Or.inl ⟨P_sg 1 rfl, w_p_53, (Or.inl w_7_29)⟩)⟩) (P_all_nil)))) <|
  P_all_cons (P_lnk_vi (P_vall (l := P_v171) rfl (P_all_cons (show P_vok _ _ _ 11 200 from ⟨_, rfl, rfl, w_1_13, w_7_39, (Or.inl ⟨P_sg 0 rfl, w_p_55, (Or.inl w_7_37)⟩)⟩) (P_all_nil)))) <|
  P_all_cons (P_lnk_get (P_s1 (c := 11) (P := fun ci => P_fok P_cl P_Tb "OrchardQueryModel" 19 ci 6) rfl ⟨_, _, _, "OrchardQueryModel", rfl, by decide, (Or.inl rfl), (Or.inl w_6_98)⟩)) <|
  P_all_cons (P_lnk_get (P_s1 (c := 11) (P := fun ci => P_fok P_cl P_Tb "OrchardQueryModel" 113 ci 33) rfl ⟨_, _, _, "OrchardQueryModel", rfl, by decide, (Or.inl rfl), (Or.inl w_6_125)⟩)) <|
  P_all_cons (P_lnk_put (P_s1 (c := 11) (P := fun ci => P_pok P_cl P_Tb "OrchardQueryModel" false 113 ci 33) rfl ⟨_, _, _, "OrchardQueryModel", rfl, by decide, (Or.inl rfl), (Or.inl ⟨w_6_125, (Or.inl rfl)⟩)⟩)) <|
  P_all_cons (P_lnk_put (P_s1 (c := 11) (P := fun ci => P_pok P_cl P_Tb "OrchardQueryModel" false 143 ci 14) rfl ⟨_, _, _, "OrchardQueryModel", rfl, by decide, (Or.inl rfl), (Or.inl ⟨w_6_106, (Or.inl rfl)⟩)⟩)) <|
  P_all_cons (P_lnk_vi (P_vall (l := P_v170) rfl (P_all_cons (show P_vok _ _ _ 11 199 from ⟨_, rfl, rfl, w_1_13, w_7_31, (Or.inl ⟨P_sg 1 rfl, w_p_53, (Or.inl w_7_29)⟩)⟩) (P_all_nil)))) <|
  P_all_cons (P_lnk_vi (P_vall (l := P_v172) rfl (P_all_cons (show P_vok _ _ _ 11 201 from ⟨_, rfl, rfl, w_1_13, w_7_55, (Or.inl ⟨P_sg 0 rfl, w_p_59, (Or.inl w_7_53)⟩)⟩) (P_all_nil)))) <|
  P_all_cons (P_lnk_get (P_s1 (c := 11) (P := fun ci => P_fok P_cl P_Tb "OrchardQueryModel" 19 ci 6) rfl ⟨_, _, _, "OrchardQueryModel", rfl, by decide, (Or.inl rfl), (Or.inl w_6_98)⟩)) <|
  P_all_cons (P_lnk_get (P_s1 (c := 11) (P := fun ci => P_fok P_cl P_Tb "OrchardQueryModel" 113 ci 33) rfl ⟨_, _, _, "OrchardQueryModel", rfl, by decide, (Or.inl rfl), (Or.inl w_6_125)⟩)) <|
  P_all_cons (P_lnk_put (P_s1 (c := 11) (P := fun ci => P_pok P_cl P_Tb "OrchardQueryModel" false 113 ci 33) rfl ⟨_, _, _, "OrchardQueryModel", rfl, by decide, (Or.inl rfl), (Or.inl ⟨w_6_125, (Or.inl rfl)⟩)⟩)) <|
  P_all_cons (P_lnk_put (P_s1 (c := 11) (P := fun ci => P_pok P_cl P_Tb "OrchardQueryModel" false 146 ci 15) rfl ⟨_, _, _, "OrchardQueryModel", rfl, by decide, (Or.inl rfl), (Or.inl ⟨w_6_107, (Or.inl rfl)⟩)⟩)) <|
  P_all_cons (P_lnk_vi (P_vall (l := P_v170) rfl (P_all_cons (show P_vok _ _ _ 11 199 from ⟨_, rfl, rfl, w_1_13, w_7_31, (Or.inl ⟨P_sg 1 rfl, w_p_53, (Or.inl w_7_29)⟩)⟩) (P_all_nil)))) <|
  P_all_cons (P_lnk_vi (P_vall (l := P_v172) rfl (P_all_cons (show P_vok _ _ _ 11 201 from ⟨_, rfl, rfl, w_1_13, w_7_55, (Or.inl ⟨P_sg 0 rfl, w_p_59, (Or.inl w_7_53)⟩)⟩) (P_all_nil)))) <|
  P_all_cons (P_lnk_get (P_s1 (c := 11) (P := fun ci => P_fok P_cl P_Tb "OrchardQueryModel" 19 ci 6) rfl ⟨_, _, _, "OrchardQueryModel", rfl, by decide, (Or.inl rfl), (Or.inl w_6_98)⟩)) <|
  P_all_cons (P_lnk_get (P_s1 (c := 11) (P := fun ci => P_fok P_cl P_Tb "OrchardQueryModel" 113 ci 33) rfl ⟨_, _, _, "OrchardQueryModel", rfl, by decide, (Or.inl rfl), (Or.inl w_6_125)⟩)) <|
  P_all_cons (P_lnk_put (P_s1 (c := 11) (P := fun ci => P_pok P_cl P_Tb "OrchardQueryModel" false 113 ci 33) rfl ⟨_, _, _, "OrchardQueryModel", rfl, by decide, (Or.inl rfl), (Or.inl ⟨w_6_125, (Or.inl rfl)⟩)⟩)) <|
  P_all_cons (P_lnk_put (P_s1 (c := 11) (P := fun ci => P_pok P_cl P_Tb "OrchardQueryModel" false 149 ci 16) rfl ⟨_, _, _, "OrchardQueryModel", rfl, by decide, (Or.inl rfl), (Or.inl ⟨w_6_108, (Or.inl rfl)⟩)⟩)) <|
  P_all_cons (P_lnk_get (P_s1 (c := 11) (P := fun ci => P_fok P_cl P_Tb "OrchardQueryModel" 113 ci 33) rfl ⟨_, _, _, "OrchardQueryModel", rfl, by decide, (Or.inl rfl), (Or.inl w_6_125)⟩)) <|
  P_all_cons (P_lnk_get (P_s1 (c := 11) (P := fun ci => P_fok P_cl P_Tb "OrchardQueryModel" 104 ci 5) rfl ⟨_, _, _, "OrchardQueryModel", rfl, by decide, (Or.inl rfl), (Or.inl w_6_97)⟩)) <|
  P_all_nil
set_option maxRecDepth 20000 in
theorem P_m205 : P_mst 205 1 (Option.some Jvm.ClassFile.FieldType.int) P_e205 [] := P_meth (mx := 1) (rt := (Option.some Jvm.ClassFile.FieldType.int)) (hs := []) "OrchardQueryModel" false prog_14_method_24_code [] rfl rfl rfl rfl (by decide +kernel) (by decide +kernel) (fun _ => P_g205) (by decide) (fun _ _ => by decide +kernel) (fun q => by cases q) (P_all_cons (by decide +kernel) <| P_all_cons (by decide +kernel) <| P_all_cons (by decide +kernel) <| P_all_cons (by decide +kernel) <| P_all_cons (by decide +kernel) <| P_all_nil) P_l205 (by decide +kernel) P_k205 (fun _ _ => P_hok_nil)
/-- OrchardQueryModel.isThere(I)Z -/
def P_l206 : List (Nat × P_I) := [(10, .getfield 134, 13, 11, 12, [], []), (24, .getfield 9, 27, 11, 2, [], []), (28, .getfield 33, 31, 11, 13, [], [])]
set_option maxRecDepth 20000 in
theorem P_k206 : ∀ q ∈ P_l206, P_lnk P_cl P_aty P_stat P_tx P_N0 P_Tb P_Y0 "OrchardQueryModel" false prog_14_method_25_code [] q.1 q.2.1 q.2.2.2.1 q.2.2.2.2.1 :=
  P_all_cons (P_lnk_get (P_s1 (c := 11) (P := fun ci => P_fok P_cl P_Tb "OrchardQueryModel" 134 ci 12) rfl ⟨_, _, _, "OrchardQueryModel", rfl, by decide, (Or.inl rfl), (Or.inl w_6_104)⟩)) <|
  P_all_cons (P_lnk_get (P_s1 (c := 11) (P := fun ci => P_fok P_cl P_Tb "OrchardQueryModel" 9 ci 2) rfl ⟨_, _, _, "OrchardQueryModel", rfl, by decide, (Or.inl rfl), (Or.inl w_6_94)⟩)) <|
  P_all_cons (P_lnk_get (P_s1 (c := 11) (P := fun ci => P_fok P_cl P_Tb "OrchardQueryModel" 33 ci 13) rfl ⟨_, _, _, "OrchardQueryModel", rfl, by decide, (Or.inl rfl), (Or.inl w_6_105)⟩)) <|
  P_all_nil
set_option maxRecDepth 20000 in
theorem P_m206 : P_mst 206 3 (Option.some Jvm.ClassFile.FieldType.boolean) P_e206 [] := P_meth (mx := 3) (rt := (Option.some Jvm.ClassFile.FieldType.boolean)) (hs := []) "OrchardQueryModel" false prog_14_method_25_code [] rfl rfl rfl rfl (by decide +kernel) (by decide +kernel) (fun _ => P_g206) (by decide) (fun _ _ => by decide +kernel) (fun q => by cases q) (P_all_cons (by decide +kernel) <| P_all_cons (by decide +kernel) <| P_all_nil) P_l206 (by decide +kernel) P_k206 (fun _ _ => P_hok_nil)
/-- OrchardQueryModel.lookAtColumns()I -/
def P_l207 : List (Nat × P_I) := [(2, .putfield 113, 5, 11, 33, [], []), (6, .getfield 113, 9, 11, 33, [], []), (10, .getfield 104, 13, 11, 5, [], []), (17, .invokevirtual 130, 20, 0, 171, [], []), (25, .invokevirtual 116, 28, 0, 168, [], []), (28, .invokevirtual 152, 31, 1, 173, [], []), (39, .getfield 113, 42, 11, 33, [], []), (44, .putfield 113, 47, 11, 33, [], []), (51, .getfield 146, 54, 11, 15, [], []), (55, .getfield 124, 58, 11, 9, [], []), (65, .putfield 113, 68, 11, 33, [], []), (69, .invokevirtual 116, 72, 0, 168, [], []), (78, .getfield 113, 81, 11, 33, [], []), (83, .putfield 113, 86, 11, 33, [], []), (91, .getfield 113, 94, 11, 33, [], []), (96, .putfield 113, 99, 11, 33, [], [])]
set_option maxRecDepth 20000 in
theorem P_k207 : ∀ q ∈ P_l207, P_lnk P_cl P_aty P_stat P_tx P_N0 P_Tb P_Y0 "OrchardQueryModel" false prog_14_method_26_code [] q.1 q.2.1 q.2.2.2.1 q.2.2.2.2.1 :=
  P_all_cons (P_lnk_put (P_s1 (c := 11) (P := fun ci => P_pok P_cl P_Tb "OrchardQueryModel" false 113 ci 33) rfl ⟨_, _, _, "OrchardQueryModel", rfl, by decide, (Or.inl rfl), (Or.inl ⟨w_6_125, (Or.inl rfl)⟩)⟩)) <|
  P_all_cons (P_lnk_get (P_s1 (c := 11) (P := fun ci => P_fok P_cl P_Tb "OrchardQueryModel" 113 ci 33) rfl ⟨_, _, _, "OrchardQueryModel", rfl, by decide, (Or.inl rfl), (Or.inl w_6_125)⟩)) <|
  P_all_cons (P_lnk_get (P_s1 (c := 11) (P := fun ci => P_fok P_cl P_Tb "OrchardQueryModel" 104 ci 5) rfl ⟨_, _, _, "OrchardQueryModel", rfl, by decide, (Or.inl rfl), (Or.inl w_6_97)⟩)) <|
  P_all_cons (P_lnk_vi (P_vall (l := P_v171) rfl (P_all_cons (show P_vok _ _ _ 11 200 from ⟨_, rfl, rfl, w_1_13, w_7_39, (Or.inl ⟨P_sg 0 rfl, w_p_55, (Or.inl w_7_37)⟩)⟩) (P_all_nil)))) <|
  P_all_cons (P_lnk_vi (P_vall (l := P_v168) rfl (P_all_cons (show P_vok _ _ _ 11 197 from ⟨_, rfl, rfl, w_1_13, w_7_35, (Or.inl ⟨P_sg 0 rfl, w_p_54, (Or.inl w_7_33)⟩)⟩) (P_all_nil)))) <|
  P_all_cons (P_lnk_vi (P_vall (l := P_v173) rfl (P_all_cons (show P_vok _ _ _ 11 206 from ⟨_, rfl, rfl, w_1_13, w_7_67, (Or.inl ⟨P_sg 1 rfl, w_p_62, (Or.inl w_7_65)⟩)⟩) (P_all_nil)))) <|
  P_all_cons (P_lnk_get (P_s1 (c := 11) (P := fun ci => P_fok P_cl P_Tb "OrchardQueryModel" 113 ci 33) rfl ⟨_, _, _, "OrchardQueryModel", rfl, by decide, (Or.inl rfl), (Or.inl w_6_125)⟩)) <|
  P_all_cons (P_lnk_put (P_s1 (c := 11) (P := fun ci => P_pok P_cl P_Tb "OrchardQueryModel" false 113 ci 33) rfl ⟨_, _, _, "OrchardQueryModel", rfl, by decide, (Or.inl rfl), (Or.inl ⟨w_6_125, (Or.inl rfl)⟩)⟩)) <|
  P_all_cons (P_lnk_get (P_s1 (c := 11) (P := fun ci => P_fok P_cl P_Tb "OrchardQueryModel" 146 ci 15) rfl ⟨_, _, _, "OrchardQueryModel", rfl, by decide, (Or.inl rfl), (Or.inl w_6_107)⟩)) <|
  P_all_cons (P_lnk_get (P_s1 (c := 11) (P := fun ci => P_fok P_cl P_Tb "OrchardQueryModel" 124 ci 9) rfl ⟨_, _, _, "OrchardQueryModel", rfl, by decide, (Or.inl rfl), (Or.inl w_6_101)⟩)) <|
  P_all_cons (P_lnk_put (P_s1 (c := 11) (P := fun ci => P_pok P_cl P_Tb "OrchardQueryModel" false 113 ci 33) rfl ⟨_, _, _, "OrchardQueryModel", rfl, by decide, (Or.inl rfl), (Or.inl ⟨w_6_125, (Or.inl rfl)⟩)⟩)) <|
  P_all_cons (P_lnk_vi (P_vall (l := P_v168) rfl (P_all_cons (show P_vok _ _ _ 11 197 from ⟨_, rfl, rfl, w_1_13, w_7_35, (Or.inl ⟨P_sg 0 rfl, w_p_54, (Or.inl w_7_33)⟩)⟩) (P_all_nil)))) <|
  P_all_cons (P_lnk_get (P_s1 (c := 11) (P := fun ci => P_fok P_cl P_Tb "OrchardQueryModel" 113 ci 33) rfl ⟨_, _, _, "OrchardQueryModel", rfl, by decide, (Or.inl rfl), (Or.inl w_6_125)⟩)) <|
  P_all_cons (P_lnk_put (P_s1 (c := 11) (P := fun ci => P_pok P_cl P_Tb "OrchardQueryModel" false 113 ci 33) rfl ⟨_, _, _, "OrchardQueryModel", rfl, by decide, (Or.inl rfl), (Or.inl ⟨w_6_125, (Or.inl rfl)⟩)⟩)) <|
  P_all_cons (P_lnk_get (P_s1 (c := 11) (P := fun ci => P_fok P_cl P_Tb "OrchardQueryModel" 113 ci 33) rfl ⟨_, _, _, "OrchardQueryModel", rfl, by decide, (Or.inl rfl), (Or.inl w_6_125)⟩)) <|
  P_all_cons (P_lnk_put (P_s1 (c := 11) (P := fun ci => P_pok P_cl P_Tb "OrchardQueryModel" false 113 ci 33) rfl ⟨_, _, _, "OrchardQueryModel", rfl, by decide, (Or.inl rfl), (Or.inl ⟨w_6_125, (Or.inl rfl)⟩)⟩)) <|
  P_all_nil
set_option maxRecDepth 20000 in
theorem P_m207 : P_mst 207 1 (Option.some Jvm.ClassFile.FieldType.int) P_e207 [] := P_meth (mx := 1) (rt := (Option.some Jvm.ClassFile.FieldType.int)) (hs := []) "OrchardQueryModel" false prog_14_method_26_code [] rfl rfl rfl rfl (by decide +kernel) (by decide +kernel) (fun _ => P_g207) (by decide) (fun _ _ => by decide +kernel) (fun q => by cases q) (P_all_cons (by decide +kernel) <| P_all_cons (by decide +kernel) <| P_all_cons (by decide +kernel) <| P_all_cons (by decide +kernel) <| P_all_nil) P_l207 (by decide +kernel) P_k207 (fun _ _ => P_hok_nil)
/-- OrchardQueryModel.readAll()I -/
def P_l208 : List (Nat × P_I) := [(2, .putfield 113, 5, 11, 33, [], []), (6, .invokevirtual 155, 9, 0, 174, [], []), (15, .invokevirtual 158, 18, 0, 175, [], []), (24, .invokevirtual 161, 27, 0, 176, [], []), (33, .invokevirtual 164, 36, 0, 177, [], []), (42, .invokevirtual 167, 45, 0, 178, [], [])]
set_option maxRecDepth 20000 in
theorem P_k208 : ∀ q ∈ P_l208, P_lnk P_cl P_aty P_stat P_tx P_N0 P_Tb P_Y0 "OrchardQueryModel" false prog_14_method_27_code [] q.1 q.2.1 q.2.2.2.1 q.2.2.2.2.1 :=
  P_all_cons (P_lnk_put (P_s1 (c := 11) (P := fun ci => P_pok P_cl P_Tb "OrchardQueryModel" false 113 ci 33) rfl ⟨_, _, _, "OrchardQueryModel", rfl, by decide, (Or.inl rfl), (Or.inl ⟨w_6_125, (Or.inl rfl)⟩)⟩)) <|
  P_all_cons (P_lnk_vi (P_vall (l := P_v174) rfl (P_all_cons (show P_vok _ _ _ 11 202 from ⟨_, rfl, rfl, w_1_13, w_7_27, (Or.inl ⟨P_sg 0 rfl, w_p_52, (Or.inl w_7_25)⟩)⟩) (P_all_nil)))) <|
  P_all_cons (P_lnk_vi (P_vall (l := P_v175) rfl (P_all_cons (show P_vok _ _ _ 11 203 from ⟨_, rfl, rfl, w_1_13, w_7_47, (Or.inl ⟨P_sg 0 rfl, w_p_57, (Or.inl w_7_45)⟩)⟩) (P_all_nil)))) <|
  P_all_cons (P_lnk_vi (P_vall (l := P_v176) rfl (P_all_cons (show P_vok _ _ _ 11 204 from ⟨_, rfl, rfl, w_1_13, w_7_51, (Or.inl ⟨P_sg 0 rfl, w_p_58, (Or.inl w_7_49)⟩)⟩) (P_all_nil)))) <|
  P_all_cons (P_lnk_vi (P_vall (l := P_v177) rfl (P_all_cons (show P_vok _ _ _ 11 205 from ⟨_, rfl, rfl, w_1_13, w_7_59, (Or.inl ⟨P_sg 0 rfl, w_p_60, (Or.inl w_7_57)⟩)⟩) (P_all_nil)))) <|
  P_all_cons (P_lnk_vi (P_vall (l := P_v178) rfl (P_all_cons (show P_vok _ _ _ 11 207 from ⟨_, rfl, rfl, w_1_13, w_7_63, (Or.inl ⟨P_sg 0 rfl, w_p_61, (Or.inl w_7_61)⟩)⟩) (P_all_nil)))) <|
  P_all_nil
set_option maxRecDepth 20000 in
theorem P_m208 : P_mst 208 2 (Option.some Jvm.ClassFile.FieldType.int) P_e208 [] := P_meth (mx := 2) (rt := (Option.some Jvm.ClassFile.FieldType.int)) (hs := []) "OrchardQueryModel" false prog_14_method_27_code [] rfl rfl rfl rfl (by decide +kernel) (by decide +kernel) (fun _ => P_g208) (by decide) (fun _ _ => by decide +kernel) (fun q => by cases q) (P_all_cons (by decide +kernel) <| P_all_cons (by decide +kernel) <| P_all_nil) P_l208 (by decide +kernel) P_k208 (fun _ _ => P_hok_nil)
/-- OrchardQueryModel.read()I -/
def P_l209 : List (Nat × P_I) := [(2, .putfield 62, 5, 11, 0, [], []), (6, .invokevirtual 93, 9, 0, 164, [], []), (10, .invokevirtual 170, 13, 0, 179, [], []), (24, .putfield 107, 27, 11, 7, [], []), (29, .getfield 107, 32, 11, 7, [], []), (40, .getfield 113, 43, 11, 33, [], []), (43, .putfield 22, 46, 11, 8, [], []), (48, .putfield 173, 51, 11, 23, [], []), (59, .getfield 48, 62, 11, 22, [], []), (75, .getfield 137, 78, 11, 17, [], []), (82, .getfield 45, 85, 11, 21, [], []), (87, .getfield 134, 90, 11, 12, [], [])]
set_option maxRecDepth 20000 in
theorem P_k209 : ∀ q ∈ P_l209, P_lnk P_cl P_aty P_stat P_tx P_N0 P_Tb P_Y0 "OrchardQueryModel" false prog_14_method_28_code [] q.1 q.2.1 q.2.2.2.1 q.2.2.2.2.1 :=
  P_all_cons (P_lnk_put (P_s1 (c := 11) (P := fun ci => P_pok P_cl P_Tb "OrchardQueryModel" false 62 ci 0) rfl ⟨_, _, _, "OrchardQueryModel", rfl, by decide, (Or.inl rfl), (Or.inl ⟨w_6_92, (Or.inl rfl)⟩)⟩)) <|
  P_all_cons (P_lnk_vi (P_vall (l := P_v164) rfl (P_all_cons (show P_vok _ _ _ 11 190 from ⟨_, rfl, rfl, w_1_13, w_6_227, (Or.inl ⟨P_sg 0 rfl, w_p_47, (Or.inl w_6_225)⟩)⟩) (P_all_nil)))) <|
  P_all_cons (P_lnk_vi (P_vall (l := P_v179) rfl (P_all_cons (show P_vok _ _ _ 11 208 from ⟨_, rfl, rfl, w_1_13, w_7_23, (Or.inl ⟨P_sg 0 rfl, w_p_51, (Or.inl w_7_21)⟩)⟩) (P_all_nil)))) <|
  P_all_cons (P_lnk_put (P_s1 (c := 11) (P := fun ci => P_pok P_cl P_Tb "OrchardQueryModel" false 107 ci 7) rfl ⟨_, _, _, "OrchardQueryModel", rfl, by decide, (Or.inl rfl), (Or.inl ⟨w_6_99, (Or.inl rfl)⟩)⟩)) <|
  P_all_cons (P_lnk_get (P_s1 (c := 11) (P := fun ci => P_fok P_cl P_Tb "OrchardQueryModel" 107 ci 7) rfl ⟨_, _, _, "OrchardQueryModel", rfl, by decide, (Or.inl rfl), (Or.inl w_6_99)⟩)) <|
  P_all_cons (P_lnk_get (P_s1 (c := 11) (P := fun ci => P_fok P_cl P_Tb "OrchardQueryModel" 113 ci 33) rfl ⟨_, _, _, "OrchardQueryModel", rfl, by decide, (Or.inl rfl), (Or.inl w_6_125)⟩)) <|
  P_all_cons (P_lnk_put (P_s1 (c := 11) (P := fun ci => P_pok P_cl P_Tb "OrchardQueryModel" false 22 ci 8) rfl ⟨_, _, _, "OrchardQueryModel", rfl, by decide, (Or.inl rfl), (Or.inl ⟨w_6_100, (Or.inl rfl)⟩)⟩)) <|
  P_all_cons (P_lnk_put (P_s1 (c := 11) (P := fun ci => P_pok P_cl P_Tb "OrchardQueryModel" false 173 ci 23) rfl ⟨_, _, _, "OrchardQueryModel", rfl, by decide, (Or.inl rfl), (Or.inl ⟨w_6_115, (Or.inl rfl)⟩)⟩)) <|
  P_all_cons (P_lnk_get (P_s1 (c := 11) (P := fun ci => P_fok P_cl P_Tb "OrchardQueryModel" 48 ci 22) rfl ⟨_, _, _, "OrchardQueryModel", rfl, by decide, (Or.inl rfl), (Or.inl w_6_114)⟩)) <|
  P_all_cons (P_lnk_get (P_s1 (c := 11) (P := fun ci => P_fok P_cl P_Tb "OrchardQueryModel" 137 ci 17) rfl ⟨_, _, _, "OrchardQueryModel", rfl, by decide, (Or.inl rfl), (Or.inl w_6_109)⟩)) <|
  P_all_cons (P_lnk_get (P_s1 (c := 11) (P := fun ci => P_fok P_cl P_Tb "OrchardQueryModel" 45 ci 21) rfl ⟨_, _, _, "OrchardQueryModel", rfl, by decide, (Or.inl rfl), (Or.inl w_6_113)⟩)) <|
  P_all_cons (P_lnk_get (P_s1 (c := 11) (P := fun ci => P_fok P_cl P_Tb "OrchardQueryModel" 134 ci 12) rfl ⟨_, _, _, "OrchardQueryModel", rfl, by decide, (Or.inl rfl), (Or.inl w_6_104)⟩)) <|
  P_all_nil
set_option maxRecDepth 20000 in
theorem P_m209 : P_mst 209 3 (Option.some Jvm.ClassFile.FieldType.int) P_e209 [] := P_meth (mx := 3) (rt := (Option.some Jvm.ClassFile.FieldType.int)) (hs := []) "OrchardQueryModel" false prog_14_method_28_code [] rfl rfl rfl rfl (by decide +kernel) (by decide +kernel) (fun _ => P_g209) (by decide) (fun _ _ => by decide +kernel) (fun q => by cases q) (P_all_cons (by decide +kernel) <| P_all_cons (by decide +kernel) <| P_all_cons (by decide +kernel) <| P_all_cons (by decide +kernel) <| P_all_nil) P_l209 (by decide +kernel) P_k209 (fun _ _ => P_hok_nil)
/-- OrchardQueryModel.faultAt()I -/
def P_l210 : List (Nat × P_I) := [(2, .getfield 22, 5, 11, 8, [], []), (5, .invokevirtual 110, 8, 1, 167, [], [])]
set_option maxRecDepth 20000 in
theorem P_k210 : ∀ q ∈ P_l210, P_lnk P_cl P_aty P_stat P_tx P_N0 P_Tb P_Y0 "OrchardQueryModel" false prog_14_method_29_code [] q.1 q.2.1 q.2.2.2.1 q.2.2.2.2.1 :=
  P_all_cons (P_lnk_get (P_s1 (c := 11) (P := fun ci => P_fok P_cl P_Tb "OrchardQueryModel" 22 ci 8) rfl ⟨_, _, _, "OrchardQueryModel", rfl, by decide, (Or.inl rfl), (Or.inl w_6_100)⟩)) <|
  P_all_cons (P_lnk_vi (P_vall (l := P_v167) rfl (P_all_cons (show P_vok _ _ _ 11 185 from ⟨_, rfl, rfl, w_1_13, w_7_15, (Or.inl ⟨P_sg 1 rfl, w_p_50, (Or.inl w_7_13)⟩)⟩) (P_all_nil)))) <|
  P_all_nil
set_option maxRecDepth 20000 in
theorem P_m210 : P_mst 210 1 (Option.some Jvm.ClassFile.FieldType.int) P_e210 [] := P_meth (mx := 1) (rt := (Option.some Jvm.ClassFile.FieldType.int)) (hs := []) "OrchardQueryModel" false prog_14_method_29_code [] rfl rfl rfl rfl (by decide +kernel) (by decide +kernel) (fun _ => P_g210) (by decide) (fun _ _ => by decide +kernel) (fun q => by cases q) (P_all_cons (by decide +kernel) <| P_all_nil) P_l210 (by decide +kernel) P_k210 (fun _ _ => P_hok_nil)
/-- OrchardQueryModel.manyNow(I)I -/
def P_l211 : List (Nat × P_I) := [(10, .getfield 65, 13, 11, 1, [], []), (17, .getfield 104, 20, 11, 5, [], []), (22, .getfield 107, 25, 11, 7, [], []), (38, .getfield 124, 41, 11, 9, [], []), (50, .getfield 134, 53, 11, 12, [], []), (57, .getfield 137, 60, 11, 17, [], [])]
set_option maxRecDepth 20000 in
theorem P_k211 : ∀ q ∈ P_l211, P_lnk P_cl P_aty P_stat P_tx P_N0 P_Tb P_Y0 "OrchardQueryModel" false prog_14_method_30_code [] q.1 q.2.1 q.2.2.2.1 q.2.2.2.2.1 :=
  P_all_cons (P_lnk_get (P_s1 (c := 11) (P := fun ci => P_fok P_cl P_Tb "OrchardQueryModel" 65 ci 1) rfl ⟨_, _, _, "OrchardQueryModel", rfl, by decide, (Or.inl rfl), (Or.inl w_6_93)⟩)) <|
  P_all_cons (P_lnk_get (P_s1 (c := 11) (P := fun ci => P_fok P_cl P_Tb "OrchardQueryModel" 104 ci 5) rfl ⟨_, _, _, "OrchardQueryModel", rfl, by decide, (Or.inl rfl), (Or.inl w_6_97)⟩)) <|
  P_all_cons (P_lnk_get (P_s1 (c := 11) (P := fun ci => P_fok P_cl P_Tb "OrchardQueryModel" 107 ci 7) rfl ⟨_, _, _, "OrchardQueryModel", rfl, by decide, (Or.inl rfl), (Or.inl w_6_99)⟩)) <|
  P_all_cons (P_lnk_get (P_s1 (c := 11) (P := fun ci => P_fok P_cl P_Tb "OrchardQueryModel" 124 ci 9) rfl ⟨_, _, _, "OrchardQueryModel", rfl, by decide, (Or.inl rfl), (Or.inl w_6_101)⟩)) <|
  P_all_cons (P_lnk_get (P_s1 (c := 11) (P := fun ci => P_fok P_cl P_Tb "OrchardQueryModel" 134 ci 12) rfl ⟨_, _, _, "OrchardQueryModel", rfl, by decide, (Or.inl rfl), (Or.inl w_6_104)⟩)) <|
  P_all_cons (P_lnk_get (P_s1 (c := 11) (P := fun ci => P_fok P_cl P_Tb "OrchardQueryModel" 137 ci 17) rfl ⟨_, _, _, "OrchardQueryModel", rfl, by decide, (Or.inl rfl), (Or.inl w_6_109)⟩)) <|
  P_all_nil
set_option maxRecDepth 20000 in
theorem P_m211 : P_mst 211 2 (Option.some Jvm.ClassFile.FieldType.int) P_e211 [] := P_meth (mx := 2) (rt := (Option.some Jvm.ClassFile.FieldType.int)) (hs := []) "OrchardQueryModel" false prog_14_method_30_code [] rfl rfl rfl rfl (by decide +kernel) (by decide +kernel) (fun _ => P_g211) (by decide) (fun _ _ => by decide +kernel) (fun q => by cases q) (P_all_cons (by decide +kernel) <| P_all_cons (by decide +kernel) <| P_all_nil) P_l211 (by decide +kernel) P_k211 (fun _ _ => P_hok_nil)
/-- OrchardQueryModel.many(I)I -/
def P_l212 : List (Nat × P_I) := [(2, .putfield 62, 5, 11, 0, [], []), (8, .invokestatic 68, 11, 3, 186, [], []), (16, .invokevirtual 176, 19, 1, 180, [], []), (24, .invokevirtual 72, 27, 1, 162, [], [])]
set_option maxRecDepth 20000 in
theorem P_k212 : ∀ q ∈ P_l212, P_lnk P_cl P_aty P_stat P_tx P_N0 P_Tb P_Y0 "OrchardQueryModel" false prog_14_method_31_code [] q.1 q.2.1 q.2.2.2.1 q.2.2.2.2.1 :=
  P_all_cons (P_lnk_put (P_s1 (c := 11) (P := fun ci => P_pok P_cl P_Tb "OrchardQueryModel" false 62 ci 0) rfl ⟨_, _, _, "OrchardQueryModel", rfl, by decide, (Or.inl rfl), (Or.inl ⟨w_6_92, (Or.inl rfl)⟩)⟩)) <|
  P_all_cons (P_lnk_st (by decide) (fun _ => ⟨P_sg 3 rfl, w_1_13, w_6_208, (Or.inl w_6_207)⟩)) <|
  P_all_cons (P_lnk_vi (P_vall (l := P_v180) rfl (P_all_cons (show P_vok _ _ _ 11 211 from ⟨_, rfl, rfl, w_1_13, w_7_79, (Or.inl ⟨P_sg 1 rfl, w_p_63, (Or.inl w_7_77)⟩)⟩) (P_all_nil)))) <|
  P_all_cons (P_lnk_vi (P_vall (l := P_v162) rfl (P_all_cons (show P_vok _ _ _ 11 184 from ⟨_, rfl, rfl, w_1_13, w_6_212, (Or.inl ⟨P_sg 1 rfl, w_p_45, (Or.inl w_6_210)⟩)⟩) (P_all_nil)))) <|
  P_all_nil
set_option maxRecDepth 20000 in
theorem P_m212 : P_mst 212 2 (Option.some Jvm.ClassFile.FieldType.int) P_e212 [] := P_meth (mx := 2) (rt := (Option.some Jvm.ClassFile.FieldType.int)) (hs := []) "OrchardQueryModel" false prog_14_method_31_code [] rfl rfl rfl rfl (by decide +kernel) (by decide +kernel) (fun _ => P_g212) (by decide) (fun _ _ => by decide +kernel) (fun q => by cases q) (P_all_cons (by decide +kernel) <| P_all_nil) P_l212 (by decide +kernel) P_k212 (fun _ _ => P_hok_nil)
/-- OrchardQueryModel.isColumn(I)Z -/
def P_l213 : List (Nat × P_I) := []
set_option maxRecDepth 20000 in
theorem P_k213 : ∀ q ∈ P_l213, P_lnk P_cl P_aty P_stat P_tx P_N0 P_Tb P_Y0 "OrchardQueryModel" false prog_14_method_32_code [] q.1 q.2.1 q.2.2.2.1 q.2.2.2.2.1 :=
  P_all_nil
set_option maxRecDepth 20000 in
theorem P_m213 : P_mst 213 1 (Option.some Jvm.ClassFile.FieldType.boolean) P_e213 [] := P_meth (mx := 1) (rt := (Option.some Jvm.ClassFile.FieldType.boolean)) (hs := []) "OrchardQueryModel" false prog_14_method_32_code [] rfl rfl rfl rfl (by decide +kernel) (by decide +kernel) (fun _ => P_g213) (by decide) (fun _ _ => by decide +kernel) (fun q => by cases q) (P_all_cons (by decide +kernel) <| P_all_nil) P_l213 (by decide +kernel) P_k213 (fun _ _ => P_hok_nil)
/-- OrchardQueryModel.seatOf(I)I -/
def P_l214 : List (Nat × P_I) := []
set_option maxRecDepth 20000 in
theorem P_k214 : ∀ q ∈ P_l214, P_lnk P_cl P_aty P_stat P_tx P_N0 P_Tb P_Y0 "OrchardQueryModel" false prog_14_method_33_code [] q.1 q.2.1 q.2.2.2.1 q.2.2.2.2.1 :=
  P_all_nil
set_option maxRecDepth 20000 in
theorem P_m214 : P_mst 214 1 (Option.some Jvm.ClassFile.FieldType.int) P_e214 [] := P_meth (mx := 1) (rt := (Option.some Jvm.ClassFile.FieldType.int)) (hs := []) "OrchardQueryModel" false prog_14_method_33_code [] rfl rfl rfl rfl (by decide +kernel) (by decide +kernel) (fun _ => P_g214) (by decide) (fun _ _ => by decide +kernel) (fun q => by cases q) (P_all_cons (by decide +kernel) <| P_all_nil) P_l214 (by decide +kernel) P_k214 (fun _ _ => P_hok_nil)
/-- OrchardQueryModel.placeOf(I)I -/
def P_l215 : List (Nat × P_I) := [(3, .getfield 48, 6, 11, 22, [], [])]
set_option maxRecDepth 20000 in
theorem P_k215 : ∀ q ∈ P_l215, P_lnk P_cl P_aty P_stat P_tx P_N0 P_Tb P_Y0 "OrchardQueryModel" false prog_14_method_34_code [] q.1 q.2.1 q.2.2.2.1 q.2.2.2.2.1 :=
  P_all_cons (P_lnk_get (P_s1 (c := 11) (P := fun ci => P_fok P_cl P_Tb "OrchardQueryModel" 48 ci 22) rfl ⟨_, _, _, "OrchardQueryModel", rfl, by decide, (Or.inl rfl), (Or.inl w_6_114)⟩)) <|
  P_all_nil
set_option maxRecDepth 20000 in
theorem P_m215 : P_mst 215 3 (Option.some Jvm.ClassFile.FieldType.int) P_e215 [] := P_meth (mx := 3) (rt := (Option.some Jvm.ClassFile.FieldType.int)) (hs := []) "OrchardQueryModel" false prog_14_method_34_code [] rfl rfl rfl rfl (by decide +kernel) (by decide +kernel) (fun _ => P_g215) (by decide) (fun _ _ => by decide +kernel) (fun q => by cases q) (P_all_cons (by decide +kernel) <| P_all_nil) P_l215 (by decide +kernel) P_k215 (fun _ _ => P_hok_nil)
/-- OrchardQueryModel.low(I)I -/
def P_l216 : List (Nat × P_I) := [(2, .getfield 36, 5, 11, 18, [], []), (7, .invokestatic 179, 10, 1, 214, [], []), (10, .invokevirtual 182, 13, 1, 181, [], []), (15, .getfield 42, 18, 11, 20, [], []), (20, .invokestatic 185, 23, 1, 213, [], []), (29, .getfield 42, 32, 11, 20, [], []), (34, .invokestatic 179, 37, 1, 214, [], []), (37, .invokevirtual 182, 40, 1, 181, [], []), (40, .invokestatic 188, 43, 2, 9001, [], [])]
set_option maxRecDepth 20000 in
theorem P_k216 : ∀ q ∈ P_l216, P_lnk P_cl P_aty P_stat P_tx P_N0 P_Tb P_Y0 "OrchardQueryModel" false prog_14_method_35_code [] q.1 q.2.1 q.2.2.2.1 q.2.2.2.2.1 :=
  P_all_cons (P_lnk_get (P_s1 (c := 11) (P := fun ci => P_fok P_cl P_Tb "OrchardQueryModel" 36 ci 18) rfl ⟨_, _, _, "OrchardQueryModel", rfl, by decide, (Or.inl rfl), (Or.inl w_6_110)⟩)) <|
  P_all_cons (P_lnk_st (by decide) (fun _ => ⟨P_sg 1 rfl, w_1_13, w_7_94, (Or.inl w_7_93)⟩)) <|
  P_all_cons (P_lnk_vi (P_vall (l := P_v181) rfl (P_all_cons (show P_vok _ _ _ 11 215 from ⟨_, rfl, rfl, w_1_13, w_7_98, (Or.inl ⟨P_sg 1 rfl, w_p_66, (Or.inl w_7_96)⟩)⟩) (P_all_nil)))) <|
  P_all_cons (P_lnk_get (P_s1 (c := 11) (P := fun ci => P_fok P_cl P_Tb "OrchardQueryModel" 42 ci 20) rfl ⟨_, _, _, "OrchardQueryModel", rfl, by decide, (Or.inl rfl), (Or.inl w_6_112)⟩)) <|
  P_all_cons (P_lnk_st (by decide) (fun _ => ⟨P_sg 1 rfl, w_1_13, w_7_101, (Or.inl w_7_100)⟩)) <|
  P_all_cons (P_lnk_get (P_s1 (c := 11) (P := fun ci => P_fok P_cl P_Tb "OrchardQueryModel" 42 ci 20) rfl ⟨_, _, _, "OrchardQueryModel", rfl, by decide, (Or.inl rfl), (Or.inl w_6_112)⟩)) <|
  P_all_cons (P_lnk_st (by decide) (fun _ => ⟨P_sg 1 rfl, w_1_13, w_7_94, (Or.inl w_7_93)⟩)) <|
  P_all_cons (P_lnk_vi (P_vall (l := P_v181) rfl (P_all_cons (show P_vok _ _ _ 11 215 from ⟨_, rfl, rfl, w_1_13, w_7_98, (Or.inl ⟨P_sg 1 rfl, w_p_66, (Or.inl w_7_96)⟩)⟩) (P_all_nil)))) <|
  P_all_cons (P_lnk_sj (by decide) ⟨fun _ => ⟨w_7_103, w_2_166, w_1_21, w_2_167⟩, (fun q => absurd q (by decide))⟩) <|
  P_all_nil
set_option maxRecDepth 20000 in
theorem P_m216 : P_mst 216 3 (Option.some Jvm.ClassFile.FieldType.int) P_e216 [] := P_meth (mx := 3) (rt := (Option.some Jvm.ClassFile.FieldType.int)) (hs := []) "OrchardQueryModel" false prog_14_method_35_code [] rfl rfl rfl rfl (by decide +kernel) (by decide +kernel) (fun _ => P_g216) (by decide) (fun _ _ => by decide +kernel) (fun q => by cases q) (P_all_cons (by decide +kernel) <| P_all_cons (by decide +kernel) <| P_all_nil) P_l216 (by decide +kernel) P_k216 (fun _ _ => P_hok_nil)
/-- OrchardQueryModel.varietyOf(I)I -/
def P_l217 : List (Nat × P_I) := [(2, .getfield 33, 5, 11, 13, [], []), (6, .invokestatic 179, 9, 1, 214, [], []), (17, .invokevirtual 100, 20, 2, 166, [], [])]
set_option maxRecDepth 20000 in
theorem P_k217 : ∀ q ∈ P_l217, P_lnk P_cl P_aty P_stat P_tx P_N0 P_Tb P_Y0 "OrchardQueryModel" false prog_14_method_36_code [] q.1 q.2.1 q.2.2.2.1 q.2.2.2.2.1 :=
  P_all_cons (P_lnk_get (P_s1 (c := 11) (P := fun ci => P_fok P_cl P_Tb "OrchardQueryModel" 33 ci 13) rfl ⟨_, _, _, "OrchardQueryModel", rfl, by decide, (Or.inl rfl), (Or.inl w_6_105)⟩)) <|
  P_all_cons (P_lnk_st (by decide) (fun _ => ⟨P_sg 1 rfl, w_1_13, w_7_94, (Or.inl w_7_93)⟩)) <|
  P_all_cons (P_lnk_vi (P_vall (l := P_v166) rfl (P_all_cons (show P_vok _ _ _ 11 193 from ⟨_, rfl, rfl, w_1_13, w_6_239, (Or.inl ⟨P_sg 2 rfl, w_p_48, (Or.inl w_6_237)⟩)⟩) (P_all_nil)))) <|
  P_all_nil
set_option maxRecDepth 20000 in
theorem P_m217 : P_mst 217 2 (Option.some Jvm.ClassFile.FieldType.int) P_e217 [] := P_meth (mx := 2) (rt := (Option.some Jvm.ClassFile.FieldType.int)) (hs := []) "OrchardQueryModel" false prog_14_method_36_code [] rfl rfl rfl rfl (by decide +kernel) (by decide +kernel) (fun _ => P_g217) (by decide) (fun _ _ => by decide +kernel) (fun q => by cases q) (P_all_cons (by decide +kernel) <| P_all_nil) P_l217 (by decide +kernel) P_k217 (fun _ _ => P_hok_nil)
/-- OrchardQueryModel.part(I)I -/
def P_l218 : List (Nat × P_I) := [(1, .getfield 39, 4, 11, 19, [], []), (16, .getfield 42, 19, 11, 20, [], []), (21, .invokestatic 185, 24, 1, 213, [], []), (29, .getfield 36, 32, 11, 18, [], []), (34, .invokevirtual 193, 37, 1, 182, [], []), (39, .getfield 42, 42, 11, 20, [], []), (44, .invokevirtual 193, 47, 1, 182, [], []), (47, .invokestatic 188, 50, 2, 9001, [], []), (55, .getfield 36, 58, 11, 18, [], []), (60, .invokevirtual 193, 63, 1, 182, [], []), (81, .getfield 39, 84, 11, 19, [], [])]
set_option maxRecDepth 20000 in
theorem P_k218 : ∀ q ∈ P_l218, P_lnk P_cl P_aty P_stat P_tx P_N0 P_Tb P_Y0 "OrchardQueryModel" false prog_14_method_37_code [] q.1 q.2.1 q.2.2.2.1 q.2.2.2.2.1 :=
  P_all_cons (P_lnk_get (P_s1 (c := 11) (P := fun ci => P_fok P_cl P_Tb "OrchardQueryModel" 39 ci 19) rfl ⟨_, _, _, "OrchardQueryModel", rfl, by decide, (Or.inl rfl), (Or.inl w_6_111)⟩)) <|
  P_all_cons (P_lnk_get (P_s1 (c := 11) (P := fun ci => P_fok P_cl P_Tb "OrchardQueryModel" 42 ci 20) rfl ⟨_, _, _, "OrchardQueryModel", rfl, by decide, (Or.inl rfl), (Or.inl w_6_112)⟩)) <|
  P_all_cons (P_lnk_st (by decide) (fun _ => ⟨P_sg 1 rfl, w_1_13, w_7_101, (Or.inl w_7_100)⟩)) <|
  P_all_cons (P_lnk_get (P_s1 (c := 11) (P := fun ci => P_fok P_cl P_Tb "OrchardQueryModel" 36 ci 18) rfl ⟨_, _, _, "OrchardQueryModel", rfl, by decide, (Or.inl rfl), (Or.inl w_6_110)⟩)) <|
  P_all_cons (P_lnk_vi (P_vall (l := P_v182) rfl (P_all_cons (show P_vok _ _ _ 11 217 from ⟨_, rfl, rfl, w_1_13, w_7_110, (Or.inl ⟨P_sg 1 rfl, w_p_68, (Or.inl w_7_108)⟩)⟩) (P_all_nil)))) <|
  P_all_cons (P_lnk_get (P_s1 (c := 11) (P := fun ci => P_fok P_cl P_Tb "OrchardQueryModel" 42 ci 20) rfl ⟨_, _, _, "OrchardQueryModel", rfl, by decide, (Or.inl rfl), (Or.inl w_6_112)⟩)) <|
  P_all_cons (P_lnk_vi (P_vall (l := P_v182) rfl (P_all_cons (show P_vok _ _ _ 11 217 from ⟨_, rfl, rfl, w_1_13, w_7_110, (Or.inl ⟨P_sg 1 rfl, w_p_68, (Or.inl w_7_108)⟩)⟩) (P_all_nil)))) <|
  P_all_cons (P_lnk_sj (by decide) ⟨fun _ => ⟨w_7_103, w_2_166, w_1_21, w_2_167⟩, (fun q => absurd q (by decide))⟩) <|
  P_all_cons (P_lnk_get (P_s1 (c := 11) (P := fun ci => P_fok P_cl P_Tb "OrchardQueryModel" 36 ci 18) rfl ⟨_, _, _, "OrchardQueryModel", rfl, by decide, (Or.inl rfl), (Or.inl w_6_110)⟩)) <|
  P_all_cons (P_lnk_vi (P_vall (l := P_v182) rfl (P_all_cons (show P_vok _ _ _ 11 217 from ⟨_, rfl, rfl, w_1_13, w_7_110, (Or.inl ⟨P_sg 1 rfl, w_p_68, (Or.inl w_7_108)⟩)⟩) (P_all_nil)))) <|
  P_all_cons (P_lnk_get (P_s1 (c := 11) (P := fun ci => P_fok P_cl P_Tb "OrchardQueryModel" 39 ci 19) rfl ⟨_, _, _, "OrchardQueryModel", rfl, by decide, (Or.inl rfl), (Or.inl w_6_111)⟩)) <|
  P_all_nil
set_option maxRecDepth 20000 in
theorem P_m218 : P_mst 218 4 (Option.some Jvm.ClassFile.FieldType.int) P_e218 [] := P_meth (mx := 4) (rt := (Option.some Jvm.ClassFile.FieldType.int)) (hs := []) "OrchardQueryModel" false prog_14_method_37_code [] rfl rfl rfl rfl (by decide +kernel) (by decide +kernel) (fun _ => P_g218) (by decide) (fun _ _ => by decide +kernel) (fun q => by cases q) (P_all_cons (by decide +kernel) <| P_all_cons (by decide +kernel) <| P_all_cons (by decide +kernel) <| P_all_cons (by decide +kernel) <| P_all_nil) P_l218 (by decide +kernel) P_k218 (fun _ _ => P_hok_nil)
/-- OrchardQueryModel.ofNow(II)I -/
def P_l219 : List (Nat × P_I) := [(37, .getfield 36, 40, 11, 18, [], []), (44, .getfield 39, 47, 11, 19, [], []), (51, .getfield 42, 54, 11, 20, [], []), (58, .getfield 45, 61, 11, 21, [], []), (66, .invokevirtual 196, 69, 1, 183, [], []), (72, .invokevirtual 199, 75, 1, 184, [], [])]
set_option maxRecDepth 20000 in
theorem P_k219 : ∀ q ∈ P_l219, P_lnk P_cl P_aty P_stat P_tx P_N0 P_Tb P_Y0 "OrchardQueryModel" false prog_14_method_38_code [] q.1 q.2.1 q.2.2.2.1 q.2.2.2.2.1 :=
  P_all_cons (P_lnk_get (P_s1 (c := 11) (P := fun ci => P_fok P_cl P_Tb "OrchardQueryModel" 36 ci 18) rfl ⟨_, _, _, "OrchardQueryModel", rfl, by decide, (Or.inl rfl), (Or.inl w_6_110)⟩)) <|
  P_all_cons (P_lnk_get (P_s1 (c := 11) (P := fun ci => P_fok P_cl P_Tb "OrchardQueryModel" 39 ci 19) rfl ⟨_, _, _, "OrchardQueryModel", rfl, by decide, (Or.inl rfl), (Or.inl w_6_111)⟩)) <|
  P_all_cons (P_lnk_get (P_s1 (c := 11) (P := fun ci => P_fok P_cl P_Tb "OrchardQueryModel" 42 ci 20) rfl ⟨_, _, _, "OrchardQueryModel", rfl, by decide, (Or.inl rfl), (Or.inl w_6_112)⟩)) <|
  P_all_cons (P_lnk_get (P_s1 (c := 11) (P := fun ci => P_fok P_cl P_Tb "OrchardQueryModel" 45 ci 21) rfl ⟨_, _, _, "OrchardQueryModel", rfl, by decide, (Or.inl rfl), (Or.inl w_6_113)⟩)) <|
  P_all_cons (P_lnk_vi (P_vall (l := P_v183) rfl (P_all_cons (show P_vok _ _ _ 11 216 from ⟨_, rfl, rfl, w_1_13, w_7_91, (Or.inl ⟨P_sg 1 rfl, w_p_65, (Or.inl w_7_89)⟩)⟩) (P_all_nil)))) <|
  P_all_cons (P_lnk_vi (P_vall (l := P_v184) rfl (P_all_cons (show P_vok _ _ _ 11 218 from ⟨_, rfl, rfl, w_1_13, w_7_106, (Or.inl ⟨P_sg 1 rfl, w_p_67, (Or.inl w_7_104)⟩)⟩) (P_all_nil)))) <|
  P_all_nil
set_option maxRecDepth 20000 in
theorem P_m219 : P_mst 219 3 (Option.some Jvm.ClassFile.FieldType.int) P_e219 [] := P_meth (mx := 3) (rt := (Option.some Jvm.ClassFile.FieldType.int)) (hs := []) "OrchardQueryModel" false prog_14_method_38_code [] rfl rfl rfl rfl (by decide +kernel) (by decide +kernel) (fun _ => P_g219) (by decide) (fun _ _ => by decide +kernel) (fun q => by cases q) (P_all_cons (by decide +kernel) <| P_all_cons (by decide +kernel) <| P_all_cons (by decide +kernel) <| P_all_nil) P_l219 (by decide +kernel) P_k219 (fun _ _ => P_hok_nil)
/-- OrchardQueryModel.condition(II)I -/
def P_l220 : List (Nat × P_I) := [(2, .putfield 62, 5, 11, 0, [], []), (6, .getfield 107, 9, 11, 7, [], []), (14, .invokevirtual 72, 17, 1, 162, [], []), (21, .getfield 137, 24, 11, 17, [], []), (26, .invokestatic 68, 29, 3, 186, [], []), (34, .invokevirtual 72, 37, 1, 162, [], []), (41, .invokestatic 68, 44, 3, 186, [], []), (50, .invokevirtual 202, 53, 2, 185, [], []), (58, .invokevirtual 72, 61, 1, 162, [], [])]
set_option maxRecDepth 20000 in
theorem P_k220 : ∀ q ∈ P_l220, P_lnk P_cl P_aty P_stat P_tx P_N0 P_Tb P_Y0 "OrchardQueryModel" false prog_14_method_39_code [] q.1 q.2.1 q.2.2.2.1 q.2.2.2.2.1 :=
  P_all_cons (P_lnk_put (P_s1 (c := 11) (P := fun ci => P_pok P_cl P_Tb "OrchardQueryModel" false 62 ci 0) rfl ⟨_, _, _, "OrchardQueryModel", rfl, by decide, (Or.inl rfl), (Or.inl ⟨w_6_92, (Or.inl rfl)⟩)⟩)) <|
  P_all_cons (P_lnk_get (P_s1 (c := 11) (P := fun ci => P_fok P_cl P_Tb "OrchardQueryModel" 107 ci 7) rfl ⟨_, _, _, "OrchardQueryModel", rfl, by decide, (Or.inl rfl), (Or.inl w_6_99)⟩)) <|
  P_all_cons (P_lnk_vi (P_vall (l := P_v162) rfl (P_all_cons (show P_vok _ _ _ 11 184 from ⟨_, rfl, rfl, w_1_13, w_6_212, (Or.inl ⟨P_sg 1 rfl, w_p_45, (Or.inl w_6_210)⟩)⟩) (P_all_nil)))) <|
  P_all_cons (P_lnk_get (P_s1 (c := 11) (P := fun ci => P_fok P_cl P_Tb "OrchardQueryModel" 137 ci 17) rfl ⟨_, _, _, "OrchardQueryModel", rfl, by decide, (Or.inl rfl), (Or.inl w_6_109)⟩)) <|
  P_all_cons (P_lnk_st (by decide) (fun _ => ⟨P_sg 3 rfl, w_1_13, w_6_208, (Or.inl w_6_207)⟩)) <|
  P_all_cons (P_lnk_vi (P_vall (l := P_v162) rfl (P_all_cons (show P_vok _ _ _ 11 184 from ⟨_, rfl, rfl, w_1_13, w_6_212, (Or.inl ⟨P_sg 1 rfl, w_p_45, (Or.inl w_6_210)⟩)⟩) (P_all_nil)))) <|
  P_all_cons (P_lnk_st (by decide) (fun _ => ⟨P_sg 3 rfl, w_1_13, w_6_208, (Or.inl w_6_207)⟩)) <|
  P_all_cons (P_lnk_vi (P_vall (l := P_v185) rfl (P_all_cons (show P_vok _ _ _ 11 219 from ⟨_, rfl, rfl, w_1_13, w_7_87, (Or.inl ⟨P_sg 2 rfl, w_p_64, (Or.inl w_7_85)⟩)⟩) (P_all_nil)))) <|
  P_all_cons (P_lnk_vi (P_vall (l := P_v162) rfl (P_all_cons (show P_vok _ _ _ 11 184 from ⟨_, rfl, rfl, w_1_13, w_6_212, (Or.inl ⟨P_sg 1 rfl, w_p_45, (Or.inl w_6_210)⟩)⟩) (P_all_nil)))) <|
  P_all_nil
set_option maxRecDepth 20000 in
theorem P_m220 : P_mst 220 3 (Option.some Jvm.ClassFile.FieldType.int) P_e220 [] := P_meth (mx := 3) (rt := (Option.some Jvm.ClassFile.FieldType.int)) (hs := []) "OrchardQueryModel" false prog_14_method_39_code [] rfl rfl rfl rfl (by decide +kernel) (by decide +kernel) (fun _ => P_g220) (by decide) (fun _ _ => by decide +kernel) (fun q => by cases q) (P_all_cons (by decide +kernel) <| P_all_cons (by decide +kernel) <| P_all_nil) P_l220 (by decide +kernel) P_k220 (fun _ _ => P_hok_nil)
/-- OrchardQueryModel.dropCondition(I)V -/
def P_l221 : List (Nat × P_I) := [(1, .getfield 137, 4, 11, 17, [], []), (10, .getfield 36, 13, 11, 18, [], []), (17, .getfield 36, 20, 11, 18, [], []), (26, .getfield 39, 29, 11, 19, [], []), (33, .getfield 39, 36, 11, 19, [], []), (42, .getfield 42, 45, 11, 20, [], []), (49, .getfield 42, 52, 11, 20, [], []), (58, .getfield 45, 61, 11, 21, [], []), (65, .getfield 45, 68, 11, 21, [], []), (75, .getfield 137, 78, 11, 17, [], []), (80, .putfield 137, 83, 11, 17, [], [])]
set_option maxRecDepth 20000 in
theorem P_k221 : ∀ q ∈ P_l221, P_lnk P_cl P_aty P_stat P_tx P_N0 P_Tb P_Y0 "OrchardQueryModel" false prog_14_method_40_code [] q.1 q.2.1 q.2.2.2.1 q.2.2.2.2.1 :=
  P_all_cons (P_lnk_get (P_s1 (c := 11) (P := fun ci => P_fok P_cl P_Tb "OrchardQueryModel" 137 ci 17) rfl ⟨_, _, _, "OrchardQueryModel", rfl, by decide, (Or.inl rfl), (Or.inl w_6_109)⟩)) <|
  P_all_cons (P_lnk_get (P_s1 (c := 11) (P := fun ci => P_fok P_cl P_Tb "OrchardQueryModel" 36 ci 18) rfl ⟨_, _, _, "OrchardQueryModel", rfl, by decide, (Or.inl rfl), (Or.inl w_6_110)⟩)) <|
  P_all_cons (P_lnk_get (P_s1 (c := 11) (P := fun ci => P_fok P_cl P_Tb "OrchardQueryModel" 36 ci 18) rfl ⟨_, _, _, "OrchardQueryModel", rfl, by decide, (Or.inl rfl), (Or.inl w_6_110)⟩)) <|
  P_all_cons (P_lnk_get (P_s1 (c := 11) (P := fun ci => P_fok P_cl P_Tb "OrchardQueryModel" 39 ci 19) rfl ⟨_, _, _, "OrchardQueryModel", rfl, by decide, (Or.inl rfl), (Or.inl w_6_111)⟩)) <|
  P_all_cons (P_lnk_get (P_s1 (c := 11) (P := fun ci => P_fok P_cl P_Tb "OrchardQueryModel" 39 ci 19) rfl ⟨_, _, _, "OrchardQueryModel", rfl, by decide, (Or.inl rfl), (Or.inl w_6_111)⟩)) <|
  P_all_cons (P_lnk_get (P_s1 (c := 11) (P := fun ci => P_fok P_cl P_Tb "OrchardQueryModel" 42 ci 20) rfl ⟨_, _, _, "OrchardQueryModel", rfl, by decide, (Or.inl rfl), (Or.inl w_6_112)⟩)) <|
  P_all_cons (P_lnk_get (P_s1 (c := 11) (P := fun ci => P_fok P_cl P_Tb "OrchardQueryModel" 42 ci 20) rfl ⟨_, _, _, "OrchardQueryModel", rfl, by decide, (Or.inl rfl), (Or.inl w_6_112)⟩)) <|
  P_all_cons (P_lnk_get (P_s1 (c := 11) (P := fun ci => P_fok P_cl P_Tb "OrchardQueryModel" 45 ci 21) rfl ⟨_, _, _, "OrchardQueryModel", rfl, by decide, (Or.inl rfl), (Or.inl w_6_113)⟩)) <|
  P_all_cons (P_lnk_get (P_s1 (c := 11) (P := fun ci => P_fok P_cl P_Tb "OrchardQueryModel" 45 ci 21) rfl ⟨_, _, _, "OrchardQueryModel", rfl, by decide, (Or.inl rfl), (Or.inl w_6_113)⟩)) <|
  P_all_cons (P_lnk_get (P_s1 (c := 11) (P := fun ci => P_fok P_cl P_Tb "OrchardQueryModel" 137 ci 17) rfl ⟨_, _, _, "OrchardQueryModel", rfl, by decide, (Or.inl rfl), (Or.inl w_6_109)⟩)) <|
  P_all_cons (P_lnk_put (P_s1 (c := 11) (P := fun ci => P_pok P_cl P_Tb "OrchardQueryModel" false 137 ci 17) rfl ⟨_, _, _, "OrchardQueryModel", rfl, by decide, (Or.inl rfl), (Or.inl ⟨w_6_109, (Or.inl rfl)⟩)⟩)) <|
  P_all_nil
set_option maxRecDepth 20000 in
theorem P_m221 : P_mst 221 3 (Option.none : Option Jvm.ClassFile.FieldType) P_e221 [] := P_meth (mx := 3) (rt := (Option.none : Option Jvm.ClassFile.FieldType)) (hs := []) "OrchardQueryModel" false prog_14_method_40_code [] rfl rfl rfl rfl (by decide +kernel) (by decide +kernel) (fun _ => P_g221) (by decide) (fun _ _ => by decide +kernel) (fun q => by cases q) (P_all_cons (by decide +kernel) <| P_all_cons (by decide +kernel) <| P_all_cons (by decide +kernel) <| P_all_nil) P_l221 (by decide +kernel) P_k221 (fun _ _ => P_hok_nil)
/-- OrchardQueryModel.has(II)Z -/
def P_l222 : List (Nat × P_I) := [(4, .getfield 137, 7, 11, 17, [], []), (11, .getfield 36, 14, 11, 18, [], []), (21, .getfield 39, 24, 11, 19, [], []), (32, .getfield 42, 35, 11, 20, [], [])]
set_option maxRecDepth 20000 in
theorem P_k222 : ∀ q ∈ P_l222, P_lnk P_cl P_aty P_stat P_tx P_N0 P_Tb P_Y0 "OrchardQueryModel" false prog_14_method_41_code [] q.1 q.2.1 q.2.2.2.1 q.2.2.2.2.1 :=
  P_all_cons (P_lnk_get (P_s1 (c := 11) (P := fun ci => P_fok P_cl P_Tb "OrchardQueryModel" 137 ci 17) rfl ⟨_, _, _, "OrchardQueryModel", rfl, by decide, (Or.inl rfl), (Or.inl w_6_109)⟩)) <|
  P_all_cons (P_lnk_get (P_s1 (c := 11) (P := fun ci => P_fok P_cl P_Tb "OrchardQueryModel" 36 ci 18) rfl ⟨_, _, _, "OrchardQueryModel", rfl, by decide, (Or.inl rfl), (Or.inl w_6_110)⟩)) <|
  P_all_cons (P_lnk_get (P_s1 (c := 11) (P := fun ci => P_fok P_cl P_Tb "OrchardQueryModel" 39 ci 19) rfl ⟨_, _, _, "OrchardQueryModel", rfl, by decide, (Or.inl rfl), (Or.inl w_6_111)⟩)) <|
  P_all_cons (P_lnk_get (P_s1 (c := 11) (P := fun ci => P_fok P_cl P_Tb "OrchardQueryModel" 42 ci 20) rfl ⟨_, _, _, "OrchardQueryModel", rfl, by decide, (Or.inl rfl), (Or.inl w_6_112)⟩)) <|
  P_all_nil
set_option maxRecDepth 20000 in
theorem P_m222 : P_mst 222 4 (Option.some Jvm.ClassFile.FieldType.boolean) P_e222 [] := P_meth (mx := 4) (rt := (Option.some Jvm.ClassFile.FieldType.boolean)) (hs := []) "OrchardQueryModel" false prog_14_method_41_code [] rfl rfl rfl rfl (by decide +kernel) (by decide +kernel) (fun _ => P_g222) (by decide) (fun _ _ => by decide +kernel) (fun q => by cases q) (P_all_cons (by decide +kernel) <| P_all_cons (by decide +kernel) <| P_all_nil) P_l222 (by decide +kernel) P_k222 (fun _ _ => P_hok_nil)
/-- OrchardQueryModel.isDrawn(II)Z -/
def P_l223 : List (Nat × P_I) := [(3, .invokevirtual 205, 6, 2, 186, [], []), (12, .getfield 36, 15, 11, 18, [], []), (16, .getfield 137, 19, 11, 17, [], []), (22, .getfield 39, 25, 11, 19, [], []), (26, .getfield 137, 29, 11, 17, [], []), (33, .getfield 42, 36, 11, 20, [], []), (37, .getfield 137, 40, 11, 17, [], []), (43, .getfield 45, 46, 11, 21, [], []), (48, .getfield 137, 51, 11, 17, [], []), (54, .putfield 137, 57, 11, 17, [], []), (58, .getfield 134, 61, 11, 12, [], [])]
set_option maxRecDepth 20000 in
theorem P_k223 : ∀ q ∈ P_l223, P_lnk P_cl P_aty P_stat P_tx P_N0 P_Tb P_Y0 "OrchardQueryModel" false prog_14_method_42_code [] q.1 q.2.1 q.2.2.2.1 q.2.2.2.2.1 :=
  P_all_cons (P_lnk_vi (P_vall (l := P_v186) rfl (P_all_cons (show P_vok _ _ _ 11 222 from ⟨_, rfl, rfl, w_1_13, w_7_130, (Or.inl ⟨P_sg 2 rfl, w_p_72, (Or.inl w_7_128)⟩)⟩) (P_all_nil)))) <|
  P_all_cons (P_lnk_get (P_s1 (c := 11) (P := fun ci => P_fok P_cl P_Tb "OrchardQueryModel" 36 ci 18) rfl ⟨_, _, _, "OrchardQueryModel", rfl, by decide, (Or.inl rfl), (Or.inl w_6_110)⟩)) <|
  P_all_cons (P_lnk_get (P_s1 (c := 11) (P := fun ci => P_fok P_cl P_Tb "OrchardQueryModel" 137 ci 17) rfl ⟨_, _, _, "OrchardQueryModel", rfl, by decide, (Or.inl rfl), (Or.inl w_6_109)⟩)) <|
  P_all_cons (P_lnk_get (P_s1 (c := 11) (P := fun ci => P_fok P_cl P_Tb "OrchardQueryModel" 39 ci 19) rfl ⟨_, _, _, "OrchardQueryModel", rfl, by decide, (Or.inl rfl), (Or.inl w_6_111)⟩)) <|
  P_all_cons (P_lnk_get (P_s1 (c := 11) (P := fun ci => P_fok P_cl P_Tb "OrchardQueryModel" 137 ci 17) rfl ⟨_, _, _, "OrchardQueryModel", rfl, by decide, (Or.inl rfl), (Or.inl w_6_109)⟩)) <|
  P_all_cons (P_lnk_get (P_s1 (c := 11) (P := fun ci => P_fok P_cl P_Tb "OrchardQueryModel" 42 ci 20) rfl ⟨_, _, _, "OrchardQueryModel", rfl, by decide, (Or.inl rfl), (Or.inl w_6_112)⟩)) <|
  P_all_cons (P_lnk_get (P_s1 (c := 11) (P := fun ci => P_fok P_cl P_Tb "OrchardQueryModel" 137 ci 17) rfl ⟨_, _, _, "OrchardQueryModel", rfl, by decide, (Or.inl rfl), (Or.inl w_6_109)⟩)) <|
  P_all_cons (P_lnk_get (P_s1 (c := 11) (P := fun ci => P_fok P_cl P_Tb "OrchardQueryModel" 45 ci 21) rfl ⟨_, _, _, "OrchardQueryModel", rfl, by decide, (Or.inl rfl), (Or.inl w_6_113)⟩)) <|
  P_all_cons (P_lnk_get (P_s1 (c := 11) (P := fun ci => P_fok P_cl P_Tb "OrchardQueryModel" 137 ci 17) rfl ⟨_, _, _, "OrchardQueryModel", rfl, by decide, (Or.inl rfl), (Or.inl w_6_109)⟩)) <|
  P_all_cons (P_lnk_put (P_s1 (c := 11) (P := fun ci => P_pok P_cl P_Tb "OrchardQueryModel" false 137 ci 17) rfl ⟨_, _, _, "OrchardQueryModel", rfl, by decide, (Or.inl rfl), (Or.inl ⟨w_6_109, (Or.inl rfl)⟩)⟩)) <|
  P_all_cons (P_lnk_get (P_s1 (c := 11) (P := fun ci => P_fok P_cl P_Tb "OrchardQueryModel" 134 ci 12) rfl ⟨_, _, _, "OrchardQueryModel", rfl, by decide, (Or.inl rfl), (Or.inl w_6_104)⟩)) <|
  P_all_nil
set_option maxRecDepth 20000 in
theorem P_m223 : P_mst 223 3 (Option.some Jvm.ClassFile.FieldType.boolean) P_e223 [] := P_meth (mx := 3) (rt := (Option.some Jvm.ClassFile.FieldType.boolean)) (hs := []) "OrchardQueryModel" false prog_14_method_42_code [] rfl rfl rfl rfl (by decide +kernel) (by decide +kernel) (fun _ => P_g223) (by decide) (fun _ _ => by decide +kernel) (fun q => by cases q) (P_all_cons (by decide +kernel) <| P_all_cons (by decide +kernel) <| P_all_cons (by decide +kernel) <| P_all_nil) P_l223 (by decide +kernel) P_k223 (fun _ _ => P_hok_nil)
/-- OrchardQueryModel.draw()Z -/
def P_l224 : List (Nat × P_I) := [(4, .getfield 137, 7, 11, 17, [], []), (11, .getfield 137, 14, 11, 17, [], []), (20, .getfield 39, 23, 11, 19, [], []), (31, .getfield 42, 34, 11, 20, [], []), (36, .invokestatic 185, 39, 1, 213, [], []), (43, .getfield 36, 46, 11, 18, [], []), (49, .getfield 42, 52, 11, 20, [], []), (64, .getfield 137, 67, 11, 17, [], []), (71, .getfield 39, 74, 11, 19, [], []), (82, .getfield 42, 85, 11, 20, [], []), (87, .invokestatic 185, 90, 1, 213, [], []), (97, .getfield 36, 100, 11, 18, [], []), (103, .getfield 36, 106, 11, 18, [], []), (113, .getfield 42, 116, 11, 20, [], []), (119, .getfield 42, 122, 11, 20, [], []), (124, .invokevirtual 208, 127, 2, 187, [], []), (131, .getfield 36, 134, 11, 18, [], []), (137, .getfield 42, 140, 11, 20, [], []), (147, .getfield 36, 150, 11, 18, [], []), (153, .getfield 42, 156, 11, 20, [], []), (158, .invokevirtual 208, 161, 2, 187, [], [])]
set_option maxRecDepth 20000 in
theorem P_k224 : ∀ q ∈ P_l224, P_lnk P_cl P_aty P_stat P_tx P_N0 P_Tb P_Y0 "OrchardQueryModel" false prog_14_method_43_code [] q.1 q.2.1 q.2.2.2.1 q.2.2.2.2.1 :=
  P_all_cons (P_lnk_get (P_s1 (c := 11) (P := fun ci => P_fok P_cl P_Tb "OrchardQueryModel" 137 ci 17) rfl ⟨_, _, _, "OrchardQueryModel", rfl, by decide, (Or.inl rfl), (Or.inl w_6_109)⟩)) <|
  P_all_cons (P_lnk_get (P_s1 (c := 11) (P := fun ci => P_fok P_cl P_Tb "OrchardQueryModel" 137 ci 17) rfl ⟨_, _, _, "OrchardQueryModel", rfl, by decide, (Or.inl rfl), (Or.inl w_6_109)⟩)) <|
  P_all_cons (P_lnk_get (P_s1 (c := 11) (P := fun ci => P_fok P_cl P_Tb "OrchardQueryModel" 39 ci 19) rfl ⟨_, _, _, "OrchardQueryModel", rfl, by decide, (Or.inl rfl), (Or.inl w_6_111)⟩)) <|
  P_all_cons (P_lnk_get (P_s1 (c := 11) (P := fun ci => P_fok P_cl P_Tb "OrchardQueryModel" 42 ci 20) rfl ⟨_, _, _, "OrchardQueryModel", rfl, by decide, (Or.inl rfl), (Or.inl w_6_112)⟩)) <|
  P_all_cons (P_lnk_st (by decide) (fun _ => ⟨P_sg 1 rfl, w_1_13, w_7_101, (Or.inl w_7_100)⟩)) <|
  P_all_cons (P_lnk_get (P_s1 (c := 11) (P := fun ci => P_fok P_cl P_Tb "OrchardQueryModel" 36 ci 18) rfl ⟨_, _, _, "OrchardQueryModel", rfl, by decide, (Or.inl rfl), (Or.inl w_6_110)⟩)) <|
  P_all_cons (P_lnk_get (P_s1 (c := 11) (P := fun ci => P_fok P_cl P_Tb "OrchardQueryModel" 42 ci 20) rfl ⟨_, _, _, "OrchardQueryModel", rfl, by decide, (Or.inl rfl), (Or.inl w_6_112)⟩)) <|
  P_all_cons (P_lnk_get (P_s1 (c := 11) (P := fun ci => P_fok P_cl P_Tb "OrchardQueryModel" 137 ci 17) rfl ⟨_, _, _, "OrchardQueryModel", rfl, by decide, (Or.inl rfl), (Or.inl w_6_109)⟩)) <|
  P_all_cons (P_lnk_get (P_s1 (c := 11) (P := fun ci => P_fok P_cl P_Tb "OrchardQueryModel" 39 ci 19) rfl ⟨_, _, _, "OrchardQueryModel", rfl, by decide, (Or.inl rfl), (Or.inl w_6_111)⟩)) <|
  P_all_cons (P_lnk_get (P_s1 (c := 11) (P := fun ci => P_fok P_cl P_Tb "OrchardQueryModel" 42 ci 20) rfl ⟨_, _, _, "OrchardQueryModel", rfl, by decide, (Or.inl rfl), (Or.inl w_6_112)⟩)) <|
  P_all_cons (P_lnk_st (by decide) (fun _ => ⟨P_sg 1 rfl, w_1_13, w_7_101, (Or.inl w_7_100)⟩)) <|
  P_all_cons (P_lnk_get (P_s1 (c := 11) (P := fun ci => P_fok P_cl P_Tb "OrchardQueryModel" 36 ci 18) rfl ⟨_, _, _, "OrchardQueryModel", rfl, by decide, (Or.inl rfl), (Or.inl w_6_110)⟩)) <|
  P_all_cons (P_lnk_get (P_s1 (c := 11) (P := fun ci => P_fok P_cl P_Tb "OrchardQueryModel" 36 ci 18) rfl ⟨_, _, _, "OrchardQueryModel", rfl, by decide, (Or.inl rfl), (Or.inl w_6_110)⟩)) <|
  P_all_cons (P_lnk_get (P_s1 (c := 11) (P := fun ci => P_fok P_cl P_Tb "OrchardQueryModel" 42 ci 20) rfl ⟨_, _, _, "OrchardQueryModel", rfl, by decide, (Or.inl rfl), (Or.inl w_6_112)⟩)) <|
  P_all_cons (P_lnk_get (P_s1 (c := 11) (P := fun ci => P_fok P_cl P_Tb "OrchardQueryModel" 42 ci 20) rfl ⟨_, _, _, "OrchardQueryModel", rfl, by decide, (Or.inl rfl), (Or.inl w_6_112)⟩)) <|
  P_all_cons (P_lnk_vi (P_vall (l := P_v187) rfl (P_all_cons (show P_vok _ _ _ 11 223 from ⟨_, rfl, rfl, w_1_13, w_7_126, (Or.inl ⟨P_sg 2 rfl, w_p_71, (Or.inl w_7_124)⟩)⟩) (P_all_nil)))) <|
  P_all_cons (P_lnk_get (P_s1 (c := 11) (P := fun ci => P_fok P_cl P_Tb "OrchardQueryModel" 36 ci 18) rfl ⟨_, _, _, "OrchardQueryModel", rfl, by decide, (Or.inl rfl), (Or.inl w_6_110)⟩)) <|
  P_all_cons (P_lnk_get (P_s1 (c := 11) (P := fun ci => P_fok P_cl P_Tb "OrchardQueryModel" 42 ci 20) rfl ⟨_, _, _, "OrchardQueryModel", rfl, by decide, (Or.inl rfl), (Or.inl w_6_112)⟩)) <|
  P_all_cons (P_lnk_get (P_s1 (c := 11) (P := fun ci => P_fok P_cl P_Tb "OrchardQueryModel" 36 ci 18) rfl ⟨_, _, _, "OrchardQueryModel", rfl, by decide, (Or.inl rfl), (Or.inl w_6_110)⟩)) <|
  P_all_cons (P_lnk_get (P_s1 (c := 11) (P := fun ci => P_fok P_cl P_Tb "OrchardQueryModel" 42 ci 20) rfl ⟨_, _, _, "OrchardQueryModel", rfl, by decide, (Or.inl rfl), (Or.inl w_6_112)⟩)) <|
  P_all_cons (P_lnk_vi (P_vall (l := P_v187) rfl (P_all_cons (show P_vok _ _ _ 11 223 from ⟨_, rfl, rfl, w_1_13, w_7_126, (Or.inl ⟨P_sg 2 rfl, w_p_71, (Or.inl w_7_124)⟩)⟩) (P_all_nil)))) <|
  P_all_nil
set_option maxRecDepth 20000 in
theorem P_m224 : P_mst 224 3 (Option.some Jvm.ClassFile.FieldType.boolean) P_e224 [] := P_meth (mx := 3) (rt := (Option.some Jvm.ClassFile.FieldType.boolean)) (hs := []) "OrchardQueryModel" false prog_14_method_43_code [] rfl rfl rfl rfl (by decide +kernel) (by decide +kernel) (fun _ => P_g224) (by decide) (fun _ _ => by decide +kernel) (fun q => by cases q) (P_all_cons (by decide +kernel) <| P_all_cons (by decide +kernel) <| P_all_cons (by decide +kernel) <| P_all_cons (by decide +kernel) <| P_all_cons (by decide +kernel) <| P_all_cons (by decide +kernel) <| P_all_nil) P_l224 (by decide +kernel) P_k224 (fun _ _ => P_hok_nil)
/-- OrchardQueryModel.isNever()Z -/
def P_l225 : List (Nat × P_I) := [(4, .getfield 137, 7, 11, 17, [], []), (11, .getfield 39, 14, 11, 19, [], []), (22, .getfield 36, 25, 11, 18, [], []), (28, .getfield 42, 31, 11, 20, [], []), (46, .getfield 39, 49, 11, 19, [], []), (57, .getfield 39, 60, 11, 19, [], []), (68, .getfield 36, 71, 11, 18, [], []), (74, .getfield 36, 77, 11, 18, [], []), (83, .getfield 42, 86, 11, 20, [], []), (88, .invokestatic 185, 91, 1, 213, [], []), (95, .getfield 42, 98, 11, 20, [], []), (100, .invokestatic 185, 103, 1, 213, [], []), (107, .getfield 42, 110, 11, 20, [], []), (113, .getfield 42, 116, 11, 20, [], [])]
set_option maxRecDepth 20000 in
theorem P_k225 : ∀ q ∈ P_l225, P_lnk P_cl P_aty P_stat P_tx P_N0 P_Tb P_Y0 "OrchardQueryModel" false prog_14_method_44_code [] q.1 q.2.1 q.2.2.2.1 q.2.2.2.2.1 :=
  P_all_cons (P_lnk_get (P_s1 (c := 11) (P := fun ci => P_fok P_cl P_Tb "OrchardQueryModel" 137 ci 17) rfl ⟨_, _, _, "OrchardQueryModel", rfl, by decide, (Or.inl rfl), (Or.inl w_6_109)⟩)) <|
  P_all_cons (P_lnk_get (P_s1 (c := 11) (P := fun ci => P_fok P_cl P_Tb "OrchardQueryModel" 39 ci 19) rfl ⟨_, _, _, "OrchardQueryModel", rfl, by decide, (Or.inl rfl), (Or.inl w_6_111)⟩)) <|
  P_all_cons (P_lnk_get (P_s1 (c := 11) (P := fun ci => P_fok P_cl P_Tb "OrchardQueryModel" 36 ci 18) rfl ⟨_, _, _, "OrchardQueryModel", rfl, by decide, (Or.inl rfl), (Or.inl w_6_110)⟩)) <|
  P_all_cons (P_lnk_get (P_s1 (c := 11) (P := fun ci => P_fok P_cl P_Tb "OrchardQueryModel" 42 ci 20) rfl ⟨_, _, _, "OrchardQueryModel", rfl, by decide, (Or.inl rfl), (Or.inl w_6_112)⟩)) <|
  P_all_cons (P_lnk_get (P_s1 (c := 11) (P := fun ci => P_fok P_cl P_Tb "OrchardQueryModel" 39 ci 19) rfl ⟨_, _, _, "OrchardQueryModel", rfl, by decide, (Or.inl rfl), (Or.inl w_6_111)⟩)) <|
  P_all_cons (P_lnk_get (P_s1 (c := 11) (P := fun ci => P_fok P_cl P_Tb "OrchardQueryModel" 39 ci 19) rfl ⟨_, _, _, "OrchardQueryModel", rfl, by decide, (Or.inl rfl), (Or.inl w_6_111)⟩)) <|
  P_all_cons (P_lnk_get (P_s1 (c := 11) (P := fun ci => P_fok P_cl P_Tb "OrchardQueryModel" 36 ci 18) rfl ⟨_, _, _, "OrchardQueryModel", rfl, by decide, (Or.inl rfl), (Or.inl w_6_110)⟩)) <|
  P_all_cons (P_lnk_get (P_s1 (c := 11) (P := fun ci => P_fok P_cl P_Tb "OrchardQueryModel" 36 ci 18) rfl ⟨_, _, _, "OrchardQueryModel", rfl, by decide, (Or.inl rfl), (Or.inl w_6_110)⟩)) <|
  P_all_cons (P_lnk_get (P_s1 (c := 11) (P := fun ci => P_fok P_cl P_Tb "OrchardQueryModel" 42 ci 20) rfl ⟨_, _, _, "OrchardQueryModel", rfl, by decide, (Or.inl rfl), (Or.inl w_6_112)⟩)) <|
  P_all_cons (P_lnk_st (by decide) (fun _ => ⟨P_sg 1 rfl, w_1_13, w_7_101, (Or.inl w_7_100)⟩)) <|
  P_all_cons (P_lnk_get (P_s1 (c := 11) (P := fun ci => P_fok P_cl P_Tb "OrchardQueryModel" 42 ci 20) rfl ⟨_, _, _, "OrchardQueryModel", rfl, by decide, (Or.inl rfl), (Or.inl w_6_112)⟩)) <|
  P_all_cons (P_lnk_st (by decide) (fun _ => ⟨P_sg 1 rfl, w_1_13, w_7_101, (Or.inl w_7_100)⟩)) <|
  P_all_cons (P_lnk_get (P_s1 (c := 11) (P := fun ci => P_fok P_cl P_Tb "OrchardQueryModel" 42 ci 20) rfl ⟨_, _, _, "OrchardQueryModel", rfl, by decide, (Or.inl rfl), (Or.inl w_6_112)⟩)) <|
  P_all_cons (P_lnk_get (P_s1 (c := 11) (P := fun ci => P_fok P_cl P_Tb "OrchardQueryModel" 42 ci 20) rfl ⟨_, _, _, "OrchardQueryModel", rfl, by decide, (Or.inl rfl), (Or.inl w_6_112)⟩)) <|
  P_all_nil
set_option maxRecDepth 20000 in
theorem P_m225 : P_mst 225 3 (Option.some Jvm.ClassFile.FieldType.boolean) P_e225 [] := P_meth (mx := 3) (rt := (Option.some Jvm.ClassFile.FieldType.boolean)) (hs := []) "OrchardQueryModel" false prog_14_method_44_code [] rfl rfl rfl rfl (by decide +kernel) (by decide +kernel) (fun _ => P_g225) (by decide) (fun _ _ => by decide +kernel) (fun q => by cases q) (P_all_cons (by decide +kernel) <| P_all_cons (by decide +kernel) <| P_all_cons (by decide +kernel) <| P_all_cons (by decide +kernel) <| P_all_cons (by decide +kernel) <| P_all_nil) P_l225 (by decide +kernel) P_k225 (fun _ _ => P_hok_nil)
/-- OrchardQueryModel.rewriteOnce(I)Z -/
def P_l226 : List (Nat × P_I) := [(6, .invokevirtual 211, 9, 0, 188, [], []), (16, .getfield 173, 19, 11, 23, [], []), (23, .invokevirtual 214, 26, 0, 189, [], []), (37, .getfield 173, 40, 11, 23, [], []), (42, .putfield 173, 45, 11, 23, [], []), (51, .getfield 137, 54, 11, 17, [], []), (62, .getfield 39, 65, 11, 19, [], []), (73, .getfield 36, 76, 11, 18, [], []), (79, .getfield 42, 82, 11, 20, [], []), (89, .invokevirtual 217, 92, 1, 190, [], []), (100, .getfield 45, 103, 11, 21, [], []), (107, .invokevirtual 196, 110, 1, 183, [], []), (114, .getfield 45, 117, 11, 21, [], []), (120, .invokevirtual 196, 123, 1, 183, [], [])]
set_option maxRecDepth 20000 in
theorem P_k226 : ∀ q ∈ P_l226, P_lnk P_cl P_aty P_stat P_tx P_N0 P_Tb P_Y0 "OrchardQueryModel" false prog_14_method_45_code [] q.1 q.2.1 q.2.2.2.1 q.2.2.2.2.1 :=
  P_all_cons (P_lnk_vi (P_vall (l := P_v188) rfl (P_all_cons (show P_vok _ _ _ 11 224 from ⟨_, rfl, rfl, w_1_13, w_7_122, (Or.inl ⟨P_sg 0 rfl, w_p_70, (Or.inl w_7_120)⟩)⟩) (P_all_nil)))) <|
  P_all_cons (P_lnk_get (P_s1 (c := 11) (P := fun ci => P_fok P_cl P_Tb "OrchardQueryModel" 173 ci 23) rfl ⟨_, _, _, "OrchardQueryModel", rfl, by decide, (Or.inl rfl), (Or.inl w_6_115)⟩)) <|
  P_all_cons (P_lnk_vi (P_vall (l := P_v189) rfl (P_all_cons (show P_vok _ _ _ 11 225 from ⟨_, rfl, rfl, w_1_13, w_7_134, (Or.inl ⟨P_sg 0 rfl, w_p_73, (Or.inl w_7_132)⟩)⟩) (P_all_nil)))) <|
  P_all_cons (P_lnk_get (P_s1 (c := 11) (P := fun ci => P_fok P_cl P_Tb "OrchardQueryModel" 173 ci 23) rfl ⟨_, _, _, "OrchardQueryModel", rfl, by decide, (Or.inl rfl), (Or.inl w_6_115)⟩)) <|
  P_all_cons (P_lnk_put (P_s1 (c := 11) (P := fun ci => P_pok P_cl P_Tb "OrchardQueryModel" false 173 ci 23) rfl ⟨_, _, _, "OrchardQueryModel", rfl, by decide, (Or.inl rfl), (Or.inl ⟨w_6_115, (Or.inl rfl)⟩)⟩)) <|
  P_all_cons (P_lnk_get (P_s1 (c := 11) (P := fun ci => P_fok P_cl P_Tb "OrchardQueryModel" 137 ci 17) rfl ⟨_, _, _, "OrchardQueryModel", rfl, by decide, (Or.inl rfl), (Or.inl w_6_109)⟩)) <|
  P_all_cons (P_lnk_get (P_s1 (c := 11) (P := fun ci => P_fok P_cl P_Tb "OrchardQueryModel" 39 ci 19) rfl ⟨_, _, _, "OrchardQueryModel", rfl, by decide, (Or.inl rfl), (Or.inl w_6_111)⟩)) <|
  P_all_cons (P_lnk_get (P_s1 (c := 11) (P := fun ci => P_fok P_cl P_Tb "OrchardQueryModel" 36 ci 18) rfl ⟨_, _, _, "OrchardQueryModel", rfl, by decide, (Or.inl rfl), (Or.inl w_6_110)⟩)) <|
  P_all_cons (P_lnk_get (P_s1 (c := 11) (P := fun ci => P_fok P_cl P_Tb "OrchardQueryModel" 42 ci 20) rfl ⟨_, _, _, "OrchardQueryModel", rfl, by decide, (Or.inl rfl), (Or.inl w_6_112)⟩)) <|
  P_all_cons (P_lnk_vi (P_vall (l := P_v190) rfl (P_all_cons (show P_vok _ _ _ 11 221 from ⟨_, rfl, rfl, w_1_13, w_7_138, (Or.inl ⟨P_sg 1 rfl, w_p_74, (Or.inl w_7_136)⟩)⟩) (P_all_nil)))) <|
  P_all_cons (P_lnk_get (P_s1 (c := 11) (P := fun ci => P_fok P_cl P_Tb "OrchardQueryModel" 45 ci 21) rfl ⟨_, _, _, "OrchardQueryModel", rfl, by decide, (Or.inl rfl), (Or.inl w_6_113)⟩)) <|
  P_all_cons (P_lnk_vi (P_vall (l := P_v183) rfl (P_all_cons (show P_vok _ _ _ 11 216 from ⟨_, rfl, rfl, w_1_13, w_7_91, (Or.inl ⟨P_sg 1 rfl, w_p_65, (Or.inl w_7_89)⟩)⟩) (P_all_nil)))) <|
  P_all_cons (P_lnk_get (P_s1 (c := 11) (P := fun ci => P_fok P_cl P_Tb "OrchardQueryModel" 45 ci 21) rfl ⟨_, _, _, "OrchardQueryModel", rfl, by decide, (Or.inl rfl), (Or.inl w_6_113)⟩)) <|
  P_all_cons (P_lnk_vi (P_vall (l := P_v183) rfl (P_all_cons (show P_vok _ _ _ 11 216 from ⟨_, rfl, rfl, w_1_13, w_7_91, (Or.inl ⟨P_sg 1 rfl, w_p_65, (Or.inl w_7_89)⟩)⟩) (P_all_nil)))) <|
  P_all_nil
set_option maxRecDepth 20000 in
theorem P_m226 : P_mst 226 3 (Option.some Jvm.ClassFile.FieldType.boolean) P_e226 [] := P_meth (mx := 3) (rt := (Option.some Jvm.ClassFile.FieldType.boolean)) (hs := []) "OrchardQueryModel" false prog_14_method_45_code [] rfl rfl rfl rfl (by decide +kernel) (by decide +kernel) (fun _ => P_g226) (by decide) (fun _ _ => by decide +kernel) (fun q => by cases q) (P_all_cons (by decide +kernel) <| P_all_cons (by decide +kernel) <| P_all_cons (by decide +kernel) <| P_all_cons (by decide +kernel) <| P_all_cons (by decide +kernel) <| P_all_nil) P_l226 (by decide +kernel) P_k226 (fun _ _ => P_hok_nil)
/-- OrchardQueryModel.rewrite(I)I -/
def P_l227 : List (Nat × P_I) := [(2, .putfield 62, 5, 11, 0, [], []), (6, .getfield 107, 9, 11, 7, [], []), (14, .invokevirtual 72, 17, 1, 162, [], []), (21, .invokestatic 68, 24, 3, 186, [], []), (29, .invokevirtual 72, 32, 1, 162, [], []), (34, .invokevirtual 93, 37, 0, 164, [], []), (41, .invokevirtual 221, 44, 1, 191, [], [])]
set_option maxRecDepth 20000 in
theorem P_k227 : ∀ q ∈ P_l227, P_lnk P_cl P_aty P_stat P_tx P_N0 P_Tb P_Y0 "OrchardQueryModel" false prog_14_method_46_code [] q.1 q.2.1 q.2.2.2.1 q.2.2.2.2.1 :=
  P_all_cons (P_lnk_put (P_s1 (c := 11) (P := fun ci => P_pok P_cl P_Tb "OrchardQueryModel" false 62 ci 0) rfl ⟨_, _, _, "OrchardQueryModel", rfl, by decide, (Or.inl rfl), (Or.inl ⟨w_6_92, (Or.inl rfl)⟩)⟩)) <|
  P_all_cons (P_lnk_get (P_s1 (c := 11) (P := fun ci => P_fok P_cl P_Tb "OrchardQueryModel" 107 ci 7) rfl ⟨_, _, _, "OrchardQueryModel", rfl, by decide, (Or.inl rfl), (Or.inl w_6_99)⟩)) <|
  P_all_cons (P_lnk_vi (P_vall (l := P_v162) rfl (P_all_cons (show P_vok _ _ _ 11 184 from ⟨_, rfl, rfl, w_1_13, w_6_212, (Or.inl ⟨P_sg 1 rfl, w_p_45, (Or.inl w_6_210)⟩)⟩) (P_all_nil)))) <|
  P_all_cons (P_lnk_st (by decide) (fun _ => ⟨P_sg 3 rfl, w_1_13, w_6_208, (Or.inl w_6_207)⟩)) <|
  P_all_cons (P_lnk_vi (P_vall (l := P_v162) rfl (P_all_cons (show P_vok _ _ _ 11 184 from ⟨_, rfl, rfl, w_1_13, w_6_212, (Or.inl ⟨P_sg 1 rfl, w_p_45, (Or.inl w_6_210)⟩)⟩) (P_all_nil)))) <|
  P_all_cons (P_lnk_vi (P_vall (l := P_v164) rfl (P_all_cons (show P_vok _ _ _ 11 190 from ⟨_, rfl, rfl, w_1_13, w_6_227, (Or.inl ⟨P_sg 0 rfl, w_p_47, (Or.inl w_6_225)⟩)⟩) (P_all_nil)))) <|
  P_all_cons (P_lnk_vi (P_vall (l := P_v191) rfl (P_all_cons (show P_vok _ _ _ 11 226 from ⟨_, rfl, rfl, w_1_13, w_7_118, (Or.inl ⟨P_sg 1 rfl, w_p_69, (Or.inl w_7_116)⟩)⟩) (P_all_nil)))) <|
  P_all_nil
set_option maxRecDepth 20000 in
theorem P_m227 : P_mst 227 3 (Option.some Jvm.ClassFile.FieldType.int) P_e227 [] := P_meth (mx := 3) (rt := (Option.some Jvm.ClassFile.FieldType.int)) (hs := []) "OrchardQueryModel" false prog_14_method_46_code [] rfl rfl rfl rfl (by decide +kernel) (by decide +kernel) (fun _ => P_g227) (by decide) (fun _ _ => by decide +kernel) (fun q => by cases q) (P_all_cons (by decide +kernel) <| P_all_cons (by decide +kernel) <| P_all_nil) P_l227 (by decide +kernel) P_k227 (fun _ _ => P_hok_nil)
/-- OrchardQueryModel.swap(II)I -/
def P_l228 : List (Nat × P_I) := [(2, .putfield 62, 5, 11, 0, [], []), (6, .getfield 107, 9, 11, 7, [], []), (14, .invokevirtual 72, 17, 1, 162, [], []), (21, .getfield 134, 24, 11, 12, [], []), (26, .invokestatic 68, 29, 3, 186, [], []), (35, .getfield 134, 38, 11, 12, [], []), (40, .invokestatic 68, 43, 3, 186, [], []), (48, .invokevirtual 72, 51, 1, 162, [], []), (53, .invokevirtual 93, 56, 0, 164, [], []), (57, .getfield 48, 60, 11, 22, [], []), (64, .getfield 48, 67, 11, 22, [], []), (69, .getfield 48, 72, 11, 22, [], []), (76, .getfield 48, 79, 11, 22, [], []), (88, .getfield 137, 91, 11, 17, [], []), (95, .getfield 45, 98, 11, 21, [], []), (101, .getfield 45, 104, 11, 21, [], []), (110, .invokevirtual 196, 113, 1, 183, [], []), (113, .invokestatic 188, 116, 2, 9001, [], []), (124, .getfield 48, 127, 11, 22, [], [])]
set_option maxRecDepth 20000 in
theorem P_k228 : ∀ q ∈ P_l228, P_lnk P_cl P_aty P_stat P_tx P_N0 P_Tb P_Y0 "OrchardQueryModel" false prog_14_method_47_code [] q.1 q.2.1 q.2.2.2.1 q.2.2.2.2.1 :=
  P_all_cons (P_lnk_put (P_s1 (c := 11) (P := fun ci => P_pok P_cl P_Tb "OrchardQueryModel" false 62 ci 0) rfl ⟨_, _, _, "OrchardQueryModel", rfl, by decide, (Or.inl rfl), (Or.inl ⟨w_6_92, (Or.inl rfl)⟩)⟩)) <|
  P_all_cons (P_lnk_get (P_s1 (c := 11) (P := fun ci => P_fok P_cl P_Tb "OrchardQueryModel" 107 ci 7) rfl ⟨_, _, _, "OrchardQueryModel", rfl, by decide, (Or.inl rfl), (Or.inl w_6_99)⟩)) <|
  P_all_cons (P_lnk_vi (P_vall (l := P_v162) rfl (P_all_cons (show P_vok _ _ _ 11 184 from ⟨_, rfl, rfl, w_1_13, w_6_212, (Or.inl ⟨P_sg 1 rfl, w_p_45, (Or.inl w_6_210)⟩)⟩) (P_all_nil)))) <|
  P_all_cons (P_lnk_get (P_s1 (c := 11) (P := fun ci => P_fok P_cl P_Tb "OrchardQueryModel" 134 ci 12) rfl ⟨_, _, _, "OrchardQueryModel", rfl, by decide, (Or.inl rfl), (Or.inl w_6_104)⟩)) <|
  P_all_cons (P_lnk_st (by decide) (fun _ => ⟨P_sg 3 rfl, w_1_13, w_6_208, (Or.inl w_6_207)⟩)) <|
  P_all_cons (P_lnk_get (P_s1 (c := 11) (P := fun ci => P_fok P_cl P_Tb "OrchardQueryModel" 134 ci 12) rfl ⟨_, _, _, "OrchardQueryModel", rfl, by decide, (Or.inl rfl), (Or.inl w_6_104)⟩)) <|
  P_all_cons (P_lnk_st (by decide) (fun _ => ⟨P_sg 3 rfl, w_1_13, w_6_208, (Or.inl w_6_207)⟩)) <|
  P_all_cons (P_lnk_vi (P_vall (l := P_v162) rfl (P_all_cons (show P_vok _ _ _ 11 184 from ⟨_, rfl, rfl, w_1_13, w_6_212, (Or.inl ⟨P_sg 1 rfl, w_p_45, (Or.inl w_6_210)⟩)⟩) (P_all_nil)))) <|
  P_all_cons (P_lnk_vi (P_vall (l := P_v164) rfl (P_all_cons (show P_vok _ _ _ 11 190 from ⟨_, rfl, rfl, w_1_13, w_6_227, (Or.inl ⟨P_sg 0 rfl, w_p_47, (Or.inl w_6_225)⟩)⟩) (P_all_nil)))) <|
  P_all_cons (P_lnk_get (P_s1 (c := 11) (P := fun ci => P_fok P_cl P_Tb "OrchardQueryModel" 48 ci 22) rfl ⟨_, _, _, "OrchardQueryModel", rfl, by decide, (Or.inl rfl), (Or.inl w_6_114)⟩)) <|
  P_all_cons (P_lnk_get (P_s1 (c := 11) (P := fun ci => P_fok P_cl P_Tb "OrchardQueryModel" 48 ci 22) rfl ⟨_, _, _, "OrchardQueryModel", rfl, by decide, (Or.inl rfl), (Or.inl w_6_114)⟩)) <|
  P_all_cons (P_lnk_get (P_s1 (c := 11) (P := fun ci => P_fok P_cl P_Tb "OrchardQueryModel" 48 ci 22) rfl ⟨_, _, _, "OrchardQueryModel", rfl, by decide, (Or.inl rfl), (Or.inl w_6_114)⟩)) <|
  P_all_cons (P_lnk_get (P_s1 (c := 11) (P := fun ci => P_fok P_cl P_Tb "OrchardQueryModel" 48 ci 22) rfl ⟨_, _, _, "OrchardQueryModel", rfl, by decide, (Or.inl rfl), (Or.inl w_6_114)⟩)) <|
  P_all_cons (P_lnk_get (P_s1 (c := 11) (P := fun ci => P_fok P_cl P_Tb "OrchardQueryModel" 137 ci 17) rfl ⟨_, _, _, "OrchardQueryModel", rfl, by decide, (Or.inl rfl), (Or.inl w_6_109)⟩)) <|
  P_all_cons (P_lnk_get (P_s1 (c := 11) (P := fun ci => P_fok P_cl P_Tb "OrchardQueryModel" 45 ci 21) rfl ⟨_, _, _, "OrchardQueryModel", rfl, by decide, (Or.inl rfl), (Or.inl w_6_113)⟩)) <|
  P_all_cons (P_lnk_get (P_s1 (c := 11) (P := fun ci => P_fok P_cl P_Tb "OrchardQueryModel" 45 ci 21) rfl ⟨_, _, _, "OrchardQueryModel", rfl, by decide, (Or.inl rfl), (Or.inl w_6_113)⟩)) <|
  P_all_cons (P_lnk_vi (P_vall (l := P_v183) rfl (P_all_cons (show P_vok _ _ _ 11 216 from ⟨_, rfl, rfl, w_1_13, w_7_91, (Or.inl ⟨P_sg 1 rfl, w_p_65, (Or.inl w_7_89)⟩)⟩) (P_all_nil)))) <|
  P_all_cons (P_lnk_sj (by decide) ⟨fun _ => ⟨w_7_103, w_2_166, w_1_21, w_2_167⟩, (fun q => absurd q (by decide))⟩) <|
  P_all_cons (P_lnk_get (P_s1 (c := 11) (P := fun ci => P_fok P_cl P_Tb "OrchardQueryModel" 48 ci 22) rfl ⟨_, _, _, "OrchardQueryModel", rfl, by decide, (Or.inl rfl), (Or.inl w_6_114)⟩)) <|
  P_all_nil
set_option maxRecDepth 20000 in
theorem P_m228 : P_mst 228 5 (Option.some Jvm.ClassFile.FieldType.int) P_e228 [] := P_meth (mx := 5) (rt := (Option.some Jvm.ClassFile.FieldType.int)) (hs := []) "OrchardQueryModel" false prog_14_method_47_code [] rfl rfl rfl rfl (by decide +kernel) (by decide +kernel) (fun _ => P_g228) (by decide) (fun _ _ => by decide +kernel) (fun q => by cases q) (P_all_cons (by decide +kernel) <| P_all_cons (by decide +kernel) <| P_all_cons (by decide +kernel) <| P_all_cons (by decide +kernel) <| P_all_cons (by decide +kernel) <| P_all_nil) P_l228 (by decide +kernel) P_k228 (fun _ _ => P_hok_nil)
/-- OrchardQueryModel.guessNow(I)J -/
def P_l229 : List (Nat × P_I) := [(13, .getfield 13, 16, 11, 3, [], []), (17, .getfield 33, 20, 11, 13, [], []), (21, .getfield 48, 24, 11, 22, [], []), (38, .getfield 137, 41, 11, 17, [], []), (45, .getfield 45, 48, 11, 21, [], []), (60, .invokevirtual 199, 63, 1, 184, [], []), (65, .ldc2_w 224, 68, 1000, 0, [], [])]
set_option maxRecDepth 20000 in
theorem P_k229 : ∀ q ∈ P_l229, P_lnk P_cl P_aty P_stat P_tx P_N0 P_Tb P_Y0 "OrchardQueryModel" false prog_14_method_48_code [] q.1 q.2.1 q.2.2.2.1 q.2.2.2.2.1 :=
  P_all_cons (P_lnk_get (P_s1 (c := 11) (P := fun ci => P_fok P_cl P_Tb "OrchardQueryModel" 13 ci 3) rfl ⟨_, _, _, "OrchardQueryModel", rfl, by decide, (Or.inl rfl), (Or.inl w_6_95)⟩)) <|
  P_all_cons (P_lnk_get (P_s1 (c := 11) (P := fun ci => P_fok P_cl P_Tb "OrchardQueryModel" 33 ci 13) rfl ⟨_, _, _, "OrchardQueryModel", rfl, by decide, (Or.inl rfl), (Or.inl w_6_105)⟩)) <|
  P_all_cons (P_lnk_get (P_s1 (c := 11) (P := fun ci => P_fok P_cl P_Tb "OrchardQueryModel" 48 ci 22) rfl ⟨_, _, _, "OrchardQueryModel", rfl, by decide, (Or.inl rfl), (Or.inl w_6_114)⟩)) <|
  P_all_cons (P_lnk_get (P_s1 (c := 11) (P := fun ci => P_fok P_cl P_Tb "OrchardQueryModel" 137 ci 17) rfl ⟨_, _, _, "OrchardQueryModel", rfl, by decide, (Or.inl rfl), (Or.inl w_6_109)⟩)) <|
  P_all_cons (P_lnk_get (P_s1 (c := 11) (P := fun ci => P_fok P_cl P_Tb "OrchardQueryModel" 45 ci 21) rfl ⟨_, _, _, "OrchardQueryModel", rfl, by decide, (Or.inl rfl), (Or.inl w_6_113)⟩)) <|
  P_all_cons (P_lnk_vi (P_vall (l := P_v184) rfl (P_all_cons (show P_vok _ _ _ 11 218 from ⟨_, rfl, rfl, w_1_13, w_7_106, (Or.inl ⟨P_sg 1 rfl, w_p_67, (Or.inl w_7_104)⟩)⟩) (P_all_nil)))) <|
  P_all_cons (P_lnk_ldl w_7_160) <|
  P_all_nil
set_option maxRecDepth 20000 in
theorem P_m229 : P_mst 229 6 (Option.some Jvm.ClassFile.FieldType.long) P_e229 [] := P_meth (mx := 6) (rt := (Option.some Jvm.ClassFile.FieldType.long)) (hs := []) "OrchardQueryModel" false prog_14_method_48_code [] rfl rfl rfl rfl (by decide +kernel) (by decide +kernel) (fun _ => P_g229) (by decide) (fun _ _ => by decide +kernel) (fun q => by cases q) (P_all_cons (by decide +kernel) <| P_all_cons (by decide +kernel) <| P_all_cons (by decide +kernel) <| P_all_nil) P_l229 (by decide +kernel) P_k229 (fun _ _ => P_hok_nil)
/-- OrchardQueryModel.costNow()J -/
def P_l230 : List (Nat × P_I) := [(6, .getfield 134, 9, 11, 12, [], []), (13, .getfield 173, 16, 11, 23, [], []), (24, .invokevirtual 226, 27, 1, 192, [], []), (28, .getfield 13, 31, 11, 3, [], []), (32, .getfield 33, 35, 11, 13, [], []), (36, .getfield 48, 39, 11, 22, [], [])]
set_option maxRecDepth 20000 in
theorem P_k230 : ∀ q ∈ P_l230, P_lnk P_cl P_aty P_stat P_tx P_N0 P_Tb P_Y0 "OrchardQueryModel" false prog_14_method_49_code [] q.1 q.2.1 q.2.2.2.1 q.2.2.2.2.1 :=
  P_all_cons (P_lnk_get (P_s1 (c := 11) (P := fun ci => P_fok P_cl P_Tb "OrchardQueryModel" 134 ci 12) rfl ⟨_, _, _, "OrchardQueryModel", rfl, by decide, (Or.inl rfl), (Or.inl w_6_104)⟩)) <|
  P_all_cons (P_lnk_get (P_s1 (c := 11) (P := fun ci => P_fok P_cl P_Tb "OrchardQueryModel" 173 ci 23) rfl ⟨_, _, _, "OrchardQueryModel", rfl, by decide, (Or.inl rfl), (Or.inl w_6_115)⟩)) <|
  P_all_cons (P_lnk_vi (P_vall (l := P_v192) rfl (P_all_cons (show P_vok _ _ _ 11 229 from ⟨_, rfl, rfl, w_1_13, w_7_158, (Or.inl ⟨P_sg 1 rfl, w_p_77, (Or.inl w_7_156)⟩)⟩) (P_all_nil)))) <|
  P_all_cons (P_lnk_get (P_s1 (c := 11) (P := fun ci => P_fok P_cl P_Tb "OrchardQueryModel" 13 ci 3) rfl ⟨_, _, _, "OrchardQueryModel", rfl, by decide, (Or.inl rfl), (Or.inl w_6_95)⟩)) <|
  P_all_cons (P_lnk_get (P_s1 (c := 11) (P := fun ci => P_fok P_cl P_Tb "OrchardQueryModel" 33 ci 13) rfl ⟨_, _, _, "OrchardQueryModel", rfl, by decide, (Or.inl rfl), (Or.inl w_6_105)⟩)) <|
  P_all_cons (P_lnk_get (P_s1 (c := 11) (P := fun ci => P_fok P_cl P_Tb "OrchardQueryModel" 48 ci 22) rfl ⟨_, _, _, "OrchardQueryModel", rfl, by decide, (Or.inl rfl), (Or.inl w_6_114)⟩)) <|
  P_all_nil
set_option maxRecDepth 20000 in
theorem P_m230 : P_mst 230 4 (Option.some Jvm.ClassFile.FieldType.long) P_e230 [] := P_meth (mx := 4) (rt := (Option.some Jvm.ClassFile.FieldType.long)) (hs := []) "OrchardQueryModel" false prog_14_method_49_code [] rfl rfl rfl rfl (by decide +kernel) (by decide +kernel) (fun _ => P_g230) (by decide) (fun _ _ => by decide +kernel) (fun q => by cases q) (P_all_cons (by decide +kernel) <| P_all_cons (by decide +kernel) <| P_all_nil) P_l230 (by decide +kernel) P_k230 (fun _ _ => P_hok_nil)
/-- OrchardQueryModel.costBy(III)J -/
def P_l231 : List (Nat × P_I) := [(1, .getfield 48, 4, 11, 22, [], []), (8, .getfield 48, 11, 11, 22, [], []), (15, .getfield 48, 18, 11, 22, [], []), (27, .getfield 137, 30, 11, 17, [], []), (34, .getfield 45, 37, 11, 21, [], []), (42, .invokevirtual 196, 45, 1, 183, [], []), (53, .invokevirtual 230, 56, 0, 193, [], [])]
set_option maxRecDepth 20000 in
theorem P_k231 : ∀ q ∈ P_l231, P_lnk P_cl P_aty P_stat P_tx P_N0 P_Tb P_Y0 "OrchardQueryModel" false prog_14_method_50_code [] q.1 q.2.1 q.2.2.2.1 q.2.2.2.2.1 :=
  P_all_cons (P_lnk_get (P_s1 (c := 11) (P := fun ci => P_fok P_cl P_Tb "OrchardQueryModel" 48 ci 22) rfl ⟨_, _, _, "OrchardQueryModel", rfl, by decide, (Or.inl rfl), (Or.inl w_6_114)⟩)) <|
  P_all_cons (P_lnk_get (P_s1 (c := 11) (P := fun ci => P_fok P_cl P_Tb "OrchardQueryModel" 48 ci 22) rfl ⟨_, _, _, "OrchardQueryModel", rfl, by decide, (Or.inl rfl), (Or.inl w_6_114)⟩)) <|
  P_all_cons (P_lnk_get (P_s1 (c := 11) (P := fun ci => P_fok P_cl P_Tb "OrchardQueryModel" 48 ci 22) rfl ⟨_, _, _, "OrchardQueryModel", rfl, by decide, (Or.inl rfl), (Or.inl w_6_114)⟩)) <|
  P_all_cons (P_lnk_get (P_s1 (c := 11) (P := fun ci => P_fok P_cl P_Tb "OrchardQueryModel" 137 ci 17) rfl ⟨_, _, _, "OrchardQueryModel", rfl, by decide, (Or.inl rfl), (Or.inl w_6_109)⟩)) <|
  P_all_cons (P_lnk_get (P_s1 (c := 11) (P := fun ci => P_fok P_cl P_Tb "OrchardQueryModel" 45 ci 21) rfl ⟨_, _, _, "OrchardQueryModel", rfl, by decide, (Or.inl rfl), (Or.inl w_6_113)⟩)) <|
  P_all_cons (P_lnk_vi (P_vall (l := P_v183) rfl (P_all_cons (show P_vok _ _ _ 11 216 from ⟨_, rfl, rfl, w_1_13, w_7_91, (Or.inl ⟨P_sg 1 rfl, w_p_65, (Or.inl w_7_89)⟩)⟩) (P_all_nil)))) <|
  P_all_cons (P_lnk_vi (P_vall (l := P_v193) rfl (P_all_cons (show P_vok _ _ _ 11 230 from ⟨_, rfl, rfl, w_1_13, w_7_154, (Or.inl ⟨P_sg 0 rfl, w_p_76, (Or.inl w_7_152)⟩)⟩) (P_all_nil)))) <|
  P_all_nil
set_option maxRecDepth 20000 in
theorem P_m231 : P_mst 231 5 (Option.some Jvm.ClassFile.FieldType.long) P_e231 [] := P_meth (mx := 5) (rt := (Option.some Jvm.ClassFile.FieldType.long)) (hs := []) "OrchardQueryModel" false prog_14_method_50_code [] rfl rfl rfl rfl (by decide +kernel) (by decide +kernel) (fun _ => P_g231) (by decide) (fun _ _ => by decide +kernel) (fun q => by cases q) (P_all_cons (by decide +kernel) <| P_all_cons (by decide +kernel) <| P_all_nil) P_l231 (by decide +kernel) P_k231 (fun _ _ => P_hok_nil)
/-- OrchardQueryModel.best()J -/
def P_l232 : List (Nat × P_I) := [(2, .putfield 62, 5, 11, 0, [], []), (6, .getfield 107, 9, 11, 7, [], []), (14, .invokevirtual 72, 17, 1, 162, [], []), (20, .invokevirtual 93, 23, 0, 164, [], []), (27, .invokevirtual 234, 30, 3, 194, [], []), (39, .getfield 134, 42, 11, 12, [], []), (51, .getfield 134, 54, 11, 12, [], []), (65, .getfield 134, 68, 11, 12, [], []), (76, .getfield 134, 79, 11, 12, [], []), (107, .invokevirtual 234, 110, 3, 194, [], []), (154, .invokevirtual 234, 157, 3, 194, [], []), (180, .invokevirtual 234, 183, 3, 194, [], [])]
set_option maxRecDepth 20000 in
theorem P_k232 : ∀ q ∈ P_l232, P_lnk P_cl P_aty P_stat P_tx P_N0 P_Tb P_Y0 "OrchardQueryModel" false prog_14_method_51_code [] q.1 q.2.1 q.2.2.2.1 q.2.2.2.2.1 :=
  P_all_cons (P_lnk_put (P_s1 (c := 11) (P := fun ci => P_pok P_cl P_Tb "OrchardQueryModel" false 62 ci 0) rfl ⟨_, _, _, "OrchardQueryModel", rfl, by decide, (Or.inl rfl), (Or.inl ⟨w_6_92, (Or.inl rfl)⟩)⟩)) <|
  P_all_cons (P_lnk_get (P_s1 (c := 11) (P := fun ci => P_fok P_cl P_Tb "OrchardQueryModel" 107 ci 7) rfl ⟨_, _, _, "OrchardQueryModel", rfl, by decide, (Or.inl rfl), (Or.inl w_6_99)⟩)) <|
  P_all_cons (P_lnk_vi (P_vall (l := P_v162) rfl (P_all_cons (show P_vok _ _ _ 11 184 from ⟨_, rfl, rfl, w_1_13, w_6_212, (Or.inl ⟨P_sg 1 rfl, w_p_45, (Or.inl w_6_210)⟩)⟩) (P_all_nil)))) <|
  P_all_cons (P_lnk_vi (P_vall (l := P_v164) rfl (P_all_cons (show P_vok _ _ _ 11 190 from ⟨_, rfl, rfl, w_1_13, w_6_227, (Or.inl ⟨P_sg 0 rfl, w_p_47, (Or.inl w_6_225)⟩)⟩) (P_all_nil)))) <|
  P_all_cons (P_lnk_vi (P_vall (l := P_v194) rfl (P_all_cons (show P_vok _ _ _ 11 231 from ⟨_, rfl, rfl, w_1_13, w_7_150, (Or.inl ⟨P_sg 3 rfl, w_p_75, (Or.inl w_7_148)⟩)⟩) (P_all_nil)))) <|
  P_all_cons (P_lnk_get (P_s1 (c := 11) (P := fun ci => P_fok P_cl P_Tb "OrchardQueryModel" 134 ci 12) rfl ⟨_, _, _, "OrchardQueryModel", rfl, by decide, (Or.inl rfl), (Or.inl w_6_104)⟩)) <|
  P_all_cons (P_lnk_get (P_s1 (c := 11) (P := fun ci => P_fok P_cl P_Tb "OrchardQueryModel" 134 ci 12) rfl ⟨_, _, _, "OrchardQueryModel", rfl, by decide, (Or.inl rfl), (Or.inl w_6_104)⟩)) <|
  P_all_cons (P_lnk_get (P_s1 (c := 11) (P := fun ci => P_fok P_cl P_Tb "OrchardQueryModel" 134 ci 12) rfl ⟨_, _, _, "OrchardQueryModel", rfl, by decide, (Or.inl rfl), (Or.inl w_6_104)⟩)) <|
  P_all_cons (P_lnk_get (P_s1 (c := 11) (P := fun ci => P_fok P_cl P_Tb "OrchardQueryModel" 134 ci 12) rfl ⟨_, _, _, "OrchardQueryModel", rfl, by decide, (Or.inl rfl), (Or.inl w_6_104)⟩)) <|
  P_all_cons (P_lnk_vi (P_vall (l := P_v194) rfl (P_all_cons (show P_vok _ _ _ 11 231 from ⟨_, rfl, rfl, w_1_13, w_7_150, (Or.inl ⟨P_sg 3 rfl, w_p_75, (Or.inl w_7_148)⟩)⟩) (P_all_nil)))) <|
  P_all_cons (P_lnk_vi (P_vall (l := P_v194) rfl (P_all_cons (show P_vok _ _ _ 11 231 from ⟨_, rfl, rfl, w_1_13, w_7_150, (Or.inl ⟨P_sg 3 rfl, w_p_75, (Or.inl w_7_148)⟩)⟩) (P_all_nil)))) <|
  P_all_cons (P_lnk_vi (P_vall (l := P_v194) rfl (P_all_cons (show P_vok _ _ _ 11 231 from ⟨_, rfl, rfl, w_1_13, w_7_150, (Or.inl ⟨P_sg 3 rfl, w_p_75, (Or.inl w_7_148)⟩)⟩) (P_all_nil)))) <|
  P_all_nil
set_option maxRecDepth 20000 in
theorem P_m232 : P_mst 232 10 (Option.some Jvm.ClassFile.FieldType.long) P_e232 [] := P_meth (mx := 10) (rt := (Option.some Jvm.ClassFile.FieldType.long)) (hs := []) "OrchardQueryModel" false prog_14_method_51_code [] rfl rfl rfl rfl (by decide +kernel) (by decide +kernel) (fun _ => P_g232) (by decide) (fun _ _ => by decide +kernel) (fun q => by cases q) (P_all_cons (by decide +kernel) <| P_all_cons (by decide +kernel) <| P_all_cons (by decide +kernel) <| P_all_cons (by decide +kernel) <| P_all_cons (by decide +kernel) <| P_all_cons (by decide +kernel) <| P_all_nil) P_l232 (by decide +kernel) P_k232 (fun _ _ => P_hok_nil)
/-- OrchardQueryModel.order(I)I -/
def P_l233 : List (Nat × P_I) := [(2, .putfield 62, 5, 11, 0, [], []), (6, .getfield 107, 9, 11, 7, [], []), (14, .invokevirtual 72, 17, 1, 162, [], []), (21, .getfield 134, 24, 11, 12, [], []), (26, .invokestatic 68, 29, 3, 186, [], []), (33, .getfield 48, 36, 11, 22, [], []), (43, .invokevirtual 72, 46, 1, 162, [], [])]
set_option maxRecDepth 20000 in
theorem P_k233 : ∀ q ∈ P_l233, P_lnk P_cl P_aty P_stat P_tx P_N0 P_Tb P_Y0 "OrchardQueryModel" false prog_14_method_52_code [] q.1 q.2.1 q.2.2.2.1 q.2.2.2.2.1 :=
  P_all_cons (P_lnk_put (P_s1 (c := 11) (P := fun ci => P_pok P_cl P_Tb "OrchardQueryModel" false 62 ci 0) rfl ⟨_, _, _, "OrchardQueryModel", rfl, by decide, (Or.inl rfl), (Or.inl ⟨w_6_92, (Or.inl rfl)⟩)⟩)) <|
  P_all_cons (P_lnk_get (P_s1 (c := 11) (P := fun ci => P_fok P_cl P_Tb "OrchardQueryModel" 107 ci 7) rfl ⟨_, _, _, "OrchardQueryModel", rfl, by decide, (Or.inl rfl), (Or.inl w_6_99)⟩)) <|
  P_all_cons (P_lnk_vi (P_vall (l := P_v162) rfl (P_all_cons (show P_vok _ _ _ 11 184 from ⟨_, rfl, rfl, w_1_13, w_6_212, (Or.inl ⟨P_sg 1 rfl, w_p_45, (Or.inl w_6_210)⟩)⟩) (P_all_nil)))) <|
  P_all_cons (P_lnk_get (P_s1 (c := 11) (P := fun ci => P_fok P_cl P_Tb "OrchardQueryModel" 134 ci 12) rfl ⟨_, _, _, "OrchardQueryModel", rfl, by decide, (Or.inl rfl), (Or.inl w_6_104)⟩)) <|
  P_all_cons (P_lnk_st (by decide) (fun _ => ⟨P_sg 3 rfl, w_1_13, w_6_208, (Or.inl w_6_207)⟩)) <|
  P_all_cons (P_lnk_get (P_s1 (c := 11) (P := fun ci => P_fok P_cl P_Tb "OrchardQueryModel" 48 ci 22) rfl ⟨_, _, _, "OrchardQueryModel", rfl, by decide, (Or.inl rfl), (Or.inl w_6_114)⟩)) <|
  P_all_cons (P_lnk_vi (P_vall (l := P_v162) rfl (P_all_cons (show P_vok _ _ _ 11 184 from ⟨_, rfl, rfl, w_1_13, w_6_212, (Or.inl ⟨P_sg 1 rfl, w_p_45, (Or.inl w_6_210)⟩)⟩) (P_all_nil)))) <|
  P_all_nil
set_option maxRecDepth 20000 in
theorem P_m233 : P_mst 233 2 (Option.some Jvm.ClassFile.FieldType.int) P_e233 [] := P_meth (mx := 2) (rt := (Option.some Jvm.ClassFile.FieldType.int)) (hs := []) "OrchardQueryModel" false prog_14_method_52_code [] rfl rfl rfl rfl (by decide +kernel) (by decide +kernel) (fun _ => P_g233) (by decide) (fun _ _ => by decide +kernel) (fun q => by cases q) (P_all_cons (by decide +kernel) <| P_all_cons (by decide +kernel) <| P_all_nil) P_l233 (by decide +kernel) P_k233 (fun _ _ => P_hok_nil)
/-- OrchardQueryModel.guess(I)J -/
def P_l234 : List (Nat × P_I) := [(2, .putfield 62, 5, 11, 0, [], []), (6, .getfield 107, 9, 11, 7, [], []), (14, .invokevirtual 72, 17, 1, 162, [], []), (22, .getfield 134, 25, 11, 12, [], []), (27, .invokestatic 68, 30, 3, 186, [], []), (35, .invokevirtual 226, 38, 1, 192, [], []), (43, .invokevirtual 72, 46, 1, 162, [], [])]
set_option maxRecDepth 20000 in
theorem P_k234 : ∀ q ∈ P_l234, P_lnk P_cl P_aty P_stat P_tx P_N0 P_Tb P_Y0 "OrchardQueryModel" false prog_14_method_53_code [] q.1 q.2.1 q.2.2.2.1 q.2.2.2.2.1 :=
  P_all_cons (P_lnk_put (P_s1 (c := 11) (P := fun ci => P_pok P_cl P_Tb "OrchardQueryModel" false 62 ci 0) rfl ⟨_, _, _, "OrchardQueryModel", rfl, by decide, (Or.inl rfl), (Or.inl ⟨w_6_92, (Or.inl rfl)⟩)⟩)) <|
  P_all_cons (P_lnk_get (P_s1 (c := 11) (P := fun ci => P_fok P_cl P_Tb "OrchardQueryModel" 107 ci 7) rfl ⟨_, _, _, "OrchardQueryModel", rfl, by decide, (Or.inl rfl), (Or.inl w_6_99)⟩)) <|
  P_all_cons (P_lnk_vi (P_vall (l := P_v162) rfl (P_all_cons (show P_vok _ _ _ 11 184 from ⟨_, rfl, rfl, w_1_13, w_6_212, (Or.inl ⟨P_sg 1 rfl, w_p_45, (Or.inl w_6_210)⟩)⟩) (P_all_nil)))) <|
  P_all_cons (P_lnk_get (P_s1 (c := 11) (P := fun ci => P_fok P_cl P_Tb "OrchardQueryModel" 134 ci 12) rfl ⟨_, _, _, "OrchardQueryModel", rfl, by decide, (Or.inl rfl), (Or.inl w_6_104)⟩)) <|
  P_all_cons (P_lnk_st (by decide) (fun _ => ⟨P_sg 3 rfl, w_1_13, w_6_208, (Or.inl w_6_207)⟩)) <|
  P_all_cons (P_lnk_vi (P_vall (l := P_v192) rfl (P_all_cons (show P_vok _ _ _ 11 229 from ⟨_, rfl, rfl, w_1_13, w_7_158, (Or.inl ⟨P_sg 1 rfl, w_p_77, (Or.inl w_7_156)⟩)⟩) (P_all_nil)))) <|
  P_all_cons (P_lnk_vi (P_vall (l := P_v162) rfl (P_all_cons (show P_vok _ _ _ 11 184 from ⟨_, rfl, rfl, w_1_13, w_6_212, (Or.inl ⟨P_sg 1 rfl, w_p_45, (Or.inl w_6_210)⟩)⟩) (P_all_nil)))) <|
  P_all_nil
set_option maxRecDepth 20000 in
theorem P_m234 : P_mst 234 2 (Option.some Jvm.ClassFile.FieldType.long) P_e234 [] := P_meth (mx := 2) (rt := (Option.some Jvm.ClassFile.FieldType.long)) (hs := []) "OrchardQueryModel" false prog_14_method_53_code [] rfl rfl rfl rfl (by decide +kernel) (by decide +kernel) (fun _ => P_g234) (by decide) (fun _ _ => by decide +kernel) (fun q => by cases q) (P_all_cons (by decide +kernel) <| P_all_cons (by decide +kernel) <| P_all_nil) P_l234 (by decide +kernel) P_k234 (fun _ _ => P_hok_nil)
/-- OrchardQueryModel.cost()J -/
def P_l235 : List (Nat × P_I) := [(2, .putfield 62, 5, 11, 0, [], []), (6, .getfield 107, 9, 11, 7, [], []), (13, .invokevirtual 230, 16, 0, 193, [], []), (21, .invokevirtual 72, 24, 1, 162, [], [])]
set_option maxRecDepth 20000 in
theorem P_k235 : ∀ q ∈ P_l235, P_lnk P_cl P_aty P_stat P_tx P_N0 P_Tb P_Y0 "OrchardQueryModel" false prog_14_method_54_code [] q.1 q.2.1 q.2.2.2.1 q.2.2.2.2.1 :=
  P_all_cons (P_lnk_put (P_s1 (c := 11) (P := fun ci => P_pok P_cl P_Tb "OrchardQueryModel" false 62 ci 0) rfl ⟨_, _, _, "OrchardQueryModel", rfl, by decide, (Or.inl rfl), (Or.inl ⟨w_6_92, (Or.inl rfl)⟩)⟩)) <|
  P_all_cons (P_lnk_get (P_s1 (c := 11) (P := fun ci => P_fok P_cl P_Tb "OrchardQueryModel" 107 ci 7) rfl ⟨_, _, _, "OrchardQueryModel", rfl, by decide, (Or.inl rfl), (Or.inl w_6_99)⟩)) <|
  P_all_cons (P_lnk_vi (P_vall (l := P_v193) rfl (P_all_cons (show P_vok _ _ _ 11 230 from ⟨_, rfl, rfl, w_1_13, w_7_154, (Or.inl ⟨P_sg 0 rfl, w_p_76, (Or.inl w_7_152)⟩)⟩) (P_all_nil)))) <|
  P_all_cons (P_lnk_vi (P_vall (l := P_v162) rfl (P_all_cons (show P_vok _ _ _ 11 184 from ⟨_, rfl, rfl, w_1_13, w_6_212, (Or.inl ⟨P_sg 1 rfl, w_p_45, (Or.inl w_6_210)⟩)⟩) (P_all_nil)))) <|
  P_all_nil
set_option maxRecDepth 20000 in
theorem P_m235 : P_mst 235 1 (Option.some Jvm.ClassFile.FieldType.long) P_e235 [] := P_meth (mx := 1) (rt := (Option.some Jvm.ClassFile.FieldType.long)) (hs := []) "OrchardQueryModel" false prog_14_method_54_code [] rfl rfl rfl rfl (by decide +kernel) (by decide +kernel) (fun _ => P_g235) (by decide) (fun _ _ => by decide +kernel) (fun q => by cases q) (P_all_cons (by decide +kernel) <| P_all_nil) P_l235 (by decide +kernel) P_k235 (fun _ _ => P_hok_nil)
/-- OrchardQueryModel.isEmpty()Z -/
def P_l236 : List (Nat × P_I) := [(2, .getfield 107, 5, 11, 7, [], []), (13, .putfield 62, 16, 11, 0, [], []), (17, .getfield 107, 20, 11, 7, [], []), (24, .getfield 173, 27, 11, 23, [], [])]
set_option maxRecDepth 20000 in
theorem P_k236 : ∀ q ∈ P_l236, P_lnk P_cl P_aty P_stat P_tx P_N0 P_Tb P_Y0 "OrchardQueryModel" false prog_14_method_55_code [] q.1 q.2.1 q.2.2.2.1 q.2.2.2.2.1 :=
  P_all_cons (P_lnk_get (P_s1 (c := 11) (P := fun ci => P_fok P_cl P_Tb "OrchardQueryModel" 107 ci 7) rfl ⟨_, _, _, "OrchardQueryModel", rfl, by decide, (Or.inl rfl), (Or.inl w_6_99)⟩)) <|
  P_all_cons (P_lnk_put (P_s1 (c := 11) (P := fun ci => P_pok P_cl P_Tb "OrchardQueryModel" false 62 ci 0) rfl ⟨_, _, _, "OrchardQueryModel", rfl, by decide, (Or.inl rfl), (Or.inl ⟨w_6_92, (Or.inl rfl)⟩)⟩)) <|
  P_all_cons (P_lnk_get (P_s1 (c := 11) (P := fun ci => P_fok P_cl P_Tb "OrchardQueryModel" 107 ci 7) rfl ⟨_, _, _, "OrchardQueryModel", rfl, by decide, (Or.inl rfl), (Or.inl w_6_99)⟩)) <|
  P_all_cons (P_lnk_get (P_s1 (c := 11) (P := fun ci => P_fok P_cl P_Tb "OrchardQueryModel" 173 ci 23) rfl ⟨_, _, _, "OrchardQueryModel", rfl, by decide, (Or.inl rfl), (Or.inl w_6_115)⟩)) <|
  P_all_nil
set_option maxRecDepth 20000 in
theorem P_m236 : P_mst 236 1 (Option.some Jvm.ClassFile.FieldType.boolean) P_e236 [] := P_meth (mx := 1) (rt := (Option.some Jvm.ClassFile.FieldType.boolean)) (hs := []) "OrchardQueryModel" false prog_14_method_55_code [] rfl rfl rfl rfl (by decide +kernel) (by decide +kernel) (fun _ => P_g236) (by decide) (fun _ _ => by decide +kernel) (fun q => by cases q) (P_all_cons (by decide +kernel) <| P_all_cons (by decide +kernel) <| P_all_nil) P_l236 (by decide +kernel) P_k236 (fun _ _ => P_hok_nil)
/-- OrchardQueryModel.valueOf(I)I -/
def P_l237 : List (Nat × P_I) := [(1, .invokestatic 179, 4, 1, 214, [], []), (7, .getfield 33, 10, 11, 13, [], []), (13, .getfield 54, 16, 11, 28, [], []), (18, .invokevirtual 182, 21, 1, 181, [], []), (29, .invokevirtual 96, 32, 3, 165, [], [])]
set_option maxRecDepth 20000 in
theorem P_k237 : ∀ q ∈ P_l237, P_lnk P_cl P_aty P_stat P_tx P_N0 P_Tb P_Y0 "OrchardQueryModel" false prog_14_method_56_code [] q.1 q.2.1 q.2.2.2.1 q.2.2.2.2.1 :=
  P_all_cons (P_lnk_st (by decide) (fun _ => ⟨P_sg 1 rfl, w_1_13, w_7_94, (Or.inl w_7_93)⟩)) <|
  P_all_cons (P_lnk_get (P_s1 (c := 11) (P := fun ci => P_fok P_cl P_Tb "OrchardQueryModel" 33 ci 13) rfl ⟨_, _, _, "OrchardQueryModel", rfl, by decide, (Or.inl rfl), (Or.inl w_6_105)⟩)) <|
  P_all_cons (P_lnk_get (P_s1 (c := 11) (P := fun ci => P_fok P_cl P_Tb "OrchardQueryModel" 54 ci 28) rfl ⟨_, _, _, "OrchardQueryModel", rfl, by decide, (Or.inl rfl), (Or.inl w_6_120)⟩)) <|
  P_all_cons (P_lnk_vi (P_vall (l := P_v181) rfl (P_all_cons (show P_vok _ _ _ 11 215 from ⟨_, rfl, rfl, w_1_13, w_7_98, (Or.inl ⟨P_sg 1 rfl, w_p_66, (Or.inl w_7_96)⟩)⟩) (P_all_nil)))) <|
  P_all_cons (P_lnk_vi (P_vall (l := P_v165) rfl (P_all_cons (show P_vok _ _ _ 11 189 from ⟨_, rfl, rfl, w_1_13, w_7_3, (Or.inl ⟨P_sg 3 rfl, w_p_49, (Or.inl w_7_1)⟩)⟩) (P_all_nil)))) <|
  P_all_nil
set_option maxRecDepth 20000 in
theorem P_m237 : P_mst 237 3 (Option.some Jvm.ClassFile.FieldType.int) P_e237 [] := P_meth (mx := 3) (rt := (Option.some Jvm.ClassFile.FieldType.int)) (hs := []) "OrchardQueryModel" false prog_14_method_56_code [] rfl rfl rfl rfl (by decide +kernel) (by decide +kernel) (fun _ => P_g237) (by decide) (fun _ _ => by decide +kernel) (fun q => by cases q) (P_all_cons (by decide +kernel) <| P_all_cons (by decide +kernel) <| P_all_nil) P_l237 (by decide +kernel) P_k237 (fun _ _ => P_hok_nil)
