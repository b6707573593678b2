/-! TABLES of this claim, written by wip/gen.py: methods -/
/-- OrchardQueryModel.holds(I)Z -/
def P_l238 : List (Nat × P_I) := [(2, .getfield 36, 5, 11, 18, [], []), (7, .invokevirtual 238, 10, 1, 195, [], []), (12, .getfield 42, 15, 11, 20, [], []), (17, .invokestatic 185, 20, 1, 213, [], []), (25, .getfield 42, 28, 11, 20, [], []), (30, .invokevirtual 238, 33, 1, 195, [], []), (37, .getfield 42, 40, 11, 20, [], []), (48, .getfield 39, 51, 11, 19, [], []), (72, .getfield 39, 75, 11, 19, [], [])]
set_option maxRecDepth 20000 in
theorem P_k238 : ∀ q ∈ P_l238, P_lnk P_cl P_aty P_stat P_tx P_N0 P_Tb P_Y0 "OrchardQueryModel" false prog_14_method_57_code [] q.1 q.2.1 q.2.2.2.1 q.2.2.2.2.1 :=
  P_all_cons (P_lnk_get (P_s1 (c := 11) (P := fun ci => P_fok P_cl P_Tb "OrchardQueryModel" 36 ci 18) rfl ⟨_, _, _, "OrchardQueryModel", rfl, by decide, (Or.inl rfl), (Or.inl w_6_110)⟩)) <|
  P_all_cons (P_lnk_vi (P_vall (l := P_v195) rfl (P_all_cons (show P_vok _ _ _ 11 237 from ⟨_, rfl, rfl, w_1_13, w_7_215, (Or.inl ⟨P_sg 1 rfl, w_p_85, (Or.inl w_7_213)⟩)⟩) (P_all_nil)))) <|
  P_all_cons (P_lnk_get (P_s1 (c := 11) (P := fun ci => P_fok P_cl P_Tb "OrchardQueryModel" 42 ci 20) rfl ⟨_, _, _, "OrchardQueryModel", rfl, by decide, (Or.inl rfl), (Or.inl w_6_112)⟩)) <|
  P_all_cons (P_lnk_st (by decide) (fun _ => ⟨P_sg 1 rfl, w_1_13, w_7_101, (Or.inl w_7_100)⟩)) <|
  P_all_cons (P_lnk_get (P_s1 (c := 11) (P := fun ci => P_fok P_cl P_Tb "OrchardQueryModel" 42 ci 20) rfl ⟨_, _, _, "OrchardQueryModel", rfl, by decide, (Or.inl rfl), (Or.inl w_6_112)⟩)) <|
  P_all_cons (P_lnk_vi (P_vall (l := P_v195) rfl (P_all_cons (show P_vok _ _ _ 11 237 from ⟨_, rfl, rfl, w_1_13, w_7_215, (Or.inl ⟨P_sg 1 rfl, w_p_85, (Or.inl w_7_213)⟩)⟩) (P_all_nil)))) <|
  P_all_cons (P_lnk_get (P_s1 (c := 11) (P := fun ci => P_fok P_cl P_Tb "OrchardQueryModel" 42 ci 20) rfl ⟨_, _, _, "OrchardQueryModel", rfl, by decide, (Or.inl rfl), (Or.inl w_6_112)⟩)) <|
  P_all_cons (P_lnk_get (P_s1 (c := 11) (P := fun ci => P_fok P_cl P_Tb "OrchardQueryModel" 39 ci 19) rfl ⟨_, _, _, "OrchardQueryModel", rfl, by decide, (Or.inl rfl), (Or.inl w_6_111)⟩)) <|
  P_all_cons (P_lnk_get (P_s1 (c := 11) (P := fun ci => P_fok P_cl P_Tb "OrchardQueryModel" 39 ci 19) rfl ⟨_, _, _, "OrchardQueryModel", rfl, by decide, (Or.inl rfl), (Or.inl w_6_111)⟩)) <|
  P_all_nil
set_option maxRecDepth 20000 in
theorem P_m238 : P_mst 238 4 (Option.some Jvm.ClassFile.FieldType.boolean) P_e238 [] := P_meth (mx := 4) (rt := (Option.some Jvm.ClassFile.FieldType.boolean)) (hs := []) "OrchardQueryModel" false prog_14_method_57_code [] rfl rfl rfl rfl (by decide +kernel) (by decide +kernel) (fun _ => P_g238) (by decide) (fun _ _ => by decide +kernel) (fun q => by cases q) (P_all_cons (by decide +kernel) <| P_all_cons (by decide +kernel) <| P_all_cons (by decide +kernel) <| P_all_cons (by decide +kernel) <| P_all_nil) P_l238 (by decide +kernel) P_k238 (fun _ _ => P_hok_nil)
/-- OrchardQueryModel.hold(II)Z -/
def P_l239 : List (Nat × P_I) := [(4, .getfield 137, 7, 11, 17, [], []), (11, .getfield 45, 14, 11, 21, [], []), (30, .getfield 241, 33, 11, 30, [], []), (35, .putfield 241, 38, 11, 30, [], []), (40, .invokevirtual 244, 43, 1, 196, [], [])]
set_option maxRecDepth 20000 in
theorem P_k239 : ∀ q ∈ P_l239, P_lnk P_cl P_aty P_stat P_tx P_N0 P_Tb P_Y0 "OrchardQueryModel" false prog_14_method_58_code [] q.1 q.2.1 q.2.2.2.1 q.2.2.2.2.1 :=
  P_all_cons (P_lnk_get (P_s1 (c := 11) (P := fun ci => P_fok P_cl P_Tb "OrchardQueryModel" 137 ci 17) rfl ⟨_, _, _, "OrchardQueryModel", rfl, by decide, (Or.inl rfl), (Or.inl w_6_109)⟩)) <|
  P_all_cons (P_lnk_get (P_s1 (c := 11) (P := fun ci => P_fok P_cl P_Tb "OrchardQueryModel" 45 ci 21) rfl ⟨_, _, _, "OrchardQueryModel", rfl, by decide, (Or.inl rfl), (Or.inl w_6_113)⟩)) <|
  P_all_cons (P_lnk_get (P_s1 (c := 11) (P := fun ci => P_fok P_cl P_Tb "OrchardQueryModel" 241 ci 30) rfl ⟨_, _, _, "OrchardQueryModel", rfl, by decide, (Or.inl rfl), (Or.inl w_6_122)⟩)) <|
  P_all_cons (P_lnk_put (P_s1 (c := 11) (P := fun ci => P_pok P_cl P_Tb "OrchardQueryModel" false 241 ci 30) rfl ⟨_, _, _, "OrchardQueryModel", rfl, by decide, (Or.inl rfl), (Or.inl ⟨w_6_122, (Or.inl rfl)⟩)⟩)) <|
  P_all_cons (P_lnk_vi (P_vall (l := P_v196) rfl (P_all_cons (show P_vok _ _ _ 11 238 from ⟨_, rfl, rfl, w_1_13, w_7_211, (Or.inl ⟨P_sg 1 rfl, w_p_84, (Or.inl w_7_209)⟩)⟩) (P_all_nil)))) <|
  P_all_nil
set_option maxRecDepth 20000 in
theorem P_m239 : P_mst 239 4 (Option.some Jvm.ClassFile.FieldType.boolean) P_e239 [] := P_meth (mx := 4) (rt := (Option.some Jvm.ClassFile.FieldType.boolean)) (hs := []) "OrchardQueryModel" false prog_14_method_58_code [] rfl rfl rfl rfl (by decide +kernel) (by decide +kernel) (fun _ => P_g239) (by decide) (fun _ _ => by decide +kernel) (fun q => by cases q) (P_all_cons (by decide +kernel) <| P_all_cons (by decide +kernel) <| P_all_nil) P_l239 (by decide +kernel) P_k239 (fun _ _ => P_hok_nil)
/-- OrchardQueryModel.meet(I)Z -/
def P_l240 : List (Nat × P_I) := [(1, .getfield 134, 4, 11, 12, [], []), (8, .getfield 247, 11, 11, 31, [], []), (17, .getfield 54, 20, 11, 28, [], []), (25, .putfield 247, 28, 11, 31, [], []), (33, .getfield 54, 36, 11, 28, [], []), (43, .getfield 54, 46, 11, 28, [], []), (49, .getfield 13, 52, 11, 3, [], []), (53, .getfield 33, 56, 11, 13, [], []), (57, .getfield 48, 60, 11, 22, [], []), (75, .getfield 250, 78, 11, 29, [], []), (80, .putfield 250, 83, 11, 29, [], []), (86, .invokevirtual 253, 89, 2, 197, [], []), (97, .getfield 134, 100, 11, 12, [], []), (108, .getfield 54, 111, 11, 28, [], []), (122, .putfield 256, 125, 11, 32, [], [])]
set_option maxRecDepth 20000 in
theorem P_k240 : ∀ q ∈ P_l240, P_lnk P_cl P_aty P_stat P_tx P_N0 P_Tb P_Y0 "OrchardQueryModel" false prog_14_method_59_code [] q.1 q.2.1 q.2.2.2.1 q.2.2.2.2.1 :=
  P_all_cons (P_lnk_get (P_s1 (c := 11) (P := fun ci => P_fok P_cl P_Tb "OrchardQueryModel" 134 ci 12) rfl ⟨_, _, _, "OrchardQueryModel", rfl, by decide, (Or.inl rfl), (Or.inl w_6_104)⟩)) <|
  P_all_cons (P_lnk_get (P_s1 (c := 11) (P := fun ci => P_fok P_cl P_Tb "OrchardQueryModel" 247 ci 31) rfl ⟨_, _, _, "OrchardQueryModel", rfl, by decide, (Or.inl rfl), (Or.inl w_6_123)⟩)) <|
  P_all_cons (P_lnk_get (P_s1 (c := 11) (P := fun ci => P_fok P_cl P_Tb "OrchardQueryModel" 54 ci 28) rfl ⟨_, _, _, "OrchardQueryModel", rfl, by decide, (Or.inl rfl), (Or.inl w_6_120)⟩)) <|
  P_all_cons (P_lnk_put (P_s1 (c := 11) (P := fun ci => P_pok P_cl P_Tb "OrchardQueryModel" false 247 ci 31) rfl ⟨_, _, _, "OrchardQueryModel", rfl, by decide, (Or.inl rfl), (Or.inl ⟨w_6_123, (Or.inl rfl)⟩)⟩)) <|
  P_all_cons (P_lnk_get (P_s1 (c := 11) (P := fun ci => P_fok P_cl P_Tb "OrchardQueryModel" 54 ci 28) rfl ⟨_, _, _, "OrchardQueryModel", rfl, by decide, (Or.inl rfl), (Or.inl w_6_120)⟩)) <|
  P_all_cons (P_lnk_get (P_s1 (c := 11) (P := fun ci => P_fok P_cl P_Tb "OrchardQueryModel" 54 ci 28) rfl ⟨_, _, _, "OrchardQueryModel", rfl, by decide, (Or.inl rfl), (Or.inl w_6_120)⟩)) <|
  P_all_cons (P_lnk_get (P_s1 (c := 11) (P := fun ci => P_fok P_cl P_Tb "OrchardQueryModel" 13 ci 3) rfl ⟨_, _, _, "OrchardQueryModel", rfl, by decide, (Or.inl rfl), (Or.inl w_6_95)⟩)) <|
  P_all_cons (P_lnk_get (P_s1 (c := 11) (P := fun ci => P_fok P_cl P_Tb "OrchardQueryModel" 33 ci 13) rfl ⟨_, _, _, "OrchardQueryModel", rfl, by decide, (Or.inl rfl), (Or.inl w_6_105)⟩)) <|
  P_all_cons (P_lnk_get (P_s1 (c := 11) (P := fun ci => P_fok P_cl P_Tb "OrchardQueryModel" 48 ci 22) rfl ⟨_, _, _, "OrchardQueryModel", rfl, by decide, (Or.inl rfl), (Or.inl w_6_114)⟩)) <|
  P_all_cons (P_lnk_get (P_s1 (c := 11) (P := fun ci => P_fok P_cl P_Tb "OrchardQueryModel" 250 ci 29) rfl ⟨_, _, _, "OrchardQueryModel", rfl, by decide, (Or.inl rfl), (Or.inl w_6_121)⟩)) <|
  P_all_cons (P_lnk_put (P_s1 (c := 11) (P := fun ci => P_pok P_cl P_Tb "OrchardQueryModel" false 250 ci 29) rfl ⟨_, _, _, "OrchardQueryModel", rfl, by decide, (Or.inl rfl), (Or.inl ⟨w_6_121, (Or.inl rfl)⟩)⟩)) <|
  P_all_cons (P_lnk_vi (P_vall (l := P_v197) rfl (P_all_cons (show P_vok _ _ _ 11 239 from ⟨_, rfl, rfl, w_1_13, w_7_207, (Or.inl ⟨P_sg 2 rfl, w_p_83, (Or.inl w_7_205)⟩)⟩) (P_all_nil)))) <|
  P_all_cons (P_lnk_get (P_s1 (c := 11) (P := fun ci => P_fok P_cl P_Tb "OrchardQueryModel" 134 ci 12) rfl ⟨_, _, _, "OrchardQueryModel", rfl, by decide, (Or.inl rfl), (Or.inl w_6_104)⟩)) <|
  P_all_cons (P_lnk_get (P_s1 (c := 11) (P := fun ci => P_fok P_cl P_Tb "OrchardQueryModel" 54 ci 28) rfl ⟨_, _, _, "OrchardQueryModel", rfl, by decide, (Or.inl rfl), (Or.inl w_6_120)⟩)) <|
  P_all_cons (P_lnk_put (P_s1 (c := 11) (P := fun ci => P_pok P_cl P_Tb "OrchardQueryModel" false 256 ci 32) rfl ⟨_, _, _, "OrchardQueryModel", rfl, by decide, (Or.inl rfl), (Or.inl ⟨w_6_124, (Or.inl rfl)⟩)⟩)) <|
  P_all_nil
set_option maxRecDepth 20000 in
theorem P_m240 : P_mst 240 3 (Option.some Jvm.ClassFile.FieldType.boolean) P_e240 [] := P_meth (mx := 3) (rt := (Option.some Jvm.ClassFile.FieldType.boolean)) (hs := []) "OrchardQueryModel" false prog_14_method_59_code [] rfl rfl rfl rfl (by decide +kernel) (by decide +kernel) (fun _ => P_g240) (by decide) (fun _ _ => by decide +kernel) (fun q => by cases q) (P_all_cons (by decide +kernel) <| P_all_cons (by decide +kernel) <| P_all_cons (by decide +kernel) <| P_all_cons (by decide +kernel) <| P_all_nil) P_l240 (by decide +kernel) P_k240 (fun _ _ => P_hok_nil)
/-- OrchardQueryModel.start()V -/
def P_l241 : List (Nat × P_I) := [(2, .putfield 250, 5, 11, 29, [], []), (7, .putfield 241, 10, 11, 30, [], []), (12, .putfield 247, 15, 11, 31, [], []), (17, .putfield 256, 20, 11, 32, [], [])]
set_option maxRecDepth 20000 in
theorem P_k241 : ∀ q ∈ P_l241, P_lnk P_cl P_aty P_stat P_tx P_N0 P_Tb P_Y0 "OrchardQueryModel" false prog_14_method_60_code [] q.1 q.2.1 q.2.2.2.1 q.2.2.2.2.1 :=
  P_all_cons (P_lnk_put (P_s1 (c := 11) (P := fun ci => P_pok P_cl P_Tb "OrchardQueryModel" false 250 ci 29) rfl ⟨_, _, _, "OrchardQueryModel", rfl, by decide, (Or.inl rfl), (Or.inl ⟨w_6_121, (Or.inl rfl)⟩)⟩)) <|
  P_all_cons (P_lnk_put (P_s1 (c := 11) (P := fun ci => P_pok P_cl P_Tb "OrchardQueryModel" false 241 ci 30) rfl ⟨_, _, _, "OrchardQueryModel", rfl, by decide, (Or.inl rfl), (Or.inl ⟨w_6_122, (Or.inl rfl)⟩)⟩)) <|
  P_all_cons (P_lnk_put (P_s1 (c := 11) (P := fun ci => P_pok P_cl P_Tb "OrchardQueryModel" false 247 ci 31) rfl ⟨_, _, _, "OrchardQueryModel", rfl, by decide, (Or.inl rfl), (Or.inl ⟨w_6_123, (Or.inl rfl)⟩)⟩)) <|
  P_all_cons (P_lnk_put (P_s1 (c := 11) (P := fun ci => P_pok P_cl P_Tb "OrchardQueryModel" false 256 ci 32) rfl ⟨_, _, _, "OrchardQueryModel", rfl, by decide, (Or.inl rfl), (Or.inl ⟨w_6_124, (Or.inl rfl)⟩)⟩)) <|
  P_all_nil
set_option maxRecDepth 20000 in
theorem P_m241 : P_mst 241 1 (Option.none : Option Jvm.ClassFile.FieldType) P_e241 [] := P_meth (mx := 1) (rt := (Option.none : Option Jvm.ClassFile.FieldType)) (hs := []) "OrchardQueryModel" false prog_14_method_60_code [] rfl rfl rfl rfl (by decide +kernel) (by decide +kernel) (fun _ => P_g241) (by decide) (fun _ _ => by decide +kernel) (fun q => by cases q) (P_all_cons (by decide +kernel) <| P_all_nil) P_l241 (by decide +kernel) P_k241 (fun _ _ => P_hok_nil)
/-- OrchardQueryModel.isTogether()Z -/
def P_l242 : List (Nat × P_I) := [(1, .getfield 143, 4, 11, 14, [], []), (18, .getfield 124, 21, 11, 9, [], []), (26, .getfield 29, 29, 11, 11, [], []), (35, .getfield 26, 38, 11, 10, [], [])]
set_option maxRecDepth 20000 in
theorem P_k242 : ∀ q ∈ P_l242, P_lnk P_cl P_aty P_stat P_tx P_N0 P_Tb P_Y0 "OrchardQueryModel" false prog_14_method_61_code [] q.1 q.2.1 q.2.2.2.1 q.2.2.2.2.1 :=
  P_all_cons (P_lnk_get (P_s1 (c := 11) (P := fun ci => P_fok P_cl P_Tb "OrchardQueryModel" 143 ci 14) rfl ⟨_, _, _, "OrchardQueryModel", rfl, by decide, (Or.inl rfl), (Or.inl w_6_106)⟩)) <|
  P_all_cons (P_lnk_get (P_s1 (c := 11) (P := fun ci => P_fok P_cl P_Tb "OrchardQueryModel" 124 ci 9) rfl ⟨_, _, _, "OrchardQueryModel", rfl, by decide, (Or.inl rfl), (Or.inl w_6_101)⟩)) <|
  P_all_cons (P_lnk_get (P_s1 (c := 11) (P := fun ci => P_fok P_cl P_Tb "OrchardQueryModel" 29 ci 11) rfl ⟨_, _, _, "OrchardQueryModel", rfl, by decide, (Or.inl rfl), (Or.inl w_6_103)⟩)) <|
  P_all_cons (P_lnk_get (P_s1 (c := 11) (P := fun ci => P_fok P_cl P_Tb "OrchardQueryModel" 26 ci 10) rfl ⟨_, _, _, "OrchardQueryModel", rfl, by decide, (Or.inl rfl), (Or.inl w_6_102)⟩)) <|
  P_all_nil
set_option maxRecDepth 20000 in
theorem P_m242 : P_mst 242 3 (Option.some Jvm.ClassFile.FieldType.boolean) P_e242 [] := P_meth (mx := 3) (rt := (Option.some Jvm.ClassFile.FieldType.boolean)) (hs := []) "OrchardQueryModel" false prog_14_method_61_code [] rfl rfl rfl rfl (by decide +kernel) (by decide +kernel) (fun _ => P_g242) (by decide) (fun _ _ => by decide +kernel) (fun q => by cases q) (P_all_cons (by decide +kernel) <| P_all_cons (by decide +kernel) <| P_all_nil) P_l242 (by decide +kernel) P_k242 (fun _ _ => P_hok_nil)
/-- OrchardQueryModel.oneResult()[I -/
def P_l243 : List (Nat × P_I) := [(1, .getfield 124, 4, 11, 9, [], []), (4, .newarray .int, 6, 0, 0, [], []), (11, .getfield 124, 14, 11, 9, [], []), (21, .getfield 26, 24, 11, 10, [], []), (26, .invokevirtual 238, 29, 1, 195, [], [])]
set_option maxRecDepth 20000 in
theorem P_k243 : ∀ q ∈ P_l243, P_lnk P_cl P_aty P_stat P_tx P_N0 P_Tb P_Y0 "OrchardQueryModel" false prog_14_method_62_code [] q.1 q.2.1 q.2.2.2.1 q.2.2.2.2.1 :=
  P_all_cons (P_lnk_get (P_s1 (c := 11) (P := fun ci => P_fok P_cl P_Tb "OrchardQueryModel" 124 ci 9) rfl ⟨_, _, _, "OrchardQueryModel", rfl, by decide, (Or.inl rfl), (Or.inl w_6_101)⟩)) <|
  P_all_cons (P_lnk_nwa rfl w_1_56) <|
  P_all_cons (P_lnk_get (P_s1 (c := 11) (P := fun ci => P_fok P_cl P_Tb "OrchardQueryModel" 124 ci 9) rfl ⟨_, _, _, "OrchardQueryModel", rfl, by decide, (Or.inl rfl), (Or.inl w_6_101)⟩)) <|
  P_all_cons (P_lnk_get (P_s1 (c := 11) (P := fun ci => P_fok P_cl P_Tb "OrchardQueryModel" 26 ci 10) rfl ⟨_, _, _, "OrchardQueryModel", rfl, by decide, (Or.inl rfl), (Or.inl w_6_102)⟩)) <|
  P_all_cons (P_lnk_vi (P_vall (l := P_v195) rfl (P_all_cons (show P_vok _ _ _ 11 237 from ⟨_, rfl, rfl, w_1_13, w_7_215, (Or.inl ⟨P_sg 1 rfl, w_p_85, (Or.inl w_7_213)⟩)⟩) (P_all_nil)))) <|
  P_all_nil
set_option maxRecDepth 20000 in
theorem P_m243 : P_mst 243 3 (Option.some (Jvm.ClassFile.FieldType.array Jvm.ClassFile.FieldType.int)) P_e243 [] := P_meth (mx := 3) (rt := (Option.some (Jvm.ClassFile.FieldType.array Jvm.ClassFile.FieldType.int))) (hs := []) "OrchardQueryModel" false prog_14_method_62_code [] rfl rfl rfl rfl (by decide +kernel) (by decide +kernel) (fun _ => P_g243) (by decide) (fun _ _ => by decide +kernel) (fun q => by cases q) (P_all_cons (by decide +kernel) <| P_all_cons (by decide +kernel) <| P_all_nil) P_l243 (by decide +kernel) P_k243 (fun _ _ => P_hok_nil)
/-- OrchardQueryModel.all()[[I -/
def P_l244 : List (Nat × P_I) := [(1, .invokevirtual 259, 4, 0, 198, [], []), (5, .getfield 149, 8, 11, 16, [], []), (12, .anewarray 57, 15, 0, 200, [], []), (19, .invokevirtual 262, 22, 0, 199, [], []), (26, .invokevirtual 265, 29, 0, 200, [], []), (33, .invokevirtual 269, 36, 0, 201, [], []), (38, .getfield 146, 41, 11, 15, [], []), (47, .invokevirtual 272, 50, 1, 202, [], []), (51, .getfield 149, 54, 11, 16, [], []), (61, .getfield 149, 64, 11, 16, [], []), (73, .getfield 149, 76, 11, 16, [], []), (76, .invokestatic 276, 79, 2, 245, [], [])]
set_option maxRecDepth 20000 in
theorem P_k244 : ∀ q ∈ P_l244, P_lnk P_cl P_aty P_stat P_tx P_N0 P_Tb P_Y0 "OrchardQueryModel" false prog_14_method_63_code [] q.1 q.2.1 q.2.2.2.1 q.2.2.2.2.1 :=
  P_all_cons (P_lnk_vi (P_vall (l := P_v198) rfl (P_all_cons (show P_vok _ _ _ 11 241 from ⟨_, rfl, rfl, w_1_13, w_7_183, (Or.inl ⟨P_sg 0 rfl, w_p_78, (Or.inl w_7_181)⟩)⟩) (P_all_nil)))) <|
  P_all_cons (P_lnk_get (P_s1 (c := 11) (P := fun ci => P_fok P_cl P_Tb "OrchardQueryModel" 149 ci 16) rfl ⟨_, _, _, "OrchardQueryModel", rfl, by decide, (Or.inl rfl), (Or.inl w_6_108)⟩)) <|
  P_all_cons (P_lnk_anr (t := .int) rfl w_6_90 w_6_91) <|
  P_all_cons (P_lnk_vi (P_vall (l := P_v199) rfl (P_all_cons (show P_vok _ _ _ 11 242 from ⟨_, rfl, rfl, w_1_13, w_7_199, (Or.inl ⟨P_sg 0 rfl, w_p_81, (Or.inl w_7_197)⟩)⟩) (P_all_nil)))) <|
  P_all_cons (P_lnk_vi (P_vall (l := P_v200) rfl (P_all_cons (show P_vok _ _ _ 11 247 from ⟨_, rfl, rfl, w_1_13, w_7_227, (Or.inl ⟨P_sg 0 rfl, w_p_88, (Or.inl w_7_225)⟩)⟩) (P_all_nil)))) <|
  P_all_cons (P_lnk_vi (P_vall (l := P_v201) rfl (P_all_cons (show P_vok _ _ _ 11 246 from ⟨_, rfl, rfl, w_1_13, w_8_2, (Or.inl ⟨P_sg 0 rfl, w_p_90, (Or.inl w_8_0)⟩)⟩) (P_all_nil)))) <|
  P_all_cons (P_lnk_get (P_s1 (c := 11) (P := fun ci => P_fok P_cl P_Tb "OrchardQueryModel" 146 ci 15) rfl ⟨_, _, _, "OrchardQueryModel", rfl, by decide, (Or.inl rfl), (Or.inl w_6_107)⟩)) <|
  P_all_cons (P_lnk_vi (P_vall (l := P_v202) rfl (P_all_cons (show P_vok _ _ _ 11 251 from ⟨_, rfl, rfl, w_1_13, w_8_10, (Or.inl ⟨P_sg 1 rfl, w_p_91, (Or.inl w_8_8)⟩)⟩) (P_all_nil)))) <|
  P_all_cons (P_lnk_get (P_s1 (c := 11) (P := fun ci => P_fok P_cl P_Tb "OrchardQueryModel" 149 ci 16) rfl ⟨_, _, _, "OrchardQueryModel", rfl, by decide, (Or.inl rfl), (Or.inl w_6_108)⟩)) <|
  P_all_cons (P_lnk_get (P_s1 (c := 11) (P := fun ci => P_fok P_cl P_Tb "OrchardQueryModel" 149 ci 16) rfl ⟨_, _, _, "OrchardQueryModel", rfl, by decide, (Or.inl rfl), (Or.inl w_6_108)⟩)) <|
  P_all_cons (P_lnk_get (P_s1 (c := 11) (P := fun ci => P_fok P_cl P_Tb "OrchardQueryModel" 149 ci 16) rfl ⟨_, _, _, "OrchardQueryModel", rfl, by decide, (Or.inl rfl), (Or.inl w_6_108)⟩)) <|
  P_all_cons (P_lnk_st (by decide) (fun _ => ⟨P_sg 2 rfl, w_1_13, w_8_5, (Or.inl w_8_4)⟩)) <|
  P_all_nil
set_option maxRecDepth 20000 in
theorem P_m244 : P_mst 244 2 (Option.some (Jvm.ClassFile.FieldType.array (Jvm.ClassFile.FieldType.array Jvm.ClassFile.FieldType.int))) P_e244 [] := P_meth (mx := 2) (rt := (Option.some (Jvm.ClassFile.FieldType.array (Jvm.ClassFile.FieldType.array Jvm.ClassFile.FieldType.int)))) (hs := []) "OrchardQueryModel" false prog_14_method_63_code [] rfl rfl rfl rfl (by decide +kernel) (by decide +kernel) (fun _ => P_g244) (by decide) (fun _ _ => by decide +kernel) (fun q => by cases q) (P_all_cons (by decide +kernel) <| P_all_cons (by decide +kernel) <| P_all_cons (by decide +kernel) <| P_all_nil) P_l244 (by decide +kernel) P_k244 (fun _ _ => P_hok_nil)
/-- OrchardQueryModel.cut([[II)[[I -/
def P_l245 : List (Nat × P_I) := [(1, .anewarray 57, 4, 0, 200, [], []), (12, .invokestatic 280, 15, 2, 9002, [], [])]
set_option maxRecDepth 20000 in
theorem P_k245 : ∀ q ∈ P_l245, P_lnk P_cl P_aty P_stat P_tx P_N0 P_Tb P_Y0 "OrchardQueryModel" false prog_14_method_64_code [] q.1 q.2.1 q.2.2.2.1 q.2.2.2.2.1 :=
  P_all_cons (P_lnk_anr (t := .int) rfl w_6_90 w_6_91) <|
  P_all_cons (P_lnk_sj (by decide) ⟨(fun q => absurd q (by decide)), fun _ => ⟨w_8_7, w_4_56, w_1_21, w_4_57⟩⟩) <|
  P_all_nil
set_option maxRecDepth 20000 in
theorem P_m245 : P_mst 245 3 (Option.some (Jvm.ClassFile.FieldType.array (Jvm.ClassFile.FieldType.array Jvm.ClassFile.FieldType.int))) P_e245 [] := P_meth (mx := 3) (rt := (Option.some (Jvm.ClassFile.FieldType.array (Jvm.ClassFile.FieldType.array Jvm.ClassFile.FieldType.int)))) (hs := []) "OrchardQueryModel" false prog_14_method_64_code [] rfl rfl rfl rfl (by decide +kernel) (by decide +kernel) (fun _ => P_g245) (by decide) (fun _ _ => by decide +kernel) (fun q => by cases q) (P_all_cons (by decide +kernel) <| P_all_nil) P_l245 (by decide +kernel) P_k245 (fun _ _ => P_hok_nil)
/-- OrchardQueryModel.each()[[I -/
def P_l246 : List (Nat × P_I) := [(1, .anewarray 57, 4, 0, 200, [], []), (8, .getfield 173, 11, 11, 23, [], []), (15, .getfield 146, 18, 11, 15, [], []), (24, .getfield 149, 27, 11, 16, [], []), (32, .invokevirtual 283, 35, 1, 203, [], []), (48, .invokestatic 276, 51, 2, 245, [], []), (58, .invokevirtual 286, 61, 0, 204, [], []), (67, .invokestatic 276, 70, 2, 245, [], [])]
set_option maxRecDepth 20000 in
theorem P_k246 : ∀ q ∈ P_l246, P_lnk P_cl P_aty P_stat P_tx P_N0 P_Tb P_Y0 "OrchardQueryModel" false prog_14_method_65_code [] q.1 q.2.1 q.2.2.2.1 q.2.2.2.2.1 :=
  P_all_cons (P_lnk_anr (t := .int) rfl w_6_90 w_6_91) <|
  P_all_cons (P_lnk_get (P_s1 (c := 11) (P := fun ci => P_fok P_cl P_Tb "OrchardQueryModel" 173 ci 23) rfl ⟨_, _, _, "OrchardQueryModel", rfl, by decide, (Or.inl rfl), (Or.inl w_6_115)⟩)) <|
  P_all_cons (P_lnk_get (P_s1 (c := 11) (P := fun ci => P_fok P_cl P_Tb "OrchardQueryModel" 146 ci 15) rfl ⟨_, _, _, "OrchardQueryModel", rfl, by decide, (Or.inl rfl), (Or.inl w_6_107)⟩)) <|
  P_all_cons (P_lnk_get (P_s1 (c := 11) (P := fun ci => P_fok P_cl P_Tb "OrchardQueryModel" 149 ci 16) rfl ⟨_, _, _, "OrchardQueryModel", rfl, by decide, (Or.inl rfl), (Or.inl w_6_108)⟩)) <|
  P_all_cons (P_lnk_vi (P_vall (l := P_v203) rfl (P_all_cons (show P_vok _ _ _ 11 240 from ⟨_, rfl, rfl, w_1_13, w_7_203, (Or.inl ⟨P_sg 1 rfl, w_p_82, (Or.inl w_7_201)⟩)⟩) (P_all_nil)))) <|
  P_all_cons (P_lnk_st (by decide) (fun _ => ⟨P_sg 2 rfl, w_1_13, w_8_5, (Or.inl w_8_4)⟩)) <|
  P_all_cons (P_lnk_vi (P_vall (l := P_v204) rfl (P_all_cons (show P_vok _ _ _ 11 243 from ⟨_, rfl, rfl, w_1_13, w_7_219, (Or.inl ⟨P_sg 0 rfl, w_p_86, (Or.inl w_7_217)⟩)⟩) (P_all_nil)))) <|
  P_all_cons (P_lnk_st (by decide) (fun _ => ⟨P_sg 2 rfl, w_1_13, w_8_5, (Or.inl w_8_4)⟩)) <|
  P_all_nil
set_option maxRecDepth 20000 in
theorem P_m246 : P_mst 246 3 (Option.some (Jvm.ClassFile.FieldType.array (Jvm.ClassFile.FieldType.array Jvm.ClassFile.FieldType.int))) P_e246 [] := P_meth (mx := 3) (rt := (Option.some (Jvm.ClassFile.FieldType.array (Jvm.ClassFile.FieldType.array Jvm.ClassFile.FieldType.int)))) (hs := []) "OrchardQueryModel" false prog_14_method_65_code [] rfl rfl rfl rfl (by decide +kernel) (by decide +kernel) (fun _ => P_g246) (by decide) (fun _ _ => by decide +kernel) (fun q => by cases q) (P_all_cons (by decide +kernel) <| P_all_cons (by decide +kernel) <| P_all_cons (by decide +kernel) <| P_all_nil) P_l246 (by decide +kernel) P_k246 (fun _ _ => P_hok_nil)
/-- OrchardQueryModel.together()[[I -/
def P_l247 : List (Nat × P_I) := [(1, .getfield 143, 4, 11, 14, [], []), (13, .newarray .int, 15, 0, 0, [], []), (19, .getfield 124, 22, 11, 9, [], []), (30, .getfield 173, 33, 11, 23, [], []), (38, .invokevirtual 283, 41, 1, 203, [], []), (45, .getfield 143, 48, 11, 14, [], []), (58, .getfield 143, 61, 11, 14, [], []), (61, .invokevirtual 238, 64, 1, 195, [], []), (124, .invokestatic 291, 127, 3, 249, [], []), (132, .getfield 124, 135, 11, 9, [], []), (135, .newarray .int, 137, 0, 0, [], []), (137, .invokestatic 295, 140, 3, 250, [], []), (152, .getfield 143, 155, 11, 14, [], []), (168, .invokevirtual 298, 171, 2, 205, [], [])]
set_option maxRecDepth 20000 in
theorem P_k247 : ∀ q ∈ P_l247, P_lnk P_cl P_aty P_stat P_tx P_N0 P_Tb P_Y0 "OrchardQueryModel" false prog_14_method_66_code [] q.1 q.2.1 q.2.2.2.1 q.2.2.2.2.1 :=
  P_all_cons (P_lnk_get (P_s1 (c := 11) (P := fun ci => P_fok P_cl P_Tb "OrchardQueryModel" 143 ci 14) rfl ⟨_, _, _, "OrchardQueryModel", rfl, by decide, (Or.inl rfl), (Or.inl w_6_106)⟩)) <|
  P_all_cons (P_lnk_nwa rfl w_1_56) <|
  P_all_cons (P_lnk_get (P_s1 (c := 11) (P := fun ci => P_fok P_cl P_Tb "OrchardQueryModel" 124 ci 9) rfl ⟨_, _, _, "OrchardQueryModel", rfl, by decide, (Or.inl rfl), (Or.inl w_6_101)⟩)) <|
  P_all_cons (P_lnk_get (P_s1 (c := 11) (P := fun ci => P_fok P_cl P_Tb "OrchardQueryModel" 173 ci 23) rfl ⟨_, _, _, "OrchardQueryModel", rfl, by decide, (Or.inl rfl), (Or.inl w_6_115)⟩)) <|
  P_all_cons (P_lnk_vi (P_vall (l := P_v203) rfl (P_all_cons (show P_vok _ _ _ 11 240 from ⟨_, rfl, rfl, w_1_13, w_7_203, (Or.inl ⟨P_sg 1 rfl, w_p_82, (Or.inl w_7_201)⟩)⟩) (P_all_nil)))) <|
  P_all_cons (P_lnk_get (P_s1 (c := 11) (P := fun ci => P_fok P_cl P_Tb "OrchardQueryModel" 143 ci 14) rfl ⟨_, _, _, "OrchardQueryModel", rfl, by decide, (Or.inl rfl), (Or.inl w_6_106)⟩)) <|
  P_all_cons (P_lnk_get (P_s1 (c := 11) (P := fun ci => P_fok P_cl P_Tb "OrchardQueryModel" 143 ci 14) rfl ⟨_, _, _, "OrchardQueryModel", rfl, by decide, (Or.inl rfl), (Or.inl w_6_106)⟩)) <|
  P_all_cons (P_lnk_vi (P_vall (l := P_v195) rfl (P_all_cons (show P_vok _ _ _ 11 237 from ⟨_, rfl, rfl, w_1_13, w_7_215, (Or.inl ⟨P_sg 1 rfl, w_p_85, (Or.inl w_7_213)⟩)⟩) (P_all_nil)))) <|
  P_all_cons (P_lnk_st (by decide) (fun _ => ⟨P_sg 3 rfl, w_1_13, w_7_231, (Or.inl w_7_230)⟩)) <|
  P_all_cons (P_lnk_get (P_s1 (c := 11) (P := fun ci => P_fok P_cl P_Tb "OrchardQueryModel" 124 ci 9) rfl ⟨_, _, _, "OrchardQueryModel", rfl, by decide, (Or.inl rfl), (Or.inl w_6_101)⟩)) <|
  P_all_cons (P_lnk_nwa rfl w_1_56) <|
  P_all_cons (P_lnk_st (by decide) (fun _ => ⟨P_sg 3 rfl, w_1_13, w_7_234, (Or.inl w_7_233)⟩)) <|
  P_all_cons (P_lnk_get (P_s1 (c := 11) (P := fun ci => P_fok P_cl P_Tb "OrchardQueryModel" 143 ci 14) rfl ⟨_, _, _, "OrchardQueryModel", rfl, by decide, (Or.inl rfl), (Or.inl w_6_106)⟩)) <|
  P_all_cons (P_lnk_vi (P_vall (l := P_v205) rfl (P_all_cons (show P_vok _ _ _ 11 248 from ⟨_, rfl, rfl, w_1_13, w_7_238, (Or.inl ⟨P_sg 2 rfl, w_p_89, (Or.inl w_7_236)⟩)⟩) (P_all_nil)))) <|
  P_all_nil
set_option maxRecDepth 20000 in
theorem P_m247 : P_mst 247 7 (Option.some (Jvm.ClassFile.FieldType.array (Jvm.ClassFile.FieldType.array Jvm.ClassFile.FieldType.int))) P_e247 [] := P_meth (mx := 7) (rt := (Option.some (Jvm.ClassFile.FieldType.array (Jvm.ClassFile.FieldType.array Jvm.ClassFile.FieldType.int)))) (hs := []) "OrchardQueryModel" false prog_14_method_66_code [] rfl rfl rfl rfl (by decide +kernel) (by decide +kernel) (fun _ => P_g247) (by decide) (fun _ _ => by decide +kernel) (fun q => by cases q) (P_all_cons (by decide +kernel) <| P_all_cons (by decide +kernel) <| P_all_cons (by decide +kernel) <| P_all_cons (by decide +kernel) <| P_all_cons (by decide +kernel) <| P_all_cons (by decide +kernel) <| P_all_nil) P_l247 (by decide +kernel) P_k247 (fun _ _ => P_hok_nil)
/-- OrchardQueryModel.add([IZ)V -/
def P_l248 : List (Nat × P_I) := [(4, .getfield 124, 7, 11, 9, [], []), (11, .getfield 26, 14, 11, 10, [], []), (32, .getfield 29, 35, 11, 11, [], []), (46, .getfield 26, 49, 11, 10, [], []), (51, .invokevirtual 238, 54, 1, 195, [], []), (67, .getfield 26, 70, 11, 10, [], []), (72, .invokevirtual 238, 75, 1, 195, [], [])]
set_option maxRecDepth 20000 in
theorem P_k248 : ∀ q ∈ P_l248, P_lnk P_cl P_aty P_stat P_tx P_N0 P_Tb P_Y0 "OrchardQueryModel" false prog_14_method_67_code [] q.1 q.2.1 q.2.2.2.1 q.2.2.2.2.1 :=
  P_all_cons (P_lnk_get (P_s1 (c := 11) (P := fun ci => P_fok P_cl P_Tb "OrchardQueryModel" 124 ci 9) rfl ⟨_, _, _, "OrchardQueryModel", rfl, by decide, (Or.inl rfl), (Or.inl w_6_101)⟩)) <|
  P_all_cons (P_lnk_get (P_s1 (c := 11) (P := fun ci => P_fok P_cl P_Tb "OrchardQueryModel" 26 ci 10) rfl ⟨_, _, _, "OrchardQueryModel", rfl, by decide, (Or.inl rfl), (Or.inl w_6_102)⟩)) <|
  P_all_cons (P_lnk_get (P_s1 (c := 11) (P := fun ci => P_fok P_cl P_Tb "OrchardQueryModel" 29 ci 11) rfl ⟨_, _, _, "OrchardQueryModel", rfl, by decide, (Or.inl rfl), (Or.inl w_6_103)⟩)) <|
  P_all_cons (P_lnk_get (P_s1 (c := 11) (P := fun ci => P_fok P_cl P_Tb "OrchardQueryModel" 26 ci 10) rfl ⟨_, _, _, "OrchardQueryModel", rfl, by decide, (Or.inl rfl), (Or.inl w_6_102)⟩)) <|
  P_all_cons (P_lnk_vi (P_vall (l := P_v195) rfl (P_all_cons (show P_vok _ _ _ 11 237 from ⟨_, rfl, rfl, w_1_13, w_7_215, (Or.inl ⟨P_sg 1 rfl, w_p_85, (Or.inl w_7_213)⟩)⟩) (P_all_nil)))) <|
  P_all_cons (P_lnk_get (P_s1 (c := 11) (P := fun ci => P_fok P_cl P_Tb "OrchardQueryModel" 26 ci 10) rfl ⟨_, _, _, "OrchardQueryModel", rfl, by decide, (Or.inl rfl), (Or.inl w_6_102)⟩)) <|
  P_all_cons (P_lnk_vi (P_vall (l := P_v195) rfl (P_all_cons (show P_vok _ _ _ 11 237 from ⟨_, rfl, rfl, w_1_13, w_7_215, (Or.inl ⟨P_sg 1 rfl, w_p_85, (Or.inl w_7_213)⟩)⟩) (P_all_nil)))) <|
  P_all_nil
set_option maxRecDepth 20000 in
theorem P_m248 : P_mst 248 4 (Option.none : Option Jvm.ClassFile.FieldType) P_e248 [] := P_meth (mx := 4) (rt := (Option.none : Option Jvm.ClassFile.FieldType)) (hs := []) "OrchardQueryModel" false prog_14_method_67_code [] rfl rfl rfl rfl (by decide +kernel) (by decide +kernel) (fun _ => P_g248) (by decide) (fun _ _ => by decide +kernel) (fun q => by cases q) (P_all_cons (by decide +kernel) <| P_all_cons (by decide +kernel) <| P_all_cons (by decide +kernel) <| P_all_nil) P_l248 (by decide +kernel) P_k248 (fun _ _ => P_hok_nil)
/-- OrchardQueryModel.with([III)[I -/
def P_l249 : List (Nat × P_I) := [(4, .newarray .int, 6, 0, 0, [], [])]
set_option maxRecDepth 20000 in
theorem P_k249 : ∀ q ∈ P_l249, P_lnk P_cl P_aty P_stat P_tx P_N0 P_Tb P_Y0 "OrchardQueryModel" false prog_14_method_68_code [] q.1 q.2.1 q.2.2.2.1 q.2.2.2.2.1 :=
  P_all_cons (P_lnk_nwa rfl w_1_56) <|
  P_all_nil
set_option maxRecDepth 20000 in
theorem P_m249 : P_mst 249 4 (Option.some (Jvm.ClassFile.FieldType.array Jvm.ClassFile.FieldType.int)) P_e249 [] := P_meth (mx := 4) (rt := (Option.some (Jvm.ClassFile.FieldType.array Jvm.ClassFile.FieldType.int))) (hs := []) "OrchardQueryModel" false prog_14_method_68_code [] rfl rfl rfl rfl (by decide +kernel) (by decide +kernel) (fun _ => P_g249) (by decide) (fun _ _ => by decide +kernel) (fun q => by cases q) (P_all_cons (by decide +kernel) <| P_all_cons (by decide +kernel) <| P_all_nil) P_l249 (by decide +kernel) P_k249 (fun _ _ => P_hok_nil)
/-- OrchardQueryModel.with([[II[I)[[I -/
def P_l250 : List (Nat × P_I) := [(4, .anewarray 57, 7, 0, 200, [], [])]
set_option maxRecDepth 20000 in
theorem P_k250 : ∀ q ∈ P_l250, P_lnk P_cl P_aty P_stat P_tx P_N0 P_Tb P_Y0 "OrchardQueryModel" false prog_14_method_69_code [] q.1 q.2.1 q.2.2.2.1 q.2.2.2.2.1 :=
  P_all_cons (P_lnk_anr (t := .int) rfl w_6_90 w_6_91) <|
  P_all_nil
set_option maxRecDepth 20000 in
theorem P_m250 : P_mst 250 4 (Option.some (Jvm.ClassFile.FieldType.array (Jvm.ClassFile.FieldType.array Jvm.ClassFile.FieldType.int))) P_e250 [] := P_meth (mx := 4) (rt := (Option.some (Jvm.ClassFile.FieldType.array (Jvm.ClassFile.FieldType.array Jvm.ClassFile.FieldType.int)))) (hs := []) "OrchardQueryModel" false prog_14_method_69_code [] rfl rfl rfl rfl (by decide +kernel) (by decide +kernel) (fun _ => P_g250) (by decide) (fun _ _ => by decide +kernel) (fun q => by cases q) (P_all_cons (by decide +kernel) <| P_all_cons (by decide +kernel) <| P_all_nil) P_l250 (by decide +kernel) P_k250 (fun _ _ => P_hok_nil)
/-- OrchardQueryModel.sort([[I)V -/
def P_l251 : List (Nat × P_I) := [(27, .getfield 146, 30, 11, 15, [], []), (33, .getfield 146, 36, 11, 15, [], [])]
set_option maxRecDepth 20000 in
theorem P_k251 : ∀ q ∈ P_l251, P_lnk P_cl P_aty P_stat P_tx P_N0 P_Tb P_Y0 "OrchardQueryModel" false prog_14_method_70_code [] q.1 q.2.1 q.2.2.2.1 q.2.2.2.2.1 :=
  P_all_cons (P_lnk_get (P_s1 (c := 11) (P := fun ci => P_fok P_cl P_Tb "OrchardQueryModel" 146 ci 15) rfl ⟨_, _, _, "OrchardQueryModel", rfl, by decide, (Or.inl rfl), (Or.inl w_6_107)⟩)) <|
  P_all_cons (P_lnk_get (P_s1 (c := 11) (P := fun ci => P_fok P_cl P_Tb "OrchardQueryModel" 146 ci 15) rfl ⟨_, _, _, "OrchardQueryModel", rfl, by decide, (Or.inl rfl), (Or.inl w_6_107)⟩)) <|
  P_all_nil
set_option maxRecDepth 20000 in
theorem P_m251 : P_mst 251 5 (Option.none : Option Jvm.ClassFile.FieldType) P_e251 [] := P_meth (mx := 5) (rt := (Option.none : Option Jvm.ClassFile.FieldType)) (hs := []) "OrchardQueryModel" false prog_14_method_70_code [] rfl rfl rfl rfl (by decide +kernel) (by decide +kernel) (fun _ => P_g251) (by decide) (fun _ _ => by decide +kernel) (fun q => by cases q) (P_all_cons (by decide +kernel) <| P_all_cons (by decide +kernel) <| P_all_cons (by decide +kernel) <| P_all_nil) P_l251 (by decide +kernel) P_k251 (fun _ _ => P_hok_nil)
/-- OrchardQueryModel.keep()[I -/
def P_l252 : List (Nat × P_I) := [(2, .newarray .int, 4, 0, 0, [], []), (7, .getfield 250, 10, 11, 29, [], []), (14, .getfield 241, 17, 11, 30, [], []), (21, .getfield 247, 24, 11, 31, [], []), (36, .getfield 256, 39, 11, 32, [], []), (51, .getfield 54, 54, 11, 28, [], []), (60, .getfield 54, 63, 11, 28, [], []), (70, .getfield 54, 73, 11, 28, [], [])]
set_option maxRecDepth 20000 in
theorem P_k252 : ∀ q ∈ P_l252, P_lnk P_cl P_aty P_stat P_tx P_N0 P_Tb P_Y0 "OrchardQueryModel" false prog_14_method_71_code [] q.1 q.2.1 q.2.2.2.1 q.2.2.2.2.1 :=
  P_all_cons (P_lnk_nwa rfl w_1_56) <|
  P_all_cons (P_lnk_get (P_s1 (c := 11) (P := fun ci => P_fok P_cl P_Tb "OrchardQueryModel" 250 ci 29) rfl ⟨_, _, _, "OrchardQueryModel", rfl, by decide, (Or.inl rfl), (Or.inl w_6_121)⟩)) <|
  P_all_cons (P_lnk_get (P_s1 (c := 11) (P := fun ci => P_fok P_cl P_Tb "OrchardQueryModel" 241 ci 30) rfl ⟨_, _, _, "OrchardQueryModel", rfl, by decide, (Or.inl rfl), (Or.inl w_6_122)⟩)) <|
  P_all_cons (P_lnk_get (P_s1 (c := 11) (P := fun ci => P_fok P_cl P_Tb "OrchardQueryModel" 247 ci 31) rfl ⟨_, _, _, "OrchardQueryModel", rfl, by decide, (Or.inl rfl), (Or.inl w_6_123)⟩)) <|
  P_all_cons (P_lnk_get (P_s1 (c := 11) (P := fun ci => P_fok P_cl P_Tb "OrchardQueryModel" 256 ci 32) rfl ⟨_, _, _, "OrchardQueryModel", rfl, by decide, (Or.inl rfl), (Or.inl w_6_124)⟩)) <|
  P_all_cons (P_lnk_get (P_s1 (c := 11) (P := fun ci => P_fok P_cl P_Tb "OrchardQueryModel" 54 ci 28) rfl ⟨_, _, _, "OrchardQueryModel", rfl, by decide, (Or.inl rfl), (Or.inl w_6_120)⟩)) <|
  P_all_cons (P_lnk_get (P_s1 (c := 11) (P := fun ci => P_fok P_cl P_Tb "OrchardQueryModel" 54 ci 28) rfl ⟨_, _, _, "OrchardQueryModel", rfl, by decide, (Or.inl rfl), (Or.inl w_6_120)⟩)) <|
  P_all_cons (P_lnk_get (P_s1 (c := 11) (P := fun ci => P_fok P_cl P_Tb "OrchardQueryModel" 54 ci 28) rfl ⟨_, _, _, "OrchardQueryModel", rfl, by decide, (Or.inl rfl), (Or.inl w_6_120)⟩)) <|
  P_all_nil
set_option maxRecDepth 20000 in
theorem P_m252 : P_mst 252 2 (Option.some (Jvm.ClassFile.FieldType.array Jvm.ClassFile.FieldType.int)) P_e252 [] := P_meth (mx := 2) (rt := (Option.some (Jvm.ClassFile.FieldType.array Jvm.ClassFile.FieldType.int))) (hs := []) "OrchardQueryModel" false prog_14_method_71_code [] rfl rfl rfl rfl (by decide +kernel) (by decide +kernel) (fun _ => P_g252) (by decide) (fun _ _ => by decide +kernel) (fun q => by cases q) (P_all_cons (by decide +kernel) <| P_all_cons (by decide +kernel) <| P_all_cons (by decide +kernel) <| P_all_nil) P_l252 (by decide +kernel) P_k252 (fun _ _ => P_hok_nil)
/-- OrchardQueryModel.putBack([I)V -/
def P_l253 : List (Nat × P_I) := [(4, .putfield 250, 7, 11, 29, [], []), (11, .putfield 241, 14, 11, 30, [], []), (27, .putfield 247, 30, 11, 31, [], []), (43, .putfield 256, 46, 11, 32, [], []), (49, .getfield 54, 52, 11, 28, [], [])]
set_option maxRecDepth 20000 in
theorem P_k253 : ∀ q ∈ P_l253, P_lnk P_cl P_aty P_stat P_tx P_N0 P_Tb P_Y0 "OrchardQueryModel" false prog_14_method_72_code [] q.1 q.2.1 q.2.2.2.1 q.2.2.2.2.1 :=
  P_all_cons (P_lnk_put (P_s1 (c := 11) (P := fun ci => P_pok P_cl P_Tb "OrchardQueryModel" false 250 ci 29) rfl ⟨_, _, _, "OrchardQueryModel", rfl, by decide, (Or.inl rfl), (Or.inl ⟨w_6_121, (Or.inl rfl)⟩)⟩)) <|
  P_all_cons (P_lnk_put (P_s1 (c := 11) (P := fun ci => P_pok P_cl P_Tb "OrchardQueryModel" false 241 ci 30) rfl ⟨_, _, _, "OrchardQueryModel", rfl, by decide, (Or.inl rfl), (Or.inl ⟨w_6_122, (Or.inl rfl)⟩)⟩)) <|
  P_all_cons (P_lnk_put (P_s1 (c := 11) (P := fun ci => P_pok P_cl P_Tb "OrchardQueryModel" false 247 ci 31) rfl ⟨_, _, _, "OrchardQueryModel", rfl, by decide, (Or.inl rfl), (Or.inl ⟨w_6_123, (Or.inl rfl)⟩)⟩)) <|
  P_all_cons (P_lnk_put (P_s1 (c := 11) (P := fun ci => P_pok P_cl P_Tb "OrchardQueryModel" false 256 ci 32) rfl ⟨_, _, _, "OrchardQueryModel", rfl, by decide, (Or.inl rfl), (Or.inl ⟨w_6_124, (Or.inl rfl)⟩)⟩)) <|
  P_all_cons (P_lnk_get (P_s1 (c := 11) (P := fun ci => P_fok P_cl P_Tb "OrchardQueryModel" 54 ci 28) rfl ⟨_, _, _, "OrchardQueryModel", rfl, by decide, (Or.inl rfl), (Or.inl w_6_120)⟩)) <|
  P_all_nil
set_option maxRecDepth 20000 in
theorem P_m253 : P_mst 253 2 (Option.none : Option Jvm.ClassFile.FieldType) P_e253 [] := P_meth (mx := 2) (rt := (Option.none : Option Jvm.ClassFile.FieldType)) (hs := []) "OrchardQueryModel" false prog_14_method_72_code [] rfl rfl rfl rfl (by decide +kernel) (by decide +kernel) (fun _ => P_g253) (by decide) (fun _ _ => by decide +kernel) (fun q => by cases q) (P_all_cons (by decide +kernel) <| P_all_cons (by decide +kernel) <| P_all_nil) P_l253 (by decide +kernel) P_k253 (fun _ _ => P_hok_nil)
/-- OrchardQueryModel.allAside()[[I -/
def P_l254 : List (Nat × P_I) := [(1, .invokevirtual 302, 4, 0, 206, [], []), (6, .invokevirtual 305, 9, 0, 207, [], []), (12, .invokevirtual 308, 15, 1, 208, [], [])]
set_option maxRecDepth 20000 in
theorem P_k254 : ∀ q ∈ P_l254, P_lnk P_cl P_aty P_stat P_tx P_N0 P_Tb P_Y0 "OrchardQueryModel" false prog_14_method_73_code [] q.1 q.2.1 q.2.2.2.1 q.2.2.2.2.1 :=
  P_all_cons (P_lnk_vi (P_vall (l := P_v206) rfl (P_all_cons (show P_vok _ _ _ 11 252 from ⟨_, rfl, rfl, w_1_13, w_8_34, (Or.inl ⟨P_sg 0 rfl, w_p_94, (Or.inl w_8_32)⟩)⟩) (P_all_nil)))) <|
  P_all_cons (P_lnk_vi (P_vall (l := P_v207) rfl (P_all_cons (show P_vok _ _ _ 11 244 from ⟨_, rfl, rfl, w_1_13, w_7_223, (Or.inl ⟨P_sg 0 rfl, w_p_87, (Or.inl w_7_221)⟩)⟩) (P_all_nil)))) <|
  P_all_cons (P_lnk_vi (P_vall (l := P_v208) rfl (P_all_cons (show P_vok _ _ _ 11 253 from ⟨_, rfl, rfl, w_1_13, w_8_38, (Or.inl ⟨P_sg 1 rfl, w_p_95, (Or.inl w_8_36)⟩)⟩) (P_all_nil)))) <|
  P_all_nil
set_option maxRecDepth 20000 in
theorem P_m254 : P_mst 254 3 (Option.some (Jvm.ClassFile.FieldType.array (Jvm.ClassFile.FieldType.array Jvm.ClassFile.FieldType.int))) P_e254 [] := P_meth (mx := 3) (rt := (Option.some (Jvm.ClassFile.FieldType.array (Jvm.ClassFile.FieldType.array Jvm.ClassFile.FieldType.int)))) (hs := []) "OrchardQueryModel" false prog_14_method_73_code [] rfl rfl rfl rfl (by decide +kernel) (by decide +kernel) (fun _ => P_g254) (by decide) (fun _ _ => by decide +kernel) (fun q => by cases q) (P_all_cons (by decide +kernel) <| P_all_nil) P_l254 (by decide +kernel) P_k254 (fun _ _ => P_hok_nil)
/-- OrchardQueryModel.open()I -/
def P_l255 : List (Nat × P_I) := [(2, .putfield 62, 5, 11, 0, [], []), (6, .getfield 107, 9, 11, 7, [], []), (14, .invokevirtual 72, 17, 1, 162, [], []), (20, .putfield 76, 23, 11, 24, [], []), (25, .putfield 80, 28, 11, 25, [], []), (30, .putfield 312, 33, 11, 26, [], []), (34, .invokevirtual 259, 37, 0, 198, [], []), (38, .getfield 124, 41, 11, 9, [], [])]
set_option maxRecDepth 20000 in
theorem P_k255 : ∀ q ∈ P_l255, P_lnk P_cl P_aty P_stat P_tx P_N0 P_Tb P_Y0 "OrchardQueryModel" false prog_14_method_74_code [] q.1 q.2.1 q.2.2.2.1 q.2.2.2.2.1 :=
  P_all_cons (P_lnk_put (P_s1 (c := 11) (P := fun ci => P_pok P_cl P_Tb "OrchardQueryModel" false 62 ci 0) rfl ⟨_, _, _, "OrchardQueryModel", rfl, by decide, (Or.inl rfl), (Or.inl ⟨w_6_92, (Or.inl rfl)⟩)⟩)) <|
  P_all_cons (P_lnk_get (P_s1 (c := 11) (P := fun ci => P_fok P_cl P_Tb "OrchardQueryModel" 107 ci 7) rfl ⟨_, _, _, "OrchardQueryModel", rfl, by decide, (Or.inl rfl), (Or.inl w_6_99)⟩)) <|
  P_all_cons (P_lnk_vi (P_vall (l := P_v162) rfl (P_all_cons (show P_vok _ _ _ 11 184 from ⟨_, rfl, rfl, w_1_13, w_6_212, (Or.inl ⟨P_sg 1 rfl, w_p_45, (Or.inl w_6_210)⟩)⟩) (P_all_nil)))) <|
  P_all_cons (P_lnk_put (P_s1 (c := 11) (P := fun ci => P_pok P_cl P_Tb "OrchardQueryModel" false 76 ci 24) rfl ⟨_, _, _, "OrchardQueryModel", rfl, by decide, (Or.inl rfl), (Or.inl ⟨w_6_116, (Or.inl rfl)⟩)⟩)) <|
  P_all_cons (P_lnk_put (P_s1 (c := 11) (P := fun ci => P_pok P_cl P_Tb "OrchardQueryModel" false 80 ci 25) rfl ⟨_, _, _, "OrchardQueryModel", rfl, by decide, (Or.inl rfl), (Or.inl ⟨w_6_117, (Or.inl rfl)⟩)⟩)) <|
  P_all_cons (P_lnk_put (P_s1 (c := 11) (P := fun ci => P_pok P_cl P_Tb "OrchardQueryModel" false 312 ci 26) rfl ⟨_, _, _, "OrchardQueryModel", rfl, by decide, (Or.inl rfl), (Or.inl ⟨w_6_118, (Or.inl rfl)⟩)⟩)) <|
  P_all_cons (P_lnk_vi (P_vall (l := P_v198) rfl (P_all_cons (show P_vok _ _ _ 11 241 from ⟨_, rfl, rfl, w_1_13, w_7_183, (Or.inl ⟨P_sg 0 rfl, w_p_78, (Or.inl w_7_181)⟩)⟩) (P_all_nil)))) <|
  P_all_cons (P_lnk_get (P_s1 (c := 11) (P := fun ci => P_fok P_cl P_Tb "OrchardQueryModel" 124 ci 9) rfl ⟨_, _, _, "OrchardQueryModel", rfl, by decide, (Or.inl rfl), (Or.inl w_6_101)⟩)) <|
  P_all_nil
set_option maxRecDepth 20000 in
theorem P_m255 : P_mst 255 1 (Option.some Jvm.ClassFile.FieldType.int) P_e255 [] := P_meth (mx := 1) (rt := (Option.some Jvm.ClassFile.FieldType.int)) (hs := []) "OrchardQueryModel" false prog_14_method_74_code [] rfl rfl rfl rfl (by decide +kernel) (by decide +kernel) (fun _ => P_g255) (by decide) (fun _ _ => by decide +kernel) (fun q => by cases q) (P_all_cons (by decide +kernel) <| P_all_cons (by decide +kernel) <| P_all_nil) P_l255 (by decide +kernel) P_k255 (fun _ _ => P_hok_nil)
/-- OrchardQueryModel.isAtOnce()Z -/
def P_l256 : List (Nat × P_I) := [(1, .invokevirtual 262, 4, 0, 199, [], []), (8, .getfield 146, 11, 11, 15, [], [])]
set_option maxRecDepth 20000 in
theorem P_k256 : ∀ q ∈ P_l256, P_lnk P_cl P_aty P_stat P_tx P_N0 P_Tb P_Y0 "OrchardQueryModel" false prog_14_method_75_code [] q.1 q.2.1 q.2.2.2.1 q.2.2.2.2.1 :=
  P_all_cons (P_lnk_vi (P_vall (l := P_v199) rfl (P_all_cons (show P_vok _ _ _ 11 242 from ⟨_, rfl, rfl, w_1_13, w_7_199, (Or.inl ⟨P_sg 0 rfl, w_p_81, (Or.inl w_7_197)⟩)⟩) (P_all_nil)))) <|
  P_all_cons (P_lnk_get (P_s1 (c := 11) (P := fun ci => P_fok P_cl P_Tb "OrchardQueryModel" 146 ci 15) rfl ⟨_, _, _, "OrchardQueryModel", rfl, by decide, (Or.inl rfl), (Or.inl w_6_107)⟩)) <|
  P_all_nil
set_option maxRecDepth 20000 in
theorem P_m256 : P_mst 256 1 (Option.some Jvm.ClassFile.FieldType.boolean) P_e256 [] := P_meth (mx := 1) (rt := (Option.some Jvm.ClassFile.FieldType.boolean)) (hs := []) "OrchardQueryModel" false prog_14_method_75_code [] rfl rfl rfl rfl (by decide +kernel) (by decide +kernel) (fun _ => P_g256) (by decide) (fun _ _ => by decide +kernel) (fun q => by cases q) (P_all_cons (by decide +kernel) <| P_all_nil) P_l256 (by decide +kernel) P_k256 (fun _ _ => P_hok_nil)
/-- OrchardQueryModel.pull()Z -/
def P_l257 : List (Nat × P_I) := [(1, .getfield 149, 4, 11, 16, [], []), (9, .getfield 312, 12, 11, 26, [], []), (13, .getfield 149, 16, 11, 16, [], []), (22, .invokevirtual 315, 25, 0, 209, [], []), (29, .getfield 173, 32, 11, 23, [], []), (36, .getfield 256, 39, 11, 32, [], []), (44, .invokevirtual 283, 47, 1, 203, [], []), (54, .invokevirtual 286, 57, 0, 204, [], []), (57, .putfield 51, 60, 11, 27, [], []), (63, .getfield 247, 66, 11, 31, [], []), (71, .invokevirtual 305, 74, 0, 207, [], []), (74, .putfield 58, 77, 11, 34, [], []), (79, .putfield 247, 82, 11, 31, [], []), (83, .getfield 312, 86, 11, 26, [], []), (87, .getfield 58, 90, 11, 34, [], []), (98, .getfield 58, 101, 11, 34, [], []), (102, .getfield 312, 105, 11, 26, [], []), (106, .putfield 51, 109, 11, 27, [], [])]
set_option maxRecDepth 20000 in
theorem P_k257 : ∀ q ∈ P_l257, P_lnk P_cl P_aty P_stat P_tx P_N0 P_Tb P_Y0 "OrchardQueryModel" false prog_14_method_76_code [] q.1 q.2.1 q.2.2.2.1 q.2.2.2.2.1 :=
  P_all_cons (P_lnk_get (P_s1 (c := 11) (P := fun ci => P_fok P_cl P_Tb "OrchardQueryModel" 149 ci 16) rfl ⟨_, _, _, "OrchardQueryModel", rfl, by decide, (Or.inl rfl), (Or.inl w_6_108)⟩)) <|
  P_all_cons (P_lnk_get (P_s1 (c := 11) (P := fun ci => P_fok P_cl P_Tb "OrchardQueryModel" 312 ci 26) rfl ⟨_, _, _, "OrchardQueryModel", rfl, by decide, (Or.inl rfl), (Or.inl w_6_118)⟩)) <|
  P_all_cons (P_lnk_get (P_s1 (c := 11) (P := fun ci => P_fok P_cl P_Tb "OrchardQueryModel" 149 ci 16) rfl ⟨_, _, _, "OrchardQueryModel", rfl, by decide, (Or.inl rfl), (Or.inl w_6_108)⟩)) <|
  P_all_cons (P_lnk_vi (P_vall (l := P_v209) rfl (P_all_cons (show P_vok _ _ _ 11 256 from ⟨_, rfl, rfl, w_1_13, w_7_195, (Or.inl ⟨P_sg 0 rfl, w_p_80, (Or.inl w_7_193)⟩)⟩) (P_all_nil)))) <|
  P_all_cons (P_lnk_get (P_s1 (c := 11) (P := fun ci => P_fok P_cl P_Tb "OrchardQueryModel" 173 ci 23) rfl ⟨_, _, _, "OrchardQueryModel", rfl, by decide, (Or.inl rfl), (Or.inl w_6_115)⟩)) <|
  P_all_cons (P_lnk_get (P_s1 (c := 11) (P := fun ci => P_fok P_cl P_Tb "OrchardQueryModel" 256 ci 32) rfl ⟨_, _, _, "OrchardQueryModel", rfl, by decide, (Or.inl rfl), (Or.inl w_6_124)⟩)) <|
  P_all_cons (P_lnk_vi (P_vall (l := P_v203) rfl (P_all_cons (show P_vok _ _ _ 11 240 from ⟨_, rfl, rfl, w_1_13, w_7_203, (Or.inl ⟨P_sg 1 rfl, w_p_82, (Or.inl w_7_201)⟩)⟩) (P_all_nil)))) <|
  P_all_cons (P_lnk_vi (P_vall (l := P_v204) rfl (P_all_cons (show P_vok _ _ _ 11 243 from ⟨_, rfl, rfl, w_1_13, w_7_219, (Or.inl ⟨P_sg 0 rfl, w_p_86, (Or.inl w_7_217)⟩)⟩) (P_all_nil)))) <|
  P_all_cons (P_lnk_put (P_s1 (c := 11) (P := fun ci => P_pok P_cl P_Tb "OrchardQueryModel" false 51 ci 27) rfl ⟨_, _, _, "OrchardQueryModel", rfl, by decide, (Or.inl rfl), (Or.inl ⟨w_6_119, (Or.inl rfl)⟩)⟩)) <|
  P_all_cons (P_lnk_get (P_s1 (c := 11) (P := fun ci => P_fok P_cl P_Tb "OrchardQueryModel" 247 ci 31) rfl ⟨_, _, _, "OrchardQueryModel", rfl, by decide, (Or.inl rfl), (Or.inl w_6_123)⟩)) <|
  P_all_cons (P_lnk_vi (P_vall (l := P_v207) rfl (P_all_cons (show P_vok _ _ _ 11 244 from ⟨_, rfl, rfl, w_1_13, w_7_223, (Or.inl ⟨P_sg 0 rfl, w_p_87, (Or.inl w_7_221)⟩)⟩) (P_all_nil)))) <|
  P_all_cons (P_lnk_put (P_s1 (c := 11) (P := fun ci => P_pok P_cl P_Tb "OrchardQueryModel" false 58 ci 34) rfl ⟨_, _, _, "OrchardQueryModel", rfl, by decide, (Or.inl rfl), (Or.inl ⟨w_6_126, (Or.inl rfl)⟩)⟩)) <|
  P_all_cons (P_lnk_put (P_s1 (c := 11) (P := fun ci => P_pok P_cl P_Tb "OrchardQueryModel" false 247 ci 31) rfl ⟨_, _, _, "OrchardQueryModel", rfl, by decide, (Or.inl rfl), (Or.inl ⟨w_6_123, (Or.inl rfl)⟩)⟩)) <|
  P_all_cons (P_lnk_get (P_s1 (c := 11) (P := fun ci => P_fok P_cl P_Tb "OrchardQueryModel" 312 ci 26) rfl ⟨_, _, _, "OrchardQueryModel", rfl, by decide, (Or.inl rfl), (Or.inl w_6_118)⟩)) <|
  P_all_cons (P_lnk_get (P_s1 (c := 11) (P := fun ci => P_fok P_cl P_Tb "OrchardQueryModel" 58 ci 34) rfl ⟨_, _, _, "OrchardQueryModel", rfl, by decide, (Or.inl rfl), (Or.inl w_6_126)⟩)) <|
  P_all_cons (P_lnk_get (P_s1 (c := 11) (P := fun ci => P_fok P_cl P_Tb "OrchardQueryModel" 58 ci 34) rfl ⟨_, _, _, "OrchardQueryModel", rfl, by decide, (Or.inl rfl), (Or.inl w_6_126)⟩)) <|
  P_all_cons (P_lnk_get (P_s1 (c := 11) (P := fun ci => P_fok P_cl P_Tb "OrchardQueryModel" 312 ci 26) rfl ⟨_, _, _, "OrchardQueryModel", rfl, by decide, (Or.inl rfl), (Or.inl w_6_118)⟩)) <|
  P_all_cons (P_lnk_put (P_s1 (c := 11) (P := fun ci => P_pok P_cl P_Tb "OrchardQueryModel" false 51 ci 27) rfl ⟨_, _, _, "OrchardQueryModel", rfl, by decide, (Or.inl rfl), (Or.inl ⟨w_6_119, (Or.inl rfl)⟩)⟩)) <|
  P_all_nil
set_option maxRecDepth 20000 in
theorem P_m257 : P_mst 257 1 (Option.some Jvm.ClassFile.FieldType.boolean) P_e257 [] := P_meth (mx := 1) (rt := (Option.some Jvm.ClassFile.FieldType.boolean)) (hs := []) "OrchardQueryModel" false prog_14_method_76_code [] rfl rfl rfl rfl (by decide +kernel) (by decide +kernel) (fun _ => P_g257) (by decide) (fun _ _ => by decide +kernel) (fun q => by cases q) (P_all_cons (by decide +kernel) <| P_all_cons (by decide +kernel) <| P_all_cons (by decide +kernel) <| P_all_cons (by decide +kernel) <| P_all_nil) P_l257 (by decide +kernel) P_k257 (fun _ _ => P_hok_nil)
/-- OrchardQueryModel.next()Z -/
def P_l258 : List (Nat × P_I) := [(2, .getfield 107, 5, 11, 7, [], []), (9, .getfield 76, 12, 11, 24, [], []), (20, .putfield 62, 23, 11, 0, [], []), (24, .getfield 62, 27, 11, 0, [], []), (31, .invokevirtual 318, 34, 0, 210, [], []), (41, .putfield 80, 44, 11, 25, [], []), (46, .getfield 312, 49, 11, 26, [], []), (51, .putfield 312, 54, 11, 26, [], [])]
set_option maxRecDepth 20000 in
theorem P_k258 : ∀ q ∈ P_l258, P_lnk P_cl P_aty P_stat P_tx P_N0 P_Tb P_Y0 "OrchardQueryModel" false prog_14_method_77_code [] q.1 q.2.1 q.2.2.2.1 q.2.2.2.2.1 :=
  P_all_cons (P_lnk_get (P_s1 (c := 11) (P := fun ci => P_fok P_cl P_Tb "OrchardQueryModel" 107 ci 7) rfl ⟨_, _, _, "OrchardQueryModel", rfl, by decide, (Or.inl rfl), (Or.inl w_6_99)⟩)) <|
  P_all_cons (P_lnk_get (P_s1 (c := 11) (P := fun ci => P_fok P_cl P_Tb "OrchardQueryModel" 76 ci 24) rfl ⟨_, _, _, "OrchardQueryModel", rfl, by decide, (Or.inl rfl), (Or.inl w_6_116)⟩)) <|
  P_all_cons (P_lnk_put (P_s1 (c := 11) (P := fun ci => P_pok P_cl P_Tb "OrchardQueryModel" false 62 ci 0) rfl ⟨_, _, _, "OrchardQueryModel", rfl, by decide, (Or.inl rfl), (Or.inl ⟨w_6_92, (Or.inl rfl)⟩)⟩)) <|
  P_all_cons (P_lnk_get (P_s1 (c := 11) (P := fun ci => P_fok P_cl P_Tb "OrchardQueryModel" 62 ci 0) rfl ⟨_, _, _, "OrchardQueryModel", rfl, by decide, (Or.inl rfl), (Or.inl w_6_92)⟩)) <|
  P_all_cons (P_lnk_vi (P_vall (l := P_v210) rfl (P_all_cons (show P_vok _ _ _ 11 257 from ⟨_, rfl, rfl, w_1_13, w_7_191, (Or.inl ⟨P_sg 0 rfl, w_p_79, (Or.inl w_7_189)⟩)⟩) (P_all_nil)))) <|
  P_all_cons (P_lnk_put (P_s1 (c := 11) (P := fun ci => P_pok P_cl P_Tb "OrchardQueryModel" false 80 ci 25) rfl ⟨_, _, _, "OrchardQueryModel", rfl, by decide, (Or.inl rfl), (Or.inl ⟨w_6_117, (Or.inl rfl)⟩)⟩)) <|
  P_all_cons (P_lnk_get (P_s1 (c := 11) (P := fun ci => P_fok P_cl P_Tb "OrchardQueryModel" 312 ci 26) rfl ⟨_, _, _, "OrchardQueryModel", rfl, by decide, (Or.inl rfl), (Or.inl w_6_118)⟩)) <|
  P_all_cons (P_lnk_put (P_s1 (c := 11) (P := fun ci => P_pok P_cl P_Tb "OrchardQueryModel" false 312 ci 26) rfl ⟨_, _, _, "OrchardQueryModel", rfl, by decide, (Or.inl rfl), (Or.inl ⟨w_6_118, (Or.inl rfl)⟩)⟩)) <|
  P_all_nil
set_option maxRecDepth 20000 in
theorem P_m258 : P_mst 258 1 (Option.some Jvm.ClassFile.FieldType.boolean) P_e258 [] := P_meth (mx := 1) (rt := (Option.some Jvm.ClassFile.FieldType.boolean)) (hs := []) "OrchardQueryModel" false prog_14_method_77_code [] rfl rfl rfl rfl (by decide +kernel) (by decide +kernel) (fun _ => P_g258) (by decide) (fun _ _ => by decide +kernel) (fun q => by cases q) (P_all_cons (by decide +kernel) <| P_all_cons (by decide +kernel) <| P_all_nil) P_l258 (by decide +kernel) P_k258 (fun _ _ => P_hok_nil)
/-- OrchardQueryModel.value(I)I -/
def P_l259 : List (Nat × P_I) := [(2, .putfield 62, 5, 11, 0, [], []), (6, .getfield 107, 9, 11, 7, [], []), (13, .getfield 76, 16, 11, 24, [], []), (20, .getfield 80, 23, 11, 25, [], []), (28, .invokevirtual 72, 31, 1, 162, [], []), (35, .getfield 124, 38, 11, 9, [], []), (40, .invokestatic 68, 43, 3, 186, [], []), (47, .getfield 51, 50, 11, 27, [], []), (57, .invokevirtual 72, 60, 1, 162, [], [])]
set_option maxRecDepth 20000 in
theorem P_k259 : ∀ q ∈ P_l259, P_lnk P_cl P_aty P_stat P_tx P_N0 P_Tb P_Y0 "OrchardQueryModel" false prog_14_method_78_code [] q.1 q.2.1 q.2.2.2.1 q.2.2.2.2.1 :=
  P_all_cons (P_lnk_put (P_s1 (c := 11) (P := fun ci => P_pok P_cl P_Tb "OrchardQueryModel" false 62 ci 0) rfl ⟨_, _, _, "OrchardQueryModel", rfl, by decide, (Or.inl rfl), (Or.inl ⟨w_6_92, (Or.inl rfl)⟩)⟩)) <|
  P_all_cons (P_lnk_get (P_s1 (c := 11) (P := fun ci => P_fok P_cl P_Tb "OrchardQueryModel" 107 ci 7) rfl ⟨_, _, _, "OrchardQueryModel", rfl, by decide, (Or.inl rfl), (Or.inl w_6_99)⟩)) <|
  P_all_cons (P_lnk_get (P_s1 (c := 11) (P := fun ci => P_fok P_cl P_Tb "OrchardQueryModel" 76 ci 24) rfl ⟨_, _, _, "OrchardQueryModel", rfl, by decide, (Or.inl rfl), (Or.inl w_6_116)⟩)) <|
  P_all_cons (P_lnk_get (P_s1 (c := 11) (P := fun ci => P_fok P_cl P_Tb "OrchardQueryModel" 80 ci 25) rfl ⟨_, _, _, "OrchardQueryModel", rfl, by decide, (Or.inl rfl), (Or.inl w_6_117)⟩)) <|
  P_all_cons (P_lnk_vi (P_vall (l := P_v162) rfl (P_all_cons (show P_vok _ _ _ 11 184 from ⟨_, rfl, rfl, w_1_13, w_6_212, (Or.inl ⟨P_sg 1 rfl, w_p_45, (Or.inl w_6_210)⟩)⟩) (P_all_nil)))) <|
  P_all_cons (P_lnk_get (P_s1 (c := 11) (P := fun ci => P_fok P_cl P_Tb "OrchardQueryModel" 124 ci 9) rfl ⟨_, _, _, "OrchardQueryModel", rfl, by decide, (Or.inl rfl), (Or.inl w_6_101)⟩)) <|
  P_all_cons (P_lnk_st (by decide) (fun _ => ⟨P_sg 3 rfl, w_1_13, w_6_208, (Or.inl w_6_207)⟩)) <|
  P_all_cons (P_lnk_get (P_s1 (c := 11) (P := fun ci => P_fok P_cl P_Tb "OrchardQueryModel" 51 ci 27) rfl ⟨_, _, _, "OrchardQueryModel", rfl, by decide, (Or.inl rfl), (Or.inl w_6_119)⟩)) <|
  P_all_cons (P_lnk_vi (P_vall (l := P_v162) rfl (P_all_cons (show P_vok _ _ _ 11 184 from ⟨_, rfl, rfl, w_1_13, w_6_212, (Or.inl ⟨P_sg 1 rfl, w_p_45, (Or.inl w_6_210)⟩)⟩) (P_all_nil)))) <|
  P_all_nil
set_option maxRecDepth 20000 in
theorem P_m259 : P_mst 259 2 (Option.some Jvm.ClassFile.FieldType.int) P_e259 [] := P_meth (mx := 2) (rt := (Option.some Jvm.ClassFile.FieldType.int)) (hs := []) "OrchardQueryModel" false prog_14_method_78_code [] rfl rfl rfl rfl (by decide +kernel) (by decide +kernel) (fun _ => P_g259) (by decide) (fun _ _ => by decide +kernel) (fun q => by cases q) (P_all_cons (by decide +kernel) <| P_all_cons (by decide +kernel) <| P_all_nil) P_l259 (by decide +kernel) P_k259 (fun _ _ => P_hok_nil)
/-- OrchardQueryModel.doneNow(I)I -/
def P_l260 : List (Nat × P_I) := [(1, .getfield 76, 4, 11, 24, [], []), (16, .getfield 250, 19, 11, 29, [], []), (28, .getfield 241, 31, 11, 30, [], []), (35, .getfield 312, 38, 11, 26, [], [])]
set_option maxRecDepth 20000 in
theorem P_k260 : ∀ q ∈ P_l260, P_lnk P_cl P_aty P_stat P_tx P_N0 P_Tb P_Y0 "OrchardQueryModel" false prog_14_method_79_code [] q.1 q.2.1 q.2.2.2.1 q.2.2.2.2.1 :=
  P_all_cons (P_lnk_get (P_s1 (c := 11) (P := fun ci => P_fok P_cl P_Tb "OrchardQueryModel" 76 ci 24) rfl ⟨_, _, _, "OrchardQueryModel", rfl, by decide, (Or.inl rfl), (Or.inl w_6_116)⟩)) <|
  P_all_cons (P_lnk_get (P_s1 (c := 11) (P := fun ci => P_fok P_cl P_Tb "OrchardQueryModel" 250 ci 29) rfl ⟨_, _, _, "OrchardQueryModel", rfl, by decide, (Or.inl rfl), (Or.inl w_6_121)⟩)) <|
  P_all_cons (P_lnk_get (P_s1 (c := 11) (P := fun ci => P_fok P_cl P_Tb "OrchardQueryModel" 241 ci 30) rfl ⟨_, _, _, "OrchardQueryModel", rfl, by decide, (Or.inl rfl), (Or.inl w_6_122)⟩)) <|
  P_all_cons (P_lnk_get (P_s1 (c := 11) (P := fun ci => P_fok P_cl P_Tb "OrchardQueryModel" 312 ci 26) rfl ⟨_, _, _, "OrchardQueryModel", rfl, by decide, (Or.inl rfl), (Or.inl w_6_118)⟩)) <|
  P_all_nil
set_option maxRecDepth 20000 in
theorem P_m260 : P_mst 260 2 (Option.some Jvm.ClassFile.FieldType.int) P_e260 [] := P_meth (mx := 2) (rt := (Option.some Jvm.ClassFile.FieldType.int)) (hs := []) "OrchardQueryModel" false prog_14_method_79_code [] rfl rfl rfl rfl (by decide +kernel) (by decide +kernel) (fun _ => P_g260) (by decide) (fun _ _ => by decide +kernel) (fun q => by cases q) (P_all_cons (by decide +kernel) <| P_all_cons (by decide +kernel) <| P_all_nil) P_l260 (by decide +kernel) P_k260 (fun _ _ => P_hok_nil)
/-- OrchardQueryModel.done(I)I -/
def P_l261 : List (Nat × P_I) := [(2, .putfield 62, 5, 11, 0, [], []), (6, .getfield 107, 9, 11, 7, [], []), (14, .invokevirtual 72, 17, 1, 162, [], []), (21, .invokestatic 68, 24, 3, 186, [], []), (29, .invokevirtual 321, 32, 1, 211, [], []), (37, .invokevirtual 72, 40, 1, 162, [], [])]
set_option maxRecDepth 20000 in
theorem P_k261 : ∀ q ∈ P_l261, P_lnk P_cl P_aty P_stat P_tx P_N0 P_Tb P_Y0 "OrchardQueryModel" false prog_14_method_80_code [] q.1 q.2.1 q.2.2.2.1 q.2.2.2.2.1 :=
  P_all_cons (P_lnk_put (P_s1 (c := 11) (P := fun ci => P_pok P_cl P_Tb "OrchardQueryModel" false 62 ci 0) rfl ⟨_, _, _, "OrchardQueryModel", rfl, by decide, (Or.inl rfl), (Or.inl ⟨w_6_92, (Or.inl rfl)⟩)⟩)) <|
  P_all_cons (P_lnk_get (P_s1 (c := 11) (P := fun ci => P_fok P_cl P_Tb "OrchardQueryModel" 107 ci 7) rfl ⟨_, _, _, "OrchardQueryModel", rfl, by decide, (Or.inl rfl), (Or.inl w_6_99)⟩)) <|
  P_all_cons (P_lnk_vi (P_vall (l := P_v162) rfl (P_all_cons (show P_vok _ _ _ 11 184 from ⟨_, rfl, rfl, w_1_13, w_6_212, (Or.inl ⟨P_sg 1 rfl, w_p_45, (Or.inl w_6_210)⟩)⟩) (P_all_nil)))) <|
  P_all_cons (P_lnk_st (by decide) (fun _ => ⟨P_sg 3 rfl, w_1_13, w_6_208, (Or.inl w_6_207)⟩)) <|
  P_all_cons (P_lnk_vi (P_vall (l := P_v211) rfl (P_all_cons (show P_vok _ _ _ 11 260 from ⟨_, rfl, rfl, w_1_13, w_8_22, (Or.inl ⟨P_sg 1 rfl, w_p_92, (Or.inl w_8_20)⟩)⟩) (P_all_nil)))) <|
  P_all_cons (P_lnk_vi (P_vall (l := P_v162) rfl (P_all_cons (show P_vok _ _ _ 11 184 from ⟨_, rfl, rfl, w_1_13, w_6_212, (Or.inl ⟨P_sg 1 rfl, w_p_45, (Or.inl w_6_210)⟩)⟩) (P_all_nil)))) <|
  P_all_nil
set_option maxRecDepth 20000 in
theorem P_m261 : P_mst 261 2 (Option.some Jvm.ClassFile.FieldType.int) P_e261 [] := P_meth (mx := 2) (rt := (Option.some Jvm.ClassFile.FieldType.int)) (hs := []) "OrchardQueryModel" false prog_14_method_80_code [] rfl rfl rfl rfl (by decide +kernel) (by decide +kernel) (fun _ => P_g261) (by decide) (fun _ _ => by decide +kernel) (fun q => by cases q) (P_all_cons (by decide +kernel) <| P_all_cons (by decide +kernel) <| P_all_nil) P_l261 (by decide +kernel) P_k261 (fun _ _ => P_hok_nil)
/-- OrchardQueryModel.results()I -/
def P_l262 : List (Nat × P_I) := [(2, .putfield 62, 5, 11, 0, [], []), (6, .getfield 107, 9, 11, 7, [], []), (13, .invokevirtual 324, 16, 0, 212, [], []), (22, .invokevirtual 72, 25, 1, 162, [], [])]
set_option maxRecDepth 20000 in
theorem P_k262 : ∀ q ∈ P_l262, P_lnk P_cl P_aty P_stat P_tx P_N0 P_Tb P_Y0 "OrchardQueryModel" false prog_14_method_81_code [] q.1 q.2.1 q.2.2.2.1 q.2.2.2.2.1 :=
  P_all_cons (P_lnk_put (P_s1 (c := 11) (P := fun ci => P_pok P_cl P_Tb "OrchardQueryModel" false 62 ci 0) rfl ⟨_, _, _, "OrchardQueryModel", rfl, by decide, (Or.inl rfl), (Or.inl ⟨w_6_92, (Or.inl rfl)⟩)⟩)) <|
  P_all_cons (P_lnk_get (P_s1 (c := 11) (P := fun ci => P_fok P_cl P_Tb "OrchardQueryModel" 107 ci 7) rfl ⟨_, _, _, "OrchardQueryModel", rfl, by decide, (Or.inl rfl), (Or.inl w_6_99)⟩)) <|
  P_all_cons (P_lnk_vi (P_vall (l := P_v212) rfl (P_all_cons (show P_vok _ _ _ 11 254 from ⟨_, rfl, rfl, w_1_13, w_8_30, (Or.inl ⟨P_sg 0 rfl, w_p_93, (Or.inl w_8_28)⟩)⟩) (P_all_nil)))) <|
  P_all_cons (P_lnk_vi (P_vall (l := P_v162) rfl (P_all_cons (show P_vok _ _ _ 11 184 from ⟨_, rfl, rfl, w_1_13, w_6_212, (Or.inl ⟨P_sg 1 rfl, w_p_45, (Or.inl w_6_210)⟩)⟩) (P_all_nil)))) <|
  P_all_nil
set_option maxRecDepth 20000 in
theorem P_m262 : P_mst 262 1 (Option.some Jvm.ClassFile.FieldType.int) P_e262 [] := P_meth (mx := 1) (rt := (Option.some Jvm.ClassFile.FieldType.int)) (hs := []) "OrchardQueryModel" false prog_14_method_81_code [] rfl rfl rfl rfl (by decide +kernel) (by decide +kernel) (fun _ => P_g262) (by decide) (fun _ _ => by decide +kernel) (fun q => by cases q) (P_all_cons (by decide +kernel) <| P_all_nil) P_l262 (by decide +kernel) P_k262 (fun _ _ => P_hok_nil)
/-- OrchardQueryModel.result(II)I -/
def P_l263 : List (Nat × P_I) := [(2, .putfield 62, 5, 11, 0, [], []), (6, .getfield 107, 9, 11, 7, [], []), (14, .invokevirtual 72, 17, 1, 162, [], []), (19, .invokevirtual 324, 22, 0, 212, [], []), (29, .invokestatic 68, 32, 3, 186, [], []), (38, .getfield 124, 41, 11, 9, [], []), (43, .invokestatic 68, 46, 3, 186, [], []), (59, .invokevirtual 72, 62, 1, 162, [], [])]
set_option maxRecDepth 20000 in
theorem P_k263 : ∀ q ∈ P_l263, P_lnk P_cl P_aty P_stat P_tx P_N0 P_Tb P_Y0 "OrchardQueryModel" false prog_14_method_82_code [] q.1 q.2.1 q.2.2.2.1 q.2.2.2.2.1 :=
  P_all_cons (P_lnk_put (P_s1 (c := 11) (P := fun ci => P_pok P_cl P_Tb "OrchardQueryModel" false 62 ci 0) rfl ⟨_, _, _, "OrchardQueryModel", rfl, by decide, (Or.inl rfl), (Or.inl ⟨w_6_92, (Or.inl rfl)⟩)⟩)) <|
  P_all_cons (P_lnk_get (P_s1 (c := 11) (P := fun ci => P_fok P_cl P_Tb "OrchardQueryModel" 107 ci 7) rfl ⟨_, _, _, "OrchardQueryModel", rfl, by decide, (Or.inl rfl), (Or.inl w_6_99)⟩)) <|
  P_all_cons (P_lnk_vi (P_vall (l := P_v162) rfl (P_all_cons (show P_vok _ _ _ 11 184 from ⟨_, rfl, rfl, w_1_13, w_6_212, (Or.inl ⟨P_sg 1 rfl, w_p_45, (Or.inl w_6_210)⟩)⟩) (P_all_nil)))) <|
  P_all_cons (P_lnk_vi (P_vall (l := P_v212) rfl (P_all_cons (show P_vok _ _ _ 11 254 from ⟨_, rfl, rfl, w_1_13, w_8_30, (Or.inl ⟨P_sg 0 rfl, w_p_93, (Or.inl w_8_28)⟩)⟩) (P_all_nil)))) <|
  P_all_cons (P_lnk_st (by decide) (fun _ => ⟨P_sg 3 rfl, w_1_13, w_6_208, (Or.inl w_6_207)⟩)) <|
  P_all_cons (P_lnk_get (P_s1 (c := 11) (P := fun ci => P_fok P_cl P_Tb "OrchardQueryModel" 124 ci 9) rfl ⟨_, _, _, "OrchardQueryModel", rfl, by decide, (Or.inl rfl), (Or.inl w_6_101)⟩)) <|
  P_all_cons (P_lnk_st (by decide) (fun _ => ⟨P_sg 3 rfl, w_1_13, w_6_208, (Or.inl w_6_207)⟩)) <|
  P_all_cons (P_lnk_vi (P_vall (l := P_v162) rfl (P_all_cons (show P_vok _ _ _ 11 184 from ⟨_, rfl, rfl, w_1_13, w_6_212, (Or.inl ⟨P_sg 1 rfl, w_p_45, (Or.inl w_6_210)⟩)⟩) (P_all_nil)))) <|
  P_all_nil
set_option maxRecDepth 20000 in
theorem P_m263 : P_mst 263 4 (Option.some Jvm.ClassFile.FieldType.int) P_e263 [] := P_meth (mx := 4) (rt := (Option.some Jvm.ClassFile.FieldType.int)) (hs := []) "OrchardQueryModel" false prog_14_method_82_code [] rfl rfl rfl rfl (by decide +kernel) (by decide +kernel) (fun _ => P_g263) (by decide) (fun _ _ => by decide +kernel) (fun q => by cases q) (P_all_cons (by decide +kernel) <| P_all_cons (by decide +kernel) <| P_all_nil) P_l263 (by decide +kernel) P_k263 (fun _ _ => P_hok_nil)
/-- OrchardQueryModel.wouldNow(I)I -/
def P_l264 : List (Nat × P_I) := [(1, .invokevirtual 302, 4, 0, 206, [], []), (6, .invokevirtual 305, 9, 0, 207, [], []), (15, .getfield 250, 18, 11, 29, [], []), (22, .getfield 241, 25, 11, 30, [], []), (28, .invokevirtual 308, 31, 1, 208, [], [])]
set_option maxRecDepth 20000 in
theorem P_k264 : ∀ q ∈ P_l264, P_lnk P_cl P_aty P_stat P_tx P_N0 P_Tb P_Y0 "OrchardQueryModel" false prog_14_method_83_code [] q.1 q.2.1 q.2.2.2.1 q.2.2.2.2.1 :=
  P_all_cons (P_lnk_vi (P_vall (l := P_v206) rfl (P_all_cons (show P_vok _ _ _ 11 252 from ⟨_, rfl, rfl, w_1_13, w_8_34, (Or.inl ⟨P_sg 0 rfl, w_p_94, (Or.inl w_8_32)⟩)⟩) (P_all_nil)))) <|
  P_all_cons (P_lnk_vi (P_vall (l := P_v207) rfl (P_all_cons (show P_vok _ _ _ 11 244 from ⟨_, rfl, rfl, w_1_13, w_7_223, (Or.inl ⟨P_sg 0 rfl, w_p_87, (Or.inl w_7_221)⟩)⟩) (P_all_nil)))) <|
  P_all_cons (P_lnk_get (P_s1 (c := 11) (P := fun ci => P_fok P_cl P_Tb "OrchardQueryModel" 250 ci 29) rfl ⟨_, _, _, "OrchardQueryModel", rfl, by decide, (Or.inl rfl), (Or.inl w_6_121)⟩)) <|
  P_all_cons (P_lnk_get (P_s1 (c := 11) (P := fun ci => P_fok P_cl P_Tb "OrchardQueryModel" 241 ci 30) rfl ⟨_, _, _, "OrchardQueryModel", rfl, by decide, (Or.inl rfl), (Or.inl w_6_122)⟩)) <|
  P_all_cons (P_lnk_vi (P_vall (l := P_v208) rfl (P_all_cons (show P_vok _ _ _ 11 253 from ⟨_, rfl, rfl, w_1_13, w_8_38, (Or.inl ⟨P_sg 1 rfl, w_p_95, (Or.inl w_8_36)⟩)⟩) (P_all_nil)))) <|
  P_all_nil
set_option maxRecDepth 20000 in
theorem P_m264 : P_mst 264 4 (Option.some Jvm.ClassFile.FieldType.int) P_e264 [] := P_meth (mx := 4) (rt := (Option.some Jvm.ClassFile.FieldType.int)) (hs := []) "OrchardQueryModel" false prog_14_method_83_code [] rfl rfl rfl rfl (by decide +kernel) (by decide +kernel) (fun _ => P_g264) (by decide) (fun _ _ => by decide +kernel) (fun q => by cases q) (P_all_cons (by decide +kernel) <| P_all_cons (by decide +kernel) <| P_all_nil) P_l264 (by decide +kernel) P_k264 (fun _ _ => P_hok_nil)
/-- OrchardQueryModel.wouldDo(I)I -/
def P_l265 : List (Nat × P_I) := [(2, .putfield 62, 5, 11, 0, [], []), (6, .getfield 107, 9, 11, 7, [], []), (14, .invokevirtual 72, 17, 1, 162, [], []), (21, .invokestatic 68, 24, 3, 186, [], []), (29, .invokevirtual 327, 32, 1, 213, [], []), (37, .invokevirtual 72, 40, 1, 162, [], [])]
set_option maxRecDepth 20000 in
theorem P_k265 : ∀ q ∈ P_l265, P_lnk P_cl P_aty P_stat P_tx P_N0 P_Tb P_Y0 "OrchardQueryModel" false prog_14_method_84_code [] q.1 q.2.1 q.2.2.2.1 q.2.2.2.2.1 :=
  P_all_cons (P_lnk_put (P_s1 (c := 11) (P := fun ci => P_pok P_cl P_Tb "OrchardQueryModel" false 62 ci 0) rfl ⟨_, _, _, "OrchardQueryModel", rfl, by decide, (Or.inl rfl), (Or.inl ⟨w_6_92, (Or.inl rfl)⟩)⟩)) <|
  P_all_cons (P_lnk_get (P_s1 (c := 11) (P := fun ci => P_fok P_cl P_Tb "OrchardQueryModel" 107 ci 7) rfl ⟨_, _, _, "OrchardQueryModel", rfl, by decide, (Or.inl rfl), (Or.inl w_6_99)⟩)) <|
  P_all_cons (P_lnk_vi (P_vall (l := P_v162) rfl (P_all_cons (show P_vok _ _ _ 11 184 from ⟨_, rfl, rfl, w_1_13, w_6_212, (Or.inl ⟨P_sg 1 rfl, w_p_45, (Or.inl w_6_210)⟩)⟩) (P_all_nil)))) <|
  P_all_cons (P_lnk_st (by decide) (fun _ => ⟨P_sg 3 rfl, w_1_13, w_6_208, (Or.inl w_6_207)⟩)) <|
  P_all_cons (P_lnk_vi (P_vall (l := P_v213) rfl (P_all_cons (show P_vok _ _ _ 11 264 from ⟨_, rfl, rfl, w_1_13, w_8_50, (Or.inl ⟨P_sg 1 rfl, w_p_96, (Or.inl w_8_48)⟩)⟩) (P_all_nil)))) <|
  P_all_cons (P_lnk_vi (P_vall (l := P_v162) rfl (P_all_cons (show P_vok _ _ _ 11 184 from ⟨_, rfl, rfl, w_1_13, w_6_212, (Or.inl ⟨P_sg 1 rfl, w_p_45, (Or.inl w_6_210)⟩)⟩) (P_all_nil)))) <|
  P_all_nil
set_option maxRecDepth 20000 in
theorem P_m265 : P_mst 265 2 (Option.some Jvm.ClassFile.FieldType.int) P_e265 [] := P_meth (mx := 2) (rt := (Option.some Jvm.ClassFile.FieldType.int)) (hs := []) "OrchardQueryModel" false prog_14_method_84_code [] rfl rfl rfl rfl (by decide +kernel) (by decide +kernel) (fun _ => P_g265) (by decide) (fun _ _ => by decide +kernel) (fun q => by cases q) (P_all_cons (by decide +kernel) <| P_all_cons (by decide +kernel) <| P_all_nil) P_l265 (by decide +kernel) P_k265 (fun _ _ => P_hok_nil)
/-- OrchardQueryModel.meetings(I)I -/
def P_l266 : List (Nat × P_I) := [(1, .invokevirtual 302, 4, 0, 206, [], []), (6, .invokevirtual 259, 9, 0, 198, [], []), (13, .invokevirtual 283, 16, 1, 203, [], []), (27, .invokevirtual 308, 30, 1, 208, [], [])]
set_option maxRecDepth 20000 in
theorem P_k266 : ∀ q ∈ P_l266, P_lnk P_cl P_aty P_stat P_tx P_N0 P_Tb P_Y0 "OrchardQueryModel" false prog_14_method_85_code [] q.1 q.2.1 q.2.2.2.1 q.2.2.2.2.1 :=
  P_all_cons (P_lnk_vi (P_vall (l := P_v206) rfl (P_all_cons (show P_vok _ _ _ 11 252 from ⟨_, rfl, rfl, w_1_13, w_8_34, (Or.inl ⟨P_sg 0 rfl, w_p_94, (Or.inl w_8_32)⟩)⟩) (P_all_nil)))) <|
  P_all_cons (P_lnk_vi (P_vall (l := P_v198) rfl (P_all_cons (show P_vok _ _ _ 11 241 from ⟨_, rfl, rfl, w_1_13, w_7_183, (Or.inl ⟨P_sg 0 rfl, w_p_78, (Or.inl w_7_181)⟩)⟩) (P_all_nil)))) <|
  P_all_cons (P_lnk_vi (P_vall (l := P_v203) rfl (P_all_cons (show P_vok _ _ _ 11 240 from ⟨_, rfl, rfl, w_1_13, w_7_203, (Or.inl ⟨P_sg 1 rfl, w_p_82, (Or.inl w_7_201)⟩)⟩) (P_all_nil)))) <|
  P_all_cons (P_lnk_vi (P_vall (l := P_v208) rfl (P_all_cons (show P_vok _ _ _ 11 253 from ⟨_, rfl, rfl, w_1_13, w_8_38, (Or.inl ⟨P_sg 1 rfl, w_p_95, (Or.inl w_8_36)⟩)⟩) (P_all_nil)))) <|
  P_all_nil
set_option maxRecDepth 20000 in
theorem P_m266 : P_mst 266 4 (Option.some Jvm.ClassFile.FieldType.int) P_e266 [] := P_meth (mx := 4) (rt := (Option.some Jvm.ClassFile.FieldType.int)) (hs := []) "OrchardQueryModel" false prog_14_method_85_code [] rfl rfl rfl rfl (by decide +kernel) (by decide +kernel) (fun _ => P_g266) (by decide) (fun _ _ => by decide +kernel) (fun q => by cases q) (P_all_cons (by decide +kernel) <| P_all_nil) P_l266 (by decide +kernel) P_k266 (fun _ _ => P_hok_nil)
/-- OrchardQueryModel.meetingsWithout(I)I -/
def P_l267 : List (Nat × P_I) := [(2, .putfield 62, 5, 11, 0, [], []), (6, .getfield 107, 9, 11, 7, [], []), (14, .invokevirtual 72, 17, 1, 162, [], []), (21, .getfield 137, 24, 11, 17, [], []), (26, .invokestatic 68, 29, 3, 186, [], []), (34, .invokevirtual 330, 37, 1, 214, [], []), (42, .invokevirtual 72, 45, 1, 162, [], [])]
set_option maxRecDepth 20000 in
theorem P_k267 : ∀ q ∈ P_l267, P_lnk P_cl P_aty P_stat P_tx P_N0 P_Tb P_Y0 "OrchardQueryModel" false prog_14_method_86_code [] q.1 q.2.1 q.2.2.2.1 q.2.2.2.2.1 :=
  P_all_cons (P_lnk_put (P_s1 (c := 11) (P := fun ci => P_pok P_cl P_Tb "OrchardQueryModel" false 62 ci 0) rfl ⟨_, _, _, "OrchardQueryModel", rfl, by decide, (Or.inl rfl), (Or.inl ⟨w_6_92, (Or.inl rfl)⟩)⟩)) <|
  P_all_cons (P_lnk_get (P_s1 (c := 11) (P := fun ci => P_fok P_cl P_Tb "OrchardQueryModel" 107 ci 7) rfl ⟨_, _, _, "OrchardQueryModel", rfl, by decide, (Or.inl rfl), (Or.inl w_6_99)⟩)) <|
  P_all_cons (P_lnk_vi (P_vall (l := P_v162) rfl (P_all_cons (show P_vok _ _ _ 11 184 from ⟨_, rfl, rfl, w_1_13, w_6_212, (Or.inl ⟨P_sg 1 rfl, w_p_45, (Or.inl w_6_210)⟩)⟩) (P_all_nil)))) <|
  P_all_cons (P_lnk_get (P_s1 (c := 11) (P := fun ci => P_fok P_cl P_Tb "OrchardQueryModel" 137 ci 17) rfl ⟨_, _, _, "OrchardQueryModel", rfl, by decide, (Or.inl rfl), (Or.inl w_6_109)⟩)) <|
  P_all_cons (P_lnk_st (by decide) (fun _ => ⟨P_sg 3 rfl, w_1_13, w_6_208, (Or.inl w_6_207)⟩)) <|
  P_all_cons (P_lnk_vi (P_vall (l := P_v214) rfl (P_all_cons (show P_vok _ _ _ 11 266 from ⟨_, rfl, rfl, w_1_13, w_8_58, (Or.inl ⟨P_sg 1 rfl, w_p_97, (Or.inl w_8_56)⟩)⟩) (P_all_nil)))) <|
  P_all_cons (P_lnk_vi (P_vall (l := P_v162) rfl (P_all_cons (show P_vok _ _ _ 11 184 from ⟨_, rfl, rfl, w_1_13, w_6_212, (Or.inl ⟨P_sg 1 rfl, w_p_45, (Or.inl w_6_210)⟩)⟩) (P_all_nil)))) <|
  P_all_nil
set_option maxRecDepth 20000 in
theorem P_m267 : P_mst 267 2 (Option.some Jvm.ClassFile.FieldType.int) P_e267 [] := P_meth (mx := 2) (rt := (Option.some Jvm.ClassFile.FieldType.int)) (hs := []) "OrchardQueryModel" false prog_14_method_86_code [] rfl rfl rfl rfl (by decide +kernel) (by decide +kernel) (fun _ => P_g267) (by decide) (fun _ _ => by decide +kernel) (fun q => by cases q) (P_all_cons (by decide +kernel) <| P_all_cons (by decide +kernel) <| P_all_nil) P_l267 (by decide +kernel) P_k267 (fun _ _ => P_hok_nil)
/-- OrchardQueryModel.share()D -/
def P_l268 : List (Nat × P_I) := [(2, .getfield 107, 5, 11, 7, [], []), (13, .putfield 62, 16, 11, 0, [], []), (17, .getfield 107, 20, 11, 7, [], []), (31, .getfield 134, 34, 11, 12, [], []), (39, .getfield 13, 42, 11, 3, [], []), (43, .getfield 33, 46, 11, 13, [], []), (62, .getfield 173, 65, 11, 23, [], []), (74, .invokevirtual 330, 77, 1, 214, [], [])]
set_option maxRecDepth 20000 in
theorem P_k268 : ∀ q ∈ P_l268, P_lnk P_cl P_aty P_stat P_tx P_N0 P_Tb P_Y0 "OrchardQueryModel" false prog_14_method_87_code [] q.1 q.2.1 q.2.2.2.1 q.2.2.2.2.1 :=
  P_all_cons (P_lnk_get (P_s1 (c := 11) (P := fun ci => P_fok P_cl P_Tb "OrchardQueryModel" 107 ci 7) rfl ⟨_, _, _, "OrchardQueryModel", rfl, by decide, (Or.inl rfl), (Or.inl w_6_99)⟩)) <|
  P_all_cons (P_lnk_put (P_s1 (c := 11) (P := fun ci => P_pok P_cl P_Tb "OrchardQueryModel" false 62 ci 0) rfl ⟨_, _, _, "OrchardQueryModel", rfl, by decide, (Or.inl rfl), (Or.inl ⟨w_6_92, (Or.inl rfl)⟩)⟩)) <|
  P_all_cons (P_lnk_get (P_s1 (c := 11) (P := fun ci => P_fok P_cl P_Tb "OrchardQueryModel" 107 ci 7) rfl ⟨_, _, _, "OrchardQueryModel", rfl, by decide, (Or.inl rfl), (Or.inl w_6_99)⟩)) <|
  P_all_cons (P_lnk_get (P_s1 (c := 11) (P := fun ci => P_fok P_cl P_Tb "OrchardQueryModel" 134 ci 12) rfl ⟨_, _, _, "OrchardQueryModel", rfl, by decide, (Or.inl rfl), (Or.inl w_6_104)⟩)) <|
  P_all_cons (P_lnk_get (P_s1 (c := 11) (P := fun ci => P_fok P_cl P_Tb "OrchardQueryModel" 13 ci 3) rfl ⟨_, _, _, "OrchardQueryModel", rfl, by decide, (Or.inl rfl), (Or.inl w_6_95)⟩)) <|
  P_all_cons (P_lnk_get (P_s1 (c := 11) (P := fun ci => P_fok P_cl P_Tb "OrchardQueryModel" 33 ci 13) rfl ⟨_, _, _, "OrchardQueryModel", rfl, by decide, (Or.inl rfl), (Or.inl w_6_105)⟩)) <|
  P_all_cons (P_lnk_get (P_s1 (c := 11) (P := fun ci => P_fok P_cl P_Tb "OrchardQueryModel" 173 ci 23) rfl ⟨_, _, _, "OrchardQueryModel", rfl, by decide, (Or.inl rfl), (Or.inl w_6_115)⟩)) <|
  P_all_cons (P_lnk_vi (P_vall (l := P_v214) rfl (P_all_cons (show P_vok _ _ _ 11 266 from ⟨_, rfl, rfl, w_1_13, w_8_58, (Or.inl ⟨P_sg 1 rfl, w_p_97, (Or.inl w_8_56)⟩)⟩) (P_all_nil)))) <|
  P_all_nil
set_option maxRecDepth 20000 in
theorem P_m268 : P_mst 268 3 (Option.some Jvm.ClassFile.FieldType.double) P_e268 [] := P_meth (mx := 3) (rt := (Option.some Jvm.ClassFile.FieldType.double)) (hs := []) "OrchardQueryModel" false prog_14_method_87_code [] rfl rfl rfl rfl (by decide +kernel) (by decide +kernel) (fun _ => P_g268) (by decide) (fun _ _ => by decide +kernel) (fun q => by cases q) (P_all_cons (by decide +kernel) <| P_all_cons (by decide +kernel) <| P_all_cons (by decide +kernel) <| P_all_nil) P_l268 (by decide +kernel) P_k268 (fun _ _ => P_hok_nil)
/-- OrchardQueryModel.digest()J -/
def P_l269 : List (Nat × P_I) := [(2, .putfield 62, 5, 11, 0, [], []), (5, .ldc2_w 333, 8, 58086, 0, [], []), (17, .ldc2_w 335, 20, 31, 0, [], []), (23, .invokevirtual 176, 26, 1, 180, [], []), (39, .getfield 65, 42, 11, 1, [], []), (46, .ldc2_w 335, 49, 31, 0, [], []), (51, .getfield 13, 54, 11, 3, [], []), (65, .getfield 13, 68, 11, 3, [], []), (79, .getfield 9, 82, 11, 2, [], []), (88, .ldc2_w 335, 91, 31, 0, [], []), (98, .invokevirtual 96, 101, 3, 165, [], []), (122, .getfield 9, 125, 11, 2, [], []), (131, .ldc2_w 335, 134, 31, 0, [], []), (139, .invokevirtual 100, 142, 2, 166, [], []), (158, .ldc2_w 335, 161, 31, 0, [], []), (163, .getfield 22, 166, 11, 8, [], []), (170, .getfield 107, 173, 11, 7, [], []), (179, .ldc2_w 335, 182, 31, 0, [], []), (184, .getfield 173, 187, 11, 23, [], []), (202, .getfield 137, 205, 11, 17, [], []), (219, .ldc2_w 335, 222, 31, 0, [], []), (227, .invokevirtual 202, 230, 2, 185, [], []), (249, .getfield 134, 252, 11, 12, [], []), (256, .ldc2_w 335, 259, 31, 0, [], []), (261, .getfield 48, 264, 11, 22, [], []), (268, .ldc2_w 335, 271, 31, 0, [], []), (274, .invokevirtual 226, 277, 1, 192, [], []), (286, .ldc2_w 335, 289, 31, 0, [], []), (291, .invokevirtual 230, 294, 0, 193, [], []), (304, .ldc2_w 335, 307, 31, 0, [], []), (310, .invokevirtual 321, 313, 1, 211, [], []), (323, .invokevirtual 324, 326, 0, 212, [], []), (328, .ldc2_w 335, 331, 31, 0, [], []), (346, .invokestatic 280, 349, 2, 9002, [], []), (381, .ldc2_w 335, 384, 31, 0, [], []), (403, .ldc2_w 335, 406, 31, 0, [], []), (409, .invokevirtual 327, 412, 1, 213, [], []), (414, .ldc2_w 335, 417, 31, 0, [], []), (420, .invokevirtual 327, 423, 1, 213, [], [])]
set_option maxRecDepth 20000 in
theorem P_k269 : ∀ q ∈ P_l269, P_lnk P_cl P_aty P_stat P_tx P_N0 P_Tb P_Y0 "OrchardQueryModel" false prog_14_method_88_code [] q.1 q.2.1 q.2.2.2.1 q.2.2.2.2.1 :=
  P_all_cons (P_lnk_put (P_s1 (c := 11) (P := fun ci => P_pok P_cl P_Tb "OrchardQueryModel" false 62 ci 0) rfl ⟨_, _, _, "OrchardQueryModel", rfl, by decide, (Or.inl rfl), (Or.inl ⟨w_6_92, (Or.inl rfl)⟩)⟩)) <|
  P_all_cons (P_lnk_ldl w_8_68) <|
  P_all_cons (P_lnk_ldl w_8_69) <|
  P_all_cons (P_lnk_vi (P_vall (l := P_v180) rfl (P_all_cons (show P_vok _ _ _ 11 211 from ⟨_, rfl, rfl, w_1_13, w_7_79, (Or.inl ⟨P_sg 1 rfl, w_p_63, (Or.inl w_7_77)⟩)⟩) (P_all_nil)))) <|
  P_all_cons (P_lnk_get (P_s1 (c := 11) (P := fun ci => P_fok P_cl P_Tb "OrchardQueryModel" 65 ci 1) rfl ⟨_, _, _, "OrchardQueryModel", rfl, by decide, (Or.inl rfl), (Or.inl w_6_93)⟩)) <|
  P_all_cons (P_lnk_ldl w_8_69) <|
  P_all_cons (P_lnk_get (P_s1 (c := 11) (P := fun ci => P_fok P_cl P_Tb "OrchardQueryModel" 13 ci 3) rfl ⟨_, _, _, "OrchardQueryModel", rfl, by decide, (Or.inl rfl), (Or.inl w_6_95)⟩)) <|
  P_all_cons (P_lnk_get (P_s1 (c := 11) (P := fun ci => P_fok P_cl P_Tb "OrchardQueryModel" 13 ci 3) rfl ⟨_, _, _, "OrchardQueryModel", rfl, by decide, (Or.inl rfl), (Or.inl w_6_95)⟩)) <|
  P_all_cons (P_lnk_get (P_s1 (c := 11) (P := fun ci => P_fok P_cl P_Tb "OrchardQueryModel" 9 ci 2) rfl ⟨_, _, _, "OrchardQueryModel", rfl, by decide, (Or.inl rfl), (Or.inl w_6_94)⟩)) <|
  P_all_cons (P_lnk_ldl w_8_69) <|
  P_all_cons (P_lnk_vi (P_vall (l := P_v165) rfl (P_all_cons (show P_vok _ _ _ 11 189 from ⟨_, rfl, rfl, w_1_13, w_7_3, (Or.inl ⟨P_sg 3 rfl, w_p_49, (Or.inl w_7_1)⟩)⟩) (P_all_nil)))) <|
  P_all_cons (P_lnk_get (P_s1 (c := 11) (P := fun ci => P_fok P_cl P_Tb "OrchardQueryModel" 9 ci 2) rfl ⟨_, _, _, "OrchardQueryModel", rfl, by decide, (Or.inl rfl), (Or.inl w_6_94)⟩)) <|
  P_all_cons (P_lnk_ldl w_8_69) <|
  P_all_cons (P_lnk_vi (P_vall (l := P_v166) rfl (P_all_cons (show P_vok _ _ _ 11 193 from ⟨_, rfl, rfl, w_1_13, w_6_239, (Or.inl ⟨P_sg 2 rfl, w_p_48, (Or.inl w_6_237)⟩)⟩) (P_all_nil)))) <|
  P_all_cons (P_lnk_ldl w_8_69) <|
  P_all_cons (P_lnk_get (P_s1 (c := 11) (P := fun ci => P_fok P_cl P_Tb "OrchardQueryModel" 22 ci 8) rfl ⟨_, _, _, "OrchardQueryModel", rfl, by decide, (Or.inl rfl), (Or.inl w_6_100)⟩)) <|
  P_all_cons (P_lnk_get (P_s1 (c := 11) (P := fun ci => P_fok P_cl P_Tb "OrchardQueryModel" 107 ci 7) rfl ⟨_, _, _, "OrchardQueryModel", rfl, by decide, (Or.inl rfl), (Or.inl w_6_99)⟩)) <|
  P_all_cons (P_lnk_ldl w_8_69) <|
  P_all_cons (P_lnk_get (P_s1 (c := 11) (P := fun ci => P_fok P_cl P_Tb "OrchardQueryModel" 173 ci 23) rfl ⟨_, _, _, "OrchardQueryModel", rfl, by decide, (Or.inl rfl), (Or.inl w_6_115)⟩)) <|
  P_all_cons (P_lnk_get (P_s1 (c := 11) (P := fun ci => P_fok P_cl P_Tb "OrchardQueryModel" 137 ci 17) rfl ⟨_, _, _, "OrchardQueryModel", rfl, by decide, (Or.inl rfl), (Or.inl w_6_109)⟩)) <|
  P_all_cons (P_lnk_ldl w_8_69) <|
  P_all_cons (P_lnk_vi (P_vall (l := P_v185) rfl (P_all_cons (show P_vok _ _ _ 11 219 from ⟨_, rfl, rfl, w_1_13, w_7_87, (Or.inl ⟨P_sg 2 rfl, w_p_64, (Or.inl w_7_85)⟩)⟩) (P_all_nil)))) <|
  P_all_cons (P_lnk_get (P_s1 (c := 11) (P := fun ci => P_fok P_cl P_Tb "OrchardQueryModel" 134 ci 12) rfl ⟨_, _, _, "OrchardQueryModel", rfl, by decide, (Or.inl rfl), (Or.inl w_6_104)⟩)) <|
  P_all_cons (P_lnk_ldl w_8_69) <|
  P_all_cons (P_lnk_get (P_s1 (c := 11) (P := fun ci => P_fok P_cl P_Tb "OrchardQueryModel" 48 ci 22) rfl ⟨_, _, _, "OrchardQueryModel", rfl, by decide, (Or.inl rfl), (Or.inl w_6_114)⟩)) <|
  P_all_cons (P_lnk_ldl w_8_69) <|
  P_all_cons (P_lnk_vi (P_vall (l := P_v192) rfl (P_all_cons (show P_vok _ _ _ 11 229 from ⟨_, rfl, rfl, w_1_13, w_7_158, (Or.inl ⟨P_sg 1 rfl, w_p_77, (Or.inl w_7_156)⟩)⟩) (P_all_nil)))) <|
  P_all_cons (P_lnk_ldl w_8_69) <|
  P_all_cons (P_lnk_vi (P_vall (l := P_v193) rfl (P_all_cons (show P_vok _ _ _ 11 230 from ⟨_, rfl, rfl, w_1_13, w_7_154, (Or.inl ⟨P_sg 0 rfl, w_p_76, (Or.inl w_7_152)⟩)⟩) (P_all_nil)))) <|
  P_all_cons (P_lnk_ldl w_8_69) <|
  P_all_cons (P_lnk_vi (P_vall (l := P_v211) rfl (P_all_cons (show P_vok _ _ _ 11 260 from ⟨_, rfl, rfl, w_1_13, w_8_22, (Or.inl ⟨P_sg 1 rfl, w_p_92, (Or.inl w_8_20)⟩)⟩) (P_all_nil)))) <|
  P_all_cons (P_lnk_vi (P_vall (l := P_v212) rfl (P_all_cons (show P_vok _ _ _ 11 254 from ⟨_, rfl, rfl, w_1_13, w_8_30, (Or.inl ⟨P_sg 0 rfl, w_p_93, (Or.inl w_8_28)⟩)⟩) (P_all_nil)))) <|
  P_all_cons (P_lnk_ldl w_8_69) <|
  P_all_cons (P_lnk_sj (by decide) ⟨(fun q => absurd q (by decide)), fun _ => ⟨w_8_7, w_4_56, w_1_21, w_4_57⟩⟩) <|
  P_all_cons (P_lnk_ldl w_8_69) <|
  P_all_cons (P_lnk_ldl w_8_69) <|
  P_all_cons (P_lnk_vi (P_vall (l := P_v213) rfl (P_all_cons (show P_vok _ _ _ 11 264 from ⟨_, rfl, rfl, w_1_13, w_8_50, (Or.inl ⟨P_sg 1 rfl, w_p_96, (Or.inl w_8_48)⟩)⟩) (P_all_nil)))) <|
  P_all_cons (P_lnk_ldl w_8_69) <|
  P_all_cons (P_lnk_vi (P_vall (l := P_v213) rfl (P_all_cons (show P_vok _ _ _ 11 264 from ⟨_, rfl, rfl, w_1_13, w_8_50, (Or.inl ⟨P_sg 1 rfl, w_p_96, (Or.inl w_8_48)⟩)⟩) (P_all_nil)))) <|
  P_all_nil
set_option maxRecDepth 20000 in
theorem P_m269 : P_mst 269 9 (Option.some Jvm.ClassFile.FieldType.long) P_e269 [] := P_meth (mx := 9) (rt := (Option.some Jvm.ClassFile.FieldType.long)) (hs := []) "OrchardQueryModel" false prog_14_method_88_code [] rfl rfl rfl rfl (by decide +kernel) (by decide +kernel) (fun _ => P_g269) (by decide) (fun _ _ => by decide +kernel) (fun q => by cases q) (P_all_cons (by decide +kernel) <| P_all_cons (by decide +kernel) <| P_all_cons (by decide +kernel) <| P_all_cons (by decide +kernel) <| P_all_cons (by decide +kernel) <| P_all_cons (by decide +kernel) <| P_all_cons (by decide +kernel) <| P_all_cons (by decide +kernel) <| P_all_cons (by decide +kernel) <| P_all_cons (by decide +kernel) <| P_all_cons (by decide +kernel) <| P_all_cons (by decide +kernel) <| P_all_cons (by decide +kernel) <| P_all_cons (by decide +kernel) <| P_all_nil) P_l269 (by decide +kernel) P_k269 (fun _ _ => P_hok_nil)
/-- OrchardQueryLaw.table(LOrchardQuery;I[J)I -/
def P_l270 : List (Nat × P_I) := [(4, .invokevirtual 7, 7, 1, 215, [], [])]
set_option maxRecDepth 20000 in
theorem P_k270 : ∀ q ∈ P_l270, P_lnk P_cl P_aty P_stat P_tx P_N0 P_Tb P_Y0 "OrchardQueryLaw" false method_3_code [(0, 9, 12, 13), (0, 9, 15, 15)] q.1 q.2.1 q.2.2.2.1 q.2.2.2.2.1 :=
  P_all_cons (P_lnk_vi (P_vall (l := P_v215) rfl (P_all_cons (show P_vok _ _ _ 10 138 from ⟨_, rfl, rfl, w_1_1, w_4_119, (Or.inl ⟨P_sg 1 rfl, w_4_120, (Or.inl w_4_118)⟩)⟩) (P_all_nil)))) <|
  P_all_nil
set_option maxRecDepth 20000 in
theorem P_m270 : P_mst 270 4 (Option.some Jvm.ClassFile.FieldType.int) P_e270 [(0, 9, 0, 13, 3), (0, 9, 1, 16, 3)] := P_meth (mx := 4) (rt := (Option.some Jvm.ClassFile.FieldType.int)) (hs := [(0, 9, 0, 13, 3), (0, 9, 1, 16, 3)]) "OrchardQueryLaw" false method_3_code [(0, 9, 12, 13), (0, 9, 15, 15)] rfl rfl rfl rfl (by decide +kernel) (by decide +kernel) (fun _ => P_g270) (by decide) (fun _ _ => by decide +kernel) (fun q => by cases q) (P_all_cons (by decide +kernel) <| P_all_nil) P_l270 (by decide +kernel) P_k270 (fun pc _ E hE => P_hok_par P_ncok [(0, 9, 12, 13, 0, 13, 3), (0, 9, 15, 15, 1, 16, 3)] [] (P_all_cons ⟨by decide, by decide, w_4_116, w_4_124, (Or.inr ⟨3, by decide +kernel, rfl, rfl⟩)⟩ (P_all_cons ⟨by decide, by decide, w_4_117, w_4_192, (Or.inr ⟨3, by decide +kernel, rfl, rfl⟩)⟩ (P_all_nil))) E hE P_all_nil rfl)
/-- OrchardQueryLaw.row(LOrchardQuery;IIII[J)I -/
def P_l271 : List (Nat × P_I) := [(9, .invokevirtual 17, 12, 4, 216, [], [])]
set_option maxRecDepth 20000 in
theorem P_k271 : ∀ q ∈ P_l271, P_lnk P_cl P_aty P_stat P_tx P_N0 P_Tb P_Y0 "OrchardQueryLaw" false method_4_code [(0, 14, 17, 21), (0, 14, 21, 13), (0, 14, 25, 15)] q.1 q.2.1 q.2.2.2.1 q.2.2.2.2.1 :=
  P_all_cons (P_lnk_vi (P_vall (l := P_v216) rfl (P_all_cons (show P_vok _ _ _ 10 139 from ⟨_, rfl, rfl, w_1_1, w_4_215, (Or.inl ⟨P_sg 4 rfl, w_4_216, (Or.inl w_4_214)⟩)⟩) (P_all_nil)))) <|
  P_all_nil
set_option maxRecDepth 20000 in
theorem P_m271 : P_mst 271 7 (Option.some Jvm.ClassFile.FieldType.int) P_e271 [(0, 14, 2, 19, 6), (0, 14, 0, 23, 6), (0, 14, 1, 27, 6)] := P_meth (mx := 7) (rt := (Option.some Jvm.ClassFile.FieldType.int)) (hs := [(0, 14, 2, 19, 6), (0, 14, 0, 23, 6), (0, 14, 1, 27, 6)]) "OrchardQueryLaw" false method_4_code [(0, 14, 17, 21), (0, 14, 21, 13), (0, 14, 25, 15)] rfl rfl rfl rfl (by decide +kernel) (by decide +kernel) (fun _ => P_g271) (by decide) (fun _ _ => by decide +kernel) (fun q => by cases q) (P_all_cons (by decide +kernel) <| P_all_nil) P_l271 (by decide +kernel) P_k271 (fun pc _ E hE => P_hok_par P_ncok [(0, 14, 17, 21, 2, 19, 6), (0, 14, 21, 13, 0, 23, 6), (0, 14, 25, 15, 1, 27, 6)] [] (P_all_cons ⟨by decide, by decide, w_4_213, w_4_221, (Or.inl ⟨by decide +kernel, rfl⟩)⟩ (P_all_cons ⟨by decide, by decide, w_4_116, w_4_124, (Or.inl ⟨by decide +kernel, rfl⟩)⟩ (P_all_cons ⟨by decide, by decide, w_4_117, w_4_192, (Or.inl ⟨by decide +kernel, rfl⟩)⟩ (P_all_nil)))) E hE P_all_nil rfl)
/-- OrchardQueryLaw.drop(LOrchardQuery;II[J)I -/
def P_l272 : List (Nat × P_I) := [(5, .invokevirtual 23, 8, 2, 217, [], [])]
set_option maxRecDepth 20000 in
theorem P_k272 : ∀ q ∈ P_l272, P_lnk P_cl P_aty P_stat P_tx P_N0 P_Tb P_Y0 "OrchardQueryLaw" false method_5_code [(0, 10, 13, 21)] q.1 q.2.1 q.2.2.2.1 q.2.2.2.2.1 :=
  P_all_cons (P_lnk_vi (P_vall (l := P_v217) rfl (P_all_cons (show P_vok _ _ _ 10 140 from ⟨_, rfl, rfl, w_1_1, w_5_19, (Or.inl ⟨P_sg 2 rfl, w_5_20, (Or.inl w_5_18)⟩)⟩) (P_all_nil)))) <|
  P_all_nil
set_option maxRecDepth 20000 in
theorem P_m272 : P_mst 272 5 (Option.some Jvm.ClassFile.FieldType.int) P_e272 [(0, 10, 2, 15, 4)] := P_meth (mx := 5) (rt := (Option.some Jvm.ClassFile.FieldType.int)) (hs := [(0, 10, 2, 15, 4)]) "OrchardQueryLaw" false method_5_code [(0, 10, 13, 21)] rfl rfl rfl rfl (by decide +kernel) (by decide +kernel) (fun _ => P_g272) (by decide) (fun _ _ => by decide +kernel) (fun q => by cases q) (P_all_cons (by decide +kernel) <| P_all_nil) P_l272 (by decide +kernel) P_k272 (fun pc _ E hE => P_hok_par P_ncok [(0, 10, 13, 21, 2, 15, 4)] [] (P_all_cons ⟨by decide, by decide, w_4_213, w_4_221, (Or.inl ⟨by decide +kernel, rfl⟩)⟩ (P_all_nil)) E hE P_all_nil rfl)
/-- OrchardQueryLaw.variety(LOrchardQuery;II[J)I -/
def P_l273 : List (Nat × P_I) := [(5, .invokevirtual 27, 8, 2, 218, [], [])]
set_option maxRecDepth 20000 in
theorem P_k273 : ∀ q ∈ P_l273, P_lnk P_cl P_aty P_stat P_tx P_N0 P_Tb P_Y0 "OrchardQueryLaw" false method_6_code [(0, 10, 13, 21)] q.1 q.2.1 q.2.2.2.1 q.2.2.2.2.1 :=
  P_all_cons (P_lnk_vi (P_vall (l := P_v218) rfl (P_all_cons (show P_vok _ _ _ 10 141 from ⟨_, rfl, rfl, w_1_1, w_5_31, (Or.inl ⟨P_sg 2 rfl, w_5_32, (Or.inl w_5_30)⟩)⟩) (P_all_nil)))) <|
  P_all_nil
set_option maxRecDepth 20000 in
theorem P_m273 : P_mst 273 5 (Option.some Jvm.ClassFile.FieldType.int) P_e273 [(0, 10, 2, 15, 4)] := P_meth (mx := 5) (rt := (Option.some Jvm.ClassFile.FieldType.int)) (hs := [(0, 10, 2, 15, 4)]) "OrchardQueryLaw" false method_6_code [(0, 10, 13, 21)] rfl rfl rfl rfl (by decide +kernel) (by decide +kernel) (fun _ => P_g273) (by decide) (fun _ _ => by decide +kernel) (fun q => by cases q) (P_all_cons (by decide +kernel) <| P_all_nil) P_l273 (by decide +kernel) P_k273 (fun pc _ E hE => P_hok_par P_ncok [(0, 10, 13, 21, 2, 15, 4)] [] (P_all_cons ⟨by decide, by decide, w_4_213, w_4_221, (Or.inl ⟨by decide +kernel, rfl⟩)⟩ (P_all_nil)) E hE P_all_nil rfl)
/-- OrchardQueryLaw.token(LOrchardQuery;I[J)I -/
def P_l274 : List (Nat × P_I) := [(4, .invokevirtual 30, 7, 1, 219, [], [])]
set_option maxRecDepth 20000 in
theorem P_k274 : ∀ q ∈ P_l274, P_lnk P_cl P_aty P_stat P_tx P_N0 P_Tb P_Y0 "OrchardQueryLaw" false method_7_code [(0, 9, 12, 13), (0, 9, 15, 15)] q.1 q.2.1 q.2.2.2.1 q.2.2.2.2.1 :=
  P_all_cons (P_lnk_vi (P_vall (l := P_v219) rfl (P_all_cons (show P_vok _ _ _ 10 142 from ⟨_, rfl, rfl, w_1_1, w_5_39, (Or.inl ⟨P_sg 1 rfl, w_5_40, (Or.inl w_5_38)⟩)⟩) (P_all_nil)))) <|
  P_all_nil
set_option maxRecDepth 20000 in
theorem P_m274 : P_mst 274 4 (Option.some Jvm.ClassFile.FieldType.int) P_e274 [(0, 9, 0, 13, 3), (0, 9, 1, 16, 3)] := P_meth (mx := 4) (rt := (Option.some Jvm.ClassFile.FieldType.int)) (hs := [(0, 9, 0, 13, 3), (0, 9, 1, 16, 3)]) "OrchardQueryLaw" false method_7_code [(0, 9, 12, 13), (0, 9, 15, 15)] rfl rfl rfl rfl (by decide +kernel) (by decide +kernel) (fun _ => P_g274) (by decide) (fun _ _ => by decide +kernel) (fun q => by cases q) (P_all_cons (by decide +kernel) <| P_all_nil) P_l274 (by decide +kernel) P_k274 (fun pc _ E hE => P_hok_par P_ncok [(0, 9, 12, 13, 0, 13, 3), (0, 9, 15, 15, 1, 16, 3)] [] (P_all_cons ⟨by decide, by decide, w_4_116, w_4_124, (Or.inr ⟨3, by decide +kernel, rfl, rfl⟩)⟩ (P_all_cons ⟨by decide, by decide, w_4_117, w_4_192, (Or.inr ⟨3, by decide +kernel, rfl, rfl⟩)⟩ (P_all_nil))) E hE P_all_nil rfl)
/-- OrchardQueryLaw.many(LOrchardQuery;I[J)I -/
def P_l275 : List (Nat × P_I) := [(4, .invokevirtual 33, 7, 1, 220, [], [])]
set_option maxRecDepth 20000 in
theorem P_k275 : ∀ q ∈ P_l275, P_lnk P_cl P_aty P_stat P_tx P_N0 P_Tb P_Y0 "OrchardQueryLaw" false method_8_code [(0, 9, 12, 13)] q.1 q.2.1 q.2.2.2.1 q.2.2.2.2.1 :=
  P_all_cons (P_lnk_vi (P_vall (l := P_v220) rfl (P_all_cons (show P_vok _ _ _ 10 146 from ⟨_, rfl, rfl, w_1_1, w_5_59, (Or.inl ⟨P_sg 1 rfl, w_5_60, (Or.inl w_5_58)⟩)⟩) (P_all_nil)))) <|
  P_all_nil
set_option maxRecDepth 20000 in
theorem P_m275 : P_mst 275 4 (Option.some Jvm.ClassFile.FieldType.int) P_e275 [(0, 9, 0, 13, 3)] := P_meth (mx := 4) (rt := (Option.some Jvm.ClassFile.FieldType.int)) (hs := [(0, 9, 0, 13, 3)]) "OrchardQueryLaw" false method_8_code [(0, 9, 12, 13)] rfl rfl rfl rfl (by decide +kernel) (by decide +kernel) (fun _ => P_g275) (by decide) (fun _ _ => by decide +kernel) (fun q => by cases q) (P_all_cons (by decide +kernel) <| P_all_nil) P_l275 (by decide +kernel) P_k275 (fun pc _ E hE => P_hok_par P_ncok [(0, 9, 12, 13, 0, 13, 3)] [] (P_all_cons ⟨by decide, by decide, w_4_116, w_4_124, (Or.inr ⟨3, by decide +kernel, rfl, rfl⟩)⟩ (P_all_nil)) E hE P_all_nil rfl)
/-- OrchardQueryLaw.condition(LOrchardQuery;II[J)I -/
def P_l276 : List (Nat × P_I) := [(5, .invokevirtual 36, 8, 2, 221, [], [])]
set_option maxRecDepth 20000 in
theorem P_k276 : ∀ q ∈ P_l276, P_lnk P_cl P_aty P_stat P_tx P_N0 P_Tb P_Y0 "OrchardQueryLaw" false method_9_code [(0, 10, 13, 15), (0, 10, 17, 21), (0, 10, 21, 13)] q.1 q.2.1 q.2.2.2.1 q.2.2.2.2.1 :=
  P_all_cons (P_lnk_vi (P_vall (l := P_v221) rfl (P_all_cons (show P_vok _ _ _ 10 147 from ⟨_, rfl, rfl, w_1_1, w_5_67, (Or.inl ⟨P_sg 2 rfl, w_5_68, (Or.inl w_5_66)⟩)⟩) (P_all_nil)))) <|
  P_all_nil
set_option maxRecDepth 20000 in
theorem P_m276 : P_mst 276 5 (Option.some Jvm.ClassFile.FieldType.int) P_e276 [(0, 10, 1, 15, 4), (0, 10, 2, 19, 4), (0, 10, 0, 23, 4)] := P_meth (mx := 5) (rt := (Option.some Jvm.ClassFile.FieldType.int)) (hs := [(0, 10, 1, 15, 4), (0, 10, 2, 19, 4), (0, 10, 0, 23, 4)]) "OrchardQueryLaw" false method_9_code [(0, 10, 13, 15), (0, 10, 17, 21), (0, 10, 21, 13)] rfl rfl rfl rfl (by decide +kernel) (by decide +kernel) (fun _ => P_g276) (by decide) (fun _ _ => by decide +kernel) (fun q => by cases q) (P_all_cons (by decide +kernel) <| P_all_nil) P_l276 (by decide +kernel) P_k276 (fun pc _ E hE => P_hok_par P_ncok [(0, 10, 13, 15, 1, 15, 4), (0, 10, 17, 21, 2, 19, 4), (0, 10, 21, 13, 0, 23, 4)] [] (P_all_cons ⟨by decide, by decide, w_4_117, w_4_192, (Or.inl ⟨by decide +kernel, rfl⟩)⟩ (P_all_cons ⟨by decide, by decide, w_4_213, w_4_221, (Or.inl ⟨by decide +kernel, rfl⟩)⟩ (P_all_cons ⟨by decide, by decide, w_4_116, w_4_124, (Or.inl ⟨by decide +kernel, rfl⟩)⟩ (P_all_nil)))) E hE P_all_nil rfl)
/-- OrchardQueryLaw.rewrite(LOrchardQuery;I[J)I -/
def P_l277 : List (Nat × P_I) := [(4, .invokevirtual 39, 7, 1, 222, [], [])]
set_option maxRecDepth 20000 in
theorem P_k277 : ∀ q ∈ P_l277, P_lnk P_cl P_aty P_stat P_tx P_N0 P_Tb P_Y0 "OrchardQueryLaw" false method_10_code [(0, 9, 12, 15), (0, 9, 15, 13)] q.1 q.2.1 q.2.2.2.1 q.2.2.2.2.1 :=
  P_all_cons (P_lnk_vi (P_vall (l := P_v222) rfl (P_all_cons (show P_vok _ _ _ 10 148 from ⟨_, rfl, rfl, w_1_1, w_5_85, (Or.inl ⟨P_sg 1 rfl, w_5_86, (Or.inl w_5_84)⟩)⟩) (P_all_nil)))) <|
  P_all_nil
set_option maxRecDepth 20000 in
theorem P_m277 : P_mst 277 4 (Option.some Jvm.ClassFile.FieldType.int) P_e277 [(0, 9, 1, 13, 3), (0, 9, 0, 16, 3)] := P_meth (mx := 4) (rt := (Option.some Jvm.ClassFile.FieldType.int)) (hs := [(0, 9, 1, 13, 3), (0, 9, 0, 16, 3)]) "OrchardQueryLaw" false method_10_code [(0, 9, 12, 15), (0, 9, 15, 13)] rfl rfl rfl rfl (by decide +kernel) (by decide +kernel) (fun _ => P_g277) (by decide) (fun _ _ => by decide +kernel) (fun q => by cases q) (P_all_cons (by decide +kernel) <| P_all_nil) P_l277 (by decide +kernel) P_k277 (fun pc _ E hE => P_hok_par P_ncok [(0, 9, 12, 15, 1, 13, 3), (0, 9, 15, 13, 0, 16, 3)] [] (P_all_cons ⟨by decide, by decide, w_4_117, w_4_192, (Or.inr ⟨3, by decide +kernel, rfl, rfl⟩)⟩ (P_all_cons ⟨by decide, by decide, w_4_116, w_4_124, (Or.inr ⟨3, by decide +kernel, rfl, rfl⟩)⟩ (P_all_nil))) E hE P_all_nil rfl)
/-- OrchardQueryLaw.swap(LOrchardQuery;II[J)I -/
def P_l278 : List (Nat × P_I) := [(5, .invokevirtual 42, 8, 2, 223, [], [])]
set_option maxRecDepth 20000 in
theorem P_k278 : ∀ q ∈ P_l278, P_lnk P_cl P_aty P_stat P_tx P_N0 P_Tb P_Y0 "OrchardQueryLaw" false method_11_code [(0, 10, 13, 15), (0, 10, 17, 21)] q.1 q.2.1 q.2.2.2.1 q.2.2.2.2.1 :=
  P_all_cons (P_lnk_vi (P_vall (l := P_v223) rfl (P_all_cons (show P_vok _ _ _ 10 149 from ⟨_, rfl, rfl, w_1_1, w_5_152, (Or.inl ⟨P_sg 2 rfl, w_5_153, (Or.inl w_5_151)⟩)⟩) (P_all_nil)))) <|
  P_all_nil
set_option maxRecDepth 20000 in
theorem P_m278 : P_mst 278 5 (Option.some Jvm.ClassFile.FieldType.int) P_e278 [(0, 10, 1, 15, 4), (0, 10, 2, 19, 4)] := P_meth (mx := 5) (rt := (Option.some Jvm.ClassFile.FieldType.int)) (hs := [(0, 10, 1, 15, 4), (0, 10, 2, 19, 4)]) "OrchardQueryLaw" false method_11_code [(0, 10, 13, 15), (0, 10, 17, 21)] rfl rfl rfl rfl (by decide +kernel) (by decide +kernel) (fun _ => P_g278) (by decide) (fun _ _ => by decide +kernel) (fun q => by cases q) (P_all_cons (by decide +kernel) <| P_all_nil) P_l278 (by decide +kernel) P_k278 (fun pc _ E hE => P_hok_par P_ncok [(0, 10, 13, 15, 1, 15, 4), (0, 10, 17, 21, 2, 19, 4)] [] (P_all_cons ⟨by decide, by decide, w_4_117, w_4_192, (Or.inl ⟨by decide +kernel, rfl⟩)⟩ (P_all_cons ⟨by decide, by decide, w_4_213, w_4_221, (Or.inl ⟨by decide +kernel, rfl⟩)⟩ (P_all_nil))) E hE P_all_nil rfl)
/-- OrchardQueryLaw.best(LOrchardQuery;[J)I -/
def P_l279 : List (Nat × P_I) := [(3, .invokevirtual 45, 6, 0, 224, [], [])]
set_option maxRecDepth 20000 in
theorem P_k279 : ∀ q ∈ P_l279, P_lnk P_cl P_aty P_stat P_tx P_N0 P_Tb P_Y0 "OrchardQueryLaw" false method_12_code [(0, 7, 10, 15)] q.1 q.2.1 q.2.2.2.1 q.2.2.2.2.1 :=
  P_all_cons (P_lnk_vi (P_vall (l := P_v224) rfl (P_all_cons (show P_vok _ _ _ 10 150 from ⟨_, rfl, rfl, w_1_1, w_5_169, (Or.inl ⟨P_sg 0 rfl, w_5_170, (Or.inl w_5_168)⟩)⟩) (P_all_nil)))) <|
  P_all_nil
set_option maxRecDepth 20000 in
theorem P_m279 : P_mst 279 3 (Option.some Jvm.ClassFile.FieldType.int) P_e279 [(0, 7, 1, 11, 2)] := P_meth (mx := 3) (rt := (Option.some Jvm.ClassFile.FieldType.int)) (hs := [(0, 7, 1, 11, 2)]) "OrchardQueryLaw" false method_12_code [(0, 7, 10, 15)] rfl rfl rfl rfl (by decide +kernel) (by decide +kernel) (fun _ => P_g279) (by decide) (fun _ _ => by decide +kernel) (fun q => by cases q) (P_all_cons (by decide +kernel) <| P_all_nil) P_l279 (by decide +kernel) P_k279 (fun pc _ E hE => P_hok_par P_ncok [(0, 7, 10, 15, 1, 11, 2)] [] (P_all_cons ⟨by decide, by decide, w_4_117, w_4_192, (Or.inr ⟨2, by decide +kernel, rfl, rfl⟩)⟩ (P_all_nil)) E hE P_all_nil rfl)
/-- OrchardQueryLaw.order(LOrchardQuery;I[J)I -/
def P_l280 : List (Nat × P_I) := [(4, .invokevirtual 49, 7, 1, 225, [], [])]
set_option maxRecDepth 20000 in
theorem P_k280 : ∀ q ∈ P_l280, P_lnk P_cl P_aty P_stat P_tx P_N0 P_Tb P_Y0 "OrchardQueryLaw" false method_13_code [(0, 9, 12, 15), (0, 9, 15, 21)] q.1 q.2.1 q.2.2.2.1 q.2.2.2.2.1 :=
  P_all_cons (P_lnk_vi (P_vall (l := P_v225) rfl (P_all_cons (show P_vok _ _ _ 10 151 from ⟨_, rfl, rfl, w_1_1, w_5_186, (Or.inl ⟨P_sg 1 rfl, w_5_187, (Or.inl w_5_185)⟩)⟩) (P_all_nil)))) <|
  P_all_nil
set_option maxRecDepth 20000 in
theorem P_m280 : P_mst 280 4 (Option.some Jvm.ClassFile.FieldType.int) P_e280 [(0, 9, 1, 13, 3), (0, 9, 2, 16, 3)] := P_meth (mx := 4) (rt := (Option.some Jvm.ClassFile.FieldType.int)) (hs := [(0, 9, 1, 13, 3), (0, 9, 2, 16, 3)]) "OrchardQueryLaw" false method_13_code [(0, 9, 12, 15), (0, 9, 15, 21)] rfl rfl rfl rfl (by decide +kernel) (by decide +kernel) (fun _ => P_g280) (by decide) (fun _ _ => by decide +kernel) (fun q => by cases q) (P_all_cons (by decide +kernel) <| P_all_nil) P_l280 (by decide +kernel) P_k280 (fun pc _ E hE => P_hok_par P_ncok [(0, 9, 12, 15, 1, 13, 3), (0, 9, 15, 21, 2, 16, 3)] [] (P_all_cons ⟨by decide, by decide, w_4_117, w_4_192, (Or.inr ⟨3, by decide +kernel, rfl, rfl⟩)⟩ (P_all_cons ⟨by decide, by decide, w_4_213, w_4_221, (Or.inr ⟨3, by decide +kernel, rfl, rfl⟩)⟩ (P_all_nil))) E hE P_all_nil rfl)
/-- OrchardQueryLaw.guess(LOrchardQuery;I[J)I -/
def P_l281 : List (Nat × P_I) := [(4, .invokevirtual 52, 7, 1, 226, [], [])]
set_option maxRecDepth 20000 in
theorem P_k281 : ∀ q ∈ P_l281, P_lnk P_cl P_aty P_stat P_tx P_N0 P_Tb P_Y0 "OrchardQueryLaw" false method_14_code [(0, 8, 11, 15), (0, 8, 14, 21)] q.1 q.2.1 q.2.2.2.1 q.2.2.2.2.1 :=
  P_all_cons (P_lnk_vi (P_vall (l := P_v226) rfl (P_all_cons (show P_vok _ _ _ 10 152 from ⟨_, rfl, rfl, w_1_1, w_5_193, (Or.inl ⟨P_sg 1 rfl, w_5_194, (Or.inl w_5_192)⟩)⟩) (P_all_nil)))) <|
  P_all_nil
set_option maxRecDepth 20000 in
theorem P_m281 : P_mst 281 4 (Option.some Jvm.ClassFile.FieldType.int) P_e281 [(0, 8, 1, 12, 3), (0, 8, 2, 15, 3)] := P_meth (mx := 4) (rt := (Option.some Jvm.ClassFile.FieldType.int)) (hs := [(0, 8, 1, 12, 3), (0, 8, 2, 15, 3)]) "OrchardQueryLaw" false method_14_code [(0, 8, 11, 15), (0, 8, 14, 21)] rfl rfl rfl rfl (by decide +kernel) (by decide +kernel) (fun _ => P_g281) (by decide) (fun _ _ => by decide +kernel) (fun q => by cases q) (P_all_cons (by decide +kernel) <| P_all_nil) P_l281 (by decide +kernel) P_k281 (fun pc _ E hE => P_hok_par P_ncok [(0, 8, 11, 15, 1, 12, 3), (0, 8, 14, 21, 2, 15, 3)] [] (P_all_cons ⟨by decide, by decide, w_4_117, w_4_192, (Or.inr ⟨3, by decide +kernel, rfl, rfl⟩)⟩ (P_all_cons ⟨by decide, by decide, w_4_213, w_4_221, (Or.inr ⟨3, by decide +kernel, rfl, rfl⟩)⟩ (P_all_nil))) E hE P_all_nil rfl)
/-- OrchardQueryLaw.cost(LOrchardQuery;[J)I -/
def P_l282 : List (Nat × P_I) := [(3, .invokevirtual 56, 6, 0, 227, [], [])]
set_option maxRecDepth 20000 in
theorem P_k282 : ∀ q ∈ P_l282, P_lnk P_cl P_aty P_stat P_tx P_N0 P_Tb P_Y0 "OrchardQueryLaw" false method_15_code [(0, 7, 10, 15)] q.1 q.2.1 q.2.2.2.1 q.2.2.2.2.1 :=
  P_all_cons (P_lnk_vi (P_vall (l := P_v227) rfl (P_all_cons (show P_vok _ _ _ 10 153 from ⟨_, rfl, rfl, w_1_1, w_5_201, (Or.inl ⟨P_sg 0 rfl, w_5_202, (Or.inl w_5_200)⟩)⟩) (P_all_nil)))) <|
  P_all_nil
set_option maxRecDepth 20000 in
theorem P_m282 : P_mst 282 3 (Option.some Jvm.ClassFile.FieldType.int) P_e282 [(0, 7, 1, 11, 2)] := P_meth (mx := 3) (rt := (Option.some Jvm.ClassFile.FieldType.int)) (hs := [(0, 7, 1, 11, 2)]) "OrchardQueryLaw" false method_15_code [(0, 7, 10, 15)] rfl rfl rfl rfl (by decide +kernel) (by decide +kernel) (fun _ => P_g282) (by decide) (fun _ _ => by decide +kernel) (fun q => by cases q) (P_all_cons (by decide +kernel) <| P_all_nil) P_l282 (by decide +kernel) P_k282 (fun pc _ E hE => P_hok_par P_ncok [(0, 7, 10, 15, 1, 11, 2)] [] (P_all_cons ⟨by decide, by decide, w_4_117, w_4_192, (Or.inr ⟨2, by decide +kernel, rfl, rfl⟩)⟩ (P_all_nil)) E hE P_all_nil rfl)
/-- OrchardQueryLaw.isEmpty(LOrchardQuery;[J)I -/
def P_l283 : List (Nat × P_I) := [(3, .invokevirtual 59, 6, 0, 228, [], [])]
set_option maxRecDepth 20000 in
theorem P_k283 : ∀ q ∈ P_l283, P_lnk P_cl P_aty P_stat P_tx P_N0 P_Tb P_Y0 "OrchardQueryLaw" false method_16_code [(0, 15, 18, 15)] q.1 q.2.1 q.2.2.2.1 q.2.2.2.2.1 :=
  P_all_cons (P_lnk_vi (P_vall (l := P_v228) rfl (P_all_cons (show P_vok _ _ _ 10 154 from ⟨_, rfl, rfl, w_1_1, w_5_208, (Or.inl ⟨P_sg 0 rfl, w_5_209, (Or.inl w_5_207)⟩)⟩) (P_all_nil)))) <|
  P_all_nil
set_option maxRecDepth 20000 in
theorem P_m283 : P_mst 283 3 (Option.some Jvm.ClassFile.FieldType.int) P_e283 [(0, 15, 1, 19, 2)] := P_meth (mx := 3) (rt := (Option.some Jvm.ClassFile.FieldType.int)) (hs := [(0, 15, 1, 19, 2)]) "OrchardQueryLaw" false method_16_code [(0, 15, 18, 15)] rfl rfl rfl rfl (by decide +kernel) (by decide +kernel) (fun _ => P_g283) (by decide) (fun _ _ => by decide +kernel) (fun q => by cases q) (P_all_cons (by decide +kernel) <| P_all_nil) P_l283 (by decide +kernel) P_k283 (fun pc _ E hE => P_hok_par P_ncok [(0, 15, 18, 15, 1, 19, 2)] [] (P_all_cons ⟨by decide, by decide, w_4_117, w_4_192, (Or.inr ⟨2, by decide +kernel, rfl, rfl⟩)⟩ (P_all_nil)) E hE P_all_nil rfl)
/-- OrchardQueryLaw.open(LOrchardQuery;[J)I -/
def P_l284 : List (Nat × P_I) := [(3, .invokevirtual 63, 6, 0, 229, [], [])]
set_option maxRecDepth 20000 in
theorem P_k284 : ∀ q ∈ P_l284, P_lnk P_cl P_aty P_stat P_tx P_N0 P_Tb P_Y0 "OrchardQueryLaw" false method_17_code [(0, 8, 11, 15)] q.1 q.2.1 q.2.2.2.1 q.2.2.2.2.1 :=
  P_all_cons (P_lnk_vi (P_vall (l := P_v229) rfl (P_all_cons (show P_vok _ _ _ 10 155 from ⟨_, rfl, rfl, w_1_1, w_5_215, (Or.inl ⟨P_sg 0 rfl, w_5_216, (Or.inl w_5_214)⟩)⟩) (P_all_nil)))) <|
  P_all_nil
set_option maxRecDepth 20000 in
theorem P_m284 : P_mst 284 3 (Option.some Jvm.ClassFile.FieldType.int) P_e284 [(0, 8, 1, 12, 2)] := P_meth (mx := 3) (rt := (Option.some Jvm.ClassFile.FieldType.int)) (hs := [(0, 8, 1, 12, 2)]) "OrchardQueryLaw" false method_17_code [(0, 8, 11, 15)] rfl rfl rfl rfl (by decide +kernel) (by decide +kernel) (fun _ => P_g284) (by decide) (fun _ _ => by decide +kernel) (fun q => by cases q) (P_all_cons (by decide +kernel) <| P_all_nil) P_l284 (by decide +kernel) P_k284 (fun pc _ E hE => P_hok_par P_ncok [(0, 8, 11, 15, 1, 12, 2)] [] (P_all_cons ⟨by decide, by decide, w_4_117, w_4_192, (Or.inr ⟨2, by decide +kernel, rfl, rfl⟩)⟩ (P_all_nil)) E hE P_all_nil rfl)
/-- OrchardQueryLaw.next(LOrchardQuery;[J)I -/
def P_l285 : List (Nat × P_I) := [(3, .invokevirtual 67, 6, 0, 230, [], [])]
set_option maxRecDepth 20000 in
theorem P_k285 : ∀ q ∈ P_l285, P_lnk P_cl P_aty P_stat P_tx P_N0 P_Tb P_Y0 "OrchardQueryLaw" false method_18_code [(0, 15, 18, 15)] q.1 q.2.1 q.2.2.2.1 q.2.2.2.2.1 :=
  P_all_cons (P_lnk_vi (P_vall (l := P_v230) rfl (P_all_cons (show P_vok _ _ _ 10 156 from ⟨_, rfl, rfl, w_1_1, w_5_227, (Or.inl ⟨P_sg 0 rfl, w_5_228, (Or.inl w_5_226)⟩)⟩) (P_all_nil)))) <|
  P_all_nil
set_option maxRecDepth 20000 in
theorem P_m285 : P_mst 285 3 (Option.some Jvm.ClassFile.FieldType.int) P_e285 [(0, 15, 1, 19, 2)] := P_meth (mx := 3) (rt := (Option.some Jvm.ClassFile.FieldType.int)) (hs := [(0, 15, 1, 19, 2)]) "OrchardQueryLaw" false method_18_code [(0, 15, 18, 15)] rfl rfl rfl rfl (by decide +kernel) (by decide +kernel) (fun _ => P_g285) (by decide) (fun _ _ => by decide +kernel) (fun q => by cases q) (P_all_cons (by decide +kernel) <| P_all_nil) P_l285 (by decide +kernel) P_k285 (fun pc _ E hE => P_hok_par P_ncok [(0, 15, 18, 15, 1, 19, 2)] [] (P_all_cons ⟨by decide, by decide, w_4_117, w_4_192, (Or.inr ⟨2, by decide +kernel, rfl, rfl⟩)⟩ (P_all_nil)) E hE P_all_nil rfl)
/-- OrchardQueryLaw.value(LOrchardQuery;I[J)I -/
def P_l286 : List (Nat × P_I) := [(4, .invokevirtual 70, 7, 1, 231, [], [])]
set_option maxRecDepth 20000 in
theorem P_k286 : ∀ q ∈ P_l286, P_lnk P_cl P_aty P_stat P_tx P_N0 P_Tb P_Y0 "OrchardQueryLaw" false method_19_code [(0, 9, 12, 15), (0, 9, 15, 21)] q.1 q.2.1 q.2.2.2.1 q.2.2.2.2.1 :=
  P_all_cons (P_lnk_vi (P_vall (l := P_v231) rfl (P_all_cons (show P_vok _ _ _ 10 157 from ⟨_, rfl, rfl, w_1_1, w_6_14, (Or.inl ⟨P_sg 1 rfl, w_6_15, (Or.inl w_6_13)⟩)⟩) (P_all_nil)))) <|
  P_all_nil
set_option maxRecDepth 20000 in
theorem P_m286 : P_mst 286 4 (Option.some Jvm.ClassFile.FieldType.int) P_e286 [(0, 9, 1, 13, 3), (0, 9, 2, 16, 3)] := P_meth (mx := 4) (rt := (Option.some Jvm.ClassFile.FieldType.int)) (hs := [(0, 9, 1, 13, 3), (0, 9, 2, 16, 3)]) "OrchardQueryLaw" false method_19_code [(0, 9, 12, 15), (0, 9, 15, 21)] rfl rfl rfl rfl (by decide +kernel) (by decide +kernel) (fun _ => P_g286) (by decide) (fun _ _ => by decide +kernel) (fun q => by cases q) (P_all_cons (by decide +kernel) <| P_all_nil) P_l286 (by decide +kernel) P_k286 (fun pc _ E hE => P_hok_par P_ncok [(0, 9, 12, 15, 1, 13, 3), (0, 9, 15, 21, 2, 16, 3)] [] (P_all_cons ⟨by decide, by decide, w_4_117, w_4_192, (Or.inr ⟨3, by decide +kernel, rfl, rfl⟩)⟩ (P_all_cons ⟨by decide, by decide, w_4_213, w_4_221, (Or.inr ⟨3, by decide +kernel, rfl, rfl⟩)⟩ (P_all_nil))) E hE P_all_nil rfl)
/-- OrchardQueryLaw.done(LOrchardQuery;I[J)I -/
def P_l287 : List (Nat × P_I) := [(4, .invokevirtual 73, 7, 1, 232, [], [])]
set_option maxRecDepth 20000 in
theorem P_k287 : ∀ q ∈ P_l287, P_lnk P_cl P_aty P_stat P_tx P_N0 P_Tb P_Y0 "OrchardQueryLaw" false method_20_code [(0, 9, 12, 15), (0, 9, 15, 13)] q.1 q.2.1 q.2.2.2.1 q.2.2.2.2.1 :=
  P_all_cons (P_lnk_vi (P_vall (l := P_v232) rfl (P_all_cons (show P_vok _ _ _ 10 158 from ⟨_, rfl, rfl, w_1_1, w_6_28, (Or.inl ⟨P_sg 1 rfl, w_6_29, (Or.inl w_6_27)⟩)⟩) (P_all_nil)))) <|
  P_all_nil
set_option maxRecDepth 20000 in
theorem P_m287 : P_mst 287 4 (Option.some Jvm.ClassFile.FieldType.int) P_e287 [(0, 9, 1, 13, 3), (0, 9, 0, 16, 3)] := P_meth (mx := 4) (rt := (Option.some Jvm.ClassFile.FieldType.int)) (hs := [(0, 9, 1, 13, 3), (0, 9, 0, 16, 3)]) "OrchardQueryLaw" false method_20_code [(0, 9, 12, 15), (0, 9, 15, 13)] rfl rfl rfl rfl (by decide +kernel) (by decide +kernel) (fun _ => P_g287) (by decide) (fun _ _ => by decide +kernel) (fun q => by cases q) (P_all_cons (by decide +kernel) <| P_all_nil) P_l287 (by decide +kernel) P_k287 (fun pc _ E hE => P_hok_par P_ncok [(0, 9, 12, 15, 1, 13, 3), (0, 9, 15, 13, 0, 16, 3)] [] (P_all_cons ⟨by decide, by decide, w_4_117, w_4_192, (Or.inr ⟨3, by decide +kernel, rfl, rfl⟩)⟩ (P_all_cons ⟨by decide, by decide, w_4_116, w_4_124, (Or.inr ⟨3, by decide +kernel, rfl, rfl⟩)⟩ (P_all_nil))) E hE P_all_nil rfl)
/-- OrchardQueryLaw.results(LOrchardQuery;[J)I -/
def P_l288 : List (Nat × P_I) := [(3, .invokevirtual 76, 6, 0, 233, [], [])]
set_option maxRecDepth 20000 in
theorem P_k288 : ∀ q ∈ P_l288, P_lnk P_cl P_aty P_stat P_tx P_N0 P_Tb P_Y0 "OrchardQueryLaw" false method_21_code [(0, 8, 11, 15)] q.1 q.2.1 q.2.2.2.1 q.2.2.2.2.1 :=
  P_all_cons (P_lnk_vi (P_vall (l := P_v233) rfl (P_all_cons (show P_vok _ _ _ 10 159 from ⟨_, rfl, rfl, w_1_1, w_6_36, (Or.inl ⟨P_sg 0 rfl, w_6_37, (Or.inl w_6_35)⟩)⟩) (P_all_nil)))) <|
  P_all_nil
set_option maxRecDepth 20000 in
theorem P_m288 : P_mst 288 3 (Option.some Jvm.ClassFile.FieldType.int) P_e288 [(0, 8, 1, 12, 2)] := P_meth (mx := 3) (rt := (Option.some Jvm.ClassFile.FieldType.int)) (hs := [(0, 8, 1, 12, 2)]) "OrchardQueryLaw" false method_21_code [(0, 8, 11, 15)] rfl rfl rfl rfl (by decide +kernel) (by decide +kernel) (fun _ => P_g288) (by decide) (fun _ _ => by decide +kernel) (fun q => by cases q) (P_all_cons (by decide +kernel) <| P_all_nil) P_l288 (by decide +kernel) P_k288 (fun pc _ E hE => P_hok_par P_ncok [(0, 8, 11, 15, 1, 12, 2)] [] (P_all_cons ⟨by decide, by decide, w_4_117, w_4_192, (Or.inr ⟨2, by decide +kernel, rfl, rfl⟩)⟩ (P_all_nil)) E hE P_all_nil rfl)
/-- OrchardQueryLaw.result(LOrchardQuery;II[J)I -/
def P_l289 : List (Nat × P_I) := [(5, .invokevirtual 79, 8, 2, 234, [], [])]
set_option maxRecDepth 20000 in
theorem P_k289 : ∀ q ∈ P_l289, P_lnk P_cl P_aty P_stat P_tx P_N0 P_Tb P_Y0 "OrchardQueryLaw" false method_22_code [(0, 10, 13, 15), (0, 10, 17, 21)] q.1 q.2.1 q.2.2.2.1 q.2.2.2.2.1 :=
  P_all_cons (P_lnk_vi (P_vall (l := P_v234) rfl (P_all_cons (show P_vok _ _ _ 10 160 from ⟨_, rfl, rfl, w_1_1, w_6_43, (Or.inl ⟨P_sg 2 rfl, w_6_44, (Or.inl w_6_42)⟩)⟩) (P_all_nil)))) <|
  P_all_nil
set_option maxRecDepth 20000 in
theorem P_m289 : P_mst 289 5 (Option.some Jvm.ClassFile.FieldType.int) P_e289 [(0, 10, 1, 15, 4), (0, 10, 2, 19, 4)] := P_meth (mx := 5) (rt := (Option.some Jvm.ClassFile.FieldType.int)) (hs := [(0, 10, 1, 15, 4), (0, 10, 2, 19, 4)]) "OrchardQueryLaw" false method_22_code [(0, 10, 13, 15), (0, 10, 17, 21)] rfl rfl rfl rfl (by decide +kernel) (by decide +kernel) (fun _ => P_g289) (by decide) (fun _ _ => by decide +kernel) (fun q => by cases q) (P_all_cons (by decide +kernel) <| P_all_nil) P_l289 (by decide +kernel) P_k289 (fun pc _ E hE => P_hok_par P_ncok [(0, 10, 13, 15, 1, 15, 4), (0, 10, 17, 21, 2, 19, 4)] [] (P_all_cons ⟨by decide, by decide, w_4_117, w_4_192, (Or.inl ⟨by decide +kernel, rfl⟩)⟩ (P_all_cons ⟨by decide, by decide, w_4_213, w_4_221, (Or.inl ⟨by decide +kernel, rfl⟩)⟩ (P_all_nil))) E hE P_all_nil rfl)
/-- OrchardQueryLaw.wouldDo(LOrchardQuery;I[J)I -/
def P_l290 : List (Nat × P_I) := [(4, .invokevirtual 82, 7, 1, 235, [], [])]
set_option maxRecDepth 20000 in
theorem P_k290 : ∀ q ∈ P_l290, P_lnk P_cl P_aty P_stat P_tx P_N0 P_Tb P_Y0 "OrchardQueryLaw" false method_23_code [(0, 9, 12, 15), (0, 9, 15, 13)] q.1 q.2.1 q.2.2.2.1 q.2.2.2.2.1 :=
  P_all_cons (P_lnk_vi (P_vall (l := P_v235) rfl (P_all_cons (show P_vok _ _ _ 10 161 from ⟨_, rfl, rfl, w_1_1, w_6_51, (Or.inl ⟨P_sg 1 rfl, w_6_52, (Or.inl w_6_50)⟩)⟩) (P_all_nil)))) <|
  P_all_nil
set_option maxRecDepth 20000 in
theorem P_m290 : P_mst 290 4 (Option.some Jvm.ClassFile.FieldType.int) P_e290 [(0, 9, 1, 13, 3), (0, 9, 0, 16, 3)] := P_meth (mx := 4) (rt := (Option.some Jvm.ClassFile.FieldType.int)) (hs := [(0, 9, 1, 13, 3), (0, 9, 0, 16, 3)]) "OrchardQueryLaw" false method_23_code [(0, 9, 12, 15), (0, 9, 15, 13)] rfl rfl rfl rfl (by decide +kernel) (by decide +kernel) (fun _ => P_g290) (by decide) (fun _ _ => by decide +kernel) (fun q => by cases q) (P_all_cons (by decide +kernel) <| P_all_nil) P_l290 (by decide +kernel) P_k290 (fun pc _ E hE => P_hok_par P_ncok [(0, 9, 12, 15, 1, 13, 3), (0, 9, 15, 13, 0, 16, 3)] [] (P_all_cons ⟨by decide, by decide, w_4_117, w_4_192, (Or.inr ⟨3, by decide +kernel, rfl, rfl⟩)⟩ (P_all_cons ⟨by decide, by decide, w_4_116, w_4_124, (Or.inr ⟨3, by decide +kernel, rfl, rfl⟩)⟩ (P_all_nil))) E hE P_all_nil rfl)
/-- OrchardQueryLaw.meetingsWithout(LOrchardQuery;I[J)I -/
def P_l291 : List (Nat × P_I) := [(4, .invokevirtual 85, 7, 1, 236, [], [])]
set_option maxRecDepth 20000 in
theorem P_k291 : ∀ q ∈ P_l291, P_lnk P_cl P_aty P_stat P_tx P_N0 P_Tb P_Y0 "OrchardQueryLaw" false method_24_code [(0, 9, 12, 15), (0, 9, 15, 21)] q.1 q.2.1 q.2.2.2.1 q.2.2.2.2.1 :=
  P_all_cons (P_lnk_vi (P_vall (l := P_v236) rfl (P_all_cons (show P_vok _ _ _ 10 162 from ⟨_, rfl, rfl, w_1_1, w_6_59, (Or.inl ⟨P_sg 1 rfl, w_6_60, (Or.inl w_6_58)⟩)⟩) (P_all_nil)))) <|
  P_all_nil
set_option maxRecDepth 20000 in
theorem P_m291 : P_mst 291 4 (Option.some Jvm.ClassFile.FieldType.int) P_e291 [(0, 9, 1, 13, 3), (0, 9, 2, 16, 3)] := P_meth (mx := 4) (rt := (Option.some Jvm.ClassFile.FieldType.int)) (hs := [(0, 9, 1, 13, 3), (0, 9, 2, 16, 3)]) "OrchardQueryLaw" false method_24_code [(0, 9, 12, 15), (0, 9, 15, 21)] rfl rfl rfl rfl (by decide +kernel) (by decide +kernel) (fun _ => P_g291) (by decide) (fun _ _ => by decide +kernel) (fun q => by cases q) (P_all_cons (by decide +kernel) <| P_all_nil) P_l291 (by decide +kernel) P_k291 (fun pc _ E hE => P_hok_par P_ncok [(0, 9, 12, 15, 1, 13, 3), (0, 9, 15, 21, 2, 16, 3)] [] (P_all_cons ⟨by decide, by decide, w_4_117, w_4_192, (Or.inr ⟨3, by decide +kernel, rfl, rfl⟩)⟩ (P_all_cons ⟨by decide, by decide, w_4_213, w_4_221, (Or.inr ⟨3, by decide +kernel, rfl, rfl⟩)⟩ (P_all_nil))) E hE P_all_nil rfl)
/-- OrchardQueryLaw.share(LOrchardQuery;[D)I -/
def P_l292 : List (Nat × P_I) := [(3, .invokevirtual 88, 6, 0, 237, [], [])]
set_option maxRecDepth 20000 in
theorem P_k292 : ∀ q ∈ P_l292, P_lnk P_cl P_aty P_stat P_tx P_N0 P_Tb P_Y0 "OrchardQueryLaw" false method_25_code [(0, 7, 10, 15)] q.1 q.2.1 q.2.2.2.1 q.2.2.2.2.1 :=
  P_all_cons (P_lnk_vi (P_vall (l := P_v237) rfl (P_all_cons (show P_vok _ _ _ 10 163 from ⟨_, rfl, rfl, w_1_1, w_6_76, (Or.inl ⟨P_sg 0 rfl, w_6_77, (Or.inl w_6_75)⟩)⟩) (P_all_nil)))) <|
  P_all_nil
set_option maxRecDepth 20000 in
theorem P_m292 : P_mst 292 3 (Option.some Jvm.ClassFile.FieldType.int) P_e292 [(0, 7, 1, 11, 2)] := P_meth (mx := 3) (rt := (Option.some Jvm.ClassFile.FieldType.int)) (hs := [(0, 7, 1, 11, 2)]) "OrchardQueryLaw" false method_25_code [(0, 7, 10, 15)] rfl rfl rfl rfl (by decide +kernel) (by decide +kernel) (fun _ => P_g292) (by decide) (fun _ _ => by decide +kernel) (fun q => by cases q) (P_all_cons (by decide +kernel) <| P_all_nil) P_l292 (by decide +kernel) P_k292 (fun pc _ E hE => P_hok_par P_ncok [(0, 7, 10, 15, 1, 11, 2)] [] (P_all_cons ⟨by decide, by decide, w_4_117, w_4_192, (Or.inr ⟨2, by decide +kernel, rfl, rfl⟩)⟩ (P_all_nil)) E hE P_all_nil rfl)
