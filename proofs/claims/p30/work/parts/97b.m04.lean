/-! TABLES of this claim, written by wip/gen.py: methods -/
/-- OrchardQueryLaw$Grove.plan()V -/
def P_l193 : List (Nat × P_I) := [(2, .putfield 129, 5, 11, 13, [], []), (7, .newarray .int, 9, 0, 0, [], []), (9, .putfield 49, 12, 11, 12, [], []), (16, .getfield 31, 19, 11, 7, [], []), (25, .getfield 49, 28, 11, 12, [], []), (29, .invokestatic 78, 32, 2, 183, [], []), (32, .putfield 49, 35, 11, 12, [], [])]
set_option maxRecDepth 20000 in
theorem P_k193 : ∀ q ∈ P_l193, P_lnk P_cl P_aty P_stat P_tx P_N0 P_Tb P_Y0 "OrchardQueryLaw$Grove" false prog_14_method_13_code [] q.1 q.2.1 q.2.2.2.1 q.2.2.2.2.1 :=
  P_all_cons (P_lnk_put (P_s1 (c := 11) (P := fun ci => P_pok P_cl P_Tb "OrchardQueryLaw$Grove" false 129 ci 13) rfl ⟨_, _, _, "OrchardQueryLaw$Grove", rfl, by decide, (Or.inl rfl), (Or.inl ⟨w_4_217, (Or.inl rfl)⟩)⟩)) <|
  P_all_cons (P_lnk_nwa rfl w_3_158) <|
  P_all_cons (P_lnk_put (P_s1 (c := 11) (P := fun ci => P_pok P_cl P_Tb "OrchardQueryLaw$Grove" false 49 ci 12) rfl ⟨_, _, _, "OrchardQueryLaw$Grove", rfl, by decide, (Or.inl rfl), (Or.inl ⟨w_4_216, (Or.inl rfl)⟩)⟩)) <|
  P_all_cons (P_lnk_get (P_s1 (c := 11) (P := fun ci => P_fok P_cl P_Tb "OrchardQueryLaw$Grove" 31 ci 7) rfl ⟨_, _, _, "OrchardQueryLaw$Grove", rfl, by decide, (Or.inl rfl), (Or.inl w_4_207)⟩)) <|
  P_all_cons (P_lnk_get (P_s1 (c := 11) (P := fun ci => P_fok P_cl P_Tb "OrchardQueryLaw$Grove" 49 ci 12) rfl ⟨_, _, _, "OrchardQueryLaw$Grove", rfl, by decide, (Or.inl rfl), (Or.inl w_4_216)⟩)) <|
  P_all_cons (P_lnk_st (by decide) (fun _ => ⟨P_sg 2 rfl, w_1_1, w_5_71, (Or.inl w_5_70)⟩)) <|
  P_all_cons (P_lnk_put (P_s1 (c := 11) (P := fun ci => P_pok P_cl P_Tb "OrchardQueryLaw$Grove" false 49 ci 12) rfl ⟨_, _, _, "OrchardQueryLaw$Grove", rfl, by decide, (Or.inl rfl), (Or.inl ⟨w_4_216, (Or.inl rfl)⟩)⟩)) <|
  P_all_nil
set_option maxRecDepth 20000 in
theorem P_m193 : P_mstC 193 2 (Option.none : Option Jvm.ClassFile.FieldType) P_e193 [] := P_meth (mx := 2) (rt := (Option.none : Option Jvm.ClassFile.FieldType)) (hs := []) "OrchardQueryLaw$Grove" false prog_14_method_13_code [] rfl rfl rfl rfl (by decide +kernel) (by decide +kernel) (fun _ => P_g193) (by decide) (fun _ _ => by decide +kernel) (fun q => by cases q) (P_all_cons (by decide +kernel) <| P_all_cons (by decide +kernel) <| P_all_nil) P_l193 (by decide +kernel) P_k193 (fun _ _ => P_hok_nil)
/-- OrchardQueryLaw$Grove.placeOf(I)I -/
def P_l194 : List (Nat × P_I) := [(3, .getfield 49, 6, 11, 12, [], [])]
set_option maxRecDepth 20000 in
theorem P_k194 : ∀ q ∈ P_l194, P_lnk P_cl P_aty P_stat P_tx P_N0 P_Tb P_Y0 "OrchardQueryLaw$Grove" false prog_14_method_14_code [] q.1 q.2.1 q.2.2.2.1 q.2.2.2.2.1 :=
  P_all_cons (P_lnk_get (P_s1 (c := 11) (P := fun ci => P_fok P_cl P_Tb "OrchardQueryLaw$Grove" 49 ci 12) rfl ⟨_, _, _, "OrchardQueryLaw$Grove", rfl, by decide, (Or.inl rfl), (Or.inl w_4_216)⟩)) <|
  P_all_nil
set_option maxRecDepth 20000 in
theorem P_m194 : P_mstC 194 3 (Option.some Jvm.ClassFile.FieldType.int) P_e194 [] := P_meth (mx := 3) (rt := (Option.some Jvm.ClassFile.FieldType.int)) (hs := []) "OrchardQueryLaw$Grove" false prog_14_method_14_code [] rfl rfl rfl rfl (by decide +kernel) (by decide +kernel) (fun _ => P_g194) (by decide) (fun _ _ => by decide +kernel) (fun q => by cases q) (P_all_cons (by decide +kernel) <| P_all_nil) P_l194 (by decide +kernel) P_k194 (fun _ _ => P_hok_nil)
/-- OrchardQueryLaw$Grove.low([I)I -/
def P_l195 : List (Nat × P_I) := [(13, .invokevirtual 133, 16, 1, 166, [], []), (20, .invokevirtual 133, 23, 1, 166, [], []), (23, .invokestatic 136, 26, 2, 9001, [], []), (33, .invokevirtual 133, 36, 1, 166, [], [])]
set_option maxRecDepth 20000 in
theorem P_k195 : ∀ q ∈ P_l195, P_lnk P_cl P_aty P_stat P_tx P_N0 P_Tb P_Y0 "OrchardQueryLaw$Grove" false prog_14_method_15_code [] q.1 q.2.1 q.2.2.2.1 q.2.2.2.2.1 :=
  P_all_cons (P_lnk_vi (P_vall (l := P_v166) rfl (P_all_cons (show P_vok _ _ _ 11 194 from ⟨_, rfl, rfl, w_1_1, w_6_54, (Or.inl ⟨P_sg 1 rfl, w_6_55, (Or.inl w_6_53)⟩)⟩) (P_all_nil)))) <|
  P_all_cons (P_lnk_vi (P_vall (l := P_v166) rfl (P_all_cons (show P_vok _ _ _ 11 194 from ⟨_, rfl, rfl, w_1_1, w_6_54, (Or.inl ⟨P_sg 1 rfl, w_6_55, (Or.inl w_6_53)⟩)⟩) (P_all_nil)))) <|
  P_all_cons (P_lnk_sj ⟨by decide, by decide⟩ ⟨fun _ => ⟨w_6_57, w_1_202, w_1_21, w_1_203⟩, (fun q => absurd q (by decide))⟩) <|
  P_all_cons (P_lnk_vi (P_vall (l := P_v166) rfl (P_all_cons (show P_vok _ _ _ 11 194 from ⟨_, rfl, rfl, w_1_1, w_6_54, (Or.inl ⟨P_sg 1 rfl, w_6_55, (Or.inl w_6_53)⟩)⟩) (P_all_nil)))) <|
  P_all_nil
set_option maxRecDepth 20000 in
theorem P_m195 : P_mstC 195 2 (Option.some Jvm.ClassFile.FieldType.int) P_e195 [] := P_meth (mx := 2) (rt := (Option.some Jvm.ClassFile.FieldType.int)) (hs := []) "OrchardQueryLaw$Grove" false prog_14_method_15_code [] rfl rfl rfl rfl (by decide +kernel) (by decide +kernel) (fun _ => P_g195) (by decide) (fun _ _ => by decide +kernel) (fun q => by cases q) (P_all_cons (by decide +kernel) <| P_all_cons (by decide +kernel) <| P_all_nil) P_l195 (by decide +kernel) P_k195 (fun _ _ => P_hok_nil)
/-- OrchardQueryLaw$Grove.varietyOf(I)I -/
def P_l196 : List (Nat × P_I) := [(1, .getfield 31, 4, 11, 7, [], []), (21, .getfield 18, 24, 11, 3, [], []), (46, .getfield 18, 49, 11, 3, [], []), (60, .getfield 18, 63, 11, 3, [], [])]
set_option maxRecDepth 20000 in
theorem P_k196 : ∀ q ∈ P_l196, P_lnk P_cl P_aty P_stat P_tx P_N0 P_Tb P_Y0 "OrchardQueryLaw$Grove" false prog_14_method_17_code [] q.1 q.2.1 q.2.2.2.1 q.2.2.2.2.1 :=
  P_all_cons (P_lnk_get (P_s1 (c := 11) (P := fun ci => P_fok P_cl P_Tb "OrchardQueryLaw$Grove" 31 ci 7) rfl ⟨_, _, _, "OrchardQueryLaw$Grove", rfl, by decide, (Or.inl rfl), (Or.inl w_4_207)⟩)) <|
  P_all_cons (P_lnk_get (P_s1 (c := 11) (P := fun ci => P_fok P_cl P_Tb "OrchardQueryLaw$Grove" 18 ci 3) rfl ⟨_, _, _, "OrchardQueryLaw$Grove", rfl, by decide, (Or.inl rfl), (Or.inl w_4_201)⟩)) <|
  P_all_cons (P_lnk_get (P_s1 (c := 11) (P := fun ci => P_fok P_cl P_Tb "OrchardQueryLaw$Grove" 18 ci 3) rfl ⟨_, _, _, "OrchardQueryLaw$Grove", rfl, by decide, (Or.inl rfl), (Or.inl w_4_201)⟩)) <|
  P_all_cons (P_lnk_get (P_s1 (c := 11) (P := fun ci => P_fok P_cl P_Tb "OrchardQueryLaw$Grove" 18 ci 3) rfl ⟨_, _, _, "OrchardQueryLaw$Grove", rfl, by decide, (Or.inl rfl), (Or.inl w_4_201)⟩)) <|
  P_all_nil
set_option maxRecDepth 20000 in
theorem P_m196 : P_mstC 196 7 (Option.some Jvm.ClassFile.FieldType.int) P_e196 [] := P_meth (mx := 7) (rt := (Option.some Jvm.ClassFile.FieldType.int)) (hs := []) "OrchardQueryLaw$Grove" false prog_14_method_17_code [] rfl rfl rfl rfl (by decide +kernel) (by decide +kernel) (fun _ => P_g196) (by decide) (fun _ _ => by decide +kernel) (fun q => by cases q) (P_all_cons (by decide +kernel) <| P_all_cons (by decide +kernel) <| P_all_cons (by decide +kernel) <| P_all_cons (by decide +kernel) <| P_all_nil) P_l196 (by decide +kernel) P_k196 (fun _ _ => P_hok_nil)
/-- OrchardQueryLaw$Grove.part([I)I -/
def P_l197 : List (Nat × P_I) := [(16, .invokevirtual 141, 19, 1, 167, [], []), (34, .invokevirtual 141, 37, 1, 167, [], []), (37, .invokestatic 136, 40, 2, 9001, [], [])]
set_option maxRecDepth 20000 in
theorem P_k197 : ∀ q ∈ P_l197, P_lnk P_cl P_aty P_stat P_tx P_N0 P_Tb P_Y0 "OrchardQueryLaw$Grove" false prog_14_method_18_code [] q.1 q.2.1 q.2.2.2.1 q.2.2.2.2.1 :=
  P_all_cons (P_lnk_vi (P_vall (l := P_v167) rfl (P_all_cons (show P_vok _ _ _ 11 196 from ⟨_, rfl, rfl, w_1_1, w_6_157, (Or.inl ⟨P_sg 1 rfl, w_6_158, (Or.inl w_6_156)⟩)⟩) (P_all_nil)))) <|
  P_all_cons (P_lnk_vi (P_vall (l := P_v167) rfl (P_all_cons (show P_vok _ _ _ 11 196 from ⟨_, rfl, rfl, w_1_1, w_6_157, (Or.inl ⟨P_sg 1 rfl, w_6_158, (Or.inl w_6_156)⟩)⟩) (P_all_nil)))) <|
  P_all_cons (P_lnk_sj ⟨by decide, by decide⟩ ⟨fun _ => ⟨w_6_57, w_1_202, w_1_21, w_1_203⟩, (fun q => absurd q (by decide))⟩) <|
  P_all_nil
set_option maxRecDepth 20000 in
theorem P_m197 : P_mstC 197 4 (Option.some Jvm.ClassFile.FieldType.int) P_e197 [] := P_meth (mx := 4) (rt := (Option.some Jvm.ClassFile.FieldType.int)) (hs := []) "OrchardQueryLaw$Grove" false prog_14_method_18_code [] rfl rfl rfl rfl (by decide +kernel) (by decide +kernel) (fun _ => P_g197) (by decide) (fun _ _ => by decide +kernel) (fun q => by cases q) (P_all_cons (by decide +kernel) <| P_all_cons (by decide +kernel) <| P_all_cons (by decide +kernel) <| P_all_nil) P_l197 (by decide +kernel) P_k197 (fun _ _ => P_hok_nil)
/-- OrchardQueryLaw$Grove.guess(I)J -/
def P_l198 : List (Nat × P_I) := [(10, .invokevirtual 144, 13, 1, 168, [], []), (14, .getfield 18, 17, 11, 3, [], []), (18, .getfield 31, 21, 11, 7, [], []), (22, .getfield 49, 25, 11, 12, [], []), (34, .getfield 45, 37, 11, 11, [], []), (73, .invokevirtual 148, 76, 1, 169, [], []), (78, .ldc2_w 152, 81, 1000, 0, [], [])]
set_option maxRecDepth 20000 in
theorem P_k198 : ∀ q ∈ P_l198, P_lnk P_cl P_aty P_stat P_tx P_N0 P_Tb P_Y0 "OrchardQueryLaw$Grove" false prog_14_method_19_code [] q.1 q.2.1 q.2.2.2.1 q.2.2.2.2.1 :=
  P_all_cons (P_lnk_vi (P_vall (l := P_v168) rfl (P_all_cons (show P_vok _ _ _ 11 198 from ⟨_, rfl, rfl, w_1_1, w_6_149, (Or.inl ⟨P_sg 1 rfl, w_6_150, (Or.inl w_6_148)⟩)⟩) (P_all_nil)))) <|
  P_all_cons (P_lnk_get (P_s1 (c := 11) (P := fun ci => P_fok P_cl P_Tb "OrchardQueryLaw$Grove" 18 ci 3) rfl ⟨_, _, _, "OrchardQueryLaw$Grove", rfl, by decide, (Or.inl rfl), (Or.inl w_4_201)⟩)) <|
  P_all_cons (P_lnk_get (P_s1 (c := 11) (P := fun ci => P_fok P_cl P_Tb "OrchardQueryLaw$Grove" 31 ci 7) rfl ⟨_, _, _, "OrchardQueryLaw$Grove", rfl, by decide, (Or.inl rfl), (Or.inl w_4_207)⟩)) <|
  P_all_cons (P_lnk_get (P_s1 (c := 11) (P := fun ci => P_fok P_cl P_Tb "OrchardQueryLaw$Grove" 49 ci 12) rfl ⟨_, _, _, "OrchardQueryLaw$Grove", rfl, by decide, (Or.inl rfl), (Or.inl w_4_216)⟩)) <|
  P_all_cons (P_lnk_get (P_s1 (c := 11) (P := fun ci => P_fok P_cl P_Tb "OrchardQueryLaw$Grove" 45 ci 11) rfl ⟨_, _, _, "OrchardQueryLaw$Grove", rfl, by decide, (Or.inl rfl), (Or.inl w_4_215)⟩)) <|
  P_all_cons (P_lnk_vi (P_vall (l := P_v169) rfl (P_all_cons (show P_vok _ _ _ 11 197 from ⟨_, rfl, rfl, w_1_1, w_6_153, (Or.inl ⟨P_sg 1 rfl, w_6_154, (Or.inl w_6_152)⟩)⟩) (P_all_nil)))) <|
  P_all_cons (P_lnk_ldl w_6_160) <|
  P_all_nil
set_option maxRecDepth 20000 in
theorem P_m198 : P_mstC 198 8 (Option.some Jvm.ClassFile.FieldType.long) P_e198 [] := P_meth (mx := 8) (rt := (Option.some Jvm.ClassFile.FieldType.long)) (hs := []) "OrchardQueryLaw$Grove" false prog_14_method_19_code [] rfl rfl rfl rfl (by decide +kernel) (by decide +kernel) (fun _ => P_g198) (by decide) (fun _ _ => by decide +kernel) (fun q => by cases q) (P_all_cons (by decide +kernel) <| P_all_cons (by decide +kernel) <| P_all_cons (by decide +kernel) <| P_all_nil) P_l198 (by decide +kernel) P_k198 (fun _ _ => P_hok_nil)
/-- OrchardQueryLaw$Grove.cost()J -/
def P_l199 : List (Nat × P_I) := [(6, .getfield 49, 9, 11, 12, [], []), (14, .getfield 129, 17, 11, 13, [], []), (25, .invokevirtual 144, 28, 1, 168, [], []), (29, .getfield 18, 32, 11, 3, [], []), (33, .getfield 31, 36, 11, 7, [], []), (37, .getfield 49, 40, 11, 12, [], [])]
set_option maxRecDepth 20000 in
theorem P_k199 : ∀ q ∈ P_l199, P_lnk P_cl P_aty P_stat P_tx P_N0 P_Tb P_Y0 "OrchardQueryLaw$Grove" false prog_14_method_20_code [] q.1 q.2.1 q.2.2.2.1 q.2.2.2.2.1 :=
  P_all_cons (P_lnk_get (P_s1 (c := 11) (P := fun ci => P_fok P_cl P_Tb "OrchardQueryLaw$Grove" 49 ci 12) rfl ⟨_, _, _, "OrchardQueryLaw$Grove", rfl, by decide, (Or.inl rfl), (Or.inl w_4_216)⟩)) <|
  P_all_cons (P_lnk_get (P_s1 (c := 11) (P := fun ci => P_fok P_cl P_Tb "OrchardQueryLaw$Grove" 129 ci 13) rfl ⟨_, _, _, "OrchardQueryLaw$Grove", rfl, by decide, (Or.inl rfl), (Or.inl w_4_217)⟩)) <|
  P_all_cons (P_lnk_vi (P_vall (l := P_v168) rfl (P_all_cons (show P_vok _ _ _ 11 198 from ⟨_, rfl, rfl, w_1_1, w_6_149, (Or.inl ⟨P_sg 1 rfl, w_6_150, (Or.inl w_6_148)⟩)⟩) (P_all_nil)))) <|
  P_all_cons (P_lnk_get (P_s1 (c := 11) (P := fun ci => P_fok P_cl P_Tb "OrchardQueryLaw$Grove" 18 ci 3) rfl ⟨_, _, _, "OrchardQueryLaw$Grove", rfl, by decide, (Or.inl rfl), (Or.inl w_4_201)⟩)) <|
  P_all_cons (P_lnk_get (P_s1 (c := 11) (P := fun ci => P_fok P_cl P_Tb "OrchardQueryLaw$Grove" 31 ci 7) rfl ⟨_, _, _, "OrchardQueryLaw$Grove", rfl, by decide, (Or.inl rfl), (Or.inl w_4_207)⟩)) <|
  P_all_cons (P_lnk_get (P_s1 (c := 11) (P := fun ci => P_fok P_cl P_Tb "OrchardQueryLaw$Grove" 49 ci 12) rfl ⟨_, _, _, "OrchardQueryLaw$Grove", rfl, by decide, (Or.inl rfl), (Or.inl w_4_216)⟩)) <|
  P_all_nil
set_option maxRecDepth 20000 in
theorem P_m199 : P_mstC 199 4 (Option.some Jvm.ClassFile.FieldType.long) P_e199 [] := P_meth (mx := 4) (rt := (Option.some Jvm.ClassFile.FieldType.long)) (hs := []) "OrchardQueryLaw$Grove" false prog_14_method_20_code [] rfl rfl rfl rfl (by decide +kernel) (by decide +kernel) (fun _ => P_g199) (by decide) (fun _ _ => by decide +kernel) (fun q => by cases q) (P_all_cons (by decide +kernel) <| P_all_cons (by decide +kernel) <| P_all_nil) P_l199 (by decide +kernel) P_k199 (fun _ _ => P_hok_nil)
/-- OrchardQueryLaw$Grove.hasNumber(II)Z -/
def P_l200 : List (Nat × P_I) := [(1, .getfield 45, 4, 11, 11, [], [])]
set_option maxRecDepth 20000 in
theorem P_k200 : ∀ q ∈ P_l200, P_lnk P_cl P_aty P_stat P_tx P_N0 P_Tb P_Y0 "OrchardQueryLaw$Grove" false prog_14_method_21_code [] q.1 q.2.1 q.2.2.2.1 q.2.2.2.2.1 :=
  P_all_cons (P_lnk_get (P_s1 (c := 11) (P := fun ci => P_fok P_cl P_Tb "OrchardQueryLaw$Grove" 45 ci 11) rfl ⟨_, _, _, "OrchardQueryLaw$Grove", rfl, by decide, (Or.inl rfl), (Or.inl w_4_215)⟩)) <|
  P_all_nil
set_option maxRecDepth 20000 in
theorem P_m200 : P_mstC 200 7 (Option.some Jvm.ClassFile.FieldType.boolean) P_e200 [] := P_meth (mx := 7) (rt := (Option.some Jvm.ClassFile.FieldType.boolean)) (hs := []) "OrchardQueryLaw$Grove" false prog_14_method_21_code [] rfl rfl rfl rfl (by decide +kernel) (by decide +kernel) (fun _ => P_g200) (by decide) (fun _ _ => by decide +kernel) (fun q => by cases q) (P_all_cons (by decide +kernel) <| P_all_cons (by decide +kernel) <| P_all_nil) P_l200 (by decide +kernel) P_k200 (fun _ _ => P_hok_nil)
/-- OrchardQueryLaw$Grove.once(I)Z -/
def P_l201 : List (Nat × P_I) := [(4, .getfield 45, 7, 11, 11, [], []), (12, .getfield 45, 15, 11, 11, [], []), (53, .getfield 45, 56, 11, 11, [], []), (57, .invokestatic 93, 60, 2, 185, [], []), (60, .putfield 45, 63, 11, 11, [], []), (75, .invokevirtual 154, 78, 1, 170, [], []), (85, .invokevirtual 154, 88, 1, 170, [], []), (97, .getfield 129, 100, 11, 13, [], []), (119, .putfield 129, 122, 11, 13, [], []), (124, .getfield 45, 127, 11, 11, [], []), (183, .getfield 129, 186, 11, 13, [], []), (234, .putfield 129, 237, 11, 13, [], []), (271, .getfield 45, 274, 11, 11, [], []), (330, .invokevirtual 157, 333, 2, 171, [], []), (340, .newarray .int, 342, 0, 0, [], []), (362, .getfield 49, 365, 11, 12, [], []), (373, .getfield 45, 376, 11, 11, [], []), (377, .getfield 45, 380, 11, 11, [], []), (383, .invokestatic 85, 386, 3, 184, [], []), (386, .putfield 45, 389, 11, 11, [], [])]
set_option maxRecDepth 20000 in
theorem P_k201 : ∀ q ∈ P_l201, P_lnk P_cl P_aty P_stat P_tx P_N0 P_Tb P_Y0 "OrchardQueryLaw$Grove" false prog_14_method_22_code [] q.1 q.2.1 q.2.2.2.1 q.2.2.2.2.1 :=
  P_all_cons (P_lnk_get (P_s1 (c := 11) (P := fun ci => P_fok P_cl P_Tb "OrchardQueryLaw$Grove" 45 ci 11) rfl ⟨_, _, _, "OrchardQueryLaw$Grove", rfl, by decide, (Or.inl rfl), (Or.inl w_4_215)⟩)) <|
  P_all_cons (P_lnk_get (P_s1 (c := 11) (P := fun ci => P_fok P_cl P_Tb "OrchardQueryLaw$Grove" 45 ci 11) rfl ⟨_, _, _, "OrchardQueryLaw$Grove", rfl, by decide, (Or.inl rfl), (Or.inl w_4_215)⟩)) <|
  P_all_cons (P_lnk_get (P_s1 (c := 11) (P := fun ci => P_fok P_cl P_Tb "OrchardQueryLaw$Grove" 45 ci 11) rfl ⟨_, _, _, "OrchardQueryLaw$Grove", rfl, by decide, (Or.inl rfl), (Or.inl w_4_215)⟩)) <|
  P_all_cons (P_lnk_st (by decide) (fun _ => ⟨P_sg 2 rfl, w_1_1, w_5_29, (Or.inl w_5_28)⟩)) <|
  P_all_cons (P_lnk_put (P_s1 (c := 11) (P := fun ci => P_pok P_cl P_Tb "OrchardQueryLaw$Grove" false 45 ci 11) rfl ⟨_, _, _, "OrchardQueryLaw$Grove", rfl, by decide, (Or.inl rfl), (Or.inl ⟨w_4_215, (Or.inl rfl)⟩)⟩)) <|
  P_all_cons (P_lnk_vi (P_vall (l := P_v170) rfl (P_all_cons (show P_vok _ _ _ 11 195 from ⟨_, rfl, rfl, w_1_1, w_6_50, (Or.inl ⟨P_sg 1 rfl, w_6_51, (Or.inl w_6_49)⟩)⟩) (P_all_nil)))) <|
  P_all_cons (P_lnk_vi (P_vall (l := P_v170) rfl (P_all_cons (show P_vok _ _ _ 11 195 from ⟨_, rfl, rfl, w_1_1, w_6_50, (Or.inl ⟨P_sg 1 rfl, w_6_51, (Or.inl w_6_49)⟩)⟩) (P_all_nil)))) <|
  P_all_cons (P_lnk_get (P_s1 (c := 11) (P := fun ci => P_fok P_cl P_Tb "OrchardQueryLaw$Grove" 129 ci 13) rfl ⟨_, _, _, "OrchardQueryLaw$Grove", rfl, by decide, (Or.inl rfl), (Or.inl w_4_217)⟩)) <|
  P_all_cons (P_lnk_put (P_s1 (c := 11) (P := fun ci => P_pok P_cl P_Tb "OrchardQueryLaw$Grove" false 129 ci 13) rfl ⟨_, _, _, "OrchardQueryLaw$Grove", rfl, by decide, (Or.inl rfl), (Or.inl ⟨w_4_217, (Or.inl rfl)⟩)⟩)) <|
  P_all_cons (P_lnk_get (P_s1 (c := 11) (P := fun ci => P_fok P_cl P_Tb "OrchardQueryLaw$Grove" 45 ci 11) rfl ⟨_, _, _, "OrchardQueryLaw$Grove", rfl, by decide, (Or.inl rfl), (Or.inl w_4_215)⟩)) <|
  P_all_cons (P_lnk_get (P_s1 (c := 11) (P := fun ci => P_fok P_cl P_Tb "OrchardQueryLaw$Grove" 129 ci 13) rfl ⟨_, _, _, "OrchardQueryLaw$Grove", rfl, by decide, (Or.inl rfl), (Or.inl w_4_217)⟩)) <|
  P_all_cons (P_lnk_put (P_s1 (c := 11) (P := fun ci => P_pok P_cl P_Tb "OrchardQueryLaw$Grove" false 129 ci 13) rfl ⟨_, _, _, "OrchardQueryLaw$Grove", rfl, by decide, (Or.inl rfl), (Or.inl ⟨w_4_217, (Or.inl rfl)⟩)⟩)) <|
  P_all_cons (P_lnk_get (P_s1 (c := 11) (P := fun ci => P_fok P_cl P_Tb "OrchardQueryLaw$Grove" 45 ci 11) rfl ⟨_, _, _, "OrchardQueryLaw$Grove", rfl, by decide, (Or.inl rfl), (Or.inl w_4_215)⟩)) <|
  P_all_cons (P_lnk_vi (P_vall (l := P_v171) rfl (P_all_cons (show P_vok _ _ _ 11 200 from ⟨_, rfl, rfl, w_1_1, w_6_60, (Or.inl ⟨P_sg 2 rfl, w_p_38, (Or.inl w_6_58)⟩)⟩) (P_all_nil)))) <|
  P_all_cons (P_lnk_nwa rfl w_3_158) <|
  P_all_cons (P_lnk_get (P_s1 (c := 11) (P := fun ci => P_fok P_cl P_Tb "OrchardQueryLaw$Grove" 49 ci 12) rfl ⟨_, _, _, "OrchardQueryLaw$Grove", rfl, by decide, (Or.inl rfl), (Or.inl w_4_216)⟩)) <|
  P_all_cons (P_lnk_get (P_s1 (c := 11) (P := fun ci => P_fok P_cl P_Tb "OrchardQueryLaw$Grove" 45 ci 11) rfl ⟨_, _, _, "OrchardQueryLaw$Grove", rfl, by decide, (Or.inl rfl), (Or.inl w_4_215)⟩)) <|
  P_all_cons (P_lnk_get (P_s1 (c := 11) (P := fun ci => P_fok P_cl P_Tb "OrchardQueryLaw$Grove" 45 ci 11) rfl ⟨_, _, _, "OrchardQueryLaw$Grove", rfl, by decide, (Or.inl rfl), (Or.inl w_4_215)⟩)) <|
  P_all_cons (P_lnk_st (by decide) (fun _ => ⟨P_sg 3 rfl, w_1_1, w_5_88, (Or.inl w_5_87)⟩)) <|
  P_all_cons (P_lnk_put (P_s1 (c := 11) (P := fun ci => P_pok P_cl P_Tb "OrchardQueryLaw$Grove" false 45 ci 11) rfl ⟨_, _, _, "OrchardQueryLaw$Grove", rfl, by decide, (Or.inl rfl), (Or.inl ⟨w_4_215, (Or.inl rfl)⟩)⟩)) <|
  P_all_nil
set_option maxRecDepth 20000 in
theorem P_m201 : P_mstC 201 12 (Option.some Jvm.ClassFile.FieldType.boolean) P_e201 [] := P_meth (mx := 12) (rt := (Option.some Jvm.ClassFile.FieldType.boolean)) (hs := []) "OrchardQueryLaw$Grove" false prog_14_method_22_code [] rfl rfl rfl rfl (by decide +kernel) (by decide +kernel) (fun _ => P_g201) (by decide) (fun _ _ => by decide +kernel) (fun q => by cases q) (P_all_cons (by decide +kernel) <| P_all_cons (by decide +kernel) <| P_all_cons (by decide +kernel) <| P_all_cons (by decide +kernel) <| P_all_cons (by decide +kernel) <| P_all_cons (by decide +kernel) <| P_all_cons (by decide +kernel) <| P_all_cons (by decide +kernel) <| P_all_cons (by decide +kernel) <| P_all_cons (by decide +kernel) <| P_all_cons (by decide +kernel) <| P_all_cons (by decide +kernel) <| P_all_cons (by decide +kernel) <| P_all_nil) P_l201 (by decide +kernel) P_k201 (fun _ _ => P_hok_nil)
/-- OrchardQueryLaw$Grove.rewrite(I)Z -/
def P_l202 : List (Nat × P_I) := [(4, .invokevirtual 161, 7, 1, 172, [], []), (17, .getfield 10, 20, 11, 0, [], []), (21, .invokevirtual 164, 24, 1, 173, [], [])]
set_option maxRecDepth 20000 in
theorem P_k202 : ∀ q ∈ P_l202, P_lnk P_cl P_aty P_stat P_tx P_N0 P_Tb P_Y0 "OrchardQueryLaw$Grove" false prog_14_method_23_code [] q.1 q.2.1 q.2.2.2.1 q.2.2.2.2.1 :=
  P_all_cons (P_lnk_vi (P_vall (l := P_v172) rfl (P_all_cons (show P_vok _ _ _ 11 201 from ⟨_, rfl, rfl, w_1_1, w_6_47, (Or.inl ⟨P_sg 1 rfl, w_p_37, (Or.inl w_6_45)⟩)⟩) (P_all_nil)))) <|
  P_all_cons (P_lnk_get (P_s1 (c := 11) (P := fun ci => P_fok P_cl P_Tb "OrchardQueryLaw$Grove" 10 ci 0) rfl ⟨_, _, _, "OrchardQueryLaw$Grove", rfl, by decide, (Or.inl rfl), (Or.inl w_4_197)⟩)) <|
  P_all_cons (P_lnk_vi (P_vall (l := P_v173) rfl (P_all_cons (show P_vok _ _ _ 10 147 from ⟨_, rfl, rfl, w_1_2, w_6_63, (Or.inl ⟨P_sg 1 rfl, w_6_64, (Or.inl w_6_62)⟩)⟩) (P_all_nil)))) <|
  P_all_nil
set_option maxRecDepth 20000 in
theorem P_m202 : P_mstC 202 3 (Option.some Jvm.ClassFile.FieldType.boolean) P_e202 [] := P_meth (mx := 3) (rt := (Option.some Jvm.ClassFile.FieldType.boolean)) (hs := []) "OrchardQueryLaw$Grove" false prog_14_method_23_code [] rfl rfl rfl rfl (by decide +kernel) (by decide +kernel) (fun _ => P_g202) (by decide) (fun _ _ => by decide +kernel) (fun q => by cases q) (P_all_cons (by decide +kernel) <| P_all_cons (by decide +kernel) <| P_all_nil) P_l202 (by decide +kernel) P_k202 (fun _ _ => P_hok_nil)
/-- OrchardQueryLaw$Grove.swap()Z -/
def P_l203 : List (Nat × P_I) := [(2, .getfield 49, 5, 11, 12, [], []), (6, .invokevirtual 74, 9, 1, 1, [], []), (12, .getfield 49, 15, 11, 12, [], []), (16, .invokevirtual 74, 19, 1, 1, [], []), (21, .getfield 49, 24, 11, 12, [], []), (28, .getfield 49, 31, 11, 12, [], []), (33, .getfield 49, 36, 11, 12, [], []), (40, .getfield 49, 43, 11, 12, [], []), (47, .getfield 45, 50, 11, 11, [], []), (84, .invokevirtual 154, 87, 1, 170, [], []), (87, .invokestatic 136, 90, 2, 9001, [], []), (98, .getfield 10, 101, 11, 0, [], []), (103, .invokevirtual 167, 106, 2, 174, [], []), (107, .getfield 49, 110, 11, 12, [], [])]
set_option maxRecDepth 20000 in
theorem P_k203 : ∀ q ∈ P_l203, P_lnk P_cl P_aty P_stat P_tx P_N0 P_Tb P_Y0 "OrchardQueryLaw$Grove" false prog_14_method_24_code [] q.1 q.2.1 q.2.2.2.1 q.2.2.2.2.1 :=
  P_all_cons (P_lnk_get (P_s1 (c := 11) (P := fun ci => P_fok P_cl P_Tb "OrchardQueryLaw$Grove" 49 ci 12) rfl ⟨_, _, _, "OrchardQueryLaw$Grove", rfl, by decide, (Or.inl rfl), (Or.inl w_4_216)⟩)) <|
  P_all_cons (P_lnk_vi (P_vall (l := P_v1) rfl (P_all_cons (show P_vok _ _ _ 11 182 from ⟨_, rfl, rfl, w_1_1, w_5_12, (Or.inl ⟨P_sg 1 rfl, w_5_13, (Or.inl w_5_27)⟩)⟩) (P_all_nil)))) <|
  P_all_cons (P_lnk_get (P_s1 (c := 11) (P := fun ci => P_fok P_cl P_Tb "OrchardQueryLaw$Grove" 49 ci 12) rfl ⟨_, _, _, "OrchardQueryLaw$Grove", rfl, by decide, (Or.inl rfl), (Or.inl w_4_216)⟩)) <|
  P_all_cons (P_lnk_vi (P_vall (l := P_v1) rfl (P_all_cons (show P_vok _ _ _ 11 182 from ⟨_, rfl, rfl, w_1_1, w_5_12, (Or.inl ⟨P_sg 1 rfl, w_5_13, (Or.inl w_5_27)⟩)⟩) (P_all_nil)))) <|
  P_all_cons (P_lnk_get (P_s1 (c := 11) (P := fun ci => P_fok P_cl P_Tb "OrchardQueryLaw$Grove" 49 ci 12) rfl ⟨_, _, _, "OrchardQueryLaw$Grove", rfl, by decide, (Or.inl rfl), (Or.inl w_4_216)⟩)) <|
  P_all_cons (P_lnk_get (P_s1 (c := 11) (P := fun ci => P_fok P_cl P_Tb "OrchardQueryLaw$Grove" 49 ci 12) rfl ⟨_, _, _, "OrchardQueryLaw$Grove", rfl, by decide, (Or.inl rfl), (Or.inl w_4_216)⟩)) <|
  P_all_cons (P_lnk_get (P_s1 (c := 11) (P := fun ci => P_fok P_cl P_Tb "OrchardQueryLaw$Grove" 49 ci 12) rfl ⟨_, _, _, "OrchardQueryLaw$Grove", rfl, by decide, (Or.inl rfl), (Or.inl w_4_216)⟩)) <|
  P_all_cons (P_lnk_get (P_s1 (c := 11) (P := fun ci => P_fok P_cl P_Tb "OrchardQueryLaw$Grove" 49 ci 12) rfl ⟨_, _, _, "OrchardQueryLaw$Grove", rfl, by decide, (Or.inl rfl), (Or.inl w_4_216)⟩)) <|
  P_all_cons (P_lnk_get (P_s1 (c := 11) (P := fun ci => P_fok P_cl P_Tb "OrchardQueryLaw$Grove" 45 ci 11) rfl ⟨_, _, _, "OrchardQueryLaw$Grove", rfl, by decide, (Or.inl rfl), (Or.inl w_4_215)⟩)) <|
  P_all_cons (P_lnk_vi (P_vall (l := P_v170) rfl (P_all_cons (show P_vok _ _ _ 11 195 from ⟨_, rfl, rfl, w_1_1, w_6_50, (Or.inl ⟨P_sg 1 rfl, w_6_51, (Or.inl w_6_49)⟩)⟩) (P_all_nil)))) <|
  P_all_cons (P_lnk_sj ⟨by decide, by decide⟩ ⟨fun _ => ⟨w_6_57, w_1_202, w_1_21, w_1_203⟩, (fun q => absurd q (by decide))⟩) <|
  P_all_cons (P_lnk_get (P_s1 (c := 11) (P := fun ci => P_fok P_cl P_Tb "OrchardQueryLaw$Grove" 10 ci 0) rfl ⟨_, _, _, "OrchardQueryLaw$Grove", rfl, by decide, (Or.inl rfl), (Or.inl w_4_197)⟩)) <|
  P_all_cons (P_lnk_vi (P_vall (l := P_v174) rfl (P_all_cons (show P_vok _ _ _ 10 148 from ⟨_, rfl, rfl, w_1_2, w_6_131, (Or.inl ⟨P_sg 2 rfl, w_6_132, (Or.inl w_6_130)⟩)⟩) (P_all_nil)))) <|
  P_all_cons (P_lnk_get (P_s1 (c := 11) (P := fun ci => P_fok P_cl P_Tb "OrchardQueryLaw$Grove" 49 ci 12) rfl ⟨_, _, _, "OrchardQueryLaw$Grove", rfl, by decide, (Or.inl rfl), (Or.inl w_4_216)⟩)) <|
  P_all_nil
set_option maxRecDepth 20000 in
theorem P_m203 : P_mstC 203 8 (Option.some Jvm.ClassFile.FieldType.boolean) P_e203 [] := P_meth (mx := 8) (rt := (Option.some Jvm.ClassFile.FieldType.boolean)) (hs := []) "OrchardQueryLaw$Grove" false prog_14_method_24_code [] rfl rfl rfl rfl (by decide +kernel) (by decide +kernel) (fun _ => P_g203) (by decide) (fun _ _ => by decide +kernel) (fun q => by cases q) (P_all_cons (by decide +kernel) <| P_all_cons (by decide +kernel) <| P_all_cons (by decide +kernel) <| P_all_cons (by decide +kernel) <| P_all_nil) P_l203 (by decide +kernel) P_k203 (fun _ _ => P_hok_nil)
/-- OrchardQueryLaw$Grove.best()Z -/
def P_l204 : List (Nat × P_I) := [(1, .newarray .int, 3, 0, 0, [], []), (8, .ldc2_w 170, 11, (-1), 0, [], []), (13, .getfield 49, 16, 11, 12, [], []), (30, .newarray .int, 32, 0, 0, [], []), (63, .newarray .int, 65, 0, 0, [], []), (199, .putfield 49, 202, 11, 12, [], []), (203, .getfield 45, 206, 11, 11, [], []), (236, .invokevirtual 154, 239, 1, 170, [], []), (253, .invokevirtual 172, 256, 0, 175, [], []), (265, .invokevirtual 172, 268, 0, 175, [], []), (280, .putfield 49, 283, 11, 12, [], []), (284, .getfield 45, 287, 11, 11, [], []), (317, .invokevirtual 154, 320, 1, 170, [], []), (328, .getfield 10, 331, 11, 0, [], []), (331, .invokevirtual 176, 334, 0, 176, [], [])]
set_option maxRecDepth 20000 in
theorem P_k204 : ∀ q ∈ P_l204, P_lnk P_cl P_aty P_stat P_tx P_N0 P_Tb P_Y0 "OrchardQueryLaw$Grove" false prog_14_method_25_code [] q.1 q.2.1 q.2.2.2.1 q.2.2.2.2.1 :=
  P_all_cons (P_lnk_nwa rfl w_3_158) <|
  P_all_cons (P_lnk_ldl w_6_143) <|
  P_all_cons (P_lnk_get (P_s1 (c := 11) (P := fun ci => P_fok P_cl P_Tb "OrchardQueryLaw$Grove" 49 ci 12) rfl ⟨_, _, _, "OrchardQueryLaw$Grove", rfl, by decide, (Or.inl rfl), (Or.inl w_4_216)⟩)) <|
  P_all_cons (P_lnk_nwa rfl w_3_158) <|
  P_all_cons (P_lnk_nwa rfl w_3_158) <|
  P_all_cons (P_lnk_put (P_s1 (c := 11) (P := fun ci => P_pok P_cl P_Tb "OrchardQueryLaw$Grove" false 49 ci 12) rfl ⟨_, _, _, "OrchardQueryLaw$Grove", rfl, by decide, (Or.inl rfl), (Or.inl ⟨w_4_216, (Or.inl rfl)⟩)⟩)) <|
  P_all_cons (P_lnk_get (P_s1 (c := 11) (P := fun ci => P_fok P_cl P_Tb "OrchardQueryLaw$Grove" 45 ci 11) rfl ⟨_, _, _, "OrchardQueryLaw$Grove", rfl, by decide, (Or.inl rfl), (Or.inl w_4_215)⟩)) <|
  P_all_cons (P_lnk_vi (P_vall (l := P_v170) rfl (P_all_cons (show P_vok _ _ _ 11 195 from ⟨_, rfl, rfl, w_1_1, w_6_50, (Or.inl ⟨P_sg 1 rfl, w_6_51, (Or.inl w_6_49)⟩)⟩) (P_all_nil)))) <|
  P_all_cons (P_lnk_vi (P_vall (l := P_v175) rfl (P_all_cons (show P_vok _ _ _ 11 199 from ⟨_, rfl, rfl, w_1_1, w_6_145, (Or.inl ⟨P_sg 0 rfl, w_6_146, (Or.inl w_6_144)⟩)⟩) (P_all_nil)))) <|
  P_all_cons (P_lnk_vi (P_vall (l := P_v175) rfl (P_all_cons (show P_vok _ _ _ 11 199 from ⟨_, rfl, rfl, w_1_1, w_6_145, (Or.inl ⟨P_sg 0 rfl, w_6_146, (Or.inl w_6_144)⟩)⟩) (P_all_nil)))) <|
  P_all_cons (P_lnk_put (P_s1 (c := 11) (P := fun ci => P_pok P_cl P_Tb "OrchardQueryLaw$Grove" false 49 ci 12) rfl ⟨_, _, _, "OrchardQueryLaw$Grove", rfl, by decide, (Or.inl rfl), (Or.inl ⟨w_4_216, (Or.inl rfl)⟩)⟩)) <|
  P_all_cons (P_lnk_get (P_s1 (c := 11) (P := fun ci => P_fok P_cl P_Tb "OrchardQueryLaw$Grove" 45 ci 11) rfl ⟨_, _, _, "OrchardQueryLaw$Grove", rfl, by decide, (Or.inl rfl), (Or.inl w_4_215)⟩)) <|
  P_all_cons (P_lnk_vi (P_vall (l := P_v170) rfl (P_all_cons (show P_vok _ _ _ 11 195 from ⟨_, rfl, rfl, w_1_1, w_6_50, (Or.inl ⟨P_sg 1 rfl, w_6_51, (Or.inl w_6_49)⟩)⟩) (P_all_nil)))) <|
  P_all_cons (P_lnk_get (P_s1 (c := 11) (P := fun ci => P_fok P_cl P_Tb "OrchardQueryLaw$Grove" 10 ci 0) rfl ⟨_, _, _, "OrchardQueryLaw$Grove", rfl, by decide, (Or.inl rfl), (Or.inl w_4_197)⟩)) <|
  P_all_cons (P_lnk_vi (P_vall (l := P_v176) rfl (P_all_cons (show P_vok _ _ _ 10 149 from ⟨_, rfl, rfl, w_1_2, w_6_162, (Or.inl ⟨P_sg 0 rfl, w_6_163, (Or.inl w_6_161)⟩)⟩) (P_all_nil)))) <|
  P_all_nil
set_option maxRecDepth 20000 in
theorem P_m204 : P_mstC 204 13 (Option.some Jvm.ClassFile.FieldType.boolean) P_e204 [] := P_meth (mx := 13) (rt := (Option.some Jvm.ClassFile.FieldType.boolean)) (hs := []) "OrchardQueryLaw$Grove" false prog_14_method_25_code [] rfl rfl rfl rfl (by decide +kernel) (by decide +kernel) (fun _ => P_g204) (by decide) (fun _ _ => by decide +kernel) (fun q => by cases q) (P_all_cons (by decide +kernel) <| P_all_cons (by decide +kernel) <| P_all_cons (by decide +kernel) <| P_all_cons (by decide +kernel) <| P_all_cons (by decide +kernel) <| P_all_cons (by decide +kernel) <| P_all_cons (by decide +kernel) <| P_all_cons (by decide +kernel) <| P_all_cons (by decide +kernel) <| P_all_cons (by decide +kernel) <| P_all_cons (by decide +kernel) <| P_all_nil) P_l204 (by decide +kernel) P_k204 (fun _ _ => P_hok_nil)
/-- OrchardQueryLaw$Grove.isTogether()Z -/
def P_l205 : List (Nat × P_I) := [(1, .getfield 34, 4, 11, 8, [], []), (14, .getfield 28, 17, 11, 6, [], [])]
set_option maxRecDepth 20000 in
theorem P_k205 : ∀ q ∈ P_l205, P_lnk P_cl P_aty P_stat P_tx P_N0 P_Tb P_Y0 "OrchardQueryLaw$Grove" false prog_14_method_29_code [] q.1 q.2.1 q.2.2.2.1 q.2.2.2.2.1 :=
  P_all_cons (P_lnk_get (P_s1 (c := 11) (P := fun ci => P_fok P_cl P_Tb "OrchardQueryLaw$Grove" 34 ci 8) rfl ⟨_, _, _, "OrchardQueryLaw$Grove", rfl, by decide, (Or.inl rfl), (Or.inl w_4_209)⟩)) <|
  P_all_cons (P_lnk_get (P_s1 (c := 11) (P := fun ci => P_fok P_cl P_Tb "OrchardQueryLaw$Grove" 28 ci 6) rfl ⟨_, _, _, "OrchardQueryLaw$Grove", rfl, by decide, (Or.inl rfl), (Or.inl w_4_205)⟩)) <|
  P_all_nil
set_option maxRecDepth 20000 in
theorem P_m205 : P_mstC 205 6 (Option.some Jvm.ClassFile.FieldType.boolean) P_e205 [] := P_meth (mx := 6) (rt := (Option.some Jvm.ClassFile.FieldType.boolean)) (hs := []) "OrchardQueryLaw$Grove" false prog_14_method_29_code [] rfl rfl rfl rfl (by decide +kernel) (by decide +kernel) (fun _ => P_g205) (by decide) (fun _ _ => by decide +kernel) (fun q => by cases q) (P_all_cons (by decide +kernel) <| P_all_cons (by decide +kernel) <| P_all_nil) P_l205 (by decide +kernel) P_k205 (fun _ _ => P_hok_nil)
/-- OrchardQueryLaw.below(II)I -/
def P_l206 : List (Nat × P_I) := [(1, .ldc 7, 3, 2147483647, 0, [], [])]
set_option maxRecDepth 20000 in
theorem P_k206 : ∀ q ∈ P_l206, P_lnk P_cl P_aty P_stat P_tx P_N0 P_Tb P_Y0 "OrchardQueryLaw" false method_2_code [] q.1 q.2.1 q.2.2.2.1 q.2.2.2.2.1 :=
  P_all_cons (P_lnk_ldc w_5_22) <|
  P_all_nil
set_option maxRecDepth 20000 in
theorem P_m206 : P_mstC 206 2 (Option.some Jvm.ClassFile.FieldType.int) P_e206 [] := P_meth (mx := 2) (rt := (Option.some Jvm.ClassFile.FieldType.int)) (hs := []) "OrchardQueryLaw" false method_2_code [] rfl rfl rfl rfl (by decide +kernel) (by decide +kernel) (fun _ => P_g206) (by decide) (fun _ _ => by decide +kernel) (fun q => by cases q) (P_all_cons (by decide +kernel) <| P_all_nil) P_l206 (by decide +kernel) P_k206 (fun _ _ => P_hok_nil)
/-- OrchardQueryLaw.cell([II)I -/
def P_l207 : List (Nat × P_I) := [(12, .ldc 8, 14, 790386105, 0, [], [])]
set_option maxRecDepth 20000 in
theorem P_k207 : ∀ q ∈ P_l207, P_lnk P_cl P_aty P_stat P_tx P_N0 P_Tb P_Y0 "OrchardQueryLaw" false method_3_code [] q.1 q.2.1 q.2.2.2.1 q.2.2.2.2.1 :=
  P_all_cons (P_lnk_ldc w_5_18) <|
  P_all_nil
set_option maxRecDepth 20000 in
theorem P_m207 : P_mstC 207 2 (Option.some Jvm.ClassFile.FieldType.int) P_e207 [] := P_meth (mx := 2) (rt := (Option.some Jvm.ClassFile.FieldType.int)) (hs := []) "OrchardQueryLaw" false method_3_code [] rfl rfl rfl rfl (by decide +kernel) (by decide +kernel) (fun _ => P_g207) (by decide) (fun _ _ => by decide +kernel) (fun q => by cases q) (P_all_cons (by decide +kernel) <| P_all_nil) P_l207 (by decide +kernel) P_k207 (fun _ _ => P_hok_nil)
