/-! TABLES of this claim, written by wip/gen.py: methods -/
/-- OrchardQuery$Query.readsTail()Z -/
def P_l99 : List (Nat × P_I) := [(1, .invokevirtual 86, 4, 0, 106, [], []), (8, .invokevirtual 89, 11, 0, 107, [], []), (15, .invokevirtual 92, 18, 0, 108, [], []), (22, .invokevirtual 95, 25, 0, 109, [], []), (31, .getfield 45, 34, 7, 8, [], []), (35, .getfield 31, 38, 7, 4, [], []), (45, .getfield 45, 48, 7, 8, [], []), (48, .invokevirtual 76, 51, 2, 103, [], [])]
set_option maxRecDepth 20000 in
theorem P_k99 : ∀ q ∈ P_l99, P_lnk P_cl P_aty P_stat P_tx P_N0 P_Tb P_Y0 "OrchardQuery$Query" false prog_9_method_10_code [] q.1 q.2.1 q.2.2.2.1 q.2.2.2.2.1 :=
  P_all_cons (P_lnk_vi (P_vall (l := P_v106) rfl (P_all_cons (show P_vok _ _ _ 7 103 from ⟨_, rfl, rfl, w_1_7, w_2_226, (Or.inl ⟨P_sg 0 rfl, w_p_13, (Or.inl w_2_224)⟩)⟩) (P_all_nil)))) <|
  P_all_cons (P_lnk_vi (P_vall (l := P_v107) rfl (P_all_cons (show P_vok _ _ _ 7 105 from ⟨_, rfl, rfl, w_1_7, w_3_9, (Or.inl ⟨P_sg 0 rfl, w_p_15, (Or.inl w_3_7)⟩)⟩) (P_all_nil)))) <|
  P_all_cons (P_lnk_vi (P_vall (l := P_v108) rfl (P_all_cons (show P_vok _ _ _ 7 106 from ⟨_, rfl, rfl, w_1_7, w_3_17, (Or.inl ⟨P_sg 0 rfl, w_p_16, (Or.inl w_3_15)⟩)⟩) (P_all_nil)))) <|
  P_all_cons (P_lnk_vi (P_vall (l := P_v109) rfl (P_all_cons (show P_vok _ _ _ 7 107 from ⟨_, rfl, rfl, w_1_7, w_3_25, (Or.inl ⟨P_sg 0 rfl, w_p_17, (Or.inl w_3_23)⟩)⟩) (P_all_nil)))) <|
  P_all_cons (P_lnk_get (P_s1 (c := 7) (P := fun ci => P_fok P_cl P_Tb "OrchardQuery$Query" 45 ci 8) rfl ⟨_, _, _, "OrchardQuery$Query", rfl, by decide, (Or.inl rfl), (Or.inl w_1_170)⟩)) <|
  P_all_cons (P_lnk_get (P_s1 (c := 7) (P := fun ci => P_fok P_cl P_Tb "OrchardQuery$Query" 31 ci 4) rfl ⟨_, _, _, "OrchardQuery$Query", rfl, by decide, (Or.inl rfl), (Or.inl w_1_166)⟩)) <|
  P_all_cons (P_lnk_get (P_s1 (c := 7) (P := fun ci => P_fok P_cl P_Tb "OrchardQuery$Query" 45 ci 8) rfl ⟨_, _, _, "OrchardQuery$Query", rfl, by decide, (Or.inl rfl), (Or.inl w_1_170)⟩)) <|
  P_all_cons (P_lnk_vi (P_vall (l := P_v103) rfl (P_all_cons (show P_vok _ _ _ 7 112 from ⟨_, rfl, rfl, w_1_7, w_2_179, (Or.inl ⟨P_sg 2 rfl, w_p_7, (Or.inl w_2_177)⟩)⟩) (P_all_nil)))) <|
  P_all_nil
set_option maxRecDepth 20000 in
theorem P_m99 : P_mst 99 1 (Option.some Jvm.ClassFile.FieldType.boolean) P_e99 [] := P_meth (mx := 1) (rt := (Option.some Jvm.ClassFile.FieldType.boolean)) (hs := []) "OrchardQuery$Query" false prog_9_method_10_code [] rfl rfl rfl rfl (by decide +kernel) (by decide +kernel) (fun _ => P_g99) (by decide) (fun _ _ => by decide +kernel) (fun q => by cases q) (P_all_cons (by decide +kernel) <| P_all_cons (by decide +kernel) <| P_all_nil) P_l99 (by decide +kernel) P_k99 (fun _ _ => P_hok_nil)
/-- OrchardQuery$Query.readsItems()Z -/
def P_l100 : List (Nat × P_I) := [(1, .invokevirtual 98, 4, 0, 110, [], []), (18, .invokevirtual 72, 21, 0, 102, [], []), (21, .invokevirtual 101, 24, 1, 111, [], []), (28, .invokevirtual 98, 31, 0, 110, [], []), (43, .invokevirtual 72, 46, 0, 102, [], []), (53, .getfield 45, 56, 7, 8, [], []), (56, .invokevirtual 76, 59, 2, 103, [], []), (62, .getfield 45, 65, 7, 8, [], []), (67, .putfield 45, 70, 7, 8, [], [])]
set_option maxRecDepth 20000 in
theorem P_k100 : ∀ q ∈ P_l100, P_lnk P_cl P_aty P_stat P_tx P_N0 P_Tb P_Y0 "OrchardQuery$Query" false prog_9_method_11_code [] q.1 q.2.1 q.2.2.2.1 q.2.2.2.2.1 :=
  P_all_cons (P_lnk_vi (P_vall (l := P_v110) rfl (P_all_cons (show P_vok _ _ _ 7 101 from ⟨_, rfl, rfl, w_1_7, w_2_187, (Or.inl ⟨P_sg 0 rfl, w_p_9, (Or.inl w_2_185)⟩)⟩) (P_all_nil)))) <|
  P_all_cons (P_lnk_vi (P_vall (l := P_v102) rfl (P_all_cons (show P_vok _ _ _ 7 110 from ⟨_, rfl, rfl, w_1_7, w_2_174, (Or.inl ⟨P_sg 0 rfl, w_p_6, (Or.inl w_2_172)⟩)⟩) (P_all_nil)))) <|
  P_all_cons (P_lnk_vi (P_vall (l := P_v111) rfl (P_all_cons (show P_vok _ _ _ 7 111 from ⟨_, rfl, rfl, w_1_7, w_2_191, (Or.inl ⟨P_sg 1 rfl, w_p_10, (Or.inl w_2_189)⟩)⟩) (P_all_nil)))) <|
  P_all_cons (P_lnk_vi (P_vall (l := P_v110) rfl (P_all_cons (show P_vok _ _ _ 7 101 from ⟨_, rfl, rfl, w_1_7, w_2_187, (Or.inl ⟨P_sg 0 rfl, w_p_9, (Or.inl w_2_185)⟩)⟩) (P_all_nil)))) <|
  P_all_cons (P_lnk_vi (P_vall (l := P_v102) rfl (P_all_cons (show P_vok _ _ _ 7 110 from ⟨_, rfl, rfl, w_1_7, w_2_174, (Or.inl ⟨P_sg 0 rfl, w_p_6, (Or.inl w_2_172)⟩)⟩) (P_all_nil)))) <|
  P_all_cons (P_lnk_get (P_s1 (c := 7) (P := fun ci => P_fok P_cl P_Tb "OrchardQuery$Query" 45 ci 8) rfl ⟨_, _, _, "OrchardQuery$Query", rfl, by decide, (Or.inl rfl), (Or.inl w_1_170)⟩)) <|
  P_all_cons (P_lnk_vi (P_vall (l := P_v103) rfl (P_all_cons (show P_vok _ _ _ 7 112 from ⟨_, rfl, rfl, w_1_7, w_2_179, (Or.inl ⟨P_sg 2 rfl, w_p_7, (Or.inl w_2_177)⟩)⟩) (P_all_nil)))) <|
  P_all_cons (P_lnk_get (P_s1 (c := 7) (P := fun ci => P_fok P_cl P_Tb "OrchardQuery$Query" 45 ci 8) rfl ⟨_, _, _, "OrchardQuery$Query", rfl, by decide, (Or.inl rfl), (Or.inl w_1_170)⟩)) <|
  P_all_cons (P_lnk_put (P_s1 (c := 7) (P := fun ci => P_pok P_cl P_Tb "OrchardQuery$Query" false 45 ci 8) rfl ⟨_, _, _, "OrchardQuery$Query", rfl, by decide, (Or.inl rfl), (Or.inl ⟨w_1_170, (Or.inl rfl)⟩)⟩)) <|
  P_all_nil
set_option maxRecDepth 20000 in
theorem P_m100 : P_mst 100 2 (Option.some Jvm.ClassFile.FieldType.boolean) P_e100 [] := P_meth (mx := 2) (rt := (Option.some Jvm.ClassFile.FieldType.boolean)) (hs := []) "OrchardQuery$Query" false prog_9_method_11_code [] rfl rfl rfl rfl (by decide +kernel) (by decide +kernel) (fun _ => P_g100) (by decide) (fun _ _ => by decide +kernel) (fun q => by cases q) (P_all_cons (by decide +kernel) <| P_all_cons (by decide +kernel) <| P_all_cons (by decide +kernel) <| P_all_nil) P_l100 (by decide +kernel) P_k100 (fun _ _ => P_hok_nil)
/-- OrchardQuery$Query.readsItem()Z -/
def P_l101 : List (Nat × P_I) := [(1, .invokevirtual 72, 4, 0, 102, [], []), (7, .invokevirtual 101, 10, 1, 111, [], []), (16, .getfield 45, 19, 7, 8, [], []), (19, .invokevirtual 76, 22, 2, 103, [], []), (25, .getfield 45, 28, 7, 8, [], []), (30, .putfield 45, 33, 7, 8, [], []), (40, .getfield 15, 43, 7, 1, [], []), (46, .invokevirtual 105, 49, 2, 112, [], []), (59, .getfield 15, 62, 7, 1, [], []), (64, .invokevirtual 105, 67, 2, 112, [], []), (71, .invokevirtual 72, 74, 0, 102, [], []), (74, .invokestatic 109, 77, 1, 175, [], []), (81, .getfield 15, 84, 7, 1, [], []), (87, .invokevirtual 72, 90, 0, 102, [], []), (90, .invokevirtual 105, 93, 2, 112, [], []), (95, .getfield 45, 98, 7, 8, [], []), (100, .putfield 45, 103, 7, 8, [], []), (109, .getfield 45, 112, 7, 8, [], []), (112, .invokevirtual 76, 115, 2, 103, [], [])]
set_option maxRecDepth 20000 in
theorem P_k101 : ∀ q ∈ P_l101, P_lnk P_cl P_aty P_stat P_tx P_N0 P_Tb P_Y0 "OrchardQuery$Query" false prog_9_method_12_code [] q.1 q.2.1 q.2.2.2.1 q.2.2.2.2.1 :=
  P_all_cons (P_lnk_vi (P_vall (l := P_v102) rfl (P_all_cons (show P_vok _ _ _ 7 110 from ⟨_, rfl, rfl, w_1_7, w_2_174, (Or.inl ⟨P_sg 0 rfl, w_p_6, (Or.inl w_2_172)⟩)⟩) (P_all_nil)))) <|
  P_all_cons (P_lnk_vi (P_vall (l := P_v111) rfl (P_all_cons (show P_vok _ _ _ 7 111 from ⟨_, rfl, rfl, w_1_7, w_2_191, (Or.inl ⟨P_sg 1 rfl, w_p_10, (Or.inl w_2_189)⟩)⟩) (P_all_nil)))) <|
  P_all_cons (P_lnk_get (P_s1 (c := 7) (P := fun ci => P_fok P_cl P_Tb "OrchardQuery$Query" 45 ci 8) rfl ⟨_, _, _, "OrchardQuery$Query", rfl, by decide, (Or.inl rfl), (Or.inl w_1_170)⟩)) <|
  P_all_cons (P_lnk_vi (P_vall (l := P_v103) rfl (P_all_cons (show P_vok _ _ _ 7 112 from ⟨_, rfl, rfl, w_1_7, w_2_179, (Or.inl ⟨P_sg 2 rfl, w_p_7, (Or.inl w_2_177)⟩)⟩) (P_all_nil)))) <|
  P_all_cons (P_lnk_get (P_s1 (c := 7) (P := fun ci => P_fok P_cl P_Tb "OrchardQuery$Query" 45 ci 8) rfl ⟨_, _, _, "OrchardQuery$Query", rfl, by decide, (Or.inl rfl), (Or.inl w_1_170)⟩)) <|
  P_all_cons (P_lnk_put (P_s1 (c := 7) (P := fun ci => P_pok P_cl P_Tb "OrchardQuery$Query" false 45 ci 8) rfl ⟨_, _, _, "OrchardQuery$Query", rfl, by decide, (Or.inl rfl), (Or.inl ⟨w_1_170, (Or.inl rfl)⟩)⟩)) <|
  P_all_cons (P_lnk_get (P_s1 (c := 7) (P := fun ci => P_fok P_cl P_Tb "OrchardQuery$Query" 15 ci 1) rfl ⟨_, _, _, "OrchardQuery$Query", rfl, by decide, (Or.inl rfl), (Or.inl w_1_163)⟩)) <|
  P_all_cons (P_lnk_vi (P_vall (l := P_v112) rfl (P_all_cons (show P_vok _ _ _ 3 24 from ⟨_, rfl, rfl, w_1_4, w_2_195, (Or.inl ⟨P_sg 2 rfl, w_2_196, (Or.inl w_2_194)⟩)⟩) (P_all_nil)))) <|
  P_all_cons (P_lnk_get (P_s1 (c := 7) (P := fun ci => P_fok P_cl P_Tb "OrchardQuery$Query" 15 ci 1) rfl ⟨_, _, _, "OrchardQuery$Query", rfl, by decide, (Or.inl rfl), (Or.inl w_1_163)⟩)) <|
  P_all_cons (P_lnk_vi (P_vall (l := P_v112) rfl (P_all_cons (show P_vok _ _ _ 3 24 from ⟨_, rfl, rfl, w_1_4, w_2_195, (Or.inl ⟨P_sg 2 rfl, w_2_196, (Or.inl w_2_194)⟩)⟩) (P_all_nil)))) <|
  P_all_cons (P_lnk_vi (P_vall (l := P_v102) rfl (P_all_cons (show P_vok _ _ _ 7 110 from ⟨_, rfl, rfl, w_1_7, w_2_174, (Or.inl ⟨P_sg 0 rfl, w_p_6, (Or.inl w_2_172)⟩)⟩) (P_all_nil)))) <|
  P_all_cons (P_lnk_st (by decide) (fun _ => ⟨P_sg 1 rfl, w_1_1, w_2_163, (Or.inr ⟨rfl, _, w_2_193⟩)⟩)) <|
  P_all_cons (P_lnk_get (P_s1 (c := 7) (P := fun ci => P_fok P_cl P_Tb "OrchardQuery$Query" 15 ci 1) rfl ⟨_, _, _, "OrchardQuery$Query", rfl, by decide, (Or.inl rfl), (Or.inl w_1_163)⟩)) <|
  P_all_cons (P_lnk_vi (P_vall (l := P_v102) rfl (P_all_cons (show P_vok _ _ _ 7 110 from ⟨_, rfl, rfl, w_1_7, w_2_174, (Or.inl ⟨P_sg 0 rfl, w_p_6, (Or.inl w_2_172)⟩)⟩) (P_all_nil)))) <|
  P_all_cons (P_lnk_vi (P_vall (l := P_v112) rfl (P_all_cons (show P_vok _ _ _ 3 24 from ⟨_, rfl, rfl, w_1_4, w_2_195, (Or.inl ⟨P_sg 2 rfl, w_2_196, (Or.inl w_2_194)⟩)⟩) (P_all_nil)))) <|
  P_all_cons (P_lnk_get (P_s1 (c := 7) (P := fun ci => P_fok P_cl P_Tb "OrchardQuery$Query" 45 ci 8) rfl ⟨_, _, _, "OrchardQuery$Query", rfl, by decide, (Or.inl rfl), (Or.inl w_1_170)⟩)) <|
  P_all_cons (P_lnk_put (P_s1 (c := 7) (P := fun ci => P_pok P_cl P_Tb "OrchardQuery$Query" false 45 ci 8) rfl ⟨_, _, _, "OrchardQuery$Query", rfl, by decide, (Or.inl rfl), (Or.inl ⟨w_1_170, (Or.inl rfl)⟩)⟩)) <|
  P_all_cons (P_lnk_get (P_s1 (c := 7) (P := fun ci => P_fok P_cl P_Tb "OrchardQuery$Query" 45 ci 8) rfl ⟨_, _, _, "OrchardQuery$Query", rfl, by decide, (Or.inl rfl), (Or.inl w_1_170)⟩)) <|
  P_all_cons (P_lnk_vi (P_vall (l := P_v103) rfl (P_all_cons (show P_vok _ _ _ 7 112 from ⟨_, rfl, rfl, w_1_7, w_2_179, (Or.inl ⟨P_sg 2 rfl, w_p_7, (Or.inl w_2_177)⟩)⟩) (P_all_nil)))) <|
  P_all_nil
set_option maxRecDepth 20000 in
theorem P_m101 : P_mst 101 2 (Option.some Jvm.ClassFile.FieldType.boolean) P_e101 [] := P_meth (mx := 2) (rt := (Option.some Jvm.ClassFile.FieldType.boolean)) (hs := []) "OrchardQuery$Query" false prog_9_method_12_code [] rfl rfl rfl rfl (by decide +kernel) (by decide +kernel) (fun _ => P_g101) (by decide) (fun _ _ => by decide +kernel) (fun q => by cases q) (P_all_cons (by decide +kernel) <| P_all_cons (by decide +kernel) <| P_all_cons (by decide +kernel) <| P_all_cons (by decide +kernel) <| P_all_nil) P_l101 (by decide +kernel) P_k101 (fun _ _ => P_hok_nil)
/-- OrchardQuery$Query.readsTables()Z -/
def P_l102 : List (Nat × P_I) := [(8, .invokevirtual 72, 11, 0, 102, [], []), (20, .invokevirtual 72, 23, 0, 102, [], []), (23, .invokestatic 112, 26, 1, 174, [], []), (32, .invokevirtual 72, 35, 0, 102, [], []), (35, .invokestatic 112, 38, 1, 174, [], []), (42, .getfield 9, 45, 7, 0, [], []), (46, .invokevirtual 115, 49, 1, 113, [], []), (55, .getfield 45, 58, 7, 8, [], []), (58, .invokevirtual 76, 61, 2, 103, [], []), (63, .getfield 15, 66, 7, 1, [], []), (67, .getfield 9, 70, 7, 0, [], []), (71, .invokevirtual 120, 74, 1, 114, [], []), (74, .invokevirtual 124, 77, 1, 115, [], []), (79, .getfield 45, 82, 7, 8, [], []), (84, .putfield 45, 87, 7, 8, [], [])]
set_option maxRecDepth 20000 in
theorem P_k102 : ∀ q ∈ P_l102, P_lnk P_cl P_aty P_stat P_tx P_N0 P_Tb P_Y0 "OrchardQuery$Query" false prog_9_method_13_code [] q.1 q.2.1 q.2.2.2.1 q.2.2.2.2.1 :=
  P_all_cons (P_lnk_vi (P_vall (l := P_v102) rfl (P_all_cons (show P_vok _ _ _ 7 110 from ⟨_, rfl, rfl, w_1_7, w_2_174, (Or.inl ⟨P_sg 0 rfl, w_p_6, (Or.inl w_2_172)⟩)⟩) (P_all_nil)))) <|
  P_all_cons (P_lnk_vi (P_vall (l := P_v102) rfl (P_all_cons (show P_vok _ _ _ 7 110 from ⟨_, rfl, rfl, w_1_7, w_2_174, (Or.inl ⟨P_sg 0 rfl, w_p_6, (Or.inl w_2_172)⟩)⟩) (P_all_nil)))) <|
  P_all_cons (P_lnk_st (by decide) (fun _ => ⟨P_sg 1 rfl, w_1_1, w_2_206, (Or.inr ⟨rfl, _, w_2_205⟩)⟩)) <|
  P_all_cons (P_lnk_vi (P_vall (l := P_v102) rfl (P_all_cons (show P_vok _ _ _ 7 110 from ⟨_, rfl, rfl, w_1_7, w_2_174, (Or.inl ⟨P_sg 0 rfl, w_p_6, (Or.inl w_2_172)⟩)⟩) (P_all_nil)))) <|
  P_all_cons (P_lnk_st (by decide) (fun _ => ⟨P_sg 1 rfl, w_1_1, w_2_206, (Or.inr ⟨rfl, _, w_2_205⟩)⟩)) <|
  P_all_cons (P_lnk_get (P_s1 (c := 7) (P := fun ci => P_fok P_cl P_Tb "OrchardQuery$Query" 9 ci 0) rfl ⟨_, _, _, "OrchardQuery$Query", rfl, by decide, (Or.inl rfl), (Or.inl w_1_162)⟩)) <|
  P_all_cons (P_lnk_vi (P_vall (l := P_v113) rfl (P_all_cons (show P_vok _ _ _ 8 115 from ⟨_, rfl, rfl, w_1_2, w_2_209, (Or.inl ⟨P_sg 1 rfl, w_2_210, (Or.inl w_2_208)⟩)⟩) (P_all_nil)))) <|
  P_all_cons (P_lnk_get (P_s1 (c := 7) (P := fun ci => P_fok P_cl P_Tb "OrchardQuery$Query" 45 ci 8) rfl ⟨_, _, _, "OrchardQuery$Query", rfl, by decide, (Or.inl rfl), (Or.inl w_1_170)⟩)) <|
  P_all_cons (P_lnk_vi (P_vall (l := P_v103) rfl (P_all_cons (show P_vok _ _ _ 7 112 from ⟨_, rfl, rfl, w_1_7, w_2_179, (Or.inl ⟨P_sg 2 rfl, w_p_7, (Or.inl w_2_177)⟩)⟩) (P_all_nil)))) <|
  P_all_cons (P_lnk_get (P_s1 (c := 7) (P := fun ci => P_fok P_cl P_Tb "OrchardQuery$Query" 15 ci 1) rfl ⟨_, _, _, "OrchardQuery$Query", rfl, by decide, (Or.inl rfl), (Or.inl w_1_163)⟩)) <|
  P_all_cons (P_lnk_get (P_s1 (c := 7) (P := fun ci => P_fok P_cl P_Tb "OrchardQuery$Query" 9 ci 0) rfl ⟨_, _, _, "OrchardQuery$Query", rfl, by decide, (Or.inl rfl), (Or.inl w_1_162)⟩)) <|
  P_all_cons (P_lnk_vi (P_vall (l := P_v114) rfl (P_all_cons (show P_vok _ _ _ 8 116 from ⟨_, rfl, rfl, w_1_2, w_2_213, (Or.inl ⟨P_sg 1 rfl, w_2_214, (Or.inl w_2_212)⟩)⟩) (P_all_nil)))) <|
  P_all_cons (P_lnk_vi (P_vall (l := P_v115) rfl (P_all_cons (show P_vok _ _ _ 3 25 from ⟨_, rfl, rfl, w_1_4, w_2_217, (Or.inl ⟨P_sg 1 rfl, w_2_218, (Or.inl w_2_216)⟩)⟩) (P_all_nil)))) <|
  P_all_cons (P_lnk_get (P_s1 (c := 7) (P := fun ci => P_fok P_cl P_Tb "OrchardQuery$Query" 45 ci 8) rfl ⟨_, _, _, "OrchardQuery$Query", rfl, by decide, (Or.inl rfl), (Or.inl w_1_170)⟩)) <|
  P_all_cons (P_lnk_put (P_s1 (c := 7) (P := fun ci => P_pok P_cl P_Tb "OrchardQuery$Query" false 45 ci 8) rfl ⟨_, _, _, "OrchardQuery$Query", rfl, by decide, (Or.inl rfl), (Or.inl ⟨w_1_170, (Or.inl rfl)⟩)⟩)) <|
  P_all_nil
set_option maxRecDepth 20000 in
theorem P_m102 : P_mst 102 3 (Option.some Jvm.ClassFile.FieldType.boolean) P_e102 [] := P_meth (mx := 3) (rt := (Option.some Jvm.ClassFile.FieldType.boolean)) (hs := []) "OrchardQuery$Query" false prog_9_method_13_code [] rfl rfl rfl rfl (by decide +kernel) (by decide +kernel) (fun _ => P_g102) (by decide) (fun _ _ => by decide +kernel) (fun q => by cases q) (P_all_cons (by decide +kernel) <| P_all_cons (by decide +kernel) <| P_all_cons (by decide +kernel) <| P_all_nil) P_l102 (by decide +kernel) P_k102 (fun _ _ => P_hok_nil)
/-- OrchardQuery$Query.readsConditions()Z -/
def P_l103 : List (Nat × P_I) := [(11, .invokevirtual 72, 14, 0, 102, [], []), (20, .getfield 45, 23, 7, 8, [], []), (25, .putfield 45, 28, 7, 8, [], []), (29, .invokevirtual 128, 32, 0, 116, [], [])]
set_option maxRecDepth 20000 in
theorem P_k103 : ∀ q ∈ P_l103, P_lnk P_cl P_aty P_stat P_tx P_N0 P_Tb P_Y0 "OrchardQuery$Query" false prog_9_method_14_code [] q.1 q.2.1 q.2.2.2.1 q.2.2.2.2.1 :=
  P_all_cons (P_lnk_vi (P_vall (l := P_v102) rfl (P_all_cons (show P_vok _ _ _ 7 110 from ⟨_, rfl, rfl, w_1_7, w_2_174, (Or.inl ⟨P_sg 0 rfl, w_p_6, (Or.inl w_2_172)⟩)⟩) (P_all_nil)))) <|
  P_all_cons (P_lnk_get (P_s1 (c := 7) (P := fun ci => P_fok P_cl P_Tb "OrchardQuery$Query" 45 ci 8) rfl ⟨_, _, _, "OrchardQuery$Query", rfl, by decide, (Or.inl rfl), (Or.inl w_1_170)⟩)) <|
  P_all_cons (P_lnk_put (P_s1 (c := 7) (P := fun ci => P_pok P_cl P_Tb "OrchardQuery$Query" false 45 ci 8) rfl ⟨_, _, _, "OrchardQuery$Query", rfl, by decide, (Or.inl rfl), (Or.inl ⟨w_1_170, (Or.inl rfl)⟩)⟩)) <|
  P_all_cons (P_lnk_vi (P_vall (l := P_v116) rfl (P_all_cons (show P_vok _ _ _ 7 104 from ⟨_, rfl, rfl, w_1_7, w_2_230, (Or.inl ⟨P_sg 0 rfl, w_p_14, (Or.inl w_2_228)⟩)⟩) (P_all_nil)))) <|
  P_all_nil
set_option maxRecDepth 20000 in
theorem P_m103 : P_mst 103 3 (Option.some Jvm.ClassFile.FieldType.boolean) P_e103 [] := P_meth (mx := 3) (rt := (Option.some Jvm.ClassFile.FieldType.boolean)) (hs := []) "OrchardQuery$Query" false prog_9_method_14_code [] rfl rfl rfl rfl (by decide +kernel) (by decide +kernel) (fun _ => P_g103) (by decide) (fun _ _ => by decide +kernel) (fun q => by cases q) (P_all_cons (by decide +kernel) <| P_all_cons (by decide +kernel) <| P_all_nil) P_l103 (by decide +kernel) P_k103 (fun _ _ => P_hok_nil)
/-- OrchardQuery$Query.readsCondition()Z -/
def P_l104 : List (Nat × P_I) := [(1, .invokevirtual 72, 4, 0, 102, [], []), (6, .invokestatic 109, 9, 1, 175, [], []), (15, .getfield 45, 18, 7, 8, [], []), (18, .invokevirtual 76, 21, 2, 103, [], []), (24, .getfield 45, 27, 7, 8, [], []), (29, .putfield 45, 32, 7, 8, [], []), (33, .invokevirtual 72, 36, 0, 102, [], []), (59, .getfield 45, 62, 7, 8, [], []), (62, .invokevirtual 76, 65, 2, 103, [], []), (68, .getfield 45, 71, 7, 8, [], []), (73, .putfield 45, 76, 7, 8, [], []), (77, .invokevirtual 72, 80, 0, 102, [], []), (82, .invokestatic 109, 85, 1, 175, [], []), (89, .invokestatic 131, 92, 1, 176, [], []), (99, .getfield 45, 102, 7, 8, [], []), (102, .invokevirtual 76, 105, 2, 103, [], []), (108, .getfield 45, 111, 7, 8, [], []), (113, .putfield 45, 116, 7, 8, [], []), (117, .getfield 19, 120, 7, 2, [], []), (123, .invokevirtual 134, 126, 3, 87, [], [])]
set_option maxRecDepth 20000 in
theorem P_k104 : ∀ q ∈ P_l104, P_lnk P_cl P_aty P_stat P_tx P_N0 P_Tb P_Y0 "OrchardQuery$Query" false prog_9_method_15_code [] q.1 q.2.1 q.2.2.2.1 q.2.2.2.2.1 :=
  P_all_cons (P_lnk_vi (P_vall (l := P_v102) rfl (P_all_cons (show P_vok _ _ _ 7 110 from ⟨_, rfl, rfl, w_1_7, w_2_174, (Or.inl ⟨P_sg 0 rfl, w_p_6, (Or.inl w_2_172)⟩)⟩) (P_all_nil)))) <|
  P_all_cons (P_lnk_st (by decide) (fun _ => ⟨P_sg 1 rfl, w_1_1, w_2_163, (Or.inr ⟨rfl, _, w_2_193⟩)⟩)) <|
  P_all_cons (P_lnk_get (P_s1 (c := 7) (P := fun ci => P_fok P_cl P_Tb "OrchardQuery$Query" 45 ci 8) rfl ⟨_, _, _, "OrchardQuery$Query", rfl, by decide, (Or.inl rfl), (Or.inl w_1_170)⟩)) <|
  P_all_cons (P_lnk_vi (P_vall (l := P_v103) rfl (P_all_cons (show P_vok _ _ _ 7 112 from ⟨_, rfl, rfl, w_1_7, w_2_179, (Or.inl ⟨P_sg 2 rfl, w_p_7, (Or.inl w_2_177)⟩)⟩) (P_all_nil)))) <|
  P_all_cons (P_lnk_get (P_s1 (c := 7) (P := fun ci => P_fok P_cl P_Tb "OrchardQuery$Query" 45 ci 8) rfl ⟨_, _, _, "OrchardQuery$Query", rfl, by decide, (Or.inl rfl), (Or.inl w_1_170)⟩)) <|
  P_all_cons (P_lnk_put (P_s1 (c := 7) (P := fun ci => P_pok P_cl P_Tb "OrchardQuery$Query" false 45 ci 8) rfl ⟨_, _, _, "OrchardQuery$Query", rfl, by decide, (Or.inl rfl), (Or.inl ⟨w_1_170, (Or.inl rfl)⟩)⟩)) <|
  P_all_cons (P_lnk_vi (P_vall (l := P_v102) rfl (P_all_cons (show P_vok _ _ _ 7 110 from ⟨_, rfl, rfl, w_1_7, w_2_174, (Or.inl ⟨P_sg 0 rfl, w_p_6, (Or.inl w_2_172)⟩)⟩) (P_all_nil)))) <|
  P_all_cons (P_lnk_get (P_s1 (c := 7) (P := fun ci => P_fok P_cl P_Tb "OrchardQuery$Query" 45 ci 8) rfl ⟨_, _, _, "OrchardQuery$Query", rfl, by decide, (Or.inl rfl), (Or.inl w_1_170)⟩)) <|
  P_all_cons (P_lnk_vi (P_vall (l := P_v103) rfl (P_all_cons (show P_vok _ _ _ 7 112 from ⟨_, rfl, rfl, w_1_7, w_2_179, (Or.inl ⟨P_sg 2 rfl, w_p_7, (Or.inl w_2_177)⟩)⟩) (P_all_nil)))) <|
  P_all_cons (P_lnk_get (P_s1 (c := 7) (P := fun ci => P_fok P_cl P_Tb "OrchardQuery$Query" 45 ci 8) rfl ⟨_, _, _, "OrchardQuery$Query", rfl, by decide, (Or.inl rfl), (Or.inl w_1_170)⟩)) <|
  P_all_cons (P_lnk_put (P_s1 (c := 7) (P := fun ci => P_pok P_cl P_Tb "OrchardQuery$Query" false 45 ci 8) rfl ⟨_, _, _, "OrchardQuery$Query", rfl, by decide, (Or.inl rfl), (Or.inl ⟨w_1_170, (Or.inl rfl)⟩)⟩)) <|
  P_all_cons (P_lnk_vi (P_vall (l := P_v102) rfl (P_all_cons (show P_vok _ _ _ 7 110 from ⟨_, rfl, rfl, w_1_7, w_2_174, (Or.inl ⟨P_sg 0 rfl, w_p_6, (Or.inl w_2_172)⟩)⟩) (P_all_nil)))) <|
  P_all_cons (P_lnk_st (by decide) (fun _ => ⟨P_sg 1 rfl, w_1_1, w_2_163, (Or.inr ⟨rfl, _, w_2_193⟩)⟩)) <|
  P_all_cons (P_lnk_st (by decide) (fun _ => ⟨P_sg 1 rfl, w_1_1, w_2_233, (Or.inr ⟨rfl, _, w_2_232⟩)⟩)) <|
  P_all_cons (P_lnk_get (P_s1 (c := 7) (P := fun ci => P_fok P_cl P_Tb "OrchardQuery$Query" 45 ci 8) rfl ⟨_, _, _, "OrchardQuery$Query", rfl, by decide, (Or.inl rfl), (Or.inl w_1_170)⟩)) <|
  P_all_cons (P_lnk_vi (P_vall (l := P_v103) rfl (P_all_cons (show P_vok _ _ _ 7 112 from ⟨_, rfl, rfl, w_1_7, w_2_179, (Or.inl ⟨P_sg 2 rfl, w_p_7, (Or.inl w_2_177)⟩)⟩) (P_all_nil)))) <|
  P_all_cons (P_lnk_get (P_s1 (c := 7) (P := fun ci => P_fok P_cl P_Tb "OrchardQuery$Query" 45 ci 8) rfl ⟨_, _, _, "OrchardQuery$Query", rfl, by decide, (Or.inl rfl), (Or.inl w_1_170)⟩)) <|
  P_all_cons (P_lnk_put (P_s1 (c := 7) (P := fun ci => P_pok P_cl P_Tb "OrchardQuery$Query" false 45 ci 8) rfl ⟨_, _, _, "OrchardQuery$Query", rfl, by decide, (Or.inl rfl), (Or.inl ⟨w_1_170, (Or.inl rfl)⟩)⟩)) <|
  P_all_cons (P_lnk_get (P_s1 (c := 7) (P := fun ci => P_fok P_cl P_Tb "OrchardQuery$Query" 19 ci 2) rfl ⟨_, _, _, "OrchardQuery$Query", rfl, by decide, (Or.inl rfl), (Or.inl w_1_164)⟩)) <|
  P_all_cons (P_lnk_vi (P_vall (l := P_v87) rfl (P_all_cons (show P_vok _ _ _ 5 60 from ⟨_, rfl, rfl, w_1_5, w_2_236, (Or.inl ⟨P_sg 3 rfl, w_2_237, (Or.inl w_2_235)⟩)⟩) (P_all_nil)))) <|
  P_all_nil
set_option maxRecDepth 20000 in
theorem P_m104 : P_mst 104 4 (Option.some Jvm.ClassFile.FieldType.boolean) P_e104 [] := P_meth (mx := 4) (rt := (Option.some Jvm.ClassFile.FieldType.boolean)) (hs := []) "OrchardQuery$Query" false prog_9_method_15_code [] rfl rfl rfl rfl (by decide +kernel) (by decide +kernel) (fun _ => P_g104) (by decide) (fun _ _ => by decide +kernel) (fun q => by cases q) (P_all_cons (by decide +kernel) <| P_all_cons (by decide +kernel) <| P_all_cons (by decide +kernel) <| P_all_cons (by decide +kernel) <| P_all_nil) P_l104 (by decide +kernel) P_k104 (fun _ _ => P_hok_nil)
/-- OrchardQuery$Query.readsGroup()Z -/
def P_l105 : List (Nat × P_I) := [(1, .invokevirtual 72, 4, 0, 102, [], []), (12, .getfield 45, 15, 7, 8, [], []), (17, .putfield 45, 20, 7, 8, [], []), (21, .invokevirtual 72, 24, 0, 102, [], []), (24, .invokestatic 109, 27, 1, 175, [], []), (33, .getfield 45, 36, 7, 8, [], []), (36, .invokevirtual 76, 39, 2, 103, [], []), (41, .getfield 15, 44, 7, 1, [], []), (45, .invokevirtual 72, 48, 0, 102, [], []), (48, .invokevirtual 138, 51, 1, 117, [], []), (53, .getfield 45, 56, 7, 8, [], []), (58, .putfield 45, 61, 7, 8, [], [])]
set_option maxRecDepth 20000 in
theorem P_k105 : ∀ q ∈ P_l105, P_lnk P_cl P_aty P_stat P_tx P_N0 P_Tb P_Y0 "OrchardQuery$Query" false prog_9_method_16_code [] q.1 q.2.1 q.2.2.2.1 q.2.2.2.2.1 :=
  P_all_cons (P_lnk_vi (P_vall (l := P_v102) rfl (P_all_cons (show P_vok _ _ _ 7 110 from ⟨_, rfl, rfl, w_1_7, w_2_174, (Or.inl ⟨P_sg 0 rfl, w_p_6, (Or.inl w_2_172)⟩)⟩) (P_all_nil)))) <|
  P_all_cons (P_lnk_get (P_s1 (c := 7) (P := fun ci => P_fok P_cl P_Tb "OrchardQuery$Query" 45 ci 8) rfl ⟨_, _, _, "OrchardQuery$Query", rfl, by decide, (Or.inl rfl), (Or.inl w_1_170)⟩)) <|
  P_all_cons (P_lnk_put (P_s1 (c := 7) (P := fun ci => P_pok P_cl P_Tb "OrchardQuery$Query" false 45 ci 8) rfl ⟨_, _, _, "OrchardQuery$Query", rfl, by decide, (Or.inl rfl), (Or.inl ⟨w_1_170, (Or.inl rfl)⟩)⟩)) <|
  P_all_cons (P_lnk_vi (P_vall (l := P_v102) rfl (P_all_cons (show P_vok _ _ _ 7 110 from ⟨_, rfl, rfl, w_1_7, w_2_174, (Or.inl ⟨P_sg 0 rfl, w_p_6, (Or.inl w_2_172)⟩)⟩) (P_all_nil)))) <|
  P_all_cons (P_lnk_st (by decide) (fun _ => ⟨P_sg 1 rfl, w_1_1, w_2_163, (Or.inr ⟨rfl, _, w_2_193⟩)⟩)) <|
  P_all_cons (P_lnk_get (P_s1 (c := 7) (P := fun ci => P_fok P_cl P_Tb "OrchardQuery$Query" 45 ci 8) rfl ⟨_, _, _, "OrchardQuery$Query", rfl, by decide, (Or.inl rfl), (Or.inl w_1_170)⟩)) <|
  P_all_cons (P_lnk_vi (P_vall (l := P_v103) rfl (P_all_cons (show P_vok _ _ _ 7 112 from ⟨_, rfl, rfl, w_1_7, w_2_179, (Or.inl ⟨P_sg 2 rfl, w_p_7, (Or.inl w_2_177)⟩)⟩) (P_all_nil)))) <|
  P_all_cons (P_lnk_get (P_s1 (c := 7) (P := fun ci => P_fok P_cl P_Tb "OrchardQuery$Query" 15 ci 1) rfl ⟨_, _, _, "OrchardQuery$Query", rfl, by decide, (Or.inl rfl), (Or.inl w_1_163)⟩)) <|
  P_all_cons (P_lnk_vi (P_vall (l := P_v102) rfl (P_all_cons (show P_vok _ _ _ 7 110 from ⟨_, rfl, rfl, w_1_7, w_2_174, (Or.inl ⟨P_sg 0 rfl, w_p_6, (Or.inl w_2_172)⟩)⟩) (P_all_nil)))) <|
  P_all_cons (P_lnk_vi (P_vall (l := P_v117) rfl (P_all_cons (show P_vok _ _ _ 3 26 from ⟨_, rfl, rfl, w_1_4, w_3_12, (Or.inl ⟨P_sg 1 rfl, w_3_13, (Or.inl w_3_11)⟩)⟩) (P_all_nil)))) <|
  P_all_cons (P_lnk_get (P_s1 (c := 7) (P := fun ci => P_fok P_cl P_Tb "OrchardQuery$Query" 45 ci 8) rfl ⟨_, _, _, "OrchardQuery$Query", rfl, by decide, (Or.inl rfl), (Or.inl w_1_170)⟩)) <|
  P_all_cons (P_lnk_put (P_s1 (c := 7) (P := fun ci => P_pok P_cl P_Tb "OrchardQuery$Query" false 45 ci 8) rfl ⟨_, _, _, "OrchardQuery$Query", rfl, by decide, (Or.inl rfl), (Or.inl ⟨w_1_170, (Or.inl rfl)⟩)⟩)) <|
  P_all_nil
set_option maxRecDepth 20000 in
theorem P_m105 : P_mst 105 1 (Option.some Jvm.ClassFile.FieldType.boolean) P_e105 [] := P_meth (mx := 1) (rt := (Option.some Jvm.ClassFile.FieldType.boolean)) (hs := []) "OrchardQuery$Query" false prog_9_method_16_code [] rfl rfl rfl rfl (by decide +kernel) (by decide +kernel) (fun _ => P_g105) (by decide) (fun _ _ => by decide +kernel) (fun q => by cases q) (P_all_cons (by decide +kernel) <| P_all_cons (by decide +kernel) <| P_all_nil) P_l105 (by decide +kernel) P_k105 (fun _ _ => P_hok_nil)
/-- OrchardQuery$Query.readsOrder()Z -/
def P_l106 : List (Nat × P_I) := [(1, .invokevirtual 72, 4, 0, 102, [], []), (12, .getfield 45, 15, 7, 8, [], []), (17, .putfield 45, 20, 7, 8, [], []), (21, .invokevirtual 72, 24, 0, 102, [], []), (24, .invokestatic 131, 27, 1, 176, [], []), (34, .getfield 45, 37, 7, 8, [], []), (37, .invokevirtual 76, 40, 2, 103, [], []), (42, .getfield 15, 45, 7, 1, [], []), (46, .invokevirtual 72, 49, 0, 102, [], []), (53, .invokevirtual 142, 56, 1, 118, [], []), (58, .getfield 45, 61, 7, 8, [], []), (61, .putfield 145, 64, 7, 9, [], []), (66, .getfield 45, 69, 7, 8, [], []), (71, .putfield 45, 74, 7, 8, [], [])]
set_option maxRecDepth 20000 in
theorem P_k106 : ∀ q ∈ P_l106, P_lnk P_cl P_aty P_stat P_tx P_N0 P_Tb P_Y0 "OrchardQuery$Query" false prog_9_method_17_code [] q.1 q.2.1 q.2.2.2.1 q.2.2.2.2.1 :=
  P_all_cons (P_lnk_vi (P_vall (l := P_v102) rfl (P_all_cons (show P_vok _ _ _ 7 110 from ⟨_, rfl, rfl, w_1_7, w_2_174, (Or.inl ⟨P_sg 0 rfl, w_p_6, (Or.inl w_2_172)⟩)⟩) (P_all_nil)))) <|
  P_all_cons (P_lnk_get (P_s1 (c := 7) (P := fun ci => P_fok P_cl P_Tb "OrchardQuery$Query" 45 ci 8) rfl ⟨_, _, _, "OrchardQuery$Query", rfl, by decide, (Or.inl rfl), (Or.inl w_1_170)⟩)) <|
  P_all_cons (P_lnk_put (P_s1 (c := 7) (P := fun ci => P_pok P_cl P_Tb "OrchardQuery$Query" false 45 ci 8) rfl ⟨_, _, _, "OrchardQuery$Query", rfl, by decide, (Or.inl rfl), (Or.inl ⟨w_1_170, (Or.inl rfl)⟩)⟩)) <|
  P_all_cons (P_lnk_vi (P_vall (l := P_v102) rfl (P_all_cons (show P_vok _ _ _ 7 110 from ⟨_, rfl, rfl, w_1_7, w_2_174, (Or.inl ⟨P_sg 0 rfl, w_p_6, (Or.inl w_2_172)⟩)⟩) (P_all_nil)))) <|
  P_all_cons (P_lnk_st (by decide) (fun _ => ⟨P_sg 1 rfl, w_1_1, w_2_233, (Or.inr ⟨rfl, _, w_2_232⟩)⟩)) <|
  P_all_cons (P_lnk_get (P_s1 (c := 7) (P := fun ci => P_fok P_cl P_Tb "OrchardQuery$Query" 45 ci 8) rfl ⟨_, _, _, "OrchardQuery$Query", rfl, by decide, (Or.inl rfl), (Or.inl w_1_170)⟩)) <|
  P_all_cons (P_lnk_vi (P_vall (l := P_v103) rfl (P_all_cons (show P_vok _ _ _ 7 112 from ⟨_, rfl, rfl, w_1_7, w_2_179, (Or.inl ⟨P_sg 2 rfl, w_p_7, (Or.inl w_2_177)⟩)⟩) (P_all_nil)))) <|
  P_all_cons (P_lnk_get (P_s1 (c := 7) (P := fun ci => P_fok P_cl P_Tb "OrchardQuery$Query" 15 ci 1) rfl ⟨_, _, _, "OrchardQuery$Query", rfl, by decide, (Or.inl rfl), (Or.inl w_1_163)⟩)) <|
  P_all_cons (P_lnk_vi (P_vall (l := P_v102) rfl (P_all_cons (show P_vok _ _ _ 7 110 from ⟨_, rfl, rfl, w_1_7, w_2_174, (Or.inl ⟨P_sg 0 rfl, w_p_6, (Or.inl w_2_172)⟩)⟩) (P_all_nil)))) <|
  P_all_cons (P_lnk_vi (P_vall (l := P_v118) rfl (P_all_cons (show P_vok _ _ _ 3 27 from ⟨_, rfl, rfl, w_1_4, w_3_20, (Or.inl ⟨P_sg 1 rfl, w_3_21, (Or.inl w_3_19)⟩)⟩) (P_all_nil)))) <|
  P_all_cons (P_lnk_get (P_s1 (c := 7) (P := fun ci => P_fok P_cl P_Tb "OrchardQuery$Query" 45 ci 8) rfl ⟨_, _, _, "OrchardQuery$Query", rfl, by decide, (Or.inl rfl), (Or.inl w_1_170)⟩)) <|
  P_all_cons (P_lnk_put (P_s1 (c := 7) (P := fun ci => P_pok P_cl P_Tb "OrchardQuery$Query" false 145 ci 9) rfl ⟨_, _, _, "OrchardQuery$Query", rfl, by decide, (Or.inl rfl), (Or.inl ⟨w_1_171, (Or.inl rfl)⟩)⟩)) <|
  P_all_cons (P_lnk_get (P_s1 (c := 7) (P := fun ci => P_fok P_cl P_Tb "OrchardQuery$Query" 45 ci 8) rfl ⟨_, _, _, "OrchardQuery$Query", rfl, by decide, (Or.inl rfl), (Or.inl w_1_170)⟩)) <|
  P_all_cons (P_lnk_put (P_s1 (c := 7) (P := fun ci => P_pok P_cl P_Tb "OrchardQuery$Query" false 45 ci 8) rfl ⟨_, _, _, "OrchardQuery$Query", rfl, by decide, (Or.inl rfl), (Or.inl ⟨w_1_170, (Or.inl rfl)⟩)⟩)) <|
  P_all_nil
set_option maxRecDepth 20000 in
theorem P_m106 : P_mst 106 1 (Option.some Jvm.ClassFile.FieldType.boolean) P_e106 [] := P_meth (mx := 1) (rt := (Option.some Jvm.ClassFile.FieldType.boolean)) (hs := []) "OrchardQuery$Query" false prog_9_method_17_code [] rfl rfl rfl rfl (by decide +kernel) (by decide +kernel) (fun _ => P_g106) (by decide) (fun _ _ => by decide +kernel) (fun q => by cases q) (P_all_cons (by decide +kernel) <| P_all_cons (by decide +kernel) <| P_all_cons (by decide +kernel) <| P_all_nil) P_l106 (by decide +kernel) P_k106 (fun _ _ => P_hok_nil)
/-- OrchardQuery$Query.readsLimit()Z -/
def P_l107 : List (Nat × P_I) := [(1, .invokevirtual 72, 4, 0, 102, [], []), (13, .getfield 45, 16, 7, 8, [], []), (18, .putfield 45, 21, 7, 8, [], []), (22, .invokevirtual 72, 25, 0, 102, [], []), (25, .invokestatic 131, 28, 1, 176, [], []), (35, .getfield 45, 38, 7, 8, [], []), (38, .invokevirtual 76, 41, 2, 103, [], []), (43, .getfield 15, 46, 7, 1, [], []), (47, .invokevirtual 72, 50, 0, 102, [], []), (54, .invokevirtual 148, 57, 1, 119, [], []), (59, .getfield 45, 62, 7, 8, [], []), (64, .putfield 45, 67, 7, 8, [], [])]
set_option maxRecDepth 20000 in
theorem P_k107 : ∀ q ∈ P_l107, P_lnk P_cl P_aty P_stat P_tx P_N0 P_Tb P_Y0 "OrchardQuery$Query" false prog_9_method_18_code [] q.1 q.2.1 q.2.2.2.1 q.2.2.2.2.1 :=
  P_all_cons (P_lnk_vi (P_vall (l := P_v102) rfl (P_all_cons (show P_vok _ _ _ 7 110 from ⟨_, rfl, rfl, w_1_7, w_2_174, (Or.inl ⟨P_sg 0 rfl, w_p_6, (Or.inl w_2_172)⟩)⟩) (P_all_nil)))) <|
  P_all_cons (P_lnk_get (P_s1 (c := 7) (P := fun ci => P_fok P_cl P_Tb "OrchardQuery$Query" 45 ci 8) rfl ⟨_, _, _, "OrchardQuery$Query", rfl, by decide, (Or.inl rfl), (Or.inl w_1_170)⟩)) <|
  P_all_cons (P_lnk_put (P_s1 (c := 7) (P := fun ci => P_pok P_cl P_Tb "OrchardQuery$Query" false 45 ci 8) rfl ⟨_, _, _, "OrchardQuery$Query", rfl, by decide, (Or.inl rfl), (Or.inl ⟨w_1_170, (Or.inl rfl)⟩)⟩)) <|
  P_all_cons (P_lnk_vi (P_vall (l := P_v102) rfl (P_all_cons (show P_vok _ _ _ 7 110 from ⟨_, rfl, rfl, w_1_7, w_2_174, (Or.inl ⟨P_sg 0 rfl, w_p_6, (Or.inl w_2_172)⟩)⟩) (P_all_nil)))) <|
  P_all_cons (P_lnk_st (by decide) (fun _ => ⟨P_sg 1 rfl, w_1_1, w_2_233, (Or.inr ⟨rfl, _, w_2_232⟩)⟩)) <|
  P_all_cons (P_lnk_get (P_s1 (c := 7) (P := fun ci => P_fok P_cl P_Tb "OrchardQuery$Query" 45 ci 8) rfl ⟨_, _, _, "OrchardQuery$Query", rfl, by decide, (Or.inl rfl), (Or.inl w_1_170)⟩)) <|
  P_all_cons (P_lnk_vi (P_vall (l := P_v103) rfl (P_all_cons (show P_vok _ _ _ 7 112 from ⟨_, rfl, rfl, w_1_7, w_2_179, (Or.inl ⟨P_sg 2 rfl, w_p_7, (Or.inl w_2_177)⟩)⟩) (P_all_nil)))) <|
  P_all_cons (P_lnk_get (P_s1 (c := 7) (P := fun ci => P_fok P_cl P_Tb "OrchardQuery$Query" 15 ci 1) rfl ⟨_, _, _, "OrchardQuery$Query", rfl, by decide, (Or.inl rfl), (Or.inl w_1_163)⟩)) <|
  P_all_cons (P_lnk_vi (P_vall (l := P_v102) rfl (P_all_cons (show P_vok _ _ _ 7 110 from ⟨_, rfl, rfl, w_1_7, w_2_174, (Or.inl ⟨P_sg 0 rfl, w_p_6, (Or.inl w_2_172)⟩)⟩) (P_all_nil)))) <|
  P_all_cons (P_lnk_vi (P_vall (l := P_v119) rfl (P_all_cons (show P_vok _ _ _ 3 28 from ⟨_, rfl, rfl, w_1_4, w_3_28, (Or.inl ⟨P_sg 1 rfl, w_3_29, (Or.inl w_3_27)⟩)⟩) (P_all_nil)))) <|
  P_all_cons (P_lnk_get (P_s1 (c := 7) (P := fun ci => P_fok P_cl P_Tb "OrchardQuery$Query" 45 ci 8) rfl ⟨_, _, _, "OrchardQuery$Query", rfl, by decide, (Or.inl rfl), (Or.inl w_1_170)⟩)) <|
  P_all_cons (P_lnk_put (P_s1 (c := 7) (P := fun ci => P_pok P_cl P_Tb "OrchardQuery$Query" false 45 ci 8) rfl ⟨_, _, _, "OrchardQuery$Query", rfl, by decide, (Or.inl rfl), (Or.inl ⟨w_1_170, (Or.inl rfl)⟩)⟩)) <|
  P_all_nil
set_option maxRecDepth 20000 in
theorem P_m107 : P_mst 107 1 (Option.some Jvm.ClassFile.FieldType.boolean) P_e107 [] := P_meth (mx := 1) (rt := (Option.some Jvm.ClassFile.FieldType.boolean)) (hs := []) "OrchardQuery$Query" false prog_9_method_18_code [] rfl rfl rfl rfl (by decide +kernel) (by decide +kernel) (fun _ => P_g107) (by decide) (fun _ _ => by decide +kernel) (fun q => by cases q) (P_all_cons (by decide +kernel) <| P_all_cons (by decide +kernel) <| P_all_cons (by decide +kernel) <| P_all_nil) P_l107 (by decide +kernel) P_k107 (fun _ _ => P_hok_nil)
/-- OrchardQuery$Query.findsColumns()Z -/
def P_l108 : List (Nat × P_I) := [(4, .getfield 31, 7, 7, 4, [], []), (11, .getfield 23, 14, 7, 3, [], []), (15, .invokestatic 151, 18, 2, 179, [], []), (20, .invokestatic 109, 23, 1, 175, [], []), (27, .getfield 15, 30, 7, 1, [], []), (31, .invokevirtual 155, 34, 1, 120, [], []), (41, .invokevirtual 76, 44, 2, 103, [], [])]
set_option maxRecDepth 20000 in
theorem P_k108 : ∀ q ∈ P_l108, P_lnk P_cl P_aty P_stat P_tx P_N0 P_Tb P_Y0 "OrchardQuery$Query" false prog_9_method_19_code [] q.1 q.2.1 q.2.2.2.1 q.2.2.2.2.1 :=
  P_all_cons (P_lnk_get (P_s1 (c := 7) (P := fun ci => P_fok P_cl P_Tb "OrchardQuery$Query" 31 ci 4) rfl ⟨_, _, _, "OrchardQuery$Query", rfl, by decide, (Or.inl rfl), (Or.inl w_1_166)⟩)) <|
  P_all_cons (P_lnk_get (P_s1 (c := 7) (P := fun ci => P_fok P_cl P_Tb "OrchardQuery$Query" 23 ci 3) rfl ⟨_, _, _, "OrchardQuery$Query", rfl, by decide, (Or.inl rfl), (Or.inl w_1_165)⟩)) <|
  P_all_cons (P_lnk_st (by decide) (fun _ => ⟨P_sg 2 rfl, w_1_1, w_2_145, (Or.inr ⟨rfl, _, w_2_176⟩)⟩)) <|
  P_all_cons (P_lnk_st (by decide) (fun _ => ⟨P_sg 1 rfl, w_1_1, w_2_163, (Or.inr ⟨rfl, _, w_2_193⟩)⟩)) <|
  P_all_cons (P_lnk_get (P_s1 (c := 7) (P := fun ci => P_fok P_cl P_Tb "OrchardQuery$Query" 15 ci 1) rfl ⟨_, _, _, "OrchardQuery$Query", rfl, by decide, (Or.inl rfl), (Or.inl w_1_163)⟩)) <|
  P_all_cons (P_lnk_vi (P_vall (l := P_v120) rfl (P_all_cons (show P_vok _ _ _ 3 39 from ⟨_, rfl, rfl, w_1_4, w_3_36, (Or.inl ⟨P_sg 1 rfl, w_3_37, (Or.inl w_3_35)⟩)⟩) (P_all_nil)))) <|
  P_all_cons (P_lnk_vi (P_vall (l := P_v103) rfl (P_all_cons (show P_vok _ _ _ 7 112 from ⟨_, rfl, rfl, w_1_7, w_2_179, (Or.inl ⟨P_sg 2 rfl, w_p_7, (Or.inl w_2_177)⟩)⟩) (P_all_nil)))) <|
  P_all_nil
set_option maxRecDepth 20000 in
theorem P_m108 : P_mst 108 3 (Option.some Jvm.ClassFile.FieldType.boolean) P_e108 [] := P_meth (mx := 3) (rt := (Option.some Jvm.ClassFile.FieldType.boolean)) (hs := []) "OrchardQuery$Query" false prog_9_method_19_code [] rfl rfl rfl rfl (by decide +kernel) (by decide +kernel) (fun _ => P_g108) (by decide) (fun _ _ => by decide +kernel) (fun q => by cases q) (P_all_cons (by decide +kernel) <| P_all_cons (by decide +kernel) <| P_all_nil) P_l108 (by decide +kernel) P_k108 (fun _ _ => P_hok_nil)
/-- OrchardQuery$Query.findsOrderItem()Z -/
def P_l109 : List (Nat × P_I) := [(1, .getfield 15, 4, 7, 1, [], []), (4, .invokevirtual 158, 7, 0, 38, [], []), (14, .getfield 15, 17, 7, 1, [], []), (18, .invokevirtual 161, 21, 1, 121, [], []), (28, .getfield 145, 31, 7, 9, [], []), (31, .invokevirtual 76, 34, 2, 103, [], [])]
set_option maxRecDepth 20000 in
theorem P_k109 : ∀ q ∈ P_l109, P_lnk P_cl P_aty P_stat P_tx P_N0 P_Tb P_Y0 "OrchardQuery$Query" false prog_9_method_20_code [] q.1 q.2.1 q.2.2.2.1 q.2.2.2.2.1 :=
  P_all_cons (P_lnk_get (P_s1 (c := 7) (P := fun ci => P_fok P_cl P_Tb "OrchardQuery$Query" 15 ci 1) rfl ⟨_, _, _, "OrchardQuery$Query", rfl, by decide, (Or.inl rfl), (Or.inl w_1_163)⟩)) <|
  P_all_cons (P_lnk_vi (P_vall (l := P_v38) rfl (P_all_cons (show P_vok _ _ _ 3 32 from ⟨_, rfl, rfl, w_1_4, w_3_56, (Or.inl ⟨P_sg 0 rfl, w_3_57, (Or.inl w_3_55)⟩)⟩) (P_all_nil)))) <|
  P_all_cons (P_lnk_get (P_s1 (c := 7) (P := fun ci => P_fok P_cl P_Tb "OrchardQuery$Query" 15 ci 1) rfl ⟨_, _, _, "OrchardQuery$Query", rfl, by decide, (Or.inl rfl), (Or.inl w_1_163)⟩)) <|
  P_all_cons (P_lnk_vi (P_vall (l := P_v121) rfl (P_all_cons (show P_vok _ _ _ 3 36 from ⟨_, rfl, rfl, w_1_4, w_3_60, (Or.inl ⟨P_sg 1 rfl, w_3_61, (Or.inl w_3_59)⟩)⟩) (P_all_nil)))) <|
  P_all_cons (P_lnk_get (P_s1 (c := 7) (P := fun ci => P_fok P_cl P_Tb "OrchardQuery$Query" 145 ci 9) rfl ⟨_, _, _, "OrchardQuery$Query", rfl, by decide, (Or.inl rfl), (Or.inl w_1_171)⟩)) <|
  P_all_cons (P_lnk_vi (P_vall (l := P_v103) rfl (P_all_cons (show P_vok _ _ _ 7 112 from ⟨_, rfl, rfl, w_1_7, w_2_179, (Or.inl ⟨P_sg 2 rfl, w_p_7, (Or.inl w_2_177)⟩)⟩) (P_all_nil)))) <|
  P_all_nil
set_option maxRecDepth 20000 in
theorem P_m109 : P_mst 109 2 (Option.some Jvm.ClassFile.FieldType.boolean) P_e109 [] := P_meth (mx := 2) (rt := (Option.some Jvm.ClassFile.FieldType.boolean)) (hs := []) "OrchardQuery$Query" false prog_9_method_20_code [] rfl rfl rfl rfl (by decide +kernel) (by decide +kernel) (fun _ => P_g109) (by decide) (fun _ _ => by decide +kernel) (fun q => by cases q) (P_all_cons (by decide +kernel) <| P_all_cons (by decide +kernel) <| P_all_nil) P_l109 (by decide +kernel) P_k109 (fun _ _ => P_hok_nil)
/-- OrchardQuery$Query.ahead()I -/
def P_l110 : List (Nat × P_I) := [(1, .getfield 45, 4, 7, 8, [], []), (5, .getfield 31, 8, 7, 4, [], []), (12, .getfield 23, 15, 7, 3, [], []), (16, .getfield 45, 19, 7, 8, [], []), (19, .invokestatic 151, 22, 2, 179, [], [])]
set_option maxRecDepth 20000 in
theorem P_k110 : ∀ q ∈ P_l110, P_lnk P_cl P_aty P_stat P_tx P_N0 P_Tb P_Y0 "OrchardQuery$Query" false prog_9_method_21_code [] q.1 q.2.1 q.2.2.2.1 q.2.2.2.2.1 :=
  P_all_cons (P_lnk_get (P_s1 (c := 7) (P := fun ci => P_fok P_cl P_Tb "OrchardQuery$Query" 45 ci 8) rfl ⟨_, _, _, "OrchardQuery$Query", rfl, by decide, (Or.inl rfl), (Or.inl w_1_170)⟩)) <|
  P_all_cons (P_lnk_get (P_s1 (c := 7) (P := fun ci => P_fok P_cl P_Tb "OrchardQuery$Query" 31 ci 4) rfl ⟨_, _, _, "OrchardQuery$Query", rfl, by decide, (Or.inl rfl), (Or.inl w_1_166)⟩)) <|
  P_all_cons (P_lnk_get (P_s1 (c := 7) (P := fun ci => P_fok P_cl P_Tb "OrchardQuery$Query" 23 ci 3) rfl ⟨_, _, _, "OrchardQuery$Query", rfl, by decide, (Or.inl rfl), (Or.inl w_1_165)⟩)) <|
  P_all_cons (P_lnk_get (P_s1 (c := 7) (P := fun ci => P_fok P_cl P_Tb "OrchardQuery$Query" 45 ci 8) rfl ⟨_, _, _, "OrchardQuery$Query", rfl, by decide, (Or.inl rfl), (Or.inl w_1_170)⟩)) <|
  P_all_cons (P_lnk_st (by decide) (fun _ => ⟨P_sg 2 rfl, w_1_1, w_2_145, (Or.inr ⟨rfl, _, w_2_176⟩)⟩)) <|
  P_all_nil
set_option maxRecDepth 20000 in
theorem P_m110 : P_mst 110 1 (Option.some Jvm.ClassFile.FieldType.int) P_e110 [] := P_meth (mx := 1) (rt := (Option.some Jvm.ClassFile.FieldType.int)) (hs := []) "OrchardQuery$Query" false prog_9_method_21_code [] rfl rfl rfl rfl (by decide +kernel) (by decide +kernel) (fun _ => P_g110) (by decide) (fun _ _ => by decide +kernel) (fun q => by cases q) (P_all_cons (by decide +kernel) <| P_all_nil) P_l110 (by decide +kernel) P_k110 (fun _ _ => P_hok_nil)
/-- OrchardQuery$Query.beginsItem(I)Z -/
def P_l111 : List (Nat × P_I) := [(13, .invokestatic 109, 16, 1, 175, [], [])]
set_option maxRecDepth 20000 in
theorem P_k111 : ∀ q ∈ P_l111, P_lnk P_cl P_aty P_stat P_tx P_N0 P_Tb P_Y0 "OrchardQuery$Query" false prog_9_method_22_code [] q.1 q.2.1 q.2.2.2.1 q.2.2.2.2.1 :=
  P_all_cons (P_lnk_st (by decide) (fun _ => ⟨P_sg 1 rfl, w_1_1, w_2_163, (Or.inr ⟨rfl, _, w_2_193⟩)⟩)) <|
  P_all_nil
set_option maxRecDepth 20000 in
theorem P_m111 : P_mst 111 2 (Option.some Jvm.ClassFile.FieldType.boolean) P_e111 [] := P_meth (mx := 2) (rt := (Option.some Jvm.ClassFile.FieldType.boolean)) (hs := []) "OrchardQuery$Query" false prog_9_method_22_code [] rfl rfl rfl rfl (by decide +kernel) (by decide +kernel) (fun _ => P_g111) (by decide) (fun _ _ => by decide +kernel) (fun q => by cases q) (P_all_cons (by decide +kernel) <| P_all_nil) P_l111 (by decide +kernel) P_k111 (fun _ _ => P_hok_nil)
/-- OrchardQuery$Query.fails(II)Z -/
def P_l112 : List (Nat × P_I) := [(2, .putfield 48, 5, 7, 6, [], []), (7, .putfield 27, 10, 7, 7, [], [])]
set_option maxRecDepth 20000 in
theorem P_k112 : ∀ q ∈ P_l112, P_lnk P_cl P_aty P_stat P_tx P_N0 P_Tb P_Y0 "OrchardQuery$Query" false prog_9_method_23_code [] q.1 q.2.1 q.2.2.2.1 q.2.2.2.2.1 :=
  P_all_cons (P_lnk_put (P_s1 (c := 7) (P := fun ci => P_pok P_cl P_Tb "OrchardQuery$Query" false 48 ci 6) rfl ⟨_, _, _, "OrchardQuery$Query", rfl, by decide, (Or.inl rfl), (Or.inl ⟨w_1_168, (Or.inl rfl)⟩)⟩)) <|
  P_all_cons (P_lnk_put (P_s1 (c := 7) (P := fun ci => P_pok P_cl P_Tb "OrchardQuery$Query" false 27 ci 7) rfl ⟨_, _, _, "OrchardQuery$Query", rfl, by decide, (Or.inl rfl), (Or.inl ⟨w_1_169, (Or.inl rfl)⟩)⟩)) <|
  P_all_nil
set_option maxRecDepth 20000 in
theorem P_m112 : P_mst 112 3 (Option.some Jvm.ClassFile.FieldType.boolean) P_e112 [] := P_meth (mx := 3) (rt := (Option.some Jvm.ClassFile.FieldType.boolean)) (hs := []) "OrchardQuery$Query" false prog_9_method_23_code [] rfl rfl rfl rfl (by decide +kernel) (by decide +kernel) (fun _ => P_g112) (by decide) (fun _ _ => by decide +kernel) (fun q => by cases q) (P_all_cons (by decide +kernel) <| P_all_nil) P_l112 (by decide +kernel) P_k112 (fun _ _ => P_hok_nil)
/-- OrchardQuery$Store.<init>()V -/
def P_l113 : List (Nat × P_I) := [(1, .invokespecial 3, 4, 0, 9000, [], []), (6, .anewarray 9, 9, 0, 109, [], []), (9, .putfield 11, 12, 8, 0, [], []), (13, .new 9, 16, 0, 9, [], []), (18, .invokespecial 17, 21, 1, 118, [], []), (21, .putfield 20, 24, 8, 1, [], [])]
set_option maxRecDepth 20000 in
theorem P_k113 : ∀ q ∈ P_l113, P_lnk P_cl P_aty P_stat P_tx P_N0 P_Tb P_Y0 "OrchardQuery$Store" true prog_10_method_1_code [] q.1 q.2.1 q.2.2.2.1 q.2.2.2.2.1 :=
  P_all_cons (P_lnk_oj (fun _ => ⟨w_1_35, w_1_28, w_1_29⟩)) <|
  P_all_cons (P_lnk_anw rfl w_1_36 w_1_37) <|
  P_all_cons (P_lnk_put (P_s1 (c := 8) (P := fun ci => P_pok P_cl P_Tb "OrchardQuery$Store" true 11 ci 0) rfl ⟨_, _, _, "OrchardQuery$Store", rfl, by decide, (Or.inl rfl), (Or.inl ⟨w_1_57, (Or.inr ⟨rfl, rfl, rfl⟩)⟩)⟩)) <|
  P_all_cons (P_lnk_new (by decide) rfl w_1_36 w_1_38 w_1_3) <|
  P_all_cons (P_lnk_sp (by decide) (fun _ => ⟨P_sg 1 rfl, w_1_3, w_1_40, rfl, rfl, (Or.inl w_1_39)⟩)) <|
  P_all_cons (P_lnk_put (P_s1 (c := 8) (P := fun ci => P_pok P_cl P_Tb "OrchardQuery$Store" true 20 ci 1) rfl ⟨_, _, _, "OrchardQuery$Store", rfl, by decide, (Or.inl rfl), (Or.inl ⟨w_1_58, (Or.inr ⟨rfl, rfl, rfl⟩)⟩)⟩)) <|
  P_all_nil
set_option maxRecDepth 20000 in
theorem P_m113 : P_mst 113 1 (Option.none : Option Jvm.ClassFile.FieldType) P_e113 [] := P_meth (mx := 1) (rt := (Option.none : Option Jvm.ClassFile.FieldType)) (hs := []) "OrchardQuery$Store" true prog_10_method_1_code [] rfl rfl rfl rfl (by decide +kernel) (by decide +kernel) (fun _ => P_g113) (by decide) (fun t q => by cases q) (fun _ => rfl) (P_all_cons (by decide +kernel) <| P_all_nil) P_l113 (by decide +kernel) P_k113 (fun _ _ => P_hok_nil)
/-- OrchardQuery$Store.size()I -/
def P_l114 : List (Nat × P_I) := [(1, .getfield 24, 4, 8, 2, [], [])]
set_option maxRecDepth 20000 in
theorem P_k114 : ∀ q ∈ P_l114, P_lnk P_cl P_aty P_stat P_tx P_N0 P_Tb P_Y0 "OrchardQuery$Store" false prog_10_method_2_code [] q.1 q.2.1 q.2.2.2.1 q.2.2.2.2.1 :=
  P_all_cons (P_lnk_get (P_s1 (c := 8) (P := fun ci => P_fok P_cl P_Tb "OrchardQuery$Store" 24 ci 2) rfl ⟨_, _, _, "OrchardQuery$Store", rfl, by decide, (Or.inl rfl), (Or.inl w_1_59)⟩)) <|
  P_all_nil
set_option maxRecDepth 20000 in
theorem P_m114 : P_mst 114 1 (Option.some Jvm.ClassFile.FieldType.int) P_e114 [] := P_meth (mx := 1) (rt := (Option.some Jvm.ClassFile.FieldType.int)) (hs := []) "OrchardQuery$Store" false prog_10_method_2_code [] rfl rfl rfl rfl (by decide +kernel) (by decide +kernel) (fun _ => P_g114) (by decide) (fun _ _ => by decide +kernel) (fun q => by cases q) (P_all_cons (by decide +kernel) <| P_all_nil) P_l114 (by decide +kernel) P_k114 (fun _ _ => P_hok_nil)
/-- OrchardQuery$Store.has(I)Z -/
def P_l115 : List (Nat × P_I) := [(6, .getfield 24, 9, 8, 2, [], [])]
set_option maxRecDepth 20000 in
theorem P_k115 : ∀ q ∈ P_l115, P_lnk P_cl P_aty P_stat P_tx P_N0 P_Tb P_Y0 "OrchardQuery$Store" false prog_10_method_3_code [] q.1 q.2.1 q.2.2.2.1 q.2.2.2.2.1 :=
  P_all_cons (P_lnk_get (P_s1 (c := 8) (P := fun ci => P_fok P_cl P_Tb "OrchardQuery$Store" 24 ci 2) rfl ⟨_, _, _, "OrchardQuery$Store", rfl, by decide, (Or.inl rfl), (Or.inl w_1_59)⟩)) <|
  P_all_nil
set_option maxRecDepth 20000 in
theorem P_m115 : P_mst 115 2 (Option.some Jvm.ClassFile.FieldType.boolean) P_e115 [] := P_meth (mx := 2) (rt := (Option.some Jvm.ClassFile.FieldType.boolean)) (hs := []) "OrchardQuery$Store" false prog_10_method_3_code [] rfl rfl rfl rfl (by decide +kernel) (by decide +kernel) (fun _ => P_g115) (by decide) (fun _ _ => by decide +kernel) (fun q => by cases q) (P_all_cons (by decide +kernel) <| P_all_nil) P_l115 (by decide +kernel) P_k115 (fun _ _ => P_hok_nil)
/-- OrchardQuery$Store.at(I)LOrchardQuery$Table; -/
def P_l116 : List (Nat × P_I) := [(6, .getfield 11, 9, 8, 0, [], []), (14, .getfield 20, 17, 8, 1, [], []), (19, .getfield 11, 22, 8, 0, [], []), (30, .getfield 20, 33, 8, 1, [], [])]
set_option maxRecDepth 20000 in
theorem P_k116 : ∀ q ∈ P_l116, P_lnk P_cl P_aty P_stat P_tx P_N0 P_Tb P_Y0 "OrchardQuery$Store" false prog_10_method_4_code [] q.1 q.2.1 q.2.2.2.1 q.2.2.2.2.1 :=
  P_all_cons (P_lnk_get (P_s1 (c := 8) (P := fun ci => P_fok P_cl P_Tb "OrchardQuery$Store" 11 ci 0) rfl ⟨_, _, _, "OrchardQuery$Store", rfl, by decide, (Or.inl rfl), (Or.inl w_1_57)⟩)) <|
  P_all_cons (P_lnk_get (P_s1 (c := 8) (P := fun ci => P_fok P_cl P_Tb "OrchardQuery$Store" 20 ci 1) rfl ⟨_, _, _, "OrchardQuery$Store", rfl, by decide, (Or.inl rfl), (Or.inl w_1_58)⟩)) <|
  P_all_cons (P_lnk_get (P_s1 (c := 8) (P := fun ci => P_fok P_cl P_Tb "OrchardQuery$Store" 11 ci 0) rfl ⟨_, _, _, "OrchardQuery$Store", rfl, by decide, (Or.inl rfl), (Or.inl w_1_57)⟩)) <|
  P_all_cons (P_lnk_get (P_s1 (c := 8) (P := fun ci => P_fok P_cl P_Tb "OrchardQuery$Store" 20 ci 1) rfl ⟨_, _, _, "OrchardQuery$Store", rfl, by decide, (Or.inl rfl), (Or.inl w_1_58)⟩)) <|
  P_all_nil
set_option maxRecDepth 20000 in
theorem P_m116 : P_mst 116 3 (Option.some (Jvm.ClassFile.FieldType.object "OrchardQuery$Table")) P_e116 [] := P_meth (mx := 3) (rt := (Option.some (Jvm.ClassFile.FieldType.object "OrchardQuery$Table"))) (hs := []) "OrchardQuery$Store" false prog_10_method_4_code [] rfl rfl rfl rfl (by decide +kernel) (by decide +kernel) (fun _ => P_g116) (by decide) (fun _ _ => by decide +kernel) (fun q => by cases q) (P_all_cons (by decide +kernel) <| P_all_cons (by decide +kernel) <| P_all_nil) P_l116 (by decide +kernel) P_k116 (fun _ _ => P_hok_nil)
/-- OrchardQuery$Store.add(I)I -/
def P_l117 : List (Nat × P_I) := [(1, .getfield 24, 4, 8, 2, [], []), (11, .getfield 11, 14, 8, 0, [], []), (19, .getfield 11, 22, 8, 0, [], []), (23, .new 9, 26, 0, 9, [], []), (28, .invokespecial 17, 31, 1, 118, [], []), (34, .getfield 24, 37, 8, 2, [], []), (39, .putfield 24, 42, 8, 2, [], [])]
set_option maxRecDepth 20000 in
theorem P_k117 : ∀ q ∈ P_l117, P_lnk P_cl P_aty P_stat P_tx P_N0 P_Tb P_Y0 "OrchardQuery$Store" false prog_10_method_5_code [] q.1 q.2.1 q.2.2.2.1 q.2.2.2.2.1 :=
  P_all_cons (P_lnk_get (P_s1 (c := 8) (P := fun ci => P_fok P_cl P_Tb "OrchardQuery$Store" 24 ci 2) rfl ⟨_, _, _, "OrchardQuery$Store", rfl, by decide, (Or.inl rfl), (Or.inl w_1_59)⟩)) <|
  P_all_cons (P_lnk_get (P_s1 (c := 8) (P := fun ci => P_fok P_cl P_Tb "OrchardQuery$Store" 11 ci 0) rfl ⟨_, _, _, "OrchardQuery$Store", rfl, by decide, (Or.inl rfl), (Or.inl w_1_57)⟩)) <|
  P_all_cons (P_lnk_get (P_s1 (c := 8) (P := fun ci => P_fok P_cl P_Tb "OrchardQuery$Store" 11 ci 0) rfl ⟨_, _, _, "OrchardQuery$Store", rfl, by decide, (Or.inl rfl), (Or.inl w_1_57)⟩)) <|
  P_all_cons (P_lnk_new (by decide) rfl w_1_36 w_1_38 w_1_3) <|
  P_all_cons (P_lnk_sp (by decide) (fun _ => ⟨P_sg 1 rfl, w_1_3, w_1_40, rfl, rfl, (Or.inl w_1_39)⟩)) <|
  P_all_cons (P_lnk_get (P_s1 (c := 8) (P := fun ci => P_fok P_cl P_Tb "OrchardQuery$Store" 24 ci 2) rfl ⟨_, _, _, "OrchardQuery$Store", rfl, by decide, (Or.inl rfl), (Or.inl w_1_59)⟩)) <|
  P_all_cons (P_lnk_put (P_s1 (c := 8) (P := fun ci => P_pok P_cl P_Tb "OrchardQuery$Store" false 24 ci 2) rfl ⟨_, _, _, "OrchardQuery$Store", rfl, by decide, (Or.inl rfl), (Or.inl ⟨w_1_59, (Or.inl rfl)⟩)⟩)) <|
  P_all_nil
set_option maxRecDepth 20000 in
theorem P_m117 : P_mst 117 3 (Option.some Jvm.ClassFile.FieldType.int) P_e117 [] := P_meth (mx := 3) (rt := (Option.some Jvm.ClassFile.FieldType.int)) (hs := []) "OrchardQuery$Store" false prog_10_method_5_code [] rfl rfl rfl rfl (by decide +kernel) (by decide +kernel) (fun _ => P_g117) (by decide) (fun _ _ => by decide +kernel) (fun q => by cases q) (P_all_cons (by decide +kernel) <| P_all_cons (by decide +kernel) <| P_all_nil) P_l117 (by decide +kernel) P_k117 (fun _ _ => P_hok_nil)
/-- OrchardQuery$Table.<init>(I)V -/
def P_l118 : List (Nat × P_I) := [(1, .invokespecial 3, 4, 0, 9000, [], []), (6, .putfield 9, 9, 9, 0, [], []), (12, .newarray .int, 14, 0, 0, [], []), (14, .putfield 15, 17, 9, 1, [], []), (19, .newarray .int, 21, 0, 0, [], []), (21, .putfield 19, 24, 9, 2, [], [])]
set_option maxRecDepth 20000 in
theorem P_k118 : ∀ q ∈ P_l118, P_lnk P_cl P_aty P_stat P_tx P_N0 P_Tb P_Y0 "OrchardQuery$Table" true prog_11_method_1_code [] q.1 q.2.1 q.2.2.2.1 q.2.2.2.2.1 :=
  P_all_cons (P_lnk_oj (fun _ => ⟨w_1_42, w_1_28, w_1_29⟩)) <|
  P_all_cons (P_lnk_put (P_s1 (c := 9) (P := fun ci => P_pok P_cl P_Tb "OrchardQuery$Table" true 9 ci 0) rfl ⟨_, _, _, "OrchardQuery$Table", rfl, by decide, (Or.inl rfl), (Or.inl ⟨w_1_43, (Or.inr ⟨rfl, rfl, rfl⟩)⟩)⟩)) <|
  P_all_cons (P_lnk_nwa rfl w_1_56) <|
  P_all_cons (P_lnk_put (P_s1 (c := 9) (P := fun ci => P_pok P_cl P_Tb "OrchardQuery$Table" true 15 ci 1) rfl ⟨_, _, _, "OrchardQuery$Table", rfl, by decide, (Or.inl rfl), (Or.inl ⟨w_1_44, (Or.inr ⟨rfl, rfl, rfl⟩)⟩)⟩)) <|
  P_all_cons (P_lnk_nwa rfl w_1_56) <|
  P_all_cons (P_lnk_put (P_s1 (c := 9) (P := fun ci => P_pok P_cl P_Tb "OrchardQuery$Table" true 19 ci 2) rfl ⟨_, _, _, "OrchardQuery$Table", rfl, by decide, (Or.inl rfl), (Or.inl ⟨w_1_45, (Or.inr ⟨rfl, rfl, rfl⟩)⟩)⟩)) <|
  P_all_nil
set_option maxRecDepth 20000 in
theorem P_m118 : P_mst 118 2 (Option.none : Option Jvm.ClassFile.FieldType) P_e118 [] := P_meth (mx := 2) (rt := (Option.none : Option Jvm.ClassFile.FieldType)) (hs := []) "OrchardQuery$Table" true prog_11_method_1_code [] rfl rfl rfl rfl (by decide +kernel) (by decide +kernel) (fun _ => P_g118) (by decide) (fun t q => by cases q) (fun _ => rfl) (P_all_cons (by decide +kernel) <| P_all_nil) P_l118 (by decide +kernel) P_k118 (fun _ _ => P_hok_nil)
/-- OrchardQuery$Table.columnCount()I -/
def P_l119 : List (Nat × P_I) := [(1, .getfield 9, 4, 9, 0, [], [])]
set_option maxRecDepth 20000 in
theorem P_k119 : ∀ q ∈ P_l119, P_lnk P_cl P_aty P_stat P_tx P_N0 P_Tb P_Y0 "OrchardQuery$Table" false prog_11_method_2_code [] q.1 q.2.1 q.2.2.2.1 q.2.2.2.2.1 :=
  P_all_cons (P_lnk_get (P_s1 (c := 9) (P := fun ci => P_fok P_cl P_Tb "OrchardQuery$Table" 9 ci 0) rfl ⟨_, _, _, "OrchardQuery$Table", rfl, by decide, (Or.inl rfl), (Or.inl w_1_43)⟩)) <|
  P_all_nil
set_option maxRecDepth 20000 in
theorem P_m119 : P_mst 119 1 (Option.some Jvm.ClassFile.FieldType.int) P_e119 [] := P_meth (mx := 1) (rt := (Option.some Jvm.ClassFile.FieldType.int)) (hs := []) "OrchardQuery$Table" false prog_11_method_2_code [] rfl rfl rfl rfl (by decide +kernel) (by decide +kernel) (fun _ => P_g119) (by decide) (fun _ _ => by decide +kernel) (fun q => by cases q) (P_all_cons (by decide +kernel) <| P_all_nil) P_l119 (by decide +kernel) P_k119 (fun _ _ => P_hok_nil)
/-- OrchardQuery$Table.rowCount()I -/
def P_l120 : List (Nat × P_I) := [(1, .getfield 22, 4, 9, 3, [], [])]
set_option maxRecDepth 20000 in
theorem P_k120 : ∀ q ∈ P_l120, P_lnk P_cl P_aty P_stat P_tx P_N0 P_Tb P_Y0 "OrchardQuery$Table" false prog_11_method_3_code [] q.1 q.2.1 q.2.2.2.1 q.2.2.2.2.1 :=
  P_all_cons (P_lnk_get (P_s1 (c := 9) (P := fun ci => P_fok P_cl P_Tb "OrchardQuery$Table" 22 ci 3) rfl ⟨_, _, _, "OrchardQuery$Table", rfl, by decide, (Or.inl rfl), (Or.inl w_1_46)⟩)) <|
  P_all_nil
set_option maxRecDepth 20000 in
theorem P_m120 : P_mst 120 1 (Option.some Jvm.ClassFile.FieldType.int) P_e120 [] := P_meth (mx := 1) (rt := (Option.some Jvm.ClassFile.FieldType.int)) (hs := []) "OrchardQuery$Table" false prog_11_method_3_code [] rfl rfl rfl rfl (by decide +kernel) (by decide +kernel) (fun _ => P_g120) (by decide) (fun _ _ => by decide +kernel) (fun q => by cases q) (P_all_cons (by decide +kernel) <| P_all_nil) P_l120 (by decide +kernel) P_k120 (fun _ _ => P_hok_nil)
/-- OrchardQuery$Table.isFull()Z -/
def P_l121 : List (Nat × P_I) := [(1, .getfield 22, 4, 9, 3, [], [])]
set_option maxRecDepth 20000 in
theorem P_k121 : ∀ q ∈ P_l121, P_lnk P_cl P_aty P_stat P_tx P_N0 P_Tb P_Y0 "OrchardQuery$Table" false prog_11_method_4_code [] q.1 q.2.1 q.2.2.2.1 q.2.2.2.2.1 :=
  P_all_cons (P_lnk_get (P_s1 (c := 9) (P := fun ci => P_fok P_cl P_Tb "OrchardQuery$Table" 22 ci 3) rfl ⟨_, _, _, "OrchardQuery$Table", rfl, by decide, (Or.inl rfl), (Or.inl w_1_46)⟩)) <|
  P_all_nil
set_option maxRecDepth 20000 in
theorem P_m121 : P_mst 121 1 (Option.some Jvm.ClassFile.FieldType.boolean) P_e121 [] := P_meth (mx := 1) (rt := (Option.some Jvm.ClassFile.FieldType.boolean)) (hs := []) "OrchardQuery$Table" false prog_11_method_4_code [] rfl rfl rfl rfl (by decide +kernel) (by decide +kernel) (fun _ => P_g121) (by decide) (fun _ _ => by decide +kernel) (fun q => by cases q) (P_all_cons (by decide +kernel) <| P_all_nil) P_l121 (by decide +kernel) P_k121 (fun _ _ => P_hok_nil)
/-- OrchardQuery$Table.cell(II)I -/
def P_l122 : List (Nat × P_I) := [(6, .getfield 22, 9, 9, 3, [], []), (18, .getfield 9, 21, 9, 0, [], []), (38, .getfield 15, 41, 9, 1, [], []), (46, .getfield 15, 49, 9, 1, [], [])]
set_option maxRecDepth 20000 in
theorem P_k122 : ∀ q ∈ P_l122, P_lnk P_cl P_aty P_stat P_tx P_N0 P_Tb P_Y0 "OrchardQuery$Table" false prog_11_method_5_code [] q.1 q.2.1 q.2.2.2.1 q.2.2.2.2.1 :=
  P_all_cons (P_lnk_get (P_s1 (c := 9) (P := fun ci => P_fok P_cl P_Tb "OrchardQuery$Table" 22 ci 3) rfl ⟨_, _, _, "OrchardQuery$Table", rfl, by decide, (Or.inl rfl), (Or.inl w_1_46)⟩)) <|
  P_all_cons (P_lnk_get (P_s1 (c := 9) (P := fun ci => P_fok P_cl P_Tb "OrchardQuery$Table" 9 ci 0) rfl ⟨_, _, _, "OrchardQuery$Table", rfl, by decide, (Or.inl rfl), (Or.inl w_1_43)⟩)) <|
  P_all_cons (P_lnk_get (P_s1 (c := 9) (P := fun ci => P_fok P_cl P_Tb "OrchardQuery$Table" 15 ci 1) rfl ⟨_, _, _, "OrchardQuery$Table", rfl, by decide, (Or.inl rfl), (Or.inl w_1_44)⟩)) <|
  P_all_cons (P_lnk_get (P_s1 (c := 9) (P := fun ci => P_fok P_cl P_Tb "OrchardQuery$Table" 15 ci 1) rfl ⟨_, _, _, "OrchardQuery$Table", rfl, by decide, (Or.inl rfl), (Or.inl w_1_44)⟩)) <|
  P_all_nil
set_option maxRecDepth 20000 in
theorem P_m122 : P_mst 122 4 (Option.some Jvm.ClassFile.FieldType.int) P_e122 [] := P_meth (mx := 4) (rt := (Option.some Jvm.ClassFile.FieldType.int)) (hs := []) "OrchardQuery$Table" false prog_11_method_5_code [] rfl rfl rfl rfl (by decide +kernel) (by decide +kernel) (fun _ => P_g122) (by decide) (fun _ _ => by decide +kernel) (fun q => by cases q) (P_all_cons (by decide +kernel) <| P_all_cons (by decide +kernel) <| P_all_nil) P_l122 (by decide +kernel) P_k122 (fun _ _ => P_hok_nil)
/-- OrchardQuery$Table.add(III)V -/
def P_l123 : List (Nat × P_I) := [(1, .invokevirtual 25, 4, 0, 122, [], []), (9, .getfield 22, 12, 9, 3, [], []), (17, .getfield 15, 20, 9, 1, [], []), (23, .invokestatic 29, 26, 3, 180, [], []), (27, .getfield 15, 30, 9, 1, [], []), (35, .invokestatic 29, 38, 3, 180, [], []), (39, .getfield 15, 42, 9, 1, [], []), (47, .invokestatic 29, 50, 3, 180, [], []), (52, .getfield 22, 55, 9, 3, [], []), (57, .putfield 22, 60, 9, 3, [], []), (61, .invokevirtual 33, 64, 0, 123, [], [])]
set_option maxRecDepth 20000 in
theorem P_k123 : ∀ q ∈ P_l123, P_lnk P_cl P_aty P_stat P_tx P_N0 P_Tb P_Y0 "OrchardQuery$Table" false prog_11_method_6_code [] q.1 q.2.1 q.2.2.2.1 q.2.2.2.2.1 :=
  P_all_cons (P_lnk_vi (P_vall (l := P_v122) rfl (P_all_cons (show P_vok _ _ _ 9 121 from ⟨_, rfl, rfl, w_1_3, w_5_0, (Or.inl ⟨P_sg 0 rfl, w_5_1, (Or.inl w_5_8)⟩)⟩) (P_all_nil)))) <|
  P_all_cons (P_lnk_get (P_s1 (c := 9) (P := fun ci => P_fok P_cl P_Tb "OrchardQuery$Table" 22 ci 3) rfl ⟨_, _, _, "OrchardQuery$Table", rfl, by decide, (Or.inl rfl), (Or.inl w_1_46)⟩)) <|
  P_all_cons (P_lnk_get (P_s1 (c := 9) (P := fun ci => P_fok P_cl P_Tb "OrchardQuery$Table" 15 ci 1) rfl ⟨_, _, _, "OrchardQuery$Table", rfl, by decide, (Or.inl rfl), (Or.inl w_1_44)⟩)) <|
  P_all_cons (P_lnk_st (by decide) (fun _ => ⟨P_sg 3 rfl, w_1_1, w_2_199, (Or.inr ⟨rfl, _, w_5_9⟩)⟩)) <|
  P_all_cons (P_lnk_get (P_s1 (c := 9) (P := fun ci => P_fok P_cl P_Tb "OrchardQuery$Table" 15 ci 1) rfl ⟨_, _, _, "OrchardQuery$Table", rfl, by decide, (Or.inl rfl), (Or.inl w_1_44)⟩)) <|
  P_all_cons (P_lnk_st (by decide) (fun _ => ⟨P_sg 3 rfl, w_1_1, w_2_199, (Or.inr ⟨rfl, _, w_5_9⟩)⟩)) <|
  P_all_cons (P_lnk_get (P_s1 (c := 9) (P := fun ci => P_fok P_cl P_Tb "OrchardQuery$Table" 15 ci 1) rfl ⟨_, _, _, "OrchardQuery$Table", rfl, by decide, (Or.inl rfl), (Or.inl w_1_44)⟩)) <|
  P_all_cons (P_lnk_st (by decide) (fun _ => ⟨P_sg 3 rfl, w_1_1, w_2_199, (Or.inr ⟨rfl, _, w_5_9⟩)⟩)) <|
  P_all_cons (P_lnk_get (P_s1 (c := 9) (P := fun ci => P_fok P_cl P_Tb "OrchardQuery$Table" 22 ci 3) rfl ⟨_, _, _, "OrchardQuery$Table", rfl, by decide, (Or.inl rfl), (Or.inl w_1_46)⟩)) <|
  P_all_cons (P_lnk_put (P_s1 (c := 9) (P := fun ci => P_pok P_cl P_Tb "OrchardQuery$Table" false 22 ci 3) rfl ⟨_, _, _, "OrchardQuery$Table", rfl, by decide, (Or.inl rfl), (Or.inl ⟨w_1_46, (Or.inl rfl)⟩)⟩)) <|
  P_all_cons (P_lnk_vi (P_vall (l := P_v123) rfl (P_all_cons (show P_vok _ _ _ 9 126 from ⟨_, rfl, rfl, w_1_3, w_5_12, (Or.inl ⟨P_sg 0 rfl, w_p_33, (Or.inl w_5_10)⟩)⟩) (P_all_nil)))) <|
  P_all_nil
set_option maxRecDepth 20000 in
theorem P_m123 : P_mst 123 5 (Option.none : Option Jvm.ClassFile.FieldType) P_e123 [] := P_meth (mx := 5) (rt := (Option.none : Option Jvm.ClassFile.FieldType)) (hs := []) "OrchardQuery$Table" false prog_11_method_6_code [] rfl rfl rfl rfl (by decide +kernel) (by decide +kernel) (fun _ => P_g123) (by decide) (fun _ _ => by decide +kernel) (fun q => by cases q) (P_all_cons (by decide +kernel) <| P_all_cons (by decide +kernel) <| P_all_cons (by decide +kernel) <| P_all_nil) P_l123 (by decide +kernel) P_k123 (fun _ _ => P_hok_nil)
/-- OrchardQuery$Table.remove(I)V -/
def P_l124 : List (Nat × P_I) := [(6, .getfield 22, 9, 9, 3, [], []), (19, .getfield 15, 22, 9, 1, [], []), (27, .getfield 15, 30, 9, 1, [], []), (32, .getfield 15, 35, 9, 1, [], []), (38, .invokestatic 36, 41, 2, 179, [], []), (41, .invokestatic 29, 44, 3, 180, [], []), (52, .getfield 22, 55, 9, 3, [], []), (57, .putfield 22, 60, 9, 3, [], []), (61, .invokevirtual 33, 64, 0, 123, [], [])]
set_option maxRecDepth 20000 in
theorem P_k124 : ∀ q ∈ P_l124, P_lnk P_cl P_aty P_stat P_tx P_N0 P_Tb P_Y0 "OrchardQuery$Table" false prog_11_method_7_code [] q.1 q.2.1 q.2.2.2.1 q.2.2.2.2.1 :=
  P_all_cons (P_lnk_get (P_s1 (c := 9) (P := fun ci => P_fok P_cl P_Tb "OrchardQuery$Table" 22 ci 3) rfl ⟨_, _, _, "OrchardQuery$Table", rfl, by decide, (Or.inl rfl), (Or.inl w_1_46)⟩)) <|
  P_all_cons (P_lnk_get (P_s1 (c := 9) (P := fun ci => P_fok P_cl P_Tb "OrchardQuery$Table" 15 ci 1) rfl ⟨_, _, _, "OrchardQuery$Table", rfl, by decide, (Or.inl rfl), (Or.inl w_1_44)⟩)) <|
  P_all_cons (P_lnk_get (P_s1 (c := 9) (P := fun ci => P_fok P_cl P_Tb "OrchardQuery$Table" 15 ci 1) rfl ⟨_, _, _, "OrchardQuery$Table", rfl, by decide, (Or.inl rfl), (Or.inl w_1_44)⟩)) <|
  P_all_cons (P_lnk_get (P_s1 (c := 9) (P := fun ci => P_fok P_cl P_Tb "OrchardQuery$Table" 15 ci 1) rfl ⟨_, _, _, "OrchardQuery$Table", rfl, by decide, (Or.inl rfl), (Or.inl w_1_44)⟩)) <|
  P_all_cons (P_lnk_st (by decide) (fun _ => ⟨P_sg 2 rfl, w_1_1, w_2_145, (Or.inr ⟨rfl, _, w_3_119⟩)⟩)) <|
  P_all_cons (P_lnk_st (by decide) (fun _ => ⟨P_sg 3 rfl, w_1_1, w_2_199, (Or.inr ⟨rfl, _, w_5_9⟩)⟩)) <|
  P_all_cons (P_lnk_get (P_s1 (c := 9) (P := fun ci => P_fok P_cl P_Tb "OrchardQuery$Table" 22 ci 3) rfl ⟨_, _, _, "OrchardQuery$Table", rfl, by decide, (Or.inl rfl), (Or.inl w_1_46)⟩)) <|
  P_all_cons (P_lnk_put (P_s1 (c := 9) (P := fun ci => P_pok P_cl P_Tb "OrchardQuery$Table" false 22 ci 3) rfl ⟨_, _, _, "OrchardQuery$Table", rfl, by decide, (Or.inl rfl), (Or.inl ⟨w_1_46, (Or.inl rfl)⟩)⟩)) <|
  P_all_cons (P_lnk_vi (P_vall (l := P_v123) rfl (P_all_cons (show P_vok _ _ _ 9 126 from ⟨_, rfl, rfl, w_1_3, w_5_12, (Or.inl ⟨P_sg 0 rfl, w_p_33, (Or.inl w_5_10)⟩)⟩) (P_all_nil)))) <|
  P_all_nil
set_option maxRecDepth 20000 in
theorem P_m124 : P_mst 124 3 (Option.none : Option Jvm.ClassFile.FieldType) P_e124 [] := P_meth (mx := 3) (rt := (Option.none : Option Jvm.ClassFile.FieldType)) (hs := []) "OrchardQuery$Table" false prog_11_method_7_code [] rfl rfl rfl rfl (by decide +kernel) (by decide +kernel) (fun _ => P_g124) (by decide) (fun _ _ => by decide +kernel) (fun q => by cases q) (P_all_cons (by decide +kernel) <| P_all_cons (by decide +kernel) <| P_all_cons (by decide +kernel) <| P_all_nil) P_l124 (by decide +kernel) P_k124 (fun _ _ => P_hok_nil)
/-- OrchardQuery$Table.varietyOf(I)I -/
def P_l125 : List (Nat × P_I) := [(1, .getfield 19, 4, 9, 2, [], []), (5, .invokestatic 36, 8, 2, 179, [], [])]
set_option maxRecDepth 20000 in
theorem P_k125 : ∀ q ∈ P_l125, P_lnk P_cl P_aty P_stat P_tx P_N0 P_Tb P_Y0 "OrchardQuery$Table" false prog_11_method_8_code [] q.1 q.2.1 q.2.2.2.1 q.2.2.2.2.1 :=
  P_all_cons (P_lnk_get (P_s1 (c := 9) (P := fun ci => P_fok P_cl P_Tb "OrchardQuery$Table" 19 ci 2) rfl ⟨_, _, _, "OrchardQuery$Table", rfl, by decide, (Or.inl rfl), (Or.inl w_1_45)⟩)) <|
  P_all_cons (P_lnk_st (by decide) (fun _ => ⟨P_sg 2 rfl, w_1_1, w_2_145, (Or.inr ⟨rfl, _, w_3_119⟩)⟩)) <|
  P_all_nil
set_option maxRecDepth 20000 in
theorem P_m125 : P_mst 125 2 (Option.some Jvm.ClassFile.FieldType.int) P_e125 [] := P_meth (mx := 2) (rt := (Option.some Jvm.ClassFile.FieldType.int)) (hs := []) "OrchardQuery$Table" false prog_11_method_8_code [] rfl rfl rfl rfl (by decide +kernel) (by decide +kernel) (fun _ => P_g125) (by decide) (fun _ _ => by decide +kernel) (fun q => by cases q) (P_all_cons (by decide +kernel) <| P_all_nil) P_l125 (by decide +kernel) P_k125 (fun _ _ => P_hok_nil)
/-- OrchardQuery$Table.countVarieties()V -/
def P_l126 : List (Nat × P_I) := [(4, .getfield 9, 7, 9, 0, [], []), (16, .getfield 22, 19, 9, 3, [], []), (25, .invokevirtual 40, 28, 2, 62, [], []), (42, .getfield 19, 45, 9, 2, [], []), (47, .invokestatic 29, 50, 3, 180, [], [])]
set_option maxRecDepth 20000 in
theorem P_k126 : ∀ q ∈ P_l126, P_lnk P_cl P_aty P_stat P_tx P_N0 P_Tb P_Y0 "OrchardQuery$Table" false prog_11_method_9_code [] q.1 q.2.1 q.2.2.2.1 q.2.2.2.2.1 :=
  P_all_cons (P_lnk_get (P_s1 (c := 9) (P := fun ci => P_fok P_cl P_Tb "OrchardQuery$Table" 9 ci 0) rfl ⟨_, _, _, "OrchardQuery$Table", rfl, by decide, (Or.inl rfl), (Or.inl w_1_43)⟩)) <|
  P_all_cons (P_lnk_get (P_s1 (c := 9) (P := fun ci => P_fok P_cl P_Tb "OrchardQuery$Table" 22 ci 3) rfl ⟨_, _, _, "OrchardQuery$Table", rfl, by decide, (Or.inl rfl), (Or.inl w_1_46)⟩)) <|
  P_all_cons (P_lnk_vi (P_vall (l := P_v62) rfl (P_all_cons (show P_vok _ _ _ 9 127 from ⟨_, rfl, rfl, w_1_3, w_3_219, (Or.inl ⟨P_sg 2 rfl, w_3_220, (Or.inl w_5_14)⟩)⟩) (P_all_nil)))) <|
  P_all_cons (P_lnk_get (P_s1 (c := 9) (P := fun ci => P_fok P_cl P_Tb "OrchardQuery$Table" 19 ci 2) rfl ⟨_, _, _, "OrchardQuery$Table", rfl, by decide, (Or.inl rfl), (Or.inl w_1_45)⟩)) <|
  P_all_cons (P_lnk_st (by decide) (fun _ => ⟨P_sg 3 rfl, w_1_1, w_2_199, (Or.inr ⟨rfl, _, w_5_9⟩)⟩)) <|
  P_all_nil
set_option maxRecDepth 20000 in
theorem P_m126 : P_mst 126 4 (Option.none : Option Jvm.ClassFile.FieldType) P_e126 [] := P_meth (mx := 4) (rt := (Option.none : Option Jvm.ClassFile.FieldType)) (hs := []) "OrchardQuery$Table" false prog_11_method_9_code [] rfl rfl rfl rfl (by decide +kernel) (by decide +kernel) (fun _ => P_g126) (by decide) (fun _ _ => by decide +kernel) (fun q => by cases q) (P_all_cons (by decide +kernel) <| P_all_cons (by decide +kernel) <| P_all_nil) P_l126 (by decide +kernel) P_k126 (fun _ _ => P_hok_nil)
/-- OrchardQuery$Table.firstAlike(II)I -/
def P_l127 : List (Nat × P_I) := [(3, .invokevirtual 44, 6, 2, 63, [], []), (19, .getfield 22, 22, 9, 3, [], []), (29, .invokevirtual 44, 32, 2, 63, [], [])]
set_option maxRecDepth 20000 in
theorem P_k127 : ∀ q ∈ P_l127, P_lnk P_cl P_aty P_stat P_tx P_N0 P_Tb P_Y0 "OrchardQuery$Table" false prog_11_method_10_code [] q.1 q.2.1 q.2.2.2.1 q.2.2.2.2.1 :=
  P_all_cons (P_lnk_vi (P_vall (l := P_v63) rfl (P_all_cons (show P_vok _ _ _ 9 122 from ⟨_, rfl, rfl, w_1_3, w_3_112, (Or.inl ⟨P_sg 2 rfl, w_3_113, (Or.inl w_3_222)⟩)⟩) (P_all_nil)))) <|
  P_all_cons (P_lnk_get (P_s1 (c := 9) (P := fun ci => P_fok P_cl P_Tb "OrchardQuery$Table" 22 ci 3) rfl ⟨_, _, _, "OrchardQuery$Table", rfl, by decide, (Or.inl rfl), (Or.inl w_1_46)⟩)) <|
  P_all_cons (P_lnk_vi (P_vall (l := P_v63) rfl (P_all_cons (show P_vok _ _ _ 9 122 from ⟨_, rfl, rfl, w_1_3, w_3_112, (Or.inl ⟨P_sg 2 rfl, w_3_113, (Or.inl w_3_222)⟩)⟩) (P_all_nil)))) <|
  P_all_nil
set_option maxRecDepth 20000 in
theorem P_m127 : P_mst 127 5 (Option.some Jvm.ClassFile.FieldType.int) P_e127 [] := P_meth (mx := 5) (rt := (Option.some Jvm.ClassFile.FieldType.int)) (hs := []) "OrchardQuery$Table" false prog_11_method_10_code [] rfl rfl rfl rfl (by decide +kernel) (by decide +kernel) (fun _ => P_g127) (by decide) (fun _ _ => by decide +kernel) (fun q => by cases q) (P_all_cons (by decide +kernel) <| P_all_cons (by decide +kernel) <| P_all_nil) P_l127 (by decide +kernel) P_k127 (fun _ _ => P_hok_nil)
/-- OrchardQuery$Walk.<init>(LOrchardQuery$Form;LOrchardQuery$Plan;)V -/
def P_l128 : List (Nat × P_I) := [(1, .invokespecial 3, 4, 0, 9000, [], []), (6, .putfield 9, 9, 50, 0, [], []), (11, .putfield 15, 14, 50, 1, [], []), (16, .newarray .int, 18, 0, 0, [], []), (18, .putfield 19, 21, 50, 2, [], [])]
set_option maxRecDepth 20000 in
theorem P_k128 : ∀ q ∈ P_l128, P_lnk P_cl P_aty P_stat P_tx P_N0 P_Tb P_Y0 "OrchardQuery$Walk" true prog_12_method_1_code [] q.1 q.2.1 q.2.2.2.1 q.2.2.2.2.1 :=
  P_all_cons (P_lnk_oj (fun _ => ⟨w_1_201, w_1_28, w_1_29⟩)) <|
  P_all_cons (P_lnk_put (P_s2 (c := 50) (P := fun ci => P_pok P_cl P_Tb "OrchardQuery$Walk" true 9 ci 0) rfl (P_all_cons ⟨_, _, _, "OrchardQuery$Walk", rfl, by decide, (Or.inl rfl), (Or.inl ⟨w_1_230, (Or.inr ⟨rfl, rfl, rfl⟩)⟩)⟩ (P_all_cons ⟨_, _, _, "OrchardQuery$Walk", rfl, by decide, (Or.inl rfl), (Or.inl ⟨w_1_230, (Or.inr ⟨rfl, rfl, rfl⟩)⟩)⟩ (P_all_nil))))) <|
  P_all_cons (P_lnk_put (P_s2 (c := 50) (P := fun ci => P_pok P_cl P_Tb "OrchardQuery$Walk" true 15 ci 1) rfl (P_all_cons ⟨_, _, _, "OrchardQuery$Walk", rfl, by decide, (Or.inl rfl), (Or.inl ⟨w_1_233, (Or.inr ⟨rfl, rfl, rfl⟩)⟩)⟩ (P_all_cons ⟨_, _, _, "OrchardQuery$Walk", rfl, by decide, (Or.inl rfl), (Or.inl ⟨w_1_233, (Or.inr ⟨rfl, rfl, rfl⟩)⟩)⟩ (P_all_nil))))) <|
  P_all_cons (P_lnk_nwa rfl w_1_56) <|
  P_all_cons (P_lnk_put (P_s2 (c := 50) (P := fun ci => P_pok P_cl P_Tb "OrchardQuery$Walk" true 19 ci 2) rfl (P_all_cons ⟨_, _, _, "OrchardQuery$Walk", rfl, by decide, (Or.inl rfl), (Or.inl ⟨w_1_236, (Or.inr ⟨rfl, rfl, rfl⟩)⟩)⟩ (P_all_cons ⟨_, _, _, "OrchardQuery$Walk", rfl, by decide, (Or.inl rfl), (Or.inl ⟨w_1_236, (Or.inr ⟨rfl, rfl, rfl⟩)⟩)⟩ (P_all_nil))))) <|
  P_all_nil
set_option maxRecDepth 20000 in
theorem P_m128 : P_mst 128 3 (Option.none : Option Jvm.ClassFile.FieldType) P_e128 [] := P_meth (mx := 3) (rt := (Option.none : Option Jvm.ClassFile.FieldType)) (hs := []) "OrchardQuery$Walk" true prog_12_method_1_code [] rfl rfl rfl rfl (by decide +kernel) (by decide +kernel) (fun _ => P_g128) (by decide) (fun t q => by cases q) (fun _ => rfl) (P_all_cons (by decide +kernel) <| P_all_nil) P_l128 (by decide +kernel) P_k128 (fun _ _ => P_hok_nil)
/-- OrchardQuery$Walk.reads()I -/
def P_l129 : List (Nat × P_I) := [(1, .getfield 23, 4, 50, 5, [], [])]
set_option maxRecDepth 20000 in
theorem P_k129 : ∀ q ∈ P_l129, P_lnk P_cl P_aty P_stat P_tx P_N0 P_Tb P_Y0 "OrchardQuery$Walk" false prog_12_method_3_code [] q.1 q.2.1 q.2.2.2.1 q.2.2.2.2.1 :=
  P_all_cons (P_lnk_get (P_s2 (c := 50) (P := fun ci => P_fok P_cl P_Tb "OrchardQuery$Walk" 23 ci 5) rfl (P_all_cons ⟨_, _, _, "OrchardQuery$Walk", rfl, by decide, (Or.inl rfl), (Or.inl w_1_239)⟩ (P_all_cons ⟨_, _, _, "OrchardQuery$Walk", rfl, by decide, (Or.inl rfl), (Or.inl w_1_239)⟩ (P_all_nil))))) <|
  P_all_nil
set_option maxRecDepth 20000 in
theorem P_m129 : P_mst 129 1 (Option.some Jvm.ClassFile.FieldType.int) P_e129 [] := P_meth (mx := 1) (rt := (Option.some Jvm.ClassFile.FieldType.int)) (hs := []) "OrchardQuery$Walk" false prog_12_method_3_code [] rfl rfl rfl rfl (by decide +kernel) (by decide +kernel) (fun _ => P_g129) (by decide) (fun _ _ => by decide +kernel) (fun q => by cases q) (P_all_cons (by decide +kernel) <| P_all_nil) P_l129 (by decide +kernel) P_k129 (fun _ _ => P_hok_nil)
/-- OrchardQuery$Walk.checks()I -/
def P_l130 : List (Nat × P_I) := [(1, .getfield 27, 4, 50, 6, [], [])]
set_option maxRecDepth 20000 in
theorem P_k130 : ∀ q ∈ P_l130, P_lnk P_cl P_aty P_stat P_tx P_N0 P_Tb P_Y0 "OrchardQuery$Walk" false prog_12_method_4_code [] q.1 q.2.1 q.2.2.2.1 q.2.2.2.2.1 :=
  P_all_cons (P_lnk_get (P_s2 (c := 50) (P := fun ci => P_fok P_cl P_Tb "OrchardQuery$Walk" 27 ci 6) rfl (P_all_cons ⟨_, _, _, "OrchardQuery$Walk", rfl, by decide, (Or.inl rfl), (Or.inl w_2_0)⟩ (P_all_cons ⟨_, _, _, "OrchardQuery$Walk", rfl, by decide, (Or.inl rfl), (Or.inl w_2_0)⟩ (P_all_nil))))) <|
  P_all_nil
set_option maxRecDepth 20000 in
theorem P_m130 : P_mst 130 1 (Option.some Jvm.ClassFile.FieldType.int) P_e130 [] := P_meth (mx := 1) (rt := (Option.some Jvm.ClassFile.FieldType.int)) (hs := []) "OrchardQuery$Walk" false prog_12_method_4_code [] rfl rfl rfl rfl (by decide +kernel) (by decide +kernel) (fun _ => P_g130) (by decide) (fun _ _ => by decide +kernel) (fun q => by cases q) (P_all_cons (by decide +kernel) <| P_all_nil) P_l130 (by decide +kernel) P_k130 (fun _ _ => P_hok_nil)
/-- OrchardQuery$Walk.meetings()I -/
def P_l131 : List (Nat × P_I) := [(1, .getfield 30, 4, 50, 7, [], [])]
set_option maxRecDepth 20000 in
theorem P_k131 : ∀ q ∈ P_l131, P_lnk P_cl P_aty P_stat P_tx P_N0 P_Tb P_Y0 "OrchardQuery$Walk" false prog_12_method_5_code [] q.1 q.2.1 q.2.2.2.1 q.2.2.2.2.1 :=
  P_all_cons (P_lnk_get (P_s2 (c := 50) (P := fun ci => P_fok P_cl P_Tb "OrchardQuery$Walk" 30 ci 7) rfl (P_all_cons ⟨_, _, _, "OrchardQuery$Walk", rfl, by decide, (Or.inl rfl), (Or.inl w_2_1)⟩ (P_all_cons ⟨_, _, _, "OrchardQuery$Walk", rfl, by decide, (Or.inl rfl), (Or.inl w_2_1)⟩ (P_all_nil))))) <|
  P_all_nil
set_option maxRecDepth 20000 in
theorem P_m131 : P_mst 131 1 (Option.some Jvm.ClassFile.FieldType.int) P_e131 [] := P_meth (mx := 1) (rt := (Option.some Jvm.ClassFile.FieldType.int)) (hs := []) "OrchardQuery$Walk" false prog_12_method_5_code [] rfl rfl rfl rfl (by decide +kernel) (by decide +kernel) (fun _ => P_g131) (by decide) (fun _ _ => by decide +kernel) (fun q => by cases q) (P_all_cons (by decide +kernel) <| P_all_nil) P_l131 (by decide +kernel) P_k131 (fun _ _ => P_hok_nil)
/-- OrchardQuery$Walk.meeting()I -/
def P_l132 : List (Nat × P_I) := [(1, .getfield 19, 4, 50, 2, [], []), (5, .invokestatic 33, 8, 2, 179, [], []), (11, .getfield 19, 14, 50, 2, [], []), (15, .invokestatic 33, 18, 2, 179, [], []), (21, .getfield 19, 24, 50, 2, [], []), (25, .invokestatic 33, 28, 2, 179, [], [])]
set_option maxRecDepth 20000 in
theorem P_k132 : ∀ q ∈ P_l132, P_lnk P_cl P_aty P_stat P_tx P_N0 P_Tb P_Y0 "OrchardQuery$Walk" false prog_12_method_6_code [] q.1 q.2.1 q.2.2.2.1 q.2.2.2.2.1 :=
  P_all_cons (P_lnk_get (P_s2 (c := 50) (P := fun ci => P_fok P_cl P_Tb "OrchardQuery$Walk" 19 ci 2) rfl (P_all_cons ⟨_, _, _, "OrchardQuery$Walk", rfl, by decide, (Or.inl rfl), (Or.inl w_1_236)⟩ (P_all_cons ⟨_, _, _, "OrchardQuery$Walk", rfl, by decide, (Or.inl rfl), (Or.inl w_1_236)⟩ (P_all_nil))))) <|
  P_all_cons (P_lnk_st (by decide) (fun _ => ⟨P_sg 2 rfl, w_1_1, w_2_145, (Or.inr ⟨rfl, _, w_3_188⟩)⟩)) <|
  P_all_cons (P_lnk_get (P_s2 (c := 50) (P := fun ci => P_fok P_cl P_Tb "OrchardQuery$Walk" 19 ci 2) rfl (P_all_cons ⟨_, _, _, "OrchardQuery$Walk", rfl, by decide, (Or.inl rfl), (Or.inl w_1_236)⟩ (P_all_cons ⟨_, _, _, "OrchardQuery$Walk", rfl, by decide, (Or.inl rfl), (Or.inl w_1_236)⟩ (P_all_nil))))) <|
  P_all_cons (P_lnk_st (by decide) (fun _ => ⟨P_sg 2 rfl, w_1_1, w_2_145, (Or.inr ⟨rfl, _, w_3_188⟩)⟩)) <|
  P_all_cons (P_lnk_get (P_s2 (c := 50) (P := fun ci => P_fok P_cl P_Tb "OrchardQuery$Walk" 19 ci 2) rfl (P_all_cons ⟨_, _, _, "OrchardQuery$Walk", rfl, by decide, (Or.inl rfl), (Or.inl w_1_236)⟩ (P_all_cons ⟨_, _, _, "OrchardQuery$Walk", rfl, by decide, (Or.inl rfl), (Or.inl w_1_236)⟩ (P_all_nil))))) <|
  P_all_cons (P_lnk_st (by decide) (fun _ => ⟨P_sg 2 rfl, w_1_1, w_2_145, (Or.inr ⟨rfl, _, w_3_188⟩)⟩)) <|
  P_all_nil
set_option maxRecDepth 20000 in
theorem P_m132 : P_mst 132 1 (Option.some Jvm.ClassFile.FieldType.int) P_e132 [] := P_meth (mx := 1) (rt := (Option.some Jvm.ClassFile.FieldType.int)) (hs := []) "OrchardQuery$Walk" false prog_12_method_6_code [] rfl rfl rfl rfl (by decide +kernel) (by decide +kernel) (fun _ => P_g132) (by decide) (fun _ _ => by decide +kernel) (fun q => by cases q) (P_all_cons (by decide +kernel) <| P_all_cons (by decide +kernel) <| P_all_nil) P_l132 (by decide +kernel) P_k132 (fun _ _ => P_hok_nil)
/-- OrchardQuery$Walk.walk(II)V -/
def P_l133 : List (Nat × P_I) := [(2, .putfield 37, 5, 50, 3, [], []), (7, .putfield 40, 10, 50, 4, [], []), (12, .putfield 23, 15, 50, 5, [], []), (17, .putfield 27, 20, 50, 6, [], []), (22, .putfield 30, 25, 50, 7, [], []), (26, .getfield 19, 29, 50, 2, [], []), (30, .invokestatic 43, 33, 2, 181, [], []), (35, .invokevirtual 47, 38, 1, 124, [], [])]
set_option maxRecDepth 20000 in
theorem P_k133 : ∀ q ∈ P_l133, P_lnk P_cl P_aty P_stat P_tx P_N0 P_Tb P_Y0 "OrchardQuery$Walk" false prog_12_method_7_code [] q.1 q.2.1 q.2.2.2.1 q.2.2.2.2.1 :=
  P_all_cons (P_lnk_put (P_s2 (c := 50) (P := fun ci => P_pok P_cl P_Tb "OrchardQuery$Walk" false 37 ci 3) rfl (P_all_cons ⟨_, _, _, "OrchardQuery$Walk", rfl, by decide, (Or.inl rfl), (Or.inl ⟨w_1_237, (Or.inl rfl)⟩)⟩ (P_all_cons ⟨_, _, _, "OrchardQuery$Walk", rfl, by decide, (Or.inl rfl), (Or.inl ⟨w_1_237, (Or.inl rfl)⟩)⟩ (P_all_nil))))) <|
  P_all_cons (P_lnk_put (P_s2 (c := 50) (P := fun ci => P_pok P_cl P_Tb "OrchardQuery$Walk" false 40 ci 4) rfl (P_all_cons ⟨_, _, _, "OrchardQuery$Walk", rfl, by decide, (Or.inl rfl), (Or.inl ⟨w_1_238, (Or.inl rfl)⟩)⟩ (P_all_cons ⟨_, _, _, "OrchardQuery$Walk", rfl, by decide, (Or.inl rfl), (Or.inl ⟨w_1_238, (Or.inl rfl)⟩)⟩ (P_all_nil))))) <|
  P_all_cons (P_lnk_put (P_s2 (c := 50) (P := fun ci => P_pok P_cl P_Tb "OrchardQuery$Walk" false 23 ci 5) rfl (P_all_cons ⟨_, _, _, "OrchardQuery$Walk", rfl, by decide, (Or.inl rfl), (Or.inl ⟨w_1_239, (Or.inl rfl)⟩)⟩ (P_all_cons ⟨_, _, _, "OrchardQuery$Walk", rfl, by decide, (Or.inl rfl), (Or.inl ⟨w_1_239, (Or.inl rfl)⟩)⟩ (P_all_nil))))) <|
  P_all_cons (P_lnk_put (P_s2 (c := 50) (P := fun ci => P_pok P_cl P_Tb "OrchardQuery$Walk" false 27 ci 6) rfl (P_all_cons ⟨_, _, _, "OrchardQuery$Walk", rfl, by decide, (Or.inl rfl), (Or.inl ⟨w_2_0, (Or.inl rfl)⟩)⟩ (P_all_cons ⟨_, _, _, "OrchardQuery$Walk", rfl, by decide, (Or.inl rfl), (Or.inl ⟨w_2_0, (Or.inl rfl)⟩)⟩ (P_all_nil))))) <|
  P_all_cons (P_lnk_put (P_s2 (c := 50) (P := fun ci => P_pok P_cl P_Tb "OrchardQuery$Walk" false 30 ci 7) rfl (P_all_cons ⟨_, _, _, "OrchardQuery$Walk", rfl, by decide, (Or.inl rfl), (Or.inl ⟨w_2_1, (Or.inl rfl)⟩)⟩ (P_all_cons ⟨_, _, _, "OrchardQuery$Walk", rfl, by decide, (Or.inl rfl), (Or.inl ⟨w_2_1, (Or.inl rfl)⟩)⟩ (P_all_nil))))) <|
  P_all_cons (P_lnk_get (P_s2 (c := 50) (P := fun ci => P_fok P_cl P_Tb "OrchardQuery$Walk" 19 ci 2) rfl (P_all_cons ⟨_, _, _, "OrchardQuery$Walk", rfl, by decide, (Or.inl rfl), (Or.inl w_1_236)⟩ (P_all_cons ⟨_, _, _, "OrchardQuery$Walk", rfl, by decide, (Or.inl rfl), (Or.inl w_1_236)⟩ (P_all_nil))))) <|
  P_all_cons (P_lnk_st (by decide) (fun _ => ⟨P_sg 2 rfl, w_1_1, w_3_129, (Or.inr ⟨rfl, _, w_3_163⟩)⟩)) <|
  P_all_cons (P_lnk_vi (P_vall (l := P_v124) rfl (P_all_cons (show P_vok _ _ _ 0 134 from ⟨_, rfl, rfl, w_1_8, w_3_166, (Or.inr ⟨⟨"OrchardQuery$Walk", "goThrough", "(I)V"⟩, "OrchardQuery$Walk", P_sg 1 rfl, by decide, w_3_164, w_8_72, w_x_1, (Or.inl ⟨w_3_166, _, _, _, w_3_167⟩)⟩)⟩) (P_all_cons (show P_vok _ _ _ 2 134 from ⟨_, rfl, rfl, w_1_8, w_3_166, (Or.inr ⟨⟨"OrchardQuery$Walk", "goThrough", "(I)V"⟩, "OrchardQuery$Walk", P_sg 1 rfl, by decide, w_3_164, w_8_72, w_x_0, (Or.inl ⟨w_3_166, _, _, _, w_3_167⟩)⟩)⟩) (P_all_nil))))) <|
  P_all_nil
set_option maxRecDepth 20000 in
theorem P_m133 : P_mst 133 3 (Option.none : Option Jvm.ClassFile.FieldType) P_e133 [] := P_meth (mx := 3) (rt := (Option.none : Option Jvm.ClassFile.FieldType)) (hs := []) "OrchardQuery$Walk" false prog_12_method_7_code [] rfl rfl rfl rfl (by decide +kernel) (by decide +kernel) (fun _ => P_g133) (by decide) (fun _ _ => by decide +kernel) (fun q => by cases q) (P_all_cons (by decide +kernel) <| P_all_cons (by decide +kernel) <| P_all_nil) P_l133 (by decide +kernel) P_k133 (fun _ _ => P_hok_nil)
/-- OrchardQuery$Walk.goThrough(I)V -/
def P_l134 : List (Nat × P_I) := [(2, .getfield 9, 5, 50, 0, [], []), (5, .invokevirtual 51, 8, 0, 66, [], []), (18, .getfield 15, 21, 50, 1, [], []), (22, .invokevirtual 57, 25, 1, 74, [], []), (27, .getfield 9, 30, 50, 0, [], []), (31, .invokevirtual 63, 34, 1, 56, [], []), (34, .invokevirtual 67, 37, 0, 59, [], []), (48, .getfield 30, 51, 50, 7, [], []), (52, .getfield 40, 55, 50, 4, [], []), (59, .getfield 19, 62, 50, 2, [], []), (65, .invokestatic 72, 68, 3, 180, [], []), (70, .getfield 23, 73, 50, 5, [], []), (75, .putfield 23, 78, 50, 5, [], []), (80, .invokevirtual 76, 83, 1, 125, [], []), (93, .getfield 9, 96, 50, 0, [], []), (96, .invokevirtual 51, 99, 0, 66, [], []), (106, .invokevirtual 47, 109, 1, 124, [], []), (114, .getfield 30, 117, 50, 7, [], []), (119, .putfield 30, 122, 50, 7, [], []), (123, .invokevirtual 80, 126, 0, 126, [], [])]
set_option maxRecDepth 20000 in
theorem P_k134 : ∀ q ∈ P_l134, P_lnk P_cl P_aty P_stat P_tx P_N0 P_Tb P_Y0 "OrchardQuery$Walk" false prog_12_method_8_code [] q.1 q.2.1 q.2.2.2.1 q.2.2.2.2.1 :=
  P_all_cons (P_lnk_get (P_s2 (c := 50) (P := fun ci => P_fok P_cl P_Tb "OrchardQuery$Walk" 9 ci 0) rfl (P_all_cons ⟨_, _, _, "OrchardQuery$Walk", rfl, by decide, (Or.inl rfl), (Or.inl w_1_230)⟩ (P_all_cons ⟨_, _, _, "OrchardQuery$Walk", rfl, by decide, (Or.inl rfl), (Or.inl w_1_230)⟩ (P_all_nil))))) <|
  P_all_cons (P_lnk_vi (P_vall (l := P_v66) rfl (P_all_cons (show P_vok _ _ _ 3 30 from ⟨_, rfl, rfl, w_1_4, w_3_0, (Or.inl ⟨P_sg 0 rfl, w_3_1, (Or.inl w_3_168)⟩)⟩) (P_all_nil)))) <|
  P_all_cons (P_lnk_get (P_s2 (c := 50) (P := fun ci => P_fok P_cl P_Tb "OrchardQuery$Walk" 15 ci 1) rfl (P_all_cons ⟨_, _, _, "OrchardQuery$Walk", rfl, by decide, (Or.inl rfl), (Or.inl w_1_233)⟩ (P_all_cons ⟨_, _, _, "OrchardQuery$Walk", rfl, by decide, (Or.inl rfl), (Or.inl w_1_233)⟩ (P_all_nil))))) <|
  P_all_cons (P_lnk_vi (P_vall (l := P_v74) rfl (P_all_cons (show P_vok _ _ _ 5 58 from ⟨_, rfl, rfl, w_1_5, w_3_170, (Or.inl ⟨P_sg 1 rfl, w_3_171, (Or.inl w_3_169)⟩)⟩) (P_all_nil)))) <|
  P_all_cons (P_lnk_get (P_s2 (c := 50) (P := fun ci => P_fok P_cl P_Tb "OrchardQuery$Walk" 9 ci 0) rfl (P_all_cons ⟨_, _, _, "OrchardQuery$Walk", rfl, by decide, (Or.inl rfl), (Or.inl w_1_230)⟩ (P_all_cons ⟨_, _, _, "OrchardQuery$Walk", rfl, by decide, (Or.inl rfl), (Or.inl w_1_230)⟩ (P_all_nil))))) <|
  P_all_cons (P_lnk_vi (P_vall (l := P_v56) rfl (P_all_cons (show P_vok _ _ _ 3 38 from ⟨_, rfl, rfl, w_1_4, w_3_44, (Or.inl ⟨P_sg 1 rfl, w_3_45, (Or.inl w_3_173)⟩)⟩) (P_all_nil)))) <|
  P_all_cons (P_lnk_vi (P_vall (l := P_v59) rfl (P_all_cons (show P_vok _ _ _ 9 120 from ⟨_, rfl, rfl, w_1_3, w_3_107, (Or.inl ⟨P_sg 0 rfl, w_3_108, (Or.inl w_3_174)⟩)⟩) (P_all_nil)))) <|
  P_all_cons (P_lnk_get (P_s2 (c := 50) (P := fun ci => P_fok P_cl P_Tb "OrchardQuery$Walk" 30 ci 7) rfl (P_all_cons ⟨_, _, _, "OrchardQuery$Walk", rfl, by decide, (Or.inl rfl), (Or.inl w_2_1)⟩ (P_all_cons ⟨_, _, _, "OrchardQuery$Walk", rfl, by decide, (Or.inl rfl), (Or.inl w_2_1)⟩ (P_all_nil))))) <|
  P_all_cons (P_lnk_get (P_s2 (c := 50) (P := fun ci => P_fok P_cl P_Tb "OrchardQuery$Walk" 40 ci 4) rfl (P_all_cons ⟨_, _, _, "OrchardQuery$Walk", rfl, by decide, (Or.inl rfl), (Or.inl w_1_238)⟩ (P_all_cons ⟨_, _, _, "OrchardQuery$Walk", rfl, by decide, (Or.inl rfl), (Or.inl w_1_238)⟩ (P_all_nil))))) <|
  P_all_cons (P_lnk_get (P_s2 (c := 50) (P := fun ci => P_fok P_cl P_Tb "OrchardQuery$Walk" 19 ci 2) rfl (P_all_cons ⟨_, _, _, "OrchardQuery$Walk", rfl, by decide, (Or.inl rfl), (Or.inl w_1_236)⟩ (P_all_cons ⟨_, _, _, "OrchardQuery$Walk", rfl, by decide, (Or.inl rfl), (Or.inl w_1_236)⟩ (P_all_nil))))) <|
  P_all_cons (P_lnk_st (by decide) (fun _ => ⟨P_sg 3 rfl, w_1_1, w_2_199, (Or.inr ⟨rfl, _, w_3_175⟩)⟩)) <|
  P_all_cons (P_lnk_get (P_s2 (c := 50) (P := fun ci => P_fok P_cl P_Tb "OrchardQuery$Walk" 23 ci 5) rfl (P_all_cons ⟨_, _, _, "OrchardQuery$Walk", rfl, by decide, (Or.inl rfl), (Or.inl w_1_239)⟩ (P_all_cons ⟨_, _, _, "OrchardQuery$Walk", rfl, by decide, (Or.inl rfl), (Or.inl w_1_239)⟩ (P_all_nil))))) <|
  P_all_cons (P_lnk_put (P_s2 (c := 50) (P := fun ci => P_pok P_cl P_Tb "OrchardQuery$Walk" false 23 ci 5) rfl (P_all_cons ⟨_, _, _, "OrchardQuery$Walk", rfl, by decide, (Or.inl rfl), (Or.inl ⟨w_1_239, (Or.inl rfl)⟩)⟩ (P_all_cons ⟨_, _, _, "OrchardQuery$Walk", rfl, by decide, (Or.inl rfl), (Or.inl ⟨w_1_239, (Or.inl rfl)⟩)⟩ (P_all_nil))))) <|
  P_all_cons (P_lnk_vi (P_vall (l := P_v125) rfl (P_all_cons (show P_vok _ _ _ 0 135 from ⟨_, rfl, rfl, w_1_8, w_3_178, (Or.inr ⟨⟨"OrchardQuery$Walk", "holdsAt", "(I)Z"⟩, "OrchardQuery$Walk", P_sg 1 rfl, by decide, w_3_176, w_8_73, w_x_3, (Or.inl ⟨w_3_178, _, _, _, w_3_179⟩)⟩)⟩) (P_all_cons (show P_vok _ _ _ 2 135 from ⟨_, rfl, rfl, w_1_8, w_3_178, (Or.inr ⟨⟨"OrchardQuery$Walk", "holdsAt", "(I)Z"⟩, "OrchardQuery$Walk", P_sg 1 rfl, by decide, w_3_176, w_8_73, w_x_2, (Or.inl ⟨w_3_178, _, _, _, w_3_179⟩)⟩)⟩) (P_all_nil))))) <|
  P_all_cons (P_lnk_get (P_s2 (c := 50) (P := fun ci => P_fok P_cl P_Tb "OrchardQuery$Walk" 9 ci 0) rfl (P_all_cons ⟨_, _, _, "OrchardQuery$Walk", rfl, by decide, (Or.inl rfl), (Or.inl w_1_230)⟩ (P_all_cons ⟨_, _, _, "OrchardQuery$Walk", rfl, by decide, (Or.inl rfl), (Or.inl w_1_230)⟩ (P_all_nil))))) <|
  P_all_cons (P_lnk_vi (P_vall (l := P_v66) rfl (P_all_cons (show P_vok _ _ _ 3 30 from ⟨_, rfl, rfl, w_1_4, w_3_0, (Or.inl ⟨P_sg 0 rfl, w_3_1, (Or.inl w_3_168)⟩)⟩) (P_all_nil)))) <|
  P_all_cons (P_lnk_vi (P_vall (l := P_v124) rfl (P_all_cons (show P_vok _ _ _ 0 134 from ⟨_, rfl, rfl, w_1_8, w_3_166, (Or.inr ⟨⟨"OrchardQuery$Walk", "goThrough", "(I)V"⟩, "OrchardQuery$Walk", P_sg 1 rfl, by decide, w_3_164, w_8_72, w_x_1, (Or.inl ⟨w_3_166, _, _, _, w_3_167⟩)⟩)⟩) (P_all_cons (show P_vok _ _ _ 2 134 from ⟨_, rfl, rfl, w_1_8, w_3_166, (Or.inr ⟨⟨"OrchardQuery$Walk", "goThrough", "(I)V"⟩, "OrchardQuery$Walk", P_sg 1 rfl, by decide, w_3_164, w_8_72, w_x_0, (Or.inl ⟨w_3_166, _, _, _, w_3_167⟩)⟩)⟩) (P_all_nil))))) <|
  P_all_cons (P_lnk_get (P_s2 (c := 50) (P := fun ci => P_fok P_cl P_Tb "OrchardQuery$Walk" 30 ci 7) rfl (P_all_cons ⟨_, _, _, "OrchardQuery$Walk", rfl, by decide, (Or.inl rfl), (Or.inl w_2_1)⟩ (P_all_cons ⟨_, _, _, "OrchardQuery$Walk", rfl, by decide, (Or.inl rfl), (Or.inl w_2_1)⟩ (P_all_nil))))) <|
  P_all_cons (P_lnk_put (P_s2 (c := 50) (P := fun ci => P_pok P_cl P_Tb "OrchardQuery$Walk" false 30 ci 7) rfl (P_all_cons ⟨_, _, _, "OrchardQuery$Walk", rfl, by decide, (Or.inl rfl), (Or.inl ⟨w_2_1, (Or.inl rfl)⟩)⟩ (P_all_cons ⟨_, _, _, "OrchardQuery$Walk", rfl, by decide, (Or.inl rfl), (Or.inl ⟨w_2_1, (Or.inl rfl)⟩)⟩ (P_all_nil))))) <|
  P_all_cons (P_lnk_vi (P_vall (l := P_v126) rfl (P_all_cons (show P_vok _ _ _ 0 9 from ⟨_, rfl, rfl, w_1_9, w_3_195, (Or.inr ⟨⟨"OrchardQuery$Walk", "meet", "()V"⟩, "OrchardQuery$Walk", P_sg 0 rfl, by decide, w_3_191, w_3_193, w_3_194, (Or.inr w_3_192)⟩)⟩) (P_all_cons (show P_vok _ _ _ 2 21 from ⟨_, rfl, rfl, w_1_11, w_4_14, (Or.inr ⟨⟨"OrchardQuery$Walk", "meet", "()V"⟩, "OrchardQuery$Walk", P_sg 0 rfl, by decide, w_3_191, w_3_193, w_4_13, (Or.inr w_3_192)⟩)⟩) (P_all_nil))))) <|
  P_all_nil
set_option maxRecDepth 20000 in
theorem P_m134 : P_mst 134 5 (Option.none : Option Jvm.ClassFile.FieldType) P_e134 [] := P_meth (mx := 5) (rt := (Option.none : Option Jvm.ClassFile.FieldType)) (hs := []) "OrchardQuery$Walk" false prog_12_method_8_code [] rfl rfl rfl rfl (by decide +kernel) (by decide +kernel) (fun _ => P_g134) (by decide) (fun _ _ => by decide +kernel) (fun q => by cases q) (P_all_cons (by decide +kernel) <| P_all_cons (by decide +kernel) <| P_all_cons (by decide +kernel) <| P_all_cons (by decide +kernel) <| P_all_cons (by decide +kernel) <| P_all_nil) P_l134 (by decide +kernel) P_k134 (fun _ _ => P_hok_nil)
/-- OrchardQuery$Walk.holdsAt(I)Z -/
def P_l135 : List (Nat × P_I) := [(4, .getfield 15, 7, 50, 1, [], []), (7, .invokevirtual 83, 10, 0, 127, [], []), (14, .getfield 15, 17, 50, 1, [], []), (18, .invokevirtual 86, 21, 1, 65, [], []), (23, .getfield 90, 26, 1, 3, [], []), (32, .getfield 37, 35, 50, 3, [], []), (43, .getfield 27, 46, 50, 6, [], []), (48, .putfield 27, 51, 50, 6, [], []), (53, .getfield 95, 56, 1, 0, [], []), (56, .invokevirtual 98, 59, 1, 128, [], []), (63, .getfield 101, 66, 1, 2, [], []), (66, .invokevirtual 98, 69, 1, 128, [], []), (72, .getfield 104, 75, 1, 1, [], []), (108, .getfield 104, 111, 1, 1, [], [])]
set_option maxRecDepth 20000 in
theorem P_k135 : ∀ q ∈ P_l135, P_lnk P_cl P_aty P_stat P_tx P_N0 P_Tb P_Y0 "OrchardQuery$Walk" false prog_12_method_9_code [] q.1 q.2.1 q.2.2.2.1 q.2.2.2.2.1 :=
  P_all_cons (P_lnk_get (P_s2 (c := 50) (P := fun ci => P_fok P_cl P_Tb "OrchardQuery$Walk" 15 ci 1) rfl (P_all_cons ⟨_, _, _, "OrchardQuery$Walk", rfl, by decide, (Or.inl rfl), (Or.inl w_1_233)⟩ (P_all_cons ⟨_, _, _, "OrchardQuery$Walk", rfl, by decide, (Or.inl rfl), (Or.inl w_1_233)⟩ (P_all_nil))))) <|
  P_all_cons (P_lnk_vi (P_vall (l := P_v127) rfl (P_all_cons (show P_vok _ _ _ 5 55 from ⟨_, rfl, rfl, w_1_5, w_3_94, (Or.inl ⟨P_sg 0 rfl, w_3_95, (Or.inl w_3_180)⟩)⟩) (P_all_nil)))) <|
  P_all_cons (P_lnk_get (P_s2 (c := 50) (P := fun ci => P_fok P_cl P_Tb "OrchardQuery$Walk" 15 ci 1) rfl (P_all_cons ⟨_, _, _, "OrchardQuery$Walk", rfl, by decide, (Or.inl rfl), (Or.inl w_1_233)⟩ (P_all_cons ⟨_, _, _, "OrchardQuery$Walk", rfl, by decide, (Or.inl rfl), (Or.inl w_1_233)⟩ (P_all_nil))))) <|
  P_all_cons (P_lnk_vi (P_vall (l := P_v65) rfl (P_all_cons (show P_vok _ _ _ 5 59 from ⟨_, rfl, rfl, w_1_5, w_2_148, (Or.inl ⟨P_sg 1 rfl, w_2_149, (Or.inl w_3_181)⟩)⟩) (P_all_nil)))) <|
  P_all_cons (P_lnk_get (P_s1 (c := 1) (P := fun ci => P_fok P_cl P_Tb "OrchardQuery$Walk" 90 ci 3) rfl ⟨_, _, _, "OrchardQuery$Condition", rfl, by decide, (Or.inl rfl), (Or.inr ⟨_, w_1_126⟩)⟩)) <|
  P_all_cons (P_lnk_get (P_s2 (c := 50) (P := fun ci => P_fok P_cl P_Tb "OrchardQuery$Walk" 37 ci 3) rfl (P_all_cons ⟨_, _, _, "OrchardQuery$Walk", rfl, by decide, (Or.inl rfl), (Or.inl w_1_237)⟩ (P_all_cons ⟨_, _, _, "OrchardQuery$Walk", rfl, by decide, (Or.inl rfl), (Or.inl w_1_237)⟩ (P_all_nil))))) <|
  P_all_cons (P_lnk_get (P_s2 (c := 50) (P := fun ci => P_fok P_cl P_Tb "OrchardQuery$Walk" 27 ci 6) rfl (P_all_cons ⟨_, _, _, "OrchardQuery$Walk", rfl, by decide, (Or.inl rfl), (Or.inl w_2_0)⟩ (P_all_cons ⟨_, _, _, "OrchardQuery$Walk", rfl, by decide, (Or.inl rfl), (Or.inl w_2_0)⟩ (P_all_nil))))) <|
  P_all_cons (P_lnk_put (P_s2 (c := 50) (P := fun ci => P_pok P_cl P_Tb "OrchardQuery$Walk" false 27 ci 6) rfl (P_all_cons ⟨_, _, _, "OrchardQuery$Walk", rfl, by decide, (Or.inl rfl), (Or.inl ⟨w_2_0, (Or.inl rfl)⟩)⟩ (P_all_cons ⟨_, _, _, "OrchardQuery$Walk", rfl, by decide, (Or.inl rfl), (Or.inl ⟨w_2_0, (Or.inl rfl)⟩)⟩ (P_all_nil))))) <|
  P_all_cons (P_lnk_get (P_s1 (c := 1) (P := fun ci => P_fok P_cl P_Tb "OrchardQuery$Walk" 95 ci 0) rfl ⟨_, _, _, "OrchardQuery$Condition", rfl, by decide, (Or.inl rfl), (Or.inr ⟨_, w_1_118⟩)⟩)) <|
  P_all_cons (P_lnk_vi (P_vall (l := P_v128) rfl (P_all_cons (show P_vok _ _ _ 0 136 from ⟨_, rfl, rfl, w_1_8, w_3_184, (Or.inr ⟨⟨"OrchardQuery$Walk", "valueNow", "(I)I"⟩, "OrchardQuery$Walk", P_sg 1 rfl, by decide, w_3_182, w_8_74, w_x_5, (Or.inl ⟨w_3_184, _, _, _, w_3_185⟩)⟩)⟩) (P_all_cons (show P_vok _ _ _ 2 136 from ⟨_, rfl, rfl, w_1_8, w_3_184, (Or.inr ⟨⟨"OrchardQuery$Walk", "valueNow", "(I)I"⟩, "OrchardQuery$Walk", P_sg 1 rfl, by decide, w_3_182, w_8_74, w_x_4, (Or.inl ⟨w_3_184, _, _, _, w_3_185⟩)⟩)⟩) (P_all_nil))))) <|
  P_all_cons (P_lnk_get (P_s1 (c := 1) (P := fun ci => P_fok P_cl P_Tb "OrchardQuery$Walk" 101 ci 2) rfl ⟨_, _, _, "OrchardQuery$Condition", rfl, by decide, (Or.inl rfl), (Or.inr ⟨_, w_1_124⟩)⟩)) <|
  P_all_cons (P_lnk_vi (P_vall (l := P_v128) rfl (P_all_cons (show P_vok _ _ _ 0 136 from ⟨_, rfl, rfl, w_1_8, w_3_184, (Or.inr ⟨⟨"OrchardQuery$Walk", "valueNow", "(I)I"⟩, "OrchardQuery$Walk", P_sg 1 rfl, by decide, w_3_182, w_8_74, w_x_5, (Or.inl ⟨w_3_184, _, _, _, w_3_185⟩)⟩)⟩) (P_all_cons (show P_vok _ _ _ 2 136 from ⟨_, rfl, rfl, w_1_8, w_3_184, (Or.inr ⟨⟨"OrchardQuery$Walk", "valueNow", "(I)I"⟩, "OrchardQuery$Walk", P_sg 1 rfl, by decide, w_3_182, w_8_74, w_x_4, (Or.inl ⟨w_3_184, _, _, _, w_3_185⟩)⟩)⟩) (P_all_nil))))) <|
  P_all_cons (P_lnk_get (P_s1 (c := 1) (P := fun ci => P_fok P_cl P_Tb "OrchardQuery$Walk" 104 ci 1) rfl ⟨_, _, _, "OrchardQuery$Condition", rfl, by decide, (Or.inl rfl), (Or.inr ⟨_, w_1_121⟩)⟩)) <|
  P_all_cons (P_lnk_get (P_s1 (c := 1) (P := fun ci => P_fok P_cl P_Tb "OrchardQuery$Walk" 104 ci 1) rfl ⟨_, _, _, "OrchardQuery$Condition", rfl, by decide, (Or.inl rfl), (Or.inr ⟨_, w_1_121⟩)⟩)) <|
  P_all_nil
set_option maxRecDepth 20000 in
theorem P_m135 : P_mst 135 7 (Option.some Jvm.ClassFile.FieldType.boolean) P_e135 [] := P_meth (mx := 7) (rt := (Option.some Jvm.ClassFile.FieldType.boolean)) (hs := []) "OrchardQuery$Walk" false prog_12_method_9_code [] rfl rfl rfl rfl (by decide +kernel) (by decide +kernel) (fun _ => P_g135) (by decide) (fun _ _ => by decide +kernel) (fun q => by cases q) (P_all_cons (by decide +kernel) <| P_all_cons (by decide +kernel) <| P_all_cons (by decide +kernel) <| P_all_cons (by decide +kernel) <| P_all_cons (by decide +kernel) <| P_all_nil) P_l135 (by decide +kernel) P_k135 (fun _ _ => P_hok_nil)
/-- OrchardQuery$Walk.valueNow(I)I -/
def P_l136 : List (Nat × P_I) := [(1, .invokestatic 107, 4, 1, 176, [], []), (14, .invokestatic 110, 17, 1, 177, [], []), (19, .getfield 9, 22, 50, 0, [], []), (23, .invokevirtual 63, 26, 1, 56, [], []), (27, .getfield 19, 30, 50, 2, [], []), (31, .invokestatic 33, 34, 2, 179, [], []), (35, .invokestatic 113, 38, 1, 178, [], []), (38, .invokevirtual 116, 41, 2, 63, [], [])]
set_option maxRecDepth 20000 in
theorem P_k136 : ∀ q ∈ P_l136, P_lnk P_cl P_aty P_stat P_tx P_N0 P_Tb P_Y0 "OrchardQuery$Walk" false prog_12_method_10_code [] q.1 q.2.1 q.2.2.2.1 q.2.2.2.2.1 :=
  P_all_cons (P_lnk_st (by decide) (fun _ => ⟨P_sg 1 rfl, w_1_1, w_2_233, (Or.inr ⟨rfl, _, w_3_186⟩)⟩)) <|
  P_all_cons (P_lnk_st (by decide) (fun _ => ⟨P_sg 1 rfl, w_1_1, w_2_156, (Or.inr ⟨rfl, _, w_3_187⟩)⟩)) <|
  P_all_cons (P_lnk_get (P_s2 (c := 50) (P := fun ci => P_fok P_cl P_Tb "OrchardQuery$Walk" 9 ci 0) rfl (P_all_cons ⟨_, _, _, "OrchardQuery$Walk", rfl, by decide, (Or.inl rfl), (Or.inl w_1_230)⟩ (P_all_cons ⟨_, _, _, "OrchardQuery$Walk", rfl, by decide, (Or.inl rfl), (Or.inl w_1_230)⟩ (P_all_nil))))) <|
  P_all_cons (P_lnk_vi (P_vall (l := P_v56) rfl (P_all_cons (show P_vok _ _ _ 3 38 from ⟨_, rfl, rfl, w_1_4, w_3_44, (Or.inl ⟨P_sg 1 rfl, w_3_45, (Or.inl w_3_173)⟩)⟩) (P_all_nil)))) <|
  P_all_cons (P_lnk_get (P_s2 (c := 50) (P := fun ci => P_fok P_cl P_Tb "OrchardQuery$Walk" 19 ci 2) rfl (P_all_cons ⟨_, _, _, "OrchardQuery$Walk", rfl, by decide, (Or.inl rfl), (Or.inl w_1_236)⟩ (P_all_cons ⟨_, _, _, "OrchardQuery$Walk", rfl, by decide, (Or.inl rfl), (Or.inl w_1_236)⟩ (P_all_nil))))) <|
  P_all_cons (P_lnk_st (by decide) (fun _ => ⟨P_sg 2 rfl, w_1_1, w_2_145, (Or.inr ⟨rfl, _, w_3_188⟩)⟩)) <|
  P_all_cons (P_lnk_st (by decide) (fun _ => ⟨P_sg 1 rfl, w_1_1, w_3_40, (Or.inr ⟨rfl, _, w_3_189⟩)⟩)) <|
  P_all_cons (P_lnk_vi (P_vall (l := P_v63) rfl (P_all_cons (show P_vok _ _ _ 9 122 from ⟨_, rfl, rfl, w_1_3, w_3_112, (Or.inl ⟨P_sg 2 rfl, w_3_113, (Or.inl w_3_190)⟩)⟩) (P_all_nil)))) <|
  P_all_nil
set_option maxRecDepth 20000 in
theorem P_m136 : P_mst 136 3 (Option.some Jvm.ClassFile.FieldType.int) P_e136 [] := P_meth (mx := 3) (rt := (Option.some Jvm.ClassFile.FieldType.int)) (hs := []) "OrchardQuery$Walk" false prog_12_method_10_code [] rfl rfl rfl rfl (by decide +kernel) (by decide +kernel) (fun _ => P_g136) (by decide) (fun _ _ => by decide +kernel) (fun q => by cases q) (P_all_cons (by decide +kernel) <| P_all_cons (by decide +kernel) <| P_all_nil) P_l136 (by decide +kernel) P_k136 (fun _ _ => P_hok_nil)
/-- OrchardQuery.<init>()V -/
def P_l137 : List (Nat × P_I) := [(1, .invokespecial 3, 4, 0, 9000, [], []), (5, .new 9, 8, 0, 8, [], []), (9, .invokespecial 11, 12, 0, 113, [], []), (12, .putfield 12, 15, 10, 0, [], []), (16, .new 16, 19, 0, 3, [], []), (20, .invokespecial 18, 23, 0, 22, [], []), (23, .putfield 19, 26, 10, 2, [], []), (27, .new 23, 30, 0, 5, [], []), (32, .getfield 19, 35, 10, 2, [], []), (35, .invokespecial 25, 38, 1, 53, [], []), (38, .putfield 28, 41, 10, 3, [], []), (42, .new 32, 45, 0, 7, [], []), (47, .getfield 12, 50, 10, 0, [], []), (51, .getfield 19, 54, 10, 2, [], []), (55, .getfield 28, 58, 10, 3, [], []), (58, .invokespecial 34, 61, 3, 90, [], []), (61, .putfield 37, 64, 10, 1, [], []), (65, .new 41, 68, 0, 0, [], []), (70, .getfield 19, 73, 10, 2, [], []), (74, .getfield 28, 77, 10, 3, [], []), (77, .invokespecial 43, 80, 2, 1, [], []), (80, .putfield 46, 83, 10, 4, [], []), (84, .new 50, 87, 0, 2, [], []), (89, .getfield 19, 92, 10, 2, [], []), (93, .getfield 28, 96, 10, 3, [], []), (96, .invokespecial 52, 99, 2, 20, [], []), (99, .putfield 53, 102, 10, 5, [], []), (103, .new 57, 106, 0, 6, [], []), (107, .invokespecial 59, 110, 0, 83, [], []), (110, .putfield 60, 113, 10, 6, [], [])]
set_option maxRecDepth 20000 in
theorem P_k137 : ∀ q ∈ P_l137, P_lnk P_cl P_aty P_stat P_tx P_N0 P_Tb P_Y0 "OrchardQuery" true prog_1_method_1_code [] q.1 q.2.1 q.2.2.2.1 q.2.2.2.2.1 :=
  P_all_cons (P_lnk_oj (fun _ => ⟨w_1_27, w_1_28, w_1_29⟩)) <|
  P_all_cons (P_lnk_new (by decide) rfl w_1_30 w_1_31 w_1_2) <|
  P_all_cons (P_lnk_sp (by decide) (fun _ => ⟨P_sg 0 rfl, w_1_2, w_1_33, rfl, rfl, (Or.inl w_1_32)⟩)) <|
  P_all_cons (P_lnk_put (P_s1 (c := 10) (P := fun ci => P_pok P_cl P_Tb "OrchardQuery" true 12 ci 0) rfl ⟨_, _, _, "OrchardQuery", rfl, by decide, (Or.inl rfl), (Or.inl ⟨w_2_71, (Or.inr ⟨rfl, rfl, rfl⟩)⟩)⟩)) <|
  P_all_cons (P_lnk_new (by decide) rfl w_1_67 w_1_68 w_1_4) <|
  P_all_cons (P_lnk_sp (by decide) (fun _ => ⟨P_sg 0 rfl, w_1_4, w_1_70, rfl, rfl, (Or.inl w_1_69)⟩)) <|
  P_all_cons (P_lnk_put (P_s1 (c := 10) (P := fun ci => P_pok P_cl P_Tb "OrchardQuery" true 19 ci 2) rfl ⟨_, _, _, "OrchardQuery", rfl, by decide, (Or.inl rfl), (Or.inl ⟨w_2_73, (Or.inr ⟨rfl, rfl, rfl⟩)⟩)⟩)) <|
  P_all_cons (P_lnk_new (by decide) rfl w_1_103 w_1_104 w_1_5) <|
  P_all_cons (P_lnk_get (P_s1 (c := 10) (P := fun ci => P_fok P_cl P_Tb "OrchardQuery" 19 ci 2) rfl ⟨_, _, _, "OrchardQuery", rfl, by decide, (Or.inl rfl), (Or.inl w_2_73)⟩)) <|
  P_all_cons (P_lnk_sp (by decide) (fun _ => ⟨P_sg 1 rfl, w_1_5, w_1_106, rfl, rfl, (Or.inl w_1_105)⟩)) <|
  P_all_cons (P_lnk_put (P_s1 (c := 10) (P := fun ci => P_pok P_cl P_Tb "OrchardQuery" true 28 ci 3) rfl ⟨_, _, _, "OrchardQuery", rfl, by decide, (Or.inl rfl), (Or.inl ⟨w_2_74, (Or.inr ⟨rfl, rfl, rfl⟩)⟩)⟩)) <|
  P_all_cons (P_lnk_new (by decide) rfl w_1_156 w_1_157 w_1_7) <|
  P_all_cons (P_lnk_get (P_s1 (c := 10) (P := fun ci => P_fok P_cl P_Tb "OrchardQuery" 12 ci 0) rfl ⟨_, _, _, "OrchardQuery", rfl, by decide, (Or.inl rfl), (Or.inl w_2_71)⟩)) <|
  P_all_cons (P_lnk_get (P_s1 (c := 10) (P := fun ci => P_fok P_cl P_Tb "OrchardQuery" 19 ci 2) rfl ⟨_, _, _, "OrchardQuery", rfl, by decide, (Or.inl rfl), (Or.inl w_2_73)⟩)) <|
  P_all_cons (P_lnk_get (P_s1 (c := 10) (P := fun ci => P_fok P_cl P_Tb "OrchardQuery" 28 ci 3) rfl ⟨_, _, _, "OrchardQuery", rfl, by decide, (Or.inl rfl), (Or.inl w_2_74)⟩)) <|
  P_all_cons (P_lnk_sp (by decide) (fun _ => ⟨P_sg 3 rfl, w_1_7, w_1_159, rfl, rfl, (Or.inl w_1_158)⟩)) <|
  P_all_cons (P_lnk_put (P_s1 (c := 10) (P := fun ci => P_pok P_cl P_Tb "OrchardQuery" true 37 ci 1) rfl ⟨_, _, _, "OrchardQuery", rfl, by decide, (Or.inl rfl), (Or.inl ⟨w_2_72, (Or.inr ⟨rfl, rfl, rfl⟩)⟩)⟩)) <|
  P_all_cons (P_lnk_new (by decide) rfl w_1_193 w_1_194 w_1_9) <|
  P_all_cons (P_lnk_get (P_s1 (c := 10) (P := fun ci => P_fok P_cl P_Tb "OrchardQuery" 19 ci 2) rfl ⟨_, _, _, "OrchardQuery", rfl, by decide, (Or.inl rfl), (Or.inl w_2_73)⟩)) <|
  P_all_cons (P_lnk_get (P_s1 (c := 10) (P := fun ci => P_fok P_cl P_Tb "OrchardQuery" 28 ci 3) rfl ⟨_, _, _, "OrchardQuery", rfl, by decide, (Or.inl rfl), (Or.inl w_2_74)⟩)) <|
  P_all_cons (P_lnk_sp (by decide) (fun _ => ⟨P_sg 2 rfl, w_1_9, w_1_196, rfl, rfl, (Or.inl w_1_195)⟩)) <|
  P_all_cons (P_lnk_put (P_s1 (c := 10) (P := fun ci => P_pok P_cl P_Tb "OrchardQuery" true 46 ci 4) rfl ⟨_, _, _, "OrchardQuery", rfl, by decide, (Or.inl rfl), (Or.inl ⟨w_2_75, (Or.inr ⟨rfl, rfl, rfl⟩)⟩)⟩)) <|
  P_all_cons (P_lnk_new (by decide) rfl w_2_37 w_2_38 w_1_11) <|
  P_all_cons (P_lnk_get (P_s1 (c := 10) (P := fun ci => P_fok P_cl P_Tb "OrchardQuery" 19 ci 2) rfl ⟨_, _, _, "OrchardQuery", rfl, by decide, (Or.inl rfl), (Or.inl w_2_73)⟩)) <|
  P_all_cons (P_lnk_get (P_s1 (c := 10) (P := fun ci => P_fok P_cl P_Tb "OrchardQuery" 28 ci 3) rfl ⟨_, _, _, "OrchardQuery", rfl, by decide, (Or.inl rfl), (Or.inl w_2_74)⟩)) <|
  P_all_cons (P_lnk_sp (by decide) (fun _ => ⟨P_sg 2 rfl, w_1_11, w_2_40, rfl, rfl, (Or.inl w_2_39)⟩)) <|
  P_all_cons (P_lnk_put (P_s1 (c := 10) (P := fun ci => P_pok P_cl P_Tb "OrchardQuery" true 53 ci 5) rfl ⟨_, _, _, "OrchardQuery", rfl, by decide, (Or.inl rfl), (Or.inl ⟨w_2_76, (Or.inr ⟨rfl, rfl, rfl⟩)⟩)⟩)) <|
  P_all_cons (P_lnk_new (by decide) rfl w_2_52 w_2_53 w_1_12) <|
  P_all_cons (P_lnk_sp (by decide) (fun _ => ⟨P_sg 0 rfl, w_1_12, w_2_55, rfl, rfl, (Or.inr ⟨_, w_2_54⟩)⟩)) <|
  P_all_cons (P_lnk_put (P_s1 (c := 10) (P := fun ci => P_pok P_cl P_Tb "OrchardQuery" true 60 ci 6) rfl ⟨_, _, _, "OrchardQuery", rfl, by decide, (Or.inl rfl), (Or.inl ⟨w_2_77, (Or.inr ⟨rfl, rfl, rfl⟩)⟩)⟩)) <|
  P_all_nil
set_option maxRecDepth 20000 in
theorem P_m137 : P_mst 137 1 (Option.none : Option Jvm.ClassFile.FieldType) P_e137 [] := P_meth (mx := 1) (rt := (Option.none : Option Jvm.ClassFile.FieldType)) (hs := []) "OrchardQuery" true prog_1_method_1_code [] rfl rfl rfl rfl (by decide +kernel) (by decide +kernel) (fun _ => P_g137) (by decide) (fun t q => by cases q) (fun _ => rfl) (P_all_cons (by decide +kernel) <| P_all_cons (by decide +kernel) <| P_all_cons (by decide +kernel) <| P_all_cons (by decide +kernel) <| P_all_nil) P_l137 (by decide +kernel) P_k137 (fun _ _ => P_hok_nil)
/-- OrchardQuery.table(I)I -/
def P_l138 : List (Nat × P_I) := [(10, .new 64, 13, 0, 1000, [], []), (21, .getfield 12, 24, 10, 0, [], []), (24, .invokevirtual 71, 27, 0, 129, [], []), (31, .new 75, 34, 0, 1001, [], []), (42, .getfield 12, 45, 10, 0, [], []), (46, .invokevirtual 80, 49, 1, 130, [], [])]
set_option maxRecDepth 20000 in
theorem P_k138 : ∀ q ∈ P_l138, P_lnk P_cl P_aty P_stat P_tx P_N0 P_Tb P_Y0 "OrchardQuery" false prog_1_method_2_code [] q.1 q.2.1 q.2.2.2.1 q.2.2.2.2.1 :=
  P_all_cons (P_lnk_thr (by decide) (fun _ => ⟨"a table has 1 to 3 columns", 66, 68, P_BB, rfl, rfl, by decide +kernel, by decide +kernel, w_4_122, w_1_17, by decide +kernel, P_at_10_68, by decide +kernel, by decide +kernel, (Or.inl ⟨by decide +kernel, by decide +kernel, by decide +kernel⟩)⟩)) <|
  P_all_cons (P_lnk_get (P_s1 (c := 10) (P := fun ci => P_fok P_cl P_Tb "OrchardQuery" 12 ci 0) rfl ⟨_, _, _, "OrchardQuery", rfl, by decide, (Or.inl rfl), (Or.inl w_2_71)⟩)) <|
  P_all_cons (P_lnk_vi (P_vall (l := P_v129) rfl (P_all_cons (show P_vok _ _ _ 8 114 from ⟨_, rfl, rfl, w_1_2, w_3_81, (Or.inl ⟨P_sg 0 rfl, w_3_82, (Or.inl w_3_80)⟩)⟩) (P_all_nil)))) <|
  P_all_cons (P_lnk_thr (by decide) (fun _ => ⟨"there are 5 tables", 77, 79, P_BB, rfl, rfl, by decide +kernel, by decide +kernel, w_4_190, w_1_18, by decide +kernel, P_at_10_79, by decide +kernel, by decide +kernel, (Or.inl ⟨by decide +kernel, by decide +kernel, by decide +kernel⟩)⟩)) <|
  P_all_cons (P_lnk_get (P_s1 (c := 10) (P := fun ci => P_fok P_cl P_Tb "OrchardQuery" 12 ci 0) rfl ⟨_, _, _, "OrchardQuery", rfl, by decide, (Or.inl rfl), (Or.inl w_2_71)⟩)) <|
  P_all_cons (P_lnk_vi (P_vall (l := P_v130) rfl (P_all_cons (show P_vok _ _ _ 8 117 from ⟨_, rfl, rfl, w_1_2, w_4_207, (Or.inl ⟨P_sg 1 rfl, w_4_208, (Or.inl w_4_206)⟩)⟩) (P_all_nil)))) <|
  P_all_nil
set_option maxRecDepth 20000 in
theorem P_m138 : P_mst 138 2 (Option.some Jvm.ClassFile.FieldType.int) P_e138 [] := P_meth (mx := 2) (rt := (Option.some Jvm.ClassFile.FieldType.int)) (hs := []) "OrchardQuery" false prog_1_method_2_code [] rfl rfl rfl rfl (by decide +kernel) (by decide +kernel) (fun _ => P_g138) (by decide) (fun _ _ => by decide +kernel) (fun q => by cases q) (P_all_cons (by decide +kernel) <| P_all_cons (by decide +kernel) <| P_all_nil) P_l138 (by decide +kernel) P_k138 (fun _ _ => P_hok_nil)
/-- OrchardQuery.row(IIII)I -/
def P_l139 : List (Nat × P_I) := [(1, .getfield 12, 4, 10, 0, [], []), (5, .invokevirtual 84, 8, 1, 113, [], []), (11, .new 88, 14, 0, 1002, [], []), (22, .getfield 12, 25, 10, 0, [], []), (26, .invokevirtual 93, 29, 1, 114, [], []), (33, .invokevirtual 97, 36, 0, 57, [], []), (39, .invokestatic 102, 42, 1, 172, [], []), (52, .invokestatic 102, 55, 1, 172, [], []), (66, .invokestatic 102, 69, 1, 172, [], []), (72, .new 64, 75, 0, 1000, [], []), (84, .invokevirtual 107, 87, 0, 122, [], []), (90, .new 75, 93, 0, 1001, [], []), (106, .invokevirtual 113, 109, 3, 131, [], []), (110, .invokevirtual 116, 113, 0, 132, [], []), (115, .invokevirtual 119, 118, 0, 59, [], [])]
set_option maxRecDepth 20000 in
theorem P_k139 : ∀ q ∈ P_l139, P_lnk P_cl P_aty P_stat P_tx P_N0 P_Tb P_Y0 "OrchardQuery" false prog_1_method_3_code [] q.1 q.2.1 q.2.2.2.1 q.2.2.2.2.1 :=
  P_all_cons (P_lnk_get (P_s1 (c := 10) (P := fun ci => P_fok P_cl P_Tb "OrchardQuery" 12 ci 0) rfl ⟨_, _, _, "OrchardQuery", rfl, by decide, (Or.inl rfl), (Or.inl w_2_71)⟩)) <|
  P_all_cons (P_lnk_vi (P_vall (l := P_v113) rfl (P_all_cons (show P_vok _ _ _ 8 115 from ⟨_, rfl, rfl, w_1_2, w_2_209, (Or.inl ⟨P_sg 1 rfl, w_2_210, (Or.inl w_4_218)⟩)⟩) (P_all_nil)))) <|
  P_all_cons (P_lnk_thr (by decide) (fun _ => ⟨"no such table", 90, 92, P_BB, rfl, rfl, by decide +kernel, by decide +kernel, w_4_219, w_1_19, by decide +kernel, P_at_10_92, by decide +kernel, by decide +kernel, (Or.inl ⟨by decide +kernel, by decide +kernel, by decide +kernel⟩)⟩)) <|
  P_all_cons (P_lnk_get (P_s1 (c := 10) (P := fun ci => P_fok P_cl P_Tb "OrchardQuery" 12 ci 0) rfl ⟨_, _, _, "OrchardQuery", rfl, by decide, (Or.inl rfl), (Or.inl w_2_71)⟩)) <|
  P_all_cons (P_lnk_vi (P_vall (l := P_v114) rfl (P_all_cons (show P_vok _ _ _ 8 116 from ⟨_, rfl, rfl, w_1_2, w_2_213, (Or.inl ⟨P_sg 1 rfl, w_2_214, (Or.inl w_3_101)⟩)⟩) (P_all_nil)))) <|
  P_all_cons (P_lnk_vi (P_vall (l := P_v57) rfl (P_all_cons (show P_vok _ _ _ 9 119 from ⟨_, rfl, rfl, w_1_3, w_3_48, (Or.inl ⟨P_sg 0 rfl, w_3_49, (Or.inl w_3_110)⟩)⟩) (P_all_nil)))) <|
  P_all_cons (P_lnk_st (by decide) (fun _ => ⟨P_sg 1 rfl, w_1_1, w_4_236, (Or.inl w_4_235)⟩)) <|
  P_all_cons (P_lnk_st (by decide) (fun _ => ⟨P_sg 1 rfl, w_1_1, w_4_236, (Or.inl w_4_235)⟩)) <|
  P_all_cons (P_lnk_st (by decide) (fun _ => ⟨P_sg 1 rfl, w_1_1, w_4_236, (Or.inl w_4_235)⟩)) <|
  P_all_cons (P_lnk_thr (by decide) (fun _ => ⟨"a value is -999 to 999", 105, 68, P_BB, rfl, rfl, by decide +kernel, by decide +kernel, w_4_122, w_1_17, by decide +kernel, P_at_10_68, by decide +kernel, by decide +kernel, (Or.inl ⟨by decide +kernel, by decide +kernel, by decide +kernel⟩)⟩)) <|
  P_all_cons (P_lnk_vi (P_vall (l := P_v122) rfl (P_all_cons (show P_vok _ _ _ 9 121 from ⟨_, rfl, rfl, w_1_3, w_5_0, (Or.inl ⟨P_sg 0 rfl, w_5_1, (Or.inl w_4_239)⟩)⟩) (P_all_nil)))) <|
  P_all_cons (P_lnk_thr (by decide) (fun _ => ⟨"there are 14 rows", 111, 79, P_BB, rfl, rfl, by decide +kernel, by decide +kernel, w_4_190, w_1_18, by decide +kernel, P_at_10_79, by decide +kernel, by decide +kernel, (Or.inl ⟨by decide +kernel, by decide +kernel, by decide +kernel⟩)⟩)) <|
  P_all_cons (P_lnk_vi (P_vall (l := P_v131) rfl (P_all_cons (show P_vok _ _ _ 9 123 from ⟨_, rfl, rfl, w_1_3, w_5_5, (Or.inl ⟨P_sg 3 rfl, w_5_6, (Or.inl w_5_4)⟩)⟩) (P_all_nil)))) <|
  P_all_cons (P_lnk_vi (P_vall (l := P_v132) rfl (P_all_cons (show P_vok _ _ _ 10 170 from ⟨_, rfl, rfl, w_1_1, w_2_111, (Or.inl ⟨P_sg 0 rfl, w_p_1, (Or.inl w_2_109)⟩)⟩) (P_all_nil)))) <|
  P_all_cons (P_lnk_vi (P_vall (l := P_v59) rfl (P_all_cons (show P_vok _ _ _ 9 120 from ⟨_, rfl, rfl, w_1_3, w_3_107, (Or.inl ⟨P_sg 0 rfl, w_3_108, (Or.inl w_3_106)⟩)⟩) (P_all_nil)))) <|
  P_all_nil
set_option maxRecDepth 20000 in
theorem P_m139 : P_mst 139 7 (Option.some Jvm.ClassFile.FieldType.int) P_e139 [] := P_meth (mx := 7) (rt := (Option.some Jvm.ClassFile.FieldType.int)) (hs := []) "OrchardQuery" false prog_1_method_3_code [] rfl rfl rfl rfl (by decide +kernel) (by decide +kernel) (fun _ => P_g139) (by decide) (fun _ _ => by decide +kernel) (fun q => by cases q) (P_all_cons (by decide +kernel) <| P_all_cons (by decide +kernel) <| P_all_cons (by decide +kernel) <| P_all_cons (by decide +kernel) <| P_all_nil) P_l139 (by decide +kernel) P_k139 (fun _ _ => P_hok_nil)
/-- OrchardQuery.drop(II)I -/
def P_l140 : List (Nat × P_I) := [(1, .getfield 12, 4, 10, 0, [], []), (5, .invokevirtual 84, 8, 1, 113, [], []), (17, .getfield 12, 20, 10, 0, [], []), (21, .invokevirtual 93, 24, 1, 114, [], []), (24, .invokevirtual 119, 27, 0, 59, [], []), (30, .new 88, 33, 0, 1002, [], []), (41, .getfield 12, 44, 10, 0, [], []), (45, .invokevirtual 93, 48, 1, 114, [], []), (51, .invokevirtual 124, 54, 1, 133, [], []), (55, .invokevirtual 116, 58, 0, 132, [], []), (59, .invokevirtual 119, 62, 0, 59, [], [])]
set_option maxRecDepth 20000 in
theorem P_k140 : ∀ q ∈ P_l140, P_lnk P_cl P_aty P_stat P_tx P_N0 P_Tb P_Y0 "OrchardQuery" false prog_1_method_4_code [] q.1 q.2.1 q.2.2.2.1 q.2.2.2.2.1 :=
  P_all_cons (P_lnk_get (P_s1 (c := 10) (P := fun ci => P_fok P_cl P_Tb "OrchardQuery" 12 ci 0) rfl ⟨_, _, _, "OrchardQuery", rfl, by decide, (Or.inl rfl), (Or.inl w_2_71)⟩)) <|
  P_all_cons (P_lnk_vi (P_vall (l := P_v113) rfl (P_all_cons (show P_vok _ _ _ 8 115 from ⟨_, rfl, rfl, w_1_2, w_2_209, (Or.inl ⟨P_sg 1 rfl, w_2_210, (Or.inl w_4_218)⟩)⟩) (P_all_nil)))) <|
  P_all_cons (P_lnk_get (P_s1 (c := 10) (P := fun ci => P_fok P_cl P_Tb "OrchardQuery" 12 ci 0) rfl ⟨_, _, _, "OrchardQuery", rfl, by decide, (Or.inl rfl), (Or.inl w_2_71)⟩)) <|
  P_all_cons (P_lnk_vi (P_vall (l := P_v114) rfl (P_all_cons (show P_vok _ _ _ 8 116 from ⟨_, rfl, rfl, w_1_2, w_2_213, (Or.inl ⟨P_sg 1 rfl, w_2_214, (Or.inl w_3_101)⟩)⟩) (P_all_nil)))) <|
  P_all_cons (P_lnk_vi (P_vall (l := P_v59) rfl (P_all_cons (show P_vok _ _ _ 9 120 from ⟨_, rfl, rfl, w_1_3, w_3_107, (Or.inl ⟨P_sg 0 rfl, w_3_108, (Or.inl w_3_106)⟩)⟩) (P_all_nil)))) <|
  P_all_cons (P_lnk_thr (by decide) (fun _ => ⟨"no such table or row", 122, 92, P_BB, rfl, rfl, by decide +kernel, by decide +kernel, w_4_219, w_1_19, by decide +kernel, P_at_10_92, by decide +kernel, by decide +kernel, (Or.inl ⟨by decide +kernel, by decide +kernel, by decide +kernel⟩)⟩)) <|
  P_all_cons (P_lnk_get (P_s1 (c := 10) (P := fun ci => P_fok P_cl P_Tb "OrchardQuery" 12 ci 0) rfl ⟨_, _, _, "OrchardQuery", rfl, by decide, (Or.inl rfl), (Or.inl w_2_71)⟩)) <|
  P_all_cons (P_lnk_vi (P_vall (l := P_v114) rfl (P_all_cons (show P_vok _ _ _ 8 116 from ⟨_, rfl, rfl, w_1_2, w_2_213, (Or.inl ⟨P_sg 1 rfl, w_2_214, (Or.inl w_3_101)⟩)⟩) (P_all_nil)))) <|
  P_all_cons (P_lnk_vi (P_vall (l := P_v133) rfl (P_all_cons (show P_vok _ _ _ 9 124 from ⟨_, rfl, rfl, w_1_3, w_5_24, (Or.inl ⟨P_sg 1 rfl, w_5_25, (Or.inl w_5_23)⟩)⟩) (P_all_nil)))) <|
  P_all_cons (P_lnk_vi (P_vall (l := P_v132) rfl (P_all_cons (show P_vok _ _ _ 10 170 from ⟨_, rfl, rfl, w_1_1, w_2_111, (Or.inl ⟨P_sg 0 rfl, w_p_1, (Or.inl w_2_109)⟩)⟩) (P_all_nil)))) <|
  P_all_cons (P_lnk_vi (P_vall (l := P_v59) rfl (P_all_cons (show P_vok _ _ _ 9 120 from ⟨_, rfl, rfl, w_1_3, w_3_107, (Or.inl ⟨P_sg 0 rfl, w_3_108, (Or.inl w_3_106)⟩)⟩) (P_all_nil)))) <|
  P_all_nil
set_option maxRecDepth 20000 in
theorem P_m140 : P_mst 140 4 (Option.some Jvm.ClassFile.FieldType.int) P_e140 [] := P_meth (mx := 4) (rt := (Option.some Jvm.ClassFile.FieldType.int)) (hs := []) "OrchardQuery" false prog_1_method_4_code [] rfl rfl rfl rfl (by decide +kernel) (by decide +kernel) (fun _ => P_g140) (by decide) (fun _ _ => by decide +kernel) (fun q => by cases q) (P_all_cons (by decide +kernel) <| P_all_cons (by decide +kernel) <| P_all_nil) P_l140 (by decide +kernel) P_k140 (fun _ _ => P_hok_nil)
/-- OrchardQuery.variety(II)I -/
def P_l141 : List (Nat × P_I) := [(1, .getfield 12, 4, 10, 0, [], []), (5, .invokevirtual 84, 8, 1, 113, [], []), (17, .getfield 12, 20, 10, 0, [], []), (21, .invokevirtual 93, 24, 1, 114, [], []), (24, .invokevirtual 97, 27, 0, 57, [], []), (30, .new 88, 33, 0, 1002, [], []), (41, .getfield 12, 44, 10, 0, [], []), (45, .invokevirtual 93, 48, 1, 114, [], []), (49, .invokevirtual 130, 52, 1, 58, [], [])]
set_option maxRecDepth 20000 in
theorem P_k141 : ∀ q ∈ P_l141, P_lnk P_cl P_aty P_stat P_tx P_N0 P_Tb P_Y0 "OrchardQuery" false prog_1_method_5_code [] q.1 q.2.1 q.2.2.2.1 q.2.2.2.2.1 :=
  P_all_cons (P_lnk_get (P_s1 (c := 10) (P := fun ci => P_fok P_cl P_Tb "OrchardQuery" 12 ci 0) rfl ⟨_, _, _, "OrchardQuery", rfl, by decide, (Or.inl rfl), (Or.inl w_2_71)⟩)) <|
  P_all_cons (P_lnk_vi (P_vall (l := P_v113) rfl (P_all_cons (show P_vok _ _ _ 8 115 from ⟨_, rfl, rfl, w_1_2, w_2_209, (Or.inl ⟨P_sg 1 rfl, w_2_210, (Or.inl w_4_218)⟩)⟩) (P_all_nil)))) <|
  P_all_cons (P_lnk_get (P_s1 (c := 10) (P := fun ci => P_fok P_cl P_Tb "OrchardQuery" 12 ci 0) rfl ⟨_, _, _, "OrchardQuery", rfl, by decide, (Or.inl rfl), (Or.inl w_2_71)⟩)) <|
  P_all_cons (P_lnk_vi (P_vall (l := P_v114) rfl (P_all_cons (show P_vok _ _ _ 8 116 from ⟨_, rfl, rfl, w_1_2, w_2_213, (Or.inl ⟨P_sg 1 rfl, w_2_214, (Or.inl w_3_101)⟩)⟩) (P_all_nil)))) <|
  P_all_cons (P_lnk_vi (P_vall (l := P_v57) rfl (P_all_cons (show P_vok _ _ _ 9 119 from ⟨_, rfl, rfl, w_1_3, w_3_48, (Or.inl ⟨P_sg 0 rfl, w_3_49, (Or.inl w_3_110)⟩)⟩) (P_all_nil)))) <|
  P_all_cons (P_lnk_thr (by decide) (fun _ => ⟨"no such table or column", 128, 92, P_BB, rfl, rfl, by decide +kernel, by decide +kernel, w_4_219, w_1_19, by decide +kernel, P_at_10_92, by decide +kernel, by decide +kernel, (Or.inl ⟨by decide +kernel, by decide +kernel, by decide +kernel⟩)⟩)) <|
  P_all_cons (P_lnk_get (P_s1 (c := 10) (P := fun ci => P_fok P_cl P_Tb "OrchardQuery" 12 ci 0) rfl ⟨_, _, _, "OrchardQuery", rfl, by decide, (Or.inl rfl), (Or.inl w_2_71)⟩)) <|
  P_all_cons (P_lnk_vi (P_vall (l := P_v114) rfl (P_all_cons (show P_vok _ _ _ 8 116 from ⟨_, rfl, rfl, w_1_2, w_2_213, (Or.inl ⟨P_sg 1 rfl, w_2_214, (Or.inl w_3_101)⟩)⟩) (P_all_nil)))) <|
  P_all_cons (P_lnk_vi (P_vall (l := P_v58) rfl (P_all_cons (show P_vok _ _ _ 9 125 from ⟨_, rfl, rfl, w_1_3, w_3_116, (Or.inl ⟨P_sg 1 rfl, w_3_117, (Or.inl w_3_115)⟩)⟩) (P_all_nil)))) <|
  P_all_nil
set_option maxRecDepth 20000 in
theorem P_m141 : P_mst 141 3 (Option.some Jvm.ClassFile.FieldType.int) P_e141 [] := P_meth (mx := 3) (rt := (Option.some Jvm.ClassFile.FieldType.int)) (hs := []) "OrchardQuery" false prog_1_method_5_code [] rfl rfl rfl rfl (by decide +kernel) (by decide +kernel) (fun _ => P_g141) (by decide) (fun _ _ => by decide +kernel) (fun q => by cases q) (P_all_cons (by decide +kernel) <| P_all_cons (by decide +kernel) <| P_all_nil) P_l141 (by decide +kernel) P_k141 (fun _ _ => P_hok_nil)
/-- OrchardQuery.token(I)I -/
def P_l142 : List (Nat × P_I) := [(1, .invokestatic 133, 4, 1, 173, [], []), (7, .new 64, 10, 0, 1000, [], []), (18, .getfield 37, 21, 10, 1, [], []), (21, .invokevirtual 138, 24, 0, 134, [], []), (29, .new 75, 32, 0, 1001, [], []), (40, .getfield 37, 43, 10, 1, [], []), (44, .invokevirtual 143, 47, 1, 135, [], []), (48, .invokevirtual 116, 51, 0, 132, [], []), (52, .getfield 37, 55, 10, 1, [], []), (55, .invokevirtual 138, 58, 0, 134, [], [])]
set_option maxRecDepth 20000 in
theorem P_k142 : ∀ q ∈ P_l142, P_lnk P_cl P_aty P_stat P_tx P_N0 P_Tb P_Y0 "OrchardQuery" false prog_1_method_6_code [] q.1 q.2.1 q.2.2.2.1 q.2.2.2.2.1 :=
  P_all_cons (P_lnk_st (by decide) (fun _ => ⟨P_sg 1 rfl, w_1_1, w_5_43, (Or.inl w_5_42)⟩)) <|
  P_all_cons (P_lnk_thr (by decide) (fun _ => ⟨"no such token", 136, 68, P_BB, rfl, rfl, by decide +kernel, by decide +kernel, w_4_122, w_1_17, by decide +kernel, P_at_10_68, by decide +kernel, by decide +kernel, (Or.inl ⟨by decide +kernel, by decide +kernel, by decide +kernel⟩)⟩)) <|
  P_all_cons (P_lnk_get (P_s1 (c := 10) (P := fun ci => P_fok P_cl P_Tb "OrchardQuery" 37 ci 1) rfl ⟨_, _, _, "OrchardQuery", rfl, by decide, (Or.inl rfl), (Or.inl w_2_72)⟩)) <|
  P_all_cons (P_lnk_vi (P_vall (l := P_v134) rfl (P_all_cons (show P_vok _ _ _ 7 91 from ⟨_, rfl, rfl, w_1_7, w_2_98, (Or.inl ⟨P_sg 0 rfl, w_2_99, (Or.inl w_2_97)⟩)⟩) (P_all_nil)))) <|
  P_all_cons (P_lnk_thr (by decide) (fun _ => ⟨"there are 40 tokens", 141, 79, P_BB, rfl, rfl, by decide +kernel, by decide +kernel, w_4_190, w_1_18, by decide +kernel, P_at_10_79, by decide +kernel, by decide +kernel, (Or.inl ⟨by decide +kernel, by decide +kernel, by decide +kernel⟩)⟩)) <|
  P_all_cons (P_lnk_get (P_s1 (c := 10) (P := fun ci => P_fok P_cl P_Tb "OrchardQuery" 37 ci 1) rfl ⟨_, _, _, "OrchardQuery", rfl, by decide, (Or.inl rfl), (Or.inl w_2_72)⟩)) <|
  P_all_cons (P_lnk_vi (P_vall (l := P_v135) rfl (P_all_cons (show P_vok _ _ _ 7 94 from ⟨_, rfl, rfl, w_1_7, w_5_51, (Or.inl ⟨P_sg 1 rfl, w_5_52, (Or.inl w_5_50)⟩)⟩) (P_all_nil)))) <|
  P_all_cons (P_lnk_vi (P_vall (l := P_v132) rfl (P_all_cons (show P_vok _ _ _ 10 170 from ⟨_, rfl, rfl, w_1_1, w_2_111, (Or.inl ⟨P_sg 0 rfl, w_p_1, (Or.inl w_2_109)⟩)⟩) (P_all_nil)))) <|
  P_all_cons (P_lnk_get (P_s1 (c := 10) (P := fun ci => P_fok P_cl P_Tb "OrchardQuery" 37 ci 1) rfl ⟨_, _, _, "OrchardQuery", rfl, by decide, (Or.inl rfl), (Or.inl w_2_72)⟩)) <|
  P_all_cons (P_lnk_vi (P_vall (l := P_v134) rfl (P_all_cons (show P_vok _ _ _ 7 91 from ⟨_, rfl, rfl, w_1_7, w_2_98, (Or.inl ⟨P_sg 0 rfl, w_2_99, (Or.inl w_2_97)⟩)⟩) (P_all_nil)))) <|
  P_all_nil
set_option maxRecDepth 20000 in
theorem P_m142 : P_mst 142 2 (Option.some Jvm.ClassFile.FieldType.int) P_e142 [] := P_meth (mx := 2) (rt := (Option.some Jvm.ClassFile.FieldType.int)) (hs := []) "OrchardQuery" false prog_1_method_6_code [] rfl rfl rfl rfl (by decide +kernel) (by decide +kernel) (fun _ => P_g142) (by decide) (fun _ _ => by decide +kernel) (fun q => by cases q) (P_all_cons (by decide +kernel) <| P_all_cons (by decide +kernel) <| P_all_nil) P_l142 (by decide +kernel) P_k142 (fun _ _ => P_hok_nil)
/-- OrchardQuery.clear()I -/
def P_l143 : List (Nat × P_I) := [(1, .getfield 37, 4, 10, 1, [], []), (4, .invokevirtual 138, 7, 0, 134, [], []), (9, .getfield 37, 12, 10, 1, [], []), (12, .invokevirtual 145, 15, 0, 136, [], []), (16, .invokevirtual 116, 19, 0, 132, [], [])]
set_option maxRecDepth 20000 in
theorem P_k143 : ∀ q ∈ P_l143, P_lnk P_cl P_aty P_stat P_tx P_N0 P_Tb P_Y0 "OrchardQuery" false prog_1_method_7_code [] q.1 q.2.1 q.2.2.2.1 q.2.2.2.2.1 :=
  P_all_cons (P_lnk_get (P_s1 (c := 10) (P := fun ci => P_fok P_cl P_Tb "OrchardQuery" 37 ci 1) rfl ⟨_, _, _, "OrchardQuery", rfl, by decide, (Or.inl rfl), (Or.inl w_2_72)⟩)) <|
  P_all_cons (P_lnk_vi (P_vall (l := P_v134) rfl (P_all_cons (show P_vok _ _ _ 7 91 from ⟨_, rfl, rfl, w_1_7, w_2_98, (Or.inl ⟨P_sg 0 rfl, w_2_99, (Or.inl w_2_97)⟩)⟩) (P_all_nil)))) <|
  P_all_cons (P_lnk_get (P_s1 (c := 10) (P := fun ci => P_fok P_cl P_Tb "OrchardQuery" 37 ci 1) rfl ⟨_, _, _, "OrchardQuery", rfl, by decide, (Or.inl rfl), (Or.inl w_2_72)⟩)) <|
  P_all_cons (P_lnk_vi (P_vall (l := P_v136) rfl (P_all_cons (show P_vok _ _ _ 7 95 from ⟨_, rfl, rfl, w_1_7, w_2_102, (Or.inl ⟨P_sg 0 rfl, w_2_103, (Or.inl w_2_101)⟩)⟩) (P_all_nil)))) <|
  P_all_cons (P_lnk_vi (P_vall (l := P_v132) rfl (P_all_cons (show P_vok _ _ _ 10 170 from ⟨_, rfl, rfl, w_1_1, w_2_111, (Or.inl ⟨P_sg 0 rfl, w_p_1, (Or.inl w_2_109)⟩)⟩) (P_all_nil)))) <|
  P_all_nil
set_option maxRecDepth 20000 in
theorem P_m143 : P_mst 143 2 (Option.some Jvm.ClassFile.FieldType.int) P_e143 [] := P_meth (mx := 2) (rt := (Option.some Jvm.ClassFile.FieldType.int)) (hs := []) "OrchardQuery" false prog_1_method_7_code [] rfl rfl rfl rfl (by decide +kernel) (by decide +kernel) (fun _ => P_g143) (by decide) (fun _ _ => by decide +kernel) (fun q => by cases q) (P_all_cons (by decide +kernel) <| P_all_nil) P_l143 (by decide +kernel) P_k143 (fun _ _ => P_hok_nil)
