/-! TABLES of this claim, written by wip/gen.py: methods -/
/-- OrchardQuery$Query.readsItem()Z -/
def P_l101 : List (Nat × P_I) := [(1, .invokevirtual 72, 4, 0, 94, [], []), (7, .invokevirtual 101, 10, 1, 103, [], []), (16, .getfield 45, 19, 7, 8, [], []), (19, .invokevirtual 76, 22, 2, 95, [], []), (25, .getfield 45, 28, 7, 8, [], []), (30, .putfield 45, 33, 7, 8, [], []), (40, .getfield 15, 43, 7, 1, [], []), (46, .invokevirtual 105, 49, 2, 104, [], []), (59, .getfield 15, 62, 7, 1, [], []), (64, .invokevirtual 105, 67, 2, 104, [], []), (71, .invokevirtual 72, 74, 0, 94, [], []), (74, .invokestatic 109, 77, 1, 174, [], []), (81, .getfield 15, 84, 7, 1, [], []), (87, .invokevirtual 72, 90, 0, 94, [], []), (90, .invokevirtual 105, 93, 2, 104, [], []), (95, .getfield 45, 98, 7, 8, [], []), (100, .putfield 45, 103, 7, 8, [], []), (109, .getfield 45, 112, 7, 8, [], []), (112, .invokevirtual 76, 115, 2, 95, [], [])]
set_option maxRecDepth 20000 in
theorem P_k101 : ∀ q ∈ P_l101, P_lnk P_cl P_aty P_stat P_tx P_N0 P_Tb P_Y0 "OrchardQuery$Query" false prog_9_method_12_code [] q.1 q.2.1 q.2.2.2.1 q.2.2.2.2.1 :=
  P_all_cons (P_lnk_vi (P_vall (l := P_v94) rfl (P_all_cons (show P_vok _ _ _ 7 110 from ⟨_, rfl, rfl, w_1_8, w_5_185, (Or.inl ⟨P_sg 0 rfl, w_p_23, (Or.inl w_5_183)⟩)⟩) (P_all_nil)))) <|
  P_all_cons (P_lnk_vi (P_vall (l := P_v103) rfl (P_all_cons (show P_vok _ _ _ 7 111 from ⟨_, rfl, rfl, w_1_8, w_5_202, (Or.inl ⟨P_sg 1 rfl, w_p_27, (Or.inl w_5_200)⟩)⟩) (P_all_nil)))) <|
  P_all_cons (P_lnk_get (P_s1 (c := 7) (P := fun ci => P_fok P_cl P_Tb "OrchardQuery$Query" 45 ci 8) rfl ⟨_, _, _, "OrchardQuery$Query", rfl, by decide, (Or.inl rfl), (Or.inl w_4_31)⟩)) <|
  P_all_cons (P_lnk_vi (P_vall (l := P_v95) rfl (P_all_cons (show P_vok _ _ _ 7 112 from ⟨_, rfl, rfl, w_1_8, w_5_190, (Or.inl ⟨P_sg 2 rfl, w_p_24, (Or.inl w_5_188)⟩)⟩) (P_all_nil)))) <|
  P_all_cons (P_lnk_get (P_s1 (c := 7) (P := fun ci => P_fok P_cl P_Tb "OrchardQuery$Query" 45 ci 8) rfl ⟨_, _, _, "OrchardQuery$Query", rfl, by decide, (Or.inl rfl), (Or.inl w_4_31)⟩)) <|
  P_all_cons (P_lnk_put (P_s1 (c := 7) (P := fun ci => P_pok P_cl P_Tb "OrchardQuery$Query" false 45 ci 8) rfl ⟨_, _, _, "OrchardQuery$Query", rfl, by decide, (Or.inl rfl), (Or.inl ⟨w_4_31, (Or.inl rfl)⟩)⟩)) <|
  P_all_cons (P_lnk_get (P_s1 (c := 7) (P := fun ci => P_fok P_cl P_Tb "OrchardQuery$Query" 15 ci 1) rfl ⟨_, _, _, "OrchardQuery$Query", rfl, by decide, (Or.inl rfl), (Or.inl w_4_24)⟩)) <|
  P_all_cons (P_lnk_vi (P_vall (l := P_v104) rfl (P_all_cons (show P_vok _ _ _ 3 24 from ⟨_, rfl, rfl, w_1_5, w_5_206, (Or.inl ⟨P_sg 2 rfl, w_5_207, (Or.inl w_5_205)⟩)⟩) (P_all_nil)))) <|
  P_all_cons (P_lnk_get (P_s1 (c := 7) (P := fun ci => P_fok P_cl P_Tb "OrchardQuery$Query" 15 ci 1) rfl ⟨_, _, _, "OrchardQuery$Query", rfl, by decide, (Or.inl rfl), (Or.inl w_4_24)⟩)) <|
  P_all_cons (P_lnk_vi (P_vall (l := P_v104) rfl (P_all_cons (show P_vok _ _ _ 3 24 from ⟨_, rfl, rfl, w_1_5, w_5_206, (Or.inl ⟨P_sg 2 rfl, w_5_207, (Or.inl w_5_205)⟩)⟩) (P_all_nil)))) <|
  P_all_cons (P_lnk_vi (P_vall (l := P_v94) rfl (P_all_cons (show P_vok _ _ _ 7 110 from ⟨_, rfl, rfl, w_1_8, w_5_185, (Or.inl ⟨P_sg 0 rfl, w_p_23, (Or.inl w_5_183)⟩)⟩) (P_all_nil)))) <|
  P_all_cons (P_lnk_st (by decide) (fun _ => ⟨P_sg 1 rfl, w_1_2, w_1_199, (Or.inr ⟨rfl, _, w_5_204⟩)⟩)) <|
  P_all_cons (P_lnk_get (P_s1 (c := 7) (P := fun ci => P_fok P_cl P_Tb "OrchardQuery$Query" 15 ci 1) rfl ⟨_, _, _, "OrchardQuery$Query", rfl, by decide, (Or.inl rfl), (Or.inl w_4_24)⟩)) <|
  P_all_cons (P_lnk_vi (P_vall (l := P_v94) rfl (P_all_cons (show P_vok _ _ _ 7 110 from ⟨_, rfl, rfl, w_1_8, w_5_185, (Or.inl ⟨P_sg 0 rfl, w_p_23, (Or.inl w_5_183)⟩)⟩) (P_all_nil)))) <|
  P_all_cons (P_lnk_vi (P_vall (l := P_v104) rfl (P_all_cons (show P_vok _ _ _ 3 24 from ⟨_, rfl, rfl, w_1_5, w_5_206, (Or.inl ⟨P_sg 2 rfl, w_5_207, (Or.inl w_5_205)⟩)⟩) (P_all_nil)))) <|
  P_all_cons (P_lnk_get (P_s1 (c := 7) (P := fun ci => P_fok P_cl P_Tb "OrchardQuery$Query" 45 ci 8) rfl ⟨_, _, _, "OrchardQuery$Query", rfl, by decide, (Or.inl rfl), (Or.inl w_4_31)⟩)) <|
  P_all_cons (P_lnk_put (P_s1 (c := 7) (P := fun ci => P_pok P_cl P_Tb "OrchardQuery$Query" false 45 ci 8) rfl ⟨_, _, _, "OrchardQuery$Query", rfl, by decide, (Or.inl rfl), (Or.inl ⟨w_4_31, (Or.inl rfl)⟩)⟩)) <|
  P_all_cons (P_lnk_get (P_s1 (c := 7) (P := fun ci => P_fok P_cl P_Tb "OrchardQuery$Query" 45 ci 8) rfl ⟨_, _, _, "OrchardQuery$Query", rfl, by decide, (Or.inl rfl), (Or.inl w_4_31)⟩)) <|
  P_all_cons (P_lnk_vi (P_vall (l := P_v95) rfl (P_all_cons (show P_vok _ _ _ 7 112 from ⟨_, rfl, rfl, w_1_8, w_5_190, (Or.inl ⟨P_sg 2 rfl, w_p_24, (Or.inl w_5_188)⟩)⟩) (P_all_nil)))) <|
  P_all_nil
set_option maxRecDepth 20000 in
theorem P_m101 : P_mstC 101 2 (Option.some Jvm.ClassFile.FieldType.boolean) P_e101 [] := P_meth (mx := 2) (rt := (Option.some Jvm.ClassFile.FieldType.boolean)) (hs := []) "OrchardQuery$Query" false prog_9_method_12_code [] rfl rfl rfl rfl (by decide +kernel) (by decide +kernel) (fun _ => P_g101) (by decide) (fun _ _ => by decide +kernel) (fun q => by cases q) (P_all_cons (by decide +kernel) <| P_all_cons (by decide +kernel) <| P_all_cons (by decide +kernel) <| P_all_cons (by decide +kernel) <| P_all_nil) P_l101 (by decide +kernel) P_k101 (fun _ _ => P_hok_nil)
/-- OrchardQuery$Query.readsTables()Z -/
def P_l102 : List (Nat × P_I) := [(8, .invokevirtual 72, 11, 0, 94, [], []), (20, .invokevirtual 72, 23, 0, 94, [], []), (23, .invokestatic 112, 26, 1, 173, [], []), (32, .invokevirtual 72, 35, 0, 94, [], []), (35, .invokestatic 112, 38, 1, 173, [], []), (42, .getfield 9, 45, 7, 0, [], []), (46, .invokevirtual 115, 49, 1, 105, [], []), (55, .getfield 45, 58, 7, 8, [], []), (58, .invokevirtual 76, 61, 2, 95, [], []), (63, .getfield 15, 66, 7, 1, [], []), (67, .getfield 9, 70, 7, 0, [], []), (71, .invokevirtual 120, 74, 1, 106, [], []), (74, .invokevirtual 124, 77, 1, 107, [], []), (79, .getfield 45, 82, 7, 8, [], []), (84, .putfield 45, 87, 7, 8, [], [])]
set_option maxRecDepth 20000 in
theorem P_k102 : ∀ q ∈ P_l102, P_lnk P_cl P_aty P_stat P_tx P_N0 P_Tb P_Y0 "OrchardQuery$Query" false prog_9_method_13_code [] q.1 q.2.1 q.2.2.2.1 q.2.2.2.2.1 :=
  P_all_cons (P_lnk_vi (P_vall (l := P_v94) rfl (P_all_cons (show P_vok _ _ _ 7 110 from ⟨_, rfl, rfl, w_1_8, w_5_185, (Or.inl ⟨P_sg 0 rfl, w_p_23, (Or.inl w_5_183)⟩)⟩) (P_all_nil)))) <|
  P_all_cons (P_lnk_vi (P_vall (l := P_v94) rfl (P_all_cons (show P_vok _ _ _ 7 110 from ⟨_, rfl, rfl, w_1_8, w_5_185, (Or.inl ⟨P_sg 0 rfl, w_p_23, (Or.inl w_5_183)⟩)⟩) (P_all_nil)))) <|
  P_all_cons (P_lnk_st (by decide) (fun _ => ⟨P_sg 1 rfl, w_1_2, w_5_137, (Or.inr ⟨rfl, _, w_5_214⟩)⟩)) <|
  P_all_cons (P_lnk_vi (P_vall (l := P_v94) rfl (P_all_cons (show P_vok _ _ _ 7 110 from ⟨_, rfl, rfl, w_1_8, w_5_185, (Or.inl ⟨P_sg 0 rfl, w_p_23, (Or.inl w_5_183)⟩)⟩) (P_all_nil)))) <|
  P_all_cons (P_lnk_st (by decide) (fun _ => ⟨P_sg 1 rfl, w_1_2, w_5_137, (Or.inr ⟨rfl, _, w_5_214⟩)⟩)) <|
  P_all_cons (P_lnk_get (P_s1 (c := 7) (P := fun ci => P_fok P_cl P_Tb "OrchardQuery$Query" 9 ci 0) rfl ⟨_, _, _, "OrchardQuery$Query", rfl, by decide, (Or.inl rfl), (Or.inl w_4_23)⟩)) <|
  P_all_cons (P_lnk_vi (P_vall (l := P_v105) rfl (P_all_cons (show P_vok _ _ _ 8 115 from ⟨_, rfl, rfl, w_1_3, w_5_39, (Or.inl ⟨P_sg 1 rfl, w_5_40, (Or.inl w_5_215)⟩)⟩) (P_all_nil)))) <|
  P_all_cons (P_lnk_get (P_s1 (c := 7) (P := fun ci => P_fok P_cl P_Tb "OrchardQuery$Query" 45 ci 8) rfl ⟨_, _, _, "OrchardQuery$Query", rfl, by decide, (Or.inl rfl), (Or.inl w_4_31)⟩)) <|
  P_all_cons (P_lnk_vi (P_vall (l := P_v95) rfl (P_all_cons (show P_vok _ _ _ 7 112 from ⟨_, rfl, rfl, w_1_8, w_5_190, (Or.inl ⟨P_sg 2 rfl, w_p_24, (Or.inl w_5_188)⟩)⟩) (P_all_nil)))) <|
  P_all_cons (P_lnk_get (P_s1 (c := 7) (P := fun ci => P_fok P_cl P_Tb "OrchardQuery$Query" 15 ci 1) rfl ⟨_, _, _, "OrchardQuery$Query", rfl, by decide, (Or.inl rfl), (Or.inl w_4_24)⟩)) <|
  P_all_cons (P_lnk_get (P_s1 (c := 7) (P := fun ci => P_fok P_cl P_Tb "OrchardQuery$Query" 9 ci 0) rfl ⟨_, _, _, "OrchardQuery$Query", rfl, by decide, (Or.inl rfl), (Or.inl w_4_23)⟩)) <|
  P_all_cons (P_lnk_vi (P_vall (l := P_v106) rfl (P_all_cons (show P_vok _ _ _ 8 116 from ⟨_, rfl, rfl, w_1_3, w_3_99, (Or.inl ⟨P_sg 1 rfl, w_3_100, (Or.inl w_5_216)⟩)⟩) (P_all_nil)))) <|
  P_all_cons (P_lnk_vi (P_vall (l := P_v107) rfl (P_all_cons (show P_vok _ _ _ 3 25 from ⟨_, rfl, rfl, w_1_5, w_5_218, (Or.inl ⟨P_sg 1 rfl, w_5_219, (Or.inl w_5_217)⟩)⟩) (P_all_nil)))) <|
  P_all_cons (P_lnk_get (P_s1 (c := 7) (P := fun ci => P_fok P_cl P_Tb "OrchardQuery$Query" 45 ci 8) rfl ⟨_, _, _, "OrchardQuery$Query", rfl, by decide, (Or.inl rfl), (Or.inl w_4_31)⟩)) <|
  P_all_cons (P_lnk_put (P_s1 (c := 7) (P := fun ci => P_pok P_cl P_Tb "OrchardQuery$Query" false 45 ci 8) rfl ⟨_, _, _, "OrchardQuery$Query", rfl, by decide, (Or.inl rfl), (Or.inl ⟨w_4_31, (Or.inl rfl)⟩)⟩)) <|
  P_all_nil
set_option maxRecDepth 20000 in
theorem P_m102 : P_mstC 102 3 (Option.some Jvm.ClassFile.FieldType.boolean) P_e102 [] := P_meth (mx := 3) (rt := (Option.some Jvm.ClassFile.FieldType.boolean)) (hs := []) "OrchardQuery$Query" false prog_9_method_13_code [] rfl rfl rfl rfl (by decide +kernel) (by decide +kernel) (fun _ => P_g102) (by decide) (fun _ _ => by decide +kernel) (fun q => by cases q) (P_all_cons (by decide +kernel) <| P_all_cons (by decide +kernel) <| P_all_cons (by decide +kernel) <| P_all_nil) P_l102 (by decide +kernel) P_k102 (fun _ _ => P_hok_nil)
/-- OrchardQuery$Query.readsConditions()Z -/
def P_l103 : List (Nat × P_I) := [(11, .invokevirtual 72, 14, 0, 94, [], []), (20, .getfield 45, 23, 7, 8, [], []), (25, .putfield 45, 28, 7, 8, [], []), (29, .invokevirtual 128, 32, 0, 108, [], [])]
set_option maxRecDepth 20000 in
theorem P_k103 : ∀ q ∈ P_l103, P_lnk P_cl P_aty P_stat P_tx P_N0 P_Tb P_Y0 "OrchardQuery$Query" false prog_9_method_14_code [] q.1 q.2.1 q.2.2.2.1 q.2.2.2.2.1 :=
  P_all_cons (P_lnk_vi (P_vall (l := P_v94) rfl (P_all_cons (show P_vok _ _ _ 7 110 from ⟨_, rfl, rfl, w_1_8, w_5_185, (Or.inl ⟨P_sg 0 rfl, w_p_23, (Or.inl w_5_183)⟩)⟩) (P_all_nil)))) <|
  P_all_cons (P_lnk_get (P_s1 (c := 7) (P := fun ci => P_fok P_cl P_Tb "OrchardQuery$Query" 45 ci 8) rfl ⟨_, _, _, "OrchardQuery$Query", rfl, by decide, (Or.inl rfl), (Or.inl w_4_31)⟩)) <|
  P_all_cons (P_lnk_put (P_s1 (c := 7) (P := fun ci => P_pok P_cl P_Tb "OrchardQuery$Query" false 45 ci 8) rfl ⟨_, _, _, "OrchardQuery$Query", rfl, by decide, (Or.inl rfl), (Or.inl ⟨w_4_31, (Or.inl rfl)⟩)⟩)) <|
  P_all_cons (P_lnk_vi (P_vall (l := P_v108) rfl (P_all_cons (show P_vok _ _ _ 7 104 from ⟨_, rfl, rfl, w_1_8, w_5_231, (Or.inl ⟨P_sg 0 rfl, w_p_31, (Or.inl w_5_229)⟩)⟩) (P_all_nil)))) <|
  P_all_nil
set_option maxRecDepth 20000 in
theorem P_m103 : P_mstC 103 3 (Option.some Jvm.ClassFile.FieldType.boolean) P_e103 [] := P_meth (mx := 3) (rt := (Option.some Jvm.ClassFile.FieldType.boolean)) (hs := []) "OrchardQuery$Query" false prog_9_method_14_code [] rfl rfl rfl rfl (by decide +kernel) (by decide +kernel) (fun _ => P_g103) (by decide) (fun _ _ => by decide +kernel) (fun q => by cases q) (P_all_cons (by decide +kernel) <| P_all_cons (by decide +kernel) <| P_all_nil) P_l103 (by decide +kernel) P_k103 (fun _ _ => P_hok_nil)
/-- OrchardQuery$Query.readsCondition()Z -/
def P_l104 : List (Nat × P_I) := [(1, .invokevirtual 72, 4, 0, 94, [], []), (6, .invokestatic 109, 9, 1, 174, [], []), (15, .getfield 45, 18, 7, 8, [], []), (18, .invokevirtual 76, 21, 2, 95, [], []), (24, .getfield 45, 27, 7, 8, [], []), (29, .putfield 45, 32, 7, 8, [], []), (33, .invokevirtual 72, 36, 0, 94, [], []), (59, .getfield 45, 62, 7, 8, [], []), (62, .invokevirtual 76, 65, 2, 95, [], []), (68, .getfield 45, 71, 7, 8, [], []), (73, .putfield 45, 76, 7, 8, [], []), (77, .invokevirtual 72, 80, 0, 94, [], []), (82, .invokestatic 109, 85, 1, 174, [], []), (89, .invokestatic 131, 92, 1, 175, [], []), (99, .getfield 45, 102, 7, 8, [], []), (102, .invokevirtual 76, 105, 2, 95, [], []), (108, .getfield 45, 111, 7, 8, [], []), (113, .putfield 45, 116, 7, 8, [], []), (117, .getfield 19, 120, 7, 2, [], []), (123, .invokevirtual 134, 126, 3, 79, [], [])]
set_option maxRecDepth 20000 in
theorem P_k104 : ∀ q ∈ P_l104, P_lnk P_cl P_aty P_stat P_tx P_N0 P_Tb P_Y0 "OrchardQuery$Query" false prog_9_method_15_code [] q.1 q.2.1 q.2.2.2.1 q.2.2.2.2.1 :=
  P_all_cons (P_lnk_vi (P_vall (l := P_v94) rfl (P_all_cons (show P_vok _ _ _ 7 110 from ⟨_, rfl, rfl, w_1_8, w_5_185, (Or.inl ⟨P_sg 0 rfl, w_p_23, (Or.inl w_5_183)⟩)⟩) (P_all_nil)))) <|
  P_all_cons (P_lnk_st (by decide) (fun _ => ⟨P_sg 1 rfl, w_1_2, w_1_199, (Or.inr ⟨rfl, _, w_5_204⟩)⟩)) <|
  P_all_cons (P_lnk_get (P_s1 (c := 7) (P := fun ci => P_fok P_cl P_Tb "OrchardQuery$Query" 45 ci 8) rfl ⟨_, _, _, "OrchardQuery$Query", rfl, by decide, (Or.inl rfl), (Or.inl w_4_31)⟩)) <|
  P_all_cons (P_lnk_vi (P_vall (l := P_v95) rfl (P_all_cons (show P_vok _ _ _ 7 112 from ⟨_, rfl, rfl, w_1_8, w_5_190, (Or.inl ⟨P_sg 2 rfl, w_p_24, (Or.inl w_5_188)⟩)⟩) (P_all_nil)))) <|
  P_all_cons (P_lnk_get (P_s1 (c := 7) (P := fun ci => P_fok P_cl P_Tb "OrchardQuery$Query" 45 ci 8) rfl ⟨_, _, _, "OrchardQuery$Query", rfl, by decide, (Or.inl rfl), (Or.inl w_4_31)⟩)) <|
  P_all_cons (P_lnk_put (P_s1 (c := 7) (P := fun ci => P_pok P_cl P_Tb "OrchardQuery$Query" false 45 ci 8) rfl ⟨_, _, _, "OrchardQuery$Query", rfl, by decide, (Or.inl rfl), (Or.inl ⟨w_4_31, (Or.inl rfl)⟩)⟩)) <|
  P_all_cons (P_lnk_vi (P_vall (l := P_v94) rfl (P_all_cons (show P_vok _ _ _ 7 110 from ⟨_, rfl, rfl, w_1_8, w_5_185, (Or.inl ⟨P_sg 0 rfl, w_p_23, (Or.inl w_5_183)⟩)⟩) (P_all_nil)))) <|
  P_all_cons (P_lnk_get (P_s1 (c := 7) (P := fun ci => P_fok P_cl P_Tb "OrchardQuery$Query" 45 ci 8) rfl ⟨_, _, _, "OrchardQuery$Query", rfl, by decide, (Or.inl rfl), (Or.inl w_4_31)⟩)) <|
  P_all_cons (P_lnk_vi (P_vall (l := P_v95) rfl (P_all_cons (show P_vok _ _ _ 7 112 from ⟨_, rfl, rfl, w_1_8, w_5_190, (Or.inl ⟨P_sg 2 rfl, w_p_24, (Or.inl w_5_188)⟩)⟩) (P_all_nil)))) <|
  P_all_cons (P_lnk_get (P_s1 (c := 7) (P := fun ci => P_fok P_cl P_Tb "OrchardQuery$Query" 45 ci 8) rfl ⟨_, _, _, "OrchardQuery$Query", rfl, by decide, (Or.inl rfl), (Or.inl w_4_31)⟩)) <|
  P_all_cons (P_lnk_put (P_s1 (c := 7) (P := fun ci => P_pok P_cl P_Tb "OrchardQuery$Query" false 45 ci 8) rfl ⟨_, _, _, "OrchardQuery$Query", rfl, by decide, (Or.inl rfl), (Or.inl ⟨w_4_31, (Or.inl rfl)⟩)⟩)) <|
  P_all_cons (P_lnk_vi (P_vall (l := P_v94) rfl (P_all_cons (show P_vok _ _ _ 7 110 from ⟨_, rfl, rfl, w_1_8, w_5_185, (Or.inl ⟨P_sg 0 rfl, w_p_23, (Or.inl w_5_183)⟩)⟩) (P_all_nil)))) <|
  P_all_cons (P_lnk_st (by decide) (fun _ => ⟨P_sg 1 rfl, w_1_2, w_1_199, (Or.inr ⟨rfl, _, w_5_204⟩)⟩)) <|
  P_all_cons (P_lnk_st (by decide) (fun _ => ⟨P_sg 1 rfl, w_1_2, w_2_128, (Or.inr ⟨rfl, _, w_5_233⟩)⟩)) <|
  P_all_cons (P_lnk_get (P_s1 (c := 7) (P := fun ci => P_fok P_cl P_Tb "OrchardQuery$Query" 45 ci 8) rfl ⟨_, _, _, "OrchardQuery$Query", rfl, by decide, (Or.inl rfl), (Or.inl w_4_31)⟩)) <|
  P_all_cons (P_lnk_vi (P_vall (l := P_v95) rfl (P_all_cons (show P_vok _ _ _ 7 112 from ⟨_, rfl, rfl, w_1_8, w_5_190, (Or.inl ⟨P_sg 2 rfl, w_p_24, (Or.inl w_5_188)⟩)⟩) (P_all_nil)))) <|
  P_all_cons (P_lnk_get (P_s1 (c := 7) (P := fun ci => P_fok P_cl P_Tb "OrchardQuery$Query" 45 ci 8) rfl ⟨_, _, _, "OrchardQuery$Query", rfl, by decide, (Or.inl rfl), (Or.inl w_4_31)⟩)) <|
  P_all_cons (P_lnk_put (P_s1 (c := 7) (P := fun ci => P_pok P_cl P_Tb "OrchardQuery$Query" false 45 ci 8) rfl ⟨_, _, _, "OrchardQuery$Query", rfl, by decide, (Or.inl rfl), (Or.inl ⟨w_4_31, (Or.inl rfl)⟩)⟩)) <|
  P_all_cons (P_lnk_get (P_s1 (c := 7) (P := fun ci => P_fok P_cl P_Tb "OrchardQuery$Query" 19 ci 2) rfl ⟨_, _, _, "OrchardQuery$Query", rfl, by decide, (Or.inl rfl), (Or.inl w_4_25)⟩)) <|
  P_all_cons (P_lnk_vi (P_vall (l := P_v79) rfl (P_all_cons (show P_vok _ _ _ 5 60 from ⟨_, rfl, rfl, w_1_6, w_5_235, (Or.inl ⟨P_sg 3 rfl, w_5_236, (Or.inl w_5_234)⟩)⟩) (P_all_nil)))) <|
  P_all_nil
set_option maxRecDepth 20000 in
theorem P_m104 : P_mstC 104 4 (Option.some Jvm.ClassFile.FieldType.boolean) P_e104 [] := P_meth (mx := 4) (rt := (Option.some Jvm.ClassFile.FieldType.boolean)) (hs := []) "OrchardQuery$Query" false prog_9_method_15_code [] rfl rfl rfl rfl (by decide +kernel) (by decide +kernel) (fun _ => P_g104) (by decide) (fun _ _ => by decide +kernel) (fun q => by cases q) (P_all_cons (by decide +kernel) <| P_all_cons (by decide +kernel) <| P_all_cons (by decide +kernel) <| P_all_cons (by decide +kernel) <| P_all_nil) P_l104 (by decide +kernel) P_k104 (fun _ _ => P_hok_nil)
/-- OrchardQuery$Query.readsGroup()Z -/
def P_l105 : List (Nat × P_I) := [(1, .invokevirtual 72, 4, 0, 94, [], []), (12, .getfield 45, 15, 7, 8, [], []), (17, .putfield 45, 20, 7, 8, [], []), (21, .invokevirtual 72, 24, 0, 94, [], []), (24, .invokestatic 109, 27, 1, 174, [], []), (33, .getfield 45, 36, 7, 8, [], []), (36, .invokevirtual 76, 39, 2, 95, [], []), (41, .getfield 15, 44, 7, 1, [], []), (45, .invokevirtual 72, 48, 0, 94, [], []), (48, .invokevirtual 138, 51, 1, 109, [], []), (53, .getfield 45, 56, 7, 8, [], []), (58, .putfield 45, 61, 7, 8, [], [])]
set_option maxRecDepth 20000 in
theorem P_k105 : ∀ q ∈ P_l105, P_lnk P_cl P_aty P_stat P_tx P_N0 P_Tb P_Y0 "OrchardQuery$Query" false prog_9_method_16_code [] q.1 q.2.1 q.2.2.2.1 q.2.2.2.2.1 :=
  P_all_cons (P_lnk_vi (P_vall (l := P_v94) rfl (P_all_cons (show P_vok _ _ _ 7 110 from ⟨_, rfl, rfl, w_1_8, w_5_185, (Or.inl ⟨P_sg 0 rfl, w_p_23, (Or.inl w_5_183)⟩)⟩) (P_all_nil)))) <|
  P_all_cons (P_lnk_get (P_s1 (c := 7) (P := fun ci => P_fok P_cl P_Tb "OrchardQuery$Query" 45 ci 8) rfl ⟨_, _, _, "OrchardQuery$Query", rfl, by decide, (Or.inl rfl), (Or.inl w_4_31)⟩)) <|
  P_all_cons (P_lnk_put (P_s1 (c := 7) (P := fun ci => P_pok P_cl P_Tb "OrchardQuery$Query" false 45 ci 8) rfl ⟨_, _, _, "OrchardQuery$Query", rfl, by decide, (Or.inl rfl), (Or.inl ⟨w_4_31, (Or.inl rfl)⟩)⟩)) <|
  P_all_cons (P_lnk_vi (P_vall (l := P_v94) rfl (P_all_cons (show P_vok _ _ _ 7 110 from ⟨_, rfl, rfl, w_1_8, w_5_185, (Or.inl ⟨P_sg 0 rfl, w_p_23, (Or.inl w_5_183)⟩)⟩) (P_all_nil)))) <|
  P_all_cons (P_lnk_st (by decide) (fun _ => ⟨P_sg 1 rfl, w_1_2, w_1_199, (Or.inr ⟨rfl, _, w_5_204⟩)⟩)) <|
  P_all_cons (P_lnk_get (P_s1 (c := 7) (P := fun ci => P_fok P_cl P_Tb "OrchardQuery$Query" 45 ci 8) rfl ⟨_, _, _, "OrchardQuery$Query", rfl, by decide, (Or.inl rfl), (Or.inl w_4_31)⟩)) <|
  P_all_cons (P_lnk_vi (P_vall (l := P_v95) rfl (P_all_cons (show P_vok _ _ _ 7 112 from ⟨_, rfl, rfl, w_1_8, w_5_190, (Or.inl ⟨P_sg 2 rfl, w_p_24, (Or.inl w_5_188)⟩)⟩) (P_all_nil)))) <|
  P_all_cons (P_lnk_get (P_s1 (c := 7) (P := fun ci => P_fok P_cl P_Tb "OrchardQuery$Query" 15 ci 1) rfl ⟨_, _, _, "OrchardQuery$Query", rfl, by decide, (Or.inl rfl), (Or.inl w_4_24)⟩)) <|
  P_all_cons (P_lnk_vi (P_vall (l := P_v94) rfl (P_all_cons (show P_vok _ _ _ 7 110 from ⟨_, rfl, rfl, w_1_8, w_5_185, (Or.inl ⟨P_sg 0 rfl, w_p_23, (Or.inl w_5_183)⟩)⟩) (P_all_nil)))) <|
  P_all_cons (P_lnk_vi (P_vall (l := P_v109) rfl (P_all_cons (show P_vok _ _ _ 3 26 from ⟨_, rfl, rfl, w_1_5, w_6_7, (Or.inl ⟨P_sg 1 rfl, w_6_8, (Or.inl w_6_6)⟩)⟩) (P_all_nil)))) <|
  P_all_cons (P_lnk_get (P_s1 (c := 7) (P := fun ci => P_fok P_cl P_Tb "OrchardQuery$Query" 45 ci 8) rfl ⟨_, _, _, "OrchardQuery$Query", rfl, by decide, (Or.inl rfl), (Or.inl w_4_31)⟩)) <|
  P_all_cons (P_lnk_put (P_s1 (c := 7) (P := fun ci => P_pok P_cl P_Tb "OrchardQuery$Query" false 45 ci 8) rfl ⟨_, _, _, "OrchardQuery$Query", rfl, by decide, (Or.inl rfl), (Or.inl ⟨w_4_31, (Or.inl rfl)⟩)⟩)) <|
  P_all_nil
set_option maxRecDepth 20000 in
theorem P_m105 : P_mstC 105 1 (Option.some Jvm.ClassFile.FieldType.boolean) P_e105 [] := P_meth (mx := 1) (rt := (Option.some Jvm.ClassFile.FieldType.boolean)) (hs := []) "OrchardQuery$Query" false prog_9_method_16_code [] rfl rfl rfl rfl (by decide +kernel) (by decide +kernel) (fun _ => P_g105) (by decide) (fun _ _ => by decide +kernel) (fun q => by cases q) (P_all_cons (by decide +kernel) <| P_all_cons (by decide +kernel) <| P_all_nil) P_l105 (by decide +kernel) P_k105 (fun _ _ => P_hok_nil)
/-- OrchardQuery$Query.readsOrder()Z -/
def P_l106 : List (Nat × P_I) := [(1, .invokevirtual 72, 4, 0, 94, [], []), (12, .getfield 45, 15, 7, 8, [], []), (17, .putfield 45, 20, 7, 8, [], []), (21, .invokevirtual 72, 24, 0, 94, [], []), (24, .invokestatic 131, 27, 1, 175, [], []), (34, .getfield 45, 37, 7, 8, [], []), (37, .invokevirtual 76, 40, 2, 95, [], []), (42, .getfield 15, 45, 7, 1, [], []), (46, .invokevirtual 72, 49, 0, 94, [], []), (53, .invokevirtual 142, 56, 1, 110, [], []), (58, .getfield 45, 61, 7, 8, [], []), (61, .putfield 145, 64, 7, 9, [], []), (66, .getfield 45, 69, 7, 8, [], []), (71, .putfield 45, 74, 7, 8, [], [])]
set_option maxRecDepth 20000 in
theorem P_k106 : ∀ q ∈ P_l106, P_lnk P_cl P_aty P_stat P_tx P_N0 P_Tb P_Y0 "OrchardQuery$Query" false prog_9_method_17_code [] q.1 q.2.1 q.2.2.2.1 q.2.2.2.2.1 :=
  P_all_cons (P_lnk_vi (P_vall (l := P_v94) rfl (P_all_cons (show P_vok _ _ _ 7 110 from ⟨_, rfl, rfl, w_1_8, w_5_185, (Or.inl ⟨P_sg 0 rfl, w_p_23, (Or.inl w_5_183)⟩)⟩) (P_all_nil)))) <|
  P_all_cons (P_lnk_get (P_s1 (c := 7) (P := fun ci => P_fok P_cl P_Tb "OrchardQuery$Query" 45 ci 8) rfl ⟨_, _, _, "OrchardQuery$Query", rfl, by decide, (Or.inl rfl), (Or.inl w_4_31)⟩)) <|
  P_all_cons (P_lnk_put (P_s1 (c := 7) (P := fun ci => P_pok P_cl P_Tb "OrchardQuery$Query" false 45 ci 8) rfl ⟨_, _, _, "OrchardQuery$Query", rfl, by decide, (Or.inl rfl), (Or.inl ⟨w_4_31, (Or.inl rfl)⟩)⟩)) <|
  P_all_cons (P_lnk_vi (P_vall (l := P_v94) rfl (P_all_cons (show P_vok _ _ _ 7 110 from ⟨_, rfl, rfl, w_1_8, w_5_185, (Or.inl ⟨P_sg 0 rfl, w_p_23, (Or.inl w_5_183)⟩)⟩) (P_all_nil)))) <|
  P_all_cons (P_lnk_st (by decide) (fun _ => ⟨P_sg 1 rfl, w_1_2, w_2_128, (Or.inr ⟨rfl, _, w_5_233⟩)⟩)) <|
  P_all_cons (P_lnk_get (P_s1 (c := 7) (P := fun ci => P_fok P_cl P_Tb "OrchardQuery$Query" 45 ci 8) rfl ⟨_, _, _, "OrchardQuery$Query", rfl, by decide, (Or.inl rfl), (Or.inl w_4_31)⟩)) <|
  P_all_cons (P_lnk_vi (P_vall (l := P_v95) rfl (P_all_cons (show P_vok _ _ _ 7 112 from ⟨_, rfl, rfl, w_1_8, w_5_190, (Or.inl ⟨P_sg 2 rfl, w_p_24, (Or.inl w_5_188)⟩)⟩) (P_all_nil)))) <|
  P_all_cons (P_lnk_get (P_s1 (c := 7) (P := fun ci => P_fok P_cl P_Tb "OrchardQuery$Query" 15 ci 1) rfl ⟨_, _, _, "OrchardQuery$Query", rfl, by decide, (Or.inl rfl), (Or.inl w_4_24)⟩)) <|
  P_all_cons (P_lnk_vi (P_vall (l := P_v94) rfl (P_all_cons (show P_vok _ _ _ 7 110 from ⟨_, rfl, rfl, w_1_8, w_5_185, (Or.inl ⟨P_sg 0 rfl, w_p_23, (Or.inl w_5_183)⟩)⟩) (P_all_nil)))) <|
  P_all_cons (P_lnk_vi (P_vall (l := P_v110) rfl (P_all_cons (show P_vok _ _ _ 3 27 from ⟨_, rfl, rfl, w_1_5, w_6_15, (Or.inl ⟨P_sg 1 rfl, w_6_16, (Or.inl w_6_14)⟩)⟩) (P_all_nil)))) <|
  P_all_cons (P_lnk_get (P_s1 (c := 7) (P := fun ci => P_fok P_cl P_Tb "OrchardQuery$Query" 45 ci 8) rfl ⟨_, _, _, "OrchardQuery$Query", rfl, by decide, (Or.inl rfl), (Or.inl w_4_31)⟩)) <|
  P_all_cons (P_lnk_put (P_s1 (c := 7) (P := fun ci => P_pok P_cl P_Tb "OrchardQuery$Query" false 145 ci 9) rfl ⟨_, _, _, "OrchardQuery$Query", rfl, by decide, (Or.inl rfl), (Or.inl ⟨w_4_32, (Or.inl rfl)⟩)⟩)) <|
  P_all_cons (P_lnk_get (P_s1 (c := 7) (P := fun ci => P_fok P_cl P_Tb "OrchardQuery$Query" 45 ci 8) rfl ⟨_, _, _, "OrchardQuery$Query", rfl, by decide, (Or.inl rfl), (Or.inl w_4_31)⟩)) <|
  P_all_cons (P_lnk_put (P_s1 (c := 7) (P := fun ci => P_pok P_cl P_Tb "OrchardQuery$Query" false 45 ci 8) rfl ⟨_, _, _, "OrchardQuery$Query", rfl, by decide, (Or.inl rfl), (Or.inl ⟨w_4_31, (Or.inl rfl)⟩)⟩)) <|
  P_all_nil
set_option maxRecDepth 20000 in
theorem P_m106 : P_mstC 106 1 (Option.some Jvm.ClassFile.FieldType.boolean) P_e106 [] := P_meth (mx := 1) (rt := (Option.some Jvm.ClassFile.FieldType.boolean)) (hs := []) "OrchardQuery$Query" false prog_9_method_17_code [] rfl rfl rfl rfl (by decide +kernel) (by decide +kernel) (fun _ => P_g106) (by decide) (fun _ _ => by decide +kernel) (fun q => by cases q) (P_all_cons (by decide +kernel) <| P_all_cons (by decide +kernel) <| P_all_cons (by decide +kernel) <| P_all_nil) P_l106 (by decide +kernel) P_k106 (fun _ _ => P_hok_nil)
/-- OrchardQuery$Query.readsLimit()Z -/
def P_l107 : List (Nat × P_I) := [(1, .invokevirtual 72, 4, 0, 94, [], []), (13, .getfield 45, 16, 7, 8, [], []), (18, .putfield 45, 21, 7, 8, [], []), (22, .invokevirtual 72, 25, 0, 94, [], []), (25, .invokestatic 131, 28, 1, 175, [], []), (35, .getfield 45, 38, 7, 8, [], []), (38, .invokevirtual 76, 41, 2, 95, [], []), (43, .getfield 15, 46, 7, 1, [], []), (47, .invokevirtual 72, 50, 0, 94, [], []), (54, .invokevirtual 148, 57, 1, 111, [], []), (59, .getfield 45, 62, 7, 8, [], []), (64, .putfield 45, 67, 7, 8, [], [])]
set_option maxRecDepth 20000 in
theorem P_k107 : ∀ q ∈ P_l107, P_lnk P_cl P_aty P_stat P_tx P_N0 P_Tb P_Y0 "OrchardQuery$Query" false prog_9_method_18_code [] q.1 q.2.1 q.2.2.2.1 q.2.2.2.2.1 :=
  P_all_cons (P_lnk_vi (P_vall (l := P_v94) rfl (P_all_cons (show P_vok _ _ _ 7 110 from ⟨_, rfl, rfl, w_1_8, w_5_185, (Or.inl ⟨P_sg 0 rfl, w_p_23, (Or.inl w_5_183)⟩)⟩) (P_all_nil)))) <|
  P_all_cons (P_lnk_get (P_s1 (c := 7) (P := fun ci => P_fok P_cl P_Tb "OrchardQuery$Query" 45 ci 8) rfl ⟨_, _, _, "OrchardQuery$Query", rfl, by decide, (Or.inl rfl), (Or.inl w_4_31)⟩)) <|
  P_all_cons (P_lnk_put (P_s1 (c := 7) (P := fun ci => P_pok P_cl P_Tb "OrchardQuery$Query" false 45 ci 8) rfl ⟨_, _, _, "OrchardQuery$Query", rfl, by decide, (Or.inl rfl), (Or.inl ⟨w_4_31, (Or.inl rfl)⟩)⟩)) <|
  P_all_cons (P_lnk_vi (P_vall (l := P_v94) rfl (P_all_cons (show P_vok _ _ _ 7 110 from ⟨_, rfl, rfl, w_1_8, w_5_185, (Or.inl ⟨P_sg 0 rfl, w_p_23, (Or.inl w_5_183)⟩)⟩) (P_all_nil)))) <|
  P_all_cons (P_lnk_st (by decide) (fun _ => ⟨P_sg 1 rfl, w_1_2, w_2_128, (Or.inr ⟨rfl, _, w_5_233⟩)⟩)) <|
  P_all_cons (P_lnk_get (P_s1 (c := 7) (P := fun ci => P_fok P_cl P_Tb "OrchardQuery$Query" 45 ci 8) rfl ⟨_, _, _, "OrchardQuery$Query", rfl, by decide, (Or.inl rfl), (Or.inl w_4_31)⟩)) <|
  P_all_cons (P_lnk_vi (P_vall (l := P_v95) rfl (P_all_cons (show P_vok _ _ _ 7 112 from ⟨_, rfl, rfl, w_1_8, w_5_190, (Or.inl ⟨P_sg 2 rfl, w_p_24, (Or.inl w_5_188)⟩)⟩) (P_all_nil)))) <|
  P_all_cons (P_lnk_get (P_s1 (c := 7) (P := fun ci => P_fok P_cl P_Tb "OrchardQuery$Query" 15 ci 1) rfl ⟨_, _, _, "OrchardQuery$Query", rfl, by decide, (Or.inl rfl), (Or.inl w_4_24)⟩)) <|
  P_all_cons (P_lnk_vi (P_vall (l := P_v94) rfl (P_all_cons (show P_vok _ _ _ 7 110 from ⟨_, rfl, rfl, w_1_8, w_5_185, (Or.inl ⟨P_sg 0 rfl, w_p_23, (Or.inl w_5_183)⟩)⟩) (P_all_nil)))) <|
  P_all_cons (P_lnk_vi (P_vall (l := P_v111) rfl (P_all_cons (show P_vok _ _ _ 3 28 from ⟨_, rfl, rfl, w_1_5, w_6_23, (Or.inl ⟨P_sg 1 rfl, w_6_24, (Or.inl w_6_22)⟩)⟩) (P_all_nil)))) <|
  P_all_cons (P_lnk_get (P_s1 (c := 7) (P := fun ci => P_fok P_cl P_Tb "OrchardQuery$Query" 45 ci 8) rfl ⟨_, _, _, "OrchardQuery$Query", rfl, by decide, (Or.inl rfl), (Or.inl w_4_31)⟩)) <|
  P_all_cons (P_lnk_put (P_s1 (c := 7) (P := fun ci => P_pok P_cl P_Tb "OrchardQuery$Query" false 45 ci 8) rfl ⟨_, _, _, "OrchardQuery$Query", rfl, by decide, (Or.inl rfl), (Or.inl ⟨w_4_31, (Or.inl rfl)⟩)⟩)) <|
  P_all_nil
set_option maxRecDepth 20000 in
theorem P_m107 : P_mstC 107 1 (Option.some Jvm.ClassFile.FieldType.boolean) P_e107 [] := P_meth (mx := 1) (rt := (Option.some Jvm.ClassFile.FieldType.boolean)) (hs := []) "OrchardQuery$Query" false prog_9_method_18_code [] rfl rfl rfl rfl (by decide +kernel) (by decide +kernel) (fun _ => P_g107) (by decide) (fun _ _ => by decide +kernel) (fun q => by cases q) (P_all_cons (by decide +kernel) <| P_all_cons (by decide +kernel) <| P_all_cons (by decide +kernel) <| P_all_nil) P_l107 (by decide +kernel) P_k107 (fun _ _ => P_hok_nil)
/-- OrchardQuery$Query.findsColumns()Z -/
def P_l108 : List (Nat × P_I) := [(4, .getfield 31, 7, 7, 4, [], []), (11, .getfield 23, 14, 7, 3, [], []), (15, .invokestatic 151, 18, 2, 178, [], []), (20, .invokestatic 109, 23, 1, 174, [], []), (27, .getfield 15, 30, 7, 1, [], []), (31, .invokevirtual 155, 34, 1, 112, [], []), (41, .invokevirtual 76, 44, 2, 95, [], [])]
set_option maxRecDepth 20000 in
theorem P_k108 : ∀ q ∈ P_l108, P_lnk P_cl P_aty P_stat P_tx P_N0 P_Tb P_Y0 "OrchardQuery$Query" false prog_9_method_19_code [] q.1 q.2.1 q.2.2.2.1 q.2.2.2.2.1 :=
  P_all_cons (P_lnk_get (P_s1 (c := 7) (P := fun ci => P_fok P_cl P_Tb "OrchardQuery$Query" 31 ci 4) rfl ⟨_, _, _, "OrchardQuery$Query", rfl, by decide, (Or.inl rfl), (Or.inl w_4_27)⟩)) <|
  P_all_cons (P_lnk_get (P_s1 (c := 7) (P := fun ci => P_fok P_cl P_Tb "OrchardQuery$Query" 23 ci 3) rfl ⟨_, _, _, "OrchardQuery$Query", rfl, by decide, (Or.inl rfl), (Or.inl w_4_26)⟩)) <|
  P_all_cons (P_lnk_st (by decide) (fun _ => ⟨P_sg 2 rfl, w_1_2, w_1_225, (Or.inr ⟨rfl, _, w_5_187⟩)⟩)) <|
  P_all_cons (P_lnk_st (by decide) (fun _ => ⟨P_sg 1 rfl, w_1_2, w_1_199, (Or.inr ⟨rfl, _, w_5_204⟩)⟩)) <|
  P_all_cons (P_lnk_get (P_s1 (c := 7) (P := fun ci => P_fok P_cl P_Tb "OrchardQuery$Query" 15 ci 1) rfl ⟨_, _, _, "OrchardQuery$Query", rfl, by decide, (Or.inl rfl), (Or.inl w_4_24)⟩)) <|
  P_all_cons (P_lnk_vi (P_vall (l := P_v112) rfl (P_all_cons (show P_vok _ _ _ 3 39 from ⟨_, rfl, rfl, w_1_5, w_6_31, (Or.inl ⟨P_sg 1 rfl, w_6_32, (Or.inl w_6_30)⟩)⟩) (P_all_nil)))) <|
  P_all_cons (P_lnk_vi (P_vall (l := P_v95) rfl (P_all_cons (show P_vok _ _ _ 7 112 from ⟨_, rfl, rfl, w_1_8, w_5_190, (Or.inl ⟨P_sg 2 rfl, w_p_24, (Or.inl w_5_188)⟩)⟩) (P_all_nil)))) <|
  P_all_nil
set_option maxRecDepth 20000 in
theorem P_m108 : P_mstC 108 3 (Option.some Jvm.ClassFile.FieldType.boolean) P_e108 [] := P_meth (mx := 3) (rt := (Option.some Jvm.ClassFile.FieldType.boolean)) (hs := []) "OrchardQuery$Query" false prog_9_method_19_code [] rfl rfl rfl rfl (by decide +kernel) (by decide +kernel) (fun _ => P_g108) (by decide) (fun _ _ => by decide +kernel) (fun q => by cases q) (P_all_cons (by decide +kernel) <| P_all_cons (by decide +kernel) <| P_all_nil) P_l108 (by decide +kernel) P_k108 (fun _ _ => P_hok_nil)
/-- OrchardQuery$Query.findsOrderItem()Z -/
def P_l109 : List (Nat × P_I) := [(1, .getfield 15, 4, 7, 1, [], []), (4, .invokevirtual 158, 7, 0, 30, [], []), (14, .getfield 15, 17, 7, 1, [], []), (18, .invokevirtual 161, 21, 1, 113, [], []), (28, .getfield 145, 31, 7, 9, [], []), (31, .invokevirtual 76, 34, 2, 95, [], [])]
set_option maxRecDepth 20000 in
theorem P_k109 : ∀ q ∈ P_l109, P_lnk P_cl P_aty P_stat P_tx P_N0 P_Tb P_Y0 "OrchardQuery$Query" false prog_9_method_20_code [] q.1 q.2.1 q.2.2.2.1 q.2.2.2.2.1 :=
  P_all_cons (P_lnk_get (P_s1 (c := 7) (P := fun ci => P_fok P_cl P_Tb "OrchardQuery$Query" 15 ci 1) rfl ⟨_, _, _, "OrchardQuery$Query", rfl, by decide, (Or.inl rfl), (Or.inl w_4_24)⟩)) <|
  P_all_cons (P_lnk_vi (P_vall (l := P_v30) rfl (P_all_cons (show P_vok _ _ _ 3 32 from ⟨_, rfl, rfl, w_1_5, w_2_226, (Or.inl ⟨P_sg 0 rfl, w_2_227, (Or.inl w_6_39)⟩)⟩) (P_all_nil)))) <|
  P_all_cons (P_lnk_get (P_s1 (c := 7) (P := fun ci => P_fok P_cl P_Tb "OrchardQuery$Query" 15 ci 1) rfl ⟨_, _, _, "OrchardQuery$Query", rfl, by decide, (Or.inl rfl), (Or.inl w_4_24)⟩)) <|
  P_all_cons (P_lnk_vi (P_vall (l := P_v113) rfl (P_all_cons (show P_vok _ _ _ 3 36 from ⟨_, rfl, rfl, w_1_5, w_3_35, (Or.inl ⟨P_sg 1 rfl, w_3_36, (Or.inl w_6_40)⟩)⟩) (P_all_nil)))) <|
  P_all_cons (P_lnk_get (P_s1 (c := 7) (P := fun ci => P_fok P_cl P_Tb "OrchardQuery$Query" 145 ci 9) rfl ⟨_, _, _, "OrchardQuery$Query", rfl, by decide, (Or.inl rfl), (Or.inl w_4_32)⟩)) <|
  P_all_cons (P_lnk_vi (P_vall (l := P_v95) rfl (P_all_cons (show P_vok _ _ _ 7 112 from ⟨_, rfl, rfl, w_1_8, w_5_190, (Or.inl ⟨P_sg 2 rfl, w_p_24, (Or.inl w_5_188)⟩)⟩) (P_all_nil)))) <|
  P_all_nil
set_option maxRecDepth 20000 in
theorem P_m109 : P_mstC 109 2 (Option.some Jvm.ClassFile.FieldType.boolean) P_e109 [] := P_meth (mx := 2) (rt := (Option.some Jvm.ClassFile.FieldType.boolean)) (hs := []) "OrchardQuery$Query" false prog_9_method_20_code [] rfl rfl rfl rfl (by decide +kernel) (by decide +kernel) (fun _ => P_g109) (by decide) (fun _ _ => by decide +kernel) (fun q => by cases q) (P_all_cons (by decide +kernel) <| P_all_cons (by decide +kernel) <| P_all_nil) P_l109 (by decide +kernel) P_k109 (fun _ _ => P_hok_nil)
/-- OrchardQuery$Query.ahead()I -/
def P_l110 : List (Nat × P_I) := [(1, .getfield 45, 4, 7, 8, [], []), (5, .getfield 31, 8, 7, 4, [], []), (12, .getfield 23, 15, 7, 3, [], []), (16, .getfield 45, 19, 7, 8, [], []), (19, .invokestatic 151, 22, 2, 178, [], [])]
set_option maxRecDepth 20000 in
theorem P_k110 : ∀ q ∈ P_l110, P_lnk P_cl P_aty P_stat P_tx P_N0 P_Tb P_Y0 "OrchardQuery$Query" false prog_9_method_21_code [] q.1 q.2.1 q.2.2.2.1 q.2.2.2.2.1 :=
  P_all_cons (P_lnk_get (P_s1 (c := 7) (P := fun ci => P_fok P_cl P_Tb "OrchardQuery$Query" 45 ci 8) rfl ⟨_, _, _, "OrchardQuery$Query", rfl, by decide, (Or.inl rfl), (Or.inl w_4_31)⟩)) <|
  P_all_cons (P_lnk_get (P_s1 (c := 7) (P := fun ci => P_fok P_cl P_Tb "OrchardQuery$Query" 31 ci 4) rfl ⟨_, _, _, "OrchardQuery$Query", rfl, by decide, (Or.inl rfl), (Or.inl w_4_27)⟩)) <|
  P_all_cons (P_lnk_get (P_s1 (c := 7) (P := fun ci => P_fok P_cl P_Tb "OrchardQuery$Query" 23 ci 3) rfl ⟨_, _, _, "OrchardQuery$Query", rfl, by decide, (Or.inl rfl), (Or.inl w_4_26)⟩)) <|
  P_all_cons (P_lnk_get (P_s1 (c := 7) (P := fun ci => P_fok P_cl P_Tb "OrchardQuery$Query" 45 ci 8) rfl ⟨_, _, _, "OrchardQuery$Query", rfl, by decide, (Or.inl rfl), (Or.inl w_4_31)⟩)) <|
  P_all_cons (P_lnk_st (by decide) (fun _ => ⟨P_sg 2 rfl, w_1_2, w_1_225, (Or.inr ⟨rfl, _, w_5_187⟩)⟩)) <|
  P_all_nil
set_option maxRecDepth 20000 in
theorem P_m110 : P_mstC 110 1 (Option.some Jvm.ClassFile.FieldType.int) P_e110 [] := P_meth (mx := 1) (rt := (Option.some Jvm.ClassFile.FieldType.int)) (hs := []) "OrchardQuery$Query" false prog_9_method_21_code [] rfl rfl rfl rfl (by decide +kernel) (by decide +kernel) (fun _ => P_g110) (by decide) (fun _ _ => by decide +kernel) (fun q => by cases q) (P_all_cons (by decide +kernel) <| P_all_nil) P_l110 (by decide +kernel) P_k110 (fun _ _ => P_hok_nil)
/-- OrchardQuery$Query.beginsItem(I)Z -/
def P_l111 : List (Nat × P_I) := [(13, .invokestatic 109, 16, 1, 174, [], [])]
set_option maxRecDepth 20000 in
theorem P_k111 : ∀ q ∈ P_l111, P_lnk P_cl P_aty P_stat P_tx P_N0 P_Tb P_Y0 "OrchardQuery$Query" false prog_9_method_22_code [] q.1 q.2.1 q.2.2.2.1 q.2.2.2.2.1 :=
  P_all_cons (P_lnk_st (by decide) (fun _ => ⟨P_sg 1 rfl, w_1_2, w_1_199, (Or.inr ⟨rfl, _, w_5_204⟩)⟩)) <|
  P_all_nil
set_option maxRecDepth 20000 in
theorem P_m111 : P_mstC 111 2 (Option.some Jvm.ClassFile.FieldType.boolean) P_e111 [] := P_meth (mx := 2) (rt := (Option.some Jvm.ClassFile.FieldType.boolean)) (hs := []) "OrchardQuery$Query" false prog_9_method_22_code [] rfl rfl rfl rfl (by decide +kernel) (by decide +kernel) (fun _ => P_g111) (by decide) (fun _ _ => by decide +kernel) (fun q => by cases q) (P_all_cons (by decide +kernel) <| P_all_nil) P_l111 (by decide +kernel) P_k111 (fun _ _ => P_hok_nil)
/-- OrchardQuery$Query.fails(II)Z -/
def P_l112 : List (Nat × P_I) := [(2, .putfield 48, 5, 7, 6, [], []), (7, .putfield 27, 10, 7, 7, [], [])]
set_option maxRecDepth 20000 in
theorem P_k112 : ∀ q ∈ P_l112, P_lnk P_cl P_aty P_stat P_tx P_N0 P_Tb P_Y0 "OrchardQuery$Query" false prog_9_method_23_code [] q.1 q.2.1 q.2.2.2.1 q.2.2.2.2.1 :=
  P_all_cons (P_lnk_put (P_s1 (c := 7) (P := fun ci => P_pok P_cl P_Tb "OrchardQuery$Query" false 48 ci 6) rfl ⟨_, _, _, "OrchardQuery$Query", rfl, by decide, (Or.inl rfl), (Or.inl ⟨w_4_29, (Or.inl rfl)⟩)⟩)) <|
  P_all_cons (P_lnk_put (P_s1 (c := 7) (P := fun ci => P_pok P_cl P_Tb "OrchardQuery$Query" false 27 ci 7) rfl ⟨_, _, _, "OrchardQuery$Query", rfl, by decide, (Or.inl rfl), (Or.inl ⟨w_4_30, (Or.inl rfl)⟩)⟩)) <|
  P_all_nil
set_option maxRecDepth 20000 in
theorem P_m112 : P_mstC 112 3 (Option.some Jvm.ClassFile.FieldType.boolean) P_e112 [] := P_meth (mx := 3) (rt := (Option.some Jvm.ClassFile.FieldType.boolean)) (hs := []) "OrchardQuery$Query" false prog_9_method_23_code [] rfl rfl rfl rfl (by decide +kernel) (by decide +kernel) (fun _ => P_g112) (by decide) (fun _ _ => by decide +kernel) (fun q => by cases q) (P_all_cons (by decide +kernel) <| P_all_nil) P_l112 (by decide +kernel) P_k112 (fun _ _ => P_hok_nil)
/-- OrchardQuery$Store.<init>()V -/
def P_l113 : List (Nat × P_I) := [(1, .invokespecial 3, 4, 0, 9000, [], []), (6, .anewarray 9, 9, 0, 109, [], []), (9, .putfield 11, 12, 8, 0, [], []), (13, .new 9, 16, 0, 9, [], []), (18, .invokespecial 17, 21, 1, 118, [], []), (21, .putfield 20, 24, 8, 1, [], [])]
set_option maxRecDepth 20000 in
theorem P_k113 : ∀ q ∈ P_l113, P_lnk P_cl P_aty P_stat P_tx P_N0 P_Tb P_Y0 "OrchardQuery$Store" true prog_10_method_1_code [] q.1 q.2.1 q.2.2.2.1 q.2.2.2.2.1 :=
  P_all_cons (P_lnk_oj (fun _ => ⟨w_3_137, w_1_60, w_1_61⟩)) <|
  P_all_cons (P_lnk_anw rfl w_3_138 w_3_139) <|
  P_all_cons (P_lnk_put (P_s1 (c := 8) (P := fun ci => P_pok P_cl P_Tb "OrchardQuery$Store" true 11 ci 0) rfl ⟨_, _, _, "OrchardQuery$Store", rfl, by decide, (Or.inl rfl), (Or.inl ⟨w_3_159, (Or.inr ⟨rfl, rfl, rfl⟩)⟩)⟩)) <|
  P_all_cons (P_lnk_new (by decide) rfl w_3_138 w_3_140 w_1_4) <|
  P_all_cons (P_lnk_sp (by decide) (fun _ => ⟨P_sg 1 rfl, w_1_4, w_3_142, rfl, rfl, (Or.inl w_3_141)⟩)) <|
  P_all_cons (P_lnk_put (P_s1 (c := 8) (P := fun ci => P_pok P_cl P_Tb "OrchardQuery$Store" true 20 ci 1) rfl ⟨_, _, _, "OrchardQuery$Store", rfl, by decide, (Or.inl rfl), (Or.inl ⟨w_3_160, (Or.inr ⟨rfl, rfl, rfl⟩)⟩)⟩)) <|
  P_all_nil
set_option maxRecDepth 20000 in
theorem P_m113 : P_mstC 113 1 (Option.none : Option Jvm.ClassFile.FieldType) P_e113 [] := P_meth (mx := 1) (rt := (Option.none : Option Jvm.ClassFile.FieldType)) (hs := []) "OrchardQuery$Store" true prog_10_method_1_code [] rfl rfl rfl rfl (by decide +kernel) (by decide +kernel) (fun _ => P_g113) (by decide) (fun t q => by cases q) (fun _ => rfl) (P_all_cons (by decide +kernel) <| P_all_nil) P_l113 (by decide +kernel) P_k113 (fun _ _ => P_hok_nil)
/-- OrchardQuery$Store.size()I -/
def P_l114 : List (Nat × P_I) := [(1, .getfield 24, 4, 8, 2, [], [])]
set_option maxRecDepth 20000 in
theorem P_k114 : ∀ q ∈ P_l114, P_lnk P_cl P_aty P_stat P_tx P_N0 P_Tb P_Y0 "OrchardQuery$Store" false prog_10_method_2_code [] q.1 q.2.1 q.2.2.2.1 q.2.2.2.2.1 :=
  P_all_cons (P_lnk_get (P_s1 (c := 8) (P := fun ci => P_fok P_cl P_Tb "OrchardQuery$Store" 24 ci 2) rfl ⟨_, _, _, "OrchardQuery$Store", rfl, by decide, (Or.inl rfl), (Or.inl w_3_161)⟩)) <|
  P_all_nil
set_option maxRecDepth 20000 in
theorem P_m114 : P_mstC 114 1 (Option.some Jvm.ClassFile.FieldType.int) P_e114 [] := P_meth (mx := 1) (rt := (Option.some Jvm.ClassFile.FieldType.int)) (hs := []) "OrchardQuery$Store" false prog_10_method_2_code [] rfl rfl rfl rfl (by decide +kernel) (by decide +kernel) (fun _ => P_g114) (by decide) (fun _ _ => by decide +kernel) (fun q => by cases q) (P_all_cons (by decide +kernel) <| P_all_nil) P_l114 (by decide +kernel) P_k114 (fun _ _ => P_hok_nil)
/-- OrchardQuery$Store.has(I)Z -/
def P_l115 : List (Nat × P_I) := [(6, .getfield 24, 9, 8, 2, [], [])]
set_option maxRecDepth 20000 in
theorem P_k115 : ∀ q ∈ P_l115, P_lnk P_cl P_aty P_stat P_tx P_N0 P_Tb P_Y0 "OrchardQuery$Store" false prog_10_method_3_code [] q.1 q.2.1 q.2.2.2.1 q.2.2.2.2.1 :=
  P_all_cons (P_lnk_get (P_s1 (c := 8) (P := fun ci => P_fok P_cl P_Tb "OrchardQuery$Store" 24 ci 2) rfl ⟨_, _, _, "OrchardQuery$Store", rfl, by decide, (Or.inl rfl), (Or.inl w_3_161)⟩)) <|
  P_all_nil
set_option maxRecDepth 20000 in
theorem P_m115 : P_mstC 115 2 (Option.some Jvm.ClassFile.FieldType.boolean) P_e115 [] := P_meth (mx := 2) (rt := (Option.some Jvm.ClassFile.FieldType.boolean)) (hs := []) "OrchardQuery$Store" false prog_10_method_3_code [] rfl rfl rfl rfl (by decide +kernel) (by decide +kernel) (fun _ => P_g115) (by decide) (fun _ _ => by decide +kernel) (fun q => by cases q) (P_all_cons (by decide +kernel) <| P_all_nil) P_l115 (by decide +kernel) P_k115 (fun _ _ => P_hok_nil)
/-- OrchardQuery$Store.at(I)LOrchardQuery$Table; -/
def P_l116 : List (Nat × P_I) := [(6, .getfield 11, 9, 8, 0, [], []), (14, .getfield 20, 17, 8, 1, [], []), (19, .getfield 11, 22, 8, 0, [], []), (30, .getfield 20, 33, 8, 1, [], [])]
set_option maxRecDepth 20000 in
theorem P_k116 : ∀ q ∈ P_l116, P_lnk P_cl P_aty P_stat P_tx P_N0 P_Tb P_Y0 "OrchardQuery$Store" false prog_10_method_4_code [] q.1 q.2.1 q.2.2.2.1 q.2.2.2.2.1 :=
  P_all_cons (P_lnk_get (P_s1 (c := 8) (P := fun ci => P_fok P_cl P_Tb "OrchardQuery$Store" 11 ci 0) rfl ⟨_, _, _, "OrchardQuery$Store", rfl, by decide, (Or.inl rfl), (Or.inl w_3_159)⟩)) <|
  P_all_cons (P_lnk_get (P_s1 (c := 8) (P := fun ci => P_fok P_cl P_Tb "OrchardQuery$Store" 20 ci 1) rfl ⟨_, _, _, "OrchardQuery$Store", rfl, by decide, (Or.inl rfl), (Or.inl w_3_160)⟩)) <|
  P_all_cons (P_lnk_get (P_s1 (c := 8) (P := fun ci => P_fok P_cl P_Tb "OrchardQuery$Store" 11 ci 0) rfl ⟨_, _, _, "OrchardQuery$Store", rfl, by decide, (Or.inl rfl), (Or.inl w_3_159)⟩)) <|
  P_all_cons (P_lnk_get (P_s1 (c := 8) (P := fun ci => P_fok P_cl P_Tb "OrchardQuery$Store" 20 ci 1) rfl ⟨_, _, _, "OrchardQuery$Store", rfl, by decide, (Or.inl rfl), (Or.inl w_3_160)⟩)) <|
  P_all_nil
set_option maxRecDepth 20000 in
theorem P_m116 : P_mstC 116 3 (Option.some (Jvm.ClassFile.FieldType.object "OrchardQuery$Table")) P_e116 [] := P_meth (mx := 3) (rt := (Option.some (Jvm.ClassFile.FieldType.object "OrchardQuery$Table"))) (hs := []) "OrchardQuery$Store" false prog_10_method_4_code [] rfl rfl rfl rfl (by decide +kernel) (by decide +kernel) (fun _ => P_g116) (by decide) (fun _ _ => by decide +kernel) (fun q => by cases q) (P_all_cons (by decide +kernel) <| P_all_cons (by decide +kernel) <| P_all_nil) P_l116 (by decide +kernel) P_k116 (fun _ _ => P_hok_nil)
/-- OrchardQuery$Store.add(I)I -/
def P_l117 : List (Nat × P_I) := [(1, .getfield 24, 4, 8, 2, [], []), (11, .getfield 11, 14, 8, 0, [], []), (19, .getfield 11, 22, 8, 0, [], []), (23, .new 9, 26, 0, 9, [], []), (28, .invokespecial 17, 31, 1, 118, [], []), (31, .aastore, 32, 0, 0, [], []), (34, .getfield 24, 37, 8, 2, [], []), (39, .putfield 24, 42, 8, 2, [], [])]
set_option maxRecDepth 20000 in
theorem P_k117 : ∀ q ∈ P_l117, P_lnk P_cl P_aty P_stat P_tx P_N0 P_Tb P_Y0 "OrchardQuery$Store" false prog_10_method_5_code [] q.1 q.2.1 q.2.2.2.1 q.2.2.2.2.1 :=
  P_all_cons (P_lnk_get (P_s1 (c := 8) (P := fun ci => P_fok P_cl P_Tb "OrchardQuery$Store" 24 ci 2) rfl ⟨_, _, _, "OrchardQuery$Store", rfl, by decide, (Or.inl rfl), (Or.inl w_3_161)⟩)) <|
  P_all_cons (P_lnk_get (P_s1 (c := 8) (P := fun ci => P_fok P_cl P_Tb "OrchardQuery$Store" 11 ci 0) rfl ⟨_, _, _, "OrchardQuery$Store", rfl, by decide, (Or.inl rfl), (Or.inl w_3_159)⟩)) <|
  P_all_cons (P_lnk_get (P_s1 (c := 8) (P := fun ci => P_fok P_cl P_Tb "OrchardQuery$Store" 11 ci 0) rfl ⟨_, _, _, "OrchardQuery$Store", rfl, by decide, (Or.inl rfl), (Or.inl w_3_159)⟩)) <|
  P_all_cons (P_lnk_new (by decide) rfl w_3_138 w_3_140 w_1_4) <|
  P_all_cons (P_lnk_sp (by decide) (fun _ => ⟨P_sg 1 rfl, w_1_4, w_3_142, rfl, rfl, (Or.inl w_3_141)⟩)) <|
  P_all_cons (P_lnk_as0 (by decide)) <|
  P_all_cons (P_lnk_get (P_s1 (c := 8) (P := fun ci => P_fok P_cl P_Tb "OrchardQuery$Store" 24 ci 2) rfl ⟨_, _, _, "OrchardQuery$Store", rfl, by decide, (Or.inl rfl), (Or.inl w_3_161)⟩)) <|
  P_all_cons (P_lnk_put (P_s1 (c := 8) (P := fun ci => P_pok P_cl P_Tb "OrchardQuery$Store" false 24 ci 2) rfl ⟨_, _, _, "OrchardQuery$Store", rfl, by decide, (Or.inl rfl), (Or.inl ⟨w_3_161, (Or.inl rfl)⟩)⟩)) <|
  P_all_nil
set_option maxRecDepth 20000 in
theorem P_m117 : P_mstC 117 3 (Option.some Jvm.ClassFile.FieldType.int) P_e117 [] := P_meth (mx := 3) (rt := (Option.some Jvm.ClassFile.FieldType.int)) (hs := []) "OrchardQuery$Store" false prog_10_method_5_code [] rfl rfl rfl rfl (by decide +kernel) (by decide +kernel) (fun _ => P_g117) (by decide) (fun _ _ => by decide +kernel) (fun q => by cases q) (P_all_cons (by decide +kernel) <| P_all_cons (by decide +kernel) <| P_all_nil) P_l117 (by decide +kernel) P_k117 (fun _ _ => P_hok_nil)
/-- OrchardQuery$Table.<init>(I)V -/
def P_l118 : List (Nat × P_I) := [(1, .invokespecial 3, 4, 0, 9000, [], []), (6, .putfield 9, 9, 9, 0, [], []), (12, .newarray .int, 14, 0, 0, [], []), (14, .putfield 15, 17, 9, 1, [], []), (19, .newarray .int, 21, 0, 0, [], []), (21, .putfield 19, 24, 9, 2, [], [])]
set_option maxRecDepth 20000 in
theorem P_k118 : ∀ q ∈ P_l118, P_lnk P_cl P_aty P_stat P_tx P_N0 P_Tb P_Y0 "OrchardQuery$Table" true prog_11_method_1_code [] q.1 q.2.1 q.2.2.2.1 q.2.2.2.2.1 :=
  P_all_cons (P_lnk_oj (fun _ => ⟨w_3_144, w_1_60, w_1_61⟩)) <|
  P_all_cons (P_lnk_put (P_s1 (c := 9) (P := fun ci => P_pok P_cl P_Tb "OrchardQuery$Table" true 9 ci 0) rfl ⟨_, _, _, "OrchardQuery$Table", rfl, by decide, (Or.inl rfl), (Or.inl ⟨w_3_145, (Or.inr ⟨rfl, rfl, rfl⟩)⟩)⟩)) <|
  P_all_cons (P_lnk_nwa rfl w_3_158) <|
  P_all_cons (P_lnk_put (P_s1 (c := 9) (P := fun ci => P_pok P_cl P_Tb "OrchardQuery$Table" true 15 ci 1) rfl ⟨_, _, _, "OrchardQuery$Table", rfl, by decide, (Or.inl rfl), (Or.inl ⟨w_3_146, (Or.inr ⟨rfl, rfl, rfl⟩)⟩)⟩)) <|
  P_all_cons (P_lnk_nwa rfl w_3_158) <|
  P_all_cons (P_lnk_put (P_s1 (c := 9) (P := fun ci => P_pok P_cl P_Tb "OrchardQuery$Table" true 19 ci 2) rfl ⟨_, _, _, "OrchardQuery$Table", rfl, by decide, (Or.inl rfl), (Or.inl ⟨w_3_147, (Or.inr ⟨rfl, rfl, rfl⟩)⟩)⟩)) <|
  P_all_nil
set_option maxRecDepth 20000 in
theorem P_m118 : P_mstC 118 2 (Option.none : Option Jvm.ClassFile.FieldType) P_e118 [] := P_meth (mx := 2) (rt := (Option.none : Option Jvm.ClassFile.FieldType)) (hs := []) "OrchardQuery$Table" true prog_11_method_1_code [] rfl rfl rfl rfl (by decide +kernel) (by decide +kernel) (fun _ => P_g118) (by decide) (fun t q => by cases q) (fun _ => rfl) (P_all_cons (by decide +kernel) <| P_all_nil) P_l118 (by decide +kernel) P_k118 (fun _ _ => P_hok_nil)
/-- OrchardQuery$Table.columnCount()I -/
def P_l119 : List (Nat × P_I) := [(1, .getfield 9, 4, 9, 0, [], [])]
set_option maxRecDepth 20000 in
theorem P_k119 : ∀ q ∈ P_l119, P_lnk P_cl P_aty P_stat P_tx P_N0 P_Tb P_Y0 "OrchardQuery$Table" false prog_11_method_2_code [] q.1 q.2.1 q.2.2.2.1 q.2.2.2.2.1 :=
  P_all_cons (P_lnk_get (P_s1 (c := 9) (P := fun ci => P_fok P_cl P_Tb "OrchardQuery$Table" 9 ci 0) rfl ⟨_, _, _, "OrchardQuery$Table", rfl, by decide, (Or.inl rfl), (Or.inl w_3_145)⟩)) <|
  P_all_nil
set_option maxRecDepth 20000 in
theorem P_m119 : P_mstC 119 1 (Option.some Jvm.ClassFile.FieldType.int) P_e119 [] := P_meth (mx := 1) (rt := (Option.some Jvm.ClassFile.FieldType.int)) (hs := []) "OrchardQuery$Table" false prog_11_method_2_code [] rfl rfl rfl rfl (by decide +kernel) (by decide +kernel) (fun _ => P_g119) (by decide) (fun _ _ => by decide +kernel) (fun q => by cases q) (P_all_cons (by decide +kernel) <| P_all_nil) P_l119 (by decide +kernel) P_k119 (fun _ _ => P_hok_nil)
/-- OrchardQuery$Table.rowCount()I -/
def P_l120 : List (Nat × P_I) := [(1, .getfield 22, 4, 9, 3, [], [])]
set_option maxRecDepth 20000 in
theorem P_k120 : ∀ q ∈ P_l120, P_lnk P_cl P_aty P_stat P_tx P_N0 P_Tb P_Y0 "OrchardQuery$Table" false prog_11_method_3_code [] q.1 q.2.1 q.2.2.2.1 q.2.2.2.2.1 :=
  P_all_cons (P_lnk_get (P_s1 (c := 9) (P := fun ci => P_fok P_cl P_Tb "OrchardQuery$Table" 22 ci 3) rfl ⟨_, _, _, "OrchardQuery$Table", rfl, by decide, (Or.inl rfl), (Or.inl w_3_148)⟩)) <|
  P_all_nil
set_option maxRecDepth 20000 in
theorem P_m120 : P_mstC 120 1 (Option.some Jvm.ClassFile.FieldType.int) P_e120 [] := P_meth (mx := 1) (rt := (Option.some Jvm.ClassFile.FieldType.int)) (hs := []) "OrchardQuery$Table" false prog_11_method_3_code [] rfl rfl rfl rfl (by decide +kernel) (by decide +kernel) (fun _ => P_g120) (by decide) (fun _ _ => by decide +kernel) (fun q => by cases q) (P_all_cons (by decide +kernel) <| P_all_nil) P_l120 (by decide +kernel) P_k120 (fun _ _ => P_hok_nil)
/-- OrchardQuery$Table.isFull()Z -/
def P_l121 : List (Nat × P_I) := [(1, .getfield 22, 4, 9, 3, [], [])]
set_option maxRecDepth 20000 in
theorem P_k121 : ∀ q ∈ P_l121, P_lnk P_cl P_aty P_stat P_tx P_N0 P_Tb P_Y0 "OrchardQuery$Table" false prog_11_method_4_code [] q.1 q.2.1 q.2.2.2.1 q.2.2.2.2.1 :=
  P_all_cons (P_lnk_get (P_s1 (c := 9) (P := fun ci => P_fok P_cl P_Tb "OrchardQuery$Table" 22 ci 3) rfl ⟨_, _, _, "OrchardQuery$Table", rfl, by decide, (Or.inl rfl), (Or.inl w_3_148)⟩)) <|
  P_all_nil
set_option maxRecDepth 20000 in
theorem P_m121 : P_mstC 121 1 (Option.some Jvm.ClassFile.FieldType.boolean) P_e121 [] := P_meth (mx := 1) (rt := (Option.some Jvm.ClassFile.FieldType.boolean)) (hs := []) "OrchardQuery$Table" false prog_11_method_4_code [] rfl rfl rfl rfl (by decide +kernel) (by decide +kernel) (fun _ => P_g121) (by decide) (fun _ _ => by decide +kernel) (fun q => by cases q) (P_all_cons (by decide +kernel) <| P_all_nil) P_l121 (by decide +kernel) P_k121 (fun _ _ => P_hok_nil)
/-- OrchardQuery$Table.cell(II)I -/
def P_l122 : List (Nat × P_I) := [(6, .getfield 22, 9, 9, 3, [], []), (18, .getfield 9, 21, 9, 0, [], []), (38, .getfield 15, 41, 9, 1, [], []), (46, .getfield 15, 49, 9, 1, [], [])]
set_option maxRecDepth 20000 in
theorem P_k122 : ∀ q ∈ P_l122, P_lnk P_cl P_aty P_stat P_tx P_N0 P_Tb P_Y0 "OrchardQuery$Table" false prog_11_method_5_code [] q.1 q.2.1 q.2.2.2.1 q.2.2.2.2.1 :=
  P_all_cons (P_lnk_get (P_s1 (c := 9) (P := fun ci => P_fok P_cl P_Tb "OrchardQuery$Table" 22 ci 3) rfl ⟨_, _, _, "OrchardQuery$Table", rfl, by decide, (Or.inl rfl), (Or.inl w_3_148)⟩)) <|
  P_all_cons (P_lnk_get (P_s1 (c := 9) (P := fun ci => P_fok P_cl P_Tb "OrchardQuery$Table" 9 ci 0) rfl ⟨_, _, _, "OrchardQuery$Table", rfl, by decide, (Or.inl rfl), (Or.inl w_3_145)⟩)) <|
  P_all_cons (P_lnk_get (P_s1 (c := 9) (P := fun ci => P_fok P_cl P_Tb "OrchardQuery$Table" 15 ci 1) rfl ⟨_, _, _, "OrchardQuery$Table", rfl, by decide, (Or.inl rfl), (Or.inl w_3_146)⟩)) <|
  P_all_cons (P_lnk_get (P_s1 (c := 9) (P := fun ci => P_fok P_cl P_Tb "OrchardQuery$Table" 15 ci 1) rfl ⟨_, _, _, "OrchardQuery$Table", rfl, by decide, (Or.inl rfl), (Or.inl w_3_146)⟩)) <|
  P_all_nil
set_option maxRecDepth 20000 in
theorem P_m122 : P_mstC 122 4 (Option.some Jvm.ClassFile.FieldType.int) P_e122 [] := P_meth (mx := 4) (rt := (Option.some Jvm.ClassFile.FieldType.int)) (hs := []) "OrchardQuery$Table" false prog_11_method_5_code [] rfl rfl rfl rfl (by decide +kernel) (by decide +kernel) (fun _ => P_g122) (by decide) (fun _ _ => by decide +kernel) (fun q => by cases q) (P_all_cons (by decide +kernel) <| P_all_cons (by decide +kernel) <| P_all_nil) P_l122 (by decide +kernel) P_k122 (fun _ _ => P_hok_nil)
/-- OrchardQuery$Table.add(III)V -/
def P_l123 : List (Nat × P_I) := [(1, .invokevirtual 25, 4, 0, 114, [], []), (9, .getfield 22, 12, 9, 3, [], []), (17, .getfield 15, 20, 9, 1, [], []), (23, .invokestatic 29, 26, 3, 179, [], []), (27, .getfield 15, 30, 9, 1, [], []), (35, .invokestatic 29, 38, 3, 179, [], []), (39, .getfield 15, 42, 9, 1, [], []), (47, .invokestatic 29, 50, 3, 179, [], []), (52, .getfield 22, 55, 9, 3, [], []), (57, .putfield 22, 60, 9, 3, [], []), (61, .invokevirtual 33, 64, 0, 115, [], [])]
set_option maxRecDepth 20000 in
theorem P_k123 : ∀ q ∈ P_l123, P_lnk P_cl P_aty P_stat P_tx P_N0 P_Tb P_Y0 "OrchardQuery$Table" false prog_11_method_6_code [] q.1 q.2.1 q.2.2.2.1 q.2.2.2.2.1 :=
  P_all_cons (P_lnk_vi (P_vall (l := P_v114) rfl (P_all_cons (show P_vok _ _ _ 9 121 from ⟨_, rfl, rfl, w_1_4, w_5_100, (Or.inl ⟨P_sg 0 rfl, w_5_101, (Or.inl w_5_108)⟩)⟩) (P_all_nil)))) <|
  P_all_cons (P_lnk_get (P_s1 (c := 9) (P := fun ci => P_fok P_cl P_Tb "OrchardQuery$Table" 22 ci 3) rfl ⟨_, _, _, "OrchardQuery$Table", rfl, by decide, (Or.inl rfl), (Or.inl w_3_148)⟩)) <|
  P_all_cons (P_lnk_get (P_s1 (c := 9) (P := fun ci => P_fok P_cl P_Tb "OrchardQuery$Table" 15 ci 1) rfl ⟨_, _, _, "OrchardQuery$Table", rfl, by decide, (Or.inl rfl), (Or.inl w_3_146)⟩)) <|
  P_all_cons (P_lnk_st (by decide) (fun _ => ⟨P_sg 3 rfl, w_1_2, w_2_115, (Or.inr ⟨rfl, _, w_5_47⟩)⟩)) <|
  P_all_cons (P_lnk_get (P_s1 (c := 9) (P := fun ci => P_fok P_cl P_Tb "OrchardQuery$Table" 15 ci 1) rfl ⟨_, _, _, "OrchardQuery$Table", rfl, by decide, (Or.inl rfl), (Or.inl w_3_146)⟩)) <|
  P_all_cons (P_lnk_st (by decide) (fun _ => ⟨P_sg 3 rfl, w_1_2, w_2_115, (Or.inr ⟨rfl, _, w_5_47⟩)⟩)) <|
  P_all_cons (P_lnk_get (P_s1 (c := 9) (P := fun ci => P_fok P_cl P_Tb "OrchardQuery$Table" 15 ci 1) rfl ⟨_, _, _, "OrchardQuery$Table", rfl, by decide, (Or.inl rfl), (Or.inl w_3_146)⟩)) <|
  P_all_cons (P_lnk_st (by decide) (fun _ => ⟨P_sg 3 rfl, w_1_2, w_2_115, (Or.inr ⟨rfl, _, w_5_47⟩)⟩)) <|
  P_all_cons (P_lnk_get (P_s1 (c := 9) (P := fun ci => P_fok P_cl P_Tb "OrchardQuery$Table" 22 ci 3) rfl ⟨_, _, _, "OrchardQuery$Table", rfl, by decide, (Or.inl rfl), (Or.inl w_3_148)⟩)) <|
  P_all_cons (P_lnk_put (P_s1 (c := 9) (P := fun ci => P_pok P_cl P_Tb "OrchardQuery$Table" false 22 ci 3) rfl ⟨_, _, _, "OrchardQuery$Table", rfl, by decide, (Or.inl rfl), (Or.inl ⟨w_3_148, (Or.inl rfl)⟩)⟩)) <|
  P_all_cons (P_lnk_vi (P_vall (l := P_v115) rfl (P_all_cons (show P_vok _ _ _ 9 126 from ⟨_, rfl, rfl, w_1_4, w_5_50, (Or.inl ⟨P_sg 0 rfl, w_p_16, (Or.inl w_5_48)⟩)⟩) (P_all_nil)))) <|
  P_all_nil
set_option maxRecDepth 20000 in
theorem P_m123 : P_mstC 123 5 (Option.none : Option Jvm.ClassFile.FieldType) P_e123 [] := P_meth (mx := 5) (rt := (Option.none : Option Jvm.ClassFile.FieldType)) (hs := []) "OrchardQuery$Table" false prog_11_method_6_code [] rfl rfl rfl rfl (by decide +kernel) (by decide +kernel) (fun _ => P_g123) (by decide) (fun _ _ => by decide +kernel) (fun q => by cases q) (P_all_cons (by decide +kernel) <| P_all_cons (by decide +kernel) <| P_all_cons (by decide +kernel) <| P_all_nil) P_l123 (by decide +kernel) P_k123 (fun _ _ => P_hok_nil)
/-- OrchardQuery$Table.remove(I)V -/
def P_l124 : List (Nat × P_I) := [(6, .getfield 22, 9, 9, 3, [], []), (19, .getfield 15, 22, 9, 1, [], []), (27, .getfield 15, 30, 9, 1, [], []), (32, .getfield 15, 35, 9, 1, [], []), (38, .invokestatic 36, 41, 2, 178, [], []), (41, .invokestatic 29, 44, 3, 179, [], []), (52, .getfield 22, 55, 9, 3, [], []), (57, .putfield 22, 60, 9, 3, [], []), (61, .invokevirtual 33, 64, 0, 115, [], [])]
set_option maxRecDepth 20000 in
theorem P_k124 : ∀ q ∈ P_l124, P_lnk P_cl P_aty P_stat P_tx P_N0 P_Tb P_Y0 "OrchardQuery$Table" false prog_11_method_7_code [] q.1 q.2.1 q.2.2.2.1 q.2.2.2.2.1 :=
  P_all_cons (P_lnk_get (P_s1 (c := 9) (P := fun ci => P_fok P_cl P_Tb "OrchardQuery$Table" 22 ci 3) rfl ⟨_, _, _, "OrchardQuery$Table", rfl, by decide, (Or.inl rfl), (Or.inl w_3_148)⟩)) <|
  P_all_cons (P_lnk_get (P_s1 (c := 9) (P := fun ci => P_fok P_cl P_Tb "OrchardQuery$Table" 15 ci 1) rfl ⟨_, _, _, "OrchardQuery$Table", rfl, by decide, (Or.inl rfl), (Or.inl w_3_146)⟩)) <|
  P_all_cons (P_lnk_get (P_s1 (c := 9) (P := fun ci => P_fok P_cl P_Tb "OrchardQuery$Table" 15 ci 1) rfl ⟨_, _, _, "OrchardQuery$Table", rfl, by decide, (Or.inl rfl), (Or.inl w_3_146)⟩)) <|
  P_all_cons (P_lnk_get (P_s1 (c := 9) (P := fun ci => P_fok P_cl P_Tb "OrchardQuery$Table" 15 ci 1) rfl ⟨_, _, _, "OrchardQuery$Table", rfl, by decide, (Or.inl rfl), (Or.inl w_3_146)⟩)) <|
  P_all_cons (P_lnk_st (by decide) (fun _ => ⟨P_sg 2 rfl, w_1_2, w_1_225, (Or.inr ⟨rfl, _, w_1_224⟩)⟩)) <|
  P_all_cons (P_lnk_st (by decide) (fun _ => ⟨P_sg 3 rfl, w_1_2, w_2_115, (Or.inr ⟨rfl, _, w_5_47⟩)⟩)) <|
  P_all_cons (P_lnk_get (P_s1 (c := 9) (P := fun ci => P_fok P_cl P_Tb "OrchardQuery$Table" 22 ci 3) rfl ⟨_, _, _, "OrchardQuery$Table", rfl, by decide, (Or.inl rfl), (Or.inl w_3_148)⟩)) <|
  P_all_cons (P_lnk_put (P_s1 (c := 9) (P := fun ci => P_pok P_cl P_Tb "OrchardQuery$Table" false 22 ci 3) rfl ⟨_, _, _, "OrchardQuery$Table", rfl, by decide, (Or.inl rfl), (Or.inl ⟨w_3_148, (Or.inl rfl)⟩)⟩)) <|
  P_all_cons (P_lnk_vi (P_vall (l := P_v115) rfl (P_all_cons (show P_vok _ _ _ 9 126 from ⟨_, rfl, rfl, w_1_4, w_5_50, (Or.inl ⟨P_sg 0 rfl, w_p_16, (Or.inl w_5_48)⟩)⟩) (P_all_nil)))) <|
  P_all_nil
set_option maxRecDepth 20000 in
theorem P_m124 : P_mstC 124 3 (Option.none : Option Jvm.ClassFile.FieldType) P_e124 [] := P_meth (mx := 3) (rt := (Option.none : Option Jvm.ClassFile.FieldType)) (hs := []) "OrchardQuery$Table" false prog_11_method_7_code [] rfl rfl rfl rfl (by decide +kernel) (by decide +kernel) (fun _ => P_g124) (by decide) (fun _ _ => by decide +kernel) (fun q => by cases q) (P_all_cons (by decide +kernel) <| P_all_cons (by decide +kernel) <| P_all_cons (by decide +kernel) <| P_all_nil) P_l124 (by decide +kernel) P_k124 (fun _ _ => P_hok_nil)
/-- OrchardQuery$Table.varietyOf(I)I -/
def P_l125 : List (Nat × P_I) := [(1, .getfield 19, 4, 9, 2, [], []), (5, .invokestatic 36, 8, 2, 178, [], [])]
set_option maxRecDepth 20000 in
theorem P_k125 : ∀ q ∈ P_l125, P_lnk P_cl P_aty P_stat P_tx P_N0 P_Tb P_Y0 "OrchardQuery$Table" false prog_11_method_8_code [] q.1 q.2.1 q.2.2.2.1 q.2.2.2.2.1 :=
  P_all_cons (P_lnk_get (P_s1 (c := 9) (P := fun ci => P_fok P_cl P_Tb "OrchardQuery$Table" 19 ci 2) rfl ⟨_, _, _, "OrchardQuery$Table", rfl, by decide, (Or.inl rfl), (Or.inl w_3_147)⟩)) <|
  P_all_cons (P_lnk_st (by decide) (fun _ => ⟨P_sg 2 rfl, w_1_2, w_1_225, (Or.inr ⟨rfl, _, w_1_224⟩)⟩)) <|
  P_all_nil
set_option maxRecDepth 20000 in
theorem P_m125 : P_mstC 125 2 (Option.some Jvm.ClassFile.FieldType.int) P_e125 [] := P_meth (mx := 2) (rt := (Option.some Jvm.ClassFile.FieldType.int)) (hs := []) "OrchardQuery$Table" false prog_11_method_8_code [] rfl rfl rfl rfl (by decide +kernel) (by decide +kernel) (fun _ => P_g125) (by decide) (fun _ _ => by decide +kernel) (fun q => by cases q) (P_all_cons (by decide +kernel) <| P_all_nil) P_l125 (by decide +kernel) P_k125 (fun _ _ => P_hok_nil)
/-- OrchardQuery$Table.countVarieties()V -/
def P_l126 : List (Nat × P_I) := [(4, .getfield 9, 7, 9, 0, [], []), (16, .getfield 22, 19, 9, 3, [], []), (25, .invokevirtual 40, 28, 2, 54, [], []), (42, .getfield 19, 45, 9, 2, [], []), (47, .invokestatic 29, 50, 3, 179, [], [])]
set_option maxRecDepth 20000 in
theorem P_k126 : ∀ q ∈ P_l126, P_lnk P_cl P_aty P_stat P_tx P_N0 P_Tb P_Y0 "OrchardQuery$Table" false prog_11_method_9_code [] q.1 q.2.1 q.2.2.2.1 q.2.2.2.2.1 :=
  P_all_cons (P_lnk_get (P_s1 (c := 9) (P := fun ci => P_fok P_cl P_Tb "OrchardQuery$Table" 9 ci 0) rfl ⟨_, _, _, "OrchardQuery$Table", rfl, by decide, (Or.inl rfl), (Or.inl w_3_145)⟩)) <|
  P_all_cons (P_lnk_get (P_s1 (c := 9) (P := fun ci => P_fok P_cl P_Tb "OrchardQuery$Table" 22 ci 3) rfl ⟨_, _, _, "OrchardQuery$Table", rfl, by decide, (Or.inl rfl), (Or.inl w_3_148)⟩)) <|
  P_all_cons (P_lnk_vi (P_vall (l := P_v54) rfl (P_all_cons (show P_vok _ _ _ 9 127 from ⟨_, rfl, rfl, w_1_4, w_2_165, (Or.inl ⟨P_sg 2 rfl, w_2_166, (Or.inl w_5_52)⟩)⟩) (P_all_nil)))) <|
  P_all_cons (P_lnk_get (P_s1 (c := 9) (P := fun ci => P_fok P_cl P_Tb "OrchardQuery$Table" 19 ci 2) rfl ⟨_, _, _, "OrchardQuery$Table", rfl, by decide, (Or.inl rfl), (Or.inl w_3_147)⟩)) <|
  P_all_cons (P_lnk_st (by decide) (fun _ => ⟨P_sg 3 rfl, w_1_2, w_2_115, (Or.inr ⟨rfl, _, w_5_47⟩)⟩)) <|
  P_all_nil
set_option maxRecDepth 20000 in
theorem P_m126 : P_mstC 126 4 (Option.none : Option Jvm.ClassFile.FieldType) P_e126 [] := P_meth (mx := 4) (rt := (Option.none : Option Jvm.ClassFile.FieldType)) (hs := []) "OrchardQuery$Table" false prog_11_method_9_code [] rfl rfl rfl rfl (by decide +kernel) (by decide +kernel) (fun _ => P_g126) (by decide) (fun _ _ => by decide +kernel) (fun q => by cases q) (P_all_cons (by decide +kernel) <| P_all_cons (by decide +kernel) <| P_all_nil) P_l126 (by decide +kernel) P_k126 (fun _ _ => P_hok_nil)
/-- OrchardQuery$Table.firstAlike(II)I -/
def P_l127 : List (Nat × P_I) := [(3, .invokevirtual 44, 6, 2, 55, [], []), (19, .getfield 22, 22, 9, 3, [], []), (29, .invokevirtual 44, 32, 2, 55, [], [])]
set_option maxRecDepth 20000 in
theorem P_k127 : ∀ q ∈ P_l127, P_lnk P_cl P_aty P_stat P_tx P_N0 P_Tb P_Y0 "OrchardQuery$Table" false prog_11_method_10_code [] q.1 q.2.1 q.2.2.2.1 q.2.2.2.2.1 :=
  P_all_cons (P_lnk_vi (P_vall (l := P_v55) rfl (P_all_cons (show P_vok _ _ _ 9 122 from ⟨_, rfl, rfl, w_1_4, w_2_134, (Or.inl ⟨P_sg 2 rfl, w_2_135, (Or.inl w_2_168)⟩)⟩) (P_all_nil)))) <|
  P_all_cons (P_lnk_get (P_s1 (c := 9) (P := fun ci => P_fok P_cl P_Tb "OrchardQuery$Table" 22 ci 3) rfl ⟨_, _, _, "OrchardQuery$Table", rfl, by decide, (Or.inl rfl), (Or.inl w_3_148)⟩)) <|
  P_all_cons (P_lnk_vi (P_vall (l := P_v55) rfl (P_all_cons (show P_vok _ _ _ 9 122 from ⟨_, rfl, rfl, w_1_4, w_2_134, (Or.inl ⟨P_sg 2 rfl, w_2_135, (Or.inl w_2_168)⟩)⟩) (P_all_nil)))) <|
  P_all_nil
set_option maxRecDepth 20000 in
theorem P_m127 : P_mstC 127 5 (Option.some Jvm.ClassFile.FieldType.int) P_e127 [] := P_meth (mx := 5) (rt := (Option.some Jvm.ClassFile.FieldType.int)) (hs := []) "OrchardQuery$Table" false prog_11_method_10_code [] rfl rfl rfl rfl (by decide +kernel) (by decide +kernel) (fun _ => P_g127) (by decide) (fun _ _ => by decide +kernel) (fun q => by cases q) (P_all_cons (by decide +kernel) <| P_all_cons (by decide +kernel) <| P_all_nil) P_l127 (by decide +kernel) P_k127 (fun _ _ => P_hok_nil)
/-- OrchardQuery$Walk.<init>(LOrchardQuery$Form;LOrchardQuery$Plan;)V -/
def P_l128 : List (Nat × P_I) := [(1, .invokespecial 3, 4, 0, 9000, [], []), (6, .putfield 9, 9, 50, 0, [], []), (11, .putfield 15, 14, 50, 1, [], []), (16, .newarray .int, 18, 0, 0, [], []), (18, .putfield 19, 21, 50, 2, [], [])]
set_option maxRecDepth 20000 in
theorem P_k128 : ∀ q ∈ P_l128, P_lnk P_cl P_aty P_stat P_tx P_N0 P_Tb P_Y0 "OrchardQuery$Walk" true prog_12_method_1_code [] q.1 q.2.1 q.2.2.2.1 q.2.2.2.2.1 :=
  P_all_cons (P_lnk_oj (fun _ => ⟨w_4_61, w_1_60, w_1_61⟩)) <|
  P_all_cons (P_lnk_put (P_s2 (c := 50) (P := fun ci => P_pok P_cl P_Tb "OrchardQuery$Walk" true 9 ci 0) rfl (P_all_cons ⟨_, _, _, "OrchardQuery$Walk", rfl, by decide, (Or.inl rfl), (Or.inl ⟨w_4_90, (Or.inr ⟨rfl, rfl, rfl⟩)⟩)⟩ (P_all_cons ⟨_, _, _, "OrchardQuery$Walk", rfl, by decide, (Or.inl rfl), (Or.inl ⟨w_4_90, (Or.inr ⟨rfl, rfl, rfl⟩)⟩)⟩ (P_all_nil))))) <|
  P_all_cons (P_lnk_put (P_s2 (c := 50) (P := fun ci => P_pok P_cl P_Tb "OrchardQuery$Walk" true 15 ci 1) rfl (P_all_cons ⟨_, _, _, "OrchardQuery$Walk", rfl, by decide, (Or.inl rfl), (Or.inl ⟨w_4_93, (Or.inr ⟨rfl, rfl, rfl⟩)⟩)⟩ (P_all_cons ⟨_, _, _, "OrchardQuery$Walk", rfl, by decide, (Or.inl rfl), (Or.inl ⟨w_4_93, (Or.inr ⟨rfl, rfl, rfl⟩)⟩)⟩ (P_all_nil))))) <|
  P_all_cons (P_lnk_nwa rfl w_3_158) <|
  P_all_cons (P_lnk_put (P_s2 (c := 50) (P := fun ci => P_pok P_cl P_Tb "OrchardQuery$Walk" true 19 ci 2) rfl (P_all_cons ⟨_, _, _, "OrchardQuery$Walk", rfl, by decide, (Or.inl rfl), (Or.inl ⟨w_4_96, (Or.inr ⟨rfl, rfl, rfl⟩)⟩)⟩ (P_all_cons ⟨_, _, _, "OrchardQuery$Walk", rfl, by decide, (Or.inl rfl), (Or.inl ⟨w_4_96, (Or.inr ⟨rfl, rfl, rfl⟩)⟩)⟩ (P_all_nil))))) <|
  P_all_nil
set_option maxRecDepth 20000 in
theorem P_m128 : P_mstC 128 3 (Option.none : Option Jvm.ClassFile.FieldType) P_e128 [] := P_meth (mx := 3) (rt := (Option.none : Option Jvm.ClassFile.FieldType)) (hs := []) "OrchardQuery$Walk" true prog_12_method_1_code [] rfl rfl rfl rfl (by decide +kernel) (by decide +kernel) (fun _ => P_g128) (by decide) (fun t q => by cases q) (fun _ => rfl) (P_all_cons (by decide +kernel) <| P_all_nil) P_l128 (by decide +kernel) P_k128 (fun _ _ => P_hok_nil)
/-- OrchardQuery$Walk.reads()I -/
def P_l129 : List (Nat × P_I) := [(1, .getfield 23, 4, 50, 5, [], [])]
set_option maxRecDepth 20000 in
theorem P_k129 : ∀ q ∈ P_l129, P_lnk P_cl P_aty P_stat P_tx P_N0 P_Tb P_Y0 "OrchardQuery$Walk" false prog_12_method_3_code [] q.1 q.2.1 q.2.2.2.1 q.2.2.2.2.1 :=
  P_all_cons (P_lnk_get (P_s2 (c := 50) (P := fun ci => P_fok P_cl P_Tb "OrchardQuery$Walk" 23 ci 5) rfl (P_all_cons ⟨_, _, _, "OrchardQuery$Walk", rfl, by decide, (Or.inl rfl), (Or.inl w_4_99)⟩ (P_all_cons ⟨_, _, _, "OrchardQuery$Walk", rfl, by decide, (Or.inl rfl), (Or.inl w_4_99)⟩ (P_all_nil))))) <|
  P_all_nil
set_option maxRecDepth 20000 in
theorem P_m129 : P_mstC 129 1 (Option.some Jvm.ClassFile.FieldType.int) P_e129 [] := P_meth (mx := 1) (rt := (Option.some Jvm.ClassFile.FieldType.int)) (hs := []) "OrchardQuery$Walk" false prog_12_method_3_code [] rfl rfl rfl rfl (by decide +kernel) (by decide +kernel) (fun _ => P_g129) (by decide) (fun _ _ => by decide +kernel) (fun q => by cases q) (P_all_cons (by decide +kernel) <| P_all_nil) P_l129 (by decide +kernel) P_k129 (fun _ _ => P_hok_nil)
/-- OrchardQuery$Walk.checks()I -/
def P_l130 : List (Nat × P_I) := [(1, .getfield 27, 4, 50, 6, [], [])]
set_option maxRecDepth 20000 in
theorem P_k130 : ∀ q ∈ P_l130, P_lnk P_cl P_aty P_stat P_tx P_N0 P_Tb P_Y0 "OrchardQuery$Walk" false prog_12_method_4_code [] q.1 q.2.1 q.2.2.2.1 q.2.2.2.2.1 :=
  P_all_cons (P_lnk_get (P_s2 (c := 50) (P := fun ci => P_fok P_cl P_Tb "OrchardQuery$Walk" 27 ci 6) rfl (P_all_cons ⟨_, _, _, "OrchardQuery$Walk", rfl, by decide, (Or.inl rfl), (Or.inl w_4_100)⟩ (P_all_cons ⟨_, _, _, "OrchardQuery$Walk", rfl, by decide, (Or.inl rfl), (Or.inl w_4_100)⟩ (P_all_nil))))) <|
  P_all_nil
set_option maxRecDepth 20000 in
theorem P_m130 : P_mstC 130 1 (Option.some Jvm.ClassFile.FieldType.int) P_e130 [] := P_meth (mx := 1) (rt := (Option.some Jvm.ClassFile.FieldType.int)) (hs := []) "OrchardQuery$Walk" false prog_12_method_4_code [] rfl rfl rfl rfl (by decide +kernel) (by decide +kernel) (fun _ => P_g130) (by decide) (fun _ _ => by decide +kernel) (fun q => by cases q) (P_all_cons (by decide +kernel) <| P_all_nil) P_l130 (by decide +kernel) P_k130 (fun _ _ => P_hok_nil)
/-- OrchardQuery$Walk.meetings()I -/
def P_l131 : List (Nat × P_I) := [(1, .getfield 30, 4, 50, 7, [], [])]
set_option maxRecDepth 20000 in
theorem P_k131 : ∀ q ∈ P_l131, P_lnk P_cl P_aty P_stat P_tx P_N0 P_Tb P_Y0 "OrchardQuery$Walk" false prog_12_method_5_code [] q.1 q.2.1 q.2.2.2.1 q.2.2.2.2.1 :=
  P_all_cons (P_lnk_get (P_s2 (c := 50) (P := fun ci => P_fok P_cl P_Tb "OrchardQuery$Walk" 30 ci 7) rfl (P_all_cons ⟨_, _, _, "OrchardQuery$Walk", rfl, by decide, (Or.inl rfl), (Or.inl w_4_101)⟩ (P_all_cons ⟨_, _, _, "OrchardQuery$Walk", rfl, by decide, (Or.inl rfl), (Or.inl w_4_101)⟩ (P_all_nil))))) <|
  P_all_nil
set_option maxRecDepth 20000 in
theorem P_m131 : P_mstC 131 1 (Option.some Jvm.ClassFile.FieldType.int) P_e131 [] := P_meth (mx := 1) (rt := (Option.some Jvm.ClassFile.FieldType.int)) (hs := []) "OrchardQuery$Walk" false prog_12_method_5_code [] rfl rfl rfl rfl (by decide +kernel) (by decide +kernel) (fun _ => P_g131) (by decide) (fun _ _ => by decide +kernel) (fun q => by cases q) (P_all_cons (by decide +kernel) <| P_all_nil) P_l131 (by decide +kernel) P_k131 (fun _ _ => P_hok_nil)
/-- OrchardQuery$Walk.meeting()I -/
def P_l132 : List (Nat × P_I) := [(1, .getfield 19, 4, 50, 2, [], []), (5, .invokestatic 33, 8, 2, 178, [], []), (11, .getfield 19, 14, 50, 2, [], []), (15, .invokestatic 33, 18, 2, 178, [], []), (21, .getfield 19, 24, 50, 2, [], []), (25, .invokestatic 33, 28, 2, 178, [], [])]
set_option maxRecDepth 20000 in
theorem P_k132 : ∀ q ∈ P_l132, P_lnk P_cl P_aty P_stat P_tx P_N0 P_Tb P_Y0 "OrchardQuery$Walk" false prog_12_method_6_code [] q.1 q.2.1 q.2.2.2.1 q.2.2.2.2.1 :=
  P_all_cons (P_lnk_get (P_s2 (c := 50) (P := fun ci => P_fok P_cl P_Tb "OrchardQuery$Walk" 19 ci 2) rfl (P_all_cons ⟨_, _, _, "OrchardQuery$Walk", rfl, by decide, (Or.inl rfl), (Or.inl w_4_96)⟩ (P_all_cons ⟨_, _, _, "OrchardQuery$Walk", rfl, by decide, (Or.inl rfl), (Or.inl w_4_96)⟩ (P_all_nil))))) <|
  P_all_cons (P_lnk_st (by decide) (fun _ => ⟨P_sg 2 rfl, w_1_2, w_1_225, (Or.inr ⟨rfl, _, w_2_131⟩)⟩)) <|
  P_all_cons (P_lnk_get (P_s2 (c := 50) (P := fun ci => P_fok P_cl P_Tb "OrchardQuery$Walk" 19 ci 2) rfl (P_all_cons ⟨_, _, _, "OrchardQuery$Walk", rfl, by decide, (Or.inl rfl), (Or.inl w_4_96)⟩ (P_all_cons ⟨_, _, _, "OrchardQuery$Walk", rfl, by decide, (Or.inl rfl), (Or.inl w_4_96)⟩ (P_all_nil))))) <|
  P_all_cons (P_lnk_st (by decide) (fun _ => ⟨P_sg 2 rfl, w_1_2, w_1_225, (Or.inr ⟨rfl, _, w_2_131⟩)⟩)) <|
  P_all_cons (P_lnk_get (P_s2 (c := 50) (P := fun ci => P_fok P_cl P_Tb "OrchardQuery$Walk" 19 ci 2) rfl (P_all_cons ⟨_, _, _, "OrchardQuery$Walk", rfl, by decide, (Or.inl rfl), (Or.inl w_4_96)⟩ (P_all_cons ⟨_, _, _, "OrchardQuery$Walk", rfl, by decide, (Or.inl rfl), (Or.inl w_4_96)⟩ (P_all_nil))))) <|
  P_all_cons (P_lnk_st (by decide) (fun _ => ⟨P_sg 2 rfl, w_1_2, w_1_225, (Or.inr ⟨rfl, _, w_2_131⟩)⟩)) <|
  P_all_nil
set_option maxRecDepth 20000 in
theorem P_m132 : P_mstC 132 1 (Option.some Jvm.ClassFile.FieldType.int) P_e132 [] := P_meth (mx := 1) (rt := (Option.some Jvm.ClassFile.FieldType.int)) (hs := []) "OrchardQuery$Walk" false prog_12_method_6_code [] rfl rfl rfl rfl (by decide +kernel) (by decide +kernel) (fun _ => P_g132) (by decide) (fun _ _ => by decide +kernel) (fun q => by cases q) (P_all_cons (by decide +kernel) <| P_all_cons (by decide +kernel) <| P_all_nil) P_l132 (by decide +kernel) P_k132 (fun _ _ => P_hok_nil)
/-- OrchardQuery$Walk.walk(II)V -/
def P_l133 : List (Nat × P_I) := [(2, .putfield 37, 5, 50, 3, [], []), (7, .putfield 40, 10, 50, 4, [], []), (12, .putfield 23, 15, 50, 5, [], []), (17, .putfield 27, 20, 50, 6, [], []), (22, .putfield 30, 25, 50, 7, [], []), (26, .getfield 19, 29, 50, 2, [], []), (30, .invokestatic 43, 33, 2, 180, [], []), (35, .invokevirtual 47, 38, 1, 116, [], [])]
set_option maxRecDepth 20000 in
theorem P_k133 : ∀ q ∈ P_l133, P_lnk P_cl P_aty P_stat P_tx P_N0 P_Tb P_Y0 "OrchardQuery$Walk" false prog_12_method_7_code [] q.1 q.2.1 q.2.2.2.1 q.2.2.2.2.1 :=
  P_all_cons (P_lnk_put (P_s2 (c := 50) (P := fun ci => P_pok P_cl P_Tb "OrchardQuery$Walk" false 37 ci 3) rfl (P_all_cons ⟨_, _, _, "OrchardQuery$Walk", rfl, by decide, (Or.inl rfl), (Or.inl ⟨w_4_97, (Or.inl rfl)⟩)⟩ (P_all_cons ⟨_, _, _, "OrchardQuery$Walk", rfl, by decide, (Or.inl rfl), (Or.inl ⟨w_4_97, (Or.inl rfl)⟩)⟩ (P_all_nil))))) <|
  P_all_cons (P_lnk_put (P_s2 (c := 50) (P := fun ci => P_pok P_cl P_Tb "OrchardQuery$Walk" false 40 ci 4) rfl (P_all_cons ⟨_, _, _, "OrchardQuery$Walk", rfl, by decide, (Or.inl rfl), (Or.inl ⟨w_4_98, (Or.inl rfl)⟩)⟩ (P_all_cons ⟨_, _, _, "OrchardQuery$Walk", rfl, by decide, (Or.inl rfl), (Or.inl ⟨w_4_98, (Or.inl rfl)⟩)⟩ (P_all_nil))))) <|
  P_all_cons (P_lnk_put (P_s2 (c := 50) (P := fun ci => P_pok P_cl P_Tb "OrchardQuery$Walk" false 23 ci 5) rfl (P_all_cons ⟨_, _, _, "OrchardQuery$Walk", rfl, by decide, (Or.inl rfl), (Or.inl ⟨w_4_99, (Or.inl rfl)⟩)⟩ (P_all_cons ⟨_, _, _, "OrchardQuery$Walk", rfl, by decide, (Or.inl rfl), (Or.inl ⟨w_4_99, (Or.inl rfl)⟩)⟩ (P_all_nil))))) <|
  P_all_cons (P_lnk_put (P_s2 (c := 50) (P := fun ci => P_pok P_cl P_Tb "OrchardQuery$Walk" false 27 ci 6) rfl (P_all_cons ⟨_, _, _, "OrchardQuery$Walk", rfl, by decide, (Or.inl rfl), (Or.inl ⟨w_4_100, (Or.inl rfl)⟩)⟩ (P_all_cons ⟨_, _, _, "OrchardQuery$Walk", rfl, by decide, (Or.inl rfl), (Or.inl ⟨w_4_100, (Or.inl rfl)⟩)⟩ (P_all_nil))))) <|
  P_all_cons (P_lnk_put (P_s2 (c := 50) (P := fun ci => P_pok P_cl P_Tb "OrchardQuery$Walk" false 30 ci 7) rfl (P_all_cons ⟨_, _, _, "OrchardQuery$Walk", rfl, by decide, (Or.inl rfl), (Or.inl ⟨w_4_101, (Or.inl rfl)⟩)⟩ (P_all_cons ⟨_, _, _, "OrchardQuery$Walk", rfl, by decide, (Or.inl rfl), (Or.inl ⟨w_4_101, (Or.inl rfl)⟩)⟩ (P_all_nil))))) <|
  P_all_cons (P_lnk_get (P_s2 (c := 50) (P := fun ci => P_fok P_cl P_Tb "OrchardQuery$Walk" 19 ci 2) rfl (P_all_cons ⟨_, _, _, "OrchardQuery$Walk", rfl, by decide, (Or.inl rfl), (Or.inl w_4_96)⟩ (P_all_cons ⟨_, _, _, "OrchardQuery$Walk", rfl, by decide, (Or.inl rfl), (Or.inl w_4_96)⟩ (P_all_nil))))) <|
  P_all_cons (P_lnk_st (by decide) (fun _ => ⟨P_sg 2 rfl, w_1_2, w_2_73, (Or.inr ⟨rfl, _, w_2_105⟩)⟩)) <|
  P_all_cons (P_lnk_vi (P_vall (l := P_v116) rfl (P_all_cons (show P_vok _ _ _ 0 134 from ⟨_, rfl, rfl, w_1_9, w_2_108, (Or.inr ⟨⟨"OrchardQuery$Walk", "goThrough", "(I)V"⟩, "OrchardQuery$Walk", P_sg 1 rfl, by decide, w_2_106, w_6_182, w_x_1, (Or.inl ⟨w_2_108, _, _, _, w_2_109⟩)⟩)⟩) (P_all_cons (show P_vok _ _ _ 2 134 from ⟨_, rfl, rfl, w_1_9, w_2_108, (Or.inr ⟨⟨"OrchardQuery$Walk", "goThrough", "(I)V"⟩, "OrchardQuery$Walk", P_sg 1 rfl, by decide, w_2_106, w_6_182, w_x_0, (Or.inl ⟨w_2_108, _, _, _, w_2_109⟩)⟩)⟩) (P_all_nil))))) <|
  P_all_nil
set_option maxRecDepth 20000 in
theorem P_m133 : P_mstC 133 3 (Option.none : Option Jvm.ClassFile.FieldType) P_e133 [] := P_meth (mx := 3) (rt := (Option.none : Option Jvm.ClassFile.FieldType)) (hs := []) "OrchardQuery$Walk" false prog_12_method_7_code [] rfl rfl rfl rfl (by decide +kernel) (by decide +kernel) (fun _ => P_g133) (by decide) (fun _ _ => by decide +kernel) (fun q => by cases q) (P_all_cons (by decide +kernel) <| P_all_cons (by decide +kernel) <| P_all_nil) P_l133 (by decide +kernel) P_k133 (fun _ _ => P_hok_nil)
/-- OrchardQuery$Walk.goThrough(I)V -/
def P_l134 : List (Nat × P_I) := [(2, .getfield 9, 5, 50, 0, [], []), (5, .invokevirtual 51, 8, 0, 58, [], []), (18, .getfield 15, 21, 50, 1, [], []), (22, .invokevirtual 57, 25, 1, 66, [], []), (27, .getfield 9, 30, 50, 0, [], []), (31, .invokevirtual 63, 34, 1, 48, [], []), (34, .invokevirtual 67, 37, 0, 51, [], []), (48, .getfield 30, 51, 50, 7, [], []), (52, .getfield 40, 55, 50, 4, [], []), (59, .getfield 19, 62, 50, 2, [], []), (65, .invokestatic 72, 68, 3, 179, [], []), (70, .getfield 23, 73, 50, 5, [], []), (75, .putfield 23, 78, 50, 5, [], []), (80, .invokevirtual 76, 83, 1, 117, [], []), (93, .getfield 9, 96, 50, 0, [], []), (96, .invokevirtual 51, 99, 0, 58, [], []), (106, .invokevirtual 47, 109, 1, 116, [], []), (114, .getfield 30, 117, 50, 7, [], []), (119, .putfield 30, 122, 50, 7, [], []), (123, .invokevirtual 80, 126, 0, 118, [], [])]
set_option maxRecDepth 20000 in
theorem P_k134 : ∀ q ∈ P_l134, P_lnk P_cl P_aty P_stat P_tx P_N0 P_Tb P_Y0 "OrchardQuery$Walk" false prog_12_method_8_code [] q.1 q.2.1 q.2.2.2.1 q.2.2.2.2.1 :=
  P_all_cons (P_lnk_get (P_s2 (c := 50) (P := fun ci => P_fok P_cl P_Tb "OrchardQuery$Walk" 9 ci 0) rfl (P_all_cons ⟨_, _, _, "OrchardQuery$Walk", rfl, by decide, (Or.inl rfl), (Or.inl w_4_90)⟩ (P_all_cons ⟨_, _, _, "OrchardQuery$Walk", rfl, by decide, (Or.inl rfl), (Or.inl w_4_90)⟩ (P_all_nil))))) <|
  P_all_cons (P_lnk_vi (P_vall (l := P_v58) rfl (P_all_cons (show P_vok _ _ _ 3 30 from ⟨_, rfl, rfl, w_1_5, w_1_126, (Or.inl ⟨P_sg 0 rfl, w_1_127, (Or.inl w_2_110)⟩)⟩) (P_all_nil)))) <|
  P_all_cons (P_lnk_get (P_s2 (c := 50) (P := fun ci => P_fok P_cl P_Tb "OrchardQuery$Walk" 15 ci 1) rfl (P_all_cons ⟨_, _, _, "OrchardQuery$Walk", rfl, by decide, (Or.inl rfl), (Or.inl w_4_93)⟩ (P_all_cons ⟨_, _, _, "OrchardQuery$Walk", rfl, by decide, (Or.inl rfl), (Or.inl w_4_93)⟩ (P_all_nil))))) <|
  P_all_cons (P_lnk_vi (P_vall (l := P_v66) rfl (P_all_cons (show P_vok _ _ _ 5 58 from ⟨_, rfl, rfl, w_1_6, w_1_237, (Or.inl ⟨P_sg 1 rfl, w_1_238, (Or.inl w_2_111)⟩)⟩) (P_all_nil)))) <|
  P_all_cons (P_lnk_get (P_s2 (c := 50) (P := fun ci => P_fok P_cl P_Tb "OrchardQuery$Walk" 9 ci 0) rfl (P_all_cons ⟨_, _, _, "OrchardQuery$Walk", rfl, by decide, (Or.inl rfl), (Or.inl w_4_90)⟩ (P_all_cons ⟨_, _, _, "OrchardQuery$Walk", rfl, by decide, (Or.inl rfl), (Or.inl w_4_90)⟩ (P_all_nil))))) <|
  P_all_cons (P_lnk_vi (P_vall (l := P_v48) rfl (P_all_cons (show P_vok _ _ _ 3 38 from ⟨_, rfl, rfl, w_1_5, w_1_214, (Or.inl ⟨P_sg 1 rfl, w_1_215, (Or.inl w_2_112)⟩)⟩) (P_all_nil)))) <|
  P_all_cons (P_lnk_vi (P_vall (l := P_v51) rfl (P_all_cons (show P_vok _ _ _ 9 120 from ⟨_, rfl, rfl, w_1_4, w_2_18, (Or.inl ⟨P_sg 0 rfl, w_2_19, (Or.inl w_2_113)⟩)⟩) (P_all_nil)))) <|
  P_all_cons (P_lnk_get (P_s2 (c := 50) (P := fun ci => P_fok P_cl P_Tb "OrchardQuery$Walk" 30 ci 7) rfl (P_all_cons ⟨_, _, _, "OrchardQuery$Walk", rfl, by decide, (Or.inl rfl), (Or.inl w_4_101)⟩ (P_all_cons ⟨_, _, _, "OrchardQuery$Walk", rfl, by decide, (Or.inl rfl), (Or.inl w_4_101)⟩ (P_all_nil))))) <|
  P_all_cons (P_lnk_get (P_s2 (c := 50) (P := fun ci => P_fok P_cl P_Tb "OrchardQuery$Walk" 40 ci 4) rfl (P_all_cons ⟨_, _, _, "OrchardQuery$Walk", rfl, by decide, (Or.inl rfl), (Or.inl w_4_98)⟩ (P_all_cons ⟨_, _, _, "OrchardQuery$Walk", rfl, by decide, (Or.inl rfl), (Or.inl w_4_98)⟩ (P_all_nil))))) <|
  P_all_cons (P_lnk_get (P_s2 (c := 50) (P := fun ci => P_fok P_cl P_Tb "OrchardQuery$Walk" 19 ci 2) rfl (P_all_cons ⟨_, _, _, "OrchardQuery$Walk", rfl, by decide, (Or.inl rfl), (Or.inl w_4_96)⟩ (P_all_cons ⟨_, _, _, "OrchardQuery$Walk", rfl, by decide, (Or.inl rfl), (Or.inl w_4_96)⟩ (P_all_nil))))) <|
  P_all_cons (P_lnk_st (by decide) (fun _ => ⟨P_sg 3 rfl, w_1_2, w_2_115, (Or.inr ⟨rfl, _, w_2_114⟩)⟩)) <|
  P_all_cons (P_lnk_get (P_s2 (c := 50) (P := fun ci => P_fok P_cl P_Tb "OrchardQuery$Walk" 23 ci 5) rfl (P_all_cons ⟨_, _, _, "OrchardQuery$Walk", rfl, by decide, (Or.inl rfl), (Or.inl w_4_99)⟩ (P_all_cons ⟨_, _, _, "OrchardQuery$Walk", rfl, by decide, (Or.inl rfl), (Or.inl w_4_99)⟩ (P_all_nil))))) <|
  P_all_cons (P_lnk_put (P_s2 (c := 50) (P := fun ci => P_pok P_cl P_Tb "OrchardQuery$Walk" false 23 ci 5) rfl (P_all_cons ⟨_, _, _, "OrchardQuery$Walk", rfl, by decide, (Or.inl rfl), (Or.inl ⟨w_4_99, (Or.inl rfl)⟩)⟩ (P_all_cons ⟨_, _, _, "OrchardQuery$Walk", rfl, by decide, (Or.inl rfl), (Or.inl ⟨w_4_99, (Or.inl rfl)⟩)⟩ (P_all_nil))))) <|
  P_all_cons (P_lnk_vi (P_vall (l := P_v117) rfl (P_all_cons (show P_vok _ _ _ 0 135 from ⟨_, rfl, rfl, w_1_9, w_2_119, (Or.inr ⟨⟨"OrchardQuery$Walk", "holdsAt", "(I)Z"⟩, "OrchardQuery$Walk", P_sg 1 rfl, by decide, w_2_117, w_6_183, w_x_3, (Or.inl ⟨w_2_119, _, _, _, w_2_120⟩)⟩)⟩) (P_all_cons (show P_vok _ _ _ 2 135 from ⟨_, rfl, rfl, w_1_9, w_2_119, (Or.inr ⟨⟨"OrchardQuery$Walk", "holdsAt", "(I)Z"⟩, "OrchardQuery$Walk", P_sg 1 rfl, by decide, w_2_117, w_6_183, w_x_2, (Or.inl ⟨w_2_119, _, _, _, w_2_120⟩)⟩)⟩) (P_all_nil))))) <|
  P_all_cons (P_lnk_get (P_s2 (c := 50) (P := fun ci => P_fok P_cl P_Tb "OrchardQuery$Walk" 9 ci 0) rfl (P_all_cons ⟨_, _, _, "OrchardQuery$Walk", rfl, by decide, (Or.inl rfl), (Or.inl w_4_90)⟩ (P_all_cons ⟨_, _, _, "OrchardQuery$Walk", rfl, by decide, (Or.inl rfl), (Or.inl w_4_90)⟩ (P_all_nil))))) <|
  P_all_cons (P_lnk_vi (P_vall (l := P_v58) rfl (P_all_cons (show P_vok _ _ _ 3 30 from ⟨_, rfl, rfl, w_1_5, w_1_126, (Or.inl ⟨P_sg 0 rfl, w_1_127, (Or.inl w_2_110)⟩)⟩) (P_all_nil)))) <|
  P_all_cons (P_lnk_vi (P_vall (l := P_v116) rfl (P_all_cons (show P_vok _ _ _ 0 134 from ⟨_, rfl, rfl, w_1_9, w_2_108, (Or.inr ⟨⟨"OrchardQuery$Walk", "goThrough", "(I)V"⟩, "OrchardQuery$Walk", P_sg 1 rfl, by decide, w_2_106, w_6_182, w_x_1, (Or.inl ⟨w_2_108, _, _, _, w_2_109⟩)⟩)⟩) (P_all_cons (show P_vok _ _ _ 2 134 from ⟨_, rfl, rfl, w_1_9, w_2_108, (Or.inr ⟨⟨"OrchardQuery$Walk", "goThrough", "(I)V"⟩, "OrchardQuery$Walk", P_sg 1 rfl, by decide, w_2_106, w_6_182, w_x_0, (Or.inl ⟨w_2_108, _, _, _, w_2_109⟩)⟩)⟩) (P_all_nil))))) <|
  P_all_cons (P_lnk_get (P_s2 (c := 50) (P := fun ci => P_fok P_cl P_Tb "OrchardQuery$Walk" 30 ci 7) rfl (P_all_cons ⟨_, _, _, "OrchardQuery$Walk", rfl, by decide, (Or.inl rfl), (Or.inl w_4_101)⟩ (P_all_cons ⟨_, _, _, "OrchardQuery$Walk", rfl, by decide, (Or.inl rfl), (Or.inl w_4_101)⟩ (P_all_nil))))) <|
  P_all_cons (P_lnk_put (P_s2 (c := 50) (P := fun ci => P_pok P_cl P_Tb "OrchardQuery$Walk" false 30 ci 7) rfl (P_all_cons ⟨_, _, _, "OrchardQuery$Walk", rfl, by decide, (Or.inl rfl), (Or.inl ⟨w_4_101, (Or.inl rfl)⟩)⟩ (P_all_cons ⟨_, _, _, "OrchardQuery$Walk", rfl, by decide, (Or.inl rfl), (Or.inl ⟨w_4_101, (Or.inl rfl)⟩)⟩ (P_all_nil))))) <|
  P_all_cons (P_lnk_vi (P_vall (l := P_v118) rfl (P_all_cons (show P_vok _ _ _ 0 9 from ⟨_, rfl, rfl, w_1_10, w_2_141, (Or.inr ⟨⟨"OrchardQuery$Walk", "meet", "()V"⟩, "OrchardQuery$Walk", P_sg 0 rfl, by decide, w_2_137, w_2_139, w_2_140, (Or.inr w_2_138)⟩)⟩) (P_all_cons (show P_vok _ _ _ 2 21 from ⟨_, rfl, rfl, w_1_12, w_2_200, (Or.inr ⟨⟨"OrchardQuery$Walk", "meet", "()V"⟩, "OrchardQuery$Walk", P_sg 0 rfl, by decide, w_2_137, w_2_139, w_2_199, (Or.inr w_2_138)⟩)⟩) (P_all_nil))))) <|
  P_all_nil
set_option maxRecDepth 20000 in
theorem P_m134 : P_mstC 134 5 (Option.none : Option Jvm.ClassFile.FieldType) P_e134 [] := P_meth (mx := 5) (rt := (Option.none : Option Jvm.ClassFile.FieldType)) (hs := []) "OrchardQuery$Walk" false prog_12_method_8_code [] rfl rfl rfl rfl (by decide +kernel) (by decide +kernel) (fun _ => P_g134) (by decide) (fun _ _ => by decide +kernel) (fun q => by cases q) (P_all_cons (by decide +kernel) <| P_all_cons (by decide +kernel) <| P_all_cons (by decide +kernel) <| P_all_cons (by decide +kernel) <| P_all_cons (by decide +kernel) <| P_all_nil) P_l134 (by decide +kernel) P_k134 (fun _ _ => P_hok_nil)
/-- OrchardQuery$Walk.holdsAt(I)Z -/
def P_l135 : List (Nat × P_I) := [(4, .getfield 15, 7, 50, 1, [], []), (7, .invokevirtual 83, 10, 0, 119, [], []), (14, .getfield 15, 17, 50, 1, [], []), (18, .invokevirtual 86, 21, 1, 57, [], []), (23, .getfield 90, 26, 1, 3, [], []), (32, .getfield 37, 35, 50, 3, [], []), (43, .getfield 27, 46, 50, 6, [], []), (48, .putfield 27, 51, 50, 6, [], []), (53, .getfield 95, 56, 1, 0, [], []), (56, .invokevirtual 98, 59, 1, 120, [], []), (63, .getfield 101, 66, 1, 2, [], []), (66, .invokevirtual 98, 69, 1, 120, [], []), (72, .getfield 104, 75, 1, 1, [], []), (108, .getfield 104, 111, 1, 1, [], [])]
set_option maxRecDepth 20000 in
theorem P_k135 : ∀ q ∈ P_l135, P_lnk P_cl P_aty P_stat P_tx P_N0 P_Tb P_Y0 "OrchardQuery$Walk" false prog_12_method_9_code [] q.1 q.2.1 q.2.2.2.1 q.2.2.2.2.1 :=
  P_all_cons (P_lnk_get (P_s2 (c := 50) (P := fun ci => P_fok P_cl P_Tb "OrchardQuery$Walk" 15 ci 1) rfl (P_all_cons ⟨_, _, _, "OrchardQuery$Walk", rfl, by decide, (Or.inl rfl), (Or.inl w_4_93)⟩ (P_all_cons ⟨_, _, _, "OrchardQuery$Walk", rfl, by decide, (Or.inl rfl), (Or.inl w_4_93)⟩ (P_all_nil))))) <|
  P_all_cons (P_lnk_vi (P_vall (l := P_v119) rfl (P_all_cons (show P_vok _ _ _ 5 55 from ⟨_, rfl, rfl, w_1_6, w_1_130, (Or.inl ⟨P_sg 0 rfl, w_1_131, (Or.inl w_2_121)⟩)⟩) (P_all_nil)))) <|
  P_all_cons (P_lnk_get (P_s2 (c := 50) (P := fun ci => P_fok P_cl P_Tb "OrchardQuery$Walk" 15 ci 1) rfl (P_all_cons ⟨_, _, _, "OrchardQuery$Walk", rfl, by decide, (Or.inl rfl), (Or.inl w_4_93)⟩ (P_all_cons ⟨_, _, _, "OrchardQuery$Walk", rfl, by decide, (Or.inl rfl), (Or.inl w_4_93)⟩ (P_all_nil))))) <|
  P_all_cons (P_lnk_vi (P_vall (l := P_v57) rfl (P_all_cons (show P_vok _ _ _ 5 59 from ⟨_, rfl, rfl, w_1_6, w_1_179, (Or.inl ⟨P_sg 1 rfl, w_1_180, (Or.inl w_2_122)⟩)⟩) (P_all_nil)))) <|
  P_all_cons (P_lnk_get (P_s1 (c := 1) (P := fun ci => P_fok P_cl P_Tb "OrchardQuery$Walk" 90 ci 3) rfl ⟨_, _, _, "OrchardQuery$Condition", rfl, by decide, (Or.inl rfl), (Or.inr ⟨_, w_3_227⟩)⟩)) <|
  P_all_cons (P_lnk_get (P_s2 (c := 50) (P := fun ci => P_fok P_cl P_Tb "OrchardQuery$Walk" 37 ci 3) rfl (P_all_cons ⟨_, _, _, "OrchardQuery$Walk", rfl, by decide, (Or.inl rfl), (Or.inl w_4_97)⟩ (P_all_cons ⟨_, _, _, "OrchardQuery$Walk", rfl, by decide, (Or.inl rfl), (Or.inl w_4_97)⟩ (P_all_nil))))) <|
  P_all_cons (P_lnk_get (P_s2 (c := 50) (P := fun ci => P_fok P_cl P_Tb "OrchardQuery$Walk" 27 ci 6) rfl (P_all_cons ⟨_, _, _, "OrchardQuery$Walk", rfl, by decide, (Or.inl rfl), (Or.inl w_4_100)⟩ (P_all_cons ⟨_, _, _, "OrchardQuery$Walk", rfl, by decide, (Or.inl rfl), (Or.inl w_4_100)⟩ (P_all_nil))))) <|
  P_all_cons (P_lnk_put (P_s2 (c := 50) (P := fun ci => P_pok P_cl P_Tb "OrchardQuery$Walk" false 27 ci 6) rfl (P_all_cons ⟨_, _, _, "OrchardQuery$Walk", rfl, by decide, (Or.inl rfl), (Or.inl ⟨w_4_100, (Or.inl rfl)⟩)⟩ (P_all_cons ⟨_, _, _, "OrchardQuery$Walk", rfl, by decide, (Or.inl rfl), (Or.inl ⟨w_4_100, (Or.inl rfl)⟩)⟩ (P_all_nil))))) <|
  P_all_cons (P_lnk_get (P_s1 (c := 1) (P := fun ci => P_fok P_cl P_Tb "OrchardQuery$Walk" 95 ci 0) rfl ⟨_, _, _, "OrchardQuery$Condition", rfl, by decide, (Or.inl rfl), (Or.inr ⟨_, w_3_219⟩)⟩)) <|
  P_all_cons (P_lnk_vi (P_vall (l := P_v120) rfl (P_all_cons (show P_vok _ _ _ 0 136 from ⟨_, rfl, rfl, w_1_9, w_2_125, (Or.inr ⟨⟨"OrchardQuery$Walk", "valueNow", "(I)I"⟩, "OrchardQuery$Walk", P_sg 1 rfl, by decide, w_2_123, w_6_184, w_x_5, (Or.inl ⟨w_2_125, _, _, _, w_2_126⟩)⟩)⟩) (P_all_cons (show P_vok _ _ _ 2 136 from ⟨_, rfl, rfl, w_1_9, w_2_125, (Or.inr ⟨⟨"OrchardQuery$Walk", "valueNow", "(I)I"⟩, "OrchardQuery$Walk", P_sg 1 rfl, by decide, w_2_123, w_6_184, w_x_4, (Or.inl ⟨w_2_125, _, _, _, w_2_126⟩)⟩)⟩) (P_all_nil))))) <|
  P_all_cons (P_lnk_get (P_s1 (c := 1) (P := fun ci => P_fok P_cl P_Tb "OrchardQuery$Walk" 101 ci 2) rfl ⟨_, _, _, "OrchardQuery$Condition", rfl, by decide, (Or.inl rfl), (Or.inr ⟨_, w_3_225⟩)⟩)) <|
  P_all_cons (P_lnk_vi (P_vall (l := P_v120) rfl (P_all_cons (show P_vok _ _ _ 0 136 from ⟨_, rfl, rfl, w_1_9, w_2_125, (Or.inr ⟨⟨"OrchardQuery$Walk", "valueNow", "(I)I"⟩, "OrchardQuery$Walk", P_sg 1 rfl, by decide, w_2_123, w_6_184, w_x_5, (Or.inl ⟨w_2_125, _, _, _, w_2_126⟩)⟩)⟩) (P_all_cons (show P_vok _ _ _ 2 136 from ⟨_, rfl, rfl, w_1_9, w_2_125, (Or.inr ⟨⟨"OrchardQuery$Walk", "valueNow", "(I)I"⟩, "OrchardQuery$Walk", P_sg 1 rfl, by decide, w_2_123, w_6_184, w_x_4, (Or.inl ⟨w_2_125, _, _, _, w_2_126⟩)⟩)⟩) (P_all_nil))))) <|
  P_all_cons (P_lnk_get (P_s1 (c := 1) (P := fun ci => P_fok P_cl P_Tb "OrchardQuery$Walk" 104 ci 1) rfl ⟨_, _, _, "OrchardQuery$Condition", rfl, by decide, (Or.inl rfl), (Or.inr ⟨_, w_3_222⟩)⟩)) <|
  P_all_cons (P_lnk_get (P_s1 (c := 1) (P := fun ci => P_fok P_cl P_Tb "OrchardQuery$Walk" 104 ci 1) rfl ⟨_, _, _, "OrchardQuery$Condition", rfl, by decide, (Or.inl rfl), (Or.inr ⟨_, w_3_222⟩)⟩)) <|
  P_all_nil
set_option maxRecDepth 20000 in
theorem P_m135 : P_mstC 135 7 (Option.some Jvm.ClassFile.FieldType.boolean) P_e135 [] := P_meth (mx := 7) (rt := (Option.some Jvm.ClassFile.FieldType.boolean)) (hs := []) "OrchardQuery$Walk" false prog_12_method_9_code [] rfl rfl rfl rfl (by decide +kernel) (by decide +kernel) (fun _ => P_g135) (by decide) (fun _ _ => by decide +kernel) (fun q => by cases q) (P_all_cons (by decide +kernel) <| P_all_cons (by decide +kernel) <| P_all_cons (by decide +kernel) <| P_all_cons (by decide +kernel) <| P_all_cons (by decide +kernel) <| P_all_nil) P_l135 (by decide +kernel) P_k135 (fun _ _ => P_hok_nil)
/-- OrchardQuery$Walk.valueNow(I)I -/
def P_l136 : List (Nat × P_I) := [(1, .invokestatic 107, 4, 1, 175, [], []), (14, .invokestatic 110, 17, 1, 176, [], []), (19, .getfield 9, 22, 50, 0, [], []), (23, .invokevirtual 63, 26, 1, 48, [], []), (27, .getfield 19, 30, 50, 2, [], []), (31, .invokestatic 33, 34, 2, 178, [], []), (35, .invokestatic 113, 38, 1, 177, [], []), (38, .invokevirtual 116, 41, 2, 55, [], [])]
set_option maxRecDepth 20000 in
theorem P_k136 : ∀ q ∈ P_l136, P_lnk P_cl P_aty P_stat P_tx P_N0 P_Tb P_Y0 "OrchardQuery$Walk" false prog_12_method_10_code [] q.1 q.2.1 q.2.2.2.1 q.2.2.2.2.1 :=
  P_all_cons (P_lnk_st (by decide) (fun _ => ⟨P_sg 1 rfl, w_1_2, w_2_128, (Or.inr ⟨rfl, _, w_2_127⟩)⟩)) <|
  P_all_cons (P_lnk_st (by decide) (fun _ => ⟨P_sg 1 rfl, w_1_2, w_1_192, (Or.inr ⟨rfl, _, w_2_130⟩)⟩)) <|
  P_all_cons (P_lnk_get (P_s2 (c := 50) (P := fun ci => P_fok P_cl P_Tb "OrchardQuery$Walk" 9 ci 0) rfl (P_all_cons ⟨_, _, _, "OrchardQuery$Walk", rfl, by decide, (Or.inl rfl), (Or.inl w_4_90)⟩ (P_all_cons ⟨_, _, _, "OrchardQuery$Walk", rfl, by decide, (Or.inl rfl), (Or.inl w_4_90)⟩ (P_all_nil))))) <|
  P_all_cons (P_lnk_vi (P_vall (l := P_v48) rfl (P_all_cons (show P_vok _ _ _ 3 38 from ⟨_, rfl, rfl, w_1_5, w_1_214, (Or.inl ⟨P_sg 1 rfl, w_1_215, (Or.inl w_2_112)⟩)⟩) (P_all_nil)))) <|
  P_all_cons (P_lnk_get (P_s2 (c := 50) (P := fun ci => P_fok P_cl P_Tb "OrchardQuery$Walk" 19 ci 2) rfl (P_all_cons ⟨_, _, _, "OrchardQuery$Walk", rfl, by decide, (Or.inl rfl), (Or.inl w_4_96)⟩ (P_all_cons ⟨_, _, _, "OrchardQuery$Walk", rfl, by decide, (Or.inl rfl), (Or.inl w_4_96)⟩ (P_all_nil))))) <|
  P_all_cons (P_lnk_st (by decide) (fun _ => ⟨P_sg 2 rfl, w_1_2, w_1_225, (Or.inr ⟨rfl, _, w_2_131⟩)⟩)) <|
  P_all_cons (P_lnk_st (by decide) (fun _ => ⟨P_sg 1 rfl, w_1_2, w_1_218, (Or.inr ⟨rfl, _, w_2_132⟩)⟩)) <|
  P_all_cons (P_lnk_vi (P_vall (l := P_v55) rfl (P_all_cons (show P_vok _ _ _ 9 122 from ⟨_, rfl, rfl, w_1_4, w_2_134, (Or.inl ⟨P_sg 2 rfl, w_2_135, (Or.inl w_2_133)⟩)⟩) (P_all_nil)))) <|
  P_all_nil
set_option maxRecDepth 20000 in
theorem P_m136 : P_mstC 136 3 (Option.some Jvm.ClassFile.FieldType.int) P_e136 [] := P_meth (mx := 3) (rt := (Option.some Jvm.ClassFile.FieldType.int)) (hs := []) "OrchardQuery$Walk" false prog_12_method_10_code [] rfl rfl rfl rfl (by decide +kernel) (by decide +kernel) (fun _ => P_g136) (by decide) (fun _ _ => by decide +kernel) (fun q => by cases q) (P_all_cons (by decide +kernel) <| P_all_cons (by decide +kernel) <| P_all_nil) P_l136 (by decide +kernel) P_k136 (fun _ _ => P_hok_nil)
/-- OrchardQuery.<init>()V -/
def P_l137 : List (Nat × P_I) := [(1, .invokespecial 3, 4, 0, 9000, [], []), (5, .new 9, 8, 0, 8, [], []), (9, .invokespecial 11, 12, 0, 113, [], []), (12, .putfield 12, 15, 10, 0, [], []), (16, .new 16, 19, 0, 3, [], []), (20, .invokespecial 18, 23, 0, 22, [], []), (23, .putfield 19, 26, 10, 2, [], []), (27, .new 23, 30, 0, 5, [], []), (32, .getfield 19, 35, 10, 2, [], []), (35, .invokespecial 25, 38, 1, 53, [], []), (38, .putfield 28, 41, 10, 3, [], []), (42, .new 32, 45, 0, 7, [], []), (47, .getfield 12, 50, 10, 0, [], []), (51, .getfield 19, 54, 10, 2, [], []), (55, .getfield 28, 58, 10, 3, [], []), (58, .invokespecial 34, 61, 3, 90, [], []), (61, .putfield 37, 64, 10, 1, [], []), (65, .new 41, 68, 0, 0, [], []), (70, .getfield 19, 73, 10, 2, [], []), (74, .getfield 28, 77, 10, 3, [], []), (77, .invokespecial 43, 80, 2, 1, [], []), (80, .putfield 46, 83, 10, 4, [], []), (84, .new 50, 87, 0, 2, [], []), (89, .getfield 19, 92, 10, 2, [], []), (93, .getfield 28, 96, 10, 3, [], []), (96, .invokespecial 52, 99, 2, 20, [], []), (99, .putfield 53, 102, 10, 5, [], []), (103, .new 57, 106, 0, 6, [], []), (107, .invokespecial 59, 110, 0, 83, [], []), (110, .putfield 60, 113, 10, 6, [], [])]
set_option maxRecDepth 20000 in
theorem P_k137 : ∀ q ∈ P_l137, P_lnk P_cl P_aty P_stat P_tx P_N0 P_Tb P_Y0 "OrchardQuery" true prog_1_method_1_code [] q.1 q.2.1 q.2.2.2.1 q.2.2.2.2.1 :=
  P_all_cons (P_lnk_oj (fun _ => ⟨w_3_131, w_1_60, w_1_61⟩)) <|
  P_all_cons (P_lnk_new (by decide) rfl w_3_132 w_3_133 w_1_3) <|
  P_all_cons (P_lnk_sp (by decide) (fun _ => ⟨P_sg 0 rfl, w_1_3, w_3_135, rfl, rfl, (Or.inl w_3_134)⟩)) <|
  P_all_cons (P_lnk_put (P_s1 (c := 10) (P := fun ci => P_pok P_cl P_Tb "OrchardQuery" true 12 ci 0) rfl ⟨_, _, _, "OrchardQuery", rfl, by decide, (Or.inl rfl), (Or.inl ⟨w_4_171, (Or.inr ⟨rfl, rfl, rfl⟩)⟩)⟩)) <|
  P_all_cons (P_lnk_new (by decide) rfl w_3_169 w_3_170 w_1_5) <|
  P_all_cons (P_lnk_sp (by decide) (fun _ => ⟨P_sg 0 rfl, w_1_5, w_3_172, rfl, rfl, (Or.inl w_3_171)⟩)) <|
  P_all_cons (P_lnk_put (P_s1 (c := 10) (P := fun ci => P_pok P_cl P_Tb "OrchardQuery" true 19 ci 2) rfl ⟨_, _, _, "OrchardQuery", rfl, by decide, (Or.inl rfl), (Or.inl ⟨w_4_173, (Or.inr ⟨rfl, rfl, rfl⟩)⟩)⟩)) <|
  P_all_cons (P_lnk_new (by decide) rfl w_3_205 w_1_189 w_1_6) <|
  P_all_cons (P_lnk_get (P_s1 (c := 10) (P := fun ci => P_fok P_cl P_Tb "OrchardQuery" 19 ci 2) rfl ⟨_, _, _, "OrchardQuery", rfl, by decide, (Or.inl rfl), (Or.inl w_4_173)⟩)) <|
  P_all_cons (P_lnk_sp (by decide) (fun _ => ⟨P_sg 1 rfl, w_1_6, w_3_207, rfl, rfl, (Or.inl w_3_206)⟩)) <|
  P_all_cons (P_lnk_put (P_s1 (c := 10) (P := fun ci => P_pok P_cl P_Tb "OrchardQuery" true 28 ci 3) rfl ⟨_, _, _, "OrchardQuery", rfl, by decide, (Or.inl rfl), (Or.inl ⟨w_4_174, (Or.inr ⟨rfl, rfl, rfl⟩)⟩)⟩)) <|
  P_all_cons (P_lnk_new (by decide) rfl w_4_17 w_4_18 w_1_8) <|
  P_all_cons (P_lnk_get (P_s1 (c := 10) (P := fun ci => P_fok P_cl P_Tb "OrchardQuery" 12 ci 0) rfl ⟨_, _, _, "OrchardQuery", rfl, by decide, (Or.inl rfl), (Or.inl w_4_171)⟩)) <|
  P_all_cons (P_lnk_get (P_s1 (c := 10) (P := fun ci => P_fok P_cl P_Tb "OrchardQuery" 19 ci 2) rfl ⟨_, _, _, "OrchardQuery", rfl, by decide, (Or.inl rfl), (Or.inl w_4_173)⟩)) <|
  P_all_cons (P_lnk_get (P_s1 (c := 10) (P := fun ci => P_fok P_cl P_Tb "OrchardQuery" 28 ci 3) rfl ⟨_, _, _, "OrchardQuery", rfl, by decide, (Or.inl rfl), (Or.inl w_4_174)⟩)) <|
  P_all_cons (P_lnk_sp (by decide) (fun _ => ⟨P_sg 3 rfl, w_1_8, w_4_20, rfl, rfl, (Or.inl w_4_19)⟩)) <|
  P_all_cons (P_lnk_put (P_s1 (c := 10) (P := fun ci => P_pok P_cl P_Tb "OrchardQuery" true 37 ci 1) rfl ⟨_, _, _, "OrchardQuery", rfl, by decide, (Or.inl rfl), (Or.inl ⟨w_4_172, (Or.inr ⟨rfl, rfl, rfl⟩)⟩)⟩)) <|
  P_all_cons (P_lnk_new (by decide) rfl w_4_54 w_2_79 w_1_10) <|
  P_all_cons (P_lnk_get (P_s1 (c := 10) (P := fun ci => P_fok P_cl P_Tb "OrchardQuery" 19 ci 2) rfl ⟨_, _, _, "OrchardQuery", rfl, by decide, (Or.inl rfl), (Or.inl w_4_173)⟩)) <|
  P_all_cons (P_lnk_get (P_s1 (c := 10) (P := fun ci => P_fok P_cl P_Tb "OrchardQuery" 28 ci 3) rfl ⟨_, _, _, "OrchardQuery", rfl, by decide, (Or.inl rfl), (Or.inl w_4_174)⟩)) <|
  P_all_cons (P_lnk_sp (by decide) (fun _ => ⟨P_sg 2 rfl, w_1_10, w_4_56, rfl, rfl, (Or.inl w_4_55)⟩)) <|
  P_all_cons (P_lnk_put (P_s1 (c := 10) (P := fun ci => P_pok P_cl P_Tb "OrchardQuery" true 46 ci 4) rfl ⟨_, _, _, "OrchardQuery", rfl, by decide, (Or.inl rfl), (Or.inl ⟨w_4_175, (Or.inr ⟨rfl, rfl, rfl⟩)⟩)⟩)) <|
  P_all_cons (P_lnk_new (by decide) rfl w_4_137 w_4_138 w_1_12) <|
  P_all_cons (P_lnk_get (P_s1 (c := 10) (P := fun ci => P_fok P_cl P_Tb "OrchardQuery" 19 ci 2) rfl ⟨_, _, _, "OrchardQuery", rfl, by decide, (Or.inl rfl), (Or.inl w_4_173)⟩)) <|
  P_all_cons (P_lnk_get (P_s1 (c := 10) (P := fun ci => P_fok P_cl P_Tb "OrchardQuery" 28 ci 3) rfl ⟨_, _, _, "OrchardQuery", rfl, by decide, (Or.inl rfl), (Or.inl w_4_174)⟩)) <|
  P_all_cons (P_lnk_sp (by decide) (fun _ => ⟨P_sg 2 rfl, w_1_12, w_4_140, rfl, rfl, (Or.inl w_4_139)⟩)) <|
  P_all_cons (P_lnk_put (P_s1 (c := 10) (P := fun ci => P_pok P_cl P_Tb "OrchardQuery" true 53 ci 5) rfl ⟨_, _, _, "OrchardQuery", rfl, by decide, (Or.inl rfl), (Or.inl ⟨w_4_176, (Or.inr ⟨rfl, rfl, rfl⟩)⟩)⟩)) <|
  P_all_cons (P_lnk_new (by decide) rfl w_4_152 w_4_153 w_1_13) <|
  P_all_cons (P_lnk_sp (by decide) (fun _ => ⟨P_sg 0 rfl, w_1_13, w_4_155, rfl, rfl, (Or.inr ⟨_, w_4_154⟩)⟩)) <|
  P_all_cons (P_lnk_put (P_s1 (c := 10) (P := fun ci => P_pok P_cl P_Tb "OrchardQuery" true 60 ci 6) rfl ⟨_, _, _, "OrchardQuery", rfl, by decide, (Or.inl rfl), (Or.inl ⟨w_4_177, (Or.inr ⟨rfl, rfl, rfl⟩)⟩)⟩)) <|
  P_all_nil
set_option maxRecDepth 20000 in
theorem P_m137 : P_mstC 137 1 (Option.none : Option Jvm.ClassFile.FieldType) P_e137 [] := P_meth (mx := 1) (rt := (Option.none : Option Jvm.ClassFile.FieldType)) (hs := []) "OrchardQuery" true prog_1_method_1_code [] rfl rfl rfl rfl (by decide +kernel) (by decide +kernel) (fun _ => P_g137) (by decide) (fun t q => by cases q) (fun _ => rfl) (P_all_cons (by decide +kernel) <| P_all_cons (by decide +kernel) <| P_all_cons (by decide +kernel) <| P_all_cons (by decide +kernel) <| P_all_nil) P_l137 (by decide +kernel) P_k137 (fun _ _ => P_hok_nil)
/-- OrchardQuery.table(I)I -/
def P_l138 : List (Nat × P_I) := [(21, .getfield 12, 24, 10, 0, [], []), (24, .invokevirtual 71, 27, 0, 121, [], []), (42, .getfield 12, 45, 10, 0, [], []), (46, .invokevirtual 80, 49, 1, 122, [], [])]
set_option maxRecDepth 20000 in
theorem P_k138 : ∀ q ∈ P_l138, P_lnk P_cl P_aty P_stat P_tx P_N0 P_Tb P_Y0 "OrchardQuery" false prog_1_method_2_code [] q.1 q.2.1 q.2.2.2.1 q.2.2.2.2.1 :=
  P_all_cons (P_lnk_get (P_s1 (c := 10) (P := fun ci => P_fok P_cl P_Tb "OrchardQuery" 12 ci 0) rfl ⟨_, _, _, "OrchardQuery", rfl, by decide, (Or.inl rfl), (Or.inl w_4_171)⟩)) <|
  P_all_cons (P_lnk_vi (P_vall (l := P_v121) rfl (P_all_cons (show P_vok _ _ _ 8 114 from ⟨_, rfl, rfl, w_1_3, w_1_110, (Or.inl ⟨P_sg 0 rfl, w_1_111, (Or.inl w_1_109)⟩)⟩) (P_all_nil)))) <|
  P_all_cons (P_lnk_get (P_s1 (c := 10) (P := fun ci => P_fok P_cl P_Tb "OrchardQuery" 12 ci 0) rfl ⟨_, _, _, "OrchardQuery", rfl, by decide, (Or.inl rfl), (Or.inl w_4_171)⟩)) <|
  P_all_cons (P_lnk_vi (P_vall (l := P_v122) rfl (P_all_cons (show P_vok _ _ _ 8 117 from ⟨_, rfl, rfl, w_1_3, w_5_80, (Or.inl ⟨P_sg 1 rfl, w_5_81, (Or.inl w_5_79)⟩)⟩) (P_all_nil)))) <|
  P_all_nil
set_option maxRecDepth 20000 in
theorem P_m138 : P_mstC 138 2 (Option.some Jvm.ClassFile.FieldType.int) P_e138 [] := P_meth (mx := 2) (rt := (Option.some Jvm.ClassFile.FieldType.int)) (hs := []) "OrchardQuery" false prog_1_method_2_code [] rfl rfl rfl rfl (by decide +kernel) (by decide +kernel) (fun _ => P_g138) (by decide) (fun _ _ => by decide +kernel) (fun q => by cases q) (P_all_cons (by decide +kernel) <| P_all_cons (by decide +kernel) <| P_all_nil) P_l138 (by decide +kernel) P_k138 (fun _ _ => P_hok_nil)
/-- OrchardQuery.row(IIII)I -/
def P_l139 : List (Nat × P_I) := [(1, .getfield 12, 4, 10, 0, [], []), (5, .invokevirtual 84, 8, 1, 105, [], []), (22, .getfield 12, 25, 10, 0, [], []), (26, .invokevirtual 93, 29, 1, 106, [], []), (33, .invokevirtual 97, 36, 0, 49, [], []), (39, .invokestatic 102, 42, 1, 171, [], []), (52, .invokestatic 102, 55, 1, 171, [], []), (66, .invokestatic 102, 69, 1, 171, [], []), (84, .invokevirtual 107, 87, 0, 114, [], []), (106, .invokevirtual 113, 109, 3, 123, [], []), (110, .invokevirtual 116, 113, 0, 124, [], []), (115, .invokevirtual 119, 118, 0, 51, [], [])]
set_option maxRecDepth 20000 in
theorem P_k139 : ∀ q ∈ P_l139, P_lnk P_cl P_aty P_stat P_tx P_N0 P_Tb P_Y0 "OrchardQuery" false prog_1_method_3_code [] q.1 q.2.1 q.2.2.2.1 q.2.2.2.2.1 :=
  P_all_cons (P_lnk_get (P_s1 (c := 10) (P := fun ci => P_fok P_cl P_Tb "OrchardQuery" 12 ci 0) rfl ⟨_, _, _, "OrchardQuery", rfl, by decide, (Or.inl rfl), (Or.inl w_4_171)⟩)) <|
  P_all_cons (P_lnk_vi (P_vall (l := P_v105) rfl (P_all_cons (show P_vok _ _ _ 8 115 from ⟨_, rfl, rfl, w_1_3, w_5_39, (Or.inl ⟨P_sg 1 rfl, w_5_40, (Or.inl w_5_38)⟩)⟩) (P_all_nil)))) <|
  P_all_cons (P_lnk_get (P_s1 (c := 10) (P := fun ci => P_fok P_cl P_Tb "OrchardQuery" 12 ci 0) rfl ⟨_, _, _, "OrchardQuery", rfl, by decide, (Or.inl rfl), (Or.inl w_4_171)⟩)) <|
  P_all_cons (P_lnk_vi (P_vall (l := P_v106) rfl (P_all_cons (show P_vok _ _ _ 8 116 from ⟨_, rfl, rfl, w_1_3, w_3_99, (Or.inl ⟨P_sg 1 rfl, w_3_100, (Or.inl w_3_98)⟩)⟩) (P_all_nil)))) <|
  P_all_cons (P_lnk_vi (P_vall (l := P_v49) rfl (P_all_cons (show P_vok _ _ _ 9 119 from ⟨_, rfl, rfl, w_1_4, w_3_108, (Or.inl ⟨P_sg 0 rfl, w_3_109, (Or.inl w_3_107)⟩)⟩) (P_all_nil)))) <|
  P_all_cons (P_lnk_st (by decide) (fun _ => ⟨P_sg 1 rfl, w_1_2, w_5_96, (Or.inl w_5_95)⟩)) <|
  P_all_cons (P_lnk_st (by decide) (fun _ => ⟨P_sg 1 rfl, w_1_2, w_5_96, (Or.inl w_5_95)⟩)) <|
  P_all_cons (P_lnk_st (by decide) (fun _ => ⟨P_sg 1 rfl, w_1_2, w_5_96, (Or.inl w_5_95)⟩)) <|
  P_all_cons (P_lnk_vi (P_vall (l := P_v114) rfl (P_all_cons (show P_vok _ _ _ 9 121 from ⟨_, rfl, rfl, w_1_4, w_5_100, (Or.inl ⟨P_sg 0 rfl, w_5_101, (Or.inl w_5_99)⟩)⟩) (P_all_nil)))) <|
  P_all_cons (P_lnk_vi (P_vall (l := P_v123) rfl (P_all_cons (show P_vok _ _ _ 9 123 from ⟨_, rfl, rfl, w_1_4, w_5_105, (Or.inl ⟨P_sg 3 rfl, w_5_106, (Or.inl w_5_104)⟩)⟩) (P_all_nil)))) <|
  P_all_cons (P_lnk_vi (P_vall (l := P_v124) rfl (P_all_cons (show P_vok _ _ _ 10 169 from ⟨_, rfl, rfl, w_1_2, w_5_55, (Or.inl ⟨P_sg 0 rfl, w_p_17, (Or.inl w_5_53)⟩)⟩) (P_all_nil)))) <|
  P_all_cons (P_lnk_vi (P_vall (l := P_v51) rfl (P_all_cons (show P_vok _ _ _ 9 120 from ⟨_, rfl, rfl, w_1_4, w_2_18, (Or.inl ⟨P_sg 0 rfl, w_2_19, (Or.inl w_3_106)⟩)⟩) (P_all_nil)))) <|
  P_all_nil
set_option maxRecDepth 20000 in
theorem P_m139 : P_mstC 139 7 (Option.some Jvm.ClassFile.FieldType.int) P_e139 [] := P_meth (mx := 7) (rt := (Option.some Jvm.ClassFile.FieldType.int)) (hs := []) "OrchardQuery" false prog_1_method_3_code [] rfl rfl rfl rfl (by decide +kernel) (by decide +kernel) (fun _ => P_g139) (by decide) (fun _ _ => by decide +kernel) (fun q => by cases q) (P_all_cons (by decide +kernel) <| P_all_cons (by decide +kernel) <| P_all_cons (by decide +kernel) <| P_all_cons (by decide +kernel) <| P_all_nil) P_l139 (by decide +kernel) P_k139 (fun _ _ => P_hok_nil)
/-- OrchardQuery.drop(II)I -/
def P_l140 : List (Nat × P_I) := [(1, .getfield 12, 4, 10, 0, [], []), (5, .invokevirtual 84, 8, 1, 105, [], []), (17, .getfield 12, 20, 10, 0, [], []), (21, .invokevirtual 93, 24, 1, 106, [], []), (24, .invokevirtual 119, 27, 0, 51, [], []), (41, .getfield 12, 44, 10, 0, [], []), (45, .invokevirtual 93, 48, 1, 106, [], []), (51, .invokevirtual 124, 54, 1, 125, [], []), (55, .invokevirtual 116, 58, 0, 124, [], []), (59, .invokevirtual 119, 62, 0, 51, [], [])]
set_option maxRecDepth 20000 in
theorem P_k140 : ∀ q ∈ P_l140, P_lnk P_cl P_aty P_stat P_tx P_N0 P_Tb P_Y0 "OrchardQuery" false prog_1_method_4_code [] q.1 q.2.1 q.2.2.2.1 q.2.2.2.2.1 :=
  P_all_cons (P_lnk_get (P_s1 (c := 10) (P := fun ci => P_fok P_cl P_Tb "OrchardQuery" 12 ci 0) rfl ⟨_, _, _, "OrchardQuery", rfl, by decide, (Or.inl rfl), (Or.inl w_4_171)⟩)) <|
  P_all_cons (P_lnk_vi (P_vall (l := P_v105) rfl (P_all_cons (show P_vok _ _ _ 8 115 from ⟨_, rfl, rfl, w_1_3, w_5_39, (Or.inl ⟨P_sg 1 rfl, w_5_40, (Or.inl w_5_38)⟩)⟩) (P_all_nil)))) <|
  P_all_cons (P_lnk_get (P_s1 (c := 10) (P := fun ci => P_fok P_cl P_Tb "OrchardQuery" 12 ci 0) rfl ⟨_, _, _, "OrchardQuery", rfl, by decide, (Or.inl rfl), (Or.inl w_4_171)⟩)) <|
  P_all_cons (P_lnk_vi (P_vall (l := P_v106) rfl (P_all_cons (show P_vok _ _ _ 8 116 from ⟨_, rfl, rfl, w_1_3, w_3_99, (Or.inl ⟨P_sg 1 rfl, w_3_100, (Or.inl w_3_98)⟩)⟩) (P_all_nil)))) <|
  P_all_cons (P_lnk_vi (P_vall (l := P_v51) rfl (P_all_cons (show P_vok _ _ _ 9 120 from ⟨_, rfl, rfl, w_1_4, w_2_18, (Or.inl ⟨P_sg 0 rfl, w_2_19, (Or.inl w_3_106)⟩)⟩) (P_all_nil)))) <|
  P_all_cons (P_lnk_get (P_s1 (c := 10) (P := fun ci => P_fok P_cl P_Tb "OrchardQuery" 12 ci 0) rfl ⟨_, _, _, "OrchardQuery", rfl, by decide, (Or.inl rfl), (Or.inl w_4_171)⟩)) <|
  P_all_cons (P_lnk_vi (P_vall (l := P_v106) rfl (P_all_cons (show P_vok _ _ _ 8 116 from ⟨_, rfl, rfl, w_1_3, w_3_99, (Or.inl ⟨P_sg 1 rfl, w_3_100, (Or.inl w_3_98)⟩)⟩) (P_all_nil)))) <|
  P_all_cons (P_lnk_vi (P_vall (l := P_v125) rfl (P_all_cons (show P_vok _ _ _ 9 124 from ⟨_, rfl, rfl, w_1_4, w_5_44, (Or.inl ⟨P_sg 1 rfl, w_5_45, (Or.inl w_5_43)⟩)⟩) (P_all_nil)))) <|
  P_all_cons (P_lnk_vi (P_vall (l := P_v124) rfl (P_all_cons (show P_vok _ _ _ 10 169 from ⟨_, rfl, rfl, w_1_2, w_5_55, (Or.inl ⟨P_sg 0 rfl, w_p_17, (Or.inl w_5_53)⟩)⟩) (P_all_nil)))) <|
  P_all_cons (P_lnk_vi (P_vall (l := P_v51) rfl (P_all_cons (show P_vok _ _ _ 9 120 from ⟨_, rfl, rfl, w_1_4, w_2_18, (Or.inl ⟨P_sg 0 rfl, w_2_19, (Or.inl w_3_106)⟩)⟩) (P_all_nil)))) <|
  P_all_nil
set_option maxRecDepth 20000 in
theorem P_m140 : P_mstC 140 4 (Option.some Jvm.ClassFile.FieldType.int) P_e140 [] := P_meth (mx := 4) (rt := (Option.some Jvm.ClassFile.FieldType.int)) (hs := []) "OrchardQuery" false prog_1_method_4_code [] rfl rfl rfl rfl (by decide +kernel) (by decide +kernel) (fun _ => P_g140) (by decide) (fun _ _ => by decide +kernel) (fun q => by cases q) (P_all_cons (by decide +kernel) <| P_all_cons (by decide +kernel) <| P_all_nil) P_l140 (by decide +kernel) P_k140 (fun _ _ => P_hok_nil)
/-- OrchardQuery.token(I)I -/
def P_l141 : List (Nat × P_I) := [(1, .invokestatic 133, 4, 1, 172, [], []), (18, .getfield 37, 21, 10, 1, [], []), (21, .invokevirtual 138, 24, 0, 126, [], []), (40, .getfield 37, 43, 10, 1, [], []), (44, .invokevirtual 143, 47, 1, 127, [], []), (48, .invokevirtual 116, 51, 0, 124, [], []), (52, .getfield 37, 55, 10, 1, [], []), (55, .invokevirtual 138, 58, 0, 126, [], [])]
set_option maxRecDepth 20000 in
theorem P_k141 : ∀ q ∈ P_l141, P_lnk P_cl P_aty P_stat P_tx P_N0 P_Tb P_Y0 "OrchardQuery" false prog_1_method_6_code [] q.1 q.2.1 q.2.2.2.1 q.2.2.2.2.1 :=
  P_all_cons (P_lnk_st (by decide) (fun _ => ⟨P_sg 1 rfl, w_1_2, w_5_134, (Or.inl w_5_133)⟩)) <|
  P_all_cons (P_lnk_get (P_s1 (c := 10) (P := fun ci => P_fok P_cl P_Tb "OrchardQuery" 37 ci 1) rfl ⟨_, _, _, "OrchardQuery", rfl, by decide, (Or.inl rfl), (Or.inl w_4_172)⟩)) <|
  P_all_cons (P_lnk_vi (P_vall (l := P_v126) rfl (P_all_cons (show P_vok _ _ _ 7 91 from ⟨_, rfl, rfl, w_1_8, w_1_114, (Or.inl ⟨P_sg 0 rfl, w_1_115, (Or.inl w_1_113)⟩)⟩) (P_all_nil)))) <|
  P_all_cons (P_lnk_get (P_s1 (c := 10) (P := fun ci => P_fok P_cl P_Tb "OrchardQuery" 37 ci 1) rfl ⟨_, _, _, "OrchardQuery", rfl, by decide, (Or.inl rfl), (Or.inl w_4_172)⟩)) <|
  P_all_cons (P_lnk_vi (P_vall (l := P_v127) rfl (P_all_cons (show P_vok _ _ _ 7 94 from ⟨_, rfl, rfl, w_1_8, w_5_144, (Or.inl ⟨P_sg 1 rfl, w_5_145, (Or.inl w_5_143)⟩)⟩) (P_all_nil)))) <|
  P_all_cons (P_lnk_vi (P_vall (l := P_v124) rfl (P_all_cons (show P_vok _ _ _ 10 169 from ⟨_, rfl, rfl, w_1_2, w_5_55, (Or.inl ⟨P_sg 0 rfl, w_p_17, (Or.inl w_5_53)⟩)⟩) (P_all_nil)))) <|
  P_all_cons (P_lnk_get (P_s1 (c := 10) (P := fun ci => P_fok P_cl P_Tb "OrchardQuery" 37 ci 1) rfl ⟨_, _, _, "OrchardQuery", rfl, by decide, (Or.inl rfl), (Or.inl w_4_172)⟩)) <|
  P_all_cons (P_lnk_vi (P_vall (l := P_v126) rfl (P_all_cons (show P_vok _ _ _ 7 91 from ⟨_, rfl, rfl, w_1_8, w_1_114, (Or.inl ⟨P_sg 0 rfl, w_1_115, (Or.inl w_1_113)⟩)⟩) (P_all_nil)))) <|
  P_all_nil
set_option maxRecDepth 20000 in
theorem P_m141 : P_mstC 141 2 (Option.some Jvm.ClassFile.FieldType.int) P_e141 [] := P_meth (mx := 2) (rt := (Option.some Jvm.ClassFile.FieldType.int)) (hs := []) "OrchardQuery" false prog_1_method_6_code [] rfl rfl rfl rfl (by decide +kernel) (by decide +kernel) (fun _ => P_g141) (by decide) (fun _ _ => by decide +kernel) (fun q => by cases q) (P_all_cons (by decide +kernel) <| P_all_cons (by decide +kernel) <| P_all_nil) P_l141 (by decide +kernel) P_k141 (fun _ _ => P_hok_nil)
/-- OrchardQuery.clear()I -/
def P_l142 : List (Nat × P_I) := [(1, .getfield 37, 4, 10, 1, [], []), (4, .invokevirtual 138, 7, 0, 126, [], []), (9, .getfield 37, 12, 10, 1, [], []), (12, .invokevirtual 145, 15, 0, 128, [], []), (16, .invokevirtual 116, 19, 0, 124, [], [])]
set_option maxRecDepth 20000 in
theorem P_k142 : ∀ q ∈ P_l142, P_lnk P_cl P_aty P_stat P_tx P_N0 P_Tb P_Y0 "OrchardQuery" false prog_1_method_7_code [] q.1 q.2.1 q.2.2.2.1 q.2.2.2.2.1 :=
  P_all_cons (P_lnk_get (P_s1 (c := 10) (P := fun ci => P_fok P_cl P_Tb "OrchardQuery" 37 ci 1) rfl ⟨_, _, _, "OrchardQuery", rfl, by decide, (Or.inl rfl), (Or.inl w_4_172)⟩)) <|
  P_all_cons (P_lnk_vi (P_vall (l := P_v126) rfl (P_all_cons (show P_vok _ _ _ 7 91 from ⟨_, rfl, rfl, w_1_8, w_1_114, (Or.inl ⟨P_sg 0 rfl, w_1_115, (Or.inl w_1_113)⟩)⟩) (P_all_nil)))) <|
  P_all_cons (P_lnk_get (P_s1 (c := 10) (P := fun ci => P_fok P_cl P_Tb "OrchardQuery" 37 ci 1) rfl ⟨_, _, _, "OrchardQuery", rfl, by decide, (Or.inl rfl), (Or.inl w_4_172)⟩)) <|
  P_all_cons (P_lnk_vi (P_vall (l := P_v128) rfl (P_all_cons (show P_vok _ _ _ 7 95 from ⟨_, rfl, rfl, w_1_8, w_5_118, (Or.inl ⟨P_sg 0 rfl, w_5_119, (Or.inl w_5_117)⟩)⟩) (P_all_nil)))) <|
  P_all_cons (P_lnk_vi (P_vall (l := P_v124) rfl (P_all_cons (show P_vok _ _ _ 10 169 from ⟨_, rfl, rfl, w_1_2, w_5_55, (Or.inl ⟨P_sg 0 rfl, w_p_17, (Or.inl w_5_53)⟩)⟩) (P_all_nil)))) <|
  P_all_nil
set_option maxRecDepth 20000 in
theorem P_m142 : P_mstC 142 2 (Option.some Jvm.ClassFile.FieldType.int) P_e142 [] := P_meth (mx := 2) (rt := (Option.some Jvm.ClassFile.FieldType.int)) (hs := []) "OrchardQuery" false prog_1_method_7_code [] rfl rfl rfl rfl (by decide +kernel) (by decide +kernel) (fun _ => P_g142) (by decide) (fun _ _ => by decide +kernel) (fun q => by cases q) (P_all_cons (by decide +kernel) <| P_all_nil) P_l142 (by decide +kernel) P_k142 (fun _ _ => P_hok_nil)
/-- OrchardQuery.read()I -/
def P_l143 : List (Nat × P_I) := [(1, .getfield 37, 4, 10, 1, [], []), (4, .invokevirtual 148, 7, 0, 129, [], []), (9, .invokevirtual 116, 12, 0, 124, [], [])]
set_option maxRecDepth 20000 in
theorem P_k143 : ∀ q ∈ P_l143, P_lnk P_cl P_aty P_stat P_tx P_N0 P_Tb P_Y0 "OrchardQuery" false prog_1_method_8_code [] q.1 q.2.1 q.2.2.2.1 q.2.2.2.2.1 :=
  P_all_cons (P_lnk_get (P_s1 (c := 10) (P := fun ci => P_fok P_cl P_Tb "OrchardQuery" 37 ci 1) rfl ⟨_, _, _, "OrchardQuery", rfl, by decide, (Or.inl rfl), (Or.inl w_4_172)⟩)) <|
  P_all_cons (P_lnk_vi (P_vall (l := P_v129) rfl (P_all_cons (show P_vok _ _ _ 7 97 from ⟨_, rfl, rfl, w_1_8, w_5_161, (Or.inl ⟨P_sg 0 rfl, w_5_162, (Or.inl w_5_160)⟩)⟩) (P_all_nil)))) <|
  P_all_cons (P_lnk_vi (P_vall (l := P_v124) rfl (P_all_cons (show P_vok _ _ _ 10 169 from ⟨_, rfl, rfl, w_1_2, w_5_55, (Or.inl ⟨P_sg 0 rfl, w_p_17, (Or.inl w_5_53)⟩)⟩) (P_all_nil)))) <|
  P_all_nil
set_option maxRecDepth 20000 in
theorem P_m143 : P_mstC 143 2 (Option.some Jvm.ClassFile.FieldType.int) P_e143 [] := P_meth (mx := 2) (rt := (Option.some Jvm.ClassFile.FieldType.int)) (hs := []) "OrchardQuery" false prog_1_method_8_code [] rfl rfl rfl rfl (by decide +kernel) (by decide +kernel) (fun _ => P_g143) (by decide) (fun _ _ => by decide +kernel) (fun q => by cases q) (P_all_cons (by decide +kernel) <| P_all_nil) P_l143 (by decide +kernel) P_k143 (fun _ _ => P_hok_nil)
/-- OrchardQuery.faultAt()I -/
def P_l144 : List (Nat × P_I) := [(1, .getfield 37, 4, 10, 1, [], []), (4, .invokevirtual 151, 7, 0, 130, [], [])]
set_option maxRecDepth 20000 in
theorem P_k144 : ∀ q ∈ P_l144, P_lnk P_cl P_aty P_stat P_tx P_N0 P_Tb P_Y0 "OrchardQuery" false prog_1_method_9_code [] q.1 q.2.1 q.2.2.2.1 q.2.2.2.2.1 :=
  P_all_cons (P_lnk_get (P_s1 (c := 10) (P := fun ci => P_fok P_cl P_Tb "OrchardQuery" 37 ci 1) rfl ⟨_, _, _, "OrchardQuery", rfl, by decide, (Or.inl rfl), (Or.inl w_4_172)⟩)) <|
  P_all_cons (P_lnk_vi (P_vall (l := P_v130) rfl (P_all_cons (show P_vok _ _ _ 7 93 from ⟨_, rfl, rfl, w_1_8, w_1_27, (Or.inl ⟨P_sg 0 rfl, w_1_28, (Or.inl w_1_26)⟩)⟩) (P_all_nil)))) <|
  P_all_nil
set_option maxRecDepth 20000 in
theorem P_m144 : P_mstC 144 1 (Option.some Jvm.ClassFile.FieldType.int) P_e144 [] := P_meth (mx := 1) (rt := (Option.some Jvm.ClassFile.FieldType.int)) (hs := []) "OrchardQuery" false prog_1_method_9_code [] rfl rfl rfl rfl (by decide +kernel) (by decide +kernel) (fun _ => P_g144) (by decide) (fun _ _ => by decide +kernel) (fun q => by cases q) (P_all_cons (by decide +kernel) <| P_all_nil) P_l144 (by decide +kernel) P_k144 (fun _ _ => P_hok_nil)
/-- OrchardQuery.many(I)I -/
def P_l145 : List (Nat × P_I) := [(21, .invokevirtual 156, 24, 1, 131, [], [])]
set_option maxRecDepth 20000 in
theorem P_k145 : ∀ q ∈ P_l145, P_lnk P_cl P_aty P_stat P_tx P_N0 P_Tb P_Y0 "OrchardQuery" false prog_1_method_10_code [] q.1 q.2.1 q.2.2.2.1 q.2.2.2.2.1 :=
  P_all_cons (P_lnk_vi (P_vall (l := P_v131) rfl (P_all_cons (show P_vok _ _ _ 10 167 from ⟨_, rfl, rfl, w_1_2, w_1_106, (Or.inl ⟨P_sg 1 rfl, w_p_1, (Or.inl w_1_104)⟩)⟩) (P_all_nil)))) <|
  P_all_nil
set_option maxRecDepth 20000 in
theorem P_m145 : P_mstC 145 2 (Option.some Jvm.ClassFile.FieldType.int) P_e145 [] := P_meth (mx := 2) (rt := (Option.some Jvm.ClassFile.FieldType.int)) (hs := []) "OrchardQuery" false prog_1_method_10_code [] rfl rfl rfl rfl (by decide +kernel) (by decide +kernel) (fun _ => P_g145) (by decide) (fun _ _ => by decide +kernel) (fun q => by cases q) (P_all_cons (by decide +kernel) <| P_all_nil) P_l145 (by decide +kernel) P_k145 (fun _ _ => P_hok_nil)
/-- OrchardQuery.condition(II)I -/
def P_l146 : List (Nat × P_I) := [(1, .invokevirtual 159, 4, 0, 132, [], []), (5, .getfield 28, 8, 10, 3, [], []), (9, .invokevirtual 162, 12, 1, 133, [], []), (45, .getfield 28, 48, 10, 3, [], []), (49, .getfield 28, 52, 10, 3, [], []), (53, .invokevirtual 169, 56, 1, 57, [], []), (57, .invokevirtual 172, 60, 2, 134, [], [])]
set_option maxRecDepth 20000 in
theorem P_k146 : ∀ q ∈ P_l146, P_lnk P_cl P_aty P_stat P_tx P_N0 P_Tb P_Y0 "OrchardQuery" false prog_1_method_11_code [] q.1 q.2.1 q.2.2.2.1 q.2.2.2.2.1 :=
  P_all_cons (P_lnk_vi (P_vall (l := P_v132) rfl (P_all_cons (show P_vok _ _ _ 10 168 from ⟨_, rfl, rfl, w_1_2, w_1_139, (Or.inl ⟨P_sg 0 rfl, w_p_2, (Or.inl w_1_137)⟩)⟩) (P_all_nil)))) <|
  P_all_cons (P_lnk_get (P_s1 (c := 10) (P := fun ci => P_fok P_cl P_Tb "OrchardQuery" 28 ci 3) rfl ⟨_, _, _, "OrchardQuery", rfl, by decide, (Or.inl rfl), (Or.inl w_4_174)⟩)) <|
  P_all_cons (P_lnk_vi (P_vall (l := P_v133) rfl (P_all_cons (show P_vok _ _ _ 5 56 from ⟨_, rfl, rfl, w_1_6, w_1_158, (Or.inl ⟨P_sg 1 rfl, w_1_159, (Or.inl w_1_157)⟩)⟩) (P_all_nil)))) <|
  P_all_cons (P_lnk_get (P_s1 (c := 10) (P := fun ci => P_fok P_cl P_Tb "OrchardQuery" 28 ci 3) rfl ⟨_, _, _, "OrchardQuery", rfl, by decide, (Or.inl rfl), (Or.inl w_4_174)⟩)) <|
  P_all_cons (P_lnk_get (P_s1 (c := 10) (P := fun ci => P_fok P_cl P_Tb "OrchardQuery" 28 ci 3) rfl ⟨_, _, _, "OrchardQuery", rfl, by decide, (Or.inl rfl), (Or.inl w_4_174)⟩)) <|
  P_all_cons (P_lnk_vi (P_vall (l := P_v57) rfl (P_all_cons (show P_vok _ _ _ 5 59 from ⟨_, rfl, rfl, w_1_6, w_1_179, (Or.inl ⟨P_sg 1 rfl, w_1_180, (Or.inl w_1_178)⟩)⟩) (P_all_nil)))) <|
  P_all_cons (P_lnk_vi (P_vall (l := P_v134) rfl (P_all_cons (show P_vok _ _ _ 5 62 from ⟨_, rfl, rfl, w_1_6, w_1_183, (Or.inl ⟨P_sg 2 rfl, w_1_184, (Or.inl w_1_182)⟩)⟩) (P_all_nil)))) <|
  P_all_nil
set_option maxRecDepth 20000 in
theorem P_m146 : P_mstC 146 3 (Option.some Jvm.ClassFile.FieldType.int) P_e146 [] := P_meth (mx := 3) (rt := (Option.some Jvm.ClassFile.FieldType.int)) (hs := []) "OrchardQuery" false prog_1_method_11_code [] rfl rfl rfl rfl (by decide +kernel) (by decide +kernel) (fun _ => P_g146) (by decide) (fun _ _ => by decide +kernel) (fun q => by cases q) (P_all_cons (by decide +kernel) <| P_all_cons (by decide +kernel) <| P_all_nil) P_l146 (by decide +kernel) P_k146 (fun _ _ => P_hok_nil)
/-- OrchardQuery.rewrite(I)I -/
def P_l147 : List (Nat × P_I) := [(1, .invokevirtual 159, 4, 0, 132, [], []), (24, .getfield 28, 27, 10, 3, [], []), (28, .invokevirtual 178, 31, 1, 135, [], []), (33, .invokevirtual 116, 36, 0, 124, [], [])]
set_option maxRecDepth 20000 in
theorem P_k147 : ∀ q ∈ P_l147, P_lnk P_cl P_aty P_stat P_tx P_N0 P_Tb P_Y0 "OrchardQuery" false prog_1_method_12_code [] q.1 q.2.1 q.2.2.2.1 q.2.2.2.2.1 :=
  P_all_cons (P_lnk_vi (P_vall (l := P_v132) rfl (P_all_cons (show P_vok _ _ _ 10 168 from ⟨_, rfl, rfl, w_1_2, w_1_139, (Or.inl ⟨P_sg 0 rfl, w_p_2, (Or.inl w_1_137)⟩)⟩) (P_all_nil)))) <|
  P_all_cons (P_lnk_get (P_s1 (c := 10) (P := fun ci => P_fok P_cl P_Tb "OrchardQuery" 28 ci 3) rfl ⟨_, _, _, "OrchardQuery", rfl, by decide, (Or.inl rfl), (Or.inl w_4_174)⟩)) <|
  P_all_cons (P_lnk_vi (P_vall (l := P_v135) rfl (P_all_cons (show P_vok _ _ _ 5 70 from ⟨_, rfl, rfl, w_1_6, w_6_68, (Or.inl ⟨P_sg 1 rfl, w_6_69, (Or.inl w_6_67)⟩)⟩) (P_all_nil)))) <|
  P_all_cons (P_lnk_vi (P_vall (l := P_v124) rfl (P_all_cons (show P_vok _ _ _ 10 169 from ⟨_, rfl, rfl, w_1_2, w_5_55, (Or.inl ⟨P_sg 0 rfl, w_p_17, (Or.inl w_5_53)⟩)⟩) (P_all_nil)))) <|
  P_all_nil
set_option maxRecDepth 20000 in
theorem P_m147 : P_mstC 147 3 (Option.some Jvm.ClassFile.FieldType.int) P_e147 [] := P_meth (mx := 3) (rt := (Option.some Jvm.ClassFile.FieldType.int)) (hs := []) "OrchardQuery" false prog_1_method_12_code [] rfl rfl rfl rfl (by decide +kernel) (by decide +kernel) (fun _ => P_g147) (by decide) (fun _ _ => by decide +kernel) (fun q => by cases q) (P_all_cons (by decide +kernel) <| P_all_cons (by decide +kernel) <| P_all_nil) P_l147 (by decide +kernel) P_k147 (fun _ _ => P_hok_nil)
