/-! TABLES of this claim, written by wip/gen.py: methods -/
/-- OrchardQuery$Groups.countOf(I)I -/
def P_l48 : List (Nat × P_I) := [(1, .getfield 15, 4, 4, 1, [], []), (5, .invokestatic 29, 8, 2, 178, [], [])]
set_option maxRecDepth 20000 in
theorem P_k48 : ∀ q ∈ P_l48, P_lnk P_cl P_aty P_stat P_tx P_N0 P_Tb P_Y0 "OrchardQuery$Groups" false prog_6_method_5_code [] q.1 q.2.1 q.2.2.2.1 q.2.2.2.2.1 :=
  P_all_cons (P_lnk_get (P_s1 (c := 4) (P := fun ci => P_fok P_cl P_Tb "OrchardQuery$Groups" 15 ci 1) rfl ⟨_, _, _, "OrchardQuery$Groups", rfl, by decide, (Or.inl rfl), (Or.inl w_4_69)⟩)) <|
  P_all_cons (P_lnk_st (by decide) (fun _ => ⟨P_sg 2 rfl, w_1_2, w_1_225, (Or.inr ⟨rfl, _, w_2_173⟩)⟩)) <|
  P_all_nil
set_option maxRecDepth 20000 in
theorem P_m48 : P_mstC 48 2 (Option.some Jvm.ClassFile.FieldType.int) P_e48 [] := P_meth (mx := 2) (rt := (Option.some Jvm.ClassFile.FieldType.int)) (hs := []) "OrchardQuery$Groups" false prog_6_method_5_code [] rfl rfl rfl rfl (by decide +kernel) (by decide +kernel) (fun _ => P_g48) (by decide) (fun _ _ => by decide +kernel) (fun q => by cases q) (P_all_cons (by decide +kernel) <| P_all_nil) P_l48 (by decide +kernel) P_k48 (fun _ _ => P_hok_nil)
/-- OrchardQuery$Groups.nameOf(I)I -/
def P_l49 : List (Nat × P_I) := [(1, .getfield 9, 4, 4, 0, [], []), (5, .getfield 9, 8, 4, 0, [], []), (8, .invokevirtual 54, 11, 0, 42, [], []), (11, .invokestatic 57, 14, 1, 176, [], []), (14, .invokevirtual 60, 17, 1, 48, [], []), (19, .getfield 9, 22, 4, 0, [], []), (22, .invokevirtual 54, 25, 0, 42, [], []), (25, .invokestatic 67, 28, 1, 177, [], []), (28, .invokevirtual 75, 31, 2, 55, [], [])]
set_option maxRecDepth 20000 in
theorem P_k49 : ∀ q ∈ P_l49, P_lnk P_cl P_aty P_stat P_tx P_N0 P_Tb P_Y0 "OrchardQuery$Groups" false prog_6_method_6_code [] q.1 q.2.1 q.2.2.2.1 q.2.2.2.2.1 :=
  P_all_cons (P_lnk_get (P_s1 (c := 4) (P := fun ci => P_fok P_cl P_Tb "OrchardQuery$Groups" 9 ci 0) rfl ⟨_, _, _, "OrchardQuery$Groups", rfl, by decide, (Or.inl rfl), (Or.inl w_4_68)⟩)) <|
  P_all_cons (P_lnk_get (P_s1 (c := 4) (P := fun ci => P_fok P_cl P_Tb "OrchardQuery$Groups" 9 ci 0) rfl ⟨_, _, _, "OrchardQuery$Groups", rfl, by decide, (Or.inl rfl), (Or.inl w_4_68)⟩)) <|
  P_all_cons (P_lnk_vi (P_vall (l := P_v42) rfl (P_all_cons (show P_vok _ _ _ 3 31 from ⟨_, rfl, rfl, w_1_5, w_2_155, (Or.inl ⟨P_sg 0 rfl, w_2_156, (Or.inl w_2_154)⟩)⟩) (P_all_nil)))) <|
  P_all_cons (P_lnk_st (by decide) (fun _ => ⟨P_sg 1 rfl, w_1_2, w_1_192, (Or.inr ⟨rfl, _, w_2_158⟩)⟩)) <|
  P_all_cons (P_lnk_vi (P_vall (l := P_v48) rfl (P_all_cons (show P_vok _ _ _ 3 38 from ⟨_, rfl, rfl, w_1_5, w_1_214, (Or.inl ⟨P_sg 1 rfl, w_1_215, (Or.inl w_2_159)⟩)⟩) (P_all_nil)))) <|
  P_all_cons (P_lnk_get (P_s1 (c := 4) (P := fun ci => P_fok P_cl P_Tb "OrchardQuery$Groups" 9 ci 0) rfl ⟨_, _, _, "OrchardQuery$Groups", rfl, by decide, (Or.inl rfl), (Or.inl w_4_68)⟩)) <|
  P_all_cons (P_lnk_vi (P_vall (l := P_v42) rfl (P_all_cons (show P_vok _ _ _ 3 31 from ⟨_, rfl, rfl, w_1_5, w_2_155, (Or.inl ⟨P_sg 0 rfl, w_2_156, (Or.inl w_2_154)⟩)⟩) (P_all_nil)))) <|
  P_all_cons (P_lnk_st (by decide) (fun _ => ⟨P_sg 1 rfl, w_1_2, w_1_218, (Or.inr ⟨rfl, _, w_2_163⟩)⟩)) <|
  P_all_cons (P_lnk_vi (P_vall (l := P_v55) rfl (P_all_cons (show P_vok _ _ _ 9 122 from ⟨_, rfl, rfl, w_1_4, w_2_134, (Or.inl ⟨P_sg 2 rfl, w_2_135, (Or.inl w_2_185)⟩)⟩) (P_all_nil)))) <|
  P_all_nil
set_option maxRecDepth 20000 in
theorem P_m49 : P_mstC 49 2 (Option.some Jvm.ClassFile.FieldType.int) P_e49 [] := P_meth (mx := 2) (rt := (Option.some Jvm.ClassFile.FieldType.int)) (hs := []) "OrchardQuery$Groups" false prog_6_method_6_code [] rfl rfl rfl rfl (by decide +kernel) (by decide +kernel) (fun _ => P_g49) (by decide) (fun _ _ => by decide +kernel) (fun q => by cases q) (P_all_cons (by decide +kernel) <| P_all_nil) P_l49 (by decide +kernel) P_k49 (fun _ _ => P_hok_nil)
/-- OrchardQuery$Groups.valueOf(II)I -/
def P_l50 : List (Nat × P_I) := [(1, .getfield 9, 4, 4, 0, [], []), (5, .invokevirtual 43, 8, 1, 52, [], []), (17, .invokevirtual 78, 20, 1, 43, [], []), (28, .getfield 22, 31, 4, 3, [], []), (36, .invokestatic 29, 39, 2, 178, [], []), (42, .invokevirtual 78, 45, 1, 43, [], []), (54, .getfield 19, 57, 4, 2, [], []), (58, .invokestatic 29, 61, 2, 178, [], []), (62, .getfield 9, 65, 4, 0, [], []), (66, .invokevirtual 47, 69, 1, 37, [], []), (69, .invokevirtual 50, 72, 2, 38, [], [])]
set_option maxRecDepth 20000 in
theorem P_k50 : ∀ q ∈ P_l50, P_lnk P_cl P_aty P_stat P_tx P_N0 P_Tb P_Y0 "OrchardQuery$Groups" false prog_6_method_7_code [] q.1 q.2.1 q.2.2.2.1 q.2.2.2.2.1 :=
  P_all_cons (P_lnk_get (P_s1 (c := 4) (P := fun ci => P_fok P_cl P_Tb "OrchardQuery$Groups" 9 ci 0) rfl ⟨_, _, _, "OrchardQuery$Groups", rfl, by decide, (Or.inl rfl), (Or.inl w_4_68)⟩)) <|
  P_all_cons (P_lnk_vi (P_vall (l := P_v52) rfl (P_all_cons (show P_vok _ _ _ 3 34 from ⟨_, rfl, rfl, w_1_5, w_2_90, (Or.inl ⟨P_sg 1 rfl, w_2_91, (Or.inl w_2_176)⟩)⟩) (P_all_nil)))) <|
  P_all_cons (P_lnk_vi (P_vall (l := P_v43) rfl (P_all_cons (show P_vok _ _ _ 4 48 from ⟨_, rfl, rfl, w_1_11, w_2_208, (Or.inl ⟨P_sg 1 rfl, w_2_209, (Or.inl w_3_1)⟩)⟩) (P_all_nil)))) <|
  P_all_cons (P_lnk_get (P_s1 (c := 4) (P := fun ci => P_fok P_cl P_Tb "OrchardQuery$Groups" 22 ci 3) rfl ⟨_, _, _, "OrchardQuery$Groups", rfl, by decide, (Or.inl rfl), (Or.inl w_4_71)⟩)) <|
  P_all_cons (P_lnk_st (by decide) (fun _ => ⟨P_sg 2 rfl, w_1_2, w_1_225, (Or.inr ⟨rfl, _, w_2_173⟩)⟩)) <|
  P_all_cons (P_lnk_vi (P_vall (l := P_v43) rfl (P_all_cons (show P_vok _ _ _ 4 48 from ⟨_, rfl, rfl, w_1_11, w_2_208, (Or.inl ⟨P_sg 1 rfl, w_2_209, (Or.inl w_3_1)⟩)⟩) (P_all_nil)))) <|
  P_all_cons (P_lnk_get (P_s1 (c := 4) (P := fun ci => P_fok P_cl P_Tb "OrchardQuery$Groups" 19 ci 2) rfl ⟨_, _, _, "OrchardQuery$Groups", rfl, by decide, (Or.inl rfl), (Or.inl w_4_70)⟩)) <|
  P_all_cons (P_lnk_st (by decide) (fun _ => ⟨P_sg 2 rfl, w_1_2, w_1_225, (Or.inr ⟨rfl, _, w_2_173⟩)⟩)) <|
  P_all_cons (P_lnk_get (P_s1 (c := 4) (P := fun ci => P_fok P_cl P_Tb "OrchardQuery$Groups" 9 ci 0) rfl ⟨_, _, _, "OrchardQuery$Groups", rfl, by decide, (Or.inl rfl), (Or.inl w_4_68)⟩)) <|
  P_all_cons (P_lnk_vi (P_vall (l := P_v37) rfl (P_all_cons (show P_vok _ _ _ 3 35 from ⟨_, rfl, rfl, w_1_5, w_2_178, (Or.inl ⟨P_sg 1 rfl, w_2_179, (Or.inl w_2_177)⟩)⟩) (P_all_nil)))) <|
  P_all_cons (P_lnk_vi (P_vall (l := P_v38) rfl (P_all_cons (show P_vok _ _ _ 4 51 from ⟨_, rfl, rfl, w_1_11, w_2_182, (Or.inl ⟨P_sg 2 rfl, w_2_183, (Or.inl w_2_181)⟩)⟩) (P_all_nil)))) <|
  P_all_nil
set_option maxRecDepth 20000 in
theorem P_m50 : P_mstC 50 4 (Option.some Jvm.ClassFile.FieldType.int) P_e50 [] := P_meth (mx := 4) (rt := (Option.some Jvm.ClassFile.FieldType.int)) (hs := []) "OrchardQuery$Groups" false prog_6_method_7_code [] rfl rfl rfl rfl (by decide +kernel) (by decide +kernel) (fun _ => P_g50) (by decide) (fun _ _ => by decide +kernel) (fun q => by cases q) (P_all_cons (by decide +kernel) <| P_all_cons (by decide +kernel) <| P_all_cons (by decide +kernel) <| P_all_nil) P_l50 (by decide +kernel) P_k50 (fun _ _ => P_hok_nil)
/-- OrchardQuery$Groups.cellOf(II)I -/
def P_l51 : List (Nat × P_I) := [(1, .invokestatic 57, 4, 1, 176, [], []), (6, .getfield 9, 9, 4, 0, [], []), (10, .invokevirtual 60, 13, 1, 48, [], []), (15, .invokestatic 64, 18, 2, 52, [], []), (19, .invokestatic 67, 22, 1, 177, [], []), (22, .invokevirtual 75, 25, 2, 55, [], [])]
set_option maxRecDepth 20000 in
theorem P_k51 : ∀ q ∈ P_l51, P_lnk P_cl P_aty P_stat P_tx P_N0 P_Tb P_Y0 "OrchardQuery$Groups" false prog_6_method_8_code [] q.1 q.2.1 q.2.2.2.1 q.2.2.2.2.1 :=
  P_all_cons (P_lnk_st (by decide) (fun _ => ⟨P_sg 1 rfl, w_1_2, w_1_192, (Or.inr ⟨rfl, _, w_2_158⟩)⟩)) <|
  P_all_cons (P_lnk_get (P_s1 (c := 4) (P := fun ci => P_fok P_cl P_Tb "OrchardQuery$Groups" 9 ci 0) rfl ⟨_, _, _, "OrchardQuery$Groups", rfl, by decide, (Or.inl rfl), (Or.inl w_4_68)⟩)) <|
  P_all_cons (P_lnk_vi (P_vall (l := P_v48) rfl (P_all_cons (show P_vok _ _ _ 3 38 from ⟨_, rfl, rfl, w_1_5, w_1_214, (Or.inl ⟨P_sg 1 rfl, w_1_215, (Or.inl w_2_159)⟩)⟩) (P_all_nil)))) <|
  P_all_cons (P_lnk_st (by decide) (fun _ => ⟨P_sg 2 rfl, w_1_11, w_2_161, (Or.inl w_2_160)⟩)) <|
  P_all_cons (P_lnk_st (by decide) (fun _ => ⟨P_sg 1 rfl, w_1_2, w_1_218, (Or.inr ⟨rfl, _, w_2_163⟩)⟩)) <|
  P_all_cons (P_lnk_vi (P_vall (l := P_v55) rfl (P_all_cons (show P_vok _ _ _ 9 122 from ⟨_, rfl, rfl, w_1_4, w_2_134, (Or.inl ⟨P_sg 2 rfl, w_2_135, (Or.inl w_2_185)⟩)⟩) (P_all_nil)))) <|
  P_all_nil
set_option maxRecDepth 20000 in
theorem P_m51 : P_mstC 51 4 (Option.some Jvm.ClassFile.FieldType.int) P_e51 [] := P_meth (mx := 4) (rt := (Option.some Jvm.ClassFile.FieldType.int)) (hs := []) "OrchardQuery$Groups" false prog_6_method_8_code [] rfl rfl rfl rfl (by decide +kernel) (by decide +kernel) (fun _ => P_g51) (by decide) (fun _ _ => by decide +kernel) (fun q => by cases q) (P_all_cons (by decide +kernel) <| P_all_nil) P_l51 (by decide +kernel) P_k51 (fun _ _ => P_hok_nil)
/-- OrchardQuery$Groups.rowOf(II)I -/
def P_l52 : List (Nat × P_I) := []
set_option maxRecDepth 20000 in
theorem P_k52 : ∀ q ∈ P_l52, P_lnk P_cl P_aty P_stat P_tx P_N0 P_Tb P_Y0 "OrchardQuery$Groups" false prog_6_method_9_code [] q.1 q.2.1 q.2.2.2.1 q.2.2.2.2.1 :=
  P_all_nil
set_option maxRecDepth 20000 in
theorem P_m52 : P_mstC 52 3 (Option.some Jvm.ClassFile.FieldType.int) P_e52 [] := P_meth (mx := 3) (rt := (Option.some Jvm.ClassFile.FieldType.int)) (hs := []) "OrchardQuery$Groups" false prog_6_method_9_code [] rfl rfl rfl rfl (by decide +kernel) (by decide +kernel) (fun _ => P_g52) (by decide) (fun _ _ => by decide +kernel) (fun q => by cases q) (P_all_cons (by decide +kernel) <| P_all_nil) P_l52 (by decide +kernel) P_k52 (fun _ _ => P_hok_nil)
/-- OrchardQuery$Plan.<init>(LOrchardQuery$Form;)V -/
def P_l53 : List (Nat × P_I) := [(1, .invokespecial 3, 4, 0, 9000, [], []), (6, .putfield 9, 9, 5, 0, [], []), (12, .anewarray 15, 15, 0, 101, [], []), (15, .putfield 17, 18, 5, 1, [], []), (22, .getfield 17, 25, 5, 1, [], []), (30, .getfield 17, 33, 5, 1, [], []), (34, .new 15, 37, 0, 1, [], []), (38, .invokespecial 21, 41, 0, 14, [], []), (41, .aastore, 42, 0, 0, [], []), (49, .new 15, 52, 0, 1, [], []), (53, .invokespecial 21, 56, 0, 14, [], []), (56, .putfield 22, 59, 5, 2, [], []), (61, .newarray .int, 63, 0, 0, [], []), (63, .putfield 26, 66, 5, 3, [], [])]
set_option maxRecDepth 20000 in
theorem P_k53 : ∀ q ∈ P_l53, P_lnk P_cl P_aty P_stat P_tx P_N0 P_Tb P_Y0 "OrchardQuery$Plan" true prog_7_method_1_code [] q.1 q.2.1 q.2.2.2.1 q.2.2.2.2.1 :=
  P_all_cons (P_lnk_oj (fun _ => ⟨w_3_209, w_1_60, w_1_61⟩)) <|
  P_all_cons (P_lnk_put (P_s1 (c := 5) (P := fun ci => P_pok P_cl P_Tb "OrchardQuery$Plan" true 9 ci 0) rfl ⟨_, _, _, "OrchardQuery$Plan", rfl, by decide, (Or.inl rfl), (Or.inl ⟨w_3_238, (Or.inr ⟨rfl, rfl, rfl⟩)⟩)⟩)) <|
  P_all_cons (P_lnk_anw rfl w_3_210 w_3_211) <|
  P_all_cons (P_lnk_put (P_s1 (c := 5) (P := fun ci => P_pok P_cl P_Tb "OrchardQuery$Plan" true 17 ci 1) rfl ⟨_, _, _, "OrchardQuery$Plan", rfl, by decide, (Or.inl rfl), (Or.inl ⟨w_3_239, (Or.inr ⟨rfl, rfl, rfl⟩)⟩)⟩)) <|
  P_all_cons (P_lnk_get (P_s1 (c := 5) (P := fun ci => P_fok P_cl P_Tb "OrchardQuery$Plan" 17 ci 1) rfl ⟨_, _, _, "OrchardQuery$Plan", rfl, by decide, (Or.inl rfl), (Or.inl w_3_239)⟩)) <|
  P_all_cons (P_lnk_get (P_s1 (c := 5) (P := fun ci => P_fok P_cl P_Tb "OrchardQuery$Plan" 17 ci 1) rfl ⟨_, _, _, "OrchardQuery$Plan", rfl, by decide, (Or.inl rfl), (Or.inl w_3_239)⟩)) <|
  P_all_cons (P_lnk_new (by decide) rfl w_3_210 w_3_212 w_1_7) <|
  P_all_cons (P_lnk_sp (by decide) (fun _ => ⟨P_sg 0 rfl, w_1_7, w_3_214, rfl, rfl, (Or.inr ⟨_, w_3_213⟩)⟩)) <|
  P_all_cons (P_lnk_as0 (by decide)) <|
  P_all_cons (P_lnk_new (by decide) rfl w_3_210 w_3_212 w_1_7) <|
  P_all_cons (P_lnk_sp (by decide) (fun _ => ⟨P_sg 0 rfl, w_1_7, w_3_214, rfl, rfl, (Or.inr ⟨_, w_3_213⟩)⟩)) <|
  P_all_cons (P_lnk_put (P_s1 (c := 5) (P := fun ci => P_pok P_cl P_Tb "OrchardQuery$Plan" true 22 ci 2) rfl ⟨_, _, _, "OrchardQuery$Plan", rfl, by decide, (Or.inl rfl), (Or.inl ⟨w_4_0, (Or.inr ⟨rfl, rfl, rfl⟩)⟩)⟩)) <|
  P_all_cons (P_lnk_nwa rfl w_3_158) <|
  P_all_cons (P_lnk_put (P_s1 (c := 5) (P := fun ci => P_pok P_cl P_Tb "OrchardQuery$Plan" true 26 ci 3) rfl ⟨_, _, _, "OrchardQuery$Plan", rfl, by decide, (Or.inl rfl), (Or.inl ⟨w_4_1, (Or.inr ⟨rfl, rfl, rfl⟩)⟩)⟩)) <|
  P_all_nil
set_option maxRecDepth 20000 in
theorem P_m53 : P_mstC 53 3 (Option.none : Option Jvm.ClassFile.FieldType) P_e53 [] := P_meth (mx := 3) (rt := (Option.none : Option Jvm.ClassFile.FieldType)) (hs := []) "OrchardQuery$Plan" true prog_7_method_1_code [] rfl rfl rfl rfl (by decide +kernel) (by decide +kernel) (fun _ => P_g53) (by decide) (fun t q => by cases q) (fun _ => rfl) (P_all_cons (by decide +kernel) <| P_all_cons (by decide +kernel) <| P_all_cons (by decide +kernel) <| P_all_nil) P_l53 (by decide +kernel) P_k53 (fun _ _ => P_hok_nil)
/-- OrchardQuery$Plan.begin()V -/
def P_l54 : List (Nat × P_I) := [(2, .putfield 30, 5, 5, 4, [], []), (7, .putfield 34, 10, 5, 5, [], []), (12, .invokevirtual 38, 15, 1, 56, [], [])]
set_option maxRecDepth 20000 in
theorem P_k54 : ∀ q ∈ P_l54, P_lnk P_cl P_aty P_stat P_tx P_N0 P_Tb P_Y0 "OrchardQuery$Plan" false prog_7_method_2_code [] q.1 q.2.1 q.2.2.2.1 q.2.2.2.2.1 :=
  P_all_cons (P_lnk_put (P_s1 (c := 5) (P := fun ci => P_pok P_cl P_Tb "OrchardQuery$Plan" false 30 ci 4) rfl ⟨_, _, _, "OrchardQuery$Plan", rfl, by decide, (Or.inl rfl), (Or.inl ⟨w_4_2, (Or.inl rfl)⟩)⟩)) <|
  P_all_cons (P_lnk_put (P_s1 (c := 5) (P := fun ci => P_pok P_cl P_Tb "OrchardQuery$Plan" false 34 ci 5) rfl ⟨_, _, _, "OrchardQuery$Plan", rfl, by decide, (Or.inl rfl), (Or.inl ⟨w_4_3, (Or.inl rfl)⟩)⟩)) <|
  P_all_cons (P_lnk_vi (P_vall (l := P_v56) rfl (P_all_cons (show P_vok _ _ _ 5 82 from ⟨_, rfl, rfl, w_1_6, w_5_175, (Or.inl ⟨P_sg 1 rfl, w_p_21, (Or.inl w_5_173)⟩)⟩) (P_all_nil)))) <|
  P_all_nil
set_option maxRecDepth 20000 in
theorem P_m54 : P_mstC 54 1 (Option.none : Option Jvm.ClassFile.FieldType) P_e54 [] := P_meth (mx := 1) (rt := (Option.none : Option Jvm.ClassFile.FieldType)) (hs := []) "OrchardQuery$Plan" false prog_7_method_2_code [] rfl rfl rfl rfl (by decide +kernel) (by decide +kernel) (fun _ => P_g54) (by decide) (fun _ _ => by decide +kernel) (fun q => by cases q) (P_all_cons (by decide +kernel) <| P_all_nil) P_l54 (by decide +kernel) P_k54 (fun _ _ => P_hok_nil)
/-- OrchardQuery$Plan.conditionCount()I -/
def P_l55 : List (Nat × P_I) := [(1, .getfield 30, 4, 5, 4, [], [])]
set_option maxRecDepth 20000 in
theorem P_k55 : ∀ q ∈ P_l55, P_lnk P_cl P_aty P_stat P_tx P_N0 P_Tb P_Y0 "OrchardQuery$Plan" false prog_7_method_3_code [] q.1 q.2.1 q.2.2.2.1 q.2.2.2.2.1 :=
  P_all_cons (P_lnk_get (P_s1 (c := 5) (P := fun ci => P_fok P_cl P_Tb "OrchardQuery$Plan" 30 ci 4) rfl ⟨_, _, _, "OrchardQuery$Plan", rfl, by decide, (Or.inl rfl), (Or.inl w_4_2)⟩)) <|
  P_all_nil
set_option maxRecDepth 20000 in
theorem P_m55 : P_mstC 55 1 (Option.some Jvm.ClassFile.FieldType.int) P_e55 [] := P_meth (mx := 1) (rt := (Option.some Jvm.ClassFile.FieldType.int)) (hs := []) "OrchardQuery$Plan" false prog_7_method_3_code [] rfl rfl rfl rfl (by decide +kernel) (by decide +kernel) (fun _ => P_g55) (by decide) (fun _ _ => by decide +kernel) (fun q => by cases q) (P_all_cons (by decide +kernel) <| P_all_nil) P_l55 (by decide +kernel) P_k55 (fun _ _ => P_hok_nil)
/-- OrchardQuery$Plan.hasCondition(I)Z -/
def P_l56 : List (Nat × P_I) := [(6, .getfield 30, 9, 5, 4, [], [])]
set_option maxRecDepth 20000 in
theorem P_k56 : ∀ q ∈ P_l56, P_lnk P_cl P_aty P_stat P_tx P_N0 P_Tb P_Y0 "OrchardQuery$Plan" false prog_7_method_4_code [] q.1 q.2.1 q.2.2.2.1 q.2.2.2.2.1 :=
  P_all_cons (P_lnk_get (P_s1 (c := 5) (P := fun ci => P_fok P_cl P_Tb "OrchardQuery$Plan" 30 ci 4) rfl ⟨_, _, _, "OrchardQuery$Plan", rfl, by decide, (Or.inl rfl), (Or.inl w_4_2)⟩)) <|
  P_all_nil
set_option maxRecDepth 20000 in
theorem P_m56 : P_mstC 56 2 (Option.some Jvm.ClassFile.FieldType.boolean) P_e56 [] := P_meth (mx := 2) (rt := (Option.some Jvm.ClassFile.FieldType.boolean)) (hs := []) "OrchardQuery$Plan" false prog_7_method_4_code [] rfl rfl rfl rfl (by decide +kernel) (by decide +kernel) (fun _ => P_g56) (by decide) (fun _ _ => by decide +kernel) (fun q => by cases q) (P_all_cons (by decide +kernel) <| P_all_nil) P_l56 (by decide +kernel) P_k56 (fun _ _ => P_hok_nil)
/-- OrchardQuery$Plan.isNever()Z -/
def P_l57 : List (Nat × P_I) := [(1, .getfield 34, 4, 5, 5, [], [])]
set_option maxRecDepth 20000 in
theorem P_k57 : ∀ q ∈ P_l57, P_lnk P_cl P_aty P_stat P_tx P_N0 P_Tb P_Y0 "OrchardQuery$Plan" false prog_7_method_5_code [] q.1 q.2.1 q.2.2.2.1 q.2.2.2.2.1 :=
  P_all_cons (P_lnk_get (P_s1 (c := 5) (P := fun ci => P_fok P_cl P_Tb "OrchardQuery$Plan" 34 ci 5) rfl ⟨_, _, _, "OrchardQuery$Plan", rfl, by decide, (Or.inl rfl), (Or.inl w_4_3)⟩)) <|
  P_all_nil
set_option maxRecDepth 20000 in
theorem P_m57 : P_mstC 57 1 (Option.some Jvm.ClassFile.FieldType.boolean) P_e57 [] := P_meth (mx := 1) (rt := (Option.some Jvm.ClassFile.FieldType.boolean)) (hs := []) "OrchardQuery$Plan" false prog_7_method_5_code [] rfl rfl rfl rfl (by decide +kernel) (by decide +kernel) (fun _ => P_g57) (by decide) (fun _ _ => by decide +kernel) (fun q => by cases q) (P_all_cons (by decide +kernel) <| P_all_nil) P_l57 (by decide +kernel) P_k57 (fun _ _ => P_hok_nil)
/-- OrchardQuery$Plan.seatAt(I)I -/
def P_l58 : List (Nat × P_I) := [(1, .getfield 26, 4, 5, 3, [], []), (5, .invokestatic 42, 8, 2, 178, [], [])]
set_option maxRecDepth 20000 in
theorem P_k58 : ∀ q ∈ P_l58, P_lnk P_cl P_aty P_stat P_tx P_N0 P_Tb P_Y0 "OrchardQuery$Plan" false prog_7_method_6_code [] q.1 q.2.1 q.2.2.2.1 q.2.2.2.2.1 :=
  P_all_cons (P_lnk_get (P_s1 (c := 5) (P := fun ci => P_fok P_cl P_Tb "OrchardQuery$Plan" 26 ci 3) rfl ⟨_, _, _, "OrchardQuery$Plan", rfl, by decide, (Or.inl rfl), (Or.inl w_4_1)⟩)) <|
  P_all_cons (P_lnk_st (by decide) (fun _ => ⟨P_sg 2 rfl, w_1_2, w_1_225, (Or.inr ⟨rfl, _, w_2_0⟩)⟩)) <|
  P_all_nil
set_option maxRecDepth 20000 in
theorem P_m58 : P_mstC 58 2 (Option.some Jvm.ClassFile.FieldType.int) P_e58 [] := P_meth (mx := 2) (rt := (Option.some Jvm.ClassFile.FieldType.int)) (hs := []) "OrchardQuery$Plan" false prog_7_method_6_code [] rfl rfl rfl rfl (by decide +kernel) (by decide +kernel) (fun _ => P_g58) (by decide) (fun _ _ => by decide +kernel) (fun q => by cases q) (P_all_cons (by decide +kernel) <| P_all_nil) P_l58 (by decide +kernel) P_k58 (fun _ _ => P_hok_nil)
/-- OrchardQuery$Plan.at(I)LOrchardQuery$Condition; -/
def P_l59 : List (Nat × P_I) := [(6, .getfield 17, 9, 5, 1, [], []), (14, .getfield 22, 17, 5, 2, [], []), (19, .getfield 17, 22, 5, 1, [], []), (30, .getfield 22, 33, 5, 2, [], [])]
set_option maxRecDepth 20000 in
theorem P_k59 : ∀ q ∈ P_l59, P_lnk P_cl P_aty P_stat P_tx P_N0 P_Tb P_Y0 "OrchardQuery$Plan" false prog_7_method_7_code [] q.1 q.2.1 q.2.2.2.1 q.2.2.2.2.1 :=
  P_all_cons (P_lnk_get (P_s1 (c := 5) (P := fun ci => P_fok P_cl P_Tb "OrchardQuery$Plan" 17 ci 1) rfl ⟨_, _, _, "OrchardQuery$Plan", rfl, by decide, (Or.inl rfl), (Or.inl w_3_239)⟩)) <|
  P_all_cons (P_lnk_get (P_s1 (c := 5) (P := fun ci => P_fok P_cl P_Tb "OrchardQuery$Plan" 22 ci 2) rfl ⟨_, _, _, "OrchardQuery$Plan", rfl, by decide, (Or.inl rfl), (Or.inl w_4_0)⟩)) <|
  P_all_cons (P_lnk_get (P_s1 (c := 5) (P := fun ci => P_fok P_cl P_Tb "OrchardQuery$Plan" 17 ci 1) rfl ⟨_, _, _, "OrchardQuery$Plan", rfl, by decide, (Or.inl rfl), (Or.inl w_3_239)⟩)) <|
  P_all_cons (P_lnk_get (P_s1 (c := 5) (P := fun ci => P_fok P_cl P_Tb "OrchardQuery$Plan" 22 ci 2) rfl ⟨_, _, _, "OrchardQuery$Plan", rfl, by decide, (Or.inl rfl), (Or.inl w_4_0)⟩)) <|
  P_all_nil
set_option maxRecDepth 20000 in
theorem P_m59 : P_mstC 59 3 (Option.some (Jvm.ClassFile.FieldType.object "OrchardQuery$Condition")) P_e59 [] := P_meth (mx := 3) (rt := (Option.some (Jvm.ClassFile.FieldType.object "OrchardQuery$Condition"))) (hs := []) "OrchardQuery$Plan" false prog_7_method_7_code [] rfl rfl rfl rfl (by decide +kernel) (by decide +kernel) (fun _ => P_g59) (by decide) (fun _ _ => by decide +kernel) (fun q => by cases q) (P_all_cons (by decide +kernel) <| P_all_cons (by decide +kernel) <| P_all_nil) P_l59 (by decide +kernel) P_k59 (fun _ _ => P_hok_nil)
/-- OrchardQuery$Plan.add(III)V -/
def P_l60 : List (Nat × P_I) := [(1, .getfield 30, 4, 5, 4, [], []), (5, .getfield 17, 8, 5, 1, [], []), (14, .getfield 30, 17, 5, 4, [], []), (17, .invokevirtual 46, 20, 1, 57, [], []), (24, .getfield 9, 27, 5, 0, [], []), (27, .invokevirtual 50, 30, 0, 58, [], []), (32, .invokevirtual 56, 35, 4, 59, [], []), (37, .getfield 30, 40, 5, 4, [], []), (42, .putfield 30, 45, 5, 4, [], [])]
set_option maxRecDepth 20000 in
theorem P_k60 : ∀ q ∈ P_l60, P_lnk P_cl P_aty P_stat P_tx P_N0 P_Tb P_Y0 "OrchardQuery$Plan" false prog_7_method_8_code [] q.1 q.2.1 q.2.2.2.1 q.2.2.2.2.1 :=
  P_all_cons (P_lnk_get (P_s1 (c := 5) (P := fun ci => P_fok P_cl P_Tb "OrchardQuery$Plan" 30 ci 4) rfl ⟨_, _, _, "OrchardQuery$Plan", rfl, by decide, (Or.inl rfl), (Or.inl w_4_2)⟩)) <|
  P_all_cons (P_lnk_get (P_s1 (c := 5) (P := fun ci => P_fok P_cl P_Tb "OrchardQuery$Plan" 17 ci 1) rfl ⟨_, _, _, "OrchardQuery$Plan", rfl, by decide, (Or.inl rfl), (Or.inl w_3_239)⟩)) <|
  P_all_cons (P_lnk_get (P_s1 (c := 5) (P := fun ci => P_fok P_cl P_Tb "OrchardQuery$Plan" 30 ci 4) rfl ⟨_, _, _, "OrchardQuery$Plan", rfl, by decide, (Or.inl rfl), (Or.inl w_4_2)⟩)) <|
  P_all_cons (P_lnk_vi (P_vall (l := P_v57) rfl (P_all_cons (show P_vok _ _ _ 5 59 from ⟨_, rfl, rfl, w_1_6, w_1_179, (Or.inl ⟨P_sg 1 rfl, w_1_180, (Or.inl w_2_25)⟩)⟩) (P_all_nil)))) <|
  P_all_cons (P_lnk_get (P_s1 (c := 5) (P := fun ci => P_fok P_cl P_Tb "OrchardQuery$Plan" 9 ci 0) rfl ⟨_, _, _, "OrchardQuery$Plan", rfl, by decide, (Or.inl rfl), (Or.inl w_3_238)⟩)) <|
  P_all_cons (P_lnk_vi (P_vall (l := P_v58) rfl (P_all_cons (show P_vok _ _ _ 3 30 from ⟨_, rfl, rfl, w_1_5, w_1_126, (Or.inl ⟨P_sg 0 rfl, w_1_127, (Or.inl w_2_10)⟩)⟩) (P_all_nil)))) <|
  P_all_cons (P_lnk_vi (P_vall (l := P_v59) rfl (P_all_cons (show P_vok _ _ _ 1 15 from ⟨_, rfl, rfl, w_1_7, w_5_239, (Or.inl ⟨P_sg 4 rfl, w_6_0, (Or.inl w_5_238)⟩)⟩) (P_all_nil)))) <|
  P_all_cons (P_lnk_get (P_s1 (c := 5) (P := fun ci => P_fok P_cl P_Tb "OrchardQuery$Plan" 30 ci 4) rfl ⟨_, _, _, "OrchardQuery$Plan", rfl, by decide, (Or.inl rfl), (Or.inl w_4_2)⟩)) <|
  P_all_cons (P_lnk_put (P_s1 (c := 5) (P := fun ci => P_pok P_cl P_Tb "OrchardQuery$Plan" false 30 ci 4) rfl ⟨_, _, _, "OrchardQuery$Plan", rfl, by decide, (Or.inl rfl), (Or.inl ⟨w_4_2, (Or.inl rfl)⟩)⟩)) <|
  P_all_nil
set_option maxRecDepth 20000 in
theorem P_m60 : P_mstC 60 4 (Option.none : Option Jvm.ClassFile.FieldType) P_e60 [] := P_meth (mx := 4) (rt := (Option.none : Option Jvm.ClassFile.FieldType)) (hs := []) "OrchardQuery$Plan" false prog_7_method_8_code [] rfl rfl rfl rfl (by decide +kernel) (by decide +kernel) (fun _ => P_g60) (by decide) (fun _ _ => by decide +kernel) (fun q => by cases q) (P_all_cons (by decide +kernel) <| P_all_cons (by decide +kernel) <| P_all_nil) P_l60 (by decide +kernel) P_k60 (fun _ _ => P_hok_nil)
/-- OrchardQuery$Plan.remove(I)V -/
def P_l61 : List (Nat × P_I) := [(6, .getfield 30, 9, 5, 4, [], []), (16, .invokevirtual 46, 19, 1, 57, [], []), (22, .invokevirtual 46, 25, 1, 57, [], []), (26, .getfield 60, 29, 1, 0, [], []), (30, .getfield 63, 33, 1, 1, [], []), (34, .getfield 66, 37, 1, 2, [], []), (38, .getfield 69, 41, 1, 3, [], []), (41, .invokevirtual 56, 44, 4, 59, [], []), (52, .getfield 30, 55, 5, 4, [], []), (57, .putfield 30, 60, 5, 4, [], [])]
set_option maxRecDepth 20000 in
theorem P_k61 : ∀ q ∈ P_l61, P_lnk P_cl P_aty P_stat P_tx P_N0 P_Tb P_Y0 "OrchardQuery$Plan" false prog_7_method_9_code [] q.1 q.2.1 q.2.2.2.1 q.2.2.2.2.1 :=
  P_all_cons (P_lnk_get (P_s1 (c := 5) (P := fun ci => P_fok P_cl P_Tb "OrchardQuery$Plan" 30 ci 4) rfl ⟨_, _, _, "OrchardQuery$Plan", rfl, by decide, (Or.inl rfl), (Or.inl w_4_2)⟩)) <|
  P_all_cons (P_lnk_vi (P_vall (l := P_v57) rfl (P_all_cons (show P_vok _ _ _ 5 59 from ⟨_, rfl, rfl, w_1_6, w_1_179, (Or.inl ⟨P_sg 1 rfl, w_1_180, (Or.inl w_2_25)⟩)⟩) (P_all_nil)))) <|
  P_all_cons (P_lnk_vi (P_vall (l := P_v57) rfl (P_all_cons (show P_vok _ _ _ 5 59 from ⟨_, rfl, rfl, w_1_6, w_1_179, (Or.inl ⟨P_sg 1 rfl, w_1_180, (Or.inl w_2_25)⟩)⟩) (P_all_nil)))) <|
  P_all_cons (P_lnk_get (P_s1 (c := 1) (P := fun ci => P_fok P_cl P_Tb "OrchardQuery$Plan" 60 ci 0) rfl ⟨_, _, _, "OrchardQuery$Condition", rfl, by decide, (Or.inl rfl), (Or.inr ⟨_, w_3_218⟩)⟩)) <|
  P_all_cons (P_lnk_get (P_s1 (c := 1) (P := fun ci => P_fok P_cl P_Tb "OrchardQuery$Plan" 63 ci 1) rfl ⟨_, _, _, "OrchardQuery$Condition", rfl, by decide, (Or.inl rfl), (Or.inr ⟨_, w_3_221⟩)⟩)) <|
  P_all_cons (P_lnk_get (P_s1 (c := 1) (P := fun ci => P_fok P_cl P_Tb "OrchardQuery$Plan" 66 ci 2) rfl ⟨_, _, _, "OrchardQuery$Condition", rfl, by decide, (Or.inl rfl), (Or.inr ⟨_, w_3_224⟩)⟩)) <|
  P_all_cons (P_lnk_get (P_s1 (c := 1) (P := fun ci => P_fok P_cl P_Tb "OrchardQuery$Plan" 69 ci 3) rfl ⟨_, _, _, "OrchardQuery$Condition", rfl, by decide, (Or.inl rfl), (Or.inr ⟨_, w_3_228⟩)⟩)) <|
  P_all_cons (P_lnk_vi (P_vall (l := P_v59) rfl (P_all_cons (show P_vok _ _ _ 1 15 from ⟨_, rfl, rfl, w_1_7, w_5_239, (Or.inl ⟨P_sg 4 rfl, w_6_0, (Or.inl w_5_238)⟩)⟩) (P_all_nil)))) <|
  P_all_cons (P_lnk_get (P_s1 (c := 5) (P := fun ci => P_fok P_cl P_Tb "OrchardQuery$Plan" 30 ci 4) rfl ⟨_, _, _, "OrchardQuery$Plan", rfl, by decide, (Or.inl rfl), (Or.inl w_4_2)⟩)) <|
  P_all_cons (P_lnk_put (P_s1 (c := 5) (P := fun ci => P_pok P_cl P_Tb "OrchardQuery$Plan" false 30 ci 4) rfl ⟨_, _, _, "OrchardQuery$Plan", rfl, by decide, (Or.inl rfl), (Or.inl ⟨w_4_2, (Or.inl rfl)⟩)⟩)) <|
  P_all_nil
set_option maxRecDepth 20000 in
theorem P_m61 : P_mstC 61 4 (Option.none : Option Jvm.ClassFile.FieldType) P_e61 [] := P_meth (mx := 4) (rt := (Option.none : Option Jvm.ClassFile.FieldType)) (hs := []) "OrchardQuery$Plan" false prog_7_method_9_code [] rfl rfl rfl rfl (by decide +kernel) (by decide +kernel) (fun _ => P_g61) (by decide) (fun _ _ => by decide +kernel) (fun q => by cases q) (P_all_cons (by decide +kernel) <| P_all_cons (by decide +kernel) <| P_all_nil) P_l61 (by decide +kernel) P_k61 (fun _ _ => P_hok_nil)
/-- OrchardQuery$Plan.tell(LOrchardQuery$Condition;I)I -/
def P_l62 : List (Nat × P_I) := [(37, .getfield 60, 40, 1, 0, [], []), (42, .getfield 63, 45, 1, 1, [], []), (47, .getfield 66, 50, 1, 2, [], []), (52, .getfield 69, 55, 1, 3, [], []), (58, .invokevirtual 72, 61, 1, 60, [], []), (64, .invokevirtual 76, 67, 1, 61, [], [])]
set_option maxRecDepth 20000 in
theorem P_k62 : ∀ q ∈ P_l62, P_lnk P_cl P_aty P_stat P_tx P_N0 P_Tb P_Y0 "OrchardQuery$Plan" false prog_7_method_10_code [] q.1 q.2.1 q.2.2.2.1 q.2.2.2.2.1 :=
  P_all_cons (P_lnk_get (P_s1 (c := 1) (P := fun ci => P_fok P_cl P_Tb "OrchardQuery$Plan" 60 ci 0) rfl ⟨_, _, _, "OrchardQuery$Condition", rfl, by decide, (Or.inl rfl), (Or.inr ⟨_, w_3_218⟩)⟩)) <|
  P_all_cons (P_lnk_get (P_s1 (c := 1) (P := fun ci => P_fok P_cl P_Tb "OrchardQuery$Plan" 63 ci 1) rfl ⟨_, _, _, "OrchardQuery$Condition", rfl, by decide, (Or.inl rfl), (Or.inr ⟨_, w_3_221⟩)⟩)) <|
  P_all_cons (P_lnk_get (P_s1 (c := 1) (P := fun ci => P_fok P_cl P_Tb "OrchardQuery$Plan" 66 ci 2) rfl ⟨_, _, _, "OrchardQuery$Condition", rfl, by decide, (Or.inl rfl), (Or.inr ⟨_, w_3_224⟩)⟩)) <|
  P_all_cons (P_lnk_get (P_s1 (c := 1) (P := fun ci => P_fok P_cl P_Tb "OrchardQuery$Plan" 69 ci 3) rfl ⟨_, _, _, "OrchardQuery$Condition", rfl, by decide, (Or.inl rfl), (Or.inr ⟨_, w_3_228⟩)⟩)) <|
  P_all_cons (P_lnk_vi (P_vall (l := P_v60) rfl (P_all_cons (show P_vok _ _ _ 5 63 from ⟨_, rfl, rfl, w_1_6, w_1_188, (Or.inl ⟨P_sg 1 rfl, w_p_3, (Or.inl w_1_186)⟩)⟩) (P_all_nil)))) <|
  P_all_cons (P_lnk_vi (P_vall (l := P_v61) rfl (P_all_cons (show P_vok _ _ _ 5 65 from ⟨_, rfl, rfl, w_1_6, w_1_206, (Or.inl ⟨P_sg 1 rfl, w_p_5, (Or.inl w_1_204)⟩)⟩) (P_all_nil)))) <|
  P_all_nil
set_option maxRecDepth 20000 in
theorem P_m62 : P_mstC 62 3 (Option.some Jvm.ClassFile.FieldType.int) P_e62 [] := P_meth (mx := 3) (rt := (Option.some Jvm.ClassFile.FieldType.int)) (hs := []) "OrchardQuery$Plan" false prog_7_method_10_code [] rfl rfl rfl rfl (by decide +kernel) (by decide +kernel) (fun _ => P_g62) (by decide) (fun _ _ => by decide +kernel) (fun q => by cases q) (P_all_cons (by decide +kernel) <| P_all_cons (by decide +kernel) <| P_all_cons (by decide +kernel) <| P_all_nil) P_l62 (by decide +kernel) P_k62 (fun _ _ => P_hok_nil)
/-- OrchardQuery$Plan.lowOf(LOrchardQuery$Condition;)I -/
def P_l63 : List (Nat × P_I) := [(2, .getfield 60, 5, 1, 0, [], []), (5, .invokestatic 79, 8, 1, 176, [], []), (8, .invokevirtual 83, 11, 1, 62, [], []), (13, .getfield 66, 16, 1, 2, [], []), (16, .invokestatic 86, 19, 1, 174, [], []), (27, .getfield 66, 30, 1, 2, [], []), (30, .invokestatic 79, 33, 1, 176, [], []), (33, .invokevirtual 83, 36, 1, 62, [], []), (36, .invokestatic 90, 39, 2, 9001, [], [])]
set_option maxRecDepth 20000 in
theorem P_k63 : ∀ q ∈ P_l63, P_lnk P_cl P_aty P_stat P_tx P_N0 P_Tb P_Y0 "OrchardQuery$Plan" false prog_7_method_11_code [] q.1 q.2.1 q.2.2.2.1 q.2.2.2.2.1 :=
  P_all_cons (P_lnk_get (P_s1 (c := 1) (P := fun ci => P_fok P_cl P_Tb "OrchardQuery$Plan" 60 ci 0) rfl ⟨_, _, _, "OrchardQuery$Condition", rfl, by decide, (Or.inl rfl), (Or.inr ⟨_, w_3_218⟩)⟩)) <|
  P_all_cons (P_lnk_st (by decide) (fun _ => ⟨P_sg 1 rfl, w_1_2, w_1_192, (Or.inr ⟨rfl, _, w_1_191⟩)⟩)) <|
  P_all_cons (P_lnk_vi (P_vall (l := P_v62) rfl (P_all_cons (show P_vok _ _ _ 5 64 from ⟨_, rfl, rfl, w_1_6, w_1_196, (Or.inl ⟨P_sg 1 rfl, w_p_4, (Or.inl w_1_194)⟩)⟩) (P_all_nil)))) <|
  P_all_cons (P_lnk_get (P_s1 (c := 1) (P := fun ci => P_fok P_cl P_Tb "OrchardQuery$Plan" 66 ci 2) rfl ⟨_, _, _, "OrchardQuery$Condition", rfl, by decide, (Or.inl rfl), (Or.inr ⟨_, w_3_224⟩)⟩)) <|
  P_all_cons (P_lnk_st (by decide) (fun _ => ⟨P_sg 1 rfl, w_1_2, w_1_199, (Or.inr ⟨rfl, _, w_1_198⟩)⟩)) <|
  P_all_cons (P_lnk_get (P_s1 (c := 1) (P := fun ci => P_fok P_cl P_Tb "OrchardQuery$Plan" 66 ci 2) rfl ⟨_, _, _, "OrchardQuery$Condition", rfl, by decide, (Or.inl rfl), (Or.inr ⟨_, w_3_224⟩)⟩)) <|
  P_all_cons (P_lnk_st (by decide) (fun _ => ⟨P_sg 1 rfl, w_1_2, w_1_192, (Or.inr ⟨rfl, _, w_1_191⟩)⟩)) <|
  P_all_cons (P_lnk_vi (P_vall (l := P_v62) rfl (P_all_cons (show P_vok _ _ _ 5 64 from ⟨_, rfl, rfl, w_1_6, w_1_196, (Or.inl ⟨P_sg 1 rfl, w_p_4, (Or.inl w_1_194)⟩)⟩) (P_all_nil)))) <|
  P_all_cons (P_lnk_sj ⟨by decide, by decide⟩ ⟨fun _ => ⟨w_1_201, w_1_202, w_1_21, w_1_203⟩, (fun q => absurd q (by decide))⟩) <|
  P_all_nil
set_option maxRecDepth 20000 in
theorem P_m63 : P_mstC 63 3 (Option.some Jvm.ClassFile.FieldType.int) P_e63 [] := P_meth (mx := 3) (rt := (Option.some Jvm.ClassFile.FieldType.int)) (hs := []) "OrchardQuery$Plan" false prog_7_method_11_code [] rfl rfl rfl rfl (by decide +kernel) (by decide +kernel) (fun _ => P_g63) (by decide) (fun _ _ => by decide +kernel) (fun q => by cases q) (P_all_cons (by decide +kernel) <| P_all_cons (by decide +kernel) <| P_all_nil) P_l63 (by decide +kernel) P_k63 (fun _ _ => P_hok_nil)
/-- OrchardQuery$Plan.placeOf(I)I -/
def P_l64 : List (Nat × P_I) := [(4, .getfield 26, 7, 5, 3, [], []), (12, .getfield 26, 15, 5, 3, [], [])]
set_option maxRecDepth 20000 in
theorem P_k64 : ∀ q ∈ P_l64, P_lnk P_cl P_aty P_stat P_tx P_N0 P_Tb P_Y0 "OrchardQuery$Plan" false prog_7_method_12_code [] q.1 q.2.1 q.2.2.2.1 q.2.2.2.2.1 :=
  P_all_cons (P_lnk_get (P_s1 (c := 5) (P := fun ci => P_fok P_cl P_Tb "OrchardQuery$Plan" 26 ci 3) rfl ⟨_, _, _, "OrchardQuery$Plan", rfl, by decide, (Or.inl rfl), (Or.inl w_4_1)⟩)) <|
  P_all_cons (P_lnk_get (P_s1 (c := 5) (P := fun ci => P_fok P_cl P_Tb "OrchardQuery$Plan" 26 ci 3) rfl ⟨_, _, _, "OrchardQuery$Plan", rfl, by decide, (Or.inl rfl), (Or.inl w_4_1)⟩)) <|
  P_all_nil
set_option maxRecDepth 20000 in
theorem P_m64 : P_mstC 64 3 (Option.some Jvm.ClassFile.FieldType.int) P_e64 [] := P_meth (mx := 3) (rt := (Option.some Jvm.ClassFile.FieldType.int)) (hs := []) "OrchardQuery$Plan" false prog_7_method_12_code [] rfl rfl rfl rfl (by decide +kernel) (by decide +kernel) (fun _ => P_g64) (by decide) (fun _ _ => by decide +kernel) (fun q => by cases q) (P_all_cons (by decide +kernel) <| P_all_nil) P_l64 (by decide +kernel) P_k64 (fun _ _ => P_hok_nil)
/-- OrchardQuery$Plan.partOf(LOrchardQuery$Condition;)I -/
def P_l65 : List (Nat × P_I) := [(1, .getfield 63, 4, 1, 1, [], []), (14, .getfield 9, 17, 5, 0, [], []), (18, .getfield 60, 21, 1, 0, [], []), (21, .invokevirtual 96, 24, 1, 63, [], []), (26, .getfield 66, 29, 1, 2, [], []), (29, .invokestatic 86, 32, 1, 174, [], []), (37, .getfield 9, 40, 5, 0, [], []), (41, .getfield 66, 44, 1, 2, [], []), (44, .invokevirtual 96, 47, 1, 63, [], []), (47, .invokestatic 90, 50, 2, 9001, [], []), (68, .getfield 63, 71, 1, 1, [], [])]
set_option maxRecDepth 20000 in
theorem P_k65 : ∀ q ∈ P_l65, P_lnk P_cl P_aty P_stat P_tx P_N0 P_Tb P_Y0 "OrchardQuery$Plan" false prog_7_method_13_code [] q.1 q.2.1 q.2.2.2.1 q.2.2.2.2.1 :=
  P_all_cons (P_lnk_get (P_s1 (c := 1) (P := fun ci => P_fok P_cl P_Tb "OrchardQuery$Plan" 63 ci 1) rfl ⟨_, _, _, "OrchardQuery$Condition", rfl, by decide, (Or.inl rfl), (Or.inr ⟨_, w_3_221⟩)⟩)) <|
  P_all_cons (P_lnk_get (P_s1 (c := 5) (P := fun ci => P_fok P_cl P_Tb "OrchardQuery$Plan" 9 ci 0) rfl ⟨_, _, _, "OrchardQuery$Plan", rfl, by decide, (Or.inl rfl), (Or.inl w_3_238)⟩)) <|
  P_all_cons (P_lnk_get (P_s1 (c := 1) (P := fun ci => P_fok P_cl P_Tb "OrchardQuery$Plan" 60 ci 0) rfl ⟨_, _, _, "OrchardQuery$Condition", rfl, by decide, (Or.inl rfl), (Or.inr ⟨_, w_3_218⟩)⟩)) <|
  P_all_cons (P_lnk_vi (P_vall (l := P_v63) rfl (P_all_cons (show P_vok _ _ _ 3 40 from ⟨_, rfl, rfl, w_1_5, w_1_209, (Or.inl ⟨P_sg 1 rfl, w_1_210, (Or.inl w_1_208)⟩)⟩) (P_all_nil)))) <|
  P_all_cons (P_lnk_get (P_s1 (c := 1) (P := fun ci => P_fok P_cl P_Tb "OrchardQuery$Plan" 66 ci 2) rfl ⟨_, _, _, "OrchardQuery$Condition", rfl, by decide, (Or.inl rfl), (Or.inr ⟨_, w_3_224⟩)⟩)) <|
  P_all_cons (P_lnk_st (by decide) (fun _ => ⟨P_sg 1 rfl, w_1_2, w_1_199, (Or.inr ⟨rfl, _, w_1_198⟩)⟩)) <|
  P_all_cons (P_lnk_get (P_s1 (c := 5) (P := fun ci => P_fok P_cl P_Tb "OrchardQuery$Plan" 9 ci 0) rfl ⟨_, _, _, "OrchardQuery$Plan", rfl, by decide, (Or.inl rfl), (Or.inl w_3_238)⟩)) <|
  P_all_cons (P_lnk_get (P_s1 (c := 1) (P := fun ci => P_fok P_cl P_Tb "OrchardQuery$Plan" 66 ci 2) rfl ⟨_, _, _, "OrchardQuery$Condition", rfl, by decide, (Or.inl rfl), (Or.inr ⟨_, w_3_224⟩)⟩)) <|
  P_all_cons (P_lnk_vi (P_vall (l := P_v63) rfl (P_all_cons (show P_vok _ _ _ 3 40 from ⟨_, rfl, rfl, w_1_5, w_1_209, (Or.inl ⟨P_sg 1 rfl, w_1_210, (Or.inl w_1_208)⟩)⟩) (P_all_nil)))) <|
  P_all_cons (P_lnk_sj ⟨by decide, by decide⟩ ⟨fun _ => ⟨w_1_201, w_1_202, w_1_21, w_1_203⟩, (fun q => absurd q (by decide))⟩) <|
  P_all_cons (P_lnk_get (P_s1 (c := 1) (P := fun ci => P_fok P_cl P_Tb "OrchardQuery$Plan" 63 ci 1) rfl ⟨_, _, _, "OrchardQuery$Condition", rfl, by decide, (Or.inl rfl), (Or.inr ⟨_, w_3_221⟩)⟩)) <|
  P_all_nil
set_option maxRecDepth 20000 in
theorem P_m65 : P_mstC 65 4 (Option.some Jvm.ClassFile.FieldType.int) P_e65 [] := P_meth (mx := 4) (rt := (Option.some Jvm.ClassFile.FieldType.int)) (hs := []) "OrchardQuery$Plan" false prog_7_method_13_code [] rfl rfl rfl rfl (by decide +kernel) (by decide +kernel) (fun _ => P_g65) (by decide) (fun _ _ => by decide +kernel) (fun q => by cases q) (P_all_cons (by decide +kernel) <| P_all_cons (by decide +kernel) <| P_all_cons (by decide +kernel) <| P_all_nil) P_l65 (by decide +kernel) P_k65 (fun _ _ => P_hok_nil)
/-- OrchardQuery$Plan.guessAt(I)J -/
def P_l66 : List (Nat × P_I) := [(14, .getfield 9, 17, 5, 0, [], []), (17, .invokevirtual 50, 20, 0, 58, [], []), (28, .invokevirtual 99, 31, 1, 64, [], []), (35, .invokevirtual 102, 38, 2, 65, [], [])]
set_option maxRecDepth 20000 in
theorem P_k66 : ∀ q ∈ P_l66, P_lnk P_cl P_aty P_stat P_tx P_N0 P_Tb P_Y0 "OrchardQuery$Plan" false prog_7_method_14_code [] q.1 q.2.1 q.2.2.2.1 q.2.2.2.2.1 :=
  P_all_cons (P_lnk_get (P_s1 (c := 5) (P := fun ci => P_fok P_cl P_Tb "OrchardQuery$Plan" 9 ci 0) rfl ⟨_, _, _, "OrchardQuery$Plan", rfl, by decide, (Or.inl rfl), (Or.inl w_3_238)⟩)) <|
  P_all_cons (P_lnk_vi (P_vall (l := P_v58) rfl (P_all_cons (show P_vok _ _ _ 3 30 from ⟨_, rfl, rfl, w_1_5, w_1_126, (Or.inl ⟨P_sg 0 rfl, w_1_127, (Or.inl w_2_10)⟩)⟩) (P_all_nil)))) <|
  P_all_cons (P_lnk_vi (P_vall (l := P_v64) rfl (P_all_cons (show P_vok _ _ _ 5 68 from ⟨_, rfl, rfl, w_1_6, w_2_13, (Or.inl ⟨P_sg 1 rfl, w_p_6, (Or.inl w_2_11)⟩)⟩) (P_all_nil)))) <|
  P_all_cons (P_lnk_vi (P_vall (l := P_v65) rfl (P_all_cons (show P_vok _ _ _ 5 69 from ⟨_, rfl, rfl, w_1_6, w_2_23, (Or.inl ⟨P_sg 2 rfl, w_p_7, (Or.inl w_2_21)⟩)⟩) (P_all_nil)))) <|
  P_all_nil
set_option maxRecDepth 20000 in
theorem P_m66 : P_mstC 66 5 (Option.some Jvm.ClassFile.FieldType.long) P_e66 [] := P_meth (mx := 5) (rt := (Option.some Jvm.ClassFile.FieldType.long)) (hs := []) "OrchardQuery$Plan" false prog_7_method_14_code [] rfl rfl rfl rfl (by decide +kernel) (by decide +kernel) (fun _ => P_g66) (by decide) (fun _ _ => by decide +kernel) (fun q => by cases q) (P_all_cons (by decide +kernel) <| P_all_cons (by decide +kernel) <| P_all_nil) P_l66 (by decide +kernel) P_k66 (fun _ _ => P_hok_nil)
/-- OrchardQuery$Plan.costOfAll()J -/
def P_l67 : List (Nat × P_I) := [(1, .getfield 34, 4, 5, 5, [], []), (19, .getfield 9, 22, 5, 0, [], []), (22, .invokevirtual 50, 25, 0, 58, [], []), (32, .invokevirtual 99, 35, 1, 64, [], []), (49, .invokevirtual 102, 52, 2, 65, [], [])]
set_option maxRecDepth 20000 in
theorem P_k67 : ∀ q ∈ P_l67, P_lnk P_cl P_aty P_stat P_tx P_N0 P_Tb P_Y0 "OrchardQuery$Plan" false prog_7_method_15_code [] q.1 q.2.1 q.2.2.2.1 q.2.2.2.2.1 :=
  P_all_cons (P_lnk_get (P_s1 (c := 5) (P := fun ci => P_fok P_cl P_Tb "OrchardQuery$Plan" 34 ci 5) rfl ⟨_, _, _, "OrchardQuery$Plan", rfl, by decide, (Or.inl rfl), (Or.inl w_4_3)⟩)) <|
  P_all_cons (P_lnk_get (P_s1 (c := 5) (P := fun ci => P_fok P_cl P_Tb "OrchardQuery$Plan" 9 ci 0) rfl ⟨_, _, _, "OrchardQuery$Plan", rfl, by decide, (Or.inl rfl), (Or.inl w_3_238)⟩)) <|
  P_all_cons (P_lnk_vi (P_vall (l := P_v58) rfl (P_all_cons (show P_vok _ _ _ 3 30 from ⟨_, rfl, rfl, w_1_5, w_1_126, (Or.inl ⟨P_sg 0 rfl, w_1_127, (Or.inl w_2_10)⟩)⟩) (P_all_nil)))) <|
  P_all_cons (P_lnk_vi (P_vall (l := P_v64) rfl (P_all_cons (show P_vok _ _ _ 5 68 from ⟨_, rfl, rfl, w_1_6, w_2_13, (Or.inl ⟨P_sg 1 rfl, w_p_6, (Or.inl w_2_11)⟩)⟩) (P_all_nil)))) <|
  P_all_cons (P_lnk_vi (P_vall (l := P_v65) rfl (P_all_cons (show P_vok _ _ _ 5 69 from ⟨_, rfl, rfl, w_1_6, w_2_23, (Or.inl ⟨P_sg 2 rfl, w_p_7, (Or.inl w_2_21)⟩)⟩) (P_all_nil)))) <|
  P_all_nil
set_option maxRecDepth 20000 in
theorem P_m67 : P_mstC 67 8 (Option.some Jvm.ClassFile.FieldType.long) P_e67 [] := P_meth (mx := 8) (rt := (Option.some Jvm.ClassFile.FieldType.long)) (hs := []) "OrchardQuery$Plan" false prog_7_method_15_code [] rfl rfl rfl rfl (by decide +kernel) (by decide +kernel) (fun _ => P_g67) (by decide) (fun _ _ => by decide +kernel) (fun q => by cases q) (P_all_cons (by decide +kernel) <| P_all_cons (by decide +kernel) <| P_all_nil) P_l67 (by decide +kernel) P_k67 (fun _ _ => P_hok_nil)
/-- OrchardQuery$Plan.rowsAt(I)I -/
def P_l68 : List (Nat × P_I) := [(1, .getfield 9, 4, 5, 0, [], []), (6, .invokevirtual 106, 9, 1, 66, [], []), (9, .invokevirtual 109, 12, 1, 48, [], []), (12, .invokevirtual 113, 15, 0, 51, [], [])]
set_option maxRecDepth 20000 in
theorem P_k68 : ∀ q ∈ P_l68, P_lnk P_cl P_aty P_stat P_tx P_N0 P_Tb P_Y0 "OrchardQuery$Plan" false prog_7_method_16_code [] q.1 q.2.1 q.2.2.2.1 q.2.2.2.2.1 :=
  P_all_cons (P_lnk_get (P_s1 (c := 5) (P := fun ci => P_fok P_cl P_Tb "OrchardQuery$Plan" 9 ci 0) rfl ⟨_, _, _, "OrchardQuery$Plan", rfl, by decide, (Or.inl rfl), (Or.inl w_3_238)⟩)) <|
  P_all_cons (P_lnk_vi (P_vall (l := P_v66) rfl (P_all_cons (show P_vok _ _ _ 5 58 from ⟨_, rfl, rfl, w_1_6, w_1_237, (Or.inl ⟨P_sg 1 rfl, w_1_238, (Or.inl w_2_15)⟩)⟩) (P_all_nil)))) <|
  P_all_cons (P_lnk_vi (P_vall (l := P_v48) rfl (P_all_cons (show P_vok _ _ _ 3 38 from ⟨_, rfl, rfl, w_1_5, w_1_214, (Or.inl ⟨P_sg 1 rfl, w_1_215, (Or.inl w_2_16)⟩)⟩) (P_all_nil)))) <|
  P_all_cons (P_lnk_vi (P_vall (l := P_v51) rfl (P_all_cons (show P_vok _ _ _ 9 120 from ⟨_, rfl, rfl, w_1_4, w_2_18, (Or.inl ⟨P_sg 0 rfl, w_2_19, (Or.inl w_2_17)⟩)⟩) (P_all_nil)))) <|
  P_all_nil
set_option maxRecDepth 20000 in
theorem P_m68 : P_mstC 68 2 (Option.some Jvm.ClassFile.FieldType.int) P_e68 [] := P_meth (mx := 2) (rt := (Option.some Jvm.ClassFile.FieldType.int)) (hs := []) "OrchardQuery$Plan" false prog_7_method_16_code [] rfl rfl rfl rfl (by decide +kernel) (by decide +kernel) (fun _ => P_g68) (by decide) (fun _ _ => by decide +kernel) (fun q => by cases q) (P_all_cons (by decide +kernel) <| P_all_nil) P_l68 (by decide +kernel) P_k68 (fun _ _ => P_hok_nil)
/-- OrchardQuery$Plan.thinned(JI)J -/
def P_l69 : List (Nat × P_I) := [(9, .getfield 30, 12, 5, 4, [], []), (18, .invokevirtual 46, 21, 1, 57, [], []), (21, .getfield 69, 24, 1, 3, [], []), (34, .invokevirtual 46, 37, 1, 57, [], []), (37, .invokevirtual 76, 40, 1, 61, [], []), (42, .ldc2_w 118, 45, 1000, 0, [], [])]
set_option maxRecDepth 20000 in
theorem P_k69 : ∀ q ∈ P_l69, P_lnk P_cl P_aty P_stat P_tx P_N0 P_Tb P_Y0 "OrchardQuery$Plan" false prog_7_method_17_code [] q.1 q.2.1 q.2.2.2.1 q.2.2.2.2.1 :=
  P_all_cons (P_lnk_get (P_s1 (c := 5) (P := fun ci => P_fok P_cl P_Tb "OrchardQuery$Plan" 30 ci 4) rfl ⟨_, _, _, "OrchardQuery$Plan", rfl, by decide, (Or.inl rfl), (Or.inl w_4_2)⟩)) <|
  P_all_cons (P_lnk_vi (P_vall (l := P_v57) rfl (P_all_cons (show P_vok _ _ _ 5 59 from ⟨_, rfl, rfl, w_1_6, w_1_179, (Or.inl ⟨P_sg 1 rfl, w_1_180, (Or.inl w_2_25)⟩)⟩) (P_all_nil)))) <|
  P_all_cons (P_lnk_get (P_s1 (c := 1) (P := fun ci => P_fok P_cl P_Tb "OrchardQuery$Plan" 69 ci 3) rfl ⟨_, _, _, "OrchardQuery$Condition", rfl, by decide, (Or.inl rfl), (Or.inr ⟨_, w_3_228⟩)⟩)) <|
  P_all_cons (P_lnk_vi (P_vall (l := P_v57) rfl (P_all_cons (show P_vok _ _ _ 5 59 from ⟨_, rfl, rfl, w_1_6, w_1_179, (Or.inl ⟨P_sg 1 rfl, w_1_180, (Or.inl w_2_25)⟩)⟩) (P_all_nil)))) <|
  P_all_cons (P_lnk_vi (P_vall (l := P_v61) rfl (P_all_cons (show P_vok _ _ _ 5 65 from ⟨_, rfl, rfl, w_1_6, w_1_206, (Or.inl ⟨P_sg 1 rfl, w_p_5, (Or.inl w_1_204)⟩)⟩) (P_all_nil)))) <|
  P_all_cons (P_lnk_ldl w_2_26) <|
  P_all_nil
set_option maxRecDepth 20000 in
theorem P_m69 : P_mstC 69 7 (Option.some Jvm.ClassFile.FieldType.long) P_e69 [] := P_meth (mx := 7) (rt := (Option.some Jvm.ClassFile.FieldType.long)) (hs := []) "OrchardQuery$Plan" false prog_7_method_17_code [] rfl rfl rfl rfl (by decide +kernel) (by decide +kernel) (fun _ => P_g69) (by decide) (fun _ _ => by decide +kernel) (fun q => by cases q) (P_all_cons (by decide +kernel) <| P_all_cons (by decide +kernel) <| P_all_nil) P_l69 (by decide +kernel) P_k69 (fun _ _ => P_hok_nil)
/-- OrchardQuery$Plan.applyRule(I)I -/
def P_l70 : List (Nat × P_I) := [(29, .invokevirtual 120, 32, 0, 67, [], []), (34, .invokevirtual 123, 37, 0, 68, [], []), (39, .invokevirtual 126, 42, 0, 69, [], []), (44, .invokevirtual 129, 47, 0, 70, [], [])]
set_option maxRecDepth 20000 in
theorem P_k70 : ∀ q ∈ P_l70, P_lnk P_cl P_aty P_stat P_tx P_N0 P_Tb P_Y0 "OrchardQuery$Plan" false prog_7_method_18_code [] q.1 q.2.1 q.2.2.2.1 q.2.2.2.2.1 :=
  P_all_cons (P_lnk_vi (P_vall (l := P_v67) rfl (P_all_cons (show P_vok _ _ _ 5 71 from ⟨_, rfl, rfl, w_1_6, w_6_73, (Or.inl ⟨P_sg 0 rfl, w_p_39, (Or.inl w_6_71)⟩)⟩) (P_all_nil)))) <|
  P_all_cons (P_lnk_vi (P_vall (l := P_v68) rfl (P_all_cons (show P_vok _ _ _ 5 72 from ⟨_, rfl, rfl, w_1_6, w_6_85, (Or.inl ⟨P_sg 0 rfl, w_p_41, (Or.inl w_6_83)⟩)⟩) (P_all_nil)))) <|
  P_all_cons (P_lnk_vi (P_vall (l := P_v69) rfl (P_all_cons (show P_vok _ _ _ 5 76 from ⟨_, rfl, rfl, w_1_6, w_6_116, (Or.inl ⟨P_sg 0 rfl, w_p_45, (Or.inl w_6_114)⟩)⟩) (P_all_nil)))) <|
  P_all_cons (P_lnk_vi (P_vall (l := P_v70) rfl (P_all_cons (show P_vok _ _ _ 5 77 from ⟨_, rfl, rfl, w_1_6, w_6_120, (Or.inl ⟨P_sg 0 rfl, w_p_46, (Or.inl w_6_118)⟩)⟩) (P_all_nil)))) <|
  P_all_nil
set_option maxRecDepth 20000 in
theorem P_m70 : P_mstC 70 2 (Option.some Jvm.ClassFile.FieldType.int) P_e70 [] := P_meth (mx := 2) (rt := (Option.some Jvm.ClassFile.FieldType.int)) (hs := []) "OrchardQuery$Plan" false prog_7_method_18_code [] rfl rfl rfl rfl (by decide +kernel) (by decide +kernel) (fun _ => P_g70) (by decide) (fun _ _ => by decide +kernel) (fun q => by cases q) (P_all_cons (by decide +kernel) <| P_all_cons (by decide +kernel) <| P_all_nil) P_l70 (by decide +kernel) P_k70 (fun _ _ => P_hok_nil)
/-- OrchardQuery$Plan.dropTrue()I -/
def P_l71 : List (Nat × P_I) := [(3, .getfield 30, 6, 5, 4, [], []), (15, .invokevirtual 46, 18, 1, 57, [], []), (18, .getfield 63, 21, 1, 1, [], []), (28, .invokevirtual 46, 31, 1, 57, [], []), (31, .invokevirtual 133, 34, 0, 71, [], []), (39, .invokevirtual 136, 42, 1, 72, [], [])]
set_option maxRecDepth 20000 in
theorem P_k71 : ∀ q ∈ P_l71, P_lnk P_cl P_aty P_stat P_tx P_N0 P_Tb P_Y0 "OrchardQuery$Plan" false prog_7_method_19_code [] q.1 q.2.1 q.2.2.2.1 q.2.2.2.2.1 :=
  P_all_cons (P_lnk_get (P_s1 (c := 5) (P := fun ci => P_fok P_cl P_Tb "OrchardQuery$Plan" 30 ci 4) rfl ⟨_, _, _, "OrchardQuery$Plan", rfl, by decide, (Or.inl rfl), (Or.inl w_4_2)⟩)) <|
  P_all_cons (P_lnk_vi (P_vall (l := P_v57) rfl (P_all_cons (show P_vok _ _ _ 5 59 from ⟨_, rfl, rfl, w_1_6, w_1_179, (Or.inl ⟨P_sg 1 rfl, w_1_180, (Or.inl w_2_25)⟩)⟩) (P_all_nil)))) <|
  P_all_cons (P_lnk_get (P_s1 (c := 1) (P := fun ci => P_fok P_cl P_Tb "OrchardQuery$Plan" 63 ci 1) rfl ⟨_, _, _, "OrchardQuery$Condition", rfl, by decide, (Or.inl rfl), (Or.inr ⟨_, w_3_221⟩)⟩)) <|
  P_all_cons (P_lnk_vi (P_vall (l := P_v57) rfl (P_all_cons (show P_vok _ _ _ 5 59 from ⟨_, rfl, rfl, w_1_6, w_1_179, (Or.inl ⟨P_sg 1 rfl, w_1_180, (Or.inl w_2_25)⟩)⟩) (P_all_nil)))) <|
  P_all_cons (P_lnk_vi (P_vall (l := P_v71) rfl (P_all_cons (show P_vok _ _ _ 1 16 from ⟨_, rfl, rfl, w_1_7, w_6_76, (Or.inl ⟨P_sg 0 rfl, w_6_77, (Or.inl w_6_75)⟩)⟩) (P_all_nil)))) <|
  P_all_cons (P_lnk_vi (P_vall (l := P_v72) rfl (P_all_cons (show P_vok _ _ _ 5 61 from ⟨_, rfl, rfl, w_1_6, w_6_81, (Or.inl ⟨P_sg 1 rfl, w_p_40, (Or.inl w_6_79)⟩)⟩) (P_all_nil)))) <|
  P_all_nil
set_option maxRecDepth 20000 in
theorem P_m71 : P_mstC 71 3 (Option.some Jvm.ClassFile.FieldType.int) P_e71 [] := P_meth (mx := 3) (rt := (Option.some Jvm.ClassFile.FieldType.int)) (hs := []) "OrchardQuery$Plan" false prog_7_method_19_code [] rfl rfl rfl rfl (by decide +kernel) (by decide +kernel) (fun _ => P_g71) (by decide) (fun _ _ => by decide +kernel) (fun q => by cases q) (P_all_cons (by decide +kernel) <| P_all_cons (by decide +kernel) <| P_all_nil) P_l71 (by decide +kernel) P_k71 (fun _ _ => P_hok_nil)
/-- OrchardQuery$Plan.draw()I -/
def P_l72 : List (Nat × P_I) := [(5, .getfield 30, 8, 5, 4, [], []), (15, .invokevirtual 139, 18, 0, 73, [], [])]
set_option maxRecDepth 20000 in
theorem P_k72 : ∀ q ∈ P_l72, P_lnk P_cl P_aty P_stat P_tx P_N0 P_Tb P_Y0 "OrchardQuery$Plan" false prog_7_method_20_code [] q.1 q.2.1 q.2.2.2.1 q.2.2.2.2.1 :=
  P_all_cons (P_lnk_get (P_s1 (c := 5) (P := fun ci => P_fok P_cl P_Tb "OrchardQuery$Plan" 30 ci 4) rfl ⟨_, _, _, "OrchardQuery$Plan", rfl, by decide, (Or.inl rfl), (Or.inl w_4_2)⟩)) <|
  P_all_cons (P_lnk_vi (P_vall (l := P_v73) rfl (P_all_cons (show P_vok _ _ _ 5 73 from ⟨_, rfl, rfl, w_1_6, w_6_89, (Or.inl ⟨P_sg 0 rfl, w_p_42, (Or.inl w_6_87)⟩)⟩) (P_all_nil)))) <|
  P_all_nil
set_option maxRecDepth 20000 in
theorem P_m72 : P_mstC 72 3 (Option.some Jvm.ClassFile.FieldType.int) P_e72 [] := P_meth (mx := 3) (rt := (Option.some Jvm.ClassFile.FieldType.int)) (hs := []) "OrchardQuery$Plan" false prog_7_method_20_code [] rfl rfl rfl rfl (by decide +kernel) (by decide +kernel) (fun _ => P_g72) (by decide) (fun _ _ => by decide +kernel) (fun q => by cases q) (P_all_cons (by decide +kernel) <| P_all_nil) P_l72 (by decide +kernel) P_k72 (fun _ _ => P_hok_nil)
/-- OrchardQuery$Plan.drawsOne()Z -/
def P_l73 : List (Nat × P_I) := [(4, .getfield 30, 7, 5, 4, [], []), (14, .getfield 30, 17, 5, 4, [], []), (23, .invokevirtual 46, 26, 1, 57, [], []), (28, .invokevirtual 46, 31, 1, 57, [], []), (31, .invokevirtual 142, 34, 2, 74, [], [])]
set_option maxRecDepth 20000 in
theorem P_k73 : ∀ q ∈ P_l73, P_lnk P_cl P_aty P_stat P_tx P_N0 P_Tb P_Y0 "OrchardQuery$Plan" false prog_7_method_21_code [] q.1 q.2.1 q.2.2.2.1 q.2.2.2.2.1 :=
  P_all_cons (P_lnk_get (P_s1 (c := 5) (P := fun ci => P_fok P_cl P_Tb "OrchardQuery$Plan" 30 ci 4) rfl ⟨_, _, _, "OrchardQuery$Plan", rfl, by decide, (Or.inl rfl), (Or.inl w_4_2)⟩)) <|
  P_all_cons (P_lnk_get (P_s1 (c := 5) (P := fun ci => P_fok P_cl P_Tb "OrchardQuery$Plan" 30 ci 4) rfl ⟨_, _, _, "OrchardQuery$Plan", rfl, by decide, (Or.inl rfl), (Or.inl w_4_2)⟩)) <|
  P_all_cons (P_lnk_vi (P_vall (l := P_v57) rfl (P_all_cons (show P_vok _ _ _ 5 59 from ⟨_, rfl, rfl, w_1_6, w_1_179, (Or.inl ⟨P_sg 1 rfl, w_1_180, (Or.inl w_2_25)⟩)⟩) (P_all_nil)))) <|
  P_all_cons (P_lnk_vi (P_vall (l := P_v57) rfl (P_all_cons (show P_vok _ _ _ 5 59 from ⟨_, rfl, rfl, w_1_6, w_1_179, (Or.inl ⟨P_sg 1 rfl, w_1_180, (Or.inl w_2_25)⟩)⟩) (P_all_nil)))) <|
  P_all_cons (P_lnk_vi (P_vall (l := P_v74) rfl (P_all_cons (show P_vok _ _ _ 5 74 from ⟨_, rfl, rfl, w_1_6, w_6_93, (Or.inl ⟨P_sg 2 rfl, w_p_43, (Or.inl w_6_91)⟩)⟩) (P_all_nil)))) <|
  P_all_nil
set_option maxRecDepth 20000 in
theorem P_m73 : P_mstC 73 3 (Option.some Jvm.ClassFile.FieldType.boolean) P_e73 [] := P_meth (mx := 3) (rt := (Option.some Jvm.ClassFile.FieldType.boolean)) (hs := []) "OrchardQuery$Plan" false prog_7_method_21_code [] rfl rfl rfl rfl (by decide +kernel) (by decide +kernel) (fun _ => P_g73) (by decide) (fun _ _ => by decide +kernel) (fun q => by cases q) (P_all_cons (by decide +kernel) <| P_all_cons (by decide +kernel) <| P_all_nil) P_l73 (by decide +kernel) P_k73 (fun _ _ => P_hok_nil)
/-- OrchardQuery$Plan.drawsFrom(LOrchardQuery$Condition;LOrchardQuery$Condition;)Z -/
def P_l74 : List (Nat × P_I) := [(1, .invokevirtual 146, 4, 0, 75, [], []), (8, .invokevirtual 149, 11, 0, 76, [], []), (18, .getfield 60, 21, 1, 0, [], []), (21, .invokevirtual 152, 24, 1, 77, [], []), (33, .getfield 66, 36, 1, 2, [], []), (36, .invokevirtual 155, 39, 2, 78, [], []), (49, .getfield 66, 52, 1, 2, [], []), (52, .invokevirtual 159, 55, 3, 79, [], [])]
set_option maxRecDepth 20000 in
theorem P_k74 : ∀ q ∈ P_l74, P_lnk P_cl P_aty P_stat P_tx P_N0 P_Tb P_Y0 "OrchardQuery$Plan" false prog_7_method_22_code [] q.1 q.2.1 q.2.2.2.1 q.2.2.2.2.1 :=
  P_all_cons (P_lnk_vi (P_vall (l := P_v75) rfl (P_all_cons (show P_vok _ _ _ 1 17 from ⟨_, rfl, rfl, w_1_7, w_6_96, (Or.inl ⟨P_sg 0 rfl, w_6_97, (Or.inl w_6_95)⟩)⟩) (P_all_nil)))) <|
  P_all_cons (P_lnk_vi (P_vall (l := P_v76) rfl (P_all_cons (show P_vok _ _ _ 1 18 from ⟨_, rfl, rfl, w_1_7, w_6_101, (Or.inl ⟨P_sg 0 rfl, w_6_102, (Or.inl w_6_100)⟩)⟩) (P_all_nil)))) <|
  P_all_cons (P_lnk_get (P_s1 (c := 1) (P := fun ci => P_fok P_cl P_Tb "OrchardQuery$Plan" 60 ci 0) rfl ⟨_, _, _, "OrchardQuery$Condition", rfl, by decide, (Or.inl rfl), (Or.inr ⟨_, w_3_218⟩)⟩)) <|
  P_all_cons (P_lnk_vi (P_vall (l := P_v77) rfl (P_all_cons (show P_vok _ _ _ 1 19 from ⟨_, rfl, rfl, w_1_7, w_6_106, (Or.inl ⟨P_sg 1 rfl, w_6_107, (Or.inl w_6_105)⟩)⟩) (P_all_nil)))) <|
  P_all_cons (P_lnk_get (P_s1 (c := 1) (P := fun ci => P_fok P_cl P_Tb "OrchardQuery$Plan" 66 ci 2) rfl ⟨_, _, _, "OrchardQuery$Condition", rfl, by decide, (Or.inl rfl), (Or.inr ⟨_, w_3_224⟩)⟩)) <|
  P_all_cons (P_lnk_vi (P_vall (l := P_v78) rfl (P_all_cons (show P_vok _ _ _ 5 75 from ⟨_, rfl, rfl, w_1_6, w_6_111, (Or.inl ⟨P_sg 2 rfl, w_p_44, (Or.inl w_6_109)⟩)⟩) (P_all_nil)))) <|
  P_all_cons (P_lnk_get (P_s1 (c := 1) (P := fun ci => P_fok P_cl P_Tb "OrchardQuery$Plan" 66 ci 2) rfl ⟨_, _, _, "OrchardQuery$Condition", rfl, by decide, (Or.inl rfl), (Or.inr ⟨_, w_3_224⟩)⟩)) <|
  P_all_cons (P_lnk_vi (P_vall (l := P_v79) rfl (P_all_cons (show P_vok _ _ _ 5 60 from ⟨_, rfl, rfl, w_1_6, w_5_235, (Or.inl ⟨P_sg 3 rfl, w_5_236, (Or.inl w_6_113)⟩)⟩) (P_all_nil)))) <|
  P_all_nil
set_option maxRecDepth 20000 in
theorem P_m74 : P_mstC 74 4 (Option.some Jvm.ClassFile.FieldType.boolean) P_e74 [] := P_meth (mx := 4) (rt := (Option.some Jvm.ClassFile.FieldType.boolean)) (hs := []) "OrchardQuery$Plan" false prog_7_method_22_code [] rfl rfl rfl rfl (by decide +kernel) (by decide +kernel) (fun _ => P_g74) (by decide) (fun _ _ => by decide +kernel) (fun q => by cases q) (P_all_cons (by decide +kernel) <| P_all_cons (by decide +kernel) <| P_all_nil) P_l74 (by decide +kernel) P_k74 (fun _ _ => P_hok_nil)
/-- OrchardQuery$Plan.isFixed(II)Z -/
def P_l75 : List (Nat × P_I) := [(4, .getfield 30, 7, 5, 4, [], []), (12, .invokevirtual 46, 15, 1, 57, [], []), (19, .getfield 63, 22, 1, 1, [], []), (29, .getfield 60, 32, 1, 0, [], []), (38, .getfield 66, 41, 1, 2, [], [])]
set_option maxRecDepth 20000 in
theorem P_k75 : ∀ q ∈ P_l75, P_lnk P_cl P_aty P_stat P_tx P_N0 P_Tb P_Y0 "OrchardQuery$Plan" false prog_7_method_23_code [] q.1 q.2.1 q.2.2.2.1 q.2.2.2.2.1 :=
  P_all_cons (P_lnk_get (P_s1 (c := 5) (P := fun ci => P_fok P_cl P_Tb "OrchardQuery$Plan" 30 ci 4) rfl ⟨_, _, _, "OrchardQuery$Plan", rfl, by decide, (Or.inl rfl), (Or.inl w_4_2)⟩)) <|
  P_all_cons (P_lnk_vi (P_vall (l := P_v57) rfl (P_all_cons (show P_vok _ _ _ 5 59 from ⟨_, rfl, rfl, w_1_6, w_1_179, (Or.inl ⟨P_sg 1 rfl, w_1_180, (Or.inl w_2_25)⟩)⟩) (P_all_nil)))) <|
  P_all_cons (P_lnk_get (P_s1 (c := 1) (P := fun ci => P_fok P_cl P_Tb "OrchardQuery$Plan" 63 ci 1) rfl ⟨_, _, _, "OrchardQuery$Condition", rfl, by decide, (Or.inl rfl), (Or.inr ⟨_, w_3_221⟩)⟩)) <|
  P_all_cons (P_lnk_get (P_s1 (c := 1) (P := fun ci => P_fok P_cl P_Tb "OrchardQuery$Plan" 60 ci 0) rfl ⟨_, _, _, "OrchardQuery$Condition", rfl, by decide, (Or.inl rfl), (Or.inr ⟨_, w_3_218⟩)⟩)) <|
  P_all_cons (P_lnk_get (P_s1 (c := 1) (P := fun ci => P_fok P_cl P_Tb "OrchardQuery$Plan" 66 ci 2) rfl ⟨_, _, _, "OrchardQuery$Condition", rfl, by decide, (Or.inl rfl), (Or.inr ⟨_, w_3_224⟩)⟩)) <|
  P_all_nil
set_option maxRecDepth 20000 in
theorem P_m75 : P_mstC 75 5 (Option.some Jvm.ClassFile.FieldType.boolean) P_e75 [] := P_meth (mx := 5) (rt := (Option.some Jvm.ClassFile.FieldType.boolean)) (hs := []) "OrchardQuery$Plan" false prog_7_method_23_code [] rfl rfl rfl rfl (by decide +kernel) (by decide +kernel) (fun _ => P_g75) (by decide) (fun _ _ => by decide +kernel) (fun q => by cases q) (P_all_cons (by decide +kernel) <| P_all_cons (by decide +kernel) <| P_all_nil) P_l75 (by decide +kernel) P_k75 (fun _ _ => P_hok_nil)
/-- OrchardQuery$Plan.bringDown()I -/
def P_l76 : List (Nat × P_I) := [(6, .getfield 30, 9, 5, 4, [], []), (15, .invokevirtual 46, 18, 1, 57, [], []), (18, .invokevirtual 72, 21, 1, 60, [], []), (24, .invokevirtual 46, 27, 1, 57, [], []), (27, .getfield 69, 30, 1, 3, [], []), (36, .invokevirtual 46, 39, 1, 57, [], []), (40, .putfield 69, 43, 1, 3, [], [])]
set_option maxRecDepth 20000 in
theorem P_k76 : ∀ q ∈ P_l76, P_lnk P_cl P_aty P_stat P_tx P_N0 P_Tb P_Y0 "OrchardQuery$Plan" false prog_7_method_24_code [] q.1 q.2.1 q.2.2.2.1 q.2.2.2.2.1 :=
  P_all_cons (P_lnk_get (P_s1 (c := 5) (P := fun ci => P_fok P_cl P_Tb "OrchardQuery$Plan" 30 ci 4) rfl ⟨_, _, _, "OrchardQuery$Plan", rfl, by decide, (Or.inl rfl), (Or.inl w_4_2)⟩)) <|
  P_all_cons (P_lnk_vi (P_vall (l := P_v57) rfl (P_all_cons (show P_vok _ _ _ 5 59 from ⟨_, rfl, rfl, w_1_6, w_1_179, (Or.inl ⟨P_sg 1 rfl, w_1_180, (Or.inl w_2_25)⟩)⟩) (P_all_nil)))) <|
  P_all_cons (P_lnk_vi (P_vall (l := P_v60) rfl (P_all_cons (show P_vok _ _ _ 5 63 from ⟨_, rfl, rfl, w_1_6, w_1_188, (Or.inl ⟨P_sg 1 rfl, w_p_3, (Or.inl w_1_186)⟩)⟩) (P_all_nil)))) <|
  P_all_cons (P_lnk_vi (P_vall (l := P_v57) rfl (P_all_cons (show P_vok _ _ _ 5 59 from ⟨_, rfl, rfl, w_1_6, w_1_179, (Or.inl ⟨P_sg 1 rfl, w_1_180, (Or.inl w_2_25)⟩)⟩) (P_all_nil)))) <|
  P_all_cons (P_lnk_get (P_s1 (c := 1) (P := fun ci => P_fok P_cl P_Tb "OrchardQuery$Plan" 69 ci 3) rfl ⟨_, _, _, "OrchardQuery$Condition", rfl, by decide, (Or.inl rfl), (Or.inr ⟨_, w_3_228⟩)⟩)) <|
  P_all_cons (P_lnk_vi (P_vall (l := P_v57) rfl (P_all_cons (show P_vok _ _ _ 5 59 from ⟨_, rfl, rfl, w_1_6, w_1_179, (Or.inl ⟨P_sg 1 rfl, w_1_180, (Or.inl w_2_25)⟩)⟩) (P_all_nil)))) <|
  P_all_cons (P_lnk_put (P_s1 (c := 1) (P := fun ci => P_pok P_cl P_Tb "OrchardQuery$Plan" false 69 ci 3) rfl ⟨_, _, _, "OrchardQuery$Condition", rfl, by decide, (Or.inl rfl), (Or.inr ⟨_, w_3_228, rfl⟩)⟩)) <|
  P_all_nil
set_option maxRecDepth 20000 in
theorem P_m76 : P_mstC 76 4 (Option.some Jvm.ClassFile.FieldType.int) P_e76 [] := P_meth (mx := 4) (rt := (Option.some Jvm.ClassFile.FieldType.int)) (hs := []) "OrchardQuery$Plan" false prog_7_method_24_code [] rfl rfl rfl rfl (by decide +kernel) (by decide +kernel) (fun _ => P_g76) (by decide) (fun _ _ => by decide +kernel) (fun q => by cases q) (P_all_cons (by decide +kernel) <| P_all_cons (by decide +kernel) <| P_all_nil) P_l76 (by decide +kernel) P_k76 (fun _ _ => P_hok_nil)
/-- OrchardQuery$Plan.becomeNever()Z -/
def P_l77 : List (Nat × P_I) := [(1, .getfield 34, 4, 5, 5, [], []), (13, .getfield 30, 16, 5, 4, [], []), (21, .invokevirtual 46, 24, 1, 57, [], []), (27, .getfield 34, 30, 5, 5, [], []), (34, .getfield 63, 37, 1, 1, [], []), (43, .invokevirtual 133, 46, 0, 71, [], []), (54, .putfield 34, 57, 5, 5, [], []), (66, .getfield 34, 69, 5, 5, [], []), (76, .invokevirtual 46, 79, 1, 57, [], []), (79, .invokevirtual 163, 82, 2, 80, [], []), (90, .putfield 34, 93, 5, 5, [], []), (106, .getfield 34, 109, 5, 5, [], [])]
set_option maxRecDepth 20000 in
theorem P_k77 : ∀ q ∈ P_l77, P_lnk P_cl P_aty P_stat P_tx P_N0 P_Tb P_Y0 "OrchardQuery$Plan" false prog_7_method_25_code [] q.1 q.2.1 q.2.2.2.1 q.2.2.2.2.1 :=
  P_all_cons (P_lnk_get (P_s1 (c := 5) (P := fun ci => P_fok P_cl P_Tb "OrchardQuery$Plan" 34 ci 5) rfl ⟨_, _, _, "OrchardQuery$Plan", rfl, by decide, (Or.inl rfl), (Or.inl w_4_3)⟩)) <|
  P_all_cons (P_lnk_get (P_s1 (c := 5) (P := fun ci => P_fok P_cl P_Tb "OrchardQuery$Plan" 30 ci 4) rfl ⟨_, _, _, "OrchardQuery$Plan", rfl, by decide, (Or.inl rfl), (Or.inl w_4_2)⟩)) <|
  P_all_cons (P_lnk_vi (P_vall (l := P_v57) rfl (P_all_cons (show P_vok _ _ _ 5 59 from ⟨_, rfl, rfl, w_1_6, w_1_179, (Or.inl ⟨P_sg 1 rfl, w_1_180, (Or.inl w_2_25)⟩)⟩) (P_all_nil)))) <|
  P_all_cons (P_lnk_get (P_s1 (c := 5) (P := fun ci => P_fok P_cl P_Tb "OrchardQuery$Plan" 34 ci 5) rfl ⟨_, _, _, "OrchardQuery$Plan", rfl, by decide, (Or.inl rfl), (Or.inl w_4_3)⟩)) <|
  P_all_cons (P_lnk_get (P_s1 (c := 1) (P := fun ci => P_fok P_cl P_Tb "OrchardQuery$Plan" 63 ci 1) rfl ⟨_, _, _, "OrchardQuery$Condition", rfl, by decide, (Or.inl rfl), (Or.inr ⟨_, w_3_221⟩)⟩)) <|
  P_all_cons (P_lnk_vi (P_vall (l := P_v71) rfl (P_all_cons (show P_vok _ _ _ 1 16 from ⟨_, rfl, rfl, w_1_7, w_6_76, (Or.inl ⟨P_sg 0 rfl, w_6_77, (Or.inl w_6_75)⟩)⟩) (P_all_nil)))) <|
  P_all_cons (P_lnk_put (P_s1 (c := 5) (P := fun ci => P_pok P_cl P_Tb "OrchardQuery$Plan" false 34 ci 5) rfl ⟨_, _, _, "OrchardQuery$Plan", rfl, by decide, (Or.inl rfl), (Or.inl ⟨w_4_3, (Or.inl rfl)⟩)⟩)) <|
  P_all_cons (P_lnk_get (P_s1 (c := 5) (P := fun ci => P_fok P_cl P_Tb "OrchardQuery$Plan" 34 ci 5) rfl ⟨_, _, _, "OrchardQuery$Plan", rfl, by decide, (Or.inl rfl), (Or.inl w_4_3)⟩)) <|
  P_all_cons (P_lnk_vi (P_vall (l := P_v57) rfl (P_all_cons (show P_vok _ _ _ 5 59 from ⟨_, rfl, rfl, w_1_6, w_1_179, (Or.inl ⟨P_sg 1 rfl, w_1_180, (Or.inl w_2_25)⟩)⟩) (P_all_nil)))) <|
  P_all_cons (P_lnk_vi (P_vall (l := P_v80) rfl (P_all_cons (show P_vok _ _ _ 5 78 from ⟨_, rfl, rfl, w_1_6, w_6_124, (Or.inl ⟨P_sg 2 rfl, w_p_47, (Or.inl w_6_122)⟩)⟩) (P_all_nil)))) <|
  P_all_cons (P_lnk_put (P_s1 (c := 5) (P := fun ci => P_pok P_cl P_Tb "OrchardQuery$Plan" false 34 ci 5) rfl ⟨_, _, _, "OrchardQuery$Plan", rfl, by decide, (Or.inl rfl), (Or.inl ⟨w_4_3, (Or.inl rfl)⟩)⟩)) <|
  P_all_cons (P_lnk_get (P_s1 (c := 5) (P := fun ci => P_fok P_cl P_Tb "OrchardQuery$Plan" 34 ci 5) rfl ⟨_, _, _, "OrchardQuery$Plan", rfl, by decide, (Or.inl rfl), (Or.inl w_4_3)⟩)) <|
  P_all_nil
set_option maxRecDepth 20000 in
theorem P_m77 : P_mstC 77 4 (Option.some Jvm.ClassFile.FieldType.boolean) P_e77 [] := P_meth (mx := 4) (rt := (Option.some Jvm.ClassFile.FieldType.boolean)) (hs := []) "OrchardQuery$Plan" false prog_7_method_25_code [] rfl rfl rfl rfl (by decide +kernel) (by decide +kernel) (fun _ => P_g77) (by decide) (fun _ _ => by decide +kernel) (fun q => by cases q) (P_all_cons (by decide +kernel) <| P_all_cons (by decide +kernel) <| P_all_cons (by decide +kernel) <| P_all_cons (by decide +kernel) <| P_all_nil) P_l77 (by decide +kernel) P_k77 (fun _ _ => P_hok_nil)
/-- OrchardQuery$Plan.contradict(LOrchardQuery$Condition;LOrchardQuery$Condition;)Z -/
def P_l78 : List (Nat × P_I) := [(1, .invokevirtual 149, 4, 0, 76, [], []), (8, .invokevirtual 149, 11, 0, 76, [], []), (15, .getfield 60, 18, 1, 0, [], []), (19, .getfield 60, 22, 1, 0, [], []), (26, .getfield 66, 29, 1, 2, [], []), (30, .getfield 66, 33, 1, 2, [], [])]
set_option maxRecDepth 20000 in
theorem P_k78 : ∀ q ∈ P_l78, P_lnk P_cl P_aty P_stat P_tx P_N0 P_Tb P_Y0 "OrchardQuery$Plan" false prog_7_method_26_code [] q.1 q.2.1 q.2.2.2.1 q.2.2.2.2.1 :=
  P_all_cons (P_lnk_vi (P_vall (l := P_v76) rfl (P_all_cons (show P_vok _ _ _ 1 18 from ⟨_, rfl, rfl, w_1_7, w_6_101, (Or.inl ⟨P_sg 0 rfl, w_6_102, (Or.inl w_6_100)⟩)⟩) (P_all_nil)))) <|
  P_all_cons (P_lnk_vi (P_vall (l := P_v76) rfl (P_all_cons (show P_vok _ _ _ 1 18 from ⟨_, rfl, rfl, w_1_7, w_6_101, (Or.inl ⟨P_sg 0 rfl, w_6_102, (Or.inl w_6_100)⟩)⟩) (P_all_nil)))) <|
  P_all_cons (P_lnk_get (P_s1 (c := 1) (P := fun ci => P_fok P_cl P_Tb "OrchardQuery$Plan" 60 ci 0) rfl ⟨_, _, _, "OrchardQuery$Condition", rfl, by decide, (Or.inl rfl), (Or.inr ⟨_, w_3_218⟩)⟩)) <|
  P_all_cons (P_lnk_get (P_s1 (c := 1) (P := fun ci => P_fok P_cl P_Tb "OrchardQuery$Plan" 60 ci 0) rfl ⟨_, _, _, "OrchardQuery$Condition", rfl, by decide, (Or.inl rfl), (Or.inr ⟨_, w_3_218⟩)⟩)) <|
  P_all_cons (P_lnk_get (P_s1 (c := 1) (P := fun ci => P_fok P_cl P_Tb "OrchardQuery$Plan" 66 ci 2) rfl ⟨_, _, _, "OrchardQuery$Condition", rfl, by decide, (Or.inl rfl), (Or.inr ⟨_, w_3_224⟩)⟩)) <|
  P_all_cons (P_lnk_get (P_s1 (c := 1) (P := fun ci => P_fok P_cl P_Tb "OrchardQuery$Plan" 66 ci 2) rfl ⟨_, _, _, "OrchardQuery$Condition", rfl, by decide, (Or.inl rfl), (Or.inr ⟨_, w_3_224⟩)⟩)) <|
  P_all_nil
set_option maxRecDepth 20000 in
theorem P_m78 : P_mstC 78 3 (Option.some Jvm.ClassFile.FieldType.boolean) P_e78 [] := P_meth (mx := 3) (rt := (Option.some Jvm.ClassFile.FieldType.boolean)) (hs := []) "OrchardQuery$Plan" false prog_7_method_26_code [] rfl rfl rfl rfl (by decide +kernel) (by decide +kernel) (fun _ => P_g78) (by decide) (fun _ _ => by decide +kernel) (fun q => by cases q) (P_all_cons (by decide +kernel) <| P_all_cons (by decide +kernel) <| P_all_nil) P_l78 (by decide +kernel) P_k78 (fun _ _ => P_hok_nil)
/-- OrchardQuery$Plan.exchange(II)V -/
def P_l79 : List (Nat × P_I) := [(2, .invokevirtual 106, 5, 1, 66, [], []), (7, .getfield 26, 10, 5, 3, [], []), (13, .invokevirtual 106, 16, 1, 66, [], []), (16, .invokestatic 166, 19, 3, 179, [], []), (20, .getfield 26, 23, 5, 3, [], []), (25, .invokestatic 166, 28, 3, 179, [], []), (34, .getfield 30, 37, 5, 4, [], []), (43, .invokevirtual 46, 46, 1, 57, [], []), (49, .invokevirtual 46, 52, 1, 57, [], []), (52, .getfield 69, 55, 1, 3, [], []), (59, .invokevirtual 46, 62, 1, 57, [], []), (62, .invokevirtual 72, 65, 1, 60, [], []), (65, .invokestatic 90, 68, 2, 9001, [], []), (68, .putfield 69, 71, 1, 3, [], [])]
set_option maxRecDepth 20000 in
theorem P_k79 : ∀ q ∈ P_l79, P_lnk P_cl P_aty P_stat P_tx P_N0 P_Tb P_Y0 "OrchardQuery$Plan" false prog_7_method_27_code [] q.1 q.2.1 q.2.2.2.1 q.2.2.2.2.1 :=
  P_all_cons (P_lnk_vi (P_vall (l := P_v66) rfl (P_all_cons (show P_vok _ _ _ 5 58 from ⟨_, rfl, rfl, w_1_6, w_1_237, (Or.inl ⟨P_sg 1 rfl, w_1_238, (Or.inl w_2_15)⟩)⟩) (P_all_nil)))) <|
  P_all_cons (P_lnk_get (P_s1 (c := 5) (P := fun ci => P_fok P_cl P_Tb "OrchardQuery$Plan" 26 ci 3) rfl ⟨_, _, _, "OrchardQuery$Plan", rfl, by decide, (Or.inl rfl), (Or.inl w_4_1)⟩)) <|
  P_all_cons (P_lnk_vi (P_vall (l := P_v66) rfl (P_all_cons (show P_vok _ _ _ 5 58 from ⟨_, rfl, rfl, w_1_6, w_1_237, (Or.inl ⟨P_sg 1 rfl, w_1_238, (Or.inl w_2_15)⟩)⟩) (P_all_nil)))) <|
  P_all_cons (P_lnk_st (by decide) (fun _ => ⟨P_sg 3 rfl, w_1_2, w_2_115, (Or.inr ⟨rfl, _, w_6_138⟩)⟩)) <|
  P_all_cons (P_lnk_get (P_s1 (c := 5) (P := fun ci => P_fok P_cl P_Tb "OrchardQuery$Plan" 26 ci 3) rfl ⟨_, _, _, "OrchardQuery$Plan", rfl, by decide, (Or.inl rfl), (Or.inl w_4_1)⟩)) <|
  P_all_cons (P_lnk_st (by decide) (fun _ => ⟨P_sg 3 rfl, w_1_2, w_2_115, (Or.inr ⟨rfl, _, w_6_138⟩)⟩)) <|
  P_all_cons (P_lnk_get (P_s1 (c := 5) (P := fun ci => P_fok P_cl P_Tb "OrchardQuery$Plan" 30 ci 4) rfl ⟨_, _, _, "OrchardQuery$Plan", rfl, by decide, (Or.inl rfl), (Or.inl w_4_2)⟩)) <|
  P_all_cons (P_lnk_vi (P_vall (l := P_v57) rfl (P_all_cons (show P_vok _ _ _ 5 59 from ⟨_, rfl, rfl, w_1_6, w_1_179, (Or.inl ⟨P_sg 1 rfl, w_1_180, (Or.inl w_2_25)⟩)⟩) (P_all_nil)))) <|
  P_all_cons (P_lnk_vi (P_vall (l := P_v57) rfl (P_all_cons (show P_vok _ _ _ 5 59 from ⟨_, rfl, rfl, w_1_6, w_1_179, (Or.inl ⟨P_sg 1 rfl, w_1_180, (Or.inl w_2_25)⟩)⟩) (P_all_nil)))) <|
  P_all_cons (P_lnk_get (P_s1 (c := 1) (P := fun ci => P_fok P_cl P_Tb "OrchardQuery$Plan" 69 ci 3) rfl ⟨_, _, _, "OrchardQuery$Condition", rfl, by decide, (Or.inl rfl), (Or.inr ⟨_, w_3_228⟩)⟩)) <|
  P_all_cons (P_lnk_vi (P_vall (l := P_v57) rfl (P_all_cons (show P_vok _ _ _ 5 59 from ⟨_, rfl, rfl, w_1_6, w_1_179, (Or.inl ⟨P_sg 1 rfl, w_1_180, (Or.inl w_2_25)⟩)⟩) (P_all_nil)))) <|
  P_all_cons (P_lnk_vi (P_vall (l := P_v60) rfl (P_all_cons (show P_vok _ _ _ 5 63 from ⟨_, rfl, rfl, w_1_6, w_1_188, (Or.inl ⟨P_sg 1 rfl, w_p_3, (Or.inl w_1_186)⟩)⟩) (P_all_nil)))) <|
  P_all_cons (P_lnk_sj ⟨by decide, by decide⟩ ⟨fun _ => ⟨w_1_201, w_1_202, w_1_21, w_1_203⟩, (fun q => absurd q (by decide))⟩) <|
  P_all_cons (P_lnk_put (P_s1 (c := 1) (P := fun ci => P_pok P_cl P_Tb "OrchardQuery$Plan" false 69 ci 3) rfl ⟨_, _, _, "OrchardQuery$Condition", rfl, by decide, (Or.inl rfl), (Or.inr ⟨_, w_3_228, rfl⟩)⟩)) <|
  P_all_nil
set_option maxRecDepth 20000 in
theorem P_m79 : P_mstC 79 5 (Option.none : Option Jvm.ClassFile.FieldType) P_e79 [] := P_meth (mx := 5) (rt := (Option.none : Option Jvm.ClassFile.FieldType)) (hs := []) "OrchardQuery$Plan" false prog_7_method_27_code [] rfl rfl rfl rfl (by decide +kernel) (by decide +kernel) (fun _ => P_g79) (by decide) (fun _ _ => by decide +kernel) (fun q => by cases q) (P_all_cons (by decide +kernel) <| P_all_cons (by decide +kernel) <| P_all_cons (by decide +kernel) <| P_all_nil) P_l79 (by decide +kernel) P_k79 (fun _ _ => P_hok_nil)
/-- OrchardQuery$Plan.takeBest()J -/
def P_l80 : List (Nat × P_I) := [(0, .ldc2_w 170, 3, (-1), 0, [], []), (11, .getstatic 172, 14, 0, 1, [], []), (21, .invokevirtual 175, 24, 1, 81, [], []), (33, .invokevirtual 38, 36, 1, 56, [], []), (37, .invokevirtual 178, 40, 0, 82, [], []), (43, .ldc2_w 170, 46, (-1), 0, [], []), (71, .invokevirtual 38, 74, 1, 56, [], [])]
set_option maxRecDepth 20000 in
theorem P_k80 : ∀ q ∈ P_l80, P_lnk P_cl P_aty P_stat P_tx P_N0 P_Tb P_Y0 "OrchardQuery$Plan" false prog_7_method_28_code [] q.1 q.2.1 q.2.2.2.1 q.2.2.2.2.1 :=
  P_all_cons (P_lnk_ldl w_6_169) <|
  P_all_cons (P_lnk_gst (C := "OrchardQuery") (ref := "OrchardQuery") (n := "ORDERS") (d := "[I") (by decide +kernel) (Or.inr ⟨_, w_5_177⟩) (Or.inl rfl)) <|
  P_all_cons (P_lnk_vi (P_vall (l := P_v81) rfl (P_all_cons (show P_vok _ _ _ 5 81 from ⟨_, rfl, rfl, w_1_6, w_6_172, (Or.inl ⟨P_sg 1 rfl, w_p_48, (Or.inl w_6_170)⟩)⟩) (P_all_nil)))) <|
  P_all_cons (P_lnk_vi (P_vall (l := P_v56) rfl (P_all_cons (show P_vok _ _ _ 5 82 from ⟨_, rfl, rfl, w_1_6, w_5_175, (Or.inl ⟨P_sg 1 rfl, w_p_21, (Or.inl w_5_173)⟩)⟩) (P_all_nil)))) <|
  P_all_cons (P_lnk_vi (P_vall (l := P_v82) rfl (P_all_cons (show P_vok _ _ _ 5 67 from ⟨_, rfl, rfl, w_1_6, w_2_32, (Or.inl ⟨P_sg 0 rfl, w_2_33, (Or.inl w_6_174)⟩)⟩) (P_all_nil)))) <|
  P_all_cons (P_lnk_ldl w_6_169) <|
  P_all_cons (P_lnk_vi (P_vall (l := P_v56) rfl (P_all_cons (show P_vok _ _ _ 5 82 from ⟨_, rfl, rfl, w_1_6, w_5_175, (Or.inl ⟨P_sg 1 rfl, w_p_21, (Or.inl w_5_173)⟩)⟩) (P_all_nil)))) <|
  P_all_nil
set_option maxRecDepth 20000 in
theorem P_m80 : P_mstC 80 7 (Option.some Jvm.ClassFile.FieldType.long) P_e80 [] := P_meth (mx := 7) (rt := (Option.some Jvm.ClassFile.FieldType.long)) (hs := []) "OrchardQuery$Plan" false prog_7_method_28_code [] rfl rfl rfl rfl (by decide +kernel) (by decide +kernel) (fun _ => P_g80) (by decide) (fun _ _ => by decide +kernel) (fun q => by cases q) (P_all_cons (by decide +kernel) <| P_all_cons (by decide +kernel) <| P_all_cons (by decide +kernel) <| P_all_nil) P_l80 (by decide +kernel) P_k80 (fun _ _ => P_hok_nil)
/-- OrchardQuery$Plan.isOrder(I)Z -/
def P_l81 : List (Nat × P_I) := [(1, .getfield 9, 4, 5, 0, [], []), (4, .invokevirtual 50, 7, 0, 58, [], []), (13, .getstatic 172, 16, 0, 1, [], []), (19, .invokestatic 42, 22, 2, 178, [], [])]
set_option maxRecDepth 20000 in
theorem P_k81 : ∀ q ∈ P_l81, P_lnk P_cl P_aty P_stat P_tx P_N0 P_Tb P_Y0 "OrchardQuery$Plan" false prog_7_method_29_code [] q.1 q.2.1 q.2.2.2.1 q.2.2.2.2.1 :=
  P_all_cons (P_lnk_get (P_s1 (c := 5) (P := fun ci => P_fok P_cl P_Tb "OrchardQuery$Plan" 9 ci 0) rfl ⟨_, _, _, "OrchardQuery$Plan", rfl, by decide, (Or.inl rfl), (Or.inl w_3_238)⟩)) <|
  P_all_cons (P_lnk_vi (P_vall (l := P_v58) rfl (P_all_cons (show P_vok _ _ _ 3 30 from ⟨_, rfl, rfl, w_1_5, w_1_126, (Or.inl ⟨P_sg 0 rfl, w_1_127, (Or.inl w_2_10)⟩)⟩) (P_all_nil)))) <|
  P_all_cons (P_lnk_gst (C := "OrchardQuery") (ref := "OrchardQuery") (n := "ORDERS") (d := "[I") (by decide +kernel) (Or.inr ⟨_, w_5_177⟩) (Or.inl rfl)) <|
  P_all_cons (P_lnk_st (by decide) (fun _ => ⟨P_sg 2 rfl, w_1_2, w_1_225, (Or.inr ⟨rfl, _, w_2_0⟩)⟩)) <|
  P_all_nil
set_option maxRecDepth 20000 in
theorem P_m81 : P_mstC 81 3 (Option.some Jvm.ClassFile.FieldType.boolean) P_e81 [] := P_meth (mx := 3) (rt := (Option.some Jvm.ClassFile.FieldType.boolean)) (hs := []) "OrchardQuery$Plan" false prog_7_method_29_code [] rfl rfl rfl rfl (by decide +kernel) (by decide +kernel) (fun _ => P_g81) (by decide) (fun _ _ => by decide +kernel) (fun q => by cases q) (P_all_cons (by decide +kernel) <| P_all_cons (by decide +kernel) <| P_all_nil) P_l81 (by decide +kernel) P_k81 (fun _ _ => P_hok_nil)
/-- OrchardQuery$Plan.bringInto(I)V -/
def P_l82 : List (Nat × P_I) := [(4, .getfield 26, 7, 5, 3, [], []), (12, .getfield 26, 15, 5, 3, [], []), (16, .getstatic 172, 19, 0, 1, [], []), (22, .invokestatic 42, 25, 2, 178, [], []), (36, .getfield 30, 39, 5, 4, [], []), (44, .invokevirtual 46, 47, 1, 57, [], []), (50, .invokevirtual 46, 53, 1, 57, [], []), (53, .invokevirtual 72, 56, 1, 60, [], []), (56, .putfield 69, 59, 1, 3, [], [])]
set_option maxRecDepth 20000 in
theorem P_k82 : ∀ q ∈ P_l82, P_lnk P_cl P_aty P_stat P_tx P_N0 P_Tb P_Y0 "OrchardQuery$Plan" false prog_7_method_30_code [] q.1 q.2.1 q.2.2.2.1 q.2.2.2.2.1 :=
  P_all_cons (P_lnk_get (P_s1 (c := 5) (P := fun ci => P_fok P_cl P_Tb "OrchardQuery$Plan" 26 ci 3) rfl ⟨_, _, _, "OrchardQuery$Plan", rfl, by decide, (Or.inl rfl), (Or.inl w_4_1)⟩)) <|
  P_all_cons (P_lnk_get (P_s1 (c := 5) (P := fun ci => P_fok P_cl P_Tb "OrchardQuery$Plan" 26 ci 3) rfl ⟨_, _, _, "OrchardQuery$Plan", rfl, by decide, (Or.inl rfl), (Or.inl w_4_1)⟩)) <|
  P_all_cons (P_lnk_gst (C := "OrchardQuery") (ref := "OrchardQuery") (n := "ORDERS") (d := "[I") (by decide +kernel) (Or.inr ⟨_, w_5_177⟩) (Or.inl rfl)) <|
  P_all_cons (P_lnk_st (by decide) (fun _ => ⟨P_sg 2 rfl, w_1_2, w_1_225, (Or.inr ⟨rfl, _, w_2_0⟩)⟩)) <|
  P_all_cons (P_lnk_get (P_s1 (c := 5) (P := fun ci => P_fok P_cl P_Tb "OrchardQuery$Plan" 30 ci 4) rfl ⟨_, _, _, "OrchardQuery$Plan", rfl, by decide, (Or.inl rfl), (Or.inl w_4_2)⟩)) <|
  P_all_cons (P_lnk_vi (P_vall (l := P_v57) rfl (P_all_cons (show P_vok _ _ _ 5 59 from ⟨_, rfl, rfl, w_1_6, w_1_179, (Or.inl ⟨P_sg 1 rfl, w_1_180, (Or.inl w_2_25)⟩)⟩) (P_all_nil)))) <|
  P_all_cons (P_lnk_vi (P_vall (l := P_v57) rfl (P_all_cons (show P_vok _ _ _ 5 59 from ⟨_, rfl, rfl, w_1_6, w_1_179, (Or.inl ⟨P_sg 1 rfl, w_1_180, (Or.inl w_2_25)⟩)⟩) (P_all_nil)))) <|
  P_all_cons (P_lnk_vi (P_vall (l := P_v60) rfl (P_all_cons (show P_vok _ _ _ 5 63 from ⟨_, rfl, rfl, w_1_6, w_1_188, (Or.inl ⟨P_sg 1 rfl, w_p_3, (Or.inl w_1_186)⟩)⟩) (P_all_nil)))) <|
  P_all_cons (P_lnk_put (P_s1 (c := 1) (P := fun ci => P_pok P_cl P_Tb "OrchardQuery$Plan" false 69 ci 3) rfl ⟨_, _, _, "OrchardQuery$Condition", rfl, by decide, (Or.inl rfl), (Or.inr ⟨_, w_3_228, rfl⟩)⟩)) <|
  P_all_nil
set_option maxRecDepth 20000 in
theorem P_m82 : P_mstC 82 3 (Option.none : Option Jvm.ClassFile.FieldType) P_e82 [] := P_meth (mx := 3) (rt := (Option.none : Option Jvm.ClassFile.FieldType)) (hs := []) "OrchardQuery$Plan" false prog_7_method_30_code [] rfl rfl rfl rfl (by decide +kernel) (by decide +kernel) (fun _ => P_g82) (by decide) (fun _ _ => by decide +kernel) (fun q => by cases q) (P_all_cons (by decide +kernel) <| P_all_cons (by decide +kernel) <| P_all_cons (by decide +kernel) <| P_all_nil) P_l82 (by decide +kernel) P_k82 (fun _ _ => P_hok_nil)
/-- OrchardQuery$Pull.<init>()V -/
def P_l83 : List (Nat × P_I) := [(1, .invokespecial 1, 4, 0, 9000, [], [])]
set_option maxRecDepth 20000 in
theorem P_k83 : ∀ q ∈ P_l83, P_lnk P_cl P_aty P_stat P_tx P_N0 P_Tb P_Y0 "OrchardQuery$Pull" true prog_8_method_1_code [] q.1 q.2.1 q.2.2.2.1 q.2.2.2.2.1 :=
  P_all_cons (P_lnk_oj (fun _ => ⟨w_4_157, w_1_60, w_1_61⟩)) <|
  P_all_nil
set_option maxRecDepth 20000 in
theorem P_m83 : P_mstC 83 1 (Option.none : Option Jvm.ClassFile.FieldType) P_e83 [] := P_meth (mx := 1) (rt := (Option.none : Option Jvm.ClassFile.FieldType)) (hs := []) "OrchardQuery$Pull" true prog_8_method_1_code [] rfl rfl rfl rfl (by decide +kernel) (by decide +kernel) (fun _ => P_g83) (by decide) (fun t q => by cases q) (fun _ => rfl) (P_all_cons (by decide +kernel) <| P_all_nil) P_l83 (by decide +kernel) P_k83 (fun _ _ => P_hok_nil)
/-- OrchardQuery$Pull.begin()V -/
def P_l84 : List (Nat × P_I) := [(1, .invokevirtual 7, 4, 0, 83, [], []), (6, .putfield 12, 9, 6, 0, [], [])]
set_option maxRecDepth 20000 in
theorem P_k84 : ∀ q ∈ P_l84, P_lnk P_cl P_aty P_stat P_tx P_N0 P_Tb P_Y0 "OrchardQuery$Pull" false prog_8_method_2_code [] q.1 q.2.1 q.2.2.2.1 q.2.2.2.2.1 :=
  P_all_cons (P_lnk_vi (P_vall (l := P_v83) rfl (P_all_cons (show P_vok _ _ _ 6 85 from ⟨_, rfl, rfl, w_1_13, w_2_52, (Or.inl ⟨P_sg 0 rfl, w_2_53, (Or.inl w_2_51)⟩)⟩) (P_all_nil)))) <|
  P_all_cons (P_lnk_put (P_s1 (c := 6) (P := fun ci => P_pok P_cl P_Tb "OrchardQuery$Pull" false 12 ci 0) rfl ⟨_, _, _, "OrchardQuery$Pull", rfl, by decide, (Or.inl rfl), (Or.inl ⟨w_4_158, (Or.inl rfl)⟩)⟩)) <|
  P_all_nil
set_option maxRecDepth 20000 in
theorem P_m84 : P_mstC 84 1 (Option.none : Option Jvm.ClassFile.FieldType) P_e84 [] := P_meth (mx := 1) (rt := (Option.none : Option Jvm.ClassFile.FieldType)) (hs := []) "OrchardQuery$Pull" false prog_8_method_2_code [] rfl rfl rfl rfl (by decide +kernel) (by decide +kernel) (fun _ => P_g84) (by decide) (fun _ _ => by decide +kernel) (fun q => by cases q) (P_all_cons (by decide +kernel) <| P_all_nil) P_l84 (by decide +kernel) P_k84 (fun _ _ => P_hok_nil)
/-- OrchardQuery$Pull.end()V -/
def P_l85 : List (Nat × P_I) := [(2, .putfield 12, 5, 6, 0, [], []), (7, .putfield 16, 10, 6, 1, [], []), (12, .putfield 20, 15, 6, 2, [], []), (17, .putfield 23, 20, 6, 3, [], [])]
set_option maxRecDepth 20000 in
theorem P_k85 : ∀ q ∈ P_l85, P_lnk P_cl P_aty P_stat P_tx P_N0 P_Tb P_Y0 "OrchardQuery$Pull" false prog_8_method_3_code [] q.1 q.2.1 q.2.2.2.1 q.2.2.2.2.1 :=
  P_all_cons (P_lnk_put (P_s1 (c := 6) (P := fun ci => P_pok P_cl P_Tb "OrchardQuery$Pull" false 12 ci 0) rfl ⟨_, _, _, "OrchardQuery$Pull", rfl, by decide, (Or.inl rfl), (Or.inl ⟨w_4_158, (Or.inl rfl)⟩)⟩)) <|
  P_all_cons (P_lnk_put (P_s1 (c := 6) (P := fun ci => P_pok P_cl P_Tb "OrchardQuery$Pull" false 16 ci 1) rfl ⟨_, _, _, "OrchardQuery$Pull", rfl, by decide, (Or.inl rfl), (Or.inl ⟨w_4_159, (Or.inl rfl)⟩)⟩)) <|
  P_all_cons (P_lnk_put (P_s1 (c := 6) (P := fun ci => P_pok P_cl P_Tb "OrchardQuery$Pull" false 20 ci 2) rfl ⟨_, _, _, "OrchardQuery$Pull", rfl, by decide, (Or.inl rfl), (Or.inl ⟨w_4_160, (Or.inl rfl)⟩)⟩)) <|
  P_all_cons (P_lnk_put (P_s1 (c := 6) (P := fun ci => P_pok P_cl P_Tb "OrchardQuery$Pull" false 23 ci 3) rfl ⟨_, _, _, "OrchardQuery$Pull", rfl, by decide, (Or.inl rfl), (Or.inl ⟨w_4_161, (Or.inl rfl)⟩)⟩)) <|
  P_all_nil
set_option maxRecDepth 20000 in
theorem P_m85 : P_mstC 85 1 (Option.none : Option Jvm.ClassFile.FieldType) P_e85 [] := P_meth (mx := 1) (rt := (Option.none : Option Jvm.ClassFile.FieldType)) (hs := []) "OrchardQuery$Pull" false prog_8_method_3_code [] rfl rfl rfl rfl (by decide +kernel) (by decide +kernel) (fun _ => P_g85) (by decide) (fun _ _ => by decide +kernel) (fun q => by cases q) (P_all_cons (by decide +kernel) <| P_all_nil) P_l85 (by decide +kernel) P_k85 (fun _ _ => P_hok_nil)
/-- OrchardQuery$Pull.isBegun()Z -/
def P_l86 : List (Nat × P_I) := [(1, .getfield 12, 4, 6, 0, [], [])]
set_option maxRecDepth 20000 in
theorem P_k86 : ∀ q ∈ P_l86, P_lnk P_cl P_aty P_stat P_tx P_N0 P_Tb P_Y0 "OrchardQuery$Pull" false prog_8_method_4_code [] q.1 q.2.1 q.2.2.2.1 q.2.2.2.2.1 :=
  P_all_cons (P_lnk_get (P_s1 (c := 6) (P := fun ci => P_fok P_cl P_Tb "OrchardQuery$Pull" 12 ci 0) rfl ⟨_, _, _, "OrchardQuery$Pull", rfl, by decide, (Or.inl rfl), (Or.inl w_4_158)⟩)) <|
  P_all_nil
set_option maxRecDepth 20000 in
theorem P_m86 : P_mstC 86 1 (Option.some Jvm.ClassFile.FieldType.boolean) P_e86 [] := P_meth (mx := 1) (rt := (Option.some Jvm.ClassFile.FieldType.boolean)) (hs := []) "OrchardQuery$Pull" false prog_8_method_4_code [] rfl rfl rfl rfl (by decide +kernel) (by decide +kernel) (fun _ => P_g86) (by decide) (fun _ _ => by decide +kernel) (fun q => by cases q) (P_all_cons (by decide +kernel) <| P_all_nil) P_l86 (by decide +kernel) P_k86 (fun _ _ => P_hok_nil)
/-- OrchardQuery$Pull.pulled()I -/
def P_l87 : List (Nat × P_I) := [(1, .getfield 16, 4, 6, 1, [], [])]
set_option maxRecDepth 20000 in
theorem P_k87 : ∀ q ∈ P_l87, P_lnk P_cl P_aty P_stat P_tx P_N0 P_Tb P_Y0 "OrchardQuery$Pull" false prog_8_method_5_code [] q.1 q.2.1 q.2.2.2.1 q.2.2.2.2.1 :=
  P_all_cons (P_lnk_get (P_s1 (c := 6) (P := fun ci => P_fok P_cl P_Tb "OrchardQuery$Pull" 16 ci 1) rfl ⟨_, _, _, "OrchardQuery$Pull", rfl, by decide, (Or.inl rfl), (Or.inl w_4_159)⟩)) <|
  P_all_nil
set_option maxRecDepth 20000 in
theorem P_m87 : P_mstC 87 1 (Option.some Jvm.ClassFile.FieldType.int) P_e87 [] := P_meth (mx := 1) (rt := (Option.some Jvm.ClassFile.FieldType.int)) (hs := []) "OrchardQuery$Pull" false prog_8_method_5_code [] rfl rfl rfl rfl (by decide +kernel) (by decide +kernel) (fun _ => P_g87) (by decide) (fun _ _ => by decide +kernel) (fun q => by cases q) (P_all_cons (by decide +kernel) <| P_all_nil) P_l87 (by decide +kernel) P_k87 (fun _ _ => P_hok_nil)
/-- OrchardQuery$Pull.take(LOrchardQuery$Answer;)Z -/
def P_l88 : List (Nat × P_I) := [(1, .getfield 16, 4, 6, 1, [], []), (5, .invokevirtual 26, 8, 0, 84, [], []), (23, .getfield 16, 26, 6, 1, [], []), (28, .putfield 16, 31, 6, 1, [], []), (38, .getfield 16, 41, 6, 1, [], []), (41, .invokevirtual 32, 44, 1, 85, [], []), (48, .invokevirtual 36, 51, 0, 34, [], []), (51, .putfield 20, 54, 6, 2, [], []), (61, .getfield 16, 64, 6, 1, [], []), (64, .invokevirtual 38, 67, 1, 86, [], []), (71, .invokevirtual 41, 74, 0, 35, [], []), (74, .putfield 23, 77, 6, 3, [], [])]
set_option maxRecDepth 20000 in
theorem P_k88 : ∀ q ∈ P_l88, P_lnk P_cl P_aty P_stat P_tx P_N0 P_Tb P_Y0 "OrchardQuery$Pull" false prog_8_method_6_code [] q.1 q.2.1 q.2.2.2.1 q.2.2.2.2.1 :=
  P_all_cons (P_lnk_get (P_s1 (c := 6) (P := fun ci => P_fok P_cl P_Tb "OrchardQuery$Pull" 16 ci 1) rfl ⟨_, _, _, "OrchardQuery$Pull", rfl, by decide, (Or.inl rfl), (Or.inl w_4_159)⟩)) <|
  P_all_cons (P_lnk_vi (P_vall (l := P_v84) rfl (P_all_cons (show P_vok _ _ _ 0 5 from ⟨_, rfl, rfl, w_1_10, w_3_12, (Or.inl ⟨P_sg 0 rfl, w_3_13, (Or.inl w_3_11)⟩)⟩) (P_all_nil)))) <|
  P_all_cons (P_lnk_get (P_s1 (c := 6) (P := fun ci => P_fok P_cl P_Tb "OrchardQuery$Pull" 16 ci 1) rfl ⟨_, _, _, "OrchardQuery$Pull", rfl, by decide, (Or.inl rfl), (Or.inl w_4_159)⟩)) <|
  P_all_cons (P_lnk_put (P_s1 (c := 6) (P := fun ci => P_pok P_cl P_Tb "OrchardQuery$Pull" false 16 ci 1) rfl ⟨_, _, _, "OrchardQuery$Pull", rfl, by decide, (Or.inl rfl), (Or.inl ⟨w_4_159, (Or.inl rfl)⟩)⟩)) <|
  P_all_cons (P_lnk_get (P_s1 (c := 6) (P := fun ci => P_fok P_cl P_Tb "OrchardQuery$Pull" 16 ci 1) rfl ⟨_, _, _, "OrchardQuery$Pull", rfl, by decide, (Or.inl rfl), (Or.inl w_4_159)⟩)) <|
  P_all_cons (P_lnk_vi (P_vall (l := P_v85) rfl (P_all_cons (show P_vok _ _ _ 0 6 from ⟨_, rfl, rfl, w_1_10, w_3_16, (Or.inl ⟨P_sg 1 rfl, w_3_17, (Or.inl w_3_15)⟩)⟩) (P_all_nil)))) <|
  P_all_cons (P_lnk_vi (P_vall (l := P_v34) rfl (P_all_cons (show P_vok _ _ _ 0 129 from ⟨_, rfl, rfl, w_1_9, w_2_191, (Or.inr ⟨⟨"OrchardQuery$Answer", "reads", "()I"⟩, "OrchardQuery$Walk", P_sg 0 rfl, by decide, w_3_19, w_2_188, w_2_190, (Or.inl ⟨w_2_191, _, _, _, w_2_192⟩)⟩)⟩) (P_all_nil)))) <|
  P_all_cons (P_lnk_put (P_s1 (c := 6) (P := fun ci => P_pok P_cl P_Tb "OrchardQuery$Pull" false 20 ci 2) rfl ⟨_, _, _, "OrchardQuery$Pull", rfl, by decide, (Or.inl rfl), (Or.inl ⟨w_4_160, (Or.inl rfl)⟩)⟩)) <|
  P_all_cons (P_lnk_get (P_s1 (c := 6) (P := fun ci => P_fok P_cl P_Tb "OrchardQuery$Pull" 16 ci 1) rfl ⟨_, _, _, "OrchardQuery$Pull", rfl, by decide, (Or.inl rfl), (Or.inl w_4_159)⟩)) <|
  P_all_cons (P_lnk_vi (P_vall (l := P_v86) rfl (P_all_cons (show P_vok _ _ _ 0 7 from ⟨_, rfl, rfl, w_1_10, w_3_21, (Or.inl ⟨P_sg 1 rfl, w_3_22, (Or.inl w_3_20)⟩)⟩) (P_all_nil)))) <|
  P_all_cons (P_lnk_vi (P_vall (l := P_v35) rfl (P_all_cons (show P_vok _ _ _ 0 130 from ⟨_, rfl, rfl, w_1_9, w_2_197, (Or.inr ⟨⟨"OrchardQuery$Answer", "checks", "()I"⟩, "OrchardQuery$Walk", P_sg 0 rfl, by decide, w_3_24, w_2_194, w_2_196, (Or.inl ⟨w_2_197, _, _, _, w_2_198⟩)⟩)⟩) (P_all_nil)))) <|
  P_all_cons (P_lnk_put (P_s1 (c := 6) (P := fun ci => P_pok P_cl P_Tb "OrchardQuery$Pull" false 23 ci 3) rfl ⟨_, _, _, "OrchardQuery$Pull", rfl, by decide, (Or.inl rfl), (Or.inl ⟨w_4_161, (Or.inl rfl)⟩)⟩)) <|
  P_all_nil
set_option maxRecDepth 20000 in
theorem P_m88 : P_mstC 88 3 (Option.some Jvm.ClassFile.FieldType.boolean) P_e88 [] := P_meth (mx := 3) (rt := (Option.some Jvm.ClassFile.FieldType.boolean)) (hs := []) "OrchardQuery$Pull" false prog_8_method_6_code [] rfl rfl rfl rfl (by decide +kernel) (by decide +kernel) (fun _ => P_g88) (by decide) (fun _ _ => by decide +kernel) (fun q => by cases q) (P_all_cons (by decide +kernel) <| P_all_cons (by decide +kernel) <| P_all_cons (by decide +kernel) <| P_all_nil) P_l88 (by decide +kernel) P_k88 (fun _ _ => P_hok_nil)
/-- OrchardQuery$Pull.tell(I)I -/
def P_l89 : List (Nat × P_I) := [(6, .getfield 16, 9, 6, 1, [], []), (15, .getfield 20, 18, 6, 2, [], []), (22, .getfield 23, 25, 6, 3, [], [])]
set_option maxRecDepth 20000 in
theorem P_k89 : ∀ q ∈ P_l89, P_lnk P_cl P_aty P_stat P_tx P_N0 P_Tb P_Y0 "OrchardQuery$Pull" false prog_8_method_7_code [] q.1 q.2.1 q.2.2.2.1 q.2.2.2.2.1 :=
  P_all_cons (P_lnk_get (P_s1 (c := 6) (P := fun ci => P_fok P_cl P_Tb "OrchardQuery$Pull" 16 ci 1) rfl ⟨_, _, _, "OrchardQuery$Pull", rfl, by decide, (Or.inl rfl), (Or.inl w_4_159)⟩)) <|
  P_all_cons (P_lnk_get (P_s1 (c := 6) (P := fun ci => P_fok P_cl P_Tb "OrchardQuery$Pull" 20 ci 2) rfl ⟨_, _, _, "OrchardQuery$Pull", rfl, by decide, (Or.inl rfl), (Or.inl w_4_160)⟩)) <|
  P_all_cons (P_lnk_get (P_s1 (c := 6) (P := fun ci => P_fok P_cl P_Tb "OrchardQuery$Pull" 23 ci 3) rfl ⟨_, _, _, "OrchardQuery$Pull", rfl, by decide, (Or.inl rfl), (Or.inl w_4_161)⟩)) <|
  P_all_nil
set_option maxRecDepth 20000 in
theorem P_m89 : P_mstC 89 2 (Option.some Jvm.ClassFile.FieldType.int) P_e89 [] := P_meth (mx := 2) (rt := (Option.some Jvm.ClassFile.FieldType.int)) (hs := []) "OrchardQuery$Pull" false prog_8_method_7_code [] rfl rfl rfl rfl (by decide +kernel) (by decide +kernel) (fun _ => P_g89) (by decide) (fun _ _ => by decide +kernel) (fun q => by cases q) (P_all_cons (by decide +kernel) <| P_all_nil) P_l89 (by decide +kernel) P_k89 (fun _ _ => P_hok_nil)
/-- OrchardQuery$Query.<init>(LOrchardQuery$Store;LOrchardQuery$Form;LOrchardQuery$Plan;)V -/
def P_l90 : List (Nat × P_I) := [(1, .invokespecial 3, 4, 0, 9000, [], []), (6, .putfield 9, 9, 7, 0, [], []), (11, .putfield 15, 14, 7, 1, [], []), (16, .putfield 19, 19, 7, 2, [], []), (22, .newarray .int, 24, 0, 0, [], []), (24, .putfield 23, 27, 7, 3, [], []), (29, .putfield 27, 32, 7, 7, [], [])]
set_option maxRecDepth 20000 in
theorem P_k90 : ∀ q ∈ P_l90, P_lnk P_cl P_aty P_stat P_tx P_N0 P_Tb P_Y0 "OrchardQuery$Query" true prog_9_method_1_code [] q.1 q.2.1 q.2.2.2.1 q.2.2.2.2.1 :=
  P_all_cons (P_lnk_oj (fun _ => ⟨w_4_22, w_1_60, w_1_61⟩)) <|
  P_all_cons (P_lnk_put (P_s1 (c := 7) (P := fun ci => P_pok P_cl P_Tb "OrchardQuery$Query" true 9 ci 0) rfl ⟨_, _, _, "OrchardQuery$Query", rfl, by decide, (Or.inl rfl), (Or.inl ⟨w_4_23, (Or.inr ⟨rfl, rfl, rfl⟩)⟩)⟩)) <|
  P_all_cons (P_lnk_put (P_s1 (c := 7) (P := fun ci => P_pok P_cl P_Tb "OrchardQuery$Query" true 15 ci 1) rfl ⟨_, _, _, "OrchardQuery$Query", rfl, by decide, (Or.inl rfl), (Or.inl ⟨w_4_24, (Or.inr ⟨rfl, rfl, rfl⟩)⟩)⟩)) <|
  P_all_cons (P_lnk_put (P_s1 (c := 7) (P := fun ci => P_pok P_cl P_Tb "OrchardQuery$Query" true 19 ci 2) rfl ⟨_, _, _, "OrchardQuery$Query", rfl, by decide, (Or.inl rfl), (Or.inl ⟨w_4_25, (Or.inr ⟨rfl, rfl, rfl⟩)⟩)⟩)) <|
  P_all_cons (P_lnk_nwa rfl w_3_158) <|
  P_all_cons (P_lnk_put (P_s1 (c := 7) (P := fun ci => P_pok P_cl P_Tb "OrchardQuery$Query" true 23 ci 3) rfl ⟨_, _, _, "OrchardQuery$Query", rfl, by decide, (Or.inl rfl), (Or.inl ⟨w_4_26, (Or.inr ⟨rfl, rfl, rfl⟩)⟩)⟩)) <|
  P_all_cons (P_lnk_put (P_s1 (c := 7) (P := fun ci => P_pok P_cl P_Tb "OrchardQuery$Query" true 27 ci 7) rfl ⟨_, _, _, "OrchardQuery$Query", rfl, by decide, (Or.inl rfl), (Or.inl ⟨w_4_30, (Or.inl rfl)⟩)⟩)) <|
  P_all_nil
set_option maxRecDepth 20000 in
theorem P_m90 : P_mstC 90 4 (Option.none : Option Jvm.ClassFile.FieldType) P_e90 [] := P_meth (mx := 4) (rt := (Option.none : Option Jvm.ClassFile.FieldType)) (hs := []) "OrchardQuery$Query" true prog_9_method_1_code [] rfl rfl rfl rfl (by decide +kernel) (by decide +kernel) (fun _ => P_g90) (by decide) (fun t q => by cases q) (fun _ => rfl) (P_all_cons (by decide +kernel) <| P_all_cons (by decide +kernel) <| P_all_nil) P_l90 (by decide +kernel) P_k90 (fun _ _ => P_hok_nil)
/-- OrchardQuery$Query.length()I -/
def P_l91 : List (Nat × P_I) := [(1, .getfield 31, 4, 7, 4, [], [])]
set_option maxRecDepth 20000 in
theorem P_k91 : ∀ q ∈ P_l91, P_lnk P_cl P_aty P_stat P_tx P_N0 P_Tb P_Y0 "OrchardQuery$Query" false prog_9_method_2_code [] q.1 q.2.1 q.2.2.2.1 q.2.2.2.2.1 :=
  P_all_cons (P_lnk_get (P_s1 (c := 7) (P := fun ci => P_fok P_cl P_Tb "OrchardQuery$Query" 31 ci 4) rfl ⟨_, _, _, "OrchardQuery$Query", rfl, by decide, (Or.inl rfl), (Or.inl w_4_27)⟩)) <|
  P_all_nil
set_option maxRecDepth 20000 in
theorem P_m91 : P_mstC 91 1 (Option.some Jvm.ClassFile.FieldType.int) P_e91 [] := P_meth (mx := 1) (rt := (Option.some Jvm.ClassFile.FieldType.int)) (hs := []) "OrchardQuery$Query" false prog_9_method_2_code [] rfl rfl rfl rfl (by decide +kernel) (by decide +kernel) (fun _ => P_g91) (by decide) (fun _ _ => by decide +kernel) (fun q => by cases q) (P_all_cons (by decide +kernel) <| P_all_nil) P_l91 (by decide +kernel) P_k91 (fun _ _ => P_hok_nil)
/-- OrchardQuery$Query.isRead()Z -/
def P_l92 : List (Nat × P_I) := [(1, .getfield 34, 4, 7, 5, [], [])]
set_option maxRecDepth 20000 in
theorem P_k92 : ∀ q ∈ P_l92, P_lnk P_cl P_aty P_stat P_tx P_N0 P_Tb P_Y0 "OrchardQuery$Query" false prog_9_method_3_code [] q.1 q.2.1 q.2.2.2.1 q.2.2.2.2.1 :=
  P_all_cons (P_lnk_get (P_s1 (c := 7) (P := fun ci => P_fok P_cl P_Tb "OrchardQuery$Query" 34 ci 5) rfl ⟨_, _, _, "OrchardQuery$Query", rfl, by decide, (Or.inl rfl), (Or.inl w_4_28)⟩)) <|
  P_all_nil
set_option maxRecDepth 20000 in
theorem P_m92 : P_mstC 92 1 (Option.some Jvm.ClassFile.FieldType.boolean) P_e92 [] := P_meth (mx := 1) (rt := (Option.some Jvm.ClassFile.FieldType.boolean)) (hs := []) "OrchardQuery$Query" false prog_9_method_3_code [] rfl rfl rfl rfl (by decide +kernel) (by decide +kernel) (fun _ => P_g92) (by decide) (fun _ _ => by decide +kernel) (fun q => by cases q) (P_all_cons (by decide +kernel) <| P_all_nil) P_l92 (by decide +kernel) P_k92 (fun _ _ => P_hok_nil)
/-- OrchardQuery$Query.faultPlace()I -/
def P_l93 : List (Nat × P_I) := [(1, .getfield 27, 4, 7, 7, [], [])]
set_option maxRecDepth 20000 in
theorem P_k93 : ∀ q ∈ P_l93, P_lnk P_cl P_aty P_stat P_tx P_N0 P_Tb P_Y0 "OrchardQuery$Query" false prog_9_method_4_code [] q.1 q.2.1 q.2.2.2.1 q.2.2.2.2.1 :=
  P_all_cons (P_lnk_get (P_s1 (c := 7) (P := fun ci => P_fok P_cl P_Tb "OrchardQuery$Query" 27 ci 7) rfl ⟨_, _, _, "OrchardQuery$Query", rfl, by decide, (Or.inl rfl), (Or.inl w_4_30)⟩)) <|
  P_all_nil
set_option maxRecDepth 20000 in
theorem P_m93 : P_mstC 93 1 (Option.some Jvm.ClassFile.FieldType.int) P_e93 [] := P_meth (mx := 1) (rt := (Option.some Jvm.ClassFile.FieldType.int)) (hs := []) "OrchardQuery$Query" false prog_9_method_4_code [] rfl rfl rfl rfl (by decide +kernel) (by decide +kernel) (fun _ => P_g93) (by decide) (fun _ _ => by decide +kernel) (fun q => by cases q) (P_all_cons (by decide +kernel) <| P_all_nil) P_l93 (by decide +kernel) P_k93 (fun _ _ => P_hok_nil)
/-- OrchardQuery$Query.add(I)V -/
def P_l94 : List (Nat × P_I) := [(1, .getfield 31, 4, 7, 4, [], []), (5, .getfield 23, 8, 7, 3, [], []), (13, .getfield 23, 16, 7, 3, [], []), (17, .getfield 31, 20, 7, 4, [], []), (21, .invokestatic 38, 24, 3, 179, [], []), (26, .getfield 31, 29, 7, 4, [], []), (31, .putfield 31, 34, 7, 4, [], []), (35, .invokevirtual 42, 38, 0, 87, [], [])]
set_option maxRecDepth 20000 in
theorem P_k94 : ∀ q ∈ P_l94, P_lnk P_cl P_aty P_stat P_tx P_N0 P_Tb P_Y0 "OrchardQuery$Query" false prog_9_method_5_code [] q.1 q.2.1 q.2.2.2.1 q.2.2.2.2.1 :=
  P_all_cons (P_lnk_get (P_s1 (c := 7) (P := fun ci => P_fok P_cl P_Tb "OrchardQuery$Query" 31 ci 4) rfl ⟨_, _, _, "OrchardQuery$Query", rfl, by decide, (Or.inl rfl), (Or.inl w_4_27)⟩)) <|
  P_all_cons (P_lnk_get (P_s1 (c := 7) (P := fun ci => P_fok P_cl P_Tb "OrchardQuery$Query" 23 ci 3) rfl ⟨_, _, _, "OrchardQuery$Query", rfl, by decide, (Or.inl rfl), (Or.inl w_4_26)⟩)) <|
  P_all_cons (P_lnk_get (P_s1 (c := 7) (P := fun ci => P_fok P_cl P_Tb "OrchardQuery$Query" 23 ci 3) rfl ⟨_, _, _, "OrchardQuery$Query", rfl, by decide, (Or.inl rfl), (Or.inl w_4_26)⟩)) <|
  P_all_cons (P_lnk_get (P_s1 (c := 7) (P := fun ci => P_fok P_cl P_Tb "OrchardQuery$Query" 31 ci 4) rfl ⟨_, _, _, "OrchardQuery$Query", rfl, by decide, (Or.inl rfl), (Or.inl w_4_27)⟩)) <|
  P_all_cons (P_lnk_st (by decide) (fun _ => ⟨P_sg 3 rfl, w_1_2, w_2_115, (Or.inr ⟨rfl, _, w_5_147⟩)⟩)) <|
  P_all_cons (P_lnk_get (P_s1 (c := 7) (P := fun ci => P_fok P_cl P_Tb "OrchardQuery$Query" 31 ci 4) rfl ⟨_, _, _, "OrchardQuery$Query", rfl, by decide, (Or.inl rfl), (Or.inl w_4_27)⟩)) <|
  P_all_cons (P_lnk_put (P_s1 (c := 7) (P := fun ci => P_pok P_cl P_Tb "OrchardQuery$Query" false 31 ci 4) rfl ⟨_, _, _, "OrchardQuery$Query", rfl, by decide, (Or.inl rfl), (Or.inl ⟨w_4_27, (Or.inl rfl)⟩)⟩)) <|
  P_all_cons (P_lnk_vi (P_vall (l := P_v87) rfl (P_all_cons (show P_vok _ _ _ 7 96 from ⟨_, rfl, rfl, w_1_8, w_5_123, (Or.inl ⟨P_sg 0 rfl, w_p_18, (Or.inl w_5_121)⟩)⟩) (P_all_nil)))) <|
  P_all_nil
set_option maxRecDepth 20000 in
theorem P_m94 : P_mstC 94 2 (Option.none : Option Jvm.ClassFile.FieldType) P_e94 [] := P_meth (mx := 2) (rt := (Option.none : Option Jvm.ClassFile.FieldType)) (hs := []) "OrchardQuery$Query" false prog_9_method_5_code [] rfl rfl rfl rfl (by decide +kernel) (by decide +kernel) (fun _ => P_g94) (by decide) (fun _ _ => by decide +kernel) (fun q => by cases q) (P_all_cons (by decide +kernel) <| P_all_cons (by decide +kernel) <| P_all_nil) P_l94 (by decide +kernel) P_k94 (fun _ _ => P_hok_nil)
/-- OrchardQuery$Query.empty()V -/
def P_l95 : List (Nat × P_I) := [(2, .putfield 31, 5, 7, 4, [], []), (6, .invokevirtual 42, 9, 0, 87, [], [])]
set_option maxRecDepth 20000 in
theorem P_k95 : ∀ q ∈ P_l95, P_lnk P_cl P_aty P_stat P_tx P_N0 P_Tb P_Y0 "OrchardQuery$Query" false prog_9_method_6_code [] q.1 q.2.1 q.2.2.2.1 q.2.2.2.2.1 :=
  P_all_cons (P_lnk_put (P_s1 (c := 7) (P := fun ci => P_pok P_cl P_Tb "OrchardQuery$Query" false 31 ci 4) rfl ⟨_, _, _, "OrchardQuery$Query", rfl, by decide, (Or.inl rfl), (Or.inl ⟨w_4_27, (Or.inl rfl)⟩)⟩)) <|
  P_all_cons (P_lnk_vi (P_vall (l := P_v87) rfl (P_all_cons (show P_vok _ _ _ 7 96 from ⟨_, rfl, rfl, w_1_8, w_5_123, (Or.inl ⟨P_sg 0 rfl, w_p_18, (Or.inl w_5_121)⟩)⟩) (P_all_nil)))) <|
  P_all_nil
set_option maxRecDepth 20000 in
theorem P_m95 : P_mstC 95 1 (Option.none : Option Jvm.ClassFile.FieldType) P_e95 [] := P_meth (mx := 1) (rt := (Option.none : Option Jvm.ClassFile.FieldType)) (hs := []) "OrchardQuery$Query" false prog_9_method_6_code [] rfl rfl rfl rfl (by decide +kernel) (by decide +kernel) (fun _ => P_g95) (by decide) (fun _ _ => by decide +kernel) (fun q => by cases q) (P_all_cons (by decide +kernel) <| P_all_nil) P_l95 (by decide +kernel) P_k95 (fun _ _ => P_hok_nil)
/-- OrchardQuery$Query.forgetReading()V -/
def P_l96 : List (Nat × P_I) := [(2, .putfield 34, 5, 7, 5, [], []), (7, .putfield 27, 10, 7, 7, [], [])]
set_option maxRecDepth 20000 in
theorem P_k96 : ∀ q ∈ P_l96, P_lnk P_cl P_aty P_stat P_tx P_N0 P_Tb P_Y0 "OrchardQuery$Query" false prog_9_method_7_code [] q.1 q.2.1 q.2.2.2.1 q.2.2.2.2.1 :=
  P_all_cons (P_lnk_put (P_s1 (c := 7) (P := fun ci => P_pok P_cl P_Tb "OrchardQuery$Query" false 34 ci 5) rfl ⟨_, _, _, "OrchardQuery$Query", rfl, by decide, (Or.inl rfl), (Or.inl ⟨w_4_28, (Or.inl rfl)⟩)⟩)) <|
  P_all_cons (P_lnk_put (P_s1 (c := 7) (P := fun ci => P_pok P_cl P_Tb "OrchardQuery$Query" false 27 ci 7) rfl ⟨_, _, _, "OrchardQuery$Query", rfl, by decide, (Or.inl rfl), (Or.inl ⟨w_4_30, (Or.inl rfl)⟩)⟩)) <|
  P_all_nil
set_option maxRecDepth 20000 in
theorem P_m96 : P_mstC 96 1 (Option.none : Option Jvm.ClassFile.FieldType) P_e96 [] := P_meth (mx := 1) (rt := (Option.none : Option Jvm.ClassFile.FieldType)) (hs := []) "OrchardQuery$Query" false prog_9_method_7_code [] rfl rfl rfl rfl (by decide +kernel) (by decide +kernel) (fun _ => P_g96) (by decide) (fun _ _ => by decide +kernel) (fun q => by cases q) (P_all_cons (by decide +kernel) <| P_all_nil) P_l96 (by decide +kernel) P_k96 (fun _ _ => P_hok_nil)
/-- OrchardQuery$Query.readThrough()I -/
def P_l97 : List (Nat × P_I) := [(2, .putfield 45, 5, 7, 8, [], []), (7, .putfield 48, 10, 7, 6, [], []), (12, .putfield 27, 15, 7, 7, [], []), (16, .getfield 15, 19, 7, 1, [], []), (19, .invokevirtual 51, 22, 0, 88, [], []), (23, .getfield 19, 26, 7, 2, [], []), (26, .invokevirtual 56, 29, 0, 89, [], []), (31, .invokevirtual 59, 34, 0, 90, [], []), (38, .invokevirtual 63, 41, 0, 91, [], []), (45, .invokevirtual 66, 48, 0, 92, [], []), (52, .invokevirtual 69, 55, 0, 93, [], []), (63, .putfield 34, 66, 7, 5, [], []), (67, .getfield 48, 70, 7, 6, [], [])]
set_option maxRecDepth 20000 in
theorem P_k97 : ∀ q ∈ P_l97, P_lnk P_cl P_aty P_stat P_tx P_N0 P_Tb P_Y0 "OrchardQuery$Query" false prog_9_method_8_code [] q.1 q.2.1 q.2.2.2.1 q.2.2.2.2.1 :=
  P_all_cons (P_lnk_put (P_s1 (c := 7) (P := fun ci => P_pok P_cl P_Tb "OrchardQuery$Query" false 45 ci 8) rfl ⟨_, _, _, "OrchardQuery$Query", rfl, by decide, (Or.inl rfl), (Or.inl ⟨w_4_31, (Or.inl rfl)⟩)⟩)) <|
  P_all_cons (P_lnk_put (P_s1 (c := 7) (P := fun ci => P_pok P_cl P_Tb "OrchardQuery$Query" false 48 ci 6) rfl ⟨_, _, _, "OrchardQuery$Query", rfl, by decide, (Or.inl rfl), (Or.inl ⟨w_4_29, (Or.inl rfl)⟩)⟩)) <|
  P_all_cons (P_lnk_put (P_s1 (c := 7) (P := fun ci => P_pok P_cl P_Tb "OrchardQuery$Query" false 27 ci 7) rfl ⟨_, _, _, "OrchardQuery$Query", rfl, by decide, (Or.inl rfl), (Or.inl ⟨w_4_30, (Or.inl rfl)⟩)⟩)) <|
  P_all_cons (P_lnk_get (P_s1 (c := 7) (P := fun ci => P_fok P_cl P_Tb "OrchardQuery$Query" 15 ci 1) rfl ⟨_, _, _, "OrchardQuery$Query", rfl, by decide, (Or.inl rfl), (Or.inl w_4_24)⟩)) <|
  P_all_cons (P_lnk_vi (P_vall (l := P_v88) rfl (P_all_cons (show P_vok _ _ _ 3 23 from ⟨_, rfl, rfl, w_1_5, w_5_165, (Or.inl ⟨P_sg 0 rfl, w_5_166, (Or.inl w_5_164)⟩)⟩) (P_all_nil)))) <|
  P_all_cons (P_lnk_get (P_s1 (c := 7) (P := fun ci => P_fok P_cl P_Tb "OrchardQuery$Query" 19 ci 2) rfl ⟨_, _, _, "OrchardQuery$Query", rfl, by decide, (Or.inl rfl), (Or.inl w_4_25)⟩)) <|
  P_all_cons (P_lnk_vi (P_vall (l := P_v89) rfl (P_all_cons (show P_vok _ _ _ 5 54 from ⟨_, rfl, rfl, w_1_6, w_5_170, (Or.inl ⟨P_sg 0 rfl, w_5_171, (Or.inl w_5_169)⟩)⟩) (P_all_nil)))) <|
  P_all_cons (P_lnk_vi (P_vall (l := P_v90) rfl (P_all_cons (show P_vok _ _ _ 7 98 from ⟨_, rfl, rfl, w_1_8, w_5_181, (Or.inl ⟨P_sg 0 rfl, w_p_22, (Or.inl w_5_179)⟩)⟩) (P_all_nil)))) <|
  P_all_cons (P_lnk_vi (P_vall (l := P_v91) rfl (P_all_cons (show P_vok _ _ _ 7 99 from ⟨_, rfl, rfl, w_1_8, w_5_223, (Or.inl ⟨P_sg 0 rfl, w_p_29, (Or.inl w_5_221)⟩)⟩) (P_all_nil)))) <|
  P_all_cons (P_lnk_vi (P_vall (l := P_v92) rfl (P_all_cons (show P_vok _ _ _ 7 108 from ⟨_, rfl, rfl, w_1_8, w_6_28, (Or.inl ⟨P_sg 0 rfl, w_p_35, (Or.inl w_6_26)⟩)⟩) (P_all_nil)))) <|
  P_all_cons (P_lnk_vi (P_vall (l := P_v93) rfl (P_all_cons (show P_vok _ _ _ 7 109 from ⟨_, rfl, rfl, w_1_8, w_6_37, (Or.inl ⟨P_sg 0 rfl, w_p_36, (Or.inl w_6_35)⟩)⟩) (P_all_nil)))) <|
  P_all_cons (P_lnk_put (P_s1 (c := 7) (P := fun ci => P_pok P_cl P_Tb "OrchardQuery$Query" false 34 ci 5) rfl ⟨_, _, _, "OrchardQuery$Query", rfl, by decide, (Or.inl rfl), (Or.inl ⟨w_4_28, (Or.inl rfl)⟩)⟩)) <|
  P_all_cons (P_lnk_get (P_s1 (c := 7) (P := fun ci => P_fok P_cl P_Tb "OrchardQuery$Query" 48 ci 6) rfl ⟨_, _, _, "OrchardQuery$Query", rfl, by decide, (Or.inl rfl), (Or.inl w_4_29)⟩)) <|
  P_all_nil
set_option maxRecDepth 20000 in
theorem P_m97 : P_mstC 97 1 (Option.some Jvm.ClassFile.FieldType.int) P_e97 [] := P_meth (mx := 1) (rt := (Option.some Jvm.ClassFile.FieldType.int)) (hs := []) "OrchardQuery$Query" false prog_9_method_8_code [] rfl rfl rfl rfl (by decide +kernel) (by decide +kernel) (fun _ => P_g97) (by decide) (fun _ _ => by decide +kernel) (fun q => by cases q) (P_all_cons (by decide +kernel) <| P_all_cons (by decide +kernel) <| P_all_cons (by decide +kernel) <| P_all_nil) P_l97 (by decide +kernel) P_k97 (fun _ _ => P_hok_nil)
/-- OrchardQuery$Query.readsHead()Z -/
def P_l98 : List (Nat × P_I) := [(1, .invokevirtual 72, 4, 0, 94, [], []), (10, .getfield 45, 13, 7, 8, [], []), (13, .invokevirtual 76, 16, 2, 95, [], []), (19, .getfield 45, 22, 7, 8, [], []), (24, .putfield 45, 27, 7, 8, [], []), (28, .invokevirtual 80, 31, 0, 96, [], []), (35, .invokevirtual 83, 38, 0, 97, [], [])]
set_option maxRecDepth 20000 in
theorem P_k98 : ∀ q ∈ P_l98, P_lnk P_cl P_aty P_stat P_tx P_N0 P_Tb P_Y0 "OrchardQuery$Query" false prog_9_method_9_code [] q.1 q.2.1 q.2.2.2.1 q.2.2.2.2.1 :=
  P_all_cons (P_lnk_vi (P_vall (l := P_v94) rfl (P_all_cons (show P_vok _ _ _ 7 110 from ⟨_, rfl, rfl, w_1_8, w_5_185, (Or.inl ⟨P_sg 0 rfl, w_p_23, (Or.inl w_5_183)⟩)⟩) (P_all_nil)))) <|
  P_all_cons (P_lnk_get (P_s1 (c := 7) (P := fun ci => P_fok P_cl P_Tb "OrchardQuery$Query" 45 ci 8) rfl ⟨_, _, _, "OrchardQuery$Query", rfl, by decide, (Or.inl rfl), (Or.inl w_4_31)⟩)) <|
  P_all_cons (P_lnk_vi (P_vall (l := P_v95) rfl (P_all_cons (show P_vok _ _ _ 7 112 from ⟨_, rfl, rfl, w_1_8, w_5_190, (Or.inl ⟨P_sg 2 rfl, w_p_24, (Or.inl w_5_188)⟩)⟩) (P_all_nil)))) <|
  P_all_cons (P_lnk_get (P_s1 (c := 7) (P := fun ci => P_fok P_cl P_Tb "OrchardQuery$Query" 45 ci 8) rfl ⟨_, _, _, "OrchardQuery$Query", rfl, by decide, (Or.inl rfl), (Or.inl w_4_31)⟩)) <|
  P_all_cons (P_lnk_put (P_s1 (c := 7) (P := fun ci => P_pok P_cl P_Tb "OrchardQuery$Query" false 45 ci 8) rfl ⟨_, _, _, "OrchardQuery$Query", rfl, by decide, (Or.inl rfl), (Or.inl ⟨w_4_31, (Or.inl rfl)⟩)⟩)) <|
  P_all_cons (P_lnk_vi (P_vall (l := P_v96) rfl (P_all_cons (show P_vok _ _ _ 7 100 from ⟨_, rfl, rfl, w_1_8, w_5_194, (Or.inl ⟨P_sg 0 rfl, w_p_25, (Or.inl w_5_192)⟩)⟩) (P_all_nil)))) <|
  P_all_cons (P_lnk_vi (P_vall (l := P_v97) rfl (P_all_cons (show P_vok _ _ _ 7 102 from ⟨_, rfl, rfl, w_1_8, w_5_212, (Or.inl ⟨P_sg 0 rfl, w_p_28, (Or.inl w_5_210)⟩)⟩) (P_all_nil)))) <|
  P_all_nil
set_option maxRecDepth 20000 in
theorem P_m98 : P_mstC 98 1 (Option.some Jvm.ClassFile.FieldType.boolean) P_e98 [] := P_meth (mx := 1) (rt := (Option.some Jvm.ClassFile.FieldType.boolean)) (hs := []) "OrchardQuery$Query" false prog_9_method_9_code [] rfl rfl rfl rfl (by decide +kernel) (by decide +kernel) (fun _ => P_g98) (by decide) (fun _ _ => by decide +kernel) (fun q => by cases q) (P_all_cons (by decide +kernel) <| P_all_cons (by decide +kernel) <| P_all_nil) P_l98 (by decide +kernel) P_k98 (fun _ _ => P_hok_nil)
/-- OrchardQuery$Query.readsTail()Z -/
def P_l99 : List (Nat × P_I) := [(1, .invokevirtual 86, 4, 0, 98, [], []), (8, .invokevirtual 89, 11, 0, 99, [], []), (15, .invokevirtual 92, 18, 0, 100, [], []), (22, .invokevirtual 95, 25, 0, 101, [], []), (31, .getfield 45, 34, 7, 8, [], []), (35, .getfield 31, 38, 7, 4, [], []), (45, .getfield 45, 48, 7, 8, [], []), (48, .invokevirtual 76, 51, 2, 95, [], [])]
set_option maxRecDepth 20000 in
theorem P_k99 : ∀ q ∈ P_l99, P_lnk P_cl P_aty P_stat P_tx P_N0 P_Tb P_Y0 "OrchardQuery$Query" false prog_9_method_10_code [] q.1 q.2.1 q.2.2.2.1 q.2.2.2.2.1 :=
  P_all_cons (P_lnk_vi (P_vall (l := P_v98) rfl (P_all_cons (show P_vok _ _ _ 7 103 from ⟨_, rfl, rfl, w_1_8, w_5_227, (Or.inl ⟨P_sg 0 rfl, w_p_30, (Or.inl w_5_225)⟩)⟩) (P_all_nil)))) <|
  P_all_cons (P_lnk_vi (P_vall (l := P_v99) rfl (P_all_cons (show P_vok _ _ _ 7 105 from ⟨_, rfl, rfl, w_1_8, w_6_4, (Or.inl ⟨P_sg 0 rfl, w_p_32, (Or.inl w_6_2)⟩)⟩) (P_all_nil)))) <|
  P_all_cons (P_lnk_vi (P_vall (l := P_v100) rfl (P_all_cons (show P_vok _ _ _ 7 106 from ⟨_, rfl, rfl, w_1_8, w_6_12, (Or.inl ⟨P_sg 0 rfl, w_p_33, (Or.inl w_6_10)⟩)⟩) (P_all_nil)))) <|
  P_all_cons (P_lnk_vi (P_vall (l := P_v101) rfl (P_all_cons (show P_vok _ _ _ 7 107 from ⟨_, rfl, rfl, w_1_8, w_6_20, (Or.inl ⟨P_sg 0 rfl, w_p_34, (Or.inl w_6_18)⟩)⟩) (P_all_nil)))) <|
  P_all_cons (P_lnk_get (P_s1 (c := 7) (P := fun ci => P_fok P_cl P_Tb "OrchardQuery$Query" 45 ci 8) rfl ⟨_, _, _, "OrchardQuery$Query", rfl, by decide, (Or.inl rfl), (Or.inl w_4_31)⟩)) <|
  P_all_cons (P_lnk_get (P_s1 (c := 7) (P := fun ci => P_fok P_cl P_Tb "OrchardQuery$Query" 31 ci 4) rfl ⟨_, _, _, "OrchardQuery$Query", rfl, by decide, (Or.inl rfl), (Or.inl w_4_27)⟩)) <|
  P_all_cons (P_lnk_get (P_s1 (c := 7) (P := fun ci => P_fok P_cl P_Tb "OrchardQuery$Query" 45 ci 8) rfl ⟨_, _, _, "OrchardQuery$Query", rfl, by decide, (Or.inl rfl), (Or.inl w_4_31)⟩)) <|
  P_all_cons (P_lnk_vi (P_vall (l := P_v95) rfl (P_all_cons (show P_vok _ _ _ 7 112 from ⟨_, rfl, rfl, w_1_8, w_5_190, (Or.inl ⟨P_sg 2 rfl, w_p_24, (Or.inl w_5_188)⟩)⟩) (P_all_nil)))) <|
  P_all_nil
set_option maxRecDepth 20000 in
theorem P_m99 : P_mstC 99 1 (Option.some Jvm.ClassFile.FieldType.boolean) P_e99 [] := P_meth (mx := 1) (rt := (Option.some Jvm.ClassFile.FieldType.boolean)) (hs := []) "OrchardQuery$Query" false prog_9_method_10_code [] rfl rfl rfl rfl (by decide +kernel) (by decide +kernel) (fun _ => P_g99) (by decide) (fun _ _ => by decide +kernel) (fun q => by cases q) (P_all_cons (by decide +kernel) <| P_all_cons (by decide +kernel) <| P_all_nil) P_l99 (by decide +kernel) P_k99 (fun _ _ => P_hok_nil)
/-- OrchardQuery$Query.readsItems()Z -/
def P_l100 : List (Nat × P_I) := [(1, .invokevirtual 98, 4, 0, 102, [], []), (18, .invokevirtual 72, 21, 0, 94, [], []), (21, .invokevirtual 101, 24, 1, 103, [], []), (28, .invokevirtual 98, 31, 0, 102, [], []), (43, .invokevirtual 72, 46, 0, 94, [], []), (53, .getfield 45, 56, 7, 8, [], []), (56, .invokevirtual 76, 59, 2, 95, [], []), (62, .getfield 45, 65, 7, 8, [], []), (67, .putfield 45, 70, 7, 8, [], [])]
set_option maxRecDepth 20000 in
theorem P_k100 : ∀ q ∈ P_l100, P_lnk P_cl P_aty P_stat P_tx P_N0 P_Tb P_Y0 "OrchardQuery$Query" false prog_9_method_11_code [] q.1 q.2.1 q.2.2.2.1 q.2.2.2.2.1 :=
  P_all_cons (P_lnk_vi (P_vall (l := P_v102) rfl (P_all_cons (show P_vok _ _ _ 7 101 from ⟨_, rfl, rfl, w_1_8, w_5_198, (Or.inl ⟨P_sg 0 rfl, w_p_26, (Or.inl w_5_196)⟩)⟩) (P_all_nil)))) <|
  P_all_cons (P_lnk_vi (P_vall (l := P_v94) rfl (P_all_cons (show P_vok _ _ _ 7 110 from ⟨_, rfl, rfl, w_1_8, w_5_185, (Or.inl ⟨P_sg 0 rfl, w_p_23, (Or.inl w_5_183)⟩)⟩) (P_all_nil)))) <|
  P_all_cons (P_lnk_vi (P_vall (l := P_v103) rfl (P_all_cons (show P_vok _ _ _ 7 111 from ⟨_, rfl, rfl, w_1_8, w_5_202, (Or.inl ⟨P_sg 1 rfl, w_p_27, (Or.inl w_5_200)⟩)⟩) (P_all_nil)))) <|
  P_all_cons (P_lnk_vi (P_vall (l := P_v102) rfl (P_all_cons (show P_vok _ _ _ 7 101 from ⟨_, rfl, rfl, w_1_8, w_5_198, (Or.inl ⟨P_sg 0 rfl, w_p_26, (Or.inl w_5_196)⟩)⟩) (P_all_nil)))) <|
  P_all_cons (P_lnk_vi (P_vall (l := P_v94) rfl (P_all_cons (show P_vok _ _ _ 7 110 from ⟨_, rfl, rfl, w_1_8, w_5_185, (Or.inl ⟨P_sg 0 rfl, w_p_23, (Or.inl w_5_183)⟩)⟩) (P_all_nil)))) <|
  P_all_cons (P_lnk_get (P_s1 (c := 7) (P := fun ci => P_fok P_cl P_Tb "OrchardQuery$Query" 45 ci 8) rfl ⟨_, _, _, "OrchardQuery$Query", rfl, by decide, (Or.inl rfl), (Or.inl w_4_31)⟩)) <|
  P_all_cons (P_lnk_vi (P_vall (l := P_v95) rfl (P_all_cons (show P_vok _ _ _ 7 112 from ⟨_, rfl, rfl, w_1_8, w_5_190, (Or.inl ⟨P_sg 2 rfl, w_p_24, (Or.inl w_5_188)⟩)⟩) (P_all_nil)))) <|
  P_all_cons (P_lnk_get (P_s1 (c := 7) (P := fun ci => P_fok P_cl P_Tb "OrchardQuery$Query" 45 ci 8) rfl ⟨_, _, _, "OrchardQuery$Query", rfl, by decide, (Or.inl rfl), (Or.inl w_4_31)⟩)) <|
  P_all_cons (P_lnk_put (P_s1 (c := 7) (P := fun ci => P_pok P_cl P_Tb "OrchardQuery$Query" false 45 ci 8) rfl ⟨_, _, _, "OrchardQuery$Query", rfl, by decide, (Or.inl rfl), (Or.inl ⟨w_4_31, (Or.inl rfl)⟩)⟩)) <|
  P_all_nil
set_option maxRecDepth 20000 in
theorem P_m100 : P_mstC 100 2 (Option.some Jvm.ClassFile.FieldType.boolean) P_e100 [] := P_meth (mx := 2) (rt := (Option.some Jvm.ClassFile.FieldType.boolean)) (hs := []) "OrchardQuery$Query" false prog_9_method_11_code [] rfl rfl rfl rfl (by decide +kernel) (by decide +kernel) (fun _ => P_g100) (by decide) (fun _ _ => by decide +kernel) (fun q => by cases q) (P_all_cons (by decide +kernel) <| P_all_cons (by decide +kernel) <| P_all_cons (by decide +kernel) <| P_all_nil) P_l100 (by decide +kernel) P_k100 (fun _ _ => P_hok_nil)
