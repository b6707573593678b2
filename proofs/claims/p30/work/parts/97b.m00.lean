/-! TABLES of this claim, written by wip/gen.py: methods -/
/-- OrchardQueryLaw.law([I)Z -/
def P_l0 : List (Nat × P_I) := [(7, .new 9, 10, 0, 11, [], []), (19, .invokespecial 11, 22, 2, 181, [], []), (24, .getfield 14, 27, 11, 0, [], []), (29, .invokevirtual 18, 32, 0, 0, [], []), (49, .invokevirtual 22, 52, 1, 1, [], []), (63, .invokevirtual 26, 66, 1, 2, [], []), (79, .invokevirtual 30, 82, 0, 3, [], []), (95, .invokevirtual 33, 98, 0, 4, [], []), (107, .invokevirtual 22, 110, 1, 1, [], []), (110, .invokevirtual 36, 113, 1, 5, [], []), (128, .invokevirtual 39, 131, 1, 6, [], []), (137, .getfield 44, 140, 11, 3, [], []), (141, .getfield 48, 144, 11, 7, [], []), (147, .invokevirtual 52, 150, 1, 7, [], []), (163, .invokevirtual 55, 166, 0, 8, [], []), (168, .invokevirtual 59, 171, 0, 9, [], []), (174, .invokevirtual 62, 177, 0, 10, [], []), (181, .invokevirtual 66, 184, 1, 11, [], []), (187, .invokevirtual 69, 190, 0, 12, [], []), (193, .invokevirtual 72, 196, 0, 13, [], []), (208, .getfield 76, 211, 11, 6, [], []), (223, .invokevirtual 79, 226, 1, 14, [], []), (230, .invokevirtual 82, 233, 2, 15, [], []), (277, .invokevirtual 86, 280, 1, 16, [], []), (287, .invokevirtual 86, 290, 1, 16, [], []), (292, .invokevirtual 66, 295, 1, 11, [], []), (300, .invokevirtual 86, 303, 1, 16, [], []), (305, .invokevirtual 86, 308, 1, 16, [], []), (310, .invokevirtual 39, 313, 1, 6, [], []), (326, .invokevirtual 39, 329, 1, 6, [], []), (333, .invokevirtual 89, 336, 0, 17, [], []), (342, .invokevirtual 92, 345, 1, 18, [], []), (347, .ldc2_w 95, 350, 4602678819172646912, 1, [], []), (358, .invokevirtual 92, 361, 1, 18, [], []), (370, .invokevirtual 97, 373, 2, 19, [], []), (377, .invokevirtual 97, 380, 2, 19, [], []), (387, .invokevirtual 97, 390, 2, 19, [], []), (392, .invokevirtual 39, 395, 1, 6, [], []), (402, .invokevirtual 97, 405, 2, 19, [], []), (412, .invokevirtual 97, 415, 2, 19, [], []), (436, .invokevirtual 39, 439, 1, 6, [], []), (445, .invokevirtual 100, 448, 1, 20, [], []), (462, .getfield 104, 465, 11, 10, [], []), (471, .getfield 104, 474, 11, 10, [], []), (478, .invokevirtual 108, 481, 0, 21, [], []), (485, .getfield 104, 488, 11, 10, [], []), (495, .ldc2_w 95, 498, 4602678819172646912, 1, [], []), (504, .invokevirtual 108, 507, 0, 21, [], []), (520, .invokevirtual 111, 523, 0, 22, [], []), (529, .invokevirtual 114, 532, 0, 23, [], []), (547, .getfield 76, 550, 11, 6, [], []), (555, .getfield 76, 558, 11, 6, [], []), (588, .invokestatic 117, 591, 2, 9002, [], []), (600, .getfield 76, 603, 11, 6, [], []), (613, .getfield 122, 616, 11, 9, [], []), (626, .invokevirtual 82, 629, 2, 15, [], []), (636, .invokevirtual 82, 639, 2, 15, [], []), (662, .invokevirtual 82, 665, 2, 15, [], []), (674, .getfield 125, 677, 11, 8, [], []), (685, .invokevirtual 82, 688, 2, 15, [], []), (706, .getfield 104, 709, 11, 10, [], []), (723, .ldc2_w 95, 726, 4602678819172646912, 1, [], []), (734, .invokevirtual 62, 737, 0, 10, [], []), (745, .invokevirtual 66, 748, 1, 11, [], []), (768, .invokevirtual 59, 771, 0, 9, [], []), (780, .getfield 76, 783, 11, 6, [], []), (797, .invokevirtual 79, 800, 1, 14, [], []), (805, .invokevirtual 82, 808, 2, 15, [], []), (834, .invokevirtual 66, 837, 1, 11, [], []), (844, .invokevirtual 66, 847, 1, 11, [], []), (849, .invokevirtual 86, 852, 1, 16, [], []), (857, .invokevirtual 66, 860, 1, 11, [], []), (862, .invokevirtual 86, 865, 1, 16, [], [])]
set_option maxRecDepth 20000 in
theorem P_k0 : ∀ q ∈ P_l0, P_lnk P_cl P_aty P_stat P_tx P_N0 P_Tb P_Y0 "OrchardQueryLaw" false code [] q.1 q.2.1 q.2.2.2.1 q.2.2.2.2.1 :=
  P_all_cons (P_lnk_new (by decide) rfl w_3_121 w_3_122 w_1_1) <|
  P_all_cons (P_lnk_sp (by decide) (fun _ => ⟨P_sg 2 rfl, w_1_1, w_3_124, rfl, rfl, (Or.inl w_3_123)⟩)) <|
  P_all_cons (P_lnk_get (P_s1 (c := 11) (P := fun ci => P_fok P_cl P_Tb "OrchardQueryLaw" 14 ci 0) rfl ⟨_, _, _, "OrchardQueryLaw$Grove", rfl, by decide, (Or.inl rfl), (Or.inl w_4_198)⟩)) <|
  P_all_cons (P_lnk_vi (P_vall (l := P_v0) rfl (P_all_cons (show P_vok _ _ _ 11 189 from ⟨_, rfl, rfl, w_1_1, w_5_63, (Or.inl ⟨P_sg 0 rfl, w_5_64, (Or.inl w_5_62)⟩)⟩) (P_all_nil)))) <|
  P_all_cons (P_lnk_vi (P_vall (l := P_v1) rfl (P_all_cons (show P_vok _ _ _ 11 182 from ⟨_, rfl, rfl, w_1_1, w_5_12, (Or.inl ⟨P_sg 1 rfl, w_5_13, (Or.inl w_5_11)⟩)⟩) (P_all_nil)))) <|
  P_all_cons (P_lnk_vi (P_vall (l := P_v2) rfl (P_all_cons (show P_vok _ _ _ 11 202 from ⟨_, rfl, rfl, w_1_1, w_6_42, (Or.inl ⟨P_sg 1 rfl, w_6_43, (Or.inl w_6_41)⟩)⟩) (P_all_nil)))) <|
  P_all_cons (P_lnk_vi (P_vall (l := P_v3) rfl (P_all_cons (show P_vok _ _ _ 11 203 from ⟨_, rfl, rfl, w_1_1, w_6_127, (Or.inl ⟨P_sg 0 rfl, w_6_128, (Or.inl w_6_126)⟩)⟩) (P_all_nil)))) <|
  P_all_cons (P_lnk_vi (P_vall (l := P_v4) rfl (P_all_cons (show P_vok _ _ _ 11 204 from ⟨_, rfl, rfl, w_1_1, w_6_140, (Or.inl ⟨P_sg 0 rfl, w_6_141, (Or.inl w_6_139)⟩)⟩) (P_all_nil)))) <|
  P_all_cons (P_lnk_vi (P_vall (l := P_v1) rfl (P_all_cons (show P_vok _ _ _ 11 182 from ⟨_, rfl, rfl, w_1_1, w_5_12, (Or.inl ⟨P_sg 1 rfl, w_5_13, (Or.inl w_5_11)⟩)⟩) (P_all_nil)))) <|
  P_all_cons (P_lnk_vi (P_vall (l := P_v5) rfl (P_all_cons (show P_vok _ _ _ 11 188 from ⟨_, rfl, rfl, w_1_1, w_5_24, (Or.inl ⟨P_sg 1 rfl, w_5_25, (Or.inl w_5_23)⟩)⟩) (P_all_nil)))) <|
  P_all_cons (P_lnk_vi (P_vall (l := P_v6) rfl (P_all_cons (show P_vok _ _ _ 10 145 from ⟨_, rfl, rfl, w_1_2, w_1_31, (Or.inl ⟨P_sg 1 rfl, w_1_32, (Or.inl w_1_30)⟩)⟩) (P_all_nil)))) <|
  P_all_cons (P_lnk_get (P_s1 (c := 11) (P := fun ci => P_fok P_cl P_Tb "OrchardQueryLaw" 44 ci 3) rfl ⟨_, _, _, "OrchardQueryLaw$Grove", rfl, by decide, (Or.inl rfl), (Or.inl w_4_202)⟩)) <|
  P_all_cons (P_lnk_get (P_s1 (c := 11) (P := fun ci => P_fok P_cl P_Tb "OrchardQueryLaw" 48 ci 7) rfl ⟨_, _, _, "OrchardQueryLaw$Grove", rfl, by decide, (Or.inl rfl), (Or.inl w_4_208)⟩)) <|
  P_all_cons (P_lnk_vi (P_vall (l := P_v7) rfl (P_all_cons (show P_vok _ _ _ 10 150 from ⟨_, rfl, rfl, w_1_2, w_1_228, (Or.inl ⟨P_sg 1 rfl, w_1_229, (Or.inl w_1_227)⟩)⟩) (P_all_nil)))) <|
  P_all_cons (P_lnk_vi (P_vall (l := P_v8) rfl (P_all_cons (show P_vok _ _ _ 10 154 from ⟨_, rfl, rfl, w_1_2, w_2_44, (Or.inl ⟨P_sg 0 rfl, w_2_45, (Or.inl w_2_43)⟩)⟩) (P_all_nil)))) <|
  P_all_cons (P_lnk_vi (P_vall (l := P_v9) rfl (P_all_cons (show P_vok _ _ _ 10 155 from ⟨_, rfl, rfl, w_1_2, w_2_56, (Or.inl ⟨P_sg 0 rfl, w_2_57, (Or.inl w_2_55)⟩)⟩) (P_all_nil)))) <|
  P_all_cons (P_lnk_vi (P_vall (l := P_v10) rfl (P_all_cons (show P_vok _ _ _ 10 163 from ⟨_, rfl, rfl, w_1_2, w_3_90, (Or.inl ⟨P_sg 0 rfl, w_3_91, (Or.inl w_3_89)⟩)⟩) (P_all_nil)))) <|
  P_all_cons (P_lnk_vi (P_vall (l := P_v11) rfl (P_all_cons (show P_vok _ _ _ 10 157 from ⟨_, rfl, rfl, w_1_2, w_3_41, (Or.inl ⟨P_sg 1 rfl, w_3_42, (Or.inl w_3_40)⟩)⟩) (P_all_nil)))) <|
  P_all_cons (P_lnk_vi (P_vall (l := P_v12) rfl (P_all_cons (show P_vok _ _ _ 10 158 from ⟨_, rfl, rfl, w_1_2, w_3_50, (Or.inl ⟨P_sg 0 rfl, w_3_51, (Or.inl w_3_49)⟩)⟩) (P_all_nil)))) <|
  P_all_cons (P_lnk_vi (P_vall (l := P_v13) rfl (P_all_cons (show P_vok _ _ _ 10 162 from ⟨_, rfl, rfl, w_1_2, w_3_81, (Or.inl ⟨P_sg 0 rfl, w_3_82, (Or.inl w_3_80)⟩)⟩) (P_all_nil)))) <|
  P_all_cons (P_lnk_get (P_s1 (c := 11) (P := fun ci => P_fok P_cl P_Tb "OrchardQueryLaw" 76 ci 6) rfl ⟨_, _, _, "OrchardQueryLaw$Grove", rfl, by decide, (Or.inl rfl), (Or.inl w_4_206)⟩)) <|
  P_all_cons (P_lnk_vi (P_vall (l := P_v14) rfl (P_all_cons (show P_vok _ _ _ 10 156 from ⟨_, rfl, rfl, w_1_2, w_3_26, (Or.inl ⟨P_sg 1 rfl, w_3_27, (Or.inl w_3_25)⟩)⟩) (P_all_nil)))) <|
  P_all_cons (P_lnk_vi (P_vall (l := P_v15) rfl (P_all_cons (show P_vok _ _ _ 10 159 from ⟨_, rfl, rfl, w_1_2, w_3_55, (Or.inl ⟨P_sg 2 rfl, w_3_56, (Or.inl w_3_54)⟩)⟩) (P_all_nil)))) <|
  P_all_cons (P_lnk_vi (P_vall (l := P_v16) rfl (P_all_cons (show P_vok _ _ _ 10 160 from ⟨_, rfl, rfl, w_1_2, w_3_60, (Or.inl ⟨P_sg 1 rfl, w_3_61, (Or.inl w_3_59)⟩)⟩) (P_all_nil)))) <|
  P_all_cons (P_lnk_vi (P_vall (l := P_v16) rfl (P_all_cons (show P_vok _ _ _ 10 160 from ⟨_, rfl, rfl, w_1_2, w_3_60, (Or.inl ⟨P_sg 1 rfl, w_3_61, (Or.inl w_3_59)⟩)⟩) (P_all_nil)))) <|
  P_all_cons (P_lnk_vi (P_vall (l := P_v11) rfl (P_all_cons (show P_vok _ _ _ 10 157 from ⟨_, rfl, rfl, w_1_2, w_3_41, (Or.inl ⟨P_sg 1 rfl, w_3_42, (Or.inl w_3_40)⟩)⟩) (P_all_nil)))) <|
  P_all_cons (P_lnk_vi (P_vall (l := P_v16) rfl (P_all_cons (show P_vok _ _ _ 10 160 from ⟨_, rfl, rfl, w_1_2, w_3_60, (Or.inl ⟨P_sg 1 rfl, w_3_61, (Or.inl w_3_59)⟩)⟩) (P_all_nil)))) <|
  P_all_cons (P_lnk_vi (P_vall (l := P_v16) rfl (P_all_cons (show P_vok _ _ _ 10 160 from ⟨_, rfl, rfl, w_1_2, w_3_60, (Or.inl ⟨P_sg 1 rfl, w_3_61, (Or.inl w_3_59)⟩)⟩) (P_all_nil)))) <|
  P_all_cons (P_lnk_vi (P_vall (l := P_v6) rfl (P_all_cons (show P_vok _ _ _ 10 145 from ⟨_, rfl, rfl, w_1_2, w_1_31, (Or.inl ⟨P_sg 1 rfl, w_1_32, (Or.inl w_1_30)⟩)⟩) (P_all_nil)))) <|
  P_all_cons (P_lnk_vi (P_vall (l := P_v6) rfl (P_all_cons (show P_vok _ _ _ 10 145 from ⟨_, rfl, rfl, w_1_2, w_1_31, (Or.inl ⟨P_sg 1 rfl, w_1_32, (Or.inl w_1_30)⟩)⟩) (P_all_nil)))) <|
  P_all_cons (P_lnk_vi (P_vall (l := P_v17) rfl (P_all_cons (show P_vok _ _ _ 10 153 from ⟨_, rfl, rfl, w_1_2, w_2_36, (Or.inl ⟨P_sg 0 rfl, w_2_37, (Or.inl w_2_35)⟩)⟩) (P_all_nil)))) <|
  P_all_cons (P_lnk_vi (P_vall (l := P_v18) rfl (P_all_cons (show P_vok _ _ _ 10 161 from ⟨_, rfl, rfl, w_1_2, w_3_67, (Or.inl ⟨P_sg 1 rfl, w_3_68, (Or.inl w_3_66)⟩)⟩) (P_all_nil)))) <|
  P_all_cons (P_lnk_ldd w_6_180) <|
  P_all_cons (P_lnk_vi (P_vall (l := P_v18) rfl (P_all_cons (show P_vok _ _ _ 10 161 from ⟨_, rfl, rfl, w_1_2, w_3_67, (Or.inl ⟨P_sg 1 rfl, w_3_68, (Or.inl w_3_66)⟩)⟩) (P_all_nil)))) <|
  P_all_cons (P_lnk_vi (P_vall (l := P_v19) rfl (P_all_cons (show P_vok _ _ _ 10 146 from ⟨_, rfl, rfl, w_1_2, w_1_134, (Or.inl ⟨P_sg 2 rfl, w_1_135, (Or.inl w_1_133)⟩)⟩) (P_all_nil)))) <|
  P_all_cons (P_lnk_vi (P_vall (l := P_v19) rfl (P_all_cons (show P_vok _ _ _ 10 146 from ⟨_, rfl, rfl, w_1_2, w_1_134, (Or.inl ⟨P_sg 2 rfl, w_1_135, (Or.inl w_1_133)⟩)⟩) (P_all_nil)))) <|
  P_all_cons (P_lnk_vi (P_vall (l := P_v19) rfl (P_all_cons (show P_vok _ _ _ 10 146 from ⟨_, rfl, rfl, w_1_2, w_1_134, (Or.inl ⟨P_sg 2 rfl, w_1_135, (Or.inl w_1_133)⟩)⟩) (P_all_nil)))) <|
  P_all_cons (P_lnk_vi (P_vall (l := P_v6) rfl (P_all_cons (show P_vok _ _ _ 10 145 from ⟨_, rfl, rfl, w_1_2, w_1_31, (Or.inl ⟨P_sg 1 rfl, w_1_32, (Or.inl w_1_30)⟩)⟩) (P_all_nil)))) <|
  P_all_cons (P_lnk_vi (P_vall (l := P_v19) rfl (P_all_cons (show P_vok _ _ _ 10 146 from ⟨_, rfl, rfl, w_1_2, w_1_134, (Or.inl ⟨P_sg 2 rfl, w_1_135, (Or.inl w_1_133)⟩)⟩) (P_all_nil)))) <|
  P_all_cons (P_lnk_vi (P_vall (l := P_v19) rfl (P_all_cons (show P_vok _ _ _ 10 146 from ⟨_, rfl, rfl, w_1_2, w_1_134, (Or.inl ⟨P_sg 2 rfl, w_1_135, (Or.inl w_1_133)⟩)⟩) (P_all_nil)))) <|
  P_all_cons (P_lnk_vi (P_vall (l := P_v6) rfl (P_all_cons (show P_vok _ _ _ 10 145 from ⟨_, rfl, rfl, w_1_2, w_1_31, (Or.inl ⟨P_sg 1 rfl, w_1_32, (Or.inl w_1_30)⟩)⟩) (P_all_nil)))) <|
  P_all_cons (P_lnk_vi (P_vall (l := P_v20) rfl (P_all_cons (show P_vok _ _ _ 10 151 from ⟨_, rfl, rfl, w_1_2, w_2_2, (Or.inl ⟨P_sg 1 rfl, w_2_3, (Or.inl w_2_1)⟩)⟩) (P_all_nil)))) <|
  P_all_cons (P_lnk_get (P_s1 (c := 11) (P := fun ci => P_fok P_cl P_Tb "OrchardQueryLaw" 104 ci 10) rfl ⟨_, _, _, "OrchardQueryLaw$Grove", rfl, by decide, (Or.inl rfl), (Or.inl w_4_214)⟩)) <|
  P_all_cons (P_lnk_get (P_s1 (c := 11) (P := fun ci => P_fok P_cl P_Tb "OrchardQueryLaw" 104 ci 10) rfl ⟨_, _, _, "OrchardQueryLaw$Grove", rfl, by decide, (Or.inl rfl), (Or.inl w_4_214)⟩)) <|
  P_all_cons (P_lnk_vi (P_vall (l := P_v21) rfl (P_all_cons (show P_vok _ _ _ 11 205 from ⟨_, rfl, rfl, w_1_1, w_6_176, (Or.inl ⟨P_sg 0 rfl, w_6_177, (Or.inl w_6_175)⟩)⟩) (P_all_nil)))) <|
  P_all_cons (P_lnk_get (P_s1 (c := 11) (P := fun ci => P_fok P_cl P_Tb "OrchardQueryLaw" 104 ci 10) rfl ⟨_, _, _, "OrchardQueryLaw$Grove", rfl, by decide, (Or.inl rfl), (Or.inl w_4_214)⟩)) <|
  P_all_cons (P_lnk_ldd w_6_180) <|
  P_all_cons (P_lnk_vi (P_vall (l := P_v21) rfl (P_all_cons (show P_vok _ _ _ 11 205 from ⟨_, rfl, rfl, w_1_1, w_6_176, (Or.inl ⟨P_sg 0 rfl, w_6_177, (Or.inl w_6_175)⟩)⟩) (P_all_nil)))) <|
  P_all_cons (P_lnk_vi (P_vall (l := P_v22) rfl (P_all_cons (show P_vok _ _ _ 10 152 from ⟨_, rfl, rfl, w_1_2, w_2_28, (Or.inl ⟨P_sg 0 rfl, w_2_29, (Or.inl w_2_27)⟩)⟩) (P_all_nil)))) <|
  P_all_cons (P_lnk_vi (P_vall (l := P_v23) rfl (P_all_cons (show P_vok _ _ _ 10 144 from ⟨_, rfl, rfl, w_1_2, w_1_23, (Or.inl ⟨P_sg 0 rfl, w_1_24, (Or.inl w_1_22)⟩)⟩) (P_all_nil)))) <|
  P_all_cons (P_lnk_get (P_s1 (c := 11) (P := fun ci => P_fok P_cl P_Tb "OrchardQueryLaw" 76 ci 6) rfl ⟨_, _, _, "OrchardQueryLaw$Grove", rfl, by decide, (Or.inl rfl), (Or.inl w_4_206)⟩)) <|
  P_all_cons (P_lnk_get (P_s1 (c := 11) (P := fun ci => P_fok P_cl P_Tb "OrchardQueryLaw" 76 ci 6) rfl ⟨_, _, _, "OrchardQueryLaw$Grove", rfl, by decide, (Or.inl rfl), (Or.inl w_4_206)⟩)) <|
  P_all_cons (P_lnk_sj ⟨by decide, by decide⟩ ⟨(fun q => absurd q (by decide)), fun _ => ⟨w_6_179, w_3_5, w_1_21, w_3_6⟩⟩) <|
  P_all_cons (P_lnk_get (P_s1 (c := 11) (P := fun ci => P_fok P_cl P_Tb "OrchardQueryLaw" 76 ci 6) rfl ⟨_, _, _, "OrchardQueryLaw$Grove", rfl, by decide, (Or.inl rfl), (Or.inl w_4_206)⟩)) <|
  P_all_cons (P_lnk_get (P_s1 (c := 11) (P := fun ci => P_fok P_cl P_Tb "OrchardQueryLaw" 122 ci 9) rfl ⟨_, _, _, "OrchardQueryLaw$Grove", rfl, by decide, (Or.inl rfl), (Or.inl w_4_212)⟩)) <|
  P_all_cons (P_lnk_vi (P_vall (l := P_v15) rfl (P_all_cons (show P_vok _ _ _ 10 159 from ⟨_, rfl, rfl, w_1_2, w_3_55, (Or.inl ⟨P_sg 2 rfl, w_3_56, (Or.inl w_3_54)⟩)⟩) (P_all_nil)))) <|
  P_all_cons (P_lnk_vi (P_vall (l := P_v15) rfl (P_all_cons (show P_vok _ _ _ 10 159 from ⟨_, rfl, rfl, w_1_2, w_3_55, (Or.inl ⟨P_sg 2 rfl, w_3_56, (Or.inl w_3_54)⟩)⟩) (P_all_nil)))) <|
  P_all_cons (P_lnk_vi (P_vall (l := P_v15) rfl (P_all_cons (show P_vok _ _ _ 10 159 from ⟨_, rfl, rfl, w_1_2, w_3_55, (Or.inl ⟨P_sg 2 rfl, w_3_56, (Or.inl w_3_54)⟩)⟩) (P_all_nil)))) <|
  P_all_cons (P_lnk_get (P_s1 (c := 11) (P := fun ci => P_fok P_cl P_Tb "OrchardQueryLaw" 125 ci 8) rfl ⟨_, _, _, "OrchardQueryLaw$Grove", rfl, by decide, (Or.inl rfl), (Or.inl w_4_210)⟩)) <|
  P_all_cons (P_lnk_vi (P_vall (l := P_v15) rfl (P_all_cons (show P_vok _ _ _ 10 159 from ⟨_, rfl, rfl, w_1_2, w_3_55, (Or.inl ⟨P_sg 2 rfl, w_3_56, (Or.inl w_3_54)⟩)⟩) (P_all_nil)))) <|
  P_all_cons (P_lnk_get (P_s1 (c := 11) (P := fun ci => P_fok P_cl P_Tb "OrchardQueryLaw" 104 ci 10) rfl ⟨_, _, _, "OrchardQueryLaw$Grove", rfl, by decide, (Or.inl rfl), (Or.inl w_4_214)⟩)) <|
  P_all_cons (P_lnk_ldd w_6_180) <|
  P_all_cons (P_lnk_vi (P_vall (l := P_v10) rfl (P_all_cons (show P_vok _ _ _ 10 163 from ⟨_, rfl, rfl, w_1_2, w_3_90, (Or.inl ⟨P_sg 0 rfl, w_3_91, (Or.inl w_3_89)⟩)⟩) (P_all_nil)))) <|
  P_all_cons (P_lnk_vi (P_vall (l := P_v11) rfl (P_all_cons (show P_vok _ _ _ 10 157 from ⟨_, rfl, rfl, w_1_2, w_3_41, (Or.inl ⟨P_sg 1 rfl, w_3_42, (Or.inl w_3_40)⟩)⟩) (P_all_nil)))) <|
  P_all_cons (P_lnk_vi (P_vall (l := P_v9) rfl (P_all_cons (show P_vok _ _ _ 10 155 from ⟨_, rfl, rfl, w_1_2, w_2_56, (Or.inl ⟨P_sg 0 rfl, w_2_57, (Or.inl w_2_55)⟩)⟩) (P_all_nil)))) <|
  P_all_cons (P_lnk_get (P_s1 (c := 11) (P := fun ci => P_fok P_cl P_Tb "OrchardQueryLaw" 76 ci 6) rfl ⟨_, _, _, "OrchardQueryLaw$Grove", rfl, by decide, (Or.inl rfl), (Or.inl w_4_206)⟩)) <|
  P_all_cons (P_lnk_vi (P_vall (l := P_v14) rfl (P_all_cons (show P_vok _ _ _ 10 156 from ⟨_, rfl, rfl, w_1_2, w_3_26, (Or.inl ⟨P_sg 1 rfl, w_3_27, (Or.inl w_3_25)⟩)⟩) (P_all_nil)))) <|
  P_all_cons (P_lnk_vi (P_vall (l := P_v15) rfl (P_all_cons (show P_vok _ _ _ 10 159 from ⟨_, rfl, rfl, w_1_2, w_3_55, (Or.inl ⟨P_sg 2 rfl, w_3_56, (Or.inl w_3_54)⟩)⟩) (P_all_nil)))) <|
  P_all_cons (P_lnk_vi (P_vall (l := P_v11) rfl (P_all_cons (show P_vok _ _ _ 10 157 from ⟨_, rfl, rfl, w_1_2, w_3_41, (Or.inl ⟨P_sg 1 rfl, w_3_42, (Or.inl w_3_40)⟩)⟩) (P_all_nil)))) <|
  P_all_cons (P_lnk_vi (P_vall (l := P_v11) rfl (P_all_cons (show P_vok _ _ _ 10 157 from ⟨_, rfl, rfl, w_1_2, w_3_41, (Or.inl ⟨P_sg 1 rfl, w_3_42, (Or.inl w_3_40)⟩)⟩) (P_all_nil)))) <|
  P_all_cons (P_lnk_vi (P_vall (l := P_v16) rfl (P_all_cons (show P_vok _ _ _ 10 160 from ⟨_, rfl, rfl, w_1_2, w_3_60, (Or.inl ⟨P_sg 1 rfl, w_3_61, (Or.inl w_3_59)⟩)⟩) (P_all_nil)))) <|
  P_all_cons (P_lnk_vi (P_vall (l := P_v11) rfl (P_all_cons (show P_vok _ _ _ 10 157 from ⟨_, rfl, rfl, w_1_2, w_3_41, (Or.inl ⟨P_sg 1 rfl, w_3_42, (Or.inl w_3_40)⟩)⟩) (P_all_nil)))) <|
  P_all_cons (P_lnk_vi (P_vall (l := P_v16) rfl (P_all_cons (show P_vok _ _ _ 10 160 from ⟨_, rfl, rfl, w_1_2, w_3_60, (Or.inl ⟨P_sg 1 rfl, w_3_61, (Or.inl w_3_59)⟩)⟩) (P_all_nil)))) <|
  P_all_nil
set_option maxRecDepth 20000 in
theorem P_m0 : P_mstC 0 18 (some .boolean) P_e0 [] := P_meth (mx := 18) (rt := (some .boolean)) (hs := []) "OrchardQueryLaw" false code [] rfl rfl rfl rfl (by decide +kernel) (by decide +kernel) (fun q => absurd rfl q) (by decide) (fun _ _ => by decide +kernel) (fun q => by cases q) (P_all_cons (by decide +kernel) <| P_all_cons (by decide +kernel) <| P_all_cons (by decide +kernel) <| P_all_cons (by decide +kernel) <| P_all_cons (by decide +kernel) <| P_all_cons (by decide +kernel) <| P_all_cons (by decide +kernel) <| P_all_cons (by decide +kernel) <| P_all_cons (by decide +kernel) <| P_all_cons (by decide +kernel) <| P_all_cons (by decide +kernel) <| P_all_cons (by decide +kernel) <| P_all_cons (by decide +kernel) <| P_all_cons (by decide +kernel) <| P_all_cons (by decide +kernel) <| P_all_cons (by decide +kernel) <| P_all_cons (by decide +kernel) <| P_all_cons (by decide +kernel) <| P_all_cons (by decide +kernel) <| P_all_cons (by decide +kernel) <| P_all_cons (by decide +kernel) <| P_all_cons (by decide +kernel) <| P_all_cons (by decide +kernel) <| P_all_cons (by decide +kernel) <| P_all_cons (by decide +kernel) <| P_all_cons (by decide +kernel) <| P_all_cons (by decide +kernel) <| P_all_cons (by decide +kernel) <| P_all_nil) P_l0 (by decide +kernel) P_k0 (fun _ _ => P_hok_nil)
/-- OrchardQuery$Answer.<init>(LOrchardQuery$Form;LOrchardQuery$Plan;)V -/
def P_l1 : List (Nat × P_I) := [(3, .invokespecial 3, 6, 2, 128, [], []), (7, .new 9, 10, 0, 4, [], []), (12, .invokespecial 11, 15, 1, 44, [], []), (15, .putfield 14, 18, 0, 8, [], []), (22, .newarray .int, 24, 0, 0, [], []), (24, .putfield 20, 27, 0, 9, [], []), (31, .newarray .int, 33, 0, 0, [], []), (33, .putfield 24, 36, 0, 10, [], []), (40, .newarray .int, 42, 0, 0, [], []), (42, .putfield 27, 45, 0, 11, [], []), (49, .newarray .int, 51, 0, 0, [], []), (51, .putfield 30, 54, 0, 12, [], []), (58, .newarray .int, 60, 0, 0, [], []), (60, .putfield 33, 63, 0, 13, [], [])]
set_option maxRecDepth 20000 in
theorem P_k1 : ∀ q ∈ P_l1, P_lnk P_cl P_aty P_stat P_tx P_N0 P_Tb P_Y0 "OrchardQuery$Answer" true prog_2_method_1_code [] q.1 q.2.1 q.2.2.2.1 q.2.2.2.2.1 :=
  P_all_cons (P_lnk_sp (by decide) (fun _ => ⟨P_sg 2 rfl, w_1_9, w_4_59, rfl, rfl, (Or.inl w_4_58)⟩)) <|
  P_all_cons (P_lnk_new (by decide) rfl w_4_62 w_4_63 w_1_11) <|
  P_all_cons (P_lnk_sp (by decide) (fun _ => ⟨P_sg 1 rfl, w_1_11, w_4_65, rfl, rfl, (Or.inl w_4_64)⟩)) <|
  P_all_cons (P_lnk_put (P_s1 (c := 0) (P := fun ci => P_pok P_cl P_Tb "OrchardQuery$Answer" true 14 ci 8) rfl ⟨_, _, _, "OrchardQuery$Answer", rfl, by decide, (Or.inl rfl), (Or.inl ⟨w_4_81, (Or.inr ⟨rfl, rfl, rfl⟩)⟩)⟩)) <|
  P_all_cons (P_lnk_nwa rfl w_3_158) <|
  P_all_cons (P_lnk_put (P_s1 (c := 0) (P := fun ci => P_pok P_cl P_Tb "OrchardQuery$Answer" true 20 ci 9) rfl ⟨_, _, _, "OrchardQuery$Answer", rfl, by decide, (Or.inl rfl), (Or.inl ⟨w_4_82, (Or.inr ⟨rfl, rfl, rfl⟩)⟩)⟩)) <|
  P_all_cons (P_lnk_nwa rfl w_3_158) <|
  P_all_cons (P_lnk_put (P_s1 (c := 0) (P := fun ci => P_pok P_cl P_Tb "OrchardQuery$Answer" true 24 ci 10) rfl ⟨_, _, _, "OrchardQuery$Answer", rfl, by decide, (Or.inl rfl), (Or.inl ⟨w_4_83, (Or.inr ⟨rfl, rfl, rfl⟩)⟩)⟩)) <|
  P_all_cons (P_lnk_nwa rfl w_3_158) <|
  P_all_cons (P_lnk_put (P_s1 (c := 0) (P := fun ci => P_pok P_cl P_Tb "OrchardQuery$Answer" true 27 ci 11) rfl ⟨_, _, _, "OrchardQuery$Answer", rfl, by decide, (Or.inl rfl), (Or.inl ⟨w_4_84, (Or.inr ⟨rfl, rfl, rfl⟩)⟩)⟩)) <|
  P_all_cons (P_lnk_nwa rfl w_3_158) <|
  P_all_cons (P_lnk_put (P_s1 (c := 0) (P := fun ci => P_pok P_cl P_Tb "OrchardQuery$Answer" true 30 ci 12) rfl ⟨_, _, _, "OrchardQuery$Answer", rfl, by decide, (Or.inl rfl), (Or.inl ⟨w_4_85, (Or.inr ⟨rfl, rfl, rfl⟩)⟩)⟩)) <|
  P_all_cons (P_lnk_nwa rfl w_3_158) <|
  P_all_cons (P_lnk_put (P_s1 (c := 0) (P := fun ci => P_pok P_cl P_Tb "OrchardQuery$Answer" true 33 ci 13) rfl ⟨_, _, _, "OrchardQuery$Answer", rfl, by decide, (Or.inl rfl), (Or.inl ⟨w_4_86, (Or.inr ⟨rfl, rfl, rfl⟩)⟩)⟩)) <|
  P_all_nil
set_option maxRecDepth 20000 in
theorem P_m1 : P_mstC 1 3 (Option.none : Option Jvm.ClassFile.FieldType) P_e1 [] := P_meth (mx := 3) (rt := (Option.none : Option Jvm.ClassFile.FieldType)) (hs := []) "OrchardQuery$Answer" true prog_2_method_1_code [] rfl rfl rfl rfl (by decide +kernel) (by decide +kernel) (fun _ => P_g1) (by decide) (fun t q => by cases q) (fun _ => rfl) (P_all_cons (by decide +kernel) <| P_all_cons (by decide +kernel) <| P_all_nil) P_l1 (by decide +kernel) P_k1 (fun _ _ => P_hok_nil)
/-- OrchardQuery$Answer.forget()V -/
def P_l2 : List (Nat × P_I) := [(2, .putfield 36, 5, 0, 16, [], [])]
set_option maxRecDepth 20000 in
theorem P_k2 : ∀ q ∈ P_l2, P_lnk P_cl P_aty P_stat P_tx P_N0 P_Tb P_Y0 "OrchardQuery$Answer" false prog_2_method_2_code [] q.1 q.2.1 q.2.2.2.1 q.2.2.2.2.1 :=
  P_all_cons (P_lnk_put (P_s1 (c := 0) (P := fun ci => P_pok P_cl P_Tb "OrchardQuery$Answer" false 36 ci 16) rfl ⟨_, _, _, "OrchardQuery$Answer", rfl, by decide, (Or.inl rfl), (Or.inl ⟨w_4_89, (Or.inl rfl)⟩)⟩)) <|
  P_all_nil
set_option maxRecDepth 20000 in
theorem P_m2 : P_mstC 2 1 (Option.none : Option Jvm.ClassFile.FieldType) P_e2 [] := P_meth (mx := 1) (rt := (Option.none : Option Jvm.ClassFile.FieldType)) (hs := []) "OrchardQuery$Answer" false prog_2_method_2_code [] rfl rfl rfl rfl (by decide +kernel) (by decide +kernel) (fun _ => P_g2) (by decide) (fun _ _ => by decide +kernel) (fun q => by cases q) (P_all_cons (by decide +kernel) <| P_all_nil) P_l2 (by decide +kernel) P_k2 (fun _ _ => P_hok_nil)
/-- OrchardQuery$Answer.bringUpToDate()V -/
def P_l3 : List (Nat × P_I) := [(1, .getfield 36, 4, 0, 16, [], []), (10, .putfield 40, 13, 0, 14, [], []), (14, .getfield 14, 17, 0, 8, [], []), (17, .invokevirtual 44, 20, 0, 24, [], []), (23, .getfield 48, 26, 0, 1, [], []), (26, .invokevirtual 52, 29, 0, 25, [], []), (37, .invokevirtual 58, 40, 0, 26, [], []), (40, .invokevirtual 62, 43, 2, 27, [], []), (44, .getfield 66, 47, 0, 0, [], []), (47, .invokevirtual 70, 50, 0, 28, [], []), (54, .invokevirtual 75, 57, 0, 29, [], []), (58, .getfield 66, 61, 0, 0, [], []), (61, .invokevirtual 78, 64, 0, 30, [], []), (70, .getfield 66, 73, 0, 0, [], []), (73, .invokevirtual 78, 76, 0, 30, [], []), (76, .invokevirtual 81, 79, 1, 31, [], []), (81, .getfield 40, 84, 0, 14, [], []), (85, .getfield 66, 88, 0, 0, [], []), (88, .invokevirtual 85, 91, 0, 32, [], []), (91, .invokestatic 88, 94, 2, 9002, [], []), (94, .putfield 94, 97, 0, 15, [], []), (99, .putfield 36, 102, 0, 16, [], [])]
set_option maxRecDepth 20000 in
theorem P_k3 : ∀ q ∈ P_l3, P_lnk P_cl P_aty P_stat P_tx P_N0 P_Tb P_Y0 "OrchardQuery$Answer" false prog_2_method_3_code [] q.1 q.2.1 q.2.2.2.1 q.2.2.2.2.1 :=
  P_all_cons (P_lnk_get (P_s1 (c := 0) (P := fun ci => P_fok P_cl P_Tb "OrchardQuery$Answer" 36 ci 16) rfl ⟨_, _, _, "OrchardQuery$Answer", rfl, by decide, (Or.inl rfl), (Or.inl w_4_89)⟩)) <|
  P_all_cons (P_lnk_put (P_s1 (c := 0) (P := fun ci => P_pok P_cl P_Tb "OrchardQuery$Answer" false 40 ci 14) rfl ⟨_, _, _, "OrchardQuery$Answer", rfl, by decide, (Or.inl rfl), (Or.inl ⟨w_4_87, (Or.inl rfl)⟩)⟩)) <|
  P_all_cons (P_lnk_get (P_s1 (c := 0) (P := fun ci => P_fok P_cl P_Tb "OrchardQuery$Answer" 14 ci 8) rfl ⟨_, _, _, "OrchardQuery$Answer", rfl, by decide, (Or.inl rfl), (Or.inl w_4_81)⟩)) <|
  P_all_cons (P_lnk_vi (P_vall (l := P_v24) rfl (P_all_cons (show P_vok _ _ _ 4 45 from ⟨_, rfl, rfl, w_1_11, w_2_69, (Or.inl ⟨P_sg 0 rfl, w_2_70, (Or.inl w_2_68)⟩)⟩) (P_all_nil)))) <|
  P_all_cons (P_lnk_get (P_s1 (c := 0) (P := fun ci => P_fok P_cl P_Tb "OrchardQuery$Answer" 48 ci 1) rfl ⟨_, _, _, "OrchardQuery$Answer", rfl, by decide, (Or.inr w_4_95), (Or.inl w_4_94)⟩)) <|
  P_all_cons (P_lnk_vi (P_vall (l := P_v25) rfl (P_all_cons (show P_vok _ _ _ 5 57 from ⟨_, rfl, rfl, w_1_6, w_2_40, (Or.inl ⟨P_sg 0 rfl, w_2_41, (Or.inl w_2_75)⟩)⟩) (P_all_nil)))) <|
  P_all_cons (P_lnk_vi (P_vall (l := P_v26) rfl (P_all_cons (show P_vok _ _ _ 0 4 from ⟨_, rfl, rfl, w_1_10, w_2_78, (Or.inl ⟨P_sg 0 rfl, w_p_8, (Or.inl w_2_76)⟩)⟩) (P_all_nil)))) <|
  P_all_cons (P_lnk_vi (P_vall (l := P_v27) rfl (P_all_cons (show P_vok _ _ _ 0 133 from ⟨_, rfl, rfl, w_1_9, w_2_103, (Or.inr ⟨⟨"OrchardQuery$Answer", "walk", "(II)V"⟩, "OrchardQuery$Walk", P_sg 2 rfl, by decide, w_2_99, w_2_100, w_2_102, (Or.inl ⟨w_2_103, _, _, _, w_2_104⟩)⟩)⟩) (P_all_nil)))) <|
  P_all_cons (P_lnk_get (P_s1 (c := 0) (P := fun ci => P_fok P_cl P_Tb "OrchardQuery$Answer" 66 ci 0) rfl ⟨_, _, _, "OrchardQuery$Answer", rfl, by decide, (Or.inr w_4_92), (Or.inl w_4_91)⟩)) <|
  P_all_cons (P_lnk_vi (P_vall (l := P_v28) rfl (P_all_cons (show P_vok _ _ _ 3 42 from ⟨_, rfl, rfl, w_1_5, w_2_86, (Or.inl ⟨P_sg 0 rfl, w_2_87, (Or.inl w_2_143)⟩)⟩) (P_all_nil)))) <|
  P_all_cons (P_lnk_vi (P_vall (l := P_v29) rfl (P_all_cons (show P_vok _ _ _ 0 10 from ⟨_, rfl, rfl, w_1_10, w_2_204, (Or.inl ⟨P_sg 0 rfl, w_p_9, (Or.inl w_2_202)⟩)⟩) (P_all_nil)))) <|
  P_all_cons (P_lnk_get (P_s1 (c := 0) (P := fun ci => P_fok P_cl P_Tb "OrchardQuery$Answer" 66 ci 0) rfl ⟨_, _, _, "OrchardQuery$Answer", rfl, by decide, (Or.inr w_4_92), (Or.inl w_4_91)⟩)) <|
  P_all_cons (P_lnk_vi (P_vall (l := P_v30) rfl (P_all_cons (show P_vok _ _ _ 3 32 from ⟨_, rfl, rfl, w_1_5, w_2_226, (Or.inl ⟨P_sg 0 rfl, w_2_227, (Or.inl w_2_225)⟩)⟩) (P_all_nil)))) <|
  P_all_cons (P_lnk_get (P_s1 (c := 0) (P := fun ci => P_fok P_cl P_Tb "OrchardQuery$Answer" 66 ci 0) rfl ⟨_, _, _, "OrchardQuery$Answer", rfl, by decide, (Or.inr w_4_92), (Or.inl w_4_91)⟩)) <|
  P_all_cons (P_lnk_vi (P_vall (l := P_v30) rfl (P_all_cons (show P_vok _ _ _ 3 32 from ⟨_, rfl, rfl, w_1_5, w_2_226, (Or.inl ⟨P_sg 0 rfl, w_2_227, (Or.inl w_2_225)⟩)⟩) (P_all_nil)))) <|
  P_all_cons (P_lnk_vi (P_vall (l := P_v31) rfl (P_all_cons (show P_vok _ _ _ 0 11 from ⟨_, rfl, rfl, w_1_10, w_2_231, (Or.inl ⟨P_sg 1 rfl, w_p_12, (Or.inl w_2_229)⟩)⟩) (P_all_nil)))) <|
  P_all_cons (P_lnk_get (P_s1 (c := 0) (P := fun ci => P_fok P_cl P_Tb "OrchardQuery$Answer" 40 ci 14) rfl ⟨_, _, _, "OrchardQuery$Answer", rfl, by decide, (Or.inl rfl), (Or.inl w_4_87)⟩)) <|
  P_all_cons (P_lnk_get (P_s1 (c := 0) (P := fun ci => P_fok P_cl P_Tb "OrchardQuery$Answer" 66 ci 0) rfl ⟨_, _, _, "OrchardQuery$Answer", rfl, by decide, (Or.inr w_4_92), (Or.inl w_4_91)⟩)) <|
  P_all_cons (P_lnk_vi (P_vall (l := P_v32) rfl (P_all_cons (show P_vok _ _ _ 3 33 from ⟨_, rfl, rfl, w_1_5, w_2_95, (Or.inl ⟨P_sg 0 rfl, w_2_96, (Or.inl w_2_94)⟩)⟩) (P_all_nil)))) <|
  P_all_cons (P_lnk_sj ⟨by decide, by decide⟩ ⟨(fun q => absurd q (by decide)), fun _ => ⟨w_3_4, w_3_5, w_1_21, w_3_6⟩⟩) <|
  P_all_cons (P_lnk_put (P_s1 (c := 0) (P := fun ci => P_pok P_cl P_Tb "OrchardQuery$Answer" false 94 ci 15) rfl ⟨_, _, _, "OrchardQuery$Answer", rfl, by decide, (Or.inl rfl), (Or.inl ⟨w_4_88, (Or.inl rfl)⟩)⟩)) <|
  P_all_cons (P_lnk_put (P_s1 (c := 0) (P := fun ci => P_pok P_cl P_Tb "OrchardQuery$Answer" false 36 ci 16) rfl ⟨_, _, _, "OrchardQuery$Answer", rfl, by decide, (Or.inl rfl), (Or.inl ⟨w_4_89, (Or.inl rfl)⟩)⟩)) <|
  P_all_nil
set_option maxRecDepth 20000 in
theorem P_m3 : P_mstC 3 1 (Option.none : Option Jvm.ClassFile.FieldType) P_e3 [] := P_meth (mx := 1) (rt := (Option.none : Option Jvm.ClassFile.FieldType)) (hs := []) "OrchardQuery$Answer" false prog_2_method_3_code [] rfl rfl rfl rfl (by decide +kernel) (by decide +kernel) (fun _ => P_g3) (by decide) (fun _ _ => by decide +kernel) (fun q => by cases q) (P_all_cons (by decide +kernel) <| P_all_cons (by decide +kernel) <| P_all_cons (by decide +kernel) <| P_all_cons (by decide +kernel) <| P_all_nil) P_l3 (by decide +kernel) P_k3 (fun _ _ => P_hok_nil)
/-- OrchardQuery$Answer.mostNeeded()I -/
def P_l4 : List (Nat × P_I) := [(1, .getfield 66, 4, 0, 0, [], []), (4, .invokevirtual 97, 7, 0, 33, [], []), (11, .getfield 66, 14, 0, 0, [], []), (14, .invokevirtual 85, 17, 0, 32, [], []), (21, .getfield 66, 24, 0, 0, [], []), (24, .invokevirtual 85, 27, 0, 32, [], []), (30, .ldc 100, 32, 1000000000, 0, [], [])]
set_option maxRecDepth 20000 in
theorem P_k4 : ∀ q ∈ P_l4, P_lnk P_cl P_aty P_stat P_tx P_N0 P_Tb P_Y0 "OrchardQuery$Answer" false prog_2_method_4_code [] q.1 q.2.1 q.2.2.2.1 q.2.2.2.2.1 :=
  P_all_cons (P_lnk_get (P_s1 (c := 0) (P := fun ci => P_fok P_cl P_Tb "OrchardQuery$Answer" 66 ci 0) rfl ⟨_, _, _, "OrchardQuery$Answer", rfl, by decide, (Or.inr w_4_92), (Or.inl w_4_91)⟩)) <|
  P_all_cons (P_lnk_vi (P_vall (l := P_v33) rfl (P_all_cons (show P_vok _ _ _ 3 43 from ⟨_, rfl, rfl, w_1_5, w_2_82, (Or.inl ⟨P_sg 0 rfl, w_2_83, (Or.inl w_2_81)⟩)⟩) (P_all_nil)))) <|
  P_all_cons (P_lnk_get (P_s1 (c := 0) (P := fun ci => P_fok P_cl P_Tb "OrchardQuery$Answer" 66 ci 0) rfl ⟨_, _, _, "OrchardQuery$Answer", rfl, by decide, (Or.inr w_4_92), (Or.inl w_4_91)⟩)) <|
  P_all_cons (P_lnk_vi (P_vall (l := P_v32) rfl (P_all_cons (show P_vok _ _ _ 3 33 from ⟨_, rfl, rfl, w_1_5, w_2_95, (Or.inl ⟨P_sg 0 rfl, w_2_96, (Or.inl w_2_94)⟩)⟩) (P_all_nil)))) <|
  P_all_cons (P_lnk_get (P_s1 (c := 0) (P := fun ci => P_fok P_cl P_Tb "OrchardQuery$Answer" 66 ci 0) rfl ⟨_, _, _, "OrchardQuery$Answer", rfl, by decide, (Or.inr w_4_92), (Or.inl w_4_91)⟩)) <|
  P_all_cons (P_lnk_vi (P_vall (l := P_v32) rfl (P_all_cons (show P_vok _ _ _ 3 33 from ⟨_, rfl, rfl, w_1_5, w_2_95, (Or.inl ⟨P_sg 0 rfl, w_2_96, (Or.inl w_2_94)⟩)⟩) (P_all_nil)))) <|
  P_all_cons (P_lnk_ldc w_2_98) <|
  P_all_nil
set_option maxRecDepth 20000 in
theorem P_m4 : P_mstC 4 1 (Option.some Jvm.ClassFile.FieldType.int) P_e4 [] := P_meth (mx := 1) (rt := (Option.some Jvm.ClassFile.FieldType.int)) (hs := []) "OrchardQuery$Answer" false prog_2_method_4_code [] rfl rfl rfl rfl (by decide +kernel) (by decide +kernel) (fun _ => P_g4) (by decide) (fun _ _ => by decide +kernel) (fun q => by cases q) (P_all_cons (by decide +kernel) <| P_all_cons (by decide +kernel) <| P_all_nil) P_l4 (by decide +kernel) P_k4 (fun _ _ => P_hok_nil)
/-- OrchardQuery$Answer.resultCount()I -/
def P_l5 : List (Nat × P_I) := [(1, .getfield 94, 4, 0, 15, [], [])]
set_option maxRecDepth 20000 in
theorem P_k5 : ∀ q ∈ P_l5, P_lnk P_cl P_aty P_stat P_tx P_N0 P_Tb P_Y0 "OrchardQuery$Answer" false prog_2_method_5_code [] q.1 q.2.1 q.2.2.2.1 q.2.2.2.2.1 :=
  P_all_cons (P_lnk_get (P_s1 (c := 0) (P := fun ci => P_fok P_cl P_Tb "OrchardQuery$Answer" 94 ci 15) rfl ⟨_, _, _, "OrchardQuery$Answer", rfl, by decide, (Or.inl rfl), (Or.inl w_4_88)⟩)) <|
  P_all_nil
set_option maxRecDepth 20000 in
theorem P_m5 : P_mstC 5 1 (Option.some Jvm.ClassFile.FieldType.int) P_e5 [] := P_meth (mx := 1) (rt := (Option.some Jvm.ClassFile.FieldType.int)) (hs := []) "OrchardQuery$Answer" false prog_2_method_5_code [] rfl rfl rfl rfl (by decide +kernel) (by decide +kernel) (fun _ => P_g5) (by decide) (fun _ _ => by decide +kernel) (fun q => by cases q) (P_all_cons (by decide +kernel) <| P_all_nil) P_l5 (by decide +kernel) P_k5 (fun _ _ => P_hok_nil)
/-- OrchardQuery$Answer.readsFor(I)I -/
def P_l6 : List (Nat × P_I) := [(1, .getfield 66, 4, 0, 0, [], []), (4, .invokevirtual 97, 7, 0, 33, [], []), (11, .getfield 24, 14, 0, 10, [], []), (17, .invokestatic 101, 20, 2, 178, [], []), (24, .invokevirtual 105, 27, 0, 34, [], [])]
set_option maxRecDepth 20000 in
theorem P_k6 : ∀ q ∈ P_l6, P_lnk P_cl P_aty P_stat P_tx P_N0 P_Tb P_Y0 "OrchardQuery$Answer" false prog_2_method_6_code [] q.1 q.2.1 q.2.2.2.1 q.2.2.2.2.1 :=
  P_all_cons (P_lnk_get (P_s1 (c := 0) (P := fun ci => P_fok P_cl P_Tb "OrchardQuery$Answer" 66 ci 0) rfl ⟨_, _, _, "OrchardQuery$Answer", rfl, by decide, (Or.inr w_4_92), (Or.inl w_4_91)⟩)) <|
  P_all_cons (P_lnk_vi (P_vall (l := P_v33) rfl (P_all_cons (show P_vok _ _ _ 3 43 from ⟨_, rfl, rfl, w_1_5, w_2_82, (Or.inl ⟨P_sg 0 rfl, w_2_83, (Or.inl w_2_81)⟩)⟩) (P_all_nil)))) <|
  P_all_cons (P_lnk_get (P_s1 (c := 0) (P := fun ci => P_fok P_cl P_Tb "OrchardQuery$Answer" 24 ci 10) rfl ⟨_, _, _, "OrchardQuery$Answer", rfl, by decide, (Or.inl rfl), (Or.inl w_4_83)⟩)) <|
  P_all_cons (P_lnk_st (by decide) (fun _ => ⟨P_sg 2 rfl, w_1_2, w_1_225, (Or.inr ⟨rfl, _, w_2_224⟩)⟩)) <|
  P_all_cons (P_lnk_vi (P_vall (l := P_v34) rfl (P_all_cons (show P_vok _ _ _ 0 129 from ⟨_, rfl, rfl, w_1_9, w_2_191, (Or.inr ⟨⟨"OrchardQuery$Answer", "reads", "()I"⟩, "OrchardQuery$Walk", P_sg 0 rfl, by decide, w_2_187, w_2_188, w_2_190, (Or.inl ⟨w_2_191, _, _, _, w_2_192⟩)⟩)⟩) (P_all_nil)))) <|
  P_all_nil
set_option maxRecDepth 20000 in
theorem P_m6 : P_mstC 6 2 (Option.some Jvm.ClassFile.FieldType.int) P_e6 [] := P_meth (mx := 2) (rt := (Option.some Jvm.ClassFile.FieldType.int)) (hs := []) "OrchardQuery$Answer" false prog_2_method_6_code [] rfl rfl rfl rfl (by decide +kernel) (by decide +kernel) (fun _ => P_g6) (by decide) (fun _ _ => by decide +kernel) (fun q => by cases q) (P_all_cons (by decide +kernel) <| P_all_nil) P_l6 (by decide +kernel) P_k6 (fun _ _ => P_hok_nil)
/-- OrchardQuery$Answer.checksFor(I)I -/
def P_l7 : List (Nat × P_I) := [(1, .getfield 66, 4, 0, 0, [], []), (4, .invokevirtual 97, 7, 0, 33, [], []), (11, .getfield 27, 14, 0, 11, [], []), (17, .invokestatic 101, 20, 2, 178, [], []), (24, .invokevirtual 108, 27, 0, 35, [], [])]
set_option maxRecDepth 20000 in
theorem P_k7 : ∀ q ∈ P_l7, P_lnk P_cl P_aty P_stat P_tx P_N0 P_Tb P_Y0 "OrchardQuery$Answer" false prog_2_method_7_code [] q.1 q.2.1 q.2.2.2.1 q.2.2.2.2.1 :=
  P_all_cons (P_lnk_get (P_s1 (c := 0) (P := fun ci => P_fok P_cl P_Tb "OrchardQuery$Answer" 66 ci 0) rfl ⟨_, _, _, "OrchardQuery$Answer", rfl, by decide, (Or.inr w_4_92), (Or.inl w_4_91)⟩)) <|
  P_all_cons (P_lnk_vi (P_vall (l := P_v33) rfl (P_all_cons (show P_vok _ _ _ 3 43 from ⟨_, rfl, rfl, w_1_5, w_2_82, (Or.inl ⟨P_sg 0 rfl, w_2_83, (Or.inl w_2_81)⟩)⟩) (P_all_nil)))) <|
  P_all_cons (P_lnk_get (P_s1 (c := 0) (P := fun ci => P_fok P_cl P_Tb "OrchardQuery$Answer" 27 ci 11) rfl ⟨_, _, _, "OrchardQuery$Answer", rfl, by decide, (Or.inl rfl), (Or.inl w_4_84)⟩)) <|
  P_all_cons (P_lnk_st (by decide) (fun _ => ⟨P_sg 2 rfl, w_1_2, w_1_225, (Or.inr ⟨rfl, _, w_2_224⟩)⟩)) <|
  P_all_cons (P_lnk_vi (P_vall (l := P_v35) rfl (P_all_cons (show P_vok _ _ _ 0 130 from ⟨_, rfl, rfl, w_1_9, w_2_197, (Or.inr ⟨⟨"OrchardQuery$Answer", "checks", "()I"⟩, "OrchardQuery$Walk", P_sg 0 rfl, by decide, w_2_193, w_2_194, w_2_196, (Or.inl ⟨w_2_197, _, _, _, w_2_198⟩)⟩)⟩) (P_all_nil)))) <|
  P_all_nil
set_option maxRecDepth 20000 in
theorem P_m7 : P_mstC 7 2 (Option.some Jvm.ClassFile.FieldType.int) P_e7 [] := P_meth (mx := 2) (rt := (Option.some Jvm.ClassFile.FieldType.int)) (hs := []) "OrchardQuery$Answer" false prog_2_method_7_code [] rfl rfl rfl rfl (by decide +kernel) (by decide +kernel) (fun _ => P_g7) (by decide) (fun _ _ => by decide +kernel) (fun q => by cases q) (P_all_cons (by decide +kernel) <| P_all_nil) P_l7 (by decide +kernel) P_k7 (fun _ _ => P_hok_nil)
/-- OrchardQuery$Answer.valueOf(II)I -/
def P_l8 : List (Nat × P_I) := [(1, .getfield 20, 4, 0, 9, [], []), (5, .invokestatic 101, 8, 2, 178, [], []), (10, .getfield 66, 13, 0, 0, [], []), (13, .invokevirtual 70, 16, 0, 28, [], []), (20, .getfield 14, 23, 0, 8, [], []), (25, .invokevirtual 111, 28, 2, 36, [], []), (30, .getfield 14, 33, 0, 8, [], []), (35, .getfield 66, 38, 0, 0, [], []), (39, .invokevirtual 114, 42, 1, 37, [], []), (42, .invokevirtual 118, 45, 2, 38, [], [])]
set_option maxRecDepth 20000 in
theorem P_k8 : ∀ q ∈ P_l8, P_lnk P_cl P_aty P_stat P_tx P_N0 P_Tb P_Y0 "OrchardQuery$Answer" false prog_2_method_8_code [] q.1 q.2.1 q.2.2.2.1 q.2.2.2.2.1 :=
  P_all_cons (P_lnk_get (P_s1 (c := 0) (P := fun ci => P_fok P_cl P_Tb "OrchardQuery$Answer" 20 ci 9) rfl ⟨_, _, _, "OrchardQuery$Answer", rfl, by decide, (Or.inl rfl), (Or.inl w_4_82)⟩)) <|
  P_all_cons (P_lnk_st (by decide) (fun _ => ⟨P_sg 2 rfl, w_1_2, w_1_225, (Or.inr ⟨rfl, _, w_2_224⟩)⟩)) <|
  P_all_cons (P_lnk_get (P_s1 (c := 0) (P := fun ci => P_fok P_cl P_Tb "OrchardQuery$Answer" 66 ci 0) rfl ⟨_, _, _, "OrchardQuery$Answer", rfl, by decide, (Or.inr w_4_92), (Or.inl w_4_91)⟩)) <|
  P_all_cons (P_lnk_vi (P_vall (l := P_v28) rfl (P_all_cons (show P_vok _ _ _ 3 42 from ⟨_, rfl, rfl, w_1_5, w_2_86, (Or.inl ⟨P_sg 0 rfl, w_2_87, (Or.inl w_2_143)⟩)⟩) (P_all_nil)))) <|
  P_all_cons (P_lnk_get (P_s1 (c := 0) (P := fun ci => P_fok P_cl P_Tb "OrchardQuery$Answer" 14 ci 8) rfl ⟨_, _, _, "OrchardQuery$Answer", rfl, by decide, (Or.inl rfl), (Or.inl w_4_81)⟩)) <|
  P_all_cons (P_lnk_vi (P_vall (l := P_v36) rfl (P_all_cons (show P_vok _ _ _ 4 50 from ⟨_, rfl, rfl, w_1_11, w_2_238, (Or.inl ⟨P_sg 2 rfl, w_2_239, (Or.inl w_2_237)⟩)⟩) (P_all_nil)))) <|
  P_all_cons (P_lnk_get (P_s1 (c := 0) (P := fun ci => P_fok P_cl P_Tb "OrchardQuery$Answer" 14 ci 8) rfl ⟨_, _, _, "OrchardQuery$Answer", rfl, by decide, (Or.inl rfl), (Or.inl w_4_81)⟩)) <|
  P_all_cons (P_lnk_get (P_s1 (c := 0) (P := fun ci => P_fok P_cl P_Tb "OrchardQuery$Answer" 66 ci 0) rfl ⟨_, _, _, "OrchardQuery$Answer", rfl, by decide, (Or.inr w_4_92), (Or.inl w_4_91)⟩)) <|
  P_all_cons (P_lnk_vi (P_vall (l := P_v37) rfl (P_all_cons (show P_vok _ _ _ 3 35 from ⟨_, rfl, rfl, w_1_5, w_2_178, (Or.inl ⟨P_sg 1 rfl, w_2_179, (Or.inl w_3_2)⟩)⟩) (P_all_nil)))) <|
  P_all_cons (P_lnk_vi (P_vall (l := P_v38) rfl (P_all_cons (show P_vok _ _ _ 4 51 from ⟨_, rfl, rfl, w_1_11, w_2_182, (Or.inl ⟨P_sg 2 rfl, w_2_183, (Or.inl w_3_3)⟩)⟩) (P_all_nil)))) <|
  P_all_nil
set_option maxRecDepth 20000 in
theorem P_m8 : P_mstC 8 4 (Option.some Jvm.ClassFile.FieldType.int) P_e8 [] := P_meth (mx := 4) (rt := (Option.some Jvm.ClassFile.FieldType.int)) (hs := []) "OrchardQuery$Answer" false prog_2_method_8_code [] rfl rfl rfl rfl (by decide +kernel) (by decide +kernel) (fun _ => P_g8) (by decide) (fun _ _ => by decide +kernel) (fun q => by cases q) (P_all_cons (by decide +kernel) <| P_all_cons (by decide +kernel) <| P_all_nil) P_l8 (by decide +kernel) P_k8 (fun _ _ => P_hok_nil)
/-- OrchardQuery$Answer.meet()V -/
def P_l9 : List (Nat × P_I) := [(1, .getfield 66, 4, 0, 0, [], []), (4, .invokevirtual 70, 7, 0, 28, [], []), (11, .getfield 14, 14, 0, 8, [], []), (15, .getfield 14, 18, 0, 8, [], []), (19, .invokevirtual 121, 22, 0, 39, [], []), (22, .invokevirtual 124, 25, 1, 40, [], []), (26, .invokevirtual 121, 29, 0, 39, [], []), (29, .invokevirtual 127, 32, 2, 41, [], []), (34, .getfield 20, 37, 0, 9, [], []), (38, .getfield 40, 41, 0, 14, [], []), (42, .invokevirtual 121, 45, 0, 39, [], []), (45, .invokestatic 130, 48, 3, 179, [], []), (49, .getfield 24, 52, 0, 10, [], []), (53, .getfield 40, 56, 0, 14, [], []), (57, .invokevirtual 105, 60, 0, 34, [], []), (60, .invokestatic 130, 63, 3, 179, [], []), (64, .getfield 27, 67, 0, 11, [], []), (68, .getfield 40, 71, 0, 14, [], []), (72, .invokevirtual 108, 75, 0, 35, [], []), (75, .invokestatic 130, 78, 3, 179, [], []), (80, .getfield 40, 83, 0, 14, [], []), (85, .putfield 40, 88, 0, 14, [], [])]
set_option maxRecDepth 20000 in
theorem P_k9 : ∀ q ∈ P_l9, P_lnk P_cl P_aty P_stat P_tx P_N0 P_Tb P_Y0 "OrchardQuery$Answer" false prog_2_method_9_code [] q.1 q.2.1 q.2.2.2.1 q.2.2.2.2.1 :=
  P_all_cons (P_lnk_get (P_s1 (c := 0) (P := fun ci => P_fok P_cl P_Tb "OrchardQuery$Answer" 66 ci 0) rfl ⟨_, _, _, "OrchardQuery$Answer", rfl, by decide, (Or.inr w_4_92), (Or.inl w_4_91)⟩)) <|
  P_all_cons (P_lnk_vi (P_vall (l := P_v28) rfl (P_all_cons (show P_vok _ _ _ 3 42 from ⟨_, rfl, rfl, w_1_5, w_2_86, (Or.inl ⟨P_sg 0 rfl, w_2_87, (Or.inl w_2_143)⟩)⟩) (P_all_nil)))) <|
  P_all_cons (P_lnk_get (P_s1 (c := 0) (P := fun ci => P_fok P_cl P_Tb "OrchardQuery$Answer" 14 ci 8) rfl ⟨_, _, _, "OrchardQuery$Answer", rfl, by decide, (Or.inl rfl), (Or.inl w_4_81)⟩)) <|
  P_all_cons (P_lnk_get (P_s1 (c := 0) (P := fun ci => P_fok P_cl P_Tb "OrchardQuery$Answer" 14 ci 8) rfl ⟨_, _, _, "OrchardQuery$Answer", rfl, by decide, (Or.inl rfl), (Or.inl w_4_81)⟩)) <|
  P_all_cons (P_lnk_vi (P_vall (l := P_v39) rfl (P_all_cons (show P_vok _ _ _ 0 132 from ⟨_, rfl, rfl, w_1_9, w_2_148, (Or.inr ⟨⟨"OrchardQuery$Answer", "meeting", "()I"⟩, "OrchardQuery$Walk", P_sg 0 rfl, by decide, w_2_144, w_2_145, w_2_147, (Or.inl ⟨w_2_148, _, _, _, w_2_149⟩)⟩)⟩) (P_all_nil)))) <|
  P_all_cons (P_lnk_vi (P_vall (l := P_v40) rfl (P_all_cons (show P_vok _ _ _ 4 47 from ⟨_, rfl, rfl, w_1_11, w_2_151, (Or.inl ⟨P_sg 1 rfl, w_2_152, (Or.inl w_2_150)⟩)⟩) (P_all_nil)))) <|
  P_all_cons (P_lnk_vi (P_vall (l := P_v39) rfl (P_all_cons (show P_vok _ _ _ 0 132 from ⟨_, rfl, rfl, w_1_9, w_2_148, (Or.inr ⟨⟨"OrchardQuery$Answer", "meeting", "()I"⟩, "OrchardQuery$Walk", P_sg 0 rfl, by decide, w_2_144, w_2_145, w_2_147, (Or.inl ⟨w_2_148, _, _, _, w_2_149⟩)⟩)⟩) (P_all_nil)))) <|
  P_all_cons (P_lnk_vi (P_vall (l := P_v41) rfl (P_all_cons (show P_vok _ _ _ 4 46 from ⟨_, rfl, rfl, w_1_11, w_2_170, (Or.inl ⟨P_sg 2 rfl, w_2_171, (Or.inl w_2_169)⟩)⟩) (P_all_nil)))) <|
  P_all_cons (P_lnk_get (P_s1 (c := 0) (P := fun ci => P_fok P_cl P_Tb "OrchardQuery$Answer" 20 ci 9) rfl ⟨_, _, _, "OrchardQuery$Answer", rfl, by decide, (Or.inl rfl), (Or.inl w_4_82)⟩)) <|
  P_all_cons (P_lnk_get (P_s1 (c := 0) (P := fun ci => P_fok P_cl P_Tb "OrchardQuery$Answer" 40 ci 14) rfl ⟨_, _, _, "OrchardQuery$Answer", rfl, by decide, (Or.inl rfl), (Or.inl w_4_87)⟩)) <|
  P_all_cons (P_lnk_vi (P_vall (l := P_v39) rfl (P_all_cons (show P_vok _ _ _ 0 132 from ⟨_, rfl, rfl, w_1_9, w_2_148, (Or.inr ⟨⟨"OrchardQuery$Answer", "meeting", "()I"⟩, "OrchardQuery$Walk", P_sg 0 rfl, by decide, w_2_144, w_2_145, w_2_147, (Or.inl ⟨w_2_148, _, _, _, w_2_149⟩)⟩)⟩) (P_all_nil)))) <|
  P_all_cons (P_lnk_st (by decide) (fun _ => ⟨P_sg 3 rfl, w_1_2, w_2_115, (Or.inr ⟨rfl, _, w_2_186⟩)⟩)) <|
  P_all_cons (P_lnk_get (P_s1 (c := 0) (P := fun ci => P_fok P_cl P_Tb "OrchardQuery$Answer" 24 ci 10) rfl ⟨_, _, _, "OrchardQuery$Answer", rfl, by decide, (Or.inl rfl), (Or.inl w_4_83)⟩)) <|
  P_all_cons (P_lnk_get (P_s1 (c := 0) (P := fun ci => P_fok P_cl P_Tb "OrchardQuery$Answer" 40 ci 14) rfl ⟨_, _, _, "OrchardQuery$Answer", rfl, by decide, (Or.inl rfl), (Or.inl w_4_87)⟩)) <|
  P_all_cons (P_lnk_vi (P_vall (l := P_v34) rfl (P_all_cons (show P_vok _ _ _ 0 129 from ⟨_, rfl, rfl, w_1_9, w_2_191, (Or.inr ⟨⟨"OrchardQuery$Answer", "reads", "()I"⟩, "OrchardQuery$Walk", P_sg 0 rfl, by decide, w_2_187, w_2_188, w_2_190, (Or.inl ⟨w_2_191, _, _, _, w_2_192⟩)⟩)⟩) (P_all_nil)))) <|
  P_all_cons (P_lnk_st (by decide) (fun _ => ⟨P_sg 3 rfl, w_1_2, w_2_115, (Or.inr ⟨rfl, _, w_2_186⟩)⟩)) <|
  P_all_cons (P_lnk_get (P_s1 (c := 0) (P := fun ci => P_fok P_cl P_Tb "OrchardQuery$Answer" 27 ci 11) rfl ⟨_, _, _, "OrchardQuery$Answer", rfl, by decide, (Or.inl rfl), (Or.inl w_4_84)⟩)) <|
  P_all_cons (P_lnk_get (P_s1 (c := 0) (P := fun ci => P_fok P_cl P_Tb "OrchardQuery$Answer" 40 ci 14) rfl ⟨_, _, _, "OrchardQuery$Answer", rfl, by decide, (Or.inl rfl), (Or.inl w_4_87)⟩)) <|
  P_all_cons (P_lnk_vi (P_vall (l := P_v35) rfl (P_all_cons (show P_vok _ _ _ 0 130 from ⟨_, rfl, rfl, w_1_9, w_2_197, (Or.inr ⟨⟨"OrchardQuery$Answer", "checks", "()I"⟩, "OrchardQuery$Walk", P_sg 0 rfl, by decide, w_2_193, w_2_194, w_2_196, (Or.inl ⟨w_2_197, _, _, _, w_2_198⟩)⟩)⟩) (P_all_nil)))) <|
  P_all_cons (P_lnk_st (by decide) (fun _ => ⟨P_sg 3 rfl, w_1_2, w_2_115, (Or.inr ⟨rfl, _, w_2_186⟩)⟩)) <|
  P_all_cons (P_lnk_get (P_s1 (c := 0) (P := fun ci => P_fok P_cl P_Tb "OrchardQuery$Answer" 40 ci 14) rfl ⟨_, _, _, "OrchardQuery$Answer", rfl, by decide, (Or.inl rfl), (Or.inl w_4_87)⟩)) <|
  P_all_cons (P_lnk_put (P_s1 (c := 0) (P := fun ci => P_pok P_cl P_Tb "OrchardQuery$Answer" false 40 ci 14) rfl ⟨_, _, _, "OrchardQuery$Answer", rfl, by decide, (Or.inl rfl), (Or.inl ⟨w_4_87, (Or.inl rfl)⟩)⟩)) <|
  P_all_nil
set_option maxRecDepth 20000 in
theorem P_m9 : P_mstC 9 1 (Option.none : Option Jvm.ClassFile.FieldType) P_e9 [] := P_meth (mx := 1) (rt := (Option.none : Option Jvm.ClassFile.FieldType)) (hs := []) "OrchardQuery$Answer" false prog_2_method_9_code [] rfl rfl rfl rfl (by decide +kernel) (by decide +kernel) (fun _ => P_g9) (by decide) (fun _ _ => by decide +kernel) (fun q => by cases q) (P_all_cons (by decide +kernel) <| P_all_cons (by decide +kernel) <| P_all_cons (by decide +kernel) <| P_all_nil) P_l9 (by decide +kernel) P_k9 (fun _ _ => P_hok_nil)
/-- OrchardQuery$Answer.listGroups()V -/
def P_l10 : List (Nat × P_I) := [(1, .getfield 66, 4, 0, 0, [], []), (4, .invokevirtual 134, 7, 0, 42, [], []), (12, .getfield 20, 15, 0, 9, [], []), (17, .invokestatic 130, 20, 3, 179, [], []), (22, .putfield 40, 25, 0, 14, [], []), (35, .getfield 14, 38, 0, 8, [], []), (39, .invokevirtual 137, 42, 1, 43, [], []), (46, .getfield 20, 49, 0, 9, [], []), (50, .getfield 40, 53, 0, 14, [], []), (54, .invokestatic 130, 57, 3, 179, [], []), (58, .getfield 30, 61, 0, 12, [], []), (62, .getfield 40, 65, 0, 14, [], []), (66, .getfield 14, 69, 0, 8, [], []), (70, .invokevirtual 140, 73, 1, 44, [], []), (73, .invokestatic 130, 76, 3, 179, [], []), (78, .getfield 40, 81, 0, 14, [], []), (83, .putfield 40, 86, 0, 14, [], []), (93, .invokevirtual 143, 96, 0, 45, [], [])]
set_option maxRecDepth 20000 in
theorem P_k10 : ∀ q ∈ P_l10, P_lnk P_cl P_aty P_stat P_tx P_N0 P_Tb P_Y0 "OrchardQuery$Answer" false prog_2_method_10_code [] q.1 q.2.1 q.2.2.2.1 q.2.2.2.2.1 :=
  P_all_cons (P_lnk_get (P_s1 (c := 0) (P := fun ci => P_fok P_cl P_Tb "OrchardQuery$Answer" 66 ci 0) rfl ⟨_, _, _, "OrchardQuery$Answer", rfl, by decide, (Or.inr w_4_92), (Or.inl w_4_91)⟩)) <|
  P_all_cons (P_lnk_vi (P_vall (l := P_v42) rfl (P_all_cons (show P_vok _ _ _ 3 31 from ⟨_, rfl, rfl, w_1_5, w_2_155, (Or.inl ⟨P_sg 0 rfl, w_2_156, (Or.inl w_2_206)⟩)⟩) (P_all_nil)))) <|
  P_all_cons (P_lnk_get (P_s1 (c := 0) (P := fun ci => P_fok P_cl P_Tb "OrchardQuery$Answer" 20 ci 9) rfl ⟨_, _, _, "OrchardQuery$Answer", rfl, by decide, (Or.inl rfl), (Or.inl w_4_82)⟩)) <|
  P_all_cons (P_lnk_st (by decide) (fun _ => ⟨P_sg 3 rfl, w_1_2, w_2_115, (Or.inr ⟨rfl, _, w_2_186⟩)⟩)) <|
  P_all_cons (P_lnk_put (P_s1 (c := 0) (P := fun ci => P_pok P_cl P_Tb "OrchardQuery$Answer" false 40 ci 14) rfl ⟨_, _, _, "OrchardQuery$Answer", rfl, by decide, (Or.inl rfl), (Or.inl ⟨w_4_87, (Or.inl rfl)⟩)⟩)) <|
  P_all_cons (P_lnk_get (P_s1 (c := 0) (P := fun ci => P_fok P_cl P_Tb "OrchardQuery$Answer" 14 ci 8) rfl ⟨_, _, _, "OrchardQuery$Answer", rfl, by decide, (Or.inl rfl), (Or.inl w_4_81)⟩)) <|
  P_all_cons (P_lnk_vi (P_vall (l := P_v43) rfl (P_all_cons (show P_vok _ _ _ 4 48 from ⟨_, rfl, rfl, w_1_11, w_2_208, (Or.inl ⟨P_sg 1 rfl, w_2_209, (Or.inl w_2_207)⟩)⟩) (P_all_nil)))) <|
  P_all_cons (P_lnk_get (P_s1 (c := 0) (P := fun ci => P_fok P_cl P_Tb "OrchardQuery$Answer" 20 ci 9) rfl ⟨_, _, _, "OrchardQuery$Answer", rfl, by decide, (Or.inl rfl), (Or.inl w_4_82)⟩)) <|
  P_all_cons (P_lnk_get (P_s1 (c := 0) (P := fun ci => P_fok P_cl P_Tb "OrchardQuery$Answer" 40 ci 14) rfl ⟨_, _, _, "OrchardQuery$Answer", rfl, by decide, (Or.inl rfl), (Or.inl w_4_87)⟩)) <|
  P_all_cons (P_lnk_st (by decide) (fun _ => ⟨P_sg 3 rfl, w_1_2, w_2_115, (Or.inr ⟨rfl, _, w_2_186⟩)⟩)) <|
  P_all_cons (P_lnk_get (P_s1 (c := 0) (P := fun ci => P_fok P_cl P_Tb "OrchardQuery$Answer" 30 ci 12) rfl ⟨_, _, _, "OrchardQuery$Answer", rfl, by decide, (Or.inl rfl), (Or.inl w_4_85)⟩)) <|
  P_all_cons (P_lnk_get (P_s1 (c := 0) (P := fun ci => P_fok P_cl P_Tb "OrchardQuery$Answer" 40 ci 14) rfl ⟨_, _, _, "OrchardQuery$Answer", rfl, by decide, (Or.inl rfl), (Or.inl w_4_87)⟩)) <|
  P_all_cons (P_lnk_get (P_s1 (c := 0) (P := fun ci => P_fok P_cl P_Tb "OrchardQuery$Answer" 14 ci 8) rfl ⟨_, _, _, "OrchardQuery$Answer", rfl, by decide, (Or.inl rfl), (Or.inl w_4_81)⟩)) <|
  P_all_cons (P_lnk_vi (P_vall (l := P_v44) rfl (P_all_cons (show P_vok _ _ _ 4 49 from ⟨_, rfl, rfl, w_1_11, w_2_212, (Or.inl ⟨P_sg 1 rfl, w_2_213, (Or.inl w_2_211)⟩)⟩) (P_all_nil)))) <|
  P_all_cons (P_lnk_st (by decide) (fun _ => ⟨P_sg 3 rfl, w_1_2, w_2_115, (Or.inr ⟨rfl, _, w_2_186⟩)⟩)) <|
  P_all_cons (P_lnk_get (P_s1 (c := 0) (P := fun ci => P_fok P_cl P_Tb "OrchardQuery$Answer" 40 ci 14) rfl ⟨_, _, _, "OrchardQuery$Answer", rfl, by decide, (Or.inl rfl), (Or.inl w_4_87)⟩)) <|
  P_all_cons (P_lnk_put (P_s1 (c := 0) (P := fun ci => P_pok P_cl P_Tb "OrchardQuery$Answer" false 40 ci 14) rfl ⟨_, _, _, "OrchardQuery$Answer", rfl, by decide, (Or.inl rfl), (Or.inl ⟨w_4_87, (Or.inl rfl)⟩)⟩)) <|
  P_all_cons (P_lnk_vi (P_vall (l := P_v45) rfl (P_all_cons (show P_vok _ _ _ 0 12 from ⟨_, rfl, rfl, w_1_10, w_2_217, (Or.inl ⟨P_sg 0 rfl, w_p_10, (Or.inl w_2_215)⟩)⟩) (P_all_nil)))) <|
  P_all_nil
set_option maxRecDepth 20000 in
theorem P_m10 : P_mstC 10 2 (Option.none : Option Jvm.ClassFile.FieldType) P_e10 [] := P_meth (mx := 2) (rt := (Option.none : Option Jvm.ClassFile.FieldType)) (hs := []) "OrchardQuery$Answer" false prog_2_method_10_code [] rfl rfl rfl rfl (by decide +kernel) (by decide +kernel) (fun _ => P_g10) (by decide) (fun _ _ => by decide +kernel) (fun q => by cases q) (P_all_cons (by decide +kernel) <| P_all_cons (by decide +kernel) <| P_all_cons (by decide +kernel) <| P_all_cons (by decide +kernel) <| P_all_nil) P_l10 (by decide +kernel) P_k10 (fun _ _ => P_hok_nil)
/-- OrchardQuery$Answer.sortByItem(I)V -/
def P_l11 : List (Nat × P_I) := [(4, .getfield 40, 7, 0, 14, [], []), (11, .getfield 30, 14, 0, 12, [], []), (18, .invokevirtual 146, 21, 2, 46, [], []), (21, .invokestatic 130, 24, 3, 179, [], []), (31, .invokevirtual 143, 34, 0, 45, [], [])]
set_option maxRecDepth 20000 in
theorem P_k11 : ∀ q ∈ P_l11, P_lnk P_cl P_aty P_stat P_tx P_N0 P_Tb P_Y0 "OrchardQuery$Answer" false prog_2_method_11_code [] q.1 q.2.1 q.2.2.2.1 q.2.2.2.2.1 :=
  P_all_cons (P_lnk_get (P_s1 (c := 0) (P := fun ci => P_fok P_cl P_Tb "OrchardQuery$Answer" 40 ci 14) rfl ⟨_, _, _, "OrchardQuery$Answer", rfl, by decide, (Or.inl rfl), (Or.inl w_4_87)⟩)) <|
  P_all_cons (P_lnk_get (P_s1 (c := 0) (P := fun ci => P_fok P_cl P_Tb "OrchardQuery$Answer" 30 ci 12) rfl ⟨_, _, _, "OrchardQuery$Answer", rfl, by decide, (Or.inl rfl), (Or.inl w_4_85)⟩)) <|
  P_all_cons (P_lnk_vi (P_vall (l := P_v46) rfl (P_all_cons (show P_vok _ _ _ 0 8 from ⟨_, rfl, rfl, w_1_10, w_2_234, (Or.inl ⟨P_sg 2 rfl, w_2_235, (Or.inl w_2_233)⟩)⟩) (P_all_nil)))) <|
  P_all_cons (P_lnk_st (by decide) (fun _ => ⟨P_sg 3 rfl, w_1_2, w_2_115, (Or.inr ⟨rfl, _, w_2_186⟩)⟩)) <|
  P_all_cons (P_lnk_vi (P_vall (l := P_v45) rfl (P_all_cons (show P_vok _ _ _ 0 12 from ⟨_, rfl, rfl, w_1_10, w_2_217, (Or.inl ⟨P_sg 0 rfl, w_p_10, (Or.inl w_2_215)⟩)⟩) (P_all_nil)))) <|
  P_all_nil
set_option maxRecDepth 20000 in
theorem P_m11 : P_mstC 11 3 (Option.none : Option Jvm.ClassFile.FieldType) P_e11 [] := P_meth (mx := 3) (rt := (Option.none : Option Jvm.ClassFile.FieldType)) (hs := []) "OrchardQuery$Answer" false prog_2_method_11_code [] rfl rfl rfl rfl (by decide +kernel) (by decide +kernel) (fun _ => P_g11) (by decide) (fun _ _ => by decide +kernel) (fun q => by cases q) (P_all_cons (by decide +kernel) <| P_all_cons (by decide +kernel) <| P_all_nil) P_l11 (by decide +kernel) P_k11 (fun _ _ => P_hok_nil)
/-- OrchardQuery$Answer.sortByKeys()V -/
def P_l12 : List (Nat × P_I) := [(2, .ldc 147, 4, (-1000000000), 0, [], []), (15, .getfield 40, 18, 0, 14, [], []), (23, .invokevirtual 148, 26, 1, 47, [], []), (34, .getfield 40, 37, 0, 14, [], []), (41, .getfield 30, 44, 0, 12, [], []), (46, .invokestatic 101, 49, 2, 178, [], []), (55, .getfield 33, 58, 0, 13, [], []), (60, .getfield 20, 63, 0, 9, [], []), (65, .invokestatic 101, 68, 2, 178, [], []), (68, .invokestatic 130, 71, 3, 179, [], []), (93, .getfield 40, 96, 0, 14, [], []), (100, .getfield 20, 103, 0, 9, [], []), (105, .getfield 33, 108, 0, 13, [], []), (109, .invokestatic 101, 112, 2, 178, [], []), (112, .invokestatic 130, 115, 3, 179, [], [])]
set_option maxRecDepth 20000 in
theorem P_k12 : ∀ q ∈ P_l12, P_lnk P_cl P_aty P_stat P_tx P_N0 P_Tb P_Y0 "OrchardQuery$Answer" false prog_2_method_12_code [] q.1 q.2.1 q.2.2.2.1 q.2.2.2.2.1 :=
  P_all_cons (P_lnk_ldc w_2_219) <|
  P_all_cons (P_lnk_get (P_s1 (c := 0) (P := fun ci => P_fok P_cl P_Tb "OrchardQuery$Answer" 40 ci 14) rfl ⟨_, _, _, "OrchardQuery$Answer", rfl, by decide, (Or.inl rfl), (Or.inl w_4_87)⟩)) <|
  P_all_cons (P_lnk_vi (P_vall (l := P_v47) rfl (P_all_cons (show P_vok _ _ _ 0 13 from ⟨_, rfl, rfl, w_1_10, w_2_222, (Or.inl ⟨P_sg 1 rfl, w_p_11, (Or.inl w_2_220)⟩)⟩) (P_all_nil)))) <|
  P_all_cons (P_lnk_get (P_s1 (c := 0) (P := fun ci => P_fok P_cl P_Tb "OrchardQuery$Answer" 40 ci 14) rfl ⟨_, _, _, "OrchardQuery$Answer", rfl, by decide, (Or.inl rfl), (Or.inl w_4_87)⟩)) <|
  P_all_cons (P_lnk_get (P_s1 (c := 0) (P := fun ci => P_fok P_cl P_Tb "OrchardQuery$Answer" 30 ci 12) rfl ⟨_, _, _, "OrchardQuery$Answer", rfl, by decide, (Or.inl rfl), (Or.inl w_4_85)⟩)) <|
  P_all_cons (P_lnk_st (by decide) (fun _ => ⟨P_sg 2 rfl, w_1_2, w_1_225, (Or.inr ⟨rfl, _, w_2_224⟩)⟩)) <|
  P_all_cons (P_lnk_get (P_s1 (c := 0) (P := fun ci => P_fok P_cl P_Tb "OrchardQuery$Answer" 33 ci 13) rfl ⟨_, _, _, "OrchardQuery$Answer", rfl, by decide, (Or.inl rfl), (Or.inl w_4_86)⟩)) <|
  P_all_cons (P_lnk_get (P_s1 (c := 0) (P := fun ci => P_fok P_cl P_Tb "OrchardQuery$Answer" 20 ci 9) rfl ⟨_, _, _, "OrchardQuery$Answer", rfl, by decide, (Or.inl rfl), (Or.inl w_4_82)⟩)) <|
  P_all_cons (P_lnk_st (by decide) (fun _ => ⟨P_sg 2 rfl, w_1_2, w_1_225, (Or.inr ⟨rfl, _, w_2_224⟩)⟩)) <|
  P_all_cons (P_lnk_st (by decide) (fun _ => ⟨P_sg 3 rfl, w_1_2, w_2_115, (Or.inr ⟨rfl, _, w_2_186⟩)⟩)) <|
  P_all_cons (P_lnk_get (P_s1 (c := 0) (P := fun ci => P_fok P_cl P_Tb "OrchardQuery$Answer" 40 ci 14) rfl ⟨_, _, _, "OrchardQuery$Answer", rfl, by decide, (Or.inl rfl), (Or.inl w_4_87)⟩)) <|
  P_all_cons (P_lnk_get (P_s1 (c := 0) (P := fun ci => P_fok P_cl P_Tb "OrchardQuery$Answer" 20 ci 9) rfl ⟨_, _, _, "OrchardQuery$Answer", rfl, by decide, (Or.inl rfl), (Or.inl w_4_82)⟩)) <|
  P_all_cons (P_lnk_get (P_s1 (c := 0) (P := fun ci => P_fok P_cl P_Tb "OrchardQuery$Answer" 33 ci 13) rfl ⟨_, _, _, "OrchardQuery$Answer", rfl, by decide, (Or.inl rfl), (Or.inl w_4_86)⟩)) <|
  P_all_cons (P_lnk_st (by decide) (fun _ => ⟨P_sg 2 rfl, w_1_2, w_1_225, (Or.inr ⟨rfl, _, w_2_224⟩)⟩)) <|
  P_all_cons (P_lnk_st (by decide) (fun _ => ⟨P_sg 3 rfl, w_1_2, w_2_115, (Or.inr ⟨rfl, _, w_2_186⟩)⟩)) <|
  P_all_nil
set_option maxRecDepth 20000 in
theorem P_m12 : P_mstC 12 6 (Option.none : Option Jvm.ClassFile.FieldType) P_e12 [] := P_meth (mx := 6) (rt := (Option.none : Option Jvm.ClassFile.FieldType)) (hs := []) "OrchardQuery$Answer" false prog_2_method_12_code [] rfl rfl rfl rfl (by decide +kernel) (by decide +kernel) (fun _ => P_g12) (by decide) (fun _ _ => by decide +kernel) (fun q => by cases q) (P_all_cons (by decide +kernel) <| P_all_cons (by decide +kernel) <| P_all_cons (by decide +kernel) <| P_all_cons (by decide +kernel) <| P_all_nil) P_l12 (by decide +kernel) P_k12 (fun _ _ => P_hok_nil)
/-- OrchardQuery$Answer.smallestKeyBehind(I)I -/
def P_l13 : List (Nat × P_I) := [(0, .ldc 100, 2, 1000000000, 0, [], []), (7, .getfield 40, 10, 0, 14, [], []), (14, .getfield 30, 17, 0, 12, [], []), (18, .invokestatic 101, 21, 2, 178, [], [])]
set_option maxRecDepth 20000 in
theorem P_k13 : ∀ q ∈ P_l13, P_lnk P_cl P_aty P_stat P_tx P_N0 P_Tb P_Y0 "OrchardQuery$Answer" false prog_2_method_13_code [] q.1 q.2.1 q.2.2.2.1 q.2.2.2.2.1 :=
  P_all_cons (P_lnk_ldc w_2_98) <|
  P_all_cons (P_lnk_get (P_s1 (c := 0) (P := fun ci => P_fok P_cl P_Tb "OrchardQuery$Answer" 40 ci 14) rfl ⟨_, _, _, "OrchardQuery$Answer", rfl, by decide, (Or.inl rfl), (Or.inl w_4_87)⟩)) <|
  P_all_cons (P_lnk_get (P_s1 (c := 0) (P := fun ci => P_fok P_cl P_Tb "OrchardQuery$Answer" 30 ci 12) rfl ⟨_, _, _, "OrchardQuery$Answer", rfl, by decide, (Or.inl rfl), (Or.inl w_4_85)⟩)) <|
  P_all_cons (P_lnk_st (by decide) (fun _ => ⟨P_sg 2 rfl, w_1_2, w_1_225, (Or.inr ⟨rfl, _, w_2_224⟩)⟩)) <|
  P_all_nil
set_option maxRecDepth 20000 in
theorem P_m13 : P_mstC 13 5 (Option.some Jvm.ClassFile.FieldType.int) P_e13 [] := P_meth (mx := 5) (rt := (Option.some Jvm.ClassFile.FieldType.int)) (hs := []) "OrchardQuery$Answer" false prog_2_method_13_code [] rfl rfl rfl rfl (by decide +kernel) (by decide +kernel) (fun _ => P_g13) (by decide) (fun _ _ => by decide +kernel) (fun q => by cases q) (P_all_cons (by decide +kernel) <| P_all_cons (by decide +kernel) <| P_all_nil) P_l13 (by decide +kernel) P_k13 (fun _ _ => P_hok_nil)
/-- OrchardQuery$Condition.<init>()V -/
def P_l14 : List (Nat × P_I) := [(1, .invokespecial 3, 4, 0, 9000, [], [])]
set_option maxRecDepth 20000 in
theorem P_k14 : ∀ q ∈ P_l14, P_lnk P_cl P_aty P_stat P_tx P_N0 P_Tb P_Y0 "OrchardQuery$Condition" true prog_3_method_1_code [] q.1 q.2.1 q.2.2.2.1 q.2.2.2.2.1 :=
  P_all_cons (P_lnk_oj (fun _ => ⟨w_3_216, w_1_60, w_1_61⟩)) <|
  P_all_nil
set_option maxRecDepth 20000 in
theorem P_m14 : P_mstC 14 1 (Option.none : Option Jvm.ClassFile.FieldType) P_e14 [] := P_meth (mx := 1) (rt := (Option.none : Option Jvm.ClassFile.FieldType)) (hs := []) "OrchardQuery$Condition" true prog_3_method_1_code [] rfl rfl rfl rfl (by decide +kernel) (by decide +kernel) (fun _ => P_g14) (by decide) (fun t q => by cases q) (fun _ => rfl) (P_all_cons (by decide +kernel) <| P_all_nil) P_l14 (by decide +kernel) P_k14 (fun _ _ => P_hok_nil)
/-- OrchardQuery$Condition.become(IIII)V -/
def P_l15 : List (Nat × P_I) := [(2, .putfield 9, 5, 1, 0, [], []), (7, .putfield 15, 10, 1, 1, [], []), (12, .putfield 18, 15, 1, 2, [], []), (18, .putfield 21, 21, 1, 3, [], [])]
set_option maxRecDepth 20000 in
theorem P_k15 : ∀ q ∈ P_l15, P_lnk P_cl P_aty P_stat P_tx P_N0 P_Tb P_Y0 "OrchardQuery$Condition" false prog_3_method_2_code [] q.1 q.2.1 q.2.2.2.1 q.2.2.2.2.1 :=
  P_all_cons (P_lnk_put (P_s1 (c := 1) (P := fun ci => P_pok P_cl P_Tb "OrchardQuery$Condition" false 9 ci 0) rfl ⟨_, _, _, "OrchardQuery$Condition", rfl, by decide, (Or.inl rfl), (Or.inl ⟨w_3_217, (Or.inl rfl)⟩)⟩)) <|
  P_all_cons (P_lnk_put (P_s1 (c := 1) (P := fun ci => P_pok P_cl P_Tb "OrchardQuery$Condition" false 15 ci 1) rfl ⟨_, _, _, "OrchardQuery$Condition", rfl, by decide, (Or.inl rfl), (Or.inl ⟨w_3_220, (Or.inl rfl)⟩)⟩)) <|
  P_all_cons (P_lnk_put (P_s1 (c := 1) (P := fun ci => P_pok P_cl P_Tb "OrchardQuery$Condition" false 18 ci 2) rfl ⟨_, _, _, "OrchardQuery$Condition", rfl, by decide, (Or.inl rfl), (Or.inl ⟨w_3_223, (Or.inl rfl)⟩)⟩)) <|
  P_all_cons (P_lnk_put (P_s1 (c := 1) (P := fun ci => P_pok P_cl P_Tb "OrchardQuery$Condition" false 21 ci 3) rfl ⟨_, _, _, "OrchardQuery$Condition", rfl, by decide, (Or.inl rfl), (Or.inl ⟨w_3_226, (Or.inl rfl)⟩)⟩)) <|
  P_all_nil
set_option maxRecDepth 20000 in
theorem P_m15 : P_mstC 15 5 (Option.none : Option Jvm.ClassFile.FieldType) P_e15 [] := P_meth (mx := 5) (rt := (Option.none : Option Jvm.ClassFile.FieldType)) (hs := []) "OrchardQuery$Condition" false prog_3_method_2_code [] rfl rfl rfl rfl (by decide +kernel) (by decide +kernel) (fun _ => P_g15) (by decide) (fun _ _ => by decide +kernel) (fun q => by cases q) (P_all_cons (by decide +kernel) <| P_all_nil) P_l15 (by decide +kernel) P_k15 (fun _ _ => P_hok_nil)
/-- OrchardQuery$Condition.isSameTwice()Z -/
def P_l16 : List (Nat × P_I) := [(1, .getfield 9, 4, 1, 0, [], []), (5, .getfield 18, 8, 1, 2, [], [])]
set_option maxRecDepth 20000 in
theorem P_k16 : ∀ q ∈ P_l16, P_lnk P_cl P_aty P_stat P_tx P_N0 P_Tb P_Y0 "OrchardQuery$Condition" false prog_3_method_3_code [] q.1 q.2.1 q.2.2.2.1 q.2.2.2.2.1 :=
  P_all_cons (P_lnk_get (P_s1 (c := 1) (P := fun ci => P_fok P_cl P_Tb "OrchardQuery$Condition" 9 ci 0) rfl ⟨_, _, _, "OrchardQuery$Condition", rfl, by decide, (Or.inl rfl), (Or.inl w_3_217)⟩)) <|
  P_all_cons (P_lnk_get (P_s1 (c := 1) (P := fun ci => P_fok P_cl P_Tb "OrchardQuery$Condition" 18 ci 2) rfl ⟨_, _, _, "OrchardQuery$Condition", rfl, by decide, (Or.inl rfl), (Or.inl w_3_223)⟩)) <|
  P_all_nil
set_option maxRecDepth 20000 in
theorem P_m16 : P_mstC 16 1 (Option.some Jvm.ClassFile.FieldType.boolean) P_e16 [] := P_meth (mx := 1) (rt := (Option.some Jvm.ClassFile.FieldType.boolean)) (hs := []) "OrchardQuery$Condition" false prog_3_method_3_code [] rfl rfl rfl rfl (by decide +kernel) (by decide +kernel) (fun _ => P_g16) (by decide) (fun _ _ => by decide +kernel) (fun q => by cases q) (P_all_cons (by decide +kernel) <| P_all_nil) P_l16 (by decide +kernel) P_k16 (fun _ _ => P_hok_nil)
/-- OrchardQuery$Condition.joins()Z -/
def P_l17 : List (Nat × P_I) := [(1, .getfield 15, 4, 1, 1, [], []), (10, .getfield 18, 13, 1, 2, [], []), (13, .invokestatic 24, 16, 1, 174, [], []), (20, .getfield 9, 23, 1, 0, [], []), (24, .getfield 18, 27, 1, 2, [], [])]
set_option maxRecDepth 20000 in
theorem P_k17 : ∀ q ∈ P_l17, P_lnk P_cl P_aty P_stat P_tx P_N0 P_Tb P_Y0 "OrchardQuery$Condition" false prog_3_method_4_code [] q.1 q.2.1 q.2.2.2.1 q.2.2.2.2.1 :=
  P_all_cons (P_lnk_get (P_s1 (c := 1) (P := fun ci => P_fok P_cl P_Tb "OrchardQuery$Condition" 15 ci 1) rfl ⟨_, _, _, "OrchardQuery$Condition", rfl, by decide, (Or.inl rfl), (Or.inl w_3_220)⟩)) <|
  P_all_cons (P_lnk_get (P_s1 (c := 1) (P := fun ci => P_fok P_cl P_Tb "OrchardQuery$Condition" 18 ci 2) rfl ⟨_, _, _, "OrchardQuery$Condition", rfl, by decide, (Or.inl rfl), (Or.inl w_3_223)⟩)) <|
  P_all_cons (P_lnk_st (by decide) (fun _ => ⟨P_sg 1 rfl, w_1_2, w_1_199, (Or.inr ⟨rfl, _, w_6_99⟩)⟩)) <|
  P_all_cons (P_lnk_get (P_s1 (c := 1) (P := fun ci => P_fok P_cl P_Tb "OrchardQuery$Condition" 9 ci 0) rfl ⟨_, _, _, "OrchardQuery$Condition", rfl, by decide, (Or.inl rfl), (Or.inl w_3_217)⟩)) <|
  P_all_cons (P_lnk_get (P_s1 (c := 1) (P := fun ci => P_fok P_cl P_Tb "OrchardQuery$Condition" 18 ci 2) rfl ⟨_, _, _, "OrchardQuery$Condition", rfl, by decide, (Or.inl rfl), (Or.inl w_3_223)⟩)) <|
  P_all_nil
set_option maxRecDepth 20000 in
theorem P_m17 : P_mstC 17 1 (Option.some Jvm.ClassFile.FieldType.boolean) P_e17 [] := P_meth (mx := 1) (rt := (Option.some Jvm.ClassFile.FieldType.boolean)) (hs := []) "OrchardQuery$Condition" false prog_3_method_4_code [] rfl rfl rfl rfl (by decide +kernel) (by decide +kernel) (fun _ => P_g17) (by decide) (fun _ _ => by decide +kernel) (fun q => by cases q) (P_all_cons (by decide +kernel) <| P_all_cons (by decide +kernel) <| P_all_nil) P_l17 (by decide +kernel) P_k17 (fun _ _ => P_hok_nil)
/-- OrchardQuery$Condition.fixes()Z -/
def P_l18 : List (Nat × P_I) := [(1, .getfield 15, 4, 1, 1, [], []), (10, .getfield 18, 13, 1, 2, [], []), (13, .invokestatic 28, 16, 1, 175, [], [])]
set_option maxRecDepth 20000 in
theorem P_k18 : ∀ q ∈ P_l18, P_lnk P_cl P_aty P_stat P_tx P_N0 P_Tb P_Y0 "OrchardQuery$Condition" false prog_3_method_5_code [] q.1 q.2.1 q.2.2.2.1 q.2.2.2.2.1 :=
  P_all_cons (P_lnk_get (P_s1 (c := 1) (P := fun ci => P_fok P_cl P_Tb "OrchardQuery$Condition" 15 ci 1) rfl ⟨_, _, _, "OrchardQuery$Condition", rfl, by decide, (Or.inl rfl), (Or.inl w_3_220)⟩)) <|
  P_all_cons (P_lnk_get (P_s1 (c := 1) (P := fun ci => P_fok P_cl P_Tb "OrchardQuery$Condition" 18 ci 2) rfl ⟨_, _, _, "OrchardQuery$Condition", rfl, by decide, (Or.inl rfl), (Or.inl w_3_223)⟩)) <|
  P_all_cons (P_lnk_st (by decide) (fun _ => ⟨P_sg 1 rfl, w_1_2, w_2_128, (Or.inr ⟨rfl, _, w_6_104⟩)⟩)) <|
  P_all_nil
set_option maxRecDepth 20000 in
theorem P_m18 : P_mstC 18 1 (Option.some Jvm.ClassFile.FieldType.boolean) P_e18 [] := P_meth (mx := 1) (rt := (Option.some Jvm.ClassFile.FieldType.boolean)) (hs := []) "OrchardQuery$Condition" false prog_3_method_5_code [] rfl rfl rfl rfl (by decide +kernel) (by decide +kernel) (fun _ => P_g18) (by decide) (fun _ _ => by decide +kernel) (fun q => by cases q) (P_all_cons (by decide +kernel) <| P_all_nil) P_l18 (by decide +kernel) P_k18 (fun _ _ => P_hok_nil)
/-- OrchardQuery$Condition.partnerOf(I)I -/
def P_l19 : List (Nat × P_I) := [(1, .getfield 9, 4, 1, 0, [], []), (9, .getfield 18, 12, 1, 2, [], []), (14, .getfield 18, 17, 1, 2, [], []), (22, .getfield 9, 25, 1, 0, [], [])]
set_option maxRecDepth 20000 in
theorem P_k19 : ∀ q ∈ P_l19, P_lnk P_cl P_aty P_stat P_tx P_N0 P_Tb P_Y0 "OrchardQuery$Condition" false prog_3_method_6_code [] q.1 q.2.1 q.2.2.2.1 q.2.2.2.2.1 :=
  P_all_cons (P_lnk_get (P_s1 (c := 1) (P := fun ci => P_fok P_cl P_Tb "OrchardQuery$Condition" 9 ci 0) rfl ⟨_, _, _, "OrchardQuery$Condition", rfl, by decide, (Or.inl rfl), (Or.inl w_3_217)⟩)) <|
  P_all_cons (P_lnk_get (P_s1 (c := 1) (P := fun ci => P_fok P_cl P_Tb "OrchardQuery$Condition" 18 ci 2) rfl ⟨_, _, _, "OrchardQuery$Condition", rfl, by decide, (Or.inl rfl), (Or.inl w_3_223)⟩)) <|
  P_all_cons (P_lnk_get (P_s1 (c := 1) (P := fun ci => P_fok P_cl P_Tb "OrchardQuery$Condition" 18 ci 2) rfl ⟨_, _, _, "OrchardQuery$Condition", rfl, by decide, (Or.inl rfl), (Or.inl w_3_223)⟩)) <|
  P_all_cons (P_lnk_get (P_s1 (c := 1) (P := fun ci => P_fok P_cl P_Tb "OrchardQuery$Condition" 9 ci 0) rfl ⟨_, _, _, "OrchardQuery$Condition", rfl, by decide, (Or.inl rfl), (Or.inl w_3_217)⟩)) <|
  P_all_nil
set_option maxRecDepth 20000 in
theorem P_m19 : P_mstC 19 2 (Option.some Jvm.ClassFile.FieldType.int) P_e19 [] := P_meth (mx := 2) (rt := (Option.some Jvm.ClassFile.FieldType.int)) (hs := []) "OrchardQuery$Condition" false prog_3_method_6_code [] rfl rfl rfl rfl (by decide +kernel) (by decide +kernel) (fun _ => P_g19) (by decide) (fun _ _ => by decide +kernel) (fun q => by cases q) (P_all_cons (by decide +kernel) <| P_all_nil) P_l19 (by decide +kernel) P_k19 (fun _ _ => P_hok_nil)
/-- OrchardQuery$Count.<init>(LOrchardQuery$Form;LOrchardQuery$Plan;)V -/
def P_l20 : List (Nat × P_I) := [(3, .invokespecial 1, 6, 2, 128, [], [])]
set_option maxRecDepth 20000 in
theorem P_k20 : ∀ q ∈ P_l20, P_lnk P_cl P_aty P_stat P_tx P_N0 P_Tb P_Y0 "OrchardQuery$Count" true prog_4_method_1_code [] q.1 q.2.1 q.2.2.2.1 q.2.2.2.2.1 :=
  P_all_cons (P_lnk_sp (by decide) (fun _ => ⟨P_sg 2 rfl, w_1_9, w_4_59, rfl, rfl, (Or.inl w_4_142)⟩)) <|
  P_all_nil
set_option maxRecDepth 20000 in
theorem P_m20 : P_mstC 20 3 (Option.none : Option Jvm.ClassFile.FieldType) P_e20 [] := P_meth (mx := 3) (rt := (Option.none : Option Jvm.ClassFile.FieldType)) (hs := []) "OrchardQuery$Count" true prog_4_method_1_code [] rfl rfl rfl rfl (by decide +kernel) (by decide +kernel) (fun _ => P_g20) (by decide) (fun t q => by cases q) (fun _ => rfl) (P_all_cons (by decide +kernel) <| P_all_nil) P_l20 (by decide +kernel) P_k20 (fun _ _ => P_hok_nil)
/-- OrchardQuery$Count.meet()V -/
def P_l21 : List (Nat × P_I) := []
set_option maxRecDepth 20000 in
theorem P_k21 : ∀ q ∈ P_l21, P_lnk P_cl P_aty P_stat P_tx P_N0 P_Tb P_Y0 "OrchardQuery$Count" false prog_4_method_2_code [] q.1 q.2.1 q.2.2.2.1 q.2.2.2.2.1 :=
  P_all_nil
set_option maxRecDepth 20000 in
theorem P_m21 : P_mstC 21 1 (Option.none : Option Jvm.ClassFile.FieldType) P_e21 [] := P_meth (mx := 1) (rt := (Option.none : Option Jvm.ClassFile.FieldType)) (hs := []) "OrchardQuery$Count" false prog_4_method_2_code [] rfl rfl rfl rfl (by decide +kernel) (by decide +kernel) (fun _ => P_g21) (by decide) (fun _ _ => by decide +kernel) (fun q => by cases q) (P_all_cons (by decide +kernel) <| P_all_nil) P_l21 (by decide +kernel) P_k21 (fun _ _ => P_hok_nil)
/-- OrchardQuery$Form.<init>()V -/
def P_l22 : List (Nat × P_I) := [(1, .invokespecial 3, 4, 0, 9000, [], []), (6, .newarray .int, 8, 0, 0, [], []), (8, .putfield 9, 11, 3, 0, [], []), (13, .newarray .int, 15, 0, 0, [], []), (15, .putfield 15, 18, 3, 1, [], []), (20, .anewarray 18, 23, 0, 109, [], []), (23, .putfield 20, 26, 3, 2, [], []), (27, .new 18, 30, 0, 9, [], []), (32, .invokespecial 24, 35, 1, 118, [], []), (35, .putfield 27, 38, 3, 3, [], [])]
set_option maxRecDepth 20000 in
theorem P_k22 : ∀ q ∈ P_l22, P_lnk P_cl P_aty P_stat P_tx P_N0 P_Tb P_Y0 "OrchardQuery$Form" true prog_5_method_1_code [] q.1 q.2.1 q.2.2.2.1 q.2.2.2.2.1 :=
  P_all_cons (P_lnk_oj (fun _ => ⟨w_3_174, w_1_60, w_1_61⟩)) <|
  P_all_cons (P_lnk_nwa rfl w_3_158) <|
  P_all_cons (P_lnk_put (P_s1 (c := 3) (P := fun ci => P_pok P_cl P_Tb "OrchardQuery$Form" true 9 ci 0) rfl ⟨_, _, _, "OrchardQuery$Form", rfl, by decide, (Or.inl rfl), (Or.inl ⟨w_3_177, (Or.inr ⟨rfl, rfl, rfl⟩)⟩)⟩)) <|
  P_all_cons (P_lnk_nwa rfl w_3_158) <|
  P_all_cons (P_lnk_put (P_s1 (c := 3) (P := fun ci => P_pok P_cl P_Tb "OrchardQuery$Form" true 15 ci 1) rfl ⟨_, _, _, "OrchardQuery$Form", rfl, by decide, (Or.inl rfl), (Or.inl ⟨w_3_178, (Or.inr ⟨rfl, rfl, rfl⟩)⟩)⟩)) <|
  P_all_cons (P_lnk_anw rfl w_3_175 w_3_139) <|
  P_all_cons (P_lnk_put (P_s1 (c := 3) (P := fun ci => P_pok P_cl P_Tb "OrchardQuery$Form" true 20 ci 2) rfl ⟨_, _, _, "OrchardQuery$Form", rfl, by decide, (Or.inl rfl), (Or.inl ⟨w_3_179, (Or.inr ⟨rfl, rfl, rfl⟩)⟩)⟩)) <|
  P_all_cons (P_lnk_new (by decide) rfl w_3_175 w_3_140 w_1_4) <|
  P_all_cons (P_lnk_sp (by decide) (fun _ => ⟨P_sg 1 rfl, w_1_4, w_3_142, rfl, rfl, (Or.inl w_3_176)⟩)) <|
  P_all_cons (P_lnk_put (P_s1 (c := 3) (P := fun ci => P_pok P_cl P_Tb "OrchardQuery$Form" true 27 ci 3) rfl ⟨_, _, _, "OrchardQuery$Form", rfl, by decide, (Or.inl rfl), (Or.inl ⟨w_3_180, (Or.inr ⟨rfl, rfl, rfl⟩)⟩)⟩)) <|
  P_all_nil
set_option maxRecDepth 20000 in
theorem P_m22 : P_mstC 22 1 (Option.none : Option Jvm.ClassFile.FieldType) P_e22 [] := P_meth (mx := 1) (rt := (Option.none : Option Jvm.ClassFile.FieldType)) (hs := []) "OrchardQuery$Form" true prog_5_method_1_code [] rfl rfl rfl rfl (by decide +kernel) (by decide +kernel) (fun _ => P_g22) (by decide) (fun t q => by cases q) (fun _ => rfl) (P_all_cons (by decide +kernel) <| P_all_cons (by decide +kernel) <| P_all_nil) P_l22 (by decide +kernel) P_k22 (fun _ _ => P_hok_nil)
/-- OrchardQuery$Form.begin()V -/
def P_l23 : List (Nat × P_I) := [(2, .putfield 31, 5, 3, 4, [], []), (7, .putfield 35, 10, 3, 5, [], []), (12, .putfield 38, 15, 3, 6, [], []), (17, .putfield 41, 20, 3, 7, [], []), (21, .ldc 44, 23, 1000000000, 0, [], []), (23, .putfield 45, 26, 3, 8, [], [])]
set_option maxRecDepth 20000 in
theorem P_k23 : ∀ q ∈ P_l23, P_lnk P_cl P_aty P_stat P_tx P_N0 P_Tb P_Y0 "OrchardQuery$Form" false prog_5_method_2_code [] q.1 q.2.1 q.2.2.2.1 q.2.2.2.2.1 :=
  P_all_cons (P_lnk_put (P_s1 (c := 3) (P := fun ci => P_pok P_cl P_Tb "OrchardQuery$Form" false 31 ci 4) rfl ⟨_, _, _, "OrchardQuery$Form", rfl, by decide, (Or.inl rfl), (Or.inl ⟨w_3_181, (Or.inl rfl)⟩)⟩)) <|
  P_all_cons (P_lnk_put (P_s1 (c := 3) (P := fun ci => P_pok P_cl P_Tb "OrchardQuery$Form" false 35 ci 5) rfl ⟨_, _, _, "OrchardQuery$Form", rfl, by decide, (Or.inl rfl), (Or.inl ⟨w_3_182, (Or.inl rfl)⟩)⟩)) <|
  P_all_cons (P_lnk_put (P_s1 (c := 3) (P := fun ci => P_pok P_cl P_Tb "OrchardQuery$Form" false 38 ci 6) rfl ⟨_, _, _, "OrchardQuery$Form", rfl, by decide, (Or.inl rfl), (Or.inl ⟨w_3_183, (Or.inl rfl)⟩)⟩)) <|
  P_all_cons (P_lnk_put (P_s1 (c := 3) (P := fun ci => P_pok P_cl P_Tb "OrchardQuery$Form" false 41 ci 7) rfl ⟨_, _, _, "OrchardQuery$Form", rfl, by decide, (Or.inl rfl), (Or.inl ⟨w_3_184, (Or.inl rfl)⟩)⟩)) <|
  P_all_cons (P_lnk_ldc w_5_168) <|
  P_all_cons (P_lnk_put (P_s1 (c := 3) (P := fun ci => P_pok P_cl P_Tb "OrchardQuery$Form" false 45 ci 8) rfl ⟨_, _, _, "OrchardQuery$Form", rfl, by decide, (Or.inl rfl), (Or.inl ⟨w_3_185, (Or.inl rfl)⟩)⟩)) <|
  P_all_nil
set_option maxRecDepth 20000 in
theorem P_m23 : P_mstC 23 1 (Option.none : Option Jvm.ClassFile.FieldType) P_e23 [] := P_meth (mx := 1) (rt := (Option.none : Option Jvm.ClassFile.FieldType)) (hs := []) "OrchardQuery$Form" false prog_5_method_2_code [] rfl rfl rfl rfl (by decide +kernel) (by decide +kernel) (fun _ => P_g23) (by decide) (fun _ _ => by decide +kernel) (fun q => by cases q) (P_all_cons (by decide +kernel) <| P_all_nil) P_l23 (by decide +kernel) P_k23 (fun _ _ => P_hok_nil)
/-- OrchardQuery$Form.addItem(II)V -/
def P_l24 : List (Nat × P_I) := [(1, .getfield 9, 4, 3, 0, [], []), (5, .getfield 31, 8, 3, 4, [], []), (9, .invokestatic 48, 12, 3, 179, [], []), (13, .getfield 15, 16, 3, 1, [], []), (17, .getfield 31, 20, 3, 4, [], []), (21, .invokestatic 48, 24, 3, 179, [], []), (26, .getfield 31, 29, 3, 4, [], []), (31, .putfield 31, 34, 3, 4, [], [])]
set_option maxRecDepth 20000 in
theorem P_k24 : ∀ q ∈ P_l24, P_lnk P_cl P_aty P_stat P_tx P_N0 P_Tb P_Y0 "OrchardQuery$Form" false prog_5_method_3_code [] q.1 q.2.1 q.2.2.2.1 q.2.2.2.2.1 :=
  P_all_cons (P_lnk_get (P_s1 (c := 3) (P := fun ci => P_fok P_cl P_Tb "OrchardQuery$Form" 9 ci 0) rfl ⟨_, _, _, "OrchardQuery$Form", rfl, by decide, (Or.inl rfl), (Or.inl w_3_177)⟩)) <|
  P_all_cons (P_lnk_get (P_s1 (c := 3) (P := fun ci => P_fok P_cl P_Tb "OrchardQuery$Form" 31 ci 4) rfl ⟨_, _, _, "OrchardQuery$Form", rfl, by decide, (Or.inl rfl), (Or.inl w_3_181)⟩)) <|
  P_all_cons (P_lnk_st (by decide) (fun _ => ⟨P_sg 3 rfl, w_1_2, w_2_115, (Or.inr ⟨rfl, _, w_5_209⟩)⟩)) <|
  P_all_cons (P_lnk_get (P_s1 (c := 3) (P := fun ci => P_fok P_cl P_Tb "OrchardQuery$Form" 15 ci 1) rfl ⟨_, _, _, "OrchardQuery$Form", rfl, by decide, (Or.inl rfl), (Or.inl w_3_178)⟩)) <|
  P_all_cons (P_lnk_get (P_s1 (c := 3) (P := fun ci => P_fok P_cl P_Tb "OrchardQuery$Form" 31 ci 4) rfl ⟨_, _, _, "OrchardQuery$Form", rfl, by decide, (Or.inl rfl), (Or.inl w_3_181)⟩)) <|
  P_all_cons (P_lnk_st (by decide) (fun _ => ⟨P_sg 3 rfl, w_1_2, w_2_115, (Or.inr ⟨rfl, _, w_5_209⟩)⟩)) <|
  P_all_cons (P_lnk_get (P_s1 (c := 3) (P := fun ci => P_fok P_cl P_Tb "OrchardQuery$Form" 31 ci 4) rfl ⟨_, _, _, "OrchardQuery$Form", rfl, by decide, (Or.inl rfl), (Or.inl w_3_181)⟩)) <|
  P_all_cons (P_lnk_put (P_s1 (c := 3) (P := fun ci => P_pok P_cl P_Tb "OrchardQuery$Form" false 31 ci 4) rfl ⟨_, _, _, "OrchardQuery$Form", rfl, by decide, (Or.inl rfl), (Or.inl ⟨w_3_181, (Or.inl rfl)⟩)⟩)) <|
  P_all_nil
set_option maxRecDepth 20000 in
theorem P_m24 : P_mstC 24 3 (Option.none : Option Jvm.ClassFile.FieldType) P_e24 [] := P_meth (mx := 3) (rt := (Option.none : Option Jvm.ClassFile.FieldType)) (hs := []) "OrchardQuery$Form" false prog_5_method_3_code [] rfl rfl rfl rfl (by decide +kernel) (by decide +kernel) (fun _ => P_g24) (by decide) (fun _ _ => by decide +kernel) (fun q => by cases q) (P_all_cons (by decide +kernel) <| P_all_cons (by decide +kernel) <| P_all_nil) P_l24 (by decide +kernel) P_k24 (fun _ _ => P_hok_nil)
/-- OrchardQuery$Form.addSeat(LOrchardQuery$Table;)V -/
def P_l25 : List (Nat × P_I) := [(1, .getfield 35, 4, 3, 5, [], []), (8, .getfield 35, 11, 3, 5, [], []), (12, .getfield 20, 15, 3, 2, [], []), (20, .getfield 20, 23, 3, 2, [], []), (24, .getfield 35, 27, 3, 5, [], []), (28, .aastore, 29, 0, 0, [], []), (31, .getfield 35, 34, 3, 5, [], []), (36, .putfield 35, 39, 3, 5, [], [])]
set_option maxRecDepth 20000 in
theorem P_k25 : ∀ q ∈ P_l25, P_lnk P_cl P_aty P_stat P_tx P_N0 P_Tb P_Y0 "OrchardQuery$Form" false prog_5_method_4_code [] q.1 q.2.1 q.2.2.2.1 q.2.2.2.2.1 :=
  P_all_cons (P_lnk_get (P_s1 (c := 3) (P := fun ci => P_fok P_cl P_Tb "OrchardQuery$Form" 35 ci 5) rfl ⟨_, _, _, "OrchardQuery$Form", rfl, by decide, (Or.inl rfl), (Or.inl w_3_182)⟩)) <|
  P_all_cons (P_lnk_get (P_s1 (c := 3) (P := fun ci => P_fok P_cl P_Tb "OrchardQuery$Form" 35 ci 5) rfl ⟨_, _, _, "OrchardQuery$Form", rfl, by decide, (Or.inl rfl), (Or.inl w_3_182)⟩)) <|
  P_all_cons (P_lnk_get (P_s1 (c := 3) (P := fun ci => P_fok P_cl P_Tb "OrchardQuery$Form" 20 ci 2) rfl ⟨_, _, _, "OrchardQuery$Form", rfl, by decide, (Or.inl rfl), (Or.inl w_3_179)⟩)) <|
  P_all_cons (P_lnk_get (P_s1 (c := 3) (P := fun ci => P_fok P_cl P_Tb "OrchardQuery$Form" 20 ci 2) rfl ⟨_, _, _, "OrchardQuery$Form", rfl, by decide, (Or.inl rfl), (Or.inl w_3_179)⟩)) <|
  P_all_cons (P_lnk_get (P_s1 (c := 3) (P := fun ci => P_fok P_cl P_Tb "OrchardQuery$Form" 35 ci 5) rfl ⟨_, _, _, "OrchardQuery$Form", rfl, by decide, (Or.inl rfl), (Or.inl w_3_182)⟩)) <|
  P_all_cons (P_lnk_as0 (by decide)) <|
  P_all_cons (P_lnk_get (P_s1 (c := 3) (P := fun ci => P_fok P_cl P_Tb "OrchardQuery$Form" 35 ci 5) rfl ⟨_, _, _, "OrchardQuery$Form", rfl, by decide, (Or.inl rfl), (Or.inl w_3_182)⟩)) <|
  P_all_cons (P_lnk_put (P_s1 (c := 3) (P := fun ci => P_pok P_cl P_Tb "OrchardQuery$Form" false 35 ci 5) rfl ⟨_, _, _, "OrchardQuery$Form", rfl, by decide, (Or.inl rfl), (Or.inl ⟨w_3_182, (Or.inl rfl)⟩)⟩)) <|
  P_all_nil
set_option maxRecDepth 20000 in
theorem P_m25 : P_mstC 25 2 (Option.none : Option Jvm.ClassFile.FieldType) P_e25 [] := P_meth (mx := 2) (rt := (Option.none : Option Jvm.ClassFile.FieldType)) (hs := []) "OrchardQuery$Form" false prog_5_method_4_code [] rfl rfl rfl rfl (by decide +kernel) (by decide +kernel) (fun _ => P_g25) (by decide) (fun _ _ => by decide +kernel) (fun q => by cases q) (P_all_cons (by decide +kernel) <| P_all_cons (by decide +kernel) <| P_all_nil) P_l25 (by decide +kernel) P_k25 (fun _ _ => P_hok_nil)
/-- OrchardQuery$Form.groupBy(I)V -/
def P_l26 : List (Nat × P_I) := [(2, .putfield 38, 5, 3, 6, [], [])]
set_option maxRecDepth 20000 in
theorem P_k26 : ∀ q ∈ P_l26, P_lnk P_cl P_aty P_stat P_tx P_N0 P_Tb P_Y0 "OrchardQuery$Form" false prog_5_method_5_code [] q.1 q.2.1 q.2.2.2.1 q.2.2.2.2.1 :=
  P_all_cons (P_lnk_put (P_s1 (c := 3) (P := fun ci => P_pok P_cl P_Tb "OrchardQuery$Form" false 38 ci 6) rfl ⟨_, _, _, "OrchardQuery$Form", rfl, by decide, (Or.inl rfl), (Or.inl ⟨w_3_183, (Or.inl rfl)⟩)⟩)) <|
  P_all_nil
set_option maxRecDepth 20000 in
theorem P_m26 : P_mstC 26 2 (Option.none : Option Jvm.ClassFile.FieldType) P_e26 [] := P_meth (mx := 2) (rt := (Option.none : Option Jvm.ClassFile.FieldType)) (hs := []) "OrchardQuery$Form" false prog_5_method_5_code [] rfl rfl rfl rfl (by decide +kernel) (by decide +kernel) (fun _ => P_g26) (by decide) (fun _ _ => by decide +kernel) (fun q => by cases q) (P_all_cons (by decide +kernel) <| P_all_nil) P_l26 (by decide +kernel) P_k26 (fun _ _ => P_hok_nil)
/-- OrchardQuery$Form.orderBy(I)V -/
def P_l27 : List (Nat × P_I) := [(2, .putfield 41, 5, 3, 7, [], [])]
set_option maxRecDepth 20000 in
theorem P_k27 : ∀ q ∈ P_l27, P_lnk P_cl P_aty P_stat P_tx P_N0 P_Tb P_Y0 "OrchardQuery$Form" false prog_5_method_6_code [] q.1 q.2.1 q.2.2.2.1 q.2.2.2.2.1 :=
  P_all_cons (P_lnk_put (P_s1 (c := 3) (P := fun ci => P_pok P_cl P_Tb "OrchardQuery$Form" false 41 ci 7) rfl ⟨_, _, _, "OrchardQuery$Form", rfl, by decide, (Or.inl rfl), (Or.inl ⟨w_3_184, (Or.inl rfl)⟩)⟩)) <|
  P_all_nil
set_option maxRecDepth 20000 in
theorem P_m27 : P_mstC 27 2 (Option.none : Option Jvm.ClassFile.FieldType) P_e27 [] := P_meth (mx := 2) (rt := (Option.none : Option Jvm.ClassFile.FieldType)) (hs := []) "OrchardQuery$Form" false prog_5_method_6_code [] rfl rfl rfl rfl (by decide +kernel) (by decide +kernel) (fun _ => P_g27) (by decide) (fun _ _ => by decide +kernel) (fun q => by cases q) (P_all_cons (by decide +kernel) <| P_all_nil) P_l27 (by decide +kernel) P_k27 (fun _ _ => P_hok_nil)
/-- OrchardQuery$Form.limitTo(I)V -/
def P_l28 : List (Nat × P_I) := [(2, .putfield 45, 5, 3, 8, [], [])]
set_option maxRecDepth 20000 in
theorem P_k28 : ∀ q ∈ P_l28, P_lnk P_cl P_aty P_stat P_tx P_N0 P_Tb P_Y0 "OrchardQuery$Form" false prog_5_method_7_code [] q.1 q.2.1 q.2.2.2.1 q.2.2.2.2.1 :=
  P_all_cons (P_lnk_put (P_s1 (c := 3) (P := fun ci => P_pok P_cl P_Tb "OrchardQuery$Form" false 45 ci 8) rfl ⟨_, _, _, "OrchardQuery$Form", rfl, by decide, (Or.inl rfl), (Or.inl ⟨w_3_185, (Or.inl rfl)⟩)⟩)) <|
  P_all_nil
set_option maxRecDepth 20000 in
theorem P_m28 : P_mstC 28 2 (Option.none : Option Jvm.ClassFile.FieldType) P_e28 [] := P_meth (mx := 2) (rt := (Option.none : Option Jvm.ClassFile.FieldType)) (hs := []) "OrchardQuery$Form" false prog_5_method_7_code [] rfl rfl rfl rfl (by decide +kernel) (by decide +kernel) (fun _ => P_g28) (by decide) (fun _ _ => by decide +kernel) (fun q => by cases q) (P_all_cons (by decide +kernel) <| P_all_nil) P_l28 (by decide +kernel) P_k28 (fun _ _ => P_hok_nil)
/-- OrchardQuery$Form.itemCount()I -/
def P_l29 : List (Nat × P_I) := [(1, .getfield 31, 4, 3, 4, [], [])]
set_option maxRecDepth 20000 in
theorem P_k29 : ∀ q ∈ P_l29, P_lnk P_cl P_aty P_stat P_tx P_N0 P_Tb P_Y0 "OrchardQuery$Form" false prog_5_method_8_code [] q.1 q.2.1 q.2.2.2.1 q.2.2.2.2.1 :=
  P_all_cons (P_lnk_get (P_s1 (c := 3) (P := fun ci => P_fok P_cl P_Tb "OrchardQuery$Form" 31 ci 4) rfl ⟨_, _, _, "OrchardQuery$Form", rfl, by decide, (Or.inl rfl), (Or.inl w_3_181)⟩)) <|
  P_all_nil
set_option maxRecDepth 20000 in
theorem P_m29 : P_mstC 29 1 (Option.some Jvm.ClassFile.FieldType.int) P_e29 [] := P_meth (mx := 1) (rt := (Option.some Jvm.ClassFile.FieldType.int)) (hs := []) "OrchardQuery$Form" false prog_5_method_8_code [] rfl rfl rfl rfl (by decide +kernel) (by decide +kernel) (fun _ => P_g29) (by decide) (fun _ _ => by decide +kernel) (fun q => by cases q) (P_all_cons (by decide +kernel) <| P_all_nil) P_l29 (by decide +kernel) P_k29 (fun _ _ => P_hok_nil)
/-- OrchardQuery$Form.seatCount()I -/
def P_l30 : List (Nat × P_I) := [(1, .getfield 35, 4, 3, 5, [], [])]
set_option maxRecDepth 20000 in
theorem P_k30 : ∀ q ∈ P_l30, P_lnk P_cl P_aty P_stat P_tx P_N0 P_Tb P_Y0 "OrchardQuery$Form" false prog_5_method_9_code [] q.1 q.2.1 q.2.2.2.1 q.2.2.2.2.1 :=
  P_all_cons (P_lnk_get (P_s1 (c := 3) (P := fun ci => P_fok P_cl P_Tb "OrchardQuery$Form" 35 ci 5) rfl ⟨_, _, _, "OrchardQuery$Form", rfl, by decide, (Or.inl rfl), (Or.inl w_3_182)⟩)) <|
  P_all_nil
set_option maxRecDepth 20000 in
theorem P_m30 : P_mstC 30 1 (Option.some Jvm.ClassFile.FieldType.int) P_e30 [] := P_meth (mx := 1) (rt := (Option.some Jvm.ClassFile.FieldType.int)) (hs := []) "OrchardQuery$Form" false prog_5_method_9_code [] rfl rfl rfl rfl (by decide +kernel) (by decide +kernel) (fun _ => P_g30) (by decide) (fun _ _ => by decide +kernel) (fun q => by cases q) (P_all_cons (by decide +kernel) <| P_all_nil) P_l30 (by decide +kernel) P_k30 (fun _ _ => P_hok_nil)
/-- OrchardQuery$Form.group()I -/
def P_l31 : List (Nat × P_I) := [(1, .getfield 38, 4, 3, 6, [], [])]
set_option maxRecDepth 20000 in
theorem P_k31 : ∀ q ∈ P_l31, P_lnk P_cl P_aty P_stat P_tx P_N0 P_Tb P_Y0 "OrchardQuery$Form" false prog_5_method_10_code [] q.1 q.2.1 q.2.2.2.1 q.2.2.2.2.1 :=
  P_all_cons (P_lnk_get (P_s1 (c := 3) (P := fun ci => P_fok P_cl P_Tb "OrchardQuery$Form" 38 ci 6) rfl ⟨_, _, _, "OrchardQuery$Form", rfl, by decide, (Or.inl rfl), (Or.inl w_3_183)⟩)) <|
  P_all_nil
set_option maxRecDepth 20000 in
theorem P_m31 : P_mstC 31 1 (Option.some Jvm.ClassFile.FieldType.int) P_e31 [] := P_meth (mx := 1) (rt := (Option.some Jvm.ClassFile.FieldType.int)) (hs := []) "OrchardQuery$Form" false prog_5_method_10_code [] rfl rfl rfl rfl (by decide +kernel) (by decide +kernel) (fun _ => P_g31) (by decide) (fun _ _ => by decide +kernel) (fun q => by cases q) (P_all_cons (by decide +kernel) <| P_all_nil) P_l31 (by decide +kernel) P_k31 (fun _ _ => P_hok_nil)
/-- OrchardQuery$Form.orderItem()I -/
def P_l32 : List (Nat × P_I) := [(1, .getfield 41, 4, 3, 7, [], [])]
set_option maxRecDepth 20000 in
theorem P_k32 : ∀ q ∈ P_l32, P_lnk P_cl P_aty P_stat P_tx P_N0 P_Tb P_Y0 "OrchardQuery$Form" false prog_5_method_11_code [] q.1 q.2.1 q.2.2.2.1 q.2.2.2.2.1 :=
  P_all_cons (P_lnk_get (P_s1 (c := 3) (P := fun ci => P_fok P_cl P_Tb "OrchardQuery$Form" 41 ci 7) rfl ⟨_, _, _, "OrchardQuery$Form", rfl, by decide, (Or.inl rfl), (Or.inl w_3_184)⟩)) <|
  P_all_nil
set_option maxRecDepth 20000 in
theorem P_m32 : P_mstC 32 1 (Option.some Jvm.ClassFile.FieldType.int) P_e32 [] := P_meth (mx := 1) (rt := (Option.some Jvm.ClassFile.FieldType.int)) (hs := []) "OrchardQuery$Form" false prog_5_method_11_code [] rfl rfl rfl rfl (by decide +kernel) (by decide +kernel) (fun _ => P_g32) (by decide) (fun _ _ => by decide +kernel) (fun q => by cases q) (P_all_cons (by decide +kernel) <| P_all_nil) P_l32 (by decide +kernel) P_k32 (fun _ _ => P_hok_nil)
/-- OrchardQuery$Form.limit()I -/
def P_l33 : List (Nat × P_I) := [(1, .getfield 45, 4, 3, 8, [], [])]
set_option maxRecDepth 20000 in
theorem P_k33 : ∀ q ∈ P_l33, P_lnk P_cl P_aty P_stat P_tx P_N0 P_Tb P_Y0 "OrchardQuery$Form" false prog_5_method_12_code [] q.1 q.2.1 q.2.2.2.1 q.2.2.2.2.1 :=
  P_all_cons (P_lnk_get (P_s1 (c := 3) (P := fun ci => P_fok P_cl P_Tb "OrchardQuery$Form" 45 ci 8) rfl ⟨_, _, _, "OrchardQuery$Form", rfl, by decide, (Or.inl rfl), (Or.inl w_3_185)⟩)) <|
  P_all_nil
set_option maxRecDepth 20000 in
theorem P_m33 : P_mstC 33 1 (Option.some Jvm.ClassFile.FieldType.int) P_e33 [] := P_meth (mx := 1) (rt := (Option.some Jvm.ClassFile.FieldType.int)) (hs := []) "OrchardQuery$Form" false prog_5_method_12_code [] rfl rfl rfl rfl (by decide +kernel) (by decide +kernel) (fun _ => P_g33) (by decide) (fun _ _ => by decide +kernel) (fun q => by cases q) (P_all_cons (by decide +kernel) <| P_all_nil) P_l33 (by decide +kernel) P_k33 (fun _ _ => P_hok_nil)
/-- OrchardQuery$Form.kindOf(I)I -/
def P_l34 : List (Nat × P_I) := [(1, .getfield 9, 4, 3, 0, [], []), (5, .invokestatic 52, 8, 2, 178, [], [])]
set_option maxRecDepth 20000 in
theorem P_k34 : ∀ q ∈ P_l34, P_lnk P_cl P_aty P_stat P_tx P_N0 P_Tb P_Y0 "OrchardQuery$Form" false prog_5_method_13_code [] q.1 q.2.1 q.2.2.2.1 q.2.2.2.2.1 :=
  P_all_cons (P_lnk_get (P_s1 (c := 3) (P := fun ci => P_fok P_cl P_Tb "OrchardQuery$Form" 9 ci 0) rfl ⟨_, _, _, "OrchardQuery$Form", rfl, by decide, (Or.inl rfl), (Or.inl w_3_177)⟩)) <|
  P_all_cons (P_lnk_st (by decide) (fun _ => ⟨P_sg 2 rfl, w_1_2, w_1_225, (Or.inr ⟨rfl, _, w_2_93⟩)⟩)) <|
  P_all_nil
set_option maxRecDepth 20000 in
theorem P_m34 : P_mstC 34 2 (Option.some Jvm.ClassFile.FieldType.int) P_e34 [] := P_meth (mx := 2) (rt := (Option.some Jvm.ClassFile.FieldType.int)) (hs := []) "OrchardQuery$Form" false prog_5_method_13_code [] rfl rfl rfl rfl (by decide +kernel) (by decide +kernel) (fun _ => P_g34) (by decide) (fun _ _ => by decide +kernel) (fun q => by cases q) (P_all_cons (by decide +kernel) <| P_all_nil) P_l34 (by decide +kernel) P_k34 (fun _ _ => P_hok_nil)
/-- OrchardQuery$Form.columnOfItem(I)I -/
def P_l35 : List (Nat × P_I) := [(1, .getfield 15, 4, 3, 1, [], []), (5, .invokestatic 52, 8, 2, 178, [], [])]
set_option maxRecDepth 20000 in
theorem P_k35 : ∀ q ∈ P_l35, P_lnk P_cl P_aty P_stat P_tx P_N0 P_Tb P_Y0 "OrchardQuery$Form" false prog_5_method_14_code [] q.1 q.2.1 q.2.2.2.1 q.2.2.2.2.1 :=
  P_all_cons (P_lnk_get (P_s1 (c := 3) (P := fun ci => P_fok P_cl P_Tb "OrchardQuery$Form" 15 ci 1) rfl ⟨_, _, _, "OrchardQuery$Form", rfl, by decide, (Or.inl rfl), (Or.inl w_3_178)⟩)) <|
  P_all_cons (P_lnk_st (by decide) (fun _ => ⟨P_sg 2 rfl, w_1_2, w_1_225, (Or.inr ⟨rfl, _, w_2_93⟩)⟩)) <|
  P_all_nil
set_option maxRecDepth 20000 in
theorem P_m35 : P_mstC 35 2 (Option.some Jvm.ClassFile.FieldType.int) P_e35 [] := P_meth (mx := 2) (rt := (Option.some Jvm.ClassFile.FieldType.int)) (hs := []) "OrchardQuery$Form" false prog_5_method_14_code [] rfl rfl rfl rfl (by decide +kernel) (by decide +kernel) (fun _ => P_g35) (by decide) (fun _ _ => by decide +kernel) (fun q => by cases q) (P_all_cons (by decide +kernel) <| P_all_nil) P_l35 (by decide +kernel) P_k35 (fun _ _ => P_hok_nil)
/-- OrchardQuery$Form.hasItem(I)Z -/
def P_l36 : List (Nat × P_I) := [(6, .getfield 31, 9, 3, 4, [], [])]
set_option maxRecDepth 20000 in
theorem P_k36 : ∀ q ∈ P_l36, P_lnk P_cl P_aty P_stat P_tx P_N0 P_Tb P_Y0 "OrchardQuery$Form" false prog_5_method_15_code [] q.1 q.2.1 q.2.2.2.1 q.2.2.2.2.1 :=
  P_all_cons (P_lnk_get (P_s1 (c := 3) (P := fun ci => P_fok P_cl P_Tb "OrchardQuery$Form" 31 ci 4) rfl ⟨_, _, _, "OrchardQuery$Form", rfl, by decide, (Or.inl rfl), (Or.inl w_3_181)⟩)) <|
  P_all_nil
set_option maxRecDepth 20000 in
theorem P_m36 : P_mstC 36 2 (Option.some Jvm.ClassFile.FieldType.boolean) P_e36 [] := P_meth (mx := 2) (rt := (Option.some Jvm.ClassFile.FieldType.boolean)) (hs := []) "OrchardQuery$Form" false prog_5_method_15_code [] rfl rfl rfl rfl (by decide +kernel) (by decide +kernel) (fun _ => P_g36) (by decide) (fun _ _ => by decide +kernel) (fun q => by cases q) (P_all_cons (by decide +kernel) <| P_all_nil) P_l36 (by decide +kernel) P_k36 (fun _ _ => P_hok_nil)
/-- OrchardQuery$Form.hasSeat(I)Z -/
def P_l37 : List (Nat × P_I) := [(6, .getfield 35, 9, 3, 5, [], [])]
set_option maxRecDepth 20000 in
theorem P_k37 : ∀ q ∈ P_l37, P_lnk P_cl P_aty P_stat P_tx P_N0 P_Tb P_Y0 "OrchardQuery$Form" false prog_5_method_16_code [] q.1 q.2.1 q.2.2.2.1 q.2.2.2.2.1 :=
  P_all_cons (P_lnk_get (P_s1 (c := 3) (P := fun ci => P_fok P_cl P_Tb "OrchardQuery$Form" 35 ci 5) rfl ⟨_, _, _, "OrchardQuery$Form", rfl, by decide, (Or.inl rfl), (Or.inl w_3_182)⟩)) <|
  P_all_nil
set_option maxRecDepth 20000 in
theorem P_m37 : P_mstC 37 2 (Option.some Jvm.ClassFile.FieldType.boolean) P_e37 [] := P_meth (mx := 2) (rt := (Option.some Jvm.ClassFile.FieldType.boolean)) (hs := []) "OrchardQuery$Form" false prog_5_method_16_code [] rfl rfl rfl rfl (by decide +kernel) (by decide +kernel) (fun _ => P_g37) (by decide) (fun _ _ => by decide +kernel) (fun q => by cases q) (P_all_cons (by decide +kernel) <| P_all_nil) P_l37 (by decide +kernel) P_k37 (fun _ _ => P_hok_nil)
/-- OrchardQuery$Form.tableOf(I)LOrchardQuery$Table; -/
def P_l38 : List (Nat × P_I) := [(6, .getfield 35, 9, 3, 5, [], []), (14, .getfield 20, 17, 3, 2, [], []), (22, .getfield 27, 25, 3, 3, [], []), (27, .getfield 20, 30, 3, 2, [], []), (38, .getfield 27, 41, 3, 3, [], [])]
set_option maxRecDepth 20000 in
theorem P_k38 : ∀ q ∈ P_l38, P_lnk P_cl P_aty P_stat P_tx P_N0 P_Tb P_Y0 "OrchardQuery$Form" false prog_5_method_17_code [] q.1 q.2.1 q.2.2.2.1 q.2.2.2.2.1 :=
  P_all_cons (P_lnk_get (P_s1 (c := 3) (P := fun ci => P_fok P_cl P_Tb "OrchardQuery$Form" 35 ci 5) rfl ⟨_, _, _, "OrchardQuery$Form", rfl, by decide, (Or.inl rfl), (Or.inl w_3_182)⟩)) <|
  P_all_cons (P_lnk_get (P_s1 (c := 3) (P := fun ci => P_fok P_cl P_Tb "OrchardQuery$Form" 20 ci 2) rfl ⟨_, _, _, "OrchardQuery$Form", rfl, by decide, (Or.inl rfl), (Or.inl w_3_179)⟩)) <|
  P_all_cons (P_lnk_get (P_s1 (c := 3) (P := fun ci => P_fok P_cl P_Tb "OrchardQuery$Form" 27 ci 3) rfl ⟨_, _, _, "OrchardQuery$Form", rfl, by decide, (Or.inl rfl), (Or.inl w_3_180)⟩)) <|
  P_all_cons (P_lnk_get (P_s1 (c := 3) (P := fun ci => P_fok P_cl P_Tb "OrchardQuery$Form" 20 ci 2) rfl ⟨_, _, _, "OrchardQuery$Form", rfl, by decide, (Or.inl rfl), (Or.inl w_3_179)⟩)) <|
  P_all_cons (P_lnk_get (P_s1 (c := 3) (P := fun ci => P_fok P_cl P_Tb "OrchardQuery$Form" 27 ci 3) rfl ⟨_, _, _, "OrchardQuery$Form", rfl, by decide, (Or.inl rfl), (Or.inl w_3_180)⟩)) <|
  P_all_nil
set_option maxRecDepth 20000 in
theorem P_m38 : P_mstC 38 3 (Option.some (Jvm.ClassFile.FieldType.object "OrchardQuery$Table")) P_e38 [] := P_meth (mx := 3) (rt := (Option.some (Jvm.ClassFile.FieldType.object "OrchardQuery$Table"))) (hs := []) "OrchardQuery$Form" false prog_5_method_17_code [] rfl rfl rfl rfl (by decide +kernel) (by decide +kernel) (fun _ => P_g38) (by decide) (fun _ _ => by decide +kernel) (fun q => by cases q) (P_all_cons (by decide +kernel) <| P_all_cons (by decide +kernel) <| P_all_nil) P_l38 (by decide +kernel) P_k38 (fun _ _ => P_hok_nil)
/-- OrchardQuery$Form.hasColumn(I)Z -/
def P_l39 : List (Nat × P_I) := [(1, .invokestatic 56, 4, 1, 177, [], []), (6, .invokestatic 60, 9, 1, 176, [], []), (9, .invokevirtual 63, 12, 1, 48, [], []), (12, .invokevirtual 67, 15, 0, 49, [], [])]
set_option maxRecDepth 20000 in
theorem P_k39 : ∀ q ∈ P_l39, P_lnk P_cl P_aty P_stat P_tx P_N0 P_Tb P_Y0 "OrchardQuery$Form" false prog_5_method_18_code [] q.1 q.2.1 q.2.2.2.1 q.2.2.2.2.1 :=
  P_all_cons (P_lnk_st (by decide) (fun _ => ⟨P_sg 1 rfl, w_1_2, w_1_218, (Or.inr ⟨rfl, _, w_1_217⟩)⟩)) <|
  P_all_cons (P_lnk_st (by decide) (fun _ => ⟨P_sg 1 rfl, w_1_2, w_1_192, (Or.inr ⟨rfl, _, w_1_212⟩)⟩)) <|
  P_all_cons (P_lnk_vi (P_vall (l := P_v48) rfl (P_all_cons (show P_vok _ _ _ 3 38 from ⟨_, rfl, rfl, w_1_5, w_1_214, (Or.inl ⟨P_sg 1 rfl, w_1_215, (Or.inl w_1_213)⟩)⟩) (P_all_nil)))) <|
  P_all_cons (P_lnk_vi (P_vall (l := P_v49) rfl (P_all_cons (show P_vok _ _ _ 9 119 from ⟨_, rfl, rfl, w_1_4, w_3_108, (Or.inl ⟨P_sg 0 rfl, w_3_109, (Or.inl w_6_34)⟩)⟩) (P_all_nil)))) <|
  P_all_nil
set_option maxRecDepth 20000 in
theorem P_m39 : P_mstC 39 2 (Option.some Jvm.ClassFile.FieldType.boolean) P_e39 [] := P_meth (mx := 2) (rt := (Option.some Jvm.ClassFile.FieldType.boolean)) (hs := []) "OrchardQuery$Form" false prog_5_method_18_code [] rfl rfl rfl rfl (by decide +kernel) (by decide +kernel) (fun _ => P_g39) (by decide) (fun _ _ => by decide +kernel) (fun q => by cases q) (P_all_cons (by decide +kernel) <| P_all_nil) P_l39 (by decide +kernel) P_k39 (fun _ _ => P_hok_nil)
/-- OrchardQuery$Form.varietyOf(I)I -/
def P_l40 : List (Nat × P_I) := [(2, .invokestatic 60, 5, 1, 176, [], []), (5, .invokevirtual 63, 8, 1, 48, [], []), (9, .invokestatic 56, 12, 1, 177, [], []), (12, .invokevirtual 71, 15, 1, 50, [], [])]
set_option maxRecDepth 20000 in
theorem P_k40 : ∀ q ∈ P_l40, P_lnk P_cl P_aty P_stat P_tx P_N0 P_Tb P_Y0 "OrchardQuery$Form" false prog_5_method_19_code [] q.1 q.2.1 q.2.2.2.1 q.2.2.2.2.1 :=
  P_all_cons (P_lnk_st (by decide) (fun _ => ⟨P_sg 1 rfl, w_1_2, w_1_192, (Or.inr ⟨rfl, _, w_1_212⟩)⟩)) <|
  P_all_cons (P_lnk_vi (P_vall (l := P_v48) rfl (P_all_cons (show P_vok _ _ _ 3 38 from ⟨_, rfl, rfl, w_1_5, w_1_214, (Or.inl ⟨P_sg 1 rfl, w_1_215, (Or.inl w_1_213)⟩)⟩) (P_all_nil)))) <|
  P_all_cons (P_lnk_st (by decide) (fun _ => ⟨P_sg 1 rfl, w_1_2, w_1_218, (Or.inr ⟨rfl, _, w_1_217⟩)⟩)) <|
  P_all_cons (P_lnk_vi (P_vall (l := P_v50) rfl (P_all_cons (show P_vok _ _ _ 9 125 from ⟨_, rfl, rfl, w_1_4, w_1_221, (Or.inl ⟨P_sg 1 rfl, w_1_222, (Or.inl w_1_220)⟩)⟩) (P_all_nil)))) <|
  P_all_nil
set_option maxRecDepth 20000 in
theorem P_m40 : P_mstC 40 2 (Option.some Jvm.ClassFile.FieldType.int) P_e40 [] := P_meth (mx := 2) (rt := (Option.some Jvm.ClassFile.FieldType.int)) (hs := []) "OrchardQuery$Form" false prog_5_method_19_code [] rfl rfl rfl rfl (by decide +kernel) (by decide +kernel) (fun _ => P_g40) (by decide) (fun _ _ => by decide +kernel) (fun q => by cases q) (P_all_cons (by decide +kernel) <| P_all_nil) P_l40 (by decide +kernel) P_k40 (fun _ _ => P_hok_nil)
/-- OrchardQuery$Form.rowsOfAllSeats()I -/
def P_l41 : List (Nat × P_I) := [(6, .getfield 35, 9, 3, 5, [], []), (15, .invokevirtual 63, 18, 1, 48, [], []), (18, .invokevirtual 74, 21, 0, 51, [], [])]
set_option maxRecDepth 20000 in
theorem P_k41 : ∀ q ∈ P_l41, P_lnk P_cl P_aty P_stat P_tx P_N0 P_Tb P_Y0 "OrchardQuery$Form" false prog_5_method_20_code [] q.1 q.2.1 q.2.2.2.1 q.2.2.2.2.1 :=
  P_all_cons (P_lnk_get (P_s1 (c := 3) (P := fun ci => P_fok P_cl P_Tb "OrchardQuery$Form" 35 ci 5) rfl ⟨_, _, _, "OrchardQuery$Form", rfl, by decide, (Or.inl rfl), (Or.inl w_3_182)⟩)) <|
  P_all_cons (P_lnk_vi (P_vall (l := P_v48) rfl (P_all_cons (show P_vok _ _ _ 3 38 from ⟨_, rfl, rfl, w_1_5, w_1_214, (Or.inl ⟨P_sg 1 rfl, w_1_215, (Or.inl w_1_213)⟩)⟩) (P_all_nil)))) <|
  P_all_cons (P_lnk_vi (P_vall (l := P_v51) rfl (P_all_cons (show P_vok _ _ _ 9 120 from ⟨_, rfl, rfl, w_1_4, w_2_18, (Or.inl ⟨P_sg 0 rfl, w_2_19, (Or.inl w_3_88)⟩)⟩) (P_all_nil)))) <|
  P_all_nil
set_option maxRecDepth 20000 in
theorem P_m41 : P_mstC 41 3 (Option.some Jvm.ClassFile.FieldType.int) P_e41 [] := P_meth (mx := 3) (rt := (Option.some Jvm.ClassFile.FieldType.int)) (hs := []) "OrchardQuery$Form" false prog_5_method_20_code [] rfl rfl rfl rfl (by decide +kernel) (by decide +kernel) (fun _ => P_g41) (by decide) (fun _ _ => by decide +kernel) (fun q => by cases q) (P_all_cons (by decide +kernel) <| P_all_nil) P_l41 (by decide +kernel) P_k41 (fun _ _ => P_hok_nil)
/-- OrchardQuery$Form.isGathered()Z -/
def P_l42 : List (Nat × P_I) := [(1, .getfield 38, 4, 3, 6, [], []), (18, .getfield 31, 21, 3, 4, [], []), (30, .invokevirtual 77, 33, 1, 52, [], [])]
set_option maxRecDepth 20000 in
theorem P_k42 : ∀ q ∈ P_l42, P_lnk P_cl P_aty P_stat P_tx P_N0 P_Tb P_Y0 "OrchardQuery$Form" false prog_5_method_21_code [] q.1 q.2.1 q.2.2.2.1 q.2.2.2.2.1 :=
  P_all_cons (P_lnk_get (P_s1 (c := 3) (P := fun ci => P_fok P_cl P_Tb "OrchardQuery$Form" 38 ci 6) rfl ⟨_, _, _, "OrchardQuery$Form", rfl, by decide, (Or.inl rfl), (Or.inl w_3_183)⟩)) <|
  P_all_cons (P_lnk_get (P_s1 (c := 3) (P := fun ci => P_fok P_cl P_Tb "OrchardQuery$Form" 31 ci 4) rfl ⟨_, _, _, "OrchardQuery$Form", rfl, by decide, (Or.inl rfl), (Or.inl w_3_181)⟩)) <|
  P_all_cons (P_lnk_vi (P_vall (l := P_v52) rfl (P_all_cons (show P_vok _ _ _ 3 34 from ⟨_, rfl, rfl, w_1_5, w_2_90, (Or.inl ⟨P_sg 1 rfl, w_2_91, (Or.inl w_2_89)⟩)⟩) (P_all_nil)))) <|
  P_all_nil
set_option maxRecDepth 20000 in
theorem P_m42 : P_mstC 42 3 (Option.some Jvm.ClassFile.FieldType.boolean) P_e42 [] := P_meth (mx := 3) (rt := (Option.some Jvm.ClassFile.FieldType.boolean)) (hs := []) "OrchardQuery$Form" false prog_5_method_21_code [] rfl rfl rfl rfl (by decide +kernel) (by decide +kernel) (fun _ => P_g42) (by decide) (fun _ _ => by decide +kernel) (fun q => by cases q) (P_all_cons (by decide +kernel) <| P_all_cons (by decide +kernel) <| P_all_nil) P_l42 (by decide +kernel) P_k42 (fun _ _ => P_hok_nil)
/-- OrchardQuery$Form.isStreamed()Z -/
def P_l43 : List (Nat × P_I) := [(1, .getfield 41, 4, 3, 7, [], []), (9, .invokevirtual 80, 12, 0, 28, [], [])]
set_option maxRecDepth 20000 in
theorem P_k43 : ∀ q ∈ P_l43, P_lnk P_cl P_aty P_stat P_tx P_N0 P_Tb P_Y0 "OrchardQuery$Form" false prog_5_method_22_code [] q.1 q.2.1 q.2.2.2.1 q.2.2.2.2.1 :=
  P_all_cons (P_lnk_get (P_s1 (c := 3) (P := fun ci => P_fok P_cl P_Tb "OrchardQuery$Form" 41 ci 7) rfl ⟨_, _, _, "OrchardQuery$Form", rfl, by decide, (Or.inl rfl), (Or.inl w_3_184)⟩)) <|
  P_all_cons (P_lnk_vi (P_vall (l := P_v28) rfl (P_all_cons (show P_vok _ _ _ 3 42 from ⟨_, rfl, rfl, w_1_5, w_2_86, (Or.inl ⟨P_sg 0 rfl, w_2_87, (Or.inl w_2_85)⟩)⟩) (P_all_nil)))) <|
  P_all_nil
set_option maxRecDepth 20000 in
theorem P_m43 : P_mstC 43 1 (Option.some Jvm.ClassFile.FieldType.boolean) P_e43 [] := P_meth (mx := 1) (rt := (Option.some Jvm.ClassFile.FieldType.boolean)) (hs := []) "OrchardQuery$Form" false prog_5_method_22_code [] rfl rfl rfl rfl (by decide +kernel) (by decide +kernel) (fun _ => P_g43) (by decide) (fun _ _ => by decide +kernel) (fun q => by cases q) (P_all_cons (by decide +kernel) <| P_all_nil) P_l43 (by decide +kernel) P_k43 (fun _ _ => P_hok_nil)
/-- OrchardQuery$Groups.<init>(LOrchardQuery$Form;)V -/
def P_l44 : List (Nat × P_I) := [(1, .invokespecial 3, 4, 0, 9000, [], []), (6, .putfield 9, 9, 4, 0, [], []), (12, .newarray .int, 14, 0, 0, [], []), (14, .putfield 15, 17, 4, 1, [], []), (20, .newarray .int, 22, 0, 0, [], []), (22, .putfield 19, 25, 4, 2, [], []), (28, .newarray .int, 30, 0, 0, [], []), (30, .putfield 22, 33, 4, 3, [], [])]
set_option maxRecDepth 20000 in
theorem P_k44 : ∀ q ∈ P_l44, P_lnk P_cl P_aty P_stat P_tx P_N0 P_Tb P_Y0 "OrchardQuery$Groups" true prog_6_method_1_code [] q.1 q.2.1 q.2.2.2.1 q.2.2.2.2.1 :=
  P_all_cons (P_lnk_oj (fun _ => ⟨w_4_67, w_1_60, w_1_61⟩)) <|
  P_all_cons (P_lnk_put (P_s1 (c := 4) (P := fun ci => P_pok P_cl P_Tb "OrchardQuery$Groups" true 9 ci 0) rfl ⟨_, _, _, "OrchardQuery$Groups", rfl, by decide, (Or.inl rfl), (Or.inl ⟨w_4_68, (Or.inr ⟨rfl, rfl, rfl⟩)⟩)⟩)) <|
  P_all_cons (P_lnk_nwa rfl w_3_158) <|
  P_all_cons (P_lnk_put (P_s1 (c := 4) (P := fun ci => P_pok P_cl P_Tb "OrchardQuery$Groups" true 15 ci 1) rfl ⟨_, _, _, "OrchardQuery$Groups", rfl, by decide, (Or.inl rfl), (Or.inl ⟨w_4_69, (Or.inr ⟨rfl, rfl, rfl⟩)⟩)⟩)) <|
  P_all_cons (P_lnk_nwa rfl w_3_158) <|
  P_all_cons (P_lnk_put (P_s1 (c := 4) (P := fun ci => P_pok P_cl P_Tb "OrchardQuery$Groups" true 19 ci 2) rfl ⟨_, _, _, "OrchardQuery$Groups", rfl, by decide, (Or.inl rfl), (Or.inl ⟨w_4_70, (Or.inr ⟨rfl, rfl, rfl⟩)⟩)⟩)) <|
  P_all_cons (P_lnk_nwa rfl w_3_158) <|
  P_all_cons (P_lnk_put (P_s1 (c := 4) (P := fun ci => P_pok P_cl P_Tb "OrchardQuery$Groups" true 22 ci 3) rfl ⟨_, _, _, "OrchardQuery$Groups", rfl, by decide, (Or.inl rfl), (Or.inl ⟨w_4_71, (Or.inr ⟨rfl, rfl, rfl⟩)⟩)⟩)) <|
  P_all_nil
set_option maxRecDepth 20000 in
theorem P_m44 : P_mstC 44 2 (Option.none : Option Jvm.ClassFile.FieldType) P_e44 [] := P_meth (mx := 2) (rt := (Option.none : Option Jvm.ClassFile.FieldType)) (hs := []) "OrchardQuery$Groups" true prog_6_method_1_code [] rfl rfl rfl rfl (by decide +kernel) (by decide +kernel) (fun _ => P_g44) (by decide) (fun t q => by cases q) (fun _ => rfl) (P_all_cons (by decide +kernel) <| P_all_cons (by decide +kernel) <| P_all_nil) P_l44 (by decide +kernel) P_k44 (fun _ _ => P_hok_nil)
/-- OrchardQuery$Groups.begin()V -/
def P_l45 : List (Nat × P_I) := [(1, .getfield 15, 4, 4, 1, [], []), (5, .invokestatic 25, 8, 2, 180, [], []), (9, .getfield 19, 12, 4, 2, [], []), (13, .invokestatic 25, 16, 2, 180, [], []), (17, .getfield 22, 20, 4, 3, [], []), (21, .invokestatic 25, 24, 2, 180, [], [])]
set_option maxRecDepth 20000 in
theorem P_k45 : ∀ q ∈ P_l45, P_lnk P_cl P_aty P_stat P_tx P_N0 P_Tb P_Y0 "OrchardQuery$Groups" false prog_6_method_2_code [] q.1 q.2.1 q.2.2.2.1 q.2.2.2.2.1 :=
  P_all_cons (P_lnk_get (P_s1 (c := 4) (P := fun ci => P_fok P_cl P_Tb "OrchardQuery$Groups" 15 ci 1) rfl ⟨_, _, _, "OrchardQuery$Groups", rfl, by decide, (Or.inl rfl), (Or.inl w_4_69)⟩)) <|
  P_all_cons (P_lnk_st (by decide) (fun _ => ⟨P_sg 2 rfl, w_1_2, w_2_73, (Or.inr ⟨rfl, _, w_2_72⟩)⟩)) <|
  P_all_cons (P_lnk_get (P_s1 (c := 4) (P := fun ci => P_fok P_cl P_Tb "OrchardQuery$Groups" 19 ci 2) rfl ⟨_, _, _, "OrchardQuery$Groups", rfl, by decide, (Or.inl rfl), (Or.inl w_4_70)⟩)) <|
  P_all_cons (P_lnk_st (by decide) (fun _ => ⟨P_sg 2 rfl, w_1_2, w_2_73, (Or.inr ⟨rfl, _, w_2_72⟩)⟩)) <|
  P_all_cons (P_lnk_get (P_s1 (c := 4) (P := fun ci => P_fok P_cl P_Tb "OrchardQuery$Groups" 22 ci 3) rfl ⟨_, _, _, "OrchardQuery$Groups", rfl, by decide, (Or.inl rfl), (Or.inl w_4_71)⟩)) <|
  P_all_cons (P_lnk_st (by decide) (fun _ => ⟨P_sg 2 rfl, w_1_2, w_2_73, (Or.inr ⟨rfl, _, w_2_72⟩)⟩)) <|
  P_all_nil
set_option maxRecDepth 20000 in
theorem P_m45 : P_mstC 45 1 (Option.none : Option Jvm.ClassFile.FieldType) P_e45 [] := P_meth (mx := 1) (rt := (Option.none : Option Jvm.ClassFile.FieldType)) (hs := []) "OrchardQuery$Groups" false prog_6_method_2_code [] rfl rfl rfl rfl (by decide +kernel) (by decide +kernel) (fun _ => P_g45) (by decide) (fun _ _ => by decide +kernel) (fun q => by cases q) (P_all_cons (by decide +kernel) <| P_all_nil) P_l45 (by decide +kernel) P_k45 (fun _ _ => P_hok_nil)
/-- OrchardQuery$Groups.gather(II)V -/
def P_l46 : List (Nat × P_I) := [(1, .getfield 15, 4, 4, 1, [], []), (5, .invokestatic 29, 8, 2, 178, [], []), (12, .getfield 19, 15, 4, 2, [], []), (17, .invokestatic 33, 20, 3, 179, [], []), (21, .getfield 15, 24, 4, 1, [], []), (26, .getfield 15, 29, 4, 1, [], []), (30, .invokestatic 29, 33, 2, 178, [], []), (35, .invokestatic 33, 38, 3, 179, [], []), (42, .getfield 9, 45, 4, 0, [], []), (45, .invokevirtual 37, 48, 0, 53, [], []), (52, .getfield 9, 55, 4, 0, [], []), (56, .invokevirtual 43, 59, 1, 52, [], []), (72, .getfield 22, 75, 4, 3, [], []), (78, .getfield 22, 81, 4, 3, [], []), (83, .invokestatic 29, 86, 2, 178, [], []), (89, .getfield 9, 92, 4, 0, [], []), (93, .invokevirtual 47, 96, 1, 37, [], []), (96, .invokevirtual 50, 99, 2, 38, [], []), (100, .invokestatic 33, 103, 3, 179, [], [])]
set_option maxRecDepth 20000 in
theorem P_k46 : ∀ q ∈ P_l46, P_lnk P_cl P_aty P_stat P_tx P_N0 P_Tb P_Y0 "OrchardQuery$Groups" false prog_6_method_3_code [] q.1 q.2.1 q.2.2.2.1 q.2.2.2.2.1 :=
  P_all_cons (P_lnk_get (P_s1 (c := 4) (P := fun ci => P_fok P_cl P_Tb "OrchardQuery$Groups" 15 ci 1) rfl ⟨_, _, _, "OrchardQuery$Groups", rfl, by decide, (Or.inl rfl), (Or.inl w_4_69)⟩)) <|
  P_all_cons (P_lnk_st (by decide) (fun _ => ⟨P_sg 2 rfl, w_1_2, w_1_225, (Or.inr ⟨rfl, _, w_2_173⟩)⟩)) <|
  P_all_cons (P_lnk_get (P_s1 (c := 4) (P := fun ci => P_fok P_cl P_Tb "OrchardQuery$Groups" 19 ci 2) rfl ⟨_, _, _, "OrchardQuery$Groups", rfl, by decide, (Or.inl rfl), (Or.inl w_4_70)⟩)) <|
  P_all_cons (P_lnk_st (by decide) (fun _ => ⟨P_sg 3 rfl, w_1_2, w_2_115, (Or.inr ⟨rfl, _, w_2_174⟩)⟩)) <|
  P_all_cons (P_lnk_get (P_s1 (c := 4) (P := fun ci => P_fok P_cl P_Tb "OrchardQuery$Groups" 15 ci 1) rfl ⟨_, _, _, "OrchardQuery$Groups", rfl, by decide, (Or.inl rfl), (Or.inl w_4_69)⟩)) <|
  P_all_cons (P_lnk_get (P_s1 (c := 4) (P := fun ci => P_fok P_cl P_Tb "OrchardQuery$Groups" 15 ci 1) rfl ⟨_, _, _, "OrchardQuery$Groups", rfl, by decide, (Or.inl rfl), (Or.inl w_4_69)⟩)) <|
  P_all_cons (P_lnk_st (by decide) (fun _ => ⟨P_sg 2 rfl, w_1_2, w_1_225, (Or.inr ⟨rfl, _, w_2_173⟩)⟩)) <|
  P_all_cons (P_lnk_st (by decide) (fun _ => ⟨P_sg 3 rfl, w_1_2, w_2_115, (Or.inr ⟨rfl, _, w_2_174⟩)⟩)) <|
  P_all_cons (P_lnk_get (P_s1 (c := 4) (P := fun ci => P_fok P_cl P_Tb "OrchardQuery$Groups" 9 ci 0) rfl ⟨_, _, _, "OrchardQuery$Groups", rfl, by decide, (Or.inl rfl), (Or.inl w_4_68)⟩)) <|
  P_all_cons (P_lnk_vi (P_vall (l := P_v53) rfl (P_all_cons (show P_vok _ _ _ 3 29 from ⟨_, rfl, rfl, w_1_5, w_1_122, (Or.inl ⟨P_sg 0 rfl, w_1_123, (Or.inl w_2_175)⟩)⟩) (P_all_nil)))) <|
  P_all_cons (P_lnk_get (P_s1 (c := 4) (P := fun ci => P_fok P_cl P_Tb "OrchardQuery$Groups" 9 ci 0) rfl ⟨_, _, _, "OrchardQuery$Groups", rfl, by decide, (Or.inl rfl), (Or.inl w_4_68)⟩)) <|
  P_all_cons (P_lnk_vi (P_vall (l := P_v52) rfl (P_all_cons (show P_vok _ _ _ 3 34 from ⟨_, rfl, rfl, w_1_5, w_2_90, (Or.inl ⟨P_sg 1 rfl, w_2_91, (Or.inl w_2_176)⟩)⟩) (P_all_nil)))) <|
  P_all_cons (P_lnk_get (P_s1 (c := 4) (P := fun ci => P_fok P_cl P_Tb "OrchardQuery$Groups" 22 ci 3) rfl ⟨_, _, _, "OrchardQuery$Groups", rfl, by decide, (Or.inl rfl), (Or.inl w_4_71)⟩)) <|
  P_all_cons (P_lnk_get (P_s1 (c := 4) (P := fun ci => P_fok P_cl P_Tb "OrchardQuery$Groups" 22 ci 3) rfl ⟨_, _, _, "OrchardQuery$Groups", rfl, by decide, (Or.inl rfl), (Or.inl w_4_71)⟩)) <|
  P_all_cons (P_lnk_st (by decide) (fun _ => ⟨P_sg 2 rfl, w_1_2, w_1_225, (Or.inr ⟨rfl, _, w_2_173⟩)⟩)) <|
  P_all_cons (P_lnk_get (P_s1 (c := 4) (P := fun ci => P_fok P_cl P_Tb "OrchardQuery$Groups" 9 ci 0) rfl ⟨_, _, _, "OrchardQuery$Groups", rfl, by decide, (Or.inl rfl), (Or.inl w_4_68)⟩)) <|
  P_all_cons (P_lnk_vi (P_vall (l := P_v37) rfl (P_all_cons (show P_vok _ _ _ 3 35 from ⟨_, rfl, rfl, w_1_5, w_2_178, (Or.inl ⟨P_sg 1 rfl, w_2_179, (Or.inl w_2_177)⟩)⟩) (P_all_nil)))) <|
  P_all_cons (P_lnk_vi (P_vall (l := P_v38) rfl (P_all_cons (show P_vok _ _ _ 4 51 from ⟨_, rfl, rfl, w_1_11, w_2_182, (Or.inl ⟨P_sg 2 rfl, w_2_183, (Or.inl w_2_181)⟩)⟩) (P_all_nil)))) <|
  P_all_cons (P_lnk_st (by decide) (fun _ => ⟨P_sg 3 rfl, w_1_2, w_2_115, (Or.inr ⟨rfl, _, w_2_174⟩)⟩)) <|
  P_all_nil
set_option maxRecDepth 20000 in
theorem P_m46 : P_mstC 46 5 (Option.none : Option Jvm.ClassFile.FieldType) P_e46 [] := P_meth (mx := 5) (rt := (Option.none : Option Jvm.ClassFile.FieldType)) (hs := []) "OrchardQuery$Groups" false prog_6_method_3_code [] rfl rfl rfl rfl (by decide +kernel) (by decide +kernel) (fun _ => P_g46) (by decide) (fun _ _ => by decide +kernel) (fun q => by cases q) (P_all_cons (by decide +kernel) <| P_all_cons (by decide +kernel) <| P_all_cons (by decide +kernel) <| P_all_cons (by decide +kernel) <| P_all_nil) P_l46 (by decide +kernel) P_k46 (fun _ _ => P_hok_nil)
/-- OrchardQuery$Groups.groupOf(I)I -/
def P_l47 : List (Nat × P_I) := [(1, .getfield 9, 4, 4, 0, [], []), (4, .invokevirtual 54, 7, 0, 42, [], []), (14, .getfield 9, 17, 4, 0, [], []), (17, .invokevirtual 54, 20, 0, 42, [], []), (20, .invokestatic 57, 23, 1, 176, [], []), (25, .getfield 9, 28, 4, 0, [], []), (29, .invokevirtual 60, 32, 1, 48, [], []), (34, .invokestatic 64, 37, 2, 52, [], []), (38, .getfield 9, 41, 4, 0, [], []), (41, .invokevirtual 54, 44, 0, 42, [], []), (44, .invokestatic 67, 47, 1, 177, [], []), (47, .invokevirtual 70, 50, 2, 54, [], [])]
set_option maxRecDepth 20000 in
theorem P_k47 : ∀ q ∈ P_l47, P_lnk P_cl P_aty P_stat P_tx P_N0 P_Tb P_Y0 "OrchardQuery$Groups" false prog_6_method_4_code [] q.1 q.2.1 q.2.2.2.1 q.2.2.2.2.1 :=
  P_all_cons (P_lnk_get (P_s1 (c := 4) (P := fun ci => P_fok P_cl P_Tb "OrchardQuery$Groups" 9 ci 0) rfl ⟨_, _, _, "OrchardQuery$Groups", rfl, by decide, (Or.inl rfl), (Or.inl w_4_68)⟩)) <|
  P_all_cons (P_lnk_vi (P_vall (l := P_v42) rfl (P_all_cons (show P_vok _ _ _ 3 31 from ⟨_, rfl, rfl, w_1_5, w_2_155, (Or.inl ⟨P_sg 0 rfl, w_2_156, (Or.inl w_2_154)⟩)⟩) (P_all_nil)))) <|
  P_all_cons (P_lnk_get (P_s1 (c := 4) (P := fun ci => P_fok P_cl P_Tb "OrchardQuery$Groups" 9 ci 0) rfl ⟨_, _, _, "OrchardQuery$Groups", rfl, by decide, (Or.inl rfl), (Or.inl w_4_68)⟩)) <|
  P_all_cons (P_lnk_vi (P_vall (l := P_v42) rfl (P_all_cons (show P_vok _ _ _ 3 31 from ⟨_, rfl, rfl, w_1_5, w_2_155, (Or.inl ⟨P_sg 0 rfl, w_2_156, (Or.inl w_2_154)⟩)⟩) (P_all_nil)))) <|
  P_all_cons (P_lnk_st (by decide) (fun _ => ⟨P_sg 1 rfl, w_1_2, w_1_192, (Or.inr ⟨rfl, _, w_2_158⟩)⟩)) <|
  P_all_cons (P_lnk_get (P_s1 (c := 4) (P := fun ci => P_fok P_cl P_Tb "OrchardQuery$Groups" 9 ci 0) rfl ⟨_, _, _, "OrchardQuery$Groups", rfl, by decide, (Or.inl rfl), (Or.inl w_4_68)⟩)) <|
  P_all_cons (P_lnk_vi (P_vall (l := P_v48) rfl (P_all_cons (show P_vok _ _ _ 3 38 from ⟨_, rfl, rfl, w_1_5, w_1_214, (Or.inl ⟨P_sg 1 rfl, w_1_215, (Or.inl w_2_159)⟩)⟩) (P_all_nil)))) <|
  P_all_cons (P_lnk_st (by decide) (fun _ => ⟨P_sg 2 rfl, w_1_11, w_2_161, (Or.inl w_2_160)⟩)) <|
  P_all_cons (P_lnk_get (P_s1 (c := 4) (P := fun ci => P_fok P_cl P_Tb "OrchardQuery$Groups" 9 ci 0) rfl ⟨_, _, _, "OrchardQuery$Groups", rfl, by decide, (Or.inl rfl), (Or.inl w_4_68)⟩)) <|
  P_all_cons (P_lnk_vi (P_vall (l := P_v42) rfl (P_all_cons (show P_vok _ _ _ 3 31 from ⟨_, rfl, rfl, w_1_5, w_2_155, (Or.inl ⟨P_sg 0 rfl, w_2_156, (Or.inl w_2_154)⟩)⟩) (P_all_nil)))) <|
  P_all_cons (P_lnk_st (by decide) (fun _ => ⟨P_sg 1 rfl, w_1_2, w_1_218, (Or.inr ⟨rfl, _, w_2_163⟩)⟩)) <|
  P_all_cons (P_lnk_vi (P_vall (l := P_v54) rfl (P_all_cons (show P_vok _ _ _ 9 127 from ⟨_, rfl, rfl, w_1_4, w_2_165, (Or.inl ⟨P_sg 2 rfl, w_2_166, (Or.inl w_2_164)⟩)⟩) (P_all_nil)))) <|
  P_all_nil
set_option maxRecDepth 20000 in
theorem P_m47 : P_mstC 47 3 (Option.some Jvm.ClassFile.FieldType.int) P_e47 [] := P_meth (mx := 3) (rt := (Option.some Jvm.ClassFile.FieldType.int)) (hs := []) "OrchardQuery$Groups" false prog_6_method_4_code [] rfl rfl rfl rfl (by decide +kernel) (by decide +kernel) (fun _ => P_g47) (by decide) (fun _ _ => by decide +kernel) (fun q => by cases q) (P_all_cons (by decide +kernel) <| P_all_cons (by decide +kernel) <| P_all_nil) P_l47 (by decide +kernel) P_k47 (fun _ _ => P_hok_nil)
