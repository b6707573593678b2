/-! TABLES of this claim, written by wip/gen.py: methods -/
/-- OrchardQueryLaw.law([I)Z -/
def P_l0 : List (Nat × P_I) := [(0, .new 8, 3, 0, 10, [], []), (4, .invokespecial 92, 7, 0, 137, [], []), (8, .new 93, 11, 0, 11, [], []), (12, .invokespecial 95, 15, 0, 182, [], []), (17, .newarray .long, 19, 0, 1, [], []), (21, .newarray .double, 23, 0, 2, [], []), (176, .invokestatic 96, 179, 3, 270, [], []), (188, .invokevirtual 101, 191, 1, 0, [], []), (194, .invokevirtual 102, 197, 0, 1, [], []), (250, .invokestatic 105, 253, 6, 271, [], []), (280, .invokevirtual 108, 283, 4, 2, [], []), (286, .invokevirtual 102, 289, 0, 1, [], []), (330, .invokestatic 109, 333, 4, 272, [], []), (348, .invokevirtual 112, 351, 2, 3, [], []), (354, .invokevirtual 102, 357, 0, 1, [], []), (398, .invokestatic 113, 401, 4, 273, [], []), (416, .invokevirtual 115, 419, 2, 4, [], []), (422, .invokevirtual 102, 425, 0, 1, [], []), (460, .invokestatic 116, 463, 3, 274, [], []), (472, .invokevirtual 118, 475, 1, 5, [], []), (478, .invokevirtual 102, 481, 0, 1, [], []), (509, .invokevirtual 119, 512, 0, 6, [], []), (513, .invokevirtual 122, 516, 0, 7, [], []), (522, .invokevirtual 123, 525, 0, 8, [], []), (526, .invokevirtual 126, 529, 0, 9, [], []), (535, .invokevirtual 127, 538, 0, 10, [], []), (539, .invokevirtual 130, 542, 0, 11, [], []), (555, .invokestatic 131, 558, 3, 275, [], []), (567, .invokevirtual 133, 570, 1, 12, [], []), (573, .invokevirtual 102, 576, 0, 1, [], []), (617, .invokestatic 134, 620, 4, 276, [], []), (635, .invokevirtual 136, 638, 2, 13, [], []), (641, .invokevirtual 102, 644, 0, 1, [], []), (679, .invokestatic 137, 682, 3, 277, [], []), (691, .invokevirtual 139, 694, 1, 14, [], []), (697, .invokevirtual 102, 700, 0, 1, [], []), (741, .invokestatic 140, 744, 4, 278, [], []), (759, .invokevirtual 142, 762, 2, 15, [], []), (765, .invokevirtual 102, 768, 0, 1, [], []), (797, .invokestatic 143, 800, 2, 279, [], []), (803, .invokevirtual 146, 806, 0, 16, [], []), (809, .invokevirtual 102, 812, 0, 1, [], []), (846, .invokestatic 147, 849, 3, 280, [], []), (858, .invokevirtual 149, 861, 1, 17, [], []), (864, .invokevirtual 102, 867, 0, 1, [], []), (902, .invokestatic 150, 905, 3, 281, [], []), (914, .invokevirtual 152, 917, 1, 18, [], []), (920, .invokevirtual 102, 923, 0, 1, [], []), (951, .invokestatic 153, 954, 2, 282, [], []), (957, .invokevirtual 155, 960, 0, 19, [], []), (963, .invokevirtual 102, 966, 0, 1, [], []), (994, .invokestatic 156, 997, 2, 283, [], []), (1000, .invokevirtual 158, 1003, 0, 20, [], []), (1006, .invokevirtual 102, 1009, 0, 1, [], []), (1045, .invokestatic 159, 1048, 2, 284, [], []), (1051, .invokevirtual 161, 1054, 0, 21, [], []), (1057, .invokevirtual 102, 1060, 0, 1, [], []), (1089, .invokestatic 162, 1092, 2, 285, [], []), (1095, .invokevirtual 164, 1098, 0, 22, [], []), (1101, .invokevirtual 102, 1104, 0, 1, [], []), (1146, .invokestatic 165, 1149, 3, 286, [], []), (1158, .invokevirtual 167, 1161, 1, 23, [], []), (1164, .invokevirtual 102, 1167, 0, 1, [], []), (1202, .invokestatic 168, 1205, 3, 287, [], []), (1214, .invokevirtual 170, 1217, 1, 24, [], []), (1220, .invokevirtual 102, 1223, 0, 1, [], []), (1252, .invokestatic 171, 1255, 2, 288, [], []), (1258, .invokevirtual 173, 1261, 0, 25, [], []), (1264, .invokevirtual 102, 1267, 0, 1, [], []), (1308, .invokestatic 174, 1311, 4, 289, [], []), (1326, .invokevirtual 176, 1329, 2, 26, [], []), (1332, .invokevirtual 102, 1335, 0, 1, [], []), (1370, .invokestatic 177, 1373, 3, 290, [], []), (1382, .invokevirtual 179, 1385, 1, 27, [], []), (1388, .invokevirtual 102, 1391, 0, 1, [], []), (1426, .invokestatic 180, 1429, 3, 291, [], []), (1438, .invokevirtual 182, 1441, 1, 28, [], []), (1444, .invokevirtual 102, 1447, 0, 1, [], []), (1477, .invokestatic 183, 1480, 2, 292, [], []), (1483, .invokevirtual 186, 1486, 0, 29, [], []), (1489, .invokevirtual 102, 1492, 0, 1, [], []), (1540, .invokevirtual 187, 1543, 0, 30, [], []), (1544, .invokevirtual 190, 1547, 0, 31, [], [])]
set_option maxRecDepth 20000 in
theorem P_k0 : ∀ q ∈ P_l0, P_lnk P_cl P_aty P_stat P_tx P_N0 P_Tb P_Y0 "OrchardQueryLaw" false code [] q.1 q.2.1 q.2.2.2.1 q.2.2.2.2.1 :=
  P_all_cons (P_lnk_new (by decide) rfl w_1_22 w_1_23 w_1_1) <|
  P_all_cons (P_lnk_sp (by decide) (fun _ => ⟨P_sg 0 rfl, w_1_1, w_1_25, rfl, rfl, (Or.inl w_1_24)⟩)) <|
  P_all_cons (P_lnk_new (by decide) rfl w_6_84 w_6_85 w_1_13) <|
  P_all_cons (P_lnk_sp (by decide) (fun _ => ⟨P_sg 0 rfl, w_1_13, w_6_87, rfl, rfl, (Or.inl w_6_86)⟩)) <|
  P_all_cons (P_lnk_nwa rfl w_8_70) <|
  P_all_cons (P_lnk_nwa rfl w_8_71) <|
  P_all_cons (P_lnk_st (by decide) (fun _ => ⟨P_sg 3 rfl, w_1_0, w_4_114, (Or.inl w_4_113)⟩)) <|
  P_all_cons (P_lnk_vi (P_vall (l := P_v0) rfl (P_all_cons (show P_vok _ _ _ 11 188 from ⟨_, rfl, rfl, w_1_13, w_6_204, (Or.inl ⟨P_sg 1 rfl, w_6_205, (Or.inl w_6_203)⟩)⟩) (P_all_nil)))) <|
  P_all_cons (P_lnk_vi (P_vall (l := P_v1) rfl (P_all_cons (show P_vok _ _ _ 11 183 from ⟨_, rfl, rfl, w_1_13, w_6_200, (Or.inl ⟨P_sg 0 rfl, w_6_201, (Or.inl w_6_199)⟩)⟩) (P_all_nil)))) <|
  P_all_cons (P_lnk_st (by decide) (fun _ => ⟨P_sg 6 rfl, w_1_0, w_4_211, (Or.inl w_4_210)⟩)) <|
  P_all_cons (P_lnk_vi (P_vall (l := P_v2) rfl (P_all_cons (show P_vok _ _ _ 11 191 from ⟨_, rfl, rfl, w_1_13, w_6_215, (Or.inl ⟨P_sg 4 rfl, w_6_216, (Or.inl w_6_214)⟩)⟩) (P_all_nil)))) <|
  P_all_cons (P_lnk_vi (P_vall (l := P_v1) rfl (P_all_cons (show P_vok _ _ _ 11 183 from ⟨_, rfl, rfl, w_1_13, w_6_200, (Or.inl ⟨P_sg 0 rfl, w_6_201, (Or.inl w_6_199)⟩)⟩) (P_all_nil)))) <|
  P_all_cons (P_lnk_st (by decide) (fun _ => ⟨P_sg 4 rfl, w_1_0, w_5_16, (Or.inl w_5_15)⟩)) <|
  P_all_cons (P_lnk_vi (P_vall (l := P_v3) rfl (P_all_cons (show P_vok _ _ _ 11 192 from ⟨_, rfl, rfl, w_1_13, w_6_230, (Or.inl ⟨P_sg 2 rfl, w_6_231, (Or.inl w_6_229)⟩)⟩) (P_all_nil)))) <|
  P_all_cons (P_lnk_vi (P_vall (l := P_v1) rfl (P_all_cons (show P_vok _ _ _ 11 183 from ⟨_, rfl, rfl, w_1_13, w_6_200, (Or.inl ⟨P_sg 0 rfl, w_6_201, (Or.inl w_6_199)⟩)⟩) (P_all_nil)))) <|
  P_all_cons (P_lnk_st (by decide) (fun _ => ⟨P_sg 4 rfl, w_1_0, w_5_28, (Or.inl w_5_27)⟩)) <|
  P_all_cons (P_lnk_vi (P_vall (l := P_v4) rfl (P_all_cons (show P_vok _ _ _ 11 194 from ⟨_, rfl, rfl, w_1_13, w_6_234, (Or.inl ⟨P_sg 2 rfl, w_6_235, (Or.inl w_6_233)⟩)⟩) (P_all_nil)))) <|
  P_all_cons (P_lnk_vi (P_vall (l := P_v1) rfl (P_all_cons (show P_vok _ _ _ 11 183 from ⟨_, rfl, rfl, w_1_13, w_6_200, (Or.inl ⟨P_sg 0 rfl, w_6_201, (Or.inl w_6_199)⟩)⟩) (P_all_nil)))) <|
  P_all_cons (P_lnk_st (by decide) (fun _ => ⟨P_sg 3 rfl, w_1_0, w_5_36, (Or.inl w_5_35)⟩)) <|
  P_all_cons (P_lnk_vi (P_vall (l := P_v5) rfl (P_all_cons (show P_vok _ _ _ 11 195 from ⟨_, rfl, rfl, w_1_13, w_7_6, (Or.inl ⟨P_sg 1 rfl, w_7_7, (Or.inl w_7_5)⟩)⟩) (P_all_nil)))) <|
  P_all_cons (P_lnk_vi (P_vall (l := P_v1) rfl (P_all_cons (show P_vok _ _ _ 11 183 from ⟨_, rfl, rfl, w_1_13, w_6_200, (Or.inl ⟨P_sg 0 rfl, w_6_201, (Or.inl w_6_199)⟩)⟩) (P_all_nil)))) <|
  P_all_cons (P_lnk_vi (P_vall (l := P_v6) rfl (P_all_cons (show P_vok _ _ _ 10 143 from ⟨_, rfl, rfl, w_1_1, w_2_94, (Or.inl ⟨P_sg 0 rfl, w_2_95, (Or.inl w_2_93)⟩)⟩) (P_all_nil)))) <|
  P_all_cons (P_lnk_vi (P_vall (l := P_v7) rfl (P_all_cons (show P_vok _ _ _ 11 196 from ⟨_, rfl, rfl, w_1_13, w_7_10, (Or.inl ⟨P_sg 0 rfl, w_7_11, (Or.inl w_7_9)⟩)⟩) (P_all_nil)))) <|
  P_all_cons (P_lnk_vi (P_vall (l := P_v8) rfl (P_all_cons (show P_vok _ _ _ 10 144 from ⟨_, rfl, rfl, w_1_1, w_2_122, (Or.inl ⟨P_sg 0 rfl, w_2_123, (Or.inl w_2_121)⟩)⟩) (P_all_nil)))) <|
  P_all_cons (P_lnk_vi (P_vall (l := P_v9) rfl (P_all_cons (show P_vok _ _ _ 11 209 from ⟨_, rfl, rfl, w_1_13, w_7_18, (Or.inl ⟨P_sg 0 rfl, w_7_19, (Or.inl w_7_17)⟩)⟩) (P_all_nil)))) <|
  P_all_cons (P_lnk_vi (P_vall (l := P_v10) rfl (P_all_cons (show P_vok _ _ _ 10 145 from ⟨_, rfl, rfl, w_1_1, w_3_64, (Or.inl ⟨P_sg 0 rfl, w_3_65, (Or.inl w_3_63)⟩)⟩) (P_all_nil)))) <|
  P_all_cons (P_lnk_vi (P_vall (l := P_v11) rfl (P_all_cons (show P_vok _ _ _ 11 210 from ⟨_, rfl, rfl, w_1_13, w_7_70, (Or.inl ⟨P_sg 0 rfl, w_7_71, (Or.inl w_7_69)⟩)⟩) (P_all_nil)))) <|
  P_all_cons (P_lnk_st (by decide) (fun _ => ⟨P_sg 3 rfl, w_1_0, w_5_56, (Or.inl w_5_55)⟩)) <|
  P_all_cons (P_lnk_vi (P_vall (l := P_v12) rfl (P_all_cons (show P_vok _ _ _ 11 212 from ⟨_, rfl, rfl, w_1_13, w_7_74, (Or.inl ⟨P_sg 1 rfl, w_7_75, (Or.inl w_7_73)⟩)⟩) (P_all_nil)))) <|
  P_all_cons (P_lnk_vi (P_vall (l := P_v1) rfl (P_all_cons (show P_vok _ _ _ 11 183 from ⟨_, rfl, rfl, w_1_13, w_6_200, (Or.inl ⟨P_sg 0 rfl, w_6_201, (Or.inl w_6_199)⟩)⟩) (P_all_nil)))) <|
  P_all_cons (P_lnk_st (by decide) (fun _ => ⟨P_sg 4 rfl, w_1_0, w_5_64, (Or.inl w_5_63)⟩)) <|
  P_all_cons (P_lnk_vi (P_vall (l := P_v13) rfl (P_all_cons (show P_vok _ _ _ 11 220 from ⟨_, rfl, rfl, w_1_13, w_7_82, (Or.inl ⟨P_sg 2 rfl, w_7_83, (Or.inl w_7_81)⟩)⟩) (P_all_nil)))) <|
  P_all_cons (P_lnk_vi (P_vall (l := P_v1) rfl (P_all_cons (show P_vok _ _ _ 11 183 from ⟨_, rfl, rfl, w_1_13, w_6_200, (Or.inl ⟨P_sg 0 rfl, w_6_201, (Or.inl w_6_199)⟩)⟩) (P_all_nil)))) <|
  P_all_cons (P_lnk_st (by decide) (fun _ => ⟨P_sg 3 rfl, w_1_0, w_5_82, (Or.inl w_5_81)⟩)) <|
  P_all_cons (P_lnk_vi (P_vall (l := P_v14) rfl (P_all_cons (show P_vok _ _ _ 11 227 from ⟨_, rfl, rfl, w_1_13, w_7_113, (Or.inl ⟨P_sg 1 rfl, w_7_114, (Or.inl w_7_112)⟩)⟩) (P_all_nil)))) <|
  P_all_cons (P_lnk_vi (P_vall (l := P_v1) rfl (P_all_cons (show P_vok _ _ _ 11 183 from ⟨_, rfl, rfl, w_1_13, w_6_200, (Or.inl ⟨P_sg 0 rfl, w_6_201, (Or.inl w_6_199)⟩)⟩) (P_all_nil)))) <|
  P_all_cons (P_lnk_st (by decide) (fun _ => ⟨P_sg 4 rfl, w_1_0, w_5_149, (Or.inl w_5_148)⟩)) <|
  P_all_cons (P_lnk_vi (P_vall (l := P_v15) rfl (P_all_cons (show P_vok _ _ _ 11 228 from ⟨_, rfl, rfl, w_1_13, w_7_141, (Or.inl ⟨P_sg 2 rfl, w_7_142, (Or.inl w_7_140)⟩)⟩) (P_all_nil)))) <|
  P_all_cons (P_lnk_vi (P_vall (l := P_v1) rfl (P_all_cons (show P_vok _ _ _ 11 183 from ⟨_, rfl, rfl, w_1_13, w_6_200, (Or.inl ⟨P_sg 0 rfl, w_6_201, (Or.inl w_6_199)⟩)⟩) (P_all_nil)))) <|
  P_all_cons (P_lnk_st (by decide) (fun _ => ⟨P_sg 2 rfl, w_1_0, w_5_166, (Or.inl w_5_165)⟩)) <|
  P_all_cons (P_lnk_vi (P_vall (l := P_v16) rfl (P_all_cons (show P_vok _ _ _ 11 232 from ⟨_, rfl, rfl, w_1_13, w_7_145, (Or.inl ⟨P_sg 0 rfl, w_7_146, (Or.inl w_7_144)⟩)⟩) (P_all_nil)))) <|
  P_all_cons (P_lnk_vi (P_vall (l := P_v1) rfl (P_all_cons (show P_vok _ _ _ 11 183 from ⟨_, rfl, rfl, w_1_13, w_6_200, (Or.inl ⟨P_sg 0 rfl, w_6_201, (Or.inl w_6_199)⟩)⟩) (P_all_nil)))) <|
  P_all_cons (P_lnk_st (by decide) (fun _ => ⟨P_sg 3 rfl, w_1_0, w_5_183, (Or.inl w_5_182)⟩)) <|
  P_all_cons (P_lnk_vi (P_vall (l := P_v17) rfl (P_all_cons (show P_vok _ _ _ 11 233 from ⟨_, rfl, rfl, w_1_13, w_7_162, (Or.inl ⟨P_sg 1 rfl, w_7_163, (Or.inl w_7_161)⟩)⟩) (P_all_nil)))) <|
  P_all_cons (P_lnk_vi (P_vall (l := P_v1) rfl (P_all_cons (show P_vok _ _ _ 11 183 from ⟨_, rfl, rfl, w_1_13, w_6_200, (Or.inl ⟨P_sg 0 rfl, w_6_201, (Or.inl w_6_199)⟩)⟩) (P_all_nil)))) <|
  P_all_cons (P_lnk_st (by decide) (fun _ => ⟨P_sg 3 rfl, w_1_0, w_5_190, (Or.inl w_5_189)⟩)) <|
  P_all_cons (P_lnk_vi (P_vall (l := P_v18) rfl (P_all_cons (show P_vok _ _ _ 11 234 from ⟨_, rfl, rfl, w_1_13, w_7_166, (Or.inl ⟨P_sg 1 rfl, w_7_167, (Or.inl w_7_165)⟩)⟩) (P_all_nil)))) <|
  P_all_cons (P_lnk_vi (P_vall (l := P_v1) rfl (P_all_cons (show P_vok _ _ _ 11 183 from ⟨_, rfl, rfl, w_1_13, w_6_200, (Or.inl ⟨P_sg 0 rfl, w_6_201, (Or.inl w_6_199)⟩)⟩) (P_all_nil)))) <|
  P_all_cons (P_lnk_st (by decide) (fun _ => ⟨P_sg 2 rfl, w_1_0, w_5_198, (Or.inl w_5_197)⟩)) <|
  P_all_cons (P_lnk_vi (P_vall (l := P_v19) rfl (P_all_cons (show P_vok _ _ _ 11 235 from ⟨_, rfl, rfl, w_1_13, w_7_170, (Or.inl ⟨P_sg 0 rfl, w_7_171, (Or.inl w_7_169)⟩)⟩) (P_all_nil)))) <|
  P_all_cons (P_lnk_vi (P_vall (l := P_v1) rfl (P_all_cons (show P_vok _ _ _ 11 183 from ⟨_, rfl, rfl, w_1_13, w_6_200, (Or.inl ⟨P_sg 0 rfl, w_6_201, (Or.inl w_6_199)⟩)⟩) (P_all_nil)))) <|
  P_all_cons (P_lnk_st (by decide) (fun _ => ⟨P_sg 2 rfl, w_1_0, w_5_205, (Or.inl w_5_204)⟩)) <|
  P_all_cons (P_lnk_vi (P_vall (l := P_v20) rfl (P_all_cons (show P_vok _ _ _ 11 236 from ⟨_, rfl, rfl, w_1_13, w_7_174, (Or.inl ⟨P_sg 0 rfl, w_7_175, (Or.inl w_7_173)⟩)⟩) (P_all_nil)))) <|
  P_all_cons (P_lnk_vi (P_vall (l := P_v1) rfl (P_all_cons (show P_vok _ _ _ 11 183 from ⟨_, rfl, rfl, w_1_13, w_6_200, (Or.inl ⟨P_sg 0 rfl, w_6_201, (Or.inl w_6_199)⟩)⟩) (P_all_nil)))) <|
  P_all_cons (P_lnk_st (by decide) (fun _ => ⟨P_sg 2 rfl, w_1_0, w_5_212, (Or.inl w_5_211)⟩)) <|
  P_all_cons (P_lnk_vi (P_vall (l := P_v21) rfl (P_all_cons (show P_vok _ _ _ 11 255 from ⟨_, rfl, rfl, w_1_13, w_7_178, (Or.inl ⟨P_sg 0 rfl, w_7_179, (Or.inl w_7_177)⟩)⟩) (P_all_nil)))) <|
  P_all_cons (P_lnk_vi (P_vall (l := P_v1) rfl (P_all_cons (show P_vok _ _ _ 11 183 from ⟨_, rfl, rfl, w_1_13, w_6_200, (Or.inl ⟨P_sg 0 rfl, w_6_201, (Or.inl w_6_199)⟩)⟩) (P_all_nil)))) <|
  P_all_cons (P_lnk_st (by decide) (fun _ => ⟨P_sg 2 rfl, w_1_0, w_5_224, (Or.inl w_5_223)⟩)) <|
  P_all_cons (P_lnk_vi (P_vall (l := P_v22) rfl (P_all_cons (show P_vok _ _ _ 11 258 from ⟨_, rfl, rfl, w_1_13, w_7_186, (Or.inl ⟨P_sg 0 rfl, w_7_187, (Or.inl w_7_185)⟩)⟩) (P_all_nil)))) <|
  P_all_cons (P_lnk_vi (P_vall (l := P_v1) rfl (P_all_cons (show P_vok _ _ _ 11 183 from ⟨_, rfl, rfl, w_1_13, w_6_200, (Or.inl ⟨P_sg 0 rfl, w_6_201, (Or.inl w_6_199)⟩)⟩) (P_all_nil)))) <|
  P_all_cons (P_lnk_st (by decide) (fun _ => ⟨P_sg 3 rfl, w_1_0, w_6_11, (Or.inl w_6_10)⟩)) <|
  P_all_cons (P_lnk_vi (P_vall (l := P_v23) rfl (P_all_cons (show P_vok _ _ _ 11 259 from ⟨_, rfl, rfl, w_1_13, w_8_13, (Or.inl ⟨P_sg 1 rfl, w_8_14, (Or.inl w_8_12)⟩)⟩) (P_all_nil)))) <|
  P_all_cons (P_lnk_vi (P_vall (l := P_v1) rfl (P_all_cons (show P_vok _ _ _ 11 183 from ⟨_, rfl, rfl, w_1_13, w_6_200, (Or.inl ⟨P_sg 0 rfl, w_6_201, (Or.inl w_6_199)⟩)⟩) (P_all_nil)))) <|
  P_all_cons (P_lnk_st (by decide) (fun _ => ⟨P_sg 3 rfl, w_1_0, w_6_25, (Or.inl w_6_24)⟩)) <|
  P_all_cons (P_lnk_vi (P_vall (l := P_v24) rfl (P_all_cons (show P_vok _ _ _ 11 261 from ⟨_, rfl, rfl, w_1_13, w_8_17, (Or.inl ⟨P_sg 1 rfl, w_8_18, (Or.inl w_8_16)⟩)⟩) (P_all_nil)))) <|
  P_all_cons (P_lnk_vi (P_vall (l := P_v1) rfl (P_all_cons (show P_vok _ _ _ 11 183 from ⟨_, rfl, rfl, w_1_13, w_6_200, (Or.inl ⟨P_sg 0 rfl, w_6_201, (Or.inl w_6_199)⟩)⟩) (P_all_nil)))) <|
  P_all_cons (P_lnk_st (by decide) (fun _ => ⟨P_sg 2 rfl, w_1_0, w_6_33, (Or.inl w_6_32)⟩)) <|
  P_all_cons (P_lnk_vi (P_vall (l := P_v25) rfl (P_all_cons (show P_vok _ _ _ 11 262 from ⟨_, rfl, rfl, w_1_13, w_8_25, (Or.inl ⟨P_sg 0 rfl, w_8_26, (Or.inl w_8_24)⟩)⟩) (P_all_nil)))) <|
  P_all_cons (P_lnk_vi (P_vall (l := P_v1) rfl (P_all_cons (show P_vok _ _ _ 11 183 from ⟨_, rfl, rfl, w_1_13, w_6_200, (Or.inl ⟨P_sg 0 rfl, w_6_201, (Or.inl w_6_199)⟩)⟩) (P_all_nil)))) <|
  P_all_cons (P_lnk_st (by decide) (fun _ => ⟨P_sg 4 rfl, w_1_0, w_6_40, (Or.inl w_6_39)⟩)) <|
  P_all_cons (P_lnk_vi (P_vall (l := P_v26) rfl (P_all_cons (show P_vok _ _ _ 11 263 from ⟨_, rfl, rfl, w_1_13, w_8_41, (Or.inl ⟨P_sg 2 rfl, w_8_42, (Or.inl w_8_40)⟩)⟩) (P_all_nil)))) <|
  P_all_cons (P_lnk_vi (P_vall (l := P_v1) rfl (P_all_cons (show P_vok _ _ _ 11 183 from ⟨_, rfl, rfl, w_1_13, w_6_200, (Or.inl ⟨P_sg 0 rfl, w_6_201, (Or.inl w_6_199)⟩)⟩) (P_all_nil)))) <|
  P_all_cons (P_lnk_st (by decide) (fun _ => ⟨P_sg 3 rfl, w_1_0, w_6_48, (Or.inl w_6_47)⟩)) <|
  P_all_cons (P_lnk_vi (P_vall (l := P_v27) rfl (P_all_cons (show P_vok _ _ _ 11 265 from ⟨_, rfl, rfl, w_1_13, w_8_45, (Or.inl ⟨P_sg 1 rfl, w_8_46, (Or.inl w_8_44)⟩)⟩) (P_all_nil)))) <|
  P_all_cons (P_lnk_vi (P_vall (l := P_v1) rfl (P_all_cons (show P_vok _ _ _ 11 183 from ⟨_, rfl, rfl, w_1_13, w_6_200, (Or.inl ⟨P_sg 0 rfl, w_6_201, (Or.inl w_6_199)⟩)⟩) (P_all_nil)))) <|
  P_all_cons (P_lnk_st (by decide) (fun _ => ⟨P_sg 3 rfl, w_1_0, w_6_56, (Or.inl w_6_55)⟩)) <|
  P_all_cons (P_lnk_vi (P_vall (l := P_v28) rfl (P_all_cons (show P_vok _ _ _ 11 267 from ⟨_, rfl, rfl, w_1_13, w_8_53, (Or.inl ⟨P_sg 1 rfl, w_8_54, (Or.inl w_8_52)⟩)⟩) (P_all_nil)))) <|
  P_all_cons (P_lnk_vi (P_vall (l := P_v1) rfl (P_all_cons (show P_vok _ _ _ 11 183 from ⟨_, rfl, rfl, w_1_13, w_6_200, (Or.inl ⟨P_sg 0 rfl, w_6_201, (Or.inl w_6_199)⟩)⟩) (P_all_nil)))) <|
  P_all_cons (P_lnk_st (by decide) (fun _ => ⟨P_sg 2 rfl, w_1_0, w_6_73, (Or.inl w_6_72)⟩)) <|
  P_all_cons (P_lnk_vi (P_vall (l := P_v29) rfl (P_all_cons (show P_vok _ _ _ 11 268 from ⟨_, rfl, rfl, w_1_13, w_8_61, (Or.inl ⟨P_sg 0 rfl, w_8_62, (Or.inl w_8_60)⟩)⟩) (P_all_nil)))) <|
  P_all_cons (P_lnk_vi (P_vall (l := P_v1) rfl (P_all_cons (show P_vok _ _ _ 11 183 from ⟨_, rfl, rfl, w_1_13, w_6_200, (Or.inl ⟨P_sg 0 rfl, w_6_201, (Or.inl w_6_199)⟩)⟩) (P_all_nil)))) <|
  P_all_cons (P_lnk_vi (P_vall (l := P_v30) rfl (P_all_cons (show P_vok _ _ _ 10 164 from ⟨_, rfl, rfl, w_1_1, w_3_72, (Or.inl ⟨P_sg 0 rfl, w_3_73, (Or.inl w_3_71)⟩)⟩) (P_all_nil)))) <|
  P_all_cons (P_lnk_vi (P_vall (l := P_v31) rfl (P_all_cons (show P_vok _ _ _ 11 269 from ⟨_, rfl, rfl, w_1_13, w_8_65, (Or.inl ⟨P_sg 0 rfl, w_8_66, (Or.inl w_8_64)⟩)⟩) (P_all_nil)))) <|
  P_all_nil
set_option maxRecDepth 20000 in
theorem P_m0 : P_mst 0 9 (some .boolean) P_e0 [] := P_meth (mx := 9) (rt := (some .boolean)) (hs := []) "OrchardQueryLaw" false code [] rfl rfl rfl rfl (by decide +kernel) (by decide +kernel) (fun q => absurd rfl q) (by decide) (fun _ _ => by decide +kernel) (fun q => by cases q) (P_all_cons (by decide +kernel) <| P_all_cons (by decide +kernel) <| P_all_cons (by decide +kernel) <| P_all_cons (by decide +kernel) <| P_all_cons (by decide +kernel) <| P_all_cons (by decide +kernel) <| P_all_cons (by decide +kernel) <| P_all_cons (by decide +kernel) <| P_all_cons (by decide +kernel) <| P_all_cons (by decide +kernel) <| P_all_cons (by decide +kernel) <| P_all_cons (by decide +kernel) <| P_all_cons (by decide +kernel) <| P_all_cons (by decide +kernel) <| P_all_cons (by decide +kernel) <| P_all_cons (by decide +kernel) <| P_all_cons (by decide +kernel) <| P_all_cons (by decide +kernel) <| P_all_cons (by decide +kernel) <| P_all_cons (by decide +kernel) <| P_all_cons (by decide +kernel) <| P_all_cons (by decide +kernel) <| P_all_cons (by decide +kernel) <| P_all_cons (by decide +kernel) <| P_all_cons (by decide +kernel) <| P_all_cons (by decide +kernel) <| P_all_cons (by decide +kernel) <| P_all_cons (by decide +kernel) <| P_all_cons (by decide +kernel) <| P_all_cons (by decide +kernel) <| P_all_cons (by decide +kernel) <| P_all_cons (by decide +kernel) <| P_all_cons (by decide +kernel) <| P_all_cons (by decide +kernel) <| P_all_cons (by decide +kernel) <| P_all_cons (by decide +kernel) <| P_all_cons (by decide +kernel) <| P_all_cons (by decide +kernel) <| P_all_cons (by decide +kernel) <| P_all_cons (by decide +kernel) <| P_all_cons (by decide +kernel) <| P_all_cons (by decide +kernel) <| P_all_cons (by decide +kernel) <| P_all_cons (by decide +kernel) <| P_all_cons (by decide +kernel) <| P_all_cons (by decide +kernel) <| P_all_cons (by decide +kernel) <| P_all_cons (by decide +kernel) <| P_all_cons (by decide +kernel) <| P_all_nil) P_l0 (by decide +kernel) P_k0 (fun _ _ => P_hok_nil)
/-- OrchardQuery$Answer.<init>(LOrchardQuery$Form;LOrchardQuery$Plan;)V -/
def P_l1 : List (Nat × P_I) := [(3, .invokespecial 3, 6, 2, 128, [], []), (7, .new 9, 10, 0, 4, [], []), (12, .invokespecial 11, 15, 1, 44, [], []), (15, .putfield 14, 18, 0, 8, [], []), (22, .newarray .int, 24, 0, 0, [], []), (24, .putfield 20, 27, 0, 9, [], []), (31, .newarray .int, 33, 0, 0, [], []), (33, .putfield 24, 36, 0, 10, [], []), (40, .newarray .int, 42, 0, 0, [], []), (42, .putfield 27, 45, 0, 11, [], []), (49, .newarray .int, 51, 0, 0, [], []), (51, .putfield 30, 54, 0, 12, [], []), (58, .newarray .int, 60, 0, 0, [], []), (60, .putfield 33, 63, 0, 13, [], [])]
set_option maxRecDepth 20000 in
theorem P_k1 : ∀ q ∈ P_l1, P_lnk P_cl P_aty P_stat P_tx P_N0 P_Tb P_Y0 "OrchardQuery$Answer" true prog_2_method_1_code [] q.1 q.2.1 q.2.2.2.1 q.2.2.2.2.1 :=
  P_all_cons (P_lnk_sp (by decide) (fun _ => ⟨P_sg 2 rfl, w_1_8, w_1_199, rfl, rfl, (Or.inl w_1_198)⟩)) <|
  P_all_cons (P_lnk_new (by decide) rfl w_1_202 w_1_203 w_1_10) <|
  P_all_cons (P_lnk_sp (by decide) (fun _ => ⟨P_sg 1 rfl, w_1_10, w_1_205, rfl, rfl, (Or.inl w_1_204)⟩)) <|
  P_all_cons (P_lnk_put (P_s1 (c := 0) (P := fun ci => P_pok P_cl P_Tb "OrchardQuery$Answer" true 14 ci 8) rfl ⟨_, _, _, "OrchardQuery$Answer", rfl, by decide, (Or.inl rfl), (Or.inl ⟨w_1_221, (Or.inr ⟨rfl, rfl, rfl⟩)⟩)⟩)) <|
  P_all_cons (P_lnk_nwa rfl w_1_56) <|
  P_all_cons (P_lnk_put (P_s1 (c := 0) (P := fun ci => P_pok P_cl P_Tb "OrchardQuery$Answer" true 20 ci 9) rfl ⟨_, _, _, "OrchardQuery$Answer", rfl, by decide, (Or.inl rfl), (Or.inl ⟨w_1_222, (Or.inr ⟨rfl, rfl, rfl⟩)⟩)⟩)) <|
  P_all_cons (P_lnk_nwa rfl w_1_56) <|
  P_all_cons (P_lnk_put (P_s1 (c := 0) (P := fun ci => P_pok P_cl P_Tb "OrchardQuery$Answer" true 24 ci 10) rfl ⟨_, _, _, "OrchardQuery$Answer", rfl, by decide, (Or.inl rfl), (Or.inl ⟨w_1_223, (Or.inr ⟨rfl, rfl, rfl⟩)⟩)⟩)) <|
  P_all_cons (P_lnk_nwa rfl w_1_56) <|
  P_all_cons (P_lnk_put (P_s1 (c := 0) (P := fun ci => P_pok P_cl P_Tb "OrchardQuery$Answer" true 27 ci 11) rfl ⟨_, _, _, "OrchardQuery$Answer", rfl, by decide, (Or.inl rfl), (Or.inl ⟨w_1_224, (Or.inr ⟨rfl, rfl, rfl⟩)⟩)⟩)) <|
  P_all_cons (P_lnk_nwa rfl w_1_56) <|
  P_all_cons (P_lnk_put (P_s1 (c := 0) (P := fun ci => P_pok P_cl P_Tb "OrchardQuery$Answer" true 30 ci 12) rfl ⟨_, _, _, "OrchardQuery$Answer", rfl, by decide, (Or.inl rfl), (Or.inl ⟨w_1_225, (Or.inr ⟨rfl, rfl, rfl⟩)⟩)⟩)) <|
  P_all_cons (P_lnk_nwa rfl w_1_56) <|
  P_all_cons (P_lnk_put (P_s1 (c := 0) (P := fun ci => P_pok P_cl P_Tb "OrchardQuery$Answer" true 33 ci 13) rfl ⟨_, _, _, "OrchardQuery$Answer", rfl, by decide, (Or.inl rfl), (Or.inl ⟨w_1_226, (Or.inr ⟨rfl, rfl, rfl⟩)⟩)⟩)) <|
  P_all_nil
set_option maxRecDepth 20000 in
theorem P_m1 : P_mst 1 3 (Option.none : Option Jvm.ClassFile.FieldType) P_e1 [] := P_meth (mx := 3) (rt := (Option.none : Option Jvm.ClassFile.FieldType)) (hs := []) "OrchardQuery$Answer" true prog_2_method_1_code [] rfl rfl rfl rfl (by decide +kernel) (by decide +kernel) (fun _ => P_g1) (by decide) (fun t q => by cases q) (fun _ => rfl) (P_all_cons (by decide +kernel) <| P_all_cons (by decide +kernel) <| P_all_nil) P_l1 (by decide +kernel) P_k1 (fun _ _ => P_hok_nil)
/-- OrchardQuery$Answer.forget()V -/
def P_l2 : List (Nat × P_I) := [(2, .putfield 36, 5, 0, 16, [], [])]
set_option maxRecDepth 20000 in
theorem P_k2 : ∀ q ∈ P_l2, P_lnk P_cl P_aty P_stat P_tx P_N0 P_Tb P_Y0 "OrchardQuery$Answer" false prog_2_method_2_code [] q.1 q.2.1 q.2.2.2.1 q.2.2.2.2.1 :=
  P_all_cons (P_lnk_put (P_s1 (c := 0) (P := fun ci => P_pok P_cl P_Tb "OrchardQuery$Answer" false 36 ci 16) rfl ⟨_, _, _, "OrchardQuery$Answer", rfl, by decide, (Or.inl rfl), (Or.inl ⟨w_1_229, (Or.inl rfl)⟩)⟩)) <|
  P_all_nil
set_option maxRecDepth 20000 in
theorem P_m2 : P_mst 2 1 (Option.none : Option Jvm.ClassFile.FieldType) P_e2 [] := P_meth (mx := 1) (rt := (Option.none : Option Jvm.ClassFile.FieldType)) (hs := []) "OrchardQuery$Answer" false prog_2_method_2_code [] rfl rfl rfl rfl (by decide +kernel) (by decide +kernel) (fun _ => P_g2) (by decide) (fun _ _ => by decide +kernel) (fun q => by cases q) (P_all_cons (by decide +kernel) <| P_all_nil) P_l2 (by decide +kernel) P_k2 (fun _ _ => P_hok_nil)
/-- OrchardQuery$Answer.bringUpToDate()V -/
def P_l3 : List (Nat × P_I) := [(1, .getfield 36, 4, 0, 16, [], []), (10, .putfield 40, 13, 0, 14, [], []), (14, .getfield 14, 17, 0, 8, [], []), (17, .invokevirtual 44, 20, 0, 32, [], []), (23, .getfield 48, 26, 0, 1, [], []), (26, .invokevirtual 52, 29, 0, 33, [], []), (37, .invokevirtual 58, 40, 0, 34, [], []), (40, .invokevirtual 62, 43, 2, 35, [], []), (44, .getfield 66, 47, 0, 0, [], []), (47, .invokevirtual 70, 50, 0, 36, [], []), (54, .invokevirtual 75, 57, 0, 37, [], []), (58, .getfield 66, 61, 0, 0, [], []), (61, .invokevirtual 78, 64, 0, 38, [], []), (70, .getfield 66, 73, 0, 0, [], []), (73, .invokevirtual 78, 76, 0, 38, [], []), (76, .invokevirtual 81, 79, 1, 39, [], []), (81, .getfield 40, 84, 0, 14, [], []), (85, .getfield 66, 88, 0, 0, [], []), (88, .invokevirtual 85, 91, 0, 40, [], []), (91, .invokestatic 88, 94, 2, 9002, [], []), (94, .putfield 94, 97, 0, 15, [], []), (99, .putfield 36, 102, 0, 16, [], [])]
set_option maxRecDepth 20000 in
theorem P_k3 : ∀ q ∈ P_l3, P_lnk P_cl P_aty P_stat P_tx P_N0 P_Tb P_Y0 "OrchardQuery$Answer" false prog_2_method_3_code [] q.1 q.2.1 q.2.2.2.1 q.2.2.2.2.1 :=
  P_all_cons (P_lnk_get (P_s1 (c := 0) (P := fun ci => P_fok P_cl P_Tb "OrchardQuery$Answer" 36 ci 16) rfl ⟨_, _, _, "OrchardQuery$Answer", rfl, by decide, (Or.inl rfl), (Or.inl w_1_229)⟩)) <|
  P_all_cons (P_lnk_put (P_s1 (c := 0) (P := fun ci => P_pok P_cl P_Tb "OrchardQuery$Answer" false 40 ci 14) rfl ⟨_, _, _, "OrchardQuery$Answer", rfl, by decide, (Or.inl rfl), (Or.inl ⟨w_1_227, (Or.inl rfl)⟩)⟩)) <|
  P_all_cons (P_lnk_get (P_s1 (c := 0) (P := fun ci => P_fok P_cl P_Tb "OrchardQuery$Answer" 14 ci 8) rfl ⟨_, _, _, "OrchardQuery$Answer", rfl, by decide, (Or.inl rfl), (Or.inl w_1_221)⟩)) <|
  P_all_cons (P_lnk_vi (P_vall (l := P_v32) rfl (P_all_cons (show P_vok _ _ _ 4 45 from ⟨_, rfl, rfl, w_1_10, w_3_125, (Or.inl ⟨P_sg 0 rfl, w_3_126, (Or.inl w_3_124)⟩)⟩) (P_all_nil)))) <|
  P_all_cons (P_lnk_get (P_s1 (c := 0) (P := fun ci => P_fok P_cl P_Tb "OrchardQuery$Answer" 48 ci 1) rfl ⟨_, _, _, "OrchardQuery$Answer", rfl, by decide, (Or.inr w_1_235), (Or.inl w_1_234)⟩)) <|
  P_all_cons (P_lnk_vi (P_vall (l := P_v33) rfl (P_all_cons (show P_vok _ _ _ 5 57 from ⟨_, rfl, rfl, w_1_5, w_3_132, (Or.inl ⟨P_sg 0 rfl, w_3_133, (Or.inl w_3_131)⟩)⟩) (P_all_nil)))) <|
  P_all_cons (P_lnk_vi (P_vall (l := P_v34) rfl (P_all_cons (show P_vok _ _ _ 0 4 from ⟨_, rfl, rfl, w_1_9, w_3_137, (Or.inl ⟨P_sg 0 rfl, w_p_22, (Or.inl w_3_135)⟩)⟩) (P_all_nil)))) <|
  P_all_cons (P_lnk_vi (P_vall (l := P_v35) rfl (P_all_cons (show P_vok _ _ _ 0 133 from ⟨_, rfl, rfl, w_1_8, w_3_161, (Or.inr ⟨⟨"OrchardQuery$Answer", "walk", "(II)V"⟩, "OrchardQuery$Walk", P_sg 2 rfl, by decide, w_3_157, w_3_158, w_3_160, (Or.inl ⟨w_3_161, _, _, _, w_3_162⟩)⟩)⟩) (P_all_nil)))) <|
  P_all_cons (P_lnk_get (P_s1 (c := 0) (P := fun ci => P_fok P_cl P_Tb "OrchardQuery$Answer" 66 ci 0) rfl ⟨_, _, _, "OrchardQuery$Answer", rfl, by decide, (Or.inr w_1_232), (Or.inl w_1_231)⟩)) <|
  P_all_cons (P_lnk_vi (P_vall (l := P_v36) rfl (P_all_cons (show P_vok _ _ _ 3 42 from ⟨_, rfl, rfl, w_1_4, w_3_144, (Or.inl ⟨P_sg 0 rfl, w_3_145, (Or.inl w_3_197)⟩)⟩) (P_all_nil)))) <|
  P_all_cons (P_lnk_vi (P_vall (l := P_v37) rfl (P_all_cons (show P_vok _ _ _ 0 10 from ⟨_, rfl, rfl, w_1_9, w_4_18, (Or.inl ⟨P_sg 0 rfl, w_p_23, (Or.inl w_4_16)⟩)⟩) (P_all_nil)))) <|
  P_all_cons (P_lnk_get (P_s1 (c := 0) (P := fun ci => P_fok P_cl P_Tb "OrchardQuery$Answer" 66 ci 0) rfl ⟨_, _, _, "OrchardQuery$Answer", rfl, by decide, (Or.inr w_1_232), (Or.inl w_1_231)⟩)) <|
  P_all_cons (P_lnk_vi (P_vall (l := P_v38) rfl (P_all_cons (show P_vok _ _ _ 3 32 from ⟨_, rfl, rfl, w_1_4, w_3_56, (Or.inl ⟨P_sg 0 rfl, w_3_57, (Or.inl w_4_39)⟩)⟩) (P_all_nil)))) <|
  P_all_cons (P_lnk_get (P_s1 (c := 0) (P := fun ci => P_fok P_cl P_Tb "OrchardQuery$Answer" 66 ci 0) rfl ⟨_, _, _, "OrchardQuery$Answer", rfl, by decide, (Or.inr w_1_232), (Or.inl w_1_231)⟩)) <|
  P_all_cons (P_lnk_vi (P_vall (l := P_v38) rfl (P_all_cons (show P_vok _ _ _ 3 32 from ⟨_, rfl, rfl, w_1_4, w_3_56, (Or.inl ⟨P_sg 0 rfl, w_3_57, (Or.inl w_4_39)⟩)⟩) (P_all_nil)))) <|
  P_all_cons (P_lnk_vi (P_vall (l := P_v39) rfl (P_all_cons (show P_vok _ _ _ 0 11 from ⟨_, rfl, rfl, w_1_9, w_4_42, (Or.inl ⟨P_sg 1 rfl, w_p_26, (Or.inl w_4_40)⟩)⟩) (P_all_nil)))) <|
  P_all_cons (P_lnk_get (P_s1 (c := 0) (P := fun ci => P_fok P_cl P_Tb "OrchardQuery$Answer" 40 ci 14) rfl ⟨_, _, _, "OrchardQuery$Answer", rfl, by decide, (Or.inl rfl), (Or.inl w_1_227)⟩)) <|
  P_all_cons (P_lnk_get (P_s1 (c := 0) (P := fun ci => P_fok P_cl P_Tb "OrchardQuery$Answer" 66 ci 0) rfl ⟨_, _, _, "OrchardQuery$Answer", rfl, by decide, (Or.inr w_1_232), (Or.inl w_1_231)⟩)) <|
  P_all_cons (P_lnk_vi (P_vall (l := P_v40) rfl (P_all_cons (show P_vok _ _ _ 3 33 from ⟨_, rfl, rfl, w_1_4, w_3_153, (Or.inl ⟨P_sg 0 rfl, w_3_154, (Or.inl w_3_152)⟩)⟩) (P_all_nil)))) <|
  P_all_cons (P_lnk_sj (by decide) ⟨(fun q => absurd q (by decide)), fun _ => ⟨w_4_55, w_4_56, w_1_21, w_4_57⟩⟩) <|
  P_all_cons (P_lnk_put (P_s1 (c := 0) (P := fun ci => P_pok P_cl P_Tb "OrchardQuery$Answer" false 94 ci 15) rfl ⟨_, _, _, "OrchardQuery$Answer", rfl, by decide, (Or.inl rfl), (Or.inl ⟨w_1_228, (Or.inl rfl)⟩)⟩)) <|
  P_all_cons (P_lnk_put (P_s1 (c := 0) (P := fun ci => P_pok P_cl P_Tb "OrchardQuery$Answer" false 36 ci 16) rfl ⟨_, _, _, "OrchardQuery$Answer", rfl, by decide, (Or.inl rfl), (Or.inl ⟨w_1_229, (Or.inl rfl)⟩)⟩)) <|
  P_all_nil
set_option maxRecDepth 20000 in
theorem P_m3 : P_mst 3 1 (Option.none : Option Jvm.ClassFile.FieldType) P_e3 [] := P_meth (mx := 1) (rt := (Option.none : Option Jvm.ClassFile.FieldType)) (hs := []) "OrchardQuery$Answer" false prog_2_method_3_code [] rfl rfl rfl rfl (by decide +kernel) (by decide +kernel) (fun _ => P_g3) (by decide) (fun _ _ => by decide +kernel) (fun q => by cases q) (P_all_cons (by decide +kernel) <| P_all_cons (by decide +kernel) <| P_all_cons (by decide +kernel) <| P_all_cons (by decide +kernel) <| P_all_nil) P_l3 (by decide +kernel) P_k3 (fun _ _ => P_hok_nil)
/-- OrchardQuery$Answer.mostNeeded()I -/
def P_l4 : List (Nat × P_I) := [(1, .getfield 66, 4, 0, 0, [], []), (4, .invokevirtual 97, 7, 0, 41, [], []), (11, .getfield 66, 14, 0, 0, [], []), (14, .invokevirtual 85, 17, 0, 40, [], []), (21, .getfield 66, 24, 0, 0, [], []), (24, .invokevirtual 85, 27, 0, 40, [], []), (30, .ldc 100, 32, 1000000000, 0, [], [])]
set_option maxRecDepth 20000 in
theorem P_k4 : ∀ q ∈ P_l4, P_lnk P_cl P_aty P_stat P_tx P_N0 P_Tb P_Y0 "OrchardQuery$Answer" false prog_2_method_4_code [] q.1 q.2.1 q.2.2.2.1 q.2.2.2.2.1 :=
  P_all_cons (P_lnk_get (P_s1 (c := 0) (P := fun ci => P_fok P_cl P_Tb "OrchardQuery$Answer" 66 ci 0) rfl ⟨_, _, _, "OrchardQuery$Answer", rfl, by decide, (Or.inr w_1_232), (Or.inl w_1_231)⟩)) <|
  P_all_cons (P_lnk_vi (P_vall (l := P_v41) rfl (P_all_cons (show P_vok _ _ _ 3 43 from ⟨_, rfl, rfl, w_1_4, w_3_140, (Or.inl ⟨P_sg 0 rfl, w_3_141, (Or.inl w_3_139)⟩)⟩) (P_all_nil)))) <|
  P_all_cons (P_lnk_get (P_s1 (c := 0) (P := fun ci => P_fok P_cl P_Tb "OrchardQuery$Answer" 66 ci 0) rfl ⟨_, _, _, "OrchardQuery$Answer", rfl, by decide, (Or.inr w_1_232), (Or.inl w_1_231)⟩)) <|
  P_all_cons (P_lnk_vi (P_vall (l := P_v40) rfl (P_all_cons (show P_vok _ _ _ 3 33 from ⟨_, rfl, rfl, w_1_4, w_3_153, (Or.inl ⟨P_sg 0 rfl, w_3_154, (Or.inl w_3_152)⟩)⟩) (P_all_nil)))) <|
  P_all_cons (P_lnk_get (P_s1 (c := 0) (P := fun ci => P_fok P_cl P_Tb "OrchardQuery$Answer" 66 ci 0) rfl ⟨_, _, _, "OrchardQuery$Answer", rfl, by decide, (Or.inr w_1_232), (Or.inl w_1_231)⟩)) <|
  P_all_cons (P_lnk_vi (P_vall (l := P_v40) rfl (P_all_cons (show P_vok _ _ _ 3 33 from ⟨_, rfl, rfl, w_1_4, w_3_153, (Or.inl ⟨P_sg 0 rfl, w_3_154, (Or.inl w_3_152)⟩)⟩) (P_all_nil)))) <|
  P_all_cons (P_lnk_ldc w_3_156) <|
  P_all_nil
set_option maxRecDepth 20000 in
theorem P_m4 : P_mst 4 1 (Option.some Jvm.ClassFile.FieldType.int) P_e4 [] := P_meth (mx := 1) (rt := (Option.some Jvm.ClassFile.FieldType.int)) (hs := []) "OrchardQuery$Answer" false prog_2_method_4_code [] rfl rfl rfl rfl (by decide +kernel) (by decide +kernel) (fun _ => P_g4) (by decide) (fun _ _ => by decide +kernel) (fun q => by cases q) (P_all_cons (by decide +kernel) <| P_all_cons (by decide +kernel) <| P_all_nil) P_l4 (by decide +kernel) P_k4 (fun _ _ => P_hok_nil)
/-- OrchardQuery$Answer.resultCount()I -/
def P_l5 : List (Nat × P_I) := [(1, .getfield 94, 4, 0, 15, [], [])]
set_option maxRecDepth 20000 in
theorem P_k5 : ∀ q ∈ P_l5, P_lnk P_cl P_aty P_stat P_tx P_N0 P_Tb P_Y0 "OrchardQuery$Answer" false prog_2_method_5_code [] q.1 q.2.1 q.2.2.2.1 q.2.2.2.2.1 :=
  P_all_cons (P_lnk_get (P_s1 (c := 0) (P := fun ci => P_fok P_cl P_Tb "OrchardQuery$Answer" 94 ci 15) rfl ⟨_, _, _, "OrchardQuery$Answer", rfl, by decide, (Or.inl rfl), (Or.inl w_1_228)⟩)) <|
  P_all_nil
set_option maxRecDepth 20000 in
theorem P_m5 : P_mst 5 1 (Option.some Jvm.ClassFile.FieldType.int) P_e5 [] := P_meth (mx := 1) (rt := (Option.some Jvm.ClassFile.FieldType.int)) (hs := []) "OrchardQuery$Answer" false prog_2_method_5_code [] rfl rfl rfl rfl (by decide +kernel) (by decide +kernel) (fun _ => P_g5) (by decide) (fun _ _ => by decide +kernel) (fun q => by cases q) (P_all_cons (by decide +kernel) <| P_all_nil) P_l5 (by decide +kernel) P_k5 (fun _ _ => P_hok_nil)
/-- OrchardQuery$Answer.readsFor(I)I -/
def P_l6 : List (Nat × P_I) := [(1, .getfield 66, 4, 0, 0, [], []), (4, .invokevirtual 97, 7, 0, 41, [], []), (11, .getfield 24, 14, 0, 10, [], []), (17, .invokestatic 101, 20, 2, 179, [], []), (24, .invokevirtual 105, 27, 0, 42, [], [])]
set_option maxRecDepth 20000 in
theorem P_k6 : ∀ q ∈ P_l6, P_lnk P_cl P_aty P_stat P_tx P_N0 P_Tb P_Y0 "OrchardQuery$Answer" false prog_2_method_6_code [] q.1 q.2.1 q.2.2.2.1 q.2.2.2.2.1 :=
  P_all_cons (P_lnk_get (P_s1 (c := 0) (P := fun ci => P_fok P_cl P_Tb "OrchardQuery$Answer" 66 ci 0) rfl ⟨_, _, _, "OrchardQuery$Answer", rfl, by decide, (Or.inr w_1_232), (Or.inl w_1_231)⟩)) <|
  P_all_cons (P_lnk_vi (P_vall (l := P_v41) rfl (P_all_cons (show P_vok _ _ _ 3 43 from ⟨_, rfl, rfl, w_1_4, w_3_140, (Or.inl ⟨P_sg 0 rfl, w_3_141, (Or.inl w_3_139)⟩)⟩) (P_all_nil)))) <|
  P_all_cons (P_lnk_get (P_s1 (c := 0) (P := fun ci => P_fok P_cl P_Tb "OrchardQuery$Answer" 24 ci 10) rfl ⟨_, _, _, "OrchardQuery$Answer", rfl, by decide, (Or.inl rfl), (Or.inl w_1_223)⟩)) <|
  P_all_cons (P_lnk_st (by decide) (fun _ => ⟨P_sg 2 rfl, w_1_1, w_2_145, (Or.inr ⟨rfl, _, w_4_38⟩)⟩)) <|
  P_all_cons (P_lnk_vi (P_vall (l := P_v42) rfl (P_all_cons (show P_vok _ _ _ 0 129 from ⟨_, rfl, rfl, w_1_8, w_4_5, (Or.inr ⟨⟨"OrchardQuery$Answer", "reads", "()I"⟩, "OrchardQuery$Walk", P_sg 0 rfl, by decide, w_4_1, w_4_2, w_4_4, (Or.inl ⟨w_4_5, _, _, _, w_4_6⟩)⟩)⟩) (P_all_nil)))) <|
  P_all_nil
set_option maxRecDepth 20000 in
theorem P_m6 : P_mst 6 2 (Option.some Jvm.ClassFile.FieldType.int) P_e6 [] := P_meth (mx := 2) (rt := (Option.some Jvm.ClassFile.FieldType.int)) (hs := []) "OrchardQuery$Answer" false prog_2_method_6_code [] rfl rfl rfl rfl (by decide +kernel) (by decide +kernel) (fun _ => P_g6) (by decide) (fun _ _ => by decide +kernel) (fun q => by cases q) (P_all_cons (by decide +kernel) <| P_all_nil) P_l6 (by decide +kernel) P_k6 (fun _ _ => P_hok_nil)
/-- OrchardQuery$Answer.checksFor(I)I -/
def P_l7 : List (Nat × P_I) := [(1, .getfield 66, 4, 0, 0, [], []), (4, .invokevirtual 97, 7, 0, 41, [], []), (11, .getfield 27, 14, 0, 11, [], []), (17, .invokestatic 101, 20, 2, 179, [], []), (24, .invokevirtual 108, 27, 0, 43, [], [])]
set_option maxRecDepth 20000 in
theorem P_k7 : ∀ q ∈ P_l7, P_lnk P_cl P_aty P_stat P_tx P_N0 P_Tb P_Y0 "OrchardQuery$Answer" false prog_2_method_7_code [] q.1 q.2.1 q.2.2.2.1 q.2.2.2.2.1 :=
  P_all_cons (P_lnk_get (P_s1 (c := 0) (P := fun ci => P_fok P_cl P_Tb "OrchardQuery$Answer" 66 ci 0) rfl ⟨_, _, _, "OrchardQuery$Answer", rfl, by decide, (Or.inr w_1_232), (Or.inl w_1_231)⟩)) <|
  P_all_cons (P_lnk_vi (P_vall (l := P_v41) rfl (P_all_cons (show P_vok _ _ _ 3 43 from ⟨_, rfl, rfl, w_1_4, w_3_140, (Or.inl ⟨P_sg 0 rfl, w_3_141, (Or.inl w_3_139)⟩)⟩) (P_all_nil)))) <|
  P_all_cons (P_lnk_get (P_s1 (c := 0) (P := fun ci => P_fok P_cl P_Tb "OrchardQuery$Answer" 27 ci 11) rfl ⟨_, _, _, "OrchardQuery$Answer", rfl, by decide, (Or.inl rfl), (Or.inl w_1_224)⟩)) <|
  P_all_cons (P_lnk_st (by decide) (fun _ => ⟨P_sg 2 rfl, w_1_1, w_2_145, (Or.inr ⟨rfl, _, w_4_38⟩)⟩)) <|
  P_all_cons (P_lnk_vi (P_vall (l := P_v43) rfl (P_all_cons (show P_vok _ _ _ 0 130 from ⟨_, rfl, rfl, w_1_8, w_4_11, (Or.inr ⟨⟨"OrchardQuery$Answer", "checks", "()I"⟩, "OrchardQuery$Walk", P_sg 0 rfl, by decide, w_4_7, w_4_8, w_4_10, (Or.inl ⟨w_4_11, _, _, _, w_4_12⟩)⟩)⟩) (P_all_nil)))) <|
  P_all_nil
set_option maxRecDepth 20000 in
theorem P_m7 : P_mst 7 2 (Option.some Jvm.ClassFile.FieldType.int) P_e7 [] := P_meth (mx := 2) (rt := (Option.some Jvm.ClassFile.FieldType.int)) (hs := []) "OrchardQuery$Answer" false prog_2_method_7_code [] rfl rfl rfl rfl (by decide +kernel) (by decide +kernel) (fun _ => P_g7) (by decide) (fun _ _ => by decide +kernel) (fun q => by cases q) (P_all_cons (by decide +kernel) <| P_all_nil) P_l7 (by decide +kernel) P_k7 (fun _ _ => P_hok_nil)
/-- OrchardQuery$Answer.valueOf(II)I -/
def P_l8 : List (Nat × P_I) := [(1, .getfield 20, 4, 0, 9, [], []), (5, .invokestatic 101, 8, 2, 179, [], []), (10, .getfield 66, 13, 0, 0, [], []), (13, .invokevirtual 70, 16, 0, 36, [], []), (20, .getfield 14, 23, 0, 8, [], []), (25, .invokevirtual 111, 28, 2, 44, [], []), (30, .getfield 14, 33, 0, 8, [], []), (35, .getfield 66, 38, 0, 0, [], []), (39, .invokevirtual 114, 42, 1, 45, [], []), (42, .invokevirtual 118, 45, 2, 46, [], [])]
set_option maxRecDepth 20000 in
theorem P_k8 : ∀ q ∈ P_l8, P_lnk P_cl P_aty P_stat P_tx P_N0 P_Tb P_Y0 "OrchardQuery$Answer" false prog_2_method_8_code [] q.1 q.2.1 q.2.2.2.1 q.2.2.2.2.1 :=
  P_all_cons (P_lnk_get (P_s1 (c := 0) (P := fun ci => P_fok P_cl P_Tb "OrchardQuery$Answer" 20 ci 9) rfl ⟨_, _, _, "OrchardQuery$Answer", rfl, by decide, (Or.inl rfl), (Or.inl w_1_222)⟩)) <|
  P_all_cons (P_lnk_st (by decide) (fun _ => ⟨P_sg 2 rfl, w_1_1, w_2_145, (Or.inr ⟨rfl, _, w_4_38⟩)⟩)) <|
  P_all_cons (P_lnk_get (P_s1 (c := 0) (P := fun ci => P_fok P_cl P_Tb "OrchardQuery$Answer" 66 ci 0) rfl ⟨_, _, _, "OrchardQuery$Answer", rfl, by decide, (Or.inr w_1_232), (Or.inl w_1_231)⟩)) <|
  P_all_cons (P_lnk_vi (P_vall (l := P_v36) rfl (P_all_cons (show P_vok _ _ _ 3 42 from ⟨_, rfl, rfl, w_1_4, w_3_144, (Or.inl ⟨P_sg 0 rfl, w_3_145, (Or.inl w_3_197)⟩)⟩) (P_all_nil)))) <|
  P_all_cons (P_lnk_get (P_s1 (c := 0) (P := fun ci => P_fok P_cl P_Tb "OrchardQuery$Answer" 14 ci 8) rfl ⟨_, _, _, "OrchardQuery$Answer", rfl, by decide, (Or.inl rfl), (Or.inl w_1_221)⟩)) <|
  P_all_cons (P_lnk_vi (P_vall (l := P_v44) rfl (P_all_cons (show P_vok _ _ _ 4 50 from ⟨_, rfl, rfl, w_1_10, w_4_49, (Or.inl ⟨P_sg 2 rfl, w_4_50, (Or.inl w_4_48)⟩)⟩) (P_all_nil)))) <|
  P_all_cons (P_lnk_get (P_s1 (c := 0) (P := fun ci => P_fok P_cl P_Tb "OrchardQuery$Answer" 14 ci 8) rfl ⟨_, _, _, "OrchardQuery$Answer", rfl, by decide, (Or.inl rfl), (Or.inl w_1_221)⟩)) <|
  P_all_cons (P_lnk_get (P_s1 (c := 0) (P := fun ci => P_fok P_cl P_Tb "OrchardQuery$Answer" 66 ci 0) rfl ⟨_, _, _, "OrchardQuery$Answer", rfl, by decide, (Or.inr w_1_232), (Or.inl w_1_231)⟩)) <|
  P_all_cons (P_lnk_vi (P_vall (l := P_v45) rfl (P_all_cons (show P_vok _ _ _ 3 35 from ⟨_, rfl, rfl, w_1_4, w_3_232, (Or.inl ⟨P_sg 1 rfl, w_3_233, (Or.inl w_4_53)⟩)⟩) (P_all_nil)))) <|
  P_all_cons (P_lnk_vi (P_vall (l := P_v46) rfl (P_all_cons (show P_vok _ _ _ 4 51 from ⟨_, rfl, rfl, w_1_10, w_3_236, (Or.inl ⟨P_sg 2 rfl, w_3_237, (Or.inl w_4_54)⟩)⟩) (P_all_nil)))) <|
  P_all_nil
set_option maxRecDepth 20000 in
theorem P_m8 : P_mst 8 4 (Option.some Jvm.ClassFile.FieldType.int) P_e8 [] := P_meth (mx := 4) (rt := (Option.some Jvm.ClassFile.FieldType.int)) (hs := []) "OrchardQuery$Answer" false prog_2_method_8_code [] rfl rfl rfl rfl (by decide +kernel) (by decide +kernel) (fun _ => P_g8) (by decide) (fun _ _ => by decide +kernel) (fun q => by cases q) (P_all_cons (by decide +kernel) <| P_all_cons (by decide +kernel) <| P_all_nil) P_l8 (by decide +kernel) P_k8 (fun _ _ => P_hok_nil)
/-- OrchardQuery$Answer.meet()V -/
def P_l9 : List (Nat × P_I) := [(1, .getfield 66, 4, 0, 0, [], []), (4, .invokevirtual 70, 7, 0, 36, [], []), (11, .getfield 14, 14, 0, 8, [], []), (15, .getfield 14, 18, 0, 8, [], []), (19, .invokevirtual 121, 22, 0, 47, [], []), (22, .invokevirtual 124, 25, 1, 48, [], []), (26, .invokevirtual 121, 29, 0, 47, [], []), (29, .invokevirtual 127, 32, 2, 49, [], []), (34, .getfield 20, 37, 0, 9, [], []), (38, .getfield 40, 41, 0, 14, [], []), (42, .invokevirtual 121, 45, 0, 47, [], []), (45, .invokestatic 130, 48, 3, 180, [], []), (49, .getfield 24, 52, 0, 10, [], []), (53, .getfield 40, 56, 0, 14, [], []), (57, .invokevirtual 105, 60, 0, 42, [], []), (60, .invokestatic 130, 63, 3, 180, [], []), (64, .getfield 27, 67, 0, 11, [], []), (68, .getfield 40, 71, 0, 14, [], []), (72, .invokevirtual 108, 75, 0, 43, [], []), (75, .invokestatic 130, 78, 3, 180, [], []), (80, .getfield 40, 83, 0, 14, [], []), (85, .putfield 40, 88, 0, 14, [], [])]
set_option maxRecDepth 20000 in
theorem P_k9 : ∀ q ∈ P_l9, P_lnk P_cl P_aty P_stat P_tx P_N0 P_Tb P_Y0 "OrchardQuery$Answer" false prog_2_method_9_code [] q.1 q.2.1 q.2.2.2.1 q.2.2.2.2.1 :=
  P_all_cons (P_lnk_get (P_s1 (c := 0) (P := fun ci => P_fok P_cl P_Tb "OrchardQuery$Answer" 66 ci 0) rfl ⟨_, _, _, "OrchardQuery$Answer", rfl, by decide, (Or.inr w_1_232), (Or.inl w_1_231)⟩)) <|
  P_all_cons (P_lnk_vi (P_vall (l := P_v36) rfl (P_all_cons (show P_vok _ _ _ 3 42 from ⟨_, rfl, rfl, w_1_4, w_3_144, (Or.inl ⟨P_sg 0 rfl, w_3_145, (Or.inl w_3_197)⟩)⟩) (P_all_nil)))) <|
  P_all_cons (P_lnk_get (P_s1 (c := 0) (P := fun ci => P_fok P_cl P_Tb "OrchardQuery$Answer" 14 ci 8) rfl ⟨_, _, _, "OrchardQuery$Answer", rfl, by decide, (Or.inl rfl), (Or.inl w_1_221)⟩)) <|
  P_all_cons (P_lnk_get (P_s1 (c := 0) (P := fun ci => P_fok P_cl P_Tb "OrchardQuery$Answer" 14 ci 8) rfl ⟨_, _, _, "OrchardQuery$Answer", rfl, by decide, (Or.inl rfl), (Or.inl w_1_221)⟩)) <|
  P_all_cons (P_lnk_vi (P_vall (l := P_v47) rfl (P_all_cons (show P_vok _ _ _ 0 132 from ⟨_, rfl, rfl, w_1_8, w_3_202, (Or.inr ⟨⟨"OrchardQuery$Answer", "meeting", "()I"⟩, "OrchardQuery$Walk", P_sg 0 rfl, by decide, w_3_198, w_3_199, w_3_201, (Or.inl ⟨w_3_202, _, _, _, w_3_203⟩)⟩)⟩) (P_all_nil)))) <|
  P_all_cons (P_lnk_vi (P_vall (l := P_v48) rfl (P_all_cons (show P_vok _ _ _ 4 47 from ⟨_, rfl, rfl, w_1_10, w_3_205, (Or.inl ⟨P_sg 1 rfl, w_3_206, (Or.inl w_3_204)⟩)⟩) (P_all_nil)))) <|
  P_all_cons (P_lnk_vi (P_vall (l := P_v47) rfl (P_all_cons (show P_vok _ _ _ 0 132 from ⟨_, rfl, rfl, w_1_8, w_3_202, (Or.inr ⟨⟨"OrchardQuery$Answer", "meeting", "()I"⟩, "OrchardQuery$Walk", P_sg 0 rfl, by decide, w_3_198, w_3_199, w_3_201, (Or.inl ⟨w_3_202, _, _, _, w_3_203⟩)⟩)⟩) (P_all_nil)))) <|
  P_all_cons (P_lnk_vi (P_vall (l := P_v49) rfl (P_all_cons (show P_vok _ _ _ 4 46 from ⟨_, rfl, rfl, w_1_10, w_3_224, (Or.inl ⟨P_sg 2 rfl, w_3_225, (Or.inl w_3_223)⟩)⟩) (P_all_nil)))) <|
  P_all_cons (P_lnk_get (P_s1 (c := 0) (P := fun ci => P_fok P_cl P_Tb "OrchardQuery$Answer" 20 ci 9) rfl ⟨_, _, _, "OrchardQuery$Answer", rfl, by decide, (Or.inl rfl), (Or.inl w_1_222)⟩)) <|
  P_all_cons (P_lnk_get (P_s1 (c := 0) (P := fun ci => P_fok P_cl P_Tb "OrchardQuery$Answer" 40 ci 14) rfl ⟨_, _, _, "OrchardQuery$Answer", rfl, by decide, (Or.inl rfl), (Or.inl w_1_227)⟩)) <|
  P_all_cons (P_lnk_vi (P_vall (l := P_v47) rfl (P_all_cons (show P_vok _ _ _ 0 132 from ⟨_, rfl, rfl, w_1_8, w_3_202, (Or.inr ⟨⟨"OrchardQuery$Answer", "meeting", "()I"⟩, "OrchardQuery$Walk", P_sg 0 rfl, by decide, w_3_198, w_3_199, w_3_201, (Or.inl ⟨w_3_202, _, _, _, w_3_203⟩)⟩)⟩) (P_all_nil)))) <|
  P_all_cons (P_lnk_st (by decide) (fun _ => ⟨P_sg 3 rfl, w_1_1, w_2_199, (Or.inr ⟨rfl, _, w_4_0⟩)⟩)) <|
  P_all_cons (P_lnk_get (P_s1 (c := 0) (P := fun ci => P_fok P_cl P_Tb "OrchardQuery$Answer" 24 ci 10) rfl ⟨_, _, _, "OrchardQuery$Answer", rfl, by decide, (Or.inl rfl), (Or.inl w_1_223)⟩)) <|
  P_all_cons (P_lnk_get (P_s1 (c := 0) (P := fun ci => P_fok P_cl P_Tb "OrchardQuery$Answer" 40 ci 14) rfl ⟨_, _, _, "OrchardQuery$Answer", rfl, by decide, (Or.inl rfl), (Or.inl w_1_227)⟩)) <|
  P_all_cons (P_lnk_vi (P_vall (l := P_v42) rfl (P_all_cons (show P_vok _ _ _ 0 129 from ⟨_, rfl, rfl, w_1_8, w_4_5, (Or.inr ⟨⟨"OrchardQuery$Answer", "reads", "()I"⟩, "OrchardQuery$Walk", P_sg 0 rfl, by decide, w_4_1, w_4_2, w_4_4, (Or.inl ⟨w_4_5, _, _, _, w_4_6⟩)⟩)⟩) (P_all_nil)))) <|
  P_all_cons (P_lnk_st (by decide) (fun _ => ⟨P_sg 3 rfl, w_1_1, w_2_199, (Or.inr ⟨rfl, _, w_4_0⟩)⟩)) <|
  P_all_cons (P_lnk_get (P_s1 (c := 0) (P := fun ci => P_fok P_cl P_Tb "OrchardQuery$Answer" 27 ci 11) rfl ⟨_, _, _, "OrchardQuery$Answer", rfl, by decide, (Or.inl rfl), (Or.inl w_1_224)⟩)) <|
  P_all_cons (P_lnk_get (P_s1 (c := 0) (P := fun ci => P_fok P_cl P_Tb "OrchardQuery$Answer" 40 ci 14) rfl ⟨_, _, _, "OrchardQuery$Answer", rfl, by decide, (Or.inl rfl), (Or.inl w_1_227)⟩)) <|
  P_all_cons (P_lnk_vi (P_vall (l := P_v43) rfl (P_all_cons (show P_vok _ _ _ 0 130 from ⟨_, rfl, rfl, w_1_8, w_4_11, (Or.inr ⟨⟨"OrchardQuery$Answer", "checks", "()I"⟩, "OrchardQuery$Walk", P_sg 0 rfl, by decide, w_4_7, w_4_8, w_4_10, (Or.inl ⟨w_4_11, _, _, _, w_4_12⟩)⟩)⟩) (P_all_nil)))) <|
  P_all_cons (P_lnk_st (by decide) (fun _ => ⟨P_sg 3 rfl, w_1_1, w_2_199, (Or.inr ⟨rfl, _, w_4_0⟩)⟩)) <|
  P_all_cons (P_lnk_get (P_s1 (c := 0) (P := fun ci => P_fok P_cl P_Tb "OrchardQuery$Answer" 40 ci 14) rfl ⟨_, _, _, "OrchardQuery$Answer", rfl, by decide, (Or.inl rfl), (Or.inl w_1_227)⟩)) <|
  P_all_cons (P_lnk_put (P_s1 (c := 0) (P := fun ci => P_pok P_cl P_Tb "OrchardQuery$Answer" false 40 ci 14) rfl ⟨_, _, _, "OrchardQuery$Answer", rfl, by decide, (Or.inl rfl), (Or.inl ⟨w_1_227, (Or.inl rfl)⟩)⟩)) <|
  P_all_nil
set_option maxRecDepth 20000 in
theorem P_m9 : P_mst 9 1 (Option.none : Option Jvm.ClassFile.FieldType) P_e9 [] := P_meth (mx := 1) (rt := (Option.none : Option Jvm.ClassFile.FieldType)) (hs := []) "OrchardQuery$Answer" false prog_2_method_9_code [] rfl rfl rfl rfl (by decide +kernel) (by decide +kernel) (fun _ => P_g9) (by decide) (fun _ _ => by decide +kernel) (fun q => by cases q) (P_all_cons (by decide +kernel) <| P_all_cons (by decide +kernel) <| P_all_cons (by decide +kernel) <| P_all_nil) P_l9 (by decide +kernel) P_k9 (fun _ _ => P_hok_nil)
/-- OrchardQuery$Answer.listGroups()V -/
def P_l10 : List (Nat × P_I) := [(1, .getfield 66, 4, 0, 0, [], []), (4, .invokevirtual 134, 7, 0, 50, [], []), (12, .getfield 20, 15, 0, 9, [], []), (17, .invokestatic 130, 20, 3, 180, [], []), (22, .putfield 40, 25, 0, 14, [], []), (35, .getfield 14, 38, 0, 8, [], []), (39, .invokevirtual 137, 42, 1, 51, [], []), (46, .getfield 20, 49, 0, 9, [], []), (50, .getfield 40, 53, 0, 14, [], []), (54, .invokestatic 130, 57, 3, 180, [], []), (58, .getfield 30, 61, 0, 12, [], []), (62, .getfield 40, 65, 0, 14, [], []), (66, .getfield 14, 69, 0, 8, [], []), (70, .invokevirtual 140, 73, 1, 52, [], []), (73, .invokestatic 130, 76, 3, 180, [], []), (78, .getfield 40, 81, 0, 14, [], []), (83, .putfield 40, 86, 0, 14, [], []), (93, .invokevirtual 143, 96, 0, 53, [], [])]
set_option maxRecDepth 20000 in
theorem P_k10 : ∀ q ∈ P_l10, P_lnk P_cl P_aty P_stat P_tx P_N0 P_Tb P_Y0 "OrchardQuery$Answer" false prog_2_method_10_code [] q.1 q.2.1 q.2.2.2.1 q.2.2.2.2.1 :=
  P_all_cons (P_lnk_get (P_s1 (c := 0) (P := fun ci => P_fok P_cl P_Tb "OrchardQuery$Answer" 66 ci 0) rfl ⟨_, _, _, "OrchardQuery$Answer", rfl, by decide, (Or.inr w_1_232), (Or.inl w_1_231)⟩)) <|
  P_all_cons (P_lnk_vi (P_vall (l := P_v50) rfl (P_all_cons (show P_vok _ _ _ 3 31 from ⟨_, rfl, rfl, w_1_4, w_3_209, (Or.inl ⟨P_sg 0 rfl, w_3_210, (Or.inl w_4_20)⟩)⟩) (P_all_nil)))) <|
  P_all_cons (P_lnk_get (P_s1 (c := 0) (P := fun ci => P_fok P_cl P_Tb "OrchardQuery$Answer" 20 ci 9) rfl ⟨_, _, _, "OrchardQuery$Answer", rfl, by decide, (Or.inl rfl), (Or.inl w_1_222)⟩)) <|
  P_all_cons (P_lnk_st (by decide) (fun _ => ⟨P_sg 3 rfl, w_1_1, w_2_199, (Or.inr ⟨rfl, _, w_4_0⟩)⟩)) <|
  P_all_cons (P_lnk_put (P_s1 (c := 0) (P := fun ci => P_pok P_cl P_Tb "OrchardQuery$Answer" false 40 ci 14) rfl ⟨_, _, _, "OrchardQuery$Answer", rfl, by decide, (Or.inl rfl), (Or.inl ⟨w_1_227, (Or.inl rfl)⟩)⟩)) <|
  P_all_cons (P_lnk_get (P_s1 (c := 0) (P := fun ci => P_fok P_cl P_Tb "OrchardQuery$Answer" 14 ci 8) rfl ⟨_, _, _, "OrchardQuery$Answer", rfl, by decide, (Or.inl rfl), (Or.inl w_1_221)⟩)) <|
  P_all_cons (P_lnk_vi (P_vall (l := P_v51) rfl (P_all_cons (show P_vok _ _ _ 4 48 from ⟨_, rfl, rfl, w_1_10, w_4_22, (Or.inl ⟨P_sg 1 rfl, w_4_23, (Or.inl w_4_21)⟩)⟩) (P_all_nil)))) <|
  P_all_cons (P_lnk_get (P_s1 (c := 0) (P := fun ci => P_fok P_cl P_Tb "OrchardQuery$Answer" 20 ci 9) rfl ⟨_, _, _, "OrchardQuery$Answer", rfl, by decide, (Or.inl rfl), (Or.inl w_1_222)⟩)) <|
  P_all_cons (P_lnk_get (P_s1 (c := 0) (P := fun ci => P_fok P_cl P_Tb "OrchardQuery$Answer" 40 ci 14) rfl ⟨_, _, _, "OrchardQuery$Answer", rfl, by decide, (Or.inl rfl), (Or.inl w_1_227)⟩)) <|
  P_all_cons (P_lnk_st (by decide) (fun _ => ⟨P_sg 3 rfl, w_1_1, w_2_199, (Or.inr ⟨rfl, _, w_4_0⟩)⟩)) <|
  P_all_cons (P_lnk_get (P_s1 (c := 0) (P := fun ci => P_fok P_cl P_Tb "OrchardQuery$Answer" 30 ci 12) rfl ⟨_, _, _, "OrchardQuery$Answer", rfl, by decide, (Or.inl rfl), (Or.inl w_1_225)⟩)) <|
  P_all_cons (P_lnk_get (P_s1 (c := 0) (P := fun ci => P_fok P_cl P_Tb "OrchardQuery$Answer" 40 ci 14) rfl ⟨_, _, _, "OrchardQuery$Answer", rfl, by decide, (Or.inl rfl), (Or.inl w_1_227)⟩)) <|
  P_all_cons (P_lnk_get (P_s1 (c := 0) (P := fun ci => P_fok P_cl P_Tb "OrchardQuery$Answer" 14 ci 8) rfl ⟨_, _, _, "OrchardQuery$Answer", rfl, by decide, (Or.inl rfl), (Or.inl w_1_221)⟩)) <|
  P_all_cons (P_lnk_vi (P_vall (l := P_v52) rfl (P_all_cons (show P_vok _ _ _ 4 49 from ⟨_, rfl, rfl, w_1_10, w_4_26, (Or.inl ⟨P_sg 1 rfl, w_4_27, (Or.inl w_4_25)⟩)⟩) (P_all_nil)))) <|
  P_all_cons (P_lnk_st (by decide) (fun _ => ⟨P_sg 3 rfl, w_1_1, w_2_199, (Or.inr ⟨rfl, _, w_4_0⟩)⟩)) <|
  P_all_cons (P_lnk_get (P_s1 (c := 0) (P := fun ci => P_fok P_cl P_Tb "OrchardQuery$Answer" 40 ci 14) rfl ⟨_, _, _, "OrchardQuery$Answer", rfl, by decide, (Or.inl rfl), (Or.inl w_1_227)⟩)) <|
  P_all_cons (P_lnk_put (P_s1 (c := 0) (P := fun ci => P_pok P_cl P_Tb "OrchardQuery$Answer" false 40 ci 14) rfl ⟨_, _, _, "OrchardQuery$Answer", rfl, by decide, (Or.inl rfl), (Or.inl ⟨w_1_227, (Or.inl rfl)⟩)⟩)) <|
  P_all_cons (P_lnk_vi (P_vall (l := P_v53) rfl (P_all_cons (show P_vok _ _ _ 0 12 from ⟨_, rfl, rfl, w_1_9, w_4_31, (Or.inl ⟨P_sg 0 rfl, w_p_24, (Or.inl w_4_29)⟩)⟩) (P_all_nil)))) <|
  P_all_nil
set_option maxRecDepth 20000 in
theorem P_m10 : P_mst 10 2 (Option.none : Option Jvm.ClassFile.FieldType) P_e10 [] := P_meth (mx := 2) (rt := (Option.none : Option Jvm.ClassFile.FieldType)) (hs := []) "OrchardQuery$Answer" false prog_2_method_10_code [] rfl rfl rfl rfl (by decide +kernel) (by decide +kernel) (fun _ => P_g10) (by decide) (fun _ _ => by decide +kernel) (fun q => by cases q) (P_all_cons (by decide +kernel) <| P_all_cons (by decide +kernel) <| P_all_cons (by decide +kernel) <| P_all_cons (by decide +kernel) <| P_all_nil) P_l10 (by decide +kernel) P_k10 (fun _ _ => P_hok_nil)
/-- OrchardQuery$Answer.sortByItem(I)V -/
def P_l11 : List (Nat × P_I) := [(4, .getfield 40, 7, 0, 14, [], []), (11, .getfield 30, 14, 0, 12, [], []), (18, .invokevirtual 146, 21, 2, 54, [], []), (21, .invokestatic 130, 24, 3, 180, [], []), (31, .invokevirtual 143, 34, 0, 53, [], [])]
set_option maxRecDepth 20000 in
theorem P_k11 : ∀ q ∈ P_l11, P_lnk P_cl P_aty P_stat P_tx P_N0 P_Tb P_Y0 "OrchardQuery$Answer" false prog_2_method_11_code [] q.1 q.2.1 q.2.2.2.1 q.2.2.2.2.1 :=
  P_all_cons (P_lnk_get (P_s1 (c := 0) (P := fun ci => P_fok P_cl P_Tb "OrchardQuery$Answer" 40 ci 14) rfl ⟨_, _, _, "OrchardQuery$Answer", rfl, by decide, (Or.inl rfl), (Or.inl w_1_227)⟩)) <|
  P_all_cons (P_lnk_get (P_s1 (c := 0) (P := fun ci => P_fok P_cl P_Tb "OrchardQuery$Answer" 30 ci 12) rfl ⟨_, _, _, "OrchardQuery$Answer", rfl, by decide, (Or.inl rfl), (Or.inl w_1_225)⟩)) <|
  P_all_cons (P_lnk_vi (P_vall (l := P_v54) rfl (P_all_cons (show P_vok _ _ _ 0 8 from ⟨_, rfl, rfl, w_1_9, w_4_45, (Or.inl ⟨P_sg 2 rfl, w_4_46, (Or.inl w_4_44)⟩)⟩) (P_all_nil)))) <|
  P_all_cons (P_lnk_st (by decide) (fun _ => ⟨P_sg 3 rfl, w_1_1, w_2_199, (Or.inr ⟨rfl, _, w_4_0⟩)⟩)) <|
  P_all_cons (P_lnk_vi (P_vall (l := P_v53) rfl (P_all_cons (show P_vok _ _ _ 0 12 from ⟨_, rfl, rfl, w_1_9, w_4_31, (Or.inl ⟨P_sg 0 rfl, w_p_24, (Or.inl w_4_29)⟩)⟩) (P_all_nil)))) <|
  P_all_nil
set_option maxRecDepth 20000 in
theorem P_m11 : P_mst 11 3 (Option.none : Option Jvm.ClassFile.FieldType) P_e11 [] := P_meth (mx := 3) (rt := (Option.none : Option Jvm.ClassFile.FieldType)) (hs := []) "OrchardQuery$Answer" false prog_2_method_11_code [] rfl rfl rfl rfl (by decide +kernel) (by decide +kernel) (fun _ => P_g11) (by decide) (fun _ _ => by decide +kernel) (fun q => by cases q) (P_all_cons (by decide +kernel) <| P_all_cons (by decide +kernel) <| P_all_nil) P_l11 (by decide +kernel) P_k11 (fun _ _ => P_hok_nil)
/-- OrchardQuery$Answer.sortByKeys()V -/
def P_l12 : List (Nat × P_I) := [(2, .ldc 147, 4, (-1000000000), 0, [], []), (15, .getfield 40, 18, 0, 14, [], []), (23, .invokevirtual 148, 26, 1, 55, [], []), (34, .getfield 40, 37, 0, 14, [], []), (41, .getfield 30, 44, 0, 12, [], []), (46, .invokestatic 101, 49, 2, 179, [], []), (55, .getfield 33, 58, 0, 13, [], []), (60, .getfield 20, 63, 0, 9, [], []), (65, .invokestatic 101, 68, 2, 179, [], []), (68, .invokestatic 130, 71, 3, 180, [], []), (93, .getfield 40, 96, 0, 14, [], []), (100, .getfield 20, 103, 0, 9, [], []), (105, .getfield 33, 108, 0, 13, [], []), (109, .invokestatic 101, 112, 2, 179, [], []), (112, .invokestatic 130, 115, 3, 180, [], [])]
set_option maxRecDepth 20000 in
theorem P_k12 : ∀ q ∈ P_l12, P_lnk P_cl P_aty P_stat P_tx P_N0 P_Tb P_Y0 "OrchardQuery$Answer" false prog_2_method_12_code [] q.1 q.2.1 q.2.2.2.1 q.2.2.2.2.1 :=
  P_all_cons (P_lnk_ldc w_4_33) <|
  P_all_cons (P_lnk_get (P_s1 (c := 0) (P := fun ci => P_fok P_cl P_Tb "OrchardQuery$Answer" 40 ci 14) rfl ⟨_, _, _, "OrchardQuery$Answer", rfl, by decide, (Or.inl rfl), (Or.inl w_1_227)⟩)) <|
  P_all_cons (P_lnk_vi (P_vall (l := P_v55) rfl (P_all_cons (show P_vok _ _ _ 0 13 from ⟨_, rfl, rfl, w_1_9, w_4_36, (Or.inl ⟨P_sg 1 rfl, w_p_25, (Or.inl w_4_34)⟩)⟩) (P_all_nil)))) <|
  P_all_cons (P_lnk_get (P_s1 (c := 0) (P := fun ci => P_fok P_cl P_Tb "OrchardQuery$Answer" 40 ci 14) rfl ⟨_, _, _, "OrchardQuery$Answer", rfl, by decide, (Or.inl rfl), (Or.inl w_1_227)⟩)) <|
  P_all_cons (P_lnk_get (P_s1 (c := 0) (P := fun ci => P_fok P_cl P_Tb "OrchardQuery$Answer" 30 ci 12) rfl ⟨_, _, _, "OrchardQuery$Answer", rfl, by decide, (Or.inl rfl), (Or.inl w_1_225)⟩)) <|
  P_all_cons (P_lnk_st (by decide) (fun _ => ⟨P_sg 2 rfl, w_1_1, w_2_145, (Or.inr ⟨rfl, _, w_4_38⟩)⟩)) <|
  P_all_cons (P_lnk_get (P_s1 (c := 0) (P := fun ci => P_fok P_cl P_Tb "OrchardQuery$Answer" 33 ci 13) rfl ⟨_, _, _, "OrchardQuery$Answer", rfl, by decide, (Or.inl rfl), (Or.inl w_1_226)⟩)) <|
  P_all_cons (P_lnk_get (P_s1 (c := 0) (P := fun ci => P_fok P_cl P_Tb "OrchardQuery$Answer" 20 ci 9) rfl ⟨_, _, _, "OrchardQuery$Answer", rfl, by decide, (Or.inl rfl), (Or.inl w_1_222)⟩)) <|
  P_all_cons (P_lnk_st (by decide) (fun _ => ⟨P_sg 2 rfl, w_1_1, w_2_145, (Or.inr ⟨rfl, _, w_4_38⟩)⟩)) <|
  P_all_cons (P_lnk_st (by decide) (fun _ => ⟨P_sg 3 rfl, w_1_1, w_2_199, (Or.inr ⟨rfl, _, w_4_0⟩)⟩)) <|
  P_all_cons (P_lnk_get (P_s1 (c := 0) (P := fun ci => P_fok P_cl P_Tb "OrchardQuery$Answer" 40 ci 14) rfl ⟨_, _, _, "OrchardQuery$Answer", rfl, by decide, (Or.inl rfl), (Or.inl w_1_227)⟩)) <|
  P_all_cons (P_lnk_get (P_s1 (c := 0) (P := fun ci => P_fok P_cl P_Tb "OrchardQuery$Answer" 20 ci 9) rfl ⟨_, _, _, "OrchardQuery$Answer", rfl, by decide, (Or.inl rfl), (Or.inl w_1_222)⟩)) <|
  P_all_cons (P_lnk_get (P_s1 (c := 0) (P := fun ci => P_fok P_cl P_Tb "OrchardQuery$Answer" 33 ci 13) rfl ⟨_, _, _, "OrchardQuery$Answer", rfl, by decide, (Or.inl rfl), (Or.inl w_1_226)⟩)) <|
  P_all_cons (P_lnk_st (by decide) (fun _ => ⟨P_sg 2 rfl, w_1_1, w_2_145, (Or.inr ⟨rfl, _, w_4_38⟩)⟩)) <|
  P_all_cons (P_lnk_st (by decide) (fun _ => ⟨P_sg 3 rfl, w_1_1, w_2_199, (Or.inr ⟨rfl, _, w_4_0⟩)⟩)) <|
  P_all_nil
set_option maxRecDepth 20000 in
theorem P_m12 : P_mst 12 6 (Option.none : Option Jvm.ClassFile.FieldType) P_e12 [] := P_meth (mx := 6) (rt := (Option.none : Option Jvm.ClassFile.FieldType)) (hs := []) "OrchardQuery$Answer" false prog_2_method_12_code [] rfl rfl rfl rfl (by decide +kernel) (by decide +kernel) (fun _ => P_g12) (by decide) (fun _ _ => by decide +kernel) (fun q => by cases q) (P_all_cons (by decide +kernel) <| P_all_cons (by decide +kernel) <| P_all_cons (by decide +kernel) <| P_all_cons (by decide +kernel) <| P_all_nil) P_l12 (by decide +kernel) P_k12 (fun _ _ => P_hok_nil)
/-- OrchardQuery$Answer.smallestKeyBehind(I)I -/
def P_l13 : List (Nat × P_I) := [(0, .ldc 100, 2, 1000000000, 0, [], []), (7, .getfield 40, 10, 0, 14, [], []), (14, .getfield 30, 17, 0, 12, [], []), (18, .invokestatic 101, 21, 2, 179, [], [])]
set_option maxRecDepth 20000 in
theorem P_k13 : ∀ q ∈ P_l13, P_lnk P_cl P_aty P_stat P_tx P_N0 P_Tb P_Y0 "OrchardQuery$Answer" false prog_2_method_13_code [] q.1 q.2.1 q.2.2.2.1 q.2.2.2.2.1 :=
  P_all_cons (P_lnk_ldc w_3_156) <|
  P_all_cons (P_lnk_get (P_s1 (c := 0) (P := fun ci => P_fok P_cl P_Tb "OrchardQuery$Answer" 40 ci 14) rfl ⟨_, _, _, "OrchardQuery$Answer", rfl, by decide, (Or.inl rfl), (Or.inl w_1_227)⟩)) <|
  P_all_cons (P_lnk_get (P_s1 (c := 0) (P := fun ci => P_fok P_cl P_Tb "OrchardQuery$Answer" 30 ci 12) rfl ⟨_, _, _, "OrchardQuery$Answer", rfl, by decide, (Or.inl rfl), (Or.inl w_1_225)⟩)) <|
  P_all_cons (P_lnk_st (by decide) (fun _ => ⟨P_sg 2 rfl, w_1_1, w_2_145, (Or.inr ⟨rfl, _, w_4_38⟩)⟩)) <|
  P_all_nil
set_option maxRecDepth 20000 in
theorem P_m13 : P_mst 13 5 (Option.some Jvm.ClassFile.FieldType.int) P_e13 [] := P_meth (mx := 5) (rt := (Option.some Jvm.ClassFile.FieldType.int)) (hs := []) "OrchardQuery$Answer" false prog_2_method_13_code [] rfl rfl rfl rfl (by decide +kernel) (by decide +kernel) (fun _ => P_g13) (by decide) (fun _ _ => by decide +kernel) (fun q => by cases q) (P_all_cons (by decide +kernel) <| P_all_cons (by decide +kernel) <| P_all_nil) P_l13 (by decide +kernel) P_k13 (fun _ _ => P_hok_nil)
/-- OrchardQuery$Condition.<init>()V -/
def P_l14 : List (Nat × P_I) := [(1, .invokespecial 3, 4, 0, 9000, [], [])]
set_option maxRecDepth 20000 in
theorem P_k14 : ∀ q ∈ P_l14, P_lnk P_cl P_aty P_stat P_tx P_N0 P_Tb P_Y0 "OrchardQuery$Condition" true prog_3_method_1_code [] q.1 q.2.1 q.2.2.2.1 q.2.2.2.2.1 :=
  P_all_cons (P_lnk_oj (fun _ => ⟨w_1_115, w_1_28, w_1_29⟩)) <|
  P_all_nil
set_option maxRecDepth 20000 in
theorem P_m14 : P_mst 14 1 (Option.none : Option Jvm.ClassFile.FieldType) P_e14 [] := P_meth (mx := 1) (rt := (Option.none : Option Jvm.ClassFile.FieldType)) (hs := []) "OrchardQuery$Condition" true prog_3_method_1_code [] rfl rfl rfl rfl (by decide +kernel) (by decide +kernel) (fun _ => P_g14) (by decide) (fun t q => by cases q) (fun _ => rfl) (P_all_cons (by decide +kernel) <| P_all_nil) P_l14 (by decide +kernel) P_k14 (fun _ _ => P_hok_nil)
/-- OrchardQuery$Condition.become(IIII)V -/
def P_l15 : List (Nat × P_I) := [(2, .putfield 9, 5, 1, 0, [], []), (7, .putfield 15, 10, 1, 1, [], []), (12, .putfield 18, 15, 1, 2, [], []), (18, .putfield 21, 21, 1, 3, [], [])]
set_option maxRecDepth 20000 in
theorem P_k15 : ∀ q ∈ P_l15, P_lnk P_cl P_aty P_stat P_tx P_N0 P_Tb P_Y0 "OrchardQuery$Condition" false prog_3_method_2_code [] q.1 q.2.1 q.2.2.2.1 q.2.2.2.2.1 :=
  P_all_cons (P_lnk_put (P_s1 (c := 1) (P := fun ci => P_pok P_cl P_Tb "OrchardQuery$Condition" false 9 ci 0) rfl ⟨_, _, _, "OrchardQuery$Condition", rfl, by decide, (Or.inl rfl), (Or.inl ⟨w_1_116, (Or.inl rfl)⟩)⟩)) <|
  P_all_cons (P_lnk_put (P_s1 (c := 1) (P := fun ci => P_pok P_cl P_Tb "OrchardQuery$Condition" false 15 ci 1) rfl ⟨_, _, _, "OrchardQuery$Condition", rfl, by decide, (Or.inl rfl), (Or.inl ⟨w_1_119, (Or.inl rfl)⟩)⟩)) <|
  P_all_cons (P_lnk_put (P_s1 (c := 1) (P := fun ci => P_pok P_cl P_Tb "OrchardQuery$Condition" false 18 ci 2) rfl ⟨_, _, _, "OrchardQuery$Condition", rfl, by decide, (Or.inl rfl), (Or.inl ⟨w_1_122, (Or.inl rfl)⟩)⟩)) <|
  P_all_cons (P_lnk_put (P_s1 (c := 1) (P := fun ci => P_pok P_cl P_Tb "OrchardQuery$Condition" false 21 ci 3) rfl ⟨_, _, _, "OrchardQuery$Condition", rfl, by decide, (Or.inl rfl), (Or.inl ⟨w_1_125, (Or.inl rfl)⟩)⟩)) <|
  P_all_nil
set_option maxRecDepth 20000 in
theorem P_m15 : P_mst 15 5 (Option.none : Option Jvm.ClassFile.FieldType) P_e15 [] := P_meth (mx := 5) (rt := (Option.none : Option Jvm.ClassFile.FieldType)) (hs := []) "OrchardQuery$Condition" false prog_3_method_2_code [] rfl rfl rfl rfl (by decide +kernel) (by decide +kernel) (fun _ => P_g15) (by decide) (fun _ _ => by decide +kernel) (fun q => by cases q) (P_all_cons (by decide +kernel) <| P_all_nil) P_l15 (by decide +kernel) P_k15 (fun _ _ => P_hok_nil)
/-- OrchardQuery$Condition.isSameTwice()Z -/
def P_l16 : List (Nat × P_I) := [(1, .getfield 9, 4, 1, 0, [], []), (5, .getfield 18, 8, 1, 2, [], [])]
set_option maxRecDepth 20000 in
theorem P_k16 : ∀ q ∈ P_l16, P_lnk P_cl P_aty P_stat P_tx P_N0 P_Tb P_Y0 "OrchardQuery$Condition" false prog_3_method_3_code [] q.1 q.2.1 q.2.2.2.1 q.2.2.2.2.1 :=
  P_all_cons (P_lnk_get (P_s1 (c := 1) (P := fun ci => P_fok P_cl P_Tb "OrchardQuery$Condition" 9 ci 0) rfl ⟨_, _, _, "OrchardQuery$Condition", rfl, by decide, (Or.inl rfl), (Or.inl w_1_116)⟩)) <|
  P_all_cons (P_lnk_get (P_s1 (c := 1) (P := fun ci => P_fok P_cl P_Tb "OrchardQuery$Condition" 18 ci 2) rfl ⟨_, _, _, "OrchardQuery$Condition", rfl, by decide, (Or.inl rfl), (Or.inl w_1_122)⟩)) <|
  P_all_nil
set_option maxRecDepth 20000 in
theorem P_m16 : P_mst 16 1 (Option.some Jvm.ClassFile.FieldType.boolean) P_e16 [] := P_meth (mx := 1) (rt := (Option.some Jvm.ClassFile.FieldType.boolean)) (hs := []) "OrchardQuery$Condition" false prog_3_method_3_code [] rfl rfl rfl rfl (by decide +kernel) (by decide +kernel) (fun _ => P_g16) (by decide) (fun _ _ => by decide +kernel) (fun q => by cases q) (P_all_cons (by decide +kernel) <| P_all_nil) P_l16 (by decide +kernel) P_k16 (fun _ _ => P_hok_nil)
/-- OrchardQuery$Condition.joins()Z -/
def P_l17 : List (Nat × P_I) := [(1, .getfield 15, 4, 1, 1, [], []), (10, .getfield 18, 13, 1, 2, [], []), (13, .invokestatic 24, 16, 1, 175, [], []), (20, .getfield 9, 23, 1, 0, [], []), (24, .getfield 18, 27, 1, 2, [], [])]
set_option maxRecDepth 20000 in
theorem P_k17 : ∀ q ∈ P_l17, P_lnk P_cl P_aty P_stat P_tx P_N0 P_Tb P_Y0 "OrchardQuery$Condition" false prog_3_method_4_code [] q.1 q.2.1 q.2.2.2.1 q.2.2.2.2.1 :=
  P_all_cons (P_lnk_get (P_s1 (c := 1) (P := fun ci => P_fok P_cl P_Tb "OrchardQuery$Condition" 15 ci 1) rfl ⟨_, _, _, "OrchardQuery$Condition", rfl, by decide, (Or.inl rfl), (Or.inl w_1_119)⟩)) <|
  P_all_cons (P_lnk_get (P_s1 (c := 1) (P := fun ci => P_fok P_cl P_Tb "OrchardQuery$Condition" 18 ci 2) rfl ⟨_, _, _, "OrchardQuery$Condition", rfl, by decide, (Or.inl rfl), (Or.inl w_1_122)⟩)) <|
  P_all_cons (P_lnk_st (by decide) (fun _ => ⟨P_sg 1 rfl, w_1_1, w_2_163, (Or.inr ⟨rfl, _, w_5_121⟩)⟩)) <|
  P_all_cons (P_lnk_get (P_s1 (c := 1) (P := fun ci => P_fok P_cl P_Tb "OrchardQuery$Condition" 9 ci 0) rfl ⟨_, _, _, "OrchardQuery$Condition", rfl, by decide, (Or.inl rfl), (Or.inl w_1_116)⟩)) <|
  P_all_cons (P_lnk_get (P_s1 (c := 1) (P := fun ci => P_fok P_cl P_Tb "OrchardQuery$Condition" 18 ci 2) rfl ⟨_, _, _, "OrchardQuery$Condition", rfl, by decide, (Or.inl rfl), (Or.inl w_1_122)⟩)) <|
  P_all_nil
set_option maxRecDepth 20000 in
theorem P_m17 : P_mst 17 1 (Option.some Jvm.ClassFile.FieldType.boolean) P_e17 [] := P_meth (mx := 1) (rt := (Option.some Jvm.ClassFile.FieldType.boolean)) (hs := []) "OrchardQuery$Condition" false prog_3_method_4_code [] rfl rfl rfl rfl (by decide +kernel) (by decide +kernel) (fun _ => P_g17) (by decide) (fun _ _ => by decide +kernel) (fun q => by cases q) (P_all_cons (by decide +kernel) <| P_all_cons (by decide +kernel) <| P_all_nil) P_l17 (by decide +kernel) P_k17 (fun _ _ => P_hok_nil)
/-- OrchardQuery$Condition.fixes()Z -/
def P_l18 : List (Nat × P_I) := [(1, .getfield 15, 4, 1, 1, [], []), (10, .getfield 18, 13, 1, 2, [], []), (13, .invokestatic 28, 16, 1, 176, [], [])]
set_option maxRecDepth 20000 in
theorem P_k18 : ∀ q ∈ P_l18, P_lnk P_cl P_aty P_stat P_tx P_N0 P_Tb P_Y0 "OrchardQuery$Condition" false prog_3_method_5_code [] q.1 q.2.1 q.2.2.2.1 q.2.2.2.2.1 :=
  P_all_cons (P_lnk_get (P_s1 (c := 1) (P := fun ci => P_fok P_cl P_Tb "OrchardQuery$Condition" 15 ci 1) rfl ⟨_, _, _, "OrchardQuery$Condition", rfl, by decide, (Or.inl rfl), (Or.inl w_1_119)⟩)) <|
  P_all_cons (P_lnk_get (P_s1 (c := 1) (P := fun ci => P_fok P_cl P_Tb "OrchardQuery$Condition" 18 ci 2) rfl ⟨_, _, _, "OrchardQuery$Condition", rfl, by decide, (Or.inl rfl), (Or.inl w_1_122)⟩)) <|
  P_all_cons (P_lnk_st (by decide) (fun _ => ⟨P_sg 1 rfl, w_1_1, w_2_233, (Or.inr ⟨rfl, _, w_5_126⟩)⟩)) <|
  P_all_nil
set_option maxRecDepth 20000 in
theorem P_m18 : P_mst 18 1 (Option.some Jvm.ClassFile.FieldType.boolean) P_e18 [] := P_meth (mx := 1) (rt := (Option.some Jvm.ClassFile.FieldType.boolean)) (hs := []) "OrchardQuery$Condition" false prog_3_method_5_code [] rfl rfl rfl rfl (by decide +kernel) (by decide +kernel) (fun _ => P_g18) (by decide) (fun _ _ => by decide +kernel) (fun q => by cases q) (P_all_cons (by decide +kernel) <| P_all_nil) P_l18 (by decide +kernel) P_k18 (fun _ _ => P_hok_nil)
/-- OrchardQuery$Condition.partnerOf(I)I -/
def P_l19 : List (Nat × P_I) := [(1, .getfield 9, 4, 1, 0, [], []), (9, .getfield 18, 12, 1, 2, [], []), (14, .getfield 18, 17, 1, 2, [], []), (22, .getfield 9, 25, 1, 0, [], [])]
set_option maxRecDepth 20000 in
theorem P_k19 : ∀ q ∈ P_l19, P_lnk P_cl P_aty P_stat P_tx P_N0 P_Tb P_Y0 "OrchardQuery$Condition" false prog_3_method_6_code [] q.1 q.2.1 q.2.2.2.1 q.2.2.2.2.1 :=
  P_all_cons (P_lnk_get (P_s1 (c := 1) (P := fun ci => P_fok P_cl P_Tb "OrchardQuery$Condition" 9 ci 0) rfl ⟨_, _, _, "OrchardQuery$Condition", rfl, by decide, (Or.inl rfl), (Or.inl w_1_116)⟩)) <|
  P_all_cons (P_lnk_get (P_s1 (c := 1) (P := fun ci => P_fok P_cl P_Tb "OrchardQuery$Condition" 18 ci 2) rfl ⟨_, _, _, "OrchardQuery$Condition", rfl, by decide, (Or.inl rfl), (Or.inl w_1_122)⟩)) <|
  P_all_cons (P_lnk_get (P_s1 (c := 1) (P := fun ci => P_fok P_cl P_Tb "OrchardQuery$Condition" 18 ci 2) rfl ⟨_, _, _, "OrchardQuery$Condition", rfl, by decide, (Or.inl rfl), (Or.inl w_1_122)⟩)) <|
  P_all_cons (P_lnk_get (P_s1 (c := 1) (P := fun ci => P_fok P_cl P_Tb "OrchardQuery$Condition" 9 ci 0) rfl ⟨_, _, _, "OrchardQuery$Condition", rfl, by decide, (Or.inl rfl), (Or.inl w_1_116)⟩)) <|
  P_all_nil
set_option maxRecDepth 20000 in
theorem P_m19 : P_mst 19 2 (Option.some Jvm.ClassFile.FieldType.int) P_e19 [] := P_meth (mx := 2) (rt := (Option.some Jvm.ClassFile.FieldType.int)) (hs := []) "OrchardQuery$Condition" false prog_3_method_6_code [] rfl rfl rfl rfl (by decide +kernel) (by decide +kernel) (fun _ => P_g19) (by decide) (fun _ _ => by decide +kernel) (fun q => by cases q) (P_all_cons (by decide +kernel) <| P_all_nil) P_l19 (by decide +kernel) P_k19 (fun _ _ => P_hok_nil)
/-- OrchardQuery$Count.<init>(LOrchardQuery$Form;LOrchardQuery$Plan;)V -/
def P_l20 : List (Nat × P_I) := [(3, .invokespecial 1, 6, 2, 128, [], [])]
set_option maxRecDepth 20000 in
theorem P_k20 : ∀ q ∈ P_l20, P_lnk P_cl P_aty P_stat P_tx P_N0 P_Tb P_Y0 "OrchardQuery$Count" true prog_4_method_1_code [] q.1 q.2.1 q.2.2.2.1 q.2.2.2.2.1 :=
  P_all_cons (P_lnk_sp (by decide) (fun _ => ⟨P_sg 2 rfl, w_1_8, w_1_199, rfl, rfl, (Or.inl w_2_42)⟩)) <|
  P_all_nil
set_option maxRecDepth 20000 in
theorem P_m20 : P_mst 20 3 (Option.none : Option Jvm.ClassFile.FieldType) P_e20 [] := P_meth (mx := 3) (rt := (Option.none : Option Jvm.ClassFile.FieldType)) (hs := []) "OrchardQuery$Count" true prog_4_method_1_code [] rfl rfl rfl rfl (by decide +kernel) (by decide +kernel) (fun _ => P_g20) (by decide) (fun t q => by cases q) (fun _ => rfl) (P_all_cons (by decide +kernel) <| P_all_nil) P_l20 (by decide +kernel) P_k20 (fun _ _ => P_hok_nil)
/-- OrchardQuery$Count.meet()V -/
def P_l21 : List (Nat × P_I) := []
set_option maxRecDepth 20000 in
theorem P_k21 : ∀ q ∈ P_l21, P_lnk P_cl P_aty P_stat P_tx P_N0 P_Tb P_Y0 "OrchardQuery$Count" false prog_4_method_2_code [] q.1 q.2.1 q.2.2.2.1 q.2.2.2.2.1 :=
  P_all_nil
set_option maxRecDepth 20000 in
theorem P_m21 : P_mst 21 1 (Option.none : Option Jvm.ClassFile.FieldType) P_e21 [] := P_meth (mx := 1) (rt := (Option.none : Option Jvm.ClassFile.FieldType)) (hs := []) "OrchardQuery$Count" false prog_4_method_2_code [] rfl rfl rfl rfl (by decide +kernel) (by decide +kernel) (fun _ => P_g21) (by decide) (fun _ _ => by decide +kernel) (fun q => by cases q) (P_all_cons (by decide +kernel) <| P_all_nil) P_l21 (by decide +kernel) P_k21 (fun _ _ => P_hok_nil)
/-- OrchardQuery$Form.<init>()V -/
def P_l22 : List (Nat × P_I) := [(1, .invokespecial 3, 4, 0, 9000, [], []), (6, .newarray .int, 8, 0, 0, [], []), (8, .putfield 9, 11, 3, 0, [], []), (13, .newarray .int, 15, 0, 0, [], []), (15, .putfield 15, 18, 3, 1, [], []), (20, .anewarray 18, 23, 0, 109, [], []), (23, .putfield 20, 26, 3, 2, [], []), (27, .new 18, 30, 0, 9, [], []), (32, .invokespecial 24, 35, 1, 118, [], []), (35, .putfield 27, 38, 3, 3, [], [])]
set_option maxRecDepth 20000 in
theorem P_k22 : ∀ q ∈ P_l22, P_lnk P_cl P_aty P_stat P_tx P_N0 P_Tb P_Y0 "OrchardQuery$Form" true prog_5_method_1_code [] q.1 q.2.1 q.2.2.2.1 q.2.2.2.2.1 :=
  P_all_cons (P_lnk_oj (fun _ => ⟨w_1_72, w_1_28, w_1_29⟩)) <|
  P_all_cons (P_lnk_nwa rfl w_1_56) <|
  P_all_cons (P_lnk_put (P_s1 (c := 3) (P := fun ci => P_pok P_cl P_Tb "OrchardQuery$Form" true 9 ci 0) rfl ⟨_, _, _, "OrchardQuery$Form", rfl, by decide, (Or.inl rfl), (Or.inl ⟨w_1_75, (Or.inr ⟨rfl, rfl, rfl⟩)⟩)⟩)) <|
  P_all_cons (P_lnk_nwa rfl w_1_56) <|
  P_all_cons (P_lnk_put (P_s1 (c := 3) (P := fun ci => P_pok P_cl P_Tb "OrchardQuery$Form" true 15 ci 1) rfl ⟨_, _, _, "OrchardQuery$Form", rfl, by decide, (Or.inl rfl), (Or.inl ⟨w_1_76, (Or.inr ⟨rfl, rfl, rfl⟩)⟩)⟩)) <|
  P_all_cons (P_lnk_anw rfl w_1_73 w_1_37) <|
  P_all_cons (P_lnk_put (P_s1 (c := 3) (P := fun ci => P_pok P_cl P_Tb "OrchardQuery$Form" true 20 ci 2) rfl ⟨_, _, _, "OrchardQuery$Form", rfl, by decide, (Or.inl rfl), (Or.inl ⟨w_1_77, (Or.inr ⟨rfl, rfl, rfl⟩)⟩)⟩)) <|
  P_all_cons (P_lnk_new (by decide) rfl w_1_73 w_1_38 w_1_3) <|
  P_all_cons (P_lnk_sp (by decide) (fun _ => ⟨P_sg 1 rfl, w_1_3, w_1_40, rfl, rfl, (Or.inl w_1_74)⟩)) <|
  P_all_cons (P_lnk_put (P_s1 (c := 3) (P := fun ci => P_pok P_cl P_Tb "OrchardQuery$Form" true 27 ci 3) rfl ⟨_, _, _, "OrchardQuery$Form", rfl, by decide, (Or.inl rfl), (Or.inl ⟨w_1_78, (Or.inr ⟨rfl, rfl, rfl⟩)⟩)⟩)) <|
  P_all_nil
set_option maxRecDepth 20000 in
theorem P_m22 : P_mst 22 1 (Option.none : Option Jvm.ClassFile.FieldType) P_e22 [] := P_meth (mx := 1) (rt := (Option.none : Option Jvm.ClassFile.FieldType)) (hs := []) "OrchardQuery$Form" true prog_5_method_1_code [] rfl rfl rfl rfl (by decide +kernel) (by decide +kernel) (fun _ => P_g22) (by decide) (fun t q => by cases q) (fun _ => rfl) (P_all_cons (by decide +kernel) <| P_all_cons (by decide +kernel) <| P_all_nil) P_l22 (by decide +kernel) P_k22 (fun _ _ => P_hok_nil)
/-- OrchardQuery$Form.begin()V -/
def P_l23 : List (Nat × P_I) := [(2, .putfield 31, 5, 3, 4, [], []), (7, .putfield 35, 10, 3, 5, [], []), (12, .putfield 38, 15, 3, 6, [], []), (17, .putfield 41, 20, 3, 7, [], []), (21, .ldc 44, 23, 1000000000, 0, [], []), (23, .putfield 45, 26, 3, 8, [], [])]
set_option maxRecDepth 20000 in
theorem P_k23 : ∀ q ∈ P_l23, P_lnk P_cl P_aty P_stat P_tx P_N0 P_Tb P_Y0 "OrchardQuery$Form" false prog_5_method_2_code [] q.1 q.2.1 q.2.2.2.1 q.2.2.2.2.1 :=
  P_all_cons (P_lnk_put (P_s1 (c := 3) (P := fun ci => P_pok P_cl P_Tb "OrchardQuery$Form" false 31 ci 4) rfl ⟨_, _, _, "OrchardQuery$Form", rfl, by decide, (Or.inl rfl), (Or.inl ⟨w_1_79, (Or.inl rfl)⟩)⟩)) <|
  P_all_cons (P_lnk_put (P_s1 (c := 3) (P := fun ci => P_pok P_cl P_Tb "OrchardQuery$Form" false 35 ci 5) rfl ⟨_, _, _, "OrchardQuery$Form", rfl, by decide, (Or.inl rfl), (Or.inl ⟨w_1_80, (Or.inl rfl)⟩)⟩)) <|
  P_all_cons (P_lnk_put (P_s1 (c := 3) (P := fun ci => P_pok P_cl P_Tb "OrchardQuery$Form" false 38 ci 6) rfl ⟨_, _, _, "OrchardQuery$Form", rfl, by decide, (Or.inl rfl), (Or.inl ⟨w_1_81, (Or.inl rfl)⟩)⟩)) <|
  P_all_cons (P_lnk_put (P_s1 (c := 3) (P := fun ci => P_pok P_cl P_Tb "OrchardQuery$Form" false 41 ci 7) rfl ⟨_, _, _, "OrchardQuery$Form", rfl, by decide, (Or.inl rfl), (Or.inl ⟨w_1_82, (Or.inl rfl)⟩)⟩)) <|
  P_all_cons (P_lnk_ldc w_2_133) <|
  P_all_cons (P_lnk_put (P_s1 (c := 3) (P := fun ci => P_pok P_cl P_Tb "OrchardQuery$Form" false 45 ci 8) rfl ⟨_, _, _, "OrchardQuery$Form", rfl, by decide, (Or.inl rfl), (Or.inl ⟨w_1_83, (Or.inl rfl)⟩)⟩)) <|
  P_all_nil
set_option maxRecDepth 20000 in
theorem P_m23 : P_mst 23 1 (Option.none : Option Jvm.ClassFile.FieldType) P_e23 [] := P_meth (mx := 1) (rt := (Option.none : Option Jvm.ClassFile.FieldType)) (hs := []) "OrchardQuery$Form" false prog_5_method_2_code [] rfl rfl rfl rfl (by decide +kernel) (by decide +kernel) (fun _ => P_g23) (by decide) (fun _ _ => by decide +kernel) (fun q => by cases q) (P_all_cons (by decide +kernel) <| P_all_nil) P_l23 (by decide +kernel) P_k23 (fun _ _ => P_hok_nil)
/-- OrchardQuery$Form.addItem(II)V -/
def P_l24 : List (Nat × P_I) := [(1, .getfield 9, 4, 3, 0, [], []), (5, .getfield 31, 8, 3, 4, [], []), (9, .invokestatic 48, 12, 3, 180, [], []), (13, .getfield 15, 16, 3, 1, [], []), (17, .getfield 31, 20, 3, 4, [], []), (21, .invokestatic 48, 24, 3, 180, [], []), (26, .getfield 31, 29, 3, 4, [], []), (31, .putfield 31, 34, 3, 4, [], [])]
set_option maxRecDepth 20000 in
theorem P_k24 : ∀ q ∈ P_l24, P_lnk P_cl P_aty P_stat P_tx P_N0 P_Tb P_Y0 "OrchardQuery$Form" false prog_5_method_3_code [] q.1 q.2.1 q.2.2.2.1 q.2.2.2.2.1 :=
  P_all_cons (P_lnk_get (P_s1 (c := 3) (P := fun ci => P_fok P_cl P_Tb "OrchardQuery$Form" 9 ci 0) rfl ⟨_, _, _, "OrchardQuery$Form", rfl, by decide, (Or.inl rfl), (Or.inl w_1_75)⟩)) <|
  P_all_cons (P_lnk_get (P_s1 (c := 3) (P := fun ci => P_fok P_cl P_Tb "OrchardQuery$Form" 31 ci 4) rfl ⟨_, _, _, "OrchardQuery$Form", rfl, by decide, (Or.inl rfl), (Or.inl w_1_79)⟩)) <|
  P_all_cons (P_lnk_st (by decide) (fun _ => ⟨P_sg 3 rfl, w_1_1, w_2_199, (Or.inr ⟨rfl, _, w_2_198⟩)⟩)) <|
  P_all_cons (P_lnk_get (P_s1 (c := 3) (P := fun ci => P_fok P_cl P_Tb "OrchardQuery$Form" 15 ci 1) rfl ⟨_, _, _, "OrchardQuery$Form", rfl, by decide, (Or.inl rfl), (Or.inl w_1_76)⟩)) <|
  P_all_cons (P_lnk_get (P_s1 (c := 3) (P := fun ci => P_fok P_cl P_Tb "OrchardQuery$Form" 31 ci 4) rfl ⟨_, _, _, "OrchardQuery$Form", rfl, by decide, (Or.inl rfl), (Or.inl w_1_79)⟩)) <|
  P_all_cons (P_lnk_st (by decide) (fun _ => ⟨P_sg 3 rfl, w_1_1, w_2_199, (Or.inr ⟨rfl, _, w_2_198⟩)⟩)) <|
  P_all_cons (P_lnk_get (P_s1 (c := 3) (P := fun ci => P_fok P_cl P_Tb "OrchardQuery$Form" 31 ci 4) rfl ⟨_, _, _, "OrchardQuery$Form", rfl, by decide, (Or.inl rfl), (Or.inl w_1_79)⟩)) <|
  P_all_cons (P_lnk_put (P_s1 (c := 3) (P := fun ci => P_pok P_cl P_Tb "OrchardQuery$Form" false 31 ci 4) rfl ⟨_, _, _, "OrchardQuery$Form", rfl, by decide, (Or.inl rfl), (Or.inl ⟨w_1_79, (Or.inl rfl)⟩)⟩)) <|
  P_all_nil
set_option maxRecDepth 20000 in
theorem P_m24 : P_mst 24 3 (Option.none : Option Jvm.ClassFile.FieldType) P_e24 [] := P_meth (mx := 3) (rt := (Option.none : Option Jvm.ClassFile.FieldType)) (hs := []) "OrchardQuery$Form" false prog_5_method_3_code [] rfl rfl rfl rfl (by decide +kernel) (by decide +kernel) (fun _ => P_g24) (by decide) (fun _ _ => by decide +kernel) (fun q => by cases q) (P_all_cons (by decide +kernel) <| P_all_cons (by decide +kernel) <| P_all_nil) P_l24 (by decide +kernel) P_k24 (fun _ _ => P_hok_nil)
/-- OrchardQuery$Form.addSeat(LOrchardQuery$Table;)V -/
def P_l25 : List (Nat × P_I) := [(1, .getfield 35, 4, 3, 5, [], []), (8, .getfield 35, 11, 3, 5, [], []), (12, .getfield 20, 15, 3, 2, [], []), (20, .getfield 20, 23, 3, 2, [], []), (24, .getfield 35, 27, 3, 5, [], []), (31, .getfield 35, 34, 3, 5, [], []), (36, .putfield 35, 39, 3, 5, [], [])]
set_option maxRecDepth 20000 in
theorem P_k25 : ∀ q ∈ P_l25, P_lnk P_cl P_aty P_stat P_tx P_N0 P_Tb P_Y0 "OrchardQuery$Form" false prog_5_method_4_code [] q.1 q.2.1 q.2.2.2.1 q.2.2.2.2.1 :=
  P_all_cons (P_lnk_get (P_s1 (c := 3) (P := fun ci => P_fok P_cl P_Tb "OrchardQuery$Form" 35 ci 5) rfl ⟨_, _, _, "OrchardQuery$Form", rfl, by decide, (Or.inl rfl), (Or.inl w_1_80)⟩)) <|
  P_all_cons (P_lnk_get (P_s1 (c := 3) (P := fun ci => P_fok P_cl P_Tb "OrchardQuery$Form" 35 ci 5) rfl ⟨_, _, _, "OrchardQuery$Form", rfl, by decide, (Or.inl rfl), (Or.inl w_1_80)⟩)) <|
  P_all_cons (P_lnk_get (P_s1 (c := 3) (P := fun ci => P_fok P_cl P_Tb "OrchardQuery$Form" 20 ci 2) rfl ⟨_, _, _, "OrchardQuery$Form", rfl, by decide, (Or.inl rfl), (Or.inl w_1_77)⟩)) <|
  P_all_cons (P_lnk_get (P_s1 (c := 3) (P := fun ci => P_fok P_cl P_Tb "OrchardQuery$Form" 20 ci 2) rfl ⟨_, _, _, "OrchardQuery$Form", rfl, by decide, (Or.inl rfl), (Or.inl w_1_77)⟩)) <|
  P_all_cons (P_lnk_get (P_s1 (c := 3) (P := fun ci => P_fok P_cl P_Tb "OrchardQuery$Form" 35 ci 5) rfl ⟨_, _, _, "OrchardQuery$Form", rfl, by decide, (Or.inl rfl), (Or.inl w_1_80)⟩)) <|
  P_all_cons (P_lnk_get (P_s1 (c := 3) (P := fun ci => P_fok P_cl P_Tb "OrchardQuery$Form" 35 ci 5) rfl ⟨_, _, _, "OrchardQuery$Form", rfl, by decide, (Or.inl rfl), (Or.inl w_1_80)⟩)) <|
  P_all_cons (P_lnk_put (P_s1 (c := 3) (P := fun ci => P_pok P_cl P_Tb "OrchardQuery$Form" false 35 ci 5) rfl ⟨_, _, _, "OrchardQuery$Form", rfl, by decide, (Or.inl rfl), (Or.inl ⟨w_1_80, (Or.inl rfl)⟩)⟩)) <|
  P_all_nil
set_option maxRecDepth 20000 in
theorem P_m25 : P_mst 25 2 (Option.none : Option Jvm.ClassFile.FieldType) P_e25 [] := P_meth (mx := 2) (rt := (Option.none : Option Jvm.ClassFile.FieldType)) (hs := []) "OrchardQuery$Form" false prog_5_method_4_code [] rfl rfl rfl rfl (by decide +kernel) (by decide +kernel) (fun _ => P_g25) (by decide) (fun _ _ => by decide +kernel) (fun q => by cases q) (P_all_cons (by decide +kernel) <| P_all_cons (by decide +kernel) <| P_all_nil) P_l25 (by decide +kernel) P_k25 (fun _ _ => P_hok_nil)
/-- OrchardQuery$Form.groupBy(I)V -/
def P_l26 : List (Nat × P_I) := [(2, .putfield 38, 5, 3, 6, [], [])]
set_option maxRecDepth 20000 in
theorem P_k26 : ∀ q ∈ P_l26, P_lnk P_cl P_aty P_stat P_tx P_N0 P_Tb P_Y0 "OrchardQuery$Form" false prog_5_method_5_code [] q.1 q.2.1 q.2.2.2.1 q.2.2.2.2.1 :=
  P_all_cons (P_lnk_put (P_s1 (c := 3) (P := fun ci => P_pok P_cl P_Tb "OrchardQuery$Form" false 38 ci 6) rfl ⟨_, _, _, "OrchardQuery$Form", rfl, by decide, (Or.inl rfl), (Or.inl ⟨w_1_81, (Or.inl rfl)⟩)⟩)) <|
  P_all_nil
set_option maxRecDepth 20000 in
theorem P_m26 : P_mst 26 2 (Option.none : Option Jvm.ClassFile.FieldType) P_e26 [] := P_meth (mx := 2) (rt := (Option.none : Option Jvm.ClassFile.FieldType)) (hs := []) "OrchardQuery$Form" false prog_5_method_5_code [] rfl rfl rfl rfl (by decide +kernel) (by decide +kernel) (fun _ => P_g26) (by decide) (fun _ _ => by decide +kernel) (fun q => by cases q) (P_all_cons (by decide +kernel) <| P_all_nil) P_l26 (by decide +kernel) P_k26 (fun _ _ => P_hok_nil)
/-- OrchardQuery$Form.orderBy(I)V -/
def P_l27 : List (Nat × P_I) := [(2, .putfield 41, 5, 3, 7, [], [])]
set_option maxRecDepth 20000 in
theorem P_k27 : ∀ q ∈ P_l27, P_lnk P_cl P_aty P_stat P_tx P_N0 P_Tb P_Y0 "OrchardQuery$Form" false prog_5_method_6_code [] q.1 q.2.1 q.2.2.2.1 q.2.2.2.2.1 :=
  P_all_cons (P_lnk_put (P_s1 (c := 3) (P := fun ci => P_pok P_cl P_Tb "OrchardQuery$Form" false 41 ci 7) rfl ⟨_, _, _, "OrchardQuery$Form", rfl, by decide, (Or.inl rfl), (Or.inl ⟨w_1_82, (Or.inl rfl)⟩)⟩)) <|
  P_all_nil
set_option maxRecDepth 20000 in
theorem P_m27 : P_mst 27 2 (Option.none : Option Jvm.ClassFile.FieldType) P_e27 [] := P_meth (mx := 2) (rt := (Option.none : Option Jvm.ClassFile.FieldType)) (hs := []) "OrchardQuery$Form" false prog_5_method_6_code [] rfl rfl rfl rfl (by decide +kernel) (by decide +kernel) (fun _ => P_g27) (by decide) (fun _ _ => by decide +kernel) (fun q => by cases q) (P_all_cons (by decide +kernel) <| P_all_nil) P_l27 (by decide +kernel) P_k27 (fun _ _ => P_hok_nil)
/-- OrchardQuery$Form.limitTo(I)V -/
def P_l28 : List (Nat × P_I) := [(2, .putfield 45, 5, 3, 8, [], [])]
set_option maxRecDepth 20000 in
theorem P_k28 : ∀ q ∈ P_l28, P_lnk P_cl P_aty P_stat P_tx P_N0 P_Tb P_Y0 "OrchardQuery$Form" false prog_5_method_7_code [] q.1 q.2.1 q.2.2.2.1 q.2.2.2.2.1 :=
  P_all_cons (P_lnk_put (P_s1 (c := 3) (P := fun ci => P_pok P_cl P_Tb "OrchardQuery$Form" false 45 ci 8) rfl ⟨_, _, _, "OrchardQuery$Form", rfl, by decide, (Or.inl rfl), (Or.inl ⟨w_1_83, (Or.inl rfl)⟩)⟩)) <|
  P_all_nil
set_option maxRecDepth 20000 in
theorem P_m28 : P_mst 28 2 (Option.none : Option Jvm.ClassFile.FieldType) P_e28 [] := P_meth (mx := 2) (rt := (Option.none : Option Jvm.ClassFile.FieldType)) (hs := []) "OrchardQuery$Form" false prog_5_method_7_code [] rfl rfl rfl rfl (by decide +kernel) (by decide +kernel) (fun _ => P_g28) (by decide) (fun _ _ => by decide +kernel) (fun q => by cases q) (P_all_cons (by decide +kernel) <| P_all_nil) P_l28 (by decide +kernel) P_k28 (fun _ _ => P_hok_nil)
/-- OrchardQuery$Form.itemCount()I -/
def P_l29 : List (Nat × P_I) := [(1, .getfield 31, 4, 3, 4, [], [])]
set_option maxRecDepth 20000 in
theorem P_k29 : ∀ q ∈ P_l29, P_lnk P_cl P_aty P_stat P_tx P_N0 P_Tb P_Y0 "OrchardQuery$Form" false prog_5_method_8_code [] q.1 q.2.1 q.2.2.2.1 q.2.2.2.2.1 :=
  P_all_cons (P_lnk_get (P_s1 (c := 3) (P := fun ci => P_fok P_cl P_Tb "OrchardQuery$Form" 31 ci 4) rfl ⟨_, _, _, "OrchardQuery$Form", rfl, by decide, (Or.inl rfl), (Or.inl w_1_79)⟩)) <|
  P_all_nil
set_option maxRecDepth 20000 in
theorem P_m29 : P_mst 29 1 (Option.some Jvm.ClassFile.FieldType.int) P_e29 [] := P_meth (mx := 1) (rt := (Option.some Jvm.ClassFile.FieldType.int)) (hs := []) "OrchardQuery$Form" false prog_5_method_8_code [] rfl rfl rfl rfl (by decide +kernel) (by decide +kernel) (fun _ => P_g29) (by decide) (fun _ _ => by decide +kernel) (fun q => by cases q) (P_all_cons (by decide +kernel) <| P_all_nil) P_l29 (by decide +kernel) P_k29 (fun _ _ => P_hok_nil)
/-- OrchardQuery$Form.seatCount()I -/
def P_l30 : List (Nat × P_I) := [(1, .getfield 35, 4, 3, 5, [], [])]
set_option maxRecDepth 20000 in
theorem P_k30 : ∀ q ∈ P_l30, P_lnk P_cl P_aty P_stat P_tx P_N0 P_Tb P_Y0 "OrchardQuery$Form" false prog_5_method_9_code [] q.1 q.2.1 q.2.2.2.1 q.2.2.2.2.1 :=
  P_all_cons (P_lnk_get (P_s1 (c := 3) (P := fun ci => P_fok P_cl P_Tb "OrchardQuery$Form" 35 ci 5) rfl ⟨_, _, _, "OrchardQuery$Form", rfl, by decide, (Or.inl rfl), (Or.inl w_1_80)⟩)) <|
  P_all_nil
set_option maxRecDepth 20000 in
theorem P_m30 : P_mst 30 1 (Option.some Jvm.ClassFile.FieldType.int) P_e30 [] := P_meth (mx := 1) (rt := (Option.some Jvm.ClassFile.FieldType.int)) (hs := []) "OrchardQuery$Form" false prog_5_method_9_code [] rfl rfl rfl rfl (by decide +kernel) (by decide +kernel) (fun _ => P_g30) (by decide) (fun _ _ => by decide +kernel) (fun q => by cases q) (P_all_cons (by decide +kernel) <| P_all_nil) P_l30 (by decide +kernel) P_k30 (fun _ _ => P_hok_nil)
/-- OrchardQuery$Form.group()I -/
def P_l31 : List (Nat × P_I) := [(1, .getfield 38, 4, 3, 6, [], [])]
set_option maxRecDepth 20000 in
theorem P_k31 : ∀ q ∈ P_l31, P_lnk P_cl P_aty P_stat P_tx P_N0 P_Tb P_Y0 "OrchardQuery$Form" false prog_5_method_10_code [] q.1 q.2.1 q.2.2.2.1 q.2.2.2.2.1 :=
  P_all_cons (P_lnk_get (P_s1 (c := 3) (P := fun ci => P_fok P_cl P_Tb "OrchardQuery$Form" 38 ci 6) rfl ⟨_, _, _, "OrchardQuery$Form", rfl, by decide, (Or.inl rfl), (Or.inl w_1_81)⟩)) <|
  P_all_nil
set_option maxRecDepth 20000 in
theorem P_m31 : P_mst 31 1 (Option.some Jvm.ClassFile.FieldType.int) P_e31 [] := P_meth (mx := 1) (rt := (Option.some Jvm.ClassFile.FieldType.int)) (hs := []) "OrchardQuery$Form" false prog_5_method_10_code [] rfl rfl rfl rfl (by decide +kernel) (by decide +kernel) (fun _ => P_g31) (by decide) (fun _ _ => by decide +kernel) (fun q => by cases q) (P_all_cons (by decide +kernel) <| P_all_nil) P_l31 (by decide +kernel) P_k31 (fun _ _ => P_hok_nil)
/-- OrchardQuery$Form.orderItem()I -/
def P_l32 : List (Nat × P_I) := [(1, .getfield 41, 4, 3, 7, [], [])]
set_option maxRecDepth 20000 in
theorem P_k32 : ∀ q ∈ P_l32, P_lnk P_cl P_aty P_stat P_tx P_N0 P_Tb P_Y0 "OrchardQuery$Form" false prog_5_method_11_code [] q.1 q.2.1 q.2.2.2.1 q.2.2.2.2.1 :=
  P_all_cons (P_lnk_get (P_s1 (c := 3) (P := fun ci => P_fok P_cl P_Tb "OrchardQuery$Form" 41 ci 7) rfl ⟨_, _, _, "OrchardQuery$Form", rfl, by decide, (Or.inl rfl), (Or.inl w_1_82)⟩)) <|
  P_all_nil
set_option maxRecDepth 20000 in
theorem P_m32 : P_mst 32 1 (Option.some Jvm.ClassFile.FieldType.int) P_e32 [] := P_meth (mx := 1) (rt := (Option.some Jvm.ClassFile.FieldType.int)) (hs := []) "OrchardQuery$Form" false prog_5_method_11_code [] rfl rfl rfl rfl (by decide +kernel) (by decide +kernel) (fun _ => P_g32) (by decide) (fun _ _ => by decide +kernel) (fun q => by cases q) (P_all_cons (by decide +kernel) <| P_all_nil) P_l32 (by decide +kernel) P_k32 (fun _ _ => P_hok_nil)
/-- OrchardQuery$Form.limit()I -/
def P_l33 : List (Nat × P_I) := [(1, .getfield 45, 4, 3, 8, [], [])]
set_option maxRecDepth 20000 in
theorem P_k33 : ∀ q ∈ P_l33, P_lnk P_cl P_aty P_stat P_tx P_N0 P_Tb P_Y0 "OrchardQuery$Form" false prog_5_method_12_code [] q.1 q.2.1 q.2.2.2.1 q.2.2.2.2.1 :=
  P_all_cons (P_lnk_get (P_s1 (c := 3) (P := fun ci => P_fok P_cl P_Tb "OrchardQuery$Form" 45 ci 8) rfl ⟨_, _, _, "OrchardQuery$Form", rfl, by decide, (Or.inl rfl), (Or.inl w_1_83)⟩)) <|
  P_all_nil
set_option maxRecDepth 20000 in
theorem P_m33 : P_mst 33 1 (Option.some Jvm.ClassFile.FieldType.int) P_e33 [] := P_meth (mx := 1) (rt := (Option.some Jvm.ClassFile.FieldType.int)) (hs := []) "OrchardQuery$Form" false prog_5_method_12_code [] rfl rfl rfl rfl (by decide +kernel) (by decide +kernel) (fun _ => P_g33) (by decide) (fun _ _ => by decide +kernel) (fun q => by cases q) (P_all_cons (by decide +kernel) <| P_all_nil) P_l33 (by decide +kernel) P_k33 (fun _ _ => P_hok_nil)
/-- OrchardQuery$Form.kindOf(I)I -/
def P_l34 : List (Nat × P_I) := [(1, .getfield 9, 4, 3, 0, [], []), (5, .invokestatic 52, 8, 2, 179, [], [])]
set_option maxRecDepth 20000 in
theorem P_k34 : ∀ q ∈ P_l34, P_lnk P_cl P_aty P_stat P_tx P_N0 P_Tb P_Y0 "OrchardQuery$Form" false prog_5_method_13_code [] q.1 q.2.1 q.2.2.2.1 q.2.2.2.2.1 :=
  P_all_cons (P_lnk_get (P_s1 (c := 3) (P := fun ci => P_fok P_cl P_Tb "OrchardQuery$Form" 9 ci 0) rfl ⟨_, _, _, "OrchardQuery$Form", rfl, by decide, (Or.inl rfl), (Or.inl w_1_75)⟩)) <|
  P_all_cons (P_lnk_st (by decide) (fun _ => ⟨P_sg 2 rfl, w_1_1, w_2_145, (Or.inr ⟨rfl, _, w_3_151⟩)⟩)) <|
  P_all_nil
set_option maxRecDepth 20000 in
theorem P_m34 : P_mst 34 2 (Option.some Jvm.ClassFile.FieldType.int) P_e34 [] := P_meth (mx := 2) (rt := (Option.some Jvm.ClassFile.FieldType.int)) (hs := []) "OrchardQuery$Form" false prog_5_method_13_code [] rfl rfl rfl rfl (by decide +kernel) (by decide +kernel) (fun _ => P_g34) (by decide) (fun _ _ => by decide +kernel) (fun q => by cases q) (P_all_cons (by decide +kernel) <| P_all_nil) P_l34 (by decide +kernel) P_k34 (fun _ _ => P_hok_nil)
/-- OrchardQuery$Form.columnOfItem(I)I -/
def P_l35 : List (Nat × P_I) := [(1, .getfield 15, 4, 3, 1, [], []), (5, .invokestatic 52, 8, 2, 179, [], [])]
set_option maxRecDepth 20000 in
theorem P_k35 : ∀ q ∈ P_l35, P_lnk P_cl P_aty P_stat P_tx P_N0 P_Tb P_Y0 "OrchardQuery$Form" false prog_5_method_14_code [] q.1 q.2.1 q.2.2.2.1 q.2.2.2.2.1 :=
  P_all_cons (P_lnk_get (P_s1 (c := 3) (P := fun ci => P_fok P_cl P_Tb "OrchardQuery$Form" 15 ci 1) rfl ⟨_, _, _, "OrchardQuery$Form", rfl, by decide, (Or.inl rfl), (Or.inl w_1_76)⟩)) <|
  P_all_cons (P_lnk_st (by decide) (fun _ => ⟨P_sg 2 rfl, w_1_1, w_2_145, (Or.inr ⟨rfl, _, w_3_151⟩)⟩)) <|
  P_all_nil
set_option maxRecDepth 20000 in
theorem P_m35 : P_mst 35 2 (Option.some Jvm.ClassFile.FieldType.int) P_e35 [] := P_meth (mx := 2) (rt := (Option.some Jvm.ClassFile.FieldType.int)) (hs := []) "OrchardQuery$Form" false prog_5_method_14_code [] rfl rfl rfl rfl (by decide +kernel) (by decide +kernel) (fun _ => P_g35) (by decide) (fun _ _ => by decide +kernel) (fun q => by cases q) (P_all_cons (by decide +kernel) <| P_all_nil) P_l35 (by decide +kernel) P_k35 (fun _ _ => P_hok_nil)
/-- OrchardQuery$Form.hasItem(I)Z -/
def P_l36 : List (Nat × P_I) := [(6, .getfield 31, 9, 3, 4, [], [])]
set_option maxRecDepth 20000 in
theorem P_k36 : ∀ q ∈ P_l36, P_lnk P_cl P_aty P_stat P_tx P_N0 P_Tb P_Y0 "OrchardQuery$Form" false prog_5_method_15_code [] q.1 q.2.1 q.2.2.2.1 q.2.2.2.2.1 :=
  P_all_cons (P_lnk_get (P_s1 (c := 3) (P := fun ci => P_fok P_cl P_Tb "OrchardQuery$Form" 31 ci 4) rfl ⟨_, _, _, "OrchardQuery$Form", rfl, by decide, (Or.inl rfl), (Or.inl w_1_79)⟩)) <|
  P_all_nil
set_option maxRecDepth 20000 in
theorem P_m36 : P_mst 36 2 (Option.some Jvm.ClassFile.FieldType.boolean) P_e36 [] := P_meth (mx := 2) (rt := (Option.some Jvm.ClassFile.FieldType.boolean)) (hs := []) "OrchardQuery$Form" false prog_5_method_15_code [] rfl rfl rfl rfl (by decide +kernel) (by decide +kernel) (fun _ => P_g36) (by decide) (fun _ _ => by decide +kernel) (fun q => by cases q) (P_all_cons (by decide +kernel) <| P_all_nil) P_l36 (by decide +kernel) P_k36 (fun _ _ => P_hok_nil)
/-- OrchardQuery$Form.hasSeat(I)Z -/
def P_l37 : List (Nat × P_I) := [(6, .getfield 35, 9, 3, 5, [], [])]
set_option maxRecDepth 20000 in
theorem P_k37 : ∀ q ∈ P_l37, P_lnk P_cl P_aty P_stat P_tx P_N0 P_Tb P_Y0 "OrchardQuery$Form" false prog_5_method_16_code [] q.1 q.2.1 q.2.2.2.1 q.2.2.2.2.1 :=
  P_all_cons (P_lnk_get (P_s1 (c := 3) (P := fun ci => P_fok P_cl P_Tb "OrchardQuery$Form" 35 ci 5) rfl ⟨_, _, _, "OrchardQuery$Form", rfl, by decide, (Or.inl rfl), (Or.inl w_1_80)⟩)) <|
  P_all_nil
set_option maxRecDepth 20000 in
theorem P_m37 : P_mst 37 2 (Option.some Jvm.ClassFile.FieldType.boolean) P_e37 [] := P_meth (mx := 2) (rt := (Option.some Jvm.ClassFile.FieldType.boolean)) (hs := []) "OrchardQuery$Form" false prog_5_method_16_code [] rfl rfl rfl rfl (by decide +kernel) (by decide +kernel) (fun _ => P_g37) (by decide) (fun _ _ => by decide +kernel) (fun q => by cases q) (P_all_cons (by decide +kernel) <| P_all_nil) P_l37 (by decide +kernel) P_k37 (fun _ _ => P_hok_nil)
/-- OrchardQuery$Form.tableOf(I)LOrchardQuery$Table; -/
def P_l38 : List (Nat × P_I) := [(6, .getfield 35, 9, 3, 5, [], []), (14, .getfield 20, 17, 3, 2, [], []), (22, .getfield 27, 25, 3, 3, [], []), (27, .getfield 20, 30, 3, 2, [], []), (38, .getfield 27, 41, 3, 3, [], [])]
set_option maxRecDepth 20000 in
theorem P_k38 : ∀ q ∈ P_l38, P_lnk P_cl P_aty P_stat P_tx P_N0 P_Tb P_Y0 "OrchardQuery$Form" false prog_5_method_17_code [] q.1 q.2.1 q.2.2.2.1 q.2.2.2.2.1 :=
  P_all_cons (P_lnk_get (P_s1 (c := 3) (P := fun ci => P_fok P_cl P_Tb "OrchardQuery$Form" 35 ci 5) rfl ⟨_, _, _, "OrchardQuery$Form", rfl, by decide, (Or.inl rfl), (Or.inl w_1_80)⟩)) <|
  P_all_cons (P_lnk_get (P_s1 (c := 3) (P := fun ci => P_fok P_cl P_Tb "OrchardQuery$Form" 20 ci 2) rfl ⟨_, _, _, "OrchardQuery$Form", rfl, by decide, (Or.inl rfl), (Or.inl w_1_77)⟩)) <|
  P_all_cons (P_lnk_get (P_s1 (c := 3) (P := fun ci => P_fok P_cl P_Tb "OrchardQuery$Form" 27 ci 3) rfl ⟨_, _, _, "OrchardQuery$Form", rfl, by decide, (Or.inl rfl), (Or.inl w_1_78)⟩)) <|
  P_all_cons (P_lnk_get (P_s1 (c := 3) (P := fun ci => P_fok P_cl P_Tb "OrchardQuery$Form" 20 ci 2) rfl ⟨_, _, _, "OrchardQuery$Form", rfl, by decide, (Or.inl rfl), (Or.inl w_1_77)⟩)) <|
  P_all_cons (P_lnk_get (P_s1 (c := 3) (P := fun ci => P_fok P_cl P_Tb "OrchardQuery$Form" 27 ci 3) rfl ⟨_, _, _, "OrchardQuery$Form", rfl, by decide, (Or.inl rfl), (Or.inl w_1_78)⟩)) <|
  P_all_nil
set_option maxRecDepth 20000 in
theorem P_m38 : P_mst 38 3 (Option.some (Jvm.ClassFile.FieldType.object "OrchardQuery$Table")) P_e38 [] := P_meth (mx := 3) (rt := (Option.some (Jvm.ClassFile.FieldType.object "OrchardQuery$Table"))) (hs := []) "OrchardQuery$Form" false prog_5_method_17_code [] rfl rfl rfl rfl (by decide +kernel) (by decide +kernel) (fun _ => P_g38) (by decide) (fun _ _ => by decide +kernel) (fun q => by cases q) (P_all_cons (by decide +kernel) <| P_all_cons (by decide +kernel) <| P_all_nil) P_l38 (by decide +kernel) P_k38 (fun _ _ => P_hok_nil)
/-- OrchardQuery$Form.hasColumn(I)Z -/
def P_l39 : List (Nat × P_I) := [(1, .invokestatic 56, 4, 1, 178, [], []), (6, .invokestatic 60, 9, 1, 177, [], []), (9, .invokevirtual 63, 12, 1, 56, [], []), (12, .invokevirtual 67, 15, 0, 57, [], [])]
set_option maxRecDepth 20000 in
theorem P_k39 : ∀ q ∈ P_l39, P_lnk P_cl P_aty P_stat P_tx P_N0 P_Tb P_Y0 "OrchardQuery$Form" false prog_5_method_18_code [] q.1 q.2.1 q.2.2.2.1 q.2.2.2.2.1 :=
  P_all_cons (P_lnk_st (by decide) (fun _ => ⟨P_sg 1 rfl, w_1_1, w_3_40, (Or.inr ⟨rfl, _, w_3_39⟩)⟩)) <|
  P_all_cons (P_lnk_st (by decide) (fun _ => ⟨P_sg 1 rfl, w_1_1, w_2_156, (Or.inr ⟨rfl, _, w_3_42⟩)⟩)) <|
  P_all_cons (P_lnk_vi (P_vall (l := P_v56) rfl (P_all_cons (show P_vok _ _ _ 3 38 from ⟨_, rfl, rfl, w_1_4, w_3_44, (Or.inl ⟨P_sg 1 rfl, w_3_45, (Or.inl w_3_43)⟩)⟩) (P_all_nil)))) <|
  P_all_cons (P_lnk_vi (P_vall (l := P_v57) rfl (P_all_cons (show P_vok _ _ _ 9 119 from ⟨_, rfl, rfl, w_1_3, w_3_48, (Or.inl ⟨P_sg 0 rfl, w_3_49, (Or.inl w_3_47)⟩)⟩) (P_all_nil)))) <|
  P_all_nil
set_option maxRecDepth 20000 in
theorem P_m39 : P_mst 39 2 (Option.some Jvm.ClassFile.FieldType.boolean) P_e39 [] := P_meth (mx := 2) (rt := (Option.some Jvm.ClassFile.FieldType.boolean)) (hs := []) "OrchardQuery$Form" false prog_5_method_18_code [] rfl rfl rfl rfl (by decide +kernel) (by decide +kernel) (fun _ => P_g39) (by decide) (fun _ _ => by decide +kernel) (fun q => by cases q) (P_all_cons (by decide +kernel) <| P_all_nil) P_l39 (by decide +kernel) P_k39 (fun _ _ => P_hok_nil)
/-- OrchardQuery$Form.varietyOf(I)I -/
def P_l40 : List (Nat × P_I) := [(2, .invokestatic 60, 5, 1, 177, [], []), (5, .invokevirtual 63, 8, 1, 56, [], []), (9, .invokestatic 56, 12, 1, 178, [], []), (12, .invokevirtual 71, 15, 1, 58, [], [])]
set_option maxRecDepth 20000 in
theorem P_k40 : ∀ q ∈ P_l40, P_lnk P_cl P_aty P_stat P_tx P_N0 P_Tb P_Y0 "OrchardQuery$Form" false prog_5_method_19_code [] q.1 q.2.1 q.2.2.2.1 q.2.2.2.2.1 :=
  P_all_cons (P_lnk_st (by decide) (fun _ => ⟨P_sg 1 rfl, w_1_1, w_2_156, (Or.inr ⟨rfl, _, w_3_42⟩)⟩)) <|
  P_all_cons (P_lnk_vi (P_vall (l := P_v56) rfl (P_all_cons (show P_vok _ _ _ 3 38 from ⟨_, rfl, rfl, w_1_4, w_3_44, (Or.inl ⟨P_sg 1 rfl, w_3_45, (Or.inl w_3_43)⟩)⟩) (P_all_nil)))) <|
  P_all_cons (P_lnk_st (by decide) (fun _ => ⟨P_sg 1 rfl, w_1_1, w_3_40, (Or.inr ⟨rfl, _, w_3_39⟩)⟩)) <|
  P_all_cons (P_lnk_vi (P_vall (l := P_v58) rfl (P_all_cons (show P_vok _ _ _ 9 125 from ⟨_, rfl, rfl, w_1_3, w_3_116, (Or.inl ⟨P_sg 1 rfl, w_3_117, (Or.inl w_4_76)⟩)⟩) (P_all_nil)))) <|
  P_all_nil
set_option maxRecDepth 20000 in
theorem P_m40 : P_mst 40 2 (Option.some Jvm.ClassFile.FieldType.int) P_e40 [] := P_meth (mx := 2) (rt := (Option.some Jvm.ClassFile.FieldType.int)) (hs := []) "OrchardQuery$Form" false prog_5_method_19_code [] rfl rfl rfl rfl (by decide +kernel) (by decide +kernel) (fun _ => P_g40) (by decide) (fun _ _ => by decide +kernel) (fun q => by cases q) (P_all_cons (by decide +kernel) <| P_all_nil) P_l40 (by decide +kernel) P_k40 (fun _ _ => P_hok_nil)
/-- OrchardQuery$Form.rowsOfAllSeats()I -/
def P_l41 : List (Nat × P_I) := [(6, .getfield 35, 9, 3, 5, [], []), (15, .invokevirtual 63, 18, 1, 56, [], []), (18, .invokevirtual 74, 21, 0, 59, [], [])]
set_option maxRecDepth 20000 in
theorem P_k41 : ∀ q ∈ P_l41, P_lnk P_cl P_aty P_stat P_tx P_N0 P_Tb P_Y0 "OrchardQuery$Form" false prog_5_method_20_code [] q.1 q.2.1 q.2.2.2.1 q.2.2.2.2.1 :=
  P_all_cons (P_lnk_get (P_s1 (c := 3) (P := fun ci => P_fok P_cl P_Tb "OrchardQuery$Form" 35 ci 5) rfl ⟨_, _, _, "OrchardQuery$Form", rfl, by decide, (Or.inl rfl), (Or.inl w_1_80)⟩)) <|
  P_all_cons (P_lnk_vi (P_vall (l := P_v56) rfl (P_all_cons (show P_vok _ _ _ 3 38 from ⟨_, rfl, rfl, w_1_4, w_3_44, (Or.inl ⟨P_sg 1 rfl, w_3_45, (Or.inl w_3_43)⟩)⟩) (P_all_nil)))) <|
  P_all_cons (P_lnk_vi (P_vall (l := P_v59) rfl (P_all_cons (show P_vok _ _ _ 9 120 from ⟨_, rfl, rfl, w_1_3, w_3_107, (Or.inl ⟨P_sg 0 rfl, w_3_108, (Or.inl w_6_83)⟩)⟩) (P_all_nil)))) <|
  P_all_nil
set_option maxRecDepth 20000 in
theorem P_m41 : P_mst 41 3 (Option.some Jvm.ClassFile.FieldType.int) P_e41 [] := P_meth (mx := 3) (rt := (Option.some Jvm.ClassFile.FieldType.int)) (hs := []) "OrchardQuery$Form" false prog_5_method_20_code [] rfl rfl rfl rfl (by decide +kernel) (by decide +kernel) (fun _ => P_g41) (by decide) (fun _ _ => by decide +kernel) (fun q => by cases q) (P_all_cons (by decide +kernel) <| P_all_nil) P_l41 (by decide +kernel) P_k41 (fun _ _ => P_hok_nil)
/-- OrchardQuery$Form.isGathered()Z -/
def P_l42 : List (Nat × P_I) := [(1, .getfield 38, 4, 3, 6, [], []), (18, .getfield 31, 21, 3, 4, [], []), (30, .invokevirtual 77, 33, 1, 60, [], [])]
set_option maxRecDepth 20000 in
theorem P_k42 : ∀ q ∈ P_l42, P_lnk P_cl P_aty P_stat P_tx P_N0 P_Tb P_Y0 "OrchardQuery$Form" false prog_5_method_21_code [] q.1 q.2.1 q.2.2.2.1 q.2.2.2.2.1 :=
  P_all_cons (P_lnk_get (P_s1 (c := 3) (P := fun ci => P_fok P_cl P_Tb "OrchardQuery$Form" 38 ci 6) rfl ⟨_, _, _, "OrchardQuery$Form", rfl, by decide, (Or.inl rfl), (Or.inl w_1_81)⟩)) <|
  P_all_cons (P_lnk_get (P_s1 (c := 3) (P := fun ci => P_fok P_cl P_Tb "OrchardQuery$Form" 31 ci 4) rfl ⟨_, _, _, "OrchardQuery$Form", rfl, by decide, (Or.inl rfl), (Or.inl w_1_79)⟩)) <|
  P_all_cons (P_lnk_vi (P_vall (l := P_v60) rfl (P_all_cons (show P_vok _ _ _ 3 34 from ⟨_, rfl, rfl, w_1_4, w_3_148, (Or.inl ⟨P_sg 1 rfl, w_3_149, (Or.inl w_3_147)⟩)⟩) (P_all_nil)))) <|
  P_all_nil
set_option maxRecDepth 20000 in
theorem P_m42 : P_mst 42 3 (Option.some Jvm.ClassFile.FieldType.boolean) P_e42 [] := P_meth (mx := 3) (rt := (Option.some Jvm.ClassFile.FieldType.boolean)) (hs := []) "OrchardQuery$Form" false prog_5_method_21_code [] rfl rfl rfl rfl (by decide +kernel) (by decide +kernel) (fun _ => P_g42) (by decide) (fun _ _ => by decide +kernel) (fun q => by cases q) (P_all_cons (by decide +kernel) <| P_all_cons (by decide +kernel) <| P_all_nil) P_l42 (by decide +kernel) P_k42 (fun _ _ => P_hok_nil)
/-- OrchardQuery$Form.isStreamed()Z -/
def P_l43 : List (Nat × P_I) := [(1, .getfield 41, 4, 3, 7, [], []), (9, .invokevirtual 80, 12, 0, 36, [], [])]
set_option maxRecDepth 20000 in
theorem P_k43 : ∀ q ∈ P_l43, P_lnk P_cl P_aty P_stat P_tx P_N0 P_Tb P_Y0 "OrchardQuery$Form" false prog_5_method_22_code [] q.1 q.2.1 q.2.2.2.1 q.2.2.2.2.1 :=
  P_all_cons (P_lnk_get (P_s1 (c := 3) (P := fun ci => P_fok P_cl P_Tb "OrchardQuery$Form" 41 ci 7) rfl ⟨_, _, _, "OrchardQuery$Form", rfl, by decide, (Or.inl rfl), (Or.inl w_1_82)⟩)) <|
  P_all_cons (P_lnk_vi (P_vall (l := P_v36) rfl (P_all_cons (show P_vok _ _ _ 3 42 from ⟨_, rfl, rfl, w_1_4, w_3_144, (Or.inl ⟨P_sg 0 rfl, w_3_145, (Or.inl w_3_143)⟩)⟩) (P_all_nil)))) <|
  P_all_nil
set_option maxRecDepth 20000 in
theorem P_m43 : P_mst 43 1 (Option.some Jvm.ClassFile.FieldType.boolean) P_e43 [] := P_meth (mx := 1) (rt := (Option.some Jvm.ClassFile.FieldType.boolean)) (hs := []) "OrchardQuery$Form" false prog_5_method_22_code [] rfl rfl rfl rfl (by decide +kernel) (by decide +kernel) (fun _ => P_g43) (by decide) (fun _ _ => by decide +kernel) (fun q => by cases q) (P_all_cons (by decide +kernel) <| P_all_nil) P_l43 (by decide +kernel) P_k43 (fun _ _ => P_hok_nil)
/-- OrchardQuery$Groups.<init>(LOrchardQuery$Form;)V -/
def P_l44 : List (Nat × P_I) := [(1, .invokespecial 3, 4, 0, 9000, [], []), (6, .putfield 9, 9, 4, 0, [], []), (12, .newarray .int, 14, 0, 0, [], []), (14, .putfield 15, 17, 4, 1, [], []), (20, .newarray .int, 22, 0, 0, [], []), (22, .putfield 19, 25, 4, 2, [], []), (28, .newarray .int, 30, 0, 0, [], []), (30, .putfield 22, 33, 4, 3, [], [])]
set_option maxRecDepth 20000 in
theorem P_k44 : ∀ q ∈ P_l44, P_lnk P_cl P_aty P_stat P_tx P_N0 P_Tb P_Y0 "OrchardQuery$Groups" true prog_6_method_1_code [] q.1 q.2.1 q.2.2.2.1 q.2.2.2.2.1 :=
  P_all_cons (P_lnk_oj (fun _ => ⟨w_1_207, w_1_28, w_1_29⟩)) <|
  P_all_cons (P_lnk_put (P_s1 (c := 4) (P := fun ci => P_pok P_cl P_Tb "OrchardQuery$Groups" true 9 ci 0) rfl ⟨_, _, _, "OrchardQuery$Groups", rfl, by decide, (Or.inl rfl), (Or.inl ⟨w_1_208, (Or.inr ⟨rfl, rfl, rfl⟩)⟩)⟩)) <|
  P_all_cons (P_lnk_nwa rfl w_1_56) <|
  P_all_cons (P_lnk_put (P_s1 (c := 4) (P := fun ci => P_pok P_cl P_Tb "OrchardQuery$Groups" true 15 ci 1) rfl ⟨_, _, _, "OrchardQuery$Groups", rfl, by decide, (Or.inl rfl), (Or.inl ⟨w_1_209, (Or.inr ⟨rfl, rfl, rfl⟩)⟩)⟩)) <|
  P_all_cons (P_lnk_nwa rfl w_1_56) <|
  P_all_cons (P_lnk_put (P_s1 (c := 4) (P := fun ci => P_pok P_cl P_Tb "OrchardQuery$Groups" true 19 ci 2) rfl ⟨_, _, _, "OrchardQuery$Groups", rfl, by decide, (Or.inl rfl), (Or.inl ⟨w_1_210, (Or.inr ⟨rfl, rfl, rfl⟩)⟩)⟩)) <|
  P_all_cons (P_lnk_nwa rfl w_1_56) <|
  P_all_cons (P_lnk_put (P_s1 (c := 4) (P := fun ci => P_pok P_cl P_Tb "OrchardQuery$Groups" true 22 ci 3) rfl ⟨_, _, _, "OrchardQuery$Groups", rfl, by decide, (Or.inl rfl), (Or.inl ⟨w_1_211, (Or.inr ⟨rfl, rfl, rfl⟩)⟩)⟩)) <|
  P_all_nil
set_option maxRecDepth 20000 in
theorem P_m44 : P_mst 44 2 (Option.none : Option Jvm.ClassFile.FieldType) P_e44 [] := P_meth (mx := 2) (rt := (Option.none : Option Jvm.ClassFile.FieldType)) (hs := []) "OrchardQuery$Groups" true prog_6_method_1_code [] rfl rfl rfl rfl (by decide +kernel) (by decide +kernel) (fun _ => P_g44) (by decide) (fun t q => by cases q) (fun _ => rfl) (P_all_cons (by decide +kernel) <| P_all_cons (by decide +kernel) <| P_all_nil) P_l44 (by decide +kernel) P_k44 (fun _ _ => P_hok_nil)
/-- OrchardQuery$Groups.begin()V -/
def P_l45 : List (Nat × P_I) := [(1, .getfield 15, 4, 4, 1, [], []), (5, .invokestatic 25, 8, 2, 181, [], []), (9, .getfield 19, 12, 4, 2, [], []), (13, .invokestatic 25, 16, 2, 181, [], []), (17, .getfield 22, 20, 4, 3, [], []), (21, .invokestatic 25, 24, 2, 181, [], [])]
set_option maxRecDepth 20000 in
theorem P_k45 : ∀ q ∈ P_l45, P_lnk P_cl P_aty P_stat P_tx P_N0 P_Tb P_Y0 "OrchardQuery$Groups" false prog_6_method_2_code [] q.1 q.2.1 q.2.2.2.1 q.2.2.2.2.1 :=
  P_all_cons (P_lnk_get (P_s1 (c := 4) (P := fun ci => P_fok P_cl P_Tb "OrchardQuery$Groups" 15 ci 1) rfl ⟨_, _, _, "OrchardQuery$Groups", rfl, by decide, (Or.inl rfl), (Or.inl w_1_209)⟩)) <|
  P_all_cons (P_lnk_st (by decide) (fun _ => ⟨P_sg 2 rfl, w_1_1, w_3_129, (Or.inr ⟨rfl, _, w_3_128⟩)⟩)) <|
  P_all_cons (P_lnk_get (P_s1 (c := 4) (P := fun ci => P_fok P_cl P_Tb "OrchardQuery$Groups" 19 ci 2) rfl ⟨_, _, _, "OrchardQuery$Groups", rfl, by decide, (Or.inl rfl), (Or.inl w_1_210)⟩)) <|
  P_all_cons (P_lnk_st (by decide) (fun _ => ⟨P_sg 2 rfl, w_1_1, w_3_129, (Or.inr ⟨rfl, _, w_3_128⟩)⟩)) <|
  P_all_cons (P_lnk_get (P_s1 (c := 4) (P := fun ci => P_fok P_cl P_Tb "OrchardQuery$Groups" 22 ci 3) rfl ⟨_, _, _, "OrchardQuery$Groups", rfl, by decide, (Or.inl rfl), (Or.inl w_1_211)⟩)) <|
  P_all_cons (P_lnk_st (by decide) (fun _ => ⟨P_sg 2 rfl, w_1_1, w_3_129, (Or.inr ⟨rfl, _, w_3_128⟩)⟩)) <|
  P_all_nil
set_option maxRecDepth 20000 in
theorem P_m45 : P_mst 45 1 (Option.none : Option Jvm.ClassFile.FieldType) P_e45 [] := P_meth (mx := 1) (rt := (Option.none : Option Jvm.ClassFile.FieldType)) (hs := []) "OrchardQuery$Groups" false prog_6_method_2_code [] rfl rfl rfl rfl (by decide +kernel) (by decide +kernel) (fun _ => P_g45) (by decide) (fun _ _ => by decide +kernel) (fun q => by cases q) (P_all_cons (by decide +kernel) <| P_all_nil) P_l45 (by decide +kernel) P_k45 (fun _ _ => P_hok_nil)
/-- OrchardQuery$Groups.gather(II)V -/
def P_l46 : List (Nat × P_I) := [(1, .getfield 15, 4, 4, 1, [], []), (5, .invokestatic 29, 8, 2, 179, [], []), (12, .getfield 19, 15, 4, 2, [], []), (17, .invokestatic 33, 20, 3, 180, [], []), (21, .getfield 15, 24, 4, 1, [], []), (26, .getfield 15, 29, 4, 1, [], []), (30, .invokestatic 29, 33, 2, 179, [], []), (35, .invokestatic 33, 38, 3, 180, [], []), (42, .getfield 9, 45, 4, 0, [], []), (45, .invokevirtual 37, 48, 0, 61, [], []), (52, .getfield 9, 55, 4, 0, [], []), (56, .invokevirtual 43, 59, 1, 60, [], []), (72, .getfield 22, 75, 4, 3, [], []), (78, .getfield 22, 81, 4, 3, [], []), (83, .invokestatic 29, 86, 2, 179, [], []), (89, .getfield 9, 92, 4, 0, [], []), (93, .invokevirtual 47, 96, 1, 45, [], []), (96, .invokevirtual 50, 99, 2, 46, [], []), (100, .invokestatic 33, 103, 3, 180, [], [])]
set_option maxRecDepth 20000 in
theorem P_k46 : ∀ q ∈ P_l46, P_lnk P_cl P_aty P_stat P_tx P_N0 P_Tb P_Y0 "OrchardQuery$Groups" false prog_6_method_3_code [] q.1 q.2.1 q.2.2.2.1 q.2.2.2.2.1 :=
  P_all_cons (P_lnk_get (P_s1 (c := 4) (P := fun ci => P_fok P_cl P_Tb "OrchardQuery$Groups" 15 ci 1) rfl ⟨_, _, _, "OrchardQuery$Groups", rfl, by decide, (Or.inl rfl), (Or.inl w_1_209)⟩)) <|
  P_all_cons (P_lnk_st (by decide) (fun _ => ⟨P_sg 2 rfl, w_1_1, w_2_145, (Or.inr ⟨rfl, _, w_3_227⟩)⟩)) <|
  P_all_cons (P_lnk_get (P_s1 (c := 4) (P := fun ci => P_fok P_cl P_Tb "OrchardQuery$Groups" 19 ci 2) rfl ⟨_, _, _, "OrchardQuery$Groups", rfl, by decide, (Or.inl rfl), (Or.inl w_1_210)⟩)) <|
  P_all_cons (P_lnk_st (by decide) (fun _ => ⟨P_sg 3 rfl, w_1_1, w_2_199, (Or.inr ⟨rfl, _, w_3_228⟩)⟩)) <|
  P_all_cons (P_lnk_get (P_s1 (c := 4) (P := fun ci => P_fok P_cl P_Tb "OrchardQuery$Groups" 15 ci 1) rfl ⟨_, _, _, "OrchardQuery$Groups", rfl, by decide, (Or.inl rfl), (Or.inl w_1_209)⟩)) <|
  P_all_cons (P_lnk_get (P_s1 (c := 4) (P := fun ci => P_fok P_cl P_Tb "OrchardQuery$Groups" 15 ci 1) rfl ⟨_, _, _, "OrchardQuery$Groups", rfl, by decide, (Or.inl rfl), (Or.inl w_1_209)⟩)) <|
  P_all_cons (P_lnk_st (by decide) (fun _ => ⟨P_sg 2 rfl, w_1_1, w_2_145, (Or.inr ⟨rfl, _, w_3_227⟩)⟩)) <|
  P_all_cons (P_lnk_st (by decide) (fun _ => ⟨P_sg 3 rfl, w_1_1, w_2_199, (Or.inr ⟨rfl, _, w_3_228⟩)⟩)) <|
  P_all_cons (P_lnk_get (P_s1 (c := 4) (P := fun ci => P_fok P_cl P_Tb "OrchardQuery$Groups" 9 ci 0) rfl ⟨_, _, _, "OrchardQuery$Groups", rfl, by decide, (Or.inl rfl), (Or.inl w_1_208)⟩)) <|
  P_all_cons (P_lnk_vi (P_vall (l := P_v61) rfl (P_all_cons (show P_vok _ _ _ 3 29 from ⟨_, rfl, rfl, w_1_4, w_3_89, (Or.inl ⟨P_sg 0 rfl, w_3_90, (Or.inl w_3_229)⟩)⟩) (P_all_nil)))) <|
  P_all_cons (P_lnk_get (P_s1 (c := 4) (P := fun ci => P_fok P_cl P_Tb "OrchardQuery$Groups" 9 ci 0) rfl ⟨_, _, _, "OrchardQuery$Groups", rfl, by decide, (Or.inl rfl), (Or.inl w_1_208)⟩)) <|
  P_all_cons (P_lnk_vi (P_vall (l := P_v60) rfl (P_all_cons (show P_vok _ _ _ 3 34 from ⟨_, rfl, rfl, w_1_4, w_3_148, (Or.inl ⟨P_sg 1 rfl, w_3_149, (Or.inl w_3_230)⟩)⟩) (P_all_nil)))) <|
  P_all_cons (P_lnk_get (P_s1 (c := 4) (P := fun ci => P_fok P_cl P_Tb "OrchardQuery$Groups" 22 ci 3) rfl ⟨_, _, _, "OrchardQuery$Groups", rfl, by decide, (Or.inl rfl), (Or.inl w_1_211)⟩)) <|
  P_all_cons (P_lnk_get (P_s1 (c := 4) (P := fun ci => P_fok P_cl P_Tb "OrchardQuery$Groups" 22 ci 3) rfl ⟨_, _, _, "OrchardQuery$Groups", rfl, by decide, (Or.inl rfl), (Or.inl w_1_211)⟩)) <|
  P_all_cons (P_lnk_st (by decide) (fun _ => ⟨P_sg 2 rfl, w_1_1, w_2_145, (Or.inr ⟨rfl, _, w_3_227⟩)⟩)) <|
  P_all_cons (P_lnk_get (P_s1 (c := 4) (P := fun ci => P_fok P_cl P_Tb "OrchardQuery$Groups" 9 ci 0) rfl ⟨_, _, _, "OrchardQuery$Groups", rfl, by decide, (Or.inl rfl), (Or.inl w_1_208)⟩)) <|
  P_all_cons (P_lnk_vi (P_vall (l := P_v45) rfl (P_all_cons (show P_vok _ _ _ 3 35 from ⟨_, rfl, rfl, w_1_4, w_3_232, (Or.inl ⟨P_sg 1 rfl, w_3_233, (Or.inl w_3_231)⟩)⟩) (P_all_nil)))) <|
  P_all_cons (P_lnk_vi (P_vall (l := P_v46) rfl (P_all_cons (show P_vok _ _ _ 4 51 from ⟨_, rfl, rfl, w_1_10, w_3_236, (Or.inl ⟨P_sg 2 rfl, w_3_237, (Or.inl w_3_235)⟩)⟩) (P_all_nil)))) <|
  P_all_cons (P_lnk_st (by decide) (fun _ => ⟨P_sg 3 rfl, w_1_1, w_2_199, (Or.inr ⟨rfl, _, w_3_228⟩)⟩)) <|
  P_all_nil
set_option maxRecDepth 20000 in
theorem P_m46 : P_mst 46 5 (Option.none : Option Jvm.ClassFile.FieldType) P_e46 [] := P_meth (mx := 5) (rt := (Option.none : Option Jvm.ClassFile.FieldType)) (hs := []) "OrchardQuery$Groups" false prog_6_method_3_code [] rfl rfl rfl rfl (by decide +kernel) (by decide +kernel) (fun _ => P_g46) (by decide) (fun _ _ => by decide +kernel) (fun q => by cases q) (P_all_cons (by decide +kernel) <| P_all_cons (by decide +kernel) <| P_all_cons (by decide +kernel) <| P_all_cons (by decide +kernel) <| P_all_nil) P_l46 (by decide +kernel) P_k46 (fun _ _ => P_hok_nil)
