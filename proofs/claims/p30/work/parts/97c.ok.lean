/-! all of it -/
/-- what a row of P_ms tells -/
abbrev P_mfact (y : Nat) : Prop := ∀ mx rt cd hs, P_at P_ms none y = some (mx, rt, cd, hs) → (y ≠ 0 → P_mok P_N0 P_Tg y mx rt) ∧ (∀ t, rt = some t → (P_N0.1 y).name ≠ "<init>") ∧ (P_N0.2.2.2.1 y = true → (P_N0.1 y).name = "<init>") ∧ ∀ pc i nx r1 r2 kN kT, cd pc = some (i, nx, r1, r2, kN, kT) → P_eok P_cl P_aty P_stat P_nc P_tx P_N0 P_Tb P_Y0 y hs pc i nx r1 r2
theorem P_mfC {y mx : Nat} {rt : Option FieldType} {ch : List (List (Nat × P_I))} {hs : List (Nat × Nat × Nat × Nat × Nat)} (h : P_at P_ms none y = some (mx, rt, P_lk ch, hs)) (hm : P_mstC y mx rt ch hs) : P_mfact y := by
  intro mx' rt' cd' hs' h'
  cases h.symm.trans h'
  exact hm
theorem P_mn {y : Nat} (h : P_at P_ms none y = none) : P_mfact y := by
  intro mx' rt' cd' hs' h'
  cases h.symm.trans h'
theorem P_by20 {P : Nat → Prop} (a : Nat) (h : ∀ b, b < 20 → P (20 * a + b)) : ∀ y, y / 20 = a → P y := by
  intro y hy
  have := h (y % 20) (Nat.mod_lt _ (by decide))
  rwa [show 20 * a + y % 20 = y by rw [← hy]; omega] at this
theorem P_f0 : ∀ b, b < 20 → P_mfact (20 * 0 + b) := fun b hb => match b, hb with
  | 0, _ => P_mfC (y := 0) rfl P_m0
  | 1, _ => P_mfC (y := 1) rfl P_m1
  | 2, _ => P_mfC (y := 2) rfl P_m2
  | 3, _ => P_mfC (y := 3) rfl P_m3
  | 4, _ => P_mfC (y := 4) rfl P_m4
  | 5, _ => P_mfC (y := 5) rfl P_m5
  | 6, _ => P_mfC (y := 6) rfl P_m6
  | 7, _ => P_mfC (y := 7) rfl P_m7
  | 8, _ => P_mfC (y := 8) rfl P_m8
  | 9, _ => P_mfC (y := 9) rfl P_m9
  | 10, _ => P_mfC (y := 10) rfl P_m10
  | 11, _ => P_mfC (y := 11) rfl P_m11
  | 12, _ => P_mfC (y := 12) rfl P_m12
  | 13, _ => P_mfC (y := 13) rfl P_m13
  | 14, _ => P_mfC (y := 14) rfl P_m14
  | 15, _ => P_mfC (y := 15) rfl P_m15
  | 16, _ => P_mfC (y := 16) rfl P_m16
  | 17, _ => P_mfC (y := 17) rfl P_m17
  | 18, _ => P_mfC (y := 18) rfl P_m18
  | 19, _ => P_mfC (y := 19) rfl P_m19
  | _ + 20, hb => absurd hb (by omega)
theorem P_f1 : ∀ b, b < 20 → P_mfact (20 * 1 + b) := fun b hb => match b, hb with
  | 0, _ => P_mfC (y := 20) rfl P_m20
  | 1, _ => P_mfC (y := 21) rfl P_m21
  | 2, _ => P_mfC (y := 22) rfl P_m22
  | 3, _ => P_mfC (y := 23) rfl P_m23
  | 4, _ => P_mfC (y := 24) rfl P_m24
  | 5, _ => P_mfC (y := 25) rfl P_m25
  | 6, _ => P_mfC (y := 26) rfl P_m26
  | 7, _ => P_mfC (y := 27) rfl P_m27
  | 8, _ => P_mfC (y := 28) rfl P_m28
  | 9, _ => P_mfC (y := 29) rfl P_m29
  | 10, _ => P_mfC (y := 30) rfl P_m30
  | 11, _ => P_mfC (y := 31) rfl P_m31
  | 12, _ => P_mfC (y := 32) rfl P_m32
  | 13, _ => P_mfC (y := 33) rfl P_m33
  | 14, _ => P_mfC (y := 34) rfl P_m34
  | 15, _ => P_mfC (y := 35) rfl P_m35
  | 16, _ => P_mfC (y := 36) rfl P_m36
  | 17, _ => P_mfC (y := 37) rfl P_m37
  | 18, _ => P_mfC (y := 38) rfl P_m38
  | 19, _ => P_mfC (y := 39) rfl P_m39
  | _ + 20, hb => absurd hb (by omega)
theorem P_f2 : ∀ b, b < 20 → P_mfact (20 * 2 + b) := fun b hb => match b, hb with
  | 0, _ => P_mfC (y := 40) rfl P_m40
  | 1, _ => P_mfC (y := 41) rfl P_m41
  | 2, _ => P_mfC (y := 42) rfl P_m42
  | 3, _ => P_mfC (y := 43) rfl P_m43
  | 4, _ => P_mfC (y := 44) rfl P_m44
  | 5, _ => P_mfC (y := 45) rfl P_m45
  | 6, _ => P_mfC (y := 46) rfl P_m46
  | 7, _ => P_mfC (y := 47) rfl P_m47
  | 8, _ => P_mfC (y := 48) rfl P_m48
  | 9, _ => P_mfC (y := 49) rfl P_m49
  | 10, _ => P_mfC (y := 50) rfl P_m50
  | 11, _ => P_mfC (y := 51) rfl P_m51
  | 12, _ => P_mfC (y := 52) rfl P_m52
  | 13, _ => P_mfC (y := 53) rfl P_m53
  | 14, _ => P_mfC (y := 54) rfl P_m54
  | 15, _ => P_mfC (y := 55) rfl P_m55
  | 16, _ => P_mfC (y := 56) rfl P_m56
  | 17, _ => P_mfC (y := 57) rfl P_m57
  | 18, _ => P_mfC (y := 58) rfl P_m58
  | 19, _ => P_mfC (y := 59) rfl P_m59
  | _ + 20, hb => absurd hb (by omega)
theorem P_f3 : ∀ b, b < 20 → P_mfact (20 * 3 + b) := fun b hb => match b, hb with
  | 0, _ => P_mfC (y := 60) rfl P_m60
  | 1, _ => P_mfC (y := 61) rfl P_m61
  | 2, _ => P_mfC (y := 62) rfl P_m62
  | 3, _ => P_mfC (y := 63) rfl P_m63
  | 4, _ => P_mfC (y := 64) rfl P_m64
  | 5, _ => P_mfC (y := 65) rfl P_m65
  | 6, _ => P_mfC (y := 66) rfl P_m66
  | 7, _ => P_mfC (y := 67) rfl P_m67
  | 8, _ => P_mfC (y := 68) rfl P_m68
  | 9, _ => P_mfC (y := 69) rfl P_m69
  | 10, _ => P_mfC (y := 70) rfl P_m70
  | 11, _ => P_mfC (y := 71) rfl P_m71
  | 12, _ => P_mfC (y := 72) rfl P_m72
  | 13, _ => P_mfC (y := 73) rfl P_m73
  | 14, _ => P_mfC (y := 74) rfl P_m74
  | 15, _ => P_mfC (y := 75) rfl P_m75
  | 16, _ => P_mfC (y := 76) rfl P_m76
  | 17, _ => P_mfC (y := 77) rfl P_m77
  | 18, _ => P_mfC (y := 78) rfl P_m78
  | 19, _ => P_mfC (y := 79) rfl P_m79
  | _ + 20, hb => absurd hb (by omega)
theorem P_f4 : ∀ b, b < 20 → P_mfact (20 * 4 + b) := fun b hb => match b, hb with
  | 0, _ => P_mfC (y := 80) rfl P_m80
  | 1, _ => P_mfC (y := 81) rfl P_m81
  | 2, _ => P_mfC (y := 82) rfl P_m82
  | 3, _ => P_mfC (y := 83) rfl P_m83
  | 4, _ => P_mfC (y := 84) rfl P_m84
  | 5, _ => P_mfC (y := 85) rfl P_m85
  | 6, _ => P_mfC (y := 86) rfl P_m86
  | 7, _ => P_mfC (y := 87) rfl P_m87
  | 8, _ => P_mfC (y := 88) rfl P_m88
  | 9, _ => P_mfC (y := 89) rfl P_m89
  | 10, _ => P_mfC (y := 90) rfl P_m90
  | 11, _ => P_mfC (y := 91) rfl P_m91
  | 12, _ => P_mfC (y := 92) rfl P_m92
  | 13, _ => P_mfC (y := 93) rfl P_m93
  | 14, _ => P_mfC (y := 94) rfl P_m94
  | 15, _ => P_mfC (y := 95) rfl P_m95
  | 16, _ => P_mfC (y := 96) rfl P_m96
  | 17, _ => P_mfC (y := 97) rfl P_m97
  | 18, _ => P_mfC (y := 98) rfl P_m98
  | 19, _ => P_mfC (y := 99) rfl P_m99
  | _ + 20, hb => absurd hb (by omega)
theorem P_f5 : ∀ b, b < 20 → P_mfact (20 * 5 + b) := fun b hb => match b, hb with
  | 0, _ => P_mfC (y := 100) rfl P_m100
  | 1, _ => P_mfC (y := 101) rfl P_m101
  | 2, _ => P_mfC (y := 102) rfl P_m102
  | 3, _ => P_mfC (y := 103) rfl P_m103
  | 4, _ => P_mfC (y := 104) rfl P_m104
  | 5, _ => P_mfC (y := 105) rfl P_m105
  | 6, _ => P_mfC (y := 106) rfl P_m106
  | 7, _ => P_mfC (y := 107) rfl P_m107
  | 8, _ => P_mfC (y := 108) rfl P_m108
  | 9, _ => P_mfC (y := 109) rfl P_m109
  | 10, _ => P_mfC (y := 110) rfl P_m110
  | 11, _ => P_mfC (y := 111) rfl P_m111
  | 12, _ => P_mfC (y := 112) rfl P_m112
  | 13, _ => P_mfC (y := 113) rfl P_m113
  | 14, _ => P_mfC (y := 114) rfl P_m114
  | 15, _ => P_mfC (y := 115) rfl P_m115
  | 16, _ => P_mfC (y := 116) rfl P_m116
  | 17, _ => P_mfC (y := 117) rfl P_m117
  | 18, _ => P_mfC (y := 118) rfl P_m118
  | 19, _ => P_mfC (y := 119) rfl P_m119
  | _ + 20, hb => absurd hb (by omega)
theorem P_f6 : ∀ b, b < 20 → P_mfact (20 * 6 + b) := fun b hb => match b, hb with
  | 0, _ => P_mfC (y := 120) rfl P_m120
  | 1, _ => P_mfC (y := 121) rfl P_m121
  | 2, _ => P_mfC (y := 122) rfl P_m122
  | 3, _ => P_mfC (y := 123) rfl P_m123
  | 4, _ => P_mfC (y := 124) rfl P_m124
  | 5, _ => P_mfC (y := 125) rfl P_m125
  | 6, _ => P_mfC (y := 126) rfl P_m126
  | 7, _ => P_mfC (y := 127) rfl P_m127
  | 8, _ => P_mfC (y := 128) rfl P_m128
  | 9, _ => P_mfC (y := 129) rfl P_m129
  | 10, _ => P_mfC (y := 130) rfl P_m130
  | 11, _ => P_mfC (y := 131) rfl P_m131
  | 12, _ => P_mfC (y := 132) rfl P_m132
  | 13, _ => P_mfC (y := 133) rfl P_m133
  | 14, _ => P_mfC (y := 134) rfl P_m134
  | 15, _ => P_mfC (y := 135) rfl P_m135
  | 16, _ => P_mfC (y := 136) rfl P_m136
  | 17, _ => P_mfC (y := 137) rfl P_m137
  | 18, _ => P_mfC (y := 138) rfl P_m138
  | 19, _ => P_mfC (y := 139) rfl P_m139
  | _ + 20, hb => absurd hb (by omega)
theorem P_f7 : ∀ b, b < 20 → P_mfact (20 * 7 + b) := fun b hb => match b, hb with
  | 0, _ => P_mfC (y := 140) rfl P_m140
  | 1, _ => P_mfC (y := 141) rfl P_m141
  | 2, _ => P_mfC (y := 142) rfl P_m142
  | 3, _ => P_mfC (y := 143) rfl P_m143
  | 4, _ => P_mfC (y := 144) rfl P_m144
  | 5, _ => P_mfC (y := 145) rfl P_m145
  | 6, _ => P_mfC (y := 146) rfl P_m146
  | 7, _ => P_mfC (y := 147) rfl P_m147
  | 8, _ => P_mfC (y := 148) rfl P_m148
  | 9, _ => P_mfC (y := 149) rfl P_m149
  | 10, _ => P_mfC (y := 150) rfl P_m150
  | 11, _ => P_mfC (y := 151) rfl P_m151
  | 12, _ => P_mfC (y := 152) rfl P_m152
  | 13, _ => P_mfC (y := 153) rfl P_m153
  | 14, _ => P_mfC (y := 154) rfl P_m154
  | 15, _ => P_mfC (y := 155) rfl P_m155
  | 16, _ => P_mfC (y := 156) rfl P_m156
  | 17, _ => P_mfC (y := 157) rfl P_m157
  | 18, _ => P_mfC (y := 158) rfl P_m158
  | 19, _ => P_mfC (y := 159) rfl P_m159
  | _ + 20, hb => absurd hb (by omega)
theorem P_f8 : ∀ b, b < 20 → P_mfact (20 * 8 + b) := fun b hb => match b, hb with
  | 0, _ => P_mfC (y := 160) rfl P_m160
  | 1, _ => P_mfC (y := 161) rfl P_m161
  | 2, _ => P_mfC (y := 162) rfl P_m162
  | 3, _ => P_mfC (y := 163) rfl P_m163
  | 4, _ => P_mfC (y := 164) rfl P_m164
  | 5, _ => P_mfC (y := 165) rfl P_m165
  | 6, _ => P_mfC (y := 166) rfl P_m166
  | 7, _ => P_mfC (y := 167) rfl P_m167
  | 8, _ => P_mfC (y := 168) rfl P_m168
  | 9, _ => P_mfC (y := 169) rfl P_m169
  | 10, _ => P_mfC (y := 170) rfl P_m170
  | 11, _ => P_mfC (y := 171) rfl P_m171
  | 12, _ => P_mfC (y := 172) rfl P_m172
  | 13, _ => P_mfC (y := 173) rfl P_m173
  | 14, _ => P_mfC (y := 174) rfl P_m174
  | 15, _ => P_mfC (y := 175) rfl P_m175
  | 16, _ => P_mfC (y := 176) rfl P_m176
  | 17, _ => P_mfC (y := 177) rfl P_m177
  | 18, _ => P_mfC (y := 178) rfl P_m178
  | 19, _ => P_mfC (y := 179) rfl P_m179
  | _ + 20, hb => absurd hb (by omega)
theorem P_f9 : ∀ b, b < 20 → P_mfact (20 * 9 + b) := fun b hb => match b, hb with
  | 0, _ => P_mfC (y := 180) rfl P_m180
  | 1, _ => P_mfC (y := 181) rfl P_m181
  | 2, _ => P_mfC (y := 182) rfl P_m182
  | 3, _ => P_mfC (y := 183) rfl P_m183
  | 4, _ => P_mfC (y := 184) rfl P_m184
  | 5, _ => P_mfC (y := 185) rfl P_m185
  | 6, _ => P_mfC (y := 186) rfl P_m186
  | 7, _ => P_mfC (y := 187) rfl P_m187
  | 8, _ => P_mfC (y := 188) rfl P_m188
  | 9, _ => P_mfC (y := 189) rfl P_m189
  | 10, _ => P_mfC (y := 190) rfl P_m190
  | 11, _ => P_mfC (y := 191) rfl P_m191
  | 12, _ => P_mfC (y := 192) rfl P_m192
  | 13, _ => P_mfC (y := 193) rfl P_m193
  | 14, _ => P_mfC (y := 194) rfl P_m194
  | 15, _ => P_mfC (y := 195) rfl P_m195
  | 16, _ => P_mfC (y := 196) rfl P_m196
  | 17, _ => P_mfC (y := 197) rfl P_m197
  | 18, _ => P_mfC (y := 198) rfl P_m198
  | 19, _ => P_mfC (y := 199) rfl P_m199
  | _ + 20, hb => absurd hb (by omega)
theorem P_f10 : ∀ b, b < 20 → P_mfact (20 * 10 + b) := fun b hb => match b, hb with
  | 0, _ => P_mfC (y := 200) rfl P_m200
  | 1, _ => P_mfC (y := 201) rfl P_m201
  | 2, _ => P_mfC (y := 202) rfl P_m202
  | 3, _ => P_mfC (y := 203) rfl P_m203
  | 4, _ => P_mfC (y := 204) rfl P_m204
  | 5, _ => P_mfC (y := 205) rfl P_m205
  | 6, _ => P_mfC (y := 206) rfl P_m206
  | 7, _ => P_mfC (y := 207) rfl P_m207
  | 8, _ => P_mn (y := 208) rfl
  | 9, _ => P_mn (y := 209) rfl
  | 10, _ => P_mn (y := 210) rfl
  | 11, _ => P_mn (y := 211) rfl
  | 12, _ => P_mn (y := 212) rfl
  | 13, _ => P_mn (y := 213) rfl
  | 14, _ => P_mn (y := 214) rfl
  | 15, _ => P_mn (y := 215) rfl
  | 16, _ => P_mn (y := 216) rfl
  | 17, _ => P_mn (y := 217) rfl
  | 18, _ => P_mn (y := 218) rfl
  | 19, _ => P_mn (y := 219) rfl
  | _ + 20, hb => absurd hb (by omega)
theorem P_ok0 : P_ok P_cl P_aty P_stat P_nc P_tx P_N0 P_Tg P_T2 P_Y0 := by
  refine ⟨P_clok0, P_atok0, fun w h => (List.mem_append.mp h).elim (fun q => (show ∀ w ∈ P_xs, goodWord w = true by decide +kernel) w q) (fun q => (List.mem_filter.mp q).2), P_T2ok, fun y mx rt cd hs hy => ?_⟩
  have hy' : P_at P_ms none y = some (mx, rt, cd, hs) := hy
  have hlt : y / 20 < 11 := by
    rcases Nat.lt_or_ge (y / 20) 11 with q | q
    · exact q
    · exfalso
      have h0 : P_ms[y / 20]? = none := List.getElem?_eq_none_iff.mpr q
      unfold P_at at hy'
      rw [h0] at hy'
      simp at hy'
  have hd : ∃ a, a < 11 ∧ y / 20 = a := ⟨_, hlt, rfl⟩
  obtain ⟨a, ha, hya⟩ := hd
  match a, ha with
  | 0, _ => exact P_by20 0 P_f0 y hya mx rt cd hs hy'
  | 1, _ => exact P_by20 1 P_f1 y hya mx rt cd hs hy'
  | 2, _ => exact P_by20 2 P_f2 y hya mx rt cd hs hy'
  | 3, _ => exact P_by20 3 P_f3 y hya mx rt cd hs hy'
  | 4, _ => exact P_by20 4 P_f4 y hya mx rt cd hs hy'
  | 5, _ => exact P_by20 5 P_f5 y hya mx rt cd hs hy'
  | 6, _ => exact P_by20 6 P_f6 y hya mx rt cd hs hy'
  | 7, _ => exact P_by20 7 P_f7 y hya mx rt cd hs hy'
  | 8, _ => exact P_by20 8 P_f8 y hya mx rt cd hs hy'
  | 9, _ => exact P_by20 9 P_f9 y hya mx rt cd hs hy'
  | 10, _ => exact P_by20 10 P_f10 y hya mx rt cd hs hy'
  | _ + 11, ha => exact absurd ha (by omega)
