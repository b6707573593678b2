/-! the law's own methods, written by wip/g1.py: 88q.all -/
theorem g_b22 {d : Nat} {w : P_Lw} {σ : P_A} {g : P_Gl} {τ : P_A} {N u : Nat} {Q : P_GQ} {G nn Le : Nat} {x1 : Int} (q : P_gw (d + 7) 204 278 [.ref G, .ref Le, P_zl x1, P_un, P_z ((nn : Nat) : Int), P_z 27, P_un, P_un, P_un, P_un, P_un, P_un, P_un] [] w σ g τ N u Q) : P_gw (d + 7) 204 22 [.ref G, .ref Le, P_zl x1, P_un, P_z ((nn : Nat) : Int), P_z 27, P_un, P_un, P_un, P_un, P_un, P_un, P_un] [] w σ g τ N u Q := by
  refine P_gw_op (L' := [.ref G, .ref Le, P_zl x1, P_un, P_z ((nn : Nat) : Int), P_z 27, P_un, P_un, P_un, P_un, P_un, P_un, P_un]) (st' := [P_z 27]) P_i204_22 rfl (show P_gw _ _ 24 [.ref G, .ref Le, P_zl x1, P_un, P_z ((nn : Nat) : Int), P_z 27, P_un, P_un, P_un, P_un, P_un, P_un, P_un] [P_z 27] _ _ _ _ _ _ _ from ?_)
  refine P_gw_op (L' := [.ref G, .ref Le, P_zl x1, P_un, P_z ((nn : Nat) : Int), P_z 27, P_un, P_un, P_un, P_un, P_un, P_un, P_un]) (st' := [P_z 27, P_z 27]) P_i204_24 (P_o_bi (by decide)) (show P_gw _ _ 26 [.ref G, .ref Le, P_zl x1, P_un, P_z ((nn : Nat) : Int), P_z 27, P_un, P_un, P_un, P_un, P_un, P_un, P_un] [P_z 27, P_z 27] _ _ _ _ _ _ _ from ?_)
  refine P_gw_ict P_i204_26 ⟨by decide, by decide⟩ ⟨by decide, by decide⟩ (P_ci_get (by omega)) (show P_gw _ _ 278 [.ref G, .ref Le, P_zl x1, P_un, P_z ((nn : Nat) : Int), P_z 27, P_un, P_un, P_un, P_un, P_un, P_un, P_un] [] _ _ _ _ _ _ _ from ?_)
  exact q

theorem g_bch1 {d : Nat} {w : P_Lw} {σ : P_A} {g : P_Gl} {τ : P_A} {N u : Nat} {Q : P_GQ} {G : Nat} {g0 : P_Gl} {τ0 : P_A} {T nt : Nat} {tt : Int → Nat} {rT : Int → Nat} {tr : Int → Int → Nat} {cT : Int → Nat} {VV : Int → Int → Int → Int} (hT : P_gT g0 τ0 G T nt tt rT tr cT VV) {S nn : Nat} {sn : Int → Int} (hS : P_gS g0 τ0 G S nn nt sn) {B : Nat} {cs : List A_cd} {ad : Int → Nat} (hm : nn = 1) {nv : Int} (h13 : τ0 G 13 = nv) (hnv : 0 ≤ nv ∧ nv ≤ 1) {cst : Int → Int} (hcst : ∀ s, A_isO (nn : Int) s → (G_co nv sn rT VV (A_lows (A_od s) cs) (A_od s) nn) = cst s ∧ 0 ≤ cst s ∧ cst s ≤ 3000) {Le : Nat} (hv : G_bv g0 τ0 g τ G B nn Le sn cT cs ad (-1, 0)) (q : ∀ g' τ' u' Le', u' ≤ u + 216 → G_bv g0 τ0 g' τ' G B nn Le' sn cT cs ad (A_bt cst 0 (-1, 0)) → P_gw (d + 7) 204 278 [.ref G, .ref Le', P_zl (A_bt cst 0 (-1, 0)).1, P_un, P_z ((nn : Nat) : Int), P_z 27, P_un, P_un, P_un, P_un, P_un, P_un, P_un] [] w σ g' τ' (N + 54) u' Q) : P_gw (d + 7) 204 22 [.ref G, .ref Le, P_zl ((-1, 0) : Int × Int).1, P_un, P_z ((nn : Nat) : Int), P_z 0, P_un, P_un, P_un, P_un, P_un, P_un, P_un] [] w σ g τ N u Q := by
  have hv0 := hv
  refine g_bk1_0 hT hS hm h13 hnv hcst hv0 (fun g1 τ1 u1 L1 hu1 hv1 => ?_)
  refine g_bk1_1 hT hS hm h13 hnv hcst hv1 (fun g2 τ2 u2 L2 hu2 hv2 => ?_)
  refine g_bk1_2 hT hS hm h13 hnv hcst hv2 (fun g3 τ3 u3 L3 hu3 hv3 => ?_)
  refine g_bk1_3 hT hS hm h13 hnv hcst hv3 (fun g4 τ4 u4 L4 hu4 hv4 => ?_)
  refine g_bk1_4 hT hS hm h13 hnv hcst hv4 (fun g5 τ5 u5 L5 hu5 hv5 => ?_)
  refine g_bk1_5 hT hS hm h13 hnv hcst hv5 (fun g6 τ6 u6 L6 hu6 hv6 => ?_)
  refine g_bk1_6 hT hS hm h13 hnv hcst hv6 (fun g7 τ7 u7 L7 hu7 hv7 => ?_)
  refine g_bk1_7 hT hS hm h13 hnv hcst hv7 (fun g8 τ8 u8 L8 hu8 hv8 => ?_)
  refine g_bk1_8 hT hS hm h13 hnv hcst hv8 (fun g9 τ9 u9 L9 hu9 hv9 => ?_)
  refine g_bk1_9 hT hS hm h13 hnv hcst hv9 (fun g10 τ10 u10 L10 hu10 hv10 => ?_)
  refine g_bk1_10 hT hS hm h13 hnv hcst hv10 (fun g11 τ11 u11 L11 hu11 hv11 => ?_)
  refine g_bk1_11 hT hS hm h13 hnv hcst hv11 (fun g12 τ12 u12 L12 hu12 hv12 => ?_)
  refine g_bk1_12 hT hS hm h13 hnv hcst hv12 (fun g13 τ13 u13 L13 hu13 hv13 => ?_)
  refine g_bk1_13 hT hS hm h13 hnv hcst hv13 (fun g14 τ14 u14 L14 hu14 hv14 => ?_)
  refine g_bk1_14 hT hS hm h13 hnv hcst hv14 (fun g15 τ15 u15 L15 hu15 hv15 => ?_)
  refine g_bk1_15 hT hS hm h13 hnv hcst hv15 (fun g16 τ16 u16 L16 hu16 hv16 => ?_)
  refine g_bk1_16 hT hS hm h13 hnv hcst hv16 (fun g17 τ17 u17 L17 hu17 hv17 => ?_)
  refine g_bk1_17 hT hS hm h13 hnv hcst hv17 (fun g18 τ18 u18 L18 hu18 hv18 => ?_)
  refine g_bk1_18 hT hS hm h13 hnv hcst hv18 (fun g19 τ19 u19 L19 hu19 hv19 => ?_)
  refine g_bk1_19 hT hS hm h13 hnv hcst hv19 (fun g20 τ20 u20 L20 hu20 hv20 => ?_)
  refine g_bk1_20 hT hS hm h13 hnv hcst hv20 (fun g21 τ21 u21 L21 hu21 hv21 => ?_)
  refine g_bk1_21 hT hS hm h13 hnv hcst hv21 (fun g22 τ22 u22 L22 hu22 hv22 => ?_)
  refine g_bk1_22 hT hS hm h13 hnv hcst hv22 (fun g23 τ23 u23 L23 hu23 hv23 => ?_)
  refine g_bk1_23 hT hS hm h13 hnv hcst hv23 (fun g24 τ24 u24 L24 hu24 hv24 => ?_)
  refine g_bk1_24 hT hS hm h13 hnv hcst hv24 (fun g25 τ25 u25 L25 hu25 hv25 => ?_)
  refine g_bk1_25 hT hS hm h13 hnv hcst hv25 (fun g26 τ26 u26 L26 hu26 hv26 => ?_)
  refine g_bk1_26 hT hS hm h13 hnv hcst hv26 (fun g27 τ27 u27 L27 hu27 hv27 => ?_)
  rw [show N + 2 + 2 + 2 + 2 + 2 + 2 + 2 + 2 + 2 + 2 + 2 + 2 + 2 + 2 + 2 + 2 + 2 + 2 + 2 + 2 + 2 + 2 + 2 + 2 + 2 + 2 + 2 = N + 54 by omega]
  refine P_gw_lts (fun hlt => ?_)
  have hG := hv27.2.1.choose_spec.1.1.1
  have hgo := q g27 τ27 u27 L27 (by omega) hv27
  exact g_b22 hgo

theorem g_bch2 {d : Nat} {w : P_Lw} {σ : P_A} {g : P_Gl} {τ : P_A} {N u : Nat} {Q : P_GQ} {G : Nat} {g0 : P_Gl} {τ0 : P_A} {T nt : Nat} {tt : Int → Nat} {rT : Int → Nat} {tr : Int → Int → Nat} {cT : Int → Nat} {VV : Int → Int → Int → Int} (hT : P_gT g0 τ0 G T nt tt rT tr cT VV) {S nn : Nat} {sn : Int → Int} (hS : P_gS g0 τ0 G S nn nt sn) {B : Nat} {cs : List A_cd} {ad : Int → Nat} (hm : nn = 2) {nv : Int} (h13 : τ0 G 13 = nv) (hnv : 0 ≤ nv ∧ nv ≤ 1) {cst : Int → Int} (hcst : ∀ s, A_isO (nn : Int) s → (G_co nv sn rT VV (A_lows (A_od s) cs) (A_od s) nn) = cst s ∧ 0 ≤ cst s ∧ cst s ≤ 3000) {Le : Nat} (hv : G_bv g0 τ0 g τ G B nn Le sn cT cs ad (-1, 0)) (q : ∀ g' τ' u' Le', u' ≤ u + 216 → G_bv g0 τ0 g' τ' G B nn Le' sn cT cs ad (A_bt cst 6 (A_bt cst 0 (-1, 0))) → P_gw (d + 7) 204 278 [.ref G, .ref Le', P_zl (A_bt cst 6 (A_bt cst 0 (-1, 0))).1, P_un, P_z ((nn : Nat) : Int), P_z 27, P_un, P_un, P_un, P_un, P_un, P_un, P_un] [] w σ g' τ' (N + 54) u' Q) : P_gw (d + 7) 204 22 [.ref G, .ref Le, P_zl ((-1, 0) : Int × Int).1, P_un, P_z ((nn : Nat) : Int), P_z 0, P_un, P_un, P_un, P_un, P_un, P_un, P_un] [] w σ g τ N u Q := by
  have hv0 := hv
  refine g_bk2_0 hT hS hm h13 hnv hcst hv0 (fun g1 τ1 u1 L1 hu1 hv1 => ?_)
  refine g_bk2_1 hT hS hm h13 hnv hcst hv1 (fun g2 τ2 u2 L2 hu2 hv2 => ?_)
  refine g_bk2_2 hT hS hm h13 hnv hcst hv2 (fun g3 τ3 u3 L3 hu3 hv3 => ?_)
  refine g_bk2_3 hT hS hm h13 hnv hcst hv3 (fun g4 τ4 u4 L4 hu4 hv4 => ?_)
  refine g_bk2_4 hT hS hm h13 hnv hcst hv4 (fun g5 τ5 u5 L5 hu5 hv5 => ?_)
  refine g_bk2_5 hT hS hm h13 hnv hcst hv5 (fun g6 τ6 u6 L6 hu6 hv6 => ?_)
  refine g_bk2_6 hT hS hm h13 hnv hcst hv6 (fun g7 τ7 u7 L7 hu7 hv7 => ?_)
  refine g_bk2_7 hT hS hm h13 hnv hcst hv7 (fun g8 τ8 u8 L8 hu8 hv8 => ?_)
  refine g_bk2_8 hT hS hm h13 hnv hcst hv8 (fun g9 τ9 u9 L9 hu9 hv9 => ?_)
  refine g_bk2_9 hT hS hm h13 hnv hcst hv9 (fun g10 τ10 u10 L10 hu10 hv10 => ?_)
  refine g_bk2_10 hT hS hm h13 hnv hcst hv10 (fun g11 τ11 u11 L11 hu11 hv11 => ?_)
  refine g_bk2_11 hT hS hm h13 hnv hcst hv11 (fun g12 τ12 u12 L12 hu12 hv12 => ?_)
  refine g_bk2_12 hT hS hm h13 hnv hcst hv12 (fun g13 τ13 u13 L13 hu13 hv13 => ?_)
  refine g_bk2_13 hT hS hm h13 hnv hcst hv13 (fun g14 τ14 u14 L14 hu14 hv14 => ?_)
  refine g_bk2_14 hT hS hm h13 hnv hcst hv14 (fun g15 τ15 u15 L15 hu15 hv15 => ?_)
  refine g_bk2_15 hT hS hm h13 hnv hcst hv15 (fun g16 τ16 u16 L16 hu16 hv16 => ?_)
  refine g_bk2_16 hT hS hm h13 hnv hcst hv16 (fun g17 τ17 u17 L17 hu17 hv17 => ?_)
  refine g_bk2_17 hT hS hm h13 hnv hcst hv17 (fun g18 τ18 u18 L18 hu18 hv18 => ?_)
  refine g_bk2_18 hT hS hm h13 hnv hcst hv18 (fun g19 τ19 u19 L19 hu19 hv19 => ?_)
  refine g_bk2_19 hT hS hm h13 hnv hcst hv19 (fun g20 τ20 u20 L20 hu20 hv20 => ?_)
  refine g_bk2_20 hT hS hm h13 hnv hcst hv20 (fun g21 τ21 u21 L21 hu21 hv21 => ?_)
  refine g_bk2_21 hT hS hm h13 hnv hcst hv21 (fun g22 τ22 u22 L22 hu22 hv22 => ?_)
  refine g_bk2_22 hT hS hm h13 hnv hcst hv22 (fun g23 τ23 u23 L23 hu23 hv23 => ?_)
  refine g_bk2_23 hT hS hm h13 hnv hcst hv23 (fun g24 τ24 u24 L24 hu24 hv24 => ?_)
  refine g_bk2_24 hT hS hm h13 hnv hcst hv24 (fun g25 τ25 u25 L25 hu25 hv25 => ?_)
  refine g_bk2_25 hT hS hm h13 hnv hcst hv25 (fun g26 τ26 u26 L26 hu26 hv26 => ?_)
  refine g_bk2_26 hT hS hm h13 hnv hcst hv26 (fun g27 τ27 u27 L27 hu27 hv27 => ?_)
  rw [show N + 2 + 2 + 2 + 2 + 2 + 2 + 2 + 2 + 2 + 2 + 2 + 2 + 2 + 2 + 2 + 2 + 2 + 2 + 2 + 2 + 2 + 2 + 2 + 2 + 2 + 2 + 2 = N + 54 by omega]
  refine P_gw_lts (fun hlt => ?_)
  have hG := hv27.2.1.choose_spec.1.1.1
  have hgo := q g27 τ27 u27 L27 (by omega) hv27
  exact g_b22 hgo

theorem g_bch3 {d : Nat} {w : P_Lw} {σ : P_A} {g : P_Gl} {τ : P_A} {N u : Nat} {Q : P_GQ} {G : Nat} {g0 : P_Gl} {τ0 : P_A} {T nt : Nat} {tt : Int → Nat} {rT : Int → Nat} {tr : Int → Int → Nat} {cT : Int → Nat} {VV : Int → Int → Int → Int} (hT : P_gT g0 τ0 G T nt tt rT tr cT VV) {S nn : Nat} {sn : Int → Int} (hS : P_gS g0 τ0 G S nn nt sn) {B : Nat} {cs : List A_cd} {ad : Int → Nat} (hm : nn = 3) {nv : Int} (h13 : τ0 G 13 = nv) (hnv : 0 ≤ nv ∧ nv ≤ 1) {cst : Int → Int} (hcst : ∀ s, A_isO (nn : Int) s → (G_co nv sn rT VV (A_lows (A_od s) cs) (A_od s) nn) = cst s ∧ 0 ≤ cst s ∧ cst s ≤ 3000) {Le : Nat} (hv : G_bv g0 τ0 g τ G B nn Le sn cT cs ad (-1, 0)) (q : ∀ g' τ' u' Le', u' ≤ u + 216 → G_bv g0 τ0 g' τ' G B nn Le' sn cT cs ad (A_bt cst 15 (A_bt cst 12 (A_bt cst 9 (A_bt cst 6 (A_bt cst 3 (A_bt cst 0 (-1, 0))))))) → P_gw (d + 7) 204 278 [.ref G, .ref Le', P_zl (A_bt cst 15 (A_bt cst 12 (A_bt cst 9 (A_bt cst 6 (A_bt cst 3 (A_bt cst 0 (-1, 0))))))).1, P_un, P_z ((nn : Nat) : Int), P_z 27, P_un, P_un, P_un, P_un, P_un, P_un, P_un] [] w σ g' τ' (N + 54) u' Q) : P_gw (d + 7) 204 22 [.ref G, .ref Le, P_zl ((-1, 0) : Int × Int).1, P_un, P_z ((nn : Nat) : Int), P_z 0, P_un, P_un, P_un, P_un, P_un, P_un, P_un] [] w σ g τ N u Q := by
  have hv0 := hv
  refine g_bk3_0 hT hS hm h13 hnv hcst hv0 (fun g1 τ1 u1 L1 hu1 hv1 => ?_)
  refine g_bk3_1 hT hS hm h13 hnv hcst hv1 (fun g2 τ2 u2 L2 hu2 hv2 => ?_)
  refine g_bk3_2 hT hS hm h13 hnv hcst hv2 (fun g3 τ3 u3 L3 hu3 hv3 => ?_)
  refine g_bk3_3 hT hS hm h13 hnv hcst hv3 (fun g4 τ4 u4 L4 hu4 hv4 => ?_)
  refine g_bk3_4 hT hS hm h13 hnv hcst hv4 (fun g5 τ5 u5 L5 hu5 hv5 => ?_)
  refine g_bk3_5 hT hS hm h13 hnv hcst hv5 (fun g6 τ6 u6 L6 hu6 hv6 => ?_)
  refine g_bk3_6 hT hS hm h13 hnv hcst hv6 (fun g7 τ7 u7 L7 hu7 hv7 => ?_)
  refine g_bk3_7 hT hS hm h13 hnv hcst hv7 (fun g8 τ8 u8 L8 hu8 hv8 => ?_)
  refine g_bk3_8 hT hS hm h13 hnv hcst hv8 (fun g9 τ9 u9 L9 hu9 hv9 => ?_)
  refine g_bk3_9 hT hS hm h13 hnv hcst hv9 (fun g10 τ10 u10 L10 hu10 hv10 => ?_)
  refine g_bk3_10 hT hS hm h13 hnv hcst hv10 (fun g11 τ11 u11 L11 hu11 hv11 => ?_)
  refine g_bk3_11 hT hS hm h13 hnv hcst hv11 (fun g12 τ12 u12 L12 hu12 hv12 => ?_)
  refine g_bk3_12 hT hS hm h13 hnv hcst hv12 (fun g13 τ13 u13 L13 hu13 hv13 => ?_)
  refine g_bk3_13 hT hS hm h13 hnv hcst hv13 (fun g14 τ14 u14 L14 hu14 hv14 => ?_)
  refine g_bk3_14 hT hS hm h13 hnv hcst hv14 (fun g15 τ15 u15 L15 hu15 hv15 => ?_)
  refine g_bk3_15 hT hS hm h13 hnv hcst hv15 (fun g16 τ16 u16 L16 hu16 hv16 => ?_)
  refine g_bk3_16 hT hS hm h13 hnv hcst hv16 (fun g17 τ17 u17 L17 hu17 hv17 => ?_)
  refine g_bk3_17 hT hS hm h13 hnv hcst hv17 (fun g18 τ18 u18 L18 hu18 hv18 => ?_)
  refine g_bk3_18 hT hS hm h13 hnv hcst hv18 (fun g19 τ19 u19 L19 hu19 hv19 => ?_)
  refine g_bk3_19 hT hS hm h13 hnv hcst hv19 (fun g20 τ20 u20 L20 hu20 hv20 => ?_)
  refine g_bk3_20 hT hS hm h13 hnv hcst hv20 (fun g21 τ21 u21 L21 hu21 hv21 => ?_)
  refine g_bk3_21 hT hS hm h13 hnv hcst hv21 (fun g22 τ22 u22 L22 hu22 hv22 => ?_)
  refine g_bk3_22 hT hS hm h13 hnv hcst hv22 (fun g23 τ23 u23 L23 hu23 hv23 => ?_)
  refine g_bk3_23 hT hS hm h13 hnv hcst hv23 (fun g24 τ24 u24 L24 hu24 hv24 => ?_)
  refine g_bk3_24 hT hS hm h13 hnv hcst hv24 (fun g25 τ25 u25 L25 hu25 hv25 => ?_)
  refine g_bk3_25 hT hS hm h13 hnv hcst hv25 (fun g26 τ26 u26 L26 hu26 hv26 => ?_)
  refine g_bk3_26 hT hS hm h13 hnv hcst hv26 (fun g27 τ27 u27 L27 hu27 hv27 => ?_)
  rw [show N + 2 + 2 + 2 + 2 + 2 + 2 + 2 + 2 + 2 + 2 + 2 + 2 + 2 + 2 + 2 + 2 + 2 + 2 + 2 + 2 + 2 + 2 + 2 + 2 + 2 + 2 + 2 = N + 54 by omega]
  refine P_gw_lts (fun hlt => ?_)
  have hG := hv27.2.1.choose_spec.1.1.1
  have hgo := q g27 τ27 u27 L27 (by omega) hv27
  exact g_b22 hgo
