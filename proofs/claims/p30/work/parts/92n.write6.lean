/-! the law's own methods, written by wip/g1.py: 92n.write6 -/
theorem wr_5 {d : Nat} {w : P_Lw} {σ : P_A} {g : P_Gl} {τ : P_A} {N u : Nat} {Q : P_GQ} (hw : P_Cw w) {G T : Nat} {tt : Int → Nat} {rT : Int → Nat} {tr : Int → Int → Nat} {cT : Int → Nat} {VV : Int → Int → Int → Int} {L : Nat} {S nn : Nat} {sn : Int → Int} {I m : Nat} {gi : Int → Int} {σ0 : P_A} {ig : Int} {X : List Int} {K : Nat} {tk : List Int} {dr z3 : Int} (hig : 0 ≤ ig ∧ ig ≤ 1) (hb : G_Wb w σ g τ G T tt rT tr cT VV L K tk dr) (hS : P_gS g τ G S nn 3 sn) (hIp : P_gRw g τ G 6 8 I m gi) (htk : tk = X) (htl : tk.length ≤ 11) (hst : G_tf σ0 σ) (hdr : 0 ≤ dr ∧ dr ≤ 800200) (q : ∀ σ' g' τ' N' u' B' C' ad' K' tk' dr' z1 z2, G_Wb w σ' g' τ' G T tt rT tr cT VV L K' tk' dr' → P_gS g' τ' G S nn 3 sn → P_gRw g' τ' G 6 8 I m gi → P_gC g' τ' G B' C' ad' → C'.length ≤ 5 → (∀ x ∈ C', P_gok nn sn cT x ∧ A_cf x 3 = (nn : Int) - 1) → tk' = X ++ A_cts C' 2 → G_tf σ0 σ' → tk'.length ≤ 11 + 4 * C'.length → u' ≤ u + 2100 → dr ≤ dr' → dr' ≤ dr + 60 → P_gw (d + 12) 192 442 [.ref G, P_z ig, P_z z1, P_z z2, P_un, P_un] [] w σ' g' τ' N' u' Q) : P_gw (d + 12) 192 277 [.ref G, P_z ig, .ref S, P_z ((nn : Nat) : Int), P_z z3, P_un] [] w σ g τ N u Q := by
  refine P_gw_lts (fun hlt => ?_)
  obtain ⟨hT, hL, hK, hct, hTK, h0, hs1, hdr2⟩ := id hb
  have hlG := hlt _ _ _ hT.1.1
  have hn1 := hS.2.2.1
  refine P_gw_op (L' := [.ref G, P_z ig, .ref S, P_z ((nn : Nat) : Int), P_z z3, P_un]) (st' := [.ref G]) P_i192_277 rfl (show P_gw _ _ 278 [.ref G, P_z ig, .ref S, P_z ((nn : Nat) : Int), P_z z3, P_un] [.ref G] _ _ _ _ _ _ _ from ?_)
  refine P_gw_op (L' := [.ref G, P_z ig, .ref S, P_z ((nn : Nat) : Int), P_z z3, P_un]) (st' := [P_z 0, .ref G]) P_i192_278 rfl (show P_gw _ _ 279 [.ref G, P_z ig, .ref S, P_z ((nn : Nat) : Int), P_z z3, P_un] [P_z 0, .ref G] _ _ _ _ _ _ _ from ?_)
  refine P_gw_newr (7) P_i192_279 (by omega) (by omega) (show P_gw _ _ 282 [.ref G, P_z ig, .ref S, P_z ((nn : Nat) : Int), P_z z3, P_un] [.ref N, .ref G] _ _ _ _ _ _ _ from ?_)
  refine P_gw_putR (b := N) P_i192_282 ((P_gN_ne (by omega)).trans (hT.1.1)) rfl rfl (fun _ => rfl) (show P_gw _ _ 285 [.ref G, P_z ig, .ref S, P_z ((nn : Nat) : Int), P_z z3, P_un] [] _ _ _ _ _ _ _ from ?_)
  have hf : G_fr G_0 (fun j => j = 11) g τ (P_gN g N 7 (.inr (.inr (200, (0 : Int).toNat)))) (P_u2 (P_tN τ N (fun _ => -1)) G 11 ((N : Nat) : Int)) := G_fr_new hlt hT.1.1 rfl
  have hC := G_C_new (τ := τ) (s := fun _ => -1) (ad := fun _ => 0) hT.1.1 (show G < N by omega)
  have hb := G_Wb_fr hf (fun r h => h.elim) (fun j h => by omega) ((P_u2_ne (by omega)).trans ((P_tN_ne (by omega)).trans hdr2)) hb
  have hS := P_gS_fr hf ⟨id, id⟩ (by omega) hS
  have hIp := P_gRw_fr hf ⟨id, id⟩ (by omega) (by omega) hIp
  obtain ⟨B, hBq⟩ : ∃ x, x = N := ⟨_, rfl⟩
  refine P_gw_re (Pr := fun g' τ' N' u' => G_Wb w σ g' τ' G T tt rT tr cT VV L K tk dr ∧ P_gS g' τ' G S nn 3 sn ∧ P_gRw g' τ' G 6 8 I m gi ∧ P_gC g' τ' G B [] (fun _ => 0) ∧ u' ≤ u + 5) ⟨hb, hS, hIp, hBq ▸ hC, by omega⟩ (fun g τ N u hre => ?_)
  obtain ⟨hb, hS, hIp, hC, hub⟩ := hre
  refine P_gw_lts (fun hlt => ?_)
  obtain ⟨hT, hL, hK, hct, hTK, h0, hs1, hdr2⟩ := id hb
  have hlG := hlt _ _ _ hT.1.1
  refine P_gw_op (L' := [.ref G, P_z ig, .ref S, P_z ((nn : Nat) : Int), P_z z3, P_un]) (st' := [.ref G]) P_i192_285 rfl (show P_gw _ _ 286 [.ref G, P_z ig, .ref S, P_z ((nn : Nat) : Int), P_z z3, P_un] [.ref G] _ _ _ _ _ _ _ from ?_)
  refine P_gw_op (L' := [.ref G, P_z ig, .ref S, P_z ((nn : Nat) : Int), P_z z3, P_un]) (st' := [P_z 6, .ref G]) P_i192_286 (P_o_bi (by decide)) (show P_gw _ _ 288 [.ref G, P_z ig, .ref S, P_z ((nn : Nat) : Int), P_z z3, P_un] [P_z 6, .ref G] _ _ _ _ _ _ _ from ?_)
  refine P_gw_call P_i192_288 rfl rfl (fun _ => rfl) rfl rfl rfl rfl (y2 := 182) (as := [.ref G, P_z 6]) (r0 := []) (P_ginv_v (hT.1.1) rfl rfl) (Nat.le_of_ble_eq_true rfl) (by decide) rfl (Nat.le_of_ble_eq_true rfl) (g_drw hT.1.1 hs1 hdr2 (by omega) (by omega) (fun v1 τ dr hv1a hv1b hf hdq h2 => ?_))
  have hS := P_gS_fr hf ⟨id, id⟩ (G_n2 (by omega)) hS
  have hIp := P_gRw_fr hf ⟨id, id⟩ (by omega) (G_n2 (by omega)) hIp
  have hC := P_gC_fr hf ⟨id, id, id⟩ (G_n2 (by omega)) hC
  have hb := G_Wb_fr hf (fun r h => h.elim) (fun j h => Or.inl h) h2 hb
  obtain ⟨hT, hL, hK, hct, hTK, h0, hs1, hdr2⟩ := id hb
  show P_gw _ _ 291 [.ref G, P_z ig, .ref S, P_z ((nn : Nat) : Int), P_z z3, P_un] [P_z v1] _ _ _ _ _ _ _
  refine P_gw_op (L' := [.ref G, P_z ig, P_z v1, P_z ((nn : Nat) : Int), P_z z3, P_un]) (st' := []) P_i192_291 rfl (show P_gw _ _ 292 [.ref G, P_z ig, P_z v1, P_z ((nn : Nat) : Int), P_z z3, P_un] [] _ _ _ _ _ _ _ from ?_)
  refine P_gw_op (L' := [.ref G, P_z ig, P_z v1, P_z ((nn : Nat) : Int), P_z z3, P_un]) (st' := [P_z 0]) P_i192_292 rfl (show P_gw _ _ 293 [.ref G, P_z ig, P_z v1, P_z ((nn : Nat) : Int), P_z z3, P_un] [P_z 0] _ _ _ _ _ _ _ from ?_)
  refine P_gw_op (L' := [.ref G, P_z ig, P_z v1, P_z 0, P_z z3, P_un]) (st' := []) P_i192_293 rfl (show P_gw _ _ 294 [.ref G, P_z ig, P_z v1, P_z 0, P_un, P_un] [] _ _ _ _ _ _ _ from ?_)
  refine wr_C hw (ig := ig) (X := tk) (σ0 := σ0) hig (my := v1) (by omega) (v1).toNat σ g τ _ u B [] (fun _ => 0) 0 dr K tk hb hS hIp hC rfl (fun x hx => by cases hx) (by simp [A_cts]) (by simp; omega) hst (by omega) (by omega) (fun σ2 g2 τ2 N2 u2 B2 C2 ad2 K2 tk2 dr2 y1 y2 a1 a2 a3 a4 a5 a6 a7 a8 a9 a10 a11 a12 => ?_)
  exact q σ2 g2 τ2 N2 u2 B2 C2 ad2 K2 tk2 dr2 y1 y2 a1 a2 a3 a4 a5 a6 (by rw [a7, htk]) a8 a9 (by omega) (by omega) (by omega)

theorem wr_6a {d : Nat} {w : P_Lw} {σ : P_A} {g : P_Gl} {τ : P_A} {N u : Nat} {Q : P_GQ} (hw : P_Cw w) {G T : Nat} {tt : Int → Nat} {rT : Int → Nat} {tr : Int → Int → Nat} {cT : Int → Nat} {VV : Int → Int → Int → Int} {L : Nat} {S nn : Nat} {sn : Int → Int} {I m : Nat} {gi : Int → Int} {σ0 : P_A} {ig : Int} {X : List Int} {K : Nat} {tk : List Int} {dr z1 z2 : Int} (hig : 0 ≤ ig ∧ ig ≤ 1) (hb : G_Wb w σ g τ G T tt rT tr cT VV L K tk dr) (hS : P_gS g τ G S nn 3 sn) (hIp : P_gRw g τ G 6 8 I m gi) {B : Nat} {C : List A_cd} {ad : Int → Nat} (hC : P_gC g τ G B C ad)  (hdr : 0 ≤ dr ∧ dr ≤ 800300) (q : ∀ τ' dr' v, G_Wb w σ g τ' G T tt rT tr cT VV L K tk dr' → P_gS g τ' G S nn 3 sn → P_gRw g τ' G 6 8 I m gi → P_gC g τ' G B C ad → τ' G 8 = v → (v = -1 ∨ P_gcol nn sn cT v) → dr ≤ dr' → dr' ≤ dr + 4 → P_gw (d + 12) 192 466 [.ref G, P_z ig, P_z z1, P_z z2, P_un, P_un] [] w σ g τ' N u Q) : P_gw (d + 12) 192 442 [.ref G, P_z ig, P_z z1, P_z z2, P_un, P_un] [] w σ g τ N u Q := by
  refine P_gw_lts (fun hlt => ?_)
  obtain ⟨hT, hL, hK, hct, hTK, h0, hs1, hdr2⟩ := id hb
  have hlG := hlt _ _ _ hT.1.1
  have hn1 := hS.2.2.1
  refine P_gw_op (L' := [.ref G, P_z ig, P_z z1, P_z z2, P_un, P_un]) (st' := [.ref G]) P_i192_442 rfl (show P_gw _ _ 443 [.ref G, P_z ig, P_z z1, P_z z2, P_un, P_un] [.ref G] _ _ _ _ _ _ _ from ?_)
  refine P_gw_op (L' := [.ref G, P_z ig, P_z z1, P_z z2, P_un, P_un]) (st' := [P_z ig, .ref G]) P_i192_443 rfl (show P_gw _ _ 444 [.ref G, P_z ig, P_z z1, P_z z2, P_un, P_un] [P_z ig, .ref G] _ _ _ _ _ _ _ from ?_)
  by_cases hc1 : ig = 0
  · refine P_gw_izt P_i192_444 ⟨by omega, by omega⟩ (P_ci_eqt (by omega)) (show P_gw _ _ 462 [.ref G, P_z ig, P_z z1, P_z z2, P_un, P_un] [.ref G] _ _ _ _ _ _ _ from ?_)
    refine P_gw_op (L' := [.ref G, P_z ig, P_z z1, P_z z2, P_un, P_un]) (st' := [P_z (-1), .ref G]) P_i192_462 rfl (show P_gw _ _ 463 [.ref G, P_z ig, P_z z1, P_z z2, P_un, P_un] [P_z (-1), .ref G] _ _ _ _ _ _ _ from ?_)
    refine P_gw_put P_i192_463 (hT.1.1) rfl rfl rfl (show P_gw _ _ 466 [.ref G, P_z ig, P_z z1, P_z z2, P_un, P_un] [] _ _ _ _ _ _ _ from ?_)
    have hf : G_fr G_0 (fun j => j = 8) g τ g (P_u2 τ G 8 (-1)) := G_fr_f hT.1.1 rfl
    have hb := G_Wb_fr hf (fun r h => h.elim) (fun j h => by omega) ((P_u2_ne (by omega)).trans hdr2) hb
    have hS := P_gS_fr hf ⟨id, id⟩ (by omega) hS
    have hIp := P_gRw_fr hf ⟨id, id⟩ (by omega) (by omega) hIp
    have hC := P_gC_fr hf ⟨id, id, id⟩ (by omega) hC
    exact q _ dr (-1) hb hS hIp hC P_u2_at (Or.inl rfl) (by omega) (by omega)
  · refine P_gw_izf P_i192_444 ⟨by omega, by omega⟩ (P_ci_eqf (by omega)) (show P_gw _ _ 447 [.ref G, P_z ig, P_z z1, P_z z2, P_un, P_un] [.ref G] _ _ _ _ _ _ _ from ?_)
    refine P_gw_op (L' := [.ref G, P_z ig, P_z z1, P_z z2, P_un, P_un]) (st' := [.ref G, .ref G]) P_i192_447 rfl (show P_gw _ _ 448 [.ref G, P_z ig, P_z z1, P_z z2, P_un, P_un] [.ref G, .ref G] _ _ _ _ _ _ _ from ?_)
    refine P_gw_op (L' := [.ref G, P_z ig, P_z z1, P_z z2, P_un, P_un]) (st' := [P_z 2, .ref G, .ref G]) P_i192_448 rfl (show P_gw _ _ 449 [.ref G, P_z ig, P_z z1, P_z z2, P_un, P_un] [P_z 2, .ref G, .ref G] _ _ _ _ _ _ _ from ?_)
    refine P_gw_call P_i192_449 rfl rfl (fun _ => rfl) rfl rfl rfl rfl (y2 := 182) (as := [.ref G, P_z 2]) (r0 := [.ref G]) (P_ginv_v (hT.1.1) rfl rfl) (Nat.le_of_ble_eq_true rfl) (by decide) rfl (Nat.le_of_ble_eq_true rfl) (g_drw hT.1.1 hs1 hdr2 (by omega) (by omega) (fun v2 τ dr hv2a hv2b hf hdq h2 => ?_))
    have hS := P_gS_fr hf ⟨id, id⟩ (G_n2 (by omega)) hS
    have hIp := P_gRw_fr hf ⟨id, id⟩ (by omega) (G_n2 (by omega)) hIp
    have hC := P_gC_fr hf ⟨id, id, id⟩ (G_n2 (by omega)) hC
    have hb := G_Wb_fr hf (fun r h => h.elim) (fun j h => Or.inl h) h2 hb
    obtain ⟨hT, hL, hK, hct, hTK, h0, hs1, hdr2⟩ := id hb
    show P_gw _ _ 452 [.ref G, P_z ig, P_z z1, P_z z2, P_un, P_un] [P_z v2, .ref G] _ _ _ _ _ _ _
    by_cases hc3 : v2 = 0
    · refine P_gw_izf P_i192_452 ⟨by omega, by omega⟩ (P_ci_nef (by omega)) (show P_gw _ _ 455 [.ref G, P_z ig, P_z z1, P_z z2, P_un, P_un] [.ref G] _ _ _ _ _ _ _ from ?_)
      refine P_gw_op (L' := [.ref G, P_z ig, P_z z1, P_z z2, P_un, P_un]) (st' := [.ref G, .ref G]) P_i192_455 rfl (show P_gw _ _ 456 [.ref G, P_z ig, P_z z1, P_z z2, P_un, P_un] [.ref G, .ref G] _ _ _ _ _ _ _ from ?_)
      refine P_gw_call P_i192_456 rfl rfl (fun _ => rfl) rfl rfl rfl rfl (y2 := 191) (as := [.ref G]) (r0 := [.ref G]) (P_ginv_v (hT.1.1) rfl rfl) (Nat.le_of_ble_eq_true rfl) (by decide) rfl (Nat.le_of_ble_eq_true rfl) (g_col hb hS (by omega) (fun c4 τ dr hc4 hf hdq h2 => ?_))
      have hS := P_gS_fr hf ⟨id, id⟩ (G_n2 (by omega)) hS
      have hIp := P_gRw_fr hf ⟨id, id⟩ (by omega) (G_n2 (by omega)) hIp
      have hC := P_gC_fr hf ⟨id, id, id⟩ (G_n2 (by omega)) hC
      have hb := G_Wb_fr hf (fun r h => h.elim) (fun j h => Or.inl h) h2 hb
      obtain ⟨hT, hL, hK, hct, hTK, h0, hs1, hdr2⟩ := id hb
      have hc4a := (P_gcol_v hc4).1
      show P_gw _ _ 459 [.ref G, P_z ig, P_z z1, P_z z2, P_un, P_un] [P_z c4, .ref G] _ _ _ _ _ _ _
      refine P_gw_goto P_i192_459 (show P_gw _ _ 463 [.ref G, P_z ig, P_z z1, P_z z2, P_un, P_un] [P_z c4, .ref G] _ _ _ _ _ _ _ from ?_)
      refine P_gw_put P_i192_463 (hT.1.1) rfl rfl rfl (show P_gw _ _ 466 [.ref G, P_z ig, P_z z1, P_z z2, P_un, P_un] [] _ _ _ _ _ _ _ from ?_)
      have hf : G_fr G_0 (fun j => j = 8) g τ g (P_u2 τ G 8 c4) := G_fr_f hT.1.1 rfl
      have hb := G_Wb_fr hf (fun r h => h.elim) (fun j h => by omega) ((P_u2_ne (by omega)).trans hdr2) hb
      have hS := P_gS_fr hf ⟨id, id⟩ (by omega) hS
      have hIp := P_gRw_fr hf ⟨id, id⟩ (by omega) (by omega) hIp
      have hC := P_gC_fr hf ⟨id, id, id⟩ (by omega) hC
      exact q _ dr c4 hb hS hIp hC P_u2_at (Or.inr hc4) (by omega) (by omega)
    · refine P_gw_izt P_i192_452 ⟨by omega, by omega⟩ (P_ci_net (by omega)) (show P_gw _ _ 462 [.ref G, P_z ig, P_z z1, P_z z2, P_un, P_un] [.ref G] _ _ _ _ _ _ _ from ?_)
      refine P_gw_op (L' := [.ref G, P_z ig, P_z z1, P_z z2, P_un, P_un]) (st' := [P_z (-1), .ref G]) P_i192_462 rfl (show P_gw _ _ 463 [.ref G, P_z ig, P_z z1, P_z z2, P_un, P_un] [P_z (-1), .ref G] _ _ _ _ _ _ _ from ?_)
      refine P_gw_put P_i192_463 (hT.1.1) rfl rfl rfl (show P_gw _ _ 466 [.ref G, P_z ig, P_z z1, P_z z2, P_un, P_un] [] _ _ _ _ _ _ _ from ?_)
      have hf : G_fr G_0 (fun j => j = 8) g τ g (P_u2 τ G 8 (-1)) := G_fr_f hT.1.1 rfl
      have hb := G_Wb_fr hf (fun r h => h.elim) (fun j h => by omega) ((P_u2_ne (by omega)).trans hdr2) hb
      have hS := P_gS_fr hf ⟨id, id⟩ (by omega) hS
      have hIp := P_gRw_fr hf ⟨id, id⟩ (by omega) (by omega) hIp
      have hC := P_gC_fr hf ⟨id, id, id⟩ (by omega) hC
      exact q _ dr (-1) hb hS hIp hC P_u2_at (Or.inl rfl) (by omega) (by omega)

theorem wr_6b {d : Nat} {w : P_Lw} {σ : P_A} {g : P_Gl} {τ : P_A} {N u : Nat} {Q : P_GQ} (hw : P_Cw w) {G T : Nat} {tt : Int → Nat} {rT : Int → Nat} {tr : Int → Int → Nat} {cT : Int → Nat} {VV : Int → Int → Int → Int} {L : Nat} {S nn : Nat} {sn : Int → Int} {I m : Nat} {gi : Int → Int} {σ0 : P_A} {ig : Int} {X : List Int} {K : Nat} {tk : List Int} {dr z1 z2 : Int} (hig : 0 ≤ ig ∧ ig ≤ 1) (hb : G_Wb w σ g τ G T tt rT tr cT VV L K tk dr) (hS : P_gS g τ G S nn 3 sn) (hIp : P_gRw g τ G 6 8 I m gi) {B : Nat} {C : List A_cd} {ad : Int → Nat} (hC : P_gC g τ G B C ad) (hm : 1 ≤ m ∧ m ≤ 3) {gp : Int} (h8 : τ G 8 = gp) (hdr : 0 ≤ dr ∧ dr ≤ 800300) (q : ∀ τ' dr' v, G_Wb w σ g τ' G T tt rT tr cT VV L K tk dr' → P_gS g τ' G S nn 3 sn → P_gRw g τ' G 6 8 I m gi → P_gC g τ' G B C ad → τ' G 8 = gp → τ' G 9 = v → (-1 ≤ v ∧ v < (m : Int)) → dr ≤ dr' → dr' ≤ dr + 4 → P_gw (d + 12) 192 491 [.ref G, P_z ig, P_z z1, P_z z2, P_un, P_un] [] w σ g τ' N u Q) : P_gw (d + 12) 192 466 [.ref G, P_z ig, P_z z1, P_z z2, P_un, P_un] [] w σ g τ N u Q := by
  refine P_gw_lts (fun hlt => ?_)
  obtain ⟨hT, hL, hK, hct, hTK, h0, hs1, hdr2⟩ := id hb
  have hlG := hlt _ _ _ hT.1.1
  have hn1 := hS.2.2.1
  refine P_gw_op (L' := [.ref G, P_z ig, P_z z1, P_z z2, P_un, P_un]) (st' := [.ref G]) P_i192_466 rfl (show P_gw _ _ 467 [.ref G, P_z ig, P_z z1, P_z z2, P_un, P_un] [.ref G] _ _ _ _ _ _ _ from ?_)
  refine P_gw_op (L' := [.ref G, P_z ig, P_z z1, P_z z2, P_un, P_un]) (st' := [.ref G, .ref G]) P_i192_467 rfl (show P_gw _ _ 468 [.ref G, P_z ig, P_z z1, P_z z2, P_un, P_un] [.ref G, .ref G] _ _ _ _ _ _ _ from ?_)
  refine P_gw_op (L' := [.ref G, P_z ig, P_z z1, P_z z2, P_un, P_un]) (st' := [P_z 3, .ref G, .ref G]) P_i192_468 rfl (show P_gw _ _ 469 [.ref G, P_z ig, P_z z1, P_z z2, P_un, P_un] [P_z 3, .ref G, .ref G] _ _ _ _ _ _ _ from ?_)
  refine P_gw_call P_i192_469 rfl rfl (fun _ => rfl) rfl rfl rfl rfl (y2 := 182) (as := [.ref G, P_z 3]) (r0 := [.ref G]) (P_ginv_v (hT.1.1) rfl rfl) (Nat.le_of_ble_eq_true rfl) (by decide) rfl (Nat.le_of_ble_eq_true rfl) (g_drw hT.1.1 hs1 hdr2 (by omega) (by omega) (fun v1 τ dr hv1a hv1b hf hdq h2 => ?_))
  have hS := P_gS_fr hf ⟨id, id⟩ (G_n2 (by omega)) hS
  have hIp := P_gRw_fr hf ⟨id, id⟩ (by omega) (G_n2 (by omega)) hIp
  have hC := P_gC_fr hf ⟨id, id, id⟩ (G_n2 (by omega)) hC
  have h8 := ((hf _ _ _ hT.1.1).2 8 (fun _ => (G_n2 (by omega))) id).trans h8
  have hb := G_Wb_fr hf (fun r h => h.elim) (fun j h => Or.inl h) h2 hb
  obtain ⟨hT, hL, hK, hct, hTK, h0, hs1, hdr2⟩ := id hb
  show P_gw _ _ 472 [.ref G, P_z ig, P_z z1, P_z z2, P_un, P_un] [P_z v1, .ref G] _ _ _ _ _ _ _
  by_cases hc2 : v1 = 0
  · refine P_gw_izf P_i192_472 ⟨by omega, by omega⟩ (P_ci_nef (by omega)) (show P_gw _ _ 475 [.ref G, P_z ig, P_z z1, P_z z2, P_un, P_un] [.ref G] _ _ _ _ _ _ _ from ?_)
    refine P_gw_op (L' := [.ref G, P_z ig, P_z z1, P_z z2, P_un, P_un]) (st' := [.ref G, .ref G]) P_i192_475 rfl (show P_gw _ _ 476 [.ref G, P_z ig, P_z z1, P_z z2, P_un, P_un] [.ref G, .ref G] _ _ _ _ _ _ _ from ?_)
    refine P_gw_op (L' := [.ref G, P_z ig, P_z z1, P_z z2, P_un, P_un]) (st' := [.ref G, .ref G, .ref G]) P_i192_476 rfl (show P_gw _ _ 477 [.ref G, P_z ig, P_z z1, P_z z2, P_un, P_un] [.ref G, .ref G, .ref G] _ _ _ _ _ _ _ from ?_)
    refine P_gw_getR (P_i192_477) (hT.1.1) rfl rfl (hIp.1.2) (show P_gw _ _ 480 [.ref G, P_z ig, P_z z1, P_z z2, P_un, P_un] [.ref I, .ref G, .ref G] _ _ _ _ _ _ _ from ?_)
    refine P_gw_alen P_i192_480 (hIp.2.1) (show P_gw _ _ 481 [.ref G, P_z ig, P_z z1, P_z z2, P_un, P_un] [P_z ((m : Nat) : Int), .ref G, .ref G] _ _ _ _ _ _ _ from ?_)
    refine P_gw_call P_i192_481 rfl rfl (fun _ => rfl) rfl rfl rfl rfl (y2 := 182) (as := [.ref G, P_z ((m : Nat) : Int)]) (r0 := [.ref G]) (P_ginv_v (hT.1.1) rfl rfl) (Nat.le_of_ble_eq_true rfl) (by decide) rfl (Nat.le_of_ble_eq_true rfl) (g_drw hT.1.1 hs1 hdr2 (by omega) (by omega) (fun v3 τ dr hv3a hv3b hf hdq h2 => ?_))
    have hS := P_gS_fr hf ⟨id, id⟩ (G_n2 (by omega)) hS
    have hIp := P_gRw_fr hf ⟨id, id⟩ (by omega) (G_n2 (by omega)) hIp
    have hC := P_gC_fr hf ⟨id, id, id⟩ (G_n2 (by omega)) hC
    have h8 := ((hf _ _ _ hT.1.1).2 8 (fun _ => (G_n2 (by omega))) id).trans h8
    have hb := G_Wb_fr hf (fun r h => h.elim) (fun j h => Or.inl h) h2 hb
    obtain ⟨hT, hL, hK, hct, hTK, h0, hs1, hdr2⟩ := id hb
    show P_gw _ _ 484 [.ref G, P_z ig, P_z z1, P_z z2, P_un, P_un] [P_z v3, .ref G] _ _ _ _ _ _ _
    refine P_gw_goto P_i192_484 (show P_gw _ _ 488 [.ref G, P_z ig, P_z z1, P_z z2, P_un, P_un] [P_z v3, .ref G] _ _ _ _ _ _ _ from ?_)
    refine P_gw_put P_i192_488 (hT.1.1) rfl rfl rfl (show P_gw _ _ 491 [.ref G, P_z ig, P_z z1, P_z z2, P_un, P_un] [] _ _ _ _ _ _ _ from ?_)
    have hf : G_fr G_0 (fun j => j = 9) g τ g (P_u2 τ G 9 v3) := G_fr_f hT.1.1 rfl
    have hb := G_Wb_fr hf (fun r h => h.elim) (fun j h => by omega) ((P_u2_ne (by omega)).trans hdr2) hb
    have hS := P_gS_fr hf ⟨id, id⟩ (by omega) hS
    have hIp := P_gRw_fr hf ⟨id, id⟩ (by omega) (by omega) hIp
    have hC := P_gC_fr hf ⟨id, id, id⟩ (by omega) hC
    have h8 := ((hf _ _ _ hT.1.1).2 8 (fun _ => (by omega)) id).trans h8
    exact q _ dr v3 hb hS hIp hC h8 P_u2_at (by omega) (by omega) (by omega)
  · refine P_gw_izt P_i192_472 ⟨by omega, by omega⟩ (P_ci_net (by omega)) (show P_gw _ _ 487 [.ref G, P_z ig, P_z z1, P_z z2, P_un, P_un] [.ref G] _ _ _ _ _ _ _ from ?_)
    refine P_gw_op (L' := [.ref G, P_z ig, P_z z1, P_z z2, P_un, P_un]) (st' := [P_z (-1), .ref G]) P_i192_487 rfl (show P_gw _ _ 488 [.ref G, P_z ig, P_z z1, P_z z2, P_un, P_un] [P_z (-1), .ref G] _ _ _ _ _ _ _ from ?_)
    refine P_gw_put P_i192_488 (hT.1.1) rfl rfl rfl (show P_gw _ _ 491 [.ref G, P_z ig, P_z z1, P_z z2, P_un, P_un] [] _ _ _ _ _ _ _ from ?_)
    have hf : G_fr G_0 (fun j => j = 9) g τ g (P_u2 τ G 9 (-1)) := G_fr_f hT.1.1 rfl
    have hb := G_Wb_fr hf (fun r h => h.elim) (fun j h => by omega) ((P_u2_ne (by omega)).trans hdr2) hb
    have hS := P_gS_fr hf ⟨id, id⟩ (by omega) hS
    have hIp := P_gRw_fr hf ⟨id, id⟩ (by omega) (by omega) hIp
    have hC := P_gC_fr hf ⟨id, id, id⟩ (by omega) hC
    have h8 := ((hf _ _ _ hT.1.1).2 8 (fun _ => (by omega)) id).trans h8
    exact q _ dr (-1) hb hS hIp hC h8 P_u2_at (by omega) (by omega) (by omega)

theorem wr_6c {d : Nat} {w : P_Lw} {σ : P_A} {g : P_Gl} {τ : P_A} {N u : Nat} {Q : P_GQ} (hw : P_Cw w) {G T : Nat} {tt : Int → Nat} {rT : Int → Nat} {tr : Int → Int → Nat} {cT : Int → Nat} {VV : Int → Int → Int → Int} {L : Nat} {S nn : Nat} {sn : Int → Int} {I m : Nat} {gi : Int → Int} {σ0 : P_A} {ig : Int} {X : List Int} {K : Nat} {tk : List Int} {dr z1 z2 : Int} (hig : 0 ≤ ig ∧ ig ≤ 1) (hb : G_Wb w σ g τ G T tt rT tr cT VV L K tk dr) (hS : P_gS g τ G S nn 3 sn) (hIp : P_gRw g τ G 6 8 I m gi) {B : Nat} {C : List A_cd} {ad : Int → Nat} (hC : P_gC g τ G B C ad) {gp oi : Int} (h8 : τ G 8 = gp) (h9 : τ G 9 = oi) (hdr : 0 ≤ dr ∧ dr ≤ 800300) (q : ∀ τ' dr' v, G_Wb w σ g τ' G T tt rT tr cT VV L K tk dr' → P_gS g τ' G S nn 3 sn → P_gRw g τ' G 6 8 I m gi → P_gC g τ' G B C ad → τ' G 8 = gp → τ' G 9 = oi → τ' G 10 = v → (-1 ≤ v ∧ v ≤ 5) → dr ≤ dr' → dr' ≤ dr + 4 → P_gw (d + 12) 192 513 [.ref G, P_z ig, P_z z1, P_z z2, P_un, P_un] [] w σ g τ' N u Q) : P_gw (d + 12) 192 491 [.ref G, P_z ig, P_z z1, P_z z2, P_un, P_un] [] w σ g τ N u Q := by
  refine P_gw_lts (fun hlt => ?_)
  obtain ⟨hT, hL, hK, hct, hTK, h0, hs1, hdr2⟩ := id hb
  have hlG := hlt _ _ _ hT.1.1
  have hn1 := hS.2.2.1
  refine P_gw_op (L' := [.ref G, P_z ig, P_z z1, P_z z2, P_un, P_un]) (st' := [.ref G]) P_i192_491 rfl (show P_gw _ _ 492 [.ref G, P_z ig, P_z z1, P_z z2, P_un, P_un] [.ref G] _ _ _ _ _ _ _ from ?_)
  refine P_gw_op (L' := [.ref G, P_z ig, P_z z1, P_z z2, P_un, P_un]) (st' := [.ref G, .ref G]) P_i192_492 rfl (show P_gw _ _ 493 [.ref G, P_z ig, P_z z1, P_z z2, P_un, P_un] [.ref G, .ref G] _ _ _ _ _ _ _ from ?_)
  refine P_gw_op (L' := [.ref G, P_z ig, P_z z1, P_z z2, P_un, P_un]) (st' := [P_z 3, .ref G, .ref G]) P_i192_493 rfl (show P_gw _ _ 494 [.ref G, P_z ig, P_z z1, P_z z2, P_un, P_un] [P_z 3, .ref G, .ref G] _ _ _ _ _ _ _ from ?_)
  refine P_gw_call P_i192_494 rfl rfl (fun _ => rfl) rfl rfl rfl rfl (y2 := 182) (as := [.ref G, P_z 3]) (r0 := [.ref G]) (P_ginv_v (hT.1.1) rfl rfl) (Nat.le_of_ble_eq_true rfl) (by decide) rfl (Nat.le_of_ble_eq_true rfl) (g_drw hT.1.1 hs1 hdr2 (by omega) (by omega) (fun v1 τ dr hv1a hv1b hf hdq h2 => ?_))
  have hS := P_gS_fr hf ⟨id, id⟩ (G_n2 (by omega)) hS
  have hIp := P_gRw_fr hf ⟨id, id⟩ (by omega) (G_n2 (by omega)) hIp
  have hC := P_gC_fr hf ⟨id, id, id⟩ (G_n2 (by omega)) hC
  have h8 := ((hf _ _ _ hT.1.1).2 8 (fun _ => (G_n2 (by omega))) id).trans h8
  have h9 := ((hf _ _ _ hT.1.1).2 9 (fun _ => (G_n2 (by omega))) id).trans h9
  have hb := G_Wb_fr hf (fun r h => h.elim) (fun j h => Or.inl h) h2 hb
  obtain ⟨hT, hL, hK, hct, hTK, h0, hs1, hdr2⟩ := id hb
  show P_gw _ _ 497 [.ref G, P_z ig, P_z z1, P_z z2, P_un, P_un] [P_z v1, .ref G] _ _ _ _ _ _ _
  by_cases hc2 : v1 = 0
  · refine P_gw_izf P_i192_497 ⟨by omega, by omega⟩ (P_ci_nef (by omega)) (show P_gw _ _ 500 [.ref G, P_z ig, P_z z1, P_z z2, P_un, P_un] [.ref G] _ _ _ _ _ _ _ from ?_)
    refine P_gw_op (L' := [.ref G, P_z ig, P_z z1, P_z z2, P_un, P_un]) (st' := [.ref G, .ref G]) P_i192_500 rfl (show P_gw _ _ 501 [.ref G, P_z ig, P_z z1, P_z z2, P_un, P_un] [.ref G, .ref G] _ _ _ _ _ _ _ from ?_)
    refine P_gw_op (L' := [.ref G, P_z ig, P_z z1, P_z z2, P_un, P_un]) (st' := [P_z 6, .ref G, .ref G]) P_i192_501 (P_o_bi (by decide)) (show P_gw _ _ 503 [.ref G, P_z ig, P_z z1, P_z z2, P_un, P_un] [P_z 6, .ref G, .ref G] _ _ _ _ _ _ _ from ?_)
    refine P_gw_call P_i192_503 rfl rfl (fun _ => rfl) rfl rfl rfl rfl (y2 := 182) (as := [.ref G, P_z 6]) (r0 := [.ref G]) (P_ginv_v (hT.1.1) rfl rfl) (Nat.le_of_ble_eq_true rfl) (by decide) rfl (Nat.le_of_ble_eq_true rfl) (g_drw hT.1.1 hs1 hdr2 (by omega) (by omega) (fun v3 τ dr hv3a hv3b hf hdq h2 => ?_))
    have hS := P_gS_fr hf ⟨id, id⟩ (G_n2 (by omega)) hS
    have hIp := P_gRw_fr hf ⟨id, id⟩ (by omega) (G_n2 (by omega)) hIp
    have hC := P_gC_fr hf ⟨id, id, id⟩ (G_n2 (by omega)) hC
    have h8 := ((hf _ _ _ hT.1.1).2 8 (fun _ => (G_n2 (by omega))) id).trans h8
    have h9 := ((hf _ _ _ hT.1.1).2 9 (fun _ => (G_n2 (by omega))) id).trans h9
    have hb := G_Wb_fr hf (fun r h => h.elim) (fun j h => Or.inl h) h2 hb
    obtain ⟨hT, hL, hK, hct, hTK, h0, hs1, hdr2⟩ := id hb
    show P_gw _ _ 506 [.ref G, P_z ig, P_z z1, P_z z2, P_un, P_un] [P_z v3, .ref G] _ _ _ _ _ _ _
    refine P_gw_goto P_i192_506 (show P_gw _ _ 510 [.ref G, P_z ig, P_z z1, P_z z2, P_un, P_un] [P_z v3, .ref G] _ _ _ _ _ _ _ from ?_)
    refine P_gw_put P_i192_510 (hT.1.1) rfl rfl rfl (show P_gw _ _ 513 [.ref G, P_z ig, P_z z1, P_z z2, P_un, P_un] [] _ _ _ _ _ _ _ from ?_)
    have hf : G_fr G_0 (fun j => j = 10) g τ g (P_u2 τ G 10 v3) := G_fr_f hT.1.1 rfl
    have hb := G_Wb_fr hf (fun r h => h.elim) (fun j h => by omega) ((P_u2_ne (by omega)).trans hdr2) hb
    have hS := P_gS_fr hf ⟨id, id⟩ (by omega) hS
    have hIp := P_gRw_fr hf ⟨id, id⟩ (by omega) (by omega) hIp
    have hC := P_gC_fr hf ⟨id, id, id⟩ (by omega) hC
    have h8 := ((hf _ _ _ hT.1.1).2 8 (fun _ => (by omega)) id).trans h8
    have h9 := ((hf _ _ _ hT.1.1).2 9 (fun _ => (by omega)) id).trans h9
    exact q _ dr v3 hb hS hIp hC h8 h9 P_u2_at (by omega) (by omega) (by omega)
  · refine P_gw_izt P_i192_497 ⟨by omega, by omega⟩ (P_ci_net (by omega)) (show P_gw _ _ 509 [.ref G, P_z ig, P_z z1, P_z z2, P_un, P_un] [.ref G] _ _ _ _ _ _ _ from ?_)
    refine P_gw_op (L' := [.ref G, P_z ig, P_z z1, P_z z2, P_un, P_un]) (st' := [P_z (-1), .ref G]) P_i192_509 rfl (show P_gw _ _ 510 [.ref G, P_z ig, P_z z1, P_z z2, P_un, P_un] [P_z (-1), .ref G] _ _ _ _ _ _ _ from ?_)
    refine P_gw_put P_i192_510 (hT.1.1) rfl rfl rfl (show P_gw _ _ 513 [.ref G, P_z ig, P_z z1, P_z z2, P_un, P_un] [] _ _ _ _ _ _ _ from ?_)
    have hf : G_fr G_0 (fun j => j = 10) g τ g (P_u2 τ G 10 (-1)) := G_fr_f hT.1.1 rfl
    have hb := G_Wb_fr hf (fun r h => h.elim) (fun j h => by omega) ((P_u2_ne (by omega)).trans hdr2) hb
    have hS := P_gS_fr hf ⟨id, id⟩ (by omega) hS
    have hIp := P_gRw_fr hf ⟨id, id⟩ (by omega) (by omega) hIp
    have hC := P_gC_fr hf ⟨id, id, id⟩ (by omega) hC
    have h8 := ((hf _ _ _ hT.1.1).2 8 (fun _ => (by omega)) id).trans h8
    have h9 := ((hf _ _ _ hT.1.1).2 9 (fun _ => (by omega)) id).trans h9
    exact q _ dr (-1) hb hS hIp hC h8 h9 P_u2_at (by omega) (by omega) (by omega)

theorem P_gRw_cg {g : P_Gl} {τ : P_A} {G f r A m : Nat} {fn fn' : Int → Int} (h : ∀ j, 0 ≤ j → j < (m : Int) → fn' j = fn j) (hR : P_gRw g τ G f r A m fn) : P_gRw g τ G f r A m fn' := ⟨hR.1, hR.2.1, fun j a b => (hR.2.2 j a b).trans (h j a b).symm⟩
theorem P_gO_id {g : P_Gl} {τ : P_A} {G D nn : Nat} (hnn : 1 ≤ nn ∧ nn ≤ 3) (h : P_gRw g τ G 12 6 D nn (fun j => j)) : P_gO g τ G D nn (fun j => j) := ⟨h.1, h.2.1, fun j a b => ⟨h.2.2 j a b, a, b⟩, fun s a b => by show (0 : Int) = s ∨ 1 < nn ∧ (1 : Int) = s ∨ 2 < nn ∧ (2 : Int) = s; omega⟩
theorem G_up_id {m : Nat} {v : Int} (hv : v = (m : Int)) : ∀ j, 0 ≤ j → j < ((m + 1 : Nat) : Int) → (fun j : Int => j) j = G_up (fun j => j) m v j := fun j _ _ => by
  show j = if j = (m : Int) then v else j
  split <;> omega
def G_pf (j : Nat) : Prop := j = 12 ∨ j = 13
theorem g_pll {d : Nat} {w : P_Lw} {σ : P_A} {Q : P_GQ} {G S nn : Nat} {sn : Int → Int} : ∀ (n : Nat) (g : P_Gl) (τ : P_A) (N : Nat) (u : Nat) (D : Nat) (kn : Nat), (g G = some (1, .inl (11, [true, true, false, true, true, true, true, true, false, false, false, true, true, false, false, false]))) → (P_gS g τ G S nn 3 sn) → (P_gRw g τ G 12 6 D kn (fun j => j)) → (nn = kn + n) → (∀ g' τ' N' u' D', G_fr G_0 G_12 g τ g' τ' → P_gRw g' τ' G 12 6 D' nn (fun j => j) → u' ≤ u + 10 * n → Q (.inl none) w σ g' τ' N' u') → P_gw (d + 3) 193 14 [.ref G, P_z ((kn : Nat) : Int)] [] w σ g τ N u Q := by
  intro n
  induction n with
  | zero =>
    intro g τ N u D kn hv0 hv1 hv2 hv3 q
    have hG := hv0
    have hS := hv1
    have hDp := hv2
    have hn1 := hS.2.2.1
    refine P_gw_op (L' := [.ref G, P_z ((kn : Nat) : Int)]) (st' := [P_z ((kn : Nat) : Int)]) P_i193_14 rfl (show P_gw _ _ 15 [.ref G, P_z ((kn : Nat) : Int)] [P_z ((kn : Nat) : Int)] _ _ _ _ _ _ _ from ?_)
    refine P_gw_op (L' := [.ref G, P_z ((kn : Nat) : Int)]) (st' := [.ref G, P_z ((kn : Nat) : Int)]) P_i193_15 rfl (show P_gw _ _ 16 [.ref G, P_z ((kn : Nat) : Int)] [.ref G, P_z ((kn : Nat) : Int)] _ _ _ _ _ _ _ from ?_)
    refine P_gw_getR (P_i193_16) (hG) rfl rfl (hS.1.2) (show P_gw _ _ 19 [.ref G, P_z ((kn : Nat) : Int)] [.ref S, P_z ((kn : Nat) : Int)] _ _ _ _ _ _ _ from ?_)
    refine P_gw_alen P_i193_19 (hS.2.1) (show P_gw _ _ 20 [.ref G, P_z ((kn : Nat) : Int)] [P_z ((nn : Nat) : Int), P_z ((kn : Nat) : Int)] _ _ _ _ _ _ _ from ?_)
    refine P_gw_ict P_i193_20 ⟨by omega, by omega⟩ ⟨by omega, by omega⟩ (P_ci_get (by omega)) (show P_gw _ _ 41 [.ref G, P_z ((kn : Nat) : Int)] [] _ _ _ _ _ _ _ from ?_)
    refine P_gw_end P_i193_41 rfl rfl (fun _ => rfl) rfl ?_
    exact q g τ N u D G_fr_rf (by rw [show nn = kn by omega]; exact hDp) (by omega)
  | succ n ih =>
    intro g τ N u D kn hv0 hv1 hv2 hv3 q
    have hG := hv0
    have hS := hv1
    have hDp := hv2
    have hn1 := hS.2.2.1
    refine P_gw_lts (fun hlt => ?_)
    have hlG := hlt _ _ _ hG
    refine P_gw_op (L' := [.ref G, P_z ((kn : Nat) : Int)]) (st' := [P_z ((kn : Nat) : Int)]) P_i193_14 rfl (show P_gw _ _ 15 [.ref G, P_z ((kn : Nat) : Int)] [P_z ((kn : Nat) : Int)] _ _ _ _ _ _ _ from ?_)
    refine P_gw_op (L' := [.ref G, P_z ((kn : Nat) : Int)]) (st' := [.ref G, P_z ((kn : Nat) : Int)]) P_i193_15 rfl (show P_gw _ _ 16 [.ref G, P_z ((kn : Nat) : Int)] [.ref G, P_z ((kn : Nat) : Int)] _ _ _ _ _ _ _ from ?_)
    refine P_gw_getR (P_i193_16) (hG) rfl rfl (hS.1.2) (show P_gw _ _ 19 [.ref G, P_z ((kn : Nat) : Int)] [.ref S, P_z ((kn : Nat) : Int)] _ _ _ _ _ _ _ from ?_)
    refine P_gw_alen P_i193_19 (hS.2.1) (show P_gw _ _ 20 [.ref G, P_z ((kn : Nat) : Int)] [P_z ((nn : Nat) : Int), P_z ((kn : Nat) : Int)] _ _ _ _ _ _ _ from ?_)
    refine P_gw_icf P_i193_20 ⟨by omega, by omega⟩ ⟨by omega, by omega⟩ (P_ci_gef (by omega)) (show P_gw _ _ 23 [.ref G, P_z ((kn : Nat) : Int)] [] _ _ _ _ _ _ _ from ?_)
    refine P_gw_op (L' := [.ref G, P_z ((kn : Nat) : Int)]) (st' := [.ref G]) P_i193_23 rfl (show P_gw _ _ 24 [.ref G, P_z ((kn : Nat) : Int)] [.ref G] _ _ _ _ _ _ _ from ?_)
    refine P_gw_op (L' := [.ref G, P_z ((kn : Nat) : Int)]) (st' := [.ref G, .ref G]) P_i193_24 rfl (show P_gw _ _ 25 [.ref G, P_z ((kn : Nat) : Int)] [.ref G, .ref G] _ _ _ _ _ _ _ from ?_)
    refine P_gw_getR (P_i193_25) (hG) rfl rfl (hDp.1.2) (show P_gw _ _ 28 [.ref G, P_z ((kn : Nat) : Int)] [.ref D, .ref G] _ _ _ _ _ _ _ from ?_)
    refine P_gw_op (L' := [.ref G, P_z ((kn : Nat) : Int)]) (st' := [P_z ((kn : Nat) : Int), .ref D, .ref G]) P_i193_28 rfl (show P_gw _ _ 29 [.ref G, P_z ((kn : Nat) : Int)] [P_z ((kn : Nat) : Int), .ref D, .ref G] _ _ _ _ _ _ _ from ?_)
    have hlD := (hlt _ _ _ hDp.2.1).2
    refine P_gw_call P_i193_29 rfl rfl (fun _ => rfl) rfl rfl rfl rfl (y2 := 183) (as := [.ref D, P_z ((kn : Nat) : Int)]) (r0 := [.ref G]) (fun _ _ => rfl) (Nat.le_of_ble_eq_true rfl) (by decide) rfl (Nat.le_of_ble_eq_true rfl) (s_plus 6 hDp.2.1 (by omega) (fun g' τ' u' hx hN h1 h2 hu => ?_))
    show P_gw _ _ 32 [.ref G, P_z ((kn : Nat) : Int)] [.ref N, .ref G] _ _ _ _ _ _ _
    refine P_gw_putR (b := N) P_i193_32 (((hx G (by omega)).1).trans (hG)) rfl rfl (fun _ => rfl) (show P_gw _ _ 35 [.ref G, P_z ((kn : Nat) : Int)] [] _ _ _ _ _ _ _ from ?_)
    refine P_gw_op (L' := [.ref G, P_z (((kn : Nat) : Int) + 1)]) (st' := []) P_i193_35 (P_o_iinc rfl) (show P_gw _ _ 38 [.ref G, P_z (((kn : Nat) : Int) + 1)] [] _ _ _ _ _ _ _ from ?_)
    refine P_gw_goto P_i193_38 (show P_gw _ _ 14 [.ref G, P_z (((kn : Nat) : Int) + 1)] [] _ _ _ _ _ _ _ from ?_)
    have hf : G_fr G_0 G_12 g τ g' (P_u2 τ' G 12 (N : Int)) := G_fr_tr (G_fr_xt hlt hx) (G_fr_f ((hx G (by omega)).1.trans hG) rfl)
    have hD0 := P_gRw_add (f := 12) (fn := fun j => j) hG (by omega) hx hN h1 h2 hDp.2.2
    have hD1 := P_gRw_cg (fn' := fun j => j) (G_up_id rfl) hD0
    have hS1 := P_gS_fr hf ⟨id, id⟩ (by unfold G_12; omega) hS
    exact ih g' _ (N + 1) u' N (kn + 1) ((hx G (by omega)).1.trans hG) hS1 hD1 (by omega) (fun g2 τ2 N2 u2 D2 a1 a2 a3 => q g2 τ2 N2 u2 D2 (G_fr_tr hf a1) a2 (by omega))

theorem g_pln {d : Nat} {w : P_Lw} {σ : P_A} {g : P_Gl} {τ : P_A} {N u : Nat} {Q : P_GQ} {G S nn : Nat} {sn : Int → Int} (hG : g G = some (1, .inl (11, [true, true, false, true, true, true, true, true, false, false, false, true, true, false, false, false]))) (hS : P_gS g τ G S nn 3 sn) (q : ∀ g' τ' N' u' D', G_fr G_0 G_pf g τ g' τ' → P_gO g' τ' G D' nn (fun j => j) → τ' G 13 = 0 → u' ≤ u + 50 → Q (.inl none) w σ g' τ' N' u') : P_gw (d + 4) 193 0 [.ref G, P_un] [] w σ g τ N u Q := by
  refine P_gw_lts (fun hlt => ?_)
  have hlG := hlt _ _ _ hG
  have hn1 := hS.2.2.1
  refine P_gw_op (L' := [.ref G, P_un]) (st' := [.ref G]) P_i193_0 rfl (show P_gw _ _ 1 [.ref G, P_un] [.ref G] _ _ _ _ _ _ _ from ?_)
  refine P_gw_op (L' := [.ref G, P_un]) (st' := [P_z 0, .ref G]) P_i193_1 rfl (show P_gw _ _ 2 [.ref G, P_un] [P_z 0, .ref G] _ _ _ _ _ _ _ from ?_)
  refine P_gw_put P_i193_2 (hG) rfl rfl rfl (show P_gw _ _ 5 [.ref G, P_un] [] _ _ _ _ _ _ _ from ?_)
  refine P_gw_op (L' := [.ref G, P_un]) (st' := [.ref G]) P_i193_5 rfl (show P_gw _ _ 6 [.ref G, P_un] [.ref G] _ _ _ _ _ _ _ from ?_)
  refine P_gw_op (L' := [.ref G, P_un]) (st' := [P_z 0, .ref G]) P_i193_6 rfl (show P_gw _ _ 7 [.ref G, P_un] [P_z 0, .ref G] _ _ _ _ _ _ _ from ?_)
  refine P_gw_newi (6) P_i193_7 (by omega) (by omega) (show P_gw _ _ 9 [.ref G, P_un] [.ref N, .ref G] _ _ _ _ _ _ _ from ?_)
  refine P_gw_putR (b := N) P_i193_9 ((P_gN_ne (by omega)).trans (hG)) rfl rfl (fun _ => rfl) (show P_gw _ _ 12 [.ref G, P_un] [] _ _ _ _ _ _ _ from ?_)
  refine P_gw_op (L' := [.ref G, P_un]) (st' := [P_z 0]) P_i193_12 rfl (show P_gw _ _ 13 [.ref G, P_un] [P_z 0] _ _ _ _ _ _ _ from ?_)
  refine P_gw_op (L' := [.ref G, P_z 0]) (st' := []) P_i193_13 rfl (show P_gw _ _ 14 [.ref G, P_z 0] [] _ _ _ _ _ _ _ from ?_)
  have hf : G_fr G_0 G_pf g τ (P_gN g N 6 (.inr (.inl (0 : Int).toNat))) (P_u2 (P_tN (P_u2 τ G 13 0) N (fun _ => 0)) G 12 ((N : Nat) : Int)) := G_fr_tr (G_fr_f hG (Or.inr rfl)) (G_fr_new (fun a r sh e => hlt a r sh e) hG (Or.inl rfl))
  have hDp := P_gRw_new (f := 12) (r := 6) (τ := P_u2 τ G 13 0) (s := fun _ => 0) (fn := fun j => j) hG (show G < N by omega)
  refine g_pll nn _ _ _ _ N 0 ((hf _ _ _ hG).1) (P_gS_fr hf ⟨id, id⟩ (by unfold G_pf; omega) hS) hDp (by omega) (fun g2 τ2 N2 u2 D2 a1 a2 a3 => ?_)
  exact q g2 τ2 N2 u2 D2 (G_fr_tr hf (G_fr_le (fun _ h => h) (fun j h => Or.inl h) a1)) (P_gO_id hn1 a2) (((a1 _ _ _ (hf _ _ _ hG).1).2 13 (fun _ => by unfold G_12; omega) id).trans ((P_u2_ne (by omega)).trans ((P_tN_ne (by omega)).trans P_u2_at))) (by omega)
