/-! the law's own methods, written by wip/g1.py: 92f.write2 -/
theorem wr_2 {d : Nat} {w : P_Lw} {σ : P_A} {g : P_Gl} {τ : P_A} {N u : Nat} {Q : P_GQ} (hw : P_Cw w) {G : Nat} {T : Nat} {tt : Int → Nat} {rT : Int → Nat} {tr : Int → Int → Nat} {cT : Int → Nat} {VV : Int → Int → Int → Int} {L K : Nat} {tk : List Int} {dr : Int} (hb : G_Wb w σ g τ G T tt rT tr cT VV L K tk dr) {S nn : Nat} {sn : Int → Int} (hS : P_gS g τ G S nn 3 sn) (htk : tk = []) (hdr : 0 ≤ dr ∧ dr ≤ 800010) (q : ∀ σ' g' τ' N' u' I K' tk' dr' ig k, G_Wb w σ' g' τ' G T tt rT tr cT VV L K' tk' dr' → P_gS g' τ' G S nn 3 sn → P_gRw g' τ' G 6 8 I 0 (fun _ => 0) → tk' = [] ++ [0] → G_tf σ σ' → (0 ≤ ig ∧ ig ≤ 1) → (0 ≤ k ∧ k ≤ 2) → u' ≤ u + 300 → dr ≤ dr' → dr' ≤ dr + 5 → P_gw (d + 12) 192 116 [.ref G, P_z ig, P_z k, P_un, P_un, P_un] [] w σ' g' τ' N' u' Q) : P_gw (d + 12) 192 79 [.ref G, P_z (-1), P_un, P_un, P_un, P_un] [] w σ g τ N u Q := by
  have htl := congrArg List.length htk
  simp only [List.length_nil] at htl
  have hst : G_tf σ σ := G_tf_rf
  refine P_gw_lts (fun hlt => ?_)
  obtain ⟨hT, hL, hK, hct, hTK, h0, hs1, hdr2⟩ := id hb
  have hlG := hlt _ _ _ hT.1.1
  refine P_gw_op (L' := [.ref G, P_z (-1), P_un, P_un, P_un, P_un]) (st' := [.ref G]) P_i192_79 rfl (show P_gw _ _ 80 [.ref G, P_z (-1), P_un, P_un, P_un, P_un] [.ref G] _ _ _ _ _ _ _ from ?_)
  refine P_gw_op (L' := [.ref G, P_z (-1), P_un, P_un, P_un, P_un]) (st' := [P_z 0, .ref G]) P_i192_80 rfl (show P_gw _ _ 81 [.ref G, P_z (-1), P_un, P_un, P_un, P_un] [P_z 0, .ref G] _ _ _ _ _ _ _ from ?_)
  refine P_gw_newi (8) P_i192_81 (by omega) (by omega) (show P_gw _ _ 83 [.ref G, P_z (-1), P_un, P_un, P_un, P_un] [.ref N, .ref G] _ _ _ _ _ _ _ from ?_)
  refine P_gw_putR (b := N) P_i192_83 ((P_gN_ne (by omega)).trans (hT.1.1)) rfl rfl (fun _ => rfl) (show P_gw _ _ 86 [.ref G, P_z (-1), P_un, P_un, P_un, P_un] [] _ _ _ _ _ _ _ from ?_)
  have hf : G_fr G_0 (fun j => j = 6) g τ (P_gN g N 8 (.inr (.inl (0 : Int).toNat))) (P_u2 (P_tN τ N (fun _ => 0)) G 6 ((N : Nat) : Int)) := G_fr_new hlt hT.1.1 rfl
  have hIp := P_gRw_new (f := 6) (r := 8) (τ := τ) (s := fun _ => 0) (fn := fun _ => 0) hT.1.1 (show G < N by omega)
  obtain ⟨I, hIq⟩ : ∃ x, x = N := ⟨_, rfl⟩
  have hb := G_Wb_fr hf (fun r h => h.elim) (fun j h => by omega) ((P_u2_ne (by omega)).trans ((P_tN_ne (by omega)).trans hdr2)) hb
  have hS := P_gS_fr hf ⟨id, id⟩ (by omega) hS
  refine P_gw_re (Pr := fun g' τ' N' u' => G_Wb w σ g' τ' G T tt rT tr cT VV L K tk dr ∧ P_gS g' τ' G S nn 3 sn ∧ P_gRw g' τ' G 6 8 I 0 (fun _ => 0) ∧ u' ≤ u + 5) ⟨hb, hS, hIq ▸ hIp, by omega⟩ (fun g τ N u hre => ?_)
  obtain ⟨hb, hS, hIp, hub⟩ := hre
  refine P_gw_lts (fun hlt => ?_)
  obtain ⟨hT, hL, hK, hct, hTK, h0, hs1, hdr2⟩ := id hb
  have hlG := hlt _ _ _ hT.1.1
  refine P_gw_op (L' := [.ref G, P_z (-1), P_un, P_un, P_un, P_un]) (st' := [.ref G]) P_i192_86 rfl (show P_gw _ _ 87 [.ref G, P_z (-1), P_un, P_un, P_un, P_un] [.ref G] _ _ _ _ _ _ _ from ?_)
  refine P_gw_op (L' := [.ref G, P_z (-1), P_un, P_un, P_un, P_un]) (st' := [P_z 3, .ref G]) P_i192_87 rfl (show P_gw _ _ 88 [.ref G, P_z (-1), P_un, P_un, P_un, P_un] [P_z 3, .ref G] _ _ _ _ _ _ _ from ?_)
  refine P_gw_call P_i192_88 rfl rfl (fun _ => rfl) rfl rfl rfl rfl (y2 := 182) (as := [.ref G, P_z 3]) (r0 := []) (P_ginv_v (hT.1.1) rfl rfl) (Nat.le_of_ble_eq_true rfl) (by decide) rfl (Nat.le_of_ble_eq_true rfl) (g_drw hT.1.1 hs1 hdr2 (by omega) (by omega) (fun v1 τ dr hv1a hv1b hf hdq h2 => ?_))
  have hS := P_gS_fr hf ⟨id, id⟩ (G_n2 (by omega)) hS
  have hIp := P_gRw_fr hf ⟨id, id⟩ (by omega) (G_n2 (by omega)) hIp
  have hb := G_Wb_fr hf (fun r h => h.elim) (fun j h => Or.inl h) h2 hb
  obtain ⟨hT, hL, hK, hct, hTK, h0, hs1, hdr2⟩ := id hb
  show P_gw _ _ 91 [.ref G, P_z (-1), P_un, P_un, P_un, P_un] [P_z v1] _ _ _ _ _ _ _
  by_cases hc2 : v1 = 0
  · refine P_gw_izf P_i192_91 ⟨by omega, by omega⟩ (P_ci_nef (by omega)) (show P_gw _ _ 94 [.ref G, P_z (-1), P_un, P_un, P_un, P_un] [] _ _ _ _ _ _ _ from ?_)
    refine P_gw_op (L' := [.ref G, P_z (-1), P_un, P_un, P_un, P_un]) (st' := [P_z 1]) P_i192_94 rfl (show P_gw _ _ 95 [.ref G, P_z (-1), P_un, P_un, P_un, P_un] [P_z 1] _ _ _ _ _ _ _ from ?_)
    refine P_gw_goto P_i192_95 (show P_gw _ _ 99 [.ref G, P_z (-1), P_un, P_un, P_un, P_un] [P_z 1] _ _ _ _ _ _ _ from ?_)
    refine P_gw_op (L' := [.ref G, P_z 1, P_un, P_un, P_un, P_un]) (st' := []) P_i192_99 rfl (show P_gw _ _ 100 [.ref G, P_z 1, P_un, P_un, P_un, P_un] [] _ _ _ _ _ _ _ from ?_)
    refine P_gw_op (L' := [.ref G, P_z 1, P_un, P_un, P_un, P_un]) (st' := [.ref G]) P_i192_100 rfl (show P_gw _ _ 101 [.ref G, P_z 1, P_un, P_un, P_un, P_un] [.ref G] _ _ _ _ _ _ _ from ?_)
    refine P_gw_op (L' := [.ref G, P_z 1, P_un, P_un, P_un, P_un]) (st' := [P_z 0, .ref G]) P_i192_101 rfl (show P_gw _ _ 102 [.ref G, P_z 1, P_un, P_un, P_un, P_un] [P_z 0, .ref G] _ _ _ _ _ _ _ from ?_)
    have htl3 : tk.length < 40 := by omega
    refine P_gw_call P_i192_102 rfl rfl (fun _ => rfl) rfl rfl rfl rfl (y2 := 190) (as := [.ref G, P_z 0]) (r0 := []) (P_ginv_v (hT.1.1) rfl rfl) (Nat.le_of_ble_eq_true rfl) (by decide) rfl (Nat.le_of_ble_eq_true rfl) (g_tok hw hb (t := 0) htl3 (by omega) (fun σ g τ u hb hf hsf hub => ?_))
    have hS := P_gS_fr hf ⟨id, id⟩ (G_n5f (by omega)) hS
    have hIp := P_gRw_fr hf ⟨id, id⟩ (by omega) (G_n5f (by omega)) hIp
    obtain ⟨tk, htq⟩ : ∃ x, x = tk ++ [0] := ⟨_, rfl⟩
    rw [← htq] at hb
    have htl := congrArg List.length htq
    simp only [List.length_append, List.length_cons, List.length_nil] at htl
    rw [htk] at htq
    have htk := htq
    have hst := G_tf_tr hst hsf
    obtain ⟨K, hKq⟩ : ∃ x, x = N := ⟨_, rfl⟩
    rw [← hKq] at hb
    refine P_gw_re (Pr := fun g' τ' N' u' => g = g' ∧ τ = τ' ∧ u = u' ∧ N < N') ⟨rfl, rfl, rfl, by omega⟩ (fun g1 τ1 N u1 hre => ?_)
    obtain ⟨rfl, rfl, rfl, hNN⟩ := hre
    refine P_gw_lts (fun hlt => ?_)
    obtain ⟨hT, hL, hK, hct, hTK, h0, hs1, hdr2⟩ := id hb
    have hlG := hlt _ _ _ hT.1.1
    show P_gw _ _ 105 [.ref G, P_z 1, P_un, P_un, P_un, P_un] [P_z 1] _ _ _ _ _ _ _
    refine P_gw_izt P_i192_105 ⟨by decide, by decide⟩ (P_ci_net (by omega)) (show P_gw _ _ 110 [.ref G, P_z 1, P_un, P_un, P_un, P_un] [] _ _ _ _ _ _ _ from ?_)
    refine P_gw_op (L' := [.ref G, P_z 1, P_un, P_un, P_un, P_un]) (st' := [.ref G]) P_i192_110 rfl (show P_gw _ _ 111 [.ref G, P_z 1, P_un, P_un, P_un, P_un] [.ref G] _ _ _ _ _ _ _ from ?_)
    refine P_gw_op (L' := [.ref G, P_z 1, P_un, P_un, P_un, P_un]) (st' := [P_z 3, .ref G]) P_i192_111 rfl (show P_gw _ _ 112 [.ref G, P_z 1, P_un, P_un, P_un, P_un] [P_z 3, .ref G] _ _ _ _ _ _ _ from ?_)
    refine P_gw_call P_i192_112 rfl rfl (fun _ => rfl) rfl rfl rfl rfl (y2 := 182) (as := [.ref G, P_z 3]) (r0 := []) (P_ginv_v (hT.1.1) rfl rfl) (Nat.le_of_ble_eq_true rfl) (by decide) rfl (Nat.le_of_ble_eq_true rfl) (g_drw hT.1.1 hs1 hdr2 (by omega) (by omega) (fun v4 τ dr hv4a hv4b hf hdq h2 => ?_))
    have hS := P_gS_fr hf ⟨id, id⟩ (G_n2 (by omega)) hS
    have hIp := P_gRw_fr hf ⟨id, id⟩ (by omega) (G_n2 (by omega)) hIp
    have hb := G_Wb_fr hf (fun r h => h.elim) (fun j h => Or.inl h) h2 hb
    obtain ⟨hT, hL, hK, hct, hTK, h0, hs1, hdr2⟩ := id hb
    show P_gw _ _ 115 [.ref G, P_z 1, P_un, P_un, P_un, P_un] [P_z v4] _ _ _ _ _ _ _
    refine P_gw_op (L' := [.ref G, P_z 1, P_z v4, P_un, P_un, P_un]) (st' := []) P_i192_115 rfl (show P_gw _ _ 116 [.ref G, P_z 1, P_z v4, P_un, P_un, P_un] [] _ _ _ _ _ _ _ from ?_)
    exact q σ g τ _ u I K tk dr 1 v4 hb hS hIp htk hst ⟨by omega, by omega⟩ ⟨by omega, by omega⟩ (by omega) (by omega) (by omega)
  · refine P_gw_izt P_i192_91 ⟨by omega, by omega⟩ (P_ci_net (by omega)) (show P_gw _ _ 98 [.ref G, P_z (-1), P_un, P_un, P_un, P_un] [] _ _ _ _ _ _ _ from ?_)
    refine P_gw_op (L' := [.ref G, P_z (-1), P_un, P_un, P_un, P_un]) (st' := [P_z 0]) P_i192_98 rfl (show P_gw _ _ 99 [.ref G, P_z (-1), P_un, P_un, P_un, P_un] [P_z 0] _ _ _ _ _ _ _ from ?_)
    refine P_gw_op (L' := [.ref G, P_z 0, P_un, P_un, P_un, P_un]) (st' := []) P_i192_99 rfl (show P_gw _ _ 100 [.ref G, P_z 0, P_un, P_un, P_un, P_un] [] _ _ _ _ _ _ _ from ?_)
    refine P_gw_op (L' := [.ref G, P_z 0, P_un, P_un, P_un, P_un]) (st' := [.ref G]) P_i192_100 rfl (show P_gw _ _ 101 [.ref G, P_z 0, P_un, P_un, P_un, P_un] [.ref G] _ _ _ _ _ _ _ from ?_)
    refine P_gw_op (L' := [.ref G, P_z 0, P_un, P_un, P_un, P_un]) (st' := [P_z 0, .ref G]) P_i192_101 rfl (show P_gw _ _ 102 [.ref G, P_z 0, P_un, P_un, P_un, P_un] [P_z 0, .ref G] _ _ _ _ _ _ _ from ?_)
    have htl3 : tk.length < 40 := by omega
    refine P_gw_call P_i192_102 rfl rfl (fun _ => rfl) rfl rfl rfl rfl (y2 := 190) (as := [.ref G, P_z 0]) (r0 := []) (P_ginv_v (hT.1.1) rfl rfl) (Nat.le_of_ble_eq_true rfl) (by decide) rfl (Nat.le_of_ble_eq_true rfl) (g_tok hw hb (t := 0) htl3 (by omega) (fun σ g τ u hb hf hsf hub => ?_))
    have hS := P_gS_fr hf ⟨id, id⟩ (G_n5f (by omega)) hS
    have hIp := P_gRw_fr hf ⟨id, id⟩ (by omega) (G_n5f (by omega)) hIp
    obtain ⟨tk, htq⟩ : ∃ x, x = tk ++ [0] := ⟨_, rfl⟩
    rw [← htq] at hb
    have htl := congrArg List.length htq
    simp only [List.length_append, List.length_cons, List.length_nil] at htl
    rw [htk] at htq
    have htk := htq
    have hst := G_tf_tr hst hsf
    obtain ⟨K, hKq⟩ : ∃ x, x = N := ⟨_, rfl⟩
    rw [← hKq] at hb
    refine P_gw_re (Pr := fun g' τ' N' u' => g = g' ∧ τ = τ' ∧ u = u' ∧ N < N') ⟨rfl, rfl, rfl, by omega⟩ (fun g1 τ1 N u1 hre => ?_)
    obtain ⟨rfl, rfl, rfl, hNN⟩ := hre
    refine P_gw_lts (fun hlt => ?_)
    obtain ⟨hT, hL, hK, hct, hTK, h0, hs1, hdr2⟩ := id hb
    have hlG := hlt _ _ _ hT.1.1
    show P_gw _ _ 105 [.ref G, P_z 0, P_un, P_un, P_un, P_un] [P_z 1] _ _ _ _ _ _ _
    refine P_gw_izt P_i192_105 ⟨by decide, by decide⟩ (P_ci_net (by omega)) (show P_gw _ _ 110 [.ref G, P_z 0, P_un, P_un, P_un, P_un] [] _ _ _ _ _ _ _ from ?_)
    refine P_gw_op (L' := [.ref G, P_z 0, P_un, P_un, P_un, P_un]) (st' := [.ref G]) P_i192_110 rfl (show P_gw _ _ 111 [.ref G, P_z 0, P_un, P_un, P_un, P_un] [.ref G] _ _ _ _ _ _ _ from ?_)
    refine P_gw_op (L' := [.ref G, P_z 0, P_un, P_un, P_un, P_un]) (st' := [P_z 3, .ref G]) P_i192_111 rfl (show P_gw _ _ 112 [.ref G, P_z 0, P_un, P_un, P_un, P_un] [P_z 3, .ref G] _ _ _ _ _ _ _ from ?_)
    refine P_gw_call P_i192_112 rfl rfl (fun _ => rfl) rfl rfl rfl rfl (y2 := 182) (as := [.ref G, P_z 3]) (r0 := []) (P_ginv_v (hT.1.1) rfl rfl) (Nat.le_of_ble_eq_true rfl) (by decide) rfl (Nat.le_of_ble_eq_true rfl) (g_drw hT.1.1 hs1 hdr2 (by omega) (by omega) (fun v4 τ dr hv4a hv4b hf hdq h2 => ?_))
    have hS := P_gS_fr hf ⟨id, id⟩ (G_n2 (by omega)) hS
    have hIp := P_gRw_fr hf ⟨id, id⟩ (by omega) (G_n2 (by omega)) hIp
    have hb := G_Wb_fr hf (fun r h => h.elim) (fun j h => Or.inl h) h2 hb
    obtain ⟨hT, hL, hK, hct, hTK, h0, hs1, hdr2⟩ := id hb
    show P_gw _ _ 115 [.ref G, P_z 0, P_un, P_un, P_un, P_un] [P_z v4] _ _ _ _ _ _ _
    refine P_gw_op (L' := [.ref G, P_z 0, P_z v4, P_un, P_un, P_un]) (st' := []) P_i192_115 rfl (show P_gw _ _ 116 [.ref G, P_z 0, P_z v4, P_un, P_un, P_un] [] _ _ _ _ _ _ _ from ?_)
    exact q σ g τ _ u I K tk dr 0 v4 hb hS hIp htk hst ⟨by omega, by omega⟩ ⟨by omega, by omega⟩ (by omega) (by omega) (by omega)
