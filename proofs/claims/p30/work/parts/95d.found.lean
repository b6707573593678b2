/-! the law's own methods, written by wip/g1.py: 95d.found -/
theorem fnd_a {d : Nat} {w : P_Lw} {σ : P_A} {g : P_Gl} {τ : P_A} {N u : Nat} {Q : P_GQ} {G T nt : Nat} {tt cT : Int → Nat} {L K A : Nat} {bt : Nat → Nat} {dr : Int} (hb : G_pb g τ G T nt tt cT L K A bt dr) (hnt : nt ≤ 2) (hdr : 0 ≤ dr ∧ dr ≤ 800000) (q : ∀ g' τ' N' u' T' tt' cT' L' bt' dr', G_pb g' τ' G T' (nt + 1) tt' cT' L' K A bt' dr' → u' ≤ u + 200 → dr ≤ dr' → dr' ≤ dr + 1 → P_gw (d + 13) 189 2 [.ref G, P_z (((nt : Nat) : Int) + 1)] [] w σ g' τ' N' u' Q) : P_gw (d + 13) 189 2 [.ref G, P_z ((nt : Nat) : Int)] [] w σ g τ N u Q := by
  refine P_gw_op (L' := [.ref G, P_z ((nt : Nat) : Int)]) (st' := [P_z ((nt : Nat) : Int)]) P_i189_2 rfl (show P_gw _ _ 3 [.ref G, P_z ((nt : Nat) : Int)] [P_z ((nt : Nat) : Int)] _ _ _ _ _ _ _ from ?_)
  refine P_gw_op (L' := [.ref G, P_z ((nt : Nat) : Int)]) (st' := [P_z 3, P_z ((nt : Nat) : Int)]) P_i189_3 rfl (show P_gw _ _ 4 [.ref G, P_z ((nt : Nat) : Int)] [P_z 3, P_z ((nt : Nat) : Int)] _ _ _ _ _ _ _ from ?_)
  refine P_gw_icf P_i189_4 ⟨by omega, by omega⟩ ⟨by decide, by decide⟩ (P_ci_gef (by omega)) (show P_gw _ _ 7 [.ref G, P_z ((nt : Nat) : Int)] [] _ _ _ _ _ _ _ from ?_)
  refine P_gw_op (L' := [.ref G, P_z ((nt : Nat) : Int)]) (st' := [.ref G]) P_i189_7 rfl (show P_gw _ _ 8 [.ref G, P_z ((nt : Nat) : Int)] [.ref G] _ _ _ _ _ _ _ from ?_)
  refine P_gw_call P_i189_8 rfl rfl (fun _ => rfl) rfl rfl rfl rfl (y2 := 186) (as := [.ref G]) (r0 := []) (P_ginv_v (hb.1.1.1) rfl rfl) (Nat.le_of_ble_eq_true rfl) (by decide) rfl (Nat.le_of_ble_eq_true rfl) (g_adt hb hnt (by omega) (fun g' τ' N' u' T' tt' cT' L' bt' dr' hb' hu e1 e2 => ?_))
  show P_gw _ _ 11 [.ref G, P_z ((nt : Nat) : Int)] [P_z 1] _ _ _ _ _ _ _
  refine P_gw_izt P_i189_11 ⟨by decide, by decide⟩ (P_ci_net (by omega)) (show P_gw _ _ 16 [.ref G, P_z ((nt : Nat) : Int)] [] _ _ _ _ _ _ _ from ?_)
  refine P_gw_op (L' := [.ref G, P_z (((nt : Nat) : Int) + 1)]) (st' := []) P_i189_16 (P_o_iinc rfl) (show P_gw _ _ 19 [.ref G, P_z (((nt : Nat) : Int) + 1)] [] _ _ _ _ _ _ _ from ?_)
  refine P_gw_goto P_i189_19 (show P_gw _ _ 2 [.ref G, P_z (((nt : Nat) : Int) + 1)] [] _ _ _ _ _ _ _ from ?_)
  exact q _ _ _ _ _ _ _ _ _ _ hb' (by omega) (by omega) (by omega)

theorem fnd_b {d : Nat} {w : P_Lw} {σ : P_A} {g : P_Gl} {τ : P_A} {N u : Nat} {Q : P_GQ} {G : Nat} (q : P_gw (d + 13) 189 24 [.ref G, P_z 0] [] w σ g τ N u Q) : P_gw (d + 13) 189 2 [.ref G, P_z 3] [] w σ g τ N u Q := by
  refine P_gw_op (L' := [.ref G, P_z 3]) (st' := [P_z 3]) P_i189_2 rfl (show P_gw _ _ 3 [.ref G, P_z 3] [P_z 3] _ _ _ _ _ _ _ from ?_)
  refine P_gw_op (L' := [.ref G, P_z 3]) (st' := [P_z 3, P_z 3]) P_i189_3 rfl (show P_gw _ _ 4 [.ref G, P_z 3] [P_z 3, P_z 3] _ _ _ _ _ _ _ from ?_)
  refine P_gw_ict P_i189_4 ⟨by decide, by decide⟩ ⟨by decide, by decide⟩ (P_ci_get (by omega)) (show P_gw _ _ 22 [.ref G, P_z 3] [] _ _ _ _ _ _ _ from ?_)
  refine P_gw_op (L' := [.ref G, P_z 3]) (st' := [P_z 0]) P_i189_22 rfl (show P_gw _ _ 23 [.ref G, P_z 3] [P_z 0] _ _ _ _ _ _ _ from ?_)
  refine P_gw_op (L' := [.ref G, P_z 0]) (st' := []) P_i189_23 rfl (show P_gw _ _ 24 [.ref G, P_z 0] [] _ _ _ _ _ _ _ from ?_)
  exact q

theorem fnd_c {d : Nat} {w : P_Lw} {σ : P_A} {g : P_Gl} {τ : P_A} {N u : Nat} {Q : P_GQ} (hw : P_Cw w) {G : Nat} {T : Nat} {tt : Int → Nat} {rT : Int → Nat} {tr : Int → Int → Nat} {cT : Int → Nat} {VV : Int → Int → Int → Int} {L K : Nat} {tk : List Int} {dr : Int} (hb : G_Wb w σ g τ G T tt rT tr cT VV L K tk dr) {i : Int} (hi : 0 ≤ i ∧ i ≤ 12) (hdr : 0 ≤ dr ∧ dr ≤ 790000) (q : ∀ σ' g' τ' N' u' tt' rT' tr' VV' dr', G_Wb w σ' g' τ' G T tt' rT' tr' cT VV' L K tk dr' → u' ≤ u + 60 → dr ≤ dr' → dr' ≤ dr + 4 → P_gw (d + 13) 189 24 [.ref G, P_z (i + 1)] [] w σ' g' τ' N' u' Q) : P_gw (d + 13) 189 24 [.ref G, P_z i] [] w σ g τ N u Q := by
  refine P_gw_lts (fun hlt => ?_)
  obtain ⟨hT, hL, hK, hct, hTK, h0, hs1, hdr2⟩ := id hb
  have hlG := hlt _ _ _ hT.1.1
  refine P_gw_op (L' := [.ref G, P_z i]) (st' := [P_z i]) P_i189_24 rfl (show P_gw _ _ 25 [.ref G, P_z i] [P_z i] _ _ _ _ _ _ _ from ?_)
  refine P_gw_op (L' := [.ref G, P_z i]) (st' := [P_z 13, P_z i]) P_i189_25 (P_o_bi (by decide)) (show P_gw _ _ 27 [.ref G, P_z i] [P_z 13, P_z i] _ _ _ _ _ _ _ from ?_)
  refine P_gw_icf P_i189_27 ⟨by omega, by omega⟩ ⟨by decide, by decide⟩ (P_ci_gef (by omega)) (show P_gw _ _ 30 [.ref G, P_z i] [] _ _ _ _ _ _ _ from ?_)
  refine P_gw_op (L' := [.ref G, P_z i]) (st' := [.ref G]) P_i189_30 rfl (show P_gw _ _ 31 [.ref G, P_z i] [.ref G] _ _ _ _ _ _ _ from ?_)
  refine P_gw_op (L' := [.ref G, P_z i]) (st' := [.ref G, .ref G]) P_i189_31 rfl (show P_gw _ _ 32 [.ref G, P_z i] [.ref G, .ref G] _ _ _ _ _ _ _ from ?_)
  refine P_gw_op (L' := [.ref G, P_z i]) (st' := [P_z 3, .ref G, .ref G]) P_i189_32 rfl (show P_gw _ _ 33 [.ref G, P_z i] [P_z 3, .ref G, .ref G] _ _ _ _ _ _ _ from ?_)
  refine P_gw_call P_i189_33 rfl rfl (fun _ => rfl) rfl rfl rfl rfl (y2 := 182) (as := [.ref G, P_z 3]) (r0 := [.ref G]) (P_ginv_v (hT.1.1) rfl rfl) (Nat.le_of_ble_eq_true rfl) (by decide) rfl (Nat.le_of_ble_eq_true rfl) (s_draw (hT.1.1) (hs1) (hdr2) (by omega) (by omega) (fun v1 hv1a hv1b => ?_))
  show P_gw _ _ 36 [.ref G, P_z i] [P_z v1, .ref G] _ _ _ _ _ _ _
  have hf2 : G_fr G_0 G_2 g τ g (P_u2 τ G 2 (dr + 1)) := G_fr_f hT.1.1 rfl
  have hb2 := G_Wb_fr hf2 (fun _ h => h.elim) (fun j h => Or.inl h) P_u2_at hb
  refine P_gw_call P_i189_36 rfl rfl (fun _ => rfl) rfl rfl rfl rfl (y2 := 187) (as := [.ref G, P_z v1]) (r0 := []) (P_ginv_v (hT.1.1) rfl rfl) (Nat.le_of_ble_eq_true rfl) (by decide) rfl (Nat.le_of_ble_eq_true rfl) (g_ar hw hb2 ⟨by omega, by omega⟩ ⟨by omega, by omega⟩ (fun σ' g' τ' N' u' tt' rT' tr' VV' dr' hb' hu e1 e2 => ?_))
  show P_gw _ _ 39 [.ref G, P_z i] [P_z 1] _ _ _ _ _ _ _
  refine P_gw_izt P_i189_39 ⟨by decide, by decide⟩ (P_ci_net (by omega)) (show P_gw _ _ 44 [.ref G, P_z i] [] _ _ _ _ _ _ _ from ?_)
  refine P_gw_op (L' := [.ref G, P_z (i + 1)]) (st' := []) P_i189_44 (P_o_iinc rfl) (show P_gw _ _ 47 [.ref G, P_z (i + 1)] [] _ _ _ _ _ _ _ from ?_)
  refine P_gw_goto P_i189_47 (show P_gw _ _ 24 [.ref G, P_z (i + 1)] [] _ _ _ _ _ _ _ from ?_)
  exact q _ _ _ _ _ _ _ _ _ _ hb' (by omega) (by omega) (by omega)

theorem fnd_d {d : Nat} {w : P_Lw} {Q : P_GQ} (hw : P_Cw w) {G T : Nat} {cT : Int → Nat} {L K : Nat} {tk : List Int} : ∀ (n : Nat) (i : Int) (σ : P_A) (g : P_Gl) (τ : P_A) (N u : Nat) (tt rT : Int → Nat) (tr : Int → Int → Nat) (VV : Int → Int → Int → Int) (dr : Int), i + n = 13 → 0 ≤ i → G_Wb w σ g τ G T tt rT tr cT VV L K tk dr → 0 ≤ dr → dr + 4 * n ≤ 790000 → (∀ σ' g' τ' N' u' tt' rT' tr' VV' dr', G_Wb w σ' g' τ' G T tt' rT' tr' cT VV' L K tk dr' → u' ≤ u + 60 * n → dr ≤ dr' → dr' ≤ dr + 4 * n → P_gw (d + 13) 189 24 [.ref G, P_z 13] [] w σ' g' τ' N' u' Q) → P_gw (d + 13) 189 24 [.ref G, P_z i] [] w σ g τ N u Q
  | 0, i, σ, g, τ, N, u, tt, rT, tr, VV, dr, h, h0, hb, hd0, hd1, q => by
    have e : i = 13 := by omega
    subst e
    exact q _ _ _ _ _ _ _ _ _ _ hb (by omega) (by omega) (by omega)
  | n + 1, i, σ, g, τ, N, u, tt, rT, tr, VV, dr, h, h0, hb, hd0, hd1, q =>
    fnd_c hw hb (by omega) (by omega) (fun σ1 g1 τ1 N1 u1 tt1 rT1 tr1 VV1 dr1 hb1 a1 a2 a3 => fnd_d hw n (i + 1) σ1 g1 τ1 N1 u1 tt1 rT1 tr1 VV1 dr1 (by omega) (by omega) hb1 (by omega) (by omega) (fun σ2 g2 τ2 N2 u2 tt2 rT2 tr2 VV2 dr2 hb2 b1 b2 b3 => q σ2 g2 τ2 N2 u2 tt2 rT2 tr2 VV2 dr2 hb2 (by omega) (by omega) (by omega)))
theorem fnd_e {d : Nat} {w : P_Lw} {σ : P_A} {g : P_Gl} {τ : P_A} {N u : Nat} {Q : P_GQ} (hw : P_Cw w) (h42 : w.2.1 42 = true) (h43 : w.2.1 43 = true) {G : Nat} {T : Nat} {tt : Int → Nat} {rT : Int → Nat} {tr : Int → Int → Nat} {cT : Int → Nat} {VV : Int → Int → Int → Int} {L K : Nat} {tk : List Int} {dr : Int} (hb : G_Wb w σ g τ G T tt rT tr cT VV L K tk dr) (htk : tk.length ≤ 40) (hdr : 0 ≤ dr ∧ dr ≤ 800000) (q : ∀ σ' g' τ' N' u' dr', G_J w σ' g' τ' G dr' → u' ≤ u + 6000 → dr ≤ dr' → dr' ≤ dr + 200 → Q (.inl (some (P_z 1))) w σ' g' τ' N' u') : P_gw (d + 13) 189 24 [.ref G, P_z 13] [] w σ g τ N u Q := by
  refine P_gw_lts (fun hlt => ?_)
  obtain ⟨hT, hL, hK, hct, hTK, h0, hs1, hdr2⟩ := id hb
  have hlG := hlt _ _ _ hT.1.1
  refine P_gw_op (L' := [.ref G, P_z 13]) (st' := [P_z 13]) P_i189_24 rfl (show P_gw _ _ 25 [.ref G, P_z 13] [P_z 13] _ _ _ _ _ _ _ from ?_)
  refine P_gw_op (L' := [.ref G, P_z 13]) (st' := [P_z 13, P_z 13]) P_i189_25 (P_o_bi (by decide)) (show P_gw _ _ 27 [.ref G, P_z 13] [P_z 13, P_z 13] _ _ _ _ _ _ _ from ?_)
  refine P_gw_ict P_i189_27 ⟨by decide, by decide⟩ ⟨by decide, by decide⟩ (P_ci_get (by omega)) (show P_gw _ _ 50 [.ref G, P_z 13] [] _ _ _ _ _ _ _ from ?_)
  refine P_gw_op (L' := [.ref G, P_z 13]) (st' := [.ref G]) P_i189_50 rfl (show P_gw _ _ 51 [.ref G, P_z 13] [.ref G] _ _ _ _ _ _ _ from ?_)
  refine P_gw_call P_i189_51 rfl rfl (fun _ => rfl) rfl rfl rfl rfl (y2 := 192) (as := [.ref G]) (r0 := []) (P_ginv_v (hT.1.1) rfl rfl) (Nat.le_of_ble_eq_true rfl) (by decide) rfl (Nat.le_of_ble_eq_true rfl) (g_wrt hw hb htk ⟨by omega, by omega⟩ (fun σ' g' τ' N' u' S nn sn I m gi ki ci B C ad D K tk gp oi lg dr' hWq hst hu e1 e2 => ?_))
  obtain ⟨vr, hQT, hvr⟩ := G_QT hWq
  have hG0 := hWq.1.2.2.2.2.2.1
  have hTT := hWq.1.1
  show P_gw _ _ 54 [.ref G, P_z 13] [P_z 1] _ _ _ _ _ _ _
  refine P_gw_izf P_i189_54 ⟨by decide, by decide⟩ (P_ci_eqf (by omega)) (show P_gw _ _ 57 [.ref G, P_z 13] [] _ _ _ _ _ _ _ from ?_)
  refine P_gw_op (L' := [.ref G, P_z 13]) (st' := [.ref G]) P_i189_57 rfl (show P_gw _ _ 58 [.ref G, P_z 13] [.ref G] _ _ _ _ _ _ _ from ?_)
  refine P_gw_getR (P_i189_58) (hTT.1.1) rfl rfl (hG0) (show P_gw _ _ 61 [.ref G, P_z 13] [.ref (w.2.2 0)] _ _ _ _ _ _ _ from ?_)
  refine P_gw_cls P_i189_61 rfl rfl (fun _ => rfl) rfl rfl rfl rfl (y2 := 143) (as := [.ref (w.2.2 0)]) (r0 := []) (P_inv_v (hw.2.1 0 (by decide)) (hw.s rfl) rfl rfl) (Nat.le_of_ble_eq_true rfl) (by decide) rfl (Nat.le_of_ble_eq_true rfl) (s_read hw hQT (fun σ'' hB hf h16 => ?_))
  show P_gw _ _ 64 [.ref G, P_z 13] [P_z 0] _ _ _ _ _ _ _
  refine P_gw_izf P_i189_64 ⟨by decide, by decide⟩ (P_ci_nef (by omega)) (show P_gw _ _ 67 [.ref G, P_z 13] [] _ _ _ _ _ _ _ from ?_)
  refine P_gw_op (L' := [.ref G, P_z 13]) (st' := [P_z 1]) P_i189_67 rfl (show P_gw _ _ 68 [.ref G, P_z 13] [P_z 1] _ _ _ _ _ _ _ from ?_)
  refine P_gw_goto P_i189_68 (show P_gw _ _ 72 [.ref G, P_z 13] [P_z 1] _ _ _ _ _ _ _ from ?_)
  refine P_gw_end P_i189_72 rfl rfl (fun _ => rfl) rfl ?_
  exact q _ _ _ _ _ _ (G_J_read hWq hvr hB hf h16) (by omega) (by omega) (by omega)

theorem g_fnd {d : Nat} {w : P_Lw} {σ : P_A} {g : P_Gl} {τ : P_A} {N u : Nat} {Q : P_GQ} {G T : Nat} {tt cT : Int → Nat} {L K A : Nat} {bt : Nat → Nat} {dr : Int} (hb : G_pb g τ G T 0 tt cT L K A bt dr) (hdr : 0 ≤ dr ∧ dr ≤ 700000) (q : ∀ w' σ' g' τ' N' u' dr', P_Cw w' → w'.2.1 42 = true → w'.2.1 43 = true → w'.2.2 0 = A → G_J w' σ' g' τ' G dr' → u' ≤ u + 8000 → dr ≤ dr' → dr' ≤ dr + 300 → Q (.inl (some (P_z 1))) w' σ' g' τ' N' u') : P_gw (d + 13) 189 0 [.ref G, P_un] [] w σ g τ N u Q := by
  refine P_gw_op (L' := [.ref G, P_un]) (st' := [P_z 0]) P_i189_0 rfl (show P_gw _ _ 1 [.ref G, P_un] [P_z 0] _ _ _ _ _ _ _ from ?_)
  refine P_gw_op (L' := [.ref G, P_z 0]) (st' := []) P_i189_1 rfl (show P_gw _ _ 2 [.ref G, P_z 0] [] _ _ _ _ _ _ _ from ?_)
  refine fnd_a (nt := 0) hb (by decide) (by omega) (fun g1 τ1 N1 u1 T1 tt1 cT1 L1 bt1 dr1 hb1 a1 a2 a3 => ?_)
  refine fnd_a (nt := 1) hb1 (by decide) (by omega) (fun g2 τ2 N2 u2 T2 tt2 cT2 L2 bt2 dr2 hb2 b1 b2 b3 => ?_)
  refine fnd_a (nt := 2) hb2 (by decide) (by omega) (fun g3 τ3 N3 u3 T3 tt3 cT3 L3 bt3 dr3 hb3 c1 c2 c3 => ?_)
  refine fnd_b (P_gw_conv hb3.2.2.2.1 ?_)
  obtain ⟨hw, h42, h43⟩ := G_ww_C (A := A) (bt := bt3)
  refine fnd_d hw 13 0 _ _ _ _ _ _ _ _ _ dr3 (by omega) (by omega) (G_pb_Wb hb3) (by omega) (by omega) (fun σ4 g4 τ4 N4 u4 tt4 rT4 tr4 VV4 dr4 hb4 e1 e2 e3 => ?_)
  exact fnd_e hw h42 h43 hb4 (by decide) (by omega) (fun σ' g' τ' N' u' dr' x4 x5 x6 x7 => q _ σ' g' τ' N' u' dr' hw h42 h43 rfl x4 (by omega) (by omega) (by omega))
