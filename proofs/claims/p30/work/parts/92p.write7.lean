/-! the law's own methods, written by wip/g1.py: 92p.write7 -/
def G_lm (lg : Int) : Int := if lg = -1 then 1000000000 else lg
theorem wr_6d {d : Nat} {w : P_Lw} {σ : P_A} {g : P_Gl} {τ : P_A} {N u : Nat} {Q : P_GQ} (hw : P_Cw w) {G T : Nat} {tt : Int → Nat} {rT : Int → Nat} {tr : Int → Int → Nat} {cT : Int → Nat} {VV : Int → Int → Int → Int} {L : Nat} {S nn : Nat} {sn : Int → Int} {I m : Nat} {gi : Int → Int} {σ0 : P_A} {ig : Int} {X : List Int} {K : Nat} {tk : List Int} {dr z1 z2 : Int} (hb : G_Wb w σ g τ G T tt rT tr cT VV L K tk dr) (hS : P_gS g τ G S nn 3 sn) (hIp : P_gRw g τ G 6 8 I m gi) {B : Nat} {C : List A_cd} {ad : Int → Nat} (hC : P_gC g τ G B C ad) {gp oi lg : Int} (h8 : τ G 8 = gp) (h9 : τ G 9 = oi) (h10 : τ G 10 = lg) (hgp : gp = -1 ∨ 100 ≤ gp ∧ gp ≤ 199) (hoi : -1 ≤ oi ∧ oi ≤ 2) (hlg : -1 ≤ lg ∧ lg ≤ 5) (htk : tk = X) (htl : tk.length ≤ 31) (hst : G_tf σ0 σ) (q : ∀ σ' g' τ' N' u' D' K' tk', G_Wb w σ' g' τ' G T tt rT tr cT VV L K' tk' dr → P_gS g' τ' G S nn 3 sn → P_gRw g' τ' G 6 8 I m gi → P_gC g' τ' G B C ad → τ' G 8 = gp → τ' G 9 = oi → τ' G 10 = lg → P_gO g' τ' G D' nn (fun j => j) → τ' G 13 = 0 → tk' = X ++ (A_gtk gp ++ (A_otk oi ++ A_ltk (G_lm lg))) → G_tf σ0 σ' → tk'.length ≤ 40 → u' ≤ u + 400 → Q (.inl (some (P_z 1))) w σ' g' τ' N' u') : P_gw (d + 12) 192 513 [.ref G, P_z ig, P_z z1, P_z z2, P_un, P_un] [] w σ g τ N u Q := by
  refine P_gw_lts (fun hlt => ?_)
  obtain ⟨hT, hL, hK, hct, hTK, h0, hs1, hdr2⟩ := id hb
  have hlG := hlt _ _ _ hT.1.1
  have hn1 := hS.2.2.1
  refine P_gw_op (L' := [.ref G, P_z ig, P_z z1, P_z z2, P_un, P_un]) (st' := [.ref G]) P_i192_513 rfl (show P_gw _ _ 514 [.ref G, P_z ig, P_z z1, P_z z2, P_un, P_un] [.ref G] _ _ _ _ _ _ _ from ?_)
  refine P_gw_getv P_i192_514 (hT.1.1) rfl rfl (h8) (show P_gw _ _ 517 [.ref G, P_z ig, P_z z1, P_z z2, P_un, P_un] [P_z gp] _ _ _ _ _ _ _ from ?_)
  rcases Int.lt_or_le gp 0 with hc1 | hc1
  · refine P_gw_izt P_i192_517 ⟨by omega, by omega⟩ (P_ci_ltt (by omega)) (show P_gw _ _ 539 [.ref G, P_z ig, P_z z1, P_z z2, P_un, P_un] [] _ _ _ _ _ _ _ from ?_)
    refine P_gw_op (L' := [.ref G, P_z ig, P_z z1, P_z z2, P_un, P_un]) (st' := [.ref G]) P_i192_539 rfl (show P_gw _ _ 540 [.ref G, P_z ig, P_z z1, P_z z2, P_un, P_un] [.ref G] _ _ _ _ _ _ _ from ?_)
    refine P_gw_getv P_i192_540 (hT.1.1) rfl rfl (h9) (show P_gw _ _ 543 [.ref G, P_z ig, P_z z1, P_z z2, P_un, P_un] [P_z oi] _ _ _ _ _ _ _ from ?_)
    rcases Int.lt_or_le oi 0 with hc2 | hc2
    · refine P_gw_izt P_i192_543 ⟨by omega, by omega⟩ (P_ci_ltt (by omega)) (show P_gw _ _ 569 [.ref G, P_z ig, P_z z1, P_z z2, P_un, P_un] [] _ _ _ _ _ _ _ from ?_)
      refine P_gw_op (L' := [.ref G, P_z ig, P_z z1, P_z z2, P_un, P_un]) (st' := [.ref G]) P_i192_569 rfl (show P_gw _ _ 570 [.ref G, P_z ig, P_z z1, P_z z2, P_un, P_un] [.ref G] _ _ _ _ _ _ _ from ?_)
      refine P_gw_getv P_i192_570 (hT.1.1) rfl rfl (h10) (show P_gw _ _ 573 [.ref G, P_z ig, P_z z1, P_z z2, P_un, P_un] [P_z lg] _ _ _ _ _ _ _ from ?_)
      rcases Int.lt_or_le lg 0 with hc3 | hc3
      · refine P_gw_izt P_i192_573 ⟨by omega, by omega⟩ (P_ci_ltt (by omega)) (show P_gw _ _ 602 [.ref G, P_z ig, P_z z1, P_z z2, P_un, P_un] [] _ _ _ _ _ _ _ from ?_)
        refine P_gw_op (L' := [.ref G, P_z ig, P_z z1, P_z z2, P_un, P_un]) (st' := [.ref G]) P_i192_602 rfl (show P_gw _ _ 603 [.ref G, P_z ig, P_z z1, P_z z2, P_un, P_un] [.ref G] _ _ _ _ _ _ _ from ?_)
        refine P_gw_call P_i192_603 rfl rfl (fun _ => rfl) rfl rfl rfl rfl (y2 := 193) (as := [.ref G]) (r0 := []) (P_ginv_v (hT.1.1) rfl rfl) (Nat.le_of_ble_eq_true rfl) (by decide) rfl (Nat.le_of_ble_eq_true rfl) (g_pln hT.1.1 hS (fun g τ N u D hf hO h13 hub => ?_))
        have hS := P_gS_fr hf ⟨id, id⟩ (by unfold G_pf; omega) hS
        have hIp := P_gRw_fr hf ⟨id, id⟩ (by omega) (by unfold G_pf; omega) hIp
        have hC := P_gC_fr hf ⟨id, id, id⟩ (by unfold G_pf; omega) hC
        have h8 := ((hf _ _ _ hT.1.1).2 8 (fun _ => (by unfold G_pf; omega)) id).trans h8
        have h9 := ((hf _ _ _ hT.1.1).2 9 (fun _ => (by unfold G_pf; omega)) id).trans h9
        have h10 := ((hf _ _ _ hT.1.1).2 10 (fun _ => (by unfold G_pf; omega)) id).trans h10
        have hb := G_Wb_fr hf (fun r h => h.elim) (fun j h => by unfold G_pf at h; omega) (((hf _ _ _ hT.1.1).2 2 (fun _ => by unfold G_pf; omega) id).trans hdr2) hb
        show P_gw _ _ 606 [.ref G, P_z ig, P_z z1, P_z z2, P_un, P_un] [] _ _ _ _ _ _ _
        refine P_gw_op (L' := [.ref G, P_z ig, P_z z1, P_z z2, P_un, P_un]) (st' := [P_z 1]) P_i192_606 rfl (show P_gw _ _ 607 [.ref G, P_z ig, P_z z1, P_z z2, P_un, P_un] [P_z 1] _ _ _ _ _ _ _ from ?_)
        refine P_gw_end P_i192_607 rfl rfl (fun _ => rfl) rfl ?_
        have e1 : A_gtk gp = [] := if_pos (by omega)
        have e2 : A_otk oi = [] := if_pos (by omega)
        have e4 : G_lm lg = 1000000000 := if_pos (by omega)
        have e3 : A_ltk (G_lm lg) = [] := by rw [e4]; exact if_pos rfl
        exact q σ g τ _ u D K tk hb hS hIp hC h8 h9 h10 hO h13 (by rw [htk, e1, e2, e3]; simp [List.append_assoc]) hst (by omega) (by omega)
      · refine P_gw_izf P_i192_573 ⟨by omega, by omega⟩ (P_ci_ltf (by omega)) (show P_gw _ _ 576 [.ref G, P_z ig, P_z z1, P_z z2, P_un, P_un] [] _ _ _ _ _ _ _ from ?_)
        refine P_gw_op (L' := [.ref G, P_z ig, P_z z1, P_z z2, P_un, P_un]) (st' := [.ref G]) P_i192_576 rfl (show P_gw _ _ 577 [.ref G, P_z ig, P_z z1, P_z z2, P_un, P_un] [.ref G] _ _ _ _ _ _ _ from ?_)
        refine P_gw_op (L' := [.ref G, P_z ig, P_z z1, P_z z2, P_un, P_un]) (st' := [P_z 6, .ref G]) P_i192_577 (P_o_bi (by decide)) (show P_gw _ _ 579 [.ref G, P_z ig, P_z z1, P_z z2, P_un, P_un] [P_z 6, .ref G] _ _ _ _ _ _ _ from ?_)
        have htl4 : tk.length < 40 := by omega
        refine P_gw_call P_i192_579 rfl rfl (fun _ => rfl) rfl rfl rfl rfl (y2 := 190) (as := [.ref G, P_z 6]) (r0 := []) (P_ginv_v (hT.1.1) rfl rfl) (Nat.le_of_ble_eq_true rfl) (by decide) rfl (Nat.le_of_ble_eq_true rfl) (g_tok hw hb (t := 6) htl4 (by omega) (fun σ g τ u hb hf hsf hub => ?_))
        have hS := P_gS_fr hf ⟨id, id⟩ (G_n5f (by omega)) hS
        have hIp := P_gRw_fr hf ⟨id, id⟩ (by omega) (G_n5f (by omega)) hIp
        have hC := P_gC_fr hf ⟨id, id, id⟩ (G_n5f (by omega)) hC
        have h8 := ((hf _ _ _ hT.1.1).2 8 (fun _ => (G_n5f (by omega))) id).trans h8
        have h9 := ((hf _ _ _ hT.1.1).2 9 (fun _ => (G_n5f (by omega))) id).trans h9
        have h10 := ((hf _ _ _ hT.1.1).2 10 (fun _ => (G_n5f (by omega))) id).trans h10
        obtain ⟨tk, htq⟩ : ∃ x, x = tk ++ [6] := ⟨_, rfl⟩
        rw [← htq] at hb
        have htl := congrArg List.length htq
        simp only [List.length_append, List.length_cons, List.length_nil] at htl
        rw [htk] at htq
        have htk := htq
        have hst := G_tf_tr hst hsf
        obtain ⟨K, hKq⟩ : ∃ x, x = N := ⟨_, rfl⟩
        rw [← hKq] at hb
        refine P_gw_re (Pr := fun g' τ' N' u' => g = g' ∧ τ = τ' ∧ u = u' ∧ N < N') ⟨rfl, rfl, rfl, by omega⟩ (fun g1 τ1 N u1 hre => ?_)
        obtain ⟨rfl, rfl, rfl, hNN⟩ := hre
        refine P_gw_lts (fun hlt => ?_)
        obtain ⟨hT, hL, hK, hct, hTK, h0, hs1, hdr2⟩ := id hb
        have hlG := hlt _ _ _ hT.1.1
        show P_gw _ _ 582 [.ref G, P_z ig, P_z z1, P_z z2, P_un, P_un] [P_z 1] _ _ _ _ _ _ _
        refine P_gw_izf P_i192_582 ⟨by decide, by decide⟩ (P_ci_eqf (by omega)) (show P_gw _ _ 585 [.ref G, P_z ig, P_z z1, P_z z2, P_un, P_un] [] _ _ _ _ _ _ _ from ?_)
        refine P_gw_op (L' := [.ref G, P_z ig, P_z z1, P_z z2, P_un, P_un]) (st' := [.ref G]) P_i192_585 rfl (show P_gw _ _ 586 [.ref G, P_z ig, P_z z1, P_z z2, P_un, P_un] [.ref G] _ _ _ _ _ _ _ from ?_)
        refine P_gw_op (L' := [.ref G, P_z ig, P_z z1, P_z z2, P_un, P_un]) (st' := [P_z 1000, .ref G]) P_i192_586 (P_o_si (by decide)) (show P_gw _ _ 589 [.ref G, P_z ig, P_z z1, P_z z2, P_un, P_un] [P_z 1000, .ref G] _ _ _ _ _ _ _ from ?_)
        refine P_gw_op (L' := [.ref G, P_z ig, P_z z1, P_z z2, P_un, P_un]) (st' := [.ref G, P_z 1000, .ref G]) P_i192_589 rfl (show P_gw _ _ 590 [.ref G, P_z ig, P_z z1, P_z z2, P_un, P_un] [.ref G, P_z 1000, .ref G] _ _ _ _ _ _ _ from ?_)
        refine P_gw_getv P_i192_590 (hT.1.1) rfl rfl (h10) (show P_gw _ _ 593 [.ref G, P_z ig, P_z z1, P_z z2, P_un, P_un] [P_z lg, P_z 1000, .ref G] _ _ _ _ _ _ _ from ?_)
        refine P_gw_op (L' := [.ref G, P_z ig, P_z z1, P_z z2, P_un, P_un]) (st' := [P_z (1000 + lg), .ref G]) P_i192_593 P_o_iadd (show P_gw _ _ 594 [.ref G, P_z ig, P_z z1, P_z z2, P_un, P_un] [P_z (1000 + lg), .ref G] _ _ _ _ _ _ _ from ?_)
        have htl5 : tk.length < 40 := by omega
        refine P_gw_call P_i192_594 rfl rfl (fun _ => rfl) rfl rfl rfl rfl (y2 := 190) (as := [.ref G, P_z (1000 + lg)]) (r0 := []) (P_ginv_v (hT.1.1) rfl rfl) (Nat.le_of_ble_eq_true rfl) (by decide) rfl (Nat.le_of_ble_eq_true rfl) (g_tok hw hb (t := (1000 + lg)) htl5 (by omega) (fun σ g τ u hb hf hsf hub => ?_))
        have hS := P_gS_fr hf ⟨id, id⟩ (G_n5f (by omega)) hS
        have hIp := P_gRw_fr hf ⟨id, id⟩ (by omega) (G_n5f (by omega)) hIp
        have hC := P_gC_fr hf ⟨id, id, id⟩ (G_n5f (by omega)) hC
        have h8 := ((hf _ _ _ hT.1.1).2 8 (fun _ => (G_n5f (by omega))) id).trans h8
        have h9 := ((hf _ _ _ hT.1.1).2 9 (fun _ => (G_n5f (by omega))) id).trans h9
        have h10 := ((hf _ _ _ hT.1.1).2 10 (fun _ => (G_n5f (by omega))) id).trans h10
        obtain ⟨tk, htq⟩ : ∃ x, x = tk ++ [(1000 + lg)] := ⟨_, rfl⟩
        rw [← htq] at hb
        have htl := congrArg List.length htq
        simp only [List.length_append, List.length_cons, List.length_nil] at htl
        rw [htk] at htq
        have htk := htq
        have hst := G_tf_tr hst hsf
        obtain ⟨K, hKq⟩ : ∃ x, x = N := ⟨_, rfl⟩
        rw [← hKq] at hb
        refine P_gw_re (Pr := fun g' τ' N' u' => g = g' ∧ τ = τ' ∧ u = u' ∧ N < N') ⟨rfl, rfl, rfl, by omega⟩ (fun g1 τ1 N u1 hre => ?_)
        obtain ⟨rfl, rfl, rfl, hNN⟩ := hre
        refine P_gw_lts (fun hlt => ?_)
        obtain ⟨hT, hL, hK, hct, hTK, h0, hs1, hdr2⟩ := id hb
        have hlG := hlt _ _ _ hT.1.1
        show P_gw _ _ 597 [.ref G, P_z ig, P_z z1, P_z z2, P_un, P_un] [P_z 1] _ _ _ _ _ _ _
        refine P_gw_izt P_i192_597 ⟨by decide, by decide⟩ (P_ci_net (by omega)) (show P_gw _ _ 602 [.ref G, P_z ig, P_z z1, P_z z2, P_un, P_un] [] _ _ _ _ _ _ _ from ?_)
        refine P_gw_op (L' := [.ref G, P_z ig, P_z z1, P_z z2, P_un, P_un]) (st' := [.ref G]) P_i192_602 rfl (show P_gw _ _ 603 [.ref G, P_z ig, P_z z1, P_z z2, P_un, P_un] [.ref G] _ _ _ _ _ _ _ from ?_)
        refine P_gw_call P_i192_603 rfl rfl (fun _ => rfl) rfl rfl rfl rfl (y2 := 193) (as := [.ref G]) (r0 := []) (P_ginv_v (hT.1.1) rfl rfl) (Nat.le_of_ble_eq_true rfl) (by decide) rfl (Nat.le_of_ble_eq_true rfl) (g_pln hT.1.1 hS (fun g τ N u D hf hO h13 hub => ?_))
        have hS := P_gS_fr hf ⟨id, id⟩ (by unfold G_pf; omega) hS
        have hIp := P_gRw_fr hf ⟨id, id⟩ (by omega) (by unfold G_pf; omega) hIp
        have hC := P_gC_fr hf ⟨id, id, id⟩ (by unfold G_pf; omega) hC
        have h8 := ((hf _ _ _ hT.1.1).2 8 (fun _ => (by unfold G_pf; omega)) id).trans h8
        have h9 := ((hf _ _ _ hT.1.1).2 9 (fun _ => (by unfold G_pf; omega)) id).trans h9
        have h10 := ((hf _ _ _ hT.1.1).2 10 (fun _ => (by unfold G_pf; omega)) id).trans h10
        have hb := G_Wb_fr hf (fun r h => h.elim) (fun j h => by unfold G_pf at h; omega) (((hf _ _ _ hT.1.1).2 2 (fun _ => by unfold G_pf; omega) id).trans hdr2) hb
        show P_gw _ _ 606 [.ref G, P_z ig, P_z z1, P_z z2, P_un, P_un] [] _ _ _ _ _ _ _
        refine P_gw_op (L' := [.ref G, P_z ig, P_z z1, P_z z2, P_un, P_un]) (st' := [P_z 1]) P_i192_606 rfl (show P_gw _ _ 607 [.ref G, P_z ig, P_z z1, P_z z2, P_un, P_un] [P_z 1] _ _ _ _ _ _ _ from ?_)
        refine P_gw_end P_i192_607 rfl rfl (fun _ => rfl) rfl ?_
        have e1 : A_gtk gp = [] := if_pos (by omega)
        have e2 : A_otk oi = [] := if_pos (by omega)
        have e4 : G_lm lg = lg := if_neg (by omega)
        have e3 : A_ltk (G_lm lg) = [6, 1000 + lg] := by rw [e4]; exact if_neg (by omega)
        exact q σ g τ _ u D K tk hb hS hIp hC h8 h9 h10 hO h13 (by rw [htk, e1, e2, e3]; simp [List.append_assoc]) hst (by omega) (by omega)
    · refine P_gw_izf P_i192_543 ⟨by omega, by omega⟩ (P_ci_ltf (by omega)) (show P_gw _ _ 546 [.ref G, P_z ig, P_z z1, P_z z2, P_un, P_un] [] _ _ _ _ _ _ _ from ?_)
      refine P_gw_op (L' := [.ref G, P_z ig, P_z z1, P_z z2, P_un, P_un]) (st' := [.ref G]) P_i192_546 rfl (show P_gw _ _ 547 [.ref G, P_z ig, P_z z1, P_z z2, P_un, P_un] [.ref G] _ _ _ _ _ _ _ from ?_)
      refine P_gw_op (L' := [.ref G, P_z ig, P_z z1, P_z z2, P_un, P_un]) (st' := [P_z 5, .ref G]) P_i192_547 rfl (show P_gw _ _ 548 [.ref G, P_z ig, P_z z1, P_z z2, P_un, P_un] [P_z 5, .ref G] _ _ _ _ _ _ _ from ?_)
      have htl3 : tk.length < 40 := by omega
      refine P_gw_call P_i192_548 rfl rfl (fun _ => rfl) rfl rfl rfl rfl (y2 := 190) (as := [.ref G, P_z 5]) (r0 := []) (P_ginv_v (hT.1.1) rfl rfl) (Nat.le_of_ble_eq_true rfl) (by decide) rfl (Nat.le_of_ble_eq_true rfl) (g_tok hw hb (t := 5) htl3 (by omega) (fun σ g τ u hb hf hsf hub => ?_))
      have hS := P_gS_fr hf ⟨id, id⟩ (G_n5f (by omega)) hS
      have hIp := P_gRw_fr hf ⟨id, id⟩ (by omega) (G_n5f (by omega)) hIp
      have hC := P_gC_fr hf ⟨id, id, id⟩ (G_n5f (by omega)) hC
      have h8 := ((hf _ _ _ hT.1.1).2 8 (fun _ => (G_n5f (by omega))) id).trans h8
      have h9 := ((hf _ _ _ hT.1.1).2 9 (fun _ => (G_n5f (by omega))) id).trans h9
      have h10 := ((hf _ _ _ hT.1.1).2 10 (fun _ => (G_n5f (by omega))) id).trans h10
      obtain ⟨tk, htq⟩ : ∃ x, x = tk ++ [5] := ⟨_, rfl⟩
      rw [← htq] at hb
      have htl := congrArg List.length htq
      simp only [List.length_append, List.length_cons, List.length_nil] at htl
      rw [htk] at htq
      have htk := htq
      have hst := G_tf_tr hst hsf
      obtain ⟨K, hKq⟩ : ∃ x, x = N := ⟨_, rfl⟩
      rw [← hKq] at hb
      refine P_gw_re (Pr := fun g' τ' N' u' => g = g' ∧ τ = τ' ∧ u = u' ∧ N < N') ⟨rfl, rfl, rfl, by omega⟩ (fun g1 τ1 N u1 hre => ?_)
      obtain ⟨rfl, rfl, rfl, hNN⟩ := hre
      refine P_gw_lts (fun hlt => ?_)
      obtain ⟨hT, hL, hK, hct, hTK, h0, hs1, hdr2⟩ := id hb
      have hlG := hlt _ _ _ hT.1.1
      show P_gw _ _ 551 [.ref G, P_z ig, P_z z1, P_z z2, P_un, P_un] [P_z 1] _ _ _ _ _ _ _
      refine P_gw_izf P_i192_551 ⟨by decide, by decide⟩ (P_ci_eqf (by omega)) (show P_gw _ _ 554 [.ref G, P_z ig, P_z z1, P_z z2, P_un, P_un] [] _ _ _ _ _ _ _ from ?_)
      refine P_gw_op (L' := [.ref G, P_z ig, P_z z1, P_z z2, P_un, P_un]) (st' := [.ref G]) P_i192_554 rfl (show P_gw _ _ 555 [.ref G, P_z ig, P_z z1, P_z z2, P_un, P_un] [.ref G] _ _ _ _ _ _ _ from ?_)
      refine P_gw_op (L' := [.ref G, P_z ig, P_z z1, P_z z2, P_un, P_un]) (st' := [P_z 1000, .ref G]) P_i192_555 (P_o_si (by decide)) (show P_gw _ _ 558 [.ref G, P_z ig, P_z z1, P_z z2, P_un, P_un] [P_z 1000, .ref G] _ _ _ _ _ _ _ from ?_)
      refine P_gw_op (L' := [.ref G, P_z ig, P_z z1, P_z z2, P_un, P_un]) (st' := [.ref G, P_z 1000, .ref G]) P_i192_558 rfl (show P_gw _ _ 559 [.ref G, P_z ig, P_z z1, P_z z2, P_un, P_un] [.ref G, P_z 1000, .ref G] _ _ _ _ _ _ _ from ?_)
      refine P_gw_getv P_i192_559 (hT.1.1) rfl rfl (h9) (show P_gw _ _ 562 [.ref G, P_z ig, P_z z1, P_z z2, P_un, P_un] [P_z oi, P_z 1000, .ref G] _ _ _ _ _ _ _ from ?_)
      refine P_gw_op (L' := [.ref G, P_z ig, P_z z1, P_z z2, P_un, P_un]) (st' := [P_z (1000 + oi), .ref G]) P_i192_562 P_o_iadd (show P_gw _ _ 563 [.ref G, P_z ig, P_z z1, P_z z2, P_un, P_un] [P_z (1000 + oi), .ref G] _ _ _ _ _ _ _ from ?_)
      have htl4 : tk.length < 40 := by omega
      refine P_gw_call P_i192_563 rfl rfl (fun _ => rfl) rfl rfl rfl rfl (y2 := 190) (as := [.ref G, P_z (1000 + oi)]) (r0 := []) (P_ginv_v (hT.1.1) rfl rfl) (Nat.le_of_ble_eq_true rfl) (by decide) rfl (Nat.le_of_ble_eq_true rfl) (g_tok hw hb (t := (1000 + oi)) htl4 (by omega) (fun σ g τ u hb hf hsf hub => ?_))
      have hS := P_gS_fr hf ⟨id, id⟩ (G_n5f (by omega)) hS
      have hIp := P_gRw_fr hf ⟨id, id⟩ (by omega) (G_n5f (by omega)) hIp
      have hC := P_gC_fr hf ⟨id, id, id⟩ (G_n5f (by omega)) hC
      have h8 := ((hf _ _ _ hT.1.1).2 8 (fun _ => (G_n5f (by omega))) id).trans h8
      have h9 := ((hf _ _ _ hT.1.1).2 9 (fun _ => (G_n5f (by omega))) id).trans h9
      have h10 := ((hf _ _ _ hT.1.1).2 10 (fun _ => (G_n5f (by omega))) id).trans h10
      obtain ⟨tk, htq⟩ : ∃ x, x = tk ++ [(1000 + oi)] := ⟨_, rfl⟩
      rw [← htq] at hb
      have htl := congrArg List.length htq
      simp only [List.length_append, List.length_cons, List.length_nil] at htl
      rw [htk] at htq
      have htk := htq
      have hst := G_tf_tr hst hsf
      obtain ⟨K, hKq⟩ : ∃ x, x = N := ⟨_, rfl⟩
      rw [← hKq] at hb
      refine P_gw_re (Pr := fun g' τ' N' u' => g = g' ∧ τ = τ' ∧ u = u' ∧ N < N') ⟨rfl, rfl, rfl, by omega⟩ (fun g1 τ1 N u1 hre => ?_)
      obtain ⟨rfl, rfl, rfl, hNN⟩ := hre
      refine P_gw_lts (fun hlt => ?_)
      obtain ⟨hT, hL, hK, hct, hTK, h0, hs1, hdr2⟩ := id hb
      have hlG := hlt _ _ _ hT.1.1
      show P_gw _ _ 566 [.ref G, P_z ig, P_z z1, P_z z2, P_un, P_un] [P_z 1] _ _ _ _ _ _ _
      refine P_gw_izf P_i192_566 ⟨by decide, by decide⟩ (P_ci_eqf (by omega)) (show P_gw _ _ 569 [.ref G, P_z ig, P_z z1, P_z z2, P_un, P_un] [] _ _ _ _ _ _ _ from ?_)
      refine P_gw_op (L' := [.ref G, P_z ig, P_z z1, P_z z2, P_un, P_un]) (st' := [.ref G]) P_i192_569 rfl (show P_gw _ _ 570 [.ref G, P_z ig, P_z z1, P_z z2, P_un, P_un] [.ref G] _ _ _ _ _ _ _ from ?_)
      refine P_gw_getv P_i192_570 (hT.1.1) rfl rfl (h10) (show P_gw _ _ 573 [.ref G, P_z ig, P_z z1, P_z z2, P_un, P_un] [P_z lg] _ _ _ _ _ _ _ from ?_)
      rcases Int.lt_or_le lg 0 with hc5 | hc5
      · refine P_gw_izt P_i192_573 ⟨by omega, by omega⟩ (P_ci_ltt (by omega)) (show P_gw _ _ 602 [.ref G, P_z ig, P_z z1, P_z z2, P_un, P_un] [] _ _ _ _ _ _ _ from ?_)
        refine P_gw_op (L' := [.ref G, P_z ig, P_z z1, P_z z2, P_un, P_un]) (st' := [.ref G]) P_i192_602 rfl (show P_gw _ _ 603 [.ref G, P_z ig, P_z z1, P_z z2, P_un, P_un] [.ref G] _ _ _ _ _ _ _ from ?_)
        refine P_gw_call P_i192_603 rfl rfl (fun _ => rfl) rfl rfl rfl rfl (y2 := 193) (as := [.ref G]) (r0 := []) (P_ginv_v (hT.1.1) rfl rfl) (Nat.le_of_ble_eq_true rfl) (by decide) rfl (Nat.le_of_ble_eq_true rfl) (g_pln hT.1.1 hS (fun g τ N u D hf hO h13 hub => ?_))
        have hS := P_gS_fr hf ⟨id, id⟩ (by unfold G_pf; omega) hS
        have hIp := P_gRw_fr hf ⟨id, id⟩ (by omega) (by unfold G_pf; omega) hIp
        have hC := P_gC_fr hf ⟨id, id, id⟩ (by unfold G_pf; omega) hC
        have h8 := ((hf _ _ _ hT.1.1).2 8 (fun _ => (by unfold G_pf; omega)) id).trans h8
        have h9 := ((hf _ _ _ hT.1.1).2 9 (fun _ => (by unfold G_pf; omega)) id).trans h9
        have h10 := ((hf _ _ _ hT.1.1).2 10 (fun _ => (by unfold G_pf; omega)) id).trans h10
        have hb := G_Wb_fr hf (fun r h => h.elim) (fun j h => by unfold G_pf at h; omega) (((hf _ _ _ hT.1.1).2 2 (fun _ => by unfold G_pf; omega) id).trans hdr2) hb
        show P_gw _ _ 606 [.ref G, P_z ig, P_z z1, P_z z2, P_un, P_un] [] _ _ _ _ _ _ _
        refine P_gw_op (L' := [.ref G, P_z ig, P_z z1, P_z z2, P_un, P_un]) (st' := [P_z 1]) P_i192_606 rfl (show P_gw _ _ 607 [.ref G, P_z ig, P_z z1, P_z z2, P_un, P_un] [P_z 1] _ _ _ _ _ _ _ from ?_)
        refine P_gw_end P_i192_607 rfl rfl (fun _ => rfl) rfl ?_
        have e1 : A_gtk gp = [] := if_pos (by omega)
        have e2 : A_otk oi = [5, 1000 + oi] := if_neg (by omega)
        have e4 : G_lm lg = 1000000000 := if_pos (by omega)
        have e3 : A_ltk (G_lm lg) = [] := by rw [e4]; exact if_pos rfl
        exact q σ g τ _ u D K tk hb hS hIp hC h8 h9 h10 hO h13 (by rw [htk, e1, e2, e3]; simp [List.append_assoc]) hst (by omega) (by omega)
      · refine P_gw_izf P_i192_573 ⟨by omega, by omega⟩ (P_ci_ltf (by omega)) (show P_gw _ _ 576 [.ref G, P_z ig, P_z z1, P_z z2, P_un, P_un] [] _ _ _ _ _ _ _ from ?_)
        refine P_gw_op (L' := [.ref G, P_z ig, P_z z1, P_z z2, P_un, P_un]) (st' := [.ref G]) P_i192_576 rfl (show P_gw _ _ 577 [.ref G, P_z ig, P_z z1, P_z z2, P_un, P_un] [.ref G] _ _ _ _ _ _ _ from ?_)
        refine P_gw_op (L' := [.ref G, P_z ig, P_z z1, P_z z2, P_un, P_un]) (st' := [P_z 6, .ref G]) P_i192_577 (P_o_bi (by decide)) (show P_gw _ _ 579 [.ref G, P_z ig, P_z z1, P_z z2, P_un, P_un] [P_z 6, .ref G] _ _ _ _ _ _ _ from ?_)
        have htl6 : tk.length < 40 := by omega
        refine P_gw_call P_i192_579 rfl rfl (fun _ => rfl) rfl rfl rfl rfl (y2 := 190) (as := [.ref G, P_z 6]) (r0 := []) (P_ginv_v (hT.1.1) rfl rfl) (Nat.le_of_ble_eq_true rfl) (by decide) rfl (Nat.le_of_ble_eq_true rfl) (g_tok hw hb (t := 6) htl6 (by omega) (fun σ g τ u hb hf hsf hub => ?_))
        have hS := P_gS_fr hf ⟨id, id⟩ (G_n5f (by omega)) hS
        have hIp := P_gRw_fr hf ⟨id, id⟩ (by omega) (G_n5f (by omega)) hIp
        have hC := P_gC_fr hf ⟨id, id, id⟩ (G_n5f (by omega)) hC
        have h8 := ((hf _ _ _ hT.1.1).2 8 (fun _ => (G_n5f (by omega))) id).trans h8
        have h9 := ((hf _ _ _ hT.1.1).2 9 (fun _ => (G_n5f (by omega))) id).trans h9
        have h10 := ((hf _ _ _ hT.1.1).2 10 (fun _ => (G_n5f (by omega))) id).trans h10
        obtain ⟨tk, htq⟩ : ∃ x, x = tk ++ [6] := ⟨_, rfl⟩
        rw [← htq] at hb
        have htl := congrArg List.length htq
        simp only [List.length_append, List.length_cons, List.length_nil] at htl
        rw [htk] at htq
        have htk := htq
        have hst := G_tf_tr hst hsf
        obtain ⟨K, hKq⟩ : ∃ x, x = N := ⟨_, rfl⟩
        rw [← hKq] at hb
        refine P_gw_re (Pr := fun g' τ' N' u' => g = g' ∧ τ = τ' ∧ u = u' ∧ N < N') ⟨rfl, rfl, rfl, by omega⟩ (fun g1 τ1 N u1 hre => ?_)
        obtain ⟨rfl, rfl, rfl, hNN⟩ := hre
        refine P_gw_lts (fun hlt => ?_)
        obtain ⟨hT, hL, hK, hct, hTK, h0, hs1, hdr2⟩ := id hb
        have hlG := hlt _ _ _ hT.1.1
        show P_gw _ _ 582 [.ref G, P_z ig, P_z z1, P_z z2, P_un, P_un] [P_z 1] _ _ _ _ _ _ _
        refine P_gw_izf P_i192_582 ⟨by decide, by decide⟩ (P_ci_eqf (by omega)) (show P_gw _ _ 585 [.ref G, P_z ig, P_z z1, P_z z2, P_un, P_un] [] _ _ _ _ _ _ _ from ?_)
        refine P_gw_op (L' := [.ref G, P_z ig, P_z z1, P_z z2, P_un, P_un]) (st' := [.ref G]) P_i192_585 rfl (show P_gw _ _ 586 [.ref G, P_z ig, P_z z1, P_z z2, P_un, P_un] [.ref G] _ _ _ _ _ _ _ from ?_)
        refine P_gw_op (L' := [.ref G, P_z ig, P_z z1, P_z z2, P_un, P_un]) (st' := [P_z 1000, .ref G]) P_i192_586 (P_o_si (by decide)) (show P_gw _ _ 589 [.ref G, P_z ig, P_z z1, P_z z2, P_un, P_un] [P_z 1000, .ref G] _ _ _ _ _ _ _ from ?_)
        refine P_gw_op (L' := [.ref G, P_z ig, P_z z1, P_z z2, P_un, P_un]) (st' := [.ref G, P_z 1000, .ref G]) P_i192_589 rfl (show P_gw _ _ 590 [.ref G, P_z ig, P_z z1, P_z z2, P_un, P_un] [.ref G, P_z 1000, .ref G] _ _ _ _ _ _ _ from ?_)
        refine P_gw_getv P_i192_590 (hT.1.1) rfl rfl (h10) (show P_gw _ _ 593 [.ref G, P_z ig, P_z z1, P_z z2, P_un, P_un] [P_z lg, P_z 1000, .ref G] _ _ _ _ _ _ _ from ?_)
        refine P_gw_op (L' := [.ref G, P_z ig, P_z z1, P_z z2, P_un, P_un]) (st' := [P_z (1000 + lg), .ref G]) P_i192_593 P_o_iadd (show P_gw _ _ 594 [.ref G, P_z ig, P_z z1, P_z z2, P_un, P_un] [P_z (1000 + lg), .ref G] _ _ _ _ _ _ _ from ?_)
        have htl7 : tk.length < 40 := by omega
        refine P_gw_call P_i192_594 rfl rfl (fun _ => rfl) rfl rfl rfl rfl (y2 := 190) (as := [.ref G, P_z (1000 + lg)]) (r0 := []) (P_ginv_v (hT.1.1) rfl rfl) (Nat.le_of_ble_eq_true rfl) (by decide) rfl (Nat.le_of_ble_eq_true rfl) (g_tok hw hb (t := (1000 + lg)) htl7 (by omega) (fun σ g τ u hb hf hsf hub => ?_))
        have hS := P_gS_fr hf ⟨id, id⟩ (G_n5f (by omega)) hS
        have hIp := P_gRw_fr hf ⟨id, id⟩ (by omega) (G_n5f (by omega)) hIp
        have hC := P_gC_fr hf ⟨id, id, id⟩ (G_n5f (by omega)) hC
        have h8 := ((hf _ _ _ hT.1.1).2 8 (fun _ => (G_n5f (by omega))) id).trans h8
        have h9 := ((hf _ _ _ hT.1.1).2 9 (fun _ => (G_n5f (by omega))) id).trans h9
        have h10 := ((hf _ _ _ hT.1.1).2 10 (fun _ => (G_n5f (by omega))) id).trans h10
        obtain ⟨tk, htq⟩ : ∃ x, x = tk ++ [(1000 + lg)] := ⟨_, rfl⟩
        rw [← htq] at hb
        have htl := congrArg List.length htq
        simp only [List.length_append, List.length_cons, List.length_nil] at htl
        rw [htk] at htq
        have htk := htq
        have hst := G_tf_tr hst hsf
        obtain ⟨K, hKq⟩ : ∃ x, x = N := ⟨_, rfl⟩
        rw [← hKq] at hb
        refine P_gw_re (Pr := fun g' τ' N' u' => g = g' ∧ τ = τ' ∧ u = u' ∧ N < N') ⟨rfl, rfl, rfl, by omega⟩ (fun g1 τ1 N u1 hre => ?_)
        obtain ⟨rfl, rfl, rfl, hNN⟩ := hre
        refine P_gw_lts (fun hlt => ?_)
        obtain ⟨hT, hL, hK, hct, hTK, h0, hs1, hdr2⟩ := id hb
        have hlG := hlt _ _ _ hT.1.1
        show P_gw _ _ 597 [.ref G, P_z ig, P_z z1, P_z z2, P_un, P_un] [P_z 1] _ _ _ _ _ _ _
        refine P_gw_izt P_i192_597 ⟨by decide, by decide⟩ (P_ci_net (by omega)) (show P_gw _ _ 602 [.ref G, P_z ig, P_z z1, P_z z2, P_un, P_un] [] _ _ _ _ _ _ _ from ?_)
        refine P_gw_op (L' := [.ref G, P_z ig, P_z z1, P_z z2, P_un, P_un]) (st' := [.ref G]) P_i192_602 rfl (show P_gw _ _ 603 [.ref G, P_z ig, P_z z1, P_z z2, P_un, P_un] [.ref G] _ _ _ _ _ _ _ from ?_)
        refine P_gw_call P_i192_603 rfl rfl (fun _ => rfl) rfl rfl rfl rfl (y2 := 193) (as := [.ref G]) (r0 := []) (P_ginv_v (hT.1.1) rfl rfl) (Nat.le_of_ble_eq_true rfl) (by decide) rfl (Nat.le_of_ble_eq_true rfl) (g_pln hT.1.1 hS (fun g τ N u D hf hO h13 hub => ?_))
        have hS := P_gS_fr hf ⟨id, id⟩ (by unfold G_pf; omega) hS
        have hIp := P_gRw_fr hf ⟨id, id⟩ (by omega) (by unfold G_pf; omega) hIp
        have hC := P_gC_fr hf ⟨id, id, id⟩ (by unfold G_pf; omega) hC
        have h8 := ((hf _ _ _ hT.1.1).2 8 (fun _ => (by unfold G_pf; omega)) id).trans h8
        have h9 := ((hf _ _ _ hT.1.1).2 9 (fun _ => (by unfold G_pf; omega)) id).trans h9
        have h10 := ((hf _ _ _ hT.1.1).2 10 (fun _ => (by unfold G_pf; omega)) id).trans h10
        have hb := G_Wb_fr hf (fun r h => h.elim) (fun j h => by unfold G_pf at h; omega) (((hf _ _ _ hT.1.1).2 2 (fun _ => by unfold G_pf; omega) id).trans hdr2) hb
        show P_gw _ _ 606 [.ref G, P_z ig, P_z z1, P_z z2, P_un, P_un] [] _ _ _ _ _ _ _
        refine P_gw_op (L' := [.ref G, P_z ig, P_z z1, P_z z2, P_un, P_un]) (st' := [P_z 1]) P_i192_606 rfl (show P_gw _ _ 607 [.ref G, P_z ig, P_z z1, P_z z2, P_un, P_un] [P_z 1] _ _ _ _ _ _ _ from ?_)
        refine P_gw_end P_i192_607 rfl rfl (fun _ => rfl) rfl ?_
        have e1 : A_gtk gp = [] := if_pos (by omega)
        have e2 : A_otk oi = [5, 1000 + oi] := if_neg (by omega)
        have e4 : G_lm lg = lg := if_neg (by omega)
        have e3 : A_ltk (G_lm lg) = [6, 1000 + lg] := by rw [e4]; exact if_neg (by omega)
        exact q σ g τ _ u D K tk hb hS hIp hC h8 h9 h10 hO h13 (by rw [htk, e1, e2, e3]; simp [List.append_assoc]) hst (by omega) (by omega)
  · refine P_gw_izf P_i192_517 ⟨by omega, by omega⟩ (P_ci_ltf (by omega)) (show P_gw _ _ 520 [.ref G, P_z ig, P_z z1, P_z z2, P_un, P_un] [] _ _ _ _ _ _ _ from ?_)
    refine P_gw_op (L' := [.ref G, P_z ig, P_z z1, P_z z2, P_un, P_un]) (st' := [.ref G]) P_i192_520 rfl (show P_gw _ _ 521 [.ref G, P_z ig, P_z z1, P_z z2, P_un, P_un] [.ref G] _ _ _ _ _ _ _ from ?_)
    refine P_gw_op (L' := [.ref G, P_z ig, P_z z1, P_z z2, P_un, P_un]) (st' := [P_z 4, .ref G]) P_i192_521 rfl (show P_gw _ _ 522 [.ref G, P_z ig, P_z z1, P_z z2, P_un, P_un] [P_z 4, .ref G] _ _ _ _ _ _ _ from ?_)
    have htl2 : tk.length < 40 := by omega
    refine P_gw_call P_i192_522 rfl rfl (fun _ => rfl) rfl rfl rfl rfl (y2 := 190) (as := [.ref G, P_z 4]) (r0 := []) (P_ginv_v (hT.1.1) rfl rfl) (Nat.le_of_ble_eq_true rfl) (by decide) rfl (Nat.le_of_ble_eq_true rfl) (g_tok hw hb (t := 4) htl2 (by omega) (fun σ g τ u hb hf hsf hub => ?_))
    have hS := P_gS_fr hf ⟨id, id⟩ (G_n5f (by omega)) hS
    have hIp := P_gRw_fr hf ⟨id, id⟩ (by omega) (G_n5f (by omega)) hIp
    have hC := P_gC_fr hf ⟨id, id, id⟩ (G_n5f (by omega)) hC
    have h8 := ((hf _ _ _ hT.1.1).2 8 (fun _ => (G_n5f (by omega))) id).trans h8
    have h9 := ((hf _ _ _ hT.1.1).2 9 (fun _ => (G_n5f (by omega))) id).trans h9
    have h10 := ((hf _ _ _ hT.1.1).2 10 (fun _ => (G_n5f (by omega))) id).trans h10
    obtain ⟨tk, htq⟩ : ∃ x, x = tk ++ [4] := ⟨_, rfl⟩
    rw [← htq] at hb
    have htl := congrArg List.length htq
    simp only [List.length_append, List.length_cons, List.length_nil] at htl
    rw [htk] at htq
    have htk := htq
    have hst := G_tf_tr hst hsf
    obtain ⟨K, hKq⟩ : ∃ x, x = N := ⟨_, rfl⟩
    rw [← hKq] at hb
    refine P_gw_re (Pr := fun g' τ' N' u' => g = g' ∧ τ = τ' ∧ u = u' ∧ N < N') ⟨rfl, rfl, rfl, by omega⟩ (fun g1 τ1 N u1 hre => ?_)
    obtain ⟨rfl, rfl, rfl, hNN⟩ := hre
    refine P_gw_lts (fun hlt => ?_)
    obtain ⟨hT, hL, hK, hct, hTK, h0, hs1, hdr2⟩ := id hb
    have hlG := hlt _ _ _ hT.1.1
    show P_gw _ _ 525 [.ref G, P_z ig, P_z z1, P_z z2, P_un, P_un] [P_z 1] _ _ _ _ _ _ _
    refine P_gw_izf P_i192_525 ⟨by decide, by decide⟩ (P_ci_eqf (by omega)) (show P_gw _ _ 528 [.ref G, P_z ig, P_z z1, P_z z2, P_un, P_un] [] _ _ _ _ _ _ _ from ?_)
    refine P_gw_op (L' := [.ref G, P_z ig, P_z z1, P_z z2, P_un, P_un]) (st' := [.ref G]) P_i192_528 rfl (show P_gw _ _ 529 [.ref G, P_z ig, P_z z1, P_z z2, P_un, P_un] [.ref G] _ _ _ _ _ _ _ from ?_)
    refine P_gw_op (L' := [.ref G, P_z ig, P_z z1, P_z z2, P_un, P_un]) (st' := [.ref G, .ref G]) P_i192_529 rfl (show P_gw _ _ 530 [.ref G, P_z ig, P_z z1, P_z z2, P_un, P_un] [.ref G, .ref G] _ _ _ _ _ _ _ from ?_)
    refine P_gw_getv P_i192_530 (hT.1.1) rfl rfl (h8) (show P_gw _ _ 533 [.ref G, P_z ig, P_z z1, P_z z2, P_un, P_un] [P_z gp, .ref G] _ _ _ _ _ _ _ from ?_)
    have htl3 : tk.length < 40 := by omega
    refine P_gw_call P_i192_533 rfl rfl (fun _ => rfl) rfl rfl rfl rfl (y2 := 190) (as := [.ref G, P_z gp]) (r0 := []) (P_ginv_v (hT.1.1) rfl rfl) (Nat.le_of_ble_eq_true rfl) (by decide) rfl (Nat.le_of_ble_eq_true rfl) (g_tok hw hb (t := gp) htl3 (by omega) (fun σ g τ u hb hf hsf hub => ?_))
    have hS := P_gS_fr hf ⟨id, id⟩ (G_n5f (by omega)) hS
    have hIp := P_gRw_fr hf ⟨id, id⟩ (by omega) (G_n5f (by omega)) hIp
    have hC := P_gC_fr hf ⟨id, id, id⟩ (G_n5f (by omega)) hC
    have h8 := ((hf _ _ _ hT.1.1).2 8 (fun _ => (G_n5f (by omega))) id).trans h8
    have h9 := ((hf _ _ _ hT.1.1).2 9 (fun _ => (G_n5f (by omega))) id).trans h9
    have h10 := ((hf _ _ _ hT.1.1).2 10 (fun _ => (G_n5f (by omega))) id).trans h10
    obtain ⟨tk, htq⟩ : ∃ x, x = tk ++ [gp] := ⟨_, rfl⟩
    rw [← htq] at hb
    have htl := congrArg List.length htq
    simp only [List.length_append, List.length_cons, List.length_nil] at htl
    rw [htk] at htq
    have htk := htq
    have hst := G_tf_tr hst hsf
    obtain ⟨K, hKq⟩ : ∃ x, x = N := ⟨_, rfl⟩
    rw [← hKq] at hb
    refine P_gw_re (Pr := fun g' τ' N' u' => g = g' ∧ τ = τ' ∧ u = u' ∧ N < N') ⟨rfl, rfl, rfl, by omega⟩ (fun g1 τ1 N u1 hre => ?_)
    obtain ⟨rfl, rfl, rfl, hNN⟩ := hre
    refine P_gw_lts (fun hlt => ?_)
    obtain ⟨hT, hL, hK, hct, hTK, h0, hs1, hdr2⟩ := id hb
    have hlG := hlt _ _ _ hT.1.1
    show P_gw _ _ 536 [.ref G, P_z ig, P_z z1, P_z z2, P_un, P_un] [P_z 1] _ _ _ _ _ _ _
    refine P_gw_izf P_i192_536 ⟨by decide, by decide⟩ (P_ci_eqf (by omega)) (show P_gw _ _ 539 [.ref G, P_z ig, P_z z1, P_z z2, P_un, P_un] [] _ _ _ _ _ _ _ from ?_)
    refine P_gw_op (L' := [.ref G, P_z ig, P_z z1, P_z z2, P_un, P_un]) (st' := [.ref G]) P_i192_539 rfl (show P_gw _ _ 540 [.ref G, P_z ig, P_z z1, P_z z2, P_un, P_un] [.ref G] _ _ _ _ _ _ _ from ?_)
    refine P_gw_getv P_i192_540 (hT.1.1) rfl rfl (h9) (show P_gw _ _ 543 [.ref G, P_z ig, P_z z1, P_z z2, P_un, P_un] [P_z oi] _ _ _ _ _ _ _ from ?_)
    rcases Int.lt_or_le oi 0 with hc4 | hc4
    · refine P_gw_izt P_i192_543 ⟨by omega, by omega⟩ (P_ci_ltt (by omega)) (show P_gw _ _ 569 [.ref G, P_z ig, P_z z1, P_z z2, P_un, P_un] [] _ _ _ _ _ _ _ from ?_)
      refine P_gw_op (L' := [.ref G, P_z ig, P_z z1, P_z z2, P_un, P_un]) (st' := [.ref G]) P_i192_569 rfl (show P_gw _ _ 570 [.ref G, P_z ig, P_z z1, P_z z2, P_un, P_un] [.ref G] _ _ _ _ _ _ _ from ?_)
      refine P_gw_getv P_i192_570 (hT.1.1) rfl rfl (h10) (show P_gw _ _ 573 [.ref G, P_z ig, P_z z1, P_z z2, P_un, P_un] [P_z lg] _ _ _ _ _ _ _ from ?_)
      rcases Int.lt_or_le lg 0 with hc5 | hc5
      · refine P_gw_izt P_i192_573 ⟨by omega, by omega⟩ (P_ci_ltt (by omega)) (show P_gw _ _ 602 [.ref G, P_z ig, P_z z1, P_z z2, P_un, P_un] [] _ _ _ _ _ _ _ from ?_)
        refine P_gw_op (L' := [.ref G, P_z ig, P_z z1, P_z z2, P_un, P_un]) (st' := [.ref G]) P_i192_602 rfl (show P_gw _ _ 603 [.ref G, P_z ig, P_z z1, P_z z2, P_un, P_un] [.ref G] _ _ _ _ _ _ _ from ?_)
        refine P_gw_call P_i192_603 rfl rfl (fun _ => rfl) rfl rfl rfl rfl (y2 := 193) (as := [.ref G]) (r0 := []) (P_ginv_v (hT.1.1) rfl rfl) (Nat.le_of_ble_eq_true rfl) (by decide) rfl (Nat.le_of_ble_eq_true rfl) (g_pln hT.1.1 hS (fun g τ N u D hf hO h13 hub => ?_))
        have hS := P_gS_fr hf ⟨id, id⟩ (by unfold G_pf; omega) hS
        have hIp := P_gRw_fr hf ⟨id, id⟩ (by omega) (by unfold G_pf; omega) hIp
        have hC := P_gC_fr hf ⟨id, id, id⟩ (by unfold G_pf; omega) hC
        have h8 := ((hf _ _ _ hT.1.1).2 8 (fun _ => (by unfold G_pf; omega)) id).trans h8
        have h9 := ((hf _ _ _ hT.1.1).2 9 (fun _ => (by unfold G_pf; omega)) id).trans h9
        have h10 := ((hf _ _ _ hT.1.1).2 10 (fun _ => (by unfold G_pf; omega)) id).trans h10
        have hb := G_Wb_fr hf (fun r h => h.elim) (fun j h => by unfold G_pf at h; omega) (((hf _ _ _ hT.1.1).2 2 (fun _ => by unfold G_pf; omega) id).trans hdr2) hb
        show P_gw _ _ 606 [.ref G, P_z ig, P_z z1, P_z z2, P_un, P_un] [] _ _ _ _ _ _ _
        refine P_gw_op (L' := [.ref G, P_z ig, P_z z1, P_z z2, P_un, P_un]) (st' := [P_z 1]) P_i192_606 rfl (show P_gw _ _ 607 [.ref G, P_z ig, P_z z1, P_z z2, P_un, P_un] [P_z 1] _ _ _ _ _ _ _ from ?_)
        refine P_gw_end P_i192_607 rfl rfl (fun _ => rfl) rfl ?_
        have e1 : A_gtk gp = [4, gp] := if_neg (by omega)
        have e2 : A_otk oi = [] := if_pos (by omega)
        have e4 : G_lm lg = 1000000000 := if_pos (by omega)
        have e3 : A_ltk (G_lm lg) = [] := by rw [e4]; exact if_pos rfl
        exact q σ g τ _ u D K tk hb hS hIp hC h8 h9 h10 hO h13 (by rw [htk, e1, e2, e3]; simp [List.append_assoc]) hst (by omega) (by omega)
      · refine P_gw_izf P_i192_573 ⟨by omega, by omega⟩ (P_ci_ltf (by omega)) (show P_gw _ _ 576 [.ref G, P_z ig, P_z z1, P_z z2, P_un, P_un] [] _ _ _ _ _ _ _ from ?_)
        refine P_gw_op (L' := [.ref G, P_z ig, P_z z1, P_z z2, P_un, P_un]) (st' := [.ref G]) P_i192_576 rfl (show P_gw _ _ 577 [.ref G, P_z ig, P_z z1, P_z z2, P_un, P_un] [.ref G] _ _ _ _ _ _ _ from ?_)
        refine P_gw_op (L' := [.ref G, P_z ig, P_z z1, P_z z2, P_un, P_un]) (st' := [P_z 6, .ref G]) P_i192_577 (P_o_bi (by decide)) (show P_gw _ _ 579 [.ref G, P_z ig, P_z z1, P_z z2, P_un, P_un] [P_z 6, .ref G] _ _ _ _ _ _ _ from ?_)
        have htl6 : tk.length < 40 := by omega
        refine P_gw_call P_i192_579 rfl rfl (fun _ => rfl) rfl rfl rfl rfl (y2 := 190) (as := [.ref G, P_z 6]) (r0 := []) (P_ginv_v (hT.1.1) rfl rfl) (Nat.le_of_ble_eq_true rfl) (by decide) rfl (Nat.le_of_ble_eq_true rfl) (g_tok hw hb (t := 6) htl6 (by omega) (fun σ g τ u hb hf hsf hub => ?_))
        have hS := P_gS_fr hf ⟨id, id⟩ (G_n5f (by omega)) hS
        have hIp := P_gRw_fr hf ⟨id, id⟩ (by omega) (G_n5f (by omega)) hIp
        have hC := P_gC_fr hf ⟨id, id, id⟩ (G_n5f (by omega)) hC
        have h8 := ((hf _ _ _ hT.1.1).2 8 (fun _ => (G_n5f (by omega))) id).trans h8
        have h9 := ((hf _ _ _ hT.1.1).2 9 (fun _ => (G_n5f (by omega))) id).trans h9
        have h10 := ((hf _ _ _ hT.1.1).2 10 (fun _ => (G_n5f (by omega))) id).trans h10
        obtain ⟨tk, htq⟩ : ∃ x, x = tk ++ [6] := ⟨_, rfl⟩
        rw [← htq] at hb
        have htl := congrArg List.length htq
        simp only [List.length_append, List.length_cons, List.length_nil] at htl
        rw [htk] at htq
        have htk := htq
        have hst := G_tf_tr hst hsf
        obtain ⟨K, hKq⟩ : ∃ x, x = N := ⟨_, rfl⟩
        rw [← hKq] at hb
        refine P_gw_re (Pr := fun g' τ' N' u' => g = g' ∧ τ = τ' ∧ u = u' ∧ N < N') ⟨rfl, rfl, rfl, by omega⟩ (fun g1 τ1 N u1 hre => ?_)
        obtain ⟨rfl, rfl, rfl, hNN⟩ := hre
        refine P_gw_lts (fun hlt => ?_)
        obtain ⟨hT, hL, hK, hct, hTK, h0, hs1, hdr2⟩ := id hb
        have hlG := hlt _ _ _ hT.1.1
        show P_gw _ _ 582 [.ref G, P_z ig, P_z z1, P_z z2, P_un, P_un] [P_z 1] _ _ _ _ _ _ _
        refine P_gw_izf P_i192_582 ⟨by decide, by decide⟩ (P_ci_eqf (by omega)) (show P_gw _ _ 585 [.ref G, P_z ig, P_z z1, P_z z2, P_un, P_un] [] _ _ _ _ _ _ _ from ?_)
        refine P_gw_op (L' := [.ref G, P_z ig, P_z z1, P_z z2, P_un, P_un]) (st' := [.ref G]) P_i192_585 rfl (show P_gw _ _ 586 [.ref G, P_z ig, P_z z1, P_z z2, P_un, P_un] [.ref G] _ _ _ _ _ _ _ from ?_)
        refine P_gw_op (L' := [.ref G, P_z ig, P_z z1, P_z z2, P_un, P_un]) (st' := [P_z 1000, .ref G]) P_i192_586 (P_o_si (by decide)) (show P_gw _ _ 589 [.ref G, P_z ig, P_z z1, P_z z2, P_un, P_un] [P_z 1000, .ref G] _ _ _ _ _ _ _ from ?_)
        refine P_gw_op (L' := [.ref G, P_z ig, P_z z1, P_z z2, P_un, P_un]) (st' := [.ref G, P_z 1000, .ref G]) P_i192_589 rfl (show P_gw _ _ 590 [.ref G, P_z ig, P_z z1, P_z z2, P_un, P_un] [.ref G, P_z 1000, .ref G] _ _ _ _ _ _ _ from ?_)
        refine P_gw_getv P_i192_590 (hT.1.1) rfl rfl (h10) (show P_gw _ _ 593 [.ref G, P_z ig, P_z z1, P_z z2, P_un, P_un] [P_z lg, P_z 1000, .ref G] _ _ _ _ _ _ _ from ?_)
        refine P_gw_op (L' := [.ref G, P_z ig, P_z z1, P_z z2, P_un, P_un]) (st' := [P_z (1000 + lg), .ref G]) P_i192_593 P_o_iadd (show P_gw _ _ 594 [.ref G, P_z ig, P_z z1, P_z z2, P_un, P_un] [P_z (1000 + lg), .ref G] _ _ _ _ _ _ _ from ?_)
        have htl7 : tk.length < 40 := by omega
        refine P_gw_call P_i192_594 rfl rfl (fun _ => rfl) rfl rfl rfl rfl (y2 := 190) (as := [.ref G, P_z (1000 + lg)]) (r0 := []) (P_ginv_v (hT.1.1) rfl rfl) (Nat.le_of_ble_eq_true rfl) (by decide) rfl (Nat.le_of_ble_eq_true rfl) (g_tok hw hb (t := (1000 + lg)) htl7 (by omega) (fun σ g τ u hb hf hsf hub => ?_))
        have hS := P_gS_fr hf ⟨id, id⟩ (G_n5f (by omega)) hS
        have hIp := P_gRw_fr hf ⟨id, id⟩ (by omega) (G_n5f (by omega)) hIp
        have hC := P_gC_fr hf ⟨id, id, id⟩ (G_n5f (by omega)) hC
        have h8 := ((hf _ _ _ hT.1.1).2 8 (fun _ => (G_n5f (by omega))) id).trans h8
        have h9 := ((hf _ _ _ hT.1.1).2 9 (fun _ => (G_n5f (by omega))) id).trans h9
        have h10 := ((hf _ _ _ hT.1.1).2 10 (fun _ => (G_n5f (by omega))) id).trans h10
        obtain ⟨tk, htq⟩ : ∃ x, x = tk ++ [(1000 + lg)] := ⟨_, rfl⟩
        rw [← htq] at hb
        have htl := congrArg List.length htq
        simp only [List.length_append, List.length_cons, List.length_nil] at htl
        rw [htk] at htq
        have htk := htq
        have hst := G_tf_tr hst hsf
        obtain ⟨K, hKq⟩ : ∃ x, x = N := ⟨_, rfl⟩
        rw [← hKq] at hb
        refine P_gw_re (Pr := fun g' τ' N' u' => g = g' ∧ τ = τ' ∧ u = u' ∧ N < N') ⟨rfl, rfl, rfl, by omega⟩ (fun g1 τ1 N u1 hre => ?_)
        obtain ⟨rfl, rfl, rfl, hNN⟩ := hre
        refine P_gw_lts (fun hlt => ?_)
        obtain ⟨hT, hL, hK, hct, hTK, h0, hs1, hdr2⟩ := id hb
        have hlG := hlt _ _ _ hT.1.1
        show P_gw _ _ 597 [.ref G, P_z ig, P_z z1, P_z z2, P_un, P_un] [P_z 1] _ _ _ _ _ _ _
        refine P_gw_izt P_i192_597 ⟨by decide, by decide⟩ (P_ci_net (by omega)) (show P_gw _ _ 602 [.ref G, P_z ig, P_z z1, P_z z2, P_un, P_un] [] _ _ _ _ _ _ _ from ?_)
        refine P_gw_op (L' := [.ref G, P_z ig, P_z z1, P_z z2, P_un, P_un]) (st' := [.ref G]) P_i192_602 rfl (show P_gw _ _ 603 [.ref G, P_z ig, P_z z1, P_z z2, P_un, P_un] [.ref G] _ _ _ _ _ _ _ from ?_)
        refine P_gw_call P_i192_603 rfl rfl (fun _ => rfl) rfl rfl rfl rfl (y2 := 193) (as := [.ref G]) (r0 := []) (P_ginv_v (hT.1.1) rfl rfl) (Nat.le_of_ble_eq_true rfl) (by decide) rfl (Nat.le_of_ble_eq_true rfl) (g_pln hT.1.1 hS (fun g τ N u D hf hO h13 hub => ?_))
        have hS := P_gS_fr hf ⟨id, id⟩ (by unfold G_pf; omega) hS
        have hIp := P_gRw_fr hf ⟨id, id⟩ (by omega) (by unfold G_pf; omega) hIp
        have hC := P_gC_fr hf ⟨id, id, id⟩ (by unfold G_pf; omega) hC
        have h8 := ((hf _ _ _ hT.1.1).2 8 (fun _ => (by unfold G_pf; omega)) id).trans h8
        have h9 := ((hf _ _ _ hT.1.1).2 9 (fun _ => (by unfold G_pf; omega)) id).trans h9
        have h10 := ((hf _ _ _ hT.1.1).2 10 (fun _ => (by unfold G_pf; omega)) id).trans h10
        have hb := G_Wb_fr hf (fun r h => h.elim) (fun j h => by unfold G_pf at h; omega) (((hf _ _ _ hT.1.1).2 2 (fun _ => by unfold G_pf; omega) id).trans hdr2) hb
        show P_gw _ _ 606 [.ref G, P_z ig, P_z z1, P_z z2, P_un, P_un] [] _ _ _ _ _ _ _
        refine P_gw_op (L' := [.ref G, P_z ig, P_z z1, P_z z2, P_un, P_un]) (st' := [P_z 1]) P_i192_606 rfl (show P_gw _ _ 607 [.ref G, P_z ig, P_z z1, P_z z2, P_un, P_un] [P_z 1] _ _ _ _ _ _ _ from ?_)
        refine P_gw_end P_i192_607 rfl rfl (fun _ => rfl) rfl ?_
        have e1 : A_gtk gp = [4, gp] := if_neg (by omega)
        have e2 : A_otk oi = [] := if_pos (by omega)
        have e4 : G_lm lg = lg := if_neg (by omega)
        have e3 : A_ltk (G_lm lg) = [6, 1000 + lg] := by rw [e4]; exact if_neg (by omega)
        exact q σ g τ _ u D K tk hb hS hIp hC h8 h9 h10 hO h13 (by rw [htk, e1, e2, e3]; simp [List.append_assoc]) hst (by omega) (by omega)
    · refine P_gw_izf P_i192_543 ⟨by omega, by omega⟩ (P_ci_ltf (by omega)) (show P_gw _ _ 546 [.ref G, P_z ig, P_z z1, P_z z2, P_un, P_un] [] _ _ _ _ _ _ _ from ?_)
      refine P_gw_op (L' := [.ref G, P_z ig, P_z z1, P_z z2, P_un, P_un]) (st' := [.ref G]) P_i192_546 rfl (show P_gw _ _ 547 [.ref G, P_z ig, P_z z1, P_z z2, P_un, P_un] [.ref G] _ _ _ _ _ _ _ from ?_)
      refine P_gw_op (L' := [.ref G, P_z ig, P_z z1, P_z z2, P_un, P_un]) (st' := [P_z 5, .ref G]) P_i192_547 rfl (show P_gw _ _ 548 [.ref G, P_z ig, P_z z1, P_z z2, P_un, P_un] [P_z 5, .ref G] _ _ _ _ _ _ _ from ?_)
      have htl5 : tk.length < 40 := by omega
      refine P_gw_call P_i192_548 rfl rfl (fun _ => rfl) rfl rfl rfl rfl (y2 := 190) (as := [.ref G, P_z 5]) (r0 := []) (P_ginv_v (hT.1.1) rfl rfl) (Nat.le_of_ble_eq_true rfl) (by decide) rfl (Nat.le_of_ble_eq_true rfl) (g_tok hw hb (t := 5) htl5 (by omega) (fun σ g τ u hb hf hsf hub => ?_))
      have hS := P_gS_fr hf ⟨id, id⟩ (G_n5f (by omega)) hS
      have hIp := P_gRw_fr hf ⟨id, id⟩ (by omega) (G_n5f (by omega)) hIp
      have hC := P_gC_fr hf ⟨id, id, id⟩ (G_n5f (by omega)) hC
      have h8 := ((hf _ _ _ hT.1.1).2 8 (fun _ => (G_n5f (by omega))) id).trans h8
      have h9 := ((hf _ _ _ hT.1.1).2 9 (fun _ => (G_n5f (by omega))) id).trans h9
      have h10 := ((hf _ _ _ hT.1.1).2 10 (fun _ => (G_n5f (by omega))) id).trans h10
      obtain ⟨tk, htq⟩ : ∃ x, x = tk ++ [5] := ⟨_, rfl⟩
      rw [← htq] at hb
      have htl := congrArg List.length htq
      simp only [List.length_append, List.length_cons, List.length_nil] at htl
      rw [htk] at htq
      have htk := htq
      have hst := G_tf_tr hst hsf
      obtain ⟨K, hKq⟩ : ∃ x, x = N := ⟨_, rfl⟩
      rw [← hKq] at hb
      refine P_gw_re (Pr := fun g' τ' N' u' => g = g' ∧ τ = τ' ∧ u = u' ∧ N < N') ⟨rfl, rfl, rfl, by omega⟩ (fun g1 τ1 N u1 hre => ?_)
      obtain ⟨rfl, rfl, rfl, hNN⟩ := hre
      refine P_gw_lts (fun hlt => ?_)
      obtain ⟨hT, hL, hK, hct, hTK, h0, hs1, hdr2⟩ := id hb
      have hlG := hlt _ _ _ hT.1.1
      show P_gw _ _ 551 [.ref G, P_z ig, P_z z1, P_z z2, P_un, P_un] [P_z 1] _ _ _ _ _ _ _
      refine P_gw_izf P_i192_551 ⟨by decide, by decide⟩ (P_ci_eqf (by omega)) (show P_gw _ _ 554 [.ref G, P_z ig, P_z z1, P_z z2, P_un, P_un] [] _ _ _ _ _ _ _ from ?_)
      refine P_gw_op (L' := [.ref G, P_z ig, P_z z1, P_z z2, P_un, P_un]) (st' := [.ref G]) P_i192_554 rfl (show P_gw _ _ 555 [.ref G, P_z ig, P_z z1, P_z z2, P_un, P_un] [.ref G] _ _ _ _ _ _ _ from ?_)
      refine P_gw_op (L' := [.ref G, P_z ig, P_z z1, P_z z2, P_un, P_un]) (st' := [P_z 1000, .ref G]) P_i192_555 (P_o_si (by decide)) (show P_gw _ _ 558 [.ref G, P_z ig, P_z z1, P_z z2, P_un, P_un] [P_z 1000, .ref G] _ _ _ _ _ _ _ from ?_)
      refine P_gw_op (L' := [.ref G, P_z ig, P_z z1, P_z z2, P_un, P_un]) (st' := [.ref G, P_z 1000, .ref G]) P_i192_558 rfl (show P_gw _ _ 559 [.ref G, P_z ig, P_z z1, P_z z2, P_un, P_un] [.ref G, P_z 1000, .ref G] _ _ _ _ _ _ _ from ?_)
      refine P_gw_getv P_i192_559 (hT.1.1) rfl rfl (h9) (show P_gw _ _ 562 [.ref G, P_z ig, P_z z1, P_z z2, P_un, P_un] [P_z oi, P_z 1000, .ref G] _ _ _ _ _ _ _ from ?_)
      refine P_gw_op (L' := [.ref G, P_z ig, P_z z1, P_z z2, P_un, P_un]) (st' := [P_z (1000 + oi), .ref G]) P_i192_562 P_o_iadd (show P_gw _ _ 563 [.ref G, P_z ig, P_z z1, P_z z2, P_un, P_un] [P_z (1000 + oi), .ref G] _ _ _ _ _ _ _ from ?_)
      have htl6 : tk.length < 40 := by omega
      refine P_gw_call P_i192_563 rfl rfl (fun _ => rfl) rfl rfl rfl rfl (y2 := 190) (as := [.ref G, P_z (1000 + oi)]) (r0 := []) (P_ginv_v (hT.1.1) rfl rfl) (Nat.le_of_ble_eq_true rfl) (by decide) rfl (Nat.le_of_ble_eq_true rfl) (g_tok hw hb (t := (1000 + oi)) htl6 (by omega) (fun σ g τ u hb hf hsf hub => ?_))
      have hS := P_gS_fr hf ⟨id, id⟩ (G_n5f (by omega)) hS
      have hIp := P_gRw_fr hf ⟨id, id⟩ (by omega) (G_n5f (by omega)) hIp
      have hC := P_gC_fr hf ⟨id, id, id⟩ (G_n5f (by omega)) hC
      have h8 := ((hf _ _ _ hT.1.1).2 8 (fun _ => (G_n5f (by omega))) id).trans h8
      have h9 := ((hf _ _ _ hT.1.1).2 9 (fun _ => (G_n5f (by omega))) id).trans h9
      have h10 := ((hf _ _ _ hT.1.1).2 10 (fun _ => (G_n5f (by omega))) id).trans h10
      obtain ⟨tk, htq⟩ : ∃ x, x = tk ++ [(1000 + oi)] := ⟨_, rfl⟩
      rw [← htq] at hb
      have htl := congrArg List.length htq
      simp only [List.length_append, List.length_cons, List.length_nil] at htl
      rw [htk] at htq
      have htk := htq
      have hst := G_tf_tr hst hsf
      obtain ⟨K, hKq⟩ : ∃ x, x = N := ⟨_, rfl⟩
      rw [← hKq] at hb
      refine P_gw_re (Pr := fun g' τ' N' u' => g = g' ∧ τ = τ' ∧ u = u' ∧ N < N') ⟨rfl, rfl, rfl, by omega⟩ (fun g1 τ1 N u1 hre => ?_)
      obtain ⟨rfl, rfl, rfl, hNN⟩ := hre
      refine P_gw_lts (fun hlt => ?_)
      obtain ⟨hT, hL, hK, hct, hTK, h0, hs1, hdr2⟩ := id hb
      have hlG := hlt _ _ _ hT.1.1
      show P_gw _ _ 566 [.ref G, P_z ig, P_z z1, P_z z2, P_un, P_un] [P_z 1] _ _ _ _ _ _ _
      refine P_gw_izf P_i192_566 ⟨by decide, by decide⟩ (P_ci_eqf (by omega)) (show P_gw _ _ 569 [.ref G, P_z ig, P_z z1, P_z z2, P_un, P_un] [] _ _ _ _ _ _ _ from ?_)
      refine P_gw_op (L' := [.ref G, P_z ig, P_z z1, P_z z2, P_un, P_un]) (st' := [.ref G]) P_i192_569 rfl (show P_gw _ _ 570 [.ref G, P_z ig, P_z z1, P_z z2, P_un, P_un] [.ref G] _ _ _ _ _ _ _ from ?_)
      refine P_gw_getv P_i192_570 (hT.1.1) rfl rfl (h10) (show P_gw _ _ 573 [.ref G, P_z ig, P_z z1, P_z z2, P_un, P_un] [P_z lg] _ _ _ _ _ _ _ from ?_)
      rcases Int.lt_or_le lg 0 with hc7 | hc7
      · refine P_gw_izt P_i192_573 ⟨by omega, by omega⟩ (P_ci_ltt (by omega)) (show P_gw _ _ 602 [.ref G, P_z ig, P_z z1, P_z z2, P_un, P_un] [] _ _ _ _ _ _ _ from ?_)
        refine P_gw_op (L' := [.ref G, P_z ig, P_z z1, P_z z2, P_un, P_un]) (st' := [.ref G]) P_i192_602 rfl (show P_gw _ _ 603 [.ref G, P_z ig, P_z z1, P_z z2, P_un, P_un] [.ref G] _ _ _ _ _ _ _ from ?_)
        refine P_gw_call P_i192_603 rfl rfl (fun _ => rfl) rfl rfl rfl rfl (y2 := 193) (as := [.ref G]) (r0 := []) (P_ginv_v (hT.1.1) rfl rfl) (Nat.le_of_ble_eq_true rfl) (by decide) rfl (Nat.le_of_ble_eq_true rfl) (g_pln hT.1.1 hS (fun g τ N u D hf hO h13 hub => ?_))
        have hS := P_gS_fr hf ⟨id, id⟩ (by unfold G_pf; omega) hS
        have hIp := P_gRw_fr hf ⟨id, id⟩ (by omega) (by unfold G_pf; omega) hIp
        have hC := P_gC_fr hf ⟨id, id, id⟩ (by unfold G_pf; omega) hC
        have h8 := ((hf _ _ _ hT.1.1).2 8 (fun _ => (by unfold G_pf; omega)) id).trans h8
        have h9 := ((hf _ _ _ hT.1.1).2 9 (fun _ => (by unfold G_pf; omega)) id).trans h9
        have h10 := ((hf _ _ _ hT.1.1).2 10 (fun _ => (by unfold G_pf; omega)) id).trans h10
        have hb := G_Wb_fr hf (fun r h => h.elim) (fun j h => by unfold G_pf at h; omega) (((hf _ _ _ hT.1.1).2 2 (fun _ => by unfold G_pf; omega) id).trans hdr2) hb
        show P_gw _ _ 606 [.ref G, P_z ig, P_z z1, P_z z2, P_un, P_un] [] _ _ _ _ _ _ _
        refine P_gw_op (L' := [.ref G, P_z ig, P_z z1, P_z z2, P_un, P_un]) (st' := [P_z 1]) P_i192_606 rfl (show P_gw _ _ 607 [.ref G, P_z ig, P_z z1, P_z z2, P_un, P_un] [P_z 1] _ _ _ _ _ _ _ from ?_)
        refine P_gw_end P_i192_607 rfl rfl (fun _ => rfl) rfl ?_
        have e1 : A_gtk gp = [4, gp] := if_neg (by omega)
        have e2 : A_otk oi = [5, 1000 + oi] := if_neg (by omega)
        have e4 : G_lm lg = 1000000000 := if_pos (by omega)
        have e3 : A_ltk (G_lm lg) = [] := by rw [e4]; exact if_pos rfl
        exact q σ g τ _ u D K tk hb hS hIp hC h8 h9 h10 hO h13 (by rw [htk, e1, e2, e3]; simp [List.append_assoc]) hst (by omega) (by omega)
      · refine P_gw_izf P_i192_573 ⟨by omega, by omega⟩ (P_ci_ltf (by omega)) (show P_gw _ _ 576 [.ref G, P_z ig, P_z z1, P_z z2, P_un, P_un] [] _ _ _ _ _ _ _ from ?_)
        refine P_gw_op (L' := [.ref G, P_z ig, P_z z1, P_z z2, P_un, P_un]) (st' := [.ref G]) P_i192_576 rfl (show P_gw _ _ 577 [.ref G, P_z ig, P_z z1, P_z z2, P_un, P_un] [.ref G] _ _ _ _ _ _ _ from ?_)
        refine P_gw_op (L' := [.ref G, P_z ig, P_z z1, P_z z2, P_un, P_un]) (st' := [P_z 6, .ref G]) P_i192_577 (P_o_bi (by decide)) (show P_gw _ _ 579 [.ref G, P_z ig, P_z z1, P_z z2, P_un, P_un] [P_z 6, .ref G] _ _ _ _ _ _ _ from ?_)
        have htl8 : tk.length < 40 := by omega
        refine P_gw_call P_i192_579 rfl rfl (fun _ => rfl) rfl rfl rfl rfl (y2 := 190) (as := [.ref G, P_z 6]) (r0 := []) (P_ginv_v (hT.1.1) rfl rfl) (Nat.le_of_ble_eq_true rfl) (by decide) rfl (Nat.le_of_ble_eq_true rfl) (g_tok hw hb (t := 6) htl8 (by omega) (fun σ g τ u hb hf hsf hub => ?_))
        have hS := P_gS_fr hf ⟨id, id⟩ (G_n5f (by omega)) hS
        have hIp := P_gRw_fr hf ⟨id, id⟩ (by omega) (G_n5f (by omega)) hIp
        have hC := P_gC_fr hf ⟨id, id, id⟩ (G_n5f (by omega)) hC
        have h8 := ((hf _ _ _ hT.1.1).2 8 (fun _ => (G_n5f (by omega))) id).trans h8
        have h9 := ((hf _ _ _ hT.1.1).2 9 (fun _ => (G_n5f (by omega))) id).trans h9
        have h10 := ((hf _ _ _ hT.1.1).2 10 (fun _ => (G_n5f (by omega))) id).trans h10
        obtain ⟨tk, htq⟩ : ∃ x, x = tk ++ [6] := ⟨_, rfl⟩
        rw [← htq] at hb
        have htl := congrArg List.length htq
        simp only [List.length_append, List.length_cons, List.length_nil] at htl
        rw [htk] at htq
        have htk := htq
        have hst := G_tf_tr hst hsf
        obtain ⟨K, hKq⟩ : ∃ x, x = N := ⟨_, rfl⟩
        rw [← hKq] at hb
        refine P_gw_re (Pr := fun g' τ' N' u' => g = g' ∧ τ = τ' ∧ u = u' ∧ N < N') ⟨rfl, rfl, rfl, by omega⟩ (fun g1 τ1 N u1 hre => ?_)
        obtain ⟨rfl, rfl, rfl, hNN⟩ := hre
        refine P_gw_lts (fun hlt => ?_)
        obtain ⟨hT, hL, hK, hct, hTK, h0, hs1, hdr2⟩ := id hb
        have hlG := hlt _ _ _ hT.1.1
        show P_gw _ _ 582 [.ref G, P_z ig, P_z z1, P_z z2, P_un, P_un] [P_z 1] _ _ _ _ _ _ _
        refine P_gw_izf P_i192_582 ⟨by decide, by decide⟩ (P_ci_eqf (by omega)) (show P_gw _ _ 585 [.ref G, P_z ig, P_z z1, P_z z2, P_un, P_un] [] _ _ _ _ _ _ _ from ?_)
        refine P_gw_op (L' := [.ref G, P_z ig, P_z z1, P_z z2, P_un, P_un]) (st' := [.ref G]) P_i192_585 rfl (show P_gw _ _ 586 [.ref G, P_z ig, P_z z1, P_z z2, P_un, P_un] [.ref G] _ _ _ _ _ _ _ from ?_)
        refine P_gw_op (L' := [.ref G, P_z ig, P_z z1, P_z z2, P_un, P_un]) (st' := [P_z 1000, .ref G]) P_i192_586 (P_o_si (by decide)) (show P_gw _ _ 589 [.ref G, P_z ig, P_z z1, P_z z2, P_un, P_un] [P_z 1000, .ref G] _ _ _ _ _ _ _ from ?_)
        refine P_gw_op (L' := [.ref G, P_z ig, P_z z1, P_z z2, P_un, P_un]) (st' := [.ref G, P_z 1000, .ref G]) P_i192_589 rfl (show P_gw _ _ 590 [.ref G, P_z ig, P_z z1, P_z z2, P_un, P_un] [.ref G, P_z 1000, .ref G] _ _ _ _ _ _ _ from ?_)
        refine P_gw_getv P_i192_590 (hT.1.1) rfl rfl (h10) (show P_gw _ _ 593 [.ref G, P_z ig, P_z z1, P_z z2, P_un, P_un] [P_z lg, P_z 1000, .ref G] _ _ _ _ _ _ _ from ?_)
        refine P_gw_op (L' := [.ref G, P_z ig, P_z z1, P_z z2, P_un, P_un]) (st' := [P_z (1000 + lg), .ref G]) P_i192_593 P_o_iadd (show P_gw _ _ 594 [.ref G, P_z ig, P_z z1, P_z z2, P_un, P_un] [P_z (1000 + lg), .ref G] _ _ _ _ _ _ _ from ?_)
        have htl9 : tk.length < 40 := by omega
        refine P_gw_call P_i192_594 rfl rfl (fun _ => rfl) rfl rfl rfl rfl (y2 := 190) (as := [.ref G, P_z (1000 + lg)]) (r0 := []) (P_ginv_v (hT.1.1) rfl rfl) (Nat.le_of_ble_eq_true rfl) (by decide) rfl (Nat.le_of_ble_eq_true rfl) (g_tok hw hb (t := (1000 + lg)) htl9 (by omega) (fun σ g τ u hb hf hsf hub => ?_))
        have hS := P_gS_fr hf ⟨id, id⟩ (G_n5f (by omega)) hS
        have hIp := P_gRw_fr hf ⟨id, id⟩ (by omega) (G_n5f (by omega)) hIp
        have hC := P_gC_fr hf ⟨id, id, id⟩ (G_n5f (by omega)) hC
        have h8 := ((hf _ _ _ hT.1.1).2 8 (fun _ => (G_n5f (by omega))) id).trans h8
        have h9 := ((hf _ _ _ hT.1.1).2 9 (fun _ => (G_n5f (by omega))) id).trans h9
        have h10 := ((hf _ _ _ hT.1.1).2 10 (fun _ => (G_n5f (by omega))) id).trans h10
        obtain ⟨tk, htq⟩ : ∃ x, x = tk ++ [(1000 + lg)] := ⟨_, rfl⟩
        rw [← htq] at hb
        have htl := congrArg List.length htq
        simp only [List.length_append, List.length_cons, List.length_nil] at htl
        rw [htk] at htq
        have htk := htq
        have hst := G_tf_tr hst hsf
        obtain ⟨K, hKq⟩ : ∃ x, x = N := ⟨_, rfl⟩
        rw [← hKq] at hb
        refine P_gw_re (Pr := fun g' τ' N' u' => g = g' ∧ τ = τ' ∧ u = u' ∧ N < N') ⟨rfl, rfl, rfl, by omega⟩ (fun g1 τ1 N u1 hre => ?_)
        obtain ⟨rfl, rfl, rfl, hNN⟩ := hre
        refine P_gw_lts (fun hlt => ?_)
        obtain ⟨hT, hL, hK, hct, hTK, h0, hs1, hdr2⟩ := id hb
        have hlG := hlt _ _ _ hT.1.1
        show P_gw _ _ 597 [.ref G, P_z ig, P_z z1, P_z z2, P_un, P_un] [P_z 1] _ _ _ _ _ _ _
        refine P_gw_izt P_i192_597 ⟨by decide, by decide⟩ (P_ci_net (by omega)) (show P_gw _ _ 602 [.ref G, P_z ig, P_z z1, P_z z2, P_un, P_un] [] _ _ _ _ _ _ _ from ?_)
        refine P_gw_op (L' := [.ref G, P_z ig, P_z z1, P_z z2, P_un, P_un]) (st' := [.ref G]) P_i192_602 rfl (show P_gw _ _ 603 [.ref G, P_z ig, P_z z1, P_z z2, P_un, P_un] [.ref G] _ _ _ _ _ _ _ from ?_)
        refine P_gw_call P_i192_603 rfl rfl (fun _ => rfl) rfl rfl rfl rfl (y2 := 193) (as := [.ref G]) (r0 := []) (P_ginv_v (hT.1.1) rfl rfl) (Nat.le_of_ble_eq_true rfl) (by decide) rfl (Nat.le_of_ble_eq_true rfl) (g_pln hT.1.1 hS (fun g τ N u D hf hO h13 hub => ?_))
        have hS := P_gS_fr hf ⟨id, id⟩ (by unfold G_pf; omega) hS
        have hIp := P_gRw_fr hf ⟨id, id⟩ (by omega) (by unfold G_pf; omega) hIp
        have hC := P_gC_fr hf ⟨id, id, id⟩ (by unfold G_pf; omega) hC
        have h8 := ((hf _ _ _ hT.1.1).2 8 (fun _ => (by unfold G_pf; omega)) id).trans h8
        have h9 := ((hf _ _ _ hT.1.1).2 9 (fun _ => (by unfold G_pf; omega)) id).trans h9
        have h10 := ((hf _ _ _ hT.1.1).2 10 (fun _ => (by unfold G_pf; omega)) id).trans h10
        have hb := G_Wb_fr hf (fun r h => h.elim) (fun j h => by unfold G_pf at h; omega) (((hf _ _ _ hT.1.1).2 2 (fun _ => by unfold G_pf; omega) id).trans hdr2) hb
        show P_gw _ _ 606 [.ref G, P_z ig, P_z z1, P_z z2, P_un, P_un] [] _ _ _ _ _ _ _
        refine P_gw_op (L' := [.ref G, P_z ig, P_z z1, P_z z2, P_un, P_un]) (st' := [P_z 1]) P_i192_606 rfl (show P_gw _ _ 607 [.ref G, P_z ig, P_z z1, P_z z2, P_un, P_un] [P_z 1] _ _ _ _ _ _ _ from ?_)
        refine P_gw_end P_i192_607 rfl rfl (fun _ => rfl) rfl ?_
        have e1 : A_gtk gp = [4, gp] := if_neg (by omega)
        have e2 : A_otk oi = [5, 1000 + oi] := if_neg (by omega)
        have e4 : G_lm lg = lg := if_neg (by omega)
        have e3 : A_ltk (G_lm lg) = [6, 1000 + lg] := by rw [e4]; exact if_neg (by omega)
        exact q σ g τ _ u D K tk hb hS hIp hC h8 h9 h10 hO h13 (by rw [htk, e1, e2, e3]; simp [List.append_assoc]) hst (by omega) (by omega)
