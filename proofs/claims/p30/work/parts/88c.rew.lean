/-! the law's own methods, written by wip/g1.py: 88c.rew -/
theorem g_rl0 {d : Nat} {w : P_Lw} {σ : P_A} {Q : P_GQ} {G nn : Nat} {sn : Int → Int} {cT : Int → Nat}  : ∀ (n : Nat) (g : P_Gl) (τ : P_A) (N u : Nat) (B : Nat) (cs : List A_cd) (ad : Int → Nat) (mn : Int), (P_gC g τ G B cs ad) → (∀ x ∈ cs, P_gok nn sn cT x) → (cs.length ≤ n) → (0 ≤ mn ∧ mn + (n : Int) ≤ 100) → (∀ g' τ' N' u' B' cs' ad' mn', N ≤ N' → u' ≤ u + 40 * n → G_fr G_R5 G_F g τ g' τ' → τ' G 13 = τ G 13 → P_gC g' τ' G B' cs' ad' → (∀ x ∈ cs', P_gok nn sn cT x) → (mn' = mn + (cs.length : Int) - (cs'.length : Int) ∧ cs'.filter A_keep = cs.filter A_keep ∧ ∀ x ∈ cs', A_keep x = true) → P_gw (d + 4) 202 16 [.ref G, P_z 0, P_z mn'] [] w σ g' τ' N' u' Q) → P_gw (d + 4) 202 2 [.ref G, P_z 0, P_z mn] [] w σ g τ N u Q := by
  intro n
  induction n with
  | zero =>
    intro g τ N u B cs ad mn hv0 hv1 hv2 hv3 q
    have hC := hv0
    have hok := hv1
    refine P_gw_op (L' := [.ref G, P_z 0, P_z mn]) (st' := [.ref G]) P_i202_2 rfl (show P_gw _ _ 3 [.ref G, P_z 0, P_z mn] [.ref G] _ _ _ _ _ _ _ from ?_)
    refine P_gw_op (L' := [.ref G, P_z 0, P_z mn]) (st' := [P_z 0, .ref G]) P_i202_3 rfl (show P_gw _ _ 4 [.ref G, P_z 0, P_z mn] [P_z 0, .ref G] _ _ _ _ _ _ _ from ?_)
    refine P_gw_call P_i202_4 rfl rfl (fun _ => rfl) rfl rfl rfl rfl (y2 := 201) (as := [.ref G, P_z 0]) (r0 := []) (P_ginv_v (hC.1.1) rfl rfl) (Nat.le_of_ble_eq_true rfl) (by decide) rfl (Nat.le_of_ble_eq_true rfl) (g_on0 hC hok (fun cs1 hcs1 g1 τ1 N1 u1 ad1 B1 hN1 hu1 hf1 h131 hC1 => ?_) (fun hk => ?_))
    · show P_gw _ _ 7 [.ref G, P_z 0, P_z mn] [P_z 1] _ _ _ _ _ _ _
      refine P_gw_izf P_i202_7 ⟨by decide, by decide⟩ (P_ci_eqf (by omega)) (show P_gw _ _ 10 [.ref G, P_z 0, P_z mn] [] _ _ _ _ _ _ _ from ?_)
      refine P_gw_op (L' := [.ref G, P_z 0, P_z (mn + 1)]) (st' := []) P_i202_10 (P_o_iinc rfl) (show P_gw _ _ 13 [.ref G, P_z 0, P_z (mn + 1)] [] _ _ _ _ _ _ _ from ?_)
      refine P_gw_goto P_i202_13 (show P_gw _ _ 2 [.ref G, P_z 0, P_z (mn + 1)] [] _ _ _ _ _ _ _ from ?_)
      exfalso; have := hcs1.2.1; omega
    · show P_gw _ _ 7 [.ref G, P_z 0, P_z mn] [P_z 0] _ _ _ _ _ _ _
      refine P_gw_izt P_i202_7 ⟨by decide, by decide⟩ (P_ci_eqt (by omega)) (show P_gw _ _ 16 [.ref G, P_z 0, P_z mn] [] _ _ _ _ _ _ _ from ?_)
      exact q g τ N u B cs ad mn (by omega) (by omega) G_fr_rf rfl hC hok ⟨by omega, rfl, hk⟩
  | succ n ih =>
    intro g τ N u B cs ad mn hv0 hv1 hv2 hv3 q
    have hC := hv0
    have hok := hv1
    refine P_gw_op (L' := [.ref G, P_z 0, P_z mn]) (st' := [.ref G]) P_i202_2 rfl (show P_gw _ _ 3 [.ref G, P_z 0, P_z mn] [.ref G] _ _ _ _ _ _ _ from ?_)
    refine P_gw_op (L' := [.ref G, P_z 0, P_z mn]) (st' := [P_z 0, .ref G]) P_i202_3 rfl (show P_gw _ _ 4 [.ref G, P_z 0, P_z mn] [P_z 0, .ref G] _ _ _ _ _ _ _ from ?_)
    refine P_gw_call P_i202_4 rfl rfl (fun _ => rfl) rfl rfl rfl rfl (y2 := 201) (as := [.ref G, P_z 0]) (r0 := []) (P_ginv_v (hC.1.1) rfl rfl) (Nat.le_of_ble_eq_true rfl) (by decide) rfl (Nat.le_of_ble_eq_true rfl) (g_on0 hC hok (fun cs1 hcs1 g1 τ1 N1 u1 ad1 B1 hN1 hu1 hf1 h131 hC1 => ?_) (fun hk => ?_))
    · show P_gw _ _ 7 [.ref G, P_z 0, P_z mn] [P_z 1] _ _ _ _ _ _ _
      refine P_gw_izf P_i202_7 ⟨by decide, by decide⟩ (P_ci_eqf (by omega)) (show P_gw _ _ 10 [.ref G, P_z 0, P_z mn] [] _ _ _ _ _ _ _ from ?_)
      refine P_gw_op (L' := [.ref G, P_z 0, P_z (mn + 1)]) (st' := []) P_i202_10 (P_o_iinc rfl) (show P_gw _ _ 13 [.ref G, P_z 0, P_z (mn + 1)] [] _ _ _ _ _ _ _ from ?_)
      refine P_gw_goto P_i202_13 (show P_gw _ _ 2 [.ref G, P_z 0, P_z (mn + 1)] [] _ _ _ _ _ _ _ from ?_)
      exact ih g1 τ1 N1 u1 B1 cs1 ad1 (mn + 1) hC1 hcs1.2.2 (by have := hcs1.2.1; omega) (by omega) (fun g' τ' N' u' B' cs' ad' mn' a1 a2 a3 a4 a5 a6 a7 => q g' τ' N' u' B' cs' ad' mn' (by omega) (by omega) (G_fr_tr hf1 a3) (a4.trans h131) a5 a6 ⟨by have := hcs1.2.1; omega, a7.2.1.trans hcs1.1, a7.2.2⟩)
    · show P_gw _ _ 7 [.ref G, P_z 0, P_z mn] [P_z 0] _ _ _ _ _ _ _
      refine P_gw_izt P_i202_7 ⟨by decide, by decide⟩ (P_ci_eqt (by omega)) (show P_gw _ _ 16 [.ref G, P_z 0, P_z mn] [] _ _ _ _ _ _ _ from ?_)
      exact q g τ N u B cs ad mn (by omega) (by omega) G_fr_rf rfl hC hok ⟨by omega, rfl, hk⟩

theorem G_nd_0 {od : Int → Int} {cs : List A_cd} (h : ∀ x ∈ cs, ¬ A_lw od x < A_cf x 3) : A_nd od cs = 0 ∧ cs = cs.map (A_down od) := by
  refine ⟨?_, ?_⟩
  · unfold A_nd
    rw [List.filter_eq_nil_iff.mpr (fun x hx => by rw [decide_eq_true_eq]; exact h x hx)]
    rfl
  · refine (List.map_id cs).symm.trans (List.map_congr_left (fun x hx => ?_))
    unfold A_down
    rw [if_neg (h x hx)]
    rfl
theorem G_nd_nn {od : Int → Int} {cs : List A_cd} : 0 ≤ A_nd od cs ∧ A_nd od cs ≤ (cs.length : Int) := by
  unfold A_nd
  have := List.length_filter_le (fun x => decide (A_lw od x < A_cf x 3)) cs
  omega
theorem G_ok_new {nn : Nat} {sn : Int → Int} {cT : Int → Nat} {cs : List A_cd} {y x : A_cd} (hn : 1 ≤ nn ∧ nn ≤ 3) (hy : P_gok nn sn cT y) (hx : P_gok nn sn cT x) (h : A_dfb cs y x = true) : P_gok nn sn cT (A_new (nn : Int) y x) := by
  have h := of_decide_eq_true h
  obtain ⟨⟨a1, a2, a3⟩, ⟨b1, b2⟩, c1, -⟩ := h
  have hx2 := A_ok_rg (P_gok_ok hx)
  have hy2 : P_gcol nn sn cT (A_cf y 2) := by
    rcases hy.2.2.1 with q | q
    · exact q
    · exact absurd q.1 (by show ¬ 1000 ≤ A_cf y 2; omega)
  refine ⟨?_, by show 9 ≤ (9 : Int) ∧ (9 : Int) ≤ 11; omega, Or.inr (by show 1000 ≤ A_cf x 2 ∧ A_cf x 2 ≤ 1999; omega), by show 0 ≤ (nn : Int) - 1 ∧ (nn : Int) - 1 ≤ 2; omega⟩
  show P_gcol nn sn cT (A_pr y x)
  unfold A_pr at c1 ⊢
  split
  · exact hy2
  · next q1 =>
    split
    · exact hy.1
    · next q2 => rw [if_neg q1, if_neg q2] at c1; exact absurd rfl c1
theorem g_rl2 {d : Nat} {w : P_Lw} {σ : P_A} {Q : P_GQ} {G nn : Nat} {sn : Int → Int} {cT : Int → Nat} {D : Nat} {od : Int → Int} (hnn : 1 ≤ nn ∧ nn ≤ 3) : ∀ (n : Nat) (g : P_Gl) (τ : P_A) (N u : Nat) (B : Nat) (cs : List A_cd) (ad : Int → Nat) (mn : Int), (P_gC g τ G B cs ad) → (∀ x ∈ cs, P_gok nn sn cT x) → (A_nd od cs ≤ (n : Int)) → (0 ≤ mn ∧ mn + (n : Int) ≤ 100) → (P_gO g τ G D nn od) → (∀ g' τ' N' u' B' cs' ad' mn', N ≤ N' → u' ≤ u + 40 * n → G_fr G_R5 G_F g τ g' τ' → τ' G 13 = τ G 13 → P_gC g' τ' G B' cs' ad' → (∀ x ∈ cs', P_gok nn sn cT x) → (mn' = mn + A_nd od cs ∧ cs' = cs.map (A_down od)) → P_gw (d + 5) 202 16 [.ref G, P_z 2, P_z mn'] [] w σ g' τ' N' u' Q) → P_gw (d + 5) 202 2 [.ref G, P_z 2, P_z mn] [] w σ g τ N u Q := by
  intro n
  induction n with
  | zero =>
    intro g τ N u B cs ad mn hv0 hv1 hv2 hv3 hv4 q
    have hC := hv0
    have hok := hv1
    refine P_gw_op (L' := [.ref G, P_z 2, P_z mn]) (st' := [.ref G]) P_i202_2 rfl (show P_gw _ _ 3 [.ref G, P_z 2, P_z mn] [.ref G] _ _ _ _ _ _ _ from ?_)
    refine P_gw_op (L' := [.ref G, P_z 2, P_z mn]) (st' := [P_z 2, .ref G]) P_i202_3 rfl (show P_gw _ _ 4 [.ref G, P_z 2, P_z mn] [P_z 2, .ref G] _ _ _ _ _ _ _ from ?_)
    refine P_gw_call P_i202_4 rfl rfl (fun _ => rfl) rfl rfl rfl rfl (y2 := 201) (as := [.ref G, P_z 2]) (r0 := []) (P_ginv_v (hC.1.1) rfl rfl) (Nat.le_of_ble_eq_true rfl) (by decide) rfl (Nat.le_of_ble_eq_true rfl) (g_on2 hC hok hv4 hnn (fun cs1 hcs1 τ1 hf1 h131 hC1 => ?_) (fun hk => ?_))
    · show P_gw _ _ 7 [.ref G, P_z 2, P_z mn] [P_z 1] _ _ _ _ _ _ _
      refine P_gw_izf P_i202_7 ⟨by decide, by decide⟩ (P_ci_eqf (by omega)) (show P_gw _ _ 10 [.ref G, P_z 2, P_z mn] [] _ _ _ _ _ _ _ from ?_)
      refine P_gw_op (L' := [.ref G, P_z 2, P_z (mn + 1)]) (st' := []) P_i202_10 (P_o_iinc rfl) (show P_gw _ _ 13 [.ref G, P_z 2, P_z (mn + 1)] [] _ _ _ _ _ _ _ from ?_)
      refine P_gw_goto P_i202_13 (show P_gw _ _ 2 [.ref G, P_z 2, P_z (mn + 1)] [] _ _ _ _ _ _ _ from ?_)
      exfalso; have := hcs1.2.1; have := G_nd_nn (od := od) (cs := cs1); omega
    · show P_gw _ _ 7 [.ref G, P_z 2, P_z mn] [P_z 0] _ _ _ _ _ _ _
      refine P_gw_izt P_i202_7 ⟨by decide, by decide⟩ (P_ci_eqt (by omega)) (show P_gw _ _ 16 [.ref G, P_z 2, P_z mn] [] _ _ _ _ _ _ _ from ?_)
      exact q g τ N u B cs ad mn (by omega) (by omega) G_fr_rf rfl hC hok ⟨by have := (G_nd_0 hk).1; omega, (G_nd_0 hk).2⟩
  | succ n ih =>
    intro g τ N u B cs ad mn hv0 hv1 hv2 hv3 hv4 q
    have hC := hv0
    have hok := hv1
    refine P_gw_op (L' := [.ref G, P_z 2, P_z mn]) (st' := [.ref G]) P_i202_2 rfl (show P_gw _ _ 3 [.ref G, P_z 2, P_z mn] [.ref G] _ _ _ _ _ _ _ from ?_)
    refine P_gw_op (L' := [.ref G, P_z 2, P_z mn]) (st' := [P_z 2, .ref G]) P_i202_3 rfl (show P_gw _ _ 4 [.ref G, P_z 2, P_z mn] [P_z 2, .ref G] _ _ _ _ _ _ _ from ?_)
    refine P_gw_call P_i202_4 rfl rfl (fun _ => rfl) rfl rfl rfl rfl (y2 := 201) (as := [.ref G, P_z 2]) (r0 := []) (P_ginv_v (hC.1.1) rfl rfl) (Nat.le_of_ble_eq_true rfl) (by decide) rfl (Nat.le_of_ble_eq_true rfl) (g_on2 hC hok hv4 hnn (fun cs1 hcs1 τ1 hf1 h131 hC1 => ?_) (fun hk => ?_))
    · show P_gw _ _ 7 [.ref G, P_z 2, P_z mn] [P_z 1] _ _ _ _ _ _ _
      refine P_gw_izf P_i202_7 ⟨by decide, by decide⟩ (P_ci_eqf (by omega)) (show P_gw _ _ 10 [.ref G, P_z 2, P_z mn] [] _ _ _ _ _ _ _ from ?_)
      refine P_gw_op (L' := [.ref G, P_z 2, P_z (mn + 1)]) (st' := []) P_i202_10 (P_o_iinc rfl) (show P_gw _ _ 13 [.ref G, P_z 2, P_z (mn + 1)] [] _ _ _ _ _ _ _ from ?_)
      refine P_gw_goto P_i202_13 (show P_gw _ _ 2 [.ref G, P_z 2, P_z (mn + 1)] [] _ _ _ _ _ _ _ from ?_)
      exact ih g τ1 N u B cs1 ad (mn + 1) hC1 hcs1.2.2 (by have := hcs1.2.1; omega) (by omega) (P_gO_fr hf1 ⟨by unfold G_R5; omega, by unfold G_R5; omega⟩ (by unfold G_F; omega) hv4) (fun g' τ' N' u' B' cs' ad' mn' a1 a2 a3 a4 a5 a6 a7 => q g' τ' N' u' B' cs' ad' mn' (by omega) (by omega) (G_fr_tr hf1 a3) (a4.trans h131) a5 a6 ⟨by have := hcs1.2.1; omega, a7.2.trans hcs1.1⟩)
    · show P_gw _ _ 7 [.ref G, P_z 2, P_z mn] [P_z 0] _ _ _ _ _ _ _
      refine P_gw_izt P_i202_7 ⟨by decide, by decide⟩ (P_ci_eqt (by omega)) (show P_gw _ _ 16 [.ref G, P_z 2, P_z mn] [] _ _ _ _ _ _ _ from ?_)
      exact q g τ N u B cs ad mn (by omega) (by omega) G_fr_rf rfl hC hok ⟨by have := (G_nd_0 hk).1; omega, (G_nd_0 hk).2⟩

theorem g_rl1 {d : Nat} {w : P_Lw} {σ : P_A} {Q : P_GQ} {G nn : Nat} {sn : Int → Int} {cT : Int → Nat} {D : Nat} {od : Int → Int} (hnn : 1 ≤ nn ∧ nn ≤ 3) : ∀ (n : Nat) (g : P_Gl) (τ : P_A) (N u : Nat) (B : Nat) (cs : List A_cd) (ad : Int → Nat) (mn : Int), (P_gC g τ G B cs ad) → (∀ x ∈ cs, P_gok nn sn cT x) → (cs.length + n = 12) → (0 ≤ mn ∧ mn + (n : Int) ≤ 100) → (P_gO g τ G D nn od) → (∀ g' τ' N' u' B' cs' ad' mn', N ≤ N' → u' ≤ u + 40 * n → G_fr G_R5 G_F g τ g' τ' → τ' G 13 = τ G 13 → P_gC g' τ' G B' cs' ad' → (∀ x ∈ cs', P_gok nn sn cT x) → (cs' = A_dr (nn : Int) n cs ∧ mn' = mn + (cs'.length : Int) - (cs.length : Int)) → P_gw (d + 5) 202 16 [.ref G, P_z 1, P_z mn'] [] w σ g' τ' N' u' Q) → P_gw (d + 5) 202 2 [.ref G, P_z 1, P_z mn] [] w σ g τ N u Q := by
  intro n
  induction n with
  | zero =>
    intro g τ N u B cs ad mn hv0 hv1 hv2 hv3 hv4 q
    have hC := hv0
    have hok := hv1
    refine P_gw_op (L' := [.ref G, P_z 1, P_z mn]) (st' := [.ref G]) P_i202_2 rfl (show P_gw _ _ 3 [.ref G, P_z 1, P_z mn] [.ref G] _ _ _ _ _ _ _ from ?_)
    refine P_gw_op (L' := [.ref G, P_z 1, P_z mn]) (st' := [P_z 1, .ref G]) P_i202_3 rfl (show P_gw _ _ 4 [.ref G, P_z 1, P_z mn] [P_z 1, .ref G] _ _ _ _ _ _ _ from ?_)
    refine P_gw_call P_i202_4 rfl rfl (fun _ => rfl) rfl rfl rfl rfl (y2 := 201) (as := [.ref G, P_z 1]) (r0 := []) (P_ginv_v (hC.1.1) rfl rfl) (Nat.le_of_ble_eq_true rfl) (by decide) rfl (Nat.le_of_ble_eq_true rfl) (g_on1z hC hok hv2 ?_)
    show P_gw _ _ 7 [.ref G, P_z 1, P_z mn] [P_z 0] _ _ _ _ _ _ _
    refine P_gw_izt P_i202_7 ⟨by decide, by decide⟩ (P_ci_eqt (by omega)) (show P_gw _ _ 16 [.ref G, P_z 1, P_z mn] [] _ _ _ _ _ _ _ from ?_)
    exact q g τ N u B cs ad mn (by omega) (by omega) G_fr_rf rfl hC hok ⟨rfl, by omega⟩
  | succ n ih =>
    intro g τ N u B cs ad mn hv0 hv1 hv2 hv3 hv4 q
    have hC := hv0
    have hok := hv1
    refine P_gw_op (L' := [.ref G, P_z 1, P_z mn]) (st' := [.ref G]) P_i202_2 rfl (show P_gw _ _ 3 [.ref G, P_z 1, P_z mn] [.ref G] _ _ _ _ _ _ _ from ?_)
    refine P_gw_op (L' := [.ref G, P_z 1, P_z mn]) (st' := [P_z 1, .ref G]) P_i202_3 rfl (show P_gw _ _ 4 [.ref G, P_z 1, P_z mn] [P_z 1, .ref G] _ _ _ _ _ _ _ from ?_)
    refine P_gw_call P_i202_4 rfl rfl (fun _ => rfl) rfl rfl rfl rfl (y2 := 201) (as := [.ref G, P_z 1]) (r0 := []) (P_ginv_v (hC.1.1) rfl rfl) (Nat.le_of_ble_eq_true rfl) (by decide) rfl (Nat.le_of_ble_eq_true rfl) (g_on1 hC hok hv4 hnn (by omega) (fun p hp g1 τ1 u1 ad1 hu1 hf1 h131 hC1 => ?_) (fun hk => ?_))
    · show P_gw _ _ 7 [.ref G, P_z 1, P_z mn] [P_z 1] _ _ _ _ _ _ _
      refine P_gw_izf P_i202_7 ⟨by decide, by decide⟩ (P_ci_eqf (by omega)) (show P_gw _ _ 10 [.ref G, P_z 1, P_z mn] [] _ _ _ _ _ _ _ from ?_)
      refine P_gw_op (L' := [.ref G, P_z 1, P_z (mn + 1)]) (st' := []) P_i202_10 (P_o_iinc rfl) (show P_gw _ _ 13 [.ref G, P_z 1, P_z (mn + 1)] [] _ _ _ _ _ _ _ from ?_)
      refine P_gw_goto P_i202_13 (show P_gw _ _ 2 [.ref G, P_z 1, P_z (mn + 1)] [] _ _ _ _ _ _ _ from ?_)
      exact ih g1 τ1 (N + 2) u1 (N + 1) (cs ++ [A_new (nn : Int) p.1 p.2]) ad1 (mn + 1) hC1 (fun x hx => by rcases List.mem_append.mp hx with e | e; exact hok x e; rw [List.mem_singleton.mp e]; exact G_ok_new hnn (hok _ (A_d2_mem hp).1) (hok _ (A_d2_mem hp).2.1) (A_d2_mem hp).2.2) (by rw [List.length_append]; show (cs.length + 1) + n = 12; omega) (by omega) (P_gO_fr hf1 ⟨by unfold G_R5; omega, by unfold G_R5; omega⟩ (by unfold G_F; omega) hv4) (fun g' τ' N' u' B' cs' ad' mn' a1 a2 a3 a4 a5 a6 a7 => q g' τ' N' u' B' cs' ad' mn' (by omega) (by omega) (G_fr_tr hf1 a3) (a4.trans h131) a5 a6 ⟨a7.1.trans (by simp only [A_dr, hp]), by have := a7.2; rw [List.length_append] at this; simp only [List.length_cons, List.length_nil] at this; omega⟩)
    · show P_gw _ _ 7 [.ref G, P_z 1, P_z mn] [P_z 0] _ _ _ _ _ _ _
      refine P_gw_izt P_i202_7 ⟨by decide, by decide⟩ (P_ci_eqt (by omega)) (show P_gw _ _ 16 [.ref G, P_z 1, P_z mn] [] _ _ _ _ _ _ _ from ?_)
      exact q g τ N u B cs ad mn (by omega) (by omega) G_fr_rf rfl hC hok ⟨by simp only [A_dr, hk], by omega⟩
