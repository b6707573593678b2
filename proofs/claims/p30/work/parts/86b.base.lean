/-! the law's own methods, written by wip/g1.py: 86b.base -/
theorem P_ginv_v {g : P_Gl} {w : P_Lw} {σ τ : P_A} {N u : Nat} {i a r ci y2 : Nat} {bs : List Bool} {r1 : Int} {r2 : Nat} {st r0 : List Value} (ha : g a = some (r, .inl (ci, bs))) (hV : P_Y0.2.2.2 r2 ci = some y2) (hd : st.drop r1.toNat = .ref a :: r0) : ∀ h, P_Gk w σ g τ N u h → P_inv P_Y0.2.2.2 (.invokevirtual i) r1 r2 st h = some (y2, .ref a :: (st.take r1.toNat).reverse, r0) := by
  intro h hk
  obtain ⟨g1, g2, -⟩ := hk.2.1 a r _ ha
  simp only [P_inv, hd, g2, P_gcl, hV]
theorem P_fit_b {v : Int} (h : 0 ≤ v ∧ v ≤ 1) : P_fits .boolean (P_z v) = true := by
  rcases (by omega : v = 0 ∨ v = 1) with rfl | rfl <;> rfl
theorem s_cell {d : Nat} {w : P_Lw} {σ : P_A} {g : P_Gl} {τ : P_A} {N u : Nat} {Q : P_GQ} {k : Int} (hk : 0 ≤ k ∧ k ≤ 1000) (q : ∀ v, P_rg v → Q (.inl (some (P_z v))) w σ g τ N u) : P_gw d 207 0 [.ref 0, P_z k] [] w σ g τ N u Q := by
  intro h hK
  obtain ⟨Ls, xs, hL, h0⟩ := id hK.2.2.2.2
  refine P_wp_step P_i207_0 (fun ex => rfl) ?_
  refine P_wp_step P_i207_1 (fun ex => rfl) ?_
  refine P_wp_step (S' := (3, [.ref 0, P_z k], [P_z (Ls : Int), P_z k], h)) P_i207_2 (fun ex => by unfold P_do; simp only [P_op, P_br, P_hp, h0]; rw [if_pos (Or.inr trivial)]; simp only [P_z, Int32.ofInt_eq_ofNat]; rfl) ?_
  have rk : P_rg k := ⟨by omega, by omega⟩
  have rl : P_rg (Ls : Int) := ⟨by omega, by omega⟩
  by_cases hlt : k < (Ls : Int)
  · refine P_wp_icf P_i207_3 (by rw [P_cc_ci rk rl]; exact P_ci_gef hlt) ?_
    refine P_wp_step P_i207_6 (fun ex => rfl) ?_
    refine P_wp_step P_i207_7 (fun ex => rfl) ?_
    refine P_wp_step (S' := (9, [.ref 0, P_z k], [P_z (xs k.toNat).toInt], h)) P_i207_8 (fun ex => by unfold P_do; simp only [P_op, P_br, P_hp, h0, P_ixz hk.1 hlt (by omega), Option.bind_some, ← P_zI]; rfl) ?_
    refine P_wp_step P_i207_9 (fun ex => rfl) ?_
    refine P_wp_end P_i207_18 (fun ex => rfl) ⟨w, σ, g, τ, N, u, hK, q _ (P_rgI _)⟩
  · refine P_wp_ict P_i207_3 (by rw [P_cc_ci rk rl]; exact P_ci_get (by omega)) ?_
    refine P_wp_step P_i207_12 (fun ex => rfl) ?_
    refine P_wp_step P_i207_14 (fun ex => rfl) ?_
    refine P_wp_step P_i207_15 (fun ex => rfl) ?_
    refine P_wp_step P_i207_16 (fun ex => rfl) ?_
    refine P_wp_step (S' := (18, [.ref 0, P_z k], [P_z (Int32.ofInt 790386105 * (Int32.ofInt k + Int32.ofInt 3)).toInt], h)) P_i207_17 (fun ex => by unfold P_do; simp only [P_op, P_ii, P_z, Int32.ofInt_toInt]; rfl) ?_
    refine P_wp_end P_i207_18 (fun ex => rfl) ⟨w, σ, g, τ, N, u, hK, q _ (P_rgI _)⟩
theorem s_below {d : Nat} {w : P_Lw} {σ : P_A} {g : P_Gl} {τ : P_A} {N u : Nat} {Q : P_GQ} {a n : Int} (hn : 1 ≤ n ∧ n ≤ 2147483647) (q : ∀ v, 0 ≤ v → v < n → Q (.inl (some (P_z v))) w σ g τ N u) : P_gw d 206 0 [P_z a, P_z n] [] w σ g τ N u Q := by
  refine P_gw_op P_i206_0 rfl (show P_gw _ _ 1 [P_z a, P_z n] [P_z a] _ _ _ _ _ _ _ from ?_)
  refine P_gw_op P_i206_1 rfl (show P_gw _ _ 3 [P_z a, P_z n] [P_z 2147483647, P_z a] _ _ _ _ _ _ _ from ?_)
  obtain ⟨v, hv, e⟩ := P_o_msk (r1 := 0) (r2 := 0) (L := [P_z a, P_z n]) (st := []) (a := a)
  refine P_gw_op P_i206_3 e (show P_gw _ _ 4 [P_z a, P_z n] [P_z v] _ _ _ _ _ _ _ from ?_)
  refine P_gw_op P_i206_4 rfl (show P_gw _ _ 5 [P_z a, P_z n] [P_z n, P_z v] _ _ _ _ _ _ _ from ?_)
  refine P_gw_op P_i206_5 (P_o_irem (by omega) (by omega) (by omega) (by omega)) (show P_gw _ _ 6 [P_z a, P_z n] [P_z (v % n)] _ _ _ _ _ _ _ from ?_)
  refine P_gw_end P_i206_6 rfl rfl (fun _ => rfl) rfl (q _ (Int.emod_nonneg _ (by omega)) (Int.emod_lt_of_pos _ (by omega)))
theorem s_draw {d : Nat} {w : P_Lw} {σ : P_A} {g : P_Gl} {τ : P_A} {N u : Nat} {Q : P_GQ} {G rG : Nat} (hG : g G = some (rG, .inl (11, [true, true, false, true, true, true, true, true, false, false, false, true, true, false, false, false]))) {dr n : Int} (h1 : τ G 1 = ((0 : Nat) : Int)) (h2 : τ G 2 = dr) (hdr : 0 ≤ dr ∧ dr ≤ 1000000) (hn : 1 ≤ n ∧ n ≤ 2147483647) (q : ∀ v, 0 ≤ v → v < n → Q (.inl (some (P_z v))) w σ g (P_u2 τ G 2 (dr + 1)) N u) : P_gw (d + 3) 182 0 [.ref G, P_z n, P_un] [] w σ g τ N u Q := by
  refine P_gw_lt hG (fun hG2 hGN => ?_)
  refine P_gw_op (L' := [.ref G, P_z n, P_un]) (st' := [.ref G]) P_i182_0 rfl (show P_gw _ _ 1 [.ref G, P_z n, P_un] [.ref G] _ _ _ _ _ _ _ from ?_)
  refine P_gw_getR (P_i182_1) (hG) rfl rfl (h1) (show P_gw _ _ 4 [.ref G, P_z n, P_un] [.ref 0] _ _ _ _ _ _ _ from ?_)
  refine P_gw_op (L' := [.ref G, P_z n, P_un]) (st' := [.ref G, .ref 0]) P_i182_4 rfl (show P_gw _ _ 5 [.ref G, P_z n, P_un] [.ref G, .ref 0] _ _ _ _ _ _ _ from ?_)
  refine P_gw_getv P_i182_5 (hG) rfl rfl (h2) (show P_gw _ _ 8 [.ref G, P_z n, P_un] [P_z dr, .ref 0] _ _ _ _ _ _ _ from ?_)
  refine P_gw_op (L' := [.ref G, P_z n, P_un]) (st' := [P_z 24, P_z dr, .ref 0]) P_i182_8 (P_o_bi (by decide)) (show P_gw _ _ 10 [.ref G, P_z n, P_un] [P_z 24, P_z dr, .ref 0] _ _ _ _ _ _ _ from ?_)
  refine P_gw_op (L' := [.ref G, P_z n, P_un]) (st' := [P_z (dr % 24), .ref 0]) P_i182_10 (P_o_irem (by omega) (by omega) (by omega) (by omega)) (show P_gw _ _ 11 [.ref G, P_z n, P_un] [P_z (dr % 24), .ref 0] _ _ _ _ _ _ _ from ?_)
  refine P_gw_call P_i182_11 rfl rfl (fun _ => rfl) rfl rfl rfl rfl (y2 := 207) (as := [.ref 0, P_z (dr % 24)]) (r0 := []) (fun _ _ => rfl) (Nat.le_of_ble_eq_true rfl) (by decide) rfl (Nat.le_of_ble_eq_true rfl) (s_cell (by omega) (fun v1 hv1 => ?_))
  show P_gw _ _ 14 [.ref G, P_z n, P_un] [P_z v1] _ _ _ _ _ _ _
  refine P_gw_op (L' := [.ref G, P_z n, P_un]) (st' := [.ref G, P_z v1]) P_i182_14 rfl (show P_gw _ _ 15 [.ref G, P_z n, P_un] [.ref G, P_z v1] _ _ _ _ _ _ _ from ?_)
  refine P_gw_getv P_i182_15 (hG) rfl rfl (h2) (show P_gw _ _ 18 [.ref G, P_z n, P_un] [P_z dr, P_z v1] _ _ _ _ _ _ _ from ?_)
  refine P_gw_op (L' := [.ref G, P_z n, P_un]) (st' := [P_z 24, P_z dr, P_z v1]) P_i182_18 (P_o_bi (by decide)) (show P_gw _ _ 20 [.ref G, P_z n, P_un] [P_z 24, P_z dr, P_z v1] _ _ _ _ _ _ _ from ?_)
  refine P_gw_op (L' := [.ref G, P_z n, P_un]) (st' := [P_z (dr / 24), P_z v1]) P_i182_20 (P_o_idiv (by omega) (by omega) (by omega) (by omega)) (show P_gw _ _ 21 [.ref G, P_z n, P_un] [P_z (dr / 24), P_z v1] _ _ _ _ _ _ _ from ?_)
  refine P_gw_op (L' := [.ref G, P_z n, P_un]) (st' := [P_z 8, P_z (dr / 24), P_z v1]) P_i182_21 (P_o_bi (by decide)) (show P_gw _ _ 23 [.ref G, P_z n, P_un] [P_z 8, P_z (dr / 24), P_z v1] _ _ _ _ _ _ _ from ?_)
  refine P_gw_op (L' := [.ref G, P_z n, P_un]) (st' := [P_z ((dr / 24) % 8), P_z v1]) P_i182_23 (P_o_irem (by omega) (by omega) (by omega) (by omega)) (show P_gw _ _ 24 [.ref G, P_z n, P_un] [P_z ((dr / 24) % 8), P_z v1] _ _ _ _ _ _ _ from ?_)
  obtain ⟨s1, hs1, es1⟩ := P_o_shr (r1 := 0) (r2 := 0) (L := [.ref G, P_z n, P_un]) (st := []) (a := v1) (b := ((dr / 24) % 8))
  refine P_gw_op (L' := [.ref G, P_z n, P_un]) (st' := [P_z s1]) P_i182_24 es1 (show P_gw _ _ 25 [.ref G, P_z n, P_un] [P_z s1] _ _ _ _ _ _ _ from ?_)
  refine P_gw_op (L' := [.ref G, P_z n, P_un]) (st' := [P_z 151, P_z s1]) P_i182_25 (P_o_si (by decide)) (show P_gw _ _ 28 [.ref G, P_z n, P_un] [P_z 151, P_z s1] _ _ _ _ _ _ _ from ?_)
  refine P_gw_op (L' := [.ref G, P_z n, P_un]) (st' := [.ref G, P_z 151, P_z s1]) P_i182_28 rfl (show P_gw _ _ 29 [.ref G, P_z n, P_un] [.ref G, P_z 151, P_z s1] _ _ _ _ _ _ _ from ?_)
  refine P_gw_getv P_i182_29 (hG) rfl rfl (h2) (show P_gw _ _ 32 [.ref G, P_z n, P_un] [P_z dr, P_z 151, P_z s1] _ _ _ _ _ _ _ from ?_)
  refine P_gw_op (L' := [.ref G, P_z n, P_un]) (st' := [P_z (151 * dr), P_z s1]) P_i182_32 P_o_imul (show P_gw _ _ 33 [.ref G, P_z n, P_un] [P_z (151 * dr), P_z s1] _ _ _ _ _ _ _ from ?_)
  refine P_gw_op (L' := [.ref G, P_z n, P_un]) (st' := [P_z (s1 + (151 * dr))]) P_i182_33 P_o_iadd (show P_gw _ _ 34 [.ref G, P_z n, P_un] [P_z (s1 + (151 * dr))] _ _ _ _ _ _ _ from ?_)
  refine P_gw_op (L' := [.ref G, P_z n, P_un]) (st' := [P_z n, P_z (s1 + (151 * dr))]) P_i182_34 rfl (show P_gw _ _ 35 [.ref G, P_z n, P_un] [P_z n, P_z (s1 + (151 * dr))] _ _ _ _ _ _ _ from ?_)
  refine P_gw_call P_i182_35 rfl rfl (fun _ => rfl) rfl rfl rfl rfl (y2 := 206) (as := [P_z (s1 + (151 * dr)), P_z n]) (r0 := []) (fun _ _ => rfl) (Nat.le_of_ble_eq_true rfl) (by decide) rfl (Nat.le_of_ble_eq_true rfl) (s_below (by omega) (fun v h0 h1_ => ?_))
  show P_gw _ _ 38 [.ref G, P_z n, P_un] [P_z v] _ _ _ _ _ _ _
  refine P_gw_op (L' := [.ref G, P_z n, P_z v]) (st' := []) P_i182_38 rfl (show P_gw _ _ 39 [.ref G, P_z n, P_z v] [] _ _ _ _ _ _ _ from ?_)
  refine P_gw_op (L' := [.ref G, P_z n, P_z v]) (st' := [.ref G]) P_i182_39 rfl (show P_gw _ _ 40 [.ref G, P_z n, P_z v] [.ref G] _ _ _ _ _ _ _ from ?_)
  refine P_gw_op (L' := [.ref G, P_z n, P_z v]) (st' := [.ref G, .ref G]) P_i182_40 rfl (show P_gw _ _ 41 [.ref G, P_z n, P_z v] [.ref G, .ref G] _ _ _ _ _ _ _ from ?_)
  refine P_gw_getv P_i182_41 (hG) rfl rfl (h2) (show P_gw _ _ 44 [.ref G, P_z n, P_z v] [P_z dr, .ref G] _ _ _ _ _ _ _ from ?_)
  refine P_gw_op (L' := [.ref G, P_z n, P_z v]) (st' := [P_z 1, P_z dr, .ref G]) P_i182_44 rfl (show P_gw _ _ 45 [.ref G, P_z n, P_z v] [P_z 1, P_z dr, .ref G] _ _ _ _ _ _ _ from ?_)
  refine P_gw_op (L' := [.ref G, P_z n, P_z v]) (st' := [P_z (dr + 1), .ref G]) P_i182_45 P_o_iadd (show P_gw _ _ 46 [.ref G, P_z n, P_z v] [P_z (dr + 1), .ref G] _ _ _ _ _ _ _ from ?_)
  refine P_gw_put P_i182_46 (hG) rfl rfl rfl (show P_gw _ _ 49 [.ref G, P_z n, P_z v] [] _ _ _ _ _ _ _ from ?_)
  refine P_gw_op (L' := [.ref G, P_z n, P_z v]) (st' := [P_z v]) P_i182_49 rfl (show P_gw _ _ 50 [.ref G, P_z n, P_z v] [P_z v] _ _ _ _ _ _ _ from ?_)
  refine P_gw_end P_i182_50 rfl rfl (fun _ => rfl) rfl ?_
  exact q v h0 h1_
