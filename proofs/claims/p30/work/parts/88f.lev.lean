/-! the law's own methods, written by wip/g1.py: 88f.lev -/
theorem g_swl {d : Nat} {w : P_Lw} {σ : P_A} {g : P_Gl} {N u : Nat} {Q : P_GQ} {G nn B D : Nat} {sn : Int → Int} {cT : Int → Nat} {ad : Int → Nat} {od : Int → Int} (hnn : 1 ≤ nn ∧ nn ≤ 3) {a b : Int} : ∀ (n : Nat) (τ : P_A) (cs : List A_cd) (A : List A_cd) (B2 : List A_cd) (i : Int), (cs = A ++ B2) → (i = ((A.length : Nat) : Int)) → (B2.length = n) → (P_gC g τ G B cs ad) → (∀ x ∈ cs, P_gok nn sn cT x) → (P_gO g τ G D nn od) → (∀ τ', G_fr G_R5 G_0 g τ g τ' → P_gC g τ' G B (A ++ B2.map (A_up od)) ad → P_gw (d + 3) 203 97 [.ref G, P_z a, P_z b, P_un, .ref B, P_z (cs.length : Int), P_z (cs.length : Int), P_un] [] w σ g τ' N u Q) → P_gw (d + 3) 203 60 [.ref G, P_z a, P_z b, P_un, .ref B, P_z (cs.length : Int), P_z i, P_un] [] w σ g τ N u Q := by
  intro n
  induction n with
  | zero =>
    intro τ cs A B2 i hv0 hv1 hv2 hv3 hv4 hv5 q
    have hC := hv3
    have hok := hv4
    have hO := hv5
    have hcl := hC.2.2.1
    obtain rfl : B2 = [] := List.length_eq_zero_iff.mp hv2
    have hl : (cs.length : Int) = (A.length : Int) := by rw [hv0]; simp
    refine P_gw_op (L' := [.ref G, P_z a, P_z b, P_un, .ref B, P_z (cs.length : Int), P_z i, P_un]) (st' := [P_z i]) P_i203_60 rfl (show P_gw _ _ 62 [.ref G, P_z a, P_z b, P_un, .ref B, P_z (cs.length : Int), P_z i, P_un] [P_z i] _ _ _ _ _ _ _ from ?_)
    refine P_gw_op (L' := [.ref G, P_z a, P_z b, P_un, .ref B, P_z (cs.length : Int), P_z i, P_un]) (st' := [P_z (cs.length : Int), P_z i]) P_i203_62 rfl (show P_gw _ _ 64 [.ref G, P_z a, P_z b, P_un, .ref B, P_z (cs.length : Int), P_z i, P_un] [P_z (cs.length : Int), P_z i] _ _ _ _ _ _ _ from ?_)
    refine P_gw_ict P_i203_64 ⟨by omega, by omega⟩ ⟨by omega, by omega⟩ (P_ci_get (by omega)) (show P_gw _ _ 97 [.ref G, P_z a, P_z b, P_un, .ref B, P_z (cs.length : Int), P_z i, P_un] [] _ _ _ _ _ _ _ from ?_)
    have e : i = (cs.length : Int) := (by omega)
    subst e
    exact q τ G_fr_rf (by rw [List.map_nil, ← hv0]; exact hC)
  | succ n ih =>
    intro τ cs A B2 i hv0 hv1 hv2 hv3 hv4 hv5 q
    have hC := hv3
    have hok := hv4
    have hO := hv5
    have hcl := hC.2.2.1
    obtain ⟨y, B2, rfl⟩ : ∃ y B', B2 = y :: B' := by
      cases B2 with
      | nil => exact absurd hv2 (by simp)
      | cons y B => exact ⟨y, B, rfl⟩
    have hl := A_len (A := A) (y := y) (B := B2)
    have hlB : (B2.length : Int) = (n : Int) := by have := Nat.succ.inj hv2; omega
    rw [← hv0] at hl
    have hy : ∀ f, A_lc cs i f = A_cf y f := fun f => by rw [hv0]; exact A_lc_mid hv1 f
    refine P_gw_op (L' := [.ref G, P_z a, P_z b, P_un, .ref B, P_z (cs.length : Int), P_z i, P_un]) (st' := [P_z i]) P_i203_60 rfl (show P_gw _ _ 62 [.ref G, P_z a, P_z b, P_un, .ref B, P_z (cs.length : Int), P_z i, P_un] [P_z i] _ _ _ _ _ _ _ from ?_)
    refine P_gw_op (L' := [.ref G, P_z a, P_z b, P_un, .ref B, P_z (cs.length : Int), P_z i, P_un]) (st' := [P_z (cs.length : Int), P_z i]) P_i203_62 rfl (show P_gw _ _ 64 [.ref G, P_z a, P_z b, P_un, .ref B, P_z (cs.length : Int), P_z i, P_un] [P_z (cs.length : Int), P_z i] _ _ _ _ _ _ _ from ?_)
    refine P_gw_icf P_i203_64 ⟨by omega, by omega⟩ ⟨by omega, by omega⟩ (P_ci_gef (by omega)) (show P_gw _ _ 67 [.ref G, P_z a, P_z b, P_un, .ref B, P_z (cs.length : Int), P_z i, P_un] [] _ _ _ _ _ _ _ from ?_)
    refine P_gw_op (L' := [.ref G, P_z a, P_z b, P_un, .ref B, P_z (cs.length : Int), P_z i, P_un]) (st' := [.ref B]) P_i203_67 rfl (show P_gw _ _ 69 [.ref G, P_z a, P_z b, P_un, .ref B, P_z (cs.length : Int), P_z i, P_un] [.ref B] _ _ _ _ _ _ _ from ?_)
    refine P_gw_op (L' := [.ref G, P_z a, P_z b, P_un, .ref B, P_z (cs.length : Int), P_z i, P_un]) (st' := [P_z i, .ref B]) P_i203_69 rfl (show P_gw _ _ 71 [.ref G, P_z a, P_z b, P_un, .ref B, P_z (cs.length : Int), P_z i, P_un] [P_z i, .ref B] _ _ _ _ _ _ _ from ?_)
    refine P_gw_rld (b := (ad i)) P_i203_71 (hC.2.1) (by decide) (by omega) (by omega) (by omega) ((hC.2.2.2.1 i (by omega) (by omega)).1.1) (show P_gw _ _ 72 [.ref G, P_z a, P_z b, P_un, .ref B, P_z (cs.length : Int), P_z i, P_un] [.ref (ad i)] _ _ _ _ _ _ _ from ?_)
    refine P_gw_op (L' := [.ref G, P_z a, P_z b, P_un, .ref B, P_z (cs.length : Int), P_z i, .ref (ad i)]) (st' := []) P_i203_72 rfl (show P_gw _ _ 74 [.ref G, P_z a, P_z b, P_un, .ref B, P_z (cs.length : Int), P_z i, .ref (ad i)] [] _ _ _ _ _ _ _ from ?_)
    refine P_gw_op (L' := [.ref G, P_z a, P_z b, P_un, .ref B, P_z (cs.length : Int), P_z i, .ref (ad i)]) (st' := [.ref (ad i)]) P_i203_74 rfl (show P_gw _ _ 76 [.ref G, P_z a, P_z b, P_un, .ref B, P_z (cs.length : Int), P_z i, .ref (ad i)] [.ref (ad i)] _ _ _ _ _ _ _ from ?_)
    refine P_gw_op (L' := [.ref G, P_z a, P_z b, P_un, .ref B, P_z (cs.length : Int), P_z i, .ref (ad i)]) (st' := [P_z 3, .ref (ad i)]) P_i203_76 rfl (show P_gw _ _ 77 [.ref G, P_z a, P_z b, P_un, .ref B, P_z (cs.length : Int), P_z i, .ref (ad i)] [P_z 3, .ref (ad i)] _ _ _ _ _ _ _ from ?_)
    refine P_gw_op (L' := [.ref G, P_z a, P_z b, P_un, .ref B, P_z (cs.length : Int), P_z i, .ref (ad i)]) (st' := [.ref (ad i), P_z 3, .ref (ad i)]) P_i203_77 rfl (show P_gw _ _ 79 [.ref G, P_z a, P_z b, P_un, .ref B, P_z (cs.length : Int), P_z i, .ref (ad i)] [.ref (ad i), P_z 3, .ref (ad i)] _ _ _ _ _ _ _ from ?_)
    refine P_gw_op (L' := [.ref G, P_z a, P_z b, P_un, .ref B, P_z (cs.length : Int), P_z i, .ref (ad i)]) (st' := [P_z 3, .ref (ad i), P_z 3, .ref (ad i)]) P_i203_79 rfl (show P_gw _ _ 80 [.ref G, P_z a, P_z b, P_un, .ref B, P_z (cs.length : Int), P_z i, .ref (ad i)] [P_z 3, .ref (ad i), P_z 3, .ref (ad i)] _ _ _ _ _ _ _ from ?_)
    have hg1 := (P_gok_f hok (i) (by omega) (by omega)).2.2.2
    refine P_gw_ald P_i203_80 ((hC.2.2.2.1 i (by omega) (by omega)).1.2) (by omega) (by omega) (by omega) ((hC.2.2.2.1 i (by omega) (by omega)).2 3 (by omega)) (show P_gw _ _ 81 [.ref G, P_z a, P_z b, P_un, .ref B, P_z (cs.length : Int), P_z i, .ref (ad i)] [P_z (A_lc cs i 3), P_z 3, .ref (ad i)] _ _ _ _ _ _ _ from ?_)
    refine P_gw_op (L' := [.ref G, P_z a, P_z b, P_un, .ref B, P_z (cs.length : Int), P_z i, .ref (ad i)]) (st' := [.ref G, P_z (A_lc cs i 3), P_z 3, .ref (ad i)]) P_i203_81 rfl (show P_gw _ _ 82 [.ref G, P_z a, P_z b, P_un, .ref B, P_z (cs.length : Int), P_z i, .ref (ad i)] [.ref G, P_z (A_lc cs i 3), P_z 3, .ref (ad i)] _ _ _ _ _ _ _ from ?_)
    refine P_gw_op (L' := [.ref G, P_z a, P_z b, P_un, .ref B, P_z (cs.length : Int), P_z i, .ref (ad i)]) (st' := [.ref (ad i), .ref G, P_z (A_lc cs i 3), P_z 3, .ref (ad i)]) P_i203_82 rfl (show P_gw _ _ 84 [.ref G, P_z a, P_z b, P_un, .ref B, P_z (cs.length : Int), P_z i, .ref (ad i)] [.ref (ad i), .ref G, P_z (A_lc cs i 3), P_z 3, .ref (ad i)] _ _ _ _ _ _ _ from ?_)
    have hp2 := A_low_rg (od := od) (l := (A_lc cs i 0)) (r := (A_lc cs i 2))
    refine P_gw_call P_i203_84 rfl rfl (fun _ => rfl) rfl rfl rfl rfl (y2 := 195) (as := [.ref G, .ref (ad i)]) (r0 := [P_z (A_lc cs i 3), P_z 3, .ref (ad i)]) (P_ginv_v (hC.1.1) rfl rfl) (Nat.le_of_ble_eq_true rfl) (by decide) rfl (Nat.le_of_ble_eq_true rfl) (g_low hO (hC.2.2.2.1 i (by omega) (by omega)).1.2 ((hC.2.2.2.1 i (by omega) (by omega)).2 0 (by omega)) ((hC.2.2.2.1 i (by omega) (by omega)).2 1 (by omega)) ((hC.2.2.2.1 i (by omega) (by omega)).2 2 (by omega)) hnn (P_gok_l hok i (by omega) (by omega)).1 (P_gok_l hok i (by omega) (by omega)).2 ?_)
    show P_gw _ _ 87 [.ref G, P_z a, P_z b, P_un, .ref B, P_z (cs.length : Int), P_z i, .ref (ad i)] [P_z (A_low od (A_lc cs i 0) (A_lc cs i 2)), P_z (A_lc cs i 3), P_z 3, .ref (ad i)] _ _ _ _ _ _ _
    refine P_gw_jdk P_i203_87 rfl rfl (fun _ => rfl) rfl (P_jdk_max ⟨by omega, by omega⟩ ⟨by omega, by omega⟩ (Nat.le_of_ble_eq_true rfl)) (show P_gw _ _ 90 [.ref G, P_z a, P_z b, P_un, .ref B, P_z (cs.length : Int), P_z i, .ref (ad i)] [P_z (max (A_lc cs i 3) (A_low od (A_lc cs i 0) (A_lc cs i 2))), P_z 3, .ref (ad i)] _ _ _ _ _ _ _ from ?_)
    refine P_gw_ast P_i203_90 ((hC.2.2.2.1 i (by omega) (by omega)).1.2) (by omega) (by omega) (by omega) (show P_gw _ _ 91 [.ref G, P_z a, P_z b, P_un, .ref B, P_z (cs.length : Int), P_z i, .ref (ad i)] [] _ _ _ _ _ _ _ from ?_)
    refine P_gw_op (L' := [.ref G, P_z a, P_z b, P_un, .ref B, P_z (cs.length : Int), P_z (i + 1), .ref (ad i)]) (st' := []) P_i203_91 (P_o_iinc rfl) (show P_gw _ _ 94 [.ref G, P_z a, P_z b, P_un, .ref B, P_z (cs.length : Int), P_z (i + 1), .ref (ad i)] [] _ _ _ _ _ _ _ from ?_)
    refine P_gw_goto P_i203_94 (show P_gw _ _ 60 [.ref G, P_z a, P_z b, P_un, .ref B, P_z (cs.length : Int), P_z (i + 1), P_un] [] _ _ _ _ _ _ _ from ?_)
    have hlr : 0 ≤ A_lw od y ∧ A_lw od y ≤ 2 := A_low_rg
    have hyr := A_ok_rg (P_gok_ok (hok y (by rw [hv0]; exact A_mem)))
    have hval : max (A_lc cs i 3) (A_low od (A_lc cs i 0) (A_lc cs i 2)) = A_cf (A_up od y) 3 := by rw [hy, hy, hy]; rfl
    rw [hval]
    have hfr : G_fr G_R5 G_0 g τ g (P_u2 τ (ad i) 3 (A_cf ((A_up od) y) 3)) := G_fr_r (hC.2.2.2.1 i (by omega) (by omega)).1.2 rfl
    have hC1 : P_gC g (P_u2 τ (ad i) 3 (A_cf ((A_up od) y) 3)) G B (A ++ (A_up od) y :: B2) ad := G_C_set (hv0 ▸ hC) hv1
    have hlen : (A ++ (A_up od) y :: B2).length = cs.length := by rw [hv0]; simp only [List.length_append, List.length_cons]
    rw [← hlen]
    exact ih _ (A ++ (A_up od) y :: B2) (A ++ [(A_up od) y]) B2 (i + 1) (by simp) (by rw [hv1]; simp) (by omega) hC1 (fun x hx => by rcases List.mem_append.mp hx with e | e; exact hok x (by rw [hv0]; exact List.mem_append_left _ e); rcases List.mem_cons.mp e with e | e; exact e ▸ G_ok_lvl (hok y (by rw [hv0]; exact A_mem)) (by omega); exact hok x (by rw [hv0]; exact List.mem_append_right _ (List.mem_cons_of_mem _ e))) (P_gO_fr hfr ⟨G_nR5 _ (by omega), G_nR5 _ (by omega)⟩ id hO) (fun τ' b1 b2 => by rw [hlen]; exact q τ' (G_fr_tr hfr b1) (by rw [List.map_cons, A_app]; exact b2))
