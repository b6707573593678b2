/-! the law's own methods, written by wip/g1.py: 91j.step -/
theorem b_all {d : Nat} {w : P_Lw} {σ : P_A} {g : P_Gl} {τ : P_A} {N u : Nat} {Q : P_GQ} {G : Nat} {dr : Int} (hw : P_Cw w) (hl42 : w.2.1 42 = true) (hl43 : w.2.1 43 = true) (hJ : G_J w σ g τ G dr) {tm sx so : Int} (htm : 0 ≤ tm ∧ tm ≤ 3 ∧ 0 ≤ sx ∧ sx ≤ 3) (q : ∀ σ', G_J w σ' g τ G dr → P_gw (d + 16) 0 40 [.ref 0, P_z tm, .ref G, .ref (w.2.2 0), P_z (sx + 1), P_un, P_un, P_un, P_un, P_un, P_un, P_un, P_un, P_un, P_un, P_un, P_un, P_un] [] w σ' g τ N u Q) : P_gw (d + 16) 0 118 [.ref 0, P_z tm, .ref G, .ref (w.2.2 0), P_z sx, P_z so, P_un, P_un, P_un, P_un, P_un, P_un, P_un, P_un, P_un, P_un, P_un, P_un] [] w σ g τ N u Q := by
  obtain ⟨T, tt, rT, tr, cT, VV, S, nn, sn, D, od, B, cs, ad, I, ni, gi, vr, ki, ci, gp, oi, lm, nv, hJ⟩ := hJ
  obtain ⟨a, C, n1, n2, n3, n4, n5, n6, n7, n8, n9, n10⟩ := G_nums_J hJ
  obtain ⟨j1, j2, j3, j4, j5, j6, j7, j8, j9, j10, j11, j12, j13, j14⟩ := id hJ
  have hnn := j2.2.2.1
  have hcl := j4.2.2.1
  have hCC : 0 ≤ G_cc a C nv ∧ G_cc a C nv ≤ a ∧ a ≤ 343 := by unfold G_cc; split <;> omega
  have hCC2 : G_cc a C nv ≤ C := by unfold G_cc; split <;> omega
  obtain ⟨d1, d2, d3, d4, d5, d6⟩ := id n10
  have hckb : (G_wk sn rT VV nn cs od ni ki gp oi lm nv).2.2.1 ≤ 10000 := by
    have h := Int.mul_le_mul n7.1.2 (show (cs.length : Int) ≤ 12 by omega) (by omega) (show (0 : Int) ≤ 399 by omega)
    omega
  have hrd : (0 ≤ (G_wk sn rT VV nn cs od ni ki gp oi lm nv).2.1 ∧ (G_wk sn rT VV nn cs od ni ki gp oi lm nv).2.1 ≤ 399) ∧ 0 ≤ (G_wk sn rT VV nn cs od ni ki gp oi lm nv).2.2.1 ∧ (G_wk sn rT VV nn cs od ni ki gp oi lm nv).2.2.1 ≤ 10000 := ⟨n7.1, n7.2.1, hckb⟩
  have hck : ∀ k : Int, 0 ≤ k → k < (cs.length : Int) → (G_cc a C nv ≤ G_mw (G_V sn VV) (P_grw sn rT) cs od nn k ∧ G_mw (G_V sn VV) (P_grw sn rT) cs od nn k ≤ a) ∧ A_low od (A_lc cs k 0) (A_lc cs k 2) ≤ A_lc cs k 3 ∧ A_lc cs k 3 < (nn : Int) := fun k k0 k1 => by
    have h := n6 k
    obtain ⟨y, hy, hf⟩ := A_lc_el (cs := cs) (k := k) ⟨k0, k1⟩
    rw [hf 0, hf 2, hf 3]
    exact ⟨⟨Int.le_trans hCC2 h.1, h.2⟩, j7 y hy⟩
  refine b_rows j1 j2 j3 hw j9 (fun R z hR => ?_)
  obtain rfl : R = a := hR.trans n1
  refine b_s1 j5 hw hl42 hl43 j9 j8 j13 j14 rfl rfl rfl (by omega) hrd n3 n2 n4 n10 (σ0 := σ) (fun _ _ _ => rfl) (fun σ1 sz is rc c1 X hAs => ?_)
  refine b_s2a j5 hw hAs rfl hrd n3 d4 d5 hcl n7.2.2 ?_
  have hres := hAs.2.2.1.2.2.2.2.1
  refine b_s2b j5 hw hAs rfl hrd hl42 hl43 j11 j12.2.2.2.1 rfl j12.2.2.2.2.2.1 hck hCC d3 d6 hcl (fun e0 e1 => ?_) (fun e1 => ?_) (fun σ2 hAs2 => ?_)
  · have h1 := hres.2.2.2.1 e0
    have h2 := hres.2.1
    have h3 : lm = 1000000000 := by have := j12.2.2.2.2.2.1; omega
    have h4 := n9 h3
    omega
  · have h1 := (hres.2.2.2.2 e1).1
    omega
  have hres2 := hAs2.2.2.1.2.2.2.2.1
  have hsor2 := hAs2.2.2.1.2.2.2.2.2.2.1
  have hsr : ∀ k j, 0 < k → k < min ((sz : Nat) : Int) lm → 0 ≤ j → oi = j → A_av σ2 (G_V sn VV) (P_grw sn rT) ki ci (A_gth ki (ni : Int) gp) (k - 1) j ≤ A_av σ2 (G_V sn VV) (P_grw sn rT) ki ci (A_gth ki (ni : Int) gp) k j := fun k j k0 k1 j0 e => by
    have h := hsor2 (by omega) (k.toNat - 1) k.toNat (by omega) (by omega)
    rw [e, show ((k.toNat - 1 : Nat) : Int) = k - 1 by omega, show ((k.toNat : Nat) : Int) = k by omega] at h
    exact h
  have hF4 : A_gth ki (ni : Int) gp = 1 → τ G 10 < 0 → ∀ s, s = A_sm (fun p => σ2 34 (σ2 37 p).toNat) (min ((sz : Nat) : Int) lm).toNat → s = G_cc R C nv := fun e1 e2 s hs => by
    have h1 := (hres2.2.2.2.2 e1).2.1
    have h2 := hres2.2.1
    have h3 : lm = 1000000000 := by have := j12.2.2.2.2.2.1; omega
    have h4 := n9 h3
    rw [hs, show (min ((sz : Nat) : Int) lm).toNat = sz by omega, h1, h4]
  have hend : ∀ σ3, (∀ a b, ¬ (31 ≤ a ∧ a ≤ 44) → σ3 a b = σ a b) → A_B w σ3 (nn : Int) (G_tb sn) (P_grw sn rT) vr (G_cl sn cT) (G_V sn VV) cs od (ni : Int) ki ci gp oi lm nv → A_ka σ3 (G_V sn VV) (P_grw sn rT) (ni : Int) ki ci gp oi lm (G_wk sn rT VV nn cs od ni ki gp oi lm nv).2.1 (G_wk sn rT VV nn cs od ni ki gp oi lm nv).2.2.1 (G_wk sn rT VV nn cs od ni ki gp oi lm nv).2.2.2 sz → G_J w σ3 g τ G dr := fun σ3 f hB3 hka3 =>
    ⟨T, tt, rT, tr, cT, VV, S, nn, sn, D, od, B, cs, ad, I, ni, gi, vr, ki, ci, gp, oi, lm, nv, j1, j2, j3, j4, j5, j6, j7, G_tab_cg (fun a b h => f a b (by omega)) j8, hB3, j10, j11, j12, by rw [f _ _ (by omega)]; exact j13, Or.inr ⟨sz, hka3⟩⟩
  refine b_cnt j5 ni 0 (-1) (by omega) (by omega) (Or.inl rfl) (fun c z hc => ?_)
  rcases hc with rfl | hc
  · exact b_s3n j5 hw hAs2 rfl hrd htm j11 j12.2.2.2.1 rfl j12.2.2.2.2.2.1 j12.2.2.2.2.1 hsr ⟨hCC.1, by omega⟩ d3 d6 hF4 (fun σ3 f hB3 hka3 => q σ3 (hend σ3 f hB3 hka3))
  · exact b_s3c j5 hw hAs2 rfl hrd htm j11 j12.2.2.2.1 rfl j12.2.2.2.2.2.1 j12.2.2.2.2.1 hsr ⟨hCC.1, by omega⟩ d3 d6 hF4 hc (fun σ3 f hB3 hka3 => q σ3 (hend σ3 f hB3 hka3))