/-! the law's own methods, written by wip/g1.py: 88y.jdr -/
/-- the seats' tables, out of all tables -/
theorem G_AV {w : P_Lw} {σ : P_A} {nt : Nat} {rT cT : Int → Nat} {VV : Int → Int → Int → Int} (hc : G_ct w σ nt rT cT VV) {nn : Nat} {sn : Int → Int} (hnn : 1 ≤ nn ∧ nn ≤ 3) (hsn : ∀ s, 0 ≤ s → s < (nn : Int) → 0 ≤ sn s ∧ sn s < (nt : Int)) (hc1 : ∀ t, 0 ≤ t → t < (nt : Int) → 1 ≤ cT t) (h6 : σ 6 5 = (nn : Int)) (h9 : ∀ s, 0 ≤ s → s < (nn : Int) → σ 9 s.toNat = ((G_tb sn s : Nat) : Int)) : ∃ vr : Int → Int → Int, A_V w σ (nn : Int) (G_tb sn) (P_grw sn rT) vr ∧ A_X σ (nn : Int) (G_tb sn) (P_grw sn rT) (G_cl sn cT) (G_V sn VV) ∧ ∀ c, P_gcol nn sn cT c → A_vt vr c = A_vt (P_gvr sn rT VV) c := by
  refine ⟨fun s c => σ (G_tb sn s + 2) c.toNat, ⟨h6, by omega, fun s x y => ?_⟩, fun s x y => ?_, fun c hcc => ?_⟩
  · have hs := hsn s x y
    obtain ⟨⟨a1, a2⟩, ⟨a3, a4⟩, ⟨a5, a6⟩, a7, a8, a9, a10⟩ := G_ct_i hc (sn s) hs.1 hs.2
    exact ⟨h9 s x y, ⟨by unfold G_tb; omega, a1⟩, a5, by unfold P_grw; omega, fun c _ _ => ⟨rfl, a10 c.toNat⟩⟩
  · have hs := hsn s x y
    obtain ⟨⟨a1, a2⟩, ⟨a3, a4⟩, ⟨a5, a6⟩, a7, a8, a9, a10⟩ := G_ct_i hc (sn s) hs.1 hs.2
    have h1 := hc1 (sn s) hs.1 hs.2
    exact ⟨⟨a3, by unfold G_cl; omega, by unfold G_cl; omega⟩, fun c r p1 p2 p3 p4 => a7 c r p1 p2 p3 p4⟩
  · obtain ⟨q1, q2, q3, q4, q5, q6⟩ := P_gcol_v hcc
    have hs := hsn _ q2.1 q2.2
    obtain ⟨⟨a1, a2⟩, ⟨a3, a4⟩, ⟨a5, a6⟩, a7, a8, a9, a10⟩ := G_ct_i hc _ hs.1 hs.2
    unfold A_vt P_gvr
    rw [q5, q6]
    exact a8 (c % 10) q3.1 q4
theorem g_jdr {d : Nat} {w : P_Lw} {σ : P_A} {g : P_Gl} {τ : P_A} {N u : Nat} {Q : P_GQ} {G : Nat} {dr : Int} (hw : P_Cw w) (hJ : G_J w σ g τ G dr) (hdr : 0 ≤ dr ∧ dr ≤ 900000) {t : Int} (ht : 0 ≤ t ∧ t < 3) (q : ∀ σ1 g1 τ1 N1 u1 dr1, u1 ≤ u + 600 → dr ≤ dr1 → dr1 ≤ dr + 4 → G_J w σ1 g1 τ1 G dr1 → Q (.inl (some (P_z 1))) w σ1 g1 τ1 N1 u1) : P_gw (d + 8) 188 0 [.ref G, P_z t, P_un] [] w σ g τ N u Q := by
  have hJ0 := hJ
  obtain ⟨T, tt, rT, tr, cT, VV, S, nn, sn, D, od, B, cs, ad, I, ni, gi, vr, ki, ci, gp, oi, lm, nv, hJ⟩ := hJ
  obtain ⟨j1, j2, j3, j4, j5, j6, j7, j8, j9, j10, j11, j12, j13, j14⟩ := id hJ
  have hnn := j2.2.2.1
  by_cases h0 : rT t = 0
  · exact g_dr0 j1 ht h0 (q σ g τ N u dr (by omega) (by omega) (by omega) hJ0)
  · refine g_dr1 hw j1 j8 ht (by omega) j12.1 j12.2.1 j12.2.2.1 (by omega) (fun p p0 p1 g1 τ1 u1 tt1 tr1 hu hf hT1 h2 => ?_)
    refine q _ g1 τ1 _ u1 (dr + 1) (by omega) (by omega) (by omega) ?_
    have hct1 := G_ct_drop j8 ht ⟨p0, p1⟩
    have e : ∀ a b, a < 50 → a ≠ 44 → ¬ (a = 31 ∧ b = 16) → G_ds σ rT cT VV t p a b = σ a b := fun a b x y z => G_ds_ne y z (by omega)
    obtain ⟨b1, b2, b3, b4, b5, b6, b7, b8, b9, b10, b11⟩ := j9
    have nR : ∀ r, r ≠ 2 → ¬ G_R2 r := fun r h => h
    have nF : ∀ j, j ≠ 2 → ¬ G_2 j := fun j h => h
    obtain ⟨vr1, v1, v2, v3⟩ := G_AV hct1 hnn (fun s x y => (j2.2.2.2 s x y).2) (fun s x y => (j1.2.2.2 s x y).1.2.2.2.1) ((e _ _ (by omega) (by omega) (by omega)).trans b1.1) (fun s x y => (e _ _ (by omega) (by omega) (by omega)).trans (b1.2.2 s x y).1)
    exact ⟨T, tt1, G_dr rT t, tr1, cT, G_dV VV t p, S, nn, sn, D, od, B, cs, ad, I, ni, gi, vr1, ki, ci, gp, oi, lm, nv, hT1, P_gS_fr hf ⟨nR _ (by omega), nR _ (by omega)⟩ (nF _ (by omega)) j2, P_gO_fr hf ⟨nR _ (by omega), nR _ (by omega)⟩ (nF _ (by omega)) j3, P_gC_fr hf ⟨nR _ (by omega), nR _ (by omega), nR _ (by omega)⟩ (nF _ (by omega)) j4, P_gI_fr hf ⟨nR _ (by omega), nR _ (by omega)⟩ (nF _ (by omega)) j5, j6, j7, hct1, ⟨v1, v2, A_F_cg (fun a b h h' => e a b (by omega) (by omega) (by omega)) b3, A_KL_cg (e _ _ (by omega) (by omega) (by omega)) (fun a b h h' => e a b (by omega) (by omega) (by omega)) b4, A_O_cg (fun b => e _ b (by omega) (by omega) (by omega)) b5, b6, b7, (e _ _ (by omega) (by omega) (by omega)).trans b8, b9, (e _ _ (by omega) (by omega) (by omega)).trans b10, (e _ _ (by omega) (by omega) (by omega)).trans b11⟩, v3, j11, G_Gf_fr j1.1.1 hf (nR _ (by omega)) ⟨nF _ (by omega), nF _ (by omega), nF _ (by omega), nF _ (by omega), nF _ (by omega)⟩ h2 (((hf _ _ _ j1.1.1).2 13 (fun _ => nF _ (by omega)) (nR _ (by omega))).trans j12.2.2.2.2.2.2) j12, by rw [e _ _ (by omega) (by omega) (by omega)]; exact j13, Or.inl A_oth_31⟩