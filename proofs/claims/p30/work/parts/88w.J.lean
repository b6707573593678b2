/-! the law's own methods, written by wip/g1.py: 88w.J -/
def G_lvs (nn : Nat) (od : Int → Int) (cs : List A_cd) : Prop := ∀ x ∈ cs, A_lw od x ≤ A_cf x 3 ∧ A_cf x 3 < (nn : Int)
def G_tb (sn : Int → Int) (s : Int) : Nat := 50 + 3 * (sn s).toNat
def G_cl (sn : Int → Int) (cT : Int → Nat) (s : Int) : Int := (cT (sn s) : Int)
def G_V (sn : Int → Int) (VV : Int → Int → Int → Int) (s c r : Int) : Int := VV (sn s) c r
/-- a walk through all, from the beginning: rows, reads, checks, meetings -/
def G_wk (sn : Int → Int) (rT : Int → Nat) (VV : Int → Int → Int → Int) (nn : Nat) (cs : List A_cd) (od : Int → Int) (ni : Nat) (ki : Int → Int) (gp oi lm nv : Int) : A_st := A_go (A_ms nv oi (A_gth ki (ni : Int) gp) lm) (fun p ρ => A_hl (A_val (G_V sn VV) (P_grw sn rT) ρ) p (-1) cs 0) od (P_grw sn rT) ((nn : Nat) : Int).toNat 0 (fun _ => 0, 0, 0, 0)
/-- Grove's own fields -/
def G_Gf (w : P_Lw) (τ : P_A) (G : Nat) (gp oi lm nv dr : Int) : Prop := τ G 0 = ((w.2.2 0 : Nat) : Int) ∧ τ G 1 = ((0 : Nat) : Int) ∧ τ G 2 = dr ∧ τ G 8 = gp ∧ τ G 9 = oi ∧ (τ G 10 = -1 ∧ lm = 1000000000 ∨ τ G 10 = lm ∧ 0 ≤ lm ∧ lm ≤ 5) ∧ τ G 13 = nv
/-- the query that is read, its plan, its tables: of Grove and of the class -/
def G_Jx (w : P_Lw) (σ : P_A) (g : P_Gl) (τ : P_A) (G : Nat) (T : Nat) (tt : Int → Nat) (rT : Int → Nat) (tr : Int → Int → Nat) (cT : Int → Nat) (VV : Int → Int → Int → Int) (S nn : Nat) (sn : Int → Int) (D : Nat) (od : Int → Int) (B : Nat) (cs : List A_cd) (ad : Int → Nat) (I ni : Nat) (gi : Int → Int) (vr : Int → Int → Int) (ki ci : Int → Int) (gp oi lm nv dr : Int) : Prop :=
  P_gT g τ G T 3 tt rT tr cT VV ∧ P_gS g τ G S nn 3 sn ∧ P_gO g τ G D nn od ∧ P_gC g τ G B cs ad ∧ P_gI g τ G I ni gi ∧ (∀ x ∈ cs, P_gok nn sn cT x) ∧ G_lvs nn od cs ∧ G_ct w σ 3 rT cT VV ∧
  A_B w σ (nn : Int) (G_tb sn) (P_grw sn rT) vr (G_cl sn cT) (G_V sn VV) cs od (ni : Int) ki ci gp oi lm nv ∧ (∀ c, P_gcol nn sn cT c → A_vt vr c = A_vt (P_gvr sn rT VV) c) ∧
  (∀ j, 0 ≤ j → j < (ni : Int) → G_it (gi j) (ki j) (ci j)) ∧ G_Gf w τ G gp oi lm nv dr ∧ (0 ≤ σ 29 4 ∧ σ 29 4 ≤ 40) ∧
  (σ 31 16 = 0 ∨ ∃ sz, A_ka σ (G_V sn VV) (P_grw sn rT) (ni : Int) ki ci gp oi lm (G_wk sn rT VV nn cs od ni ki gp oi lm nv).2.1 (G_wk sn rT VV nn cs od ni ki gp oi lm nv).2.2.1 (G_wk sn rT VV nn cs od ni ki gp oi lm nv).2.2.2 sz)
def G_J (w : P_Lw) (σ : P_A) (g : P_Gl) (τ : P_A) (G : Nat) (dr : Int) : Prop := ∃ (T : Nat) (tt : Int → Nat) (rT : Int → Nat) (tr : Int → Int → Nat) (cT : Int → Nat) (VV : Int → Int → Int → Int) (S nn : Nat) (sn : Int → Int) (D : Nat) (od : Int → Int) (B : Nat) (cs : List A_cd) (ad : Int → Nat) (I ni : Nat) (gi : Int → Int) (vr : Int → Int → Int) (ki ci : Int → Int) (gp oi lm nv : Int), G_Jx w σ g τ G T tt rT tr cT VV S nn sn D od B cs ad I ni gi vr ki ci gp oi lm nv dr
theorem G_plc_lt {nn : Nat} {od : Int → Int} {s : Int} (hnn : 1 ≤ nn ∧ nn ≤ 3) (h : od 0 = s ∨ 1 < nn ∧ od 1 = s ∨ 2 < nn ∧ od 2 = s) : 0 ≤ A_plc od s ∧ A_plc od s < (nn : Int) := by
  unfold A_plc
  (repeat' split) <;> omega
theorem G_lw_lt {nn : Nat} {sn : Int → Int} {cT : Int → Nat} {od : Int → Int} {x : A_cd} (hnn : 1 ≤ nn ∧ nn ≤ 3) (hx : P_gok nn sn cT x) (hp : ∀ s, 0 ≤ s → s < (nn : Int) → od 0 = s ∨ 1 < nn ∧ od 1 = s ∨ 2 < nn ∧ od 2 = s) : 0 ≤ A_lw od x ∧ A_lw od x < (nn : Int) := by
  obtain ⟨h1, h2, h3, h4⟩ := hx
  have a := P_gcol_v h1
  have p1 := G_plc_lt hnn (hp ((x.1 - 100) / 10) (by omega) (by omega))
  show 0 ≤ A_low od x.1 x.2.2.1 ∧ A_low od x.1 x.2.2.1 < (nn : Int)
  unfold A_low
  split
  · rcases h3 with h3 | h3
    · have b := P_gcol_v h3
      have p2 := G_plc_lt hnn (hp ((x.2.2.1 - 100) / 10) (by omega) (by omega))
      omega
    · omega
  · exact p1
theorem G_dr_mem {ns : Int} : ∀ (n : Nat) (cs : List A_cd) (x : A_cd), x ∈ A_dr ns n cs → x ∈ cs ∨ A_cf x 3 = ns - 1
  | 0, cs, x, h => Or.inl h
  | n + 1, cs, x, h => by
    simp only [A_dr] at h
    split at h
    · next p _ =>
      rcases G_dr_mem n _ x h with h | h
      · rcases List.mem_append.mp h with h | h
        · exact Or.inl h
        · rw [List.mem_singleton] at h
          subst h
          exact Or.inr rfl
      · exact Or.inr h
    · exact Or.inl h
theorem G_oks {nn : Nat} {sn : Int → Int} {cT : Int → Nat} {cs : List A_cd} (h : ∀ x ∈ cs, P_gok nn sn cT x) : A_oks (nn : Int) cs ∧ A_tks (nn : Int) (G_cl sn cT) cs := by
  refine ⟨fun x hx => P_gok_ok (h x hx), fun x hx => ?_⟩
  obtain ⟨h1, h2, h3, h4⟩ := h x hx
  have a := h1
  obtain ⟨⟨a1, a2, a3, a4⟩, a5⟩ := a
  refine ⟨⟨a1, by show x.1 ≤ 1999; omega, fun _ => ⟨a2, a3, a5⟩⟩, ?_⟩
  rcases h3 with ⟨⟨b1, b2, b3, b4⟩, b5⟩ | h3
  · exact ⟨b1, by show x.2.2.1 ≤ 1999; omega, fun _ => ⟨b2, b3, b5⟩⟩
  · exact ⟨by show 100 ≤ x.2.2.1; omega, h3.2, fun q => by have : x.2.2.1 < 1000 := q; omega⟩
theorem G_Gf_fr {R F : Nat → Prop} {w : P_Lw} {g g' : P_Gl} {τ τ' : P_A} {G : Nat} {gp oi lm nv nv' dr dr' : Int} {sh : P_Sg} (hG : g G = some (1, sh)) (h : G_fr R F g τ g' τ') (hR : ¬ R 1) (hF : ¬ F 0 ∧ ¬ F 1 ∧ ¬ F 8 ∧ ¬ F 9 ∧ ¬ F 10) (h2 : τ' G 2 = dr') (h13 : τ' G 13 = nv') (hf : G_Gf w τ G gp oi lm nv dr) : G_Gf w τ' G gp oi lm nv' dr' := by
  obtain ⟨a0, a1, a2, a8, a9, a10, a13⟩ := hf
  have e : ∀ j, ¬ F j → τ' G j = τ G j := fun j hj => (h _ _ _ hG).2 j (fun _ => hj) hR
  refine ⟨(e 0 hF.1).trans a0, (e 1 hF.2.1).trans a1, h2, (e 8 hF.2.2.1).trans a8, (e 9 hF.2.2.2.1).trans a9, ?_, h13⟩
  rw [e 10 hF.2.2.2.2]
  exact a10
/-- the plan has changed in both worlds -/
theorem G_J_chg {R F : Nat → Prop} {w : P_Lw} {σ σ1 : P_A} {g g1 : P_Gl} {τ τ1 : P_A} {G : Nat} {T : Nat} {tt : Int → Nat} {rT : Int → Nat} {tr : Int → Int → Nat} {cT : Int → Nat} {VV : Int → Int → Int → Int} {S nn : Nat} {sn : Int → Int} {D : Nat} {od : Int → Int} {B : Nat} {cs : List A_cd} {ad : Int → Nat} {I ni : Nat} {gi : Int → Int} {vr : Int → Int → Int} {ki ci : Int → Int} {gp oi lm nv dr : Int} (hJ : G_Jx w σ g τ G T tt rT tr cT VV S nn sn D od B cs ad I ni gi vr ki ci gp oi lm nv dr) {cs1 : List A_cd} {od1 : Int → Int} {nv1 dr1 : Int} {B1 D1 : Nat} {ad1 : Int → Nat} (f1 : A_fch σ σ1) (f2 : A_KL σ1 cs1) (f3 : A_O σ1 (nn : Int) od1) (f4 : σ1 13 5 = nv1) (f5 : σ1 31 16 = 0) (hnv : 0 ≤ nv1 ∧ nv1 ≤ 1) (hf : G_fr R F g τ g1 τ1) (hR : ∀ r, R r → r = 5 ∨ r = 6) (hF : ∀ j, F j → j = 2 ∨ j = 11 ∨ j = 12 ∨ j = 13) (hC : P_gC g1 τ1 G B1 cs1 ad1) (hO : P_gO g1 τ1 G D1 nn od1) (h13 : τ1 G 13 = nv1) (h2 : τ1 G 2 = dr1) (hok : ∀ x ∈ cs1, P_gok nn sn cT x) (hlv : G_lvs nn od1 cs1) : G_J w σ1 g1 τ1 G dr1 := by
  obtain ⟨j1, j2, j3, j4, j5, j6, j7, j8, j9, j10, j11, j12, j13, j14⟩ := hJ
  obtain ⟨b1, b2, b3, b4, b5, b6, b7, b8, b9, b10, b11⟩ := j9
  have nR : ∀ r, r ≠ 5 → r ≠ 6 → ¬ R r := fun r h h' q => by rcases hR r q with e | e; exact h e; exact h' e
  have nF : ∀ j, j ≠ 2 → j ≠ 11 → j ≠ 12 → j ≠ 13 → ¬ F j := fun j a b c d q => by rcases hF j q with e | e | e | e; exact a e; exact b e; exact c e; exact d e
  have e : ∀ a b, a ≠ 13 → ¬ (15 ≤ a ∧ a < 29) → a ≠ 44 → ¬ (a = 31 ∧ b = 16) → σ1 a b = σ a b := fun a b x y z u => f1 a b (fun q => x q.1) y z u
  have hk := G_oks hok
  refine ⟨T, tt, rT, tr, cT, VV, S, nn, sn, D1, od1, B1, cs1, ad1, I, ni, gi, vr, ki, ci, gp, oi, lm, nv1, P_gT_fr hf (fun r a b => nR r (by omega) (by omega)) (nF _ (by omega) (by omega) (by omega) (by omega)) j1, P_gS_fr hf ⟨nR _ (by omega) (by omega), nR _ (by omega) (by omega)⟩ (nF _ (by omega) (by omega) (by omega) (by omega)) j2, hO, hC, P_gI_fr hf ⟨nR _ (by omega) (by omega), nR _ (by omega) (by omega)⟩ (nF _ (by omega) (by omega) (by omega) (by omega)) j5, hok, hlv, G_tab_cg (fun a b h => e a b (by omega) (by omega) (by omega) (by omega)) j8, ⟨A_V_cg (fun a b h => e a b (by omega) (by omega) (by omega) (by omega)) b1, A_X_cg (fun s x y => (b1.2.2 s x y).2.1.1) (fun a b h => e a b (by omega) (by omega) (by omega) (by omega)) b2, A_F_cg (fun a b h h' => e a b (by omega) (by omega) (by omega) (by omega)) b3, f2, f3, hk.1, hk.2, f4, hnv, (e _ _ (by omega) (by omega) (by omega) (by omega)).trans b10, (e _ _ (by omega) (by omega) (by omega) (by omega)).trans b11⟩, j10, j11, G_Gf_fr j1.1.1 hf (nR _ (by omega) (by omega)) ⟨nF _ (by omega) (by omega) (by omega) (by omega), nF _ (by omega) (by omega) (by omega) (by omega), nF _ (by omega) (by omega) (by omega) (by omega), nF _ (by omega) (by omega) (by omega) (by omega), nF _ (by omega) (by omega) (by omega) (by omega)⟩ h2 h13 j12, ?_, Or.inl f5⟩
  rw [e _ _ (by omega) (by omega) (by omega) (by omega)]
  exact j13
theorem G_lv_down {nn : Nat} {od : Int → Int} {y : A_cd} (h : A_lw od y ≤ A_cf y 3 ∧ A_cf y 3 < (nn : Int)) : A_lw od (A_down od y) ≤ A_cf (A_down od y) 3 ∧ A_cf (A_down od y) 3 < (nn : Int) := by
  unfold A_down
  split
  · have e1 : A_lw od (A_lvl y (A_lw od y)) = A_lw od y := rfl
    have e2 : A_cf (A_lvl y (A_lw od y)) 3 = A_lw od y := rfl
    rw [e1, e2]
    omega
  · exact h
theorem g_jrw0 {d : Nat} {w : P_Lw} {σ : P_A} {g : P_Gl} {τ : P_A} {N u : Nat} {Q : P_GQ} {G : Nat} {dr : Int} (hw : P_Cw w) (hJ : G_J w σ g τ G dr) (hdr : 0 ≤ dr ∧ dr ≤ 900000) (q : ∀ σ1 g1 τ1 N1 u1 dr1, u1 ≤ u + 600 → dr ≤ dr1 → dr1 ≤ dr + 4 → G_J w σ1 g1 τ1 G dr1 → Q (.inl (some (P_z 1))) w σ1 g1 τ1 N1 u1) : P_gw (d + 12) 202 0 [.ref G, P_z 0, P_un] [] w σ g τ N u Q := by
  obtain ⟨T, tt, rT, tr, cT, VV, S, nn, sn, D, od, B, cs, ad, I, ni, gi, vr, ki, ci, gp, oi, lm, nv, hJ⟩ := hJ
  obtain ⟨j1, j2, j3, j4, j5, j6, j7, j8, j9, j10, j11, j12, j13, j14⟩ := id hJ
  have hnn := j2.2.2.1
  refine g_rx0 hw j9 j4 j6 j3 j12.2.2.2.2.2.2 hnn j12.1 (fun σ1 g1 τ1 N1 u1 B1 ad1 D1 a1 a2 f1 f2 f3 f4 f5 a6 a7 a8 a9 a10 => q σ1 g1 τ1 N1 u1 dr a2 (by omega) (by omega) (G_J_chg hJ f1 f2 f3 f4 f5 (j9.2.2.2.2.2.2.2.2.1) a6 (fun r h => Or.inl h) (fun j h => by rcases h with h | h; exact Or.inr (Or.inl h); exact Or.inr (Or.inr (Or.inr h))) a7 a8 a9 (((a6 G _ _ j1.1.1).2 2 (fun _ => G_nF5 _ (by omega)) (G_nR5 _ (by omega))).trans j12.2.2.1) a10 (fun x hx => j7 x (List.mem_filter.mp hx).1)))
theorem g_jrw1 {d : Nat} {w : P_Lw} {σ : P_A} {g : P_Gl} {τ : P_A} {N u : Nat} {Q : P_GQ} {G : Nat} {dr : Int} (hw : P_Cw w) (hJ : G_J w σ g τ G dr) (hdr : 0 ≤ dr ∧ dr ≤ 900000) (q : ∀ σ1 g1 τ1 N1 u1 dr1, u1 ≤ u + 600 → dr ≤ dr1 → dr1 ≤ dr + 4 → G_J w σ1 g1 τ1 G dr1 → Q (.inl (some (P_z 1))) w σ1 g1 τ1 N1 u1) : P_gw (d + 12) 202 0 [.ref G, P_z 1, P_un] [] w σ g τ N u Q := by
  obtain ⟨T, tt, rT, tr, cT, VV, S, nn, sn, D, od, B, cs, ad, I, ni, gi, vr, ki, ci, gp, oi, lm, nv, hJ⟩ := hJ
  obtain ⟨j1, j2, j3, j4, j5, j6, j7, j8, j9, j10, j11, j12, j13, j14⟩ := id hJ
  have hnn := j2.2.2.1
  refine g_rx1 hw j9 j4 j6 j3 j12.2.2.2.2.2.2 hnn j12.1 (fun σ1 g1 τ1 N1 u1 B1 ad1 D1 a1 a2 f1 f2 f3 f4 f5 a6 a7 a8 a9 a10 => q σ1 g1 τ1 N1 u1 dr a2 (by omega) (by omega) (G_J_chg hJ f1 f2 f3 f4 f5 (j9.2.2.2.2.2.2.2.2.1) a6 (fun r h => Or.inl h) (fun j h => by rcases h with h | h; exact Or.inr (Or.inl h); exact Or.inr (Or.inr (Or.inr h))) a7 a8 a9 (((a6 G _ _ j1.1.1).2 2 (fun _ => G_nF5 _ (by omega)) (G_nR5 _ (by omega))).trans j12.2.2.1) a10 (fun x hx => by rcases G_dr_mem _ _ x hx with h | h; exact j7 x h; have := G_lw_lt hnn (a10 x hx) j3.2.2.2; omega)))
theorem g_jrw2 {d : Nat} {w : P_Lw} {σ : P_A} {g : P_Gl} {τ : P_A} {N u : Nat} {Q : P_GQ} {G : Nat} {dr : Int} (hw : P_Cw w) (hJ : G_J w σ g τ G dr) (hdr : 0 ≤ dr ∧ dr ≤ 900000) (q : ∀ σ1 g1 τ1 N1 u1 dr1, u1 ≤ u + 600 → dr ≤ dr1 → dr1 ≤ dr + 4 → G_J w σ1 g1 τ1 G dr1 → Q (.inl (some (P_z 1))) w σ1 g1 τ1 N1 u1) : P_gw (d + 12) 202 0 [.ref G, P_z 2, P_un] [] w σ g τ N u Q := by
  obtain ⟨T, tt, rT, tr, cT, VV, S, nn, sn, D, od, B, cs, ad, I, ni, gi, vr, ki, ci, gp, oi, lm, nv, hJ⟩ := hJ
  obtain ⟨j1, j2, j3, j4, j5, j6, j7, j8, j9, j10, j11, j12, j13, j14⟩ := id hJ
  have hnn := j2.2.2.1
  refine g_rx2 hw j9 j4 j6 j3 j12.2.2.2.2.2.2 hnn j12.1 (fun σ1 g1 τ1 N1 u1 B1 ad1 D1 a1 a2 f1 f2 f3 f4 f5 a6 a7 a8 a9 a10 => q σ1 g1 τ1 N1 u1 dr a2 (by omega) (by omega) (G_J_chg hJ f1 f2 f3 f4 f5 (j9.2.2.2.2.2.2.2.2.1) a6 (fun r h => Or.inl h) (fun j h => by rcases h with h | h; exact Or.inr (Or.inl h); exact Or.inr (Or.inr (Or.inr h))) a7 a8 a9 (((a6 G _ _ j1.1.1).2 2 (fun _ => G_nF5 _ (by omega)) (G_nR5 _ (by omega))).trans j12.2.2.1) a10 (fun x hx => by obtain ⟨y, hy, rfl⟩ := List.mem_map.mp hx; exact G_lv_down (j7 y hy))))
theorem g_jrw3 {d : Nat} {w : P_Lw} {σ : P_A} {g : P_Gl} {τ : P_A} {N u : Nat} {Q : P_GQ} {G : Nat} {dr : Int} (hw : P_Cw w) (hJ : G_J w σ g τ G dr) (hdr : 0 ≤ dr ∧ dr ≤ 900000) (q : ∀ σ1 g1 τ1 N1 u1 dr1, u1 ≤ u + 600 → dr ≤ dr1 → dr1 ≤ dr + 4 → G_J w σ1 g1 τ1 G dr1 → Q (.inl (some (P_z 1))) w σ1 g1 τ1 N1 u1) : P_gw (d + 12) 202 0 [.ref G, P_z 3, P_un] [] w σ g τ N u Q := by
  obtain ⟨T, tt, rT, tr, cT, VV, S, nn, sn, D, od, B, cs, ad, I, ni, gi, vr, ki, ci, gp, oi, lm, nv, hJ⟩ := hJ
  obtain ⟨j1, j2, j3, j4, j5, j6, j7, j8, j9, j10, j11, j12, j13, j14⟩ := id hJ
  have hnn := j2.2.2.1
  have hnv := j9.2.2.2.2.2.2.2.2.1
  by_cases h0 : nv = 0
  · refine g_rx3 hw j9 j4 j6 j3 j12.2.2.2.2.2.2 hnn j12.1 h0 (fun σ1 g1 τ1 N1 u1 B1 ad1 D1 a1 a2 f1 f2 f3 f4 f5 a6 a7 a8 a9 a10 => q σ1 g1 τ1 N1 u1 dr a2 (by omega) (by omega) (G_J_chg hJ f1 f2 f3 f4 f5 (A_or_rg) a6 (fun r h => Or.inl h) (fun j h => by rcases h with h | h; exact Or.inr (Or.inl h); exact Or.inr (Or.inr (Or.inr h))) a7 a8 a9 (((a6 G _ _ j1.1.1).2 2 (fun _ => G_nF5 _ (by omega)) (G_nR5 _ (by omega))).trans j12.2.2.1) a10 (j7)))
  · refine g_rx3n hw j9 j4 j6 j3 j12.2.2.2.2.2.2 hnn j12.1 (by omega) (fun σ1 g1 τ1 N1 u1 B1 ad1 D1 a1 a2 f1 f2 f3 f4 f5 a6 a7 a8 a9 a10 => q σ1 g1 τ1 N1 u1 dr a2 (by omega) (by omega) (G_J_chg hJ f1 f2 f3 f4 f5 (by omega) a6 (fun r h => Or.inl h) (fun j h => by rcases h with h | h; exact Or.inr (Or.inl h); exact Or.inr (Or.inr (Or.inr h))) a7 a8 a9 (((a6 G _ _ j1.1.1).2 2 (fun _ => G_nF5 _ (by omega)) (G_nR5 _ (by omega))).trans j12.2.2.1) a10 (j7)))
theorem g_jsw {d : Nat} {w : P_Lw} {σ : P_A} {g : P_Gl} {τ : P_A} {N u : Nat} {Q : P_GQ} {G : Nat} {dr : Int} (hw : P_Cw w) (hJ : G_J w σ g τ G dr) (hdr : 0 ≤ dr ∧ dr ≤ 900000) (q : ∀ σ1 g1 τ1 N1 u1 dr1, u1 ≤ u + 600 → dr ≤ dr1 → dr1 ≤ dr + 4 → G_J w σ1 g1 τ1 G dr1 → Q (.inl (some (P_z 1))) w σ1 g1 τ1 N1 u1) : P_gw (d + 12) 203 0 [.ref G, P_un, P_un, P_un, P_un, P_un, P_un, P_un] [] w σ g τ N u Q := by
  obtain ⟨T, tt, rT, tr, cT, VV, S, nn, sn, D, od, B, cs, ad, I, ni, gi, vr, ki, ci, gp, oi, lm, nv, hJ⟩ := hJ
  obtain ⟨j1, j2, j3, j4, j5, j6, j7, j8, j9, j10, j11, j12, j13, j14⟩ := id hJ
  have hnn := j2.2.2.1
  refine g_swap hw j9 j4 j6 j3 j12.2.2.2.2.2.2 hnn j12.1 j12.2.1 j12.2.2.1 (by omega) (fun a b a0 a1 b0 b1 σ1 τ1 f1 f2 f3 f4 f5 a6 a7 a8 a9 a10 => ?_)
  have hok1 : ∀ x ∈ cs.map (A_up (A_xch od a b)), P_gok nn sn cT x := fun x hx => by
    obtain ⟨y, hy, rfl⟩ := List.mem_map.mp hx
    have h1 := G_lw_lt hnn (j6 y hy) a8.2.2.2
    have h2 := (j6 y hy).2.2.2
    exact G_ok_lvl (j6 y hy) (by have : A_cf y 3 = y.2.2.2 := rfl; omega)
  refine q σ1 g τ1 N u (dr + 1 + 1) (by omega) (by omega) (by omega) (G_J_chg hJ f1 f2 f3 f4 f5 j9.2.2.2.2.2.2.2.2.1 a6 (fun r h => h) (fun j h => h) a7 a8 a9 a10 hok1 (fun x hx => ?_))
  obtain ⟨y, hy, rfl⟩ := List.mem_map.mp hx
  have h1 := G_lw_lt hnn (j6 y hy) a8.2.2.2
  have h2 := j7 y hy
  have e1 : A_lw (A_xch od a b) (A_up (A_xch od a b) y) = A_lw (A_xch od a b) y := rfl
  have e2 : A_cf (A_up (A_xch od a b) y) 3 = max (A_cf y 3) (A_lw (A_xch od a b) y) := rfl
  rw [e1, e2]
  omega
theorem g_jbs {d : Nat} {w : P_Lw} {σ : P_A} {g : P_Gl} {τ : P_A} {N u : Nat} {Q : P_GQ} {G : Nat} {dr : Int} (hw : P_Cw w) (hJ : G_J w σ g τ G dr) (hdr : 0 ≤ dr ∧ dr ≤ 900000) (q : ∀ σ1 g1 τ1 N1 u1 dr1, u1 ≤ u + 600 → dr ≤ dr1 → dr1 ≤ dr + 4 → G_J w σ1 g1 τ1 G dr1 → Q (.inl (some (P_z 1))) w σ1 g1 τ1 N1 u1) : P_gw (d + 13) 204 0 [.ref G, P_un, P_un, P_un, P_un, P_un, P_un, P_un, P_un, P_un, P_un, P_un, P_un] [] w σ g τ N u Q := by
  obtain ⟨T, tt, rT, tr, cT, VV, S, nn, sn, D, od, B, cs, ad, I, ni, gi, vr, ki, ci, gp, oi, lm, nv, hJ⟩ := hJ
  obtain ⟨j1, j2, j3, j4, j5, j6, j7, j8, j9, j10, j11, j12, j13, j14⟩ := id hJ
  have hnn := j2.2.2.1
  refine g_bsx j1 j2 j3 j4 j6 hw j9 j10 j12.2.2.2.2.2.2 j9.2.2.2.2.2.2.2.2.1 j12.1 (fun s hs σ1 g1 τ1 u1 D1 a2 f1 f2 f3 f4 f5 a6 a7 a8 => ?_)
  refine q σ1 g1 τ1 _ u1 dr (by omega) (by omega) (by omega) (G_J_chg hJ f1 f2 f3 f4 f5 j9.2.2.2.2.2.2.2.2.1 a6 (fun r h => Or.inl h) (fun j h => Or.inr (Or.inr (Or.inl h))) a7 a8 (((a6 G _ _ j1.1.1).2 13 (fun _ => by unfold G_12; omega) (G_nR5 _ (by omega))).trans j12.2.2.2.2.2.2) (((a6 G _ _ j1.1.1).2 2 (fun _ => by unfold G_12; omega) (G_nR5 _ (by omega))).trans j12.2.2.1) (G_ok_lows j6) (fun x hx => ?_))
  obtain ⟨y, hy, rfl⟩ := List.mem_map.mp hx
  have h1 := G_lw_lt hnn (j6 y hy) a8.2.2.2
  exact ⟨Int.le_refl _, h1.2⟩
