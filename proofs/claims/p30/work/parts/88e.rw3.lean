/-! the law's own methods, written by wip/g1.py: 88e.rw3 -/
theorem G_nv_t {cs : List A_cd} (h : (∃ y ∈ cs, A_odd y = true) ∨ ∃ y ∈ cs, ∃ x ∈ cs, A_cxb y x = true) : A_nv [] cs = true := by
  cases e : A_nv [] cs with
  | true => rfl
  | false =>
    have hf := G_nv_f cs [] e
    rcases h with ⟨y, hy, h1⟩ | ⟨y, hy, x, hx, h1⟩
    · rw [(hf y hy).1] at h1; cases h1
    · rw [(hf y hy).2 x hx] at h1; cases h1
def G_0 (_ : Nat) : Prop := False
def G_13 (j : Nat) : Prop := j = 13
theorem G_fr_13 {g g1 : P_Gl} {τ τ1 : P_A} (h : G_fr G_0 G_13 g τ g1 τ1) : G_fr G_R G_F2 g τ g1 τ1 := G_fr_le (fun _ h => h.elim) (fun r h => Or.inr (Or.inr (Or.inr h))) h
theorem g_rw3 {d : Nat} {w : P_Lw} {σ : P_A} {g : P_Gl} {τ : P_A} {N u : Nat} {Q : P_GQ} {G nn : Nat} {sn : Int → Int} {cT : Int → Nat} {cs : List A_cd} {od : Int → Int} {tb : Int → Nat} {rw : Int → Int} {vr : Int → Int → Int} {cl : Int → Int} {V : Int → Int → Int → Int} {it : Int} {ki ci : Int → Int} {gp oi lm nv : Int} (hw : P_Cw w) (hB : A_B w σ (nn : Int) tb rw vr cl V cs od it ki ci gp oi lm nv) {B D : Nat} {ad : Int → Nat} (hC : P_gC g τ G B cs ad) (hok : ∀ x ∈ cs, P_gok nn sn cT x) (hO : P_gO g τ G D nn od) (h13 : τ G 13 = nv) (hnn : 1 ≤ nn ∧ nn ≤ 3) (h0 : τ G 0 = ((w.2.2 0 : Nat) : Int)) (hnv : nv = 0) (q : ∀ σ1 g1 τ1 N1 u1 B1 ad1 D1, N ≤ N1 → u1 ≤ u + 600 → A_fch σ σ1 → A_KL σ1 cs → A_O σ1 (nn : Int) od → σ1 13 5 = (A_or 0 (A_nv [] cs)) → σ1 31 16 = 0 → G_fr G_R G_F2 g τ g1 τ1 → P_gC g1 τ1 G B1 cs ad1 → P_gO g1 τ1 G D1 nn od → τ1 G 13 = (A_or 0 (A_nv [] cs)) → (∀ x ∈ cs, P_gok nn sn cT x) → Q (.inl (some (P_z 1))) w σ1 g1 τ1 N1 u1) : P_gw (d + 12) 202 0 [.ref G, P_z 3, P_un] [] w σ g τ N u Q := by
  have hcl := hC.2.2.1
  refine P_gw_op (L' := [.ref G, P_z 3, P_un]) (st' := [P_z 0]) P_i202_0 rfl (show P_gw _ _ 1 [.ref G, P_z 3, P_un] [P_z 0] _ _ _ _ _ _ _ from ?_)
  refine P_gw_op (L' := [.ref G, P_z 3, P_z 0]) (st' := []) P_i202_1 rfl (show P_gw _ _ 2 [.ref G, P_z 3, P_z 0] [] _ _ _ _ _ _ _ from ?_)
  refine P_gw_op (L' := [.ref G, P_z 3, P_z 0]) (st' := [.ref G]) P_i202_2 rfl (show P_gw _ _ 3 [.ref G, P_z 3, P_z 0] [.ref G] _ _ _ _ _ _ _ from ?_)
  refine P_gw_op (L' := [.ref G, P_z 3, P_z 0]) (st' := [P_z 3, .ref G]) P_i202_3 rfl (show P_gw _ _ 4 [.ref G, P_z 3, P_z 0] [P_z 3, .ref G] _ _ _ _ _ _ _ from ?_)
  refine P_gw_call P_i202_4 rfl rfl (fun _ => rfl) rfl rfl rfl rfl (y2 := 201) (as := [.ref G, P_z 3]) (r0 := []) (P_ginv_v (hC.1.1) rfl rfl) (Nat.le_of_ble_eq_true rfl) (by decide) rfl (Nat.le_of_ble_eq_true rfl) (g_on3 hC hok (h13.trans hnv) (fun hy => ?_) (fun hk => ?_))
  · show P_gw _ _ 7 [.ref G, P_z 3, P_z 0] [P_z 1] _ _ _ _ _ _ _
    refine P_gw_izf P_i202_7 ⟨by decide, by decide⟩ (P_ci_eqf (by omega)) (show P_gw _ _ 10 [.ref G, P_z 3, P_z 0] [] _ _ _ _ _ _ _ from ?_)
    refine P_gw_op (L' := [.ref G, P_z 3, P_z 1]) (st' := []) P_i202_10 (P_o_iincv (x := 0) rfl (by decide)) (show P_gw _ _ 13 [.ref G, P_z 3, P_z 1] [] _ _ _ _ _ _ _ from ?_)
    refine P_gw_goto P_i202_13 (show P_gw _ _ 2 [.ref G, P_z 3, P_z 1] [] _ _ _ _ _ _ _ from ?_)
    refine P_gw_op (L' := [.ref G, P_z 3, P_z 1]) (st' := [.ref G]) P_i202_2 rfl (show P_gw _ _ 3 [.ref G, P_z 3, P_z 1] [.ref G] _ _ _ _ _ _ _ from ?_)
    refine P_gw_op (L' := [.ref G, P_z 3, P_z 1]) (st' := [P_z 3, .ref G]) P_i202_3 rfl (show P_gw _ _ 4 [.ref G, P_z 3, P_z 1] [P_z 3, .ref G] _ _ _ _ _ _ _ from ?_)
    have hfr : G_fr G_0 G_13 g τ g (P_u2 τ G 13 1) := G_fr_f hC.1.1 rfl
    have hC2 := P_gC_fr hfr ⟨id, id, id⟩ (by unfold G_13; omega) hC
    refine P_gw_call P_i202_4 rfl rfl (fun _ => rfl) rfl rfl rfl rfl (y2 := 201) (as := [.ref G, P_z 3]) (r0 := []) (P_ginv_v (hC.1.1) rfl rfl) (Nat.le_of_ble_eq_true rfl) (by decide) rfl (Nat.le_of_ble_eq_true rfl) (g_on3z hC2 hok P_u2_at ?_)
    show P_gw _ _ 7 [.ref G, P_z 3, P_z 1] [P_z 0] _ _ _ _ _ _ _
    refine P_gw_izt P_i202_7 ⟨by decide, by decide⟩ (P_ci_eqt (by omega)) (show P_gw _ _ 16 [.ref G, P_z 3, P_z 1] [] _ _ _ _ _ _ _ from ?_)
    have hnt := G_nv_t hy
    exact g_rt3 hw hB hC2.1.1 ((P_u2_ne (by omega)).trans h0) hnv (mn := 1) (by rw [hnt, A_or_t]) (by omega) (fun σ1 f1 f2 f3 f4 f5 => q σ1 g (P_u2 τ G 13 1) N u B ad D (by omega) (by omega) f1 f2 f3 f4 f5 (G_fr_13 hfr) hC2 (P_gO_fr hfr ⟨id, id⟩ (by unfold G_13; omega) hO) (P_u2_at.trans (by rw [hnt, A_or_t])) hok)
  · show P_gw _ _ 7 [.ref G, P_z 3, P_z 0] [P_z 0] _ _ _ _ _ _ _
    refine P_gw_izt P_i202_7 ⟨by decide, by decide⟩ (P_ci_eqt (by omega)) (show P_gw _ _ 16 [.ref G, P_z 3, P_z 0] [] _ _ _ _ _ _ _ from ?_)
    have hnt : A_nv [] cs = false := G_nv_n cs [] hk
    exact g_rt3 hw hB hC.1.1 h0 hnv (mn := 0) (by rw [hnt]; rfl) (by omega) (fun σ1 f1 f2 f3 f4 f5 => q σ1 g τ N u B ad D (by omega) (by omega) f1 f2 f3 f4 f5 G_fr_rf hC hO ((h13.trans hnv).trans (by rw [hnt]; rfl)) hok)

theorem g_rw3n {d : Nat} {w : P_Lw} {σ : P_A} {g : P_Gl} {τ : P_A} {N u : Nat} {Q : P_GQ} {G nn : Nat} {sn : Int → Int} {cT : Int → Nat} {cs : List A_cd} {od : Int → Int} {tb : Int → Nat} {rw : Int → Int} {vr : Int → Int → Int} {cl : Int → Int} {V : Int → Int → Int → Int} {it : Int} {ki ci : Int → Int} {gp oi lm nv : Int} (hw : P_Cw w) (hB : A_B w σ (nn : Int) tb rw vr cl V cs od it ki ci gp oi lm nv) {B D : Nat} {ad : Int → Nat} (hC : P_gC g τ G B cs ad) (hok : ∀ x ∈ cs, P_gok nn sn cT x) (hO : P_gO g τ G D nn od) (h13 : τ G 13 = nv) (hnn : 1 ≤ nn ∧ nn ≤ 3) (h0 : τ G 0 = ((w.2.2 0 : Nat) : Int)) (hnv : nv = 1) (q : ∀ σ1 g1 τ1 N1 u1 B1 ad1 D1, N ≤ N1 → u1 ≤ u + 600 → A_fch σ σ1 → A_KL σ1 cs → A_O σ1 (nn : Int) od → σ1 13 5 = 1 → σ1 31 16 = 0 → G_fr G_R G_F2 g τ g1 τ1 → P_gC g1 τ1 G B1 cs ad1 → P_gO g1 τ1 G D1 nn od → τ1 G 13 = 1 → (∀ x ∈ cs, P_gok nn sn cT x) → Q (.inl (some (P_z 1))) w σ1 g1 τ1 N1 u1) : P_gw (d + 12) 202 0 [.ref G, P_z 3, P_un] [] w σ g τ N u Q := by
  have hcl := hC.2.2.1
  refine P_gw_op (L' := [.ref G, P_z 3, P_un]) (st' := [P_z 0]) P_i202_0 rfl (show P_gw _ _ 1 [.ref G, P_z 3, P_un] [P_z 0] _ _ _ _ _ _ _ from ?_)
  refine P_gw_op (L' := [.ref G, P_z 3, P_z 0]) (st' := []) P_i202_1 rfl (show P_gw _ _ 2 [.ref G, P_z 3, P_z 0] [] _ _ _ _ _ _ _ from ?_)
  refine P_gw_op (L' := [.ref G, P_z 3, P_z 0]) (st' := [.ref G]) P_i202_2 rfl (show P_gw _ _ 3 [.ref G, P_z 3, P_z 0] [.ref G] _ _ _ _ _ _ _ from ?_)
  refine P_gw_op (L' := [.ref G, P_z 3, P_z 0]) (st' := [P_z 3, .ref G]) P_i202_3 rfl (show P_gw _ _ 4 [.ref G, P_z 3, P_z 0] [P_z 3, .ref G] _ _ _ _ _ _ _ from ?_)
  refine P_gw_call P_i202_4 rfl rfl (fun _ => rfl) rfl rfl rfl rfl (y2 := 201) (as := [.ref G, P_z 3]) (r0 := []) (P_ginv_v (hC.1.1) rfl rfl) (Nat.le_of_ble_eq_true rfl) (by decide) rfl (Nat.le_of_ble_eq_true rfl) (g_on3z hC hok (h13.trans hnv) ?_)
  show P_gw _ _ 7 [.ref G, P_z 3, P_z 0] [P_z 0] _ _ _ _ _ _ _
  refine P_gw_izt P_i202_7 ⟨by decide, by decide⟩ (P_ci_eqt (by omega)) (show P_gw _ _ 16 [.ref G, P_z 3, P_z 0] [] _ _ _ _ _ _ _ from ?_)
  exact g_rt3n hw hB hC.1.1 h0 hnv (mn := 0) rfl (by omega) (fun σ1 f1 f2 f3 f4 f5 => q σ1 g τ N u B ad D (by omega) (by omega) f1 f2 f3 f4 f5 G_fr_rf hC hO (h13.trans hnv) hok)
