/-! the law's own methods, written by wip/g1.py: 88d.rw -/
def G_R (r : Nat) : Prop := r = 5 ∨ r = 6
def G_F2 (j : Nat) : Prop := j = 2 ∨ j = 11 ∨ j = 12 ∨ j = 13
theorem G_fr_5 {g g1 : P_Gl} {τ τ1 : P_A} (h : G_fr G_R5 G_F g τ g1 τ1) : G_fr G_R G_F2 g τ g1 τ1 := G_fr_le (fun _ h => Or.inl h) (fun r h => by unfold G_F at h; unfold G_F2; omega) h
theorem G_nR (r : Nat) (h : r ≠ 5 ∧ r ≠ 6) : ¬ G_R r := by unfold G_R; omega
theorem G_nF (j : Nat) (h : j ≠ 2 ∧ j ≠ 11 ∧ j ≠ 12 ∧ j ≠ 13) : ¬ G_F2 j := by unfold G_F2; omega
theorem G_dr_len {ns : Int} : ∀ (n : Nat) (cs : List A_cd), cs.length ≤ (A_dr ns n cs).length
  | 0, cs => Nat.le_refl _
  | n + 1, cs => by
    simp only [A_dr]
    split
    · next p _ =>
      have := G_dr_len (ns := ns) n (cs ++ [A_new ns p.1 p.2])
      rw [List.length_append] at this
      omega
    · exact Nat.le_refl _
theorem G_nR5 (r : Nat) (h : r ≠ 5) : ¬ G_R5 r := h
theorem G_nF5 (j : Nat) (h : j ≠ 11 ∧ j ≠ 13) : ¬ G_F j := by unfold G_F; omega
theorem g_rt0 {d : Nat} {w : P_Lw} {σ : P_A} {g : P_Gl} {τ : P_A} {N u : Nat} {Q : P_GQ} {G nn : Nat} {cs : List A_cd} {od : Int → Int} {tb : Int → Nat} {rw : Int → Int} {vr : Int → Int → Int} {cl : Int → Int} {V : Int → Int → Int → Int} {it : Int} {ki ci : Int → Int} {gp oi lm nv : Int} (hw : P_Cw w) (hB : A_B w σ (nn : Int) tb rw vr cl V cs od it ki ci gp oi lm nv) (hG : g G = some (1, .inl (11, [true, true, false, true, true, true, true, true, false, false, false, true, true, false, false, false]))) (h0 : τ G 0 = ((w.2.2 0 : Nat) : Int))  {mn : Int} (hmn : mn = ((cs.length : Int) - ((cs.filter A_keep).length : Int))) (hmr : 0 ≤ mn ∧ mn ≤ 100) (q : ∀ σ1, A_fch σ σ1 → A_KL σ1 (cs.filter A_keep) → A_O σ1 (nn : Int) od → σ1 13 5 = nv → σ1 31 16 = 0 → Q (.inl (some (P_z 1))) w σ1 g τ N u) : P_gw (d + 12) 202 16 [.ref G, P_z 0, P_z mn] [] w σ g τ N u Q := by
  refine P_gw_op (L' := [.ref G, P_z 0, P_z mn]) (st' := [.ref G]) P_i202_16 rfl (show P_gw _ _ 17 [.ref G, P_z 0, P_z mn] [.ref G] _ _ _ _ _ _ _ from ?_)
  refine P_gw_getR (P_i202_17) (hG) rfl rfl (h0) (show P_gw _ _ 20 [.ref G, P_z 0, P_z mn] [.ref (w.2.2 0)] _ _ _ _ _ _ _ from ?_)
  refine P_gw_op (L' := [.ref G, P_z 0, P_z mn]) (st' := [P_z 0, .ref (w.2.2 0)]) P_i202_20 rfl (show P_gw _ _ 21 [.ref G, P_z 0, P_z mn] [P_z 0, .ref (w.2.2 0)] _ _ _ _ _ _ _ from ?_)
  refine P_gw_cls P_i202_21 rfl rfl (fun _ => rfl) rfl rfl rfl rfl (y2 := 147) (as := [.ref (w.2.2 0), P_z 0]) (r0 := []) (P_inv_v (hw.2.1 0 (by decide)) (hw.s rfl) rfl rfl) (Nat.le_of_ble_eq_true rfl) (by decide) rfl (Nat.le_of_ble_eq_true rfl) (s_rw0 hw hB (fun σ1 f1 f2 f3 f4 f5 => ?_))
  show P_gw _ _ 24 [.ref G, P_z 0, P_z mn] [P_z ((cs.length : Int) - ((cs.filter A_keep).length : Int))] _ _ _ _ _ _ _
  refine P_gw_op (L' := [.ref G, P_z 0, P_z mn]) (st' := [P_z mn, P_z ((cs.length : Int) - ((cs.filter A_keep).length : Int))]) P_i202_24 rfl (show P_gw _ _ 25 [.ref G, P_z 0, P_z mn] [P_z mn, P_z ((cs.length : Int) - ((cs.filter A_keep).length : Int))] _ _ _ _ _ _ _ from ?_)
  refine P_gw_icf P_i202_25 ⟨by omega, by omega⟩ ⟨by omega, by omega⟩ (P_ci_nef (by omega)) (show P_gw _ _ 28 [.ref G, P_z 0, P_z mn] [] _ _ _ _ _ _ _ from ?_)
  refine P_gw_op (L' := [.ref G, P_z 0, P_z mn]) (st' := [P_z 1]) P_i202_28 rfl (show P_gw _ _ 29 [.ref G, P_z 0, P_z mn] [P_z 1] _ _ _ _ _ _ _ from ?_)
  refine P_gw_goto P_i202_29 (show P_gw _ _ 33 [.ref G, P_z 0, P_z mn] [P_z 1] _ _ _ _ _ _ _ from ?_)
  refine P_gw_end P_i202_33 rfl rfl (fun _ => rfl) rfl ?_
  exact q σ1 f1 f2 f3 f4 f5

theorem g_rt1 {d : Nat} {w : P_Lw} {σ : P_A} {g : P_Gl} {τ : P_A} {N u : Nat} {Q : P_GQ} {G nn : Nat} {cs : List A_cd} {od : Int → Int} {tb : Int → Nat} {rw : Int → Int} {vr : Int → Int → Int} {cl : Int → Int} {V : Int → Int → Int → Int} {it : Int} {ki ci : Int → Int} {gp oi lm nv : Int} (hw : P_Cw w) (hB : A_B w σ (nn : Int) tb rw vr cl V cs od it ki ci gp oi lm nv) (hG : g G = some (1, .inl (11, [true, true, false, true, true, true, true, true, false, false, false, true, true, false, false, false]))) (h0 : τ G 0 = ((w.2.2 0 : Nat) : Int))  {mn : Int} (hmn : mn = (((A_dr (nn : Int) (12 - cs.length) cs).length : Int) - (cs.length : Int))) (hmr : 0 ≤ mn ∧ mn ≤ 100) (q : ∀ σ1, A_fch σ σ1 → A_KL σ1 (A_dr (nn : Int) (12 - cs.length) cs) → A_O σ1 (nn : Int) od → σ1 13 5 = nv → σ1 31 16 = 0 → Q (.inl (some (P_z 1))) w σ1 g τ N u) : P_gw (d + 12) 202 16 [.ref G, P_z 1, P_z mn] [] w σ g τ N u Q := by
  refine P_gw_op (L' := [.ref G, P_z 1, P_z mn]) (st' := [.ref G]) P_i202_16 rfl (show P_gw _ _ 17 [.ref G, P_z 1, P_z mn] [.ref G] _ _ _ _ _ _ _ from ?_)
  refine P_gw_getR (P_i202_17) (hG) rfl rfl (h0) (show P_gw _ _ 20 [.ref G, P_z 1, P_z mn] [.ref (w.2.2 0)] _ _ _ _ _ _ _ from ?_)
  refine P_gw_op (L' := [.ref G, P_z 1, P_z mn]) (st' := [P_z 1, .ref (w.2.2 0)]) P_i202_20 rfl (show P_gw _ _ 21 [.ref G, P_z 1, P_z mn] [P_z 1, .ref (w.2.2 0)] _ _ _ _ _ _ _ from ?_)
  refine P_gw_cls P_i202_21 rfl rfl (fun _ => rfl) rfl rfl rfl rfl (y2 := 147) (as := [.ref (w.2.2 0), P_z 1]) (r0 := []) (P_inv_v (hw.2.1 0 (by decide)) (hw.s rfl) rfl rfl) (Nat.le_of_ble_eq_true rfl) (by decide) rfl (Nat.le_of_ble_eq_true rfl) (s_rw1 hw hB (fun σ1 f1 f2 f3 f4 f5 => ?_))
  show P_gw _ _ 24 [.ref G, P_z 1, P_z mn] [P_z (((A_dr (nn : Int) (12 - cs.length) cs).length : Int) - (cs.length : Int))] _ _ _ _ _ _ _
  refine P_gw_op (L' := [.ref G, P_z 1, P_z mn]) (st' := [P_z mn, P_z (((A_dr (nn : Int) (12 - cs.length) cs).length : Int) - (cs.length : Int))]) P_i202_24 rfl (show P_gw _ _ 25 [.ref G, P_z 1, P_z mn] [P_z mn, P_z (((A_dr (nn : Int) (12 - cs.length) cs).length : Int) - (cs.length : Int))] _ _ _ _ _ _ _ from ?_)
  refine P_gw_icf P_i202_25 ⟨by omega, by omega⟩ ⟨by omega, by omega⟩ (P_ci_nef (by omega)) (show P_gw _ _ 28 [.ref G, P_z 1, P_z mn] [] _ _ _ _ _ _ _ from ?_)
  refine P_gw_op (L' := [.ref G, P_z 1, P_z mn]) (st' := [P_z 1]) P_i202_28 rfl (show P_gw _ _ 29 [.ref G, P_z 1, P_z mn] [P_z 1] _ _ _ _ _ _ _ from ?_)
  refine P_gw_goto P_i202_29 (show P_gw _ _ 33 [.ref G, P_z 1, P_z mn] [P_z 1] _ _ _ _ _ _ _ from ?_)
  refine P_gw_end P_i202_33 rfl rfl (fun _ => rfl) rfl ?_
  exact q σ1 f1 f2 f3 f4 f5

theorem g_rt2 {d : Nat} {w : P_Lw} {σ : P_A} {g : P_Gl} {τ : P_A} {N u : Nat} {Q : P_GQ} {G nn : Nat} {cs : List A_cd} {od : Int → Int} {tb : Int → Nat} {rw : Int → Int} {vr : Int → Int → Int} {cl : Int → Int} {V : Int → Int → Int → Int} {it : Int} {ki ci : Int → Int} {gp oi lm nv : Int} (hw : P_Cw w) (hB : A_B w σ (nn : Int) tb rw vr cl V cs od it ki ci gp oi lm nv) (hG : g G = some (1, .inl (11, [true, true, false, true, true, true, true, true, false, false, false, true, true, false, false, false]))) (h0 : τ G 0 = ((w.2.2 0 : Nat) : Int))  {mn : Int} (hmn : mn = (A_nd od cs)) (hmr : 0 ≤ mn ∧ mn ≤ 100) (q : ∀ σ1, A_fch σ σ1 → A_KL σ1 (cs.map (A_down od)) → A_O σ1 (nn : Int) od → σ1 13 5 = nv → σ1 31 16 = 0 → Q (.inl (some (P_z 1))) w σ1 g τ N u) : P_gw (d + 12) 202 16 [.ref G, P_z 2, P_z mn] [] w σ g τ N u Q := by
  refine P_gw_op (L' := [.ref G, P_z 2, P_z mn]) (st' := [.ref G]) P_i202_16 rfl (show P_gw _ _ 17 [.ref G, P_z 2, P_z mn] [.ref G] _ _ _ _ _ _ _ from ?_)
  refine P_gw_getR (P_i202_17) (hG) rfl rfl (h0) (show P_gw _ _ 20 [.ref G, P_z 2, P_z mn] [.ref (w.2.2 0)] _ _ _ _ _ _ _ from ?_)
  refine P_gw_op (L' := [.ref G, P_z 2, P_z mn]) (st' := [P_z 2, .ref (w.2.2 0)]) P_i202_20 rfl (show P_gw _ _ 21 [.ref G, P_z 2, P_z mn] [P_z 2, .ref (w.2.2 0)] _ _ _ _ _ _ _ from ?_)
  refine P_gw_cls P_i202_21 rfl rfl (fun _ => rfl) rfl rfl rfl rfl (y2 := 147) (as := [.ref (w.2.2 0), P_z 2]) (r0 := []) (P_inv_v (hw.2.1 0 (by decide)) (hw.s rfl) rfl rfl) (Nat.le_of_ble_eq_true rfl) (by decide) rfl (Nat.le_of_ble_eq_true rfl) (s_rw2 hw hB (fun σ1 f1 f2 f3 f4 f5 => ?_))
  show P_gw _ _ 24 [.ref G, P_z 2, P_z mn] [P_z (A_nd od cs)] _ _ _ _ _ _ _
  refine P_gw_op (L' := [.ref G, P_z 2, P_z mn]) (st' := [P_z mn, P_z (A_nd od cs)]) P_i202_24 rfl (show P_gw _ _ 25 [.ref G, P_z 2, P_z mn] [P_z mn, P_z (A_nd od cs)] _ _ _ _ _ _ _ from ?_)
  refine P_gw_icf P_i202_25 ⟨by omega, by omega⟩ ⟨by omega, by omega⟩ (P_ci_nef (by omega)) (show P_gw _ _ 28 [.ref G, P_z 2, P_z mn] [] _ _ _ _ _ _ _ from ?_)
  refine P_gw_op (L' := [.ref G, P_z 2, P_z mn]) (st' := [P_z 1]) P_i202_28 rfl (show P_gw _ _ 29 [.ref G, P_z 2, P_z mn] [P_z 1] _ _ _ _ _ _ _ from ?_)
  refine P_gw_goto P_i202_29 (show P_gw _ _ 33 [.ref G, P_z 2, P_z mn] [P_z 1] _ _ _ _ _ _ _ from ?_)
  refine P_gw_end P_i202_33 rfl rfl (fun _ => rfl) rfl ?_
  exact q σ1 f1 f2 f3 f4 f5

theorem g_rt3 {d : Nat} {w : P_Lw} {σ : P_A} {g : P_Gl} {τ : P_A} {N u : Nat} {Q : P_GQ} {G nn : Nat} {cs : List A_cd} {od : Int → Int} {tb : Int → Nat} {rw : Int → Int} {vr : Int → Int → Int} {cl : Int → Int} {V : Int → Int → Int → Int} {it : Int} {ki ci : Int → Int} {gp oi lm nv : Int} (hw : P_Cw w) (hB : A_B w σ (nn : Int) tb rw vr cl V cs od it ki ci gp oi lm nv) (hG : g G = some (1, .inl (11, [true, true, false, true, true, true, true, true, false, false, false, true, true, false, false, false]))) (h0 : τ G 0 = ((w.2.2 0 : Nat) : Int)) (hnv : nv = 0) {mn : Int} (hmn : mn = (A_or 0 (A_nv [] cs))) (hmr : 0 ≤ mn ∧ mn ≤ 100) (q : ∀ σ1, A_fch σ σ1 → A_KL σ1 cs → A_O σ1 (nn : Int) od → σ1 13 5 = (A_or 0 (A_nv [] cs)) → σ1 31 16 = 0 → Q (.inl (some (P_z 1))) w σ1 g τ N u) : P_gw (d + 12) 202 16 [.ref G, P_z 3, P_z mn] [] w σ g τ N u Q := by
  refine P_gw_op (L' := [.ref G, P_z 3, P_z mn]) (st' := [.ref G]) P_i202_16 rfl (show P_gw _ _ 17 [.ref G, P_z 3, P_z mn] [.ref G] _ _ _ _ _ _ _ from ?_)
  refine P_gw_getR (P_i202_17) (hG) rfl rfl (h0) (show P_gw _ _ 20 [.ref G, P_z 3, P_z mn] [.ref (w.2.2 0)] _ _ _ _ _ _ _ from ?_)
  refine P_gw_op (L' := [.ref G, P_z 3, P_z mn]) (st' := [P_z 3, .ref (w.2.2 0)]) P_i202_20 rfl (show P_gw _ _ 21 [.ref G, P_z 3, P_z mn] [P_z 3, .ref (w.2.2 0)] _ _ _ _ _ _ _ from ?_)
  refine P_gw_cls P_i202_21 rfl rfl (fun _ => rfl) rfl rfl rfl rfl (y2 := 147) (as := [.ref (w.2.2 0), P_z 3]) (r0 := []) (P_inv_v (hw.2.1 0 (by decide)) (hw.s rfl) rfl rfl) (Nat.le_of_ble_eq_true rfl) (by decide) rfl (Nat.le_of_ble_eq_true rfl) (s_rw3 hw hB hnv (fun σ1 f1 f2 f3 f4 f5 => ?_))
  show P_gw _ _ 24 [.ref G, P_z 3, P_z mn] [P_z (A_or 0 (A_nv [] cs))] _ _ _ _ _ _ _
  refine P_gw_op (L' := [.ref G, P_z 3, P_z mn]) (st' := [P_z mn, P_z (A_or 0 (A_nv [] cs))]) P_i202_24 rfl (show P_gw _ _ 25 [.ref G, P_z 3, P_z mn] [P_z mn, P_z (A_or 0 (A_nv [] cs))] _ _ _ _ _ _ _ from ?_)
  refine P_gw_icf P_i202_25 ⟨by omega, by omega⟩ ⟨by omega, by omega⟩ (P_ci_nef (by omega)) (show P_gw _ _ 28 [.ref G, P_z 3, P_z mn] [] _ _ _ _ _ _ _ from ?_)
  refine P_gw_op (L' := [.ref G, P_z 3, P_z mn]) (st' := [P_z 1]) P_i202_28 rfl (show P_gw _ _ 29 [.ref G, P_z 3, P_z mn] [P_z 1] _ _ _ _ _ _ _ from ?_)
  refine P_gw_goto P_i202_29 (show P_gw _ _ 33 [.ref G, P_z 3, P_z mn] [P_z 1] _ _ _ _ _ _ _ from ?_)
  refine P_gw_end P_i202_33 rfl rfl (fun _ => rfl) rfl ?_
  exact q σ1 f1 f2 f3 f4 f5

theorem g_rt3n {d : Nat} {w : P_Lw} {σ : P_A} {g : P_Gl} {τ : P_A} {N u : Nat} {Q : P_GQ} {G nn : Nat} {cs : List A_cd} {od : Int → Int} {tb : Int → Nat} {rw : Int → Int} {vr : Int → Int → Int} {cl : Int → Int} {V : Int → Int → Int → Int} {it : Int} {ki ci : Int → Int} {gp oi lm nv : Int} (hw : P_Cw w) (hB : A_B w σ (nn : Int) tb rw vr cl V cs od it ki ci gp oi lm nv) (hG : g G = some (1, .inl (11, [true, true, false, true, true, true, true, true, false, false, false, true, true, false, false, false]))) (h0 : τ G 0 = ((w.2.2 0 : Nat) : Int)) (hnv : nv = 1) {mn : Int} (hmn : mn = 0) (hmr : 0 ≤ mn ∧ mn ≤ 100) (q : ∀ σ1, A_fch σ σ1 → A_KL σ1 cs → A_O σ1 (nn : Int) od → σ1 13 5 = 1 → σ1 31 16 = 0 → Q (.inl (some (P_z 1))) w σ1 g τ N u) : P_gw (d + 12) 202 16 [.ref G, P_z 3, P_z mn] [] w σ g τ N u Q := by
  refine P_gw_op (L' := [.ref G, P_z 3, P_z mn]) (st' := [.ref G]) P_i202_16 rfl (show P_gw _ _ 17 [.ref G, P_z 3, P_z mn] [.ref G] _ _ _ _ _ _ _ from ?_)
  refine P_gw_getR (P_i202_17) (hG) rfl rfl (h0) (show P_gw _ _ 20 [.ref G, P_z 3, P_z mn] [.ref (w.2.2 0)] _ _ _ _ _ _ _ from ?_)
  refine P_gw_op (L' := [.ref G, P_z 3, P_z mn]) (st' := [P_z 3, .ref (w.2.2 0)]) P_i202_20 rfl (show P_gw _ _ 21 [.ref G, P_z 3, P_z mn] [P_z 3, .ref (w.2.2 0)] _ _ _ _ _ _ _ from ?_)
  refine P_gw_cls P_i202_21 rfl rfl (fun _ => rfl) rfl rfl rfl rfl (y2 := 147) (as := [.ref (w.2.2 0), P_z 3]) (r0 := []) (P_inv_v (hw.2.1 0 (by decide)) (hw.s rfl) rfl rfl) (Nat.le_of_ble_eq_true rfl) (by decide) rfl (Nat.le_of_ble_eq_true rfl) (s_rw3n hw hB hnv (fun σ1 f1 f2 f3 f4 f5 => ?_))
  show P_gw _ _ 24 [.ref G, P_z 3, P_z mn] [P_z 0] _ _ _ _ _ _ _
  refine P_gw_op (L' := [.ref G, P_z 3, P_z mn]) (st' := [P_z mn, P_z 0]) P_i202_24 rfl (show P_gw _ _ 25 [.ref G, P_z 3, P_z mn] [P_z mn, P_z 0] _ _ _ _ _ _ _ from ?_)
  refine P_gw_icf P_i202_25 ⟨by omega, by omega⟩ ⟨by omega, by omega⟩ (P_ci_nef (by omega)) (show P_gw _ _ 28 [.ref G, P_z 3, P_z mn] [] _ _ _ _ _ _ _ from ?_)
  refine P_gw_op (L' := [.ref G, P_z 3, P_z mn]) (st' := [P_z 1]) P_i202_28 rfl (show P_gw _ _ 29 [.ref G, P_z 3, P_z mn] [P_z 1] _ _ _ _ _ _ _ from ?_)
  refine P_gw_goto P_i202_29 (show P_gw _ _ 33 [.ref G, P_z 3, P_z mn] [P_z 1] _ _ _ _ _ _ _ from ?_)
  refine P_gw_end P_i202_33 rfl rfl (fun _ => rfl) rfl ?_
  exact q σ1 f1 f2 f3 f4 f5

theorem g_rw0 {d : Nat} {w : P_Lw} {σ : P_A} {g : P_Gl} {τ : P_A} {N u : Nat} {Q : P_GQ} {G nn : Nat} {sn : Int → Int} {cT : Int → Nat} {cs : List A_cd} {od : Int → Int} {tb : Int → Nat} {rw : Int → Int} {vr : Int → Int → Int} {cl : Int → Int} {V : Int → Int → Int → Int} {it : Int} {ki ci : Int → Int} {gp oi lm nv : Int} (hw : P_Cw w) (hB : A_B w σ (nn : Int) tb rw vr cl V cs od it ki ci gp oi lm nv) {B D : Nat} {ad : Int → Nat} (hC : P_gC g τ G B cs ad) (hok : ∀ x ∈ cs, P_gok nn sn cT x) (hO : P_gO g τ G D nn od) (h13 : τ G 13 = nv) (hnn : 1 ≤ nn ∧ nn ≤ 3) (h0 : τ G 0 = ((w.2.2 0 : Nat) : Int)) (q : ∀ σ1 g1 τ1 N1 u1 B1 ad1 D1, N ≤ N1 → u1 ≤ u + 600 → A_fch σ σ1 → A_KL σ1 (cs.filter A_keep) → A_O σ1 (nn : Int) od → σ1 13 5 = nv → σ1 31 16 = 0 → G_fr G_R G_F2 g τ g1 τ1 → P_gC g1 τ1 G B1 (cs.filter A_keep) ad1 → P_gO g1 τ1 G D1 nn od → τ1 G 13 = nv → (∀ x ∈ (cs.filter A_keep), P_gok nn sn cT x) → Q (.inl (some (P_z 1))) w σ1 g1 τ1 N1 u1) : P_gw (d + 12) 202 0 [.ref G, P_z 0, P_un] [] w σ g τ N u Q := by
  have hcl := hC.2.2.1
  refine P_gw_op (L' := [.ref G, P_z 0, P_un]) (st' := [P_z 0]) P_i202_0 rfl (show P_gw _ _ 1 [.ref G, P_z 0, P_un] [P_z 0] _ _ _ _ _ _ _ from ?_)
  refine P_gw_op (L' := [.ref G, P_z 0, P_z 0]) (st' := []) P_i202_1 rfl (show P_gw _ _ 2 [.ref G, P_z 0, P_z 0] [] _ _ _ _ _ _ _ from ?_)
  refine g_rl0 cs.length g τ N u B cs ad 0 hC hok (by omega) (by omega) (fun g' τ' N' u' B' cs' ad' mn' a1 a2 a3 a4 a5 a6 a7 => ?_)
  obtain rfl : cs' = cs.filter A_keep := (List.filter_eq_self.mpr a7.2.2).symm.trans a7.2.1
  exact g_rt0 hw hB a5.1.1 (((a3 G _ _ hC.1.1).2 0 (fun _ => G_nF5 _ (by omega)) (G_nR5 _ (by omega))).trans h0) (mn := mn') (by have := a7.1; have := List.length_filter_le A_keep cs; omega) (by have := a7.1; have := List.length_filter_le A_keep cs; omega) (fun σ1 f1 f2 f3 f4 f5 => q σ1 g' τ' N' u' B' ad' D a1 (by omega) f1 f2 f3 f4 f5 (G_fr_5 a3) a5 (P_gO_fr a3 ⟨G_nR5 _ (by omega), G_nR5 _ (by omega)⟩ (G_nF5 _ (by omega)) hO) (a4.trans h13) a6)

theorem g_rw2 {d : Nat} {w : P_Lw} {σ : P_A} {g : P_Gl} {τ : P_A} {N u : Nat} {Q : P_GQ} {G nn : Nat} {sn : Int → Int} {cT : Int → Nat} {cs : List A_cd} {od : Int → Int} {tb : Int → Nat} {rw : Int → Int} {vr : Int → Int → Int} {cl : Int → Int} {V : Int → Int → Int → Int} {it : Int} {ki ci : Int → Int} {gp oi lm nv : Int} (hw : P_Cw w) (hB : A_B w σ (nn : Int) tb rw vr cl V cs od it ki ci gp oi lm nv) {B D : Nat} {ad : Int → Nat} (hC : P_gC g τ G B cs ad) (hok : ∀ x ∈ cs, P_gok nn sn cT x) (hO : P_gO g τ G D nn od) (h13 : τ G 13 = nv) (hnn : 1 ≤ nn ∧ nn ≤ 3) (h0 : τ G 0 = ((w.2.2 0 : Nat) : Int)) (q : ∀ σ1 g1 τ1 N1 u1 B1 ad1 D1, N ≤ N1 → u1 ≤ u + 600 → A_fch σ σ1 → A_KL σ1 (cs.map (A_down od)) → A_O σ1 (nn : Int) od → σ1 13 5 = nv → σ1 31 16 = 0 → G_fr G_R G_F2 g τ g1 τ1 → P_gC g1 τ1 G B1 (cs.map (A_down od)) ad1 → P_gO g1 τ1 G D1 nn od → τ1 G 13 = nv → (∀ x ∈ (cs.map (A_down od)), P_gok nn sn cT x) → Q (.inl (some (P_z 1))) w σ1 g1 τ1 N1 u1) : P_gw (d + 12) 202 0 [.ref G, P_z 2, P_un] [] w σ g τ N u Q := by
  have hcl := hC.2.2.1
  refine P_gw_op (L' := [.ref G, P_z 2, P_un]) (st' := [P_z 0]) P_i202_0 rfl (show P_gw _ _ 1 [.ref G, P_z 2, P_un] [P_z 0] _ _ _ _ _ _ _ from ?_)
  refine P_gw_op (L' := [.ref G, P_z 2, P_z 0]) (st' := []) P_i202_1 rfl (show P_gw _ _ 2 [.ref G, P_z 2, P_z 0] [] _ _ _ _ _ _ _ from ?_)
  refine g_rl2 hnn cs.length g τ N u B cs ad 0 hC hok (by have := G_nd_nn (od := od) (cs := cs); omega) (by omega) hO (fun g' τ' N' u' B' cs' ad' mn' a1 a2 a3 a4 a5 a6 a7 => ?_)
  obtain ⟨a8, rfl⟩ := a7
  exact g_rt2 hw hB a5.1.1 (((a3 G _ _ hC.1.1).2 0 (fun _ => G_nF5 _ (by omega)) (G_nR5 _ (by omega))).trans h0) (mn := mn') (by have := G_nd_nn (od := od) (cs := cs); omega) (by have := G_nd_nn (od := od) (cs := cs); omega) (fun σ1 f1 f2 f3 f4 f5 => q σ1 g' τ' N' u' B' ad' D a1 (by omega) f1 f2 f3 f4 f5 (G_fr_5 a3) a5 (P_gO_fr a3 ⟨G_nR5 _ (by omega), G_nR5 _ (by omega)⟩ (G_nF5 _ (by omega)) hO) (a4.trans h13) a6)

theorem g_rw1 {d : Nat} {w : P_Lw} {σ : P_A} {g : P_Gl} {τ : P_A} {N u : Nat} {Q : P_GQ} {G nn : Nat} {sn : Int → Int} {cT : Int → Nat} {cs : List A_cd} {od : Int → Int} {tb : Int → Nat} {rw : Int → Int} {vr : Int → Int → Int} {cl : Int → Int} {V : Int → Int → Int → Int} {it : Int} {ki ci : Int → Int} {gp oi lm nv : Int} (hw : P_Cw w) (hB : A_B w σ (nn : Int) tb rw vr cl V cs od it ki ci gp oi lm nv) {B D : Nat} {ad : Int → Nat} (hC : P_gC g τ G B cs ad) (hok : ∀ x ∈ cs, P_gok nn sn cT x) (hO : P_gO g τ G D nn od) (h13 : τ G 13 = nv) (hnn : 1 ≤ nn ∧ nn ≤ 3) (h0 : τ G 0 = ((w.2.2 0 : Nat) : Int)) (q : ∀ σ1 g1 τ1 N1 u1 B1 ad1 D1, N ≤ N1 → u1 ≤ u + 600 → A_fch σ σ1 → A_KL σ1 (A_dr (nn : Int) (12 - cs.length) cs) → A_O σ1 (nn : Int) od → σ1 13 5 = nv → σ1 31 16 = 0 → G_fr G_R G_F2 g τ g1 τ1 → P_gC g1 τ1 G B1 (A_dr (nn : Int) (12 - cs.length) cs) ad1 → P_gO g1 τ1 G D1 nn od → τ1 G 13 = nv → (∀ x ∈ (A_dr (nn : Int) (12 - cs.length) cs), P_gok nn sn cT x) → Q (.inl (some (P_z 1))) w σ1 g1 τ1 N1 u1) : P_gw (d + 12) 202 0 [.ref G, P_z 1, P_un] [] w σ g τ N u Q := by
  have hcl := hC.2.2.1
  refine P_gw_op (L' := [.ref G, P_z 1, P_un]) (st' := [P_z 0]) P_i202_0 rfl (show P_gw _ _ 1 [.ref G, P_z 1, P_un] [P_z 0] _ _ _ _ _ _ _ from ?_)
  refine P_gw_op (L' := [.ref G, P_z 1, P_z 0]) (st' := []) P_i202_1 rfl (show P_gw _ _ 2 [.ref G, P_z 1, P_z 0] [] _ _ _ _ _ _ _ from ?_)
  refine g_rl1 hnn (12 - cs.length) g τ N u B cs ad 0 hC hok (by omega) (by omega) hO (fun g' τ' N' u' B' cs' ad' mn' a1 a2 a3 a4 a5 a6 a7 => ?_)
  obtain ⟨rfl, a8⟩ := a7
  exact g_rt1 hw hB a5.1.1 (((a3 G _ _ hC.1.1).2 0 (fun _ => G_nF5 _ (by omega)) (G_nR5 _ (by omega))).trans h0) (mn := mn') (by have := a5.2.2.1; have := G_dr_len (ns := (nn : Int)) (12 - cs.length) cs; omega) (by have := a5.2.2.1; have := G_dr_len (ns := (nn : Int)) (12 - cs.length) cs; omega) (fun σ1 f1 f2 f3 f4 f5 => q σ1 g' τ' N' u' B' ad' D a1 (by omega) f1 f2 f3 f4 f5 (G_fr_5 a3) a5 (P_gO_fr a3 ⟨G_nR5 _ (by omega), G_nR5 _ (by omega)⟩ (G_nF5 _ (by omega)) hO) (a4.trans h13) a6)
