/-! the class, written by wip/c1.py: 73.up -/
/-- plain results, when mt meetings are found -/
def A_Pl (rd ck mt : Int) (σ : P_A) : Prop := σ 31 14 = mt ∧ (0 ≤ mt ∧ mt ≤ 1000000000) ∧ (0 ≤ rd ∧ 0 ≤ ck) ∧ ∀ j : Nat, (j : Int) < mt → j < 2744 → (0 ≤ σ 37 j ∧ σ 37 j ≤ 2743) ∧ (0 ≤ σ 38 j ∧ σ 38 j ≤ rd) ∧ (0 ≤ σ 39 j ∧ σ 39 j ≤ ck)
/-- what a walk of the answer keeps of its results: plain ones, or groups -/
def A_Inv (ns : Int) (cl : Int → Int) (it : Int) (ki ci : Int → Int) (gp oi lm : Int) (rd ck mt : Int) (σ : P_A) : Prop :=
  A_F σ ns cl it ki ci gp oi lm ∧ (0 ≤ rd ∧ 0 ≤ ck) ∧ (A_gth ki it gp = 0 → A_Pl rd ck mt σ) ∧ (A_gth ki it gp = 1 → A_G gp mt σ ∧ σ 31 14 = 0)
theorem A_Inv_mono {ns : Int} {cl : Int → Int} {it : Int} {ki ci : Int → Int} {gp oi lm : Int} : ∀ rd ck mt rd' ck' σ σ', A_Inv ns cl it ki ci gp oi lm rd ck mt σ → rd ≤ rd' → ck ≤ ck' → A_cn 31 σ σ' → A_Inv ns cl it ki ci gp oi lm rd' ck' mt σ' := by
  intro rd ck mt rd' ck' σ σ' h hr hc hcn
  obtain ⟨hF, h0, hP, hG⟩ := h
  have e : ∀ a b, a ≠ 31 → a ≠ 32 → σ' a b = σ a b := fun a b x y => hcn a b (by omega) (by omega)
  refine ⟨A_F_cg (fun a b x y => e a b (by omega) (by omega)) hF, by omega, fun g => ?_, fun g => ?_⟩
  · obtain ⟨p1, p2, p3, p4⟩ := hP g
    refine ⟨(hcn 31 14 (by omega) (by omega)).trans p1, p2, by omega, fun j h1 h2 => ?_⟩
    have := p4 j h1 h2
    rw [e 37 j (by omega) (by omega), e 38 j (by omega) (by omega), e 39 j (by omega) (by omega)]
    omega
  · obtain ⟨⟨g1, g2, g3, g4, g5, g6⟩, g7⟩ := hG g
    have e34 : σ' 34 = σ 34 := funext fun b => e 34 b (by omega) (by omega)
    exact ⟨⟨g1, fun j hj => by rw [e34]; exact g2 j hj, by rw [e34]; exact g3, fun q => by rw [e34]; exact g4 q, fun j hj => by rw [e 35 j (by omega) (by omega)]; exact g5 j hj, fun j hj => by rw [e 36 j (by omega) (by omega)]; exact g6 j hj⟩, (hcn 31 14 (by omega) (by omega)).trans g7⟩
/-- the answer's meeting, as a walk wants it -/
theorem s_met {w : P_Lw} (hw : P_Cw w) {d : Nat} {Q : P_R → P_A → Prop} {ns : Int} {tb : Int → Nat} {rw : Int → Int} {vr : Int → Int → Int} {cl : Int → Int} {V : Int → Int → Int → Int} {cs : List A_cd} {wo : Int} {od : Int → Int} {most : Int} {it : Int} {ki ci : Int → Int} {gp oi lm : Int} (hmost : most ≤ 1000000000) (σ : P_A) (S : A_st) (hW : A_Wt w 31 σ ns tb rw vr cl V cs wo od most S) (hI : A_Inv ns cl it ki ci gp oi lm S.2.1 S.2.2.1 (S.2.2.2 - 1) σ) (q : ∀ σ', (∀ a b, ¬ (33 ≤ a ∧ a ≤ 39) → ¬ (a = 31 ∧ b = 14) → σ' a b = σ a b) → A_Inv ns cl it ki ci gp oi lm S.2.1 S.2.2.1 S.2.2.2 σ' → Q (.inl none) σ') : P_aw w (d + 6) 9 0 [.ref (w.2.2 31)] [] σ Q := by
  obtain ⟨hS, hO, h4, h5, h6, h7, hmr⟩ := hW
  obtain ⟨hA, hX, hK, hwo, hρ⟩ := hS
  obtain ⟨hF, h0, hP, hG⟩ := hI
  have hg := A_gth_rg (ki := ki) (it := it) (gp := gp)
  rcases (by omega : A_gth ki it gp = 0 ∨ A_gth ki it gp = 1) with g | g
  · obtain ⟨p1, p2, p3, p4⟩ := hP g
    refine s_mtp (d := d + 2) hw hF g hρ p1 p2 h5 h6 (fun σ' k1 k2 k3 => ?_)
    refine q σ' (fun a b x y => k1 a b (by omega) y) ⟨A_F_cg (fun a b x y => k1 a b (by omega) (by omega)) hF, h0, fun _ => ⟨by rw [k2]; omega, hmr, h0, fun j j1 j2 => ?_⟩, fun g1 => by omega⟩
    by_cases e : j = (S.2.2.2 - 1).toNat
    · obtain ⟨m1, m2, m3⟩ := k3 (by omega)
      rw [e, m1, m2, m3]
      have r0 := (hρ 0 (by omega) (by omega)).2
      have r1 := (hρ 1 (by omega) (by omega)).2
      have r2 := (hρ 2 (by omega) (by omega)).2
      unfold A_mn
      omega
    · rw [k1 37 j (by omega) (by omega), k1 38 j (by omega) (by omega), k1 39 j (by omega) (by omega)]
      exact p4 j (by omega) j2
  · obtain ⟨gg, g7⟩ := hG g
    refine s_mtg hw hA hX hF g hρ gg (by omega) (fun σ' k1 k2 => ?_)
    have e : S.2.2.2 - 1 + 1 = S.2.2.2 := by omega
    rw [e] at k2
    exact q σ' (fun a b x y => k1 a b (by omega)) ⟨A_F_cg (fun a b x y => k1 a b (by omega)) hF, h0, fun g1 => by omega, fun _ => ⟨k2, (k1 31 14 (by omega)).trans g7⟩⟩

theorem s_cmt {w : P_Lw} (hw : P_Cw w) {d : Nat} {Q : P_R → P_A → Prop} {σ : P_A}  (q : Q (.inl none) σ) : P_aw w (d + 6) 21 0 [.ref (w.2.2 42)] [] σ Q := by
  refine P_aw_end P_i21_0 rfl rfl (fun _ => rfl) rfl ?_
  exact q

theorem A_Inv_0 {σ : P_A} {ns : Int} {cl : Int → Int} {it : Int} {ki ci : Int → Int} {gp oi lm : Int} (hF : A_F σ ns cl it ki ci gp oi lm) (h34 : ∀ j, j < 14 → σ 34 j = 0) (h35 : ∀ j, j < 14 → σ 35 j = 0) (h36 : ∀ j, j < 56 → σ 36 j = 0) (h14 : σ 31 14 = 0) : A_Inv ns cl it ki ci gp oi lm 0 0 0 σ := by
  have hs : A_sm (σ 34) 14 = 0 := (A_sm_cg (f := fun _ => 0) 14 (fun j hj => h34 j hj)).trans (by decide)
  exact ⟨hF, by omega, fun _ => ⟨h14, by omega, by omega, fun j h1 _ => by omega⟩, fun _ => ⟨⟨by omega, fun j hj => by rw [h34 j hj]; omega, hs, fun _ => h34 0 (by omega), fun j hj => by rw [h35 j hj]; omega, fun j hj => by rw [h36 j hj]; omega⟩, h14⟩⟩
/-- the answer's cells ahead of its walk -/
def A_u0 (σ : P_A) : P_A := A_fl (A_fl (A_fl (P_u2 σ 31 14 0) 34 ((14 : Nat) : Int) 0) 35 ((14 : Nat) : Int) 0) 36 ((56 : Nat) : Int) 0
theorem A_u0_ne {σ : P_A} {a b : Nat} (h : ¬ (a = 31 ∧ b = 14)) (h2 : ¬ (34 ≤ a ∧ a ≤ 36)) : A_u0 σ a b = σ a b := by
  unfold A_u0
  rw [A_fl_ne (by omega), A_fl_ne (by omega), A_fl_ne (by omega), P_u2_ne h]
theorem A_u0_Inv {σ σ' : P_A} {ns : Int} {cl : Int → Int} {it : Int} {ki ci : Int → Int} {gp oi lm : Int} (hF : A_F σ ns cl it ki ci gp oi lm) (h : ∀ a b, ¬ (a = 31 ∧ 3 ≤ b ∧ b ≤ 7) → a ≠ 31 + 1 → σ' a b = A_u0 σ a b) : A_Inv ns cl it ki ci gp oi lm 0 0 0 σ' := by
  refine A_Inv_0 (A_F_cg (fun a b x y => (h a b (by omega) (by omega)).trans (A_u0_ne (by omega) (by omega))) hF) (fun j hj => (h 34 j (by omega) (by omega)).trans ?_) (fun j hj => (h 35 j (by omega) (by omega)).trans ?_) (fun j hj => (h 36 j (by omega) (by omega)).trans ?_) ((h 31 14 (by omega) (by omega)).trans ?_)
  · unfold A_u0; rw [A_fl_ne (by omega), A_fl_ne (by omega), A_fl_at (by omega)]
  · unfold A_u0; rw [A_fl_ne (by omega), A_fl_at (by omega)]
  · unfold A_u0; rw [A_fl_at (by omega)]
  · unfold A_u0; rw [A_fl_ne (by omega), A_fl_ne (by omega), A_fl_ne (by omega), P_u2_at]
/-- how many meetings are needed -/
def A_ms (nv oi gth lm : Int) : Int := if nv = 1 then 0 else if (oi = -1 ∧ gth = 0) ∨ lm = 0 then lm else 1000000000
theorem s_up1 {w : P_Lw} (hw : P_Cw w) {d : Nat} {Q : P_R → P_A → Prop} {σ : P_A} {ns : Int} {tb : Int → Nat} {rw : Int → Int} {vr : Int → Int → Int} {cl : Int → Int} {V : Int → Int → Int → Int} {cs : List A_cd} {od : Int → Int} {it : Int} {ki ci : Int → Int} {gp oi lm : Int} (hA : A_V w σ ns tb rw vr) (hX : A_X σ ns tb rw cl V) (hF : A_F σ ns cl it ki ci gp oi lm) (hK : A_KL σ cs) (hO : A_O σ ns od) (hok : A_oks ns cs) (htk : A_tks ns cl cs) {nv : Int} (hN : σ 13 5 = nv) (hn01 : 0 ≤ nv ∧ nv ≤ 1) (hk0 : σ 31 16 = 0) (q : ∀ s, (∀ a b, ¬ (31 ≤ a ∧ a ≤ 39) → s a b = σ a b) → (∀ b, b = 15 ∨ b = 16 → s 31 b = σ 31 b) → A_Wt w 31 s ns tb rw vr cl V cs (-1) od (A_ms nv oi (A_gth ki it gp) lm) (A_go (A_ms nv oi (A_gth ki it gp) lm) (fun p ρ => A_hl (A_val V rw ρ) p (-1) cs 0) od rw ns.toNat 0 (fun _ => 0, 0, 0, 0)) → A_Inv ns cl it ki ci gp oi lm (A_go (A_ms nv oi (A_gth ki it gp) lm) (fun p ρ => A_hl (A_val V rw ρ) p (-1) cs 0) od rw ns.toNat 0 (fun _ => 0, 0, 0, 0)).2.1 (A_go (A_ms nv oi (A_gth ki it gp) lm) (fun p ρ => A_hl (A_val V rw ρ) p (-1) cs 0) od rw ns.toNat 0 (fun _ => 0, 0, 0, 0)).2.2.1 (A_go (A_ms nv oi (A_gth ki it gp) lm) (fun p ρ => A_hl (A_val V rw ρ) p (-1) cs 0) od rw ns.toNat 0 (fun _ => 0, 0, 0, 0)).2.2.2 s → P_aw w (d + 11) 3 43 [.ref (w.2.2 31)] [] s Q) : P_aw w (d + 11) 3 0 [.ref (w.2.2 31)] [] σ Q := by
  refine P_aw_op (L' := [.ref (w.2.2 31)]) (st' := [.ref (w.2.2 31)]) P_i3_0 rfl (show P_aw _ _ _ 1 [.ref (w.2.2 31)] [.ref (w.2.2 31)] _ _ from ?_)
  refine P_aw_getv P_i3_1 (hw.2.1 31 (by decide)) (hw.s rfl) rfl rfl (hk0) (show P_aw _ _ _ 4 [.ref (w.2.2 31)] [P_z 0] _ _ from ?_)
  refine P_aw_izt P_i3_4 ⟨by decide, by decide⟩ (P_ci_eqt (by omega)) (show P_aw _ _ _ 8 [.ref (w.2.2 31)] [] _ _ from ?_)
  refine P_aw_op (L' := [.ref (w.2.2 31)]) (st' := [.ref (w.2.2 31)]) P_i3_8 rfl (show P_aw _ _ _ 9 [.ref (w.2.2 31)] [.ref (w.2.2 31)] _ _ from ?_)
  refine P_aw_op (L' := [.ref (w.2.2 31)]) (st' := [P_z 0, .ref (w.2.2 31)]) P_i3_9 rfl (show P_aw _ _ _ 10 [.ref (w.2.2 31)] [P_z 0, .ref (w.2.2 31)] _ _ from ?_)
  refine P_aw_put P_i3_10 (hw.2.1 31 (by decide)) (hw.s rfl) rfl rfl rfl (show P_aw _ _ _ 13 [.ref (w.2.2 31)] [] _ _ from ?_)
  refine P_aw_op (L' := [.ref (w.2.2 31)]) (st' := [.ref (w.2.2 31)]) P_i3_13 rfl (show P_aw _ _ _ 14 [.ref (w.2.2 31)] [.ref (w.2.2 31)] _ _ from ?_)
  refine P_aw_getR P_i3_14 (hw.2.1 31 (by decide)) (hw.s rfl) rfl rfl (show P_aw _ _ _ 17 [.ref (w.2.2 31)] [.ref (w.2.2 33)] _ _ from ?_)
  refine P_aw_call P_i3_17 rfl rfl (fun _ => rfl) rfl rfl rfl rfl (y2 := 45) (as := [.ref (w.2.2 33)]) (r0 := []) (P_inv_v (hw.2.1 33 (by decide)) (hw.s rfl) rfl rfl) (Nat.le_of_ble_eq_true rfl) (by decide) rfl (Nat.le_of_ble_eq_true rfl) (show P_aw _ _ _ 0 [.ref (w.2.2 33)] [] _ _ from ?_)
  refine P_aw_op (L' := [.ref (w.2.2 33)]) (st' := [.ref (w.2.2 33)]) P_i45_0 rfl (show P_aw _ _ _ 1 [.ref (w.2.2 33)] [.ref (w.2.2 33)] _ _ from ?_)
  refine P_aw_getR P_i45_1 (hw.2.1 33 (by decide)) (hw.s rfl) rfl rfl (show P_aw _ _ _ 4 [.ref (w.2.2 33)] [.ref (w.2.2 34)] _ _ from ?_)
  refine P_aw_op (L' := [.ref (w.2.2 33)]) (st' := [P_z 0, .ref (w.2.2 34)]) P_i45_4 rfl (show P_aw _ _ _ 5 [.ref (w.2.2 33)] [P_z 0, .ref (w.2.2 34)] _ _ from ?_)
  refine P_aw_call P_i45_5 rfl rfl (fun _ => rfl) rfl rfl rfl rfl (y2 := 180) (as := [.ref (w.2.2 34), P_z 0]) (r0 := []) (fun _ _ => rfl) (Nat.le_of_ble_eq_true rfl) (by decide) rfl (Nat.le_of_ble_eq_true rfl) (s_fill (k := 34) (m := 14) (v := 0) hw (hw.s rfl) (hw.2.1 34 (by decide)) (by decide) ?_)
  show P_aw _ _ _ 8 [.ref (w.2.2 33)] [] _ _
  refine P_aw_op (L' := [.ref (w.2.2 33)]) (st' := [.ref (w.2.2 33)]) P_i45_8 rfl (show P_aw _ _ _ 9 [.ref (w.2.2 33)] [.ref (w.2.2 33)] _ _ from ?_)
  refine P_aw_getR P_i45_9 (hw.2.1 33 (by decide)) (hw.s rfl) rfl rfl (show P_aw _ _ _ 12 [.ref (w.2.2 33)] [.ref (w.2.2 35)] _ _ from ?_)
  refine P_aw_op (L' := [.ref (w.2.2 33)]) (st' := [P_z 0, .ref (w.2.2 35)]) P_i45_12 rfl (show P_aw _ _ _ 13 [.ref (w.2.2 33)] [P_z 0, .ref (w.2.2 35)] _ _ from ?_)
  refine P_aw_call P_i45_13 rfl rfl (fun _ => rfl) rfl rfl rfl rfl (y2 := 180) (as := [.ref (w.2.2 35), P_z 0]) (r0 := []) (fun _ _ => rfl) (Nat.le_of_ble_eq_true rfl) (by decide) rfl (Nat.le_of_ble_eq_true rfl) (s_fill (k := 35) (m := 14) (v := 0) hw (hw.s rfl) (hw.2.1 35 (by decide)) (by decide) ?_)
  show P_aw _ _ _ 16 [.ref (w.2.2 33)] [] _ _
  refine P_aw_op (L' := [.ref (w.2.2 33)]) (st' := [.ref (w.2.2 33)]) P_i45_16 rfl (show P_aw _ _ _ 17 [.ref (w.2.2 33)] [.ref (w.2.2 33)] _ _ from ?_)
  refine P_aw_getR P_i45_17 (hw.2.1 33 (by decide)) (hw.s rfl) rfl rfl (show P_aw _ _ _ 20 [.ref (w.2.2 33)] [.ref (w.2.2 36)] _ _ from ?_)
  refine P_aw_op (L' := [.ref (w.2.2 33)]) (st' := [P_z 0, .ref (w.2.2 36)]) P_i45_20 rfl (show P_aw _ _ _ 21 [.ref (w.2.2 33)] [P_z 0, .ref (w.2.2 36)] _ _ from ?_)
  refine P_aw_call P_i45_21 rfl rfl (fun _ => rfl) rfl rfl rfl rfl (y2 := 180) (as := [.ref (w.2.2 36), P_z 0]) (r0 := []) (fun _ _ => rfl) (Nat.le_of_ble_eq_true rfl) (by decide) rfl (Nat.le_of_ble_eq_true rfl) (s_fill (k := 36) (m := 56) (v := 0) hw (hw.s rfl) (hw.2.1 36 (by decide)) (by decide) ?_)
  show P_aw _ _ _ 24 [.ref (w.2.2 33)] [] _ _
  refine P_aw_end P_i45_24 rfl rfl (fun _ => rfl) rfl ?_
  show P_aw _ _ _ 20 [.ref (w.2.2 31)] [] _ _
  refine P_aw_op (L' := [.ref (w.2.2 31)]) (st' := [.ref (w.2.2 31)]) P_i3_20 rfl (show P_aw _ _ _ 21 [.ref (w.2.2 31)] [.ref (w.2.2 31)] _ _ from ?_)
  refine P_aw_op (L' := [.ref (w.2.2 31)]) (st' := [P_z (-1), .ref (w.2.2 31)]) P_i3_21 rfl (show P_aw _ _ _ 22 [.ref (w.2.2 31)] [P_z (-1), .ref (w.2.2 31)] _ _ from ?_)
  refine P_aw_op (L' := [.ref (w.2.2 31)]) (st' := [.ref (w.2.2 31), P_z (-1), .ref (w.2.2 31)]) P_i3_22 rfl (show P_aw _ _ _ 23 [.ref (w.2.2 31)] [.ref (w.2.2 31), P_z (-1), .ref (w.2.2 31)] _ _ from ?_)
  refine P_aw_getR P_i3_23 (hw.2.1 31 (by decide)) (hw.s rfl) rfl rfl (show P_aw _ _ _ 26 [.ref (w.2.2 31)] [.ref (w.2.2 13), P_z (-1), .ref (w.2.2 31)] _ _ from ?_)
  refine P_aw_call P_i3_26 rfl rfl (fun _ => rfl) rfl rfl rfl rfl (y2 := 57) (as := [.ref (w.2.2 13)]) (r0 := [P_z (-1), .ref (w.2.2 31)]) (P_inv_v (hw.2.1 13 (by decide)) (hw.s rfl) rfl rfl) (Nat.le_of_ble_eq_true rfl) (by decide) rfl (Nat.le_of_ble_eq_true rfl) (show P_aw _ _ _ 0 [.ref (w.2.2 13)] [] _ _ from ?_)
  refine P_aw_op (L' := [.ref (w.2.2 13)]) (st' := [.ref (w.2.2 13)]) P_i57_0 rfl (show P_aw _ _ _ 1 [.ref (w.2.2 13)] [.ref (w.2.2 13)] _ _ from ?_)
  refine P_aw_getv P_i57_1 (hw.2.1 13 (by decide)) (hw.s rfl) rfl rfl ((A_fl_ne (by omega)).trans ((A_fl_ne (by omega)).trans ((A_fl_ne (by omega)).trans ((P_u2_ne (by omega)).trans (hN))))) (show P_aw _ _ _ 4 [.ref (w.2.2 13)] [P_z nv] _ _ from ?_)
  refine P_aw_end P_i57_4 rfl rfl (fun _ => rfl) (P_ret_b (by omega)) ?_
  show P_aw _ _ _ 29 [.ref (w.2.2 31)] [P_z nv, P_z (-1), .ref (w.2.2 31)] _ _
  by_cases hc1 : nv = 0
  · refine P_aw_izt P_i3_29 ⟨by omega, by omega⟩ (P_ci_eqt (by omega)) (show P_aw _ _ _ 36 [.ref (w.2.2 31)] [P_z (-1), .ref (w.2.2 31)] _ _ from ?_)
    refine P_aw_op (L' := [.ref (w.2.2 31)]) (st' := [.ref (w.2.2 31), P_z (-1), .ref (w.2.2 31)]) P_i3_36 rfl (show P_aw _ _ _ 37 [.ref (w.2.2 31)] [.ref (w.2.2 31), P_z (-1), .ref (w.2.2 31)] _ _ from ?_)
    refine P_aw_call P_i3_37 rfl rfl (fun _ => rfl) rfl rfl rfl rfl (y2 := 4) (as := [.ref (w.2.2 31)]) (r0 := [P_z (-1), .ref (w.2.2 31)]) (P_inv_v (hw.2.1 31 (by decide)) (hw.s rfl) rfl rfl) (Nat.le_of_ble_eq_true rfl) (by decide) rfl (Nat.le_of_ble_eq_true rfl) (show P_aw _ _ _ 0 [.ref (w.2.2 31)] [] _ _ from ?_)
    refine P_aw_op (L' := [.ref (w.2.2 31)]) (st' := [.ref (w.2.2 31)]) P_i4_0 rfl (show P_aw _ _ _ 1 [.ref (w.2.2 31)] [.ref (w.2.2 31)] _ _ from ?_)
    refine P_aw_getR P_i4_1 (hw.2.1 31 (by decide)) (hw.s rfl) rfl rfl (show P_aw _ _ _ 4 [.ref (w.2.2 31)] [.ref (w.2.2 6)] _ _ from ?_)
    refine P_aw_call P_i4_4 rfl rfl (fun _ => rfl) rfl rfl rfl rfl (y2 := 43) (as := [.ref (w.2.2 6)]) (r0 := []) (P_inv_v (hw.2.1 6 (by decide)) (hw.s rfl) rfl rfl) (Nat.le_of_ble_eq_true rfl) (by decide) rfl (Nat.le_of_ble_eq_true rfl) (show P_aw _ _ _ 0 [.ref (w.2.2 6)] [] _ _ from ?_)
    refine P_aw_op (L' := [.ref (w.2.2 6)]) (st' := [.ref (w.2.2 6)]) P_i43_0 rfl (show P_aw _ _ _ 1 [.ref (w.2.2 6)] [.ref (w.2.2 6)] _ _ from ?_)
    have hg2 := hF.2.2.2.2.2.2.1
    have hg3 := hF.2.1
    refine P_aw_getv P_i43_1 (hw.2.1 6 (by decide)) (hw.s rfl) rfl rfl ((A_fl_ne (by omega)).trans ((A_fl_ne (by omega)).trans ((A_fl_ne (by omega)).trans ((P_u2_ne (by omega)).trans (hF.2.2.2.2.2.1))))) (show P_aw _ _ _ 4 [.ref (w.2.2 6)] [P_z oi] _ _ from ?_)
    refine P_aw_op (L' := [.ref (w.2.2 6)]) (st' := [P_z (-1), P_z oi]) P_i43_4 rfl (show P_aw _ _ _ 5 [.ref (w.2.2 6)] [P_z (-1), P_z oi] _ _ from ?_)
    by_cases hc4 : oi = (-1)
    · refine P_aw_icf P_i43_5 ⟨by omega, by omega⟩ ⟨by decide, by decide⟩ (P_ci_nef (by omega)) (show P_aw _ _ _ 8 [.ref (w.2.2 6)] [] _ _ from ?_)
      refine P_aw_op (L' := [.ref (w.2.2 6)]) (st' := [.ref (w.2.2 6)]) P_i43_8 rfl (show P_aw _ _ _ 9 [.ref (w.2.2 6)] [.ref (w.2.2 6)] _ _ from ?_)
      have hp5 := A_gth_rg (ki := ki) (it := it) (gp := gp)
      refine P_aw_call P_i43_9 rfl rfl (fun _ => rfl) rfl rfl rfl rfl (y2 := 42) (as := [.ref (w.2.2 6)]) (r0 := []) (P_inv_v (hw.2.1 6 (by decide)) (hw.s rfl) rfl rfl) (Nat.le_of_ble_eq_true rfl) (by decide) rfl (Nat.le_of_ble_eq_true rfl) (s_gth hw (A_F_cg (fun a b h h2 => ((A_fl_ne (by omega))).trans (((A_fl_ne (by omega))).trans (((A_fl_ne (by omega))).trans ((P_u2_ne (by omega)))))) hF) ?_)
      show P_aw _ _ _ 12 [.ref (w.2.2 6)] [P_z (A_gth ki it gp)] _ _
      by_cases hc6 : (A_gth ki it gp) = 0
      · refine P_aw_izf P_i43_12 ⟨by omega, by omega⟩ (P_ci_nef (by omega)) (show P_aw _ _ _ 15 [.ref (w.2.2 6)] [] _ _ from ?_)
        refine P_aw_op (L' := [.ref (w.2.2 6)]) (st' := [P_z 1]) P_i43_15 rfl (show P_aw _ _ _ 16 [.ref (w.2.2 6)] [P_z 1] _ _ from ?_)
        refine P_aw_goto P_i43_16 (show P_aw _ _ _ 20 [.ref (w.2.2 6)] [P_z 1] _ _ from ?_)
        refine P_aw_end P_i43_20 rfl rfl (fun _ => rfl) rfl ?_
        show P_aw _ _ _ 7 [.ref (w.2.2 31)] [P_z 1] _ _
        refine P_aw_izt P_i4_7 ⟨by decide, by decide⟩ (P_ci_net (by omega)) (show P_aw _ _ _ 20 [.ref (w.2.2 31)] [] _ _ from ?_)
        refine P_aw_op (L' := [.ref (w.2.2 31)]) (st' := [.ref (w.2.2 31)]) P_i4_20 rfl (show P_aw _ _ _ 21 [.ref (w.2.2 31)] [.ref (w.2.2 31)] _ _ from ?_)
        refine P_aw_getR P_i4_21 (hw.2.1 31 (by decide)) (hw.s rfl) rfl rfl (show P_aw _ _ _ 24 [.ref (w.2.2 31)] [.ref (w.2.2 6)] _ _ from ?_)
        refine P_aw_call P_i4_24 rfl rfl (fun _ => rfl) rfl rfl rfl rfl (y2 := 33) (as := [.ref (w.2.2 6)]) (r0 := []) (P_inv_v (hw.2.1 6 (by decide)) (hw.s rfl) rfl rfl) (Nat.le_of_ble_eq_true rfl) (by decide) rfl (Nat.le_of_ble_eq_true rfl) (show P_aw _ _ _ 0 [.ref (w.2.2 6)] [] _ _ from ?_)
        refine P_aw_op (L' := [.ref (w.2.2 6)]) (st' := [.ref (w.2.2 6)]) P_i33_0 rfl (show P_aw _ _ _ 1 [.ref (w.2.2 6)] [.ref (w.2.2 6)] _ _ from ?_)
        have hg7 := hF.2.2.2.2.2.2.2.2
        refine P_aw_getv P_i33_1 (hw.2.1 6 (by decide)) (hw.s rfl) rfl rfl ((A_fl_ne (by omega)).trans ((A_fl_ne (by omega)).trans ((A_fl_ne (by omega)).trans ((P_u2_ne (by omega)).trans (hF.2.2.2.2.2.2.2.1))))) (show P_aw _ _ _ 4 [.ref (w.2.2 6)] [P_z lm] _ _ from ?_)
        refine P_aw_end P_i33_4 rfl rfl (fun _ => rfl) rfl ?_
        show P_aw _ _ _ 27 [.ref (w.2.2 31)] [P_z lm] _ _
        refine P_aw_goto P_i4_27 (show P_aw _ _ _ 32 [.ref (w.2.2 31)] [P_z lm] _ _ from ?_)
        refine P_aw_end P_i4_32 rfl rfl (fun _ => rfl) rfl ?_
        show P_aw _ _ _ 40 [.ref (w.2.2 31)] [P_z lm, P_z (-1), .ref (w.2.2 31)] _ _
        have hms : A_ms nv oi (A_gth ki it gp) lm = lm := (by unfold A_ms; (repeat' split) <;> omega)
        have hu : ∀ a b, ¬ (a = 31 ∧ b = 14) → ¬ (34 ≤ a ∧ a ≤ 36) → (A_fl (A_fl (A_fl (P_u2 σ 31 14 0) 34 ((14 : Nat) : Int) 0) 35 ((14 : Nat) : Int) 0) 36 ((56 : Nat) : Int) 0) a b = σ a b := fun a b h h2 => A_u0_ne h h2
        refine P_aw_call P_i3_40 rfl rfl (fun _ => rfl) rfl rfl rfl rfl (y2 := 133) (as := [.ref (w.2.2 31), P_z (-1), P_z lm]) (r0 := []) (P_inv_v (hw.2.1 31 (by decide)) (hw.s rfl) rfl rfl) (Nat.le_of_ble_eq_true rfl) (by decide) rfl (Nat.le_of_ble_eq_true rfl) (s_walk31 (Inv := A_Inv ns cl it ki ci gp oi lm) hw (wo := -1) (most := lm) (by omega) (by omega) hok htk A_Inv_mono (fun σ S a1 a2 a3 => s_met hw (by omega) σ S a1 a2 a3) (A_V_cg (fun a b h => hu a b (by omega) (by omega)) hA) (A_X_cg (fun s a b => (hA.2.2 s a b).2.1.1) (fun a b h => hu a b (by omega) (by omega)) hX) (A_KL_cg (hu 13 4 (by omega) (by omega)) (fun a b h1 h2 => hu a b (by omega) (by omega)) hK) (A_O_cg (fun b => hu 28 b (by omega) (by omega)) hO) (fun σ' h => A_u0_Inv hF h) (fun s z1 z2 z3 z4 => ?_))
        show P_aw _ _ _ 43 [.ref (w.2.2 31)] [] _ _
        exact q s (fun a b h => (z1 a b (by omega)).trans (hu a b (by omega) (by omega))) (fun b h => (z2 b h).trans (hu 31 b (by omega) (by omega))) (by rw [hms]; exact z3) (by rw [hms]; exact z4)
      · refine P_aw_izt P_i43_12 ⟨by omega, by omega⟩ (P_ci_net (by omega)) (show P_aw _ _ _ 19 [.ref (w.2.2 6)] [] _ _ from ?_)
        refine P_aw_op (L' := [.ref (w.2.2 6)]) (st' := [P_z 0]) P_i43_19 rfl (show P_aw _ _ _ 20 [.ref (w.2.2 6)] [P_z 0] _ _ from ?_)
        refine P_aw_end P_i43_20 rfl rfl (fun _ => rfl) rfl ?_
        show P_aw _ _ _ 7 [.ref (w.2.2 31)] [P_z 0] _ _
        refine P_aw_izf P_i4_7 ⟨by decide, by decide⟩ (P_ci_nef (by omega)) (show P_aw _ _ _ 10 [.ref (w.2.2 31)] [] _ _ from ?_)
        refine P_aw_op (L' := [.ref (w.2.2 31)]) (st' := [.ref (w.2.2 31)]) P_i4_10 rfl (show P_aw _ _ _ 11 [.ref (w.2.2 31)] [.ref (w.2.2 31)] _ _ from ?_)
        refine P_aw_getR P_i4_11 (hw.2.1 31 (by decide)) (hw.s rfl) rfl rfl (show P_aw _ _ _ 14 [.ref (w.2.2 31)] [.ref (w.2.2 6)] _ _ from ?_)
        refine P_aw_call P_i4_14 rfl rfl (fun _ => rfl) rfl rfl rfl rfl (y2 := 33) (as := [.ref (w.2.2 6)]) (r0 := []) (P_inv_v (hw.2.1 6 (by decide)) (hw.s rfl) rfl rfl) (Nat.le_of_ble_eq_true rfl) (by decide) rfl (Nat.le_of_ble_eq_true rfl) (show P_aw _ _ _ 0 [.ref (w.2.2 6)] [] _ _ from ?_)
        refine P_aw_op (L' := [.ref (w.2.2 6)]) (st' := [.ref (w.2.2 6)]) P_i33_0 rfl (show P_aw _ _ _ 1 [.ref (w.2.2 6)] [.ref (w.2.2 6)] _ _ from ?_)
        have hg7 := hF.2.2.2.2.2.2.2.2
        refine P_aw_getv P_i33_1 (hw.2.1 6 (by decide)) (hw.s rfl) rfl rfl ((A_fl_ne (by omega)).trans ((A_fl_ne (by omega)).trans ((A_fl_ne (by omega)).trans ((P_u2_ne (by omega)).trans (hF.2.2.2.2.2.2.2.1))))) (show P_aw _ _ _ 4 [.ref (w.2.2 6)] [P_z lm] _ _ from ?_)
        refine P_aw_end P_i33_4 rfl rfl (fun _ => rfl) rfl ?_
        show P_aw _ _ _ 17 [.ref (w.2.2 31)] [P_z lm] _ _
        by_cases hc8 : lm = 0
        · refine P_aw_izf P_i4_17 ⟨by omega, by omega⟩ (P_ci_nef (by omega)) (show P_aw _ _ _ 20 [.ref (w.2.2 31)] [] _ _ from ?_)
          refine P_aw_op (L' := [.ref (w.2.2 31)]) (st' := [.ref (w.2.2 31)]) P_i4_20 rfl (show P_aw _ _ _ 21 [.ref (w.2.2 31)] [.ref (w.2.2 31)] _ _ from ?_)
          refine P_aw_getR P_i4_21 (hw.2.1 31 (by decide)) (hw.s rfl) rfl rfl (show P_aw _ _ _ 24 [.ref (w.2.2 31)] [.ref (w.2.2 6)] _ _ from ?_)
          refine P_aw_call P_i4_24 rfl rfl (fun _ => rfl) rfl rfl rfl rfl (y2 := 33) (as := [.ref (w.2.2 6)]) (r0 := []) (P_inv_v (hw.2.1 6 (by decide)) (hw.s rfl) rfl rfl) (Nat.le_of_ble_eq_true rfl) (by decide) rfl (Nat.le_of_ble_eq_true rfl) (show P_aw _ _ _ 0 [.ref (w.2.2 6)] [] _ _ from ?_)
          refine P_aw_op (L' := [.ref (w.2.2 6)]) (st' := [.ref (w.2.2 6)]) P_i33_0 rfl (show P_aw _ _ _ 1 [.ref (w.2.2 6)] [.ref (w.2.2 6)] _ _ from ?_)
          have hg9 := hF.2.2.2.2.2.2.2.2
          refine P_aw_getv P_i33_1 (hw.2.1 6 (by decide)) (hw.s rfl) rfl rfl ((A_fl_ne (by omega)).trans ((A_fl_ne (by omega)).trans ((A_fl_ne (by omega)).trans ((P_u2_ne (by omega)).trans (hF.2.2.2.2.2.2.2.1))))) (show P_aw _ _ _ 4 [.ref (w.2.2 6)] [P_z lm] _ _ from ?_)
          refine P_aw_end P_i33_4 rfl rfl (fun _ => rfl) rfl ?_
          show P_aw _ _ _ 27 [.ref (w.2.2 31)] [P_z lm] _ _
          refine P_aw_goto P_i4_27 (show P_aw _ _ _ 32 [.ref (w.2.2 31)] [P_z lm] _ _ from ?_)
          refine P_aw_end P_i4_32 rfl rfl (fun _ => rfl) rfl ?_
          show P_aw _ _ _ 40 [.ref (w.2.2 31)] [P_z lm, P_z (-1), .ref (w.2.2 31)] _ _
          have hms : A_ms nv oi (A_gth ki it gp) lm = lm := (by unfold A_ms; (repeat' split) <;> omega)
          have hu : ∀ a b, ¬ (a = 31 ∧ b = 14) → ¬ (34 ≤ a ∧ a ≤ 36) → (A_fl (A_fl (A_fl (P_u2 σ 31 14 0) 34 ((14 : Nat) : Int) 0) 35 ((14 : Nat) : Int) 0) 36 ((56 : Nat) : Int) 0) a b = σ a b := fun a b h h2 => A_u0_ne h h2
          refine P_aw_call P_i3_40 rfl rfl (fun _ => rfl) rfl rfl rfl rfl (y2 := 133) (as := [.ref (w.2.2 31), P_z (-1), P_z lm]) (r0 := []) (P_inv_v (hw.2.1 31 (by decide)) (hw.s rfl) rfl rfl) (Nat.le_of_ble_eq_true rfl) (by decide) rfl (Nat.le_of_ble_eq_true rfl) (s_walk31 (Inv := A_Inv ns cl it ki ci gp oi lm) hw (wo := -1) (most := lm) (by omega) (by omega) hok htk A_Inv_mono (fun σ S a1 a2 a3 => s_met hw (by omega) σ S a1 a2 a3) (A_V_cg (fun a b h => hu a b (by omega) (by omega)) hA) (A_X_cg (fun s a b => (hA.2.2 s a b).2.1.1) (fun a b h => hu a b (by omega) (by omega)) hX) (A_KL_cg (hu 13 4 (by omega) (by omega)) (fun a b h1 h2 => hu a b (by omega) (by omega)) hK) (A_O_cg (fun b => hu 28 b (by omega) (by omega)) hO) (fun σ' h => A_u0_Inv hF h) (fun s z1 z2 z3 z4 => ?_))
          show P_aw _ _ _ 43 [.ref (w.2.2 31)] [] _ _
          exact q s (fun a b h => (z1 a b (by omega)).trans (hu a b (by omega) (by omega))) (fun b h => (z2 b h).trans (hu 31 b (by omega) (by omega))) (by rw [hms]; exact z3) (by rw [hms]; exact z4)
        · refine P_aw_izt P_i4_17 ⟨by omega, by omega⟩ (P_ci_net (by omega)) (show P_aw _ _ _ 30 [.ref (w.2.2 31)] [] _ _ from ?_)
          refine P_aw_op (L' := [.ref (w.2.2 31)]) (st' := [P_z 1000000000]) P_i4_30 rfl (show P_aw _ _ _ 32 [.ref (w.2.2 31)] [P_z 1000000000] _ _ from ?_)
          refine P_aw_end P_i4_32 rfl rfl (fun _ => rfl) rfl ?_
          show P_aw _ _ _ 40 [.ref (w.2.2 31)] [P_z 1000000000, P_z (-1), .ref (w.2.2 31)] _ _
          have hms : A_ms nv oi (A_gth ki it gp) lm = 1000000000 := (by unfold A_ms; (repeat' split) <;> omega)
          have hu : ∀ a b, ¬ (a = 31 ∧ b = 14) → ¬ (34 ≤ a ∧ a ≤ 36) → (A_fl (A_fl (A_fl (P_u2 σ 31 14 0) 34 ((14 : Nat) : Int) 0) 35 ((14 : Nat) : Int) 0) 36 ((56 : Nat) : Int) 0) a b = σ a b := fun a b h h2 => A_u0_ne h h2
          refine P_aw_call P_i3_40 rfl rfl (fun _ => rfl) rfl rfl rfl rfl (y2 := 133) (as := [.ref (w.2.2 31), P_z (-1), P_z 1000000000]) (r0 := []) (P_inv_v (hw.2.1 31 (by decide)) (hw.s rfl) rfl rfl) (Nat.le_of_ble_eq_true rfl) (by decide) rfl (Nat.le_of_ble_eq_true rfl) (s_walk31 (Inv := A_Inv ns cl it ki ci gp oi lm) hw (wo := -1) (most := 1000000000) (by omega) (by omega) hok htk A_Inv_mono (fun σ S a1 a2 a3 => s_met hw (by omega) σ S a1 a2 a3) (A_V_cg (fun a b h => hu a b (by omega) (by omega)) hA) (A_X_cg (fun s a b => (hA.2.2 s a b).2.1.1) (fun a b h => hu a b (by omega) (by omega)) hX) (A_KL_cg (hu 13 4 (by omega) (by omega)) (fun a b h1 h2 => hu a b (by omega) (by omega)) hK) (A_O_cg (fun b => hu 28 b (by omega) (by omega)) hO) (fun σ' h => A_u0_Inv hF h) (fun s z1 z2 z3 z4 => ?_))
          show P_aw _ _ _ 43 [.ref (w.2.2 31)] [] _ _
          exact q s (fun a b h => (z1 a b (by omega)).trans (hu a b (by omega) (by omega))) (fun b h => (z2 b h).trans (hu 31 b (by omega) (by omega))) (by rw [hms]; exact z3) (by rw [hms]; exact z4)
    · refine P_aw_ict P_i43_5 ⟨by omega, by omega⟩ ⟨by decide, by decide⟩ (P_ci_net (by omega)) (show P_aw _ _ _ 19 [.ref (w.2.2 6)] [] _ _ from ?_)
      refine P_aw_op (L' := [.ref (w.2.2 6)]) (st' := [P_z 0]) P_i43_19 rfl (show P_aw _ _ _ 20 [.ref (w.2.2 6)] [P_z 0] _ _ from ?_)
      refine P_aw_end P_i43_20 rfl rfl (fun _ => rfl) rfl ?_
      show P_aw _ _ _ 7 [.ref (w.2.2 31)] [P_z 0] _ _
      refine P_aw_izf P_i4_7 ⟨by decide, by decide⟩ (P_ci_nef (by omega)) (show P_aw _ _ _ 10 [.ref (w.2.2 31)] [] _ _ from ?_)
      refine P_aw_op (L' := [.ref (w.2.2 31)]) (st' := [.ref (w.2.2 31)]) P_i4_10 rfl (show P_aw _ _ _ 11 [.ref (w.2.2 31)] [.ref (w.2.2 31)] _ _ from ?_)
      refine P_aw_getR P_i4_11 (hw.2.1 31 (by decide)) (hw.s rfl) rfl rfl (show P_aw _ _ _ 14 [.ref (w.2.2 31)] [.ref (w.2.2 6)] _ _ from ?_)
      refine P_aw_call P_i4_14 rfl rfl (fun _ => rfl) rfl rfl rfl rfl (y2 := 33) (as := [.ref (w.2.2 6)]) (r0 := []) (P_inv_v (hw.2.1 6 (by decide)) (hw.s rfl) rfl rfl) (Nat.le_of_ble_eq_true rfl) (by decide) rfl (Nat.le_of_ble_eq_true rfl) (show P_aw _ _ _ 0 [.ref (w.2.2 6)] [] _ _ from ?_)
      refine P_aw_op (L' := [.ref (w.2.2 6)]) (st' := [.ref (w.2.2 6)]) P_i33_0 rfl (show P_aw _ _ _ 1 [.ref (w.2.2 6)] [.ref (w.2.2 6)] _ _ from ?_)
      have hg5 := hF.2.2.2.2.2.2.2.2
      refine P_aw_getv P_i33_1 (hw.2.1 6 (by decide)) (hw.s rfl) rfl rfl ((A_fl_ne (by omega)).trans ((A_fl_ne (by omega)).trans ((A_fl_ne (by omega)).trans ((P_u2_ne (by omega)).trans (hF.2.2.2.2.2.2.2.1))))) (show P_aw _ _ _ 4 [.ref (w.2.2 6)] [P_z lm] _ _ from ?_)
      refine P_aw_end P_i33_4 rfl rfl (fun _ => rfl) rfl ?_
      show P_aw _ _ _ 17 [.ref (w.2.2 31)] [P_z lm] _ _
      by_cases hc6 : lm = 0
      · refine P_aw_izf P_i4_17 ⟨by omega, by omega⟩ (P_ci_nef (by omega)) (show P_aw _ _ _ 20 [.ref (w.2.2 31)] [] _ _ from ?_)
        refine P_aw_op (L' := [.ref (w.2.2 31)]) (st' := [.ref (w.2.2 31)]) P_i4_20 rfl (show P_aw _ _ _ 21 [.ref (w.2.2 31)] [.ref (w.2.2 31)] _ _ from ?_)
        refine P_aw_getR P_i4_21 (hw.2.1 31 (by decide)) (hw.s rfl) rfl rfl (show P_aw _ _ _ 24 [.ref (w.2.2 31)] [.ref (w.2.2 6)] _ _ from ?_)
        refine P_aw_call P_i4_24 rfl rfl (fun _ => rfl) rfl rfl rfl rfl (y2 := 33) (as := [.ref (w.2.2 6)]) (r0 := []) (P_inv_v (hw.2.1 6 (by decide)) (hw.s rfl) rfl rfl) (Nat.le_of_ble_eq_true rfl) (by decide) rfl (Nat.le_of_ble_eq_true rfl) (show P_aw _ _ _ 0 [.ref (w.2.2 6)] [] _ _ from ?_)
        refine P_aw_op (L' := [.ref (w.2.2 6)]) (st' := [.ref (w.2.2 6)]) P_i33_0 rfl (show P_aw _ _ _ 1 [.ref (w.2.2 6)] [.ref (w.2.2 6)] _ _ from ?_)
        have hg7 := hF.2.2.2.2.2.2.2.2
        refine P_aw_getv P_i33_1 (hw.2.1 6 (by decide)) (hw.s rfl) rfl rfl ((A_fl_ne (by omega)).trans ((A_fl_ne (by omega)).trans ((A_fl_ne (by omega)).trans ((P_u2_ne (by omega)).trans (hF.2.2.2.2.2.2.2.1))))) (show P_aw _ _ _ 4 [.ref (w.2.2 6)] [P_z lm] _ _ from ?_)
        refine P_aw_end P_i33_4 rfl rfl (fun _ => rfl) rfl ?_
        show P_aw _ _ _ 27 [.ref (w.2.2 31)] [P_z lm] _ _
        refine P_aw_goto P_i4_27 (show P_aw _ _ _ 32 [.ref (w.2.2 31)] [P_z lm] _ _ from ?_)
        refine P_aw_end P_i4_32 rfl rfl (fun _ => rfl) rfl ?_
        show P_aw _ _ _ 40 [.ref (w.2.2 31)] [P_z lm, P_z (-1), .ref (w.2.2 31)] _ _
        have hms : A_ms nv oi (A_gth ki it gp) lm = lm := (by unfold A_ms; (repeat' split) <;> omega)
        have hu : ∀ a b, ¬ (a = 31 ∧ b = 14) → ¬ (34 ≤ a ∧ a ≤ 36) → (A_fl (A_fl (A_fl (P_u2 σ 31 14 0) 34 ((14 : Nat) : Int) 0) 35 ((14 : Nat) : Int) 0) 36 ((56 : Nat) : Int) 0) a b = σ a b := fun a b h h2 => A_u0_ne h h2
        refine P_aw_call P_i3_40 rfl rfl (fun _ => rfl) rfl rfl rfl rfl (y2 := 133) (as := [.ref (w.2.2 31), P_z (-1), P_z lm]) (r0 := []) (P_inv_v (hw.2.1 31 (by decide)) (hw.s rfl) rfl rfl) (Nat.le_of_ble_eq_true rfl) (by decide) rfl (Nat.le_of_ble_eq_true rfl) (s_walk31 (Inv := A_Inv ns cl it ki ci gp oi lm) hw (wo := -1) (most := lm) (by omega) (by omega) hok htk A_Inv_mono (fun σ S a1 a2 a3 => s_met hw (by omega) σ S a1 a2 a3) (A_V_cg (fun a b h => hu a b (by omega) (by omega)) hA) (A_X_cg (fun s a b => (hA.2.2 s a b).2.1.1) (fun a b h => hu a b (by omega) (by omega)) hX) (A_KL_cg (hu 13 4 (by omega) (by omega)) (fun a b h1 h2 => hu a b (by omega) (by omega)) hK) (A_O_cg (fun b => hu 28 b (by omega) (by omega)) hO) (fun σ' h => A_u0_Inv hF h) (fun s z1 z2 z3 z4 => ?_))
        show P_aw _ _ _ 43 [.ref (w.2.2 31)] [] _ _
        exact q s (fun a b h => (z1 a b (by omega)).trans (hu a b (by omega) (by omega))) (fun b h => (z2 b h).trans (hu 31 b (by omega) (by omega))) (by rw [hms]; exact z3) (by rw [hms]; exact z4)
      · refine P_aw_izt P_i4_17 ⟨by omega, by omega⟩ (P_ci_net (by omega)) (show P_aw _ _ _ 30 [.ref (w.2.2 31)] [] _ _ from ?_)
        refine P_aw_op (L' := [.ref (w.2.2 31)]) (st' := [P_z 1000000000]) P_i4_30 rfl (show P_aw _ _ _ 32 [.ref (w.2.2 31)] [P_z 1000000000] _ _ from ?_)
        refine P_aw_end P_i4_32 rfl rfl (fun _ => rfl) rfl ?_
        show P_aw _ _ _ 40 [.ref (w.2.2 31)] [P_z 1000000000, P_z (-1), .ref (w.2.2 31)] _ _
        have hms : A_ms nv oi (A_gth ki it gp) lm = 1000000000 := (by unfold A_ms; (repeat' split) <;> omega)
        have hu : ∀ a b, ¬ (a = 31 ∧ b = 14) → ¬ (34 ≤ a ∧ a ≤ 36) → (A_fl (A_fl (A_fl (P_u2 σ 31 14 0) 34 ((14 : Nat) : Int) 0) 35 ((14 : Nat) : Int) 0) 36 ((56 : Nat) : Int) 0) a b = σ a b := fun a b h h2 => A_u0_ne h h2
        refine P_aw_call P_i3_40 rfl rfl (fun _ => rfl) rfl rfl rfl rfl (y2 := 133) (as := [.ref (w.2.2 31), P_z (-1), P_z 1000000000]) (r0 := []) (P_inv_v (hw.2.1 31 (by decide)) (hw.s rfl) rfl rfl) (Nat.le_of_ble_eq_true rfl) (by decide) rfl (Nat.le_of_ble_eq_true rfl) (s_walk31 (Inv := A_Inv ns cl it ki ci gp oi lm) hw (wo := -1) (most := 1000000000) (by omega) (by omega) hok htk A_Inv_mono (fun σ S a1 a2 a3 => s_met hw (by omega) σ S a1 a2 a3) (A_V_cg (fun a b h => hu a b (by omega) (by omega)) hA) (A_X_cg (fun s a b => (hA.2.2 s a b).2.1.1) (fun a b h => hu a b (by omega) (by omega)) hX) (A_KL_cg (hu 13 4 (by omega) (by omega)) (fun a b h1 h2 => hu a b (by omega) (by omega)) hK) (A_O_cg (fun b => hu 28 b (by omega) (by omega)) hO) (fun σ' h => A_u0_Inv hF h) (fun s z1 z2 z3 z4 => ?_))
        show P_aw _ _ _ 43 [.ref (w.2.2 31)] [] _ _
        exact q s (fun a b h => (z1 a b (by omega)).trans (hu a b (by omega) (by omega))) (fun b h => (z2 b h).trans (hu 31 b (by omega) (by omega))) (by rw [hms]; exact z3) (by rw [hms]; exact z4)
  · refine P_aw_izf P_i3_29 ⟨by omega, by omega⟩ (P_ci_eqf (by omega)) (show P_aw _ _ _ 32 [.ref (w.2.2 31)] [P_z (-1), .ref (w.2.2 31)] _ _ from ?_)
    refine P_aw_op (L' := [.ref (w.2.2 31)]) (st' := [P_z 0, P_z (-1), .ref (w.2.2 31)]) P_i3_32 rfl (show P_aw _ _ _ 33 [.ref (w.2.2 31)] [P_z 0, P_z (-1), .ref (w.2.2 31)] _ _ from ?_)
    refine P_aw_goto P_i3_33 (show P_aw _ _ _ 40 [.ref (w.2.2 31)] [P_z 0, P_z (-1), .ref (w.2.2 31)] _ _ from ?_)
    have hms : A_ms nv oi (A_gth ki it gp) lm = 0 := (by unfold A_ms; (repeat' split) <;> omega)
    have hu : ∀ a b, ¬ (a = 31 ∧ b = 14) → ¬ (34 ≤ a ∧ a ≤ 36) → (A_fl (A_fl (A_fl (P_u2 σ 31 14 0) 34 ((14 : Nat) : Int) 0) 35 ((14 : Nat) : Int) 0) 36 ((56 : Nat) : Int) 0) a b = σ a b := fun a b h h2 => A_u0_ne h h2
    refine P_aw_call P_i3_40 rfl rfl (fun _ => rfl) rfl rfl rfl rfl (y2 := 133) (as := [.ref (w.2.2 31), P_z (-1), P_z 0]) (r0 := []) (P_inv_v (hw.2.1 31 (by decide)) (hw.s rfl) rfl rfl) (Nat.le_of_ble_eq_true rfl) (by decide) rfl (Nat.le_of_ble_eq_true rfl) (s_walk31 (Inv := A_Inv ns cl it ki ci gp oi lm) hw (wo := -1) (most := 0) (by omega) (by omega) hok htk A_Inv_mono (fun σ S a1 a2 a3 => s_met hw (by omega) σ S a1 a2 a3) (A_V_cg (fun a b h => hu a b (by omega) (by omega)) hA) (A_X_cg (fun s a b => (hA.2.2 s a b).2.1.1) (fun a b h => hu a b (by omega) (by omega)) hX) (A_KL_cg (hu 13 4 (by omega) (by omega)) (fun a b h1 h2 => hu a b (by omega) (by omega)) hK) (A_O_cg (fun b => hu 28 b (by omega) (by omega)) hO) (fun σ' h => A_u0_Inv hF h) (fun s z1 z2 z3 z4 => ?_))
    show P_aw _ _ _ 43 [.ref (w.2.2 31)] [] _ _
    exact q s (fun a b h => (z1 a b (by omega)).trans (hu a b (by omega) (by omega))) (fun b h => (z2 b h).trans (hu 31 b (by omega) (by omega))) (by rw [hms]; exact z3) (by rw [hms]; exact z4)
