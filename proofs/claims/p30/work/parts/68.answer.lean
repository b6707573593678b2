/-! the class, written by wip/c1.py: 68.answer -/
def A_cok (ns : Int) (cl : Int → Int) (t : Int) : Prop := 100 ≤ t ∧ t ≤ 199 ∧ (t - 100) / 10 < ns ∧ (t - 100) % 10 < cl ((t - 100) / 10)
/-- what a query asks for: items (kind, column), group, order, limit -/
def A_F (σ : P_A) (ns : Int) (cl : Int → Int) (it : Int) (ki ci : Int → Int) (gp oi lm : Int) : Prop :=
  σ 6 4 = it ∧ (1 ≤ it ∧ it ≤ 4) ∧ (∀ j, 0 ≤ j → j < it → σ 7 j.toNat = ki j ∧ σ 8 j.toNat = ci j ∧ (-1 ≤ ki j ∧ ki j ≤ 8) ∧ (-1 ≤ ci j ∧ ci j ≤ 199) ∧ (ki j ≠ 7 → A_cok ns cl (ci j))) ∧ σ 6 6 = gp ∧ (gp = -1 ∨ A_cok ns cl gp) ∧ σ 6 7 = oi ∧ (-1 ≤ oi ∧ oi < it) ∧ σ 6 8 = lm ∧ (0 ≤ lm ∧ lm ≤ 1000000000)
theorem A_F_cg {σ σ' : P_A} {ns : Int} {cl : Int → Int} {it : Int} {ki ci : Int → Int} {gp oi lm : Int} (h : ∀ a b, 6 ≤ a → a ≤ 8 → σ' a b = σ a b) (hF : A_F σ ns cl it ki ci gp oi lm) : A_F σ' ns cl it ki ci gp oi lm := by
  obtain ⟨h1, h2, h3, h4, h5, h6, h7, h8, h9⟩ := hF
  exact ⟨(h _ _ (by omega) (by omega)).trans h1, h2, fun j a b => ⟨(h _ _ (by omega) (by omega)).trans (h3 j a b).1, (h _ _ (by omega) (by omega)).trans (h3 j a b).2.1, (h3 j a b).2.2⟩, (h _ _ (by omega) (by omega)).trans h4, h5, (h _ _ (by omega) (by omega)).trans h6, h7, (h _ _ (by omega) (by omega)).trans h8, h9⟩
/-- whether results are gathered: 1 if they are -/
def A_gt (ki : Int → Int) : Nat → Int → Int → Int
  | 0, _, g => g
  | n + 1, i, g => A_gt ki n (i + 1) (if g = 1 then 1 else if ki i = -1 then 0 else 1)
def A_gth (ki : Int → Int) (it gp : Int) : Int := A_gt ki it.toNat 0 (if gp = -1 then 0 else 1)
theorem A_gt_rg {ki : Int → Int} : ∀ (n : Nat) (i g : Int), 0 ≤ g ∧ g ≤ 1 → 0 ≤ A_gt ki n i g ∧ A_gt ki n i g ≤ 1 := by
  intro n
  induction n with
  | zero => intro i g h; exact h
  | succ n ih =>
    intro i g h
    simp only [A_gt]
    apply ih
    (repeat' split) <;> omega
theorem A_gth_rg {ki : Int → Int} {it gp : Int} : 0 ≤ A_gth ki it gp ∧ A_gth ki it gp ≤ 1 := A_gt_rg _ _ _ (by split <;> omega)

theorem A_gp_rg {ns : Int} {cl : Int → Int} {gp : Int} (h : gp = -1 ∨ A_cok ns cl gp) : -1 ≤ gp ∧ gp ≤ 199 ∧ (-1 < gp → 100 ≤ gp ∧ (gp - 100) / 10 < ns ∧ (gp - 100) % 10 < cl ((gp - 100) / 10)) := by
  unfold A_cok at h
  rcases h with h | h
  · exact ⟨by omega, by omega, fun q => by omega⟩
  · exact ⟨by omega, by omega, fun q => ⟨h.1, h.2.2.1, h.2.2.2⟩⟩
theorem s_gtl {w : P_Lw} (hw : P_Cw w) {d : Nat} {Q : P_R → P_A → Prop} {σ : P_A} {ns : Int} {cl : Int → Int} {it : Int} {ki ci : Int → Int} {gp oi lm : Int} (hF : A_F σ ns cl it ki ci gp oi lm) : ∀ (n : Nat) (i : Int) (g : Int), (0 ≤ i) → (it = i + (n : Nat)) → (0 ≤ g ∧ g ≤ 1) → Q (.inl (some (P_z (A_gt ki n i g)))) σ → P_aw w (d + 2) 42 16 [.ref (w.2.2 6), P_z g, P_z i] [] σ Q := by
  have hit := hF.2.1
  intro n
  induction n with
  | zero =>
    intro i g hv0 hv1 hv2 q
    refine P_aw_op (L' := [.ref (w.2.2 6), P_z g, P_z i]) (st' := [P_z i]) P_i42_16 rfl (show P_aw _ _ _ 17 [.ref (w.2.2 6), P_z g, P_z i] [P_z i] _ _ from ?_)
    refine P_aw_op (L' := [.ref (w.2.2 6), P_z g, P_z i]) (st' := [.ref (w.2.2 6), P_z i]) P_i42_17 rfl (show P_aw _ _ _ 18 [.ref (w.2.2 6), P_z g, P_z i] [.ref (w.2.2 6), P_z i] _ _ from ?_)
    have hg1 := hF.2.1
    refine P_aw_getv P_i42_18 (hw.2.1 6 (by decide)) (hw.s rfl) rfl rfl (hF.1) (show P_aw _ _ _ 21 [.ref (w.2.2 6), P_z g, P_z i] [P_z it, P_z i] _ _ from ?_)
    refine P_aw_ict P_i42_21 ⟨by omega, by omega⟩ ⟨by omega, by omega⟩ (P_ci_get (by omega)) (show P_aw _ _ _ 49 [.ref (w.2.2 6), P_z g, P_z i] [] _ _ from ?_)
    refine P_aw_op (L' := [.ref (w.2.2 6), P_z g, P_z i]) (st' := [P_z g]) P_i42_49 rfl (show P_aw _ _ _ 50 [.ref (w.2.2 6), P_z g, P_z i] [P_z g] _ _ from ?_)
    refine P_aw_end P_i42_50 rfl rfl (fun _ => rfl) (P_ret_b (by omega)) ?_
    exact q
  | succ n ih =>
    intro i g hv0 hv1 hv2 q
    refine P_aw_op (L' := [.ref (w.2.2 6), P_z g, P_z i]) (st' := [P_z i]) P_i42_16 rfl (show P_aw _ _ _ 17 [.ref (w.2.2 6), P_z g, P_z i] [P_z i] _ _ from ?_)
    refine P_aw_op (L' := [.ref (w.2.2 6), P_z g, P_z i]) (st' := [.ref (w.2.2 6), P_z i]) P_i42_17 rfl (show P_aw _ _ _ 18 [.ref (w.2.2 6), P_z g, P_z i] [.ref (w.2.2 6), P_z i] _ _ from ?_)
    have hg1 := hF.2.1
    refine P_aw_getv P_i42_18 (hw.2.1 6 (by decide)) (hw.s rfl) rfl rfl (hF.1) (show P_aw _ _ _ 21 [.ref (w.2.2 6), P_z g, P_z i] [P_z it, P_z i] _ _ from ?_)
    refine P_aw_icf P_i42_21 ⟨by omega, by omega⟩ ⟨by omega, by omega⟩ (P_ci_gef (by omega)) (show P_aw _ _ _ 24 [.ref (w.2.2 6), P_z g, P_z i] [] _ _ from ?_)
    refine P_aw_op (L' := [.ref (w.2.2 6), P_z g, P_z i]) (st' := [P_z g]) P_i42_24 rfl (show P_aw _ _ _ 25 [.ref (w.2.2 6), P_z g, P_z i] [P_z g] _ _ from ?_)
    by_cases hc2 : g = 0
    · refine P_aw_izf P_i42_25 ⟨by omega, by omega⟩ (P_ci_nef (by omega)) (show P_aw _ _ _ 28 [.ref (w.2.2 6), P_z g, P_z i] [] _ _ from ?_)
      refine P_aw_op (L' := [.ref (w.2.2 6), P_z g, P_z i]) (st' := [.ref (w.2.2 6)]) P_i42_28 rfl (show P_aw _ _ _ 29 [.ref (w.2.2 6), P_z g, P_z i] [.ref (w.2.2 6)] _ _ from ?_)
      refine P_aw_op (L' := [.ref (w.2.2 6), P_z g, P_z i]) (st' := [P_z i, .ref (w.2.2 6)]) P_i42_29 rfl (show P_aw _ _ _ 30 [.ref (w.2.2 6), P_z g, P_z i] [P_z i, .ref (w.2.2 6)] _ _ from ?_)
      refine P_aw_call P_i42_30 rfl rfl (fun _ => rfl) rfl rfl rfl rfl (y2 := 34) (as := [.ref (w.2.2 6), P_z i]) (r0 := []) (P_inv_v (hw.2.1 6 (by decide)) (hw.s rfl) rfl rfl) (Nat.le_of_ble_eq_true rfl) (by decide) rfl (Nat.le_of_ble_eq_true rfl) (show P_aw _ _ _ 0 [.ref (w.2.2 6), P_z i] [] _ _ from ?_)
      refine P_aw_op (L' := [.ref (w.2.2 6), P_z i]) (st' := [.ref (w.2.2 6)]) P_i34_0 rfl (show P_aw _ _ _ 1 [.ref (w.2.2 6), P_z i] [.ref (w.2.2 6)] _ _ from ?_)
      refine P_aw_getR P_i34_1 (hw.2.1 6 (by decide)) (hw.s rfl) rfl rfl (show P_aw _ _ _ 4 [.ref (w.2.2 6), P_z i] [.ref (w.2.2 7)] _ _ from ?_)
      refine P_aw_op (L' := [.ref (w.2.2 6), P_z i]) (st' := [P_z i, .ref (w.2.2 7)]) P_i34_4 rfl (show P_aw _ _ _ 5 [.ref (w.2.2 6), P_z i] [P_z i, .ref (w.2.2 7)] _ _ from ?_)
      refine P_aw_call P_i34_5 rfl rfl (fun _ => rfl) rfl rfl rfl rfl (y2 := 178) (as := [.ref (w.2.2 7), P_z i]) (r0 := []) (fun _ _ => rfl) (Nat.le_of_ble_eq_true rfl) (by decide) rfl (Nat.le_of_ble_eq_true rfl) (show P_aw _ _ _ 0 [.ref (w.2.2 7), P_z i] [] _ _ from ?_)
      refine P_aw_op (L' := [.ref (w.2.2 7), P_z i]) (st' := [P_z i]) P_i178_0 rfl (show P_aw _ _ _ 1 [.ref (w.2.2 7), P_z i] [P_z i] _ _ from ?_)
      refine P_aw_izf P_i178_1 ⟨by omega, by omega⟩ (P_ci_ltf (by omega)) (show P_aw _ _ _ 4 [.ref (w.2.2 7), P_z i] [] _ _ from ?_)
      refine P_aw_op (L' := [.ref (w.2.2 7), P_z i]) (st' := [P_z i]) P_i178_4 rfl (show P_aw _ _ _ 5 [.ref (w.2.2 7), P_z i] [P_z i] _ _ from ?_)
      refine P_aw_op (L' := [.ref (w.2.2 7), P_z i]) (st' := [.ref (w.2.2 7), P_z i]) P_i178_5 rfl (show P_aw _ _ _ 6 [.ref (w.2.2 7), P_z i] [.ref (w.2.2 7), P_z i] _ _ from ?_)
      refine P_aw_alen P_i178_6 (hw.2.1 7 (by decide)) (hw.s rfl) (show P_aw _ _ _ 7 [.ref (w.2.2 7), P_z i] [P_z 4, P_z i] _ _ from ?_)
      refine P_aw_icf P_i178_7 ⟨by omega, by omega⟩ ⟨by decide, by decide⟩ (P_ci_gef (by omega)) (show P_aw _ _ _ 10 [.ref (w.2.2 7), P_z i] [] _ _ from ?_)
      refine P_aw_op (L' := [.ref (w.2.2 7), P_z i]) (st' := [.ref (w.2.2 7)]) P_i178_10 rfl (show P_aw _ _ _ 11 [.ref (w.2.2 7), P_z i] [.ref (w.2.2 7)] _ _ from ?_)
      refine P_aw_op (L' := [.ref (w.2.2 7), P_z i]) (st' := [P_z i, .ref (w.2.2 7)]) P_i178_11 rfl (show P_aw _ _ _ 12 [.ref (w.2.2 7), P_z i] [P_z i, .ref (w.2.2 7)] _ _ from ?_)
      have hg3 := (hF.2.2.1 i (by omega) (by omega)).2.2.1
      refine P_aw_aldv P_i178_12 (hw.2.1 7 (by decide)) (hw.s rfl) (by omega) (by omega) (by decide) ((hF.2.2.1 i (by omega) (by omega)).1) (show P_aw _ _ _ 13 [.ref (w.2.2 7), P_z i] [P_z (ki i)] _ _ from ?_)
      refine P_aw_goto P_i178_13 (show P_aw _ _ _ 17 [.ref (w.2.2 7), P_z i] [P_z (ki i)] _ _ from ?_)
      refine P_aw_end P_i178_17 rfl rfl (fun _ => rfl) rfl ?_
      show P_aw _ _ _ 8 [.ref (w.2.2 6), P_z i] [P_z (ki i)] _ _
      refine P_aw_end P_i34_8 rfl rfl (fun _ => rfl) rfl ?_
      show P_aw _ _ _ 33 [.ref (w.2.2 6), P_z g, P_z i] [P_z (ki i)] _ _
      refine P_aw_op (L' := [.ref (w.2.2 6), P_z g, P_z i]) (st' := [P_z (-1), P_z (ki i)]) P_i42_33 rfl (show P_aw _ _ _ 34 [.ref (w.2.2 6), P_z g, P_z i] [P_z (-1), P_z (ki i)] _ _ from ?_)
      by_cases hc4 : (ki i) = (-1)
      · refine P_aw_ict P_i42_34 ⟨by omega, by omega⟩ ⟨by decide, by decide⟩ (P_ci_eqt (by omega)) (show P_aw _ _ _ 41 [.ref (w.2.2 6), P_z g, P_z i] [] _ _ from ?_)
        refine P_aw_op (L' := [.ref (w.2.2 6), P_z g, P_z i]) (st' := [P_z 0]) P_i42_41 rfl (show P_aw _ _ _ 42 [.ref (w.2.2 6), P_z g, P_z i] [P_z 0] _ _ from ?_)
        refine P_aw_op (L' := [.ref (w.2.2 6), P_z 0, P_z i]) (st' := []) P_i42_42 rfl (show P_aw _ _ _ 43 [.ref (w.2.2 6), P_z 0, P_z i] [] _ _ from ?_)
        refine P_aw_op (L' := [.ref (w.2.2 6), P_z 0, P_z (i + 1)]) (st' := []) P_i42_43 (P_o_iinc rfl) (show P_aw _ _ _ 46 [.ref (w.2.2 6), P_z 0, P_z (i + 1)] [] _ _ from ?_)
        refine P_aw_goto P_i42_46 (show P_aw _ _ _ 16 [.ref (w.2.2 6), P_z 0, P_z (i + 1)] [] _ _ from ?_)
        exact ih (i + 1) 0 (by omega) (by omega) (by omega) (P_qz (by simp only [A_gt]; congr 1; (repeat' split) <;> omega) rfl q)
      · refine P_aw_icf P_i42_34 ⟨by omega, by omega⟩ ⟨by decide, by decide⟩ (P_ci_eqf (by omega)) (show P_aw _ _ _ 37 [.ref (w.2.2 6), P_z g, P_z i] [] _ _ from ?_)
        refine P_aw_op (L' := [.ref (w.2.2 6), P_z g, P_z i]) (st' := [P_z 1]) P_i42_37 rfl (show P_aw _ _ _ 38 [.ref (w.2.2 6), P_z g, P_z i] [P_z 1] _ _ from ?_)
        refine P_aw_goto P_i42_38 (show P_aw _ _ _ 42 [.ref (w.2.2 6), P_z g, P_z i] [P_z 1] _ _ from ?_)
        refine P_aw_op (L' := [.ref (w.2.2 6), P_z 1, P_z i]) (st' := []) P_i42_42 rfl (show P_aw _ _ _ 43 [.ref (w.2.2 6), P_z 1, P_z i] [] _ _ from ?_)
        refine P_aw_op (L' := [.ref (w.2.2 6), P_z 1, P_z (i + 1)]) (st' := []) P_i42_43 (P_o_iinc rfl) (show P_aw _ _ _ 46 [.ref (w.2.2 6), P_z 1, P_z (i + 1)] [] _ _ from ?_)
        refine P_aw_goto P_i42_46 (show P_aw _ _ _ 16 [.ref (w.2.2 6), P_z 1, P_z (i + 1)] [] _ _ from ?_)
        exact ih (i + 1) 1 (by omega) (by omega) (by omega) (P_qz (by simp only [A_gt]; congr 1; (repeat' split) <;> omega) rfl q)
    · refine P_aw_izt P_i42_25 ⟨by omega, by omega⟩ (P_ci_net (by omega)) (show P_aw _ _ _ 37 [.ref (w.2.2 6), P_z g, P_z i] [] _ _ from ?_)
      refine P_aw_op (L' := [.ref (w.2.2 6), P_z g, P_z i]) (st' := [P_z 1]) P_i42_37 rfl (show P_aw _ _ _ 38 [.ref (w.2.2 6), P_z g, P_z i] [P_z 1] _ _ from ?_)
      refine P_aw_goto P_i42_38 (show P_aw _ _ _ 42 [.ref (w.2.2 6), P_z g, P_z i] [P_z 1] _ _ from ?_)
      refine P_aw_op (L' := [.ref (w.2.2 6), P_z 1, P_z i]) (st' := []) P_i42_42 rfl (show P_aw _ _ _ 43 [.ref (w.2.2 6), P_z 1, P_z i] [] _ _ from ?_)
      refine P_aw_op (L' := [.ref (w.2.2 6), P_z 1, P_z (i + 1)]) (st' := []) P_i42_43 (P_o_iinc rfl) (show P_aw _ _ _ 46 [.ref (w.2.2 6), P_z 1, P_z (i + 1)] [] _ _ from ?_)
      refine P_aw_goto P_i42_46 (show P_aw _ _ _ 16 [.ref (w.2.2 6), P_z 1, P_z (i + 1)] [] _ _ from ?_)
      exact ih (i + 1) 1 (by omega) (by omega) (by omega) (P_qz (by simp only [A_gt]; congr 1; (repeat' split) <;> omega) rfl q)

theorem s_gth {w : P_Lw} (hw : P_Cw w) {d : Nat} {Q : P_R → P_A → Prop} {σ : P_A} {ns : Int} {cl : Int → Int} {it : Int} {ki ci : Int → Int} {gp oi lm : Int} (hF : A_F σ ns cl it ki ci gp oi lm) (q : Q (.inl (some (P_z (A_gth ki it gp)))) σ) : P_aw w (d + 2) 42 0 [.ref (w.2.2 6), P_un, P_un] [] σ Q := by
  have hit := hF.2.1
  refine P_aw_op (L' := [.ref (w.2.2 6), P_un, P_un]) (st' := [.ref (w.2.2 6)]) P_i42_0 rfl (show P_aw _ _ _ 1 [.ref (w.2.2 6), P_un, P_un] [.ref (w.2.2 6)] _ _ from ?_)
  have hg1 := A_gp_rg hF.2.2.2.2.1
  refine P_aw_getv P_i42_1 (hw.2.1 6 (by decide)) (hw.s rfl) rfl rfl (hF.2.2.2.1) (show P_aw _ _ _ 4 [.ref (w.2.2 6), P_un, P_un] [P_z gp] _ _ from ?_)
  refine P_aw_op (L' := [.ref (w.2.2 6), P_un, P_un]) (st' := [P_z (-1), P_z gp]) P_i42_4 rfl (show P_aw _ _ _ 5 [.ref (w.2.2 6), P_un, P_un] [P_z (-1), P_z gp] _ _ from ?_)
  by_cases hc2 : gp = (-1)
  · refine P_aw_ict P_i42_5 ⟨by omega, by omega⟩ ⟨by decide, by decide⟩ (P_ci_eqt (by omega)) (show P_aw _ _ _ 12 [.ref (w.2.2 6), P_un, P_un] [] _ _ from ?_)
    refine P_aw_op (L' := [.ref (w.2.2 6), P_un, P_un]) (st' := [P_z 0]) P_i42_12 rfl (show P_aw _ _ _ 13 [.ref (w.2.2 6), P_un, P_un] [P_z 0] _ _ from ?_)
    refine P_aw_op (L' := [.ref (w.2.2 6), P_z 0, P_un]) (st' := []) P_i42_13 rfl (show P_aw _ _ _ 14 [.ref (w.2.2 6), P_z 0, P_un] [] _ _ from ?_)
    refine P_aw_op (L' := [.ref (w.2.2 6), P_z 0, P_un]) (st' := [P_z 0]) P_i42_14 rfl (show P_aw _ _ _ 15 [.ref (w.2.2 6), P_z 0, P_un] [P_z 0] _ _ from ?_)
    refine P_aw_op (L' := [.ref (w.2.2 6), P_z 0, P_z 0]) (st' := []) P_i42_15 rfl (show P_aw _ _ _ 16 [.ref (w.2.2 6), P_z 0, P_z 0] [] _ _ from ?_)
    exact s_gtl hw hF it.toNat 0 0 (by omega) (by omega) (by omega) (P_qz (by unfold A_gth; congr 1; split <;> omega) rfl q)
  · refine P_aw_icf P_i42_5 ⟨by omega, by omega⟩ ⟨by decide, by decide⟩ (P_ci_eqf (by omega)) (show P_aw _ _ _ 8 [.ref (w.2.2 6), P_un, P_un] [] _ _ from ?_)
    refine P_aw_op (L' := [.ref (w.2.2 6), P_un, P_un]) (st' := [P_z 1]) P_i42_8 rfl (show P_aw _ _ _ 9 [.ref (w.2.2 6), P_un, P_un] [P_z 1] _ _ from ?_)
    refine P_aw_goto P_i42_9 (show P_aw _ _ _ 13 [.ref (w.2.2 6), P_un, P_un] [P_z 1] _ _ from ?_)
    refine P_aw_op (L' := [.ref (w.2.2 6), P_z 1, P_un]) (st' := []) P_i42_13 rfl (show P_aw _ _ _ 14 [.ref (w.2.2 6), P_z 1, P_un] [] _ _ from ?_)
    refine P_aw_op (L' := [.ref (w.2.2 6), P_z 1, P_un]) (st' := [P_z 0]) P_i42_14 rfl (show P_aw _ _ _ 15 [.ref (w.2.2 6), P_z 1, P_un] [P_z 0] _ _ from ?_)
    refine P_aw_op (L' := [.ref (w.2.2 6), P_z 1, P_z 0]) (st' := []) P_i42_15 rfl (show P_aw _ _ _ 16 [.ref (w.2.2 6), P_z 1, P_z 0] [] _ _ from ?_)
    exact s_gtl hw hF it.toNat 0 1 (by omega) (by omega) (by omega) (P_qz (by unfold A_gth; congr 1; split <;> omega) rfl q)

/-- a meeting's number -/
def A_mn (ρ : Int → Int) : Int := ρ 0 + 14 * (ρ 1 + 14 * ρ 2)
theorem s_mtp {w : P_Lw} (hw : P_Cw w) {d : Nat} {Q : P_R → P_A → Prop} {σ : P_A} {ns : Int} {cl : Int → Int} {ρ : Int → Int} {it : Int} {ki ci : Int → Int} {gp oi lm : Int} (hF : A_F σ ns cl it ki ci gp oi lm) (hg0 : A_gth ki it gp = 0) (hρ : ∀ s, 0 ≤ s → s < 3 → σ 32 s.toNat = ρ s ∧ 0 ≤ ρ s ∧ ρ s ≤ 13) {sz rd ck : Int} (hsz : σ 31 14 = sz) (hs0 : 0 ≤ sz ∧ sz ≤ 1000000000) (hrd : σ 31 5 = rd) (hck : σ 31 6 = ck) (q : ∀ σ', (∀ a b, ¬ (37 ≤ a ∧ a ≤ 39 ∧ b = sz.toNat) → ¬ (a = 31 ∧ b = 14) → σ' a b = σ a b) → σ' 31 14 = sz + 1 → (sz < 2744 → σ' 37 sz.toNat = A_mn ρ ∧ σ' 38 sz.toNat = rd ∧ σ' 39 sz.toNat = ck) → Q (.inl none) σ') : P_aw w (d + 4) 9 0 [.ref (w.2.2 31)] [] σ Q := by
  refine P_aw_op (L' := [.ref (w.2.2 31)]) (st' := [.ref (w.2.2 31)]) P_i9_0 rfl (show P_aw _ _ _ 1 [.ref (w.2.2 31)] [.ref (w.2.2 31)] _ _ from ?_)
  refine P_aw_getR P_i9_1 (hw.2.1 31 (by decide)) (hw.s rfl) rfl rfl (show P_aw _ _ _ 4 [.ref (w.2.2 31)] [.ref (w.2.2 6)] _ _ from ?_)
  have hp1 := A_gth_rg (ki := ki) (it := it) (gp := gp)
  refine P_aw_call P_i9_4 rfl rfl (fun _ => rfl) rfl rfl rfl rfl (y2 := 42) (as := [.ref (w.2.2 6)]) (r0 := []) (P_inv_v (hw.2.1 6 (by decide)) (hw.s rfl) rfl rfl) (Nat.le_of_ble_eq_true rfl) (by decide) rfl (Nat.le_of_ble_eq_true rfl) (s_gth hw hF ?_)
  show P_aw _ _ _ 7 [.ref (w.2.2 31)] [P_z (A_gth ki it gp)] _ _
  refine P_aw_izt P_i9_7 ⟨by omega, by omega⟩ (P_ci_eqt (by omega)) (show P_aw _ _ _ 33 [.ref (w.2.2 31)] [] _ _ from ?_)
  refine P_aw_op (L' := [.ref (w.2.2 31)]) (st' := [.ref (w.2.2 31)]) P_i9_33 rfl (show P_aw _ _ _ 34 [.ref (w.2.2 31)] [.ref (w.2.2 31)] _ _ from ?_)
  refine P_aw_getR P_i9_34 (hw.2.1 31 (by decide)) (hw.s rfl) rfl rfl (show P_aw _ _ _ 37 [.ref (w.2.2 31)] [.ref (w.2.2 37)] _ _ from ?_)
  refine P_aw_op (L' := [.ref (w.2.2 31)]) (st' := [.ref (w.2.2 31), .ref (w.2.2 37)]) P_i9_37 rfl (show P_aw _ _ _ 38 [.ref (w.2.2 31)] [.ref (w.2.2 31), .ref (w.2.2 37)] _ _ from ?_)
  refine P_aw_getv P_i9_38 (hw.2.1 31 (by decide)) (hw.s rfl) rfl rfl (hsz) (show P_aw _ _ _ 41 [.ref (w.2.2 31)] [P_z sz, .ref (w.2.2 37)] _ _ from ?_)
  refine P_aw_op (L' := [.ref (w.2.2 31)]) (st' := [.ref (w.2.2 31), P_z sz, .ref (w.2.2 37)]) P_i9_41 rfl (show P_aw _ _ _ 42 [.ref (w.2.2 31)] [.ref (w.2.2 31), P_z sz, .ref (w.2.2 37)] _ _ from ?_)
  refine P_aw_call P_i9_42 rfl rfl (fun _ => rfl) rfl rfl rfl rfl (y2 := 132) (as := [.ref (w.2.2 31)]) (r0 := [P_z sz, .ref (w.2.2 37)]) (P_inv_v (hw.2.1 31 (by decide)) (hw.s rfl) rfl rfl) (Nat.le_of_ble_eq_true rfl) (by decide) rfl (Nat.le_of_ble_eq_true rfl) (show P_aw _ _ _ 0 [.ref (w.2.2 31)] [] _ _ from ?_)
  refine P_aw_op (L' := [.ref (w.2.2 31)]) (st' := [.ref (w.2.2 31)]) P_i132_0 rfl (show P_aw _ _ _ 1 [.ref (w.2.2 31)] [.ref (w.2.2 31)] _ _ from ?_)
  refine P_aw_getR P_i132_1 (hw.2.1 31 (by decide)) (hw.s rfl) rfl rfl (show P_aw _ _ _ 4 [.ref (w.2.2 31)] [.ref (w.2.2 32)] _ _ from ?_)
  refine P_aw_op (L' := [.ref (w.2.2 31)]) (st' := [P_z 0, .ref (w.2.2 32)]) P_i132_4 rfl (show P_aw _ _ _ 5 [.ref (w.2.2 31)] [P_z 0, .ref (w.2.2 32)] _ _ from ?_)
  refine P_aw_call P_i132_5 rfl rfl (fun _ => rfl) rfl rfl rfl rfl (y2 := 178) (as := [.ref (w.2.2 32), P_z 0]) (r0 := []) (fun _ _ => rfl) (Nat.le_of_ble_eq_true rfl) (by decide) rfl (Nat.le_of_ble_eq_true rfl) (show P_aw _ _ _ 0 [.ref (w.2.2 32), P_z 0] [] _ _ from ?_)
  refine P_aw_op (L' := [.ref (w.2.2 32), P_z 0]) (st' := [P_z 0]) P_i178_0 rfl (show P_aw _ _ _ 1 [.ref (w.2.2 32), P_z 0] [P_z 0] _ _ from ?_)
  refine P_aw_izf P_i178_1 ⟨by decide, by decide⟩ (P_ci_ltf (by omega)) (show P_aw _ _ _ 4 [.ref (w.2.2 32), P_z 0] [] _ _ from ?_)
  refine P_aw_op (L' := [.ref (w.2.2 32), P_z 0]) (st' := [P_z 0]) P_i178_4 rfl (show P_aw _ _ _ 5 [.ref (w.2.2 32), P_z 0] [P_z 0] _ _ from ?_)
  refine P_aw_op (L' := [.ref (w.2.2 32), P_z 0]) (st' := [.ref (w.2.2 32), P_z 0]) P_i178_5 rfl (show P_aw _ _ _ 6 [.ref (w.2.2 32), P_z 0] [.ref (w.2.2 32), P_z 0] _ _ from ?_)
  refine P_aw_alen P_i178_6 (hw.2.1 32 (by decide)) (hw.s rfl) (show P_aw _ _ _ 7 [.ref (w.2.2 32), P_z 0] [P_z 3, P_z 0] _ _ from ?_)
  refine P_aw_icf P_i178_7 ⟨by decide, by decide⟩ ⟨by decide, by decide⟩ (P_ci_gef (by omega)) (show P_aw _ _ _ 10 [.ref (w.2.2 32), P_z 0] [] _ _ from ?_)
  refine P_aw_op (L' := [.ref (w.2.2 32), P_z 0]) (st' := [.ref (w.2.2 32)]) P_i178_10 rfl (show P_aw _ _ _ 11 [.ref (w.2.2 32), P_z 0] [.ref (w.2.2 32)] _ _ from ?_)
  refine P_aw_op (L' := [.ref (w.2.2 32), P_z 0]) (st' := [P_z 0, .ref (w.2.2 32)]) P_i178_11 rfl (show P_aw _ _ _ 12 [.ref (w.2.2 32), P_z 0] [P_z 0, .ref (w.2.2 32)] _ _ from ?_)
  have hg2 := (hρ 0 (by omega) (by omega)).2
  refine P_aw_aldv P_i178_12 (hw.2.1 32 (by decide)) (hw.s rfl) (by omega) (by omega) (by decide) ((hρ 0 (by omega) (by omega)).1) (show P_aw _ _ _ 13 [.ref (w.2.2 32), P_z 0] [P_z (ρ 0)] _ _ from ?_)
  refine P_aw_goto P_i178_13 (show P_aw _ _ _ 17 [.ref (w.2.2 32), P_z 0] [P_z (ρ 0)] _ _ from ?_)
  refine P_aw_end P_i178_17 rfl rfl (fun _ => rfl) rfl ?_
  show P_aw _ _ _ 8 [.ref (w.2.2 31)] [P_z (ρ 0)] _ _
  refine P_aw_op (L' := [.ref (w.2.2 31)]) (st' := [P_z 14, P_z (ρ 0)]) P_i132_8 (P_o_bi (by decide)) (show P_aw _ _ _ 10 [.ref (w.2.2 31)] [P_z 14, P_z (ρ 0)] _ _ from ?_)
  refine P_aw_op (L' := [.ref (w.2.2 31)]) (st' := [.ref (w.2.2 31), P_z 14, P_z (ρ 0)]) P_i132_10 rfl (show P_aw _ _ _ 11 [.ref (w.2.2 31)] [.ref (w.2.2 31), P_z 14, P_z (ρ 0)] _ _ from ?_)
  refine P_aw_getR P_i132_11 (hw.2.1 31 (by decide)) (hw.s rfl) rfl rfl (show P_aw _ _ _ 14 [.ref (w.2.2 31)] [.ref (w.2.2 32), P_z 14, P_z (ρ 0)] _ _ from ?_)
  refine P_aw_op (L' := [.ref (w.2.2 31)]) (st' := [P_z 1, .ref (w.2.2 32), P_z 14, P_z (ρ 0)]) P_i132_14 rfl (show P_aw _ _ _ 15 [.ref (w.2.2 31)] [P_z 1, .ref (w.2.2 32), P_z 14, P_z (ρ 0)] _ _ from ?_)
  refine P_aw_call P_i132_15 rfl rfl (fun _ => rfl) rfl rfl rfl rfl (y2 := 178) (as := [.ref (w.2.2 32), P_z 1]) (r0 := [P_z 14, P_z (ρ 0)]) (fun _ _ => rfl) (Nat.le_of_ble_eq_true rfl) (by decide) rfl (Nat.le_of_ble_eq_true rfl) (show P_aw _ _ _ 0 [.ref (w.2.2 32), P_z 1] [] _ _ from ?_)
  refine P_aw_op (L' := [.ref (w.2.2 32), P_z 1]) (st' := [P_z 1]) P_i178_0 rfl (show P_aw _ _ _ 1 [.ref (w.2.2 32), P_z 1] [P_z 1] _ _ from ?_)
  refine P_aw_izf P_i178_1 ⟨by decide, by decide⟩ (P_ci_ltf (by omega)) (show P_aw _ _ _ 4 [.ref (w.2.2 32), P_z 1] [] _ _ from ?_)
  refine P_aw_op (L' := [.ref (w.2.2 32), P_z 1]) (st' := [P_z 1]) P_i178_4 rfl (show P_aw _ _ _ 5 [.ref (w.2.2 32), P_z 1] [P_z 1] _ _ from ?_)
  refine P_aw_op (L' := [.ref (w.2.2 32), P_z 1]) (st' := [.ref (w.2.2 32), P_z 1]) P_i178_5 rfl (show P_aw _ _ _ 6 [.ref (w.2.2 32), P_z 1] [.ref (w.2.2 32), P_z 1] _ _ from ?_)
  refine P_aw_alen P_i178_6 (hw.2.1 32 (by decide)) (hw.s rfl) (show P_aw _ _ _ 7 [.ref (w.2.2 32), P_z 1] [P_z 3, P_z 1] _ _ from ?_)
  refine P_aw_icf P_i178_7 ⟨by decide, by decide⟩ ⟨by decide, by decide⟩ (P_ci_gef (by omega)) (show P_aw _ _ _ 10 [.ref (w.2.2 32), P_z 1] [] _ _ from ?_)
  refine P_aw_op (L' := [.ref (w.2.2 32), P_z 1]) (st' := [.ref (w.2.2 32)]) P_i178_10 rfl (show P_aw _ _ _ 11 [.ref (w.2.2 32), P_z 1] [.ref (w.2.2 32)] _ _ from ?_)
  refine P_aw_op (L' := [.ref (w.2.2 32), P_z 1]) (st' := [P_z 1, .ref (w.2.2 32)]) P_i178_11 rfl (show P_aw _ _ _ 12 [.ref (w.2.2 32), P_z 1] [P_z 1, .ref (w.2.2 32)] _ _ from ?_)
  have hg3 := (hρ 1 (by omega) (by omega)).2
  refine P_aw_aldv P_i178_12 (hw.2.1 32 (by decide)) (hw.s rfl) (by omega) (by omega) (by decide) ((hρ 1 (by omega) (by omega)).1) (show P_aw _ _ _ 13 [.ref (w.2.2 32), P_z 1] [P_z (ρ 1)] _ _ from ?_)
  refine P_aw_goto P_i178_13 (show P_aw _ _ _ 17 [.ref (w.2.2 32), P_z 1] [P_z (ρ 1)] _ _ from ?_)
  refine P_aw_end P_i178_17 rfl rfl (fun _ => rfl) rfl ?_
  show P_aw _ _ _ 18 [.ref (w.2.2 31)] [P_z (ρ 1), P_z 14, P_z (ρ 0)] _ _
  refine P_aw_op (L' := [.ref (w.2.2 31)]) (st' := [P_z 14, P_z (ρ 1), P_z 14, P_z (ρ 0)]) P_i132_18 (P_o_bi (by decide)) (show P_aw _ _ _ 20 [.ref (w.2.2 31)] [P_z 14, P_z (ρ 1), P_z 14, P_z (ρ 0)] _ _ from ?_)
  refine P_aw_op (L' := [.ref (w.2.2 31)]) (st' := [.ref (w.2.2 31), P_z 14, P_z (ρ 1), P_z 14, P_z (ρ 0)]) P_i132_20 rfl (show P_aw _ _ _ 21 [.ref (w.2.2 31)] [.ref (w.2.2 31), P_z 14, P_z (ρ 1), P_z 14, P_z (ρ 0)] _ _ from ?_)
  refine P_aw_getR P_i132_21 (hw.2.1 31 (by decide)) (hw.s rfl) rfl rfl (show P_aw _ _ _ 24 [.ref (w.2.2 31)] [.ref (w.2.2 32), P_z 14, P_z (ρ 1), P_z 14, P_z (ρ 0)] _ _ from ?_)
  refine P_aw_op (L' := [.ref (w.2.2 31)]) (st' := [P_z 2, .ref (w.2.2 32), P_z 14, P_z (ρ 1), P_z 14, P_z (ρ 0)]) P_i132_24 rfl (show P_aw _ _ _ 25 [.ref (w.2.2 31)] [P_z 2, .ref (w.2.2 32), P_z 14, P_z (ρ 1), P_z 14, P_z (ρ 0)] _ _ from ?_)
  refine P_aw_call P_i132_25 rfl rfl (fun _ => rfl) rfl rfl rfl rfl (y2 := 178) (as := [.ref (w.2.2 32), P_z 2]) (r0 := [P_z 14, P_z (ρ 1), P_z 14, P_z (ρ 0)]) (fun _ _ => rfl) (Nat.le_of_ble_eq_true rfl) (by decide) rfl (Nat.le_of_ble_eq_true rfl) (show P_aw _ _ _ 0 [.ref (w.2.2 32), P_z 2] [] _ _ from ?_)
  refine P_aw_op (L' := [.ref (w.2.2 32), P_z 2]) (st' := [P_z 2]) P_i178_0 rfl (show P_aw _ _ _ 1 [.ref (w.2.2 32), P_z 2] [P_z 2] _ _ from ?_)
  refine P_aw_izf P_i178_1 ⟨by decide, by decide⟩ (P_ci_ltf (by omega)) (show P_aw _ _ _ 4 [.ref (w.2.2 32), P_z 2] [] _ _ from ?_)
  refine P_aw_op (L' := [.ref (w.2.2 32), P_z 2]) (st' := [P_z 2]) P_i178_4 rfl (show P_aw _ _ _ 5 [.ref (w.2.2 32), P_z 2] [P_z 2] _ _ from ?_)
  refine P_aw_op (L' := [.ref (w.2.2 32), P_z 2]) (st' := [.ref (w.2.2 32), P_z 2]) P_i178_5 rfl (show P_aw _ _ _ 6 [.ref (w.2.2 32), P_z 2] [.ref (w.2.2 32), P_z 2] _ _ from ?_)
  refine P_aw_alen P_i178_6 (hw.2.1 32 (by decide)) (hw.s rfl) (show P_aw _ _ _ 7 [.ref (w.2.2 32), P_z 2] [P_z 3, P_z 2] _ _ from ?_)
  refine P_aw_icf P_i178_7 ⟨by decide, by decide⟩ ⟨by decide, by decide⟩ (P_ci_gef (by omega)) (show P_aw _ _ _ 10 [.ref (w.2.2 32), P_z 2] [] _ _ from ?_)
  refine P_aw_op (L' := [.ref (w.2.2 32), P_z 2]) (st' := [.ref (w.2.2 32)]) P_i178_10 rfl (show P_aw _ _ _ 11 [.ref (w.2.2 32), P_z 2] [.ref (w.2.2 32)] _ _ from ?_)
  refine P_aw_op (L' := [.ref (w.2.2 32), P_z 2]) (st' := [P_z 2, .ref (w.2.2 32)]) P_i178_11 rfl (show P_aw _ _ _ 12 [.ref (w.2.2 32), P_z 2] [P_z 2, .ref (w.2.2 32)] _ _ from ?_)
  have hg4 := (hρ 2 (by omega) (by omega)).2
  refine P_aw_aldv P_i178_12 (hw.2.1 32 (by decide)) (hw.s rfl) (by omega) (by omega) (by decide) ((hρ 2 (by omega) (by omega)).1) (show P_aw _ _ _ 13 [.ref (w.2.2 32), P_z 2] [P_z (ρ 2)] _ _ from ?_)
  refine P_aw_goto P_i178_13 (show P_aw _ _ _ 17 [.ref (w.2.2 32), P_z 2] [P_z (ρ 2)] _ _ from ?_)
  refine P_aw_end P_i178_17 rfl rfl (fun _ => rfl) rfl ?_
  show P_aw _ _ _ 28 [.ref (w.2.2 31)] [P_z (ρ 2), P_z 14, P_z (ρ 1), P_z 14, P_z (ρ 0)] _ _
  refine P_aw_op (L' := [.ref (w.2.2 31)]) (st' := [P_z (14 * (ρ 2)), P_z (ρ 1), P_z 14, P_z (ρ 0)]) P_i132_28 P_o_imul (show P_aw _ _ _ 29 [.ref (w.2.2 31)] [P_z (14 * (ρ 2)), P_z (ρ 1), P_z 14, P_z (ρ 0)] _ _ from ?_)
  refine P_aw_op (L' := [.ref (w.2.2 31)]) (st' := [P_z ((ρ 1) + (14 * (ρ 2))), P_z 14, P_z (ρ 0)]) P_i132_29 P_o_iadd (show P_aw _ _ _ 30 [.ref (w.2.2 31)] [P_z ((ρ 1) + (14 * (ρ 2))), P_z 14, P_z (ρ 0)] _ _ from ?_)
  refine P_aw_op (L' := [.ref (w.2.2 31)]) (st' := [P_z (14 * ((ρ 1) + (14 * (ρ 2)))), P_z (ρ 0)]) P_i132_30 P_o_imul (show P_aw _ _ _ 31 [.ref (w.2.2 31)] [P_z (14 * ((ρ 1) + (14 * (ρ 2)))), P_z (ρ 0)] _ _ from ?_)
  refine P_aw_op (L' := [.ref (w.2.2 31)]) (st' := [P_z ((ρ 0) + (14 * ((ρ 1) + (14 * (ρ 2)))))]) P_i132_31 P_o_iadd (show P_aw _ _ _ 32 [.ref (w.2.2 31)] [P_z ((ρ 0) + (14 * ((ρ 1) + (14 * (ρ 2)))))] _ _ from ?_)
  refine P_aw_end P_i132_32 rfl rfl (fun _ => rfl) rfl ?_
  show P_aw _ _ _ 45 [.ref (w.2.2 31)] [P_z ((ρ 0) + (14 * ((ρ 1) + (14 * (ρ 2))))), P_z sz, .ref (w.2.2 37)] _ _
  refine P_aw_call P_i9_45 rfl rfl (fun _ => rfl) rfl rfl rfl rfl (y2 := 179) (as := [.ref (w.2.2 37), P_z sz, P_z ((ρ 0) + (14 * ((ρ 1) + (14 * (ρ 2)))))]) (r0 := []) (fun _ _ => rfl) (Nat.le_of_ble_eq_true rfl) (by decide) rfl (Nat.le_of_ble_eq_true rfl) (show P_aw _ _ _ 0 [.ref (w.2.2 37), P_z sz, P_z ((ρ 0) + (14 * ((ρ 1) + (14 * (ρ 2)))))] [] _ _ from ?_)
  refine P_aw_op (L' := [.ref (w.2.2 37), P_z sz, P_z ((ρ 0) + (14 * ((ρ 1) + (14 * (ρ 2)))))]) (st' := [P_z sz]) P_i179_0 rfl (show P_aw _ _ _ 1 [.ref (w.2.2 37), P_z sz, P_z ((ρ 0) + (14 * ((ρ 1) + (14 * (ρ 2)))))] [P_z sz] _ _ from ?_)
  refine P_aw_izf P_i179_1 ⟨by omega, by omega⟩ (P_ci_ltf (by omega)) (show P_aw _ _ _ 4 [.ref (w.2.2 37), P_z sz, P_z ((ρ 0) + (14 * ((ρ 1) + (14 * (ρ 2)))))] [] _ _ from ?_)
  refine P_aw_op (L' := [.ref (w.2.2 37), P_z sz, P_z ((ρ 0) + (14 * ((ρ 1) + (14 * (ρ 2)))))]) (st' := [P_z sz]) P_i179_4 rfl (show P_aw _ _ _ 5 [.ref (w.2.2 37), P_z sz, P_z ((ρ 0) + (14 * ((ρ 1) + (14 * (ρ 2)))))] [P_z sz] _ _ from ?_)
  refine P_aw_op (L' := [.ref (w.2.2 37), P_z sz, P_z ((ρ 0) + (14 * ((ρ 1) + (14 * (ρ 2)))))]) (st' := [.ref (w.2.2 37), P_z sz]) P_i179_5 rfl (show P_aw _ _ _ 6 [.ref (w.2.2 37), P_z sz, P_z ((ρ 0) + (14 * ((ρ 1) + (14 * (ρ 2)))))] [.ref (w.2.2 37), P_z sz] _ _ from ?_)
  refine P_aw_alen P_i179_6 (hw.2.1 37 (by decide)) (hw.s rfl) (show P_aw _ _ _ 7 [.ref (w.2.2 37), P_z sz, P_z ((ρ 0) + (14 * ((ρ 1) + (14 * (ρ 2)))))] [P_z 2744, P_z sz] _ _ from ?_)
  rcases Int.lt_or_le sz 2744 with hc5 | hc5
  · refine P_aw_icf P_i179_7 ⟨by omega, by omega⟩ ⟨by decide, by decide⟩ (P_ci_gef (by omega)) (show P_aw _ _ _ 10 [.ref (w.2.2 37), P_z sz, P_z ((ρ 0) + (14 * ((ρ 1) + (14 * (ρ 2)))))] [] _ _ from ?_)
    refine P_aw_op (L' := [.ref (w.2.2 37), P_z sz, P_z ((ρ 0) + (14 * ((ρ 1) + (14 * (ρ 2)))))]) (st' := [.ref (w.2.2 37)]) P_i179_10 rfl (show P_aw _ _ _ 11 [.ref (w.2.2 37), P_z sz, P_z ((ρ 0) + (14 * ((ρ 1) + (14 * (ρ 2)))))] [.ref (w.2.2 37)] _ _ from ?_)
    refine P_aw_op (L' := [.ref (w.2.2 37), P_z sz, P_z ((ρ 0) + (14 * ((ρ 1) + (14 * (ρ 2)))))]) (st' := [P_z sz, .ref (w.2.2 37)]) P_i179_11 rfl (show P_aw _ _ _ 12 [.ref (w.2.2 37), P_z sz, P_z ((ρ 0) + (14 * ((ρ 1) + (14 * (ρ 2)))))] [P_z sz, .ref (w.2.2 37)] _ _ from ?_)
    refine P_aw_op (L' := [.ref (w.2.2 37), P_z sz, P_z ((ρ 0) + (14 * ((ρ 1) + (14 * (ρ 2)))))]) (st' := [P_z ((ρ 0) + (14 * ((ρ 1) + (14 * (ρ 2))))), P_z sz, .ref (w.2.2 37)]) P_i179_12 rfl (show P_aw _ _ _ 13 [.ref (w.2.2 37), P_z sz, P_z ((ρ 0) + (14 * ((ρ 1) + (14 * (ρ 2)))))] [P_z ((ρ 0) + (14 * ((ρ 1) + (14 * (ρ 2))))), P_z sz, .ref (w.2.2 37)] _ _ from ?_)
    refine P_aw_ast P_i179_13 (hw.2.1 37 (by decide)) (hw.s rfl) (by omega) (by omega) (by decide) (show P_aw _ _ _ 14 [.ref (w.2.2 37), P_z sz, P_z ((ρ 0) + (14 * ((ρ 1) + (14 * (ρ 2)))))] [] _ _ from ?_)
    refine P_aw_end P_i179_14 rfl rfl (fun _ => rfl) rfl ?_
    show P_aw _ _ _ 48 [.ref (w.2.2 31)] [] _ _
    refine P_aw_op (L' := [.ref (w.2.2 31)]) (st' := [.ref (w.2.2 31)]) P_i9_48 rfl (show P_aw _ _ _ 49 [.ref (w.2.2 31)] [.ref (w.2.2 31)] _ _ from ?_)
    refine P_aw_getR P_i9_49 (hw.2.1 31 (by decide)) (hw.s rfl) rfl rfl (show P_aw _ _ _ 52 [.ref (w.2.2 31)] [.ref (w.2.2 38)] _ _ from ?_)
    refine P_aw_op (L' := [.ref (w.2.2 31)]) (st' := [.ref (w.2.2 31), .ref (w.2.2 38)]) P_i9_52 rfl (show P_aw _ _ _ 53 [.ref (w.2.2 31)] [.ref (w.2.2 31), .ref (w.2.2 38)] _ _ from ?_)
    refine P_aw_getv P_i9_53 (hw.2.1 31 (by decide)) (hw.s rfl) rfl rfl ((P_u2_ne (by omega)).trans (hsz)) (show P_aw _ _ _ 56 [.ref (w.2.2 31)] [P_z sz, .ref (w.2.2 38)] _ _ from ?_)
    refine P_aw_op (L' := [.ref (w.2.2 31)]) (st' := [.ref (w.2.2 31), P_z sz, .ref (w.2.2 38)]) P_i9_56 rfl (show P_aw _ _ _ 57 [.ref (w.2.2 31)] [.ref (w.2.2 31), P_z sz, .ref (w.2.2 38)] _ _ from ?_)
    refine P_aw_call P_i9_57 rfl rfl (fun _ => rfl) rfl rfl rfl rfl (y2 := 129) (as := [.ref (w.2.2 31)]) (r0 := [P_z sz, .ref (w.2.2 38)]) (P_inv_v (hw.2.1 31 (by decide)) (hw.s rfl) rfl rfl) (Nat.le_of_ble_eq_true rfl) (by decide) rfl (Nat.le_of_ble_eq_true rfl) (show P_aw _ _ _ 0 [.ref (w.2.2 31)] [] _ _ from ?_)
    refine P_aw_op (L' := [.ref (w.2.2 31)]) (st' := [.ref (w.2.2 31)]) P_i129_0 rfl (show P_aw _ _ _ 1 [.ref (w.2.2 31)] [.ref (w.2.2 31)] _ _ from ?_)
    refine P_aw_getv P_i129_1 (hw.2.1 31 (by decide)) (hw.s rfl) rfl rfl ((P_u2_ne (by omega)).trans (hrd)) (show P_aw _ _ _ 4 [.ref (w.2.2 31)] [P_z rd] _ _ from ?_)
    refine P_aw_end P_i129_4 rfl rfl (fun _ => rfl) rfl ?_
    show P_aw _ _ _ 60 [.ref (w.2.2 31)] [P_z rd, P_z sz, .ref (w.2.2 38)] _ _
    refine P_aw_call P_i9_60 rfl rfl (fun _ => rfl) rfl rfl rfl rfl (y2 := 179) (as := [.ref (w.2.2 38), P_z sz, P_z rd]) (r0 := []) (fun _ _ => rfl) (Nat.le_of_ble_eq_true rfl) (by decide) rfl (Nat.le_of_ble_eq_true rfl) (show P_aw _ _ _ 0 [.ref (w.2.2 38), P_z sz, P_z rd] [] _ _ from ?_)
    refine P_aw_op (L' := [.ref (w.2.2 38), P_z sz, P_z rd]) (st' := [P_z sz]) P_i179_0 rfl (show P_aw _ _ _ 1 [.ref (w.2.2 38), P_z sz, P_z rd] [P_z sz] _ _ from ?_)
    refine P_aw_izf P_i179_1 ⟨by omega, by omega⟩ (P_ci_ltf (by omega)) (show P_aw _ _ _ 4 [.ref (w.2.2 38), P_z sz, P_z rd] [] _ _ from ?_)
    refine P_aw_op (L' := [.ref (w.2.2 38), P_z sz, P_z rd]) (st' := [P_z sz]) P_i179_4 rfl (show P_aw _ _ _ 5 [.ref (w.2.2 38), P_z sz, P_z rd] [P_z sz] _ _ from ?_)
    refine P_aw_op (L' := [.ref (w.2.2 38), P_z sz, P_z rd]) (st' := [.ref (w.2.2 38), P_z sz]) P_i179_5 rfl (show P_aw _ _ _ 6 [.ref (w.2.2 38), P_z sz, P_z rd] [.ref (w.2.2 38), P_z sz] _ _ from ?_)
    refine P_aw_alen P_i179_6 (hw.2.1 38 (by decide)) (hw.s rfl) (show P_aw _ _ _ 7 [.ref (w.2.2 38), P_z sz, P_z rd] [P_z 2744, P_z sz] _ _ from ?_)
    refine P_aw_icf P_i179_7 ⟨by omega, by omega⟩ ⟨by decide, by decide⟩ (P_ci_gef (by omega)) (show P_aw _ _ _ 10 [.ref (w.2.2 38), P_z sz, P_z rd] [] _ _ from ?_)
    refine P_aw_op (L' := [.ref (w.2.2 38), P_z sz, P_z rd]) (st' := [.ref (w.2.2 38)]) P_i179_10 rfl (show P_aw _ _ _ 11 [.ref (w.2.2 38), P_z sz, P_z rd] [.ref (w.2.2 38)] _ _ from ?_)
    refine P_aw_op (L' := [.ref (w.2.2 38), P_z sz, P_z rd]) (st' := [P_z sz, .ref (w.2.2 38)]) P_i179_11 rfl (show P_aw _ _ _ 12 [.ref (w.2.2 38), P_z sz, P_z rd] [P_z sz, .ref (w.2.2 38)] _ _ from ?_)
    refine P_aw_op (L' := [.ref (w.2.2 38), P_z sz, P_z rd]) (st' := [P_z rd, P_z sz, .ref (w.2.2 38)]) P_i179_12 rfl (show P_aw _ _ _ 13 [.ref (w.2.2 38), P_z sz, P_z rd] [P_z rd, P_z sz, .ref (w.2.2 38)] _ _ from ?_)
    refine P_aw_ast P_i179_13 (hw.2.1 38 (by decide)) (hw.s rfl) (by omega) (by omega) (by decide) (show P_aw _ _ _ 14 [.ref (w.2.2 38), P_z sz, P_z rd] [] _ _ from ?_)
    refine P_aw_end P_i179_14 rfl rfl (fun _ => rfl) rfl ?_
    show P_aw _ _ _ 63 [.ref (w.2.2 31)] [] _ _
    refine P_aw_op (L' := [.ref (w.2.2 31)]) (st' := [.ref (w.2.2 31)]) P_i9_63 rfl (show P_aw _ _ _ 64 [.ref (w.2.2 31)] [.ref (w.2.2 31)] _ _ from ?_)
    refine P_aw_getR P_i9_64 (hw.2.1 31 (by decide)) (hw.s rfl) rfl rfl (show P_aw _ _ _ 67 [.ref (w.2.2 31)] [.ref (w.2.2 39)] _ _ from ?_)
    refine P_aw_op (L' := [.ref (w.2.2 31)]) (st' := [.ref (w.2.2 31), .ref (w.2.2 39)]) P_i9_67 rfl (show P_aw _ _ _ 68 [.ref (w.2.2 31)] [.ref (w.2.2 31), .ref (w.2.2 39)] _ _ from ?_)
    refine P_aw_getv P_i9_68 (hw.2.1 31 (by decide)) (hw.s rfl) rfl rfl ((P_u2_ne (by omega)).trans ((P_u2_ne (by omega)).trans (hsz))) (show P_aw _ _ _ 71 [.ref (w.2.2 31)] [P_z sz, .ref (w.2.2 39)] _ _ from ?_)
    refine P_aw_op (L' := [.ref (w.2.2 31)]) (st' := [.ref (w.2.2 31), P_z sz, .ref (w.2.2 39)]) P_i9_71 rfl (show P_aw _ _ _ 72 [.ref (w.2.2 31)] [.ref (w.2.2 31), P_z sz, .ref (w.2.2 39)] _ _ from ?_)
    refine P_aw_call P_i9_72 rfl rfl (fun _ => rfl) rfl rfl rfl rfl (y2 := 130) (as := [.ref (w.2.2 31)]) (r0 := [P_z sz, .ref (w.2.2 39)]) (P_inv_v (hw.2.1 31 (by decide)) (hw.s rfl) rfl rfl) (Nat.le_of_ble_eq_true rfl) (by decide) rfl (Nat.le_of_ble_eq_true rfl) (show P_aw _ _ _ 0 [.ref (w.2.2 31)] [] _ _ from ?_)
    refine P_aw_op (L' := [.ref (w.2.2 31)]) (st' := [.ref (w.2.2 31)]) P_i130_0 rfl (show P_aw _ _ _ 1 [.ref (w.2.2 31)] [.ref (w.2.2 31)] _ _ from ?_)
    refine P_aw_getv P_i130_1 (hw.2.1 31 (by decide)) (hw.s rfl) rfl rfl ((P_u2_ne (by omega)).trans ((P_u2_ne (by omega)).trans (hck))) (show P_aw _ _ _ 4 [.ref (w.2.2 31)] [P_z ck] _ _ from ?_)
    refine P_aw_end P_i130_4 rfl rfl (fun _ => rfl) rfl ?_
    show P_aw _ _ _ 75 [.ref (w.2.2 31)] [P_z ck, P_z sz, .ref (w.2.2 39)] _ _
    refine P_aw_call P_i9_75 rfl rfl (fun _ => rfl) rfl rfl rfl rfl (y2 := 179) (as := [.ref (w.2.2 39), P_z sz, P_z ck]) (r0 := []) (fun _ _ => rfl) (Nat.le_of_ble_eq_true rfl) (by decide) rfl (Nat.le_of_ble_eq_true rfl) (show P_aw _ _ _ 0 [.ref (w.2.2 39), P_z sz, P_z ck] [] _ _ from ?_)
    refine P_aw_op (L' := [.ref (w.2.2 39), P_z sz, P_z ck]) (st' := [P_z sz]) P_i179_0 rfl (show P_aw _ _ _ 1 [.ref (w.2.2 39), P_z sz, P_z ck] [P_z sz] _ _ from ?_)
    refine P_aw_izf P_i179_1 ⟨by omega, by omega⟩ (P_ci_ltf (by omega)) (show P_aw _ _ _ 4 [.ref (w.2.2 39), P_z sz, P_z ck] [] _ _ from ?_)
    refine P_aw_op (L' := [.ref (w.2.2 39), P_z sz, P_z ck]) (st' := [P_z sz]) P_i179_4 rfl (show P_aw _ _ _ 5 [.ref (w.2.2 39), P_z sz, P_z ck] [P_z sz] _ _ from ?_)
    refine P_aw_op (L' := [.ref (w.2.2 39), P_z sz, P_z ck]) (st' := [.ref (w.2.2 39), P_z sz]) P_i179_5 rfl (show P_aw _ _ _ 6 [.ref (w.2.2 39), P_z sz, P_z ck] [.ref (w.2.2 39), P_z sz] _ _ from ?_)
    refine P_aw_alen P_i179_6 (hw.2.1 39 (by decide)) (hw.s rfl) (show P_aw _ _ _ 7 [.ref (w.2.2 39), P_z sz, P_z ck] [P_z 2744, P_z sz] _ _ from ?_)
    refine P_aw_icf P_i179_7 ⟨by omega, by omega⟩ ⟨by decide, by decide⟩ (P_ci_gef (by omega)) (show P_aw _ _ _ 10 [.ref (w.2.2 39), P_z sz, P_z ck] [] _ _ from ?_)
    refine P_aw_op (L' := [.ref (w.2.2 39), P_z sz, P_z ck]) (st' := [.ref (w.2.2 39)]) P_i179_10 rfl (show P_aw _ _ _ 11 [.ref (w.2.2 39), P_z sz, P_z ck] [.ref (w.2.2 39)] _ _ from ?_)
    refine P_aw_op (L' := [.ref (w.2.2 39), P_z sz, P_z ck]) (st' := [P_z sz, .ref (w.2.2 39)]) P_i179_11 rfl (show P_aw _ _ _ 12 [.ref (w.2.2 39), P_z sz, P_z ck] [P_z sz, .ref (w.2.2 39)] _ _ from ?_)
    refine P_aw_op (L' := [.ref (w.2.2 39), P_z sz, P_z ck]) (st' := [P_z ck, P_z sz, .ref (w.2.2 39)]) P_i179_12 rfl (show P_aw _ _ _ 13 [.ref (w.2.2 39), P_z sz, P_z ck] [P_z ck, P_z sz, .ref (w.2.2 39)] _ _ from ?_)
    refine P_aw_ast P_i179_13 (hw.2.1 39 (by decide)) (hw.s rfl) (by omega) (by omega) (by decide) (show P_aw _ _ _ 14 [.ref (w.2.2 39), P_z sz, P_z ck] [] _ _ from ?_)
    refine P_aw_end P_i179_14 rfl rfl (fun _ => rfl) rfl ?_
    show P_aw _ _ _ 78 [.ref (w.2.2 31)] [] _ _
    refine P_aw_op (L' := [.ref (w.2.2 31)]) (st' := [.ref (w.2.2 31)]) P_i9_78 rfl (show P_aw _ _ _ 79 [.ref (w.2.2 31)] [.ref (w.2.2 31)] _ _ from ?_)
    refine P_aw_op (L' := [.ref (w.2.2 31)]) (st' := [.ref (w.2.2 31), .ref (w.2.2 31)]) P_i9_79 rfl (show P_aw _ _ _ 80 [.ref (w.2.2 31)] [.ref (w.2.2 31), .ref (w.2.2 31)] _ _ from ?_)
    refine P_aw_getv P_i9_80 (hw.2.1 31 (by decide)) (hw.s rfl) rfl rfl ((P_u2_ne (by omega)).trans ((P_u2_ne (by omega)).trans ((P_u2_ne (by omega)).trans (hsz)))) (show P_aw _ _ _ 83 [.ref (w.2.2 31)] [P_z sz, .ref (w.2.2 31)] _ _ from ?_)
    refine P_aw_op (L' := [.ref (w.2.2 31)]) (st' := [P_z 1, P_z sz, .ref (w.2.2 31)]) P_i9_83 rfl (show P_aw _ _ _ 84 [.ref (w.2.2 31)] [P_z 1, P_z sz, .ref (w.2.2 31)] _ _ from ?_)
    refine P_aw_op (L' := [.ref (w.2.2 31)]) (st' := [P_z (sz + 1), .ref (w.2.2 31)]) P_i9_84 P_o_iadd (show P_aw _ _ _ 85 [.ref (w.2.2 31)] [P_z (sz + 1), .ref (w.2.2 31)] _ _ from ?_)
    refine P_aw_put P_i9_85 (hw.2.1 31 (by decide)) (hw.s rfl) rfl rfl rfl (show P_aw _ _ _ 88 [.ref (w.2.2 31)] [] _ _ from ?_)
    refine P_aw_end P_i9_88 rfl rfl (fun _ => rfl) rfl ?_
    exact q _ (fun a b h h2 => (P_u2_ne (by omega)).trans ((P_u2_ne (by omega)).trans ((P_u2_ne (by omega)).trans (P_u2_ne (by omega))))) P_u2_at (fun _ => ⟨(P_u2_ne (by omega)).trans ((P_u2_ne (by omega)).trans ((P_u2_ne (by omega)).trans P_u2_at)), (P_u2_ne (by omega)).trans ((P_u2_ne (by omega)).trans P_u2_at), (P_u2_ne (by omega)).trans P_u2_at⟩)
  · refine P_aw_ict P_i179_7 ⟨by omega, by omega⟩ ⟨by decide, by decide⟩ (P_ci_get (by omega)) (show P_aw _ _ _ 14 [.ref (w.2.2 37), P_z sz, P_z ((ρ 0) + (14 * ((ρ 1) + (14 * (ρ 2)))))] [] _ _ from ?_)
    refine P_aw_end P_i179_14 rfl rfl (fun _ => rfl) rfl ?_
    show P_aw _ _ _ 48 [.ref (w.2.2 31)] [] _ _
    refine P_aw_op (L' := [.ref (w.2.2 31)]) (st' := [.ref (w.2.2 31)]) P_i9_48 rfl (show P_aw _ _ _ 49 [.ref (w.2.2 31)] [.ref (w.2.2 31)] _ _ from ?_)
    refine P_aw_getR P_i9_49 (hw.2.1 31 (by decide)) (hw.s rfl) rfl rfl (show P_aw _ _ _ 52 [.ref (w.2.2 31)] [.ref (w.2.2 38)] _ _ from ?_)
    refine P_aw_op (L' := [.ref (w.2.2 31)]) (st' := [.ref (w.2.2 31), .ref (w.2.2 38)]) P_i9_52 rfl (show P_aw _ _ _ 53 [.ref (w.2.2 31)] [.ref (w.2.2 31), .ref (w.2.2 38)] _ _ from ?_)
    refine P_aw_getv P_i9_53 (hw.2.1 31 (by decide)) (hw.s rfl) rfl rfl (hsz) (show P_aw _ _ _ 56 [.ref (w.2.2 31)] [P_z sz, .ref (w.2.2 38)] _ _ from ?_)
    refine P_aw_op (L' := [.ref (w.2.2 31)]) (st' := [.ref (w.2.2 31), P_z sz, .ref (w.2.2 38)]) P_i9_56 rfl (show P_aw _ _ _ 57 [.ref (w.2.2 31)] [.ref (w.2.2 31), P_z sz, .ref (w.2.2 38)] _ _ from ?_)
    refine P_aw_call P_i9_57 rfl rfl (fun _ => rfl) rfl rfl rfl rfl (y2 := 129) (as := [.ref (w.2.2 31)]) (r0 := [P_z sz, .ref (w.2.2 38)]) (P_inv_v (hw.2.1 31 (by decide)) (hw.s rfl) rfl rfl) (Nat.le_of_ble_eq_true rfl) (by decide) rfl (Nat.le_of_ble_eq_true rfl) (show P_aw _ _ _ 0 [.ref (w.2.2 31)] [] _ _ from ?_)
    refine P_aw_op (L' := [.ref (w.2.2 31)]) (st' := [.ref (w.2.2 31)]) P_i129_0 rfl (show P_aw _ _ _ 1 [.ref (w.2.2 31)] [.ref (w.2.2 31)] _ _ from ?_)
    refine P_aw_getv P_i129_1 (hw.2.1 31 (by decide)) (hw.s rfl) rfl rfl (hrd) (show P_aw _ _ _ 4 [.ref (w.2.2 31)] [P_z rd] _ _ from ?_)
    refine P_aw_end P_i129_4 rfl rfl (fun _ => rfl) rfl ?_
    show P_aw _ _ _ 60 [.ref (w.2.2 31)] [P_z rd, P_z sz, .ref (w.2.2 38)] _ _
    refine P_aw_call P_i9_60 rfl rfl (fun _ => rfl) rfl rfl rfl rfl (y2 := 179) (as := [.ref (w.2.2 38), P_z sz, P_z rd]) (r0 := []) (fun _ _ => rfl) (Nat.le_of_ble_eq_true rfl) (by decide) rfl (Nat.le_of_ble_eq_true rfl) (show P_aw _ _ _ 0 [.ref (w.2.2 38), P_z sz, P_z rd] [] _ _ from ?_)
    refine P_aw_op (L' := [.ref (w.2.2 38), P_z sz, P_z rd]) (st' := [P_z sz]) P_i179_0 rfl (show P_aw _ _ _ 1 [.ref (w.2.2 38), P_z sz, P_z rd] [P_z sz] _ _ from ?_)
    refine P_aw_izf P_i179_1 ⟨by omega, by omega⟩ (P_ci_ltf (by omega)) (show P_aw _ _ _ 4 [.ref (w.2.2 38), P_z sz, P_z rd] [] _ _ from ?_)
    refine P_aw_op (L' := [.ref (w.2.2 38), P_z sz, P_z rd]) (st' := [P_z sz]) P_i179_4 rfl (show P_aw _ _ _ 5 [.ref (w.2.2 38), P_z sz, P_z rd] [P_z sz] _ _ from ?_)
    refine P_aw_op (L' := [.ref (w.2.2 38), P_z sz, P_z rd]) (st' := [.ref (w.2.2 38), P_z sz]) P_i179_5 rfl (show P_aw _ _ _ 6 [.ref (w.2.2 38), P_z sz, P_z rd] [.ref (w.2.2 38), P_z sz] _ _ from ?_)
    refine P_aw_alen P_i179_6 (hw.2.1 38 (by decide)) (hw.s rfl) (show P_aw _ _ _ 7 [.ref (w.2.2 38), P_z sz, P_z rd] [P_z 2744, P_z sz] _ _ from ?_)
    refine P_aw_ict P_i179_7 ⟨by omega, by omega⟩ ⟨by decide, by decide⟩ (P_ci_get (by omega)) (show P_aw _ _ _ 14 [.ref (w.2.2 38), P_z sz, P_z rd] [] _ _ from ?_)
    refine P_aw_end P_i179_14 rfl rfl (fun _ => rfl) rfl ?_
    show P_aw _ _ _ 63 [.ref (w.2.2 31)] [] _ _
    refine P_aw_op (L' := [.ref (w.2.2 31)]) (st' := [.ref (w.2.2 31)]) P_i9_63 rfl (show P_aw _ _ _ 64 [.ref (w.2.2 31)] [.ref (w.2.2 31)] _ _ from ?_)
    refine P_aw_getR P_i9_64 (hw.2.1 31 (by decide)) (hw.s rfl) rfl rfl (show P_aw _ _ _ 67 [.ref (w.2.2 31)] [.ref (w.2.2 39)] _ _ from ?_)
    refine P_aw_op (L' := [.ref (w.2.2 31)]) (st' := [.ref (w.2.2 31), .ref (w.2.2 39)]) P_i9_67 rfl (show P_aw _ _ _ 68 [.ref (w.2.2 31)] [.ref (w.2.2 31), .ref (w.2.2 39)] _ _ from ?_)
    refine P_aw_getv P_i9_68 (hw.2.1 31 (by decide)) (hw.s rfl) rfl rfl (hsz) (show P_aw _ _ _ 71 [.ref (w.2.2 31)] [P_z sz, .ref (w.2.2 39)] _ _ from ?_)
    refine P_aw_op (L' := [.ref (w.2.2 31)]) (st' := [.ref (w.2.2 31), P_z sz, .ref (w.2.2 39)]) P_i9_71 rfl (show P_aw _ _ _ 72 [.ref (w.2.2 31)] [.ref (w.2.2 31), P_z sz, .ref (w.2.2 39)] _ _ from ?_)
    refine P_aw_call P_i9_72 rfl rfl (fun _ => rfl) rfl rfl rfl rfl (y2 := 130) (as := [.ref (w.2.2 31)]) (r0 := [P_z sz, .ref (w.2.2 39)]) (P_inv_v (hw.2.1 31 (by decide)) (hw.s rfl) rfl rfl) (Nat.le_of_ble_eq_true rfl) (by decide) rfl (Nat.le_of_ble_eq_true rfl) (show P_aw _ _ _ 0 [.ref (w.2.2 31)] [] _ _ from ?_)
    refine P_aw_op (L' := [.ref (w.2.2 31)]) (st' := [.ref (w.2.2 31)]) P_i130_0 rfl (show P_aw _ _ _ 1 [.ref (w.2.2 31)] [.ref (w.2.2 31)] _ _ from ?_)
    refine P_aw_getv P_i130_1 (hw.2.1 31 (by decide)) (hw.s rfl) rfl rfl (hck) (show P_aw _ _ _ 4 [.ref (w.2.2 31)] [P_z ck] _ _ from ?_)
    refine P_aw_end P_i130_4 rfl rfl (fun _ => rfl) rfl ?_
    show P_aw _ _ _ 75 [.ref (w.2.2 31)] [P_z ck, P_z sz, .ref (w.2.2 39)] _ _
    refine P_aw_call P_i9_75 rfl rfl (fun _ => rfl) rfl rfl rfl rfl (y2 := 179) (as := [.ref (w.2.2 39), P_z sz, P_z ck]) (r0 := []) (fun _ _ => rfl) (Nat.le_of_ble_eq_true rfl) (by decide) rfl (Nat.le_of_ble_eq_true rfl) (show P_aw _ _ _ 0 [.ref (w.2.2 39), P_z sz, P_z ck] [] _ _ from ?_)
    refine P_aw_op (L' := [.ref (w.2.2 39), P_z sz, P_z ck]) (st' := [P_z sz]) P_i179_0 rfl (show P_aw _ _ _ 1 [.ref (w.2.2 39), P_z sz, P_z ck] [P_z sz] _ _ from ?_)
    refine P_aw_izf P_i179_1 ⟨by omega, by omega⟩ (P_ci_ltf (by omega)) (show P_aw _ _ _ 4 [.ref (w.2.2 39), P_z sz, P_z ck] [] _ _ from ?_)
    refine P_aw_op (L' := [.ref (w.2.2 39), P_z sz, P_z ck]) (st' := [P_z sz]) P_i179_4 rfl (show P_aw _ _ _ 5 [.ref (w.2.2 39), P_z sz, P_z ck] [P_z sz] _ _ from ?_)
    refine P_aw_op (L' := [.ref (w.2.2 39), P_z sz, P_z ck]) (st' := [.ref (w.2.2 39), P_z sz]) P_i179_5 rfl (show P_aw _ _ _ 6 [.ref (w.2.2 39), P_z sz, P_z ck] [.ref (w.2.2 39), P_z sz] _ _ from ?_)
    refine P_aw_alen P_i179_6 (hw.2.1 39 (by decide)) (hw.s rfl) (show P_aw _ _ _ 7 [.ref (w.2.2 39), P_z sz, P_z ck] [P_z 2744, P_z sz] _ _ from ?_)
    refine P_aw_ict P_i179_7 ⟨by omega, by omega⟩ ⟨by decide, by decide⟩ (P_ci_get (by omega)) (show P_aw _ _ _ 14 [.ref (w.2.2 39), P_z sz, P_z ck] [] _ _ from ?_)
    refine P_aw_end P_i179_14 rfl rfl (fun _ => rfl) rfl ?_
    show P_aw _ _ _ 78 [.ref (w.2.2 31)] [] _ _
    refine P_aw_op (L' := [.ref (w.2.2 31)]) (st' := [.ref (w.2.2 31)]) P_i9_78 rfl (show P_aw _ _ _ 79 [.ref (w.2.2 31)] [.ref (w.2.2 31)] _ _ from ?_)
    refine P_aw_op (L' := [.ref (w.2.2 31)]) (st' := [.ref (w.2.2 31), .ref (w.2.2 31)]) P_i9_79 rfl (show P_aw _ _ _ 80 [.ref (w.2.2 31)] [.ref (w.2.2 31), .ref (w.2.2 31)] _ _ from ?_)
    refine P_aw_getv P_i9_80 (hw.2.1 31 (by decide)) (hw.s rfl) rfl rfl (hsz) (show P_aw _ _ _ 83 [.ref (w.2.2 31)] [P_z sz, .ref (w.2.2 31)] _ _ from ?_)
    refine P_aw_op (L' := [.ref (w.2.2 31)]) (st' := [P_z 1, P_z sz, .ref (w.2.2 31)]) P_i9_83 rfl (show P_aw _ _ _ 84 [.ref (w.2.2 31)] [P_z 1, P_z sz, .ref (w.2.2 31)] _ _ from ?_)
    refine P_aw_op (L' := [.ref (w.2.2 31)]) (st' := [P_z (sz + 1), .ref (w.2.2 31)]) P_i9_84 P_o_iadd (show P_aw _ _ _ 85 [.ref (w.2.2 31)] [P_z (sz + 1), .ref (w.2.2 31)] _ _ from ?_)
    refine P_aw_put P_i9_85 (hw.2.1 31 (by decide)) (hw.s rfl) rfl rfl rfl (show P_aw _ _ _ 88 [.ref (w.2.2 31)] [] _ _ from ?_)
    refine P_aw_end P_i9_88 rfl rfl (fun _ => rfl) rfl ?_
    exact q _ (fun a b h h2 => P_u2_ne (by omega)) P_u2_at (fun h => by omega)

/-- a row's first places all one number -/
def A_fl (σ : P_A) (k : Nat) (n v : Int) : P_A := fun a b => if a = k ∧ (b : Int) < n then v else σ a b
theorem A_fl_ne {σ : P_A} {k a b : Nat} {n v : Int} (h : a ≠ k) : A_fl σ k n v a b = σ a b := if_neg (fun q => h q.1)
theorem A_fl_at {σ : P_A} {k b : Nat} {n v : Int} (h : (b : Int) < n) : A_fl σ k n v k b = v := if_pos ⟨rfl, h⟩
theorem A_fl_0 {σ : P_A} {k : Nat} {v : Int} : A_fl σ k 0 v = σ := by
  funext a b
  exact if_neg (fun q => by omega)
theorem A_fl_step {σ : P_A} {k : Nat} {i v : Int} (h0 : 0 ≤ i) : P_u2 (A_fl σ k i v) k i.toNat v = A_fl σ k (i + 1) v := by
  funext a b
  unfold P_u2 A_fl
  by_cases e : a = k
  · by_cases e2 : b = i.toNat
    · rw [if_pos ⟨e, e2⟩, if_pos ⟨e, by omega⟩]
    · rw [if_neg (fun q => e2 q.2)]
      by_cases e3 : (b : Int) < i
      · rw [if_pos ⟨e, e3⟩, if_pos ⟨e, by omega⟩]
      · rw [if_neg (fun q => e3 q.2), if_neg (fun q => e3 (by omega))]
  · rw [if_neg (fun q => e q.1), if_neg (fun q => e q.1), if_neg (fun q => e q.1)]
theorem s_fll {w : P_Lw} (hw : P_Cw w) {d : Nat} {Q : P_R → P_A → Prop} {σ : P_A} {k m : Nat} {v : Int} (hs : w.1 k = .inr (.inl m)) (hl : w.2.1 k = true) (hm : m ≤ 3000) : ∀ (n : Nat) (i : Int), (0 ≤ i) → ((m : Int) = i + (n : Nat)) → Q (.inl none) (A_fl σ k m v) → P_aw w (d + 1) 180 2 [.ref (w.2.2 k), P_z v, P_z i] [] (A_fl σ k i v) Q := by
  intro n
  induction n with
  | zero =>
    intro i hv0 hv1 q
    refine P_aw_op (L' := [.ref (w.2.2 k), P_z v, P_z i]) (st' := [P_z i]) P_i180_2 rfl (show P_aw _ _ _ 3 [.ref (w.2.2 k), P_z v, P_z i] [P_z i] _ _ from ?_)
    refine P_aw_op (L' := [.ref (w.2.2 k), P_z v, P_z i]) (st' := [.ref (w.2.2 k), P_z i]) P_i180_3 rfl (show P_aw _ _ _ 4 [.ref (w.2.2 k), P_z v, P_z i] [.ref (w.2.2 k), P_z i] _ _ from ?_)
    refine P_aw_alen P_i180_4 hl hs (show P_aw _ _ _ 5 [.ref (w.2.2 k), P_z v, P_z i] [P_z ((m : Nat) : Int), P_z i] _ _ from ?_)
    refine P_aw_ict P_i180_5 ⟨by omega, by omega⟩ ⟨by omega, by omega⟩ (P_ci_get (by omega)) (show P_aw _ _ _ 18 [.ref (w.2.2 k), P_z v, P_z i] [] _ _ from ?_)
    refine P_aw_end P_i180_18 rfl rfl (fun _ => rfl) rfl ?_
    have e : i = (m : Int) := (by omega); subst e; exact q
  | succ n ih =>
    intro i hv0 hv1 q
    refine P_aw_op (L' := [.ref (w.2.2 k), P_z v, P_z i]) (st' := [P_z i]) P_i180_2 rfl (show P_aw _ _ _ 3 [.ref (w.2.2 k), P_z v, P_z i] [P_z i] _ _ from ?_)
    refine P_aw_op (L' := [.ref (w.2.2 k), P_z v, P_z i]) (st' := [.ref (w.2.2 k), P_z i]) P_i180_3 rfl (show P_aw _ _ _ 4 [.ref (w.2.2 k), P_z v, P_z i] [.ref (w.2.2 k), P_z i] _ _ from ?_)
    refine P_aw_alen P_i180_4 hl hs (show P_aw _ _ _ 5 [.ref (w.2.2 k), P_z v, P_z i] [P_z ((m : Nat) : Int), P_z i] _ _ from ?_)
    refine P_aw_icf P_i180_5 ⟨by omega, by omega⟩ ⟨by omega, by omega⟩ (P_ci_gef (by omega)) (show P_aw _ _ _ 8 [.ref (w.2.2 k), P_z v, P_z i] [] _ _ from ?_)
    refine P_aw_op (L' := [.ref (w.2.2 k), P_z v, P_z i]) (st' := [.ref (w.2.2 k)]) P_i180_8 rfl (show P_aw _ _ _ 9 [.ref (w.2.2 k), P_z v, P_z i] [.ref (w.2.2 k)] _ _ from ?_)
    refine P_aw_op (L' := [.ref (w.2.2 k), P_z v, P_z i]) (st' := [P_z i, .ref (w.2.2 k)]) P_i180_9 rfl (show P_aw _ _ _ 10 [.ref (w.2.2 k), P_z v, P_z i] [P_z i, .ref (w.2.2 k)] _ _ from ?_)
    refine P_aw_op (L' := [.ref (w.2.2 k), P_z v, P_z i]) (st' := [P_z v, P_z i, .ref (w.2.2 k)]) P_i180_10 rfl (show P_aw _ _ _ 11 [.ref (w.2.2 k), P_z v, P_z i] [P_z v, P_z i, .ref (w.2.2 k)] _ _ from ?_)
    refine P_aw_ast P_i180_11 hl hs (by omega) (by omega) (by omega) (show P_aw _ _ _ 12 [.ref (w.2.2 k), P_z v, P_z i] [] _ _ from ?_)
    refine P_aw_op (L' := [.ref (w.2.2 k), P_z v, P_z (i + 1)]) (st' := []) P_i180_12 (P_o_iinc rfl) (show P_aw _ _ _ 15 [.ref (w.2.2 k), P_z v, P_z (i + 1)] [] _ _ from ?_)
    refine P_aw_goto P_i180_15 (show P_aw _ _ _ 2 [.ref (w.2.2 k), P_z v, P_z (i + 1)] [] _ _ from ?_)
    refine P_aws (A_fl_step (by omega)) ?_; exact ih (i + 1) (by omega) (by omega) q

theorem s_fill {w : P_Lw} (hw : P_Cw w) {d : Nat} {Q : P_R → P_A → Prop} {σ : P_A} {k m : Nat} {v : Int} (hs : w.1 k = .inr (.inl m)) (hl : w.2.1 k = true) (hm : m ≤ 3000) (q : Q (.inl none) (A_fl σ k m v)) : P_aw w (d + 1) 180 0 [.ref (w.2.2 k), P_z v, P_un] [] σ Q := by
  refine P_aw_op (L' := [.ref (w.2.2 k), P_z v, P_un]) (st' := [P_z 0]) P_i180_0 rfl (show P_aw _ _ _ 1 [.ref (w.2.2 k), P_z v, P_un] [P_z 0] _ _ from ?_)
  refine P_aw_op (L' := [.ref (w.2.2 k), P_z v, P_z 0]) (st' := []) P_i180_1 rfl (show P_aw _ _ _ 2 [.ref (w.2.2 k), P_z v, P_z 0] [] _ _ from ?_)
  refine P_aws (σ' := A_fl σ k 0 v) A_fl_0.symm ?_; exact s_fll hw hs hl hm m 0 (by omega) (by omega) q

theorem s_fnl {w : P_Lw} (hw : P_Cw w) {d : Nat} {Q : P_R → P_A → Prop} {σ : P_A} {ns : Int} {tb : Int → Nat} {rw : Int → Int} {vr : Int → Int → Int} {cl : Int → Int} {V : Int → Int → Int → Int} (hA : A_V w σ ns tb rw vr) (hX : A_X σ ns tb rw cl V) {s r c so : Int} (hs : 0 ≤ s ∧ s < ns) (hr : 0 ≤ r ∧ r ≤ 13) (hc : 0 ≤ c ∧ c < cl s) (hso : -999 ≤ so ∧ so ≤ 999) : ∀ (n : Nat) (i : Int), (0 ≤ i ∧ i ≤ r) → (r = i + (n : Nat)) → (∀ v : Int, 0 ≤ v → v ≤ r → Q (.inl (some (P_z v))) σ) → P_aw w (d + 2) 127 10 [.ref (w.2.2 (tb s)), P_z r, P_z c, P_z so, P_z i] [] σ Q := by
  have hns := hA.2.1
  have hcl := (hX s hs.1 hs.2).1.2
  have hrw := (hA.2.2 s hs.1 hs.2).2.2.2.1
  intro n
  induction n with
  | zero =>
    intro i hv0 hv1 q
    refine P_aw_op (L' := [.ref (w.2.2 (tb s)), P_z r, P_z c, P_z so, P_z i]) (st' := [P_z i]) P_i127_10 rfl (show P_aw _ _ _ 12 [.ref (w.2.2 (tb s)), P_z r, P_z c, P_z so, P_z i] [P_z i] _ _ from ?_)
    refine P_aw_op (L' := [.ref (w.2.2 (tb s)), P_z r, P_z c, P_z so, P_z i]) (st' := [P_z r, P_z i]) P_i127_12 rfl (show P_aw _ _ _ 13 [.ref (w.2.2 (tb s)), P_z r, P_z c, P_z so, P_z i] [P_z r, P_z i] _ _ from ?_)
    refine P_aw_ict P_i127_13 ⟨by omega, by omega⟩ ⟨by omega, by omega⟩ (P_ci_get (by omega)) (show P_aw _ _ _ 45 [.ref (w.2.2 (tb s)), P_z r, P_z c, P_z so, P_z i] [] _ _ from ?_)
    refine P_aw_op (L' := [.ref (w.2.2 (tb s)), P_z r, P_z c, P_z so, P_z i]) (st' := [P_z r]) P_i127_45 rfl (show P_aw _ _ _ 46 [.ref (w.2.2 (tb s)), P_z r, P_z c, P_z so, P_z i] [P_z r] _ _ from ?_)
    refine P_aw_end P_i127_46 rfl rfl (fun _ => rfl) rfl ?_
    exact q r (by omega) (by omega)
  | succ n ih =>
    intro i hv0 hv1 q
    refine P_aw_op (L' := [.ref (w.2.2 (tb s)), P_z r, P_z c, P_z so, P_z i]) (st' := [P_z i]) P_i127_10 rfl (show P_aw _ _ _ 12 [.ref (w.2.2 (tb s)), P_z r, P_z c, P_z so, P_z i] [P_z i] _ _ from ?_)
    refine P_aw_op (L' := [.ref (w.2.2 (tb s)), P_z r, P_z c, P_z so, P_z i]) (st' := [P_z r, P_z i]) P_i127_12 rfl (show P_aw _ _ _ 13 [.ref (w.2.2 (tb s)), P_z r, P_z c, P_z so, P_z i] [P_z r, P_z i] _ _ from ?_)
    refine P_aw_icf P_i127_13 ⟨by omega, by omega⟩ ⟨by omega, by omega⟩ (P_ci_gef (by omega)) (show P_aw _ _ _ 16 [.ref (w.2.2 (tb s)), P_z r, P_z c, P_z so, P_z i] [] _ _ from ?_)
    refine P_aw_op (L' := [.ref (w.2.2 (tb s)), P_z r, P_z c, P_z so, P_z i]) (st' := [P_z i]) P_i127_16 rfl (show P_aw _ _ _ 18 [.ref (w.2.2 (tb s)), P_z r, P_z c, P_z so, P_z i] [P_z i] _ _ from ?_)
    refine P_aw_op (L' := [.ref (w.2.2 (tb s)), P_z r, P_z c, P_z so, P_z i]) (st' := [.ref (w.2.2 (tb s)), P_z i]) P_i127_18 rfl (show P_aw _ _ _ 19 [.ref (w.2.2 (tb s)), P_z r, P_z c, P_z so, P_z i] [.ref (w.2.2 (tb s)), P_z i] _ _ from ?_)
    have hg1 := (hA.2.2 s (by omega) (by omega)).2.2.2.1
    refine P_aw_getv P_i127_19 (hA.2.2 s (by omega) (by omega)).2.1.2.1.2 (hA.2.2 s (by omega) (by omega)).2.1.2.1.1 rfl rfl ((hA.2.2 s (by omega) (by omega)).2.2.1) (show P_aw _ _ _ 22 [.ref (w.2.2 (tb s)), P_z r, P_z c, P_z so, P_z i] [P_z (rw s), P_z i] _ _ from ?_)
    rcases Int.lt_or_le i (rw s) with hc2 | hc2
    · refine P_aw_icf P_i127_22 ⟨by omega, by omega⟩ ⟨by omega, by omega⟩ (P_ci_gef (by omega)) (show P_aw _ _ _ 25 [.ref (w.2.2 (tb s)), P_z r, P_z c, P_z so, P_z i] [] _ _ from ?_)
      refine P_aw_op (L' := [.ref (w.2.2 (tb s)), P_z r, P_z c, P_z so, P_z i]) (st' := [.ref (w.2.2 (tb s))]) P_i127_25 rfl (show P_aw _ _ _ 26 [.ref (w.2.2 (tb s)), P_z r, P_z c, P_z so, P_z i] [.ref (w.2.2 (tb s))] _ _ from ?_)
      refine P_aw_op (L' := [.ref (w.2.2 (tb s)), P_z r, P_z c, P_z so, P_z i]) (st' := [P_z i, .ref (w.2.2 (tb s))]) P_i127_26 rfl (show P_aw _ _ _ 28 [.ref (w.2.2 (tb s)), P_z r, P_z c, P_z so, P_z i] [P_z i, .ref (w.2.2 (tb s))] _ _ from ?_)
      refine P_aw_op (L' := [.ref (w.2.2 (tb s)), P_z r, P_z c, P_z so, P_z i]) (st' := [P_z c, P_z i, .ref (w.2.2 (tb s))]) P_i127_28 rfl (show P_aw _ _ _ 29 [.ref (w.2.2 (tb s)), P_z r, P_z c, P_z so, P_z i] [P_z c, P_z i, .ref (w.2.2 (tb s))] _ _ from ?_)
      refine P_aw_call P_i127_29 rfl rfl (fun _ => rfl) rfl rfl rfl rfl (y2 := 122) (as := [.ref (w.2.2 (tb s)), P_z i, P_z c]) (r0 := []) (P_inv_v (hA.2.2 s (by omega) (by omega)).2.1.2.1.2 (hA.2.2 s (by omega) (by omega)).2.1.2.1.1 rfl rfl) (Nat.le_of_ble_eq_true rfl) (by decide) rfl (Nat.le_of_ble_eq_true rfl) (show P_aw _ _ _ 0 [.ref (w.2.2 (tb s)), P_z i, P_z c, P_un] [] _ _ from ?_)
      refine P_aw_op (L' := [.ref (w.2.2 (tb s)), P_z i, P_z c, P_un]) (st' := [P_z i]) P_i122_0 rfl (show P_aw _ _ _ 1 [.ref (w.2.2 (tb s)), P_z i, P_z c, P_un] [P_z i] _ _ from ?_)
      refine P_aw_izf P_i122_1 ⟨by omega, by omega⟩ (P_ci_ltf (by omega)) (show P_aw _ _ _ 4 [.ref (w.2.2 (tb s)), P_z i, P_z c, P_un] [] _ _ from ?_)
      refine P_aw_op (L' := [.ref (w.2.2 (tb s)), P_z i, P_z c, P_un]) (st' := [P_z i]) P_i122_4 rfl (show P_aw _ _ _ 5 [.ref (w.2.2 (tb s)), P_z i, P_z c, P_un] [P_z i] _ _ from ?_)
      refine P_aw_op (L' := [.ref (w.2.2 (tb s)), P_z i, P_z c, P_un]) (st' := [.ref (w.2.2 (tb s)), P_z i]) P_i122_5 rfl (show P_aw _ _ _ 6 [.ref (w.2.2 (tb s)), P_z i, P_z c, P_un] [.ref (w.2.2 (tb s)), P_z i] _ _ from ?_)
      have hg3 := (hA.2.2 s (by omega) (by omega)).2.2.2.1
      refine P_aw_getv P_i122_6 (hA.2.2 s (by omega) (by omega)).2.1.2.1.2 (hA.2.2 s (by omega) (by omega)).2.1.2.1.1 rfl rfl ((hA.2.2 s (by omega) (by omega)).2.2.1) (show P_aw _ _ _ 9 [.ref (w.2.2 (tb s)), P_z i, P_z c, P_un] [P_z (rw s), P_z i] _ _ from ?_)
      refine P_aw_icf P_i122_9 ⟨by omega, by omega⟩ ⟨by omega, by omega⟩ (P_ci_gef (by omega)) (show P_aw _ _ _ 12 [.ref (w.2.2 (tb s)), P_z i, P_z c, P_un] [] _ _ from ?_)
      refine P_aw_op (L' := [.ref (w.2.2 (tb s)), P_z i, P_z c, P_un]) (st' := [P_z c]) P_i122_12 rfl (show P_aw _ _ _ 13 [.ref (w.2.2 (tb s)), P_z i, P_z c, P_un] [P_z c] _ _ from ?_)
      refine P_aw_izf P_i122_13 ⟨by omega, by omega⟩ (P_ci_ltf (by omega)) (show P_aw _ _ _ 16 [.ref (w.2.2 (tb s)), P_z i, P_z c, P_un] [] _ _ from ?_)
      refine P_aw_op (L' := [.ref (w.2.2 (tb s)), P_z i, P_z c, P_un]) (st' := [P_z c]) P_i122_16 rfl (show P_aw _ _ _ 17 [.ref (w.2.2 (tb s)), P_z i, P_z c, P_un] [P_z c] _ _ from ?_)
      refine P_aw_op (L' := [.ref (w.2.2 (tb s)), P_z i, P_z c, P_un]) (st' := [.ref (w.2.2 (tb s)), P_z c]) P_i122_17 rfl (show P_aw _ _ _ 18 [.ref (w.2.2 (tb s)), P_z i, P_z c, P_un] [.ref (w.2.2 (tb s)), P_z c] _ _ from ?_)
      have hg4 := (hX s (by omega) (by omega)).1.2
      refine P_aw_getv P_i122_18 (hA.2.2 s (by omega) (by omega)).2.1.2.1.2 (hA.2.2 s (by omega) (by omega)).2.1.2.1.1 rfl rfl ((hX s (by omega) (by omega)).1.1) (show P_aw _ _ _ 21 [.ref (w.2.2 (tb s)), P_z i, P_z c, P_un] [P_z (cl s), P_z c] _ _ from ?_)
      refine P_aw_ict P_i122_21 ⟨by omega, by omega⟩ ⟨by omega, by omega⟩ (P_ci_ltt (by omega)) (show P_aw _ _ _ 26 [.ref (w.2.2 (tb s)), P_z i, P_z c, P_un] [] _ _ from ?_)
      refine P_aw_op (L' := [.ref (w.2.2 (tb s)), P_z i, P_z c, P_un]) (st' := [P_z i]) P_i122_26 rfl (show P_aw _ _ _ 27 [.ref (w.2.2 (tb s)), P_z i, P_z c, P_un] [P_z i] _ _ from ?_)
      refine P_aw_op (L' := [.ref (w.2.2 (tb s)), P_z i, P_z c, P_un]) (st' := [P_z 3, P_z i]) P_i122_27 rfl (show P_aw _ _ _ 28 [.ref (w.2.2 (tb s)), P_z i, P_z c, P_un] [P_z 3, P_z i] _ _ from ?_)
      refine P_aw_op (L' := [.ref (w.2.2 (tb s)), P_z i, P_z c, P_un]) (st' := [P_z (i * 3)]) P_i122_28 P_o_imul (show P_aw _ _ _ 29 [.ref (w.2.2 (tb s)), P_z i, P_z c, P_un] [P_z (i * 3)] _ _ from ?_)
      refine P_aw_op (L' := [.ref (w.2.2 (tb s)), P_z i, P_z c, P_un]) (st' := [P_z c, P_z (i * 3)]) P_i122_29 rfl (show P_aw _ _ _ 30 [.ref (w.2.2 (tb s)), P_z i, P_z c, P_un] [P_z c, P_z (i * 3)] _ _ from ?_)
      refine P_aw_op (L' := [.ref (w.2.2 (tb s)), P_z i, P_z c, P_un]) (st' := [P_z ((i * 3) + c)]) P_i122_30 P_o_iadd (show P_aw _ _ _ 31 [.ref (w.2.2 (tb s)), P_z i, P_z c, P_un] [P_z ((i * 3) + c)] _ _ from ?_)
      refine P_aw_op (L' := [.ref (w.2.2 (tb s)), P_z i, P_z c, P_z ((i * 3) + c)]) (st' := []) P_i122_31 rfl (show P_aw _ _ _ 32 [.ref (w.2.2 (tb s)), P_z i, P_z c, P_z ((i * 3) + c)] [] _ _ from ?_)
      refine P_aw_op (L' := [.ref (w.2.2 (tb s)), P_z i, P_z c, P_z ((i * 3) + c)]) (st' := [P_z ((i * 3) + c)]) P_i122_32 rfl (show P_aw _ _ _ 33 [.ref (w.2.2 (tb s)), P_z i, P_z c, P_z ((i * 3) + c)] [P_z ((i * 3) + c)] _ _ from ?_)
      refine P_aw_izf P_i122_33 ⟨by omega, by omega⟩ (P_ci_ltf (by omega)) (show P_aw _ _ _ 36 [.ref (w.2.2 (tb s)), P_z i, P_z c, P_z ((i * 3) + c)] [] _ _ from ?_)
      refine P_aw_op (L' := [.ref (w.2.2 (tb s)), P_z i, P_z c, P_z ((i * 3) + c)]) (st' := [P_z ((i * 3) + c)]) P_i122_36 rfl (show P_aw _ _ _ 37 [.ref (w.2.2 (tb s)), P_z i, P_z c, P_z ((i * 3) + c)] [P_z ((i * 3) + c)] _ _ from ?_)
      refine P_aw_op (L' := [.ref (w.2.2 (tb s)), P_z i, P_z c, P_z ((i * 3) + c)]) (st' := [.ref (w.2.2 (tb s)), P_z ((i * 3) + c)]) P_i122_37 rfl (show P_aw _ _ _ 38 [.ref (w.2.2 (tb s)), P_z i, P_z c, P_z ((i * 3) + c)] [.ref (w.2.2 (tb s)), P_z ((i * 3) + c)] _ _ from ?_)
      refine P_aw_getR P_i122_38 (hA.2.2 s (by omega) (by omega)).2.1.2.1.2 (hA.2.2 s (by omega) (by omega)).2.1.2.1.1 rfl rfl (show P_aw _ _ _ 41 [.ref (w.2.2 (tb s)), P_z i, P_z c, P_z ((i * 3) + c)] [.ref (w.2.2 ((tb s) + 1)), P_z ((i * 3) + c)] _ _ from ?_)
      refine P_aw_alen P_i122_41 (hA.2.2 s (by omega) (by omega)).2.1.2.2.1.2 (hA.2.2 s (by omega) (by omega)).2.1.2.2.1.1 (show P_aw _ _ _ 42 [.ref (w.2.2 (tb s)), P_z i, P_z c, P_z ((i * 3) + c)] [P_z 42, P_z ((i * 3) + c)] _ _ from ?_)
      refine P_aw_icf P_i122_42 ⟨by omega, by omega⟩ ⟨by decide, by decide⟩ (P_ci_gef (by omega)) (show P_aw _ _ _ 45 [.ref (w.2.2 (tb s)), P_z i, P_z c, P_z ((i * 3) + c)] [] _ _ from ?_)
      refine P_aw_op (L' := [.ref (w.2.2 (tb s)), P_z i, P_z c, P_z ((i * 3) + c)]) (st' := [.ref (w.2.2 (tb s))]) P_i122_45 rfl (show P_aw _ _ _ 46 [.ref (w.2.2 (tb s)), P_z i, P_z c, P_z ((i * 3) + c)] [.ref (w.2.2 (tb s))] _ _ from ?_)
      refine P_aw_getR P_i122_46 (hA.2.2 s (by omega) (by omega)).2.1.2.1.2 (hA.2.2 s (by omega) (by omega)).2.1.2.1.1 rfl rfl (show P_aw _ _ _ 49 [.ref (w.2.2 (tb s)), P_z i, P_z c, P_z ((i * 3) + c)] [.ref (w.2.2 ((tb s) + 1))] _ _ from ?_)
      refine P_aw_op (L' := [.ref (w.2.2 (tb s)), P_z i, P_z c, P_z ((i * 3) + c)]) (st' := [P_z ((i * 3) + c), .ref (w.2.2 ((tb s) + 1))]) P_i122_49 rfl (show P_aw _ _ _ 50 [.ref (w.2.2 (tb s)), P_z i, P_z c, P_z ((i * 3) + c)] [P_z ((i * 3) + c), .ref (w.2.2 ((tb s) + 1))] _ _ from ?_)
      have hg5 := ((hX s (by omega) (by omega)).2 c i (by omega) (by omega) (by omega) (by omega)).2
      refine P_aw_aldv P_i122_50 (hA.2.2 s (by omega) (by omega)).2.1.2.2.1.2 (hA.2.2 s (by omega) (by omega)).2.1.2.2.1.1 (by omega) (by omega) (by decide) (((hX s (by omega) (by omega)).2 c i (by omega) (by omega) (by omega) (by omega)).1) (show P_aw _ _ _ 51 [.ref (w.2.2 (tb s)), P_z i, P_z c, P_z ((i * 3) + c)] [P_z (V s c i)] _ _ from ?_)
      refine P_aw_goto P_i122_51 (show P_aw _ _ _ 55 [.ref (w.2.2 (tb s)), P_z i, P_z c, P_z ((i * 3) + c)] [P_z (V s c i)] _ _ from ?_)
      refine P_aw_end P_i122_55 rfl rfl (fun _ => rfl) rfl ?_
      show P_aw _ _ _ 32 [.ref (w.2.2 (tb s)), P_z r, P_z c, P_z so, P_z i] [P_z (V s c i)] _ _
      refine P_aw_op (L' := [.ref (w.2.2 (tb s)), P_z r, P_z c, P_z so, P_z i]) (st' := [P_z so, P_z (V s c i)]) P_i127_32 rfl (show P_aw _ _ _ 33 [.ref (w.2.2 (tb s)), P_z r, P_z c, P_z so, P_z i] [P_z so, P_z (V s c i)] _ _ from ?_)
      by_cases hc6 : (V s c i) = so
      · refine P_aw_icf P_i127_33 ⟨by omega, by omega⟩ ⟨by omega, by omega⟩ (P_ci_nef (by omega)) (show P_aw _ _ _ 36 [.ref (w.2.2 (tb s)), P_z r, P_z c, P_z so, P_z i] [] _ _ from ?_)
        refine P_aw_op (L' := [.ref (w.2.2 (tb s)), P_z r, P_z c, P_z so, P_z i]) (st' := [P_z i]) P_i127_36 rfl (show P_aw _ _ _ 38 [.ref (w.2.2 (tb s)), P_z r, P_z c, P_z so, P_z i] [P_z i] _ _ from ?_)
        refine P_aw_end P_i127_38 rfl rfl (fun _ => rfl) rfl ?_
        exact q i (by omega) (by omega)
      · refine P_aw_ict P_i127_33 ⟨by omega, by omega⟩ ⟨by omega, by omega⟩ (P_ci_net (by omega)) (show P_aw _ _ _ 39 [.ref (w.2.2 (tb s)), P_z r, P_z c, P_z so, P_z i] [] _ _ from ?_)
        refine P_aw_op (L' := [.ref (w.2.2 (tb s)), P_z r, P_z c, P_z so, P_z (i + 1)]) (st' := []) P_i127_39 (P_o_iinc rfl) (show P_aw _ _ _ 42 [.ref (w.2.2 (tb s)), P_z r, P_z c, P_z so, P_z (i + 1)] [] _ _ from ?_)
        refine P_aw_goto P_i127_42 (show P_aw _ _ _ 10 [.ref (w.2.2 (tb s)), P_z r, P_z c, P_z so, P_z (i + 1)] [] _ _ from ?_)
        exact ih (i + 1) (by omega) (by omega) q
    · refine P_aw_ict P_i127_22 ⟨by omega, by omega⟩ ⟨by omega, by omega⟩ (P_ci_get (by omega)) (show P_aw _ _ _ 45 [.ref (w.2.2 (tb s)), P_z r, P_z c, P_z so, P_z i] [] _ _ from ?_)
      refine P_aw_op (L' := [.ref (w.2.2 (tb s)), P_z r, P_z c, P_z so, P_z i]) (st' := [P_z r]) P_i127_45 rfl (show P_aw _ _ _ 46 [.ref (w.2.2 (tb s)), P_z r, P_z c, P_z so, P_z i] [P_z r] _ _ from ?_)
      refine P_aw_end P_i127_46 rfl rfl (fun _ => rfl) rfl ?_
      exact q r (by omega) (by omega)

theorem s_fan {w : P_Lw} (hw : P_Cw w) {d : Nat} {Q : P_R → P_A → Prop} {σ : P_A} {ns : Int} {tb : Int → Nat} {rw : Int → Int} {vr : Int → Int → Int} {cl : Int → Int} {V : Int → Int → Int → Int} (hA : A_V w σ ns tb rw vr) (hX : A_X σ ns tb rw cl V) {s r c : Int} (hs : 0 ≤ s ∧ s < ns) (hr : 0 ≤ r ∧ r ≤ 13) (hc : 0 ≤ c ∧ c < cl s) (q : ∀ v : Int, 0 ≤ v → v ≤ r → Q (.inl (some (P_z v))) σ) : P_aw w (d + 2) 127 0 [.ref (w.2.2 (tb s)), P_z r, P_z c, P_un, P_un] [] σ Q := by
  have hns := hA.2.1
  have hcl := (hX s hs.1 hs.2).1.2
  have hrw := (hA.2.2 s hs.1 hs.2).2.2.2.1
  refine P_aw_op (L' := [.ref (w.2.2 (tb s)), P_z r, P_z c, P_un, P_un]) (st' := [.ref (w.2.2 (tb s))]) P_i127_0 rfl (show P_aw _ _ _ 1 [.ref (w.2.2 (tb s)), P_z r, P_z c, P_un, P_un] [.ref (w.2.2 (tb s))] _ _ from ?_)
  refine P_aw_op (L' := [.ref (w.2.2 (tb s)), P_z r, P_z c, P_un, P_un]) (st' := [P_z r, .ref (w.2.2 (tb s))]) P_i127_1 rfl (show P_aw _ _ _ 2 [.ref (w.2.2 (tb s)), P_z r, P_z c, P_un, P_un] [P_z r, .ref (w.2.2 (tb s))] _ _ from ?_)
  refine P_aw_op (L' := [.ref (w.2.2 (tb s)), P_z r, P_z c, P_un, P_un]) (st' := [P_z c, P_z r, .ref (w.2.2 (tb s))]) P_i127_2 rfl (show P_aw _ _ _ 3 [.ref (w.2.2 (tb s)), P_z r, P_z c, P_un, P_un] [P_z c, P_z r, .ref (w.2.2 (tb s))] _ _ from ?_)
  refine P_aw_call P_i127_3 rfl rfl (fun _ => rfl) rfl rfl rfl rfl (y2 := 122) (as := [.ref (w.2.2 (tb s)), P_z r, P_z c]) (r0 := []) (P_inv_v (hA.2.2 s (by omega) (by omega)).2.1.2.1.2 (hA.2.2 s (by omega) (by omega)).2.1.2.1.1 rfl rfl) (Nat.le_of_ble_eq_true rfl) (by decide) rfl (Nat.le_of_ble_eq_true rfl) (show P_aw _ _ _ 0 [.ref (w.2.2 (tb s)), P_z r, P_z c, P_un] [] _ _ from ?_)
  refine P_aw_op (L' := [.ref (w.2.2 (tb s)), P_z r, P_z c, P_un]) (st' := [P_z r]) P_i122_0 rfl (show P_aw _ _ _ 1 [.ref (w.2.2 (tb s)), P_z r, P_z c, P_un] [P_z r] _ _ from ?_)
  refine P_aw_izf P_i122_1 ⟨by omega, by omega⟩ (P_ci_ltf (by omega)) (show P_aw _ _ _ 4 [.ref (w.2.2 (tb s)), P_z r, P_z c, P_un] [] _ _ from ?_)
  refine P_aw_op (L' := [.ref (w.2.2 (tb s)), P_z r, P_z c, P_un]) (st' := [P_z r]) P_i122_4 rfl (show P_aw _ _ _ 5 [.ref (w.2.2 (tb s)), P_z r, P_z c, P_un] [P_z r] _ _ from ?_)
  refine P_aw_op (L' := [.ref (w.2.2 (tb s)), P_z r, P_z c, P_un]) (st' := [.ref (w.2.2 (tb s)), P_z r]) P_i122_5 rfl (show P_aw _ _ _ 6 [.ref (w.2.2 (tb s)), P_z r, P_z c, P_un] [.ref (w.2.2 (tb s)), P_z r] _ _ from ?_)
  have hg1 := (hA.2.2 s (by omega) (by omega)).2.2.2.1
  refine P_aw_getv P_i122_6 (hA.2.2 s (by omega) (by omega)).2.1.2.1.2 (hA.2.2 s (by omega) (by omega)).2.1.2.1.1 rfl rfl ((hA.2.2 s (by omega) (by omega)).2.2.1) (show P_aw _ _ _ 9 [.ref (w.2.2 (tb s)), P_z r, P_z c, P_un] [P_z (rw s), P_z r] _ _ from ?_)
  rcases Int.lt_or_le r (rw s) with hc2 | hc2
  · refine P_aw_icf P_i122_9 ⟨by omega, by omega⟩ ⟨by omega, by omega⟩ (P_ci_gef (by omega)) (show P_aw _ _ _ 12 [.ref (w.2.2 (tb s)), P_z r, P_z c, P_un] [] _ _ from ?_)
    refine P_aw_op (L' := [.ref (w.2.2 (tb s)), P_z r, P_z c, P_un]) (st' := [P_z c]) P_i122_12 rfl (show P_aw _ _ _ 13 [.ref (w.2.2 (tb s)), P_z r, P_z c, P_un] [P_z c] _ _ from ?_)
    refine P_aw_izf P_i122_13 ⟨by omega, by omega⟩ (P_ci_ltf (by omega)) (show P_aw _ _ _ 16 [.ref (w.2.2 (tb s)), P_z r, P_z c, P_un] [] _ _ from ?_)
    refine P_aw_op (L' := [.ref (w.2.2 (tb s)), P_z r, P_z c, P_un]) (st' := [P_z c]) P_i122_16 rfl (show P_aw _ _ _ 17 [.ref (w.2.2 (tb s)), P_z r, P_z c, P_un] [P_z c] _ _ from ?_)
    refine P_aw_op (L' := [.ref (w.2.2 (tb s)), P_z r, P_z c, P_un]) (st' := [.ref (w.2.2 (tb s)), P_z c]) P_i122_17 rfl (show P_aw _ _ _ 18 [.ref (w.2.2 (tb s)), P_z r, P_z c, P_un] [.ref (w.2.2 (tb s)), P_z c] _ _ from ?_)
    have hg3 := (hX s (by omega) (by omega)).1.2
    refine P_aw_getv P_i122_18 (hA.2.2 s (by omega) (by omega)).2.1.2.1.2 (hA.2.2 s (by omega) (by omega)).2.1.2.1.1 rfl rfl ((hX s (by omega) (by omega)).1.1) (show P_aw _ _ _ 21 [.ref (w.2.2 (tb s)), P_z r, P_z c, P_un] [P_z (cl s), P_z c] _ _ from ?_)
    refine P_aw_ict P_i122_21 ⟨by omega, by omega⟩ ⟨by omega, by omega⟩ (P_ci_ltt (by omega)) (show P_aw _ _ _ 26 [.ref (w.2.2 (tb s)), P_z r, P_z c, P_un] [] _ _ from ?_)
    refine P_aw_op (L' := [.ref (w.2.2 (tb s)), P_z r, P_z c, P_un]) (st' := [P_z r]) P_i122_26 rfl (show P_aw _ _ _ 27 [.ref (w.2.2 (tb s)), P_z r, P_z c, P_un] [P_z r] _ _ from ?_)
    refine P_aw_op (L' := [.ref (w.2.2 (tb s)), P_z r, P_z c, P_un]) (st' := [P_z 3, P_z r]) P_i122_27 rfl (show P_aw _ _ _ 28 [.ref (w.2.2 (tb s)), P_z r, P_z c, P_un] [P_z 3, P_z r] _ _ from ?_)
    refine P_aw_op (L' := [.ref (w.2.2 (tb s)), P_z r, P_z c, P_un]) (st' := [P_z (r * 3)]) P_i122_28 P_o_imul (show P_aw _ _ _ 29 [.ref (w.2.2 (tb s)), P_z r, P_z c, P_un] [P_z (r * 3)] _ _ from ?_)
    refine P_aw_op (L' := [.ref (w.2.2 (tb s)), P_z r, P_z c, P_un]) (st' := [P_z c, P_z (r * 3)]) P_i122_29 rfl (show P_aw _ _ _ 30 [.ref (w.2.2 (tb s)), P_z r, P_z c, P_un] [P_z c, P_z (r * 3)] _ _ from ?_)
    refine P_aw_op (L' := [.ref (w.2.2 (tb s)), P_z r, P_z c, P_un]) (st' := [P_z ((r * 3) + c)]) P_i122_30 P_o_iadd (show P_aw _ _ _ 31 [.ref (w.2.2 (tb s)), P_z r, P_z c, P_un] [P_z ((r * 3) + c)] _ _ from ?_)
    refine P_aw_op (L' := [.ref (w.2.2 (tb s)), P_z r, P_z c, P_z ((r * 3) + c)]) (st' := []) P_i122_31 rfl (show P_aw _ _ _ 32 [.ref (w.2.2 (tb s)), P_z r, P_z c, P_z ((r * 3) + c)] [] _ _ from ?_)
    refine P_aw_op (L' := [.ref (w.2.2 (tb s)), P_z r, P_z c, P_z ((r * 3) + c)]) (st' := [P_z ((r * 3) + c)]) P_i122_32 rfl (show P_aw _ _ _ 33 [.ref (w.2.2 (tb s)), P_z r, P_z c, P_z ((r * 3) + c)] [P_z ((r * 3) + c)] _ _ from ?_)
    refine P_aw_izf P_i122_33 ⟨by omega, by omega⟩ (P_ci_ltf (by omega)) (show P_aw _ _ _ 36 [.ref (w.2.2 (tb s)), P_z r, P_z c, P_z ((r * 3) + c)] [] _ _ from ?_)
    refine P_aw_op (L' := [.ref (w.2.2 (tb s)), P_z r, P_z c, P_z ((r * 3) + c)]) (st' := [P_z ((r * 3) + c)]) P_i122_36 rfl (show P_aw _ _ _ 37 [.ref (w.2.2 (tb s)), P_z r, P_z c, P_z ((r * 3) + c)] [P_z ((r * 3) + c)] _ _ from ?_)
    refine P_aw_op (L' := [.ref (w.2.2 (tb s)), P_z r, P_z c, P_z ((r * 3) + c)]) (st' := [.ref (w.2.2 (tb s)), P_z ((r * 3) + c)]) P_i122_37 rfl (show P_aw _ _ _ 38 [.ref (w.2.2 (tb s)), P_z r, P_z c, P_z ((r * 3) + c)] [.ref (w.2.2 (tb s)), P_z ((r * 3) + c)] _ _ from ?_)
    refine P_aw_getR P_i122_38 (hA.2.2 s (by omega) (by omega)).2.1.2.1.2 (hA.2.2 s (by omega) (by omega)).2.1.2.1.1 rfl rfl (show P_aw _ _ _ 41 [.ref (w.2.2 (tb s)), P_z r, P_z c, P_z ((r * 3) + c)] [.ref (w.2.2 ((tb s) + 1)), P_z ((r * 3) + c)] _ _ from ?_)
    refine P_aw_alen P_i122_41 (hA.2.2 s (by omega) (by omega)).2.1.2.2.1.2 (hA.2.2 s (by omega) (by omega)).2.1.2.2.1.1 (show P_aw _ _ _ 42 [.ref (w.2.2 (tb s)), P_z r, P_z c, P_z ((r * 3) + c)] [P_z 42, P_z ((r * 3) + c)] _ _ from ?_)
    refine P_aw_icf P_i122_42 ⟨by omega, by omega⟩ ⟨by decide, by decide⟩ (P_ci_gef (by omega)) (show P_aw _ _ _ 45 [.ref (w.2.2 (tb s)), P_z r, P_z c, P_z ((r * 3) + c)] [] _ _ from ?_)
    refine P_aw_op (L' := [.ref (w.2.2 (tb s)), P_z r, P_z c, P_z ((r * 3) + c)]) (st' := [.ref (w.2.2 (tb s))]) P_i122_45 rfl (show P_aw _ _ _ 46 [.ref (w.2.2 (tb s)), P_z r, P_z c, P_z ((r * 3) + c)] [.ref (w.2.2 (tb s))] _ _ from ?_)
    refine P_aw_getR P_i122_46 (hA.2.2 s (by omega) (by omega)).2.1.2.1.2 (hA.2.2 s (by omega) (by omega)).2.1.2.1.1 rfl rfl (show P_aw _ _ _ 49 [.ref (w.2.2 (tb s)), P_z r, P_z c, P_z ((r * 3) + c)] [.ref (w.2.2 ((tb s) + 1))] _ _ from ?_)
    refine P_aw_op (L' := [.ref (w.2.2 (tb s)), P_z r, P_z c, P_z ((r * 3) + c)]) (st' := [P_z ((r * 3) + c), .ref (w.2.2 ((tb s) + 1))]) P_i122_49 rfl (show P_aw _ _ _ 50 [.ref (w.2.2 (tb s)), P_z r, P_z c, P_z ((r * 3) + c)] [P_z ((r * 3) + c), .ref (w.2.2 ((tb s) + 1))] _ _ from ?_)
    have hg4 := ((hX s (by omega) (by omega)).2 c r (by omega) (by omega) (by omega) (by omega)).2
    refine P_aw_aldv P_i122_50 (hA.2.2 s (by omega) (by omega)).2.1.2.2.1.2 (hA.2.2 s (by omega) (by omega)).2.1.2.2.1.1 (by omega) (by omega) (by decide) (((hX s (by omega) (by omega)).2 c r (by omega) (by omega) (by omega) (by omega)).1) (show P_aw _ _ _ 51 [.ref (w.2.2 (tb s)), P_z r, P_z c, P_z ((r * 3) + c)] [P_z (V s c r)] _ _ from ?_)
    refine P_aw_goto P_i122_51 (show P_aw _ _ _ 55 [.ref (w.2.2 (tb s)), P_z r, P_z c, P_z ((r * 3) + c)] [P_z (V s c r)] _ _ from ?_)
    refine P_aw_end P_i122_55 rfl rfl (fun _ => rfl) rfl ?_
    show P_aw _ _ _ 6 [.ref (w.2.2 (tb s)), P_z r, P_z c, P_un, P_un] [P_z (V s c r)] _ _
    refine P_aw_op (L' := [.ref (w.2.2 (tb s)), P_z r, P_z c, P_z (V s c r), P_un]) (st' := []) P_i127_6 rfl (show P_aw _ _ _ 7 [.ref (w.2.2 (tb s)), P_z r, P_z c, P_z (V s c r), P_un] [] _ _ from ?_)
    refine P_aw_op (L' := [.ref (w.2.2 (tb s)), P_z r, P_z c, P_z (V s c r), P_un]) (st' := [P_z 0]) P_i127_7 rfl (show P_aw _ _ _ 8 [.ref (w.2.2 (tb s)), P_z r, P_z c, P_z (V s c r), P_un] [P_z 0] _ _ from ?_)
    refine P_aw_op (L' := [.ref (w.2.2 (tb s)), P_z r, P_z c, P_z (V s c r), P_z 0]) (st' := []) P_i127_8 rfl (show P_aw _ _ _ 10 [.ref (w.2.2 (tb s)), P_z r, P_z c, P_z (V s c r), P_z 0] [] _ _ from ?_)
    exact s_fnl hw hA hX hs hr hc (by omega) r.toNat 0 (by omega) (by omega) q
  · refine P_aw_ict P_i122_9 ⟨by omega, by omega⟩ ⟨by omega, by omega⟩ (P_ci_get (by omega)) (show P_aw _ _ _ 24 [.ref (w.2.2 (tb s)), P_z r, P_z c, P_un] [] _ _ from ?_)
    refine P_aw_op (L' := [.ref (w.2.2 (tb s)), P_z r, P_z c, P_un]) (st' := [P_z 0]) P_i122_24 rfl (show P_aw _ _ _ 25 [.ref (w.2.2 (tb s)), P_z r, P_z c, P_un] [P_z 0] _ _ from ?_)
    refine P_aw_end P_i122_25 rfl rfl (fun _ => rfl) rfl ?_
    show P_aw _ _ _ 6 [.ref (w.2.2 (tb s)), P_z r, P_z c, P_un, P_un] [P_z 0] _ _
    refine P_aw_op (L' := [.ref (w.2.2 (tb s)), P_z r, P_z c, P_z 0, P_un]) (st' := []) P_i127_6 rfl (show P_aw _ _ _ 7 [.ref (w.2.2 (tb s)), P_z r, P_z c, P_z 0, P_un] [] _ _ from ?_)
    refine P_aw_op (L' := [.ref (w.2.2 (tb s)), P_z r, P_z c, P_z 0, P_un]) (st' := [P_z 0]) P_i127_7 rfl (show P_aw _ _ _ 8 [.ref (w.2.2 (tb s)), P_z r, P_z c, P_z 0, P_un] [P_z 0] _ _ from ?_)
    refine P_aw_op (L' := [.ref (w.2.2 (tb s)), P_z r, P_z c, P_z 0, P_z 0]) (st' := []) P_i127_8 rfl (show P_aw _ _ _ 10 [.ref (w.2.2 (tb s)), P_z r, P_z c, P_z 0, P_z 0] [] _ _ from ?_)
    exact s_fnl hw hA hX hs hr hc (by omega) r.toNat 0 (by omega) (by omega) q

theorem s_gof {w : P_Lw} (hw : P_Cw w) {d : Nat} {Q : P_R → P_A → Prop} {σ : P_A} {ns : Int} {tb : Int → Nat} {rw : Int → Int} {vr : Int → Int → Int} {cl : Int → Int} {V : Int → Int → Int → Int} (hA : A_V w σ ns tb rw vr) (hX : A_X σ ns tb rw cl V) {it : Int} {ki ci : Int → Int} {gp oi lm : Int} (hF : A_F σ ns cl it ki ci gp oi lm) {m : Int} (hm : 0 ≤ m ∧ m ≤ 2743) (q : ∀ v : Int, 0 ≤ v → v ≤ 13 → (gp = -1 → v = 0) → Q (.inl (some (P_z v))) σ) : P_aw w (d + 4) 47 0 [.ref (w.2.2 33), P_z m, P_un] [] σ Q := by
  have hns := hA.2.1
  refine P_aw_op (L' := [.ref (w.2.2 33), P_z m, P_un]) (st' := [.ref (w.2.2 33)]) P_i47_0 rfl (show P_aw _ _ _ 1 [.ref (w.2.2 33), P_z m, P_un] [.ref (w.2.2 33)] _ _ from ?_)
  refine P_aw_getR P_i47_1 (hw.2.1 33 (by decide)) (hw.s rfl) rfl rfl (show P_aw _ _ _ 4 [.ref (w.2.2 33), P_z m, P_un] [.ref (w.2.2 6)] _ _ from ?_)
  refine P_aw_call P_i47_4 rfl rfl (fun _ => rfl) rfl rfl rfl rfl (y2 := 31) (as := [.ref (w.2.2 6)]) (r0 := []) (P_inv_v (hw.2.1 6 (by decide)) (hw.s rfl) rfl rfl) (Nat.le_of_ble_eq_true rfl) (by decide) rfl (Nat.le_of_ble_eq_true rfl) (show P_aw _ _ _ 0 [.ref (w.2.2 6)] [] _ _ from ?_)
  refine P_aw_op (L' := [.ref (w.2.2 6)]) (st' := [.ref (w.2.2 6)]) P_i31_0 rfl (show P_aw _ _ _ 1 [.ref (w.2.2 6)] [.ref (w.2.2 6)] _ _ from ?_)
  have hg1 := A_gp_rg hF.2.2.2.2.1
  refine P_aw_getv P_i31_1 (hw.2.1 6 (by decide)) (hw.s rfl) rfl rfl (hF.2.2.2.1) (show P_aw _ _ _ 4 [.ref (w.2.2 6)] [P_z gp] _ _ from ?_)
  refine P_aw_end P_i31_4 rfl rfl (fun _ => rfl) rfl ?_
  show P_aw _ _ _ 7 [.ref (w.2.2 33), P_z m, P_un] [P_z gp] _ _
  refine P_aw_op (L' := [.ref (w.2.2 33), P_z m, P_un]) (st' := [P_z (-1), P_z gp]) P_i47_7 rfl (show P_aw _ _ _ 8 [.ref (w.2.2 33), P_z m, P_un] [P_z (-1), P_z gp] _ _ from ?_)
  by_cases hc2 : gp = (-1)
  · refine P_aw_icf P_i47_8 ⟨by omega, by omega⟩ ⟨by decide, by decide⟩ (P_ci_nef (by omega)) (show P_aw _ _ _ 11 [.ref (w.2.2 33), P_z m, P_un] [] _ _ from ?_)
    refine P_aw_op (L' := [.ref (w.2.2 33), P_z m, P_un]) (st' := [P_z 0]) P_i47_11 rfl (show P_aw _ _ _ 12 [.ref (w.2.2 33), P_z m, P_un] [P_z 0] _ _ from ?_)
    refine P_aw_end P_i47_12 rfl rfl (fun _ => rfl) rfl ?_
    exact q 0 (by omega) (by omega) (fun _ => by omega)
  · refine P_aw_ict P_i47_8 ⟨by omega, by omega⟩ ⟨by decide, by decide⟩ (P_ci_net (by omega)) (show P_aw _ _ _ 13 [.ref (w.2.2 33), P_z m, P_un] [] _ _ from ?_)
    refine P_aw_op (L' := [.ref (w.2.2 33), P_z m, P_un]) (st' := [.ref (w.2.2 33)]) P_i47_13 rfl (show P_aw _ _ _ 14 [.ref (w.2.2 33), P_z m, P_un] [.ref (w.2.2 33)] _ _ from ?_)
    refine P_aw_getR P_i47_14 (hw.2.1 33 (by decide)) (hw.s rfl) rfl rfl (show P_aw _ _ _ 17 [.ref (w.2.2 33), P_z m, P_un] [.ref (w.2.2 6)] _ _ from ?_)
    refine P_aw_call P_i47_17 rfl rfl (fun _ => rfl) rfl rfl rfl rfl (y2 := 31) (as := [.ref (w.2.2 6)]) (r0 := []) (P_inv_v (hw.2.1 6 (by decide)) (hw.s rfl) rfl rfl) (Nat.le_of_ble_eq_true rfl) (by decide) rfl (Nat.le_of_ble_eq_true rfl) (show P_aw _ _ _ 0 [.ref (w.2.2 6)] [] _ _ from ?_)
    refine P_aw_op (L' := [.ref (w.2.2 6)]) (st' := [.ref (w.2.2 6)]) P_i31_0 rfl (show P_aw _ _ _ 1 [.ref (w.2.2 6)] [.ref (w.2.2 6)] _ _ from ?_)
    have hg3 := A_gp_rg hF.2.2.2.2.1
    refine P_aw_getv P_i31_1 (hw.2.1 6 (by decide)) (hw.s rfl) rfl rfl (hF.2.2.2.1) (show P_aw _ _ _ 4 [.ref (w.2.2 6)] [P_z gp] _ _ from ?_)
    refine P_aw_end P_i31_4 rfl rfl (fun _ => rfl) rfl ?_
    show P_aw _ _ _ 20 [.ref (w.2.2 33), P_z m, P_un] [P_z gp] _ _
    refine P_aw_call P_i47_20 rfl rfl (fun _ => rfl) rfl rfl rfl rfl (y2 := 176) (as := [P_z gp]) (r0 := []) (fun _ _ => rfl) (Nat.le_of_ble_eq_true rfl) (by decide) rfl (Nat.le_of_ble_eq_true rfl) (show P_aw _ _ _ 0 [P_z gp] [] _ _ from ?_)
    refine P_aw_op (L' := [P_z gp]) (st' := [P_z gp]) P_i176_0 rfl (show P_aw _ _ _ 1 [P_z gp] [P_z gp] _ _ from ?_)
    refine P_aw_op (L' := [P_z gp]) (st' := [P_z 100, P_z gp]) P_i176_1 (P_o_bi (by decide)) (show P_aw _ _ _ 3 [P_z gp] [P_z 100, P_z gp] _ _ from ?_)
    refine P_aw_op (L' := [P_z gp]) (st' := [P_z (gp - 100)]) P_i176_3 P_o_isub (show P_aw _ _ _ 4 [P_z gp] [P_z (gp - 100)] _ _ from ?_)
    refine P_aw_op (L' := [P_z gp]) (st' := [P_z 10, P_z (gp - 100)]) P_i176_4 (P_o_bi (by decide)) (show P_aw _ _ _ 6 [P_z gp] [P_z 10, P_z (gp - 100)] _ _ from ?_)
    refine P_aw_op (L' := [P_z gp]) (st' := [P_z ((gp - 100) / 10)]) P_i176_6 (P_o_idiv (by omega) (by omega) (by omega) (by omega)) (show P_aw _ _ _ 7 [P_z gp] [P_z ((gp - 100) / 10)] _ _ from ?_)
    refine P_aw_end P_i176_7 rfl rfl (fun _ => rfl) rfl ?_
    show P_aw _ _ _ 23 [.ref (w.2.2 33), P_z m, P_un] [P_z ((gp - 100) / 10)] _ _
    refine P_aw_op (L' := [.ref (w.2.2 33), P_z m, P_z ((gp - 100) / 10)]) (st' := []) P_i47_23 rfl (show P_aw _ _ _ 24 [.ref (w.2.2 33), P_z m, P_z ((gp - 100) / 10)] [] _ _ from ?_)
    refine P_aw_op (L' := [.ref (w.2.2 33), P_z m, P_z ((gp - 100) / 10)]) (st' := [.ref (w.2.2 33)]) P_i47_24 rfl (show P_aw _ _ _ 25 [.ref (w.2.2 33), P_z m, P_z ((gp - 100) / 10)] [.ref (w.2.2 33)] _ _ from ?_)
    refine P_aw_getR P_i47_25 (hw.2.1 33 (by decide)) (hw.s rfl) rfl rfl (show P_aw _ _ _ 28 [.ref (w.2.2 33), P_z m, P_z ((gp - 100) / 10)] [.ref (w.2.2 6)] _ _ from ?_)
    refine P_aw_op (L' := [.ref (w.2.2 33), P_z m, P_z ((gp - 100) / 10)]) (st' := [P_z ((gp - 100) / 10), .ref (w.2.2 6)]) P_i47_28 rfl (show P_aw _ _ _ 29 [.ref (w.2.2 33), P_z m, P_z ((gp - 100) / 10)] [P_z ((gp - 100) / 10), .ref (w.2.2 6)] _ _ from ?_)
    refine P_aw_call P_i47_29 rfl rfl (fun _ => rfl) rfl rfl rfl rfl (y2 := 38) (as := [.ref (w.2.2 6), P_z ((gp - 100) / 10)]) (r0 := []) (P_inv_v (hw.2.1 6 (by decide)) (hw.s rfl) rfl rfl) (Nat.le_of_ble_eq_true rfl) (by decide) rfl (Nat.le_of_ble_eq_true rfl) (show P_aw _ _ _ 0 [.ref (w.2.2 6), P_z ((gp - 100) / 10), P_un] [] _ _ from ?_)
    refine P_aw_op (L' := [.ref (w.2.2 6), P_z ((gp - 100) / 10), P_un]) (st' := [P_z ((gp - 100) / 10)]) P_i38_0 rfl (show P_aw _ _ _ 1 [.ref (w.2.2 6), P_z ((gp - 100) / 10), P_un] [P_z ((gp - 100) / 10)] _ _ from ?_)
    refine P_aw_izf P_i38_1 ⟨by omega, by omega⟩ (P_ci_ltf (by omega)) (show P_aw _ _ _ 4 [.ref (w.2.2 6), P_z ((gp - 100) / 10), P_un] [] _ _ from ?_)
    refine P_aw_op (L' := [.ref (w.2.2 6), P_z ((gp - 100) / 10), P_un]) (st' := [P_z ((gp - 100) / 10)]) P_i38_4 rfl (show P_aw _ _ _ 5 [.ref (w.2.2 6), P_z ((gp - 100) / 10), P_un] [P_z ((gp - 100) / 10)] _ _ from ?_)
    refine P_aw_op (L' := [.ref (w.2.2 6), P_z ((gp - 100) / 10), P_un]) (st' := [.ref (w.2.2 6), P_z ((gp - 100) / 10)]) P_i38_5 rfl (show P_aw _ _ _ 6 [.ref (w.2.2 6), P_z ((gp - 100) / 10), P_un] [.ref (w.2.2 6), P_z ((gp - 100) / 10)] _ _ from ?_)
    refine P_aw_getv P_i38_6 (hw.2.1 6 (by decide)) (hw.s rfl) rfl rfl (hA.1) (show P_aw _ _ _ 9 [.ref (w.2.2 6), P_z ((gp - 100) / 10), P_un] [P_z ns, P_z ((gp - 100) / 10)] _ _ from ?_)
    refine P_aw_icf P_i38_9 ⟨by omega, by omega⟩ ⟨by omega, by omega⟩ (P_ci_gef (by omega)) (show P_aw _ _ _ 12 [.ref (w.2.2 6), P_z ((gp - 100) / 10), P_un] [] _ _ from ?_)
    refine P_aw_op (L' := [.ref (w.2.2 6), P_z ((gp - 100) / 10), P_un]) (st' := [P_z ((gp - 100) / 10)]) P_i38_12 rfl (show P_aw _ _ _ 13 [.ref (w.2.2 6), P_z ((gp - 100) / 10), P_un] [P_z ((gp - 100) / 10)] _ _ from ?_)
    refine P_aw_op (L' := [.ref (w.2.2 6), P_z ((gp - 100) / 10), P_un]) (st' := [.ref (w.2.2 6), P_z ((gp - 100) / 10)]) P_i38_13 rfl (show P_aw _ _ _ 14 [.ref (w.2.2 6), P_z ((gp - 100) / 10), P_un] [.ref (w.2.2 6), P_z ((gp - 100) / 10)] _ _ from ?_)
    refine P_aw_getR P_i38_14 (hw.2.1 6 (by decide)) (hw.s rfl) rfl rfl (show P_aw _ _ _ 17 [.ref (w.2.2 6), P_z ((gp - 100) / 10), P_un] [.ref (w.2.2 9), P_z ((gp - 100) / 10)] _ _ from ?_)
    refine P_aw_rlen P_i38_17 (hw.2.1 9 (by decide)) (hw.s rfl) (show P_aw _ _ _ 18 [.ref (w.2.2 6), P_z ((gp - 100) / 10), P_un] [P_z 3, P_z ((gp - 100) / 10)] _ _ from ?_)
    refine P_aw_ict P_i38_18 ⟨by omega, by omega⟩ ⟨by decide, by decide⟩ (P_ci_ltt (by omega)) (show P_aw _ _ _ 26 [.ref (w.2.2 6), P_z ((gp - 100) / 10), P_un] [] _ _ from ?_)
    refine P_aw_op (L' := [.ref (w.2.2 6), P_z ((gp - 100) / 10), P_un]) (st' := [.ref (w.2.2 6)]) P_i38_26 rfl (show P_aw _ _ _ 27 [.ref (w.2.2 6), P_z ((gp - 100) / 10), P_un] [.ref (w.2.2 6)] _ _ from ?_)
    refine P_aw_getR P_i38_27 (hw.2.1 6 (by decide)) (hw.s rfl) rfl rfl (show P_aw _ _ _ 30 [.ref (w.2.2 6), P_z ((gp - 100) / 10), P_un] [.ref (w.2.2 9)] _ _ from ?_)
    refine P_aw_op (L' := [.ref (w.2.2 6), P_z ((gp - 100) / 10), P_un]) (st' := [P_z ((gp - 100) / 10), .ref (w.2.2 9)]) P_i38_30 rfl (show P_aw _ _ _ 31 [.ref (w.2.2 6), P_z ((gp - 100) / 10), P_un] [P_z ((gp - 100) / 10), .ref (w.2.2 9)] _ _ from ?_)
    have hg4 := (hA.2.2 ((gp - 100) / 10) (by omega) (by omega)).2.1.1
    refine P_aw_rldv P_i38_31 (hw.2.1 9 (by decide)) (hw.s rfl) (by decide) (by omega) (by omega) (by decide) ((hA.2.2 ((gp - 100) / 10) (by omega) (by omega)).1) (by omega) (show P_aw _ _ _ 32 [.ref (w.2.2 6), P_z ((gp - 100) / 10), P_un] [.ref (w.2.2 (tb ((gp - 100) / 10)))] _ _ from ?_)
    refine P_aw_op (L' := [.ref (w.2.2 6), P_z ((gp - 100) / 10), .ref (w.2.2 (tb ((gp - 100) / 10)))]) (st' := []) P_i38_32 rfl (show P_aw _ _ _ 33 [.ref (w.2.2 6), P_z ((gp - 100) / 10), .ref (w.2.2 (tb ((gp - 100) / 10)))] [] _ _ from ?_)
    refine P_aw_op (L' := [.ref (w.2.2 6), P_z ((gp - 100) / 10), .ref (w.2.2 (tb ((gp - 100) / 10)))]) (st' := [.ref (w.2.2 (tb ((gp - 100) / 10)))]) P_i38_33 rfl (show P_aw _ _ _ 34 [.ref (w.2.2 6), P_z ((gp - 100) / 10), .ref (w.2.2 (tb ((gp - 100) / 10)))] [.ref (w.2.2 (tb ((gp - 100) / 10)))] _ _ from ?_)
    refine P_aw_brt P_i38_34 rfl (show P_aw _ _ _ 44 [.ref (w.2.2 6), P_z ((gp - 100) / 10), .ref (w.2.2 (tb ((gp - 100) / 10)))] [] _ _ from ?_)
    refine P_aw_op (L' := [.ref (w.2.2 6), P_z ((gp - 100) / 10), .ref (w.2.2 (tb ((gp - 100) / 10)))]) (st' := [.ref (w.2.2 (tb ((gp - 100) / 10)))]) P_i38_44 rfl (show P_aw _ _ _ 45 [.ref (w.2.2 6), P_z ((gp - 100) / 10), .ref (w.2.2 (tb ((gp - 100) / 10)))] [.ref (w.2.2 (tb ((gp - 100) / 10)))] _ _ from ?_)
    refine P_aw_end P_i38_45 rfl rfl (fun _ => rfl) rfl ?_
    show P_aw _ _ _ 32 [.ref (w.2.2 33), P_z m, P_z ((gp - 100) / 10)] [.ref (w.2.2 (tb ((gp - 100) / 10)))] _ _
    refine P_aw_op (L' := [.ref (w.2.2 33), P_z m, P_z ((gp - 100) / 10)]) (st' := [P_z m, .ref (w.2.2 (tb ((gp - 100) / 10)))]) P_i47_32 rfl (show P_aw _ _ _ 33 [.ref (w.2.2 33), P_z m, P_z ((gp - 100) / 10)] [P_z m, .ref (w.2.2 (tb ((gp - 100) / 10)))] _ _ from ?_)
    refine P_aw_op (L' := [.ref (w.2.2 33), P_z m, P_z ((gp - 100) / 10)]) (st' := [P_z ((gp - 100) / 10), P_z m, .ref (w.2.2 (tb ((gp - 100) / 10)))]) P_i47_33 rfl (show P_aw _ _ _ 34 [.ref (w.2.2 33), P_z m, P_z ((gp - 100) / 10)] [P_z ((gp - 100) / 10), P_z m, .ref (w.2.2 (tb ((gp - 100) / 10)))] _ _ from ?_)
    refine P_aw_call P_i47_34 rfl rfl (fun _ => rfl) rfl rfl rfl rfl (y2 := 52) (as := [P_z m, P_z ((gp - 100) / 10)]) (r0 := [.ref (w.2.2 (tb ((gp - 100) / 10)))]) (fun _ _ => rfl) (Nat.le_of_ble_eq_true rfl) (by decide) rfl (Nat.le_of_ble_eq_true rfl) (show P_aw _ _ _ 0 [P_z m, P_z ((gp - 100) / 10), P_un] [] _ _ from ?_)
    refine P_aw_op (L' := [P_z m, P_z ((gp - 100) / 10), P_un]) (st' := [P_z ((gp - 100) / 10)]) P_i52_0 rfl (show P_aw _ _ _ 1 [P_z m, P_z ((gp - 100) / 10), P_un] [P_z ((gp - 100) / 10)] _ _ from ?_)
    by_cases hc5 : ((gp - 100) / 10) = 0
    · refine P_aw_izf P_i52_1 ⟨by omega, by omega⟩ (P_ci_nef (by omega)) (show P_aw _ _ _ 4 [P_z m, P_z ((gp - 100) / 10), P_un] [] _ _ from ?_)
      refine P_aw_op (L' := [P_z m, P_z ((gp - 100) / 10), P_un]) (st' := [P_z m]) P_i52_4 rfl (show P_aw _ _ _ 5 [P_z m, P_z ((gp - 100) / 10), P_un] [P_z m] _ _ from ?_)
      refine P_aw_op (L' := [P_z m, P_z ((gp - 100) / 10), P_un]) (st' := [P_z 14, P_z m]) P_i52_5 (P_o_bi (by decide)) (show P_aw _ _ _ 7 [P_z m, P_z ((gp - 100) / 10), P_un] [P_z 14, P_z m] _ _ from ?_)
      refine P_aw_op (L' := [P_z m, P_z ((gp - 100) / 10), P_un]) (st' := [P_z (m % 14)]) P_i52_7 (P_o_irem (by omega) (by omega) (by omega) (by omega)) (show P_aw _ _ _ 8 [P_z m, P_z ((gp - 100) / 10), P_un] [P_z (m % 14)] _ _ from ?_)
      refine P_aw_end P_i52_8 rfl rfl (fun _ => rfl) rfl ?_
      show P_aw _ _ _ 37 [.ref (w.2.2 33), P_z m, P_z ((gp - 100) / 10)] [P_z (m % 14), .ref (w.2.2 (tb ((gp - 100) / 10)))] _ _
      refine P_aw_op (L' := [.ref (w.2.2 33), P_z m, P_z ((gp - 100) / 10)]) (st' := [.ref (w.2.2 33), P_z (m % 14), .ref (w.2.2 (tb ((gp - 100) / 10)))]) P_i47_37 rfl (show P_aw _ _ _ 38 [.ref (w.2.2 33), P_z m, P_z ((gp - 100) / 10)] [.ref (w.2.2 33), P_z (m % 14), .ref (w.2.2 (tb ((gp - 100) / 10)))] _ _ from ?_)
      refine P_aw_getR P_i47_38 (hw.2.1 33 (by decide)) (hw.s rfl) rfl rfl (show P_aw _ _ _ 41 [.ref (w.2.2 33), P_z m, P_z ((gp - 100) / 10)] [.ref (w.2.2 6), P_z (m % 14), .ref (w.2.2 (tb ((gp - 100) / 10)))] _ _ from ?_)
      refine P_aw_call P_i47_41 rfl rfl (fun _ => rfl) rfl rfl rfl rfl (y2 := 31) (as := [.ref (w.2.2 6)]) (r0 := [P_z (m % 14), .ref (w.2.2 (tb ((gp - 100) / 10)))]) (P_inv_v (hw.2.1 6 (by decide)) (hw.s rfl) rfl rfl) (Nat.le_of_ble_eq_true rfl) (by decide) rfl (Nat.le_of_ble_eq_true rfl) (show P_aw _ _ _ 0 [.ref (w.2.2 6)] [] _ _ from ?_)
      refine P_aw_op (L' := [.ref (w.2.2 6)]) (st' := [.ref (w.2.2 6)]) P_i31_0 rfl (show P_aw _ _ _ 1 [.ref (w.2.2 6)] [.ref (w.2.2 6)] _ _ from ?_)
      have hg6 := A_gp_rg hF.2.2.2.2.1
      refine P_aw_getv P_i31_1 (hw.2.1 6 (by decide)) (hw.s rfl) rfl rfl (hF.2.2.2.1) (show P_aw _ _ _ 4 [.ref (w.2.2 6)] [P_z gp] _ _ from ?_)
      refine P_aw_end P_i31_4 rfl rfl (fun _ => rfl) rfl ?_
      show P_aw _ _ _ 44 [.ref (w.2.2 33), P_z m, P_z ((gp - 100) / 10)] [P_z gp, P_z (m % 14), .ref (w.2.2 (tb ((gp - 100) / 10)))] _ _
      refine P_aw_call P_i47_44 rfl rfl (fun _ => rfl) rfl rfl rfl rfl (y2 := 177) (as := [P_z gp]) (r0 := [P_z (m % 14), .ref (w.2.2 (tb ((gp - 100) / 10)))]) (fun _ _ => rfl) (Nat.le_of_ble_eq_true rfl) (by decide) rfl (Nat.le_of_ble_eq_true rfl) (show P_aw _ _ _ 0 [P_z gp] [] _ _ from ?_)
      refine P_aw_op (L' := [P_z gp]) (st' := [P_z gp]) P_i177_0 rfl (show P_aw _ _ _ 1 [P_z gp] [P_z gp] _ _ from ?_)
      refine P_aw_op (L' := [P_z gp]) (st' := [P_z 100, P_z gp]) P_i177_1 (P_o_bi (by decide)) (show P_aw _ _ _ 3 [P_z gp] [P_z 100, P_z gp] _ _ from ?_)
      refine P_aw_op (L' := [P_z gp]) (st' := [P_z (gp - 100)]) P_i177_3 P_o_isub (show P_aw _ _ _ 4 [P_z gp] [P_z (gp - 100)] _ _ from ?_)
      refine P_aw_op (L' := [P_z gp]) (st' := [P_z 10, P_z (gp - 100)]) P_i177_4 (P_o_bi (by decide)) (show P_aw _ _ _ 6 [P_z gp] [P_z 10, P_z (gp - 100)] _ _ from ?_)
      refine P_aw_op (L' := [P_z gp]) (st' := [P_z ((gp - 100) % 10)]) P_i177_6 (P_o_irem (by omega) (by omega) (by omega) (by omega)) (show P_aw _ _ _ 7 [P_z gp] [P_z ((gp - 100) % 10)] _ _ from ?_)
      refine P_aw_end P_i177_7 rfl rfl (fun _ => rfl) rfl ?_
      show P_aw _ _ _ 47 [.ref (w.2.2 33), P_z m, P_z ((gp - 100) / 10)] [P_z ((gp - 100) % 10), P_z (m % 14), .ref (w.2.2 (tb ((gp - 100) / 10)))] _ _
      refine P_aw_call P_i47_47 rfl rfl (fun _ => rfl) rfl rfl rfl rfl (y2 := 127) (as := [.ref (w.2.2 (tb ((gp - 100) / 10))), P_z (m % 14), P_z ((gp - 100) % 10)]) (r0 := []) (P_inv_v (hA.2.2 ((gp - 100) / 10) (by omega) (by omega)).2.1.2.1.2 (hA.2.2 ((gp - 100) / 10) (by omega) (by omega)).2.1.2.1.1 rfl rfl) (Nat.le_of_ble_eq_true rfl) (by decide) rfl (Nat.le_of_ble_eq_true rfl) (s_fan (s := ((gp - 100) / 10)) hw hA hX (by omega) (by omega) (by omega) (fun v k1 k2 => ?_))
      show P_aw _ _ _ 50 [.ref (w.2.2 33), P_z m, P_z ((gp - 100) / 10)] [P_z v] _ _
      refine P_aw_end P_i47_50 rfl rfl (fun _ => rfl) rfl ?_
      exact q v (by omega) (by omega) (fun _ => by omega)
    · refine P_aw_izt P_i52_1 ⟨by omega, by omega⟩ (P_ci_net (by omega)) (show P_aw _ _ _ 9 [P_z m, P_z ((gp - 100) / 10), P_un] [] _ _ from ?_)
      refine P_aw_op (L' := [P_z m, P_z ((gp - 100) / 10), P_un]) (st' := [P_z m]) P_i52_9 rfl (show P_aw _ _ _ 10 [P_z m, P_z ((gp - 100) / 10), P_un] [P_z m] _ _ from ?_)
      refine P_aw_op (L' := [P_z m, P_z ((gp - 100) / 10), P_un]) (st' := [P_z 14, P_z m]) P_i52_10 (P_o_bi (by decide)) (show P_aw _ _ _ 12 [P_z m, P_z ((gp - 100) / 10), P_un] [P_z 14, P_z m] _ _ from ?_)
      refine P_aw_op (L' := [P_z m, P_z ((gp - 100) / 10), P_un]) (st' := [P_z (m / 14)]) P_i52_12 (P_o_idiv (by omega) (by omega) (by omega) (by omega)) (show P_aw _ _ _ 13 [P_z m, P_z ((gp - 100) / 10), P_un] [P_z (m / 14)] _ _ from ?_)
      refine P_aw_op (L' := [P_z m, P_z ((gp - 100) / 10), P_z (m / 14)]) (st' := []) P_i52_13 rfl (show P_aw _ _ _ 14 [P_z m, P_z ((gp - 100) / 10), P_z (m / 14)] [] _ _ from ?_)
      refine P_aw_op (L' := [P_z m, P_z ((gp - 100) / 10), P_z (m / 14)]) (st' := [P_z ((gp - 100) / 10)]) P_i52_14 rfl (show P_aw _ _ _ 15 [P_z m, P_z ((gp - 100) / 10), P_z (m / 14)] [P_z ((gp - 100) / 10)] _ _ from ?_)
      refine P_aw_op (L' := [P_z m, P_z ((gp - 100) / 10), P_z (m / 14)]) (st' := [P_z 1, P_z ((gp - 100) / 10)]) P_i52_15 rfl (show P_aw _ _ _ 16 [P_z m, P_z ((gp - 100) / 10), P_z (m / 14)] [P_z 1, P_z ((gp - 100) / 10)] _ _ from ?_)
      by_cases hc6 : ((gp - 100) / 10) = 1
      · refine P_aw_icf P_i52_16 ⟨by omega, by omega⟩ ⟨by decide, by decide⟩ (P_ci_nef (by omega)) (show P_aw _ _ _ 19 [P_z m, P_z ((gp - 100) / 10), P_z (m / 14)] [] _ _ from ?_)
        refine P_aw_op (L' := [P_z m, P_z ((gp - 100) / 10), P_z (m / 14)]) (st' := [P_z (m / 14)]) P_i52_19 rfl (show P_aw _ _ _ 20 [P_z m, P_z ((gp - 100) / 10), P_z (m / 14)] [P_z (m / 14)] _ _ from ?_)
        refine P_aw_op (L' := [P_z m, P_z ((gp - 100) / 10), P_z (m / 14)]) (st' := [P_z 14, P_z (m / 14)]) P_i52_20 (P_o_bi (by decide)) (show P_aw _ _ _ 22 [P_z m, P_z ((gp - 100) / 10), P_z (m / 14)] [P_z 14, P_z (m / 14)] _ _ from ?_)
        refine P_aw_op (L' := [P_z m, P_z ((gp - 100) / 10), P_z (m / 14)]) (st' := [P_z ((m / 14) % 14)]) P_i52_22 (P_o_irem (by omega) (by omega) (by omega) (by omega)) (show P_aw _ _ _ 23 [P_z m, P_z ((gp - 100) / 10), P_z (m / 14)] [P_z ((m / 14) % 14)] _ _ from ?_)
        refine P_aw_goto P_i52_23 (show P_aw _ _ _ 30 [P_z m, P_z ((gp - 100) / 10), P_z (m / 14)] [P_z ((m / 14) % 14)] _ _ from ?_)
        refine P_aw_end P_i52_30 rfl rfl (fun _ => rfl) rfl ?_
        show P_aw _ _ _ 37 [.ref (w.2.2 33), P_z m, P_z ((gp - 100) / 10)] [P_z ((m / 14) % 14), .ref (w.2.2 (tb ((gp - 100) / 10)))] _ _
        refine P_aw_op (L' := [.ref (w.2.2 33), P_z m, P_z ((gp - 100) / 10)]) (st' := [.ref (w.2.2 33), P_z ((m / 14) % 14), .ref (w.2.2 (tb ((gp - 100) / 10)))]) P_i47_37 rfl (show P_aw _ _ _ 38 [.ref (w.2.2 33), P_z m, P_z ((gp - 100) / 10)] [.ref (w.2.2 33), P_z ((m / 14) % 14), .ref (w.2.2 (tb ((gp - 100) / 10)))] _ _ from ?_)
        refine P_aw_getR P_i47_38 (hw.2.1 33 (by decide)) (hw.s rfl) rfl rfl (show P_aw _ _ _ 41 [.ref (w.2.2 33), P_z m, P_z ((gp - 100) / 10)] [.ref (w.2.2 6), P_z ((m / 14) % 14), .ref (w.2.2 (tb ((gp - 100) / 10)))] _ _ from ?_)
        refine P_aw_call P_i47_41 rfl rfl (fun _ => rfl) rfl rfl rfl rfl (y2 := 31) (as := [.ref (w.2.2 6)]) (r0 := [P_z ((m / 14) % 14), .ref (w.2.2 (tb ((gp - 100) / 10)))]) (P_inv_v (hw.2.1 6 (by decide)) (hw.s rfl) rfl rfl) (Nat.le_of_ble_eq_true rfl) (by decide) rfl (Nat.le_of_ble_eq_true rfl) (show P_aw _ _ _ 0 [.ref (w.2.2 6)] [] _ _ from ?_)
        refine P_aw_op (L' := [.ref (w.2.2 6)]) (st' := [.ref (w.2.2 6)]) P_i31_0 rfl (show P_aw _ _ _ 1 [.ref (w.2.2 6)] [.ref (w.2.2 6)] _ _ from ?_)
        have hg7 := A_gp_rg hF.2.2.2.2.1
        refine P_aw_getv P_i31_1 (hw.2.1 6 (by decide)) (hw.s rfl) rfl rfl (hF.2.2.2.1) (show P_aw _ _ _ 4 [.ref (w.2.2 6)] [P_z gp] _ _ from ?_)
        refine P_aw_end P_i31_4 rfl rfl (fun _ => rfl) rfl ?_
        show P_aw _ _ _ 44 [.ref (w.2.2 33), P_z m, P_z ((gp - 100) / 10)] [P_z gp, P_z ((m / 14) % 14), .ref (w.2.2 (tb ((gp - 100) / 10)))] _ _
        refine P_aw_call P_i47_44 rfl rfl (fun _ => rfl) rfl rfl rfl rfl (y2 := 177) (as := [P_z gp]) (r0 := [P_z ((m / 14) % 14), .ref (w.2.2 (tb ((gp - 100) / 10)))]) (fun _ _ => rfl) (Nat.le_of_ble_eq_true rfl) (by decide) rfl (Nat.le_of_ble_eq_true rfl) (show P_aw _ _ _ 0 [P_z gp] [] _ _ from ?_)
        refine P_aw_op (L' := [P_z gp]) (st' := [P_z gp]) P_i177_0 rfl (show P_aw _ _ _ 1 [P_z gp] [P_z gp] _ _ from ?_)
        refine P_aw_op (L' := [P_z gp]) (st' := [P_z 100, P_z gp]) P_i177_1 (P_o_bi (by decide)) (show P_aw _ _ _ 3 [P_z gp] [P_z 100, P_z gp] _ _ from ?_)
        refine P_aw_op (L' := [P_z gp]) (st' := [P_z (gp - 100)]) P_i177_3 P_o_isub (show P_aw _ _ _ 4 [P_z gp] [P_z (gp - 100)] _ _ from ?_)
        refine P_aw_op (L' := [P_z gp]) (st' := [P_z 10, P_z (gp - 100)]) P_i177_4 (P_o_bi (by decide)) (show P_aw _ _ _ 6 [P_z gp] [P_z 10, P_z (gp - 100)] _ _ from ?_)
        refine P_aw_op (L' := [P_z gp]) (st' := [P_z ((gp - 100) % 10)]) P_i177_6 (P_o_irem (by omega) (by omega) (by omega) (by omega)) (show P_aw _ _ _ 7 [P_z gp] [P_z ((gp - 100) % 10)] _ _ from ?_)
        refine P_aw_end P_i177_7 rfl rfl (fun _ => rfl) rfl ?_
        show P_aw _ _ _ 47 [.ref (w.2.2 33), P_z m, P_z ((gp - 100) / 10)] [P_z ((gp - 100) % 10), P_z ((m / 14) % 14), .ref (w.2.2 (tb ((gp - 100) / 10)))] _ _
        refine P_aw_call P_i47_47 rfl rfl (fun _ => rfl) rfl rfl rfl rfl (y2 := 127) (as := [.ref (w.2.2 (tb ((gp - 100) / 10))), P_z ((m / 14) % 14), P_z ((gp - 100) % 10)]) (r0 := []) (P_inv_v (hA.2.2 ((gp - 100) / 10) (by omega) (by omega)).2.1.2.1.2 (hA.2.2 ((gp - 100) / 10) (by omega) (by omega)).2.1.2.1.1 rfl rfl) (Nat.le_of_ble_eq_true rfl) (by decide) rfl (Nat.le_of_ble_eq_true rfl) (s_fan (s := ((gp - 100) / 10)) hw hA hX (by omega) (by omega) (by omega) (fun v k1 k2 => ?_))
        show P_aw _ _ _ 50 [.ref (w.2.2 33), P_z m, P_z ((gp - 100) / 10)] [P_z v] _ _
        refine P_aw_end P_i47_50 rfl rfl (fun _ => rfl) rfl ?_
        exact q v (by omega) (by omega) (fun _ => by omega)
      · refine P_aw_ict P_i52_16 ⟨by omega, by omega⟩ ⟨by decide, by decide⟩ (P_ci_net (by omega)) (show P_aw _ _ _ 26 [P_z m, P_z ((gp - 100) / 10), P_z (m / 14)] [] _ _ from ?_)
        refine P_aw_op (L' := [P_z m, P_z ((gp - 100) / 10), P_z (m / 14)]) (st' := [P_z (m / 14)]) P_i52_26 rfl (show P_aw _ _ _ 27 [P_z m, P_z ((gp - 100) / 10), P_z (m / 14)] [P_z (m / 14)] _ _ from ?_)
        refine P_aw_op (L' := [P_z m, P_z ((gp - 100) / 10), P_z (m / 14)]) (st' := [P_z 14, P_z (m / 14)]) P_i52_27 (P_o_bi (by decide)) (show P_aw _ _ _ 29 [P_z m, P_z ((gp - 100) / 10), P_z (m / 14)] [P_z 14, P_z (m / 14)] _ _ from ?_)
        refine P_aw_op (L' := [P_z m, P_z ((gp - 100) / 10), P_z (m / 14)]) (st' := [P_z ((m / 14) / 14)]) P_i52_29 (P_o_idiv (by omega) (by omega) (by omega) (by omega)) (show P_aw _ _ _ 30 [P_z m, P_z ((gp - 100) / 10), P_z (m / 14)] [P_z ((m / 14) / 14)] _ _ from ?_)
        refine P_aw_end P_i52_30 rfl rfl (fun _ => rfl) rfl ?_
        show P_aw _ _ _ 37 [.ref (w.2.2 33), P_z m, P_z ((gp - 100) / 10)] [P_z ((m / 14) / 14), .ref (w.2.2 (tb ((gp - 100) / 10)))] _ _
        refine P_aw_op (L' := [.ref (w.2.2 33), P_z m, P_z ((gp - 100) / 10)]) (st' := [.ref (w.2.2 33), P_z ((m / 14) / 14), .ref (w.2.2 (tb ((gp - 100) / 10)))]) P_i47_37 rfl (show P_aw _ _ _ 38 [.ref (w.2.2 33), P_z m, P_z ((gp - 100) / 10)] [.ref (w.2.2 33), P_z ((m / 14) / 14), .ref (w.2.2 (tb ((gp - 100) / 10)))] _ _ from ?_)
        refine P_aw_getR P_i47_38 (hw.2.1 33 (by decide)) (hw.s rfl) rfl rfl (show P_aw _ _ _ 41 [.ref (w.2.2 33), P_z m, P_z ((gp - 100) / 10)] [.ref (w.2.2 6), P_z ((m / 14) / 14), .ref (w.2.2 (tb ((gp - 100) / 10)))] _ _ from ?_)
        refine P_aw_call P_i47_41 rfl rfl (fun _ => rfl) rfl rfl rfl rfl (y2 := 31) (as := [.ref (w.2.2 6)]) (r0 := [P_z ((m / 14) / 14), .ref (w.2.2 (tb ((gp - 100) / 10)))]) (P_inv_v (hw.2.1 6 (by decide)) (hw.s rfl) rfl rfl) (Nat.le_of_ble_eq_true rfl) (by decide) rfl (Nat.le_of_ble_eq_true rfl) (show P_aw _ _ _ 0 [.ref (w.2.2 6)] [] _ _ from ?_)
        refine P_aw_op (L' := [.ref (w.2.2 6)]) (st' := [.ref (w.2.2 6)]) P_i31_0 rfl (show P_aw _ _ _ 1 [.ref (w.2.2 6)] [.ref (w.2.2 6)] _ _ from ?_)
        have hg7 := A_gp_rg hF.2.2.2.2.1
        refine P_aw_getv P_i31_1 (hw.2.1 6 (by decide)) (hw.s rfl) rfl rfl (hF.2.2.2.1) (show P_aw _ _ _ 4 [.ref (w.2.2 6)] [P_z gp] _ _ from ?_)
        refine P_aw_end P_i31_4 rfl rfl (fun _ => rfl) rfl ?_
        show P_aw _ _ _ 44 [.ref (w.2.2 33), P_z m, P_z ((gp - 100) / 10)] [P_z gp, P_z ((m / 14) / 14), .ref (w.2.2 (tb ((gp - 100) / 10)))] _ _
        refine P_aw_call P_i47_44 rfl rfl (fun _ => rfl) rfl rfl rfl rfl (y2 := 177) (as := [P_z gp]) (r0 := [P_z ((m / 14) / 14), .ref (w.2.2 (tb ((gp - 100) / 10)))]) (fun _ _ => rfl) (Nat.le_of_ble_eq_true rfl) (by decide) rfl (Nat.le_of_ble_eq_true rfl) (show P_aw _ _ _ 0 [P_z gp] [] _ _ from ?_)
        refine P_aw_op (L' := [P_z gp]) (st' := [P_z gp]) P_i177_0 rfl (show P_aw _ _ _ 1 [P_z gp] [P_z gp] _ _ from ?_)
        refine P_aw_op (L' := [P_z gp]) (st' := [P_z 100, P_z gp]) P_i177_1 (P_o_bi (by decide)) (show P_aw _ _ _ 3 [P_z gp] [P_z 100, P_z gp] _ _ from ?_)
        refine P_aw_op (L' := [P_z gp]) (st' := [P_z (gp - 100)]) P_i177_3 P_o_isub (show P_aw _ _ _ 4 [P_z gp] [P_z (gp - 100)] _ _ from ?_)
        refine P_aw_op (L' := [P_z gp]) (st' := [P_z 10, P_z (gp - 100)]) P_i177_4 (P_o_bi (by decide)) (show P_aw _ _ _ 6 [P_z gp] [P_z 10, P_z (gp - 100)] _ _ from ?_)
        refine P_aw_op (L' := [P_z gp]) (st' := [P_z ((gp - 100) % 10)]) P_i177_6 (P_o_irem (by omega) (by omega) (by omega) (by omega)) (show P_aw _ _ _ 7 [P_z gp] [P_z ((gp - 100) % 10)] _ _ from ?_)
        refine P_aw_end P_i177_7 rfl rfl (fun _ => rfl) rfl ?_
        show P_aw _ _ _ 47 [.ref (w.2.2 33), P_z m, P_z ((gp - 100) / 10)] [P_z ((gp - 100) % 10), P_z ((m / 14) / 14), .ref (w.2.2 (tb ((gp - 100) / 10)))] _ _
        refine P_aw_call P_i47_47 rfl rfl (fun _ => rfl) rfl rfl rfl rfl (y2 := 127) (as := [.ref (w.2.2 (tb ((gp - 100) / 10))), P_z ((m / 14) / 14), P_z ((gp - 100) % 10)]) (r0 := []) (P_inv_v (hA.2.2 ((gp - 100) / 10) (by omega) (by omega)).2.1.2.1.2 (hA.2.2 ((gp - 100) / 10) (by omega) (by omega)).2.1.2.1.1 rfl rfl) (Nat.le_of_ble_eq_true rfl) (by decide) rfl (Nat.le_of_ble_eq_true rfl) (s_fan (s := ((gp - 100) / 10)) hw hA hX (by omega) (by omega) (by omega) (fun v k1 k2 => ?_))
        show P_aw _ _ _ 50 [.ref (w.2.2 33), P_z m, P_z ((gp - 100) / 10)] [P_z v] _ _
        refine P_aw_end P_i47_50 rfl rfl (fun _ => rfl) rfl ?_
        exact q v (by omega) (by omega) (fun _ => by omega)

def A_row (m s : Int) : Int := if s = 0 then m % 14 else if s = 1 then (m / 14) % 14 else m / 14 / 14
def A_ce (V : Int → Int → Int → Int) (rw : Int → Int) (m t : Int) : Int := if A_row m ((t - 100) / 10) < rw ((t - 100) / 10) then V ((t - 100) / 10) ((t - 100) % 10) (A_row m ((t - 100) / 10)) else 0
theorem A_row_rg {m s : Int} (hm : 0 ≤ m ∧ m ≤ 2743) : 0 ≤ A_row m s ∧ A_row m s ≤ 13 := by
  unfold A_row
  (repeat' split) <;> omega
theorem A_ce_rg {σ : P_A} {ns : Int} {tb : Int → Nat} {rw cl : Int → Int} {V : Int → Int → Int → Int} {m t : Int} (hX : A_X σ ns tb rw cl V) (hm : 0 ≤ m ∧ m ≤ 2743) (ht : A_cok ns cl t) : -999 ≤ A_ce V rw m t ∧ A_ce V rw m t ≤ 999 := by
  have h := A_row_rg (s := (t - 100) / 10) hm
  unfold A_cok at ht
  unfold A_ce
  split
  · exact ((hX _ (by omega) (by omega)).2 _ _ (by omega) (by omega) h.1 (by omega)).2
  · omega
theorem s_cel {w : P_Lw} (hw : P_Cw w) {d : Nat} {Q : P_R → P_A → Prop} {σ : P_A} {ns : Int} {tb : Int → Nat} {rw : Int → Int} {vr : Int → Int → Int} {cl : Int → Int} {V : Int → Int → Int → Int} (hA : A_V w σ ns tb rw vr) (hX : A_X σ ns tb rw cl V) {m t : Int} (hm : 0 ≤ m ∧ m ≤ 2743) (ht : A_cok ns cl t) (q : Q (.inl (some (P_z (A_ce V rw m t)))) σ) : P_aw w (d + 3) 51 0 [.ref (w.2.2 33), P_z m, P_z t, P_un] [] σ Q := by
  have hns := hA.2.1
  unfold A_cok at ht
  refine P_aw_op (L' := [.ref (w.2.2 33), P_z m, P_z t, P_un]) (st' := [P_z t]) P_i51_0 rfl (show P_aw _ _ _ 1 [.ref (w.2.2 33), P_z m, P_z t, P_un] [P_z t] _ _ from ?_)
  refine P_aw_call P_i51_1 rfl rfl (fun _ => rfl) rfl rfl rfl rfl (y2 := 176) (as := [P_z t]) (r0 := []) (fun _ _ => rfl) (Nat.le_of_ble_eq_true rfl) (by decide) rfl (Nat.le_of_ble_eq_true rfl) (show P_aw _ _ _ 0 [P_z t] [] _ _ from ?_)
  refine P_aw_op (L' := [P_z t]) (st' := [P_z t]) P_i176_0 rfl (show P_aw _ _ _ 1 [P_z t] [P_z t] _ _ from ?_)
  refine P_aw_op (L' := [P_z t]) (st' := [P_z 100, P_z t]) P_i176_1 (P_o_bi (by decide)) (show P_aw _ _ _ 3 [P_z t] [P_z 100, P_z t] _ _ from ?_)
  refine P_aw_op (L' := [P_z t]) (st' := [P_z (t - 100)]) P_i176_3 P_o_isub (show P_aw _ _ _ 4 [P_z t] [P_z (t - 100)] _ _ from ?_)
  refine P_aw_op (L' := [P_z t]) (st' := [P_z 10, P_z (t - 100)]) P_i176_4 (P_o_bi (by decide)) (show P_aw _ _ _ 6 [P_z t] [P_z 10, P_z (t - 100)] _ _ from ?_)
  refine P_aw_op (L' := [P_z t]) (st' := [P_z ((t - 100) / 10)]) P_i176_6 (P_o_idiv (by omega) (by omega) (by omega) (by omega)) (show P_aw _ _ _ 7 [P_z t] [P_z ((t - 100) / 10)] _ _ from ?_)
  refine P_aw_end P_i176_7 rfl rfl (fun _ => rfl) rfl ?_
  show P_aw _ _ _ 4 [.ref (w.2.2 33), P_z m, P_z t, P_un] [P_z ((t - 100) / 10)] _ _
  refine P_aw_op (L' := [.ref (w.2.2 33), P_z m, P_z t, P_z ((t - 100) / 10)]) (st' := []) P_i51_4 rfl (show P_aw _ _ _ 5 [.ref (w.2.2 33), P_z m, P_z t, P_z ((t - 100) / 10)] [] _ _ from ?_)
  refine P_aw_op (L' := [.ref (w.2.2 33), P_z m, P_z t, P_z ((t - 100) / 10)]) (st' := [.ref (w.2.2 33)]) P_i51_5 rfl (show P_aw _ _ _ 6 [.ref (w.2.2 33), P_z m, P_z t, P_z ((t - 100) / 10)] [.ref (w.2.2 33)] _ _ from ?_)
  refine P_aw_getR P_i51_6 (hw.2.1 33 (by decide)) (hw.s rfl) rfl rfl (show P_aw _ _ _ 9 [.ref (w.2.2 33), P_z m, P_z t, P_z ((t - 100) / 10)] [.ref (w.2.2 6)] _ _ from ?_)
  refine P_aw_op (L' := [.ref (w.2.2 33), P_z m, P_z t, P_z ((t - 100) / 10)]) (st' := [P_z ((t - 100) / 10), .ref (w.2.2 6)]) P_i51_9 rfl (show P_aw _ _ _ 10 [.ref (w.2.2 33), P_z m, P_z t, P_z ((t - 100) / 10)] [P_z ((t - 100) / 10), .ref (w.2.2 6)] _ _ from ?_)
  refine P_aw_call P_i51_10 rfl rfl (fun _ => rfl) rfl rfl rfl rfl (y2 := 38) (as := [.ref (w.2.2 6), P_z ((t - 100) / 10)]) (r0 := []) (P_inv_v (hw.2.1 6 (by decide)) (hw.s rfl) rfl rfl) (Nat.le_of_ble_eq_true rfl) (by decide) rfl (Nat.le_of_ble_eq_true rfl) (show P_aw _ _ _ 0 [.ref (w.2.2 6), P_z ((t - 100) / 10), P_un] [] _ _ from ?_)
  refine P_aw_op (L' := [.ref (w.2.2 6), P_z ((t - 100) / 10), P_un]) (st' := [P_z ((t - 100) / 10)]) P_i38_0 rfl (show P_aw _ _ _ 1 [.ref (w.2.2 6), P_z ((t - 100) / 10), P_un] [P_z ((t - 100) / 10)] _ _ from ?_)
  refine P_aw_izf P_i38_1 ⟨by omega, by omega⟩ (P_ci_ltf (by omega)) (show P_aw _ _ _ 4 [.ref (w.2.2 6), P_z ((t - 100) / 10), P_un] [] _ _ from ?_)
  refine P_aw_op (L' := [.ref (w.2.2 6), P_z ((t - 100) / 10), P_un]) (st' := [P_z ((t - 100) / 10)]) P_i38_4 rfl (show P_aw _ _ _ 5 [.ref (w.2.2 6), P_z ((t - 100) / 10), P_un] [P_z ((t - 100) / 10)] _ _ from ?_)
  refine P_aw_op (L' := [.ref (w.2.2 6), P_z ((t - 100) / 10), P_un]) (st' := [.ref (w.2.2 6), P_z ((t - 100) / 10)]) P_i38_5 rfl (show P_aw _ _ _ 6 [.ref (w.2.2 6), P_z ((t - 100) / 10), P_un] [.ref (w.2.2 6), P_z ((t - 100) / 10)] _ _ from ?_)
  refine P_aw_getv P_i38_6 (hw.2.1 6 (by decide)) (hw.s rfl) rfl rfl (hA.1) (show P_aw _ _ _ 9 [.ref (w.2.2 6), P_z ((t - 100) / 10), P_un] [P_z ns, P_z ((t - 100) / 10)] _ _ from ?_)
  refine P_aw_icf P_i38_9 ⟨by omega, by omega⟩ ⟨by omega, by omega⟩ (P_ci_gef (by omega)) (show P_aw _ _ _ 12 [.ref (w.2.2 6), P_z ((t - 100) / 10), P_un] [] _ _ from ?_)
  refine P_aw_op (L' := [.ref (w.2.2 6), P_z ((t - 100) / 10), P_un]) (st' := [P_z ((t - 100) / 10)]) P_i38_12 rfl (show P_aw _ _ _ 13 [.ref (w.2.2 6), P_z ((t - 100) / 10), P_un] [P_z ((t - 100) / 10)] _ _ from ?_)
  refine P_aw_op (L' := [.ref (w.2.2 6), P_z ((t - 100) / 10), P_un]) (st' := [.ref (w.2.2 6), P_z ((t - 100) / 10)]) P_i38_13 rfl (show P_aw _ _ _ 14 [.ref (w.2.2 6), P_z ((t - 100) / 10), P_un] [.ref (w.2.2 6), P_z ((t - 100) / 10)] _ _ from ?_)
  refine P_aw_getR P_i38_14 (hw.2.1 6 (by decide)) (hw.s rfl) rfl rfl (show P_aw _ _ _ 17 [.ref (w.2.2 6), P_z ((t - 100) / 10), P_un] [.ref (w.2.2 9), P_z ((t - 100) / 10)] _ _ from ?_)
  refine P_aw_rlen P_i38_17 (hw.2.1 9 (by decide)) (hw.s rfl) (show P_aw _ _ _ 18 [.ref (w.2.2 6), P_z ((t - 100) / 10), P_un] [P_z 3, P_z ((t - 100) / 10)] _ _ from ?_)
  refine P_aw_ict P_i38_18 ⟨by omega, by omega⟩ ⟨by decide, by decide⟩ (P_ci_ltt (by omega)) (show P_aw _ _ _ 26 [.ref (w.2.2 6), P_z ((t - 100) / 10), P_un] [] _ _ from ?_)
  refine P_aw_op (L' := [.ref (w.2.2 6), P_z ((t - 100) / 10), P_un]) (st' := [.ref (w.2.2 6)]) P_i38_26 rfl (show P_aw _ _ _ 27 [.ref (w.2.2 6), P_z ((t - 100) / 10), P_un] [.ref (w.2.2 6)] _ _ from ?_)
  refine P_aw_getR P_i38_27 (hw.2.1 6 (by decide)) (hw.s rfl) rfl rfl (show P_aw _ _ _ 30 [.ref (w.2.2 6), P_z ((t - 100) / 10), P_un] [.ref (w.2.2 9)] _ _ from ?_)
  refine P_aw_op (L' := [.ref (w.2.2 6), P_z ((t - 100) / 10), P_un]) (st' := [P_z ((t - 100) / 10), .ref (w.2.2 9)]) P_i38_30 rfl (show P_aw _ _ _ 31 [.ref (w.2.2 6), P_z ((t - 100) / 10), P_un] [P_z ((t - 100) / 10), .ref (w.2.2 9)] _ _ from ?_)
  have hg1 := (hA.2.2 ((t - 100) / 10) (by omega) (by omega)).2.1.1
  refine P_aw_rldv P_i38_31 (hw.2.1 9 (by decide)) (hw.s rfl) (by decide) (by omega) (by omega) (by decide) ((hA.2.2 ((t - 100) / 10) (by omega) (by omega)).1) (by omega) (show P_aw _ _ _ 32 [.ref (w.2.2 6), P_z ((t - 100) / 10), P_un] [.ref (w.2.2 (tb ((t - 100) / 10)))] _ _ from ?_)
  refine P_aw_op (L' := [.ref (w.2.2 6), P_z ((t - 100) / 10), .ref (w.2.2 (tb ((t - 100) / 10)))]) (st' := []) P_i38_32 rfl (show P_aw _ _ _ 33 [.ref (w.2.2 6), P_z ((t - 100) / 10), .ref (w.2.2 (tb ((t - 100) / 10)))] [] _ _ from ?_)
  refine P_aw_op (L' := [.ref (w.2.2 6), P_z ((t - 100) / 10), .ref (w.2.2 (tb ((t - 100) / 10)))]) (st' := [.ref (w.2.2 (tb ((t - 100) / 10)))]) P_i38_33 rfl (show P_aw _ _ _ 34 [.ref (w.2.2 6), P_z ((t - 100) / 10), .ref (w.2.2 (tb ((t - 100) / 10)))] [.ref (w.2.2 (tb ((t - 100) / 10)))] _ _ from ?_)
  refine P_aw_brt P_i38_34 rfl (show P_aw _ _ _ 44 [.ref (w.2.2 6), P_z ((t - 100) / 10), .ref (w.2.2 (tb ((t - 100) / 10)))] [] _ _ from ?_)
  refine P_aw_op (L' := [.ref (w.2.2 6), P_z ((t - 100) / 10), .ref (w.2.2 (tb ((t - 100) / 10)))]) (st' := [.ref (w.2.2 (tb ((t - 100) / 10)))]) P_i38_44 rfl (show P_aw _ _ _ 45 [.ref (w.2.2 6), P_z ((t - 100) / 10), .ref (w.2.2 (tb ((t - 100) / 10)))] [.ref (w.2.2 (tb ((t - 100) / 10)))] _ _ from ?_)
  refine P_aw_end P_i38_45 rfl rfl (fun _ => rfl) rfl ?_
  show P_aw _ _ _ 13 [.ref (w.2.2 33), P_z m, P_z t, P_z ((t - 100) / 10)] [.ref (w.2.2 (tb ((t - 100) / 10)))] _ _
  refine P_aw_op (L' := [.ref (w.2.2 33), P_z m, P_z t, P_z ((t - 100) / 10)]) (st' := [P_z m, .ref (w.2.2 (tb ((t - 100) / 10)))]) P_i51_13 rfl (show P_aw _ _ _ 14 [.ref (w.2.2 33), P_z m, P_z t, P_z ((t - 100) / 10)] [P_z m, .ref (w.2.2 (tb ((t - 100) / 10)))] _ _ from ?_)
  refine P_aw_op (L' := [.ref (w.2.2 33), P_z m, P_z t, P_z ((t - 100) / 10)]) (st' := [P_z ((t - 100) / 10), P_z m, .ref (w.2.2 (tb ((t - 100) / 10)))]) P_i51_14 rfl (show P_aw _ _ _ 15 [.ref (w.2.2 33), P_z m, P_z t, P_z ((t - 100) / 10)] [P_z ((t - 100) / 10), P_z m, .ref (w.2.2 (tb ((t - 100) / 10)))] _ _ from ?_)
  refine P_aw_call P_i51_15 rfl rfl (fun _ => rfl) rfl rfl rfl rfl (y2 := 52) (as := [P_z m, P_z ((t - 100) / 10)]) (r0 := [.ref (w.2.2 (tb ((t - 100) / 10)))]) (fun _ _ => rfl) (Nat.le_of_ble_eq_true rfl) (by decide) rfl (Nat.le_of_ble_eq_true rfl) (show P_aw _ _ _ 0 [P_z m, P_z ((t - 100) / 10), P_un] [] _ _ from ?_)
  refine P_aw_op (L' := [P_z m, P_z ((t - 100) / 10), P_un]) (st' := [P_z ((t - 100) / 10)]) P_i52_0 rfl (show P_aw _ _ _ 1 [P_z m, P_z ((t - 100) / 10), P_un] [P_z ((t - 100) / 10)] _ _ from ?_)
  by_cases hc2 : ((t - 100) / 10) = 0
  · refine P_aw_izf P_i52_1 ⟨by omega, by omega⟩ (P_ci_nef (by omega)) (show P_aw _ _ _ 4 [P_z m, P_z ((t - 100) / 10), P_un] [] _ _ from ?_)
    refine P_aw_op (L' := [P_z m, P_z ((t - 100) / 10), P_un]) (st' := [P_z m]) P_i52_4 rfl (show P_aw _ _ _ 5 [P_z m, P_z ((t - 100) / 10), P_un] [P_z m] _ _ from ?_)
    refine P_aw_op (L' := [P_z m, P_z ((t - 100) / 10), P_un]) (st' := [P_z 14, P_z m]) P_i52_5 (P_o_bi (by decide)) (show P_aw _ _ _ 7 [P_z m, P_z ((t - 100) / 10), P_un] [P_z 14, P_z m] _ _ from ?_)
    refine P_aw_op (L' := [P_z m, P_z ((t - 100) / 10), P_un]) (st' := [P_z (m % 14)]) P_i52_7 (P_o_irem (by omega) (by omega) (by omega) (by omega)) (show P_aw _ _ _ 8 [P_z m, P_z ((t - 100) / 10), P_un] [P_z (m % 14)] _ _ from ?_)
    refine P_aw_end P_i52_8 rfl rfl (fun _ => rfl) rfl ?_
    show P_aw _ _ _ 18 [.ref (w.2.2 33), P_z m, P_z t, P_z ((t - 100) / 10)] [P_z (m % 14), .ref (w.2.2 (tb ((t - 100) / 10)))] _ _
    refine P_aw_op (L' := [.ref (w.2.2 33), P_z m, P_z t, P_z ((t - 100) / 10)]) (st' := [P_z t, P_z (m % 14), .ref (w.2.2 (tb ((t - 100) / 10)))]) P_i51_18 rfl (show P_aw _ _ _ 19 [.ref (w.2.2 33), P_z m, P_z t, P_z ((t - 100) / 10)] [P_z t, P_z (m % 14), .ref (w.2.2 (tb ((t - 100) / 10)))] _ _ from ?_)
    refine P_aw_call P_i51_19 rfl rfl (fun _ => rfl) rfl rfl rfl rfl (y2 := 177) (as := [P_z t]) (r0 := [P_z (m % 14), .ref (w.2.2 (tb ((t - 100) / 10)))]) (fun _ _ => rfl) (Nat.le_of_ble_eq_true rfl) (by decide) rfl (Nat.le_of_ble_eq_true rfl) (show P_aw _ _ _ 0 [P_z t] [] _ _ from ?_)
    refine P_aw_op (L' := [P_z t]) (st' := [P_z t]) P_i177_0 rfl (show P_aw _ _ _ 1 [P_z t] [P_z t] _ _ from ?_)
    refine P_aw_op (L' := [P_z t]) (st' := [P_z 100, P_z t]) P_i177_1 (P_o_bi (by decide)) (show P_aw _ _ _ 3 [P_z t] [P_z 100, P_z t] _ _ from ?_)
    refine P_aw_op (L' := [P_z t]) (st' := [P_z (t - 100)]) P_i177_3 P_o_isub (show P_aw _ _ _ 4 [P_z t] [P_z (t - 100)] _ _ from ?_)
    refine P_aw_op (L' := [P_z t]) (st' := [P_z 10, P_z (t - 100)]) P_i177_4 (P_o_bi (by decide)) (show P_aw _ _ _ 6 [P_z t] [P_z 10, P_z (t - 100)] _ _ from ?_)
    refine P_aw_op (L' := [P_z t]) (st' := [P_z ((t - 100) % 10)]) P_i177_6 (P_o_irem (by omega) (by omega) (by omega) (by omega)) (show P_aw _ _ _ 7 [P_z t] [P_z ((t - 100) % 10)] _ _ from ?_)
    refine P_aw_end P_i177_7 rfl rfl (fun _ => rfl) rfl ?_
    show P_aw _ _ _ 22 [.ref (w.2.2 33), P_z m, P_z t, P_z ((t - 100) / 10)] [P_z ((t - 100) % 10), P_z (m % 14), .ref (w.2.2 (tb ((t - 100) / 10)))] _ _
    refine P_aw_call P_i51_22 rfl rfl (fun _ => rfl) rfl rfl rfl rfl (y2 := 122) (as := [.ref (w.2.2 (tb ((t - 100) / 10))), P_z (m % 14), P_z ((t - 100) % 10)]) (r0 := []) (P_inv_v (hA.2.2 ((t - 100) / 10) (by omega) (by omega)).2.1.2.1.2 (hA.2.2 ((t - 100) / 10) (by omega) (by omega)).2.1.2.1.1 rfl rfl) (Nat.le_of_ble_eq_true rfl) (by decide) rfl (Nat.le_of_ble_eq_true rfl) (show P_aw _ _ _ 0 [.ref (w.2.2 (tb ((t - 100) / 10))), P_z (m % 14), P_z ((t - 100) % 10), P_un] [] _ _ from ?_)
    refine P_aw_op (L' := [.ref (w.2.2 (tb ((t - 100) / 10))), P_z (m % 14), P_z ((t - 100) % 10), P_un]) (st' := [P_z (m % 14)]) P_i122_0 rfl (show P_aw _ _ _ 1 [.ref (w.2.2 (tb ((t - 100) / 10))), P_z (m % 14), P_z ((t - 100) % 10), P_un] [P_z (m % 14)] _ _ from ?_)
    refine P_aw_izf P_i122_1 ⟨by omega, by omega⟩ (P_ci_ltf (by omega)) (show P_aw _ _ _ 4 [.ref (w.2.2 (tb ((t - 100) / 10))), P_z (m % 14), P_z ((t - 100) % 10), P_un] [] _ _ from ?_)
    refine P_aw_op (L' := [.ref (w.2.2 (tb ((t - 100) / 10))), P_z (m % 14), P_z ((t - 100) % 10), P_un]) (st' := [P_z (m % 14)]) P_i122_4 rfl (show P_aw _ _ _ 5 [.ref (w.2.2 (tb ((t - 100) / 10))), P_z (m % 14), P_z ((t - 100) % 10), P_un] [P_z (m % 14)] _ _ from ?_)
    refine P_aw_op (L' := [.ref (w.2.2 (tb ((t - 100) / 10))), P_z (m % 14), P_z ((t - 100) % 10), P_un]) (st' := [.ref (w.2.2 (tb ((t - 100) / 10))), P_z (m % 14)]) P_i122_5 rfl (show P_aw _ _ _ 6 [.ref (w.2.2 (tb ((t - 100) / 10))), P_z (m % 14), P_z ((t - 100) % 10), P_un] [.ref (w.2.2 (tb ((t - 100) / 10))), P_z (m % 14)] _ _ from ?_)
    have hg3 := (hA.2.2 ((t - 100) / 10) (by omega) (by omega)).2.2.2.1
    refine P_aw_getv P_i122_6 (hA.2.2 ((t - 100) / 10) (by omega) (by omega)).2.1.2.1.2 (hA.2.2 ((t - 100) / 10) (by omega) (by omega)).2.1.2.1.1 rfl rfl ((hA.2.2 ((t - 100) / 10) (by omega) (by omega)).2.2.1) (show P_aw _ _ _ 9 [.ref (w.2.2 (tb ((t - 100) / 10))), P_z (m % 14), P_z ((t - 100) % 10), P_un] [P_z (rw ((t - 100) / 10)), P_z (m % 14)] _ _ from ?_)
    rcases Int.lt_or_le (m % 14) (rw ((t - 100) / 10)) with hc4 | hc4
    · refine P_aw_icf P_i122_9 ⟨by omega, by omega⟩ ⟨by omega, by omega⟩ (P_ci_gef (by omega)) (show P_aw _ _ _ 12 [.ref (w.2.2 (tb ((t - 100) / 10))), P_z (m % 14), P_z ((t - 100) % 10), P_un] [] _ _ from ?_)
      refine P_aw_op (L' := [.ref (w.2.2 (tb ((t - 100) / 10))), P_z (m % 14), P_z ((t - 100) % 10), P_un]) (st' := [P_z ((t - 100) % 10)]) P_i122_12 rfl (show P_aw _ _ _ 13 [.ref (w.2.2 (tb ((t - 100) / 10))), P_z (m % 14), P_z ((t - 100) % 10), P_un] [P_z ((t - 100) % 10)] _ _ from ?_)
      refine P_aw_izf P_i122_13 ⟨by omega, by omega⟩ (P_ci_ltf (by omega)) (show P_aw _ _ _ 16 [.ref (w.2.2 (tb ((t - 100) / 10))), P_z (m % 14), P_z ((t - 100) % 10), P_un] [] _ _ from ?_)
      refine P_aw_op (L' := [.ref (w.2.2 (tb ((t - 100) / 10))), P_z (m % 14), P_z ((t - 100) % 10), P_un]) (st' := [P_z ((t - 100) % 10)]) P_i122_16 rfl (show P_aw _ _ _ 17 [.ref (w.2.2 (tb ((t - 100) / 10))), P_z (m % 14), P_z ((t - 100) % 10), P_un] [P_z ((t - 100) % 10)] _ _ from ?_)
      refine P_aw_op (L' := [.ref (w.2.2 (tb ((t - 100) / 10))), P_z (m % 14), P_z ((t - 100) % 10), P_un]) (st' := [.ref (w.2.2 (tb ((t - 100) / 10))), P_z ((t - 100) % 10)]) P_i122_17 rfl (show P_aw _ _ _ 18 [.ref (w.2.2 (tb ((t - 100) / 10))), P_z (m % 14), P_z ((t - 100) % 10), P_un] [.ref (w.2.2 (tb ((t - 100) / 10))), P_z ((t - 100) % 10)] _ _ from ?_)
      have hg5 := (hX ((t - 100) / 10) (by omega) (by omega)).1.2
      refine P_aw_getv P_i122_18 (hA.2.2 ((t - 100) / 10) (by omega) (by omega)).2.1.2.1.2 (hA.2.2 ((t - 100) / 10) (by omega) (by omega)).2.1.2.1.1 rfl rfl ((hX ((t - 100) / 10) (by omega) (by omega)).1.1) (show P_aw _ _ _ 21 [.ref (w.2.2 (tb ((t - 100) / 10))), P_z (m % 14), P_z ((t - 100) % 10), P_un] [P_z (cl ((t - 100) / 10)), P_z ((t - 100) % 10)] _ _ from ?_)
      refine P_aw_ict P_i122_21 ⟨by omega, by omega⟩ ⟨by omega, by omega⟩ (P_ci_ltt (by omega)) (show P_aw _ _ _ 26 [.ref (w.2.2 (tb ((t - 100) / 10))), P_z (m % 14), P_z ((t - 100) % 10), P_un] [] _ _ from ?_)
      refine P_aw_op (L' := [.ref (w.2.2 (tb ((t - 100) / 10))), P_z (m % 14), P_z ((t - 100) % 10), P_un]) (st' := [P_z (m % 14)]) P_i122_26 rfl (show P_aw _ _ _ 27 [.ref (w.2.2 (tb ((t - 100) / 10))), P_z (m % 14), P_z ((t - 100) % 10), P_un] [P_z (m % 14)] _ _ from ?_)
      refine P_aw_op (L' := [.ref (w.2.2 (tb ((t - 100) / 10))), P_z (m % 14), P_z ((t - 100) % 10), P_un]) (st' := [P_z 3, P_z (m % 14)]) P_i122_27 rfl (show P_aw _ _ _ 28 [.ref (w.2.2 (tb ((t - 100) / 10))), P_z (m % 14), P_z ((t - 100) % 10), P_un] [P_z 3, P_z (m % 14)] _ _ from ?_)
      refine P_aw_op (L' := [.ref (w.2.2 (tb ((t - 100) / 10))), P_z (m % 14), P_z ((t - 100) % 10), P_un]) (st' := [P_z ((m % 14) * 3)]) P_i122_28 P_o_imul (show P_aw _ _ _ 29 [.ref (w.2.2 (tb ((t - 100) / 10))), P_z (m % 14), P_z ((t - 100) % 10), P_un] [P_z ((m % 14) * 3)] _ _ from ?_)
      refine P_aw_op (L' := [.ref (w.2.2 (tb ((t - 100) / 10))), P_z (m % 14), P_z ((t - 100) % 10), P_un]) (st' := [P_z ((t - 100) % 10), P_z ((m % 14) * 3)]) P_i122_29 rfl (show P_aw _ _ _ 30 [.ref (w.2.2 (tb ((t - 100) / 10))), P_z (m % 14), P_z ((t - 100) % 10), P_un] [P_z ((t - 100) % 10), P_z ((m % 14) * 3)] _ _ from ?_)
      refine P_aw_op (L' := [.ref (w.2.2 (tb ((t - 100) / 10))), P_z (m % 14), P_z ((t - 100) % 10), P_un]) (st' := [P_z (((m % 14) * 3) + ((t - 100) % 10))]) P_i122_30 P_o_iadd (show P_aw _ _ _ 31 [.ref (w.2.2 (tb ((t - 100) / 10))), P_z (m % 14), P_z ((t - 100) % 10), P_un] [P_z (((m % 14) * 3) + ((t - 100) % 10))] _ _ from ?_)
      refine P_aw_op (L' := [.ref (w.2.2 (tb ((t - 100) / 10))), P_z (m % 14), P_z ((t - 100) % 10), P_z (((m % 14) * 3) + ((t - 100) % 10))]) (st' := []) P_i122_31 rfl (show P_aw _ _ _ 32 [.ref (w.2.2 (tb ((t - 100) / 10))), P_z (m % 14), P_z ((t - 100) % 10), P_z (((m % 14) * 3) + ((t - 100) % 10))] [] _ _ from ?_)
      refine P_aw_op (L' := [.ref (w.2.2 (tb ((t - 100) / 10))), P_z (m % 14), P_z ((t - 100) % 10), P_z (((m % 14) * 3) + ((t - 100) % 10))]) (st' := [P_z (((m % 14) * 3) + ((t - 100) % 10))]) P_i122_32 rfl (show P_aw _ _ _ 33 [.ref (w.2.2 (tb ((t - 100) / 10))), P_z (m % 14), P_z ((t - 100) % 10), P_z (((m % 14) * 3) + ((t - 100) % 10))] [P_z (((m % 14) * 3) + ((t - 100) % 10))] _ _ from ?_)
      refine P_aw_izf P_i122_33 ⟨by omega, by omega⟩ (P_ci_ltf (by omega)) (show P_aw _ _ _ 36 [.ref (w.2.2 (tb ((t - 100) / 10))), P_z (m % 14), P_z ((t - 100) % 10), P_z (((m % 14) * 3) + ((t - 100) % 10))] [] _ _ from ?_)
      refine P_aw_op (L' := [.ref (w.2.2 (tb ((t - 100) / 10))), P_z (m % 14), P_z ((t - 100) % 10), P_z (((m % 14) * 3) + ((t - 100) % 10))]) (st' := [P_z (((m % 14) * 3) + ((t - 100) % 10))]) P_i122_36 rfl (show P_aw _ _ _ 37 [.ref (w.2.2 (tb ((t - 100) / 10))), P_z (m % 14), P_z ((t - 100) % 10), P_z (((m % 14) * 3) + ((t - 100) % 10))] [P_z (((m % 14) * 3) + ((t - 100) % 10))] _ _ from ?_)
      refine P_aw_op (L' := [.ref (w.2.2 (tb ((t - 100) / 10))), P_z (m % 14), P_z ((t - 100) % 10), P_z (((m % 14) * 3) + ((t - 100) % 10))]) (st' := [.ref (w.2.2 (tb ((t - 100) / 10))), P_z (((m % 14) * 3) + ((t - 100) % 10))]) P_i122_37 rfl (show P_aw _ _ _ 38 [.ref (w.2.2 (tb ((t - 100) / 10))), P_z (m % 14), P_z ((t - 100) % 10), P_z (((m % 14) * 3) + ((t - 100) % 10))] [.ref (w.2.2 (tb ((t - 100) / 10))), P_z (((m % 14) * 3) + ((t - 100) % 10))] _ _ from ?_)
      refine P_aw_getR P_i122_38 (hA.2.2 ((t - 100) / 10) (by omega) (by omega)).2.1.2.1.2 (hA.2.2 ((t - 100) / 10) (by omega) (by omega)).2.1.2.1.1 rfl rfl (show P_aw _ _ _ 41 [.ref (w.2.2 (tb ((t - 100) / 10))), P_z (m % 14), P_z ((t - 100) % 10), P_z (((m % 14) * 3) + ((t - 100) % 10))] [.ref (w.2.2 ((tb ((t - 100) / 10)) + 1)), P_z (((m % 14) * 3) + ((t - 100) % 10))] _ _ from ?_)
      refine P_aw_alen P_i122_41 (hA.2.2 ((t - 100) / 10) (by omega) (by omega)).2.1.2.2.1.2 (hA.2.2 ((t - 100) / 10) (by omega) (by omega)).2.1.2.2.1.1 (show P_aw _ _ _ 42 [.ref (w.2.2 (tb ((t - 100) / 10))), P_z (m % 14), P_z ((t - 100) % 10), P_z (((m % 14) * 3) + ((t - 100) % 10))] [P_z 42, P_z (((m % 14) * 3) + ((t - 100) % 10))] _ _ from ?_)
      refine P_aw_icf P_i122_42 ⟨by omega, by omega⟩ ⟨by decide, by decide⟩ (P_ci_gef (by omega)) (show P_aw _ _ _ 45 [.ref (w.2.2 (tb ((t - 100) / 10))), P_z (m % 14), P_z ((t - 100) % 10), P_z (((m % 14) * 3) + ((t - 100) % 10))] [] _ _ from ?_)
      refine P_aw_op (L' := [.ref (w.2.2 (tb ((t - 100) / 10))), P_z (m % 14), P_z ((t - 100) % 10), P_z (((m % 14) * 3) + ((t - 100) % 10))]) (st' := [.ref (w.2.2 (tb ((t - 100) / 10)))]) P_i122_45 rfl (show P_aw _ _ _ 46 [.ref (w.2.2 (tb ((t - 100) / 10))), P_z (m % 14), P_z ((t - 100) % 10), P_z (((m % 14) * 3) + ((t - 100) % 10))] [.ref (w.2.2 (tb ((t - 100) / 10)))] _ _ from ?_)
      refine P_aw_getR P_i122_46 (hA.2.2 ((t - 100) / 10) (by omega) (by omega)).2.1.2.1.2 (hA.2.2 ((t - 100) / 10) (by omega) (by omega)).2.1.2.1.1 rfl rfl (show P_aw _ _ _ 49 [.ref (w.2.2 (tb ((t - 100) / 10))), P_z (m % 14), P_z ((t - 100) % 10), P_z (((m % 14) * 3) + ((t - 100) % 10))] [.ref (w.2.2 ((tb ((t - 100) / 10)) + 1))] _ _ from ?_)
      refine P_aw_op (L' := [.ref (w.2.2 (tb ((t - 100) / 10))), P_z (m % 14), P_z ((t - 100) % 10), P_z (((m % 14) * 3) + ((t - 100) % 10))]) (st' := [P_z (((m % 14) * 3) + ((t - 100) % 10)), .ref (w.2.2 ((tb ((t - 100) / 10)) + 1))]) P_i122_49 rfl (show P_aw _ _ _ 50 [.ref (w.2.2 (tb ((t - 100) / 10))), P_z (m % 14), P_z ((t - 100) % 10), P_z (((m % 14) * 3) + ((t - 100) % 10))] [P_z (((m % 14) * 3) + ((t - 100) % 10)), .ref (w.2.2 ((tb ((t - 100) / 10)) + 1))] _ _ from ?_)
      have hg6 := ((hX ((t - 100) / 10) (by omega) (by omega)).2 ((t - 100) % 10) (m % 14) (by omega) (by omega) (by omega) (by omega)).2
      refine P_aw_aldv P_i122_50 (hA.2.2 ((t - 100) / 10) (by omega) (by omega)).2.1.2.2.1.2 (hA.2.2 ((t - 100) / 10) (by omega) (by omega)).2.1.2.2.1.1 (by omega) (by omega) (by decide) (((hX ((t - 100) / 10) (by omega) (by omega)).2 ((t - 100) % 10) (m % 14) (by omega) (by omega) (by omega) (by omega)).1) (show P_aw _ _ _ 51 [.ref (w.2.2 (tb ((t - 100) / 10))), P_z (m % 14), P_z ((t - 100) % 10), P_z (((m % 14) * 3) + ((t - 100) % 10))] [P_z (V ((t - 100) / 10) ((t - 100) % 10) (m % 14))] _ _ from ?_)
      refine P_aw_goto P_i122_51 (show P_aw _ _ _ 55 [.ref (w.2.2 (tb ((t - 100) / 10))), P_z (m % 14), P_z ((t - 100) % 10), P_z (((m % 14) * 3) + ((t - 100) % 10))] [P_z (V ((t - 100) / 10) ((t - 100) % 10) (m % 14))] _ _ from ?_)
      refine P_aw_end P_i122_55 rfl rfl (fun _ => rfl) rfl ?_
      show P_aw _ _ _ 25 [.ref (w.2.2 33), P_z m, P_z t, P_z ((t - 100) / 10)] [P_z (V ((t - 100) / 10) ((t - 100) % 10) (m % 14))] _ _
      refine P_aw_end P_i51_25 rfl rfl (fun _ => rfl) rfl ?_
      exact P_qz (by (try simp only [A_ce, A_row]); (repeat' split) <;> first | rfl | omega | (exfalso; omega) | (simp_all; done) | (simp_all; omega)) rfl q
    · refine P_aw_ict P_i122_9 ⟨by omega, by omega⟩ ⟨by omega, by omega⟩ (P_ci_get (by omega)) (show P_aw _ _ _ 24 [.ref (w.2.2 (tb ((t - 100) / 10))), P_z (m % 14), P_z ((t - 100) % 10), P_un] [] _ _ from ?_)
      refine P_aw_op (L' := [.ref (w.2.2 (tb ((t - 100) / 10))), P_z (m % 14), P_z ((t - 100) % 10), P_un]) (st' := [P_z 0]) P_i122_24 rfl (show P_aw _ _ _ 25 [.ref (w.2.2 (tb ((t - 100) / 10))), P_z (m % 14), P_z ((t - 100) % 10), P_un] [P_z 0] _ _ from ?_)
      refine P_aw_end P_i122_25 rfl rfl (fun _ => rfl) rfl ?_
      show P_aw _ _ _ 25 [.ref (w.2.2 33), P_z m, P_z t, P_z ((t - 100) / 10)] [P_z 0] _ _
      refine P_aw_end P_i51_25 rfl rfl (fun _ => rfl) rfl ?_
      exact P_qz (by (try simp only [A_ce, A_row]); (repeat' split) <;> first | rfl | omega | (exfalso; omega) | (simp_all; done) | (simp_all; omega)) rfl q
  · refine P_aw_izt P_i52_1 ⟨by omega, by omega⟩ (P_ci_net (by omega)) (show P_aw _ _ _ 9 [P_z m, P_z ((t - 100) / 10), P_un] [] _ _ from ?_)
    refine P_aw_op (L' := [P_z m, P_z ((t - 100) / 10), P_un]) (st' := [P_z m]) P_i52_9 rfl (show P_aw _ _ _ 10 [P_z m, P_z ((t - 100) / 10), P_un] [P_z m] _ _ from ?_)
    refine P_aw_op (L' := [P_z m, P_z ((t - 100) / 10), P_un]) (st' := [P_z 14, P_z m]) P_i52_10 (P_o_bi (by decide)) (show P_aw _ _ _ 12 [P_z m, P_z ((t - 100) / 10), P_un] [P_z 14, P_z m] _ _ from ?_)
    refine P_aw_op (L' := [P_z m, P_z ((t - 100) / 10), P_un]) (st' := [P_z (m / 14)]) P_i52_12 (P_o_idiv (by omega) (by omega) (by omega) (by omega)) (show P_aw _ _ _ 13 [P_z m, P_z ((t - 100) / 10), P_un] [P_z (m / 14)] _ _ from ?_)
    refine P_aw_op (L' := [P_z m, P_z ((t - 100) / 10), P_z (m / 14)]) (st' := []) P_i52_13 rfl (show P_aw _ _ _ 14 [P_z m, P_z ((t - 100) / 10), P_z (m / 14)] [] _ _ from ?_)
    refine P_aw_op (L' := [P_z m, P_z ((t - 100) / 10), P_z (m / 14)]) (st' := [P_z ((t - 100) / 10)]) P_i52_14 rfl (show P_aw _ _ _ 15 [P_z m, P_z ((t - 100) / 10), P_z (m / 14)] [P_z ((t - 100) / 10)] _ _ from ?_)
    refine P_aw_op (L' := [P_z m, P_z ((t - 100) / 10), P_z (m / 14)]) (st' := [P_z 1, P_z ((t - 100) / 10)]) P_i52_15 rfl (show P_aw _ _ _ 16 [P_z m, P_z ((t - 100) / 10), P_z (m / 14)] [P_z 1, P_z ((t - 100) / 10)] _ _ from ?_)
    by_cases hc3 : ((t - 100) / 10) = 1
    · refine P_aw_icf P_i52_16 ⟨by omega, by omega⟩ ⟨by decide, by decide⟩ (P_ci_nef (by omega)) (show P_aw _ _ _ 19 [P_z m, P_z ((t - 100) / 10), P_z (m / 14)] [] _ _ from ?_)
      refine P_aw_op (L' := [P_z m, P_z ((t - 100) / 10), P_z (m / 14)]) (st' := [P_z (m / 14)]) P_i52_19 rfl (show P_aw _ _ _ 20 [P_z m, P_z ((t - 100) / 10), P_z (m / 14)] [P_z (m / 14)] _ _ from ?_)
      refine P_aw_op (L' := [P_z m, P_z ((t - 100) / 10), P_z (m / 14)]) (st' := [P_z 14, P_z (m / 14)]) P_i52_20 (P_o_bi (by decide)) (show P_aw _ _ _ 22 [P_z m, P_z ((t - 100) / 10), P_z (m / 14)] [P_z 14, P_z (m / 14)] _ _ from ?_)
      refine P_aw_op (L' := [P_z m, P_z ((t - 100) / 10), P_z (m / 14)]) (st' := [P_z ((m / 14) % 14)]) P_i52_22 (P_o_irem (by omega) (by omega) (by omega) (by omega)) (show P_aw _ _ _ 23 [P_z m, P_z ((t - 100) / 10), P_z (m / 14)] [P_z ((m / 14) % 14)] _ _ from ?_)
      refine P_aw_goto P_i52_23 (show P_aw _ _ _ 30 [P_z m, P_z ((t - 100) / 10), P_z (m / 14)] [P_z ((m / 14) % 14)] _ _ from ?_)
      refine P_aw_end P_i52_30 rfl rfl (fun _ => rfl) rfl ?_
      show P_aw _ _ _ 18 [.ref (w.2.2 33), P_z m, P_z t, P_z ((t - 100) / 10)] [P_z ((m / 14) % 14), .ref (w.2.2 (tb ((t - 100) / 10)))] _ _
      refine P_aw_op (L' := [.ref (w.2.2 33), P_z m, P_z t, P_z ((t - 100) / 10)]) (st' := [P_z t, P_z ((m / 14) % 14), .ref (w.2.2 (tb ((t - 100) / 10)))]) P_i51_18 rfl (show P_aw _ _ _ 19 [.ref (w.2.2 33), P_z m, P_z t, P_z ((t - 100) / 10)] [P_z t, P_z ((m / 14) % 14), .ref (w.2.2 (tb ((t - 100) / 10)))] _ _ from ?_)
      refine P_aw_call P_i51_19 rfl rfl (fun _ => rfl) rfl rfl rfl rfl (y2 := 177) (as := [P_z t]) (r0 := [P_z ((m / 14) % 14), .ref (w.2.2 (tb ((t - 100) / 10)))]) (fun _ _ => rfl) (Nat.le_of_ble_eq_true rfl) (by decide) rfl (Nat.le_of_ble_eq_true rfl) (show P_aw _ _ _ 0 [P_z t] [] _ _ from ?_)
      refine P_aw_op (L' := [P_z t]) (st' := [P_z t]) P_i177_0 rfl (show P_aw _ _ _ 1 [P_z t] [P_z t] _ _ from ?_)
      refine P_aw_op (L' := [P_z t]) (st' := [P_z 100, P_z t]) P_i177_1 (P_o_bi (by decide)) (show P_aw _ _ _ 3 [P_z t] [P_z 100, P_z t] _ _ from ?_)
      refine P_aw_op (L' := [P_z t]) (st' := [P_z (t - 100)]) P_i177_3 P_o_isub (show P_aw _ _ _ 4 [P_z t] [P_z (t - 100)] _ _ from ?_)
      refine P_aw_op (L' := [P_z t]) (st' := [P_z 10, P_z (t - 100)]) P_i177_4 (P_o_bi (by decide)) (show P_aw _ _ _ 6 [P_z t] [P_z 10, P_z (t - 100)] _ _ from ?_)
      refine P_aw_op (L' := [P_z t]) (st' := [P_z ((t - 100) % 10)]) P_i177_6 (P_o_irem (by omega) (by omega) (by omega) (by omega)) (show P_aw _ _ _ 7 [P_z t] [P_z ((t - 100) % 10)] _ _ from ?_)
      refine P_aw_end P_i177_7 rfl rfl (fun _ => rfl) rfl ?_
      show P_aw _ _ _ 22 [.ref (w.2.2 33), P_z m, P_z t, P_z ((t - 100) / 10)] [P_z ((t - 100) % 10), P_z ((m / 14) % 14), .ref (w.2.2 (tb ((t - 100) / 10)))] _ _
      refine P_aw_call P_i51_22 rfl rfl (fun _ => rfl) rfl rfl rfl rfl (y2 := 122) (as := [.ref (w.2.2 (tb ((t - 100) / 10))), P_z ((m / 14) % 14), P_z ((t - 100) % 10)]) (r0 := []) (P_inv_v (hA.2.2 ((t - 100) / 10) (by omega) (by omega)).2.1.2.1.2 (hA.2.2 ((t - 100) / 10) (by omega) (by omega)).2.1.2.1.1 rfl rfl) (Nat.le_of_ble_eq_true rfl) (by decide) rfl (Nat.le_of_ble_eq_true rfl) (show P_aw _ _ _ 0 [.ref (w.2.2 (tb ((t - 100) / 10))), P_z ((m / 14) % 14), P_z ((t - 100) % 10), P_un] [] _ _ from ?_)
      refine P_aw_op (L' := [.ref (w.2.2 (tb ((t - 100) / 10))), P_z ((m / 14) % 14), P_z ((t - 100) % 10), P_un]) (st' := [P_z ((m / 14) % 14)]) P_i122_0 rfl (show P_aw _ _ _ 1 [.ref (w.2.2 (tb ((t - 100) / 10))), P_z ((m / 14) % 14), P_z ((t - 100) % 10), P_un] [P_z ((m / 14) % 14)] _ _ from ?_)
      refine P_aw_izf P_i122_1 ⟨by omega, by omega⟩ (P_ci_ltf (by omega)) (show P_aw _ _ _ 4 [.ref (w.2.2 (tb ((t - 100) / 10))), P_z ((m / 14) % 14), P_z ((t - 100) % 10), P_un] [] _ _ from ?_)
      refine P_aw_op (L' := [.ref (w.2.2 (tb ((t - 100) / 10))), P_z ((m / 14) % 14), P_z ((t - 100) % 10), P_un]) (st' := [P_z ((m / 14) % 14)]) P_i122_4 rfl (show P_aw _ _ _ 5 [.ref (w.2.2 (tb ((t - 100) / 10))), P_z ((m / 14) % 14), P_z ((t - 100) % 10), P_un] [P_z ((m / 14) % 14)] _ _ from ?_)
      refine P_aw_op (L' := [.ref (w.2.2 (tb ((t - 100) / 10))), P_z ((m / 14) % 14), P_z ((t - 100) % 10), P_un]) (st' := [.ref (w.2.2 (tb ((t - 100) / 10))), P_z ((m / 14) % 14)]) P_i122_5 rfl (show P_aw _ _ _ 6 [.ref (w.2.2 (tb ((t - 100) / 10))), P_z ((m / 14) % 14), P_z ((t - 100) % 10), P_un] [.ref (w.2.2 (tb ((t - 100) / 10))), P_z ((m / 14) % 14)] _ _ from ?_)
      have hg4 := (hA.2.2 ((t - 100) / 10) (by omega) (by omega)).2.2.2.1
      refine P_aw_getv P_i122_6 (hA.2.2 ((t - 100) / 10) (by omega) (by omega)).2.1.2.1.2 (hA.2.2 ((t - 100) / 10) (by omega) (by omega)).2.1.2.1.1 rfl rfl ((hA.2.2 ((t - 100) / 10) (by omega) (by omega)).2.2.1) (show P_aw _ _ _ 9 [.ref (w.2.2 (tb ((t - 100) / 10))), P_z ((m / 14) % 14), P_z ((t - 100) % 10), P_un] [P_z (rw ((t - 100) / 10)), P_z ((m / 14) % 14)] _ _ from ?_)
      rcases Int.lt_or_le ((m / 14) % 14) (rw ((t - 100) / 10)) with hc5 | hc5
      · refine P_aw_icf P_i122_9 ⟨by omega, by omega⟩ ⟨by omega, by omega⟩ (P_ci_gef (by omega)) (show P_aw _ _ _ 12 [.ref (w.2.2 (tb ((t - 100) / 10))), P_z ((m / 14) % 14), P_z ((t - 100) % 10), P_un] [] _ _ from ?_)
        refine P_aw_op (L' := [.ref (w.2.2 (tb ((t - 100) / 10))), P_z ((m / 14) % 14), P_z ((t - 100) % 10), P_un]) (st' := [P_z ((t - 100) % 10)]) P_i122_12 rfl (show P_aw _ _ _ 13 [.ref (w.2.2 (tb ((t - 100) / 10))), P_z ((m / 14) % 14), P_z ((t - 100) % 10), P_un] [P_z ((t - 100) % 10)] _ _ from ?_)
        refine P_aw_izf P_i122_13 ⟨by omega, by omega⟩ (P_ci_ltf (by omega)) (show P_aw _ _ _ 16 [.ref (w.2.2 (tb ((t - 100) / 10))), P_z ((m / 14) % 14), P_z ((t - 100) % 10), P_un] [] _ _ from ?_)
        refine P_aw_op (L' := [.ref (w.2.2 (tb ((t - 100) / 10))), P_z ((m / 14) % 14), P_z ((t - 100) % 10), P_un]) (st' := [P_z ((t - 100) % 10)]) P_i122_16 rfl (show P_aw _ _ _ 17 [.ref (w.2.2 (tb ((t - 100) / 10))), P_z ((m / 14) % 14), P_z ((t - 100) % 10), P_un] [P_z ((t - 100) % 10)] _ _ from ?_)
        refine P_aw_op (L' := [.ref (w.2.2 (tb ((t - 100) / 10))), P_z ((m / 14) % 14), P_z ((t - 100) % 10), P_un]) (st' := [.ref (w.2.2 (tb ((t - 100) / 10))), P_z ((t - 100) % 10)]) P_i122_17 rfl (show P_aw _ _ _ 18 [.ref (w.2.2 (tb ((t - 100) / 10))), P_z ((m / 14) % 14), P_z ((t - 100) % 10), P_un] [.ref (w.2.2 (tb ((t - 100) / 10))), P_z ((t - 100) % 10)] _ _ from ?_)
        have hg6 := (hX ((t - 100) / 10) (by omega) (by omega)).1.2
        refine P_aw_getv P_i122_18 (hA.2.2 ((t - 100) / 10) (by omega) (by omega)).2.1.2.1.2 (hA.2.2 ((t - 100) / 10) (by omega) (by omega)).2.1.2.1.1 rfl rfl ((hX ((t - 100) / 10) (by omega) (by omega)).1.1) (show P_aw _ _ _ 21 [.ref (w.2.2 (tb ((t - 100) / 10))), P_z ((m / 14) % 14), P_z ((t - 100) % 10), P_un] [P_z (cl ((t - 100) / 10)), P_z ((t - 100) % 10)] _ _ from ?_)
        refine P_aw_ict P_i122_21 ⟨by omega, by omega⟩ ⟨by omega, by omega⟩ (P_ci_ltt (by omega)) (show P_aw _ _ _ 26 [.ref (w.2.2 (tb ((t - 100) / 10))), P_z ((m / 14) % 14), P_z ((t - 100) % 10), P_un] [] _ _ from ?_)
        refine P_aw_op (L' := [.ref (w.2.2 (tb ((t - 100) / 10))), P_z ((m / 14) % 14), P_z ((t - 100) % 10), P_un]) (st' := [P_z ((m / 14) % 14)]) P_i122_26 rfl (show P_aw _ _ _ 27 [.ref (w.2.2 (tb ((t - 100) / 10))), P_z ((m / 14) % 14), P_z ((t - 100) % 10), P_un] [P_z ((m / 14) % 14)] _ _ from ?_)
        refine P_aw_op (L' := [.ref (w.2.2 (tb ((t - 100) / 10))), P_z ((m / 14) % 14), P_z ((t - 100) % 10), P_un]) (st' := [P_z 3, P_z ((m / 14) % 14)]) P_i122_27 rfl (show P_aw _ _ _ 28 [.ref (w.2.2 (tb ((t - 100) / 10))), P_z ((m / 14) % 14), P_z ((t - 100) % 10), P_un] [P_z 3, P_z ((m / 14) % 14)] _ _ from ?_)
        refine P_aw_op (L' := [.ref (w.2.2 (tb ((t - 100) / 10))), P_z ((m / 14) % 14), P_z ((t - 100) % 10), P_un]) (st' := [P_z (((m / 14) % 14) * 3)]) P_i122_28 P_o_imul (show P_aw _ _ _ 29 [.ref (w.2.2 (tb ((t - 100) / 10))), P_z ((m / 14) % 14), P_z ((t - 100) % 10), P_un] [P_z (((m / 14) % 14) * 3)] _ _ from ?_)
        refine P_aw_op (L' := [.ref (w.2.2 (tb ((t - 100) / 10))), P_z ((m / 14) % 14), P_z ((t - 100) % 10), P_un]) (st' := [P_z ((t - 100) % 10), P_z (((m / 14) % 14) * 3)]) P_i122_29 rfl (show P_aw _ _ _ 30 [.ref (w.2.2 (tb ((t - 100) / 10))), P_z ((m / 14) % 14), P_z ((t - 100) % 10), P_un] [P_z ((t - 100) % 10), P_z (((m / 14) % 14) * 3)] _ _ from ?_)
        refine P_aw_op (L' := [.ref (w.2.2 (tb ((t - 100) / 10))), P_z ((m / 14) % 14), P_z ((t - 100) % 10), P_un]) (st' := [P_z ((((m / 14) % 14) * 3) + ((t - 100) % 10))]) P_i122_30 P_o_iadd (show P_aw _ _ _ 31 [.ref (w.2.2 (tb ((t - 100) / 10))), P_z ((m / 14) % 14), P_z ((t - 100) % 10), P_un] [P_z ((((m / 14) % 14) * 3) + ((t - 100) % 10))] _ _ from ?_)
        refine P_aw_op (L' := [.ref (w.2.2 (tb ((t - 100) / 10))), P_z ((m / 14) % 14), P_z ((t - 100) % 10), P_z ((((m / 14) % 14) * 3) + ((t - 100) % 10))]) (st' := []) P_i122_31 rfl (show P_aw _ _ _ 32 [.ref (w.2.2 (tb ((t - 100) / 10))), P_z ((m / 14) % 14), P_z ((t - 100) % 10), P_z ((((m / 14) % 14) * 3) + ((t - 100) % 10))] [] _ _ from ?_)
        refine P_aw_op (L' := [.ref (w.2.2 (tb ((t - 100) / 10))), P_z ((m / 14) % 14), P_z ((t - 100) % 10), P_z ((((m / 14) % 14) * 3) + ((t - 100) % 10))]) (st' := [P_z ((((m / 14) % 14) * 3) + ((t - 100) % 10))]) P_i122_32 rfl (show P_aw _ _ _ 33 [.ref (w.2.2 (tb ((t - 100) / 10))), P_z ((m / 14) % 14), P_z ((t - 100) % 10), P_z ((((m / 14) % 14) * 3) + ((t - 100) % 10))] [P_z ((((m / 14) % 14) * 3) + ((t - 100) % 10))] _ _ from ?_)
        refine P_aw_izf P_i122_33 ⟨by omega, by omega⟩ (P_ci_ltf (by omega)) (show P_aw _ _ _ 36 [.ref (w.2.2 (tb ((t - 100) / 10))), P_z ((m / 14) % 14), P_z ((t - 100) % 10), P_z ((((m / 14) % 14) * 3) + ((t - 100) % 10))] [] _ _ from ?_)
        refine P_aw_op (L' := [.ref (w.2.2 (tb ((t - 100) / 10))), P_z ((m / 14) % 14), P_z ((t - 100) % 10), P_z ((((m / 14) % 14) * 3) + ((t - 100) % 10))]) (st' := [P_z ((((m / 14) % 14) * 3) + ((t - 100) % 10))]) P_i122_36 rfl (show P_aw _ _ _ 37 [.ref (w.2.2 (tb ((t - 100) / 10))), P_z ((m / 14) % 14), P_z ((t - 100) % 10), P_z ((((m / 14) % 14) * 3) + ((t - 100) % 10))] [P_z ((((m / 14) % 14) * 3) + ((t - 100) % 10))] _ _ from ?_)
        refine P_aw_op (L' := [.ref (w.2.2 (tb ((t - 100) / 10))), P_z ((m / 14) % 14), P_z ((t - 100) % 10), P_z ((((m / 14) % 14) * 3) + ((t - 100) % 10))]) (st' := [.ref (w.2.2 (tb ((t - 100) / 10))), P_z ((((m / 14) % 14) * 3) + ((t - 100) % 10))]) P_i122_37 rfl (show P_aw _ _ _ 38 [.ref (w.2.2 (tb ((t - 100) / 10))), P_z ((m / 14) % 14), P_z ((t - 100) % 10), P_z ((((m / 14) % 14) * 3) + ((t - 100) % 10))] [.ref (w.2.2 (tb ((t - 100) / 10))), P_z ((((m / 14) % 14) * 3) + ((t - 100) % 10))] _ _ from ?_)
        refine P_aw_getR P_i122_38 (hA.2.2 ((t - 100) / 10) (by omega) (by omega)).2.1.2.1.2 (hA.2.2 ((t - 100) / 10) (by omega) (by omega)).2.1.2.1.1 rfl rfl (show P_aw _ _ _ 41 [.ref (w.2.2 (tb ((t - 100) / 10))), P_z ((m / 14) % 14), P_z ((t - 100) % 10), P_z ((((m / 14) % 14) * 3) + ((t - 100) % 10))] [.ref (w.2.2 ((tb ((t - 100) / 10)) + 1)), P_z ((((m / 14) % 14) * 3) + ((t - 100) % 10))] _ _ from ?_)
        refine P_aw_alen P_i122_41 (hA.2.2 ((t - 100) / 10) (by omega) (by omega)).2.1.2.2.1.2 (hA.2.2 ((t - 100) / 10) (by omega) (by omega)).2.1.2.2.1.1 (show P_aw _ _ _ 42 [.ref (w.2.2 (tb ((t - 100) / 10))), P_z ((m / 14) % 14), P_z ((t - 100) % 10), P_z ((((m / 14) % 14) * 3) + ((t - 100) % 10))] [P_z 42, P_z ((((m / 14) % 14) * 3) + ((t - 100) % 10))] _ _ from ?_)
        refine P_aw_icf P_i122_42 ⟨by omega, by omega⟩ ⟨by decide, by decide⟩ (P_ci_gef (by omega)) (show P_aw _ _ _ 45 [.ref (w.2.2 (tb ((t - 100) / 10))), P_z ((m / 14) % 14), P_z ((t - 100) % 10), P_z ((((m / 14) % 14) * 3) + ((t - 100) % 10))] [] _ _ from ?_)
        refine P_aw_op (L' := [.ref (w.2.2 (tb ((t - 100) / 10))), P_z ((m / 14) % 14), P_z ((t - 100) % 10), P_z ((((m / 14) % 14) * 3) + ((t - 100) % 10))]) (st' := [.ref (w.2.2 (tb ((t - 100) / 10)))]) P_i122_45 rfl (show P_aw _ _ _ 46 [.ref (w.2.2 (tb ((t - 100) / 10))), P_z ((m / 14) % 14), P_z ((t - 100) % 10), P_z ((((m / 14) % 14) * 3) + ((t - 100) % 10))] [.ref (w.2.2 (tb ((t - 100) / 10)))] _ _ from ?_)
        refine P_aw_getR P_i122_46 (hA.2.2 ((t - 100) / 10) (by omega) (by omega)).2.1.2.1.2 (hA.2.2 ((t - 100) / 10) (by omega) (by omega)).2.1.2.1.1 rfl rfl (show P_aw _ _ _ 49 [.ref (w.2.2 (tb ((t - 100) / 10))), P_z ((m / 14) % 14), P_z ((t - 100) % 10), P_z ((((m / 14) % 14) * 3) + ((t - 100) % 10))] [.ref (w.2.2 ((tb ((t - 100) / 10)) + 1))] _ _ from ?_)
        refine P_aw_op (L' := [.ref (w.2.2 (tb ((t - 100) / 10))), P_z ((m / 14) % 14), P_z ((t - 100) % 10), P_z ((((m / 14) % 14) * 3) + ((t - 100) % 10))]) (st' := [P_z ((((m / 14) % 14) * 3) + ((t - 100) % 10)), .ref (w.2.2 ((tb ((t - 100) / 10)) + 1))]) P_i122_49 rfl (show P_aw _ _ _ 50 [.ref (w.2.2 (tb ((t - 100) / 10))), P_z ((m / 14) % 14), P_z ((t - 100) % 10), P_z ((((m / 14) % 14) * 3) + ((t - 100) % 10))] [P_z ((((m / 14) % 14) * 3) + ((t - 100) % 10)), .ref (w.2.2 ((tb ((t - 100) / 10)) + 1))] _ _ from ?_)
        have hg7 := ((hX ((t - 100) / 10) (by omega) (by omega)).2 ((t - 100) % 10) ((m / 14) % 14) (by omega) (by omega) (by omega) (by omega)).2
        refine P_aw_aldv P_i122_50 (hA.2.2 ((t - 100) / 10) (by omega) (by omega)).2.1.2.2.1.2 (hA.2.2 ((t - 100) / 10) (by omega) (by omega)).2.1.2.2.1.1 (by omega) (by omega) (by decide) (((hX ((t - 100) / 10) (by omega) (by omega)).2 ((t - 100) % 10) ((m / 14) % 14) (by omega) (by omega) (by omega) (by omega)).1) (show P_aw _ _ _ 51 [.ref (w.2.2 (tb ((t - 100) / 10))), P_z ((m / 14) % 14), P_z ((t - 100) % 10), P_z ((((m / 14) % 14) * 3) + ((t - 100) % 10))] [P_z (V ((t - 100) / 10) ((t - 100) % 10) ((m / 14) % 14))] _ _ from ?_)
        refine P_aw_goto P_i122_51 (show P_aw _ _ _ 55 [.ref (w.2.2 (tb ((t - 100) / 10))), P_z ((m / 14) % 14), P_z ((t - 100) % 10), P_z ((((m / 14) % 14) * 3) + ((t - 100) % 10))] [P_z (V ((t - 100) / 10) ((t - 100) % 10) ((m / 14) % 14))] _ _ from ?_)
        refine P_aw_end P_i122_55 rfl rfl (fun _ => rfl) rfl ?_
        show P_aw _ _ _ 25 [.ref (w.2.2 33), P_z m, P_z t, P_z ((t - 100) / 10)] [P_z (V ((t - 100) / 10) ((t - 100) % 10) ((m / 14) % 14))] _ _
        refine P_aw_end P_i51_25 rfl rfl (fun _ => rfl) rfl ?_
        exact P_qz (by (try simp only [A_ce, A_row]); (repeat' split) <;> first | rfl | omega | (exfalso; omega) | (simp_all; done) | (simp_all; omega)) rfl q
      · refine P_aw_ict P_i122_9 ⟨by omega, by omega⟩ ⟨by omega, by omega⟩ (P_ci_get (by omega)) (show P_aw _ _ _ 24 [.ref (w.2.2 (tb ((t - 100) / 10))), P_z ((m / 14) % 14), P_z ((t - 100) % 10), P_un] [] _ _ from ?_)
        refine P_aw_op (L' := [.ref (w.2.2 (tb ((t - 100) / 10))), P_z ((m / 14) % 14), P_z ((t - 100) % 10), P_un]) (st' := [P_z 0]) P_i122_24 rfl (show P_aw _ _ _ 25 [.ref (w.2.2 (tb ((t - 100) / 10))), P_z ((m / 14) % 14), P_z ((t - 100) % 10), P_un] [P_z 0] _ _ from ?_)
        refine P_aw_end P_i122_25 rfl rfl (fun _ => rfl) rfl ?_
        show P_aw _ _ _ 25 [.ref (w.2.2 33), P_z m, P_z t, P_z ((t - 100) / 10)] [P_z 0] _ _
        refine P_aw_end P_i51_25 rfl rfl (fun _ => rfl) rfl ?_
        exact P_qz (by (try simp only [A_ce, A_row]); (repeat' split) <;> first | rfl | omega | (exfalso; omega) | (simp_all; done) | (simp_all; omega)) rfl q
    · refine P_aw_ict P_i52_16 ⟨by omega, by omega⟩ ⟨by decide, by decide⟩ (P_ci_net (by omega)) (show P_aw _ _ _ 26 [P_z m, P_z ((t - 100) / 10), P_z (m / 14)] [] _ _ from ?_)
      refine P_aw_op (L' := [P_z m, P_z ((t - 100) / 10), P_z (m / 14)]) (st' := [P_z (m / 14)]) P_i52_26 rfl (show P_aw _ _ _ 27 [P_z m, P_z ((t - 100) / 10), P_z (m / 14)] [P_z (m / 14)] _ _ from ?_)
      refine P_aw_op (L' := [P_z m, P_z ((t - 100) / 10), P_z (m / 14)]) (st' := [P_z 14, P_z (m / 14)]) P_i52_27 (P_o_bi (by decide)) (show P_aw _ _ _ 29 [P_z m, P_z ((t - 100) / 10), P_z (m / 14)] [P_z 14, P_z (m / 14)] _ _ from ?_)
      refine P_aw_op (L' := [P_z m, P_z ((t - 100) / 10), P_z (m / 14)]) (st' := [P_z ((m / 14) / 14)]) P_i52_29 (P_o_idiv (by omega) (by omega) (by omega) (by omega)) (show P_aw _ _ _ 30 [P_z m, P_z ((t - 100) / 10), P_z (m / 14)] [P_z ((m / 14) / 14)] _ _ from ?_)
      refine P_aw_end P_i52_30 rfl rfl (fun _ => rfl) rfl ?_
      show P_aw _ _ _ 18 [.ref (w.2.2 33), P_z m, P_z t, P_z ((t - 100) / 10)] [P_z ((m / 14) / 14), .ref (w.2.2 (tb ((t - 100) / 10)))] _ _
      refine P_aw_op (L' := [.ref (w.2.2 33), P_z m, P_z t, P_z ((t - 100) / 10)]) (st' := [P_z t, P_z ((m / 14) / 14), .ref (w.2.2 (tb ((t - 100) / 10)))]) P_i51_18 rfl (show P_aw _ _ _ 19 [.ref (w.2.2 33), P_z m, P_z t, P_z ((t - 100) / 10)] [P_z t, P_z ((m / 14) / 14), .ref (w.2.2 (tb ((t - 100) / 10)))] _ _ from ?_)
      refine P_aw_call P_i51_19 rfl rfl (fun _ => rfl) rfl rfl rfl rfl (y2 := 177) (as := [P_z t]) (r0 := [P_z ((m / 14) / 14), .ref (w.2.2 (tb ((t - 100) / 10)))]) (fun _ _ => rfl) (Nat.le_of_ble_eq_true rfl) (by decide) rfl (Nat.le_of_ble_eq_true rfl) (show P_aw _ _ _ 0 [P_z t] [] _ _ from ?_)
      refine P_aw_op (L' := [P_z t]) (st' := [P_z t]) P_i177_0 rfl (show P_aw _ _ _ 1 [P_z t] [P_z t] _ _ from ?_)
      refine P_aw_op (L' := [P_z t]) (st' := [P_z 100, P_z t]) P_i177_1 (P_o_bi (by decide)) (show P_aw _ _ _ 3 [P_z t] [P_z 100, P_z t] _ _ from ?_)
      refine P_aw_op (L' := [P_z t]) (st' := [P_z (t - 100)]) P_i177_3 P_o_isub (show P_aw _ _ _ 4 [P_z t] [P_z (t - 100)] _ _ from ?_)
      refine P_aw_op (L' := [P_z t]) (st' := [P_z 10, P_z (t - 100)]) P_i177_4 (P_o_bi (by decide)) (show P_aw _ _ _ 6 [P_z t] [P_z 10, P_z (t - 100)] _ _ from ?_)
      refine P_aw_op (L' := [P_z t]) (st' := [P_z ((t - 100) % 10)]) P_i177_6 (P_o_irem (by omega) (by omega) (by omega) (by omega)) (show P_aw _ _ _ 7 [P_z t] [P_z ((t - 100) % 10)] _ _ from ?_)
      refine P_aw_end P_i177_7 rfl rfl (fun _ => rfl) rfl ?_
      show P_aw _ _ _ 22 [.ref (w.2.2 33), P_z m, P_z t, P_z ((t - 100) / 10)] [P_z ((t - 100) % 10), P_z ((m / 14) / 14), .ref (w.2.2 (tb ((t - 100) / 10)))] _ _
      refine P_aw_call P_i51_22 rfl rfl (fun _ => rfl) rfl rfl rfl rfl (y2 := 122) (as := [.ref (w.2.2 (tb ((t - 100) / 10))), P_z ((m / 14) / 14), P_z ((t - 100) % 10)]) (r0 := []) (P_inv_v (hA.2.2 ((t - 100) / 10) (by omega) (by omega)).2.1.2.1.2 (hA.2.2 ((t - 100) / 10) (by omega) (by omega)).2.1.2.1.1 rfl rfl) (Nat.le_of_ble_eq_true rfl) (by decide) rfl (Nat.le_of_ble_eq_true rfl) (show P_aw _ _ _ 0 [.ref (w.2.2 (tb ((t - 100) / 10))), P_z ((m / 14) / 14), P_z ((t - 100) % 10), P_un] [] _ _ from ?_)
      refine P_aw_op (L' := [.ref (w.2.2 (tb ((t - 100) / 10))), P_z ((m / 14) / 14), P_z ((t - 100) % 10), P_un]) (st' := [P_z ((m / 14) / 14)]) P_i122_0 rfl (show P_aw _ _ _ 1 [.ref (w.2.2 (tb ((t - 100) / 10))), P_z ((m / 14) / 14), P_z ((t - 100) % 10), P_un] [P_z ((m / 14) / 14)] _ _ from ?_)
      refine P_aw_izf P_i122_1 ⟨by omega, by omega⟩ (P_ci_ltf (by omega)) (show P_aw _ _ _ 4 [.ref (w.2.2 (tb ((t - 100) / 10))), P_z ((m / 14) / 14), P_z ((t - 100) % 10), P_un] [] _ _ from ?_)
      refine P_aw_op (L' := [.ref (w.2.2 (tb ((t - 100) / 10))), P_z ((m / 14) / 14), P_z ((t - 100) % 10), P_un]) (st' := [P_z ((m / 14) / 14)]) P_i122_4 rfl (show P_aw _ _ _ 5 [.ref (w.2.2 (tb ((t - 100) / 10))), P_z ((m / 14) / 14), P_z ((t - 100) % 10), P_un] [P_z ((m / 14) / 14)] _ _ from ?_)
      refine P_aw_op (L' := [.ref (w.2.2 (tb ((t - 100) / 10))), P_z ((m / 14) / 14), P_z ((t - 100) % 10), P_un]) (st' := [.ref (w.2.2 (tb ((t - 100) / 10))), P_z ((m / 14) / 14)]) P_i122_5 rfl (show P_aw _ _ _ 6 [.ref (w.2.2 (tb ((t - 100) / 10))), P_z ((m / 14) / 14), P_z ((t - 100) % 10), P_un] [.ref (w.2.2 (tb ((t - 100) / 10))), P_z ((m / 14) / 14)] _ _ from ?_)
      have hg4 := (hA.2.2 ((t - 100) / 10) (by omega) (by omega)).2.2.2.1
      refine P_aw_getv P_i122_6 (hA.2.2 ((t - 100) / 10) (by omega) (by omega)).2.1.2.1.2 (hA.2.2 ((t - 100) / 10) (by omega) (by omega)).2.1.2.1.1 rfl rfl ((hA.2.2 ((t - 100) / 10) (by omega) (by omega)).2.2.1) (show P_aw _ _ _ 9 [.ref (w.2.2 (tb ((t - 100) / 10))), P_z ((m / 14) / 14), P_z ((t - 100) % 10), P_un] [P_z (rw ((t - 100) / 10)), P_z ((m / 14) / 14)] _ _ from ?_)
      rcases Int.lt_or_le ((m / 14) / 14) (rw ((t - 100) / 10)) with hc5 | hc5
      · refine P_aw_icf P_i122_9 ⟨by omega, by omega⟩ ⟨by omega, by omega⟩ (P_ci_gef (by omega)) (show P_aw _ _ _ 12 [.ref (w.2.2 (tb ((t - 100) / 10))), P_z ((m / 14) / 14), P_z ((t - 100) % 10), P_un] [] _ _ from ?_)
        refine P_aw_op (L' := [.ref (w.2.2 (tb ((t - 100) / 10))), P_z ((m / 14) / 14), P_z ((t - 100) % 10), P_un]) (st' := [P_z ((t - 100) % 10)]) P_i122_12 rfl (show P_aw _ _ _ 13 [.ref (w.2.2 (tb ((t - 100) / 10))), P_z ((m / 14) / 14), P_z ((t - 100) % 10), P_un] [P_z ((t - 100) % 10)] _ _ from ?_)
        refine P_aw_izf P_i122_13 ⟨by omega, by omega⟩ (P_ci_ltf (by omega)) (show P_aw _ _ _ 16 [.ref (w.2.2 (tb ((t - 100) / 10))), P_z ((m / 14) / 14), P_z ((t - 100) % 10), P_un] [] _ _ from ?_)
        refine P_aw_op (L' := [.ref (w.2.2 (tb ((t - 100) / 10))), P_z ((m / 14) / 14), P_z ((t - 100) % 10), P_un]) (st' := [P_z ((t - 100) % 10)]) P_i122_16 rfl (show P_aw _ _ _ 17 [.ref (w.2.2 (tb ((t - 100) / 10))), P_z ((m / 14) / 14), P_z ((t - 100) % 10), P_un] [P_z ((t - 100) % 10)] _ _ from ?_)
        refine P_aw_op (L' := [.ref (w.2.2 (tb ((t - 100) / 10))), P_z ((m / 14) / 14), P_z ((t - 100) % 10), P_un]) (st' := [.ref (w.2.2 (tb ((t - 100) / 10))), P_z ((t - 100) % 10)]) P_i122_17 rfl (show P_aw _ _ _ 18 [.ref (w.2.2 (tb ((t - 100) / 10))), P_z ((m / 14) / 14), P_z ((t - 100) % 10), P_un] [.ref (w.2.2 (tb ((t - 100) / 10))), P_z ((t - 100) % 10)] _ _ from ?_)
        have hg6 := (hX ((t - 100) / 10) (by omega) (by omega)).1.2
        refine P_aw_getv P_i122_18 (hA.2.2 ((t - 100) / 10) (by omega) (by omega)).2.1.2.1.2 (hA.2.2 ((t - 100) / 10) (by omega) (by omega)).2.1.2.1.1 rfl rfl ((hX ((t - 100) / 10) (by omega) (by omega)).1.1) (show P_aw _ _ _ 21 [.ref (w.2.2 (tb ((t - 100) / 10))), P_z ((m / 14) / 14), P_z ((t - 100) % 10), P_un] [P_z (cl ((t - 100) / 10)), P_z ((t - 100) % 10)] _ _ from ?_)
        refine P_aw_ict P_i122_21 ⟨by omega, by omega⟩ ⟨by omega, by omega⟩ (P_ci_ltt (by omega)) (show P_aw _ _ _ 26 [.ref (w.2.2 (tb ((t - 100) / 10))), P_z ((m / 14) / 14), P_z ((t - 100) % 10), P_un] [] _ _ from ?_)
        refine P_aw_op (L' := [.ref (w.2.2 (tb ((t - 100) / 10))), P_z ((m / 14) / 14), P_z ((t - 100) % 10), P_un]) (st' := [P_z ((m / 14) / 14)]) P_i122_26 rfl (show P_aw _ _ _ 27 [.ref (w.2.2 (tb ((t - 100) / 10))), P_z ((m / 14) / 14), P_z ((t - 100) % 10), P_un] [P_z ((m / 14) / 14)] _ _ from ?_)
        refine P_aw_op (L' := [.ref (w.2.2 (tb ((t - 100) / 10))), P_z ((m / 14) / 14), P_z ((t - 100) % 10), P_un]) (st' := [P_z 3, P_z ((m / 14) / 14)]) P_i122_27 rfl (show P_aw _ _ _ 28 [.ref (w.2.2 (tb ((t - 100) / 10))), P_z ((m / 14) / 14), P_z ((t - 100) % 10), P_un] [P_z 3, P_z ((m / 14) / 14)] _ _ from ?_)
        refine P_aw_op (L' := [.ref (w.2.2 (tb ((t - 100) / 10))), P_z ((m / 14) / 14), P_z ((t - 100) % 10), P_un]) (st' := [P_z (((m / 14) / 14) * 3)]) P_i122_28 P_o_imul (show P_aw _ _ _ 29 [.ref (w.2.2 (tb ((t - 100) / 10))), P_z ((m / 14) / 14), P_z ((t - 100) % 10), P_un] [P_z (((m / 14) / 14) * 3)] _ _ from ?_)
        refine P_aw_op (L' := [.ref (w.2.2 (tb ((t - 100) / 10))), P_z ((m / 14) / 14), P_z ((t - 100) % 10), P_un]) (st' := [P_z ((t - 100) % 10), P_z (((m / 14) / 14) * 3)]) P_i122_29 rfl (show P_aw _ _ _ 30 [.ref (w.2.2 (tb ((t - 100) / 10))), P_z ((m / 14) / 14), P_z ((t - 100) % 10), P_un] [P_z ((t - 100) % 10), P_z (((m / 14) / 14) * 3)] _ _ from ?_)
        refine P_aw_op (L' := [.ref (w.2.2 (tb ((t - 100) / 10))), P_z ((m / 14) / 14), P_z ((t - 100) % 10), P_un]) (st' := [P_z ((((m / 14) / 14) * 3) + ((t - 100) % 10))]) P_i122_30 P_o_iadd (show P_aw _ _ _ 31 [.ref (w.2.2 (tb ((t - 100) / 10))), P_z ((m / 14) / 14), P_z ((t - 100) % 10), P_un] [P_z ((((m / 14) / 14) * 3) + ((t - 100) % 10))] _ _ from ?_)
        refine P_aw_op (L' := [.ref (w.2.2 (tb ((t - 100) / 10))), P_z ((m / 14) / 14), P_z ((t - 100) % 10), P_z ((((m / 14) / 14) * 3) + ((t - 100) % 10))]) (st' := []) P_i122_31 rfl (show P_aw _ _ _ 32 [.ref (w.2.2 (tb ((t - 100) / 10))), P_z ((m / 14) / 14), P_z ((t - 100) % 10), P_z ((((m / 14) / 14) * 3) + ((t - 100) % 10))] [] _ _ from ?_)
        refine P_aw_op (L' := [.ref (w.2.2 (tb ((t - 100) / 10))), P_z ((m / 14) / 14), P_z ((t - 100) % 10), P_z ((((m / 14) / 14) * 3) + ((t - 100) % 10))]) (st' := [P_z ((((m / 14) / 14) * 3) + ((t - 100) % 10))]) P_i122_32 rfl (show P_aw _ _ _ 33 [.ref (w.2.2 (tb ((t - 100) / 10))), P_z ((m / 14) / 14), P_z ((t - 100) % 10), P_z ((((m / 14) / 14) * 3) + ((t - 100) % 10))] [P_z ((((m / 14) / 14) * 3) + ((t - 100) % 10))] _ _ from ?_)
        refine P_aw_izf P_i122_33 ⟨by omega, by omega⟩ (P_ci_ltf (by omega)) (show P_aw _ _ _ 36 [.ref (w.2.2 (tb ((t - 100) / 10))), P_z ((m / 14) / 14), P_z ((t - 100) % 10), P_z ((((m / 14) / 14) * 3) + ((t - 100) % 10))] [] _ _ from ?_)
        refine P_aw_op (L' := [.ref (w.2.2 (tb ((t - 100) / 10))), P_z ((m / 14) / 14), P_z ((t - 100) % 10), P_z ((((m / 14) / 14) * 3) + ((t - 100) % 10))]) (st' := [P_z ((((m / 14) / 14) * 3) + ((t - 100) % 10))]) P_i122_36 rfl (show P_aw _ _ _ 37 [.ref (w.2.2 (tb ((t - 100) / 10))), P_z ((m / 14) / 14), P_z ((t - 100) % 10), P_z ((((m / 14) / 14) * 3) + ((t - 100) % 10))] [P_z ((((m / 14) / 14) * 3) + ((t - 100) % 10))] _ _ from ?_)
        refine P_aw_op (L' := [.ref (w.2.2 (tb ((t - 100) / 10))), P_z ((m / 14) / 14), P_z ((t - 100) % 10), P_z ((((m / 14) / 14) * 3) + ((t - 100) % 10))]) (st' := [.ref (w.2.2 (tb ((t - 100) / 10))), P_z ((((m / 14) / 14) * 3) + ((t - 100) % 10))]) P_i122_37 rfl (show P_aw _ _ _ 38 [.ref (w.2.2 (tb ((t - 100) / 10))), P_z ((m / 14) / 14), P_z ((t - 100) % 10), P_z ((((m / 14) / 14) * 3) + ((t - 100) % 10))] [.ref (w.2.2 (tb ((t - 100) / 10))), P_z ((((m / 14) / 14) * 3) + ((t - 100) % 10))] _ _ from ?_)
        refine P_aw_getR P_i122_38 (hA.2.2 ((t - 100) / 10) (by omega) (by omega)).2.1.2.1.2 (hA.2.2 ((t - 100) / 10) (by omega) (by omega)).2.1.2.1.1 rfl rfl (show P_aw _ _ _ 41 [.ref (w.2.2 (tb ((t - 100) / 10))), P_z ((m / 14) / 14), P_z ((t - 100) % 10), P_z ((((m / 14) / 14) * 3) + ((t - 100) % 10))] [.ref (w.2.2 ((tb ((t - 100) / 10)) + 1)), P_z ((((m / 14) / 14) * 3) + ((t - 100) % 10))] _ _ from ?_)
        refine P_aw_alen P_i122_41 (hA.2.2 ((t - 100) / 10) (by omega) (by omega)).2.1.2.2.1.2 (hA.2.2 ((t - 100) / 10) (by omega) (by omega)).2.1.2.2.1.1 (show P_aw _ _ _ 42 [.ref (w.2.2 (tb ((t - 100) / 10))), P_z ((m / 14) / 14), P_z ((t - 100) % 10), P_z ((((m / 14) / 14) * 3) + ((t - 100) % 10))] [P_z 42, P_z ((((m / 14) / 14) * 3) + ((t - 100) % 10))] _ _ from ?_)
        refine P_aw_icf P_i122_42 ⟨by omega, by omega⟩ ⟨by decide, by decide⟩ (P_ci_gef (by omega)) (show P_aw _ _ _ 45 [.ref (w.2.2 (tb ((t - 100) / 10))), P_z ((m / 14) / 14), P_z ((t - 100) % 10), P_z ((((m / 14) / 14) * 3) + ((t - 100) % 10))] [] _ _ from ?_)
        refine P_aw_op (L' := [.ref (w.2.2 (tb ((t - 100) / 10))), P_z ((m / 14) / 14), P_z ((t - 100) % 10), P_z ((((m / 14) / 14) * 3) + ((t - 100) % 10))]) (st' := [.ref (w.2.2 (tb ((t - 100) / 10)))]) P_i122_45 rfl (show P_aw _ _ _ 46 [.ref (w.2.2 (tb ((t - 100) / 10))), P_z ((m / 14) / 14), P_z ((t - 100) % 10), P_z ((((m / 14) / 14) * 3) + ((t - 100) % 10))] [.ref (w.2.2 (tb ((t - 100) / 10)))] _ _ from ?_)
        refine P_aw_getR P_i122_46 (hA.2.2 ((t - 100) / 10) (by omega) (by omega)).2.1.2.1.2 (hA.2.2 ((t - 100) / 10) (by omega) (by omega)).2.1.2.1.1 rfl rfl (show P_aw _ _ _ 49 [.ref (w.2.2 (tb ((t - 100) / 10))), P_z ((m / 14) / 14), P_z ((t - 100) % 10), P_z ((((m / 14) / 14) * 3) + ((t - 100) % 10))] [.ref (w.2.2 ((tb ((t - 100) / 10)) + 1))] _ _ from ?_)
        refine P_aw_op (L' := [.ref (w.2.2 (tb ((t - 100) / 10))), P_z ((m / 14) / 14), P_z ((t - 100) % 10), P_z ((((m / 14) / 14) * 3) + ((t - 100) % 10))]) (st' := [P_z ((((m / 14) / 14) * 3) + ((t - 100) % 10)), .ref (w.2.2 ((tb ((t - 100) / 10)) + 1))]) P_i122_49 rfl (show P_aw _ _ _ 50 [.ref (w.2.2 (tb ((t - 100) / 10))), P_z ((m / 14) / 14), P_z ((t - 100) % 10), P_z ((((m / 14) / 14) * 3) + ((t - 100) % 10))] [P_z ((((m / 14) / 14) * 3) + ((t - 100) % 10)), .ref (w.2.2 ((tb ((t - 100) / 10)) + 1))] _ _ from ?_)
        have hg7 := ((hX ((t - 100) / 10) (by omega) (by omega)).2 ((t - 100) % 10) ((m / 14) / 14) (by omega) (by omega) (by omega) (by omega)).2
        refine P_aw_aldv P_i122_50 (hA.2.2 ((t - 100) / 10) (by omega) (by omega)).2.1.2.2.1.2 (hA.2.2 ((t - 100) / 10) (by omega) (by omega)).2.1.2.2.1.1 (by omega) (by omega) (by decide) (((hX ((t - 100) / 10) (by omega) (by omega)).2 ((t - 100) % 10) ((m / 14) / 14) (by omega) (by omega) (by omega) (by omega)).1) (show P_aw _ _ _ 51 [.ref (w.2.2 (tb ((t - 100) / 10))), P_z ((m / 14) / 14), P_z ((t - 100) % 10), P_z ((((m / 14) / 14) * 3) + ((t - 100) % 10))] [P_z (V ((t - 100) / 10) ((t - 100) % 10) ((m / 14) / 14))] _ _ from ?_)
        refine P_aw_goto P_i122_51 (show P_aw _ _ _ 55 [.ref (w.2.2 (tb ((t - 100) / 10))), P_z ((m / 14) / 14), P_z ((t - 100) % 10), P_z ((((m / 14) / 14) * 3) + ((t - 100) % 10))] [P_z (V ((t - 100) / 10) ((t - 100) % 10) ((m / 14) / 14))] _ _ from ?_)
        refine P_aw_end P_i122_55 rfl rfl (fun _ => rfl) rfl ?_
        show P_aw _ _ _ 25 [.ref (w.2.2 33), P_z m, P_z t, P_z ((t - 100) / 10)] [P_z (V ((t - 100) / 10) ((t - 100) % 10) ((m / 14) / 14))] _ _
        refine P_aw_end P_i51_25 rfl rfl (fun _ => rfl) rfl ?_
        exact P_qz (by (try simp only [A_ce, A_row]); (repeat' split) <;> first | rfl | omega | (exfalso; omega) | (simp_all; done) | (simp_all; omega)) rfl q
      · refine P_aw_ict P_i122_9 ⟨by omega, by omega⟩ ⟨by omega, by omega⟩ (P_ci_get (by omega)) (show P_aw _ _ _ 24 [.ref (w.2.2 (tb ((t - 100) / 10))), P_z ((m / 14) / 14), P_z ((t - 100) % 10), P_un] [] _ _ from ?_)
        refine P_aw_op (L' := [.ref (w.2.2 (tb ((t - 100) / 10))), P_z ((m / 14) / 14), P_z ((t - 100) % 10), P_un]) (st' := [P_z 0]) P_i122_24 rfl (show P_aw _ _ _ 25 [.ref (w.2.2 (tb ((t - 100) / 10))), P_z ((m / 14) / 14), P_z ((t - 100) % 10), P_un] [P_z 0] _ _ from ?_)
        refine P_aw_end P_i122_25 rfl rfl (fun _ => rfl) rfl ?_
        show P_aw _ _ _ 25 [.ref (w.2.2 33), P_z m, P_z t, P_z ((t - 100) / 10)] [P_z 0] _ _
        refine P_aw_end P_i51_25 rfl rfl (fun _ => rfl) rfl ?_
        exact P_qz (by (try simp only [A_ce, A_row]); (repeat' split) <;> first | rfl | omega | (exfalso; omega) | (simp_all; done) | (simp_all; omega)) rfl q
