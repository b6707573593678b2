/-! the class, written by wip/c1.py: 69.gather -/
theorem A_su2 {σ : P_A} {v B : Int} {k : Nat} (h : ∀ j, j < 56 → -B ≤ σ 36 j ∧ σ 36 j ≤ B) (hv : -B ≤ v ∧ v ≤ B) : ∀ j, j < 56 → -B ≤ P_u2 σ 36 k v 36 j ∧ P_u2 σ 36 k v 36 j ≤ B := by
  intro j hj
  unfold P_u2
  split
  · exact hv
  · exact h j hj
theorem s_gal {w : P_Lw} (hw : P_Cw w) {d : Nat} {Q : P_R → P_A → Prop} {ns : Int} {tb : Int → Nat} {rw : Int → Int} {vr : Int → Int → Int} {cl : Int → Int} {V : Int → Int → Int → Int} {it : Int} {ki ci : Int → Int} {gp oi lm : Int} {g m B : Int} (hm : 0 ≤ m ∧ m ≤ 2743) (hg : 0 ≤ g ∧ g ≤ 13) (hB0 : 0 ≤ B) : ∀ (n : Nat) (σ : P_A) (i : Int), A_V w σ ns tb rw vr → A_X σ ns tb rw cl V → A_F σ ns cl it ki ci gp oi lm → 0 ≤ i → it = i + (n : Int) → (∀ j : Nat, g * 4 + i ≤ (j : Int) → j < 56 → -B ≤ σ 36 j ∧ σ 36 j ≤ B) → (∀ j, j < 56 → -(B + 999) ≤ σ 36 j ∧ σ 36 j ≤ B + 999) → (∀ σ', (∀ a b, a ≠ 36 → σ' a b = σ a b) → (∀ j, j < 56 → -(B + 999) ≤ σ' 36 j ∧ σ' 36 j ≤ B + 999) → Q (.inl none) σ') → P_aw w (d + 5) 46 40 [.ref (w.2.2 33), P_z g, P_z m, P_z i, P_un] [] σ Q := by
  intro n
  induction n with
  | zero =>
    intro σ i hA hX hF hi hin hB1 hB2 q
    have hit := hF.2.1
    have hns := hA.2.1
    refine P_aw_op (L' := [.ref (w.2.2 33), P_z g, P_z m, P_z i, P_un]) (st' := [P_z i]) P_i46_40 rfl (show P_aw _ _ _ 41 [.ref (w.2.2 33), P_z g, P_z m, P_z i, P_un] [P_z i] _ _ from ?_)
    refine P_aw_op (L' := [.ref (w.2.2 33), P_z g, P_z m, P_z i, P_un]) (st' := [.ref (w.2.2 33), P_z i]) P_i46_41 rfl (show P_aw _ _ _ 42 [.ref (w.2.2 33), P_z g, P_z m, P_z i, P_un] [.ref (w.2.2 33), P_z i] _ _ from ?_)
    refine P_aw_getR P_i46_42 (hw.2.1 33 (by decide)) (hw.s rfl) rfl rfl (show P_aw _ _ _ 45 [.ref (w.2.2 33), P_z g, P_z m, P_z i, P_un] [.ref (w.2.2 6), P_z i] _ _ from ?_)
    refine P_aw_call P_i46_45 rfl rfl (fun _ => rfl) rfl rfl rfl rfl (y2 := 29) (as := [.ref (w.2.2 6)]) (r0 := [P_z i]) (P_inv_v (hw.2.1 6 (by decide)) (hw.s rfl) rfl rfl) (Nat.le_of_ble_eq_true rfl) (by decide) rfl (Nat.le_of_ble_eq_true rfl) (show P_aw _ _ _ 0 [.ref (w.2.2 6)] [] _ _ from ?_)
    refine P_aw_op (L' := [.ref (w.2.2 6)]) (st' := [.ref (w.2.2 6)]) P_i29_0 rfl (show P_aw _ _ _ 1 [.ref (w.2.2 6)] [.ref (w.2.2 6)] _ _ from ?_)
    have hg1 := hF.2.1
    refine P_aw_getv P_i29_1 (hw.2.1 6 (by decide)) (hw.s rfl) rfl rfl (hF.1) (show P_aw _ _ _ 4 [.ref (w.2.2 6)] [P_z it] _ _ from ?_)
    refine P_aw_end P_i29_4 rfl rfl (fun _ => rfl) rfl ?_
    show P_aw _ _ _ 48 [.ref (w.2.2 33), P_z g, P_z m, P_z i, P_un] [P_z it, P_z i] _ _
    refine P_aw_ict P_i46_48 ⟨by omega, by omega⟩ ⟨by omega, by omega⟩ (P_ci_get (by omega)) (show P_aw _ _ _ 109 [.ref (w.2.2 33), P_z g, P_z m, P_z i, P_un] [] _ _ from ?_)
    refine P_aw_end P_i46_109 rfl rfl (fun _ => rfl) rfl ?_
    exact q σ (fun _ _ _ => rfl) hB2
  | succ n ih =>
    intro σ i hA hX hF hi hin hB1 hB2 q
    have hit := hF.2.1
    have hns := hA.2.1
    refine P_aw_op (L' := [.ref (w.2.2 33), P_z g, P_z m, P_z i, P_un]) (st' := [P_z i]) P_i46_40 rfl (show P_aw _ _ _ 41 [.ref (w.2.2 33), P_z g, P_z m, P_z i, P_un] [P_z i] _ _ from ?_)
    refine P_aw_op (L' := [.ref (w.2.2 33), P_z g, P_z m, P_z i, P_un]) (st' := [.ref (w.2.2 33), P_z i]) P_i46_41 rfl (show P_aw _ _ _ 42 [.ref (w.2.2 33), P_z g, P_z m, P_z i, P_un] [.ref (w.2.2 33), P_z i] _ _ from ?_)
    refine P_aw_getR P_i46_42 (hw.2.1 33 (by decide)) (hw.s rfl) rfl rfl (show P_aw _ _ _ 45 [.ref (w.2.2 33), P_z g, P_z m, P_z i, P_un] [.ref (w.2.2 6), P_z i] _ _ from ?_)
    refine P_aw_call P_i46_45 rfl rfl (fun _ => rfl) rfl rfl rfl rfl (y2 := 29) (as := [.ref (w.2.2 6)]) (r0 := [P_z i]) (P_inv_v (hw.2.1 6 (by decide)) (hw.s rfl) rfl rfl) (Nat.le_of_ble_eq_true rfl) (by decide) rfl (Nat.le_of_ble_eq_true rfl) (show P_aw _ _ _ 0 [.ref (w.2.2 6)] [] _ _ from ?_)
    refine P_aw_op (L' := [.ref (w.2.2 6)]) (st' := [.ref (w.2.2 6)]) P_i29_0 rfl (show P_aw _ _ _ 1 [.ref (w.2.2 6)] [.ref (w.2.2 6)] _ _ from ?_)
    have hg1 := hF.2.1
    refine P_aw_getv P_i29_1 (hw.2.1 6 (by decide)) (hw.s rfl) rfl rfl (hF.1) (show P_aw _ _ _ 4 [.ref (w.2.2 6)] [P_z it] _ _ from ?_)
    refine P_aw_end P_i29_4 rfl rfl (fun _ => rfl) rfl ?_
    show P_aw _ _ _ 48 [.ref (w.2.2 33), P_z g, P_z m, P_z i, P_un] [P_z it, P_z i] _ _
    refine P_aw_icf P_i46_48 ⟨by omega, by omega⟩ ⟨by omega, by omega⟩ (P_ci_gef (by omega)) (show P_aw _ _ _ 51 [.ref (w.2.2 33), P_z g, P_z m, P_z i, P_un] [] _ _ from ?_)
    refine P_aw_op (L' := [.ref (w.2.2 33), P_z g, P_z m, P_z i, P_un]) (st' := [.ref (w.2.2 33)]) P_i46_51 rfl (show P_aw _ _ _ 52 [.ref (w.2.2 33), P_z g, P_z m, P_z i, P_un] [.ref (w.2.2 33)] _ _ from ?_)
    refine P_aw_getR P_i46_52 (hw.2.1 33 (by decide)) (hw.s rfl) rfl rfl (show P_aw _ _ _ 55 [.ref (w.2.2 33), P_z g, P_z m, P_z i, P_un] [.ref (w.2.2 6)] _ _ from ?_)
    refine P_aw_op (L' := [.ref (w.2.2 33), P_z g, P_z m, P_z i, P_un]) (st' := [P_z i, .ref (w.2.2 6)]) P_i46_55 rfl (show P_aw _ _ _ 56 [.ref (w.2.2 33), P_z g, P_z m, P_z i, P_un] [P_z i, .ref (w.2.2 6)] _ _ from ?_)
    refine P_aw_call P_i46_56 rfl rfl (fun _ => rfl) rfl rfl rfl rfl (y2 := 34) (as := [.ref (w.2.2 6), P_z i]) (r0 := []) (P_inv_v (hw.2.1 6 (by decide)) (hw.s rfl) rfl rfl) (Nat.le_of_ble_eq_true rfl) (by decide) rfl (Nat.le_of_ble_eq_true rfl) (show P_aw _ _ _ 0 [.ref (w.2.2 6), P_z i] [] _ _ from ?_)
    refine P_aw_op (L' := [.ref (w.2.2 6), P_z i]) (st' := [.ref (w.2.2 6)]) P_i34_0 rfl (show P_aw _ _ _ 1 [.ref (w.2.2 6), P_z i] [.ref (w.2.2 6)] _ _ from ?_)
    refine P_aw_getR P_i34_1 (hw.2.1 6 (by decide)) (hw.s rfl) rfl rfl (show P_aw _ _ _ 4 [.ref (w.2.2 6), P_z i] [.ref (w.2.2 7)] _ _ from ?_)
    refine P_aw_op (L' := [.ref (w.2.2 6), P_z i]) (st' := [P_z i, .ref (w.2.2 7)]) P_i34_4 rfl (show P_aw _ _ _ 5 [.ref (w.2.2 6), P_z i] [P_z i, .ref (w.2.2 7)] _ _ from ?_)
    refine P_aw_call P_i34_5 rfl rfl (fun _ => rfl) rfl rfl rfl rfl (y2 := 178) (as := [.ref (w.2.2 7), P_z i]) (r0 := []) (fun _ _ => rfl) (Nat.le_of_ble_eq_true rfl) (by decide) rfl (Nat.le_of_ble_eq_true rfl) (show P_aw _ _ _ 0 [.ref (w.2.2 7), P_z i] [] _ _ from ?_)
    refine P_aw_op (L' := [.ref (w.2.2 7), P_z i]) (st' := [P_z i]) P_i178_0 rfl (show P_aw _ _ _ 1 [.ref (w.2.2 7), P_z i] [P_z i] _ _ from ?_)
    refine P_aw_izf P_i178_1 ⟨by omega, by omega⟩ (P_ci_ltf (by omega)) (show P_aw _ _ _ 4 [.ref (w.2.2 7), P_z i] [] _ _ from ?_)
    refine P_aw_op (L' := [.ref (w.2.2 7), P_z i]) (st' := [P_z i]) P_i178_4 rfl (show P_aw _ _ _ 5 [.ref (w.2.2 7), P_z i] [P_z i] _ _ from ?_)
    refine P_aw_op (L' := [.ref (w.2.2 7), P_z i]) (st' := [.ref (w.2.2 7), P_z i]) P_i178_5 rfl (show P_aw _ _ _ 6 [.ref (w.2.2 7), P_z i] [.ref (w.2.2 7), P_z i] _ _ from ?_)
    refine P_aw_alen P_i178_6 (hw.2.1 7 (by decide)) (hw.s rfl) (show P_aw _ _ _ 7 [.ref (w.2.2 7), P_z i] [P_z 4, P_z i] _ _ from ?_)
    refine P_aw_icf P_i178_7 ⟨by omega, by omega⟩ ⟨by decide, by decide⟩ (P_ci_gef (by omega)) (show P_aw _ _ _ 10 [.ref (w.2.2 7), P_z i] [] _ _ from ?_)
    refine P_aw_op (L' := [.ref (w.2.2 7), P_z i]) (st' := [.ref (w.2.2 7)]) P_i178_10 rfl (show P_aw _ _ _ 11 [.ref (w.2.2 7), P_z i] [.ref (w.2.2 7)] _ _ from ?_)
    refine P_aw_op (L' := [.ref (w.2.2 7), P_z i]) (st' := [P_z i, .ref (w.2.2 7)]) P_i178_11 rfl (show P_aw _ _ _ 12 [.ref (w.2.2 7), P_z i] [P_z i, .ref (w.2.2 7)] _ _ from ?_)
    have hg2 := (hF.2.2.1 i (by omega) (by omega)).2.2.1
    refine P_aw_aldv P_i178_12 (hw.2.1 7 (by decide)) (hw.s rfl) (by omega) (by omega) (by decide) ((hF.2.2.1 i (by omega) (by omega)).1) (show P_aw _ _ _ 13 [.ref (w.2.2 7), P_z i] [P_z (ki i)] _ _ from ?_)
    refine P_aw_goto P_i178_13 (show P_aw _ _ _ 17 [.ref (w.2.2 7), P_z i] [P_z (ki i)] _ _ from ?_)
    refine P_aw_end P_i178_17 rfl rfl (fun _ => rfl) rfl ?_
    show P_aw _ _ _ 8 [.ref (w.2.2 6), P_z i] [P_z (ki i)] _ _
    refine P_aw_end P_i34_8 rfl rfl (fun _ => rfl) rfl ?_
    show P_aw _ _ _ 59 [.ref (w.2.2 33), P_z g, P_z m, P_z i, P_un] [P_z (ki i)] _ _
    refine P_aw_op (L' := [.ref (w.2.2 33), P_z g, P_z m, P_z i, P_un]) (st' := [P_z 8, P_z (ki i)]) P_i46_59 (P_o_bi (by decide)) (show P_aw _ _ _ 61 [.ref (w.2.2 33), P_z g, P_z m, P_z i, P_un] [P_z 8, P_z (ki i)] _ _ from ?_)
    by_cases hc3 : (ki i) = 8
    · refine P_aw_icf P_i46_61 ⟨by omega, by omega⟩ ⟨by decide, by decide⟩ (P_ci_nef (by omega)) (show P_aw _ _ _ 64 [.ref (w.2.2 33), P_z g, P_z m, P_z i, P_un] [] _ _ from ?_)
      refine P_aw_op (L' := [.ref (w.2.2 33), P_z g, P_z m, P_z i, P_un]) (st' := [P_z g]) P_i46_64 rfl (show P_aw _ _ _ 65 [.ref (w.2.2 33), P_z g, P_z m, P_z i, P_un] [P_z g] _ _ from ?_)
      refine P_aw_op (L' := [.ref (w.2.2 33), P_z g, P_z m, P_z i, P_un]) (st' := [P_z 4, P_z g]) P_i46_65 rfl (show P_aw _ _ _ 66 [.ref (w.2.2 33), P_z g, P_z m, P_z i, P_un] [P_z 4, P_z g] _ _ from ?_)
      refine P_aw_op (L' := [.ref (w.2.2 33), P_z g, P_z m, P_z i, P_un]) (st' := [P_z (g * 4)]) P_i46_66 P_o_imul (show P_aw _ _ _ 67 [.ref (w.2.2 33), P_z g, P_z m, P_z i, P_un] [P_z (g * 4)] _ _ from ?_)
      refine P_aw_op (L' := [.ref (w.2.2 33), P_z g, P_z m, P_z i, P_un]) (st' := [P_z i, P_z (g * 4)]) P_i46_67 rfl (show P_aw _ _ _ 68 [.ref (w.2.2 33), P_z g, P_z m, P_z i, P_un] [P_z i, P_z (g * 4)] _ _ from ?_)
      refine P_aw_op (L' := [.ref (w.2.2 33), P_z g, P_z m, P_z i, P_un]) (st' := [P_z ((g * 4) + i)]) P_i46_68 P_o_iadd (show P_aw _ _ _ 69 [.ref (w.2.2 33), P_z g, P_z m, P_z i, P_un] [P_z ((g * 4) + i)] _ _ from ?_)
      refine P_aw_op (L' := [.ref (w.2.2 33), P_z g, P_z m, P_z i, P_z ((g * 4) + i)]) (st' := []) P_i46_69 rfl (show P_aw _ _ _ 71 [.ref (w.2.2 33), P_z g, P_z m, P_z i, P_z ((g * 4) + i)] [] _ _ from ?_)
      refine P_aw_op (L' := [.ref (w.2.2 33), P_z g, P_z m, P_z i, P_z ((g * 4) + i)]) (st' := [.ref (w.2.2 33)]) P_i46_71 rfl (show P_aw _ _ _ 72 [.ref (w.2.2 33), P_z g, P_z m, P_z i, P_z ((g * 4) + i)] [.ref (w.2.2 33)] _ _ from ?_)
      refine P_aw_getR P_i46_72 (hw.2.1 33 (by decide)) (hw.s rfl) rfl rfl (show P_aw _ _ _ 75 [.ref (w.2.2 33), P_z g, P_z m, P_z i, P_z ((g * 4) + i)] [.ref (w.2.2 36)] _ _ from ?_)
      refine P_aw_op (L' := [.ref (w.2.2 33), P_z g, P_z m, P_z i, P_z ((g * 4) + i)]) (st' := [P_z ((g * 4) + i), .ref (w.2.2 36)]) P_i46_75 rfl (show P_aw _ _ _ 77 [.ref (w.2.2 33), P_z g, P_z m, P_z i, P_z ((g * 4) + i)] [P_z ((g * 4) + i), .ref (w.2.2 36)] _ _ from ?_)
      refine P_aw_op (L' := [.ref (w.2.2 33), P_z g, P_z m, P_z i, P_z ((g * 4) + i)]) (st' := [.ref (w.2.2 33), P_z ((g * 4) + i), .ref (w.2.2 36)]) P_i46_77 rfl (show P_aw _ _ _ 78 [.ref (w.2.2 33), P_z g, P_z m, P_z i, P_z ((g * 4) + i)] [.ref (w.2.2 33), P_z ((g * 4) + i), .ref (w.2.2 36)] _ _ from ?_)
      refine P_aw_getR P_i46_78 (hw.2.1 33 (by decide)) (hw.s rfl) rfl rfl (show P_aw _ _ _ 81 [.ref (w.2.2 33), P_z g, P_z m, P_z i, P_z ((g * 4) + i)] [.ref (w.2.2 36), P_z ((g * 4) + i), .ref (w.2.2 36)] _ _ from ?_)
      refine P_aw_op (L' := [.ref (w.2.2 33), P_z g, P_z m, P_z i, P_z ((g * 4) + i)]) (st' := [P_z ((g * 4) + i), .ref (w.2.2 36), P_z ((g * 4) + i), .ref (w.2.2 36)]) P_i46_81 rfl (show P_aw _ _ _ 83 [.ref (w.2.2 33), P_z g, P_z m, P_z i, P_z ((g * 4) + i)] [P_z ((g * 4) + i), .ref (w.2.2 36), P_z ((g * 4) + i), .ref (w.2.2 36)] _ _ from ?_)
      refine P_aw_call P_i46_83 rfl rfl (fun _ => rfl) rfl rfl rfl rfl (y2 := 178) (as := [.ref (w.2.2 36), P_z ((g * 4) + i)]) (r0 := [P_z ((g * 4) + i), .ref (w.2.2 36)]) (fun _ _ => rfl) (Nat.le_of_ble_eq_true rfl) (by decide) rfl (Nat.le_of_ble_eq_true rfl) (show P_aw _ _ _ 0 [.ref (w.2.2 36), P_z ((g * 4) + i)] [] _ _ from ?_)
      refine P_aw_op (L' := [.ref (w.2.2 36), P_z ((g * 4) + i)]) (st' := [P_z ((g * 4) + i)]) P_i178_0 rfl (show P_aw _ _ _ 1 [.ref (w.2.2 36), P_z ((g * 4) + i)] [P_z ((g * 4) + i)] _ _ from ?_)
      refine P_aw_izf P_i178_1 ⟨by omega, by omega⟩ (P_ci_ltf (by omega)) (show P_aw _ _ _ 4 [.ref (w.2.2 36), P_z ((g * 4) + i)] [] _ _ from ?_)
      refine P_aw_op (L' := [.ref (w.2.2 36), P_z ((g * 4) + i)]) (st' := [P_z ((g * 4) + i)]) P_i178_4 rfl (show P_aw _ _ _ 5 [.ref (w.2.2 36), P_z ((g * 4) + i)] [P_z ((g * 4) + i)] _ _ from ?_)
      refine P_aw_op (L' := [.ref (w.2.2 36), P_z ((g * 4) + i)]) (st' := [.ref (w.2.2 36), P_z ((g * 4) + i)]) P_i178_5 rfl (show P_aw _ _ _ 6 [.ref (w.2.2 36), P_z ((g * 4) + i)] [.ref (w.2.2 36), P_z ((g * 4) + i)] _ _ from ?_)
      refine P_aw_alen P_i178_6 (hw.2.1 36 (by decide)) (hw.s rfl) (show P_aw _ _ _ 7 [.ref (w.2.2 36), P_z ((g * 4) + i)] [P_z 56, P_z ((g * 4) + i)] _ _ from ?_)
      refine P_aw_icf P_i178_7 ⟨by omega, by omega⟩ ⟨by decide, by decide⟩ (P_ci_gef (by omega)) (show P_aw _ _ _ 10 [.ref (w.2.2 36), P_z ((g * 4) + i)] [] _ _ from ?_)
      refine P_aw_op (L' := [.ref (w.2.2 36), P_z ((g * 4) + i)]) (st' := [.ref (w.2.2 36)]) P_i178_10 rfl (show P_aw _ _ _ 11 [.ref (w.2.2 36), P_z ((g * 4) + i)] [.ref (w.2.2 36)] _ _ from ?_)
      refine P_aw_op (L' := [.ref (w.2.2 36), P_z ((g * 4) + i)]) (st' := [P_z ((g * 4) + i), .ref (w.2.2 36)]) P_i178_11 rfl (show P_aw _ _ _ 12 [.ref (w.2.2 36), P_z ((g * 4) + i)] [P_z ((g * 4) + i), .ref (w.2.2 36)] _ _ from ?_)
      refine P_aw_ald P_i178_12 (hw.2.1 36 (by decide)) (hw.s rfl) (by omega) (by omega) (by decide) (show P_aw _ _ _ 13 [.ref (w.2.2 36), P_z ((g * 4) + i)] [P_z (σ 36 ((g * 4) + i).toNat)] _ _ from ?_)
      refine P_aw_goto P_i178_13 (show P_aw _ _ _ 17 [.ref (w.2.2 36), P_z ((g * 4) + i)] [P_z (σ 36 ((g * 4) + i).toNat)] _ _ from ?_)
      refine P_aw_end P_i178_17 rfl rfl (fun _ => rfl) rfl ?_
      show P_aw _ _ _ 86 [.ref (w.2.2 33), P_z g, P_z m, P_z i, P_z ((g * 4) + i)] [P_z (σ 36 ((g * 4) + i).toNat), P_z ((g * 4) + i), .ref (w.2.2 36)] _ _
      refine P_aw_op (L' := [.ref (w.2.2 33), P_z g, P_z m, P_z i, P_z ((g * 4) + i)]) (st' := [.ref (w.2.2 33), P_z (σ 36 ((g * 4) + i).toNat), P_z ((g * 4) + i), .ref (w.2.2 36)]) P_i46_86 rfl (show P_aw _ _ _ 87 [.ref (w.2.2 33), P_z g, P_z m, P_z i, P_z ((g * 4) + i)] [.ref (w.2.2 33), P_z (σ 36 ((g * 4) + i).toNat), P_z ((g * 4) + i), .ref (w.2.2 36)] _ _ from ?_)
      refine P_aw_op (L' := [.ref (w.2.2 33), P_z g, P_z m, P_z i, P_z ((g * 4) + i)]) (st' := [P_z m, .ref (w.2.2 33), P_z (σ 36 ((g * 4) + i).toNat), P_z ((g * 4) + i), .ref (w.2.2 36)]) P_i46_87 rfl (show P_aw _ _ _ 88 [.ref (w.2.2 33), P_z g, P_z m, P_z i, P_z ((g * 4) + i)] [P_z m, .ref (w.2.2 33), P_z (σ 36 ((g * 4) + i).toNat), P_z ((g * 4) + i), .ref (w.2.2 36)] _ _ from ?_)
      refine P_aw_op (L' := [.ref (w.2.2 33), P_z g, P_z m, P_z i, P_z ((g * 4) + i)]) (st' := [.ref (w.2.2 33), P_z m, .ref (w.2.2 33), P_z (σ 36 ((g * 4) + i).toNat), P_z ((g * 4) + i), .ref (w.2.2 36)]) P_i46_88 rfl (show P_aw _ _ _ 89 [.ref (w.2.2 33), P_z g, P_z m, P_z i, P_z ((g * 4) + i)] [.ref (w.2.2 33), P_z m, .ref (w.2.2 33), P_z (σ 36 ((g * 4) + i).toNat), P_z ((g * 4) + i), .ref (w.2.2 36)] _ _ from ?_)
      refine P_aw_getR P_i46_89 (hw.2.1 33 (by decide)) (hw.s rfl) rfl rfl (show P_aw _ _ _ 92 [.ref (w.2.2 33), P_z g, P_z m, P_z i, P_z ((g * 4) + i)] [.ref (w.2.2 6), P_z m, .ref (w.2.2 33), P_z (σ 36 ((g * 4) + i).toNat), P_z ((g * 4) + i), .ref (w.2.2 36)] _ _ from ?_)
      refine P_aw_op (L' := [.ref (w.2.2 33), P_z g, P_z m, P_z i, P_z ((g * 4) + i)]) (st' := [P_z i, .ref (w.2.2 6), P_z m, .ref (w.2.2 33), P_z (σ 36 ((g * 4) + i).toNat), P_z ((g * 4) + i), .ref (w.2.2 36)]) P_i46_92 rfl (show P_aw _ _ _ 93 [.ref (w.2.2 33), P_z g, P_z m, P_z i, P_z ((g * 4) + i)] [P_z i, .ref (w.2.2 6), P_z m, .ref (w.2.2 33), P_z (σ 36 ((g * 4) + i).toNat), P_z ((g * 4) + i), .ref (w.2.2 36)] _ _ from ?_)
      refine P_aw_call P_i46_93 rfl rfl (fun _ => rfl) rfl rfl rfl rfl (y2 := 35) (as := [.ref (w.2.2 6), P_z i]) (r0 := [P_z m, .ref (w.2.2 33), P_z (σ 36 ((g * 4) + i).toNat), P_z ((g * 4) + i), .ref (w.2.2 36)]) (P_inv_v (hw.2.1 6 (by decide)) (hw.s rfl) rfl rfl) (Nat.le_of_ble_eq_true rfl) (by decide) rfl (Nat.le_of_ble_eq_true rfl) (show P_aw _ _ _ 0 [.ref (w.2.2 6), P_z i] [] _ _ from ?_)
      refine P_aw_op (L' := [.ref (w.2.2 6), P_z i]) (st' := [.ref (w.2.2 6)]) P_i35_0 rfl (show P_aw _ _ _ 1 [.ref (w.2.2 6), P_z i] [.ref (w.2.2 6)] _ _ from ?_)
      refine P_aw_getR P_i35_1 (hw.2.1 6 (by decide)) (hw.s rfl) rfl rfl (show P_aw _ _ _ 4 [.ref (w.2.2 6), P_z i] [.ref (w.2.2 8)] _ _ from ?_)
      refine P_aw_op (L' := [.ref (w.2.2 6), P_z i]) (st' := [P_z i, .ref (w.2.2 8)]) P_i35_4 rfl (show P_aw _ _ _ 5 [.ref (w.2.2 6), P_z i] [P_z i, .ref (w.2.2 8)] _ _ from ?_)
      refine P_aw_call P_i35_5 rfl rfl (fun _ => rfl) rfl rfl rfl rfl (y2 := 178) (as := [.ref (w.2.2 8), P_z i]) (r0 := []) (fun _ _ => rfl) (Nat.le_of_ble_eq_true rfl) (by decide) rfl (Nat.le_of_ble_eq_true rfl) (show P_aw _ _ _ 0 [.ref (w.2.2 8), P_z i] [] _ _ from ?_)
      refine P_aw_op (L' := [.ref (w.2.2 8), P_z i]) (st' := [P_z i]) P_i178_0 rfl (show P_aw _ _ _ 1 [.ref (w.2.2 8), P_z i] [P_z i] _ _ from ?_)
      refine P_aw_izf P_i178_1 ⟨by omega, by omega⟩ (P_ci_ltf (by omega)) (show P_aw _ _ _ 4 [.ref (w.2.2 8), P_z i] [] _ _ from ?_)
      refine P_aw_op (L' := [.ref (w.2.2 8), P_z i]) (st' := [P_z i]) P_i178_4 rfl (show P_aw _ _ _ 5 [.ref (w.2.2 8), P_z i] [P_z i] _ _ from ?_)
      refine P_aw_op (L' := [.ref (w.2.2 8), P_z i]) (st' := [.ref (w.2.2 8), P_z i]) P_i178_5 rfl (show P_aw _ _ _ 6 [.ref (w.2.2 8), P_z i] [.ref (w.2.2 8), P_z i] _ _ from ?_)
      refine P_aw_alen P_i178_6 (hw.2.1 8 (by decide)) (hw.s rfl) (show P_aw _ _ _ 7 [.ref (w.2.2 8), P_z i] [P_z 4, P_z i] _ _ from ?_)
      refine P_aw_icf P_i178_7 ⟨by omega, by omega⟩ ⟨by decide, by decide⟩ (P_ci_gef (by omega)) (show P_aw _ _ _ 10 [.ref (w.2.2 8), P_z i] [] _ _ from ?_)
      refine P_aw_op (L' := [.ref (w.2.2 8), P_z i]) (st' := [.ref (w.2.2 8)]) P_i178_10 rfl (show P_aw _ _ _ 11 [.ref (w.2.2 8), P_z i] [.ref (w.2.2 8)] _ _ from ?_)
      refine P_aw_op (L' := [.ref (w.2.2 8), P_z i]) (st' := [P_z i, .ref (w.2.2 8)]) P_i178_11 rfl (show P_aw _ _ _ 12 [.ref (w.2.2 8), P_z i] [P_z i, .ref (w.2.2 8)] _ _ from ?_)
      have hg4 := (hF.2.2.1 i (by omega) (by omega)).2.2.2.2 (by omega)
      refine P_aw_aldv P_i178_12 (hw.2.1 8 (by decide)) (hw.s rfl) (by omega) (by omega) (by decide) ((hF.2.2.1 i (by omega) (by omega)).2.1) (show P_aw _ _ _ 13 [.ref (w.2.2 8), P_z i] [P_z (ci i)] _ _ from ?_)
      refine P_aw_goto P_i178_13 (show P_aw _ _ _ 17 [.ref (w.2.2 8), P_z i] [P_z (ci i)] _ _ from ?_)
      refine P_aw_end P_i178_17 rfl rfl (fun _ => rfl) rfl ?_
      show P_aw _ _ _ 8 [.ref (w.2.2 6), P_z i] [P_z (ci i)] _ _
      refine P_aw_end P_i35_8 rfl rfl (fun _ => rfl) rfl ?_
      show P_aw _ _ _ 96 [.ref (w.2.2 33), P_z g, P_z m, P_z i, P_z ((g * 4) + i)] [P_z (ci i), P_z m, .ref (w.2.2 33), P_z (σ 36 ((g * 4) + i).toNat), P_z ((g * 4) + i), .ref (w.2.2 36)] _ _
      have hk5 := (hF.2.2.1 i (by omega) (by omega)).2.2.2.2 (by omega)
      have hp5 := A_ce_rg hX hm hk5
      refine P_aw_call P_i46_96 rfl rfl (fun _ => rfl) rfl rfl rfl rfl (y2 := 51) (as := [.ref (w.2.2 33), P_z m, P_z (ci i)]) (r0 := [P_z (σ 36 ((g * 4) + i).toNat), P_z ((g * 4) + i), .ref (w.2.2 36)]) (P_inv_v (hw.2.1 33 (by decide)) (hw.s rfl) rfl rfl) (Nat.le_of_ble_eq_true rfl) (by decide) rfl (Nat.le_of_ble_eq_true rfl) (s_cel hw hA hX hm hk5 ?_)
      show P_aw _ _ _ 99 [.ref (w.2.2 33), P_z g, P_z m, P_z i, P_z ((g * 4) + i)] [P_z (A_ce V rw m (ci i)), P_z (σ 36 ((g * 4) + i).toNat), P_z ((g * 4) + i), .ref (w.2.2 36)] _ _
      refine P_aw_op (L' := [.ref (w.2.2 33), P_z g, P_z m, P_z i, P_z ((g * 4) + i)]) (st' := [P_z ((σ 36 ((g * 4) + i).toNat) + (A_ce V rw m (ci i))), P_z ((g * 4) + i), .ref (w.2.2 36)]) P_i46_99 P_o_iadd (show P_aw _ _ _ 100 [.ref (w.2.2 33), P_z g, P_z m, P_z i, P_z ((g * 4) + i)] [P_z ((σ 36 ((g * 4) + i).toNat) + (A_ce V rw m (ci i))), P_z ((g * 4) + i), .ref (w.2.2 36)] _ _ from ?_)
      refine P_aw_call P_i46_100 rfl rfl (fun _ => rfl) rfl rfl rfl rfl (y2 := 179) (as := [.ref (w.2.2 36), P_z ((g * 4) + i), P_z ((σ 36 ((g * 4) + i).toNat) + (A_ce V rw m (ci i)))]) (r0 := []) (fun _ _ => rfl) (Nat.le_of_ble_eq_true rfl) (by decide) rfl (Nat.le_of_ble_eq_true rfl) (show P_aw _ _ _ 0 [.ref (w.2.2 36), P_z ((g * 4) + i), P_z ((σ 36 ((g * 4) + i).toNat) + (A_ce V rw m (ci i)))] [] _ _ from ?_)
      refine P_aw_op (L' := [.ref (w.2.2 36), P_z ((g * 4) + i), P_z ((σ 36 ((g * 4) + i).toNat) + (A_ce V rw m (ci i)))]) (st' := [P_z ((g * 4) + i)]) P_i179_0 rfl (show P_aw _ _ _ 1 [.ref (w.2.2 36), P_z ((g * 4) + i), P_z ((σ 36 ((g * 4) + i).toNat) + (A_ce V rw m (ci i)))] [P_z ((g * 4) + i)] _ _ from ?_)
      refine P_aw_izf P_i179_1 ⟨by omega, by omega⟩ (P_ci_ltf (by omega)) (show P_aw _ _ _ 4 [.ref (w.2.2 36), P_z ((g * 4) + i), P_z ((σ 36 ((g * 4) + i).toNat) + (A_ce V rw m (ci i)))] [] _ _ from ?_)
      refine P_aw_op (L' := [.ref (w.2.2 36), P_z ((g * 4) + i), P_z ((σ 36 ((g * 4) + i).toNat) + (A_ce V rw m (ci i)))]) (st' := [P_z ((g * 4) + i)]) P_i179_4 rfl (show P_aw _ _ _ 5 [.ref (w.2.2 36), P_z ((g * 4) + i), P_z ((σ 36 ((g * 4) + i).toNat) + (A_ce V rw m (ci i)))] [P_z ((g * 4) + i)] _ _ from ?_)
      refine P_aw_op (L' := [.ref (w.2.2 36), P_z ((g * 4) + i), P_z ((σ 36 ((g * 4) + i).toNat) + (A_ce V rw m (ci i)))]) (st' := [.ref (w.2.2 36), P_z ((g * 4) + i)]) P_i179_5 rfl (show P_aw _ _ _ 6 [.ref (w.2.2 36), P_z ((g * 4) + i), P_z ((σ 36 ((g * 4) + i).toNat) + (A_ce V rw m (ci i)))] [.ref (w.2.2 36), P_z ((g * 4) + i)] _ _ from ?_)
      refine P_aw_alen P_i179_6 (hw.2.1 36 (by decide)) (hw.s rfl) (show P_aw _ _ _ 7 [.ref (w.2.2 36), P_z ((g * 4) + i), P_z ((σ 36 ((g * 4) + i).toNat) + (A_ce V rw m (ci i)))] [P_z 56, P_z ((g * 4) + i)] _ _ from ?_)
      refine P_aw_icf P_i179_7 ⟨by omega, by omega⟩ ⟨by decide, by decide⟩ (P_ci_gef (by omega)) (show P_aw _ _ _ 10 [.ref (w.2.2 36), P_z ((g * 4) + i), P_z ((σ 36 ((g * 4) + i).toNat) + (A_ce V rw m (ci i)))] [] _ _ from ?_)
      refine P_aw_op (L' := [.ref (w.2.2 36), P_z ((g * 4) + i), P_z ((σ 36 ((g * 4) + i).toNat) + (A_ce V rw m (ci i)))]) (st' := [.ref (w.2.2 36)]) P_i179_10 rfl (show P_aw _ _ _ 11 [.ref (w.2.2 36), P_z ((g * 4) + i), P_z ((σ 36 ((g * 4) + i).toNat) + (A_ce V rw m (ci i)))] [.ref (w.2.2 36)] _ _ from ?_)
      refine P_aw_op (L' := [.ref (w.2.2 36), P_z ((g * 4) + i), P_z ((σ 36 ((g * 4) + i).toNat) + (A_ce V rw m (ci i)))]) (st' := [P_z ((g * 4) + i), .ref (w.2.2 36)]) P_i179_11 rfl (show P_aw _ _ _ 12 [.ref (w.2.2 36), P_z ((g * 4) + i), P_z ((σ 36 ((g * 4) + i).toNat) + (A_ce V rw m (ci i)))] [P_z ((g * 4) + i), .ref (w.2.2 36)] _ _ from ?_)
      refine P_aw_op (L' := [.ref (w.2.2 36), P_z ((g * 4) + i), P_z ((σ 36 ((g * 4) + i).toNat) + (A_ce V rw m (ci i)))]) (st' := [P_z ((σ 36 ((g * 4) + i).toNat) + (A_ce V rw m (ci i))), P_z ((g * 4) + i), .ref (w.2.2 36)]) P_i179_12 rfl (show P_aw _ _ _ 13 [.ref (w.2.2 36), P_z ((g * 4) + i), P_z ((σ 36 ((g * 4) + i).toNat) + (A_ce V rw m (ci i)))] [P_z ((σ 36 ((g * 4) + i).toNat) + (A_ce V rw m (ci i))), P_z ((g * 4) + i), .ref (w.2.2 36)] _ _ from ?_)
      refine P_aw_ast P_i179_13 (hw.2.1 36 (by decide)) (hw.s rfl) (by omega) (by omega) (by decide) (show P_aw _ _ _ 14 [.ref (w.2.2 36), P_z ((g * 4) + i), P_z ((σ 36 ((g * 4) + i).toNat) + (A_ce V rw m (ci i)))] [] _ _ from ?_)
      refine P_aw_end P_i179_14 rfl rfl (fun _ => rfl) rfl ?_
      show P_aw _ _ _ 103 [.ref (w.2.2 33), P_z g, P_z m, P_z i, P_z ((g * 4) + i)] [] _ _
      refine P_aw_op (L' := [.ref (w.2.2 33), P_z g, P_z m, P_z (i + 1), P_z ((g * 4) + i)]) (st' := []) P_i46_103 (P_o_iinc rfl) (show P_aw _ _ _ 106 [.ref (w.2.2 33), P_z g, P_z m, P_z (i + 1), P_z ((g * 4) + i)] [] _ _ from ?_)
      refine P_aw_goto P_i46_106 (show P_aw _ _ _ 40 [.ref (w.2.2 33), P_z g, P_z m, P_z (i + 1), P_un] [] _ _ from ?_)
      exact ih _ (i + 1) (A_V_cg (fun a b h => P_u2_ne (by omega)) hA) (A_X_cg (fun s a b => (hA.2.2 s a b).2.1.1) (fun a b h => P_u2_ne (by omega)) hX) (A_F_cg (fun a b h h2 => P_u2_ne (by omega)) hF) (by omega) (by omega) (fun j hj hj2 => by rw [P_u2_ne (by omega)]; exact hB1 j (by omega) hj2) (A_su2 hB2 (by have := hB1 ((g * 4) + i).toNat (by omega) (by omega); omega)) (fun σ' h1 h2 => q σ' (fun a b h => (h1 a b h).trans (P_u2_ne (by omega))) h2)
    · refine P_aw_ict P_i46_61 ⟨by omega, by omega⟩ ⟨by decide, by decide⟩ (P_ci_net (by omega)) (show P_aw _ _ _ 103 [.ref (w.2.2 33), P_z g, P_z m, P_z i, P_un] [] _ _ from ?_)
      refine P_aw_op (L' := [.ref (w.2.2 33), P_z g, P_z m, P_z (i + 1), P_un]) (st' := []) P_i46_103 (P_o_iinc rfl) (show P_aw _ _ _ 106 [.ref (w.2.2 33), P_z g, P_z m, P_z (i + 1), P_un] [] _ _ from ?_)
      refine P_aw_goto P_i46_106 (show P_aw _ _ _ 40 [.ref (w.2.2 33), P_z g, P_z m, P_z (i + 1), P_un] [] _ _ from ?_)
      exact ih σ (i + 1) hA hX hF (by omega) (by omega) (fun j hj hj2 => hB1 j (by omega) hj2) hB2 q

theorem s_ga {w : P_Lw} (hw : P_Cw w) {d : Nat} {Q : P_R → P_A → Prop} {σ : P_A} {ns : Int} {tb : Int → Nat} {rw : Int → Int} {vr : Int → Int → Int} {cl : Int → Int} {V : Int → Int → Int → Int} (hA : A_V w σ ns tb rw vr) (hX : A_X σ ns tb rw cl V) {it : Int} {ki ci : Int → Int} {gp oi lm : Int} (hF : A_F σ ns cl it ki ci gp oi lm) {g m B : Int} (hm : 0 ≤ m ∧ m ≤ 2743) (hg : 0 ≤ g ∧ g ≤ 13) (hB0 : 0 ≤ B) (hcn : ∀ j, j < 14 → 0 ≤ σ 34 j ∧ σ 34 j ≤ 1000000000) (hfi : ∀ j, j < 14 → 0 ≤ σ 35 j ∧ σ 35 j ≤ 2743) (hsu : ∀ j, j < 56 → -B ≤ σ 36 j ∧ σ 36 j ≤ B) (q : ∀ σ', (∀ a b, ¬ (34 ≤ a ∧ a ≤ 36) → σ' a b = σ a b) → (∀ j, σ' 34 j = if j = g.toNat then σ 34 j + 1 else σ 34 j) → (∀ j, j < 14 → 0 ≤ σ' 35 j ∧ σ' 35 j ≤ 2743) → (∀ j, j < 56 → -(B + 999) ≤ σ' 36 j ∧ σ' 36 j ≤ B + 999) → Q (.inl none) σ') : P_aw w (d + 5) 46 0 [.ref (w.2.2 33), P_z g, P_z m, P_un, P_un] [] σ Q := by
  have hit := hF.2.1
  have hns := hA.2.1
  refine P_aw_op (L' := [.ref (w.2.2 33), P_z g, P_z m, P_un, P_un]) (st' := [.ref (w.2.2 33)]) P_i46_0 rfl (show P_aw _ _ _ 1 [.ref (w.2.2 33), P_z g, P_z m, P_un, P_un] [.ref (w.2.2 33)] _ _ from ?_)
  refine P_aw_getR P_i46_1 (hw.2.1 33 (by decide)) (hw.s rfl) rfl rfl (show P_aw _ _ _ 4 [.ref (w.2.2 33), P_z g, P_z m, P_un, P_un] [.ref (w.2.2 34)] _ _ from ?_)
  refine P_aw_op (L' := [.ref (w.2.2 33), P_z g, P_z m, P_un, P_un]) (st' := [P_z g, .ref (w.2.2 34)]) P_i46_4 rfl (show P_aw _ _ _ 5 [.ref (w.2.2 33), P_z g, P_z m, P_un, P_un] [P_z g, .ref (w.2.2 34)] _ _ from ?_)
  refine P_aw_call P_i46_5 rfl rfl (fun _ => rfl) rfl rfl rfl rfl (y2 := 178) (as := [.ref (w.2.2 34), P_z g]) (r0 := []) (fun _ _ => rfl) (Nat.le_of_ble_eq_true rfl) (by decide) rfl (Nat.le_of_ble_eq_true rfl) (show P_aw _ _ _ 0 [.ref (w.2.2 34), P_z g] [] _ _ from ?_)
  refine P_aw_op (L' := [.ref (w.2.2 34), P_z g]) (st' := [P_z g]) P_i178_0 rfl (show P_aw _ _ _ 1 [.ref (w.2.2 34), P_z g] [P_z g] _ _ from ?_)
  refine P_aw_izf P_i178_1 ⟨by omega, by omega⟩ (P_ci_ltf (by omega)) (show P_aw _ _ _ 4 [.ref (w.2.2 34), P_z g] [] _ _ from ?_)
  refine P_aw_op (L' := [.ref (w.2.2 34), P_z g]) (st' := [P_z g]) P_i178_4 rfl (show P_aw _ _ _ 5 [.ref (w.2.2 34), P_z g] [P_z g] _ _ from ?_)
  refine P_aw_op (L' := [.ref (w.2.2 34), P_z g]) (st' := [.ref (w.2.2 34), P_z g]) P_i178_5 rfl (show P_aw _ _ _ 6 [.ref (w.2.2 34), P_z g] [.ref (w.2.2 34), P_z g] _ _ from ?_)
  refine P_aw_alen P_i178_6 (hw.2.1 34 (by decide)) (hw.s rfl) (show P_aw _ _ _ 7 [.ref (w.2.2 34), P_z g] [P_z 14, P_z g] _ _ from ?_)
  refine P_aw_icf P_i178_7 ⟨by omega, by omega⟩ ⟨by decide, by decide⟩ (P_ci_gef (by omega)) (show P_aw _ _ _ 10 [.ref (w.2.2 34), P_z g] [] _ _ from ?_)
  refine P_aw_op (L' := [.ref (w.2.2 34), P_z g]) (st' := [.ref (w.2.2 34)]) P_i178_10 rfl (show P_aw _ _ _ 11 [.ref (w.2.2 34), P_z g] [.ref (w.2.2 34)] _ _ from ?_)
  refine P_aw_op (L' := [.ref (w.2.2 34), P_z g]) (st' := [P_z g, .ref (w.2.2 34)]) P_i178_11 rfl (show P_aw _ _ _ 12 [.ref (w.2.2 34), P_z g] [P_z g, .ref (w.2.2 34)] _ _ from ?_)
  have hg1 := hcn g.toNat (by omega)
  refine P_aw_ald P_i178_12 (hw.2.1 34 (by decide)) (hw.s rfl) (by omega) (by omega) (by decide) (show P_aw _ _ _ 13 [.ref (w.2.2 34), P_z g] [P_z (σ 34 g.toNat)] _ _ from ?_)
  refine P_aw_goto P_i178_13 (show P_aw _ _ _ 17 [.ref (w.2.2 34), P_z g] [P_z (σ 34 g.toNat)] _ _ from ?_)
  refine P_aw_end P_i178_17 rfl rfl (fun _ => rfl) rfl ?_
  show P_aw _ _ _ 8 [.ref (w.2.2 33), P_z g, P_z m, P_un, P_un] [P_z (σ 34 g.toNat)] _ _
  by_cases hc2 : (σ 34 g.toNat) = 0
  · refine P_aw_izf P_i46_8 ⟨by omega, by omega⟩ (P_ci_nef (by omega)) (show P_aw _ _ _ 11 [.ref (w.2.2 33), P_z g, P_z m, P_un, P_un] [] _ _ from ?_)
    refine P_aw_op (L' := [.ref (w.2.2 33), P_z g, P_z m, P_un, P_un]) (st' := [.ref (w.2.2 33)]) P_i46_11 rfl (show P_aw _ _ _ 12 [.ref (w.2.2 33), P_z g, P_z m, P_un, P_un] [.ref (w.2.2 33)] _ _ from ?_)
    refine P_aw_getR P_i46_12 (hw.2.1 33 (by decide)) (hw.s rfl) rfl rfl (show P_aw _ _ _ 15 [.ref (w.2.2 33), P_z g, P_z m, P_un, P_un] [.ref (w.2.2 35)] _ _ from ?_)
    refine P_aw_op (L' := [.ref (w.2.2 33), P_z g, P_z m, P_un, P_un]) (st' := [P_z g, .ref (w.2.2 35)]) P_i46_15 rfl (show P_aw _ _ _ 16 [.ref (w.2.2 33), P_z g, P_z m, P_un, P_un] [P_z g, .ref (w.2.2 35)] _ _ from ?_)
    refine P_aw_op (L' := [.ref (w.2.2 33), P_z g, P_z m, P_un, P_un]) (st' := [P_z m, P_z g, .ref (w.2.2 35)]) P_i46_16 rfl (show P_aw _ _ _ 17 [.ref (w.2.2 33), P_z g, P_z m, P_un, P_un] [P_z m, P_z g, .ref (w.2.2 35)] _ _ from ?_)
    refine P_aw_call P_i46_17 rfl rfl (fun _ => rfl) rfl rfl rfl rfl (y2 := 179) (as := [.ref (w.2.2 35), P_z g, P_z m]) (r0 := []) (fun _ _ => rfl) (Nat.le_of_ble_eq_true rfl) (by decide) rfl (Nat.le_of_ble_eq_true rfl) (show P_aw _ _ _ 0 [.ref (w.2.2 35), P_z g, P_z m] [] _ _ from ?_)
    refine P_aw_op (L' := [.ref (w.2.2 35), P_z g, P_z m]) (st' := [P_z g]) P_i179_0 rfl (show P_aw _ _ _ 1 [.ref (w.2.2 35), P_z g, P_z m] [P_z g] _ _ from ?_)
    refine P_aw_izf P_i179_1 ⟨by omega, by omega⟩ (P_ci_ltf (by omega)) (show P_aw _ _ _ 4 [.ref (w.2.2 35), P_z g, P_z m] [] _ _ from ?_)
    refine P_aw_op (L' := [.ref (w.2.2 35), P_z g, P_z m]) (st' := [P_z g]) P_i179_4 rfl (show P_aw _ _ _ 5 [.ref (w.2.2 35), P_z g, P_z m] [P_z g] _ _ from ?_)
    refine P_aw_op (L' := [.ref (w.2.2 35), P_z g, P_z m]) (st' := [.ref (w.2.2 35), P_z g]) P_i179_5 rfl (show P_aw _ _ _ 6 [.ref (w.2.2 35), P_z g, P_z m] [.ref (w.2.2 35), P_z g] _ _ from ?_)
    refine P_aw_alen P_i179_6 (hw.2.1 35 (by decide)) (hw.s rfl) (show P_aw _ _ _ 7 [.ref (w.2.2 35), P_z g, P_z m] [P_z 14, P_z g] _ _ from ?_)
    refine P_aw_icf P_i179_7 ⟨by omega, by omega⟩ ⟨by decide, by decide⟩ (P_ci_gef (by omega)) (show P_aw _ _ _ 10 [.ref (w.2.2 35), P_z g, P_z m] [] _ _ from ?_)
    refine P_aw_op (L' := [.ref (w.2.2 35), P_z g, P_z m]) (st' := [.ref (w.2.2 35)]) P_i179_10 rfl (show P_aw _ _ _ 11 [.ref (w.2.2 35), P_z g, P_z m] [.ref (w.2.2 35)] _ _ from ?_)
    refine P_aw_op (L' := [.ref (w.2.2 35), P_z g, P_z m]) (st' := [P_z g, .ref (w.2.2 35)]) P_i179_11 rfl (show P_aw _ _ _ 12 [.ref (w.2.2 35), P_z g, P_z m] [P_z g, .ref (w.2.2 35)] _ _ from ?_)
    refine P_aw_op (L' := [.ref (w.2.2 35), P_z g, P_z m]) (st' := [P_z m, P_z g, .ref (w.2.2 35)]) P_i179_12 rfl (show P_aw _ _ _ 13 [.ref (w.2.2 35), P_z g, P_z m] [P_z m, P_z g, .ref (w.2.2 35)] _ _ from ?_)
    refine P_aw_ast P_i179_13 (hw.2.1 35 (by decide)) (hw.s rfl) (by omega) (by omega) (by decide) (show P_aw _ _ _ 14 [.ref (w.2.2 35), P_z g, P_z m] [] _ _ from ?_)
    refine P_aw_end P_i179_14 rfl rfl (fun _ => rfl) rfl ?_
    show P_aw _ _ _ 20 [.ref (w.2.2 33), P_z g, P_z m, P_un, P_un] [] _ _
    refine P_aw_op (L' := [.ref (w.2.2 33), P_z g, P_z m, P_un, P_un]) (st' := [.ref (w.2.2 33)]) P_i46_20 rfl (show P_aw _ _ _ 21 [.ref (w.2.2 33), P_z g, P_z m, P_un, P_un] [.ref (w.2.2 33)] _ _ from ?_)
    refine P_aw_getR P_i46_21 (hw.2.1 33 (by decide)) (hw.s rfl) rfl rfl (show P_aw _ _ _ 24 [.ref (w.2.2 33), P_z g, P_z m, P_un, P_un] [.ref (w.2.2 34)] _ _ from ?_)
    refine P_aw_op (L' := [.ref (w.2.2 33), P_z g, P_z m, P_un, P_un]) (st' := [P_z g, .ref (w.2.2 34)]) P_i46_24 rfl (show P_aw _ _ _ 25 [.ref (w.2.2 33), P_z g, P_z m, P_un, P_un] [P_z g, .ref (w.2.2 34)] _ _ from ?_)
    refine P_aw_op (L' := [.ref (w.2.2 33), P_z g, P_z m, P_un, P_un]) (st' := [.ref (w.2.2 33), P_z g, .ref (w.2.2 34)]) P_i46_25 rfl (show P_aw _ _ _ 26 [.ref (w.2.2 33), P_z g, P_z m, P_un, P_un] [.ref (w.2.2 33), P_z g, .ref (w.2.2 34)] _ _ from ?_)
    refine P_aw_getR P_i46_26 (hw.2.1 33 (by decide)) (hw.s rfl) rfl rfl (show P_aw _ _ _ 29 [.ref (w.2.2 33), P_z g, P_z m, P_un, P_un] [.ref (w.2.2 34), P_z g, .ref (w.2.2 34)] _ _ from ?_)
    refine P_aw_op (L' := [.ref (w.2.2 33), P_z g, P_z m, P_un, P_un]) (st' := [P_z g, .ref (w.2.2 34), P_z g, .ref (w.2.2 34)]) P_i46_29 rfl (show P_aw _ _ _ 30 [.ref (w.2.2 33), P_z g, P_z m, P_un, P_un] [P_z g, .ref (w.2.2 34), P_z g, .ref (w.2.2 34)] _ _ from ?_)
    refine P_aw_call P_i46_30 rfl rfl (fun _ => rfl) rfl rfl rfl rfl (y2 := 178) (as := [.ref (w.2.2 34), P_z g]) (r0 := [P_z g, .ref (w.2.2 34)]) (fun _ _ => rfl) (Nat.le_of_ble_eq_true rfl) (by decide) rfl (Nat.le_of_ble_eq_true rfl) (show P_aw _ _ _ 0 [.ref (w.2.2 34), P_z g] [] _ _ from ?_)
    refine P_aw_op (L' := [.ref (w.2.2 34), P_z g]) (st' := [P_z g]) P_i178_0 rfl (show P_aw _ _ _ 1 [.ref (w.2.2 34), P_z g] [P_z g] _ _ from ?_)
    refine P_aw_izf P_i178_1 ⟨by omega, by omega⟩ (P_ci_ltf (by omega)) (show P_aw _ _ _ 4 [.ref (w.2.2 34), P_z g] [] _ _ from ?_)
    refine P_aw_op (L' := [.ref (w.2.2 34), P_z g]) (st' := [P_z g]) P_i178_4 rfl (show P_aw _ _ _ 5 [.ref (w.2.2 34), P_z g] [P_z g] _ _ from ?_)
    refine P_aw_op (L' := [.ref (w.2.2 34), P_z g]) (st' := [.ref (w.2.2 34), P_z g]) P_i178_5 rfl (show P_aw _ _ _ 6 [.ref (w.2.2 34), P_z g] [.ref (w.2.2 34), P_z g] _ _ from ?_)
    refine P_aw_alen P_i178_6 (hw.2.1 34 (by decide)) (hw.s rfl) (show P_aw _ _ _ 7 [.ref (w.2.2 34), P_z g] [P_z 14, P_z g] _ _ from ?_)
    refine P_aw_icf P_i178_7 ⟨by omega, by omega⟩ ⟨by decide, by decide⟩ (P_ci_gef (by omega)) (show P_aw _ _ _ 10 [.ref (w.2.2 34), P_z g] [] _ _ from ?_)
    refine P_aw_op (L' := [.ref (w.2.2 34), P_z g]) (st' := [.ref (w.2.2 34)]) P_i178_10 rfl (show P_aw _ _ _ 11 [.ref (w.2.2 34), P_z g] [.ref (w.2.2 34)] _ _ from ?_)
    refine P_aw_op (L' := [.ref (w.2.2 34), P_z g]) (st' := [P_z g, .ref (w.2.2 34)]) P_i178_11 rfl (show P_aw _ _ _ 12 [.ref (w.2.2 34), P_z g] [P_z g, .ref (w.2.2 34)] _ _ from ?_)
    have hg3 := hcn g.toNat (by omega)
    refine P_aw_aldv P_i178_12 (hw.2.1 34 (by decide)) (hw.s rfl) (by omega) (by omega) (by decide) ((P_u2_ne (by omega))) (show P_aw _ _ _ 13 [.ref (w.2.2 34), P_z g] [P_z (σ 34 g.toNat)] _ _ from ?_)
    refine P_aw_goto P_i178_13 (show P_aw _ _ _ 17 [.ref (w.2.2 34), P_z g] [P_z (σ 34 g.toNat)] _ _ from ?_)
    refine P_aw_end P_i178_17 rfl rfl (fun _ => rfl) rfl ?_
    show P_aw _ _ _ 33 [.ref (w.2.2 33), P_z g, P_z m, P_un, P_un] [P_z (σ 34 g.toNat), P_z g, .ref (w.2.2 34)] _ _
    refine P_aw_op (L' := [.ref (w.2.2 33), P_z g, P_z m, P_un, P_un]) (st' := [P_z 1, P_z (σ 34 g.toNat), P_z g, .ref (w.2.2 34)]) P_i46_33 rfl (show P_aw _ _ _ 34 [.ref (w.2.2 33), P_z g, P_z m, P_un, P_un] [P_z 1, P_z (σ 34 g.toNat), P_z g, .ref (w.2.2 34)] _ _ from ?_)
    refine P_aw_op (L' := [.ref (w.2.2 33), P_z g, P_z m, P_un, P_un]) (st' := [P_z ((σ 34 g.toNat) + 1), P_z g, .ref (w.2.2 34)]) P_i46_34 P_o_iadd (show P_aw _ _ _ 35 [.ref (w.2.2 33), P_z g, P_z m, P_un, P_un] [P_z ((σ 34 g.toNat) + 1), P_z g, .ref (w.2.2 34)] _ _ from ?_)
    refine P_aw_call P_i46_35 rfl rfl (fun _ => rfl) rfl rfl rfl rfl (y2 := 179) (as := [.ref (w.2.2 34), P_z g, P_z ((σ 34 g.toNat) + 1)]) (r0 := []) (fun _ _ => rfl) (Nat.le_of_ble_eq_true rfl) (by decide) rfl (Nat.le_of_ble_eq_true rfl) (show P_aw _ _ _ 0 [.ref (w.2.2 34), P_z g, P_z ((σ 34 g.toNat) + 1)] [] _ _ from ?_)
    refine P_aw_op (L' := [.ref (w.2.2 34), P_z g, P_z ((σ 34 g.toNat) + 1)]) (st' := [P_z g]) P_i179_0 rfl (show P_aw _ _ _ 1 [.ref (w.2.2 34), P_z g, P_z ((σ 34 g.toNat) + 1)] [P_z g] _ _ from ?_)
    refine P_aw_izf P_i179_1 ⟨by omega, by omega⟩ (P_ci_ltf (by omega)) (show P_aw _ _ _ 4 [.ref (w.2.2 34), P_z g, P_z ((σ 34 g.toNat) + 1)] [] _ _ from ?_)
    refine P_aw_op (L' := [.ref (w.2.2 34), P_z g, P_z ((σ 34 g.toNat) + 1)]) (st' := [P_z g]) P_i179_4 rfl (show P_aw _ _ _ 5 [.ref (w.2.2 34), P_z g, P_z ((σ 34 g.toNat) + 1)] [P_z g] _ _ from ?_)
    refine P_aw_op (L' := [.ref (w.2.2 34), P_z g, P_z ((σ 34 g.toNat) + 1)]) (st' := [.ref (w.2.2 34), P_z g]) P_i179_5 rfl (show P_aw _ _ _ 6 [.ref (w.2.2 34), P_z g, P_z ((σ 34 g.toNat) + 1)] [.ref (w.2.2 34), P_z g] _ _ from ?_)
    refine P_aw_alen P_i179_6 (hw.2.1 34 (by decide)) (hw.s rfl) (show P_aw _ _ _ 7 [.ref (w.2.2 34), P_z g, P_z ((σ 34 g.toNat) + 1)] [P_z 14, P_z g] _ _ from ?_)
    refine P_aw_icf P_i179_7 ⟨by omega, by omega⟩ ⟨by decide, by decide⟩ (P_ci_gef (by omega)) (show P_aw _ _ _ 10 [.ref (w.2.2 34), P_z g, P_z ((σ 34 g.toNat) + 1)] [] _ _ from ?_)
    refine P_aw_op (L' := [.ref (w.2.2 34), P_z g, P_z ((σ 34 g.toNat) + 1)]) (st' := [.ref (w.2.2 34)]) P_i179_10 rfl (show P_aw _ _ _ 11 [.ref (w.2.2 34), P_z g, P_z ((σ 34 g.toNat) + 1)] [.ref (w.2.2 34)] _ _ from ?_)
    refine P_aw_op (L' := [.ref (w.2.2 34), P_z g, P_z ((σ 34 g.toNat) + 1)]) (st' := [P_z g, .ref (w.2.2 34)]) P_i179_11 rfl (show P_aw _ _ _ 12 [.ref (w.2.2 34), P_z g, P_z ((σ 34 g.toNat) + 1)] [P_z g, .ref (w.2.2 34)] _ _ from ?_)
    refine P_aw_op (L' := [.ref (w.2.2 34), P_z g, P_z ((σ 34 g.toNat) + 1)]) (st' := [P_z ((σ 34 g.toNat) + 1), P_z g, .ref (w.2.2 34)]) P_i179_12 rfl (show P_aw _ _ _ 13 [.ref (w.2.2 34), P_z g, P_z ((σ 34 g.toNat) + 1)] [P_z ((σ 34 g.toNat) + 1), P_z g, .ref (w.2.2 34)] _ _ from ?_)
    refine P_aw_ast P_i179_13 (hw.2.1 34 (by decide)) (hw.s rfl) (by omega) (by omega) (by decide) (show P_aw _ _ _ 14 [.ref (w.2.2 34), P_z g, P_z ((σ 34 g.toNat) + 1)] [] _ _ from ?_)
    refine P_aw_end P_i179_14 rfl rfl (fun _ => rfl) rfl ?_
    show P_aw _ _ _ 38 [.ref (w.2.2 33), P_z g, P_z m, P_un, P_un] [] _ _
    refine P_aw_op (L' := [.ref (w.2.2 33), P_z g, P_z m, P_un, P_un]) (st' := [P_z 0]) P_i46_38 rfl (show P_aw _ _ _ 39 [.ref (w.2.2 33), P_z g, P_z m, P_un, P_un] [P_z 0] _ _ from ?_)
    refine P_aw_op (L' := [.ref (w.2.2 33), P_z g, P_z m, P_z 0, P_un]) (st' := []) P_i46_39 rfl (show P_aw _ _ _ 40 [.ref (w.2.2 33), P_z g, P_z m, P_z 0, P_un] [] _ _ from ?_)
    refine s_gal hw hm hg hB0 it.toNat _ 0 (A_V_cg (fun a b h => (P_u2_ne (by omega)).trans (P_u2_ne (by omega))) hA) (A_X_cg (fun s a b => (hA.2.2 s a b).2.1.1) (fun a b h => (P_u2_ne (by omega)).trans (P_u2_ne (by omega))) hX) (A_F_cg (fun a b h h2 => (P_u2_ne (by omega)).trans (P_u2_ne (by omega))) hF) (by omega) (by omega) (fun j _ hj => by rw [show ∀ j, (P_u2 (P_u2 σ 35 g.toNat m) 34 g.toNat ((σ 34 g.toNat) + 1)) 36 j = σ 36 j from fun j => (P_u2_ne (by omega)).trans (P_u2_ne (by omega))]; exact hsu j hj) (fun j hj => by rw [show ∀ j, (P_u2 (P_u2 σ 35 g.toNat m) 34 g.toNat ((σ 34 g.toNat) + 1)) 36 j = σ 36 j from fun j => (P_u2_ne (by omega)).trans (P_u2_ne (by omega))]; have := hsu j hj; omega) (fun σ2 k1 k2 => ?_)
    refine q σ2 (fun a b h => (k1 a b (by omega)).trans ((P_u2_ne (by omega)).trans (P_u2_ne (by omega)))) (fun j => (k1 34 j (by omega)).trans ?_) (fun j hj => ?_) k2
    · unfold P_u2; (repeat' split) <;> first | rfl | omega | (subst_vars; rfl) | (exfalso; omega) | (simp_all; done)
    · rw [k1 35 j (by omega)]; unfold P_u2; (repeat' split) <;> first | omega | (exact hfi j hj)
  · refine P_aw_izt P_i46_8 ⟨by omega, by omega⟩ (P_ci_net (by omega)) (show P_aw _ _ _ 20 [.ref (w.2.2 33), P_z g, P_z m, P_un, P_un] [] _ _ from ?_)
    refine P_aw_op (L' := [.ref (w.2.2 33), P_z g, P_z m, P_un, P_un]) (st' := [.ref (w.2.2 33)]) P_i46_20 rfl (show P_aw _ _ _ 21 [.ref (w.2.2 33), P_z g, P_z m, P_un, P_un] [.ref (w.2.2 33)] _ _ from ?_)
    refine P_aw_getR P_i46_21 (hw.2.1 33 (by decide)) (hw.s rfl) rfl rfl (show P_aw _ _ _ 24 [.ref (w.2.2 33), P_z g, P_z m, P_un, P_un] [.ref (w.2.2 34)] _ _ from ?_)
    refine P_aw_op (L' := [.ref (w.2.2 33), P_z g, P_z m, P_un, P_un]) (st' := [P_z g, .ref (w.2.2 34)]) P_i46_24 rfl (show P_aw _ _ _ 25 [.ref (w.2.2 33), P_z g, P_z m, P_un, P_un] [P_z g, .ref (w.2.2 34)] _ _ from ?_)
    refine P_aw_op (L' := [.ref (w.2.2 33), P_z g, P_z m, P_un, P_un]) (st' := [.ref (w.2.2 33), P_z g, .ref (w.2.2 34)]) P_i46_25 rfl (show P_aw _ _ _ 26 [.ref (w.2.2 33), P_z g, P_z m, P_un, P_un] [.ref (w.2.2 33), P_z g, .ref (w.2.2 34)] _ _ from ?_)
    refine P_aw_getR P_i46_26 (hw.2.1 33 (by decide)) (hw.s rfl) rfl rfl (show P_aw _ _ _ 29 [.ref (w.2.2 33), P_z g, P_z m, P_un, P_un] [.ref (w.2.2 34), P_z g, .ref (w.2.2 34)] _ _ from ?_)
    refine P_aw_op (L' := [.ref (w.2.2 33), P_z g, P_z m, P_un, P_un]) (st' := [P_z g, .ref (w.2.2 34), P_z g, .ref (w.2.2 34)]) P_i46_29 rfl (show P_aw _ _ _ 30 [.ref (w.2.2 33), P_z g, P_z m, P_un, P_un] [P_z g, .ref (w.2.2 34), P_z g, .ref (w.2.2 34)] _ _ from ?_)
    refine P_aw_call P_i46_30 rfl rfl (fun _ => rfl) rfl rfl rfl rfl (y2 := 178) (as := [.ref (w.2.2 34), P_z g]) (r0 := [P_z g, .ref (w.2.2 34)]) (fun _ _ => rfl) (Nat.le_of_ble_eq_true rfl) (by decide) rfl (Nat.le_of_ble_eq_true rfl) (show P_aw _ _ _ 0 [.ref (w.2.2 34), P_z g] [] _ _ from ?_)
    refine P_aw_op (L' := [.ref (w.2.2 34), P_z g]) (st' := [P_z g]) P_i178_0 rfl (show P_aw _ _ _ 1 [.ref (w.2.2 34), P_z g] [P_z g] _ _ from ?_)
    refine P_aw_izf P_i178_1 ⟨by omega, by omega⟩ (P_ci_ltf (by omega)) (show P_aw _ _ _ 4 [.ref (w.2.2 34), P_z g] [] _ _ from ?_)
    refine P_aw_op (L' := [.ref (w.2.2 34), P_z g]) (st' := [P_z g]) P_i178_4 rfl (show P_aw _ _ _ 5 [.ref (w.2.2 34), P_z g] [P_z g] _ _ from ?_)
    refine P_aw_op (L' := [.ref (w.2.2 34), P_z g]) (st' := [.ref (w.2.2 34), P_z g]) P_i178_5 rfl (show P_aw _ _ _ 6 [.ref (w.2.2 34), P_z g] [.ref (w.2.2 34), P_z g] _ _ from ?_)
    refine P_aw_alen P_i178_6 (hw.2.1 34 (by decide)) (hw.s rfl) (show P_aw _ _ _ 7 [.ref (w.2.2 34), P_z g] [P_z 14, P_z g] _ _ from ?_)
    refine P_aw_icf P_i178_7 ⟨by omega, by omega⟩ ⟨by decide, by decide⟩ (P_ci_gef (by omega)) (show P_aw _ _ _ 10 [.ref (w.2.2 34), P_z g] [] _ _ from ?_)
    refine P_aw_op (L' := [.ref (w.2.2 34), P_z g]) (st' := [.ref (w.2.2 34)]) P_i178_10 rfl (show P_aw _ _ _ 11 [.ref (w.2.2 34), P_z g] [.ref (w.2.2 34)] _ _ from ?_)
    refine P_aw_op (L' := [.ref (w.2.2 34), P_z g]) (st' := [P_z g, .ref (w.2.2 34)]) P_i178_11 rfl (show P_aw _ _ _ 12 [.ref (w.2.2 34), P_z g] [P_z g, .ref (w.2.2 34)] _ _ from ?_)
    have hg3 := hcn g.toNat (by omega)
    refine P_aw_ald P_i178_12 (hw.2.1 34 (by decide)) (hw.s rfl) (by omega) (by omega) (by decide) (show P_aw _ _ _ 13 [.ref (w.2.2 34), P_z g] [P_z (σ 34 g.toNat)] _ _ from ?_)
    refine P_aw_goto P_i178_13 (show P_aw _ _ _ 17 [.ref (w.2.2 34), P_z g] [P_z (σ 34 g.toNat)] _ _ from ?_)
    refine P_aw_end P_i178_17 rfl rfl (fun _ => rfl) rfl ?_
    show P_aw _ _ _ 33 [.ref (w.2.2 33), P_z g, P_z m, P_un, P_un] [P_z (σ 34 g.toNat), P_z g, .ref (w.2.2 34)] _ _
    refine P_aw_op (L' := [.ref (w.2.2 33), P_z g, P_z m, P_un, P_un]) (st' := [P_z 1, P_z (σ 34 g.toNat), P_z g, .ref (w.2.2 34)]) P_i46_33 rfl (show P_aw _ _ _ 34 [.ref (w.2.2 33), P_z g, P_z m, P_un, P_un] [P_z 1, P_z (σ 34 g.toNat), P_z g, .ref (w.2.2 34)] _ _ from ?_)
    refine P_aw_op (L' := [.ref (w.2.2 33), P_z g, P_z m, P_un, P_un]) (st' := [P_z ((σ 34 g.toNat) + 1), P_z g, .ref (w.2.2 34)]) P_i46_34 P_o_iadd (show P_aw _ _ _ 35 [.ref (w.2.2 33), P_z g, P_z m, P_un, P_un] [P_z ((σ 34 g.toNat) + 1), P_z g, .ref (w.2.2 34)] _ _ from ?_)
    refine P_aw_call P_i46_35 rfl rfl (fun _ => rfl) rfl rfl rfl rfl (y2 := 179) (as := [.ref (w.2.2 34), P_z g, P_z ((σ 34 g.toNat) + 1)]) (r0 := []) (fun _ _ => rfl) (Nat.le_of_ble_eq_true rfl) (by decide) rfl (Nat.le_of_ble_eq_true rfl) (show P_aw _ _ _ 0 [.ref (w.2.2 34), P_z g, P_z ((σ 34 g.toNat) + 1)] [] _ _ from ?_)
    refine P_aw_op (L' := [.ref (w.2.2 34), P_z g, P_z ((σ 34 g.toNat) + 1)]) (st' := [P_z g]) P_i179_0 rfl (show P_aw _ _ _ 1 [.ref (w.2.2 34), P_z g, P_z ((σ 34 g.toNat) + 1)] [P_z g] _ _ from ?_)
    refine P_aw_izf P_i179_1 ⟨by omega, by omega⟩ (P_ci_ltf (by omega)) (show P_aw _ _ _ 4 [.ref (w.2.2 34), P_z g, P_z ((σ 34 g.toNat) + 1)] [] _ _ from ?_)
    refine P_aw_op (L' := [.ref (w.2.2 34), P_z g, P_z ((σ 34 g.toNat) + 1)]) (st' := [P_z g]) P_i179_4 rfl (show P_aw _ _ _ 5 [.ref (w.2.2 34), P_z g, P_z ((σ 34 g.toNat) + 1)] [P_z g] _ _ from ?_)
    refine P_aw_op (L' := [.ref (w.2.2 34), P_z g, P_z ((σ 34 g.toNat) + 1)]) (st' := [.ref (w.2.2 34), P_z g]) P_i179_5 rfl (show P_aw _ _ _ 6 [.ref (w.2.2 34), P_z g, P_z ((σ 34 g.toNat) + 1)] [.ref (w.2.2 34), P_z g] _ _ from ?_)
    refine P_aw_alen P_i179_6 (hw.2.1 34 (by decide)) (hw.s rfl) (show P_aw _ _ _ 7 [.ref (w.2.2 34), P_z g, P_z ((σ 34 g.toNat) + 1)] [P_z 14, P_z g] _ _ from ?_)
    refine P_aw_icf P_i179_7 ⟨by omega, by omega⟩ ⟨by decide, by decide⟩ (P_ci_gef (by omega)) (show P_aw _ _ _ 10 [.ref (w.2.2 34), P_z g, P_z ((σ 34 g.toNat) + 1)] [] _ _ from ?_)
    refine P_aw_op (L' := [.ref (w.2.2 34), P_z g, P_z ((σ 34 g.toNat) + 1)]) (st' := [.ref (w.2.2 34)]) P_i179_10 rfl (show P_aw _ _ _ 11 [.ref (w.2.2 34), P_z g, P_z ((σ 34 g.toNat) + 1)] [.ref (w.2.2 34)] _ _ from ?_)
    refine P_aw_op (L' := [.ref (w.2.2 34), P_z g, P_z ((σ 34 g.toNat) + 1)]) (st' := [P_z g, .ref (w.2.2 34)]) P_i179_11 rfl (show P_aw _ _ _ 12 [.ref (w.2.2 34), P_z g, P_z ((σ 34 g.toNat) + 1)] [P_z g, .ref (w.2.2 34)] _ _ from ?_)
    refine P_aw_op (L' := [.ref (w.2.2 34), P_z g, P_z ((σ 34 g.toNat) + 1)]) (st' := [P_z ((σ 34 g.toNat) + 1), P_z g, .ref (w.2.2 34)]) P_i179_12 rfl (show P_aw _ _ _ 13 [.ref (w.2.2 34), P_z g, P_z ((σ 34 g.toNat) + 1)] [P_z ((σ 34 g.toNat) + 1), P_z g, .ref (w.2.2 34)] _ _ from ?_)
    refine P_aw_ast P_i179_13 (hw.2.1 34 (by decide)) (hw.s rfl) (by omega) (by omega) (by decide) (show P_aw _ _ _ 14 [.ref (w.2.2 34), P_z g, P_z ((σ 34 g.toNat) + 1)] [] _ _ from ?_)
    refine P_aw_end P_i179_14 rfl rfl (fun _ => rfl) rfl ?_
    show P_aw _ _ _ 38 [.ref (w.2.2 33), P_z g, P_z m, P_un, P_un] [] _ _
    refine P_aw_op (L' := [.ref (w.2.2 33), P_z g, P_z m, P_un, P_un]) (st' := [P_z 0]) P_i46_38 rfl (show P_aw _ _ _ 39 [.ref (w.2.2 33), P_z g, P_z m, P_un, P_un] [P_z 0] _ _ from ?_)
    refine P_aw_op (L' := [.ref (w.2.2 33), P_z g, P_z m, P_z 0, P_un]) (st' := []) P_i46_39 rfl (show P_aw _ _ _ 40 [.ref (w.2.2 33), P_z g, P_z m, P_z 0, P_un] [] _ _ from ?_)
    refine s_gal hw hm hg hB0 it.toNat _ 0 (A_V_cg (fun a b h => P_u2_ne (by omega)) hA) (A_X_cg (fun s a b => (hA.2.2 s a b).2.1.1) (fun a b h => P_u2_ne (by omega)) hX) (A_F_cg (fun a b h h2 => P_u2_ne (by omega)) hF) (by omega) (by omega) (fun j _ hj => by rw [show ∀ j, (P_u2 σ 34 g.toNat ((σ 34 g.toNat) + 1)) 36 j = σ 36 j from fun j => P_u2_ne (by omega)]; exact hsu j hj) (fun j hj => by rw [show ∀ j, (P_u2 σ 34 g.toNat ((σ 34 g.toNat) + 1)) 36 j = σ 36 j from fun j => P_u2_ne (by omega)]; have := hsu j hj; omega) (fun σ2 k1 k2 => ?_)
    refine q σ2 (fun a b h => (k1 a b (by omega)).trans (P_u2_ne (by omega))) (fun j => (k1 34 j (by omega)).trans ?_) (fun j hj => ?_) k2
    · unfold P_u2; (repeat' split) <;> first | rfl | omega | (subst_vars; rfl) | (exfalso; omega) | (simp_all; done)
    · rw [k1 35 j (by omega)]; unfold P_u2; (repeat' split) <;> first | omega | (exact hfi j hj)

/-- a sum of n numbers -/
def A_sm (f : Nat → Int) : Nat → Int
  | 0 => 0
  | n + 1 => A_sm f n + f n
theorem A_sm_cg {f f' : Nat → Int} : ∀ (n : Nat), (∀ j, j < n → f' j = f j) → A_sm f' n = A_sm f n
  | 0, _ => rfl
  | n + 1, h => by
    simp only [A_sm]
    rw [A_sm_cg n (fun j hj => h j (by omega)), h n (by omega)]
theorem A_sm_inc {f f' : Nat → Int} {g : Nat} (h : ∀ j, f' j = if j = g then f j + 1 else f j) : ∀ (n : Nat), A_sm f' n = if g < n then A_sm f n + 1 else A_sm f n
  | 0 => by rw [if_neg (by omega)]; rfl
  | n + 1 => by
    simp only [A_sm]
    rw [A_sm_inc h n, h n]
    by_cases e : n = g
    · rw [if_neg (by omega), if_pos e, if_pos (by omega)]; omega
    · rw [if_neg e]
      by_cases e2 : g < n
      · rw [if_pos e2, if_pos (by omega)]; omega
      · rw [if_neg e2, if_neg (by omega)]
theorem A_sm_nn {f : Nat → Int} : ∀ (n : Nat), (∀ j, j < n → 0 ≤ f j) → 0 ≤ A_sm f n
  | 0, _ => by simp [A_sm]
  | n + 1, h => by
    have := A_sm_nn n (fun j hj => h j (by omega))
    have := h n (by omega)
    simp only [A_sm]; omega
theorem A_sm_le {f : Nat → Int} : ∀ (n : Nat), (∀ j, j < n → 0 ≤ f j) → ∀ j, j < n → f j ≤ A_sm f n
  | 0, _, j, hj => absurd hj (by omega)
  | n + 1, h, j, hj => by
    simp only [A_sm]
    by_cases e : j = n
    · subst e
      have := A_sm_nn j (fun i hi => h i (by omega))
      omega
    · have := A_sm_le n (fun i hi => h i (by omega)) j (by omega)
      have := h n (by omega)
      omega
/-- the groups, when mt meetings are gathered -/
def A_G (gp : Int) (mt : Int) (σ : P_A) : Prop := (0 ≤ mt ∧ mt ≤ 1000000000) ∧ (∀ j, j < 14 → 0 ≤ σ 34 j) ∧ A_sm (σ 34) 14 = mt ∧ (gp = -1 → σ 34 0 = mt) ∧ (∀ j, j < 14 → 0 ≤ σ 35 j ∧ σ 35 j ≤ 2743) ∧ ∀ j, j < 56 → -(999 * mt) ≤ σ 36 j ∧ σ 36 j ≤ 999 * mt
theorem s_mtg {w : P_Lw} (hw : P_Cw w) {d : Nat} {Q : P_R → P_A → Prop} {σ : P_A} {ns : Int} {tb : Int → Nat} {rw : Int → Int} {vr : Int → Int → Int} {cl : Int → Int} {V : Int → Int → Int → Int} (hA : A_V w σ ns tb rw vr) (hX : A_X σ ns tb rw cl V) {ρ : Int → Int} {it : Int} {ki ci : Int → Int} {gp oi lm : Int} (hF : A_F σ ns cl it ki ci gp oi lm) (hg1 : A_gth ki it gp = 1) (hρ : ∀ s, 0 ≤ s → s < 3 → σ 32 s.toNat = ρ s ∧ 0 ≤ ρ s ∧ ρ s ≤ 13) {mt : Int} (hG : A_G gp mt σ) (hmt : mt < 1000000000) (q : ∀ σ', (∀ a b, ¬ (34 ≤ a ∧ a ≤ 36) → σ' a b = σ a b) → A_G gp (mt + 1) σ' → Q (.inl none) σ') : P_aw w (d + 6) 9 0 [.ref (w.2.2 31)] [] σ Q := by
  refine P_aw_op (L' := [.ref (w.2.2 31)]) (st' := [.ref (w.2.2 31)]) P_i9_0 rfl (show P_aw _ _ _ 1 [.ref (w.2.2 31)] [.ref (w.2.2 31)] _ _ from ?_)
  refine P_aw_getR P_i9_1 (hw.2.1 31 (by decide)) (hw.s rfl) rfl rfl (show P_aw _ _ _ 4 [.ref (w.2.2 31)] [.ref (w.2.2 6)] _ _ from ?_)
  have hp1 := A_gth_rg (ki := ki) (it := it) (gp := gp)
  refine P_aw_call P_i9_4 rfl rfl (fun _ => rfl) rfl rfl rfl rfl (y2 := 42) (as := [.ref (w.2.2 6)]) (r0 := []) (P_inv_v (hw.2.1 6 (by decide)) (hw.s rfl) rfl rfl) (Nat.le_of_ble_eq_true rfl) (by decide) rfl (Nat.le_of_ble_eq_true rfl) (s_gth hw hF ?_)
  show P_aw _ _ _ 7 [.ref (w.2.2 31)] [P_z (A_gth ki it gp)] _ _
  refine P_aw_izf P_i9_7 ⟨by omega, by omega⟩ (P_ci_eqf (by omega)) (show P_aw _ _ _ 10 [.ref (w.2.2 31)] [] _ _ from ?_)
  refine P_aw_op (L' := [.ref (w.2.2 31)]) (st' := [.ref (w.2.2 31)]) P_i9_10 rfl (show P_aw _ _ _ 11 [.ref (w.2.2 31)] [.ref (w.2.2 31)] _ _ from ?_)
  refine P_aw_getR P_i9_11 (hw.2.1 31 (by decide)) (hw.s rfl) rfl rfl (show P_aw _ _ _ 14 [.ref (w.2.2 31)] [.ref (w.2.2 33)] _ _ from ?_)
  refine P_aw_op (L' := [.ref (w.2.2 31)]) (st' := [.ref (w.2.2 31), .ref (w.2.2 33)]) P_i9_14 rfl (show P_aw _ _ _ 15 [.ref (w.2.2 31)] [.ref (w.2.2 31), .ref (w.2.2 33)] _ _ from ?_)
  refine P_aw_getR P_i9_15 (hw.2.1 31 (by decide)) (hw.s rfl) rfl rfl (show P_aw _ _ _ 18 [.ref (w.2.2 31)] [.ref (w.2.2 33), .ref (w.2.2 33)] _ _ from ?_)
  refine P_aw_op (L' := [.ref (w.2.2 31)]) (st' := [.ref (w.2.2 31), .ref (w.2.2 33), .ref (w.2.2 33)]) P_i9_18 rfl (show P_aw _ _ _ 19 [.ref (w.2.2 31)] [.ref (w.2.2 31), .ref (w.2.2 33), .ref (w.2.2 33)] _ _ from ?_)
  refine P_aw_call P_i9_19 rfl rfl (fun _ => rfl) rfl rfl rfl rfl (y2 := 132) (as := [.ref (w.2.2 31)]) (r0 := [.ref (w.2.2 33), .ref (w.2.2 33)]) (P_inv_v (hw.2.1 31 (by decide)) (hw.s rfl) rfl rfl) (Nat.le_of_ble_eq_true rfl) (by decide) rfl (Nat.le_of_ble_eq_true rfl) (show P_aw _ _ _ 0 [.ref (w.2.2 31)] [] _ _ from ?_)
  refine P_aw_op (L' := [.ref (w.2.2 31)]) (st' := [.ref (w.2.2 31)]) P_i132_0 rfl (show P_aw _ _ _ 1 [.ref (w.2.2 31)] [.ref (w.2.2 31)] _ _ from ?_)
  refine P_aw_getR P_i132_1 (hw.2.1 31 (by decide)) (hw.s rfl) rfl rfl (show P_aw _ _ _ 4 [.ref (w.2.2 31)] [.ref (w.2.2 32)] _ _ from ?_)
  refine P_aw_op (L' := [.ref (w.2.2 31)]) (st' := [P_z 0, .ref (w.2.2 32)]) P_i132_4 rfl (show P_aw _ _ _ 5 [.ref (w.2.2 31)] [P_z 0, .ref (w.2.2 32)] _ _ from ?_)
  refine P_aw_call P_i132_5 rfl rfl (fun _ => rfl) rfl rfl rfl rfl (y2 := 178) (as := [.ref (w.2.2 32), P_z 0]) (r0 := []) (fun _ _ => rfl) (Nat.le_of_ble_eq_true rfl) (by decide) rfl (Nat.le_of_ble_eq_true rfl) (show P_aw _ _ _ 0 [.ref (w.2.2 32), P_z 0] [] _ _ from ?_)
  refine P_aw_op (L' := [.ref (w.2.2 32), P_z 0]) (st' := [P_z 0]) P_i178_0 rfl (show P_aw _ _ _ 1 [.ref (w.2.2 32), P_z 0] [P_z 0] _ _ from ?_)
  refine P_aw_izf P_i178_1 ⟨by decide, by decide⟩ (P_ci_ltf (by omega)) (show P_aw _ _ _ 4 [.ref (w.2.2 32), P_z 0] [] _ _ from ?_)
  refine P_aw_op (L' := [.ref (w.2.2 32), P_z 0]) (st' := [P_z 0]) P_i178_4 rfl (show P_aw _ _ _ 5 [.ref (w.2.2 32), P_z 0] [P_z 0] _ _ from ?_)
  refine P_aw_op (L' := [.ref (w.2.2 32), P_z 0]) (st' := [.ref (w.2.2 32), P_z 0]) P_i178_5 rfl (show P_aw _ _ _ 6 [.ref (w.2.2 32), P_z 0] [.ref (w.2.2 32), P_z 0] _ _ from ?_)
  refine P_aw_alen P_i178_6 (hw.2.1 32 (by decide)) (hw.s rfl) (show P_aw _ _ _ 7 [.ref (w.2.2 32), P_z 0] [P_z 3, P_z 0] _ _ from ?_)
  refine P_aw_icf P_i178_7 ⟨by decide, by decide⟩ ⟨by decide, by decide⟩ (P_ci_gef (by omega)) (show P_aw _ _ _ 10 [.ref (w.2.2 32), P_z 0] [] _ _ from ?_)
  refine P_aw_op (L' := [.ref (w.2.2 32), P_z 0]) (st' := [.ref (w.2.2 32)]) P_i178_10 rfl (show P_aw _ _ _ 11 [.ref (w.2.2 32), P_z 0] [.ref (w.2.2 32)] _ _ from ?_)
  refine P_aw_op (L' := [.ref (w.2.2 32), P_z 0]) (st' := [P_z 0, .ref (w.2.2 32)]) P_i178_11 rfl (show P_aw _ _ _ 12 [.ref (w.2.2 32), P_z 0] [P_z 0, .ref (w.2.2 32)] _ _ from ?_)
  have hg2 := (hρ 0 (by omega) (by omega)).2
  refine P_aw_aldv P_i178_12 (hw.2.1 32 (by decide)) (hw.s rfl) (by omega) (by omega) (by decide) ((hρ 0 (by omega) (by omega)).1) (show P_aw _ _ _ 13 [.ref (w.2.2 32), P_z 0] [P_z (ρ 0)] _ _ from ?_)
  refine P_aw_goto P_i178_13 (show P_aw _ _ _ 17 [.ref (w.2.2 32), P_z 0] [P_z (ρ 0)] _ _ from ?_)
  refine P_aw_end P_i178_17 rfl rfl (fun _ => rfl) rfl ?_
  show P_aw _ _ _ 8 [.ref (w.2.2 31)] [P_z (ρ 0)] _ _
  refine P_aw_op (L' := [.ref (w.2.2 31)]) (st' := [P_z 14, P_z (ρ 0)]) P_i132_8 (P_o_bi (by decide)) (show P_aw _ _ _ 10 [.ref (w.2.2 31)] [P_z 14, P_z (ρ 0)] _ _ from ?_)
  refine P_aw_op (L' := [.ref (w.2.2 31)]) (st' := [.ref (w.2.2 31), P_z 14, P_z (ρ 0)]) P_i132_10 rfl (show P_aw _ _ _ 11 [.ref (w.2.2 31)] [.ref (w.2.2 31), P_z 14, P_z (ρ 0)] _ _ from ?_)
  refine P_aw_getR P_i132_11 (hw.2.1 31 (by decide)) (hw.s rfl) rfl rfl (show P_aw _ _ _ 14 [.ref (w.2.2 31)] [.ref (w.2.2 32), P_z 14, P_z (ρ 0)] _ _ from ?_)
  refine P_aw_op (L' := [.ref (w.2.2 31)]) (st' := [P_z 1, .ref (w.2.2 32), P_z 14, P_z (ρ 0)]) P_i132_14 rfl (show P_aw _ _ _ 15 [.ref (w.2.2 31)] [P_z 1, .ref (w.2.2 32), P_z 14, P_z (ρ 0)] _ _ from ?_)
  refine P_aw_call P_i132_15 rfl rfl (fun _ => rfl) rfl rfl rfl rfl (y2 := 178) (as := [.ref (w.2.2 32), P_z 1]) (r0 := [P_z 14, P_z (ρ 0)]) (fun _ _ => rfl) (Nat.le_of_ble_eq_true rfl) (by decide) rfl (Nat.le_of_ble_eq_true rfl) (show P_aw _ _ _ 0 [.ref (w.2.2 32), P_z 1] [] _ _ from ?_)
  refine P_aw_op (L' := [.ref (w.2.2 32), P_z 1]) (st' := [P_z 1]) P_i178_0 rfl (show P_aw _ _ _ 1 [.ref (w.2.2 32), P_z 1] [P_z 1] _ _ from ?_)
  refine P_aw_izf P_i178_1 ⟨by decide, by decide⟩ (P_ci_ltf (by omega)) (show P_aw _ _ _ 4 [.ref (w.2.2 32), P_z 1] [] _ _ from ?_)
  refine P_aw_op (L' := [.ref (w.2.2 32), P_z 1]) (st' := [P_z 1]) P_i178_4 rfl (show P_aw _ _ _ 5 [.ref (w.2.2 32), P_z 1] [P_z 1] _ _ from ?_)
  refine P_aw_op (L' := [.ref (w.2.2 32), P_z 1]) (st' := [.ref (w.2.2 32), P_z 1]) P_i178_5 rfl (show P_aw _ _ _ 6 [.ref (w.2.2 32), P_z 1] [.ref (w.2.2 32), P_z 1] _ _ from ?_)
  refine P_aw_alen P_i178_6 (hw.2.1 32 (by decide)) (hw.s rfl) (show P_aw _ _ _ 7 [.ref (w.2.2 32), P_z 1] [P_z 3, P_z 1] _ _ from ?_)
  refine P_aw_icf P_i178_7 ⟨by decide, by decide⟩ ⟨by decide, by decide⟩ (P_ci_gef (by omega)) (show P_aw _ _ _ 10 [.ref (w.2.2 32), P_z 1] [] _ _ from ?_)
  refine P_aw_op (L' := [.ref (w.2.2 32), P_z 1]) (st' := [.ref (w.2.2 32)]) P_i178_10 rfl (show P_aw _ _ _ 11 [.ref (w.2.2 32), P_z 1] [.ref (w.2.2 32)] _ _ from ?_)
  refine P_aw_op (L' := [.ref (w.2.2 32), P_z 1]) (st' := [P_z 1, .ref (w.2.2 32)]) P_i178_11 rfl (show P_aw _ _ _ 12 [.ref (w.2.2 32), P_z 1] [P_z 1, .ref (w.2.2 32)] _ _ from ?_)
  have hg3 := (hρ 1 (by omega) (by omega)).2
  refine P_aw_aldv P_i178_12 (hw.2.1 32 (by decide)) (hw.s rfl) (by omega) (by omega) (by decide) ((hρ 1 (by omega) (by omega)).1) (show P_aw _ _ _ 13 [.ref (w.2.2 32), P_z 1] [P_z (ρ 1)] _ _ from ?_)
  refine P_aw_goto P_i178_13 (show P_aw _ _ _ 17 [.ref (w.2.2 32), P_z 1] [P_z (ρ 1)] _ _ from ?_)
  refine P_aw_end P_i178_17 rfl rfl (fun _ => rfl) rfl ?_
  show P_aw _ _ _ 18 [.ref (w.2.2 31)] [P_z (ρ 1), P_z 14, P_z (ρ 0)] _ _
  refine P_aw_op (L' := [.ref (w.2.2 31)]) (st' := [P_z 14, P_z (ρ 1), P_z 14, P_z (ρ 0)]) P_i132_18 (P_o_bi (by decide)) (show P_aw _ _ _ 20 [.ref (w.2.2 31)] [P_z 14, P_z (ρ 1), P_z 14, P_z (ρ 0)] _ _ from ?_)
  refine P_aw_op (L' := [.ref (w.2.2 31)]) (st' := [.ref (w.2.2 31), P_z 14, P_z (ρ 1), P_z 14, P_z (ρ 0)]) P_i132_20 rfl (show P_aw _ _ _ 21 [.ref (w.2.2 31)] [.ref (w.2.2 31), P_z 14, P_z (ρ 1), P_z 14, P_z (ρ 0)] _ _ from ?_)
  refine P_aw_getR P_i132_21 (hw.2.1 31 (by decide)) (hw.s rfl) rfl rfl (show P_aw _ _ _ 24 [.ref (w.2.2 31)] [.ref (w.2.2 32), P_z 14, P_z (ρ 1), P_z 14, P_z (ρ 0)] _ _ from ?_)
  refine P_aw_op (L' := [.ref (w.2.2 31)]) (st' := [P_z 2, .ref (w.2.2 32), P_z 14, P_z (ρ 1), P_z 14, P_z (ρ 0)]) P_i132_24 rfl (show P_aw _ _ _ 25 [.ref (w.2.2 31)] [P_z 2, .ref (w.2.2 32), P_z 14, P_z (ρ 1), P_z 14, P_z (ρ 0)] _ _ from ?_)
  refine P_aw_call P_i132_25 rfl rfl (fun _ => rfl) rfl rfl rfl rfl (y2 := 178) (as := [.ref (w.2.2 32), P_z 2]) (r0 := [P_z 14, P_z (ρ 1), P_z 14, P_z (ρ 0)]) (fun _ _ => rfl) (Nat.le_of_ble_eq_true rfl) (by decide) rfl (Nat.le_of_ble_eq_true rfl) (show P_aw _ _ _ 0 [.ref (w.2.2 32), P_z 2] [] _ _ from ?_)
  refine P_aw_op (L' := [.ref (w.2.2 32), P_z 2]) (st' := [P_z 2]) P_i178_0 rfl (show P_aw _ _ _ 1 [.ref (w.2.2 32), P_z 2] [P_z 2] _ _ from ?_)
  refine P_aw_izf P_i178_1 ⟨by decide, by decide⟩ (P_ci_ltf (by omega)) (show P_aw _ _ _ 4 [.ref (w.2.2 32), P_z 2] [] _ _ from ?_)
  refine P_aw_op (L' := [.ref (w.2.2 32), P_z 2]) (st' := [P_z 2]) P_i178_4 rfl (show P_aw _ _ _ 5 [.ref (w.2.2 32), P_z 2] [P_z 2] _ _ from ?_)
  refine P_aw_op (L' := [.ref (w.2.2 32), P_z 2]) (st' := [.ref (w.2.2 32), P_z 2]) P_i178_5 rfl (show P_aw _ _ _ 6 [.ref (w.2.2 32), P_z 2] [.ref (w.2.2 32), P_z 2] _ _ from ?_)
  refine P_aw_alen P_i178_6 (hw.2.1 32 (by decide)) (hw.s rfl) (show P_aw _ _ _ 7 [.ref (w.2.2 32), P_z 2] [P_z 3, P_z 2] _ _ from ?_)
  refine P_aw_icf P_i178_7 ⟨by decide, by decide⟩ ⟨by decide, by decide⟩ (P_ci_gef (by omega)) (show P_aw _ _ _ 10 [.ref (w.2.2 32), P_z 2] [] _ _ from ?_)
  refine P_aw_op (L' := [.ref (w.2.2 32), P_z 2]) (st' := [.ref (w.2.2 32)]) P_i178_10 rfl (show P_aw _ _ _ 11 [.ref (w.2.2 32), P_z 2] [.ref (w.2.2 32)] _ _ from ?_)
  refine P_aw_op (L' := [.ref (w.2.2 32), P_z 2]) (st' := [P_z 2, .ref (w.2.2 32)]) P_i178_11 rfl (show P_aw _ _ _ 12 [.ref (w.2.2 32), P_z 2] [P_z 2, .ref (w.2.2 32)] _ _ from ?_)
  have hg4 := (hρ 2 (by omega) (by omega)).2
  refine P_aw_aldv P_i178_12 (hw.2.1 32 (by decide)) (hw.s rfl) (by omega) (by omega) (by decide) ((hρ 2 (by omega) (by omega)).1) (show P_aw _ _ _ 13 [.ref (w.2.2 32), P_z 2] [P_z (ρ 2)] _ _ from ?_)
  refine P_aw_goto P_i178_13 (show P_aw _ _ _ 17 [.ref (w.2.2 32), P_z 2] [P_z (ρ 2)] _ _ from ?_)
  refine P_aw_end P_i178_17 rfl rfl (fun _ => rfl) rfl ?_
  show P_aw _ _ _ 28 [.ref (w.2.2 31)] [P_z (ρ 2), P_z 14, P_z (ρ 1), P_z 14, P_z (ρ 0)] _ _
  refine P_aw_op (L' := [.ref (w.2.2 31)]) (st' := [P_z (14 * (ρ 2)), P_z (ρ 1), P_z 14, P_z (ρ 0)]) P_i132_28 P_o_imul (show P_aw _ _ _ 29 [.ref (w.2.2 31)] [P_z (14 * (ρ 2)), P_z (ρ 1), P_z 14, P_z (ρ 0)] _ _ from ?_)
  refine P_aw_op (L' := [.ref (w.2.2 31)]) (st' := [P_z ((ρ 1) + (14 * (ρ 2))), P_z 14, P_z (ρ 0)]) P_i132_29 P_o_iadd (show P_aw _ _ _ 30 [.ref (w.2.2 31)] [P_z ((ρ 1) + (14 * (ρ 2))), P_z 14, P_z (ρ 0)] _ _ from ?_)
  refine P_aw_op (L' := [.ref (w.2.2 31)]) (st' := [P_z (14 * ((ρ 1) + (14 * (ρ 2)))), P_z (ρ 0)]) P_i132_30 P_o_imul (show P_aw _ _ _ 31 [.ref (w.2.2 31)] [P_z (14 * ((ρ 1) + (14 * (ρ 2)))), P_z (ρ 0)] _ _ from ?_)
  refine P_aw_op (L' := [.ref (w.2.2 31)]) (st' := [P_z ((ρ 0) + (14 * ((ρ 1) + (14 * (ρ 2)))))]) P_i132_31 P_o_iadd (show P_aw _ _ _ 32 [.ref (w.2.2 31)] [P_z ((ρ 0) + (14 * ((ρ 1) + (14 * (ρ 2)))))] _ _ from ?_)
  refine P_aw_end P_i132_32 rfl rfl (fun _ => rfl) rfl ?_
  show P_aw _ _ _ 22 [.ref (w.2.2 31)] [P_z ((ρ 0) + (14 * ((ρ 1) + (14 * (ρ 2))))), .ref (w.2.2 33), .ref (w.2.2 33)] _ _
  refine P_aw_call P_i9_22 rfl rfl (fun _ => rfl) rfl rfl rfl rfl (y2 := 47) (as := [.ref (w.2.2 33), P_z ((ρ 0) + (14 * ((ρ 1) + (14 * (ρ 2)))))]) (r0 := [.ref (w.2.2 33)]) (P_inv_v (hw.2.1 33 (by decide)) (hw.s rfl) rfl rfl) (Nat.le_of_ble_eq_true rfl) (by decide) rfl (Nat.le_of_ble_eq_true rfl) (s_gof hw hA hX hF (m := ((ρ 0) + (14 * ((ρ 1) + (14 * (ρ 2)))))) (by omega) (fun v k1 k2 k3 => ?_))
  show P_aw _ _ _ 25 [.ref (w.2.2 31)] [P_z v, .ref (w.2.2 33)] _ _
  refine P_aw_op (L' := [.ref (w.2.2 31)]) (st' := [.ref (w.2.2 31), P_z v, .ref (w.2.2 33)]) P_i9_25 rfl (show P_aw _ _ _ 26 [.ref (w.2.2 31)] [.ref (w.2.2 31), P_z v, .ref (w.2.2 33)] _ _ from ?_)
  refine P_aw_call P_i9_26 rfl rfl (fun _ => rfl) rfl rfl rfl rfl (y2 := 132) (as := [.ref (w.2.2 31)]) (r0 := [P_z v, .ref (w.2.2 33)]) (P_inv_v (hw.2.1 31 (by decide)) (hw.s rfl) rfl rfl) (Nat.le_of_ble_eq_true rfl) (by decide) rfl (Nat.le_of_ble_eq_true rfl) (show P_aw _ _ _ 0 [.ref (w.2.2 31)] [] _ _ from ?_)
  refine P_aw_op (L' := [.ref (w.2.2 31)]) (st' := [.ref (w.2.2 31)]) P_i132_0 rfl (show P_aw _ _ _ 1 [.ref (w.2.2 31)] [.ref (w.2.2 31)] _ _ from ?_)
  refine P_aw_getR P_i132_1 (hw.2.1 31 (by decide)) (hw.s rfl) rfl rfl (show P_aw _ _ _ 4 [.ref (w.2.2 31)] [.ref (w.2.2 32)] _ _ from ?_)
  refine P_aw_op (L' := [.ref (w.2.2 31)]) (st' := [P_z 0, .ref (w.2.2 32)]) P_i132_4 rfl (show P_aw _ _ _ 5 [.ref (w.2.2 31)] [P_z 0, .ref (w.2.2 32)] _ _ from ?_)
  refine P_aw_call P_i132_5 rfl rfl (fun _ => rfl) rfl rfl rfl rfl (y2 := 178) (as := [.ref (w.2.2 32), P_z 0]) (r0 := []) (fun _ _ => rfl) (Nat.le_of_ble_eq_true rfl) (by decide) rfl (Nat.le_of_ble_eq_true rfl) (show P_aw _ _ _ 0 [.ref (w.2.2 32), P_z 0] [] _ _ from ?_)
  refine P_aw_op (L' := [.ref (w.2.2 32), P_z 0]) (st' := [P_z 0]) P_i178_0 rfl (show P_aw _ _ _ 1 [.ref (w.2.2 32), P_z 0] [P_z 0] _ _ from ?_)
  refine P_aw_izf P_i178_1 ⟨by decide, by decide⟩ (P_ci_ltf (by omega)) (show P_aw _ _ _ 4 [.ref (w.2.2 32), P_z 0] [] _ _ from ?_)
  refine P_aw_op (L' := [.ref (w.2.2 32), P_z 0]) (st' := [P_z 0]) P_i178_4 rfl (show P_aw _ _ _ 5 [.ref (w.2.2 32), P_z 0] [P_z 0] _ _ from ?_)
  refine P_aw_op (L' := [.ref (w.2.2 32), P_z 0]) (st' := [.ref (w.2.2 32), P_z 0]) P_i178_5 rfl (show P_aw _ _ _ 6 [.ref (w.2.2 32), P_z 0] [.ref (w.2.2 32), P_z 0] _ _ from ?_)
  refine P_aw_alen P_i178_6 (hw.2.1 32 (by decide)) (hw.s rfl) (show P_aw _ _ _ 7 [.ref (w.2.2 32), P_z 0] [P_z 3, P_z 0] _ _ from ?_)
  refine P_aw_icf P_i178_7 ⟨by decide, by decide⟩ ⟨by decide, by decide⟩ (P_ci_gef (by omega)) (show P_aw _ _ _ 10 [.ref (w.2.2 32), P_z 0] [] _ _ from ?_)
  refine P_aw_op (L' := [.ref (w.2.2 32), P_z 0]) (st' := [.ref (w.2.2 32)]) P_i178_10 rfl (show P_aw _ _ _ 11 [.ref (w.2.2 32), P_z 0] [.ref (w.2.2 32)] _ _ from ?_)
  refine P_aw_op (L' := [.ref (w.2.2 32), P_z 0]) (st' := [P_z 0, .ref (w.2.2 32)]) P_i178_11 rfl (show P_aw _ _ _ 12 [.ref (w.2.2 32), P_z 0] [P_z 0, .ref (w.2.2 32)] _ _ from ?_)
  have hg5 := (hρ 0 (by omega) (by omega)).2
  refine P_aw_aldv P_i178_12 (hw.2.1 32 (by decide)) (hw.s rfl) (by omega) (by omega) (by decide) ((hρ 0 (by omega) (by omega)).1) (show P_aw _ _ _ 13 [.ref (w.2.2 32), P_z 0] [P_z (ρ 0)] _ _ from ?_)
  refine P_aw_goto P_i178_13 (show P_aw _ _ _ 17 [.ref (w.2.2 32), P_z 0] [P_z (ρ 0)] _ _ from ?_)
  refine P_aw_end P_i178_17 rfl rfl (fun _ => rfl) rfl ?_
  show P_aw _ _ _ 8 [.ref (w.2.2 31)] [P_z (ρ 0)] _ _
  refine P_aw_op (L' := [.ref (w.2.2 31)]) (st' := [P_z 14, P_z (ρ 0)]) P_i132_8 (P_o_bi (by decide)) (show P_aw _ _ _ 10 [.ref (w.2.2 31)] [P_z 14, P_z (ρ 0)] _ _ from ?_)
  refine P_aw_op (L' := [.ref (w.2.2 31)]) (st' := [.ref (w.2.2 31), P_z 14, P_z (ρ 0)]) P_i132_10 rfl (show P_aw _ _ _ 11 [.ref (w.2.2 31)] [.ref (w.2.2 31), P_z 14, P_z (ρ 0)] _ _ from ?_)
  refine P_aw_getR P_i132_11 (hw.2.1 31 (by decide)) (hw.s rfl) rfl rfl (show P_aw _ _ _ 14 [.ref (w.2.2 31)] [.ref (w.2.2 32), P_z 14, P_z (ρ 0)] _ _ from ?_)
  refine P_aw_op (L' := [.ref (w.2.2 31)]) (st' := [P_z 1, .ref (w.2.2 32), P_z 14, P_z (ρ 0)]) P_i132_14 rfl (show P_aw _ _ _ 15 [.ref (w.2.2 31)] [P_z 1, .ref (w.2.2 32), P_z 14, P_z (ρ 0)] _ _ from ?_)
  refine P_aw_call P_i132_15 rfl rfl (fun _ => rfl) rfl rfl rfl rfl (y2 := 178) (as := [.ref (w.2.2 32), P_z 1]) (r0 := [P_z 14, P_z (ρ 0)]) (fun _ _ => rfl) (Nat.le_of_ble_eq_true rfl) (by decide) rfl (Nat.le_of_ble_eq_true rfl) (show P_aw _ _ _ 0 [.ref (w.2.2 32), P_z 1] [] _ _ from ?_)
  refine P_aw_op (L' := [.ref (w.2.2 32), P_z 1]) (st' := [P_z 1]) P_i178_0 rfl (show P_aw _ _ _ 1 [.ref (w.2.2 32), P_z 1] [P_z 1] _ _ from ?_)
  refine P_aw_izf P_i178_1 ⟨by decide, by decide⟩ (P_ci_ltf (by omega)) (show P_aw _ _ _ 4 [.ref (w.2.2 32), P_z 1] [] _ _ from ?_)
  refine P_aw_op (L' := [.ref (w.2.2 32), P_z 1]) (st' := [P_z 1]) P_i178_4 rfl (show P_aw _ _ _ 5 [.ref (w.2.2 32), P_z 1] [P_z 1] _ _ from ?_)
  refine P_aw_op (L' := [.ref (w.2.2 32), P_z 1]) (st' := [.ref (w.2.2 32), P_z 1]) P_i178_5 rfl (show P_aw _ _ _ 6 [.ref (w.2.2 32), P_z 1] [.ref (w.2.2 32), P_z 1] _ _ from ?_)
  refine P_aw_alen P_i178_6 (hw.2.1 32 (by decide)) (hw.s rfl) (show P_aw _ _ _ 7 [.ref (w.2.2 32), P_z 1] [P_z 3, P_z 1] _ _ from ?_)
  refine P_aw_icf P_i178_7 ⟨by decide, by decide⟩ ⟨by decide, by decide⟩ (P_ci_gef (by omega)) (show P_aw _ _ _ 10 [.ref (w.2.2 32), P_z 1] [] _ _ from ?_)
  refine P_aw_op (L' := [.ref (w.2.2 32), P_z 1]) (st' := [.ref (w.2.2 32)]) P_i178_10 rfl (show P_aw _ _ _ 11 [.ref (w.2.2 32), P_z 1] [.ref (w.2.2 32)] _ _ from ?_)
  refine P_aw_op (L' := [.ref (w.2.2 32), P_z 1]) (st' := [P_z 1, .ref (w.2.2 32)]) P_i178_11 rfl (show P_aw _ _ _ 12 [.ref (w.2.2 32), P_z 1] [P_z 1, .ref (w.2.2 32)] _ _ from ?_)
  have hg6 := (hρ 1 (by omega) (by omega)).2
  refine P_aw_aldv P_i178_12 (hw.2.1 32 (by decide)) (hw.s rfl) (by omega) (by omega) (by decide) ((hρ 1 (by omega) (by omega)).1) (show P_aw _ _ _ 13 [.ref (w.2.2 32), P_z 1] [P_z (ρ 1)] _ _ from ?_)
  refine P_aw_goto P_i178_13 (show P_aw _ _ _ 17 [.ref (w.2.2 32), P_z 1] [P_z (ρ 1)] _ _ from ?_)
  refine P_aw_end P_i178_17 rfl rfl (fun _ => rfl) rfl ?_
  show P_aw _ _ _ 18 [.ref (w.2.2 31)] [P_z (ρ 1), P_z 14, P_z (ρ 0)] _ _
  refine P_aw_op (L' := [.ref (w.2.2 31)]) (st' := [P_z 14, P_z (ρ 1), P_z 14, P_z (ρ 0)]) P_i132_18 (P_o_bi (by decide)) (show P_aw _ _ _ 20 [.ref (w.2.2 31)] [P_z 14, P_z (ρ 1), P_z 14, P_z (ρ 0)] _ _ from ?_)
  refine P_aw_op (L' := [.ref (w.2.2 31)]) (st' := [.ref (w.2.2 31), P_z 14, P_z (ρ 1), P_z 14, P_z (ρ 0)]) P_i132_20 rfl (show P_aw _ _ _ 21 [.ref (w.2.2 31)] [.ref (w.2.2 31), P_z 14, P_z (ρ 1), P_z 14, P_z (ρ 0)] _ _ from ?_)
  refine P_aw_getR P_i132_21 (hw.2.1 31 (by decide)) (hw.s rfl) rfl rfl (show P_aw _ _ _ 24 [.ref (w.2.2 31)] [.ref (w.2.2 32), P_z 14, P_z (ρ 1), P_z 14, P_z (ρ 0)] _ _ from ?_)
  refine P_aw_op (L' := [.ref (w.2.2 31)]) (st' := [P_z 2, .ref (w.2.2 32), P_z 14, P_z (ρ 1), P_z 14, P_z (ρ 0)]) P_i132_24 rfl (show P_aw _ _ _ 25 [.ref (w.2.2 31)] [P_z 2, .ref (w.2.2 32), P_z 14, P_z (ρ 1), P_z 14, P_z (ρ 0)] _ _ from ?_)
  refine P_aw_call P_i132_25 rfl rfl (fun _ => rfl) rfl rfl rfl rfl (y2 := 178) (as := [.ref (w.2.2 32), P_z 2]) (r0 := [P_z 14, P_z (ρ 1), P_z 14, P_z (ρ 0)]) (fun _ _ => rfl) (Nat.le_of_ble_eq_true rfl) (by decide) rfl (Nat.le_of_ble_eq_true rfl) (show P_aw _ _ _ 0 [.ref (w.2.2 32), P_z 2] [] _ _ from ?_)
  refine P_aw_op (L' := [.ref (w.2.2 32), P_z 2]) (st' := [P_z 2]) P_i178_0 rfl (show P_aw _ _ _ 1 [.ref (w.2.2 32), P_z 2] [P_z 2] _ _ from ?_)
  refine P_aw_izf P_i178_1 ⟨by decide, by decide⟩ (P_ci_ltf (by omega)) (show P_aw _ _ _ 4 [.ref (w.2.2 32), P_z 2] [] _ _ from ?_)
  refine P_aw_op (L' := [.ref (w.2.2 32), P_z 2]) (st' := [P_z 2]) P_i178_4 rfl (show P_aw _ _ _ 5 [.ref (w.2.2 32), P_z 2] [P_z 2] _ _ from ?_)
  refine P_aw_op (L' := [.ref (w.2.2 32), P_z 2]) (st' := [.ref (w.2.2 32), P_z 2]) P_i178_5 rfl (show P_aw _ _ _ 6 [.ref (w.2.2 32), P_z 2] [.ref (w.2.2 32), P_z 2] _ _ from ?_)
  refine P_aw_alen P_i178_6 (hw.2.1 32 (by decide)) (hw.s rfl) (show P_aw _ _ _ 7 [.ref (w.2.2 32), P_z 2] [P_z 3, P_z 2] _ _ from ?_)
  refine P_aw_icf P_i178_7 ⟨by decide, by decide⟩ ⟨by decide, by decide⟩ (P_ci_gef (by omega)) (show P_aw _ _ _ 10 [.ref (w.2.2 32), P_z 2] [] _ _ from ?_)
  refine P_aw_op (L' := [.ref (w.2.2 32), P_z 2]) (st' := [.ref (w.2.2 32)]) P_i178_10 rfl (show P_aw _ _ _ 11 [.ref (w.2.2 32), P_z 2] [.ref (w.2.2 32)] _ _ from ?_)
  refine P_aw_op (L' := [.ref (w.2.2 32), P_z 2]) (st' := [P_z 2, .ref (w.2.2 32)]) P_i178_11 rfl (show P_aw _ _ _ 12 [.ref (w.2.2 32), P_z 2] [P_z 2, .ref (w.2.2 32)] _ _ from ?_)
  have hg7 := (hρ 2 (by omega) (by omega)).2
  refine P_aw_aldv P_i178_12 (hw.2.1 32 (by decide)) (hw.s rfl) (by omega) (by omega) (by decide) ((hρ 2 (by omega) (by omega)).1) (show P_aw _ _ _ 13 [.ref (w.2.2 32), P_z 2] [P_z (ρ 2)] _ _ from ?_)
  refine P_aw_goto P_i178_13 (show P_aw _ _ _ 17 [.ref (w.2.2 32), P_z 2] [P_z (ρ 2)] _ _ from ?_)
  refine P_aw_end P_i178_17 rfl rfl (fun _ => rfl) rfl ?_
  show P_aw _ _ _ 28 [.ref (w.2.2 31)] [P_z (ρ 2), P_z 14, P_z (ρ 1), P_z 14, P_z (ρ 0)] _ _
  refine P_aw_op (L' := [.ref (w.2.2 31)]) (st' := [P_z (14 * (ρ 2)), P_z (ρ 1), P_z 14, P_z (ρ 0)]) P_i132_28 P_o_imul (show P_aw _ _ _ 29 [.ref (w.2.2 31)] [P_z (14 * (ρ 2)), P_z (ρ 1), P_z 14, P_z (ρ 0)] _ _ from ?_)
  refine P_aw_op (L' := [.ref (w.2.2 31)]) (st' := [P_z ((ρ 1) + (14 * (ρ 2))), P_z 14, P_z (ρ 0)]) P_i132_29 P_o_iadd (show P_aw _ _ _ 30 [.ref (w.2.2 31)] [P_z ((ρ 1) + (14 * (ρ 2))), P_z 14, P_z (ρ 0)] _ _ from ?_)
  refine P_aw_op (L' := [.ref (w.2.2 31)]) (st' := [P_z (14 * ((ρ 1) + (14 * (ρ 2)))), P_z (ρ 0)]) P_i132_30 P_o_imul (show P_aw _ _ _ 31 [.ref (w.2.2 31)] [P_z (14 * ((ρ 1) + (14 * (ρ 2)))), P_z (ρ 0)] _ _ from ?_)
  refine P_aw_op (L' := [.ref (w.2.2 31)]) (st' := [P_z ((ρ 0) + (14 * ((ρ 1) + (14 * (ρ 2)))))]) P_i132_31 P_o_iadd (show P_aw _ _ _ 32 [.ref (w.2.2 31)] [P_z ((ρ 0) + (14 * ((ρ 1) + (14 * (ρ 2)))))] _ _ from ?_)
  refine P_aw_end P_i132_32 rfl rfl (fun _ => rfl) rfl ?_
  show P_aw _ _ _ 29 [.ref (w.2.2 31)] [P_z ((ρ 0) + (14 * ((ρ 1) + (14 * (ρ 2))))), P_z v, .ref (w.2.2 33)] _ _
  have hcn : ∀ j, j < 14 → 0 ≤ σ 34 j ∧ σ 34 j ≤ 1000000000 := fun j hj => ⟨hG.2.1 j hj, by have := A_sm_le 14 hG.2.1 j hj; rw [hG.2.2.1] at this; have := hG.1; omega⟩
  refine P_aw_call P_i9_29 rfl rfl (fun _ => rfl) rfl rfl rfl rfl (y2 := 46) (as := [.ref (w.2.2 33), P_z v, P_z ((ρ 0) + (14 * ((ρ 1) + (14 * (ρ 2)))))]) (r0 := []) (P_inv_v (hw.2.1 33 (by decide)) (hw.s rfl) rfl rfl) (Nat.le_of_ble_eq_true rfl) (by decide) rfl (Nat.le_of_ble_eq_true rfl) (s_ga (g := v) (m := ((ρ 0) + (14 * ((ρ 1) + (14 * (ρ 2)))))) (B := 999 * mt) hw hA hX hF (by omega) (by omega) (by have := hG.1; omega) hcn hG.2.2.2.2.1 hG.2.2.2.2.2 (fun σ2 q1 q2 q3 q4 => ?_))
  show P_aw _ _ _ 32 [.ref (w.2.2 31)] [] _ _
  refine P_aw_end P_i9_32 rfl rfl (fun _ => rfl) rfl ?_
  refine q σ2 q1 ⟨by have := hG.1; omega, fun j hj => ?_, ?_, fun hgp => ?_, q3, fun j hj => by have := q4 j hj; omega⟩
  · rw [q2]; have := hG.2.1 j hj; split <;> omega
  · rw [A_sm_inc q2 14, if_pos (by omega), hG.2.2.1]
  · rw [q2 0, if_pos (by have := k3 hgp; omega), hG.2.2.2.1 hgp]
