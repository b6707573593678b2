/-! the class, written by wip/c1.py: 71.value -/
/-- an item of a group -/
def A_gv (σ : P_A) (V : Int → Int → Int → Int) (rw : Int → Int) (ki ci : Int → Int) (g j : Int) : Int := if ki j = 7 then σ 34 g.toNat else if ki j = 8 then σ 36 ((g * 4) + j).toNat else if σ 34 g.toNat = 0 then 0 else A_ce V rw (σ 35 g.toNat) (ci j)
/-- an item of a result -/
def A_av (σ : P_A) (V : Int → Int → Int → Int) (rw : Int → Int) (ki ci : Int → Int) (gth p j : Int) : Int := if gth = 1 then A_gv σ V rw ki ci (σ 37 p.toNat) j else A_ce V rw (σ 37 p.toNat) (ci j)
/-- the groups' ranges -/
def A_Gr (σ : P_A) : Prop := (∀ j, j < 14 → 0 ≤ σ 34 j ∧ σ 34 j ≤ 2744) ∧ (∀ j, j < 14 → 0 ≤ σ 35 j ∧ σ 35 j ≤ 2743) ∧ ∀ j, j < 56 → -2741256 ≤ σ 36 j ∧ σ 36 j ≤ 2741256
theorem A_Gr_of {σ : P_A} {gp mt : Int} (h : A_G gp mt σ) (hm : mt ≤ 2744) : A_Gr σ := by
  refine ⟨fun j hj => ⟨h.2.1 j hj, ?_⟩, h.2.2.2.2.1, fun j hj => ?_⟩
  · have := A_sm_le 14 h.2.1 j hj
    rw [h.2.2.1] at this
    omega
  · have := h.2.2.2.2.2 j hj
    omega
theorem A_gv_rg {σ : P_A} {ns : Int} {tb : Int → Nat} {rw cl : Int → Int} {V : Int → Int → Int → Int} {ki ci : Int → Int} {g j : Int} (hG : A_Gr σ) (hX : A_X σ ns tb rw cl V) (hg : 0 ≤ g ∧ g ≤ 13) (hj : 0 ≤ j ∧ j ≤ 3) (hc : ki j ≠ 7 → A_cok ns cl (ci j)) : -2741256 ≤ A_gv σ V rw ki ci g j ∧ A_gv σ V rw ki ci g j ≤ 2741256 := by
  unfold A_gv
  split
  · have := hG.1 g.toNat (by omega); omega
  · next h7 =>
    split
    · exact hG.2.2 _ (by omega)
    · split
      · omega
      · have := A_ce_rg hX (hG.2.1 g.toNat (by omega)) (hc h7); omega
theorem A_gt_1 {ki : Int → Int} : ∀ (n : Nat) (i : Int), A_gt ki n i 1 = 1
  | 0, _ => rfl
  | n + 1, i => by simp only [A_gt, if_true]; exact A_gt_1 n (i + 1)
theorem A_gt_0 {ki : Int → Int} : ∀ (n : Nat) (i : Int), A_gt ki n i 0 = 0 → ∀ j, i ≤ j → j < i + n → ki j = -1
  | 0, i, _, j, h1, h2 => absurd h2 (by omega)
  | n + 1, i, h, j, h1, h2 => by
    simp only [A_gt] at h
    rw [if_neg (by omega)] at h
    by_cases e : ki i = -1
    · rw [if_pos e] at h
      by_cases e2 : j = i
      · rw [e2]; exact e
      · exact A_gt_0 n (i + 1) h j (by omega) (by omega)
    · rw [if_neg e, A_gt_1] at h
      omega
theorem A_gth_0 {ki : Int → Int} {it gp : Int} (hit : 0 ≤ it) (h : A_gth ki it gp = 0) : gp = -1 ∧ ∀ j, 0 ≤ j → j < it → ki j = -1 := by
  unfold A_gth at h
  by_cases e : gp = -1
  · rw [if_pos e] at h
    exact ⟨e, fun j h0 h1 => A_gt_0 _ _ h j h0 (by omega)⟩
  · rw [if_neg e, A_gt_1] at h
    omega

theorem s_gv {w : P_Lw} (hw : P_Cw w) {d : Nat} {Q : P_R → P_A → Prop} {σ : P_A} {ns : Int} {tb : Int → Nat} {rw : Int → Int} {vr : Int → Int → Int} {cl : Int → Int} {V : Int → Int → Int → Int} (hA : A_V w σ ns tb rw vr) (hX : A_X σ ns tb rw cl V) {it : Int} {ki ci : Int → Int} {gp oi lm : Int} (hF : A_F σ ns cl it ki ci gp oi lm) (hG : A_Gr σ) {g j : Int} (hg : 0 ≤ g ∧ g ≤ 13) (hj : 0 ≤ j ∧ j < it) (q : Q (.inl (some (P_z (A_gv σ V rw ki ci g j)))) σ) : P_aw w (d + 5) 50 0 [.ref (w.2.2 33), P_z g, P_z j, P_un] [] σ Q := by
  have hit := hF.2.1
  have hns := hA.2.1
  refine P_aw_op (L' := [.ref (w.2.2 33), P_z g, P_z j, P_un]) (st' := [.ref (w.2.2 33)]) P_i50_0 rfl (show P_aw _ _ _ 1 [.ref (w.2.2 33), P_z g, P_z j, P_un] [.ref (w.2.2 33)] _ _ from ?_)
  refine P_aw_getR P_i50_1 (hw.2.1 33 (by decide)) (hw.s rfl) rfl rfl (show P_aw _ _ _ 4 [.ref (w.2.2 33), P_z g, P_z j, P_un] [.ref (w.2.2 6)] _ _ from ?_)
  refine P_aw_op (L' := [.ref (w.2.2 33), P_z g, P_z j, P_un]) (st' := [P_z j, .ref (w.2.2 6)]) P_i50_4 rfl (show P_aw _ _ _ 5 [.ref (w.2.2 33), P_z g, P_z j, P_un] [P_z j, .ref (w.2.2 6)] _ _ from ?_)
  refine P_aw_call P_i50_5 rfl rfl (fun _ => rfl) rfl rfl rfl rfl (y2 := 34) (as := [.ref (w.2.2 6), P_z j]) (r0 := []) (P_inv_v (hw.2.1 6 (by decide)) (hw.s rfl) rfl rfl) (Nat.le_of_ble_eq_true rfl) (by decide) rfl (Nat.le_of_ble_eq_true rfl) (show P_aw _ _ _ 0 [.ref (w.2.2 6), P_z j] [] _ _ from ?_)
  refine P_aw_op (L' := [.ref (w.2.2 6), P_z j]) (st' := [.ref (w.2.2 6)]) P_i34_0 rfl (show P_aw _ _ _ 1 [.ref (w.2.2 6), P_z j] [.ref (w.2.2 6)] _ _ from ?_)
  refine P_aw_getR P_i34_1 (hw.2.1 6 (by decide)) (hw.s rfl) rfl rfl (show P_aw _ _ _ 4 [.ref (w.2.2 6), P_z j] [.ref (w.2.2 7)] _ _ from ?_)
  refine P_aw_op (L' := [.ref (w.2.2 6), P_z j]) (st' := [P_z j, .ref (w.2.2 7)]) P_i34_4 rfl (show P_aw _ _ _ 5 [.ref (w.2.2 6), P_z j] [P_z j, .ref (w.2.2 7)] _ _ from ?_)
  refine P_aw_call P_i34_5 rfl rfl (fun _ => rfl) rfl rfl rfl rfl (y2 := 178) (as := [.ref (w.2.2 7), P_z j]) (r0 := []) (fun _ _ => rfl) (Nat.le_of_ble_eq_true rfl) (by decide) rfl (Nat.le_of_ble_eq_true rfl) (show P_aw _ _ _ 0 [.ref (w.2.2 7), P_z j] [] _ _ from ?_)
  refine P_aw_op (L' := [.ref (w.2.2 7), P_z j]) (st' := [P_z j]) P_i178_0 rfl (show P_aw _ _ _ 1 [.ref (w.2.2 7), P_z j] [P_z j] _ _ from ?_)
  refine P_aw_izf P_i178_1 ⟨by omega, by omega⟩ (P_ci_ltf (by omega)) (show P_aw _ _ _ 4 [.ref (w.2.2 7), P_z j] [] _ _ from ?_)
  refine P_aw_op (L' := [.ref (w.2.2 7), P_z j]) (st' := [P_z j]) P_i178_4 rfl (show P_aw _ _ _ 5 [.ref (w.2.2 7), P_z j] [P_z j] _ _ from ?_)
  refine P_aw_op (L' := [.ref (w.2.2 7), P_z j]) (st' := [.ref (w.2.2 7), P_z j]) P_i178_5 rfl (show P_aw _ _ _ 6 [.ref (w.2.2 7), P_z j] [.ref (w.2.2 7), P_z j] _ _ from ?_)
  refine P_aw_alen P_i178_6 (hw.2.1 7 (by decide)) (hw.s rfl) (show P_aw _ _ _ 7 [.ref (w.2.2 7), P_z j] [P_z 4, P_z j] _ _ from ?_)
  refine P_aw_icf P_i178_7 ⟨by omega, by omega⟩ ⟨by decide, by decide⟩ (P_ci_gef (by omega)) (show P_aw _ _ _ 10 [.ref (w.2.2 7), P_z j] [] _ _ from ?_)
  refine P_aw_op (L' := [.ref (w.2.2 7), P_z j]) (st' := [.ref (w.2.2 7)]) P_i178_10 rfl (show P_aw _ _ _ 11 [.ref (w.2.2 7), P_z j] [.ref (w.2.2 7)] _ _ from ?_)
  refine P_aw_op (L' := [.ref (w.2.2 7), P_z j]) (st' := [P_z j, .ref (w.2.2 7)]) P_i178_11 rfl (show P_aw _ _ _ 12 [.ref (w.2.2 7), P_z j] [P_z j, .ref (w.2.2 7)] _ _ from ?_)
  have hg1 := (hF.2.2.1 j (by omega) (by omega)).2.2.1
  refine P_aw_aldv P_i178_12 (hw.2.1 7 (by decide)) (hw.s rfl) (by omega) (by omega) (by decide) ((hF.2.2.1 j (by omega) (by omega)).1) (show P_aw _ _ _ 13 [.ref (w.2.2 7), P_z j] [P_z (ki j)] _ _ from ?_)
  refine P_aw_goto P_i178_13 (show P_aw _ _ _ 17 [.ref (w.2.2 7), P_z j] [P_z (ki j)] _ _ from ?_)
  refine P_aw_end P_i178_17 rfl rfl (fun _ => rfl) rfl ?_
  show P_aw _ _ _ 8 [.ref (w.2.2 6), P_z j] [P_z (ki j)] _ _
  refine P_aw_end P_i34_8 rfl rfl (fun _ => rfl) rfl ?_
  show P_aw _ _ _ 8 [.ref (w.2.2 33), P_z g, P_z j, P_un] [P_z (ki j)] _ _
  refine P_aw_op (L' := [.ref (w.2.2 33), P_z g, P_z j, P_z (ki j)]) (st' := []) P_i50_8 rfl (show P_aw _ _ _ 9 [.ref (w.2.2 33), P_z g, P_z j, P_z (ki j)] [] _ _ from ?_)
  refine P_aw_op (L' := [.ref (w.2.2 33), P_z g, P_z j, P_z (ki j)]) (st' := [P_z (ki j)]) P_i50_9 rfl (show P_aw _ _ _ 10 [.ref (w.2.2 33), P_z g, P_z j, P_z (ki j)] [P_z (ki j)] _ _ from ?_)
  refine P_aw_op (L' := [.ref (w.2.2 33), P_z g, P_z j, P_z (ki j)]) (st' := [P_z 7, P_z (ki j)]) P_i50_10 (P_o_bi (by decide)) (show P_aw _ _ _ 12 [.ref (w.2.2 33), P_z g, P_z j, P_z (ki j)] [P_z 7, P_z (ki j)] _ _ from ?_)
  by_cases hc2 : (ki j) = 7
  · refine P_aw_icf P_i50_12 ⟨by omega, by omega⟩ ⟨by decide, by decide⟩ (P_ci_nef (by omega)) (show P_aw _ _ _ 15 [.ref (w.2.2 33), P_z g, P_z j, P_z (ki j)] [] _ _ from ?_)
    refine P_aw_op (L' := [.ref (w.2.2 33), P_z g, P_z j, P_z (ki j)]) (st' := [.ref (w.2.2 33)]) P_i50_15 rfl (show P_aw _ _ _ 16 [.ref (w.2.2 33), P_z g, P_z j, P_z (ki j)] [.ref (w.2.2 33)] _ _ from ?_)
    refine P_aw_op (L' := [.ref (w.2.2 33), P_z g, P_z j, P_z (ki j)]) (st' := [P_z g, .ref (w.2.2 33)]) P_i50_16 rfl (show P_aw _ _ _ 17 [.ref (w.2.2 33), P_z g, P_z j, P_z (ki j)] [P_z g, .ref (w.2.2 33)] _ _ from ?_)
    refine P_aw_call P_i50_17 rfl rfl (fun _ => rfl) rfl rfl rfl rfl (y2 := 48) (as := [.ref (w.2.2 33), P_z g]) (r0 := []) (P_inv_v (hw.2.1 33 (by decide)) (hw.s rfl) rfl rfl) (Nat.le_of_ble_eq_true rfl) (by decide) rfl (Nat.le_of_ble_eq_true rfl) (show P_aw _ _ _ 0 [.ref (w.2.2 33), P_z g] [] _ _ from ?_)
    refine P_aw_op (L' := [.ref (w.2.2 33), P_z g]) (st' := [.ref (w.2.2 33)]) P_i48_0 rfl (show P_aw _ _ _ 1 [.ref (w.2.2 33), P_z g] [.ref (w.2.2 33)] _ _ from ?_)
    refine P_aw_getR P_i48_1 (hw.2.1 33 (by decide)) (hw.s rfl) rfl rfl (show P_aw _ _ _ 4 [.ref (w.2.2 33), P_z g] [.ref (w.2.2 34)] _ _ from ?_)
    refine P_aw_op (L' := [.ref (w.2.2 33), P_z g]) (st' := [P_z g, .ref (w.2.2 34)]) P_i48_4 rfl (show P_aw _ _ _ 5 [.ref (w.2.2 33), P_z g] [P_z g, .ref (w.2.2 34)] _ _ from ?_)
    refine P_aw_call P_i48_5 rfl rfl (fun _ => rfl) rfl rfl rfl rfl (y2 := 178) (as := [.ref (w.2.2 34), P_z g]) (r0 := []) (fun _ _ => rfl) (Nat.le_of_ble_eq_true rfl) (by decide) rfl (Nat.le_of_ble_eq_true rfl) (show P_aw _ _ _ 0 [.ref (w.2.2 34), P_z g] [] _ _ from ?_)
    refine P_aw_op (L' := [.ref (w.2.2 34), P_z g]) (st' := [P_z g]) P_i178_0 rfl (show P_aw _ _ _ 1 [.ref (w.2.2 34), P_z g] [P_z g] _ _ from ?_)
    refine P_aw_izf P_i178_1 ⟨by omega, by omega⟩ (P_ci_ltf (by omega)) (show P_aw _ _ _ 4 [.ref (w.2.2 34), P_z g] [] _ _ from ?_)
    refine P_aw_op (L' := [.ref (w.2.2 34), P_z g]) (st' := [P_z g]) P_i178_4 rfl (show P_aw _ _ _ 5 [.ref (w.2.2 34), P_z g] [P_z g] _ _ from ?_)
    refine P_aw_op (L' := [.ref (w.2.2 34), P_z g]) (st' := [.ref (w.2.2 34), P_z g]) P_i178_5 rfl (show P_aw _ _ _ 6 [.ref (w.2.2 34), P_z g] [.ref (w.2.2 34), P_z g] _ _ from ?_)
    refine P_aw_alen P_i178_6 (hw.2.1 34 (by decide)) (hw.s rfl) (show P_aw _ _ _ 7 [.ref (w.2.2 34), P_z g] [P_z 14, P_z g] _ _ from ?_)
    refine P_aw_icf P_i178_7 ⟨by omega, by omega⟩ ⟨by decide, by decide⟩ (P_ci_gef (by omega)) (show P_aw _ _ _ 10 [.ref (w.2.2 34), P_z g] [] _ _ from ?_)
    refine P_aw_op (L' := [.ref (w.2.2 34), P_z g]) (st' := [.ref (w.2.2 34)]) P_i178_10 rfl (show P_aw _ _ _ 11 [.ref (w.2.2 34), P_z g] [.ref (w.2.2 34)] _ _ from ?_)
    refine P_aw_op (L' := [.ref (w.2.2 34), P_z g]) (st' := [P_z g, .ref (w.2.2 34)]) P_i178_11 rfl (show P_aw _ _ _ 12 [.ref (w.2.2 34), P_z g] [P_z g, .ref (w.2.2 34)] _ _ from ?_)
    have hg3 := hG.1 g.toNat (by omega)
    refine P_aw_ald P_i178_12 (hw.2.1 34 (by decide)) (hw.s rfl) (by omega) (by omega) (by decide) (show P_aw _ _ _ 13 [.ref (w.2.2 34), P_z g] [P_z (σ 34 g.toNat)] _ _ from ?_)
    refine P_aw_goto P_i178_13 (show P_aw _ _ _ 17 [.ref (w.2.2 34), P_z g] [P_z (σ 34 g.toNat)] _ _ from ?_)
    refine P_aw_end P_i178_17 rfl rfl (fun _ => rfl) rfl ?_
    show P_aw _ _ _ 8 [.ref (w.2.2 33), P_z g] [P_z (σ 34 g.toNat)] _ _
    refine P_aw_end P_i48_8 rfl rfl (fun _ => rfl) rfl ?_
    show P_aw _ _ _ 20 [.ref (w.2.2 33), P_z g, P_z j, P_z (ki j)] [P_z (σ 34 g.toNat)] _ _
    refine P_aw_end P_i50_20 rfl rfl (fun _ => rfl) rfl ?_
    exact P_qz (by (try simp only [A_gv]); (repeat' split) <;> first | rfl | omega | (exfalso; omega) | (simp_all; done) | (simp_all; omega)) rfl q
  · refine P_aw_ict P_i50_12 ⟨by omega, by omega⟩ ⟨by decide, by decide⟩ (P_ci_net (by omega)) (show P_aw _ _ _ 21 [.ref (w.2.2 33), P_z g, P_z j, P_z (ki j)] [] _ _ from ?_)
    refine P_aw_op (L' := [.ref (w.2.2 33), P_z g, P_z j, P_z (ki j)]) (st' := [P_z (ki j)]) P_i50_21 rfl (show P_aw _ _ _ 22 [.ref (w.2.2 33), P_z g, P_z j, P_z (ki j)] [P_z (ki j)] _ _ from ?_)
    refine P_aw_op (L' := [.ref (w.2.2 33), P_z g, P_z j, P_z (ki j)]) (st' := [P_z 8, P_z (ki j)]) P_i50_22 (P_o_bi (by decide)) (show P_aw _ _ _ 24 [.ref (w.2.2 33), P_z g, P_z j, P_z (ki j)] [P_z 8, P_z (ki j)] _ _ from ?_)
    by_cases hc3 : (ki j) = 8
    · refine P_aw_icf P_i50_24 ⟨by omega, by omega⟩ ⟨by decide, by decide⟩ (P_ci_nef (by omega)) (show P_aw _ _ _ 27 [.ref (w.2.2 33), P_z g, P_z j, P_z (ki j)] [] _ _ from ?_)
      refine P_aw_op (L' := [.ref (w.2.2 33), P_z g, P_z j, P_z (ki j)]) (st' := [.ref (w.2.2 33)]) P_i50_27 rfl (show P_aw _ _ _ 28 [.ref (w.2.2 33), P_z g, P_z j, P_z (ki j)] [.ref (w.2.2 33)] _ _ from ?_)
      refine P_aw_getR P_i50_28 (hw.2.1 33 (by decide)) (hw.s rfl) rfl rfl (show P_aw _ _ _ 31 [.ref (w.2.2 33), P_z g, P_z j, P_z (ki j)] [.ref (w.2.2 36)] _ _ from ?_)
      refine P_aw_op (L' := [.ref (w.2.2 33), P_z g, P_z j, P_z (ki j)]) (st' := [P_z g, .ref (w.2.2 36)]) P_i50_31 rfl (show P_aw _ _ _ 32 [.ref (w.2.2 33), P_z g, P_z j, P_z (ki j)] [P_z g, .ref (w.2.2 36)] _ _ from ?_)
      refine P_aw_op (L' := [.ref (w.2.2 33), P_z g, P_z j, P_z (ki j)]) (st' := [P_z 4, P_z g, .ref (w.2.2 36)]) P_i50_32 rfl (show P_aw _ _ _ 33 [.ref (w.2.2 33), P_z g, P_z j, P_z (ki j)] [P_z 4, P_z g, .ref (w.2.2 36)] _ _ from ?_)
      refine P_aw_op (L' := [.ref (w.2.2 33), P_z g, P_z j, P_z (ki j)]) (st' := [P_z (g * 4), .ref (w.2.2 36)]) P_i50_33 P_o_imul (show P_aw _ _ _ 34 [.ref (w.2.2 33), P_z g, P_z j, P_z (ki j)] [P_z (g * 4), .ref (w.2.2 36)] _ _ from ?_)
      refine P_aw_op (L' := [.ref (w.2.2 33), P_z g, P_z j, P_z (ki j)]) (st' := [P_z j, P_z (g * 4), .ref (w.2.2 36)]) P_i50_34 rfl (show P_aw _ _ _ 35 [.ref (w.2.2 33), P_z g, P_z j, P_z (ki j)] [P_z j, P_z (g * 4), .ref (w.2.2 36)] _ _ from ?_)
      refine P_aw_op (L' := [.ref (w.2.2 33), P_z g, P_z j, P_z (ki j)]) (st' := [P_z ((g * 4) + j), .ref (w.2.2 36)]) P_i50_35 P_o_iadd (show P_aw _ _ _ 36 [.ref (w.2.2 33), P_z g, P_z j, P_z (ki j)] [P_z ((g * 4) + j), .ref (w.2.2 36)] _ _ from ?_)
      refine P_aw_call P_i50_36 rfl rfl (fun _ => rfl) rfl rfl rfl rfl (y2 := 178) (as := [.ref (w.2.2 36), P_z ((g * 4) + j)]) (r0 := []) (fun _ _ => rfl) (Nat.le_of_ble_eq_true rfl) (by decide) rfl (Nat.le_of_ble_eq_true rfl) (show P_aw _ _ _ 0 [.ref (w.2.2 36), P_z ((g * 4) + j)] [] _ _ from ?_)
      refine P_aw_op (L' := [.ref (w.2.2 36), P_z ((g * 4) + j)]) (st' := [P_z ((g * 4) + j)]) P_i178_0 rfl (show P_aw _ _ _ 1 [.ref (w.2.2 36), P_z ((g * 4) + j)] [P_z ((g * 4) + j)] _ _ from ?_)
      refine P_aw_izf P_i178_1 ⟨by omega, by omega⟩ (P_ci_ltf (by omega)) (show P_aw _ _ _ 4 [.ref (w.2.2 36), P_z ((g * 4) + j)] [] _ _ from ?_)
      refine P_aw_op (L' := [.ref (w.2.2 36), P_z ((g * 4) + j)]) (st' := [P_z ((g * 4) + j)]) P_i178_4 rfl (show P_aw _ _ _ 5 [.ref (w.2.2 36), P_z ((g * 4) + j)] [P_z ((g * 4) + j)] _ _ from ?_)
      refine P_aw_op (L' := [.ref (w.2.2 36), P_z ((g * 4) + j)]) (st' := [.ref (w.2.2 36), P_z ((g * 4) + j)]) P_i178_5 rfl (show P_aw _ _ _ 6 [.ref (w.2.2 36), P_z ((g * 4) + j)] [.ref (w.2.2 36), P_z ((g * 4) + j)] _ _ from ?_)
      refine P_aw_alen P_i178_6 (hw.2.1 36 (by decide)) (hw.s rfl) (show P_aw _ _ _ 7 [.ref (w.2.2 36), P_z ((g * 4) + j)] [P_z 56, P_z ((g * 4) + j)] _ _ from ?_)
      refine P_aw_icf P_i178_7 ⟨by omega, by omega⟩ ⟨by decide, by decide⟩ (P_ci_gef (by omega)) (show P_aw _ _ _ 10 [.ref (w.2.2 36), P_z ((g * 4) + j)] [] _ _ from ?_)
      refine P_aw_op (L' := [.ref (w.2.2 36), P_z ((g * 4) + j)]) (st' := [.ref (w.2.2 36)]) P_i178_10 rfl (show P_aw _ _ _ 11 [.ref (w.2.2 36), P_z ((g * 4) + j)] [.ref (w.2.2 36)] _ _ from ?_)
      refine P_aw_op (L' := [.ref (w.2.2 36), P_z ((g * 4) + j)]) (st' := [P_z ((g * 4) + j), .ref (w.2.2 36)]) P_i178_11 rfl (show P_aw _ _ _ 12 [.ref (w.2.2 36), P_z ((g * 4) + j)] [P_z ((g * 4) + j), .ref (w.2.2 36)] _ _ from ?_)
      refine P_aw_ald P_i178_12 (hw.2.1 36 (by decide)) (hw.s rfl) (by omega) (by omega) (by decide) (show P_aw _ _ _ 13 [.ref (w.2.2 36), P_z ((g * 4) + j)] [P_z (σ 36 ((g * 4) + j).toNat)] _ _ from ?_)
      refine P_aw_goto P_i178_13 (show P_aw _ _ _ 17 [.ref (w.2.2 36), P_z ((g * 4) + j)] [P_z (σ 36 ((g * 4) + j).toNat)] _ _ from ?_)
      refine P_aw_end P_i178_17 rfl rfl (fun _ => rfl) rfl ?_
      show P_aw _ _ _ 39 [.ref (w.2.2 33), P_z g, P_z j, P_z (ki j)] [P_z (σ 36 ((g * 4) + j).toNat)] _ _
      refine P_aw_end P_i50_39 rfl rfl (fun _ => rfl) rfl ?_
      exact P_qz (by (try simp only [A_gv]); (repeat' split) <;> first | rfl | omega | (exfalso; omega) | (simp_all; done) | (simp_all; omega)) rfl q
    · refine P_aw_ict P_i50_24 ⟨by omega, by omega⟩ ⟨by decide, by decide⟩ (P_ci_net (by omega)) (show P_aw _ _ _ 40 [.ref (w.2.2 33), P_z g, P_z j, P_z (ki j)] [] _ _ from ?_)
      refine P_aw_op (L' := [.ref (w.2.2 33), P_z g, P_z j, P_z (ki j)]) (st' := [.ref (w.2.2 33)]) P_i50_40 rfl (show P_aw _ _ _ 41 [.ref (w.2.2 33), P_z g, P_z j, P_z (ki j)] [.ref (w.2.2 33)] _ _ from ?_)
      refine P_aw_op (L' := [.ref (w.2.2 33), P_z g, P_z j, P_z (ki j)]) (st' := [P_z g, .ref (w.2.2 33)]) P_i50_41 rfl (show P_aw _ _ _ 42 [.ref (w.2.2 33), P_z g, P_z j, P_z (ki j)] [P_z g, .ref (w.2.2 33)] _ _ from ?_)
      refine P_aw_call P_i50_42 rfl rfl (fun _ => rfl) rfl rfl rfl rfl (y2 := 48) (as := [.ref (w.2.2 33), P_z g]) (r0 := []) (P_inv_v (hw.2.1 33 (by decide)) (hw.s rfl) rfl rfl) (Nat.le_of_ble_eq_true rfl) (by decide) rfl (Nat.le_of_ble_eq_true rfl) (show P_aw _ _ _ 0 [.ref (w.2.2 33), P_z g] [] _ _ from ?_)
      refine P_aw_op (L' := [.ref (w.2.2 33), P_z g]) (st' := [.ref (w.2.2 33)]) P_i48_0 rfl (show P_aw _ _ _ 1 [.ref (w.2.2 33), P_z g] [.ref (w.2.2 33)] _ _ from ?_)
      refine P_aw_getR P_i48_1 (hw.2.1 33 (by decide)) (hw.s rfl) rfl rfl (show P_aw _ _ _ 4 [.ref (w.2.2 33), P_z g] [.ref (w.2.2 34)] _ _ from ?_)
      refine P_aw_op (L' := [.ref (w.2.2 33), P_z g]) (st' := [P_z g, .ref (w.2.2 34)]) P_i48_4 rfl (show P_aw _ _ _ 5 [.ref (w.2.2 33), P_z g] [P_z g, .ref (w.2.2 34)] _ _ from ?_)
      refine P_aw_call P_i48_5 rfl rfl (fun _ => rfl) rfl rfl rfl rfl (y2 := 178) (as := [.ref (w.2.2 34), P_z g]) (r0 := []) (fun _ _ => rfl) (Nat.le_of_ble_eq_true rfl) (by decide) rfl (Nat.le_of_ble_eq_true rfl) (show P_aw _ _ _ 0 [.ref (w.2.2 34), P_z g] [] _ _ from ?_)
      refine P_aw_op (L' := [.ref (w.2.2 34), P_z g]) (st' := [P_z g]) P_i178_0 rfl (show P_aw _ _ _ 1 [.ref (w.2.2 34), P_z g] [P_z g] _ _ from ?_)
      refine P_aw_izf P_i178_1 ⟨by omega, by omega⟩ (P_ci_ltf (by omega)) (show P_aw _ _ _ 4 [.ref (w.2.2 34), P_z g] [] _ _ from ?_)
      refine P_aw_op (L' := [.ref (w.2.2 34), P_z g]) (st' := [P_z g]) P_i178_4 rfl (show P_aw _ _ _ 5 [.ref (w.2.2 34), P_z g] [P_z g] _ _ from ?_)
      refine P_aw_op (L' := [.ref (w.2.2 34), P_z g]) (st' := [.ref (w.2.2 34), P_z g]) P_i178_5 rfl (show P_aw _ _ _ 6 [.ref (w.2.2 34), P_z g] [.ref (w.2.2 34), P_z g] _ _ from ?_)
      refine P_aw_alen P_i178_6 (hw.2.1 34 (by decide)) (hw.s rfl) (show P_aw _ _ _ 7 [.ref (w.2.2 34), P_z g] [P_z 14, P_z g] _ _ from ?_)
      refine P_aw_icf P_i178_7 ⟨by omega, by omega⟩ ⟨by decide, by decide⟩ (P_ci_gef (by omega)) (show P_aw _ _ _ 10 [.ref (w.2.2 34), P_z g] [] _ _ from ?_)
      refine P_aw_op (L' := [.ref (w.2.2 34), P_z g]) (st' := [.ref (w.2.2 34)]) P_i178_10 rfl (show P_aw _ _ _ 11 [.ref (w.2.2 34), P_z g] [.ref (w.2.2 34)] _ _ from ?_)
      refine P_aw_op (L' := [.ref (w.2.2 34), P_z g]) (st' := [P_z g, .ref (w.2.2 34)]) P_i178_11 rfl (show P_aw _ _ _ 12 [.ref (w.2.2 34), P_z g] [P_z g, .ref (w.2.2 34)] _ _ from ?_)
      have hg4 := hG.1 g.toNat (by omega)
      refine P_aw_ald P_i178_12 (hw.2.1 34 (by decide)) (hw.s rfl) (by omega) (by omega) (by decide) (show P_aw _ _ _ 13 [.ref (w.2.2 34), P_z g] [P_z (σ 34 g.toNat)] _ _ from ?_)
      refine P_aw_goto P_i178_13 (show P_aw _ _ _ 17 [.ref (w.2.2 34), P_z g] [P_z (σ 34 g.toNat)] _ _ from ?_)
      refine P_aw_end P_i178_17 rfl rfl (fun _ => rfl) rfl ?_
      show P_aw _ _ _ 8 [.ref (w.2.2 33), P_z g] [P_z (σ 34 g.toNat)] _ _
      refine P_aw_end P_i48_8 rfl rfl (fun _ => rfl) rfl ?_
      show P_aw _ _ _ 45 [.ref (w.2.2 33), P_z g, P_z j, P_z (ki j)] [P_z (σ 34 g.toNat)] _ _
      by_cases hc5 : (σ 34 g.toNat) = 0
      · refine P_aw_izf P_i50_45 ⟨by omega, by omega⟩ (P_ci_nef (by omega)) (show P_aw _ _ _ 48 [.ref (w.2.2 33), P_z g, P_z j, P_z (ki j)] [] _ _ from ?_)
        refine P_aw_op (L' := [.ref (w.2.2 33), P_z g, P_z j, P_z (ki j)]) (st' := [P_z 0]) P_i50_48 rfl (show P_aw _ _ _ 49 [.ref (w.2.2 33), P_z g, P_z j, P_z (ki j)] [P_z 0] _ _ from ?_)
        refine P_aw_goto P_i50_49 (show P_aw _ _ _ 72 [.ref (w.2.2 33), P_z g, P_z j, P_z (ki j)] [P_z 0] _ _ from ?_)
        refine P_aw_end P_i50_72 rfl rfl (fun _ => rfl) rfl ?_
        exact P_qz (by (try simp only [A_gv]); (repeat' split) <;> first | rfl | omega | (exfalso; omega) | (simp_all; done) | (simp_all; omega)) rfl q
      · refine P_aw_izt P_i50_45 ⟨by omega, by omega⟩ (P_ci_net (by omega)) (show P_aw _ _ _ 52 [.ref (w.2.2 33), P_z g, P_z j, P_z (ki j)] [] _ _ from ?_)
        refine P_aw_op (L' := [.ref (w.2.2 33), P_z g, P_z j, P_z (ki j)]) (st' := [.ref (w.2.2 33)]) P_i50_52 rfl (show P_aw _ _ _ 53 [.ref (w.2.2 33), P_z g, P_z j, P_z (ki j)] [.ref (w.2.2 33)] _ _ from ?_)
        refine P_aw_op (L' := [.ref (w.2.2 33), P_z g, P_z j, P_z (ki j)]) (st' := [.ref (w.2.2 33), .ref (w.2.2 33)]) P_i50_53 rfl (show P_aw _ _ _ 54 [.ref (w.2.2 33), P_z g, P_z j, P_z (ki j)] [.ref (w.2.2 33), .ref (w.2.2 33)] _ _ from ?_)
        refine P_aw_getR P_i50_54 (hw.2.1 33 (by decide)) (hw.s rfl) rfl rfl (show P_aw _ _ _ 57 [.ref (w.2.2 33), P_z g, P_z j, P_z (ki j)] [.ref (w.2.2 35), .ref (w.2.2 33)] _ _ from ?_)
        refine P_aw_op (L' := [.ref (w.2.2 33), P_z g, P_z j, P_z (ki j)]) (st' := [P_z g, .ref (w.2.2 35), .ref (w.2.2 33)]) P_i50_57 rfl (show P_aw _ _ _ 58 [.ref (w.2.2 33), P_z g, P_z j, P_z (ki j)] [P_z g, .ref (w.2.2 35), .ref (w.2.2 33)] _ _ from ?_)
        refine P_aw_call P_i50_58 rfl rfl (fun _ => rfl) rfl rfl rfl rfl (y2 := 178) (as := [.ref (w.2.2 35), P_z g]) (r0 := [.ref (w.2.2 33)]) (fun _ _ => rfl) (Nat.le_of_ble_eq_true rfl) (by decide) rfl (Nat.le_of_ble_eq_true rfl) (show P_aw _ _ _ 0 [.ref (w.2.2 35), P_z g] [] _ _ from ?_)
        refine P_aw_op (L' := [.ref (w.2.2 35), P_z g]) (st' := [P_z g]) P_i178_0 rfl (show P_aw _ _ _ 1 [.ref (w.2.2 35), P_z g] [P_z g] _ _ from ?_)
        refine P_aw_izf P_i178_1 ⟨by omega, by omega⟩ (P_ci_ltf (by omega)) (show P_aw _ _ _ 4 [.ref (w.2.2 35), P_z g] [] _ _ from ?_)
        refine P_aw_op (L' := [.ref (w.2.2 35), P_z g]) (st' := [P_z g]) P_i178_4 rfl (show P_aw _ _ _ 5 [.ref (w.2.2 35), P_z g] [P_z g] _ _ from ?_)
        refine P_aw_op (L' := [.ref (w.2.2 35), P_z g]) (st' := [.ref (w.2.2 35), P_z g]) P_i178_5 rfl (show P_aw _ _ _ 6 [.ref (w.2.2 35), P_z g] [.ref (w.2.2 35), P_z g] _ _ from ?_)
        refine P_aw_alen P_i178_6 (hw.2.1 35 (by decide)) (hw.s rfl) (show P_aw _ _ _ 7 [.ref (w.2.2 35), P_z g] [P_z 14, P_z g] _ _ from ?_)
        refine P_aw_icf P_i178_7 ⟨by omega, by omega⟩ ⟨by decide, by decide⟩ (P_ci_gef (by omega)) (show P_aw _ _ _ 10 [.ref (w.2.2 35), P_z g] [] _ _ from ?_)
        refine P_aw_op (L' := [.ref (w.2.2 35), P_z g]) (st' := [.ref (w.2.2 35)]) P_i178_10 rfl (show P_aw _ _ _ 11 [.ref (w.2.2 35), P_z g] [.ref (w.2.2 35)] _ _ from ?_)
        refine P_aw_op (L' := [.ref (w.2.2 35), P_z g]) (st' := [P_z g, .ref (w.2.2 35)]) P_i178_11 rfl (show P_aw _ _ _ 12 [.ref (w.2.2 35), P_z g] [P_z g, .ref (w.2.2 35)] _ _ from ?_)
        have hg6 := hG.2.1 g.toNat (by omega)
        refine P_aw_ald P_i178_12 (hw.2.1 35 (by decide)) (hw.s rfl) (by omega) (by omega) (by decide) (show P_aw _ _ _ 13 [.ref (w.2.2 35), P_z g] [P_z (σ 35 g.toNat)] _ _ from ?_)
        refine P_aw_goto P_i178_13 (show P_aw _ _ _ 17 [.ref (w.2.2 35), P_z g] [P_z (σ 35 g.toNat)] _ _ from ?_)
        refine P_aw_end P_i178_17 rfl rfl (fun _ => rfl) rfl ?_
        show P_aw _ _ _ 61 [.ref (w.2.2 33), P_z g, P_z j, P_z (ki j)] [P_z (σ 35 g.toNat), .ref (w.2.2 33)] _ _
        refine P_aw_op (L' := [.ref (w.2.2 33), P_z g, P_z j, P_z (ki j)]) (st' := [.ref (w.2.2 33), P_z (σ 35 g.toNat), .ref (w.2.2 33)]) P_i50_61 rfl (show P_aw _ _ _ 62 [.ref (w.2.2 33), P_z g, P_z j, P_z (ki j)] [.ref (w.2.2 33), P_z (σ 35 g.toNat), .ref (w.2.2 33)] _ _ from ?_)
        refine P_aw_getR P_i50_62 (hw.2.1 33 (by decide)) (hw.s rfl) rfl rfl (show P_aw _ _ _ 65 [.ref (w.2.2 33), P_z g, P_z j, P_z (ki j)] [.ref (w.2.2 6), P_z (σ 35 g.toNat), .ref (w.2.2 33)] _ _ from ?_)
        refine P_aw_op (L' := [.ref (w.2.2 33), P_z g, P_z j, P_z (ki j)]) (st' := [P_z j, .ref (w.2.2 6), P_z (σ 35 g.toNat), .ref (w.2.2 33)]) P_i50_65 rfl (show P_aw _ _ _ 66 [.ref (w.2.2 33), P_z g, P_z j, P_z (ki j)] [P_z j, .ref (w.2.2 6), P_z (σ 35 g.toNat), .ref (w.2.2 33)] _ _ from ?_)
        refine P_aw_call P_i50_66 rfl rfl (fun _ => rfl) rfl rfl rfl rfl (y2 := 35) (as := [.ref (w.2.2 6), P_z j]) (r0 := [P_z (σ 35 g.toNat), .ref (w.2.2 33)]) (P_inv_v (hw.2.1 6 (by decide)) (hw.s rfl) rfl rfl) (Nat.le_of_ble_eq_true rfl) (by decide) rfl (Nat.le_of_ble_eq_true rfl) (show P_aw _ _ _ 0 [.ref (w.2.2 6), P_z j] [] _ _ from ?_)
        refine P_aw_op (L' := [.ref (w.2.2 6), P_z j]) (st' := [.ref (w.2.2 6)]) P_i35_0 rfl (show P_aw _ _ _ 1 [.ref (w.2.2 6), P_z j] [.ref (w.2.2 6)] _ _ from ?_)
        refine P_aw_getR P_i35_1 (hw.2.1 6 (by decide)) (hw.s rfl) rfl rfl (show P_aw _ _ _ 4 [.ref (w.2.2 6), P_z j] [.ref (w.2.2 8)] _ _ from ?_)
        refine P_aw_op (L' := [.ref (w.2.2 6), P_z j]) (st' := [P_z j, .ref (w.2.2 8)]) P_i35_4 rfl (show P_aw _ _ _ 5 [.ref (w.2.2 6), P_z j] [P_z j, .ref (w.2.2 8)] _ _ from ?_)
        refine P_aw_call P_i35_5 rfl rfl (fun _ => rfl) rfl rfl rfl rfl (y2 := 178) (as := [.ref (w.2.2 8), P_z j]) (r0 := []) (fun _ _ => rfl) (Nat.le_of_ble_eq_true rfl) (by decide) rfl (Nat.le_of_ble_eq_true rfl) (show P_aw _ _ _ 0 [.ref (w.2.2 8), P_z j] [] _ _ from ?_)
        refine P_aw_op (L' := [.ref (w.2.2 8), P_z j]) (st' := [P_z j]) P_i178_0 rfl (show P_aw _ _ _ 1 [.ref (w.2.2 8), P_z j] [P_z j] _ _ from ?_)
        refine P_aw_izf P_i178_1 ⟨by omega, by omega⟩ (P_ci_ltf (by omega)) (show P_aw _ _ _ 4 [.ref (w.2.2 8), P_z j] [] _ _ from ?_)
        refine P_aw_op (L' := [.ref (w.2.2 8), P_z j]) (st' := [P_z j]) P_i178_4 rfl (show P_aw _ _ _ 5 [.ref (w.2.2 8), P_z j] [P_z j] _ _ from ?_)
        refine P_aw_op (L' := [.ref (w.2.2 8), P_z j]) (st' := [.ref (w.2.2 8), P_z j]) P_i178_5 rfl (show P_aw _ _ _ 6 [.ref (w.2.2 8), P_z j] [.ref (w.2.2 8), P_z j] _ _ from ?_)
        refine P_aw_alen P_i178_6 (hw.2.1 8 (by decide)) (hw.s rfl) (show P_aw _ _ _ 7 [.ref (w.2.2 8), P_z j] [P_z 4, P_z j] _ _ from ?_)
        refine P_aw_icf P_i178_7 ⟨by omega, by omega⟩ ⟨by decide, by decide⟩ (P_ci_gef (by omega)) (show P_aw _ _ _ 10 [.ref (w.2.2 8), P_z j] [] _ _ from ?_)
        refine P_aw_op (L' := [.ref (w.2.2 8), P_z j]) (st' := [.ref (w.2.2 8)]) P_i178_10 rfl (show P_aw _ _ _ 11 [.ref (w.2.2 8), P_z j] [.ref (w.2.2 8)] _ _ from ?_)
        refine P_aw_op (L' := [.ref (w.2.2 8), P_z j]) (st' := [P_z j, .ref (w.2.2 8)]) P_i178_11 rfl (show P_aw _ _ _ 12 [.ref (w.2.2 8), P_z j] [P_z j, .ref (w.2.2 8)] _ _ from ?_)
        have hg7 := (hF.2.2.1 j (by omega) (by omega)).2.2.2.2 (by omega)
        refine P_aw_aldv P_i178_12 (hw.2.1 8 (by decide)) (hw.s rfl) (by omega) (by omega) (by decide) ((hF.2.2.1 j (by omega) (by omega)).2.1) (show P_aw _ _ _ 13 [.ref (w.2.2 8), P_z j] [P_z (ci j)] _ _ from ?_)
        refine P_aw_goto P_i178_13 (show P_aw _ _ _ 17 [.ref (w.2.2 8), P_z j] [P_z (ci j)] _ _ from ?_)
        refine P_aw_end P_i178_17 rfl rfl (fun _ => rfl) rfl ?_
        show P_aw _ _ _ 8 [.ref (w.2.2 6), P_z j] [P_z (ci j)] _ _
        refine P_aw_end P_i35_8 rfl rfl (fun _ => rfl) rfl ?_
        show P_aw _ _ _ 69 [.ref (w.2.2 33), P_z g, P_z j, P_z (ki j)] [P_z (ci j), P_z (σ 35 g.toNat), .ref (w.2.2 33)] _ _
        have hk8 := (hF.2.2.1 j (by omega) (by omega)).2.2.2.2 (by omega)
        have hp8 := A_ce_rg (m := (σ 35 g.toNat)) hX (by omega) hk8
        refine P_aw_call P_i50_69 rfl rfl (fun _ => rfl) rfl rfl rfl rfl (y2 := 51) (as := [.ref (w.2.2 33), P_z (σ 35 g.toNat), P_z (ci j)]) (r0 := []) (P_inv_v (hw.2.1 33 (by decide)) (hw.s rfl) rfl rfl) (Nat.le_of_ble_eq_true rfl) (by decide) rfl (Nat.le_of_ble_eq_true rfl) (s_cel hw hA hX (by omega) hk8 ?_)
        show P_aw _ _ _ 72 [.ref (w.2.2 33), P_z g, P_z j, P_z (ki j)] [P_z (A_ce V rw (σ 35 g.toNat) (ci j))] _ _
        refine P_aw_end P_i50_72 rfl rfl (fun _ => rfl) rfl ?_
        exact P_qz (by (try simp only [A_gv]); (repeat' split) <;> first | rfl | omega | (exfalso; omega) | (simp_all; done) | (simp_all; omega)) rfl q

theorem s_av {w : P_Lw} (hw : P_Cw w) {d : Nat} {Q : P_R → P_A → Prop} {σ : P_A} {ns : Int} {tb : Int → Nat} {rw : Int → Int} {vr : Int → Int → Int} {cl : Int → Int} {V : Int → Int → Int → Int} (hA : A_V w σ ns tb rw vr) (hX : A_X σ ns tb rw cl V) {it : Int} {ki ci : Int → Int} {gp oi lm : Int} (hF : A_F σ ns cl it ki ci gp oi lm) (hGr : A_gth ki it gp = 1 → A_Gr σ) {p j : Int} (hp : 0 ≤ p ∧ p < 2744) (hj : 0 ≤ j ∧ j < it) (hfd : (0 ≤ σ 37 p.toNat ∧ σ 37 p.toNat ≤ 2743) ∧ (A_gth ki it gp = 1 → 0 ≤ σ 37 p.toNat ∧ σ 37 p.toNat ≤ 13)) (q : Q (.inl (some (P_z (A_av σ V rw ki ci (A_gth ki it gp) p j)))) σ) : P_aw w (d + 6) 8 0 [.ref (w.2.2 31), P_z p, P_z j, P_un] [] σ Q := by
  have hit := hF.2.1
  have hns := hA.2.1
  refine P_aw_op (L' := [.ref (w.2.2 31), P_z p, P_z j, P_un]) (st' := [.ref (w.2.2 31)]) P_i8_0 rfl (show P_aw _ _ _ 1 [.ref (w.2.2 31), P_z p, P_z j, P_un] [.ref (w.2.2 31)] _ _ from ?_)
  refine P_aw_getR P_i8_1 (hw.2.1 31 (by decide)) (hw.s rfl) rfl rfl (show P_aw _ _ _ 4 [.ref (w.2.2 31), P_z p, P_z j, P_un] [.ref (w.2.2 37)] _ _ from ?_)
  refine P_aw_op (L' := [.ref (w.2.2 31), P_z p, P_z j, P_un]) (st' := [P_z p, .ref (w.2.2 37)]) P_i8_4 rfl (show P_aw _ _ _ 5 [.ref (w.2.2 31), P_z p, P_z j, P_un] [P_z p, .ref (w.2.2 37)] _ _ from ?_)
  refine P_aw_call P_i8_5 rfl rfl (fun _ => rfl) rfl rfl rfl rfl (y2 := 178) (as := [.ref (w.2.2 37), P_z p]) (r0 := []) (fun _ _ => rfl) (Nat.le_of_ble_eq_true rfl) (by decide) rfl (Nat.le_of_ble_eq_true rfl) (show P_aw _ _ _ 0 [.ref (w.2.2 37), P_z p] [] _ _ from ?_)
  refine P_aw_op (L' := [.ref (w.2.2 37), P_z p]) (st' := [P_z p]) P_i178_0 rfl (show P_aw _ _ _ 1 [.ref (w.2.2 37), P_z p] [P_z p] _ _ from ?_)
  refine P_aw_izf P_i178_1 ⟨by omega, by omega⟩ (P_ci_ltf (by omega)) (show P_aw _ _ _ 4 [.ref (w.2.2 37), P_z p] [] _ _ from ?_)
  refine P_aw_op (L' := [.ref (w.2.2 37), P_z p]) (st' := [P_z p]) P_i178_4 rfl (show P_aw _ _ _ 5 [.ref (w.2.2 37), P_z p] [P_z p] _ _ from ?_)
  refine P_aw_op (L' := [.ref (w.2.2 37), P_z p]) (st' := [.ref (w.2.2 37), P_z p]) P_i178_5 rfl (show P_aw _ _ _ 6 [.ref (w.2.2 37), P_z p] [.ref (w.2.2 37), P_z p] _ _ from ?_)
  refine P_aw_alen P_i178_6 (hw.2.1 37 (by decide)) (hw.s rfl) (show P_aw _ _ _ 7 [.ref (w.2.2 37), P_z p] [P_z 2744, P_z p] _ _ from ?_)
  refine P_aw_icf P_i178_7 ⟨by omega, by omega⟩ ⟨by decide, by decide⟩ (P_ci_gef (by omega)) (show P_aw _ _ _ 10 [.ref (w.2.2 37), P_z p] [] _ _ from ?_)
  refine P_aw_op (L' := [.ref (w.2.2 37), P_z p]) (st' := [.ref (w.2.2 37)]) P_i178_10 rfl (show P_aw _ _ _ 11 [.ref (w.2.2 37), P_z p] [.ref (w.2.2 37)] _ _ from ?_)
  refine P_aw_op (L' := [.ref (w.2.2 37), P_z p]) (st' := [P_z p, .ref (w.2.2 37)]) P_i178_11 rfl (show P_aw _ _ _ 12 [.ref (w.2.2 37), P_z p] [P_z p, .ref (w.2.2 37)] _ _ from ?_)
  have hg1 := hfd.1
  refine P_aw_ald P_i178_12 (hw.2.1 37 (by decide)) (hw.s rfl) (by omega) (by omega) (by decide) (show P_aw _ _ _ 13 [.ref (w.2.2 37), P_z p] [P_z (σ 37 p.toNat)] _ _ from ?_)
  refine P_aw_goto P_i178_13 (show P_aw _ _ _ 17 [.ref (w.2.2 37), P_z p] [P_z (σ 37 p.toNat)] _ _ from ?_)
  refine P_aw_end P_i178_17 rfl rfl (fun _ => rfl) rfl ?_
  show P_aw _ _ _ 8 [.ref (w.2.2 31), P_z p, P_z j, P_un] [P_z (σ 37 p.toNat)] _ _
  refine P_aw_op (L' := [.ref (w.2.2 31), P_z p, P_z j, P_z (σ 37 p.toNat)]) (st' := []) P_i8_8 rfl (show P_aw _ _ _ 9 [.ref (w.2.2 31), P_z p, P_z j, P_z (σ 37 p.toNat)] [] _ _ from ?_)
  refine P_aw_op (L' := [.ref (w.2.2 31), P_z p, P_z j, P_z (σ 37 p.toNat)]) (st' := [.ref (w.2.2 31)]) P_i8_9 rfl (show P_aw _ _ _ 10 [.ref (w.2.2 31), P_z p, P_z j, P_z (σ 37 p.toNat)] [.ref (w.2.2 31)] _ _ from ?_)
  refine P_aw_getR P_i8_10 (hw.2.1 31 (by decide)) (hw.s rfl) rfl rfl (show P_aw _ _ _ 13 [.ref (w.2.2 31), P_z p, P_z j, P_z (σ 37 p.toNat)] [.ref (w.2.2 6)] _ _ from ?_)
  have hp2 := A_gth_rg (ki := ki) (it := it) (gp := gp)
  refine P_aw_call P_i8_13 rfl rfl (fun _ => rfl) rfl rfl rfl rfl (y2 := 42) (as := [.ref (w.2.2 6)]) (r0 := []) (P_inv_v (hw.2.1 6 (by decide)) (hw.s rfl) rfl rfl) (Nat.le_of_ble_eq_true rfl) (by decide) rfl (Nat.le_of_ble_eq_true rfl) (s_gth hw hF ?_)
  show P_aw _ _ _ 16 [.ref (w.2.2 31), P_z p, P_z j, P_z (σ 37 p.toNat)] [P_z (A_gth ki it gp)] _ _
  by_cases hc3 : (A_gth ki it gp) = 0
  · refine P_aw_izt P_i8_16 ⟨by omega, by omega⟩ (P_ci_eqt (by omega)) (show P_aw _ _ _ 29 [.ref (w.2.2 31), P_z p, P_z j, P_z (σ 37 p.toNat)] [] _ _ from ?_)
    refine P_aw_op (L' := [.ref (w.2.2 31), P_z p, P_z j, P_z (σ 37 p.toNat)]) (st' := [.ref (w.2.2 31)]) P_i8_29 rfl (show P_aw _ _ _ 30 [.ref (w.2.2 31), P_z p, P_z j, P_z (σ 37 p.toNat)] [.ref (w.2.2 31)] _ _ from ?_)
    refine P_aw_getR P_i8_30 (hw.2.1 31 (by decide)) (hw.s rfl) rfl rfl (show P_aw _ _ _ 33 [.ref (w.2.2 31), P_z p, P_z j, P_z (σ 37 p.toNat)] [.ref (w.2.2 33)] _ _ from ?_)
    refine P_aw_op (L' := [.ref (w.2.2 31), P_z p, P_z j, P_z (σ 37 p.toNat)]) (st' := [P_z (σ 37 p.toNat), .ref (w.2.2 33)]) P_i8_33 rfl (show P_aw _ _ _ 34 [.ref (w.2.2 31), P_z p, P_z j, P_z (σ 37 p.toNat)] [P_z (σ 37 p.toNat), .ref (w.2.2 33)] _ _ from ?_)
    refine P_aw_op (L' := [.ref (w.2.2 31), P_z p, P_z j, P_z (σ 37 p.toNat)]) (st' := [.ref (w.2.2 31), P_z (σ 37 p.toNat), .ref (w.2.2 33)]) P_i8_34 rfl (show P_aw _ _ _ 35 [.ref (w.2.2 31), P_z p, P_z j, P_z (σ 37 p.toNat)] [.ref (w.2.2 31), P_z (σ 37 p.toNat), .ref (w.2.2 33)] _ _ from ?_)
    refine P_aw_getR P_i8_35 (hw.2.1 31 (by decide)) (hw.s rfl) rfl rfl (show P_aw _ _ _ 38 [.ref (w.2.2 31), P_z p, P_z j, P_z (σ 37 p.toNat)] [.ref (w.2.2 6), P_z (σ 37 p.toNat), .ref (w.2.2 33)] _ _ from ?_)
    refine P_aw_op (L' := [.ref (w.2.2 31), P_z p, P_z j, P_z (σ 37 p.toNat)]) (st' := [P_z j, .ref (w.2.2 6), P_z (σ 37 p.toNat), .ref (w.2.2 33)]) P_i8_38 rfl (show P_aw _ _ _ 39 [.ref (w.2.2 31), P_z p, P_z j, P_z (σ 37 p.toNat)] [P_z j, .ref (w.2.2 6), P_z (σ 37 p.toNat), .ref (w.2.2 33)] _ _ from ?_)
    refine P_aw_call P_i8_39 rfl rfl (fun _ => rfl) rfl rfl rfl rfl (y2 := 35) (as := [.ref (w.2.2 6), P_z j]) (r0 := [P_z (σ 37 p.toNat), .ref (w.2.2 33)]) (P_inv_v (hw.2.1 6 (by decide)) (hw.s rfl) rfl rfl) (Nat.le_of_ble_eq_true rfl) (by decide) rfl (Nat.le_of_ble_eq_true rfl) (show P_aw _ _ _ 0 [.ref (w.2.2 6), P_z j] [] _ _ from ?_)
    refine P_aw_op (L' := [.ref (w.2.2 6), P_z j]) (st' := [.ref (w.2.2 6)]) P_i35_0 rfl (show P_aw _ _ _ 1 [.ref (w.2.2 6), P_z j] [.ref (w.2.2 6)] _ _ from ?_)
    refine P_aw_getR P_i35_1 (hw.2.1 6 (by decide)) (hw.s rfl) rfl rfl (show P_aw _ _ _ 4 [.ref (w.2.2 6), P_z j] [.ref (w.2.2 8)] _ _ from ?_)
    refine P_aw_op (L' := [.ref (w.2.2 6), P_z j]) (st' := [P_z j, .ref (w.2.2 8)]) P_i35_4 rfl (show P_aw _ _ _ 5 [.ref (w.2.2 6), P_z j] [P_z j, .ref (w.2.2 8)] _ _ from ?_)
    refine P_aw_call P_i35_5 rfl rfl (fun _ => rfl) rfl rfl rfl rfl (y2 := 178) (as := [.ref (w.2.2 8), P_z j]) (r0 := []) (fun _ _ => rfl) (Nat.le_of_ble_eq_true rfl) (by decide) rfl (Nat.le_of_ble_eq_true rfl) (show P_aw _ _ _ 0 [.ref (w.2.2 8), P_z j] [] _ _ from ?_)
    refine P_aw_op (L' := [.ref (w.2.2 8), P_z j]) (st' := [P_z j]) P_i178_0 rfl (show P_aw _ _ _ 1 [.ref (w.2.2 8), P_z j] [P_z j] _ _ from ?_)
    refine P_aw_izf P_i178_1 ⟨by omega, by omega⟩ (P_ci_ltf (by omega)) (show P_aw _ _ _ 4 [.ref (w.2.2 8), P_z j] [] _ _ from ?_)
    refine P_aw_op (L' := [.ref (w.2.2 8), P_z j]) (st' := [P_z j]) P_i178_4 rfl (show P_aw _ _ _ 5 [.ref (w.2.2 8), P_z j] [P_z j] _ _ from ?_)
    refine P_aw_op (L' := [.ref (w.2.2 8), P_z j]) (st' := [.ref (w.2.2 8), P_z j]) P_i178_5 rfl (show P_aw _ _ _ 6 [.ref (w.2.2 8), P_z j] [.ref (w.2.2 8), P_z j] _ _ from ?_)
    refine P_aw_alen P_i178_6 (hw.2.1 8 (by decide)) (hw.s rfl) (show P_aw _ _ _ 7 [.ref (w.2.2 8), P_z j] [P_z 4, P_z j] _ _ from ?_)
    refine P_aw_icf P_i178_7 ⟨by omega, by omega⟩ ⟨by decide, by decide⟩ (P_ci_gef (by omega)) (show P_aw _ _ _ 10 [.ref (w.2.2 8), P_z j] [] _ _ from ?_)
    refine P_aw_op (L' := [.ref (w.2.2 8), P_z j]) (st' := [.ref (w.2.2 8)]) P_i178_10 rfl (show P_aw _ _ _ 11 [.ref (w.2.2 8), P_z j] [.ref (w.2.2 8)] _ _ from ?_)
    refine P_aw_op (L' := [.ref (w.2.2 8), P_z j]) (st' := [P_z j, .ref (w.2.2 8)]) P_i178_11 rfl (show P_aw _ _ _ 12 [.ref (w.2.2 8), P_z j] [P_z j, .ref (w.2.2 8)] _ _ from ?_)
    have hg4 := (hF.2.2.1 j (by omega) (by omega)).2.2.2.1
    refine P_aw_aldv P_i178_12 (hw.2.1 8 (by decide)) (hw.s rfl) (by omega) (by omega) (by decide) ((hF.2.2.1 j (by omega) (by omega)).2.1) (show P_aw _ _ _ 13 [.ref (w.2.2 8), P_z j] [P_z (ci j)] _ _ from ?_)
    refine P_aw_goto P_i178_13 (show P_aw _ _ _ 17 [.ref (w.2.2 8), P_z j] [P_z (ci j)] _ _ from ?_)
    refine P_aw_end P_i178_17 rfl rfl (fun _ => rfl) rfl ?_
    show P_aw _ _ _ 8 [.ref (w.2.2 6), P_z j] [P_z (ci j)] _ _
    refine P_aw_end P_i35_8 rfl rfl (fun _ => rfl) rfl ?_
    show P_aw _ _ _ 42 [.ref (w.2.2 31), P_z p, P_z j, P_z (σ 37 p.toNat)] [P_z (ci j), P_z (σ 37 p.toNat), .ref (w.2.2 33)] _ _
    have hk5 := (hF.2.2.1 j (by omega) (by omega)).2.2.2.2 (by have := (A_gth_0 (by omega) (show A_gth ki it gp = 0 by omega)).2 j (by omega) (by omega); omega)
    refine P_aw_call P_i8_42 rfl rfl (fun _ => rfl) rfl rfl rfl rfl (y2 := 51) (as := [.ref (w.2.2 33), P_z (σ 37 p.toNat), P_z (ci j)]) (r0 := []) (P_inv_v (hw.2.1 33 (by decide)) (hw.s rfl) rfl rfl) (Nat.le_of_ble_eq_true rfl) (by decide) rfl (Nat.le_of_ble_eq_true rfl) (s_cel hw hA hX (by omega) hk5 ?_)
    show P_aw _ _ _ 45 [.ref (w.2.2 31), P_z p, P_z j, P_z (σ 37 p.toNat)] [P_z (A_ce V rw (σ 37 p.toNat) (ci j))] _ _
    refine P_aw_end P_i8_45 rfl rfl (fun _ => rfl) rfl ?_
    exact P_qz (by unfold A_av; first | rw [if_pos (by omega)] | rw [if_neg (by omega)]) rfl q
  · refine P_aw_izf P_i8_16 ⟨by omega, by omega⟩ (P_ci_eqf (by omega)) (show P_aw _ _ _ 19 [.ref (w.2.2 31), P_z p, P_z j, P_z (σ 37 p.toNat)] [] _ _ from ?_)
    refine P_aw_op (L' := [.ref (w.2.2 31), P_z p, P_z j, P_z (σ 37 p.toNat)]) (st' := [.ref (w.2.2 31)]) P_i8_19 rfl (show P_aw _ _ _ 20 [.ref (w.2.2 31), P_z p, P_z j, P_z (σ 37 p.toNat)] [.ref (w.2.2 31)] _ _ from ?_)
    refine P_aw_getR P_i8_20 (hw.2.1 31 (by decide)) (hw.s rfl) rfl rfl (show P_aw _ _ _ 23 [.ref (w.2.2 31), P_z p, P_z j, P_z (σ 37 p.toNat)] [.ref (w.2.2 33)] _ _ from ?_)
    refine P_aw_op (L' := [.ref (w.2.2 31), P_z p, P_z j, P_z (σ 37 p.toNat)]) (st' := [P_z (σ 37 p.toNat), .ref (w.2.2 33)]) P_i8_23 rfl (show P_aw _ _ _ 24 [.ref (w.2.2 31), P_z p, P_z j, P_z (σ 37 p.toNat)] [P_z (σ 37 p.toNat), .ref (w.2.2 33)] _ _ from ?_)
    refine P_aw_op (L' := [.ref (w.2.2 31), P_z p, P_z j, P_z (σ 37 p.toNat)]) (st' := [P_z j, P_z (σ 37 p.toNat), .ref (w.2.2 33)]) P_i8_24 rfl (show P_aw _ _ _ 25 [.ref (w.2.2 31), P_z p, P_z j, P_z (σ 37 p.toNat)] [P_z j, P_z (σ 37 p.toNat), .ref (w.2.2 33)] _ _ from ?_)
    refine P_aw_call P_i8_25 rfl rfl (fun _ => rfl) rfl rfl rfl rfl (y2 := 50) (as := [.ref (w.2.2 33), P_z (σ 37 p.toNat), P_z j]) (r0 := []) (P_inv_v (hw.2.1 33 (by decide)) (hw.s rfl) rfl rfl) (Nat.le_of_ble_eq_true rfl) (by decide) rfl (Nat.le_of_ble_eq_true rfl) (s_gv hw hA hX hF (hGr (by omega)) (hfd.2 (by omega)) hj ?_)
    show P_aw _ _ _ 28 [.ref (w.2.2 31), P_z p, P_z j, P_z (σ 37 p.toNat)] [P_z (A_gv σ V rw ki ci (σ 37 p.toNat) j)] _ _
    refine P_aw_end P_i8_28 rfl rfl (fun _ => rfl) rfl ?_
    exact P_qz (by unfold A_av; first | rw [if_pos (by omega)] | rw [if_neg (by omega)]) rfl q
