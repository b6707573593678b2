/-! the class, written by wip/c1.py: 79.chg -/
/-- what a change of the plan leaves alone -/
def A_fch (σ σ' : P_A) : Prop := ∀ a b, ¬ (a = 13 ∧ (b = 4 ∨ b = 5)) → ¬ (15 ≤ a ∧ a < 29) → a ≠ 44 → ¬ (a = 31 ∧ b = 16) → σ' a b = σ a b
/-- the lows by an order -/
def A_lows (od : Int → Int) (cs : List A_cd) : List A_cd := cs.map (fun x => A_lvl x (A_lw od x))
theorem A_lc_map {f : A_cd → A_cd} {cs : List A_cd} {j : Int} {g : Nat} (h : 0 ≤ j ∧ j < (cs.length : Int)) : A_lc (cs.map f) j g = A_cf (f (cs.getD j.toNat (0, 0, 0, 0))) g := by
  have hk : j.toNat < cs.length := by omega
  unfold A_lc
  rw [List.getD_eq_getElem?_getD, List.getD_eq_getElem?_getD, List.getElem?_map, List.getElem?_eq_getElem hk]
  rfl
theorem A_KL_bi {σ : P_A} {ns s : Int} {cs : List A_cd} (hK : A_KL σ cs) (hok : A_oks ns cs) : A_KL (A_bi σ s (cs.length : Int) (fun i => A_lc cs i 0) (fun i => A_lc cs i 2)) (A_lows (A_od s) cs) := by
  have hz := hK.2.1
  have hl : ((A_lows (A_od s) cs).length : Int) = (cs.length : Int) := by simp [A_lows]
  refine ⟨(A_bi_ne (by omega) (by omega)).trans (by rw [hl]; exact hK.1), by rw [hl]; exact hz, fun j f a0 a1 a2 => ?_⟩
  rw [hl] at a1
  have hb := hK.2.2 j f a0 a1 a2
  unfold A_lows
  rw [A_lc_map ⟨a0, a1⟩]
  match f, a2 with
  | 0, _ => rw [A_bi_ne (by omega) (by omega)]; exact hb
  | 1, _ => rw [A_bi_ne (by omega) (by omega)]; exact hb
  | 2, _ => rw [A_bi_ne (by omega) (by omega)]; exact hb
  | 3, _ =>
    unfold A_bi
    rw [A_lev_at a0 a1]
    rfl
  | f + 4, h => exact absurd h (by omega)
theorem s_rw0 {w : P_Lw} (hw : P_Cw w) {d : Nat} {Q : P_R → P_A → Prop} {σ : P_A} {ns : Int} {tb : Int → Nat} {rw : Int → Int} {vr : Int → Int → Int} {cl : Int → Int} {V : Int → Int → Int → Int} {cs : List A_cd} {od : Int → Int} {it : Int} {ki ci : Int → Int} {gp oi lm : Int} {nv : Int} (hB : A_B w σ ns tb rw vr cl V cs od it ki ci gp oi lm nv)  (q : ∀ σ', A_fch σ σ' → A_KL σ' (cs.filter A_keep) → A_O σ' ns od → σ' 13 5 = nv → σ' 31 16 = 0 → Q (.inl (some (P_z ((cs.length : Int) - ((cs.filter A_keep).length : Int))))) σ') : P_aw w (d + 10) 147 0 [.ref (w.2.2 0), P_z 0, P_un] [] σ Q := by
  obtain ⟨hA, hX, hF, hK, hO, hok, htk, hN, hn01, hrd1, hfp⟩ := id hB
  have hns := hA.2.1
  have hit := hF.2.1
  have hsz0 := hK.2.1
  refine P_aw_op (L' := [.ref (w.2.2 0), P_z 0, P_un]) (st' := [.ref (w.2.2 0)]) P_i147_0 rfl (show P_aw _ _ _ 1 [.ref (w.2.2 0), P_z 0, P_un] [.ref (w.2.2 0)] _ _ from ?_)
  refine P_aw_call P_i147_1 rfl rfl (fun _ => rfl) rfl rfl rfl rfl (y2 := 168) (as := [.ref (w.2.2 0)]) (r0 := []) (P_inv_v (hw.2.1 0 (by decide)) (hw.s rfl) rfl rfl) (Nat.le_of_ble_eq_true rfl) (by decide) rfl (Nat.le_of_ble_eq_true rfl) (show P_aw _ _ _ 0 [.ref (w.2.2 0)] [] _ _ from ?_)
  refine P_aw_op (L' := [.ref (w.2.2 0)]) (st' := [.ref (w.2.2 0)]) P_i168_0 rfl (show P_aw _ _ _ 1 [.ref (w.2.2 0)] [.ref (w.2.2 0)] _ _ from ?_)
  refine P_aw_getR P_i168_1 (hw.2.1 0 (by decide)) (hw.s rfl) rfl rfl (show P_aw _ _ _ 4 [.ref (w.2.2 0)] [.ref (w.2.2 29)] _ _ from ?_)
  refine P_aw_call P_i168_4 rfl rfl (fun _ => rfl) rfl rfl rfl rfl (y2 := 92) (as := [.ref (w.2.2 29)]) (r0 := []) (P_inv_v (hw.2.1 29 (by decide)) (hw.s rfl) rfl rfl) (Nat.le_of_ble_eq_true rfl) (by decide) rfl (Nat.le_of_ble_eq_true rfl) (show P_aw _ _ _ 0 [.ref (w.2.2 29)] [] _ _ from ?_)
  refine P_aw_op (L' := [.ref (w.2.2 29)]) (st' := [.ref (w.2.2 29)]) P_i92_0 rfl (show P_aw _ _ _ 1 [.ref (w.2.2 29)] [.ref (w.2.2 29)] _ _ from ?_)
  refine P_aw_getv P_i92_1 (hw.2.1 29 (by decide)) (hw.s rfl) rfl rfl (hrd1) (show P_aw _ _ _ 4 [.ref (w.2.2 29)] [P_z 1] _ _ from ?_)
  refine P_aw_end P_i92_4 rfl rfl (fun _ => rfl) rfl ?_
  show P_aw _ _ _ 7 [.ref (w.2.2 0)] [P_z 1] _ _
  refine P_aw_izt P_i168_7 ⟨by decide, by decide⟩ (P_ci_net (by omega)) (show P_aw _ _ _ 21 [.ref (w.2.2 0)] [] _ _ from ?_)
  refine P_aw_end P_i168_21 rfl rfl (fun _ => rfl) rfl ?_
  show P_aw _ _ _ 4 [.ref (w.2.2 0), P_z 0, P_un] [] _ _
  refine P_aw_op (L' := [.ref (w.2.2 0), P_z 0, P_un]) (st' := [P_z 0]) P_i147_4 rfl (show P_aw _ _ _ 5 [.ref (w.2.2 0), P_z 0, P_un] [P_z 0] _ _ from ?_)
  refine P_aw_izf P_i147_5 ⟨by decide, by decide⟩ (P_ci_ltf (by omega)) (show P_aw _ _ _ 8 [.ref (w.2.2 0), P_z 0, P_un] [] _ _ from ?_)
  refine P_aw_op (L' := [.ref (w.2.2 0), P_z 0, P_un]) (st' := [P_z 0]) P_i147_8 rfl (show P_aw _ _ _ 9 [.ref (w.2.2 0), P_z 0, P_un] [P_z 0] _ _ from ?_)
  refine P_aw_op (L' := [.ref (w.2.2 0), P_z 0, P_un]) (st' := [P_z 3, P_z 0]) P_i147_9 rfl (show P_aw _ _ _ 10 [.ref (w.2.2 0), P_z 0, P_un] [P_z 3, P_z 0] _ _ from ?_)
  refine P_aw_ict P_i147_10 ⟨by decide, by decide⟩ ⟨by decide, by decide⟩ (P_ci_let (by omega)) (show P_aw _ _ _ 23 [.ref (w.2.2 0), P_z 0, P_un] [] _ _ from ?_)
  refine P_aw_op (L' := [.ref (w.2.2 0), P_z 0, P_un]) (st' := [.ref (w.2.2 0)]) P_i147_23 rfl (show P_aw _ _ _ 24 [.ref (w.2.2 0), P_z 0, P_un] [.ref (w.2.2 0)] _ _ from ?_)
  refine P_aw_getR P_i147_24 (hw.2.1 0 (by decide)) (hw.s rfl) rfl rfl (show P_aw _ _ _ 27 [.ref (w.2.2 0), P_z 0, P_un] [.ref (w.2.2 13)] _ _ from ?_)
  refine P_aw_op (L' := [.ref (w.2.2 0), P_z 0, P_un]) (st' := [P_z 0, .ref (w.2.2 13)]) P_i147_27 rfl (show P_aw _ _ _ 28 [.ref (w.2.2 0), P_z 0, P_un] [P_z 0, .ref (w.2.2 13)] _ _ from ?_)
  refine P_aw_call P_i147_28 rfl rfl (fun _ => rfl) rfl rfl rfl rfl (y2 := 70) (as := [.ref (w.2.2 13), P_z 0]) (r0 := []) (P_inv_v (hw.2.1 13 (by decide)) (hw.s rfl) rfl rfl) (Nat.le_of_ble_eq_true rfl) (by decide) rfl (Nat.le_of_ble_eq_true rfl) (show P_aw _ _ _ 0 [.ref (w.2.2 13), P_z 0] [] _ _ from ?_)
  refine P_aw_op (L' := [.ref (w.2.2 13), P_z 0]) (st' := [P_z 0]) P_i70_0 rfl (show P_aw _ _ _ 1 [.ref (w.2.2 13), P_z 0] [P_z 0] _ _ from ?_)
  refine P_aw_sw P_i70_1 (by decide +kernel) (show P_aw _ _ _ 28 [.ref (w.2.2 13), P_z 0] [] _ _ from ?_)
  refine P_aw_op (L' := [.ref (w.2.2 13), P_z 0]) (st' := [.ref (w.2.2 13)]) P_i70_28 rfl (show P_aw _ _ _ 29 [.ref (w.2.2 13), P_z 0] [.ref (w.2.2 13)] _ _ from ?_)
  refine P_aw_call P_i70_29 rfl rfl (fun _ => rfl) rfl rfl rfl rfl (y2 := 71) (as := [.ref (w.2.2 13)]) (r0 := []) (P_inv_v (hw.2.1 13 (by decide)) (hw.s rfl) rfl rfl) (Nat.le_of_ble_eq_true rfl) (by decide) rfl (Nat.le_of_ble_eq_true rfl) (s_dt hw hK hok (fun σ2 k1 k2 => ?_))
  show P_aw _ _ _ 32 [.ref (w.2.2 13), P_z 0] [P_z ((cs.length : Int) - ((cs.filter A_keep).length : Int))] _ _
  refine P_aw_end P_i70_32 rfl rfl (fun _ => rfl) rfl ?_
  show P_aw _ _ _ 31 [.ref (w.2.2 0), P_z 0, P_un] [P_z ((cs.length : Int) - ((cs.filter A_keep).length : Int))] _ _
  refine P_aw_op (L' := [.ref (w.2.2 0), P_z 0, P_z ((cs.length : Int) - ((cs.filter A_keep).length : Int))]) (st' := []) P_i147_31 rfl (show P_aw _ _ _ 32 [.ref (w.2.2 0), P_z 0, P_z ((cs.length : Int) - ((cs.filter A_keep).length : Int))] [] _ _ from ?_)
  refine P_aw_op (L' := [.ref (w.2.2 0), P_z 0, P_z ((cs.length : Int) - ((cs.filter A_keep).length : Int))]) (st' := [.ref (w.2.2 0)]) P_i147_32 rfl (show P_aw _ _ _ 33 [.ref (w.2.2 0), P_z 0, P_z ((cs.length : Int) - ((cs.filter A_keep).length : Int))] [.ref (w.2.2 0)] _ _ from ?_)
  refine P_aw_call P_i147_33 rfl rfl (fun _ => rfl) rfl rfl rfl rfl (y2 := 169) (as := [.ref (w.2.2 0)]) (r0 := []) (P_inv_v (hw.2.1 0 (by decide)) (hw.s rfl) rfl rfl) (Nat.le_of_ble_eq_true rfl) (by decide) rfl (Nat.le_of_ble_eq_true rfl) (show P_aw _ _ _ 0 [.ref (w.2.2 0)] [] _ _ from ?_)
  refine P_aw_op (L' := [.ref (w.2.2 0)]) (st' := [.ref (w.2.2 0)]) P_i169_0 rfl (show P_aw _ _ _ 1 [.ref (w.2.2 0)] [.ref (w.2.2 0)] _ _ from ?_)
  refine P_aw_getR P_i169_1 (hw.2.1 0 (by decide)) (hw.s rfl) rfl rfl (show P_aw _ _ _ 4 [.ref (w.2.2 0)] [.ref (w.2.2 44)] _ _ from ?_)
  refine P_aw_call P_i169_4 rfl rfl (fun _ => rfl) rfl rfl rfl rfl (y2 := 85) (as := [.ref (w.2.2 44)]) (r0 := []) (P_inv_v hw.2.2 (hw.s rfl) rfl rfl) (Nat.le_of_ble_eq_true rfl) (by decide) rfl (Nat.le_of_ble_eq_true rfl) (show P_aw _ _ _ 0 [.ref (w.2.2 44)] [] _ _ from ?_)
  refine P_aw_op (L' := [.ref (w.2.2 44)]) (st' := [.ref (w.2.2 44)]) P_i85_0 rfl (show P_aw _ _ _ 1 [.ref (w.2.2 44)] [.ref (w.2.2 44)] _ _ from ?_)
  refine P_aw_op (L' := [.ref (w.2.2 44)]) (st' := [P_z 0, .ref (w.2.2 44)]) P_i85_1 rfl (show P_aw _ _ _ 2 [.ref (w.2.2 44)] [P_z 0, .ref (w.2.2 44)] _ _ from ?_)
  refine P_aw_put P_i85_2 hw.2.2 (hw.s rfl) rfl rfl rfl (show P_aw _ _ _ 5 [.ref (w.2.2 44)] [] _ _ from ?_)
  refine P_aw_op (L' := [.ref (w.2.2 44)]) (st' := [.ref (w.2.2 44)]) P_i85_5 rfl (show P_aw _ _ _ 6 [.ref (w.2.2 44)] [.ref (w.2.2 44)] _ _ from ?_)
  refine P_aw_op (L' := [.ref (w.2.2 44)]) (st' := [P_z 0, .ref (w.2.2 44)]) P_i85_6 rfl (show P_aw _ _ _ 7 [.ref (w.2.2 44)] [P_z 0, .ref (w.2.2 44)] _ _ from ?_)
  refine P_aw_put P_i85_7 hw.2.2 (hw.s rfl) rfl rfl rfl (show P_aw _ _ _ 10 [.ref (w.2.2 44)] [] _ _ from ?_)
  refine P_aw_op (L' := [.ref (w.2.2 44)]) (st' := [.ref (w.2.2 44)]) P_i85_10 rfl (show P_aw _ _ _ 11 [.ref (w.2.2 44)] [.ref (w.2.2 44)] _ _ from ?_)
  refine P_aw_op (L' := [.ref (w.2.2 44)]) (st' := [P_z 0, .ref (w.2.2 44)]) P_i85_11 rfl (show P_aw _ _ _ 12 [.ref (w.2.2 44)] [P_z 0, .ref (w.2.2 44)] _ _ from ?_)
  refine P_aw_put P_i85_12 hw.2.2 (hw.s rfl) rfl rfl rfl (show P_aw _ _ _ 15 [.ref (w.2.2 44)] [] _ _ from ?_)
  refine P_aw_op (L' := [.ref (w.2.2 44)]) (st' := [.ref (w.2.2 44)]) P_i85_15 rfl (show P_aw _ _ _ 16 [.ref (w.2.2 44)] [.ref (w.2.2 44)] _ _ from ?_)
  refine P_aw_op (L' := [.ref (w.2.2 44)]) (st' := [P_z 0, .ref (w.2.2 44)]) P_i85_16 rfl (show P_aw _ _ _ 17 [.ref (w.2.2 44)] [P_z 0, .ref (w.2.2 44)] _ _ from ?_)
  refine P_aw_put P_i85_17 hw.2.2 (hw.s rfl) rfl rfl rfl (show P_aw _ _ _ 20 [.ref (w.2.2 44)] [] _ _ from ?_)
  refine P_aw_end P_i85_20 rfl rfl (fun _ => rfl) rfl ?_
  show P_aw _ _ _ 7 [.ref (w.2.2 0)] [] _ _
  refine P_aw_op (L' := [.ref (w.2.2 0)]) (st' := [.ref (w.2.2 0)]) P_i169_7 rfl (show P_aw _ _ _ 8 [.ref (w.2.2 0)] [.ref (w.2.2 0)] _ _ from ?_)
  refine P_aw_getR P_i169_8 (hw.2.1 0 (by decide)) (hw.s rfl) rfl rfl (show P_aw _ _ _ 11 [.ref (w.2.2 0)] [.ref (w.2.2 31)] _ _ from ?_)
  refine P_aw_call P_i169_11 rfl rfl (fun _ => rfl) rfl rfl rfl rfl (y2 := 2) (as := [.ref (w.2.2 31)]) (r0 := []) (P_inv_v (hw.2.1 31 (by decide)) (hw.s rfl) rfl rfl) (Nat.le_of_ble_eq_true rfl) (by decide) rfl (Nat.le_of_ble_eq_true rfl) (show P_aw _ _ _ 0 [.ref (w.2.2 31)] [] _ _ from ?_)
  refine P_aw_op (L' := [.ref (w.2.2 31)]) (st' := [.ref (w.2.2 31)]) P_i2_0 rfl (show P_aw _ _ _ 1 [.ref (w.2.2 31)] [.ref (w.2.2 31)] _ _ from ?_)
  refine P_aw_op (L' := [.ref (w.2.2 31)]) (st' := [P_z 0, .ref (w.2.2 31)]) P_i2_1 rfl (show P_aw _ _ _ 2 [.ref (w.2.2 31)] [P_z 0, .ref (w.2.2 31)] _ _ from ?_)
  refine P_aw_put P_i2_2 (hw.2.1 31 (by decide)) (hw.s rfl) rfl rfl rfl (show P_aw _ _ _ 5 [.ref (w.2.2 31)] [] _ _ from ?_)
  refine P_aw_end P_i2_5 rfl rfl (fun _ => rfl) rfl ?_
  show P_aw _ _ _ 14 [.ref (w.2.2 0)] [] _ _
  refine P_aw_end P_i169_14 rfl rfl (fun _ => rfl) rfl ?_
  show P_aw _ _ _ 36 [.ref (w.2.2 0), P_z 0, P_z ((cs.length : Int) - ((cs.filter A_keep).length : Int))] [] _ _
  refine P_aw_op (L' := [.ref (w.2.2 0), P_z 0, P_z ((cs.length : Int) - ((cs.filter A_keep).length : Int))]) (st' := [P_z ((cs.length : Int) - ((cs.filter A_keep).length : Int))]) P_i147_36 rfl (show P_aw _ _ _ 37 [.ref (w.2.2 0), P_z 0, P_z ((cs.length : Int) - ((cs.filter A_keep).length : Int))] [P_z ((cs.length : Int) - ((cs.filter A_keep).length : Int))] _ _ from ?_)
  refine P_aw_end P_i147_37 rfl rfl (fun _ => rfl) rfl ?_
  exact q _ (fun a b h1 h2 h3 h4 => (P_u2_ne (by omega)).trans ((P_u2_ne (by omega)).trans ((P_u2_ne (by omega)).trans ((P_u2_ne (by omega)).trans ((P_u2_ne (by omega)).trans (k1 a b (by omega) (by omega))))))) (A_KL_cg ((P_u2_ne (by omega)).trans ((P_u2_ne (by omega)).trans ((P_u2_ne (by omega)).trans ((P_u2_ne (by omega)).trans (P_u2_ne (by omega)))))) (fun a b h1 h2 => (P_u2_ne (by omega)).trans ((P_u2_ne (by omega)).trans ((P_u2_ne (by omega)).trans ((P_u2_ne (by omega)).trans (P_u2_ne (by omega)))))) k2) (A_O_cg (fun b => (P_u2_ne (by omega)).trans ((P_u2_ne (by omega)).trans ((P_u2_ne (by omega)).trans ((P_u2_ne (by omega)).trans ((P_u2_ne (by omega)).trans (k1 28 b (by omega) (by omega))))))) hO) ((P_u2_ne (by omega)).trans ((P_u2_ne (by omega)).trans ((P_u2_ne (by omega)).trans ((P_u2_ne (by omega)).trans ((P_u2_ne (by omega)).trans ((k1 13 5 (by omega) (by omega)).trans hN)))))) P_u2_at

theorem s_rw1 {w : P_Lw} (hw : P_Cw w) {d : Nat} {Q : P_R → P_A → Prop} {σ : P_A} {ns : Int} {tb : Int → Nat} {rw : Int → Int} {vr : Int → Int → Int} {cl : Int → Int} {V : Int → Int → Int → Int} {cs : List A_cd} {od : Int → Int} {it : Int} {ki ci : Int → Int} {gp oi lm : Int} {nv : Int} (hB : A_B w σ ns tb rw vr cl V cs od it ki ci gp oi lm nv)  (q : ∀ σ', A_fch σ σ' → A_KL σ' (A_dr ns (12 - cs.length) cs) → A_O σ' ns od → σ' 13 5 = nv → σ' 31 16 = 0 → Q (.inl (some (P_z (((A_dr ns (12 - cs.length) cs).length : Int) - (cs.length : Int))))) σ') : P_aw w (d + 10) 147 0 [.ref (w.2.2 0), P_z 1, P_un] [] σ Q := by
  obtain ⟨hA, hX, hF, hK, hO, hok, htk, hN, hn01, hrd1, hfp⟩ := id hB
  have hns := hA.2.1
  have hit := hF.2.1
  have hsz0 := hK.2.1
  refine P_aw_op (L' := [.ref (w.2.2 0), P_z 1, P_un]) (st' := [.ref (w.2.2 0)]) P_i147_0 rfl (show P_aw _ _ _ 1 [.ref (w.2.2 0), P_z 1, P_un] [.ref (w.2.2 0)] _ _ from ?_)
  refine P_aw_call P_i147_1 rfl rfl (fun _ => rfl) rfl rfl rfl rfl (y2 := 168) (as := [.ref (w.2.2 0)]) (r0 := []) (P_inv_v (hw.2.1 0 (by decide)) (hw.s rfl) rfl rfl) (Nat.le_of_ble_eq_true rfl) (by decide) rfl (Nat.le_of_ble_eq_true rfl) (show P_aw _ _ _ 0 [.ref (w.2.2 0)] [] _ _ from ?_)
  refine P_aw_op (L' := [.ref (w.2.2 0)]) (st' := [.ref (w.2.2 0)]) P_i168_0 rfl (show P_aw _ _ _ 1 [.ref (w.2.2 0)] [.ref (w.2.2 0)] _ _ from ?_)
  refine P_aw_getR P_i168_1 (hw.2.1 0 (by decide)) (hw.s rfl) rfl rfl (show P_aw _ _ _ 4 [.ref (w.2.2 0)] [.ref (w.2.2 29)] _ _ from ?_)
  refine P_aw_call P_i168_4 rfl rfl (fun _ => rfl) rfl rfl rfl rfl (y2 := 92) (as := [.ref (w.2.2 29)]) (r0 := []) (P_inv_v (hw.2.1 29 (by decide)) (hw.s rfl) rfl rfl) (Nat.le_of_ble_eq_true rfl) (by decide) rfl (Nat.le_of_ble_eq_true rfl) (show P_aw _ _ _ 0 [.ref (w.2.2 29)] [] _ _ from ?_)
  refine P_aw_op (L' := [.ref (w.2.2 29)]) (st' := [.ref (w.2.2 29)]) P_i92_0 rfl (show P_aw _ _ _ 1 [.ref (w.2.2 29)] [.ref (w.2.2 29)] _ _ from ?_)
  refine P_aw_getv P_i92_1 (hw.2.1 29 (by decide)) (hw.s rfl) rfl rfl (hrd1) (show P_aw _ _ _ 4 [.ref (w.2.2 29)] [P_z 1] _ _ from ?_)
  refine P_aw_end P_i92_4 rfl rfl (fun _ => rfl) rfl ?_
  show P_aw _ _ _ 7 [.ref (w.2.2 0)] [P_z 1] _ _
  refine P_aw_izt P_i168_7 ⟨by decide, by decide⟩ (P_ci_net (by omega)) (show P_aw _ _ _ 21 [.ref (w.2.2 0)] [] _ _ from ?_)
  refine P_aw_end P_i168_21 rfl rfl (fun _ => rfl) rfl ?_
  show P_aw _ _ _ 4 [.ref (w.2.2 0), P_z 1, P_un] [] _ _
  refine P_aw_op (L' := [.ref (w.2.2 0), P_z 1, P_un]) (st' := [P_z 1]) P_i147_4 rfl (show P_aw _ _ _ 5 [.ref (w.2.2 0), P_z 1, P_un] [P_z 1] _ _ from ?_)
  refine P_aw_izf P_i147_5 ⟨by decide, by decide⟩ (P_ci_ltf (by omega)) (show P_aw _ _ _ 8 [.ref (w.2.2 0), P_z 1, P_un] [] _ _ from ?_)
  refine P_aw_op (L' := [.ref (w.2.2 0), P_z 1, P_un]) (st' := [P_z 1]) P_i147_8 rfl (show P_aw _ _ _ 9 [.ref (w.2.2 0), P_z 1, P_un] [P_z 1] _ _ from ?_)
  refine P_aw_op (L' := [.ref (w.2.2 0), P_z 1, P_un]) (st' := [P_z 3, P_z 1]) P_i147_9 rfl (show P_aw _ _ _ 10 [.ref (w.2.2 0), P_z 1, P_un] [P_z 3, P_z 1] _ _ from ?_)
  refine P_aw_ict P_i147_10 ⟨by decide, by decide⟩ ⟨by decide, by decide⟩ (P_ci_let (by omega)) (show P_aw _ _ _ 23 [.ref (w.2.2 0), P_z 1, P_un] [] _ _ from ?_)
  refine P_aw_op (L' := [.ref (w.2.2 0), P_z 1, P_un]) (st' := [.ref (w.2.2 0)]) P_i147_23 rfl (show P_aw _ _ _ 24 [.ref (w.2.2 0), P_z 1, P_un] [.ref (w.2.2 0)] _ _ from ?_)
  refine P_aw_getR P_i147_24 (hw.2.1 0 (by decide)) (hw.s rfl) rfl rfl (show P_aw _ _ _ 27 [.ref (w.2.2 0), P_z 1, P_un] [.ref (w.2.2 13)] _ _ from ?_)
  refine P_aw_op (L' := [.ref (w.2.2 0), P_z 1, P_un]) (st' := [P_z 1, .ref (w.2.2 13)]) P_i147_27 rfl (show P_aw _ _ _ 28 [.ref (w.2.2 0), P_z 1, P_un] [P_z 1, .ref (w.2.2 13)] _ _ from ?_)
  refine P_aw_call P_i147_28 rfl rfl (fun _ => rfl) rfl rfl rfl rfl (y2 := 70) (as := [.ref (w.2.2 13), P_z 1]) (r0 := []) (P_inv_v (hw.2.1 13 (by decide)) (hw.s rfl) rfl rfl) (Nat.le_of_ble_eq_true rfl) (by decide) rfl (Nat.le_of_ble_eq_true rfl) (show P_aw _ _ _ 0 [.ref (w.2.2 13), P_z 1] [] _ _ from ?_)
  refine P_aw_op (L' := [.ref (w.2.2 13), P_z 1]) (st' := [P_z 1]) P_i70_0 rfl (show P_aw _ _ _ 1 [.ref (w.2.2 13), P_z 1] [P_z 1] _ _ from ?_)
  refine P_aw_sw P_i70_1 (by decide +kernel) (show P_aw _ _ _ 33 [.ref (w.2.2 13), P_z 1] [] _ _ from ?_)
  refine P_aw_op (L' := [.ref (w.2.2 13), P_z 1]) (st' := [.ref (w.2.2 13)]) P_i70_33 rfl (show P_aw _ _ _ 34 [.ref (w.2.2 13), P_z 1] [.ref (w.2.2 13)] _ _ from ?_)
  refine P_aw_call P_i70_34 rfl rfl (fun _ => rfl) rfl rfl rfl rfl (y2 := 72) (as := [.ref (w.2.2 13)]) (r0 := []) (P_inv_v (hw.2.1 13 (by decide)) (hw.s rfl) rfl rfl) (Nat.le_of_ble_eq_true rfl) (by decide) rfl (Nat.le_of_ble_eq_true rfl) (s_dr hw hA.1 hns hK hok (fun σ2 k1 k2 => ?_))
  show P_aw _ _ _ 37 [.ref (w.2.2 13), P_z 1] [P_z (((A_dr ns (12 - cs.length) cs).length : Int) - (cs.length : Int))] _ _
  refine P_aw_end P_i70_37 rfl rfl (fun _ => rfl) rfl ?_
  show P_aw _ _ _ 31 [.ref (w.2.2 0), P_z 1, P_un] [P_z (((A_dr ns (12 - cs.length) cs).length : Int) - (cs.length : Int))] _ _
  refine P_aw_op (L' := [.ref (w.2.2 0), P_z 1, P_z (((A_dr ns (12 - cs.length) cs).length : Int) - (cs.length : Int))]) (st' := []) P_i147_31 rfl (show P_aw _ _ _ 32 [.ref (w.2.2 0), P_z 1, P_z (((A_dr ns (12 - cs.length) cs).length : Int) - (cs.length : Int))] [] _ _ from ?_)
  refine P_aw_op (L' := [.ref (w.2.2 0), P_z 1, P_z (((A_dr ns (12 - cs.length) cs).length : Int) - (cs.length : Int))]) (st' := [.ref (w.2.2 0)]) P_i147_32 rfl (show P_aw _ _ _ 33 [.ref (w.2.2 0), P_z 1, P_z (((A_dr ns (12 - cs.length) cs).length : Int) - (cs.length : Int))] [.ref (w.2.2 0)] _ _ from ?_)
  refine P_aw_call P_i147_33 rfl rfl (fun _ => rfl) rfl rfl rfl rfl (y2 := 169) (as := [.ref (w.2.2 0)]) (r0 := []) (P_inv_v (hw.2.1 0 (by decide)) (hw.s rfl) rfl rfl) (Nat.le_of_ble_eq_true rfl) (by decide) rfl (Nat.le_of_ble_eq_true rfl) (show P_aw _ _ _ 0 [.ref (w.2.2 0)] [] _ _ from ?_)
  refine P_aw_op (L' := [.ref (w.2.2 0)]) (st' := [.ref (w.2.2 0)]) P_i169_0 rfl (show P_aw _ _ _ 1 [.ref (w.2.2 0)] [.ref (w.2.2 0)] _ _ from ?_)
  refine P_aw_getR P_i169_1 (hw.2.1 0 (by decide)) (hw.s rfl) rfl rfl (show P_aw _ _ _ 4 [.ref (w.2.2 0)] [.ref (w.2.2 44)] _ _ from ?_)
  refine P_aw_call P_i169_4 rfl rfl (fun _ => rfl) rfl rfl rfl rfl (y2 := 85) (as := [.ref (w.2.2 44)]) (r0 := []) (P_inv_v hw.2.2 (hw.s rfl) rfl rfl) (Nat.le_of_ble_eq_true rfl) (by decide) rfl (Nat.le_of_ble_eq_true rfl) (show P_aw _ _ _ 0 [.ref (w.2.2 44)] [] _ _ from ?_)
  refine P_aw_op (L' := [.ref (w.2.2 44)]) (st' := [.ref (w.2.2 44)]) P_i85_0 rfl (show P_aw _ _ _ 1 [.ref (w.2.2 44)] [.ref (w.2.2 44)] _ _ from ?_)
  refine P_aw_op (L' := [.ref (w.2.2 44)]) (st' := [P_z 0, .ref (w.2.2 44)]) P_i85_1 rfl (show P_aw _ _ _ 2 [.ref (w.2.2 44)] [P_z 0, .ref (w.2.2 44)] _ _ from ?_)
  refine P_aw_put P_i85_2 hw.2.2 (hw.s rfl) rfl rfl rfl (show P_aw _ _ _ 5 [.ref (w.2.2 44)] [] _ _ from ?_)
  refine P_aw_op (L' := [.ref (w.2.2 44)]) (st' := [.ref (w.2.2 44)]) P_i85_5 rfl (show P_aw _ _ _ 6 [.ref (w.2.2 44)] [.ref (w.2.2 44)] _ _ from ?_)
  refine P_aw_op (L' := [.ref (w.2.2 44)]) (st' := [P_z 0, .ref (w.2.2 44)]) P_i85_6 rfl (show P_aw _ _ _ 7 [.ref (w.2.2 44)] [P_z 0, .ref (w.2.2 44)] _ _ from ?_)
  refine P_aw_put P_i85_7 hw.2.2 (hw.s rfl) rfl rfl rfl (show P_aw _ _ _ 10 [.ref (w.2.2 44)] [] _ _ from ?_)
  refine P_aw_op (L' := [.ref (w.2.2 44)]) (st' := [.ref (w.2.2 44)]) P_i85_10 rfl (show P_aw _ _ _ 11 [.ref (w.2.2 44)] [.ref (w.2.2 44)] _ _ from ?_)
  refine P_aw_op (L' := [.ref (w.2.2 44)]) (st' := [P_z 0, .ref (w.2.2 44)]) P_i85_11 rfl (show P_aw _ _ _ 12 [.ref (w.2.2 44)] [P_z 0, .ref (w.2.2 44)] _ _ from ?_)
  refine P_aw_put P_i85_12 hw.2.2 (hw.s rfl) rfl rfl rfl (show P_aw _ _ _ 15 [.ref (w.2.2 44)] [] _ _ from ?_)
  refine P_aw_op (L' := [.ref (w.2.2 44)]) (st' := [.ref (w.2.2 44)]) P_i85_15 rfl (show P_aw _ _ _ 16 [.ref (w.2.2 44)] [.ref (w.2.2 44)] _ _ from ?_)
  refine P_aw_op (L' := [.ref (w.2.2 44)]) (st' := [P_z 0, .ref (w.2.2 44)]) P_i85_16 rfl (show P_aw _ _ _ 17 [.ref (w.2.2 44)] [P_z 0, .ref (w.2.2 44)] _ _ from ?_)
  refine P_aw_put P_i85_17 hw.2.2 (hw.s rfl) rfl rfl rfl (show P_aw _ _ _ 20 [.ref (w.2.2 44)] [] _ _ from ?_)
  refine P_aw_end P_i85_20 rfl rfl (fun _ => rfl) rfl ?_
  show P_aw _ _ _ 7 [.ref (w.2.2 0)] [] _ _
  refine P_aw_op (L' := [.ref (w.2.2 0)]) (st' := [.ref (w.2.2 0)]) P_i169_7 rfl (show P_aw _ _ _ 8 [.ref (w.2.2 0)] [.ref (w.2.2 0)] _ _ from ?_)
  refine P_aw_getR P_i169_8 (hw.2.1 0 (by decide)) (hw.s rfl) rfl rfl (show P_aw _ _ _ 11 [.ref (w.2.2 0)] [.ref (w.2.2 31)] _ _ from ?_)
  refine P_aw_call P_i169_11 rfl rfl (fun _ => rfl) rfl rfl rfl rfl (y2 := 2) (as := [.ref (w.2.2 31)]) (r0 := []) (P_inv_v (hw.2.1 31 (by decide)) (hw.s rfl) rfl rfl) (Nat.le_of_ble_eq_true rfl) (by decide) rfl (Nat.le_of_ble_eq_true rfl) (show P_aw _ _ _ 0 [.ref (w.2.2 31)] [] _ _ from ?_)
  refine P_aw_op (L' := [.ref (w.2.2 31)]) (st' := [.ref (w.2.2 31)]) P_i2_0 rfl (show P_aw _ _ _ 1 [.ref (w.2.2 31)] [.ref (w.2.2 31)] _ _ from ?_)
  refine P_aw_op (L' := [.ref (w.2.2 31)]) (st' := [P_z 0, .ref (w.2.2 31)]) P_i2_1 rfl (show P_aw _ _ _ 2 [.ref (w.2.2 31)] [P_z 0, .ref (w.2.2 31)] _ _ from ?_)
  refine P_aw_put P_i2_2 (hw.2.1 31 (by decide)) (hw.s rfl) rfl rfl rfl (show P_aw _ _ _ 5 [.ref (w.2.2 31)] [] _ _ from ?_)
  refine P_aw_end P_i2_5 rfl rfl (fun _ => rfl) rfl ?_
  show P_aw _ _ _ 14 [.ref (w.2.2 0)] [] _ _
  refine P_aw_end P_i169_14 rfl rfl (fun _ => rfl) rfl ?_
  show P_aw _ _ _ 36 [.ref (w.2.2 0), P_z 1, P_z (((A_dr ns (12 - cs.length) cs).length : Int) - (cs.length : Int))] [] _ _
  refine P_aw_op (L' := [.ref (w.2.2 0), P_z 1, P_z (((A_dr ns (12 - cs.length) cs).length : Int) - (cs.length : Int))]) (st' := [P_z (((A_dr ns (12 - cs.length) cs).length : Int) - (cs.length : Int))]) P_i147_36 rfl (show P_aw _ _ _ 37 [.ref (w.2.2 0), P_z 1, P_z (((A_dr ns (12 - cs.length) cs).length : Int) - (cs.length : Int))] [P_z (((A_dr ns (12 - cs.length) cs).length : Int) - (cs.length : Int))] _ _ from ?_)
  refine P_aw_end P_i147_37 rfl rfl (fun _ => rfl) rfl ?_
  exact q _ (fun a b h1 h2 h3 h4 => (P_u2_ne (by omega)).trans ((P_u2_ne (by omega)).trans ((P_u2_ne (by omega)).trans ((P_u2_ne (by omega)).trans ((P_u2_ne (by omega)).trans (k1 a b (by omega) (by omega))))))) (A_KL_cg ((P_u2_ne (by omega)).trans ((P_u2_ne (by omega)).trans ((P_u2_ne (by omega)).trans ((P_u2_ne (by omega)).trans (P_u2_ne (by omega)))))) (fun a b h1 h2 => (P_u2_ne (by omega)).trans ((P_u2_ne (by omega)).trans ((P_u2_ne (by omega)).trans ((P_u2_ne (by omega)).trans (P_u2_ne (by omega)))))) k2) (A_O_cg (fun b => (P_u2_ne (by omega)).trans ((P_u2_ne (by omega)).trans ((P_u2_ne (by omega)).trans ((P_u2_ne (by omega)).trans ((P_u2_ne (by omega)).trans (k1 28 b (by omega) (by omega))))))) hO) ((P_u2_ne (by omega)).trans ((P_u2_ne (by omega)).trans ((P_u2_ne (by omega)).trans ((P_u2_ne (by omega)).trans ((P_u2_ne (by omega)).trans ((k1 13 5 (by omega) (by omega)).trans hN)))))) P_u2_at

theorem s_rw2 {w : P_Lw} (hw : P_Cw w) {d : Nat} {Q : P_R → P_A → Prop} {σ : P_A} {ns : Int} {tb : Int → Nat} {rw : Int → Int} {vr : Int → Int → Int} {cl : Int → Int} {V : Int → Int → Int → Int} {cs : List A_cd} {od : Int → Int} {it : Int} {ki ci : Int → Int} {gp oi lm : Int} {nv : Int} (hB : A_B w σ ns tb rw vr cl V cs od it ki ci gp oi lm nv)  (q : ∀ σ', A_fch σ σ' → A_KL σ' (cs.map (A_down od)) → A_O σ' ns od → σ' 13 5 = nv → σ' 31 16 = 0 → Q (.inl (some (P_z (A_nd od cs)))) σ') : P_aw w (d + 10) 147 0 [.ref (w.2.2 0), P_z 2, P_un] [] σ Q := by
  obtain ⟨hA, hX, hF, hK, hO, hok, htk, hN, hn01, hrd1, hfp⟩ := id hB
  have hns := hA.2.1
  have hit := hF.2.1
  have hsz0 := hK.2.1
  refine P_aw_op (L' := [.ref (w.2.2 0), P_z 2, P_un]) (st' := [.ref (w.2.2 0)]) P_i147_0 rfl (show P_aw _ _ _ 1 [.ref (w.2.2 0), P_z 2, P_un] [.ref (w.2.2 0)] _ _ from ?_)
  refine P_aw_call P_i147_1 rfl rfl (fun _ => rfl) rfl rfl rfl rfl (y2 := 168) (as := [.ref (w.2.2 0)]) (r0 := []) (P_inv_v (hw.2.1 0 (by decide)) (hw.s rfl) rfl rfl) (Nat.le_of_ble_eq_true rfl) (by decide) rfl (Nat.le_of_ble_eq_true rfl) (show P_aw _ _ _ 0 [.ref (w.2.2 0)] [] _ _ from ?_)
  refine P_aw_op (L' := [.ref (w.2.2 0)]) (st' := [.ref (w.2.2 0)]) P_i168_0 rfl (show P_aw _ _ _ 1 [.ref (w.2.2 0)] [.ref (w.2.2 0)] _ _ from ?_)
  refine P_aw_getR P_i168_1 (hw.2.1 0 (by decide)) (hw.s rfl) rfl rfl (show P_aw _ _ _ 4 [.ref (w.2.2 0)] [.ref (w.2.2 29)] _ _ from ?_)
  refine P_aw_call P_i168_4 rfl rfl (fun _ => rfl) rfl rfl rfl rfl (y2 := 92) (as := [.ref (w.2.2 29)]) (r0 := []) (P_inv_v (hw.2.1 29 (by decide)) (hw.s rfl) rfl rfl) (Nat.le_of_ble_eq_true rfl) (by decide) rfl (Nat.le_of_ble_eq_true rfl) (show P_aw _ _ _ 0 [.ref (w.2.2 29)] [] _ _ from ?_)
  refine P_aw_op (L' := [.ref (w.2.2 29)]) (st' := [.ref (w.2.2 29)]) P_i92_0 rfl (show P_aw _ _ _ 1 [.ref (w.2.2 29)] [.ref (w.2.2 29)] _ _ from ?_)
  refine P_aw_getv P_i92_1 (hw.2.1 29 (by decide)) (hw.s rfl) rfl rfl (hrd1) (show P_aw _ _ _ 4 [.ref (w.2.2 29)] [P_z 1] _ _ from ?_)
  refine P_aw_end P_i92_4 rfl rfl (fun _ => rfl) rfl ?_
  show P_aw _ _ _ 7 [.ref (w.2.2 0)] [P_z 1] _ _
  refine P_aw_izt P_i168_7 ⟨by decide, by decide⟩ (P_ci_net (by omega)) (show P_aw _ _ _ 21 [.ref (w.2.2 0)] [] _ _ from ?_)
  refine P_aw_end P_i168_21 rfl rfl (fun _ => rfl) rfl ?_
  show P_aw _ _ _ 4 [.ref (w.2.2 0), P_z 2, P_un] [] _ _
  refine P_aw_op (L' := [.ref (w.2.2 0), P_z 2, P_un]) (st' := [P_z 2]) P_i147_4 rfl (show P_aw _ _ _ 5 [.ref (w.2.2 0), P_z 2, P_un] [P_z 2] _ _ from ?_)
  refine P_aw_izf P_i147_5 ⟨by decide, by decide⟩ (P_ci_ltf (by omega)) (show P_aw _ _ _ 8 [.ref (w.2.2 0), P_z 2, P_un] [] _ _ from ?_)
  refine P_aw_op (L' := [.ref (w.2.2 0), P_z 2, P_un]) (st' := [P_z 2]) P_i147_8 rfl (show P_aw _ _ _ 9 [.ref (w.2.2 0), P_z 2, P_un] [P_z 2] _ _ from ?_)
  refine P_aw_op (L' := [.ref (w.2.2 0), P_z 2, P_un]) (st' := [P_z 3, P_z 2]) P_i147_9 rfl (show P_aw _ _ _ 10 [.ref (w.2.2 0), P_z 2, P_un] [P_z 3, P_z 2] _ _ from ?_)
  refine P_aw_ict P_i147_10 ⟨by decide, by decide⟩ ⟨by decide, by decide⟩ (P_ci_let (by omega)) (show P_aw _ _ _ 23 [.ref (w.2.2 0), P_z 2, P_un] [] _ _ from ?_)
  refine P_aw_op (L' := [.ref (w.2.2 0), P_z 2, P_un]) (st' := [.ref (w.2.2 0)]) P_i147_23 rfl (show P_aw _ _ _ 24 [.ref (w.2.2 0), P_z 2, P_un] [.ref (w.2.2 0)] _ _ from ?_)
  refine P_aw_getR P_i147_24 (hw.2.1 0 (by decide)) (hw.s rfl) rfl rfl (show P_aw _ _ _ 27 [.ref (w.2.2 0), P_z 2, P_un] [.ref (w.2.2 13)] _ _ from ?_)
  refine P_aw_op (L' := [.ref (w.2.2 0), P_z 2, P_un]) (st' := [P_z 2, .ref (w.2.2 13)]) P_i147_27 rfl (show P_aw _ _ _ 28 [.ref (w.2.2 0), P_z 2, P_un] [P_z 2, .ref (w.2.2 13)] _ _ from ?_)
  refine P_aw_call P_i147_28 rfl rfl (fun _ => rfl) rfl rfl rfl rfl (y2 := 70) (as := [.ref (w.2.2 13), P_z 2]) (r0 := []) (P_inv_v (hw.2.1 13 (by decide)) (hw.s rfl) rfl rfl) (Nat.le_of_ble_eq_true rfl) (by decide) rfl (Nat.le_of_ble_eq_true rfl) (show P_aw _ _ _ 0 [.ref (w.2.2 13), P_z 2] [] _ _ from ?_)
  refine P_aw_op (L' := [.ref (w.2.2 13), P_z 2]) (st' := [P_z 2]) P_i70_0 rfl (show P_aw _ _ _ 1 [.ref (w.2.2 13), P_z 2] [P_z 2] _ _ from ?_)
  refine P_aw_sw P_i70_1 (by decide +kernel) (show P_aw _ _ _ 38 [.ref (w.2.2 13), P_z 2] [] _ _ from ?_)
  refine P_aw_op (L' := [.ref (w.2.2 13), P_z 2]) (st' := [.ref (w.2.2 13)]) P_i70_38 rfl (show P_aw _ _ _ 39 [.ref (w.2.2 13), P_z 2] [.ref (w.2.2 13)] _ _ from ?_)
  refine P_aw_call P_i70_39 rfl rfl (fun _ => rfl) rfl rfl rfl rfl (y2 := 76) (as := [.ref (w.2.2 13)]) (r0 := []) (P_inv_v (hw.2.1 13 (by decide)) (hw.s rfl) rfl rfl) (Nat.le_of_ble_eq_true rfl) (by decide) rfl (Nat.le_of_ble_eq_true rfl) (s_bd hw hO hK hok (fun σ2 k1 k2 => ?_))
  show P_aw _ _ _ 42 [.ref (w.2.2 13), P_z 2] [P_z (A_nd od cs)] _ _
  refine P_aw_end P_i70_42 rfl rfl (fun _ => rfl) rfl ?_
  show P_aw _ _ _ 31 [.ref (w.2.2 0), P_z 2, P_un] [P_z (A_nd od cs)] _ _
  refine P_aw_op (L' := [.ref (w.2.2 0), P_z 2, P_z (A_nd od cs)]) (st' := []) P_i147_31 rfl (show P_aw _ _ _ 32 [.ref (w.2.2 0), P_z 2, P_z (A_nd od cs)] [] _ _ from ?_)
  refine P_aw_op (L' := [.ref (w.2.2 0), P_z 2, P_z (A_nd od cs)]) (st' := [.ref (w.2.2 0)]) P_i147_32 rfl (show P_aw _ _ _ 33 [.ref (w.2.2 0), P_z 2, P_z (A_nd od cs)] [.ref (w.2.2 0)] _ _ from ?_)
  refine P_aw_call P_i147_33 rfl rfl (fun _ => rfl) rfl rfl rfl rfl (y2 := 169) (as := [.ref (w.2.2 0)]) (r0 := []) (P_inv_v (hw.2.1 0 (by decide)) (hw.s rfl) rfl rfl) (Nat.le_of_ble_eq_true rfl) (by decide) rfl (Nat.le_of_ble_eq_true rfl) (show P_aw _ _ _ 0 [.ref (w.2.2 0)] [] _ _ from ?_)
  refine P_aw_op (L' := [.ref (w.2.2 0)]) (st' := [.ref (w.2.2 0)]) P_i169_0 rfl (show P_aw _ _ _ 1 [.ref (w.2.2 0)] [.ref (w.2.2 0)] _ _ from ?_)
  refine P_aw_getR P_i169_1 (hw.2.1 0 (by decide)) (hw.s rfl) rfl rfl (show P_aw _ _ _ 4 [.ref (w.2.2 0)] [.ref (w.2.2 44)] _ _ from ?_)
  refine P_aw_call P_i169_4 rfl rfl (fun _ => rfl) rfl rfl rfl rfl (y2 := 85) (as := [.ref (w.2.2 44)]) (r0 := []) (P_inv_v hw.2.2 (hw.s rfl) rfl rfl) (Nat.le_of_ble_eq_true rfl) (by decide) rfl (Nat.le_of_ble_eq_true rfl) (show P_aw _ _ _ 0 [.ref (w.2.2 44)] [] _ _ from ?_)
  refine P_aw_op (L' := [.ref (w.2.2 44)]) (st' := [.ref (w.2.2 44)]) P_i85_0 rfl (show P_aw _ _ _ 1 [.ref (w.2.2 44)] [.ref (w.2.2 44)] _ _ from ?_)
  refine P_aw_op (L' := [.ref (w.2.2 44)]) (st' := [P_z 0, .ref (w.2.2 44)]) P_i85_1 rfl (show P_aw _ _ _ 2 [.ref (w.2.2 44)] [P_z 0, .ref (w.2.2 44)] _ _ from ?_)
  refine P_aw_put P_i85_2 hw.2.2 (hw.s rfl) rfl rfl rfl (show P_aw _ _ _ 5 [.ref (w.2.2 44)] [] _ _ from ?_)
  refine P_aw_op (L' := [.ref (w.2.2 44)]) (st' := [.ref (w.2.2 44)]) P_i85_5 rfl (show P_aw _ _ _ 6 [.ref (w.2.2 44)] [.ref (w.2.2 44)] _ _ from ?_)
  refine P_aw_op (L' := [.ref (w.2.2 44)]) (st' := [P_z 0, .ref (w.2.2 44)]) P_i85_6 rfl (show P_aw _ _ _ 7 [.ref (w.2.2 44)] [P_z 0, .ref (w.2.2 44)] _ _ from ?_)
  refine P_aw_put P_i85_7 hw.2.2 (hw.s rfl) rfl rfl rfl (show P_aw _ _ _ 10 [.ref (w.2.2 44)] [] _ _ from ?_)
  refine P_aw_op (L' := [.ref (w.2.2 44)]) (st' := [.ref (w.2.2 44)]) P_i85_10 rfl (show P_aw _ _ _ 11 [.ref (w.2.2 44)] [.ref (w.2.2 44)] _ _ from ?_)
  refine P_aw_op (L' := [.ref (w.2.2 44)]) (st' := [P_z 0, .ref (w.2.2 44)]) P_i85_11 rfl (show P_aw _ _ _ 12 [.ref (w.2.2 44)] [P_z 0, .ref (w.2.2 44)] _ _ from ?_)
  refine P_aw_put P_i85_12 hw.2.2 (hw.s rfl) rfl rfl rfl (show P_aw _ _ _ 15 [.ref (w.2.2 44)] [] _ _ from ?_)
  refine P_aw_op (L' := [.ref (w.2.2 44)]) (st' := [.ref (w.2.2 44)]) P_i85_15 rfl (show P_aw _ _ _ 16 [.ref (w.2.2 44)] [.ref (w.2.2 44)] _ _ from ?_)
  refine P_aw_op (L' := [.ref (w.2.2 44)]) (st' := [P_z 0, .ref (w.2.2 44)]) P_i85_16 rfl (show P_aw _ _ _ 17 [.ref (w.2.2 44)] [P_z 0, .ref (w.2.2 44)] _ _ from ?_)
  refine P_aw_put P_i85_17 hw.2.2 (hw.s rfl) rfl rfl rfl (show P_aw _ _ _ 20 [.ref (w.2.2 44)] [] _ _ from ?_)
  refine P_aw_end P_i85_20 rfl rfl (fun _ => rfl) rfl ?_
  show P_aw _ _ _ 7 [.ref (w.2.2 0)] [] _ _
  refine P_aw_op (L' := [.ref (w.2.2 0)]) (st' := [.ref (w.2.2 0)]) P_i169_7 rfl (show P_aw _ _ _ 8 [.ref (w.2.2 0)] [.ref (w.2.2 0)] _ _ from ?_)
  refine P_aw_getR P_i169_8 (hw.2.1 0 (by decide)) (hw.s rfl) rfl rfl (show P_aw _ _ _ 11 [.ref (w.2.2 0)] [.ref (w.2.2 31)] _ _ from ?_)
  refine P_aw_call P_i169_11 rfl rfl (fun _ => rfl) rfl rfl rfl rfl (y2 := 2) (as := [.ref (w.2.2 31)]) (r0 := []) (P_inv_v (hw.2.1 31 (by decide)) (hw.s rfl) rfl rfl) (Nat.le_of_ble_eq_true rfl) (by decide) rfl (Nat.le_of_ble_eq_true rfl) (show P_aw _ _ _ 0 [.ref (w.2.2 31)] [] _ _ from ?_)
  refine P_aw_op (L' := [.ref (w.2.2 31)]) (st' := [.ref (w.2.2 31)]) P_i2_0 rfl (show P_aw _ _ _ 1 [.ref (w.2.2 31)] [.ref (w.2.2 31)] _ _ from ?_)
  refine P_aw_op (L' := [.ref (w.2.2 31)]) (st' := [P_z 0, .ref (w.2.2 31)]) P_i2_1 rfl (show P_aw _ _ _ 2 [.ref (w.2.2 31)] [P_z 0, .ref (w.2.2 31)] _ _ from ?_)
  refine P_aw_put P_i2_2 (hw.2.1 31 (by decide)) (hw.s rfl) rfl rfl rfl (show P_aw _ _ _ 5 [.ref (w.2.2 31)] [] _ _ from ?_)
  refine P_aw_end P_i2_5 rfl rfl (fun _ => rfl) rfl ?_
  show P_aw _ _ _ 14 [.ref (w.2.2 0)] [] _ _
  refine P_aw_end P_i169_14 rfl rfl (fun _ => rfl) rfl ?_
  show P_aw _ _ _ 36 [.ref (w.2.2 0), P_z 2, P_z (A_nd od cs)] [] _ _
  refine P_aw_op (L' := [.ref (w.2.2 0), P_z 2, P_z (A_nd od cs)]) (st' := [P_z (A_nd od cs)]) P_i147_36 rfl (show P_aw _ _ _ 37 [.ref (w.2.2 0), P_z 2, P_z (A_nd od cs)] [P_z (A_nd od cs)] _ _ from ?_)
  refine P_aw_end P_i147_37 rfl rfl (fun _ => rfl) rfl ?_
  exact q _ (fun a b h1 h2 h3 h4 => (P_u2_ne (by omega)).trans ((P_u2_ne (by omega)).trans ((P_u2_ne (by omega)).trans ((P_u2_ne (by omega)).trans ((P_u2_ne (by omega)).trans (k1 a b (by omega) (by omega))))))) (A_KL_cg ((P_u2_ne (by omega)).trans ((P_u2_ne (by omega)).trans ((P_u2_ne (by omega)).trans ((P_u2_ne (by omega)).trans (P_u2_ne (by omega)))))) (fun a b h1 h2 => (P_u2_ne (by omega)).trans ((P_u2_ne (by omega)).trans ((P_u2_ne (by omega)).trans ((P_u2_ne (by omega)).trans (P_u2_ne (by omega)))))) k2) (A_O_cg (fun b => (P_u2_ne (by omega)).trans ((P_u2_ne (by omega)).trans ((P_u2_ne (by omega)).trans ((P_u2_ne (by omega)).trans ((P_u2_ne (by omega)).trans (k1 28 b (by omega) (by omega))))))) hO) ((P_u2_ne (by omega)).trans ((P_u2_ne (by omega)).trans ((P_u2_ne (by omega)).trans ((P_u2_ne (by omega)).trans ((P_u2_ne (by omega)).trans ((k1 13 5 (by omega) (by omega)).trans hN)))))) P_u2_at

theorem s_rw3 {w : P_Lw} (hw : P_Cw w) {d : Nat} {Q : P_R → P_A → Prop} {σ : P_A} {ns : Int} {tb : Int → Nat} {rw : Int → Int} {vr : Int → Int → Int} {cl : Int → Int} {V : Int → Int → Int → Int} {cs : List A_cd} {od : Int → Int} {it : Int} {ki ci : Int → Int} {gp oi lm : Int} {nv : Int} (hB : A_B w σ ns tb rw vr cl V cs od it ki ci gp oi lm nv) (h0 : nv = 0) (q : ∀ σ', A_fch σ σ' → A_KL σ' cs → A_O σ' ns od → σ' 13 5 = (A_or 0 (A_nv [] cs)) → σ' 31 16 = 0 → Q (.inl (some (P_z (A_or 0 (A_nv [] cs))))) σ') : P_aw w (d + 10) 147 0 [.ref (w.2.2 0), P_z 3, P_un] [] σ Q := by
  obtain ⟨hA, hX, hF, hK, hO, hok, htk, hN, hn01, hrd1, hfp⟩ := id hB
  have hns := hA.2.1
  have hit := hF.2.1
  have hsz0 := hK.2.1
  subst h0
  refine P_aw_op (L' := [.ref (w.2.2 0), P_z 3, P_un]) (st' := [.ref (w.2.2 0)]) P_i147_0 rfl (show P_aw _ _ _ 1 [.ref (w.2.2 0), P_z 3, P_un] [.ref (w.2.2 0)] _ _ from ?_)
  refine P_aw_call P_i147_1 rfl rfl (fun _ => rfl) rfl rfl rfl rfl (y2 := 168) (as := [.ref (w.2.2 0)]) (r0 := []) (P_inv_v (hw.2.1 0 (by decide)) (hw.s rfl) rfl rfl) (Nat.le_of_ble_eq_true rfl) (by decide) rfl (Nat.le_of_ble_eq_true rfl) (show P_aw _ _ _ 0 [.ref (w.2.2 0)] [] _ _ from ?_)
  refine P_aw_op (L' := [.ref (w.2.2 0)]) (st' := [.ref (w.2.2 0)]) P_i168_0 rfl (show P_aw _ _ _ 1 [.ref (w.2.2 0)] [.ref (w.2.2 0)] _ _ from ?_)
  refine P_aw_getR P_i168_1 (hw.2.1 0 (by decide)) (hw.s rfl) rfl rfl (show P_aw _ _ _ 4 [.ref (w.2.2 0)] [.ref (w.2.2 29)] _ _ from ?_)
  refine P_aw_call P_i168_4 rfl rfl (fun _ => rfl) rfl rfl rfl rfl (y2 := 92) (as := [.ref (w.2.2 29)]) (r0 := []) (P_inv_v (hw.2.1 29 (by decide)) (hw.s rfl) rfl rfl) (Nat.le_of_ble_eq_true rfl) (by decide) rfl (Nat.le_of_ble_eq_true rfl) (show P_aw _ _ _ 0 [.ref (w.2.2 29)] [] _ _ from ?_)
  refine P_aw_op (L' := [.ref (w.2.2 29)]) (st' := [.ref (w.2.2 29)]) P_i92_0 rfl (show P_aw _ _ _ 1 [.ref (w.2.2 29)] [.ref (w.2.2 29)] _ _ from ?_)
  refine P_aw_getv P_i92_1 (hw.2.1 29 (by decide)) (hw.s rfl) rfl rfl (hrd1) (show P_aw _ _ _ 4 [.ref (w.2.2 29)] [P_z 1] _ _ from ?_)
  refine P_aw_end P_i92_4 rfl rfl (fun _ => rfl) rfl ?_
  show P_aw _ _ _ 7 [.ref (w.2.2 0)] [P_z 1] _ _
  refine P_aw_izt P_i168_7 ⟨by decide, by decide⟩ (P_ci_net (by omega)) (show P_aw _ _ _ 21 [.ref (w.2.2 0)] [] _ _ from ?_)
  refine P_aw_end P_i168_21 rfl rfl (fun _ => rfl) rfl ?_
  show P_aw _ _ _ 4 [.ref (w.2.2 0), P_z 3, P_un] [] _ _
  refine P_aw_op (L' := [.ref (w.2.2 0), P_z 3, P_un]) (st' := [P_z 3]) P_i147_4 rfl (show P_aw _ _ _ 5 [.ref (w.2.2 0), P_z 3, P_un] [P_z 3] _ _ from ?_)
  refine P_aw_izf P_i147_5 ⟨by decide, by decide⟩ (P_ci_ltf (by omega)) (show P_aw _ _ _ 8 [.ref (w.2.2 0), P_z 3, P_un] [] _ _ from ?_)
  refine P_aw_op (L' := [.ref (w.2.2 0), P_z 3, P_un]) (st' := [P_z 3]) P_i147_8 rfl (show P_aw _ _ _ 9 [.ref (w.2.2 0), P_z 3, P_un] [P_z 3] _ _ from ?_)
  refine P_aw_op (L' := [.ref (w.2.2 0), P_z 3, P_un]) (st' := [P_z 3, P_z 3]) P_i147_9 rfl (show P_aw _ _ _ 10 [.ref (w.2.2 0), P_z 3, P_un] [P_z 3, P_z 3] _ _ from ?_)
  refine P_aw_ict P_i147_10 ⟨by decide, by decide⟩ ⟨by decide, by decide⟩ (P_ci_let (by omega)) (show P_aw _ _ _ 23 [.ref (w.2.2 0), P_z 3, P_un] [] _ _ from ?_)
  refine P_aw_op (L' := [.ref (w.2.2 0), P_z 3, P_un]) (st' := [.ref (w.2.2 0)]) P_i147_23 rfl (show P_aw _ _ _ 24 [.ref (w.2.2 0), P_z 3, P_un] [.ref (w.2.2 0)] _ _ from ?_)
  refine P_aw_getR P_i147_24 (hw.2.1 0 (by decide)) (hw.s rfl) rfl rfl (show P_aw _ _ _ 27 [.ref (w.2.2 0), P_z 3, P_un] [.ref (w.2.2 13)] _ _ from ?_)
  refine P_aw_op (L' := [.ref (w.2.2 0), P_z 3, P_un]) (st' := [P_z 3, .ref (w.2.2 13)]) P_i147_27 rfl (show P_aw _ _ _ 28 [.ref (w.2.2 0), P_z 3, P_un] [P_z 3, .ref (w.2.2 13)] _ _ from ?_)
  refine P_aw_call P_i147_28 rfl rfl (fun _ => rfl) rfl rfl rfl rfl (y2 := 70) (as := [.ref (w.2.2 13), P_z 3]) (r0 := []) (P_inv_v (hw.2.1 13 (by decide)) (hw.s rfl) rfl rfl) (Nat.le_of_ble_eq_true rfl) (by decide) rfl (Nat.le_of_ble_eq_true rfl) (show P_aw _ _ _ 0 [.ref (w.2.2 13), P_z 3] [] _ _ from ?_)
  refine P_aw_op (L' := [.ref (w.2.2 13), P_z 3]) (st' := [P_z 3]) P_i70_0 rfl (show P_aw _ _ _ 1 [.ref (w.2.2 13), P_z 3] [P_z 3] _ _ from ?_)
  refine P_aw_sw P_i70_1 (by decide +kernel) (show P_aw _ _ _ 43 [.ref (w.2.2 13), P_z 3] [] _ _ from ?_)
  refine P_aw_op (L' := [.ref (w.2.2 13), P_z 3]) (st' := [.ref (w.2.2 13)]) P_i70_43 rfl (show P_aw _ _ _ 44 [.ref (w.2.2 13), P_z 3] [.ref (w.2.2 13)] _ _ from ?_)
  have hor := A_or_rg (v := 0) (b := A_nv [] cs)
  refine P_aw_call P_i70_44 rfl rfl (fun _ => rfl) rfl rfl rfl rfl (y2 := 77) (as := [.ref (w.2.2 13)]) (r0 := []) (P_inv_v (hw.2.1 13 (by decide)) (hw.s rfl) rfl rfl) (Nat.le_of_ble_eq_true rfl) (by decide) rfl (Nat.le_of_ble_eq_true rfl) (s_nv hw hN hK hok (fun σ2 k1 k2 => ?_))
  show P_aw _ _ _ 47 [.ref (w.2.2 13), P_z 3] [P_z (A_or 0 (A_nv [] cs))] _ _
  by_cases hc1 : (A_or 0 (A_nv [] cs)) = 0
  · refine P_aw_izt P_i70_47 ⟨by omega, by omega⟩ (P_ci_eqt (by omega)) (show P_aw _ _ _ 54 [.ref (w.2.2 13), P_z 3] [] _ _ from ?_)
    refine P_aw_op (L' := [.ref (w.2.2 13), P_z 3]) (st' := [P_z 0]) P_i70_54 rfl (show P_aw _ _ _ 55 [.ref (w.2.2 13), P_z 3] [P_z 0] _ _ from ?_)
    refine P_aw_end P_i70_55 rfl rfl (fun _ => rfl) rfl ?_
    show P_aw _ _ _ 31 [.ref (w.2.2 0), P_z 3, P_un] [P_z 0] _ _
    refine P_aw_op (L' := [.ref (w.2.2 0), P_z 3, P_z 0]) (st' := []) P_i147_31 rfl (show P_aw _ _ _ 32 [.ref (w.2.2 0), P_z 3, P_z 0] [] _ _ from ?_)
    refine P_aw_op (L' := [.ref (w.2.2 0), P_z 3, P_z 0]) (st' := [.ref (w.2.2 0)]) P_i147_32 rfl (show P_aw _ _ _ 33 [.ref (w.2.2 0), P_z 3, P_z 0] [.ref (w.2.2 0)] _ _ from ?_)
    refine P_aw_call P_i147_33 rfl rfl (fun _ => rfl) rfl rfl rfl rfl (y2 := 169) (as := [.ref (w.2.2 0)]) (r0 := []) (P_inv_v (hw.2.1 0 (by decide)) (hw.s rfl) rfl rfl) (Nat.le_of_ble_eq_true rfl) (by decide) rfl (Nat.le_of_ble_eq_true rfl) (show P_aw _ _ _ 0 [.ref (w.2.2 0)] [] _ _ from ?_)
    refine P_aw_op (L' := [.ref (w.2.2 0)]) (st' := [.ref (w.2.2 0)]) P_i169_0 rfl (show P_aw _ _ _ 1 [.ref (w.2.2 0)] [.ref (w.2.2 0)] _ _ from ?_)
    refine P_aw_getR P_i169_1 (hw.2.1 0 (by decide)) (hw.s rfl) rfl rfl (show P_aw _ _ _ 4 [.ref (w.2.2 0)] [.ref (w.2.2 44)] _ _ from ?_)
    refine P_aw_call P_i169_4 rfl rfl (fun _ => rfl) rfl rfl rfl rfl (y2 := 85) (as := [.ref (w.2.2 44)]) (r0 := []) (P_inv_v hw.2.2 (hw.s rfl) rfl rfl) (Nat.le_of_ble_eq_true rfl) (by decide) rfl (Nat.le_of_ble_eq_true rfl) (show P_aw _ _ _ 0 [.ref (w.2.2 44)] [] _ _ from ?_)
    refine P_aw_op (L' := [.ref (w.2.2 44)]) (st' := [.ref (w.2.2 44)]) P_i85_0 rfl (show P_aw _ _ _ 1 [.ref (w.2.2 44)] [.ref (w.2.2 44)] _ _ from ?_)
    refine P_aw_op (L' := [.ref (w.2.2 44)]) (st' := [P_z 0, .ref (w.2.2 44)]) P_i85_1 rfl (show P_aw _ _ _ 2 [.ref (w.2.2 44)] [P_z 0, .ref (w.2.2 44)] _ _ from ?_)
    refine P_aw_put P_i85_2 hw.2.2 (hw.s rfl) rfl rfl rfl (show P_aw _ _ _ 5 [.ref (w.2.2 44)] [] _ _ from ?_)
    refine P_aw_op (L' := [.ref (w.2.2 44)]) (st' := [.ref (w.2.2 44)]) P_i85_5 rfl (show P_aw _ _ _ 6 [.ref (w.2.2 44)] [.ref (w.2.2 44)] _ _ from ?_)
    refine P_aw_op (L' := [.ref (w.2.2 44)]) (st' := [P_z 0, .ref (w.2.2 44)]) P_i85_6 rfl (show P_aw _ _ _ 7 [.ref (w.2.2 44)] [P_z 0, .ref (w.2.2 44)] _ _ from ?_)
    refine P_aw_put P_i85_7 hw.2.2 (hw.s rfl) rfl rfl rfl (show P_aw _ _ _ 10 [.ref (w.2.2 44)] [] _ _ from ?_)
    refine P_aw_op (L' := [.ref (w.2.2 44)]) (st' := [.ref (w.2.2 44)]) P_i85_10 rfl (show P_aw _ _ _ 11 [.ref (w.2.2 44)] [.ref (w.2.2 44)] _ _ from ?_)
    refine P_aw_op (L' := [.ref (w.2.2 44)]) (st' := [P_z 0, .ref (w.2.2 44)]) P_i85_11 rfl (show P_aw _ _ _ 12 [.ref (w.2.2 44)] [P_z 0, .ref (w.2.2 44)] _ _ from ?_)
    refine P_aw_put P_i85_12 hw.2.2 (hw.s rfl) rfl rfl rfl (show P_aw _ _ _ 15 [.ref (w.2.2 44)] [] _ _ from ?_)
    refine P_aw_op (L' := [.ref (w.2.2 44)]) (st' := [.ref (w.2.2 44)]) P_i85_15 rfl (show P_aw _ _ _ 16 [.ref (w.2.2 44)] [.ref (w.2.2 44)] _ _ from ?_)
    refine P_aw_op (L' := [.ref (w.2.2 44)]) (st' := [P_z 0, .ref (w.2.2 44)]) P_i85_16 rfl (show P_aw _ _ _ 17 [.ref (w.2.2 44)] [P_z 0, .ref (w.2.2 44)] _ _ from ?_)
    refine P_aw_put P_i85_17 hw.2.2 (hw.s rfl) rfl rfl rfl (show P_aw _ _ _ 20 [.ref (w.2.2 44)] [] _ _ from ?_)
    refine P_aw_end P_i85_20 rfl rfl (fun _ => rfl) rfl ?_
    show P_aw _ _ _ 7 [.ref (w.2.2 0)] [] _ _
    refine P_aw_op (L' := [.ref (w.2.2 0)]) (st' := [.ref (w.2.2 0)]) P_i169_7 rfl (show P_aw _ _ _ 8 [.ref (w.2.2 0)] [.ref (w.2.2 0)] _ _ from ?_)
    refine P_aw_getR P_i169_8 (hw.2.1 0 (by decide)) (hw.s rfl) rfl rfl (show P_aw _ _ _ 11 [.ref (w.2.2 0)] [.ref (w.2.2 31)] _ _ from ?_)
    refine P_aw_call P_i169_11 rfl rfl (fun _ => rfl) rfl rfl rfl rfl (y2 := 2) (as := [.ref (w.2.2 31)]) (r0 := []) (P_inv_v (hw.2.1 31 (by decide)) (hw.s rfl) rfl rfl) (Nat.le_of_ble_eq_true rfl) (by decide) rfl (Nat.le_of_ble_eq_true rfl) (show P_aw _ _ _ 0 [.ref (w.2.2 31)] [] _ _ from ?_)
    refine P_aw_op (L' := [.ref (w.2.2 31)]) (st' := [.ref (w.2.2 31)]) P_i2_0 rfl (show P_aw _ _ _ 1 [.ref (w.2.2 31)] [.ref (w.2.2 31)] _ _ from ?_)
    refine P_aw_op (L' := [.ref (w.2.2 31)]) (st' := [P_z 0, .ref (w.2.2 31)]) P_i2_1 rfl (show P_aw _ _ _ 2 [.ref (w.2.2 31)] [P_z 0, .ref (w.2.2 31)] _ _ from ?_)
    refine P_aw_put P_i2_2 (hw.2.1 31 (by decide)) (hw.s rfl) rfl rfl rfl (show P_aw _ _ _ 5 [.ref (w.2.2 31)] [] _ _ from ?_)
    refine P_aw_end P_i2_5 rfl rfl (fun _ => rfl) rfl ?_
    show P_aw _ _ _ 14 [.ref (w.2.2 0)] [] _ _
    refine P_aw_end P_i169_14 rfl rfl (fun _ => rfl) rfl ?_
    show P_aw _ _ _ 36 [.ref (w.2.2 0), P_z 3, P_z 0] [] _ _
    refine P_aw_op (L' := [.ref (w.2.2 0), P_z 3, P_z 0]) (st' := [P_z 0]) P_i147_36 rfl (show P_aw _ _ _ 37 [.ref (w.2.2 0), P_z 3, P_z 0] [P_z 0] _ _ from ?_)
    refine P_aw_end P_i147_37 rfl rfl (fun _ => rfl) rfl ?_
    exact P_qz (by omega) rfl (q _ (fun a b h1 h2 h3 h4 => (P_u2_ne (by omega)).trans ((P_u2_ne (by omega)).trans ((P_u2_ne (by omega)).trans ((P_u2_ne (by omega)).trans ((P_u2_ne (by omega)).trans (k1 a b (by omega))))))) (A_KL_cg ((P_u2_ne (by omega)).trans ((P_u2_ne (by omega)).trans ((P_u2_ne (by omega)).trans ((P_u2_ne (by omega)).trans ((P_u2_ne (by omega)).trans (k1 13 4 (by omega))))))) (fun a b h1 h2 => (P_u2_ne (by omega)).trans ((P_u2_ne (by omega)).trans ((P_u2_ne (by omega)).trans ((P_u2_ne (by omega)).trans ((P_u2_ne (by omega)).trans (k1 a b (by omega))))))) hK) (A_O_cg (fun b => (P_u2_ne (by omega)).trans ((P_u2_ne (by omega)).trans ((P_u2_ne (by omega)).trans ((P_u2_ne (by omega)).trans ((P_u2_ne (by omega)).trans (k1 28 b (by omega))))))) hO) ((P_u2_ne (by omega)).trans ((P_u2_ne (by omega)).trans ((P_u2_ne (by omega)).trans ((P_u2_ne (by omega)).trans ((P_u2_ne (by omega)).trans (k2)))))) P_u2_at)
  · refine P_aw_izf P_i70_47 ⟨by omega, by omega⟩ (P_ci_eqf (by omega)) (show P_aw _ _ _ 50 [.ref (w.2.2 13), P_z 3] [] _ _ from ?_)
    refine P_aw_op (L' := [.ref (w.2.2 13), P_z 3]) (st' := [P_z 1]) P_i70_50 rfl (show P_aw _ _ _ 51 [.ref (w.2.2 13), P_z 3] [P_z 1] _ _ from ?_)
    refine P_aw_goto P_i70_51 (show P_aw _ _ _ 55 [.ref (w.2.2 13), P_z 3] [P_z 1] _ _ from ?_)
    refine P_aw_end P_i70_55 rfl rfl (fun _ => rfl) rfl ?_
    show P_aw _ _ _ 31 [.ref (w.2.2 0), P_z 3, P_un] [P_z 1] _ _
    refine P_aw_op (L' := [.ref (w.2.2 0), P_z 3, P_z 1]) (st' := []) P_i147_31 rfl (show P_aw _ _ _ 32 [.ref (w.2.2 0), P_z 3, P_z 1] [] _ _ from ?_)
    refine P_aw_op (L' := [.ref (w.2.2 0), P_z 3, P_z 1]) (st' := [.ref (w.2.2 0)]) P_i147_32 rfl (show P_aw _ _ _ 33 [.ref (w.2.2 0), P_z 3, P_z 1] [.ref (w.2.2 0)] _ _ from ?_)
    refine P_aw_call P_i147_33 rfl rfl (fun _ => rfl) rfl rfl rfl rfl (y2 := 169) (as := [.ref (w.2.2 0)]) (r0 := []) (P_inv_v (hw.2.1 0 (by decide)) (hw.s rfl) rfl rfl) (Nat.le_of_ble_eq_true rfl) (by decide) rfl (Nat.le_of_ble_eq_true rfl) (show P_aw _ _ _ 0 [.ref (w.2.2 0)] [] _ _ from ?_)
    refine P_aw_op (L' := [.ref (w.2.2 0)]) (st' := [.ref (w.2.2 0)]) P_i169_0 rfl (show P_aw _ _ _ 1 [.ref (w.2.2 0)] [.ref (w.2.2 0)] _ _ from ?_)
    refine P_aw_getR P_i169_1 (hw.2.1 0 (by decide)) (hw.s rfl) rfl rfl (show P_aw _ _ _ 4 [.ref (w.2.2 0)] [.ref (w.2.2 44)] _ _ from ?_)
    refine P_aw_call P_i169_4 rfl rfl (fun _ => rfl) rfl rfl rfl rfl (y2 := 85) (as := [.ref (w.2.2 44)]) (r0 := []) (P_inv_v hw.2.2 (hw.s rfl) rfl rfl) (Nat.le_of_ble_eq_true rfl) (by decide) rfl (Nat.le_of_ble_eq_true rfl) (show P_aw _ _ _ 0 [.ref (w.2.2 44)] [] _ _ from ?_)
    refine P_aw_op (L' := [.ref (w.2.2 44)]) (st' := [.ref (w.2.2 44)]) P_i85_0 rfl (show P_aw _ _ _ 1 [.ref (w.2.2 44)] [.ref (w.2.2 44)] _ _ from ?_)
    refine P_aw_op (L' := [.ref (w.2.2 44)]) (st' := [P_z 0, .ref (w.2.2 44)]) P_i85_1 rfl (show P_aw _ _ _ 2 [.ref (w.2.2 44)] [P_z 0, .ref (w.2.2 44)] _ _ from ?_)
    refine P_aw_put P_i85_2 hw.2.2 (hw.s rfl) rfl rfl rfl (show P_aw _ _ _ 5 [.ref (w.2.2 44)] [] _ _ from ?_)
    refine P_aw_op (L' := [.ref (w.2.2 44)]) (st' := [.ref (w.2.2 44)]) P_i85_5 rfl (show P_aw _ _ _ 6 [.ref (w.2.2 44)] [.ref (w.2.2 44)] _ _ from ?_)
    refine P_aw_op (L' := [.ref (w.2.2 44)]) (st' := [P_z 0, .ref (w.2.2 44)]) P_i85_6 rfl (show P_aw _ _ _ 7 [.ref (w.2.2 44)] [P_z 0, .ref (w.2.2 44)] _ _ from ?_)
    refine P_aw_put P_i85_7 hw.2.2 (hw.s rfl) rfl rfl rfl (show P_aw _ _ _ 10 [.ref (w.2.2 44)] [] _ _ from ?_)
    refine P_aw_op (L' := [.ref (w.2.2 44)]) (st' := [.ref (w.2.2 44)]) P_i85_10 rfl (show P_aw _ _ _ 11 [.ref (w.2.2 44)] [.ref (w.2.2 44)] _ _ from ?_)
    refine P_aw_op (L' := [.ref (w.2.2 44)]) (st' := [P_z 0, .ref (w.2.2 44)]) P_i85_11 rfl (show P_aw _ _ _ 12 [.ref (w.2.2 44)] [P_z 0, .ref (w.2.2 44)] _ _ from ?_)
    refine P_aw_put P_i85_12 hw.2.2 (hw.s rfl) rfl rfl rfl (show P_aw _ _ _ 15 [.ref (w.2.2 44)] [] _ _ from ?_)
    refine P_aw_op (L' := [.ref (w.2.2 44)]) (st' := [.ref (w.2.2 44)]) P_i85_15 rfl (show P_aw _ _ _ 16 [.ref (w.2.2 44)] [.ref (w.2.2 44)] _ _ from ?_)
    refine P_aw_op (L' := [.ref (w.2.2 44)]) (st' := [P_z 0, .ref (w.2.2 44)]) P_i85_16 rfl (show P_aw _ _ _ 17 [.ref (w.2.2 44)] [P_z 0, .ref (w.2.2 44)] _ _ from ?_)
    refine P_aw_put P_i85_17 hw.2.2 (hw.s rfl) rfl rfl rfl (show P_aw _ _ _ 20 [.ref (w.2.2 44)] [] _ _ from ?_)
    refine P_aw_end P_i85_20 rfl rfl (fun _ => rfl) rfl ?_
    show P_aw _ _ _ 7 [.ref (w.2.2 0)] [] _ _
    refine P_aw_op (L' := [.ref (w.2.2 0)]) (st' := [.ref (w.2.2 0)]) P_i169_7 rfl (show P_aw _ _ _ 8 [.ref (w.2.2 0)] [.ref (w.2.2 0)] _ _ from ?_)
    refine P_aw_getR P_i169_8 (hw.2.1 0 (by decide)) (hw.s rfl) rfl rfl (show P_aw _ _ _ 11 [.ref (w.2.2 0)] [.ref (w.2.2 31)] _ _ from ?_)
    refine P_aw_call P_i169_11 rfl rfl (fun _ => rfl) rfl rfl rfl rfl (y2 := 2) (as := [.ref (w.2.2 31)]) (r0 := []) (P_inv_v (hw.2.1 31 (by decide)) (hw.s rfl) rfl rfl) (Nat.le_of_ble_eq_true rfl) (by decide) rfl (Nat.le_of_ble_eq_true rfl) (show P_aw _ _ _ 0 [.ref (w.2.2 31)] [] _ _ from ?_)
    refine P_aw_op (L' := [.ref (w.2.2 31)]) (st' := [.ref (w.2.2 31)]) P_i2_0 rfl (show P_aw _ _ _ 1 [.ref (w.2.2 31)] [.ref (w.2.2 31)] _ _ from ?_)
    refine P_aw_op (L' := [.ref (w.2.2 31)]) (st' := [P_z 0, .ref (w.2.2 31)]) P_i2_1 rfl (show P_aw _ _ _ 2 [.ref (w.2.2 31)] [P_z 0, .ref (w.2.2 31)] _ _ from ?_)
    refine P_aw_put P_i2_2 (hw.2.1 31 (by decide)) (hw.s rfl) rfl rfl rfl (show P_aw _ _ _ 5 [.ref (w.2.2 31)] [] _ _ from ?_)
    refine P_aw_end P_i2_5 rfl rfl (fun _ => rfl) rfl ?_
    show P_aw _ _ _ 14 [.ref (w.2.2 0)] [] _ _
    refine P_aw_end P_i169_14 rfl rfl (fun _ => rfl) rfl ?_
    show P_aw _ _ _ 36 [.ref (w.2.2 0), P_z 3, P_z 1] [] _ _
    refine P_aw_op (L' := [.ref (w.2.2 0), P_z 3, P_z 1]) (st' := [P_z 1]) P_i147_36 rfl (show P_aw _ _ _ 37 [.ref (w.2.2 0), P_z 3, P_z 1] [P_z 1] _ _ from ?_)
    refine P_aw_end P_i147_37 rfl rfl (fun _ => rfl) rfl ?_
    exact P_qz (by omega) rfl (q _ (fun a b h1 h2 h3 h4 => (P_u2_ne (by omega)).trans ((P_u2_ne (by omega)).trans ((P_u2_ne (by omega)).trans ((P_u2_ne (by omega)).trans ((P_u2_ne (by omega)).trans (k1 a b (by omega))))))) (A_KL_cg ((P_u2_ne (by omega)).trans ((P_u2_ne (by omega)).trans ((P_u2_ne (by omega)).trans ((P_u2_ne (by omega)).trans ((P_u2_ne (by omega)).trans (k1 13 4 (by omega))))))) (fun a b h1 h2 => (P_u2_ne (by omega)).trans ((P_u2_ne (by omega)).trans ((P_u2_ne (by omega)).trans ((P_u2_ne (by omega)).trans ((P_u2_ne (by omega)).trans (k1 a b (by omega))))))) hK) (A_O_cg (fun b => (P_u2_ne (by omega)).trans ((P_u2_ne (by omega)).trans ((P_u2_ne (by omega)).trans ((P_u2_ne (by omega)).trans ((P_u2_ne (by omega)).trans (k1 28 b (by omega))))))) hO) ((P_u2_ne (by omega)).trans ((P_u2_ne (by omega)).trans ((P_u2_ne (by omega)).trans ((P_u2_ne (by omega)).trans ((P_u2_ne (by omega)).trans (k2)))))) P_u2_at)

theorem s_rw3n {w : P_Lw} (hw : P_Cw w) {d : Nat} {Q : P_R → P_A → Prop} {σ : P_A} {ns : Int} {tb : Int → Nat} {rw : Int → Int} {vr : Int → Int → Int} {cl : Int → Int} {V : Int → Int → Int → Int} {cs : List A_cd} {od : Int → Int} {it : Int} {ki ci : Int → Int} {gp oi lm : Int} {nv : Int} (hB : A_B w σ ns tb rw vr cl V cs od it ki ci gp oi lm nv) (h0 : nv = 1) (q : ∀ σ', A_fch σ σ' → A_KL σ' cs → A_O σ' ns od → σ' 13 5 = 1 → σ' 31 16 = 0 → Q (.inl (some (P_z 0))) σ') : P_aw w (d + 10) 147 0 [.ref (w.2.2 0), P_z 3, P_un] [] σ Q := by
  obtain ⟨hA, hX, hF, hK, hO, hok, htk, hN, hn01, hrd1, hfp⟩ := id hB
  have hns := hA.2.1
  have hit := hF.2.1
  have hsz0 := hK.2.1
  subst h0
  refine P_aw_op (L' := [.ref (w.2.2 0), P_z 3, P_un]) (st' := [.ref (w.2.2 0)]) P_i147_0 rfl (show P_aw _ _ _ 1 [.ref (w.2.2 0), P_z 3, P_un] [.ref (w.2.2 0)] _ _ from ?_)
  refine P_aw_call P_i147_1 rfl rfl (fun _ => rfl) rfl rfl rfl rfl (y2 := 168) (as := [.ref (w.2.2 0)]) (r0 := []) (P_inv_v (hw.2.1 0 (by decide)) (hw.s rfl) rfl rfl) (Nat.le_of_ble_eq_true rfl) (by decide) rfl (Nat.le_of_ble_eq_true rfl) (show P_aw _ _ _ 0 [.ref (w.2.2 0)] [] _ _ from ?_)
  refine P_aw_op (L' := [.ref (w.2.2 0)]) (st' := [.ref (w.2.2 0)]) P_i168_0 rfl (show P_aw _ _ _ 1 [.ref (w.2.2 0)] [.ref (w.2.2 0)] _ _ from ?_)
  refine P_aw_getR P_i168_1 (hw.2.1 0 (by decide)) (hw.s rfl) rfl rfl (show P_aw _ _ _ 4 [.ref (w.2.2 0)] [.ref (w.2.2 29)] _ _ from ?_)
  refine P_aw_call P_i168_4 rfl rfl (fun _ => rfl) rfl rfl rfl rfl (y2 := 92) (as := [.ref (w.2.2 29)]) (r0 := []) (P_inv_v (hw.2.1 29 (by decide)) (hw.s rfl) rfl rfl) (Nat.le_of_ble_eq_true rfl) (by decide) rfl (Nat.le_of_ble_eq_true rfl) (show P_aw _ _ _ 0 [.ref (w.2.2 29)] [] _ _ from ?_)
  refine P_aw_op (L' := [.ref (w.2.2 29)]) (st' := [.ref (w.2.2 29)]) P_i92_0 rfl (show P_aw _ _ _ 1 [.ref (w.2.2 29)] [.ref (w.2.2 29)] _ _ from ?_)
  refine P_aw_getv P_i92_1 (hw.2.1 29 (by decide)) (hw.s rfl) rfl rfl (hrd1) (show P_aw _ _ _ 4 [.ref (w.2.2 29)] [P_z 1] _ _ from ?_)
  refine P_aw_end P_i92_4 rfl rfl (fun _ => rfl) rfl ?_
  show P_aw _ _ _ 7 [.ref (w.2.2 0)] [P_z 1] _ _
  refine P_aw_izt P_i168_7 ⟨by decide, by decide⟩ (P_ci_net (by omega)) (show P_aw _ _ _ 21 [.ref (w.2.2 0)] [] _ _ from ?_)
  refine P_aw_end P_i168_21 rfl rfl (fun _ => rfl) rfl ?_
  show P_aw _ _ _ 4 [.ref (w.2.2 0), P_z 3, P_un] [] _ _
  refine P_aw_op (L' := [.ref (w.2.2 0), P_z 3, P_un]) (st' := [P_z 3]) P_i147_4 rfl (show P_aw _ _ _ 5 [.ref (w.2.2 0), P_z 3, P_un] [P_z 3] _ _ from ?_)
  refine P_aw_izf P_i147_5 ⟨by decide, by decide⟩ (P_ci_ltf (by omega)) (show P_aw _ _ _ 8 [.ref (w.2.2 0), P_z 3, P_un] [] _ _ from ?_)
  refine P_aw_op (L' := [.ref (w.2.2 0), P_z 3, P_un]) (st' := [P_z 3]) P_i147_8 rfl (show P_aw _ _ _ 9 [.ref (w.2.2 0), P_z 3, P_un] [P_z 3] _ _ from ?_)
  refine P_aw_op (L' := [.ref (w.2.2 0), P_z 3, P_un]) (st' := [P_z 3, P_z 3]) P_i147_9 rfl (show P_aw _ _ _ 10 [.ref (w.2.2 0), P_z 3, P_un] [P_z 3, P_z 3] _ _ from ?_)
  refine P_aw_ict P_i147_10 ⟨by decide, by decide⟩ ⟨by decide, by decide⟩ (P_ci_let (by omega)) (show P_aw _ _ _ 23 [.ref (w.2.2 0), P_z 3, P_un] [] _ _ from ?_)
  refine P_aw_op (L' := [.ref (w.2.2 0), P_z 3, P_un]) (st' := [.ref (w.2.2 0)]) P_i147_23 rfl (show P_aw _ _ _ 24 [.ref (w.2.2 0), P_z 3, P_un] [.ref (w.2.2 0)] _ _ from ?_)
  refine P_aw_getR P_i147_24 (hw.2.1 0 (by decide)) (hw.s rfl) rfl rfl (show P_aw _ _ _ 27 [.ref (w.2.2 0), P_z 3, P_un] [.ref (w.2.2 13)] _ _ from ?_)
  refine P_aw_op (L' := [.ref (w.2.2 0), P_z 3, P_un]) (st' := [P_z 3, .ref (w.2.2 13)]) P_i147_27 rfl (show P_aw _ _ _ 28 [.ref (w.2.2 0), P_z 3, P_un] [P_z 3, .ref (w.2.2 13)] _ _ from ?_)
  refine P_aw_call P_i147_28 rfl rfl (fun _ => rfl) rfl rfl rfl rfl (y2 := 70) (as := [.ref (w.2.2 13), P_z 3]) (r0 := []) (P_inv_v (hw.2.1 13 (by decide)) (hw.s rfl) rfl rfl) (Nat.le_of_ble_eq_true rfl) (by decide) rfl (Nat.le_of_ble_eq_true rfl) (show P_aw _ _ _ 0 [.ref (w.2.2 13), P_z 3] [] _ _ from ?_)
  refine P_aw_op (L' := [.ref (w.2.2 13), P_z 3]) (st' := [P_z 3]) P_i70_0 rfl (show P_aw _ _ _ 1 [.ref (w.2.2 13), P_z 3] [P_z 3] _ _ from ?_)
  refine P_aw_sw P_i70_1 (by decide +kernel) (show P_aw _ _ _ 43 [.ref (w.2.2 13), P_z 3] [] _ _ from ?_)
  refine P_aw_op (L' := [.ref (w.2.2 13), P_z 3]) (st' := [.ref (w.2.2 13)]) P_i70_43 rfl (show P_aw _ _ _ 44 [.ref (w.2.2 13), P_z 3] [.ref (w.2.2 13)] _ _ from ?_)
  refine P_aw_call P_i70_44 rfl rfl (fun _ => rfl) rfl rfl rfl rfl (y2 := 77) (as := [.ref (w.2.2 13)]) (r0 := []) (P_inv_v (hw.2.1 13 (by decide)) (hw.s rfl) rfl rfl) (Nat.le_of_ble_eq_true rfl) (by decide) rfl (Nat.le_of_ble_eq_true rfl) (s_nv1 hw hN ?_)
  show P_aw _ _ _ 47 [.ref (w.2.2 13), P_z 3] [P_z 0] _ _
  refine P_aw_izt P_i70_47 ⟨by decide, by decide⟩ (P_ci_eqt (by omega)) (show P_aw _ _ _ 54 [.ref (w.2.2 13), P_z 3] [] _ _ from ?_)
  refine P_aw_op (L' := [.ref (w.2.2 13), P_z 3]) (st' := [P_z 0]) P_i70_54 rfl (show P_aw _ _ _ 55 [.ref (w.2.2 13), P_z 3] [P_z 0] _ _ from ?_)
  refine P_aw_end P_i70_55 rfl rfl (fun _ => rfl) rfl ?_
  show P_aw _ _ _ 31 [.ref (w.2.2 0), P_z 3, P_un] [P_z 0] _ _
  refine P_aw_op (L' := [.ref (w.2.2 0), P_z 3, P_z 0]) (st' := []) P_i147_31 rfl (show P_aw _ _ _ 32 [.ref (w.2.2 0), P_z 3, P_z 0] [] _ _ from ?_)
  refine P_aw_op (L' := [.ref (w.2.2 0), P_z 3, P_z 0]) (st' := [.ref (w.2.2 0)]) P_i147_32 rfl (show P_aw _ _ _ 33 [.ref (w.2.2 0), P_z 3, P_z 0] [.ref (w.2.2 0)] _ _ from ?_)
  refine P_aw_call P_i147_33 rfl rfl (fun _ => rfl) rfl rfl rfl rfl (y2 := 169) (as := [.ref (w.2.2 0)]) (r0 := []) (P_inv_v (hw.2.1 0 (by decide)) (hw.s rfl) rfl rfl) (Nat.le_of_ble_eq_true rfl) (by decide) rfl (Nat.le_of_ble_eq_true rfl) (show P_aw _ _ _ 0 [.ref (w.2.2 0)] [] _ _ from ?_)
  refine P_aw_op (L' := [.ref (w.2.2 0)]) (st' := [.ref (w.2.2 0)]) P_i169_0 rfl (show P_aw _ _ _ 1 [.ref (w.2.2 0)] [.ref (w.2.2 0)] _ _ from ?_)
  refine P_aw_getR P_i169_1 (hw.2.1 0 (by decide)) (hw.s rfl) rfl rfl (show P_aw _ _ _ 4 [.ref (w.2.2 0)] [.ref (w.2.2 44)] _ _ from ?_)
  refine P_aw_call P_i169_4 rfl rfl (fun _ => rfl) rfl rfl rfl rfl (y2 := 85) (as := [.ref (w.2.2 44)]) (r0 := []) (P_inv_v hw.2.2 (hw.s rfl) rfl rfl) (Nat.le_of_ble_eq_true rfl) (by decide) rfl (Nat.le_of_ble_eq_true rfl) (show P_aw _ _ _ 0 [.ref (w.2.2 44)] [] _ _ from ?_)
  refine P_aw_op (L' := [.ref (w.2.2 44)]) (st' := [.ref (w.2.2 44)]) P_i85_0 rfl (show P_aw _ _ _ 1 [.ref (w.2.2 44)] [.ref (w.2.2 44)] _ _ from ?_)
  refine P_aw_op (L' := [.ref (w.2.2 44)]) (st' := [P_z 0, .ref (w.2.2 44)]) P_i85_1 rfl (show P_aw _ _ _ 2 [.ref (w.2.2 44)] [P_z 0, .ref (w.2.2 44)] _ _ from ?_)
  refine P_aw_put P_i85_2 hw.2.2 (hw.s rfl) rfl rfl rfl (show P_aw _ _ _ 5 [.ref (w.2.2 44)] [] _ _ from ?_)
  refine P_aw_op (L' := [.ref (w.2.2 44)]) (st' := [.ref (w.2.2 44)]) P_i85_5 rfl (show P_aw _ _ _ 6 [.ref (w.2.2 44)] [.ref (w.2.2 44)] _ _ from ?_)
  refine P_aw_op (L' := [.ref (w.2.2 44)]) (st' := [P_z 0, .ref (w.2.2 44)]) P_i85_6 rfl (show P_aw _ _ _ 7 [.ref (w.2.2 44)] [P_z 0, .ref (w.2.2 44)] _ _ from ?_)
  refine P_aw_put P_i85_7 hw.2.2 (hw.s rfl) rfl rfl rfl (show P_aw _ _ _ 10 [.ref (w.2.2 44)] [] _ _ from ?_)
  refine P_aw_op (L' := [.ref (w.2.2 44)]) (st' := [.ref (w.2.2 44)]) P_i85_10 rfl (show P_aw _ _ _ 11 [.ref (w.2.2 44)] [.ref (w.2.2 44)] _ _ from ?_)
  refine P_aw_op (L' := [.ref (w.2.2 44)]) (st' := [P_z 0, .ref (w.2.2 44)]) P_i85_11 rfl (show P_aw _ _ _ 12 [.ref (w.2.2 44)] [P_z 0, .ref (w.2.2 44)] _ _ from ?_)
  refine P_aw_put P_i85_12 hw.2.2 (hw.s rfl) rfl rfl rfl (show P_aw _ _ _ 15 [.ref (w.2.2 44)] [] _ _ from ?_)
  refine P_aw_op (L' := [.ref (w.2.2 44)]) (st' := [.ref (w.2.2 44)]) P_i85_15 rfl (show P_aw _ _ _ 16 [.ref (w.2.2 44)] [.ref (w.2.2 44)] _ _ from ?_)
  refine P_aw_op (L' := [.ref (w.2.2 44)]) (st' := [P_z 0, .ref (w.2.2 44)]) P_i85_16 rfl (show P_aw _ _ _ 17 [.ref (w.2.2 44)] [P_z 0, .ref (w.2.2 44)] _ _ from ?_)
  refine P_aw_put P_i85_17 hw.2.2 (hw.s rfl) rfl rfl rfl (show P_aw _ _ _ 20 [.ref (w.2.2 44)] [] _ _ from ?_)
  refine P_aw_end P_i85_20 rfl rfl (fun _ => rfl) rfl ?_
  show P_aw _ _ _ 7 [.ref (w.2.2 0)] [] _ _
  refine P_aw_op (L' := [.ref (w.2.2 0)]) (st' := [.ref (w.2.2 0)]) P_i169_7 rfl (show P_aw _ _ _ 8 [.ref (w.2.2 0)] [.ref (w.2.2 0)] _ _ from ?_)
  refine P_aw_getR P_i169_8 (hw.2.1 0 (by decide)) (hw.s rfl) rfl rfl (show P_aw _ _ _ 11 [.ref (w.2.2 0)] [.ref (w.2.2 31)] _ _ from ?_)
  refine P_aw_call P_i169_11 rfl rfl (fun _ => rfl) rfl rfl rfl rfl (y2 := 2) (as := [.ref (w.2.2 31)]) (r0 := []) (P_inv_v (hw.2.1 31 (by decide)) (hw.s rfl) rfl rfl) (Nat.le_of_ble_eq_true rfl) (by decide) rfl (Nat.le_of_ble_eq_true rfl) (show P_aw _ _ _ 0 [.ref (w.2.2 31)] [] _ _ from ?_)
  refine P_aw_op (L' := [.ref (w.2.2 31)]) (st' := [.ref (w.2.2 31)]) P_i2_0 rfl (show P_aw _ _ _ 1 [.ref (w.2.2 31)] [.ref (w.2.2 31)] _ _ from ?_)
  refine P_aw_op (L' := [.ref (w.2.2 31)]) (st' := [P_z 0, .ref (w.2.2 31)]) P_i2_1 rfl (show P_aw _ _ _ 2 [.ref (w.2.2 31)] [P_z 0, .ref (w.2.2 31)] _ _ from ?_)
  refine P_aw_put P_i2_2 (hw.2.1 31 (by decide)) (hw.s rfl) rfl rfl rfl (show P_aw _ _ _ 5 [.ref (w.2.2 31)] [] _ _ from ?_)
  refine P_aw_end P_i2_5 rfl rfl (fun _ => rfl) rfl ?_
  show P_aw _ _ _ 14 [.ref (w.2.2 0)] [] _ _
  refine P_aw_end P_i169_14 rfl rfl (fun _ => rfl) rfl ?_
  show P_aw _ _ _ 36 [.ref (w.2.2 0), P_z 3, P_z 0] [] _ _
  refine P_aw_op (L' := [.ref (w.2.2 0), P_z 3, P_z 0]) (st' := [P_z 0]) P_i147_36 rfl (show P_aw _ _ _ 37 [.ref (w.2.2 0), P_z 3, P_z 0] [P_z 0] _ _ from ?_)
  refine P_aw_end P_i147_37 rfl rfl (fun _ => rfl) rfl ?_
  exact q _ (fun a b h1 h2 h3 h4 => (P_u2_ne (by omega)).trans ((P_u2_ne (by omega)).trans ((P_u2_ne (by omega)).trans ((P_u2_ne (by omega)).trans (P_u2_ne (by omega)))))) (A_KL_cg ((P_u2_ne (by omega)).trans ((P_u2_ne (by omega)).trans ((P_u2_ne (by omega)).trans ((P_u2_ne (by omega)).trans (P_u2_ne (by omega)))))) (fun a b h1 h2 => (P_u2_ne (by omega)).trans ((P_u2_ne (by omega)).trans ((P_u2_ne (by omega)).trans ((P_u2_ne (by omega)).trans (P_u2_ne (by omega)))))) hK) (A_O_cg (fun b => (P_u2_ne (by omega)).trans ((P_u2_ne (by omega)).trans ((P_u2_ne (by omega)).trans ((P_u2_ne (by omega)).trans (P_u2_ne (by omega)))))) hO) ((P_u2_ne (by omega)).trans ((P_u2_ne (by omega)).trans ((P_u2_ne (by omega)).trans ((P_u2_ne (by omega)).trans ((P_u2_ne (by omega)).trans (hN)))))) P_u2_at

theorem s_swp {w : P_Lw} (hw : P_Cw w) {d : Nat} {Q : P_R → P_A → Prop} {σ : P_A} {ns : Int} {tb : Int → Nat} {rw : Int → Int} {vr : Int → Int → Int} {cl : Int → Int} {V : Int → Int → Int → Int} {cs : List A_cd} {od : Int → Int} {it : Int} {ki ci : Int → Int} {gp oi lm : Int} {nv : Int} (hB : A_B w σ ns tb rw vr cl V cs od it ki ci gp oi lm nv) {a b : Int} (ha : 0 ≤ a ∧ a < ns) (hb : 0 ≤ b ∧ b < ns) (q : ∀ σ', A_fch σ σ' → A_KL σ' (cs.map (A_up (A_xch od a b))) → A_O σ' ns (A_xch od a b) → σ' 13 5 = nv → σ' 31 16 = 0 → Q (.inl (some (P_z (A_xch od a b a)))) σ') : P_aw w (d + 10) 148 0 [.ref (w.2.2 0), P_z a, P_z b] [] σ Q := by
  obtain ⟨hA, hX, hF, hK, hO, hok, htk, hN, hn01, hrd1, hfp⟩ := id hB
  have hns := hA.2.1
  have hit := hF.2.1
  have hsz0 := hK.2.1
  refine P_aw_op (L' := [.ref (w.2.2 0), P_z a, P_z b]) (st' := [.ref (w.2.2 0)]) P_i148_0 rfl (show P_aw _ _ _ 1 [.ref (w.2.2 0), P_z a, P_z b] [.ref (w.2.2 0)] _ _ from ?_)
  refine P_aw_call P_i148_1 rfl rfl (fun _ => rfl) rfl rfl rfl rfl (y2 := 168) (as := [.ref (w.2.2 0)]) (r0 := []) (P_inv_v (hw.2.1 0 (by decide)) (hw.s rfl) rfl rfl) (Nat.le_of_ble_eq_true rfl) (by decide) rfl (Nat.le_of_ble_eq_true rfl) (show P_aw _ _ _ 0 [.ref (w.2.2 0)] [] _ _ from ?_)
  refine P_aw_op (L' := [.ref (w.2.2 0)]) (st' := [.ref (w.2.2 0)]) P_i168_0 rfl (show P_aw _ _ _ 1 [.ref (w.2.2 0)] [.ref (w.2.2 0)] _ _ from ?_)
  refine P_aw_getR P_i168_1 (hw.2.1 0 (by decide)) (hw.s rfl) rfl rfl (show P_aw _ _ _ 4 [.ref (w.2.2 0)] [.ref (w.2.2 29)] _ _ from ?_)
  refine P_aw_call P_i168_4 rfl rfl (fun _ => rfl) rfl rfl rfl rfl (y2 := 92) (as := [.ref (w.2.2 29)]) (r0 := []) (P_inv_v (hw.2.1 29 (by decide)) (hw.s rfl) rfl rfl) (Nat.le_of_ble_eq_true rfl) (by decide) rfl (Nat.le_of_ble_eq_true rfl) (show P_aw _ _ _ 0 [.ref (w.2.2 29)] [] _ _ from ?_)
  refine P_aw_op (L' := [.ref (w.2.2 29)]) (st' := [.ref (w.2.2 29)]) P_i92_0 rfl (show P_aw _ _ _ 1 [.ref (w.2.2 29)] [.ref (w.2.2 29)] _ _ from ?_)
  refine P_aw_getv P_i92_1 (hw.2.1 29 (by decide)) (hw.s rfl) rfl rfl (hrd1) (show P_aw _ _ _ 4 [.ref (w.2.2 29)] [P_z 1] _ _ from ?_)
  refine P_aw_end P_i92_4 rfl rfl (fun _ => rfl) rfl ?_
  show P_aw _ _ _ 7 [.ref (w.2.2 0)] [P_z 1] _ _
  refine P_aw_izt P_i168_7 ⟨by decide, by decide⟩ (P_ci_net (by omega)) (show P_aw _ _ _ 21 [.ref (w.2.2 0)] [] _ _ from ?_)
  refine P_aw_end P_i168_21 rfl rfl (fun _ => rfl) rfl ?_
  show P_aw _ _ _ 4 [.ref (w.2.2 0), P_z a, P_z b] [] _ _
  refine P_aw_op (L' := [.ref (w.2.2 0), P_z a, P_z b]) (st' := [.ref (w.2.2 0)]) P_i148_4 rfl (show P_aw _ _ _ 5 [.ref (w.2.2 0), P_z a, P_z b] [.ref (w.2.2 0)] _ _ from ?_)
  refine P_aw_getR P_i148_5 (hw.2.1 0 (by decide)) (hw.s rfl) rfl rfl (show P_aw _ _ _ 8 [.ref (w.2.2 0), P_z a, P_z b] [.ref (w.2.2 6)] _ _ from ?_)
  refine P_aw_op (L' := [.ref (w.2.2 0), P_z a, P_z b]) (st' := [P_z a, .ref (w.2.2 6)]) P_i148_8 rfl (show P_aw _ _ _ 9 [.ref (w.2.2 0), P_z a, P_z b] [P_z a, .ref (w.2.2 6)] _ _ from ?_)
  refine P_aw_call P_i148_9 rfl rfl (fun _ => rfl) rfl rfl rfl rfl (y2 := 37) (as := [.ref (w.2.2 6), P_z a]) (r0 := []) (P_inv_v (hw.2.1 6 (by decide)) (hw.s rfl) rfl rfl) (Nat.le_of_ble_eq_true rfl) (by decide) rfl (Nat.le_of_ble_eq_true rfl) (show P_aw _ _ _ 0 [.ref (w.2.2 6), P_z a] [] _ _ from ?_)
  refine P_aw_op (L' := [.ref (w.2.2 6), P_z a]) (st' := [P_z a]) P_i37_0 rfl (show P_aw _ _ _ 1 [.ref (w.2.2 6), P_z a] [P_z a] _ _ from ?_)
  refine P_aw_izf P_i37_1 ⟨by omega, by omega⟩ (P_ci_ltf (by omega)) (show P_aw _ _ _ 4 [.ref (w.2.2 6), P_z a] [] _ _ from ?_)
  refine P_aw_op (L' := [.ref (w.2.2 6), P_z a]) (st' := [P_z a]) P_i37_4 rfl (show P_aw _ _ _ 5 [.ref (w.2.2 6), P_z a] [P_z a] _ _ from ?_)
  refine P_aw_op (L' := [.ref (w.2.2 6), P_z a]) (st' := [.ref (w.2.2 6), P_z a]) P_i37_5 rfl (show P_aw _ _ _ 6 [.ref (w.2.2 6), P_z a] [.ref (w.2.2 6), P_z a] _ _ from ?_)
  refine P_aw_getv P_i37_6 (hw.2.1 6 (by decide)) (hw.s rfl) rfl rfl (hA.1) (show P_aw _ _ _ 9 [.ref (w.2.2 6), P_z a] [P_z ns, P_z a] _ _ from ?_)
  refine P_aw_icf P_i37_9 ⟨by omega, by omega⟩ ⟨by omega, by omega⟩ (P_ci_gef (by omega)) (show P_aw _ _ _ 12 [.ref (w.2.2 6), P_z a] [] _ _ from ?_)
  refine P_aw_op (L' := [.ref (w.2.2 6), P_z a]) (st' := [P_z 1]) P_i37_12 rfl (show P_aw _ _ _ 13 [.ref (w.2.2 6), P_z a] [P_z 1] _ _ from ?_)
  refine P_aw_goto P_i37_13 (show P_aw _ _ _ 17 [.ref (w.2.2 6), P_z a] [P_z 1] _ _ from ?_)
  refine P_aw_end P_i37_17 rfl rfl (fun _ => rfl) rfl ?_
  show P_aw _ _ _ 12 [.ref (w.2.2 0), P_z a, P_z b] [P_z 1] _ _
  refine P_aw_izf P_i148_12 ⟨by decide, by decide⟩ (P_ci_eqf (by omega)) (show P_aw _ _ _ 15 [.ref (w.2.2 0), P_z a, P_z b] [] _ _ from ?_)
  refine P_aw_op (L' := [.ref (w.2.2 0), P_z a, P_z b]) (st' := [.ref (w.2.2 0)]) P_i148_15 rfl (show P_aw _ _ _ 16 [.ref (w.2.2 0), P_z a, P_z b] [.ref (w.2.2 0)] _ _ from ?_)
  refine P_aw_getR P_i148_16 (hw.2.1 0 (by decide)) (hw.s rfl) rfl rfl (show P_aw _ _ _ 19 [.ref (w.2.2 0), P_z a, P_z b] [.ref (w.2.2 6)] _ _ from ?_)
  refine P_aw_op (L' := [.ref (w.2.2 0), P_z a, P_z b]) (st' := [P_z b, .ref (w.2.2 6)]) P_i148_19 rfl (show P_aw _ _ _ 20 [.ref (w.2.2 0), P_z a, P_z b] [P_z b, .ref (w.2.2 6)] _ _ from ?_)
  refine P_aw_call P_i148_20 rfl rfl (fun _ => rfl) rfl rfl rfl rfl (y2 := 37) (as := [.ref (w.2.2 6), P_z b]) (r0 := []) (P_inv_v (hw.2.1 6 (by decide)) (hw.s rfl) rfl rfl) (Nat.le_of_ble_eq_true rfl) (by decide) rfl (Nat.le_of_ble_eq_true rfl) (show P_aw _ _ _ 0 [.ref (w.2.2 6), P_z b] [] _ _ from ?_)
  refine P_aw_op (L' := [.ref (w.2.2 6), P_z b]) (st' := [P_z b]) P_i37_0 rfl (show P_aw _ _ _ 1 [.ref (w.2.2 6), P_z b] [P_z b] _ _ from ?_)
  refine P_aw_izf P_i37_1 ⟨by omega, by omega⟩ (P_ci_ltf (by omega)) (show P_aw _ _ _ 4 [.ref (w.2.2 6), P_z b] [] _ _ from ?_)
  refine P_aw_op (L' := [.ref (w.2.2 6), P_z b]) (st' := [P_z b]) P_i37_4 rfl (show P_aw _ _ _ 5 [.ref (w.2.2 6), P_z b] [P_z b] _ _ from ?_)
  refine P_aw_op (L' := [.ref (w.2.2 6), P_z b]) (st' := [.ref (w.2.2 6), P_z b]) P_i37_5 rfl (show P_aw _ _ _ 6 [.ref (w.2.2 6), P_z b] [.ref (w.2.2 6), P_z b] _ _ from ?_)
  refine P_aw_getv P_i37_6 (hw.2.1 6 (by decide)) (hw.s rfl) rfl rfl (hA.1) (show P_aw _ _ _ 9 [.ref (w.2.2 6), P_z b] [P_z ns, P_z b] _ _ from ?_)
  refine P_aw_icf P_i37_9 ⟨by omega, by omega⟩ ⟨by omega, by omega⟩ (P_ci_gef (by omega)) (show P_aw _ _ _ 12 [.ref (w.2.2 6), P_z b] [] _ _ from ?_)
  refine P_aw_op (L' := [.ref (w.2.2 6), P_z b]) (st' := [P_z 1]) P_i37_12 rfl (show P_aw _ _ _ 13 [.ref (w.2.2 6), P_z b] [P_z 1] _ _ from ?_)
  refine P_aw_goto P_i37_13 (show P_aw _ _ _ 17 [.ref (w.2.2 6), P_z b] [P_z 1] _ _ from ?_)
  refine P_aw_end P_i37_17 rfl rfl (fun _ => rfl) rfl ?_
  show P_aw _ _ _ 23 [.ref (w.2.2 0), P_z a, P_z b] [P_z 1] _ _
  refine P_aw_izt P_i148_23 ⟨by decide, by decide⟩ (P_ci_net (by omega)) (show P_aw _ _ _ 36 [.ref (w.2.2 0), P_z a, P_z b] [] _ _ from ?_)
  refine P_aw_op (L' := [.ref (w.2.2 0), P_z a, P_z b]) (st' := [.ref (w.2.2 0)]) P_i148_36 rfl (show P_aw _ _ _ 37 [.ref (w.2.2 0), P_z a, P_z b] [.ref (w.2.2 0)] _ _ from ?_)
  refine P_aw_getR P_i148_37 (hw.2.1 0 (by decide)) (hw.s rfl) rfl rfl (show P_aw _ _ _ 40 [.ref (w.2.2 0), P_z a, P_z b] [.ref (w.2.2 13)] _ _ from ?_)
  refine P_aw_op (L' := [.ref (w.2.2 0), P_z a, P_z b]) (st' := [P_z a, .ref (w.2.2 13)]) P_i148_40 rfl (show P_aw _ _ _ 41 [.ref (w.2.2 0), P_z a, P_z b] [P_z a, .ref (w.2.2 13)] _ _ from ?_)
  refine P_aw_op (L' := [.ref (w.2.2 0), P_z a, P_z b]) (st' := [P_z b, P_z a, .ref (w.2.2 13)]) P_i148_41 rfl (show P_aw _ _ _ 42 [.ref (w.2.2 0), P_z a, P_z b] [P_z b, P_z a, .ref (w.2.2 13)] _ _ from ?_)
  refine P_aw_call P_i148_42 rfl rfl (fun _ => rfl) rfl rfl rfl rfl (y2 := 79) (as := [.ref (w.2.2 13), P_z a, P_z b]) (r0 := []) (P_inv_v (hw.2.1 13 (by decide)) (hw.s rfl) rfl rfl) (Nat.le_of_ble_eq_true rfl) (by decide) rfl (Nat.le_of_ble_eq_true rfl) (s_ex hw hns ha hb hO hK hok (fun σ2 k1 k2 k3 => ?_))
  show P_aw _ _ _ 45 [.ref (w.2.2 0), P_z a, P_z b] [] _ _
  refine P_aw_op (L' := [.ref (w.2.2 0), P_z a, P_z b]) (st' := [.ref (w.2.2 0)]) P_i148_45 rfl (show P_aw _ _ _ 46 [.ref (w.2.2 0), P_z a, P_z b] [.ref (w.2.2 0)] _ _ from ?_)
  refine P_aw_call P_i148_46 rfl rfl (fun _ => rfl) rfl rfl rfl rfl (y2 := 169) (as := [.ref (w.2.2 0)]) (r0 := []) (P_inv_v (hw.2.1 0 (by decide)) (hw.s rfl) rfl rfl) (Nat.le_of_ble_eq_true rfl) (by decide) rfl (Nat.le_of_ble_eq_true rfl) (show P_aw _ _ _ 0 [.ref (w.2.2 0)] [] _ _ from ?_)
  refine P_aw_op (L' := [.ref (w.2.2 0)]) (st' := [.ref (w.2.2 0)]) P_i169_0 rfl (show P_aw _ _ _ 1 [.ref (w.2.2 0)] [.ref (w.2.2 0)] _ _ from ?_)
  refine P_aw_getR P_i169_1 (hw.2.1 0 (by decide)) (hw.s rfl) rfl rfl (show P_aw _ _ _ 4 [.ref (w.2.2 0)] [.ref (w.2.2 44)] _ _ from ?_)
  refine P_aw_call P_i169_4 rfl rfl (fun _ => rfl) rfl rfl rfl rfl (y2 := 85) (as := [.ref (w.2.2 44)]) (r0 := []) (P_inv_v hw.2.2 (hw.s rfl) rfl rfl) (Nat.le_of_ble_eq_true rfl) (by decide) rfl (Nat.le_of_ble_eq_true rfl) (show P_aw _ _ _ 0 [.ref (w.2.2 44)] [] _ _ from ?_)
  refine P_aw_op (L' := [.ref (w.2.2 44)]) (st' := [.ref (w.2.2 44)]) P_i85_0 rfl (show P_aw _ _ _ 1 [.ref (w.2.2 44)] [.ref (w.2.2 44)] _ _ from ?_)
  refine P_aw_op (L' := [.ref (w.2.2 44)]) (st' := [P_z 0, .ref (w.2.2 44)]) P_i85_1 rfl (show P_aw _ _ _ 2 [.ref (w.2.2 44)] [P_z 0, .ref (w.2.2 44)] _ _ from ?_)
  refine P_aw_put P_i85_2 hw.2.2 (hw.s rfl) rfl rfl rfl (show P_aw _ _ _ 5 [.ref (w.2.2 44)] [] _ _ from ?_)
  refine P_aw_op (L' := [.ref (w.2.2 44)]) (st' := [.ref (w.2.2 44)]) P_i85_5 rfl (show P_aw _ _ _ 6 [.ref (w.2.2 44)] [.ref (w.2.2 44)] _ _ from ?_)
  refine P_aw_op (L' := [.ref (w.2.2 44)]) (st' := [P_z 0, .ref (w.2.2 44)]) P_i85_6 rfl (show P_aw _ _ _ 7 [.ref (w.2.2 44)] [P_z 0, .ref (w.2.2 44)] _ _ from ?_)
  refine P_aw_put P_i85_7 hw.2.2 (hw.s rfl) rfl rfl rfl (show P_aw _ _ _ 10 [.ref (w.2.2 44)] [] _ _ from ?_)
  refine P_aw_op (L' := [.ref (w.2.2 44)]) (st' := [.ref (w.2.2 44)]) P_i85_10 rfl (show P_aw _ _ _ 11 [.ref (w.2.2 44)] [.ref (w.2.2 44)] _ _ from ?_)
  refine P_aw_op (L' := [.ref (w.2.2 44)]) (st' := [P_z 0, .ref (w.2.2 44)]) P_i85_11 rfl (show P_aw _ _ _ 12 [.ref (w.2.2 44)] [P_z 0, .ref (w.2.2 44)] _ _ from ?_)
  refine P_aw_put P_i85_12 hw.2.2 (hw.s rfl) rfl rfl rfl (show P_aw _ _ _ 15 [.ref (w.2.2 44)] [] _ _ from ?_)
  refine P_aw_op (L' := [.ref (w.2.2 44)]) (st' := [.ref (w.2.2 44)]) P_i85_15 rfl (show P_aw _ _ _ 16 [.ref (w.2.2 44)] [.ref (w.2.2 44)] _ _ from ?_)
  refine P_aw_op (L' := [.ref (w.2.2 44)]) (st' := [P_z 0, .ref (w.2.2 44)]) P_i85_16 rfl (show P_aw _ _ _ 17 [.ref (w.2.2 44)] [P_z 0, .ref (w.2.2 44)] _ _ from ?_)
  refine P_aw_put P_i85_17 hw.2.2 (hw.s rfl) rfl rfl rfl (show P_aw _ _ _ 20 [.ref (w.2.2 44)] [] _ _ from ?_)
  refine P_aw_end P_i85_20 rfl rfl (fun _ => rfl) rfl ?_
  show P_aw _ _ _ 7 [.ref (w.2.2 0)] [] _ _
  refine P_aw_op (L' := [.ref (w.2.2 0)]) (st' := [.ref (w.2.2 0)]) P_i169_7 rfl (show P_aw _ _ _ 8 [.ref (w.2.2 0)] [.ref (w.2.2 0)] _ _ from ?_)
  refine P_aw_getR P_i169_8 (hw.2.1 0 (by decide)) (hw.s rfl) rfl rfl (show P_aw _ _ _ 11 [.ref (w.2.2 0)] [.ref (w.2.2 31)] _ _ from ?_)
  refine P_aw_call P_i169_11 rfl rfl (fun _ => rfl) rfl rfl rfl rfl (y2 := 2) (as := [.ref (w.2.2 31)]) (r0 := []) (P_inv_v (hw.2.1 31 (by decide)) (hw.s rfl) rfl rfl) (Nat.le_of_ble_eq_true rfl) (by decide) rfl (Nat.le_of_ble_eq_true rfl) (show P_aw _ _ _ 0 [.ref (w.2.2 31)] [] _ _ from ?_)
  refine P_aw_op (L' := [.ref (w.2.2 31)]) (st' := [.ref (w.2.2 31)]) P_i2_0 rfl (show P_aw _ _ _ 1 [.ref (w.2.2 31)] [.ref (w.2.2 31)] _ _ from ?_)
  refine P_aw_op (L' := [.ref (w.2.2 31)]) (st' := [P_z 0, .ref (w.2.2 31)]) P_i2_1 rfl (show P_aw _ _ _ 2 [.ref (w.2.2 31)] [P_z 0, .ref (w.2.2 31)] _ _ from ?_)
  refine P_aw_put P_i2_2 (hw.2.1 31 (by decide)) (hw.s rfl) rfl rfl rfl (show P_aw _ _ _ 5 [.ref (w.2.2 31)] [] _ _ from ?_)
  refine P_aw_end P_i2_5 rfl rfl (fun _ => rfl) rfl ?_
  show P_aw _ _ _ 14 [.ref (w.2.2 0)] [] _ _
  refine P_aw_end P_i169_14 rfl rfl (fun _ => rfl) rfl ?_
  show P_aw _ _ _ 49 [.ref (w.2.2 0), P_z a, P_z b] [] _ _
  refine P_aw_op (L' := [.ref (w.2.2 0), P_z a, P_z b]) (st' := [.ref (w.2.2 0)]) P_i148_49 rfl (show P_aw _ _ _ 50 [.ref (w.2.2 0), P_z a, P_z b] [.ref (w.2.2 0)] _ _ from ?_)
  refine P_aw_getR P_i148_50 (hw.2.1 0 (by decide)) (hw.s rfl) rfl rfl (show P_aw _ _ _ 53 [.ref (w.2.2 0), P_z a, P_z b] [.ref (w.2.2 13)] _ _ from ?_)
  refine P_aw_op (L' := [.ref (w.2.2 0), P_z a, P_z b]) (st' := [P_z a, .ref (w.2.2 13)]) P_i148_53 rfl (show P_aw _ _ _ 54 [.ref (w.2.2 0), P_z a, P_z b] [P_z a, .ref (w.2.2 13)] _ _ from ?_)
  refine P_aw_call P_i148_54 rfl rfl (fun _ => rfl) rfl rfl rfl rfl (y2 := 58) (as := [.ref (w.2.2 13), P_z a]) (r0 := []) (P_inv_v (hw.2.1 13 (by decide)) (hw.s rfl) rfl rfl) (Nat.le_of_ble_eq_true rfl) (by decide) rfl (Nat.le_of_ble_eq_true rfl) (show P_aw _ _ _ 0 [.ref (w.2.2 13), P_z a] [] _ _ from ?_)
  refine P_aw_op (L' := [.ref (w.2.2 13), P_z a]) (st' := [.ref (w.2.2 13)]) P_i58_0 rfl (show P_aw _ _ _ 1 [.ref (w.2.2 13), P_z a] [.ref (w.2.2 13)] _ _ from ?_)
  refine P_aw_getR P_i58_1 (hw.2.1 13 (by decide)) (hw.s rfl) rfl rfl (show P_aw _ _ _ 4 [.ref (w.2.2 13), P_z a] [.ref (w.2.2 28)] _ _ from ?_)
  refine P_aw_op (L' := [.ref (w.2.2 13), P_z a]) (st' := [P_z a, .ref (w.2.2 28)]) P_i58_4 rfl (show P_aw _ _ _ 5 [.ref (w.2.2 13), P_z a] [P_z a, .ref (w.2.2 28)] _ _ from ?_)
  refine P_aw_call P_i58_5 rfl rfl (fun _ => rfl) rfl rfl rfl rfl (y2 := 178) (as := [.ref (w.2.2 28), P_z a]) (r0 := []) (fun _ _ => rfl) (Nat.le_of_ble_eq_true rfl) (by decide) rfl (Nat.le_of_ble_eq_true rfl) (show P_aw _ _ _ 0 [.ref (w.2.2 28), P_z a] [] _ _ from ?_)
  refine P_aw_op (L' := [.ref (w.2.2 28), P_z a]) (st' := [P_z a]) P_i178_0 rfl (show P_aw _ _ _ 1 [.ref (w.2.2 28), P_z a] [P_z a] _ _ from ?_)
  refine P_aw_izf P_i178_1 ⟨by omega, by omega⟩ (P_ci_ltf (by omega)) (show P_aw _ _ _ 4 [.ref (w.2.2 28), P_z a] [] _ _ from ?_)
  refine P_aw_op (L' := [.ref (w.2.2 28), P_z a]) (st' := [P_z a]) P_i178_4 rfl (show P_aw _ _ _ 5 [.ref (w.2.2 28), P_z a] [P_z a] _ _ from ?_)
  refine P_aw_op (L' := [.ref (w.2.2 28), P_z a]) (st' := [.ref (w.2.2 28), P_z a]) P_i178_5 rfl (show P_aw _ _ _ 6 [.ref (w.2.2 28), P_z a] [.ref (w.2.2 28), P_z a] _ _ from ?_)
  refine P_aw_alen P_i178_6 (hw.2.1 28 (by decide)) (hw.s rfl) (show P_aw _ _ _ 7 [.ref (w.2.2 28), P_z a] [P_z 3, P_z a] _ _ from ?_)
  refine P_aw_icf P_i178_7 ⟨by omega, by omega⟩ ⟨by decide, by decide⟩ (P_ci_gef (by omega)) (show P_aw _ _ _ 10 [.ref (w.2.2 28), P_z a] [] _ _ from ?_)
  refine P_aw_op (L' := [.ref (w.2.2 28), P_z a]) (st' := [.ref (w.2.2 28)]) P_i178_10 rfl (show P_aw _ _ _ 11 [.ref (w.2.2 28), P_z a] [.ref (w.2.2 28)] _ _ from ?_)
  refine P_aw_op (L' := [.ref (w.2.2 28), P_z a]) (st' := [P_z a, .ref (w.2.2 28)]) P_i178_11 rfl (show P_aw _ _ _ 12 [.ref (w.2.2 28), P_z a] [P_z a, .ref (w.2.2 28)] _ _ from ?_)
  refine P_aw_aldv P_i178_12 (hw.2.1 28 (by decide)) (hw.s rfl) (by omega) (by omega) (by decide) ((P_u2_ne (by omega)).trans ((P_u2_ne (by omega)).trans ((P_u2_ne (by omega)).trans ((P_u2_ne (by omega)).trans ((P_u2_ne (by omega)).trans ((k2 a (by omega) (by omega)).1)))))) (show P_aw _ _ _ 13 [.ref (w.2.2 28), P_z a] [P_z (A_xch od a b a)] _ _ from ?_)
  refine P_aw_goto P_i178_13 (show P_aw _ _ _ 17 [.ref (w.2.2 28), P_z a] [P_z (A_xch od a b a)] _ _ from ?_)
  refine P_aw_end P_i178_17 rfl rfl (fun _ => rfl) rfl ?_
  show P_aw _ _ _ 8 [.ref (w.2.2 13), P_z a] [P_z (A_xch od a b a)] _ _
  refine P_aw_end P_i58_8 rfl rfl (fun _ => rfl) rfl ?_
  show P_aw _ _ _ 57 [.ref (w.2.2 0), P_z a, P_z b] [P_z (A_xch od a b a)] _ _
  refine P_aw_end P_i148_57 rfl rfl (fun _ => rfl) rfl ?_
  exact q _ (fun a b h1 h2 h3 h4 => (P_u2_ne (by omega)).trans ((P_u2_ne (by omega)).trans ((P_u2_ne (by omega)).trans ((P_u2_ne (by omega)).trans ((P_u2_ne (by omega)).trans (k1 a b (by omega) (by omega) (by omega))))))) (A_KL_cg ((P_u2_ne (by omega)).trans ((P_u2_ne (by omega)).trans ((P_u2_ne (by omega)).trans ((P_u2_ne (by omega)).trans (P_u2_ne (by omega)))))) (fun a b h1 h2 => (P_u2_ne (by omega)).trans ((P_u2_ne (by omega)).trans ((P_u2_ne (by omega)).trans ((P_u2_ne (by omega)).trans (P_u2_ne (by omega)))))) k3) (A_O_cg (fun b => (P_u2_ne (by omega)).trans ((P_u2_ne (by omega)).trans ((P_u2_ne (by omega)).trans ((P_u2_ne (by omega)).trans (P_u2_ne (by omega)))))) k2) ((P_u2_ne (by omega)).trans ((P_u2_ne (by omega)).trans ((P_u2_ne (by omega)).trans ((P_u2_ne (by omega)).trans ((P_u2_ne (by omega)).trans ((k1 13 5 (by omega) (by omega) (by omega)).trans hN)))))) P_u2_at

theorem A_best_O {cst : Int → Int} {ns : Int} (hn : 1 ≤ ns ∧ ns ≤ 3) : A_isO ns (A_best cst ns).2 := by
  have h0 : A_isO ns ((-1, 0) : Int × Int).2 := Or.inl rfl
  have key : ∀ (l : List Int) (x : Int × Int), (∀ s ∈ l, A_isO ns s) → A_isO ns x.2 → A_isO ns (l.foldl (fun x s => A_bt cst s x) x).2 := by
    intro l
    induction l with
    | nil => intro x _ h; exact h
    | cons a l ih => intro x hl h; exact ih _ (fun s hs => hl s (List.mem_cons_of_mem _ hs)) (A_bt_O h (hl a List.mem_cons_self))
  unfold A_best
  refine key _ _ ?_ h0
  intro s hs
  unfold A_isO
  split at hs
  · simp at hs; omega
  · split at hs
    · simp at hs; omega
    · simp at hs; omega
theorem s_bst1 {w : P_Lw} (hw : P_Cw w) {d : Nat} {Q : P_R → P_A → Prop} {σ : P_A} {tb : Int → Nat} {rw : Int → Int} {vr : Int → Int → Int} {cl : Int → Int} {V : Int → Int → Int → Int} {cs : List A_cd} {od : Int → Int} {it : Int} {ki ci : Int → Int} {gp oi lm : Int} {nv : Int} (hB : A_B w σ 1 tb rw vr cl V cs od it ki ci gp oi lm nv) (q : ∀ σ', A_fch σ σ' → A_KL σ' (A_lows (A_od (A_best (A_cst rw vr nv 1 (cs.length : Int) (fun i => A_lc cs i 0) (fun i => A_lc cs i 1) (fun i => A_lc cs i 2)) 1).2) cs) → A_O σ' 1 (A_od (A_best (A_cst rw vr nv 1 (cs.length : Int) (fun i => A_lc cs i 0) (fun i => A_lc cs i 1) (fun i => A_lc cs i 2)) 1).2) → σ' 13 5 = nv → σ' 31 16 = 0 → Q (.inl (some (P_zl (A_best (A_cst rw vr nv 1 (cs.length : Int) (fun i => A_lc cs i 0) (fun i => A_lc cs i 1) (fun i => A_lc cs i 2)) 1).1))) σ') : P_aw w (d + 12) 149 0 [.ref (w.2.2 0), P_un, P_un] [] σ Q := by
  obtain ⟨hA, hX, hF, hK, hO, hok, htk, hN, hn01, hrd1, hfp⟩ := id hB
  have hns := hA.2.1
  have hit := hF.2.1
  have hsz0 := hK.2.1
  refine P_aw_op (L' := [.ref (w.2.2 0), P_un, P_un]) (st' := [.ref (w.2.2 0)]) P_i149_0 rfl (show P_aw _ _ _ 1 [.ref (w.2.2 0), P_un, P_un] [.ref (w.2.2 0)] _ _ from ?_)
  refine P_aw_call P_i149_1 rfl rfl (fun _ => rfl) rfl rfl rfl rfl (y2 := 168) (as := [.ref (w.2.2 0)]) (r0 := []) (P_inv_v (hw.2.1 0 (by decide)) (hw.s rfl) rfl rfl) (Nat.le_of_ble_eq_true rfl) (by decide) rfl (Nat.le_of_ble_eq_true rfl) (show P_aw _ _ _ 0 [.ref (w.2.2 0)] [] _ _ from ?_)
  refine P_aw_op (L' := [.ref (w.2.2 0)]) (st' := [.ref (w.2.2 0)]) P_i168_0 rfl (show P_aw _ _ _ 1 [.ref (w.2.2 0)] [.ref (w.2.2 0)] _ _ from ?_)
  refine P_aw_getR P_i168_1 (hw.2.1 0 (by decide)) (hw.s rfl) rfl rfl (show P_aw _ _ _ 4 [.ref (w.2.2 0)] [.ref (w.2.2 29)] _ _ from ?_)
  refine P_aw_call P_i168_4 rfl rfl (fun _ => rfl) rfl rfl rfl rfl (y2 := 92) (as := [.ref (w.2.2 29)]) (r0 := []) (P_inv_v (hw.2.1 29 (by decide)) (hw.s rfl) rfl rfl) (Nat.le_of_ble_eq_true rfl) (by decide) rfl (Nat.le_of_ble_eq_true rfl) (show P_aw _ _ _ 0 [.ref (w.2.2 29)] [] _ _ from ?_)
  refine P_aw_op (L' := [.ref (w.2.2 29)]) (st' := [.ref (w.2.2 29)]) P_i92_0 rfl (show P_aw _ _ _ 1 [.ref (w.2.2 29)] [.ref (w.2.2 29)] _ _ from ?_)
  refine P_aw_getv P_i92_1 (hw.2.1 29 (by decide)) (hw.s rfl) rfl rfl (hrd1) (show P_aw _ _ _ 4 [.ref (w.2.2 29)] [P_z 1] _ _ from ?_)
  refine P_aw_end P_i92_4 rfl rfl (fun _ => rfl) rfl ?_
  show P_aw _ _ _ 7 [.ref (w.2.2 0)] [P_z 1] _ _
  refine P_aw_izt P_i168_7 ⟨by decide, by decide⟩ (P_ci_net (by omega)) (show P_aw _ _ _ 21 [.ref (w.2.2 0)] [] _ _ from ?_)
  refine P_aw_end P_i168_21 rfl rfl (fun _ => rfl) rfl ?_
  show P_aw _ _ _ 4 [.ref (w.2.2 0), P_un, P_un] [] _ _
  refine P_aw_op (L' := [.ref (w.2.2 0), P_un, P_un]) (st' := [.ref (w.2.2 0)]) P_i149_4 rfl (show P_aw _ _ _ 5 [.ref (w.2.2 0), P_un, P_un] [.ref (w.2.2 0)] _ _ from ?_)
  refine P_aw_getR P_i149_5 (hw.2.1 0 (by decide)) (hw.s rfl) rfl rfl (show P_aw _ _ _ 8 [.ref (w.2.2 0), P_un, P_un] [.ref (w.2.2 13)] _ _ from ?_)
  refine P_aw_call P_i149_8 rfl rfl (fun _ => rfl) rfl rfl rfl rfl (y2 := 80) (as := [.ref (w.2.2 13)]) (r0 := []) (P_inv_v (hw.2.1 13 (by decide)) (hw.s rfl) rfl rfl) (Nat.le_of_ble_eq_true rfl) (by decide) rfl (Nat.le_of_ble_eq_true rfl) (s_best1 hw hA (A_CK hK hok) hN hn01 ?_)
  show P_aw _ _ _ 11 [.ref (w.2.2 0), P_un, P_un] [P_zl (A_best (A_cst rw vr nv 1 (cs.length : Int) (fun i => A_lc cs i 0) (fun i => A_lc cs i 1) (fun i => A_lc cs i 2)) 1).1] _ _
  refine P_aw_op (L' := [.ref (w.2.2 0), P_zl (A_best (A_cst rw vr nv 1 (cs.length : Int) (fun i => A_lc cs i 0) (fun i => A_lc cs i 1) (fun i => A_lc cs i 2)) 1).1, P_un]) (st' := []) P_i149_11 rfl (show P_aw _ _ _ 12 [.ref (w.2.2 0), P_zl (A_best (A_cst rw vr nv 1 (cs.length : Int) (fun i => A_lc cs i 0) (fun i => A_lc cs i 1) (fun i => A_lc cs i 2)) 1).1, P_un] [] _ _ from ?_)
  refine P_aw_op (L' := [.ref (w.2.2 0), P_zl (A_best (A_cst rw vr nv 1 (cs.length : Int) (fun i => A_lc cs i 0) (fun i => A_lc cs i 1) (fun i => A_lc cs i 2)) 1).1, P_un]) (st' := [.ref (w.2.2 0)]) P_i149_12 rfl (show P_aw _ _ _ 13 [.ref (w.2.2 0), P_zl (A_best (A_cst rw vr nv 1 (cs.length : Int) (fun i => A_lc cs i 0) (fun i => A_lc cs i 1) (fun i => A_lc cs i 2)) 1).1, P_un] [.ref (w.2.2 0)] _ _ from ?_)
  refine P_aw_call P_i149_13 rfl rfl (fun _ => rfl) rfl rfl rfl rfl (y2 := 169) (as := [.ref (w.2.2 0)]) (r0 := []) (P_inv_v (hw.2.1 0 (by decide)) (hw.s rfl) rfl rfl) (Nat.le_of_ble_eq_true rfl) (by decide) rfl (Nat.le_of_ble_eq_true rfl) (show P_aw _ _ _ 0 [.ref (w.2.2 0)] [] _ _ from ?_)
  refine P_aw_op (L' := [.ref (w.2.2 0)]) (st' := [.ref (w.2.2 0)]) P_i169_0 rfl (show P_aw _ _ _ 1 [.ref (w.2.2 0)] [.ref (w.2.2 0)] _ _ from ?_)
  refine P_aw_getR P_i169_1 (hw.2.1 0 (by decide)) (hw.s rfl) rfl rfl (show P_aw _ _ _ 4 [.ref (w.2.2 0)] [.ref (w.2.2 44)] _ _ from ?_)
  refine P_aw_call P_i169_4 rfl rfl (fun _ => rfl) rfl rfl rfl rfl (y2 := 85) (as := [.ref (w.2.2 44)]) (r0 := []) (P_inv_v hw.2.2 (hw.s rfl) rfl rfl) (Nat.le_of_ble_eq_true rfl) (by decide) rfl (Nat.le_of_ble_eq_true rfl) (show P_aw _ _ _ 0 [.ref (w.2.2 44)] [] _ _ from ?_)
  refine P_aw_op (L' := [.ref (w.2.2 44)]) (st' := [.ref (w.2.2 44)]) P_i85_0 rfl (show P_aw _ _ _ 1 [.ref (w.2.2 44)] [.ref (w.2.2 44)] _ _ from ?_)
  refine P_aw_op (L' := [.ref (w.2.2 44)]) (st' := [P_z 0, .ref (w.2.2 44)]) P_i85_1 rfl (show P_aw _ _ _ 2 [.ref (w.2.2 44)] [P_z 0, .ref (w.2.2 44)] _ _ from ?_)
  refine P_aw_put P_i85_2 hw.2.2 (hw.s rfl) rfl rfl rfl (show P_aw _ _ _ 5 [.ref (w.2.2 44)] [] _ _ from ?_)
  refine P_aw_op (L' := [.ref (w.2.2 44)]) (st' := [.ref (w.2.2 44)]) P_i85_5 rfl (show P_aw _ _ _ 6 [.ref (w.2.2 44)] [.ref (w.2.2 44)] _ _ from ?_)
  refine P_aw_op (L' := [.ref (w.2.2 44)]) (st' := [P_z 0, .ref (w.2.2 44)]) P_i85_6 rfl (show P_aw _ _ _ 7 [.ref (w.2.2 44)] [P_z 0, .ref (w.2.2 44)] _ _ from ?_)
  refine P_aw_put P_i85_7 hw.2.2 (hw.s rfl) rfl rfl rfl (show P_aw _ _ _ 10 [.ref (w.2.2 44)] [] _ _ from ?_)
  refine P_aw_op (L' := [.ref (w.2.2 44)]) (st' := [.ref (w.2.2 44)]) P_i85_10 rfl (show P_aw _ _ _ 11 [.ref (w.2.2 44)] [.ref (w.2.2 44)] _ _ from ?_)
  refine P_aw_op (L' := [.ref (w.2.2 44)]) (st' := [P_z 0, .ref (w.2.2 44)]) P_i85_11 rfl (show P_aw _ _ _ 12 [.ref (w.2.2 44)] [P_z 0, .ref (w.2.2 44)] _ _ from ?_)
  refine P_aw_put P_i85_12 hw.2.2 (hw.s rfl) rfl rfl rfl (show P_aw _ _ _ 15 [.ref (w.2.2 44)] [] _ _ from ?_)
  refine P_aw_op (L' := [.ref (w.2.2 44)]) (st' := [.ref (w.2.2 44)]) P_i85_15 rfl (show P_aw _ _ _ 16 [.ref (w.2.2 44)] [.ref (w.2.2 44)] _ _ from ?_)
  refine P_aw_op (L' := [.ref (w.2.2 44)]) (st' := [P_z 0, .ref (w.2.2 44)]) P_i85_16 rfl (show P_aw _ _ _ 17 [.ref (w.2.2 44)] [P_z 0, .ref (w.2.2 44)] _ _ from ?_)
  refine P_aw_put P_i85_17 hw.2.2 (hw.s rfl) rfl rfl rfl (show P_aw _ _ _ 20 [.ref (w.2.2 44)] [] _ _ from ?_)
  refine P_aw_end P_i85_20 rfl rfl (fun _ => rfl) rfl ?_
  show P_aw _ _ _ 7 [.ref (w.2.2 0)] [] _ _
  refine P_aw_op (L' := [.ref (w.2.2 0)]) (st' := [.ref (w.2.2 0)]) P_i169_7 rfl (show P_aw _ _ _ 8 [.ref (w.2.2 0)] [.ref (w.2.2 0)] _ _ from ?_)
  refine P_aw_getR P_i169_8 (hw.2.1 0 (by decide)) (hw.s rfl) rfl rfl (show P_aw _ _ _ 11 [.ref (w.2.2 0)] [.ref (w.2.2 31)] _ _ from ?_)
  refine P_aw_call P_i169_11 rfl rfl (fun _ => rfl) rfl rfl rfl rfl (y2 := 2) (as := [.ref (w.2.2 31)]) (r0 := []) (P_inv_v (hw.2.1 31 (by decide)) (hw.s rfl) rfl rfl) (Nat.le_of_ble_eq_true rfl) (by decide) rfl (Nat.le_of_ble_eq_true rfl) (show P_aw _ _ _ 0 [.ref (w.2.2 31)] [] _ _ from ?_)
  refine P_aw_op (L' := [.ref (w.2.2 31)]) (st' := [.ref (w.2.2 31)]) P_i2_0 rfl (show P_aw _ _ _ 1 [.ref (w.2.2 31)] [.ref (w.2.2 31)] _ _ from ?_)
  refine P_aw_op (L' := [.ref (w.2.2 31)]) (st' := [P_z 0, .ref (w.2.2 31)]) P_i2_1 rfl (show P_aw _ _ _ 2 [.ref (w.2.2 31)] [P_z 0, .ref (w.2.2 31)] _ _ from ?_)
  refine P_aw_put P_i2_2 (hw.2.1 31 (by decide)) (hw.s rfl) rfl rfl rfl (show P_aw _ _ _ 5 [.ref (w.2.2 31)] [] _ _ from ?_)
  refine P_aw_end P_i2_5 rfl rfl (fun _ => rfl) rfl ?_
  show P_aw _ _ _ 14 [.ref (w.2.2 0)] [] _ _
  refine P_aw_end P_i169_14 rfl rfl (fun _ => rfl) rfl ?_
  show P_aw _ _ _ 16 [.ref (w.2.2 0), P_zl (A_best (A_cst rw vr nv 1 (cs.length : Int) (fun i => A_lc cs i 0) (fun i => A_lc cs i 1) (fun i => A_lc cs i 2)) 1).1, P_un] [] _ _
  refine P_aw_op (L' := [.ref (w.2.2 0), P_zl (A_best (A_cst rw vr nv 1 (cs.length : Int) (fun i => A_lc cs i 0) (fun i => A_lc cs i 1) (fun i => A_lc cs i 2)) 1).1, P_un]) (st' := [P_zl (A_best (A_cst rw vr nv 1 (cs.length : Int) (fun i => A_lc cs i 0) (fun i => A_lc cs i 1) (fun i => A_lc cs i 2)) 1).1]) P_i149_16 rfl (show P_aw _ _ _ 17 [.ref (w.2.2 0), P_zl (A_best (A_cst rw vr nv 1 (cs.length : Int) (fun i => A_lc cs i 0) (fun i => A_lc cs i 1) (fun i => A_lc cs i 2)) 1).1, P_un] [P_zl (A_best (A_cst rw vr nv 1 (cs.length : Int) (fun i => A_lc cs i 0) (fun i => A_lc cs i 1) (fun i => A_lc cs i 2)) 1).1] _ _ from ?_)
  refine P_aw_end P_i149_17 rfl rfl (fun _ => rfl) rfl ?_
  have hb0 := A_best_O (cst := (A_cst rw vr nv 1 (cs.length : Int) (fun i => A_lc cs i 0) (fun i => A_lc cs i 1) (fun i => A_lc cs i 2))) (ns := 1) (by omega); exact q _ (fun a b h1 h2 h3 h4 => (P_u2_ne (by omega)).trans ((P_u2_ne (by omega)).trans ((P_u2_ne (by omega)).trans ((P_u2_ne (by omega)).trans ((P_u2_ne (by omega)).trans (A_bi_ne (by omega) (by omega))))))) (A_KL_cg ((P_u2_ne (by omega)).trans ((P_u2_ne (by omega)).trans ((P_u2_ne (by omega)).trans ((P_u2_ne (by omega)).trans (P_u2_ne (by omega)))))) (fun a b h1 h2 => (P_u2_ne (by omega)).trans ((P_u2_ne (by omega)).trans ((P_u2_ne (by omega)).trans ((P_u2_ne (by omega)).trans (P_u2_ne (by omega)))))) (A_KL_bi hK hok)) (A_O_cg (fun b => (P_u2_ne (by omega)).trans ((P_u2_ne (by omega)).trans ((P_u2_ne (by omega)).trans ((P_u2_ne (by omega)).trans (P_u2_ne (by omega)))))) (A_O_bi hsz0.2 hb0 (by omega))) ((P_u2_ne (by omega)).trans ((P_u2_ne (by omega)).trans ((P_u2_ne (by omega)).trans ((P_u2_ne (by omega)).trans ((P_u2_ne (by omega)).trans ((A_bi_ne (by omega) (by omega)).trans hN)))))) P_u2_at

theorem s_bst2 {w : P_Lw} (hw : P_Cw w) {d : Nat} {Q : P_R → P_A → Prop} {σ : P_A} {tb : Int → Nat} {rw : Int → Int} {vr : Int → Int → Int} {cl : Int → Int} {V : Int → Int → Int → Int} {cs : List A_cd} {od : Int → Int} {it : Int} {ki ci : Int → Int} {gp oi lm : Int} {nv : Int} (hB : A_B w σ 2 tb rw vr cl V cs od it ki ci gp oi lm nv) (q : ∀ σ', A_fch σ σ' → A_KL σ' (A_lows (A_od (A_best (A_cst rw vr nv 2 (cs.length : Int) (fun i => A_lc cs i 0) (fun i => A_lc cs i 1) (fun i => A_lc cs i 2)) 2).2) cs) → A_O σ' 2 (A_od (A_best (A_cst rw vr nv 2 (cs.length : Int) (fun i => A_lc cs i 0) (fun i => A_lc cs i 1) (fun i => A_lc cs i 2)) 2).2) → σ' 13 5 = nv → σ' 31 16 = 0 → Q (.inl (some (P_zl (A_best (A_cst rw vr nv 2 (cs.length : Int) (fun i => A_lc cs i 0) (fun i => A_lc cs i 1) (fun i => A_lc cs i 2)) 2).1))) σ') : P_aw w (d + 12) 149 0 [.ref (w.2.2 0), P_un, P_un] [] σ Q := by
  obtain ⟨hA, hX, hF, hK, hO, hok, htk, hN, hn01, hrd1, hfp⟩ := id hB
  have hns := hA.2.1
  have hit := hF.2.1
  have hsz0 := hK.2.1
  refine P_aw_op (L' := [.ref (w.2.2 0), P_un, P_un]) (st' := [.ref (w.2.2 0)]) P_i149_0 rfl (show P_aw _ _ _ 1 [.ref (w.2.2 0), P_un, P_un] [.ref (w.2.2 0)] _ _ from ?_)
  refine P_aw_call P_i149_1 rfl rfl (fun _ => rfl) rfl rfl rfl rfl (y2 := 168) (as := [.ref (w.2.2 0)]) (r0 := []) (P_inv_v (hw.2.1 0 (by decide)) (hw.s rfl) rfl rfl) (Nat.le_of_ble_eq_true rfl) (by decide) rfl (Nat.le_of_ble_eq_true rfl) (show P_aw _ _ _ 0 [.ref (w.2.2 0)] [] _ _ from ?_)
  refine P_aw_op (L' := [.ref (w.2.2 0)]) (st' := [.ref (w.2.2 0)]) P_i168_0 rfl (show P_aw _ _ _ 1 [.ref (w.2.2 0)] [.ref (w.2.2 0)] _ _ from ?_)
  refine P_aw_getR P_i168_1 (hw.2.1 0 (by decide)) (hw.s rfl) rfl rfl (show P_aw _ _ _ 4 [.ref (w.2.2 0)] [.ref (w.2.2 29)] _ _ from ?_)
  refine P_aw_call P_i168_4 rfl rfl (fun _ => rfl) rfl rfl rfl rfl (y2 := 92) (as := [.ref (w.2.2 29)]) (r0 := []) (P_inv_v (hw.2.1 29 (by decide)) (hw.s rfl) rfl rfl) (Nat.le_of_ble_eq_true rfl) (by decide) rfl (Nat.le_of_ble_eq_true rfl) (show P_aw _ _ _ 0 [.ref (w.2.2 29)] [] _ _ from ?_)
  refine P_aw_op (L' := [.ref (w.2.2 29)]) (st' := [.ref (w.2.2 29)]) P_i92_0 rfl (show P_aw _ _ _ 1 [.ref (w.2.2 29)] [.ref (w.2.2 29)] _ _ from ?_)
  refine P_aw_getv P_i92_1 (hw.2.1 29 (by decide)) (hw.s rfl) rfl rfl (hrd1) (show P_aw _ _ _ 4 [.ref (w.2.2 29)] [P_z 1] _ _ from ?_)
  refine P_aw_end P_i92_4 rfl rfl (fun _ => rfl) rfl ?_
  show P_aw _ _ _ 7 [.ref (w.2.2 0)] [P_z 1] _ _
  refine P_aw_izt P_i168_7 ⟨by decide, by decide⟩ (P_ci_net (by omega)) (show P_aw _ _ _ 21 [.ref (w.2.2 0)] [] _ _ from ?_)
  refine P_aw_end P_i168_21 rfl rfl (fun _ => rfl) rfl ?_
  show P_aw _ _ _ 4 [.ref (w.2.2 0), P_un, P_un] [] _ _
  refine P_aw_op (L' := [.ref (w.2.2 0), P_un, P_un]) (st' := [.ref (w.2.2 0)]) P_i149_4 rfl (show P_aw _ _ _ 5 [.ref (w.2.2 0), P_un, P_un] [.ref (w.2.2 0)] _ _ from ?_)
  refine P_aw_getR P_i149_5 (hw.2.1 0 (by decide)) (hw.s rfl) rfl rfl (show P_aw _ _ _ 8 [.ref (w.2.2 0), P_un, P_un] [.ref (w.2.2 13)] _ _ from ?_)
  refine P_aw_call P_i149_8 rfl rfl (fun _ => rfl) rfl rfl rfl rfl (y2 := 80) (as := [.ref (w.2.2 13)]) (r0 := []) (P_inv_v (hw.2.1 13 (by decide)) (hw.s rfl) rfl rfl) (Nat.le_of_ble_eq_true rfl) (by decide) rfl (Nat.le_of_ble_eq_true rfl) (s_best2 hw hA (A_CK hK hok) hN hn01 ?_)
  show P_aw _ _ _ 11 [.ref (w.2.2 0), P_un, P_un] [P_zl (A_best (A_cst rw vr nv 2 (cs.length : Int) (fun i => A_lc cs i 0) (fun i => A_lc cs i 1) (fun i => A_lc cs i 2)) 2).1] _ _
  refine P_aw_op (L' := [.ref (w.2.2 0), P_zl (A_best (A_cst rw vr nv 2 (cs.length : Int) (fun i => A_lc cs i 0) (fun i => A_lc cs i 1) (fun i => A_lc cs i 2)) 2).1, P_un]) (st' := []) P_i149_11 rfl (show P_aw _ _ _ 12 [.ref (w.2.2 0), P_zl (A_best (A_cst rw vr nv 2 (cs.length : Int) (fun i => A_lc cs i 0) (fun i => A_lc cs i 1) (fun i => A_lc cs i 2)) 2).1, P_un] [] _ _ from ?_)
  refine P_aw_op (L' := [.ref (w.2.2 0), P_zl (A_best (A_cst rw vr nv 2 (cs.length : Int) (fun i => A_lc cs i 0) (fun i => A_lc cs i 1) (fun i => A_lc cs i 2)) 2).1, P_un]) (st' := [.ref (w.2.2 0)]) P_i149_12 rfl (show P_aw _ _ _ 13 [.ref (w.2.2 0), P_zl (A_best (A_cst rw vr nv 2 (cs.length : Int) (fun i => A_lc cs i 0) (fun i => A_lc cs i 1) (fun i => A_lc cs i 2)) 2).1, P_un] [.ref (w.2.2 0)] _ _ from ?_)
  refine P_aw_call P_i149_13 rfl rfl (fun _ => rfl) rfl rfl rfl rfl (y2 := 169) (as := [.ref (w.2.2 0)]) (r0 := []) (P_inv_v (hw.2.1 0 (by decide)) (hw.s rfl) rfl rfl) (Nat.le_of_ble_eq_true rfl) (by decide) rfl (Nat.le_of_ble_eq_true rfl) (show P_aw _ _ _ 0 [.ref (w.2.2 0)] [] _ _ from ?_)
  refine P_aw_op (L' := [.ref (w.2.2 0)]) (st' := [.ref (w.2.2 0)]) P_i169_0 rfl (show P_aw _ _ _ 1 [.ref (w.2.2 0)] [.ref (w.2.2 0)] _ _ from ?_)
  refine P_aw_getR P_i169_1 (hw.2.1 0 (by decide)) (hw.s rfl) rfl rfl (show P_aw _ _ _ 4 [.ref (w.2.2 0)] [.ref (w.2.2 44)] _ _ from ?_)
  refine P_aw_call P_i169_4 rfl rfl (fun _ => rfl) rfl rfl rfl rfl (y2 := 85) (as := [.ref (w.2.2 44)]) (r0 := []) (P_inv_v hw.2.2 (hw.s rfl) rfl rfl) (Nat.le_of_ble_eq_true rfl) (by decide) rfl (Nat.le_of_ble_eq_true rfl) (show P_aw _ _ _ 0 [.ref (w.2.2 44)] [] _ _ from ?_)
  refine P_aw_op (L' := [.ref (w.2.2 44)]) (st' := [.ref (w.2.2 44)]) P_i85_0 rfl (show P_aw _ _ _ 1 [.ref (w.2.2 44)] [.ref (w.2.2 44)] _ _ from ?_)
  refine P_aw_op (L' := [.ref (w.2.2 44)]) (st' := [P_z 0, .ref (w.2.2 44)]) P_i85_1 rfl (show P_aw _ _ _ 2 [.ref (w.2.2 44)] [P_z 0, .ref (w.2.2 44)] _ _ from ?_)
  refine P_aw_put P_i85_2 hw.2.2 (hw.s rfl) rfl rfl rfl (show P_aw _ _ _ 5 [.ref (w.2.2 44)] [] _ _ from ?_)
  refine P_aw_op (L' := [.ref (w.2.2 44)]) (st' := [.ref (w.2.2 44)]) P_i85_5 rfl (show P_aw _ _ _ 6 [.ref (w.2.2 44)] [.ref (w.2.2 44)] _ _ from ?_)
  refine P_aw_op (L' := [.ref (w.2.2 44)]) (st' := [P_z 0, .ref (w.2.2 44)]) P_i85_6 rfl (show P_aw _ _ _ 7 [.ref (w.2.2 44)] [P_z 0, .ref (w.2.2 44)] _ _ from ?_)
  refine P_aw_put P_i85_7 hw.2.2 (hw.s rfl) rfl rfl rfl (show P_aw _ _ _ 10 [.ref (w.2.2 44)] [] _ _ from ?_)
  refine P_aw_op (L' := [.ref (w.2.2 44)]) (st' := [.ref (w.2.2 44)]) P_i85_10 rfl (show P_aw _ _ _ 11 [.ref (w.2.2 44)] [.ref (w.2.2 44)] _ _ from ?_)
  refine P_aw_op (L' := [.ref (w.2.2 44)]) (st' := [P_z 0, .ref (w.2.2 44)]) P_i85_11 rfl (show P_aw _ _ _ 12 [.ref (w.2.2 44)] [P_z 0, .ref (w.2.2 44)] _ _ from ?_)
  refine P_aw_put P_i85_12 hw.2.2 (hw.s rfl) rfl rfl rfl (show P_aw _ _ _ 15 [.ref (w.2.2 44)] [] _ _ from ?_)
  refine P_aw_op (L' := [.ref (w.2.2 44)]) (st' := [.ref (w.2.2 44)]) P_i85_15 rfl (show P_aw _ _ _ 16 [.ref (w.2.2 44)] [.ref (w.2.2 44)] _ _ from ?_)
  refine P_aw_op (L' := [.ref (w.2.2 44)]) (st' := [P_z 0, .ref (w.2.2 44)]) P_i85_16 rfl (show P_aw _ _ _ 17 [.ref (w.2.2 44)] [P_z 0, .ref (w.2.2 44)] _ _ from ?_)
  refine P_aw_put P_i85_17 hw.2.2 (hw.s rfl) rfl rfl rfl (show P_aw _ _ _ 20 [.ref (w.2.2 44)] [] _ _ from ?_)
  refine P_aw_end P_i85_20 rfl rfl (fun _ => rfl) rfl ?_
  show P_aw _ _ _ 7 [.ref (w.2.2 0)] [] _ _
  refine P_aw_op (L' := [.ref (w.2.2 0)]) (st' := [.ref (w.2.2 0)]) P_i169_7 rfl (show P_aw _ _ _ 8 [.ref (w.2.2 0)] [.ref (w.2.2 0)] _ _ from ?_)
  refine P_aw_getR P_i169_8 (hw.2.1 0 (by decide)) (hw.s rfl) rfl rfl (show P_aw _ _ _ 11 [.ref (w.2.2 0)] [.ref (w.2.2 31)] _ _ from ?_)
  refine P_aw_call P_i169_11 rfl rfl (fun _ => rfl) rfl rfl rfl rfl (y2 := 2) (as := [.ref (w.2.2 31)]) (r0 := []) (P_inv_v (hw.2.1 31 (by decide)) (hw.s rfl) rfl rfl) (Nat.le_of_ble_eq_true rfl) (by decide) rfl (Nat.le_of_ble_eq_true rfl) (show P_aw _ _ _ 0 [.ref (w.2.2 31)] [] _ _ from ?_)
  refine P_aw_op (L' := [.ref (w.2.2 31)]) (st' := [.ref (w.2.2 31)]) P_i2_0 rfl (show P_aw _ _ _ 1 [.ref (w.2.2 31)] [.ref (w.2.2 31)] _ _ from ?_)
  refine P_aw_op (L' := [.ref (w.2.2 31)]) (st' := [P_z 0, .ref (w.2.2 31)]) P_i2_1 rfl (show P_aw _ _ _ 2 [.ref (w.2.2 31)] [P_z 0, .ref (w.2.2 31)] _ _ from ?_)
  refine P_aw_put P_i2_2 (hw.2.1 31 (by decide)) (hw.s rfl) rfl rfl rfl (show P_aw _ _ _ 5 [.ref (w.2.2 31)] [] _ _ from ?_)
  refine P_aw_end P_i2_5 rfl rfl (fun _ => rfl) rfl ?_
  show P_aw _ _ _ 14 [.ref (w.2.2 0)] [] _ _
  refine P_aw_end P_i169_14 rfl rfl (fun _ => rfl) rfl ?_
  show P_aw _ _ _ 16 [.ref (w.2.2 0), P_zl (A_best (A_cst rw vr nv 2 (cs.length : Int) (fun i => A_lc cs i 0) (fun i => A_lc cs i 1) (fun i => A_lc cs i 2)) 2).1, P_un] [] _ _
  refine P_aw_op (L' := [.ref (w.2.2 0), P_zl (A_best (A_cst rw vr nv 2 (cs.length : Int) (fun i => A_lc cs i 0) (fun i => A_lc cs i 1) (fun i => A_lc cs i 2)) 2).1, P_un]) (st' := [P_zl (A_best (A_cst rw vr nv 2 (cs.length : Int) (fun i => A_lc cs i 0) (fun i => A_lc cs i 1) (fun i => A_lc cs i 2)) 2).1]) P_i149_16 rfl (show P_aw _ _ _ 17 [.ref (w.2.2 0), P_zl (A_best (A_cst rw vr nv 2 (cs.length : Int) (fun i => A_lc cs i 0) (fun i => A_lc cs i 1) (fun i => A_lc cs i 2)) 2).1, P_un] [P_zl (A_best (A_cst rw vr nv 2 (cs.length : Int) (fun i => A_lc cs i 0) (fun i => A_lc cs i 1) (fun i => A_lc cs i 2)) 2).1] _ _ from ?_)
  refine P_aw_end P_i149_17 rfl rfl (fun _ => rfl) rfl ?_
  have hb0 := A_best_O (cst := (A_cst rw vr nv 2 (cs.length : Int) (fun i => A_lc cs i 0) (fun i => A_lc cs i 1) (fun i => A_lc cs i 2))) (ns := 2) (by omega); exact q _ (fun a b h1 h2 h3 h4 => (P_u2_ne (by omega)).trans ((P_u2_ne (by omega)).trans ((P_u2_ne (by omega)).trans ((P_u2_ne (by omega)).trans ((P_u2_ne (by omega)).trans (A_bi_ne (by omega) (by omega))))))) (A_KL_cg ((P_u2_ne (by omega)).trans ((P_u2_ne (by omega)).trans ((P_u2_ne (by omega)).trans ((P_u2_ne (by omega)).trans (P_u2_ne (by omega)))))) (fun a b h1 h2 => (P_u2_ne (by omega)).trans ((P_u2_ne (by omega)).trans ((P_u2_ne (by omega)).trans ((P_u2_ne (by omega)).trans (P_u2_ne (by omega)))))) (A_KL_bi hK hok)) (A_O_cg (fun b => (P_u2_ne (by omega)).trans ((P_u2_ne (by omega)).trans ((P_u2_ne (by omega)).trans ((P_u2_ne (by omega)).trans (P_u2_ne (by omega)))))) (A_O_bi hsz0.2 hb0 (by omega))) ((P_u2_ne (by omega)).trans ((P_u2_ne (by omega)).trans ((P_u2_ne (by omega)).trans ((P_u2_ne (by omega)).trans ((P_u2_ne (by omega)).trans ((A_bi_ne (by omega) (by omega)).trans hN)))))) P_u2_at

theorem s_bst3 {w : P_Lw} (hw : P_Cw w) {d : Nat} {Q : P_R → P_A → Prop} {σ : P_A} {tb : Int → Nat} {rw : Int → Int} {vr : Int → Int → Int} {cl : Int → Int} {V : Int → Int → Int → Int} {cs : List A_cd} {od : Int → Int} {it : Int} {ki ci : Int → Int} {gp oi lm : Int} {nv : Int} (hB : A_B w σ 3 tb rw vr cl V cs od it ki ci gp oi lm nv) (q : ∀ σ', A_fch σ σ' → A_KL σ' (A_lows (A_od (A_best (A_cst rw vr nv 3 (cs.length : Int) (fun i => A_lc cs i 0) (fun i => A_lc cs i 1) (fun i => A_lc cs i 2)) 3).2) cs) → A_O σ' 3 (A_od (A_best (A_cst rw vr nv 3 (cs.length : Int) (fun i => A_lc cs i 0) (fun i => A_lc cs i 1) (fun i => A_lc cs i 2)) 3).2) → σ' 13 5 = nv → σ' 31 16 = 0 → Q (.inl (some (P_zl (A_best (A_cst rw vr nv 3 (cs.length : Int) (fun i => A_lc cs i 0) (fun i => A_lc cs i 1) (fun i => A_lc cs i 2)) 3).1))) σ') : P_aw w (d + 12) 149 0 [.ref (w.2.2 0), P_un, P_un] [] σ Q := by
  obtain ⟨hA, hX, hF, hK, hO, hok, htk, hN, hn01, hrd1, hfp⟩ := id hB
  have hns := hA.2.1
  have hit := hF.2.1
  have hsz0 := hK.2.1
  refine P_aw_op (L' := [.ref (w.2.2 0), P_un, P_un]) (st' := [.ref (w.2.2 0)]) P_i149_0 rfl (show P_aw _ _ _ 1 [.ref (w.2.2 0), P_un, P_un] [.ref (w.2.2 0)] _ _ from ?_)
  refine P_aw_call P_i149_1 rfl rfl (fun _ => rfl) rfl rfl rfl rfl (y2 := 168) (as := [.ref (w.2.2 0)]) (r0 := []) (P_inv_v (hw.2.1 0 (by decide)) (hw.s rfl) rfl rfl) (Nat.le_of_ble_eq_true rfl) (by decide) rfl (Nat.le_of_ble_eq_true rfl) (show P_aw _ _ _ 0 [.ref (w.2.2 0)] [] _ _ from ?_)
  refine P_aw_op (L' := [.ref (w.2.2 0)]) (st' := [.ref (w.2.2 0)]) P_i168_0 rfl (show P_aw _ _ _ 1 [.ref (w.2.2 0)] [.ref (w.2.2 0)] _ _ from ?_)
  refine P_aw_getR P_i168_1 (hw.2.1 0 (by decide)) (hw.s rfl) rfl rfl (show P_aw _ _ _ 4 [.ref (w.2.2 0)] [.ref (w.2.2 29)] _ _ from ?_)
  refine P_aw_call P_i168_4 rfl rfl (fun _ => rfl) rfl rfl rfl rfl (y2 := 92) (as := [.ref (w.2.2 29)]) (r0 := []) (P_inv_v (hw.2.1 29 (by decide)) (hw.s rfl) rfl rfl) (Nat.le_of_ble_eq_true rfl) (by decide) rfl (Nat.le_of_ble_eq_true rfl) (show P_aw _ _ _ 0 [.ref (w.2.2 29)] [] _ _ from ?_)
  refine P_aw_op (L' := [.ref (w.2.2 29)]) (st' := [.ref (w.2.2 29)]) P_i92_0 rfl (show P_aw _ _ _ 1 [.ref (w.2.2 29)] [.ref (w.2.2 29)] _ _ from ?_)
  refine P_aw_getv P_i92_1 (hw.2.1 29 (by decide)) (hw.s rfl) rfl rfl (hrd1) (show P_aw _ _ _ 4 [.ref (w.2.2 29)] [P_z 1] _ _ from ?_)
  refine P_aw_end P_i92_4 rfl rfl (fun _ => rfl) rfl ?_
  show P_aw _ _ _ 7 [.ref (w.2.2 0)] [P_z 1] _ _
  refine P_aw_izt P_i168_7 ⟨by decide, by decide⟩ (P_ci_net (by omega)) (show P_aw _ _ _ 21 [.ref (w.2.2 0)] [] _ _ from ?_)
  refine P_aw_end P_i168_21 rfl rfl (fun _ => rfl) rfl ?_
  show P_aw _ _ _ 4 [.ref (w.2.2 0), P_un, P_un] [] _ _
  refine P_aw_op (L' := [.ref (w.2.2 0), P_un, P_un]) (st' := [.ref (w.2.2 0)]) P_i149_4 rfl (show P_aw _ _ _ 5 [.ref (w.2.2 0), P_un, P_un] [.ref (w.2.2 0)] _ _ from ?_)
  refine P_aw_getR P_i149_5 (hw.2.1 0 (by decide)) (hw.s rfl) rfl rfl (show P_aw _ _ _ 8 [.ref (w.2.2 0), P_un, P_un] [.ref (w.2.2 13)] _ _ from ?_)
  refine P_aw_call P_i149_8 rfl rfl (fun _ => rfl) rfl rfl rfl rfl (y2 := 80) (as := [.ref (w.2.2 13)]) (r0 := []) (P_inv_v (hw.2.1 13 (by decide)) (hw.s rfl) rfl rfl) (Nat.le_of_ble_eq_true rfl) (by decide) rfl (Nat.le_of_ble_eq_true rfl) (s_best3 hw hA (A_CK hK hok) hN hn01 ?_)
  show P_aw _ _ _ 11 [.ref (w.2.2 0), P_un, P_un] [P_zl (A_best (A_cst rw vr nv 3 (cs.length : Int) (fun i => A_lc cs i 0) (fun i => A_lc cs i 1) (fun i => A_lc cs i 2)) 3).1] _ _
  refine P_aw_op (L' := [.ref (w.2.2 0), P_zl (A_best (A_cst rw vr nv 3 (cs.length : Int) (fun i => A_lc cs i 0) (fun i => A_lc cs i 1) (fun i => A_lc cs i 2)) 3).1, P_un]) (st' := []) P_i149_11 rfl (show P_aw _ _ _ 12 [.ref (w.2.2 0), P_zl (A_best (A_cst rw vr nv 3 (cs.length : Int) (fun i => A_lc cs i 0) (fun i => A_lc cs i 1) (fun i => A_lc cs i 2)) 3).1, P_un] [] _ _ from ?_)
  refine P_aw_op (L' := [.ref (w.2.2 0), P_zl (A_best (A_cst rw vr nv 3 (cs.length : Int) (fun i => A_lc cs i 0) (fun i => A_lc cs i 1) (fun i => A_lc cs i 2)) 3).1, P_un]) (st' := [.ref (w.2.2 0)]) P_i149_12 rfl (show P_aw _ _ _ 13 [.ref (w.2.2 0), P_zl (A_best (A_cst rw vr nv 3 (cs.length : Int) (fun i => A_lc cs i 0) (fun i => A_lc cs i 1) (fun i => A_lc cs i 2)) 3).1, P_un] [.ref (w.2.2 0)] _ _ from ?_)
  refine P_aw_call P_i149_13 rfl rfl (fun _ => rfl) rfl rfl rfl rfl (y2 := 169) (as := [.ref (w.2.2 0)]) (r0 := []) (P_inv_v (hw.2.1 0 (by decide)) (hw.s rfl) rfl rfl) (Nat.le_of_ble_eq_true rfl) (by decide) rfl (Nat.le_of_ble_eq_true rfl) (show P_aw _ _ _ 0 [.ref (w.2.2 0)] [] _ _ from ?_)
  refine P_aw_op (L' := [.ref (w.2.2 0)]) (st' := [.ref (w.2.2 0)]) P_i169_0 rfl (show P_aw _ _ _ 1 [.ref (w.2.2 0)] [.ref (w.2.2 0)] _ _ from ?_)
  refine P_aw_getR P_i169_1 (hw.2.1 0 (by decide)) (hw.s rfl) rfl rfl (show P_aw _ _ _ 4 [.ref (w.2.2 0)] [.ref (w.2.2 44)] _ _ from ?_)
  refine P_aw_call P_i169_4 rfl rfl (fun _ => rfl) rfl rfl rfl rfl (y2 := 85) (as := [.ref (w.2.2 44)]) (r0 := []) (P_inv_v hw.2.2 (hw.s rfl) rfl rfl) (Nat.le_of_ble_eq_true rfl) (by decide) rfl (Nat.le_of_ble_eq_true rfl) (show P_aw _ _ _ 0 [.ref (w.2.2 44)] [] _ _ from ?_)
  refine P_aw_op (L' := [.ref (w.2.2 44)]) (st' := [.ref (w.2.2 44)]) P_i85_0 rfl (show P_aw _ _ _ 1 [.ref (w.2.2 44)] [.ref (w.2.2 44)] _ _ from ?_)
  refine P_aw_op (L' := [.ref (w.2.2 44)]) (st' := [P_z 0, .ref (w.2.2 44)]) P_i85_1 rfl (show P_aw _ _ _ 2 [.ref (w.2.2 44)] [P_z 0, .ref (w.2.2 44)] _ _ from ?_)
  refine P_aw_put P_i85_2 hw.2.2 (hw.s rfl) rfl rfl rfl (show P_aw _ _ _ 5 [.ref (w.2.2 44)] [] _ _ from ?_)
  refine P_aw_op (L' := [.ref (w.2.2 44)]) (st' := [.ref (w.2.2 44)]) P_i85_5 rfl (show P_aw _ _ _ 6 [.ref (w.2.2 44)] [.ref (w.2.2 44)] _ _ from ?_)
  refine P_aw_op (L' := [.ref (w.2.2 44)]) (st' := [P_z 0, .ref (w.2.2 44)]) P_i85_6 rfl (show P_aw _ _ _ 7 [.ref (w.2.2 44)] [P_z 0, .ref (w.2.2 44)] _ _ from ?_)
  refine P_aw_put P_i85_7 hw.2.2 (hw.s rfl) rfl rfl rfl (show P_aw _ _ _ 10 [.ref (w.2.2 44)] [] _ _ from ?_)
  refine P_aw_op (L' := [.ref (w.2.2 44)]) (st' := [.ref (w.2.2 44)]) P_i85_10 rfl (show P_aw _ _ _ 11 [.ref (w.2.2 44)] [.ref (w.2.2 44)] _ _ from ?_)
  refine P_aw_op (L' := [.ref (w.2.2 44)]) (st' := [P_z 0, .ref (w.2.2 44)]) P_i85_11 rfl (show P_aw _ _ _ 12 [.ref (w.2.2 44)] [P_z 0, .ref (w.2.2 44)] _ _ from ?_)
  refine P_aw_put P_i85_12 hw.2.2 (hw.s rfl) rfl rfl rfl (show P_aw _ _ _ 15 [.ref (w.2.2 44)] [] _ _ from ?_)
  refine P_aw_op (L' := [.ref (w.2.2 44)]) (st' := [.ref (w.2.2 44)]) P_i85_15 rfl (show P_aw _ _ _ 16 [.ref (w.2.2 44)] [.ref (w.2.2 44)] _ _ from ?_)
  refine P_aw_op (L' := [.ref (w.2.2 44)]) (st' := [P_z 0, .ref (w.2.2 44)]) P_i85_16 rfl (show P_aw _ _ _ 17 [.ref (w.2.2 44)] [P_z 0, .ref (w.2.2 44)] _ _ from ?_)
  refine P_aw_put P_i85_17 hw.2.2 (hw.s rfl) rfl rfl rfl (show P_aw _ _ _ 20 [.ref (w.2.2 44)] [] _ _ from ?_)
  refine P_aw_end P_i85_20 rfl rfl (fun _ => rfl) rfl ?_
  show P_aw _ _ _ 7 [.ref (w.2.2 0)] [] _ _
  refine P_aw_op (L' := [.ref (w.2.2 0)]) (st' := [.ref (w.2.2 0)]) P_i169_7 rfl (show P_aw _ _ _ 8 [.ref (w.2.2 0)] [.ref (w.2.2 0)] _ _ from ?_)
  refine P_aw_getR P_i169_8 (hw.2.1 0 (by decide)) (hw.s rfl) rfl rfl (show P_aw _ _ _ 11 [.ref (w.2.2 0)] [.ref (w.2.2 31)] _ _ from ?_)
  refine P_aw_call P_i169_11 rfl rfl (fun _ => rfl) rfl rfl rfl rfl (y2 := 2) (as := [.ref (w.2.2 31)]) (r0 := []) (P_inv_v (hw.2.1 31 (by decide)) (hw.s rfl) rfl rfl) (Nat.le_of_ble_eq_true rfl) (by decide) rfl (Nat.le_of_ble_eq_true rfl) (show P_aw _ _ _ 0 [.ref (w.2.2 31)] [] _ _ from ?_)
  refine P_aw_op (L' := [.ref (w.2.2 31)]) (st' := [.ref (w.2.2 31)]) P_i2_0 rfl (show P_aw _ _ _ 1 [.ref (w.2.2 31)] [.ref (w.2.2 31)] _ _ from ?_)
  refine P_aw_op (L' := [.ref (w.2.2 31)]) (st' := [P_z 0, .ref (w.2.2 31)]) P_i2_1 rfl (show P_aw _ _ _ 2 [.ref (w.2.2 31)] [P_z 0, .ref (w.2.2 31)] _ _ from ?_)
  refine P_aw_put P_i2_2 (hw.2.1 31 (by decide)) (hw.s rfl) rfl rfl rfl (show P_aw _ _ _ 5 [.ref (w.2.2 31)] [] _ _ from ?_)
  refine P_aw_end P_i2_5 rfl rfl (fun _ => rfl) rfl ?_
  show P_aw _ _ _ 14 [.ref (w.2.2 0)] [] _ _
  refine P_aw_end P_i169_14 rfl rfl (fun _ => rfl) rfl ?_
  show P_aw _ _ _ 16 [.ref (w.2.2 0), P_zl (A_best (A_cst rw vr nv 3 (cs.length : Int) (fun i => A_lc cs i 0) (fun i => A_lc cs i 1) (fun i => A_lc cs i 2)) 3).1, P_un] [] _ _
  refine P_aw_op (L' := [.ref (w.2.2 0), P_zl (A_best (A_cst rw vr nv 3 (cs.length : Int) (fun i => A_lc cs i 0) (fun i => A_lc cs i 1) (fun i => A_lc cs i 2)) 3).1, P_un]) (st' := [P_zl (A_best (A_cst rw vr nv 3 (cs.length : Int) (fun i => A_lc cs i 0) (fun i => A_lc cs i 1) (fun i => A_lc cs i 2)) 3).1]) P_i149_16 rfl (show P_aw _ _ _ 17 [.ref (w.2.2 0), P_zl (A_best (A_cst rw vr nv 3 (cs.length : Int) (fun i => A_lc cs i 0) (fun i => A_lc cs i 1) (fun i => A_lc cs i 2)) 3).1, P_un] [P_zl (A_best (A_cst rw vr nv 3 (cs.length : Int) (fun i => A_lc cs i 0) (fun i => A_lc cs i 1) (fun i => A_lc cs i 2)) 3).1] _ _ from ?_)
  refine P_aw_end P_i149_17 rfl rfl (fun _ => rfl) rfl ?_
  have hb0 := A_best_O (cst := (A_cst rw vr nv 3 (cs.length : Int) (fun i => A_lc cs i 0) (fun i => A_lc cs i 1) (fun i => A_lc cs i 2))) (ns := 3) (by omega); exact q _ (fun a b h1 h2 h3 h4 => (P_u2_ne (by omega)).trans ((P_u2_ne (by omega)).trans ((P_u2_ne (by omega)).trans ((P_u2_ne (by omega)).trans ((P_u2_ne (by omega)).trans (A_bi_ne (by omega) (by omega))))))) (A_KL_cg ((P_u2_ne (by omega)).trans ((P_u2_ne (by omega)).trans ((P_u2_ne (by omega)).trans ((P_u2_ne (by omega)).trans (P_u2_ne (by omega)))))) (fun a b h1 h2 => (P_u2_ne (by omega)).trans ((P_u2_ne (by omega)).trans ((P_u2_ne (by omega)).trans ((P_u2_ne (by omega)).trans (P_u2_ne (by omega)))))) (A_KL_bi hK hok)) (A_O_cg (fun b => (P_u2_ne (by omega)).trans ((P_u2_ne (by omega)).trans ((P_u2_ne (by omega)).trans ((P_u2_ne (by omega)).trans (P_u2_ne (by omega)))))) (A_O_bi hsz0.2 hb0 (by omega))) ((P_u2_ne (by omega)).trans ((P_u2_ne (by omega)).trans ((P_u2_ne (by omega)).trans ((P_u2_ne (by omega)).trans ((P_u2_ne (by omega)).trans ((A_bi_ne (by omega) (by omega)).trans hN)))))) P_u2_at
