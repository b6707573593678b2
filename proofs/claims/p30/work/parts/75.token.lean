/-! the class, written by wip/c1.py: 75.token -/
/-- what every change ends: what is pulled, and the answer -/
def A_oth (σ : P_A) : P_A := P_u2 (P_u2 (P_u2 (P_u2 (P_u2 σ 44 0 0) 44 1 0) 44 2 0) 44 3 0) 31 16 0
theorem s_toka {w : P_Lw} (hw : P_Cw w) {d : Nat} {Q : P_R → P_A → Prop} {σ : P_A} {t ln : Int} (hln : σ 29 4 = ln) (hl0 : 0 ≤ ln ∧ ln < 40) (ht : 0 ≤ t ∧ t ≤ 11) (q : Q (.inl (some (P_z (ln + 1)))) (A_oth (P_u2 (P_u2 (P_u2 (P_u2 σ 30 ln.toNat t) 29 4 (ln + 1)) 29 5 0) 29 7 (-1)))) : P_aw w (d + 5) 141 0 [.ref (w.2.2 0), P_z t] [] σ Q := by
  refine P_aw_op (L' := [.ref (w.2.2 0), P_z t]) (st' := [P_z t]) P_i141_0 rfl (show P_aw _ _ _ 1 [.ref (w.2.2 0), P_z t] [P_z t] _ _ from ?_)
  refine P_aw_call P_i141_1 rfl rfl (fun _ => rfl) rfl rfl rfl rfl (y2 := 172) (as := [P_z t]) (r0 := []) (fun _ _ => rfl) (Nat.le_of_ble_eq_true rfl) (by decide) rfl (Nat.le_of_ble_eq_true rfl) (show P_aw _ _ _ 0 [P_z t] [] _ _ from ?_)
  refine P_aw_op (L' := [P_z t]) (st' := [P_z t]) P_i172_0 rfl (show P_aw _ _ _ 1 [P_z t] [P_z t] _ _ from ?_)
  refine P_aw_izf P_i172_1 ⟨by omega, by omega⟩ (P_ci_ltf (by omega)) (show P_aw _ _ _ 4 [P_z t] [] _ _ from ?_)
  refine P_aw_op (L' := [P_z t]) (st' := [P_z t]) P_i172_4 rfl (show P_aw _ _ _ 5 [P_z t] [P_z t] _ _ from ?_)
  refine P_aw_op (L' := [P_z t]) (st' := [P_z 11, P_z t]) P_i172_5 (P_o_bi (by decide)) (show P_aw _ _ _ 7 [P_z t] [P_z 11, P_z t] _ _ from ?_)
  refine P_aw_ict P_i172_7 ⟨by omega, by omega⟩ ⟨by decide, by decide⟩ (P_ci_let (by omega)) (show P_aw _ _ _ 31 [P_z t] [] _ _ from ?_)
  refine P_aw_op (L' := [P_z t]) (st' := [P_z 1]) P_i172_31 rfl (show P_aw _ _ _ 32 [P_z t] [P_z 1] _ _ from ?_)
  refine P_aw_goto P_i172_32 (show P_aw _ _ _ 36 [P_z t] [P_z 1] _ _ from ?_)
  refine P_aw_end P_i172_36 rfl rfl (fun _ => rfl) rfl ?_
  show P_aw _ _ _ 4 [.ref (w.2.2 0), P_z t] [P_z 1] _ _
  refine P_aw_izt P_i141_4 ⟨by decide, by decide⟩ (P_ci_net (by omega)) (show P_aw _ _ _ 17 [.ref (w.2.2 0), P_z t] [] _ _ from ?_)
  refine P_aw_op (L' := [.ref (w.2.2 0), P_z t]) (st' := [.ref (w.2.2 0)]) P_i141_17 rfl (show P_aw _ _ _ 18 [.ref (w.2.2 0), P_z t] [.ref (w.2.2 0)] _ _ from ?_)
  refine P_aw_getR P_i141_18 (hw.2.1 0 (by decide)) (hw.s rfl) rfl rfl (show P_aw _ _ _ 21 [.ref (w.2.2 0), P_z t] [.ref (w.2.2 29)] _ _ from ?_)
  refine P_aw_call P_i141_21 rfl rfl (fun _ => rfl) rfl rfl rfl rfl (y2 := 91) (as := [.ref (w.2.2 29)]) (r0 := []) (P_inv_v (hw.2.1 29 (by decide)) (hw.s rfl) rfl rfl) (Nat.le_of_ble_eq_true rfl) (by decide) rfl (Nat.le_of_ble_eq_true rfl) (show P_aw _ _ _ 0 [.ref (w.2.2 29)] [] _ _ from ?_)
  refine P_aw_op (L' := [.ref (w.2.2 29)]) (st' := [.ref (w.2.2 29)]) P_i91_0 rfl (show P_aw _ _ _ 1 [.ref (w.2.2 29)] [.ref (w.2.2 29)] _ _ from ?_)
  refine P_aw_getv P_i91_1 (hw.2.1 29 (by decide)) (hw.s rfl) rfl rfl (hln) (show P_aw _ _ _ 4 [.ref (w.2.2 29)] [P_z ln] _ _ from ?_)
  refine P_aw_end P_i91_4 rfl rfl (fun _ => rfl) rfl ?_
  show P_aw _ _ _ 24 [.ref (w.2.2 0), P_z t] [P_z ln] _ _
  refine P_aw_op (L' := [.ref (w.2.2 0), P_z t]) (st' := [P_z 40, P_z ln]) P_i141_24 (P_o_bi (by decide)) (show P_aw _ _ _ 26 [.ref (w.2.2 0), P_z t] [P_z 40, P_z ln] _ _ from ?_)
  refine P_aw_ict P_i141_26 ⟨by omega, by omega⟩ ⟨by decide, by decide⟩ (P_ci_ltt (by omega)) (show P_aw _ _ _ 39 [.ref (w.2.2 0), P_z t] [] _ _ from ?_)
  refine P_aw_op (L' := [.ref (w.2.2 0), P_z t]) (st' := [.ref (w.2.2 0)]) P_i141_39 rfl (show P_aw _ _ _ 40 [.ref (w.2.2 0), P_z t] [.ref (w.2.2 0)] _ _ from ?_)
  refine P_aw_getR P_i141_40 (hw.2.1 0 (by decide)) (hw.s rfl) rfl rfl (show P_aw _ _ _ 43 [.ref (w.2.2 0), P_z t] [.ref (w.2.2 29)] _ _ from ?_)
  refine P_aw_op (L' := [.ref (w.2.2 0), P_z t]) (st' := [P_z t, .ref (w.2.2 29)]) P_i141_43 rfl (show P_aw _ _ _ 44 [.ref (w.2.2 0), P_z t] [P_z t, .ref (w.2.2 29)] _ _ from ?_)
  refine P_aw_call P_i141_44 rfl rfl (fun _ => rfl) rfl rfl rfl rfl (y2 := 94) (as := [.ref (w.2.2 29), P_z t]) (r0 := []) (P_inv_v (hw.2.1 29 (by decide)) (hw.s rfl) rfl rfl) (Nat.le_of_ble_eq_true rfl) (by decide) rfl (Nat.le_of_ble_eq_true rfl) (show P_aw _ _ _ 0 [.ref (w.2.2 29), P_z t] [] _ _ from ?_)
  refine P_aw_op (L' := [.ref (w.2.2 29), P_z t]) (st' := [.ref (w.2.2 29)]) P_i94_0 rfl (show P_aw _ _ _ 1 [.ref (w.2.2 29), P_z t] [.ref (w.2.2 29)] _ _ from ?_)
  refine P_aw_getv P_i94_1 (hw.2.1 29 (by decide)) (hw.s rfl) rfl rfl (hln) (show P_aw _ _ _ 4 [.ref (w.2.2 29), P_z t] [P_z ln] _ _ from ?_)
  refine P_aw_op (L' := [.ref (w.2.2 29), P_z t]) (st' := [.ref (w.2.2 29), P_z ln]) P_i94_4 rfl (show P_aw _ _ _ 5 [.ref (w.2.2 29), P_z t] [.ref (w.2.2 29), P_z ln] _ _ from ?_)
  refine P_aw_getR P_i94_5 (hw.2.1 29 (by decide)) (hw.s rfl) rfl rfl (show P_aw _ _ _ 8 [.ref (w.2.2 29), P_z t] [.ref (w.2.2 30), P_z ln] _ _ from ?_)
  refine P_aw_alen P_i94_8 (hw.2.1 30 (by decide)) (hw.s rfl) (show P_aw _ _ _ 9 [.ref (w.2.2 29), P_z t] [P_z 40, P_z ln] _ _ from ?_)
  refine P_aw_icf P_i94_9 ⟨by omega, by omega⟩ ⟨by decide, by decide⟩ (P_ci_gef (by omega)) (show P_aw _ _ _ 12 [.ref (w.2.2 29), P_z t] [] _ _ from ?_)
  refine P_aw_op (L' := [.ref (w.2.2 29), P_z t]) (st' := [.ref (w.2.2 29)]) P_i94_12 rfl (show P_aw _ _ _ 13 [.ref (w.2.2 29), P_z t] [.ref (w.2.2 29)] _ _ from ?_)
  refine P_aw_getR P_i94_13 (hw.2.1 29 (by decide)) (hw.s rfl) rfl rfl (show P_aw _ _ _ 16 [.ref (w.2.2 29), P_z t] [.ref (w.2.2 30)] _ _ from ?_)
  refine P_aw_op (L' := [.ref (w.2.2 29), P_z t]) (st' := [.ref (w.2.2 29), .ref (w.2.2 30)]) P_i94_16 rfl (show P_aw _ _ _ 17 [.ref (w.2.2 29), P_z t] [.ref (w.2.2 29), .ref (w.2.2 30)] _ _ from ?_)
  refine P_aw_getv P_i94_17 (hw.2.1 29 (by decide)) (hw.s rfl) rfl rfl (hln) (show P_aw _ _ _ 20 [.ref (w.2.2 29), P_z t] [P_z ln, .ref (w.2.2 30)] _ _ from ?_)
  refine P_aw_op (L' := [.ref (w.2.2 29), P_z t]) (st' := [P_z t, P_z ln, .ref (w.2.2 30)]) P_i94_20 rfl (show P_aw _ _ _ 21 [.ref (w.2.2 29), P_z t] [P_z t, P_z ln, .ref (w.2.2 30)] _ _ from ?_)
  refine P_aw_call P_i94_21 rfl rfl (fun _ => rfl) rfl rfl rfl rfl (y2 := 179) (as := [.ref (w.2.2 30), P_z ln, P_z t]) (r0 := []) (fun _ _ => rfl) (Nat.le_of_ble_eq_true rfl) (by decide) rfl (Nat.le_of_ble_eq_true rfl) (show P_aw _ _ _ 0 [.ref (w.2.2 30), P_z ln, P_z t] [] _ _ from ?_)
  refine P_aw_op (L' := [.ref (w.2.2 30), P_z ln, P_z t]) (st' := [P_z ln]) P_i179_0 rfl (show P_aw _ _ _ 1 [.ref (w.2.2 30), P_z ln, P_z t] [P_z ln] _ _ from ?_)
  refine P_aw_izf P_i179_1 ⟨by omega, by omega⟩ (P_ci_ltf (by omega)) (show P_aw _ _ _ 4 [.ref (w.2.2 30), P_z ln, P_z t] [] _ _ from ?_)
  refine P_aw_op (L' := [.ref (w.2.2 30), P_z ln, P_z t]) (st' := [P_z ln]) P_i179_4 rfl (show P_aw _ _ _ 5 [.ref (w.2.2 30), P_z ln, P_z t] [P_z ln] _ _ from ?_)
  refine P_aw_op (L' := [.ref (w.2.2 30), P_z ln, P_z t]) (st' := [.ref (w.2.2 30), P_z ln]) P_i179_5 rfl (show P_aw _ _ _ 6 [.ref (w.2.2 30), P_z ln, P_z t] [.ref (w.2.2 30), P_z ln] _ _ from ?_)
  refine P_aw_alen P_i179_6 (hw.2.1 30 (by decide)) (hw.s rfl) (show P_aw _ _ _ 7 [.ref (w.2.2 30), P_z ln, P_z t] [P_z 40, P_z ln] _ _ from ?_)
  refine P_aw_icf P_i179_7 ⟨by omega, by omega⟩ ⟨by decide, by decide⟩ (P_ci_gef (by omega)) (show P_aw _ _ _ 10 [.ref (w.2.2 30), P_z ln, P_z t] [] _ _ from ?_)
  refine P_aw_op (L' := [.ref (w.2.2 30), P_z ln, P_z t]) (st' := [.ref (w.2.2 30)]) P_i179_10 rfl (show P_aw _ _ _ 11 [.ref (w.2.2 30), P_z ln, P_z t] [.ref (w.2.2 30)] _ _ from ?_)
  refine P_aw_op (L' := [.ref (w.2.2 30), P_z ln, P_z t]) (st' := [P_z ln, .ref (w.2.2 30)]) P_i179_11 rfl (show P_aw _ _ _ 12 [.ref (w.2.2 30), P_z ln, P_z t] [P_z ln, .ref (w.2.2 30)] _ _ from ?_)
  refine P_aw_op (L' := [.ref (w.2.2 30), P_z ln, P_z t]) (st' := [P_z t, P_z ln, .ref (w.2.2 30)]) P_i179_12 rfl (show P_aw _ _ _ 13 [.ref (w.2.2 30), P_z ln, P_z t] [P_z t, P_z ln, .ref (w.2.2 30)] _ _ from ?_)
  refine P_aw_ast P_i179_13 (hw.2.1 30 (by decide)) (hw.s rfl) (by omega) (by omega) (by decide) (show P_aw _ _ _ 14 [.ref (w.2.2 30), P_z ln, P_z t] [] _ _ from ?_)
  refine P_aw_end P_i179_14 rfl rfl (fun _ => rfl) rfl ?_
  show P_aw _ _ _ 24 [.ref (w.2.2 29), P_z t] [] _ _
  refine P_aw_op (L' := [.ref (w.2.2 29), P_z t]) (st' := [.ref (w.2.2 29)]) P_i94_24 rfl (show P_aw _ _ _ 25 [.ref (w.2.2 29), P_z t] [.ref (w.2.2 29)] _ _ from ?_)
  refine P_aw_op (L' := [.ref (w.2.2 29), P_z t]) (st' := [.ref (w.2.2 29), .ref (w.2.2 29)]) P_i94_25 rfl (show P_aw _ _ _ 26 [.ref (w.2.2 29), P_z t] [.ref (w.2.2 29), .ref (w.2.2 29)] _ _ from ?_)
  refine P_aw_getv P_i94_26 (hw.2.1 29 (by decide)) (hw.s rfl) rfl rfl ((P_u2_ne (by omega)).trans (hln)) (show P_aw _ _ _ 29 [.ref (w.2.2 29), P_z t] [P_z ln, .ref (w.2.2 29)] _ _ from ?_)
  refine P_aw_op (L' := [.ref (w.2.2 29), P_z t]) (st' := [P_z 1, P_z ln, .ref (w.2.2 29)]) P_i94_29 rfl (show P_aw _ _ _ 30 [.ref (w.2.2 29), P_z t] [P_z 1, P_z ln, .ref (w.2.2 29)] _ _ from ?_)
  refine P_aw_op (L' := [.ref (w.2.2 29), P_z t]) (st' := [P_z (ln + 1), .ref (w.2.2 29)]) P_i94_30 P_o_iadd (show P_aw _ _ _ 31 [.ref (w.2.2 29), P_z t] [P_z (ln + 1), .ref (w.2.2 29)] _ _ from ?_)
  refine P_aw_put P_i94_31 (hw.2.1 29 (by decide)) (hw.s rfl) rfl rfl rfl (show P_aw _ _ _ 34 [.ref (w.2.2 29), P_z t] [] _ _ from ?_)
  refine P_aw_op (L' := [.ref (w.2.2 29), P_z t]) (st' := [.ref (w.2.2 29)]) P_i94_34 rfl (show P_aw _ _ _ 35 [.ref (w.2.2 29), P_z t] [.ref (w.2.2 29)] _ _ from ?_)
  refine P_aw_call P_i94_35 rfl rfl (fun _ => rfl) rfl rfl rfl rfl (y2 := 96) (as := [.ref (w.2.2 29)]) (r0 := []) (P_inv_v (hw.2.1 29 (by decide)) (hw.s rfl) rfl rfl) (Nat.le_of_ble_eq_true rfl) (by decide) rfl (Nat.le_of_ble_eq_true rfl) (show P_aw _ _ _ 0 [.ref (w.2.2 29)] [] _ _ from ?_)
  refine P_aw_op (L' := [.ref (w.2.2 29)]) (st' := [.ref (w.2.2 29)]) P_i96_0 rfl (show P_aw _ _ _ 1 [.ref (w.2.2 29)] [.ref (w.2.2 29)] _ _ from ?_)
  refine P_aw_op (L' := [.ref (w.2.2 29)]) (st' := [P_z 0, .ref (w.2.2 29)]) P_i96_1 rfl (show P_aw _ _ _ 2 [.ref (w.2.2 29)] [P_z 0, .ref (w.2.2 29)] _ _ from ?_)
  refine P_aw_put P_i96_2 (hw.2.1 29 (by decide)) (hw.s rfl) rfl rfl rfl (show P_aw _ _ _ 5 [.ref (w.2.2 29)] [] _ _ from ?_)
  refine P_aw_op (L' := [.ref (w.2.2 29)]) (st' := [.ref (w.2.2 29)]) P_i96_5 rfl (show P_aw _ _ _ 6 [.ref (w.2.2 29)] [.ref (w.2.2 29)] _ _ from ?_)
  refine P_aw_op (L' := [.ref (w.2.2 29)]) (st' := [P_z (-1), .ref (w.2.2 29)]) P_i96_6 rfl (show P_aw _ _ _ 7 [.ref (w.2.2 29)] [P_z (-1), .ref (w.2.2 29)] _ _ from ?_)
  refine P_aw_put P_i96_7 (hw.2.1 29 (by decide)) (hw.s rfl) rfl rfl rfl (show P_aw _ _ _ 10 [.ref (w.2.2 29)] [] _ _ from ?_)
  refine P_aw_end P_i96_10 rfl rfl (fun _ => rfl) rfl ?_
  show P_aw _ _ _ 38 [.ref (w.2.2 29), P_z t] [] _ _
  refine P_aw_end P_i94_38 rfl rfl (fun _ => rfl) rfl ?_
  show P_aw _ _ _ 47 [.ref (w.2.2 0), P_z t] [] _ _
  refine P_aw_op (L' := [.ref (w.2.2 0), P_z t]) (st' := [.ref (w.2.2 0)]) P_i141_47 rfl (show P_aw _ _ _ 48 [.ref (w.2.2 0), P_z t] [.ref (w.2.2 0)] _ _ from ?_)
  refine P_aw_call P_i141_48 rfl rfl (fun _ => rfl) rfl rfl rfl rfl (y2 := 169) (as := [.ref (w.2.2 0)]) (r0 := []) (P_inv_v (hw.2.1 0 (by decide)) (hw.s rfl) rfl rfl) (Nat.le_of_ble_eq_true rfl) (by decide) rfl (Nat.le_of_ble_eq_true rfl) (show P_aw _ _ _ 0 [.ref (w.2.2 0)] [] _ _ from ?_)
  refine P_aw_op (L' := [.ref (w.2.2 0)]) (st' := [.ref (w.2.2 0)]) P_i169_0 rfl (show P_aw _ _ _ 1 [.ref (w.2.2 0)] [.ref (w.2.2 0)] _ _ from ?_)
  refine P_aw_getR P_i169_1 (hw.2.1 0 (by decide)) (hw.s rfl) rfl rfl (show P_aw _ _ _ 4 [.ref (w.2.2 0)] [.ref (w.2.2 44)] _ _ from ?_)
  refine P_aw_call P_i169_4 rfl rfl (fun _ => rfl) rfl rfl rfl rfl (y2 := 85) (as := [.ref (w.2.2 44)]) (r0 := []) (P_inv_v hw.2.2 (hw.s rfl) rfl rfl) (Nat.le_of_ble_eq_true rfl) (by decide) rfl (Nat.le_of_ble_eq_true rfl) (show P_aw _ _ _ 0 [.ref (w.2.2 44)] [] _ _ from ?_)
  refine P_aw_op (L' := [.ref (w.2.2 44)]) (st' := [.ref (w.2.2 44)]) P_i85_0 rfl (show P_aw _ _ _ 1 [.ref (w.2.2 44)] [.ref (w.2.2 44)] _ _ from ?_)
  refine P_aw_op (L' := [.ref (w.2.2 44)]) (st' := [P_z 0, .ref (w.2.2 44)]) P_i85_1 rfl (show P_aw _ _ _ 2 [.ref (w.2.2 44)] [P_z 0, .ref (w.2.2 44)] _ _ from ?_)
  refine P_aw_put P_i85_2 hw.2.2 (hw.s rfl) rfl rfl rfl (show P_aw _ _ _ 5 [.ref (w.2.2 44)] [] _ _ from ?_)
  refine P_aw_op (L' := [.ref (w.2.2 44)]) (st' := [.ref (w.2.2 44)]) P_i85_5 rfl (show P_aw _ _ _ 6 [.ref (w.2.2 44)] [.ref (w.2.2 44)] _ _ from ?_)
  refine P_aw_op (L' := [.ref (w.2.2 44)]) (st' := [P_z 0, .ref (w.2.2 44)]) P_i85_6 rfl (show P_aw _ _ _ 7 [.ref (w.2.2 44)] [P_z 0, .ref (w.2.2 44)] _ _ from ?_)
  refine P_aw_put P_i85_7 hw.2.2 (hw.s rfl) rfl rfl rfl (show P_aw _ _ _ 10 [.ref (w.2.2 44)] [] _ _ from ?_)
  refine P_aw_op (L' := [.ref (w.2.2 44)]) (st' := [.ref (w.2.2 44)]) P_i85_10 rfl (show P_aw _ _ _ 11 [.ref (w.2.2 44)] [.ref (w.2.2 44)] _ _ from ?_)
  refine P_aw_op (L' := [.ref (w.2.2 44)]) (st' := [P_z 0, .ref (w.2.2 44)]) P_i85_11 rfl (show P_aw _ _ _ 12 [.ref (w.2.2 44)] [P_z 0, .ref (w.2.2 44)] _ _ from ?_)
  refine P_aw_put P_i85_12 hw.2.2 (hw.s rfl) rfl rfl rfl (show P_aw _ _ _ 15 [.ref (w.2.2 44)] [] _ _ from ?_)
  refine P_aw_op (L' := [.ref (w.2.2 44)]) (st' := [.ref (w.2.2 44)]) P_i85_15 rfl (show P_aw _ _ _ 16 [.ref (w.2.2 44)] [.ref (w.2.2 44)] _ _ from ?_)
  refine P_aw_op (L' := [.ref (w.2.2 44)]) (st' := [P_z 0, .ref (w.2.2 44)]) P_i85_16 rfl (show P_aw _ _ _ 17 [.ref (w.2.2 44)] [P_z 0, .ref (w.2.2 44)] _ _ from ?_)
  refine P_aw_put P_i85_17 hw.2.2 (hw.s rfl) rfl rfl rfl (show P_aw _ _ _ 20 [.ref (w.2.2 44)] [] _ _ from ?_)
  refine P_aw_end P_i85_20 rfl rfl (fun _ => rfl) rfl ?_
  show P_aw _ _ _ 7 [.ref (w.2.2 0)] [] _ _
  refine P_aw_op (L' := [.ref (w.2.2 0)]) (st' := [.ref (w.2.2 0)]) P_i169_7 rfl (show P_aw _ _ _ 8 [.ref (w.2.2 0)] [.ref (w.2.2 0)] _ _ from ?_)
  refine P_aw_getR P_i169_8 (hw.2.1 0 (by decide)) (hw.s rfl) rfl rfl (show P_aw _ _ _ 11 [.ref (w.2.2 0)] [.ref (w.2.2 31)] _ _ from ?_)
  refine P_aw_call P_i169_11 rfl rfl (fun _ => rfl) rfl rfl rfl rfl (y2 := 2) (as := [.ref (w.2.2 31)]) (r0 := []) (P_inv_v (hw.2.1 31 (by decide)) (hw.s rfl) rfl rfl) (Nat.le_of_ble_eq_true rfl) (by decide) rfl (Nat.le_of_ble_eq_true rfl) (show P_aw _ _ _ 0 [.ref (w.2.2 31)] [] _ _ from ?_)
  refine P_aw_op (L' := [.ref (w.2.2 31)]) (st' := [.ref (w.2.2 31)]) P_i2_0 rfl (show P_aw _ _ _ 1 [.ref (w.2.2 31)] [.ref (w.2.2 31)] _ _ from ?_)
  refine P_aw_op (L' := [.ref (w.2.2 31)]) (st' := [P_z 0, .ref (w.2.2 31)]) P_i2_1 rfl (show P_aw _ _ _ 2 [.ref (w.2.2 31)] [P_z 0, .ref (w.2.2 31)] _ _ from ?_)
  refine P_aw_put P_i2_2 (hw.2.1 31 (by decide)) (hw.s rfl) rfl rfl rfl (show P_aw _ _ _ 5 [.ref (w.2.2 31)] [] _ _ from ?_)
  refine P_aw_end P_i2_5 rfl rfl (fun _ => rfl) rfl ?_
  show P_aw _ _ _ 14 [.ref (w.2.2 0)] [] _ _
  refine P_aw_end P_i169_14 rfl rfl (fun _ => rfl) rfl ?_
  show P_aw _ _ _ 51 [.ref (w.2.2 0), P_z t] [] _ _
  refine P_aw_op (L' := [.ref (w.2.2 0), P_z t]) (st' := [.ref (w.2.2 0)]) P_i141_51 rfl (show P_aw _ _ _ 52 [.ref (w.2.2 0), P_z t] [.ref (w.2.2 0)] _ _ from ?_)
  refine P_aw_getR P_i141_52 (hw.2.1 0 (by decide)) (hw.s rfl) rfl rfl (show P_aw _ _ _ 55 [.ref (w.2.2 0), P_z t] [.ref (w.2.2 29)] _ _ from ?_)
  refine P_aw_call P_i141_55 rfl rfl (fun _ => rfl) rfl rfl rfl rfl (y2 := 91) (as := [.ref (w.2.2 29)]) (r0 := []) (P_inv_v (hw.2.1 29 (by decide)) (hw.s rfl) rfl rfl) (Nat.le_of_ble_eq_true rfl) (by decide) rfl (Nat.le_of_ble_eq_true rfl) (show P_aw _ _ _ 0 [.ref (w.2.2 29)] [] _ _ from ?_)
  refine P_aw_op (L' := [.ref (w.2.2 29)]) (st' := [.ref (w.2.2 29)]) P_i91_0 rfl (show P_aw _ _ _ 1 [.ref (w.2.2 29)] [.ref (w.2.2 29)] _ _ from ?_)
  refine P_aw_getv P_i91_1 (hw.2.1 29 (by decide)) (hw.s rfl) rfl rfl ((P_u2_ne (by omega)).trans ((P_u2_ne (by omega)).trans ((P_u2_ne (by omega)).trans ((P_u2_ne (by omega)).trans ((P_u2_ne (by omega)).trans ((P_u2_ne (by omega)).trans ((P_u2_ne (by omega)).trans (P_u2_at)))))))) (show P_aw _ _ _ 4 [.ref (w.2.2 29)] [P_z (ln + 1)] _ _ from ?_)
  refine P_aw_end P_i91_4 rfl rfl (fun _ => rfl) rfl ?_
  show P_aw _ _ _ 58 [.ref (w.2.2 0), P_z t] [P_z (ln + 1)] _ _
  refine P_aw_end P_i141_58 rfl rfl (fun _ => rfl) rfl ?_
  exact q

theorem s_tokb {w : P_Lw} (hw : P_Cw w) {d : Nat} {Q : P_R → P_A → Prop} {σ : P_A} {t ln : Int} (hln : σ 29 4 = ln) (hl0 : 0 ≤ ln ∧ ln < 40) (ht : 20 ≤ t ∧ t ≤ 24) (q : Q (.inl (some (P_z (ln + 1)))) (A_oth (P_u2 (P_u2 (P_u2 (P_u2 σ 30 ln.toNat t) 29 4 (ln + 1)) 29 5 0) 29 7 (-1)))) : P_aw w (d + 5) 141 0 [.ref (w.2.2 0), P_z t] [] σ Q := by
  refine P_aw_op (L' := [.ref (w.2.2 0), P_z t]) (st' := [P_z t]) P_i141_0 rfl (show P_aw _ _ _ 1 [.ref (w.2.2 0), P_z t] [P_z t] _ _ from ?_)
  refine P_aw_call P_i141_1 rfl rfl (fun _ => rfl) rfl rfl rfl rfl (y2 := 172) (as := [P_z t]) (r0 := []) (fun _ _ => rfl) (Nat.le_of_ble_eq_true rfl) (by decide) rfl (Nat.le_of_ble_eq_true rfl) (show P_aw _ _ _ 0 [P_z t] [] _ _ from ?_)
  refine P_aw_op (L' := [P_z t]) (st' := [P_z t]) P_i172_0 rfl (show P_aw _ _ _ 1 [P_z t] [P_z t] _ _ from ?_)
  refine P_aw_izf P_i172_1 ⟨by omega, by omega⟩ (P_ci_ltf (by omega)) (show P_aw _ _ _ 4 [P_z t] [] _ _ from ?_)
  refine P_aw_op (L' := [P_z t]) (st' := [P_z t]) P_i172_4 rfl (show P_aw _ _ _ 5 [P_z t] [P_z t] _ _ from ?_)
  refine P_aw_op (L' := [P_z t]) (st' := [P_z 11, P_z t]) P_i172_5 (P_o_bi (by decide)) (show P_aw _ _ _ 7 [P_z t] [P_z 11, P_z t] _ _ from ?_)
  refine P_aw_icf P_i172_7 ⟨by omega, by omega⟩ ⟨by decide, by decide⟩ (P_ci_lef (by omega)) (show P_aw _ _ _ 10 [P_z t] [] _ _ from ?_)
  refine P_aw_op (L' := [P_z t]) (st' := [P_z t]) P_i172_10 rfl (show P_aw _ _ _ 11 [P_z t] [P_z t] _ _ from ?_)
  refine P_aw_call P_i172_11 rfl rfl (fun _ => rfl) rfl rfl rfl rfl (y2 := 173) (as := [P_z t]) (r0 := []) (fun _ _ => rfl) (Nat.le_of_ble_eq_true rfl) (by decide) rfl (Nat.le_of_ble_eq_true rfl) (show P_aw _ _ _ 0 [P_z t] [] _ _ from ?_)
  refine P_aw_op (L' := [P_z t]) (st' := [P_z t]) P_i173_0 rfl (show P_aw _ _ _ 1 [P_z t] [P_z t] _ _ from ?_)
  refine P_aw_op (L' := [P_z t]) (st' := [P_z 20, P_z t]) P_i173_1 (P_o_bi (by decide)) (show P_aw _ _ _ 3 [P_z t] [P_z 20, P_z t] _ _ from ?_)
  refine P_aw_icf P_i173_3 ⟨by omega, by omega⟩ ⟨by decide, by decide⟩ (P_ci_ltf (by omega)) (show P_aw _ _ _ 6 [P_z t] [] _ _ from ?_)
  refine P_aw_op (L' := [P_z t]) (st' := [P_z t]) P_i173_6 rfl (show P_aw _ _ _ 7 [P_z t] [P_z t] _ _ from ?_)
  refine P_aw_op (L' := [P_z t]) (st' := [P_z 25, P_z t]) P_i173_7 (P_o_bi (by decide)) (show P_aw _ _ _ 9 [P_z t] [P_z 25, P_z t] _ _ from ?_)
  refine P_aw_icf P_i173_9 ⟨by omega, by omega⟩ ⟨by decide, by decide⟩ (P_ci_gef (by omega)) (show P_aw _ _ _ 12 [P_z t] [] _ _ from ?_)
  refine P_aw_op (L' := [P_z t]) (st' := [P_z 1]) P_i173_12 rfl (show P_aw _ _ _ 13 [P_z t] [P_z 1] _ _ from ?_)
  refine P_aw_goto P_i173_13 (show P_aw _ _ _ 17 [P_z t] [P_z 1] _ _ from ?_)
  refine P_aw_end P_i173_17 rfl rfl (fun _ => rfl) rfl ?_
  show P_aw _ _ _ 14 [P_z t] [P_z 1] _ _
  refine P_aw_izt P_i172_14 ⟨by decide, by decide⟩ (P_ci_net (by omega)) (show P_aw _ _ _ 31 [P_z t] [] _ _ from ?_)
  refine P_aw_op (L' := [P_z t]) (st' := [P_z 1]) P_i172_31 rfl (show P_aw _ _ _ 32 [P_z t] [P_z 1] _ _ from ?_)
  refine P_aw_goto P_i172_32 (show P_aw _ _ _ 36 [P_z t] [P_z 1] _ _ from ?_)
  refine P_aw_end P_i172_36 rfl rfl (fun _ => rfl) rfl ?_
  show P_aw _ _ _ 4 [.ref (w.2.2 0), P_z t] [P_z 1] _ _
  refine P_aw_izt P_i141_4 ⟨by decide, by decide⟩ (P_ci_net (by omega)) (show P_aw _ _ _ 17 [.ref (w.2.2 0), P_z t] [] _ _ from ?_)
  refine P_aw_op (L' := [.ref (w.2.2 0), P_z t]) (st' := [.ref (w.2.2 0)]) P_i141_17 rfl (show P_aw _ _ _ 18 [.ref (w.2.2 0), P_z t] [.ref (w.2.2 0)] _ _ from ?_)
  refine P_aw_getR P_i141_18 (hw.2.1 0 (by decide)) (hw.s rfl) rfl rfl (show P_aw _ _ _ 21 [.ref (w.2.2 0), P_z t] [.ref (w.2.2 29)] _ _ from ?_)
  refine P_aw_call P_i141_21 rfl rfl (fun _ => rfl) rfl rfl rfl rfl (y2 := 91) (as := [.ref (w.2.2 29)]) (r0 := []) (P_inv_v (hw.2.1 29 (by decide)) (hw.s rfl) rfl rfl) (Nat.le_of_ble_eq_true rfl) (by decide) rfl (Nat.le_of_ble_eq_true rfl) (show P_aw _ _ _ 0 [.ref (w.2.2 29)] [] _ _ from ?_)
  refine P_aw_op (L' := [.ref (w.2.2 29)]) (st' := [.ref (w.2.2 29)]) P_i91_0 rfl (show P_aw _ _ _ 1 [.ref (w.2.2 29)] [.ref (w.2.2 29)] _ _ from ?_)
  refine P_aw_getv P_i91_1 (hw.2.1 29 (by decide)) (hw.s rfl) rfl rfl (hln) (show P_aw _ _ _ 4 [.ref (w.2.2 29)] [P_z ln] _ _ from ?_)
  refine P_aw_end P_i91_4 rfl rfl (fun _ => rfl) rfl ?_
  show P_aw _ _ _ 24 [.ref (w.2.2 0), P_z t] [P_z ln] _ _
  refine P_aw_op (L' := [.ref (w.2.2 0), P_z t]) (st' := [P_z 40, P_z ln]) P_i141_24 (P_o_bi (by decide)) (show P_aw _ _ _ 26 [.ref (w.2.2 0), P_z t] [P_z 40, P_z ln] _ _ from ?_)
  refine P_aw_ict P_i141_26 ⟨by omega, by omega⟩ ⟨by decide, by decide⟩ (P_ci_ltt (by omega)) (show P_aw _ _ _ 39 [.ref (w.2.2 0), P_z t] [] _ _ from ?_)
  refine P_aw_op (L' := [.ref (w.2.2 0), P_z t]) (st' := [.ref (w.2.2 0)]) P_i141_39 rfl (show P_aw _ _ _ 40 [.ref (w.2.2 0), P_z t] [.ref (w.2.2 0)] _ _ from ?_)
  refine P_aw_getR P_i141_40 (hw.2.1 0 (by decide)) (hw.s rfl) rfl rfl (show P_aw _ _ _ 43 [.ref (w.2.2 0), P_z t] [.ref (w.2.2 29)] _ _ from ?_)
  refine P_aw_op (L' := [.ref (w.2.2 0), P_z t]) (st' := [P_z t, .ref (w.2.2 29)]) P_i141_43 rfl (show P_aw _ _ _ 44 [.ref (w.2.2 0), P_z t] [P_z t, .ref (w.2.2 29)] _ _ from ?_)
  refine P_aw_call P_i141_44 rfl rfl (fun _ => rfl) rfl rfl rfl rfl (y2 := 94) (as := [.ref (w.2.2 29), P_z t]) (r0 := []) (P_inv_v (hw.2.1 29 (by decide)) (hw.s rfl) rfl rfl) (Nat.le_of_ble_eq_true rfl) (by decide) rfl (Nat.le_of_ble_eq_true rfl) (show P_aw _ _ _ 0 [.ref (w.2.2 29), P_z t] [] _ _ from ?_)
  refine P_aw_op (L' := [.ref (w.2.2 29), P_z t]) (st' := [.ref (w.2.2 29)]) P_i94_0 rfl (show P_aw _ _ _ 1 [.ref (w.2.2 29), P_z t] [.ref (w.2.2 29)] _ _ from ?_)
  refine P_aw_getv P_i94_1 (hw.2.1 29 (by decide)) (hw.s rfl) rfl rfl (hln) (show P_aw _ _ _ 4 [.ref (w.2.2 29), P_z t] [P_z ln] _ _ from ?_)
  refine P_aw_op (L' := [.ref (w.2.2 29), P_z t]) (st' := [.ref (w.2.2 29), P_z ln]) P_i94_4 rfl (show P_aw _ _ _ 5 [.ref (w.2.2 29), P_z t] [.ref (w.2.2 29), P_z ln] _ _ from ?_)
  refine P_aw_getR P_i94_5 (hw.2.1 29 (by decide)) (hw.s rfl) rfl rfl (show P_aw _ _ _ 8 [.ref (w.2.2 29), P_z t] [.ref (w.2.2 30), P_z ln] _ _ from ?_)
  refine P_aw_alen P_i94_8 (hw.2.1 30 (by decide)) (hw.s rfl) (show P_aw _ _ _ 9 [.ref (w.2.2 29), P_z t] [P_z 40, P_z ln] _ _ from ?_)
  refine P_aw_icf P_i94_9 ⟨by omega, by omega⟩ ⟨by decide, by decide⟩ (P_ci_gef (by omega)) (show P_aw _ _ _ 12 [.ref (w.2.2 29), P_z t] [] _ _ from ?_)
  refine P_aw_op (L' := [.ref (w.2.2 29), P_z t]) (st' := [.ref (w.2.2 29)]) P_i94_12 rfl (show P_aw _ _ _ 13 [.ref (w.2.2 29), P_z t] [.ref (w.2.2 29)] _ _ from ?_)
  refine P_aw_getR P_i94_13 (hw.2.1 29 (by decide)) (hw.s rfl) rfl rfl (show P_aw _ _ _ 16 [.ref (w.2.2 29), P_z t] [.ref (w.2.2 30)] _ _ from ?_)
  refine P_aw_op (L' := [.ref (w.2.2 29), P_z t]) (st' := [.ref (w.2.2 29), .ref (w.2.2 30)]) P_i94_16 rfl (show P_aw _ _ _ 17 [.ref (w.2.2 29), P_z t] [.ref (w.2.2 29), .ref (w.2.2 30)] _ _ from ?_)
  refine P_aw_getv P_i94_17 (hw.2.1 29 (by decide)) (hw.s rfl) rfl rfl (hln) (show P_aw _ _ _ 20 [.ref (w.2.2 29), P_z t] [P_z ln, .ref (w.2.2 30)] _ _ from ?_)
  refine P_aw_op (L' := [.ref (w.2.2 29), P_z t]) (st' := [P_z t, P_z ln, .ref (w.2.2 30)]) P_i94_20 rfl (show P_aw _ _ _ 21 [.ref (w.2.2 29), P_z t] [P_z t, P_z ln, .ref (w.2.2 30)] _ _ from ?_)
  refine P_aw_call P_i94_21 rfl rfl (fun _ => rfl) rfl rfl rfl rfl (y2 := 179) (as := [.ref (w.2.2 30), P_z ln, P_z t]) (r0 := []) (fun _ _ => rfl) (Nat.le_of_ble_eq_true rfl) (by decide) rfl (Nat.le_of_ble_eq_true rfl) (show P_aw _ _ _ 0 [.ref (w.2.2 30), P_z ln, P_z t] [] _ _ from ?_)
  refine P_aw_op (L' := [.ref (w.2.2 30), P_z ln, P_z t]) (st' := [P_z ln]) P_i179_0 rfl (show P_aw _ _ _ 1 [.ref (w.2.2 30), P_z ln, P_z t] [P_z ln] _ _ from ?_)
  refine P_aw_izf P_i179_1 ⟨by omega, by omega⟩ (P_ci_ltf (by omega)) (show P_aw _ _ _ 4 [.ref (w.2.2 30), P_z ln, P_z t] [] _ _ from ?_)
  refine P_aw_op (L' := [.ref (w.2.2 30), P_z ln, P_z t]) (st' := [P_z ln]) P_i179_4 rfl (show P_aw _ _ _ 5 [.ref (w.2.2 30), P_z ln, P_z t] [P_z ln] _ _ from ?_)
  refine P_aw_op (L' := [.ref (w.2.2 30), P_z ln, P_z t]) (st' := [.ref (w.2.2 30), P_z ln]) P_i179_5 rfl (show P_aw _ _ _ 6 [.ref (w.2.2 30), P_z ln, P_z t] [.ref (w.2.2 30), P_z ln] _ _ from ?_)
  refine P_aw_alen P_i179_6 (hw.2.1 30 (by decide)) (hw.s rfl) (show P_aw _ _ _ 7 [.ref (w.2.2 30), P_z ln, P_z t] [P_z 40, P_z ln] _ _ from ?_)
  refine P_aw_icf P_i179_7 ⟨by omega, by omega⟩ ⟨by decide, by decide⟩ (P_ci_gef (by omega)) (show P_aw _ _ _ 10 [.ref (w.2.2 30), P_z ln, P_z t] [] _ _ from ?_)
  refine P_aw_op (L' := [.ref (w.2.2 30), P_z ln, P_z t]) (st' := [.ref (w.2.2 30)]) P_i179_10 rfl (show P_aw _ _ _ 11 [.ref (w.2.2 30), P_z ln, P_z t] [.ref (w.2.2 30)] _ _ from ?_)
  refine P_aw_op (L' := [.ref (w.2.2 30), P_z ln, P_z t]) (st' := [P_z ln, .ref (w.2.2 30)]) P_i179_11 rfl (show P_aw _ _ _ 12 [.ref (w.2.2 30), P_z ln, P_z t] [P_z ln, .ref (w.2.2 30)] _ _ from ?_)
  refine P_aw_op (L' := [.ref (w.2.2 30), P_z ln, P_z t]) (st' := [P_z t, P_z ln, .ref (w.2.2 30)]) P_i179_12 rfl (show P_aw _ _ _ 13 [.ref (w.2.2 30), P_z ln, P_z t] [P_z t, P_z ln, .ref (w.2.2 30)] _ _ from ?_)
  refine P_aw_ast P_i179_13 (hw.2.1 30 (by decide)) (hw.s rfl) (by omega) (by omega) (by decide) (show P_aw _ _ _ 14 [.ref (w.2.2 30), P_z ln, P_z t] [] _ _ from ?_)
  refine P_aw_end P_i179_14 rfl rfl (fun _ => rfl) rfl ?_
  show P_aw _ _ _ 24 [.ref (w.2.2 29), P_z t] [] _ _
  refine P_aw_op (L' := [.ref (w.2.2 29), P_z t]) (st' := [.ref (w.2.2 29)]) P_i94_24 rfl (show P_aw _ _ _ 25 [.ref (w.2.2 29), P_z t] [.ref (w.2.2 29)] _ _ from ?_)
  refine P_aw_op (L' := [.ref (w.2.2 29), P_z t]) (st' := [.ref (w.2.2 29), .ref (w.2.2 29)]) P_i94_25 rfl (show P_aw _ _ _ 26 [.ref (w.2.2 29), P_z t] [.ref (w.2.2 29), .ref (w.2.2 29)] _ _ from ?_)
  refine P_aw_getv P_i94_26 (hw.2.1 29 (by decide)) (hw.s rfl) rfl rfl ((P_u2_ne (by omega)).trans (hln)) (show P_aw _ _ _ 29 [.ref (w.2.2 29), P_z t] [P_z ln, .ref (w.2.2 29)] _ _ from ?_)
  refine P_aw_op (L' := [.ref (w.2.2 29), P_z t]) (st' := [P_z 1, P_z ln, .ref (w.2.2 29)]) P_i94_29 rfl (show P_aw _ _ _ 30 [.ref (w.2.2 29), P_z t] [P_z 1, P_z ln, .ref (w.2.2 29)] _ _ from ?_)
  refine P_aw_op (L' := [.ref (w.2.2 29), P_z t]) (st' := [P_z (ln + 1), .ref (w.2.2 29)]) P_i94_30 P_o_iadd (show P_aw _ _ _ 31 [.ref (w.2.2 29), P_z t] [P_z (ln + 1), .ref (w.2.2 29)] _ _ from ?_)
  refine P_aw_put P_i94_31 (hw.2.1 29 (by decide)) (hw.s rfl) rfl rfl rfl (show P_aw _ _ _ 34 [.ref (w.2.2 29), P_z t] [] _ _ from ?_)
  refine P_aw_op (L' := [.ref (w.2.2 29), P_z t]) (st' := [.ref (w.2.2 29)]) P_i94_34 rfl (show P_aw _ _ _ 35 [.ref (w.2.2 29), P_z t] [.ref (w.2.2 29)] _ _ from ?_)
  refine P_aw_call P_i94_35 rfl rfl (fun _ => rfl) rfl rfl rfl rfl (y2 := 96) (as := [.ref (w.2.2 29)]) (r0 := []) (P_inv_v (hw.2.1 29 (by decide)) (hw.s rfl) rfl rfl) (Nat.le_of_ble_eq_true rfl) (by decide) rfl (Nat.le_of_ble_eq_true rfl) (show P_aw _ _ _ 0 [.ref (w.2.2 29)] [] _ _ from ?_)
  refine P_aw_op (L' := [.ref (w.2.2 29)]) (st' := [.ref (w.2.2 29)]) P_i96_0 rfl (show P_aw _ _ _ 1 [.ref (w.2.2 29)] [.ref (w.2.2 29)] _ _ from ?_)
  refine P_aw_op (L' := [.ref (w.2.2 29)]) (st' := [P_z 0, .ref (w.2.2 29)]) P_i96_1 rfl (show P_aw _ _ _ 2 [.ref (w.2.2 29)] [P_z 0, .ref (w.2.2 29)] _ _ from ?_)
  refine P_aw_put P_i96_2 (hw.2.1 29 (by decide)) (hw.s rfl) rfl rfl rfl (show P_aw _ _ _ 5 [.ref (w.2.2 29)] [] _ _ from ?_)
  refine P_aw_op (L' := [.ref (w.2.2 29)]) (st' := [.ref (w.2.2 29)]) P_i96_5 rfl (show P_aw _ _ _ 6 [.ref (w.2.2 29)] [.ref (w.2.2 29)] _ _ from ?_)
  refine P_aw_op (L' := [.ref (w.2.2 29)]) (st' := [P_z (-1), .ref (w.2.2 29)]) P_i96_6 rfl (show P_aw _ _ _ 7 [.ref (w.2.2 29)] [P_z (-1), .ref (w.2.2 29)] _ _ from ?_)
  refine P_aw_put P_i96_7 (hw.2.1 29 (by decide)) (hw.s rfl) rfl rfl rfl (show P_aw _ _ _ 10 [.ref (w.2.2 29)] [] _ _ from ?_)
  refine P_aw_end P_i96_10 rfl rfl (fun _ => rfl) rfl ?_
  show P_aw _ _ _ 38 [.ref (w.2.2 29), P_z t] [] _ _
  refine P_aw_end P_i94_38 rfl rfl (fun _ => rfl) rfl ?_
  show P_aw _ _ _ 47 [.ref (w.2.2 0), P_z t] [] _ _
  refine P_aw_op (L' := [.ref (w.2.2 0), P_z t]) (st' := [.ref (w.2.2 0)]) P_i141_47 rfl (show P_aw _ _ _ 48 [.ref (w.2.2 0), P_z t] [.ref (w.2.2 0)] _ _ from ?_)
  refine P_aw_call P_i141_48 rfl rfl (fun _ => rfl) rfl rfl rfl rfl (y2 := 169) (as := [.ref (w.2.2 0)]) (r0 := []) (P_inv_v (hw.2.1 0 (by decide)) (hw.s rfl) rfl rfl) (Nat.le_of_ble_eq_true rfl) (by decide) rfl (Nat.le_of_ble_eq_true rfl) (show P_aw _ _ _ 0 [.ref (w.2.2 0)] [] _ _ from ?_)
  refine P_aw_op (L' := [.ref (w.2.2 0)]) (st' := [.ref (w.2.2 0)]) P_i169_0 rfl (show P_aw _ _ _ 1 [.ref (w.2.2 0)] [.ref (w.2.2 0)] _ _ from ?_)
  refine P_aw_getR P_i169_1 (hw.2.1 0 (by decide)) (hw.s rfl) rfl rfl (show P_aw _ _ _ 4 [.ref (w.2.2 0)] [.ref (w.2.2 44)] _ _ from ?_)
  refine P_aw_call P_i169_4 rfl rfl (fun _ => rfl) rfl rfl rfl rfl (y2 := 85) (as := [.ref (w.2.2 44)]) (r0 := []) (P_inv_v hw.2.2 (hw.s rfl) rfl rfl) (Nat.le_of_ble_eq_true rfl) (by decide) rfl (Nat.le_of_ble_eq_true rfl) (show P_aw _ _ _ 0 [.ref (w.2.2 44)] [] _ _ from ?_)
  refine P_aw_op (L' := [.ref (w.2.2 44)]) (st' := [.ref (w.2.2 44)]) P_i85_0 rfl (show P_aw _ _ _ 1 [.ref (w.2.2 44)] [.ref (w.2.2 44)] _ _ from ?_)
  refine P_aw_op (L' := [.ref (w.2.2 44)]) (st' := [P_z 0, .ref (w.2.2 44)]) P_i85_1 rfl (show P_aw _ _ _ 2 [.ref (w.2.2 44)] [P_z 0, .ref (w.2.2 44)] _ _ from ?_)
  refine P_aw_put P_i85_2 hw.2.2 (hw.s rfl) rfl rfl rfl (show P_aw _ _ _ 5 [.ref (w.2.2 44)] [] _ _ from ?_)
  refine P_aw_op (L' := [.ref (w.2.2 44)]) (st' := [.ref (w.2.2 44)]) P_i85_5 rfl (show P_aw _ _ _ 6 [.ref (w.2.2 44)] [.ref (w.2.2 44)] _ _ from ?_)
  refine P_aw_op (L' := [.ref (w.2.2 44)]) (st' := [P_z 0, .ref (w.2.2 44)]) P_i85_6 rfl (show P_aw _ _ _ 7 [.ref (w.2.2 44)] [P_z 0, .ref (w.2.2 44)] _ _ from ?_)
  refine P_aw_put P_i85_7 hw.2.2 (hw.s rfl) rfl rfl rfl (show P_aw _ _ _ 10 [.ref (w.2.2 44)] [] _ _ from ?_)
  refine P_aw_op (L' := [.ref (w.2.2 44)]) (st' := [.ref (w.2.2 44)]) P_i85_10 rfl (show P_aw _ _ _ 11 [.ref (w.2.2 44)] [.ref (w.2.2 44)] _ _ from ?_)
  refine P_aw_op (L' := [.ref (w.2.2 44)]) (st' := [P_z 0, .ref (w.2.2 44)]) P_i85_11 rfl (show P_aw _ _ _ 12 [.ref (w.2.2 44)] [P_z 0, .ref (w.2.2 44)] _ _ from ?_)
  refine P_aw_put P_i85_12 hw.2.2 (hw.s rfl) rfl rfl rfl (show P_aw _ _ _ 15 [.ref (w.2.2 44)] [] _ _ from ?_)
  refine P_aw_op (L' := [.ref (w.2.2 44)]) (st' := [.ref (w.2.2 44)]) P_i85_15 rfl (show P_aw _ _ _ 16 [.ref (w.2.2 44)] [.ref (w.2.2 44)] _ _ from ?_)
  refine P_aw_op (L' := [.ref (w.2.2 44)]) (st' := [P_z 0, .ref (w.2.2 44)]) P_i85_16 rfl (show P_aw _ _ _ 17 [.ref (w.2.2 44)] [P_z 0, .ref (w.2.2 44)] _ _ from ?_)
  refine P_aw_put P_i85_17 hw.2.2 (hw.s rfl) rfl rfl rfl (show P_aw _ _ _ 20 [.ref (w.2.2 44)] [] _ _ from ?_)
  refine P_aw_end P_i85_20 rfl rfl (fun _ => rfl) rfl ?_
  show P_aw _ _ _ 7 [.ref (w.2.2 0)] [] _ _
  refine P_aw_op (L' := [.ref (w.2.2 0)]) (st' := [.ref (w.2.2 0)]) P_i169_7 rfl (show P_aw _ _ _ 8 [.ref (w.2.2 0)] [.ref (w.2.2 0)] _ _ from ?_)
  refine P_aw_getR P_i169_8 (hw.2.1 0 (by decide)) (hw.s rfl) rfl rfl (show P_aw _ _ _ 11 [.ref (w.2.2 0)] [.ref (w.2.2 31)] _ _ from ?_)
  refine P_aw_call P_i169_11 rfl rfl (fun _ => rfl) rfl rfl rfl rfl (y2 := 2) (as := [.ref (w.2.2 31)]) (r0 := []) (P_inv_v (hw.2.1 31 (by decide)) (hw.s rfl) rfl rfl) (Nat.le_of_ble_eq_true rfl) (by decide) rfl (Nat.le_of_ble_eq_true rfl) (show P_aw _ _ _ 0 [.ref (w.2.2 31)] [] _ _ from ?_)
  refine P_aw_op (L' := [.ref (w.2.2 31)]) (st' := [.ref (w.2.2 31)]) P_i2_0 rfl (show P_aw _ _ _ 1 [.ref (w.2.2 31)] [.ref (w.2.2 31)] _ _ from ?_)
  refine P_aw_op (L' := [.ref (w.2.2 31)]) (st' := [P_z 0, .ref (w.2.2 31)]) P_i2_1 rfl (show P_aw _ _ _ 2 [.ref (w.2.2 31)] [P_z 0, .ref (w.2.2 31)] _ _ from ?_)
  refine P_aw_put P_i2_2 (hw.2.1 31 (by decide)) (hw.s rfl) rfl rfl rfl (show P_aw _ _ _ 5 [.ref (w.2.2 31)] [] _ _ from ?_)
  refine P_aw_end P_i2_5 rfl rfl (fun _ => rfl) rfl ?_
  show P_aw _ _ _ 14 [.ref (w.2.2 0)] [] _ _
  refine P_aw_end P_i169_14 rfl rfl (fun _ => rfl) rfl ?_
  show P_aw _ _ _ 51 [.ref (w.2.2 0), P_z t] [] _ _
  refine P_aw_op (L' := [.ref (w.2.2 0), P_z t]) (st' := [.ref (w.2.2 0)]) P_i141_51 rfl (show P_aw _ _ _ 52 [.ref (w.2.2 0), P_z t] [.ref (w.2.2 0)] _ _ from ?_)
  refine P_aw_getR P_i141_52 (hw.2.1 0 (by decide)) (hw.s rfl) rfl rfl (show P_aw _ _ _ 55 [.ref (w.2.2 0), P_z t] [.ref (w.2.2 29)] _ _ from ?_)
  refine P_aw_call P_i141_55 rfl rfl (fun _ => rfl) rfl rfl rfl rfl (y2 := 91) (as := [.ref (w.2.2 29)]) (r0 := []) (P_inv_v (hw.2.1 29 (by decide)) (hw.s rfl) rfl rfl) (Nat.le_of_ble_eq_true rfl) (by decide) rfl (Nat.le_of_ble_eq_true rfl) (show P_aw _ _ _ 0 [.ref (w.2.2 29)] [] _ _ from ?_)
  refine P_aw_op (L' := [.ref (w.2.2 29)]) (st' := [.ref (w.2.2 29)]) P_i91_0 rfl (show P_aw _ _ _ 1 [.ref (w.2.2 29)] [.ref (w.2.2 29)] _ _ from ?_)
  refine P_aw_getv P_i91_1 (hw.2.1 29 (by decide)) (hw.s rfl) rfl rfl ((P_u2_ne (by omega)).trans ((P_u2_ne (by omega)).trans ((P_u2_ne (by omega)).trans ((P_u2_ne (by omega)).trans ((P_u2_ne (by omega)).trans ((P_u2_ne (by omega)).trans ((P_u2_ne (by omega)).trans (P_u2_at)))))))) (show P_aw _ _ _ 4 [.ref (w.2.2 29)] [P_z (ln + 1)] _ _ from ?_)
  refine P_aw_end P_i91_4 rfl rfl (fun _ => rfl) rfl ?_
  show P_aw _ _ _ 58 [.ref (w.2.2 0), P_z t] [P_z (ln + 1)] _ _
  refine P_aw_end P_i141_58 rfl rfl (fun _ => rfl) rfl ?_
  exact q

theorem s_tokc {w : P_Lw} (hw : P_Cw w) {d : Nat} {Q : P_R → P_A → Prop} {σ : P_A} {t ln : Int} (hln : σ 29 4 = ln) (hl0 : 0 ≤ ln ∧ ln < 40) (ht : 100 ≤ t ∧ t ≤ 199) (q : Q (.inl (some (P_z (ln + 1)))) (A_oth (P_u2 (P_u2 (P_u2 (P_u2 σ 30 ln.toNat t) 29 4 (ln + 1)) 29 5 0) 29 7 (-1)))) : P_aw w (d + 5) 141 0 [.ref (w.2.2 0), P_z t] [] σ Q := by
  refine P_aw_op (L' := [.ref (w.2.2 0), P_z t]) (st' := [P_z t]) P_i141_0 rfl (show P_aw _ _ _ 1 [.ref (w.2.2 0), P_z t] [P_z t] _ _ from ?_)
  refine P_aw_call P_i141_1 rfl rfl (fun _ => rfl) rfl rfl rfl rfl (y2 := 172) (as := [P_z t]) (r0 := []) (fun _ _ => rfl) (Nat.le_of_ble_eq_true rfl) (by decide) rfl (Nat.le_of_ble_eq_true rfl) (show P_aw _ _ _ 0 [P_z t] [] _ _ from ?_)
  refine P_aw_op (L' := [P_z t]) (st' := [P_z t]) P_i172_0 rfl (show P_aw _ _ _ 1 [P_z t] [P_z t] _ _ from ?_)
  refine P_aw_izf P_i172_1 ⟨by omega, by omega⟩ (P_ci_ltf (by omega)) (show P_aw _ _ _ 4 [P_z t] [] _ _ from ?_)
  refine P_aw_op (L' := [P_z t]) (st' := [P_z t]) P_i172_4 rfl (show P_aw _ _ _ 5 [P_z t] [P_z t] _ _ from ?_)
  refine P_aw_op (L' := [P_z t]) (st' := [P_z 11, P_z t]) P_i172_5 (P_o_bi (by decide)) (show P_aw _ _ _ 7 [P_z t] [P_z 11, P_z t] _ _ from ?_)
  refine P_aw_icf P_i172_7 ⟨by omega, by omega⟩ ⟨by decide, by decide⟩ (P_ci_lef (by omega)) (show P_aw _ _ _ 10 [P_z t] [] _ _ from ?_)
  refine P_aw_op (L' := [P_z t]) (st' := [P_z t]) P_i172_10 rfl (show P_aw _ _ _ 11 [P_z t] [P_z t] _ _ from ?_)
  refine P_aw_call P_i172_11 rfl rfl (fun _ => rfl) rfl rfl rfl rfl (y2 := 173) (as := [P_z t]) (r0 := []) (fun _ _ => rfl) (Nat.le_of_ble_eq_true rfl) (by decide) rfl (Nat.le_of_ble_eq_true rfl) (show P_aw _ _ _ 0 [P_z t] [] _ _ from ?_)
  refine P_aw_op (L' := [P_z t]) (st' := [P_z t]) P_i173_0 rfl (show P_aw _ _ _ 1 [P_z t] [P_z t] _ _ from ?_)
  refine P_aw_op (L' := [P_z t]) (st' := [P_z 20, P_z t]) P_i173_1 (P_o_bi (by decide)) (show P_aw _ _ _ 3 [P_z t] [P_z 20, P_z t] _ _ from ?_)
  refine P_aw_icf P_i173_3 ⟨by omega, by omega⟩ ⟨by decide, by decide⟩ (P_ci_ltf (by omega)) (show P_aw _ _ _ 6 [P_z t] [] _ _ from ?_)
  refine P_aw_op (L' := [P_z t]) (st' := [P_z t]) P_i173_6 rfl (show P_aw _ _ _ 7 [P_z t] [P_z t] _ _ from ?_)
  refine P_aw_op (L' := [P_z t]) (st' := [P_z 25, P_z t]) P_i173_7 (P_o_bi (by decide)) (show P_aw _ _ _ 9 [P_z t] [P_z 25, P_z t] _ _ from ?_)
  refine P_aw_ict P_i173_9 ⟨by omega, by omega⟩ ⟨by decide, by decide⟩ (P_ci_get (by omega)) (show P_aw _ _ _ 16 [P_z t] [] _ _ from ?_)
  refine P_aw_op (L' := [P_z t]) (st' := [P_z 0]) P_i173_16 rfl (show P_aw _ _ _ 17 [P_z t] [P_z 0] _ _ from ?_)
  refine P_aw_end P_i173_17 rfl rfl (fun _ => rfl) rfl ?_
  show P_aw _ _ _ 14 [P_z t] [P_z 0] _ _
  refine P_aw_izf P_i172_14 ⟨by decide, by decide⟩ (P_ci_nef (by omega)) (show P_aw _ _ _ 17 [P_z t] [] _ _ from ?_)
  refine P_aw_op (L' := [P_z t]) (st' := [P_z t]) P_i172_17 rfl (show P_aw _ _ _ 18 [P_z t] [P_z t] _ _ from ?_)
  refine P_aw_call P_i172_18 rfl rfl (fun _ => rfl) rfl rfl rfl rfl (y2 := 174) (as := [P_z t]) (r0 := []) (fun _ _ => rfl) (Nat.le_of_ble_eq_true rfl) (by decide) rfl (Nat.le_of_ble_eq_true rfl) (show P_aw _ _ _ 0 [P_z t] [] _ _ from ?_)
  refine P_aw_op (L' := [P_z t]) (st' := [P_z t]) P_i174_0 rfl (show P_aw _ _ _ 1 [P_z t] [P_z t] _ _ from ?_)
  refine P_aw_op (L' := [P_z t]) (st' := [P_z 100, P_z t]) P_i174_1 (P_o_bi (by decide)) (show P_aw _ _ _ 3 [P_z t] [P_z 100, P_z t] _ _ from ?_)
  refine P_aw_icf P_i174_3 ⟨by omega, by omega⟩ ⟨by decide, by decide⟩ (P_ci_ltf (by omega)) (show P_aw _ _ _ 6 [P_z t] [] _ _ from ?_)
  refine P_aw_op (L' := [P_z t]) (st' := [P_z t]) P_i174_6 rfl (show P_aw _ _ _ 7 [P_z t] [P_z t] _ _ from ?_)
  refine P_aw_op (L' := [P_z t]) (st' := [P_z 199, P_z t]) P_i174_7 (P_o_si (by decide)) (show P_aw _ _ _ 10 [P_z t] [P_z 199, P_z t] _ _ from ?_)
  refine P_aw_icf P_i174_10 ⟨by omega, by omega⟩ ⟨by decide, by decide⟩ (P_ci_gtf (by omega)) (show P_aw _ _ _ 13 [P_z t] [] _ _ from ?_)
  refine P_aw_op (L' := [P_z t]) (st' := [P_z 1]) P_i174_13 rfl (show P_aw _ _ _ 14 [P_z t] [P_z 1] _ _ from ?_)
  refine P_aw_goto P_i174_14 (show P_aw _ _ _ 18 [P_z t] [P_z 1] _ _ from ?_)
  refine P_aw_end P_i174_18 rfl rfl (fun _ => rfl) rfl ?_
  show P_aw _ _ _ 21 [P_z t] [P_z 1] _ _
  refine P_aw_izt P_i172_21 ⟨by decide, by decide⟩ (P_ci_net (by omega)) (show P_aw _ _ _ 31 [P_z t] [] _ _ from ?_)
  refine P_aw_op (L' := [P_z t]) (st' := [P_z 1]) P_i172_31 rfl (show P_aw _ _ _ 32 [P_z t] [P_z 1] _ _ from ?_)
  refine P_aw_goto P_i172_32 (show P_aw _ _ _ 36 [P_z t] [P_z 1] _ _ from ?_)
  refine P_aw_end P_i172_36 rfl rfl (fun _ => rfl) rfl ?_
  show P_aw _ _ _ 4 [.ref (w.2.2 0), P_z t] [P_z 1] _ _
  refine P_aw_izt P_i141_4 ⟨by decide, by decide⟩ (P_ci_net (by omega)) (show P_aw _ _ _ 17 [.ref (w.2.2 0), P_z t] [] _ _ from ?_)
  refine P_aw_op (L' := [.ref (w.2.2 0), P_z t]) (st' := [.ref (w.2.2 0)]) P_i141_17 rfl (show P_aw _ _ _ 18 [.ref (w.2.2 0), P_z t] [.ref (w.2.2 0)] _ _ from ?_)
  refine P_aw_getR P_i141_18 (hw.2.1 0 (by decide)) (hw.s rfl) rfl rfl (show P_aw _ _ _ 21 [.ref (w.2.2 0), P_z t] [.ref (w.2.2 29)] _ _ from ?_)
  refine P_aw_call P_i141_21 rfl rfl (fun _ => rfl) rfl rfl rfl rfl (y2 := 91) (as := [.ref (w.2.2 29)]) (r0 := []) (P_inv_v (hw.2.1 29 (by decide)) (hw.s rfl) rfl rfl) (Nat.le_of_ble_eq_true rfl) (by decide) rfl (Nat.le_of_ble_eq_true rfl) (show P_aw _ _ _ 0 [.ref (w.2.2 29)] [] _ _ from ?_)
  refine P_aw_op (L' := [.ref (w.2.2 29)]) (st' := [.ref (w.2.2 29)]) P_i91_0 rfl (show P_aw _ _ _ 1 [.ref (w.2.2 29)] [.ref (w.2.2 29)] _ _ from ?_)
  refine P_aw_getv P_i91_1 (hw.2.1 29 (by decide)) (hw.s rfl) rfl rfl (hln) (show P_aw _ _ _ 4 [.ref (w.2.2 29)] [P_z ln] _ _ from ?_)
  refine P_aw_end P_i91_4 rfl rfl (fun _ => rfl) rfl ?_
  show P_aw _ _ _ 24 [.ref (w.2.2 0), P_z t] [P_z ln] _ _
  refine P_aw_op (L' := [.ref (w.2.2 0), P_z t]) (st' := [P_z 40, P_z ln]) P_i141_24 (P_o_bi (by decide)) (show P_aw _ _ _ 26 [.ref (w.2.2 0), P_z t] [P_z 40, P_z ln] _ _ from ?_)
  refine P_aw_ict P_i141_26 ⟨by omega, by omega⟩ ⟨by decide, by decide⟩ (P_ci_ltt (by omega)) (show P_aw _ _ _ 39 [.ref (w.2.2 0), P_z t] [] _ _ from ?_)
  refine P_aw_op (L' := [.ref (w.2.2 0), P_z t]) (st' := [.ref (w.2.2 0)]) P_i141_39 rfl (show P_aw _ _ _ 40 [.ref (w.2.2 0), P_z t] [.ref (w.2.2 0)] _ _ from ?_)
  refine P_aw_getR P_i141_40 (hw.2.1 0 (by decide)) (hw.s rfl) rfl rfl (show P_aw _ _ _ 43 [.ref (w.2.2 0), P_z t] [.ref (w.2.2 29)] _ _ from ?_)
  refine P_aw_op (L' := [.ref (w.2.2 0), P_z t]) (st' := [P_z t, .ref (w.2.2 29)]) P_i141_43 rfl (show P_aw _ _ _ 44 [.ref (w.2.2 0), P_z t] [P_z t, .ref (w.2.2 29)] _ _ from ?_)
  refine P_aw_call P_i141_44 rfl rfl (fun _ => rfl) rfl rfl rfl rfl (y2 := 94) (as := [.ref (w.2.2 29), P_z t]) (r0 := []) (P_inv_v (hw.2.1 29 (by decide)) (hw.s rfl) rfl rfl) (Nat.le_of_ble_eq_true rfl) (by decide) rfl (Nat.le_of_ble_eq_true rfl) (show P_aw _ _ _ 0 [.ref (w.2.2 29), P_z t] [] _ _ from ?_)
  refine P_aw_op (L' := [.ref (w.2.2 29), P_z t]) (st' := [.ref (w.2.2 29)]) P_i94_0 rfl (show P_aw _ _ _ 1 [.ref (w.2.2 29), P_z t] [.ref (w.2.2 29)] _ _ from ?_)
  refine P_aw_getv P_i94_1 (hw.2.1 29 (by decide)) (hw.s rfl) rfl rfl (hln) (show P_aw _ _ _ 4 [.ref (w.2.2 29), P_z t] [P_z ln] _ _ from ?_)
  refine P_aw_op (L' := [.ref (w.2.2 29), P_z t]) (st' := [.ref (w.2.2 29), P_z ln]) P_i94_4 rfl (show P_aw _ _ _ 5 [.ref (w.2.2 29), P_z t] [.ref (w.2.2 29), P_z ln] _ _ from ?_)
  refine P_aw_getR P_i94_5 (hw.2.1 29 (by decide)) (hw.s rfl) rfl rfl (show P_aw _ _ _ 8 [.ref (w.2.2 29), P_z t] [.ref (w.2.2 30), P_z ln] _ _ from ?_)
  refine P_aw_alen P_i94_8 (hw.2.1 30 (by decide)) (hw.s rfl) (show P_aw _ _ _ 9 [.ref (w.2.2 29), P_z t] [P_z 40, P_z ln] _ _ from ?_)
  refine P_aw_icf P_i94_9 ⟨by omega, by omega⟩ ⟨by decide, by decide⟩ (P_ci_gef (by omega)) (show P_aw _ _ _ 12 [.ref (w.2.2 29), P_z t] [] _ _ from ?_)
  refine P_aw_op (L' := [.ref (w.2.2 29), P_z t]) (st' := [.ref (w.2.2 29)]) P_i94_12 rfl (show P_aw _ _ _ 13 [.ref (w.2.2 29), P_z t] [.ref (w.2.2 29)] _ _ from ?_)
  refine P_aw_getR P_i94_13 (hw.2.1 29 (by decide)) (hw.s rfl) rfl rfl (show P_aw _ _ _ 16 [.ref (w.2.2 29), P_z t] [.ref (w.2.2 30)] _ _ from ?_)
  refine P_aw_op (L' := [.ref (w.2.2 29), P_z t]) (st' := [.ref (w.2.2 29), .ref (w.2.2 30)]) P_i94_16 rfl (show P_aw _ _ _ 17 [.ref (w.2.2 29), P_z t] [.ref (w.2.2 29), .ref (w.2.2 30)] _ _ from ?_)
  refine P_aw_getv P_i94_17 (hw.2.1 29 (by decide)) (hw.s rfl) rfl rfl (hln) (show P_aw _ _ _ 20 [.ref (w.2.2 29), P_z t] [P_z ln, .ref (w.2.2 30)] _ _ from ?_)
  refine P_aw_op (L' := [.ref (w.2.2 29), P_z t]) (st' := [P_z t, P_z ln, .ref (w.2.2 30)]) P_i94_20 rfl (show P_aw _ _ _ 21 [.ref (w.2.2 29), P_z t] [P_z t, P_z ln, .ref (w.2.2 30)] _ _ from ?_)
  refine P_aw_call P_i94_21 rfl rfl (fun _ => rfl) rfl rfl rfl rfl (y2 := 179) (as := [.ref (w.2.2 30), P_z ln, P_z t]) (r0 := []) (fun _ _ => rfl) (Nat.le_of_ble_eq_true rfl) (by decide) rfl (Nat.le_of_ble_eq_true rfl) (show P_aw _ _ _ 0 [.ref (w.2.2 30), P_z ln, P_z t] [] _ _ from ?_)
  refine P_aw_op (L' := [.ref (w.2.2 30), P_z ln, P_z t]) (st' := [P_z ln]) P_i179_0 rfl (show P_aw _ _ _ 1 [.ref (w.2.2 30), P_z ln, P_z t] [P_z ln] _ _ from ?_)
  refine P_aw_izf P_i179_1 ⟨by omega, by omega⟩ (P_ci_ltf (by omega)) (show P_aw _ _ _ 4 [.ref (w.2.2 30), P_z ln, P_z t] [] _ _ from ?_)
  refine P_aw_op (L' := [.ref (w.2.2 30), P_z ln, P_z t]) (st' := [P_z ln]) P_i179_4 rfl (show P_aw _ _ _ 5 [.ref (w.2.2 30), P_z ln, P_z t] [P_z ln] _ _ from ?_)
  refine P_aw_op (L' := [.ref (w.2.2 30), P_z ln, P_z t]) (st' := [.ref (w.2.2 30), P_z ln]) P_i179_5 rfl (show P_aw _ _ _ 6 [.ref (w.2.2 30), P_z ln, P_z t] [.ref (w.2.2 30), P_z ln] _ _ from ?_)
  refine P_aw_alen P_i179_6 (hw.2.1 30 (by decide)) (hw.s rfl) (show P_aw _ _ _ 7 [.ref (w.2.2 30), P_z ln, P_z t] [P_z 40, P_z ln] _ _ from ?_)
  refine P_aw_icf P_i179_7 ⟨by omega, by omega⟩ ⟨by decide, by decide⟩ (P_ci_gef (by omega)) (show P_aw _ _ _ 10 [.ref (w.2.2 30), P_z ln, P_z t] [] _ _ from ?_)
  refine P_aw_op (L' := [.ref (w.2.2 30), P_z ln, P_z t]) (st' := [.ref (w.2.2 30)]) P_i179_10 rfl (show P_aw _ _ _ 11 [.ref (w.2.2 30), P_z ln, P_z t] [.ref (w.2.2 30)] _ _ from ?_)
  refine P_aw_op (L' := [.ref (w.2.2 30), P_z ln, P_z t]) (st' := [P_z ln, .ref (w.2.2 30)]) P_i179_11 rfl (show P_aw _ _ _ 12 [.ref (w.2.2 30), P_z ln, P_z t] [P_z ln, .ref (w.2.2 30)] _ _ from ?_)
  refine P_aw_op (L' := [.ref (w.2.2 30), P_z ln, P_z t]) (st' := [P_z t, P_z ln, .ref (w.2.2 30)]) P_i179_12 rfl (show P_aw _ _ _ 13 [.ref (w.2.2 30), P_z ln, P_z t] [P_z t, P_z ln, .ref (w.2.2 30)] _ _ from ?_)
  refine P_aw_ast P_i179_13 (hw.2.1 30 (by decide)) (hw.s rfl) (by omega) (by omega) (by decide) (show P_aw _ _ _ 14 [.ref (w.2.2 30), P_z ln, P_z t] [] _ _ from ?_)
  refine P_aw_end P_i179_14 rfl rfl (fun _ => rfl) rfl ?_
  show P_aw _ _ _ 24 [.ref (w.2.2 29), P_z t] [] _ _
  refine P_aw_op (L' := [.ref (w.2.2 29), P_z t]) (st' := [.ref (w.2.2 29)]) P_i94_24 rfl (show P_aw _ _ _ 25 [.ref (w.2.2 29), P_z t] [.ref (w.2.2 29)] _ _ from ?_)
  refine P_aw_op (L' := [.ref (w.2.2 29), P_z t]) (st' := [.ref (w.2.2 29), .ref (w.2.2 29)]) P_i94_25 rfl (show P_aw _ _ _ 26 [.ref (w.2.2 29), P_z t] [.ref (w.2.2 29), .ref (w.2.2 29)] _ _ from ?_)
  refine P_aw_getv P_i94_26 (hw.2.1 29 (by decide)) (hw.s rfl) rfl rfl ((P_u2_ne (by omega)).trans (hln)) (show P_aw _ _ _ 29 [.ref (w.2.2 29), P_z t] [P_z ln, .ref (w.2.2 29)] _ _ from ?_)
  refine P_aw_op (L' := [.ref (w.2.2 29), P_z t]) (st' := [P_z 1, P_z ln, .ref (w.2.2 29)]) P_i94_29 rfl (show P_aw _ _ _ 30 [.ref (w.2.2 29), P_z t] [P_z 1, P_z ln, .ref (w.2.2 29)] _ _ from ?_)
  refine P_aw_op (L' := [.ref (w.2.2 29), P_z t]) (st' := [P_z (ln + 1), .ref (w.2.2 29)]) P_i94_30 P_o_iadd (show P_aw _ _ _ 31 [.ref (w.2.2 29), P_z t] [P_z (ln + 1), .ref (w.2.2 29)] _ _ from ?_)
  refine P_aw_put P_i94_31 (hw.2.1 29 (by decide)) (hw.s rfl) rfl rfl rfl (show P_aw _ _ _ 34 [.ref (w.2.2 29), P_z t] [] _ _ from ?_)
  refine P_aw_op (L' := [.ref (w.2.2 29), P_z t]) (st' := [.ref (w.2.2 29)]) P_i94_34 rfl (show P_aw _ _ _ 35 [.ref (w.2.2 29), P_z t] [.ref (w.2.2 29)] _ _ from ?_)
  refine P_aw_call P_i94_35 rfl rfl (fun _ => rfl) rfl rfl rfl rfl (y2 := 96) (as := [.ref (w.2.2 29)]) (r0 := []) (P_inv_v (hw.2.1 29 (by decide)) (hw.s rfl) rfl rfl) (Nat.le_of_ble_eq_true rfl) (by decide) rfl (Nat.le_of_ble_eq_true rfl) (show P_aw _ _ _ 0 [.ref (w.2.2 29)] [] _ _ from ?_)
  refine P_aw_op (L' := [.ref (w.2.2 29)]) (st' := [.ref (w.2.2 29)]) P_i96_0 rfl (show P_aw _ _ _ 1 [.ref (w.2.2 29)] [.ref (w.2.2 29)] _ _ from ?_)
  refine P_aw_op (L' := [.ref (w.2.2 29)]) (st' := [P_z 0, .ref (w.2.2 29)]) P_i96_1 rfl (show P_aw _ _ _ 2 [.ref (w.2.2 29)] [P_z 0, .ref (w.2.2 29)] _ _ from ?_)
  refine P_aw_put P_i96_2 (hw.2.1 29 (by decide)) (hw.s rfl) rfl rfl rfl (show P_aw _ _ _ 5 [.ref (w.2.2 29)] [] _ _ from ?_)
  refine P_aw_op (L' := [.ref (w.2.2 29)]) (st' := [.ref (w.2.2 29)]) P_i96_5 rfl (show P_aw _ _ _ 6 [.ref (w.2.2 29)] [.ref (w.2.2 29)] _ _ from ?_)
  refine P_aw_op (L' := [.ref (w.2.2 29)]) (st' := [P_z (-1), .ref (w.2.2 29)]) P_i96_6 rfl (show P_aw _ _ _ 7 [.ref (w.2.2 29)] [P_z (-1), .ref (w.2.2 29)] _ _ from ?_)
  refine P_aw_put P_i96_7 (hw.2.1 29 (by decide)) (hw.s rfl) rfl rfl rfl (show P_aw _ _ _ 10 [.ref (w.2.2 29)] [] _ _ from ?_)
  refine P_aw_end P_i96_10 rfl rfl (fun _ => rfl) rfl ?_
  show P_aw _ _ _ 38 [.ref (w.2.2 29), P_z t] [] _ _
  refine P_aw_end P_i94_38 rfl rfl (fun _ => rfl) rfl ?_
  show P_aw _ _ _ 47 [.ref (w.2.2 0), P_z t] [] _ _
  refine P_aw_op (L' := [.ref (w.2.2 0), P_z t]) (st' := [.ref (w.2.2 0)]) P_i141_47 rfl (show P_aw _ _ _ 48 [.ref (w.2.2 0), P_z t] [.ref (w.2.2 0)] _ _ from ?_)
  refine P_aw_call P_i141_48 rfl rfl (fun _ => rfl) rfl rfl rfl rfl (y2 := 169) (as := [.ref (w.2.2 0)]) (r0 := []) (P_inv_v (hw.2.1 0 (by decide)) (hw.s rfl) rfl rfl) (Nat.le_of_ble_eq_true rfl) (by decide) rfl (Nat.le_of_ble_eq_true rfl) (show P_aw _ _ _ 0 [.ref (w.2.2 0)] [] _ _ from ?_)
  refine P_aw_op (L' := [.ref (w.2.2 0)]) (st' := [.ref (w.2.2 0)]) P_i169_0 rfl (show P_aw _ _ _ 1 [.ref (w.2.2 0)] [.ref (w.2.2 0)] _ _ from ?_)
  refine P_aw_getR P_i169_1 (hw.2.1 0 (by decide)) (hw.s rfl) rfl rfl (show P_aw _ _ _ 4 [.ref (w.2.2 0)] [.ref (w.2.2 44)] _ _ from ?_)
  refine P_aw_call P_i169_4 rfl rfl (fun _ => rfl) rfl rfl rfl rfl (y2 := 85) (as := [.ref (w.2.2 44)]) (r0 := []) (P_inv_v hw.2.2 (hw.s rfl) rfl rfl) (Nat.le_of_ble_eq_true rfl) (by decide) rfl (Nat.le_of_ble_eq_true rfl) (show P_aw _ _ _ 0 [.ref (w.2.2 44)] [] _ _ from ?_)
  refine P_aw_op (L' := [.ref (w.2.2 44)]) (st' := [.ref (w.2.2 44)]) P_i85_0 rfl (show P_aw _ _ _ 1 [.ref (w.2.2 44)] [.ref (w.2.2 44)] _ _ from ?_)
  refine P_aw_op (L' := [.ref (w.2.2 44)]) (st' := [P_z 0, .ref (w.2.2 44)]) P_i85_1 rfl (show P_aw _ _ _ 2 [.ref (w.2.2 44)] [P_z 0, .ref (w.2.2 44)] _ _ from ?_)
  refine P_aw_put P_i85_2 hw.2.2 (hw.s rfl) rfl rfl rfl (show P_aw _ _ _ 5 [.ref (w.2.2 44)] [] _ _ from ?_)
  refine P_aw_op (L' := [.ref (w.2.2 44)]) (st' := [.ref (w.2.2 44)]) P_i85_5 rfl (show P_aw _ _ _ 6 [.ref (w.2.2 44)] [.ref (w.2.2 44)] _ _ from ?_)
  refine P_aw_op (L' := [.ref (w.2.2 44)]) (st' := [P_z 0, .ref (w.2.2 44)]) P_i85_6 rfl (show P_aw _ _ _ 7 [.ref (w.2.2 44)] [P_z 0, .ref (w.2.2 44)] _ _ from ?_)
  refine P_aw_put P_i85_7 hw.2.2 (hw.s rfl) rfl rfl rfl (show P_aw _ _ _ 10 [.ref (w.2.2 44)] [] _ _ from ?_)
  refine P_aw_op (L' := [.ref (w.2.2 44)]) (st' := [.ref (w.2.2 44)]) P_i85_10 rfl (show P_aw _ _ _ 11 [.ref (w.2.2 44)] [.ref (w.2.2 44)] _ _ from ?_)
  refine P_aw_op (L' := [.ref (w.2.2 44)]) (st' := [P_z 0, .ref (w.2.2 44)]) P_i85_11 rfl (show P_aw _ _ _ 12 [.ref (w.2.2 44)] [P_z 0, .ref (w.2.2 44)] _ _ from ?_)
  refine P_aw_put P_i85_12 hw.2.2 (hw.s rfl) rfl rfl rfl (show P_aw _ _ _ 15 [.ref (w.2.2 44)] [] _ _ from ?_)
  refine P_aw_op (L' := [.ref (w.2.2 44)]) (st' := [.ref (w.2.2 44)]) P_i85_15 rfl (show P_aw _ _ _ 16 [.ref (w.2.2 44)] [.ref (w.2.2 44)] _ _ from ?_)
  refine P_aw_op (L' := [.ref (w.2.2 44)]) (st' := [P_z 0, .ref (w.2.2 44)]) P_i85_16 rfl (show P_aw _ _ _ 17 [.ref (w.2.2 44)] [P_z 0, .ref (w.2.2 44)] _ _ from ?_)
  refine P_aw_put P_i85_17 hw.2.2 (hw.s rfl) rfl rfl rfl (show P_aw _ _ _ 20 [.ref (w.2.2 44)] [] _ _ from ?_)
  refine P_aw_end P_i85_20 rfl rfl (fun _ => rfl) rfl ?_
  show P_aw _ _ _ 7 [.ref (w.2.2 0)] [] _ _
  refine P_aw_op (L' := [.ref (w.2.2 0)]) (st' := [.ref (w.2.2 0)]) P_i169_7 rfl (show P_aw _ _ _ 8 [.ref (w.2.2 0)] [.ref (w.2.2 0)] _ _ from ?_)
  refine P_aw_getR P_i169_8 (hw.2.1 0 (by decide)) (hw.s rfl) rfl rfl (show P_aw _ _ _ 11 [.ref (w.2.2 0)] [.ref (w.2.2 31)] _ _ from ?_)
  refine P_aw_call P_i169_11 rfl rfl (fun _ => rfl) rfl rfl rfl rfl (y2 := 2) (as := [.ref (w.2.2 31)]) (r0 := []) (P_inv_v (hw.2.1 31 (by decide)) (hw.s rfl) rfl rfl) (Nat.le_of_ble_eq_true rfl) (by decide) rfl (Nat.le_of_ble_eq_true rfl) (show P_aw _ _ _ 0 [.ref (w.2.2 31)] [] _ _ from ?_)
  refine P_aw_op (L' := [.ref (w.2.2 31)]) (st' := [.ref (w.2.2 31)]) P_i2_0 rfl (show P_aw _ _ _ 1 [.ref (w.2.2 31)] [.ref (w.2.2 31)] _ _ from ?_)
  refine P_aw_op (L' := [.ref (w.2.2 31)]) (st' := [P_z 0, .ref (w.2.2 31)]) P_i2_1 rfl (show P_aw _ _ _ 2 [.ref (w.2.2 31)] [P_z 0, .ref (w.2.2 31)] _ _ from ?_)
  refine P_aw_put P_i2_2 (hw.2.1 31 (by decide)) (hw.s rfl) rfl rfl rfl (show P_aw _ _ _ 5 [.ref (w.2.2 31)] [] _ _ from ?_)
  refine P_aw_end P_i2_5 rfl rfl (fun _ => rfl) rfl ?_
  show P_aw _ _ _ 14 [.ref (w.2.2 0)] [] _ _
  refine P_aw_end P_i169_14 rfl rfl (fun _ => rfl) rfl ?_
  show P_aw _ _ _ 51 [.ref (w.2.2 0), P_z t] [] _ _
  refine P_aw_op (L' := [.ref (w.2.2 0), P_z t]) (st' := [.ref (w.2.2 0)]) P_i141_51 rfl (show P_aw _ _ _ 52 [.ref (w.2.2 0), P_z t] [.ref (w.2.2 0)] _ _ from ?_)
  refine P_aw_getR P_i141_52 (hw.2.1 0 (by decide)) (hw.s rfl) rfl rfl (show P_aw _ _ _ 55 [.ref (w.2.2 0), P_z t] [.ref (w.2.2 29)] _ _ from ?_)
  refine P_aw_call P_i141_55 rfl rfl (fun _ => rfl) rfl rfl rfl rfl (y2 := 91) (as := [.ref (w.2.2 29)]) (r0 := []) (P_inv_v (hw.2.1 29 (by decide)) (hw.s rfl) rfl rfl) (Nat.le_of_ble_eq_true rfl) (by decide) rfl (Nat.le_of_ble_eq_true rfl) (show P_aw _ _ _ 0 [.ref (w.2.2 29)] [] _ _ from ?_)
  refine P_aw_op (L' := [.ref (w.2.2 29)]) (st' := [.ref (w.2.2 29)]) P_i91_0 rfl (show P_aw _ _ _ 1 [.ref (w.2.2 29)] [.ref (w.2.2 29)] _ _ from ?_)
  refine P_aw_getv P_i91_1 (hw.2.1 29 (by decide)) (hw.s rfl) rfl rfl ((P_u2_ne (by omega)).trans ((P_u2_ne (by omega)).trans ((P_u2_ne (by omega)).trans ((P_u2_ne (by omega)).trans ((P_u2_ne (by omega)).trans ((P_u2_ne (by omega)).trans ((P_u2_ne (by omega)).trans (P_u2_at)))))))) (show P_aw _ _ _ 4 [.ref (w.2.2 29)] [P_z (ln + 1)] _ _ from ?_)
  refine P_aw_end P_i91_4 rfl rfl (fun _ => rfl) rfl ?_
  show P_aw _ _ _ 58 [.ref (w.2.2 0), P_z t] [P_z (ln + 1)] _ _
  refine P_aw_end P_i141_58 rfl rfl (fun _ => rfl) rfl ?_
  exact q

theorem s_tokd {w : P_Lw} (hw : P_Cw w) {d : Nat} {Q : P_R → P_A → Prop} {σ : P_A} {t ln : Int} (hln : σ 29 4 = ln) (hl0 : 0 ≤ ln ∧ ln < 40) (ht : 1000 ≤ t ∧ t ≤ 1999) (q : Q (.inl (some (P_z (ln + 1)))) (A_oth (P_u2 (P_u2 (P_u2 (P_u2 σ 30 ln.toNat t) 29 4 (ln + 1)) 29 5 0) 29 7 (-1)))) : P_aw w (d + 5) 141 0 [.ref (w.2.2 0), P_z t] [] σ Q := by
  refine P_aw_op (L' := [.ref (w.2.2 0), P_z t]) (st' := [P_z t]) P_i141_0 rfl (show P_aw _ _ _ 1 [.ref (w.2.2 0), P_z t] [P_z t] _ _ from ?_)
  refine P_aw_call P_i141_1 rfl rfl (fun _ => rfl) rfl rfl rfl rfl (y2 := 172) (as := [P_z t]) (r0 := []) (fun _ _ => rfl) (Nat.le_of_ble_eq_true rfl) (by decide) rfl (Nat.le_of_ble_eq_true rfl) (show P_aw _ _ _ 0 [P_z t] [] _ _ from ?_)
  refine P_aw_op (L' := [P_z t]) (st' := [P_z t]) P_i172_0 rfl (show P_aw _ _ _ 1 [P_z t] [P_z t] _ _ from ?_)
  refine P_aw_izf P_i172_1 ⟨by omega, by omega⟩ (P_ci_ltf (by omega)) (show P_aw _ _ _ 4 [P_z t] [] _ _ from ?_)
  refine P_aw_op (L' := [P_z t]) (st' := [P_z t]) P_i172_4 rfl (show P_aw _ _ _ 5 [P_z t] [P_z t] _ _ from ?_)
  refine P_aw_op (L' := [P_z t]) (st' := [P_z 11, P_z t]) P_i172_5 (P_o_bi (by decide)) (show P_aw _ _ _ 7 [P_z t] [P_z 11, P_z t] _ _ from ?_)
  refine P_aw_icf P_i172_7 ⟨by omega, by omega⟩ ⟨by decide, by decide⟩ (P_ci_lef (by omega)) (show P_aw _ _ _ 10 [P_z t] [] _ _ from ?_)
  refine P_aw_op (L' := [P_z t]) (st' := [P_z t]) P_i172_10 rfl (show P_aw _ _ _ 11 [P_z t] [P_z t] _ _ from ?_)
  refine P_aw_call P_i172_11 rfl rfl (fun _ => rfl) rfl rfl rfl rfl (y2 := 173) (as := [P_z t]) (r0 := []) (fun _ _ => rfl) (Nat.le_of_ble_eq_true rfl) (by decide) rfl (Nat.le_of_ble_eq_true rfl) (show P_aw _ _ _ 0 [P_z t] [] _ _ from ?_)
  refine P_aw_op (L' := [P_z t]) (st' := [P_z t]) P_i173_0 rfl (show P_aw _ _ _ 1 [P_z t] [P_z t] _ _ from ?_)
  refine P_aw_op (L' := [P_z t]) (st' := [P_z 20, P_z t]) P_i173_1 (P_o_bi (by decide)) (show P_aw _ _ _ 3 [P_z t] [P_z 20, P_z t] _ _ from ?_)
  refine P_aw_icf P_i173_3 ⟨by omega, by omega⟩ ⟨by decide, by decide⟩ (P_ci_ltf (by omega)) (show P_aw _ _ _ 6 [P_z t] [] _ _ from ?_)
  refine P_aw_op (L' := [P_z t]) (st' := [P_z t]) P_i173_6 rfl (show P_aw _ _ _ 7 [P_z t] [P_z t] _ _ from ?_)
  refine P_aw_op (L' := [P_z t]) (st' := [P_z 25, P_z t]) P_i173_7 (P_o_bi (by decide)) (show P_aw _ _ _ 9 [P_z t] [P_z 25, P_z t] _ _ from ?_)
  refine P_aw_ict P_i173_9 ⟨by omega, by omega⟩ ⟨by decide, by decide⟩ (P_ci_get (by omega)) (show P_aw _ _ _ 16 [P_z t] [] _ _ from ?_)
  refine P_aw_op (L' := [P_z t]) (st' := [P_z 0]) P_i173_16 rfl (show P_aw _ _ _ 17 [P_z t] [P_z 0] _ _ from ?_)
  refine P_aw_end P_i173_17 rfl rfl (fun _ => rfl) rfl ?_
  show P_aw _ _ _ 14 [P_z t] [P_z 0] _ _
  refine P_aw_izf P_i172_14 ⟨by decide, by decide⟩ (P_ci_nef (by omega)) (show P_aw _ _ _ 17 [P_z t] [] _ _ from ?_)
  refine P_aw_op (L' := [P_z t]) (st' := [P_z t]) P_i172_17 rfl (show P_aw _ _ _ 18 [P_z t] [P_z t] _ _ from ?_)
  refine P_aw_call P_i172_18 rfl rfl (fun _ => rfl) rfl rfl rfl rfl (y2 := 174) (as := [P_z t]) (r0 := []) (fun _ _ => rfl) (Nat.le_of_ble_eq_true rfl) (by decide) rfl (Nat.le_of_ble_eq_true rfl) (show P_aw _ _ _ 0 [P_z t] [] _ _ from ?_)
  refine P_aw_op (L' := [P_z t]) (st' := [P_z t]) P_i174_0 rfl (show P_aw _ _ _ 1 [P_z t] [P_z t] _ _ from ?_)
  refine P_aw_op (L' := [P_z t]) (st' := [P_z 100, P_z t]) P_i174_1 (P_o_bi (by decide)) (show P_aw _ _ _ 3 [P_z t] [P_z 100, P_z t] _ _ from ?_)
  refine P_aw_icf P_i174_3 ⟨by omega, by omega⟩ ⟨by decide, by decide⟩ (P_ci_ltf (by omega)) (show P_aw _ _ _ 6 [P_z t] [] _ _ from ?_)
  refine P_aw_op (L' := [P_z t]) (st' := [P_z t]) P_i174_6 rfl (show P_aw _ _ _ 7 [P_z t] [P_z t] _ _ from ?_)
  refine P_aw_op (L' := [P_z t]) (st' := [P_z 199, P_z t]) P_i174_7 (P_o_si (by decide)) (show P_aw _ _ _ 10 [P_z t] [P_z 199, P_z t] _ _ from ?_)
  refine P_aw_ict P_i174_10 ⟨by omega, by omega⟩ ⟨by decide, by decide⟩ (P_ci_gtt (by omega)) (show P_aw _ _ _ 17 [P_z t] [] _ _ from ?_)
  refine P_aw_op (L' := [P_z t]) (st' := [P_z 0]) P_i174_17 rfl (show P_aw _ _ _ 18 [P_z t] [P_z 0] _ _ from ?_)
  refine P_aw_end P_i174_18 rfl rfl (fun _ => rfl) rfl ?_
  show P_aw _ _ _ 21 [P_z t] [P_z 0] _ _
  refine P_aw_izf P_i172_21 ⟨by decide, by decide⟩ (P_ci_nef (by omega)) (show P_aw _ _ _ 24 [P_z t] [] _ _ from ?_)
  refine P_aw_op (L' := [P_z t]) (st' := [P_z t]) P_i172_24 rfl (show P_aw _ _ _ 25 [P_z t] [P_z t] _ _ from ?_)
  refine P_aw_call P_i172_25 rfl rfl (fun _ => rfl) rfl rfl rfl rfl (y2 := 175) (as := [P_z t]) (r0 := []) (fun _ _ => rfl) (Nat.le_of_ble_eq_true rfl) (by decide) rfl (Nat.le_of_ble_eq_true rfl) (show P_aw _ _ _ 0 [P_z t] [] _ _ from ?_)
  refine P_aw_op (L' := [P_z t]) (st' := [P_z t]) P_i175_0 rfl (show P_aw _ _ _ 1 [P_z t] [P_z t] _ _ from ?_)
  refine P_aw_op (L' := [P_z t]) (st' := [P_z 1000, P_z t]) P_i175_1 (P_o_si (by decide)) (show P_aw _ _ _ 4 [P_z t] [P_z 1000, P_z t] _ _ from ?_)
  refine P_aw_icf P_i175_4 ⟨by omega, by omega⟩ ⟨by decide, by decide⟩ (P_ci_ltf (by omega)) (show P_aw _ _ _ 7 [P_z t] [] _ _ from ?_)
  refine P_aw_op (L' := [P_z t]) (st' := [P_z t]) P_i175_7 rfl (show P_aw _ _ _ 8 [P_z t] [P_z t] _ _ from ?_)
  refine P_aw_op (L' := [P_z t]) (st' := [P_z 1999, P_z t]) P_i175_8 (P_o_si (by decide)) (show P_aw _ _ _ 11 [P_z t] [P_z 1999, P_z t] _ _ from ?_)
  refine P_aw_icf P_i175_11 ⟨by omega, by omega⟩ ⟨by decide, by decide⟩ (P_ci_gtf (by omega)) (show P_aw _ _ _ 14 [P_z t] [] _ _ from ?_)
  refine P_aw_op (L' := [P_z t]) (st' := [P_z 1]) P_i175_14 rfl (show P_aw _ _ _ 15 [P_z t] [P_z 1] _ _ from ?_)
  refine P_aw_goto P_i175_15 (show P_aw _ _ _ 19 [P_z t] [P_z 1] _ _ from ?_)
  refine P_aw_end P_i175_19 rfl rfl (fun _ => rfl) rfl ?_
  show P_aw _ _ _ 28 [P_z t] [P_z 1] _ _
  refine P_aw_izf P_i172_28 ⟨by decide, by decide⟩ (P_ci_eqf (by omega)) (show P_aw _ _ _ 31 [P_z t] [] _ _ from ?_)
  refine P_aw_op (L' := [P_z t]) (st' := [P_z 1]) P_i172_31 rfl (show P_aw _ _ _ 32 [P_z t] [P_z 1] _ _ from ?_)
  refine P_aw_goto P_i172_32 (show P_aw _ _ _ 36 [P_z t] [P_z 1] _ _ from ?_)
  refine P_aw_end P_i172_36 rfl rfl (fun _ => rfl) rfl ?_
  show P_aw _ _ _ 4 [.ref (w.2.2 0), P_z t] [P_z 1] _ _
  refine P_aw_izt P_i141_4 ⟨by decide, by decide⟩ (P_ci_net (by omega)) (show P_aw _ _ _ 17 [.ref (w.2.2 0), P_z t] [] _ _ from ?_)
  refine P_aw_op (L' := [.ref (w.2.2 0), P_z t]) (st' := [.ref (w.2.2 0)]) P_i141_17 rfl (show P_aw _ _ _ 18 [.ref (w.2.2 0), P_z t] [.ref (w.2.2 0)] _ _ from ?_)
  refine P_aw_getR P_i141_18 (hw.2.1 0 (by decide)) (hw.s rfl) rfl rfl (show P_aw _ _ _ 21 [.ref (w.2.2 0), P_z t] [.ref (w.2.2 29)] _ _ from ?_)
  refine P_aw_call P_i141_21 rfl rfl (fun _ => rfl) rfl rfl rfl rfl (y2 := 91) (as := [.ref (w.2.2 29)]) (r0 := []) (P_inv_v (hw.2.1 29 (by decide)) (hw.s rfl) rfl rfl) (Nat.le_of_ble_eq_true rfl) (by decide) rfl (Nat.le_of_ble_eq_true rfl) (show P_aw _ _ _ 0 [.ref (w.2.2 29)] [] _ _ from ?_)
  refine P_aw_op (L' := [.ref (w.2.2 29)]) (st' := [.ref (w.2.2 29)]) P_i91_0 rfl (show P_aw _ _ _ 1 [.ref (w.2.2 29)] [.ref (w.2.2 29)] _ _ from ?_)
  refine P_aw_getv P_i91_1 (hw.2.1 29 (by decide)) (hw.s rfl) rfl rfl (hln) (show P_aw _ _ _ 4 [.ref (w.2.2 29)] [P_z ln] _ _ from ?_)
  refine P_aw_end P_i91_4 rfl rfl (fun _ => rfl) rfl ?_
  show P_aw _ _ _ 24 [.ref (w.2.2 0), P_z t] [P_z ln] _ _
  refine P_aw_op (L' := [.ref (w.2.2 0), P_z t]) (st' := [P_z 40, P_z ln]) P_i141_24 (P_o_bi (by decide)) (show P_aw _ _ _ 26 [.ref (w.2.2 0), P_z t] [P_z 40, P_z ln] _ _ from ?_)
  refine P_aw_ict P_i141_26 ⟨by omega, by omega⟩ ⟨by decide, by decide⟩ (P_ci_ltt (by omega)) (show P_aw _ _ _ 39 [.ref (w.2.2 0), P_z t] [] _ _ from ?_)
  refine P_aw_op (L' := [.ref (w.2.2 0), P_z t]) (st' := [.ref (w.2.2 0)]) P_i141_39 rfl (show P_aw _ _ _ 40 [.ref (w.2.2 0), P_z t] [.ref (w.2.2 0)] _ _ from ?_)
  refine P_aw_getR P_i141_40 (hw.2.1 0 (by decide)) (hw.s rfl) rfl rfl (show P_aw _ _ _ 43 [.ref (w.2.2 0), P_z t] [.ref (w.2.2 29)] _ _ from ?_)
  refine P_aw_op (L' := [.ref (w.2.2 0), P_z t]) (st' := [P_z t, .ref (w.2.2 29)]) P_i141_43 rfl (show P_aw _ _ _ 44 [.ref (w.2.2 0), P_z t] [P_z t, .ref (w.2.2 29)] _ _ from ?_)
  refine P_aw_call P_i141_44 rfl rfl (fun _ => rfl) rfl rfl rfl rfl (y2 := 94) (as := [.ref (w.2.2 29), P_z t]) (r0 := []) (P_inv_v (hw.2.1 29 (by decide)) (hw.s rfl) rfl rfl) (Nat.le_of_ble_eq_true rfl) (by decide) rfl (Nat.le_of_ble_eq_true rfl) (show P_aw _ _ _ 0 [.ref (w.2.2 29), P_z t] [] _ _ from ?_)
  refine P_aw_op (L' := [.ref (w.2.2 29), P_z t]) (st' := [.ref (w.2.2 29)]) P_i94_0 rfl (show P_aw _ _ _ 1 [.ref (w.2.2 29), P_z t] [.ref (w.2.2 29)] _ _ from ?_)
  refine P_aw_getv P_i94_1 (hw.2.1 29 (by decide)) (hw.s rfl) rfl rfl (hln) (show P_aw _ _ _ 4 [.ref (w.2.2 29), P_z t] [P_z ln] _ _ from ?_)
  refine P_aw_op (L' := [.ref (w.2.2 29), P_z t]) (st' := [.ref (w.2.2 29), P_z ln]) P_i94_4 rfl (show P_aw _ _ _ 5 [.ref (w.2.2 29), P_z t] [.ref (w.2.2 29), P_z ln] _ _ from ?_)
  refine P_aw_getR P_i94_5 (hw.2.1 29 (by decide)) (hw.s rfl) rfl rfl (show P_aw _ _ _ 8 [.ref (w.2.2 29), P_z t] [.ref (w.2.2 30), P_z ln] _ _ from ?_)
  refine P_aw_alen P_i94_8 (hw.2.1 30 (by decide)) (hw.s rfl) (show P_aw _ _ _ 9 [.ref (w.2.2 29), P_z t] [P_z 40, P_z ln] _ _ from ?_)
  refine P_aw_icf P_i94_9 ⟨by omega, by omega⟩ ⟨by decide, by decide⟩ (P_ci_gef (by omega)) (show P_aw _ _ _ 12 [.ref (w.2.2 29), P_z t] [] _ _ from ?_)
  refine P_aw_op (L' := [.ref (w.2.2 29), P_z t]) (st' := [.ref (w.2.2 29)]) P_i94_12 rfl (show P_aw _ _ _ 13 [.ref (w.2.2 29), P_z t] [.ref (w.2.2 29)] _ _ from ?_)
  refine P_aw_getR P_i94_13 (hw.2.1 29 (by decide)) (hw.s rfl) rfl rfl (show P_aw _ _ _ 16 [.ref (w.2.2 29), P_z t] [.ref (w.2.2 30)] _ _ from ?_)
  refine P_aw_op (L' := [.ref (w.2.2 29), P_z t]) (st' := [.ref (w.2.2 29), .ref (w.2.2 30)]) P_i94_16 rfl (show P_aw _ _ _ 17 [.ref (w.2.2 29), P_z t] [.ref (w.2.2 29), .ref (w.2.2 30)] _ _ from ?_)
  refine P_aw_getv P_i94_17 (hw.2.1 29 (by decide)) (hw.s rfl) rfl rfl (hln) (show P_aw _ _ _ 20 [.ref (w.2.2 29), P_z t] [P_z ln, .ref (w.2.2 30)] _ _ from ?_)
  refine P_aw_op (L' := [.ref (w.2.2 29), P_z t]) (st' := [P_z t, P_z ln, .ref (w.2.2 30)]) P_i94_20 rfl (show P_aw _ _ _ 21 [.ref (w.2.2 29), P_z t] [P_z t, P_z ln, .ref (w.2.2 30)] _ _ from ?_)
  refine P_aw_call P_i94_21 rfl rfl (fun _ => rfl) rfl rfl rfl rfl (y2 := 179) (as := [.ref (w.2.2 30), P_z ln, P_z t]) (r0 := []) (fun _ _ => rfl) (Nat.le_of_ble_eq_true rfl) (by decide) rfl (Nat.le_of_ble_eq_true rfl) (show P_aw _ _ _ 0 [.ref (w.2.2 30), P_z ln, P_z t] [] _ _ from ?_)
  refine P_aw_op (L' := [.ref (w.2.2 30), P_z ln, P_z t]) (st' := [P_z ln]) P_i179_0 rfl (show P_aw _ _ _ 1 [.ref (w.2.2 30), P_z ln, P_z t] [P_z ln] _ _ from ?_)
  refine P_aw_izf P_i179_1 ⟨by omega, by omega⟩ (P_ci_ltf (by omega)) (show P_aw _ _ _ 4 [.ref (w.2.2 30), P_z ln, P_z t] [] _ _ from ?_)
  refine P_aw_op (L' := [.ref (w.2.2 30), P_z ln, P_z t]) (st' := [P_z ln]) P_i179_4 rfl (show P_aw _ _ _ 5 [.ref (w.2.2 30), P_z ln, P_z t] [P_z ln] _ _ from ?_)
  refine P_aw_op (L' := [.ref (w.2.2 30), P_z ln, P_z t]) (st' := [.ref (w.2.2 30), P_z ln]) P_i179_5 rfl (show P_aw _ _ _ 6 [.ref (w.2.2 30), P_z ln, P_z t] [.ref (w.2.2 30), P_z ln] _ _ from ?_)
  refine P_aw_alen P_i179_6 (hw.2.1 30 (by decide)) (hw.s rfl) (show P_aw _ _ _ 7 [.ref (w.2.2 30), P_z ln, P_z t] [P_z 40, P_z ln] _ _ from ?_)
  refine P_aw_icf P_i179_7 ⟨by omega, by omega⟩ ⟨by decide, by decide⟩ (P_ci_gef (by omega)) (show P_aw _ _ _ 10 [.ref (w.2.2 30), P_z ln, P_z t] [] _ _ from ?_)
  refine P_aw_op (L' := [.ref (w.2.2 30), P_z ln, P_z t]) (st' := [.ref (w.2.2 30)]) P_i179_10 rfl (show P_aw _ _ _ 11 [.ref (w.2.2 30), P_z ln, P_z t] [.ref (w.2.2 30)] _ _ from ?_)
  refine P_aw_op (L' := [.ref (w.2.2 30), P_z ln, P_z t]) (st' := [P_z ln, .ref (w.2.2 30)]) P_i179_11 rfl (show P_aw _ _ _ 12 [.ref (w.2.2 30), P_z ln, P_z t] [P_z ln, .ref (w.2.2 30)] _ _ from ?_)
  refine P_aw_op (L' := [.ref (w.2.2 30), P_z ln, P_z t]) (st' := [P_z t, P_z ln, .ref (w.2.2 30)]) P_i179_12 rfl (show P_aw _ _ _ 13 [.ref (w.2.2 30), P_z ln, P_z t] [P_z t, P_z ln, .ref (w.2.2 30)] _ _ from ?_)
  refine P_aw_ast P_i179_13 (hw.2.1 30 (by decide)) (hw.s rfl) (by omega) (by omega) (by decide) (show P_aw _ _ _ 14 [.ref (w.2.2 30), P_z ln, P_z t] [] _ _ from ?_)
  refine P_aw_end P_i179_14 rfl rfl (fun _ => rfl) rfl ?_
  show P_aw _ _ _ 24 [.ref (w.2.2 29), P_z t] [] _ _
  refine P_aw_op (L' := [.ref (w.2.2 29), P_z t]) (st' := [.ref (w.2.2 29)]) P_i94_24 rfl (show P_aw _ _ _ 25 [.ref (w.2.2 29), P_z t] [.ref (w.2.2 29)] _ _ from ?_)
  refine P_aw_op (L' := [.ref (w.2.2 29), P_z t]) (st' := [.ref (w.2.2 29), .ref (w.2.2 29)]) P_i94_25 rfl (show P_aw _ _ _ 26 [.ref (w.2.2 29), P_z t] [.ref (w.2.2 29), .ref (w.2.2 29)] _ _ from ?_)
  refine P_aw_getv P_i94_26 (hw.2.1 29 (by decide)) (hw.s rfl) rfl rfl ((P_u2_ne (by omega)).trans (hln)) (show P_aw _ _ _ 29 [.ref (w.2.2 29), P_z t] [P_z ln, .ref (w.2.2 29)] _ _ from ?_)
  refine P_aw_op (L' := [.ref (w.2.2 29), P_z t]) (st' := [P_z 1, P_z ln, .ref (w.2.2 29)]) P_i94_29 rfl (show P_aw _ _ _ 30 [.ref (w.2.2 29), P_z t] [P_z 1, P_z ln, .ref (w.2.2 29)] _ _ from ?_)
  refine P_aw_op (L' := [.ref (w.2.2 29), P_z t]) (st' := [P_z (ln + 1), .ref (w.2.2 29)]) P_i94_30 P_o_iadd (show P_aw _ _ _ 31 [.ref (w.2.2 29), P_z t] [P_z (ln + 1), .ref (w.2.2 29)] _ _ from ?_)
  refine P_aw_put P_i94_31 (hw.2.1 29 (by decide)) (hw.s rfl) rfl rfl rfl (show P_aw _ _ _ 34 [.ref (w.2.2 29), P_z t] [] _ _ from ?_)
  refine P_aw_op (L' := [.ref (w.2.2 29), P_z t]) (st' := [.ref (w.2.2 29)]) P_i94_34 rfl (show P_aw _ _ _ 35 [.ref (w.2.2 29), P_z t] [.ref (w.2.2 29)] _ _ from ?_)
  refine P_aw_call P_i94_35 rfl rfl (fun _ => rfl) rfl rfl rfl rfl (y2 := 96) (as := [.ref (w.2.2 29)]) (r0 := []) (P_inv_v (hw.2.1 29 (by decide)) (hw.s rfl) rfl rfl) (Nat.le_of_ble_eq_true rfl) (by decide) rfl (Nat.le_of_ble_eq_true rfl) (show P_aw _ _ _ 0 [.ref (w.2.2 29)] [] _ _ from ?_)
  refine P_aw_op (L' := [.ref (w.2.2 29)]) (st' := [.ref (w.2.2 29)]) P_i96_0 rfl (show P_aw _ _ _ 1 [.ref (w.2.2 29)] [.ref (w.2.2 29)] _ _ from ?_)
  refine P_aw_op (L' := [.ref (w.2.2 29)]) (st' := [P_z 0, .ref (w.2.2 29)]) P_i96_1 rfl (show P_aw _ _ _ 2 [.ref (w.2.2 29)] [P_z 0, .ref (w.2.2 29)] _ _ from ?_)
  refine P_aw_put P_i96_2 (hw.2.1 29 (by decide)) (hw.s rfl) rfl rfl rfl (show P_aw _ _ _ 5 [.ref (w.2.2 29)] [] _ _ from ?_)
  refine P_aw_op (L' := [.ref (w.2.2 29)]) (st' := [.ref (w.2.2 29)]) P_i96_5 rfl (show P_aw _ _ _ 6 [.ref (w.2.2 29)] [.ref (w.2.2 29)] _ _ from ?_)
  refine P_aw_op (L' := [.ref (w.2.2 29)]) (st' := [P_z (-1), .ref (w.2.2 29)]) P_i96_6 rfl (show P_aw _ _ _ 7 [.ref (w.2.2 29)] [P_z (-1), .ref (w.2.2 29)] _ _ from ?_)
  refine P_aw_put P_i96_7 (hw.2.1 29 (by decide)) (hw.s rfl) rfl rfl rfl (show P_aw _ _ _ 10 [.ref (w.2.2 29)] [] _ _ from ?_)
  refine P_aw_end P_i96_10 rfl rfl (fun _ => rfl) rfl ?_
  show P_aw _ _ _ 38 [.ref (w.2.2 29), P_z t] [] _ _
  refine P_aw_end P_i94_38 rfl rfl (fun _ => rfl) rfl ?_
  show P_aw _ _ _ 47 [.ref (w.2.2 0), P_z t] [] _ _
  refine P_aw_op (L' := [.ref (w.2.2 0), P_z t]) (st' := [.ref (w.2.2 0)]) P_i141_47 rfl (show P_aw _ _ _ 48 [.ref (w.2.2 0), P_z t] [.ref (w.2.2 0)] _ _ from ?_)
  refine P_aw_call P_i141_48 rfl rfl (fun _ => rfl) rfl rfl rfl rfl (y2 := 169) (as := [.ref (w.2.2 0)]) (r0 := []) (P_inv_v (hw.2.1 0 (by decide)) (hw.s rfl) rfl rfl) (Nat.le_of_ble_eq_true rfl) (by decide) rfl (Nat.le_of_ble_eq_true rfl) (show P_aw _ _ _ 0 [.ref (w.2.2 0)] [] _ _ from ?_)
  refine P_aw_op (L' := [.ref (w.2.2 0)]) (st' := [.ref (w.2.2 0)]) P_i169_0 rfl (show P_aw _ _ _ 1 [.ref (w.2.2 0)] [.ref (w.2.2 0)] _ _ from ?_)
  refine P_aw_getR P_i169_1 (hw.2.1 0 (by decide)) (hw.s rfl) rfl rfl (show P_aw _ _ _ 4 [.ref (w.2.2 0)] [.ref (w.2.2 44)] _ _ from ?_)
  refine P_aw_call P_i169_4 rfl rfl (fun _ => rfl) rfl rfl rfl rfl (y2 := 85) (as := [.ref (w.2.2 44)]) (r0 := []) (P_inv_v hw.2.2 (hw.s rfl) rfl rfl) (Nat.le_of_ble_eq_true rfl) (by decide) rfl (Nat.le_of_ble_eq_true rfl) (show P_aw _ _ _ 0 [.ref (w.2.2 44)] [] _ _ from ?_)
  refine P_aw_op (L' := [.ref (w.2.2 44)]) (st' := [.ref (w.2.2 44)]) P_i85_0 rfl (show P_aw _ _ _ 1 [.ref (w.2.2 44)] [.ref (w.2.2 44)] _ _ from ?_)
  refine P_aw_op (L' := [.ref (w.2.2 44)]) (st' := [P_z 0, .ref (w.2.2 44)]) P_i85_1 rfl (show P_aw _ _ _ 2 [.ref (w.2.2 44)] [P_z 0, .ref (w.2.2 44)] _ _ from ?_)
  refine P_aw_put P_i85_2 hw.2.2 (hw.s rfl) rfl rfl rfl (show P_aw _ _ _ 5 [.ref (w.2.2 44)] [] _ _ from ?_)
  refine P_aw_op (L' := [.ref (w.2.2 44)]) (st' := [.ref (w.2.2 44)]) P_i85_5 rfl (show P_aw _ _ _ 6 [.ref (w.2.2 44)] [.ref (w.2.2 44)] _ _ from ?_)
  refine P_aw_op (L' := [.ref (w.2.2 44)]) (st' := [P_z 0, .ref (w.2.2 44)]) P_i85_6 rfl (show P_aw _ _ _ 7 [.ref (w.2.2 44)] [P_z 0, .ref (w.2.2 44)] _ _ from ?_)
  refine P_aw_put P_i85_7 hw.2.2 (hw.s rfl) rfl rfl rfl (show P_aw _ _ _ 10 [.ref (w.2.2 44)] [] _ _ from ?_)
  refine P_aw_op (L' := [.ref (w.2.2 44)]) (st' := [.ref (w.2.2 44)]) P_i85_10 rfl (show P_aw _ _ _ 11 [.ref (w.2.2 44)] [.ref (w.2.2 44)] _ _ from ?_)
  refine P_aw_op (L' := [.ref (w.2.2 44)]) (st' := [P_z 0, .ref (w.2.2 44)]) P_i85_11 rfl (show P_aw _ _ _ 12 [.ref (w.2.2 44)] [P_z 0, .ref (w.2.2 44)] _ _ from ?_)
  refine P_aw_put P_i85_12 hw.2.2 (hw.s rfl) rfl rfl rfl (show P_aw _ _ _ 15 [.ref (w.2.2 44)] [] _ _ from ?_)
  refine P_aw_op (L' := [.ref (w.2.2 44)]) (st' := [.ref (w.2.2 44)]) P_i85_15 rfl (show P_aw _ _ _ 16 [.ref (w.2.2 44)] [.ref (w.2.2 44)] _ _ from ?_)
  refine P_aw_op (L' := [.ref (w.2.2 44)]) (st' := [P_z 0, .ref (w.2.2 44)]) P_i85_16 rfl (show P_aw _ _ _ 17 [.ref (w.2.2 44)] [P_z 0, .ref (w.2.2 44)] _ _ from ?_)
  refine P_aw_put P_i85_17 hw.2.2 (hw.s rfl) rfl rfl rfl (show P_aw _ _ _ 20 [.ref (w.2.2 44)] [] _ _ from ?_)
  refine P_aw_end P_i85_20 rfl rfl (fun _ => rfl) rfl ?_
  show P_aw _ _ _ 7 [.ref (w.2.2 0)] [] _ _
  refine P_aw_op (L' := [.ref (w.2.2 0)]) (st' := [.ref (w.2.2 0)]) P_i169_7 rfl (show P_aw _ _ _ 8 [.ref (w.2.2 0)] [.ref (w.2.2 0)] _ _ from ?_)
  refine P_aw_getR P_i169_8 (hw.2.1 0 (by decide)) (hw.s rfl) rfl rfl (show P_aw _ _ _ 11 [.ref (w.2.2 0)] [.ref (w.2.2 31)] _ _ from ?_)
  refine P_aw_call P_i169_11 rfl rfl (fun _ => rfl) rfl rfl rfl rfl (y2 := 2) (as := [.ref (w.2.2 31)]) (r0 := []) (P_inv_v (hw.2.1 31 (by decide)) (hw.s rfl) rfl rfl) (Nat.le_of_ble_eq_true rfl) (by decide) rfl (Nat.le_of_ble_eq_true rfl) (show P_aw _ _ _ 0 [.ref (w.2.2 31)] [] _ _ from ?_)
  refine P_aw_op (L' := [.ref (w.2.2 31)]) (st' := [.ref (w.2.2 31)]) P_i2_0 rfl (show P_aw _ _ _ 1 [.ref (w.2.2 31)] [.ref (w.2.2 31)] _ _ from ?_)
  refine P_aw_op (L' := [.ref (w.2.2 31)]) (st' := [P_z 0, .ref (w.2.2 31)]) P_i2_1 rfl (show P_aw _ _ _ 2 [.ref (w.2.2 31)] [P_z 0, .ref (w.2.2 31)] _ _ from ?_)
  refine P_aw_put P_i2_2 (hw.2.1 31 (by decide)) (hw.s rfl) rfl rfl rfl (show P_aw _ _ _ 5 [.ref (w.2.2 31)] [] _ _ from ?_)
  refine P_aw_end P_i2_5 rfl rfl (fun _ => rfl) rfl ?_
  show P_aw _ _ _ 14 [.ref (w.2.2 0)] [] _ _
  refine P_aw_end P_i169_14 rfl rfl (fun _ => rfl) rfl ?_
  show P_aw _ _ _ 51 [.ref (w.2.2 0), P_z t] [] _ _
  refine P_aw_op (L' := [.ref (w.2.2 0), P_z t]) (st' := [.ref (w.2.2 0)]) P_i141_51 rfl (show P_aw _ _ _ 52 [.ref (w.2.2 0), P_z t] [.ref (w.2.2 0)] _ _ from ?_)
  refine P_aw_getR P_i141_52 (hw.2.1 0 (by decide)) (hw.s rfl) rfl rfl (show P_aw _ _ _ 55 [.ref (w.2.2 0), P_z t] [.ref (w.2.2 29)] _ _ from ?_)
  refine P_aw_call P_i141_55 rfl rfl (fun _ => rfl) rfl rfl rfl rfl (y2 := 91) (as := [.ref (w.2.2 29)]) (r0 := []) (P_inv_v (hw.2.1 29 (by decide)) (hw.s rfl) rfl rfl) (Nat.le_of_ble_eq_true rfl) (by decide) rfl (Nat.le_of_ble_eq_true rfl) (show P_aw _ _ _ 0 [.ref (w.2.2 29)] [] _ _ from ?_)
  refine P_aw_op (L' := [.ref (w.2.2 29)]) (st' := [.ref (w.2.2 29)]) P_i91_0 rfl (show P_aw _ _ _ 1 [.ref (w.2.2 29)] [.ref (w.2.2 29)] _ _ from ?_)
  refine P_aw_getv P_i91_1 (hw.2.1 29 (by decide)) (hw.s rfl) rfl rfl ((P_u2_ne (by omega)).trans ((P_u2_ne (by omega)).trans ((P_u2_ne (by omega)).trans ((P_u2_ne (by omega)).trans ((P_u2_ne (by omega)).trans ((P_u2_ne (by omega)).trans ((P_u2_ne (by omega)).trans (P_u2_at)))))))) (show P_aw _ _ _ 4 [.ref (w.2.2 29)] [P_z (ln + 1)] _ _ from ?_)
  refine P_aw_end P_i91_4 rfl rfl (fun _ => rfl) rfl ?_
  show P_aw _ _ _ 58 [.ref (w.2.2 0), P_z t] [P_z (ln + 1)] _ _
  refine P_aw_end P_i141_58 rfl rfl (fun _ => rfl) rfl ?_
  exact q

theorem s_clr {w : P_Lw} (hw : P_Cw w) {d : Nat} {Q : P_R → P_A → Prop} {σ : P_A} {ln : Int} (hln : σ 29 4 = ln) (q : Q (.inl (some (P_z ln))) (A_oth (P_u2 (P_u2 (P_u2 σ 29 4 0) 29 5 0) 29 7 (-1)))) : P_aw w (d + 5) 142 0 [.ref (w.2.2 0), P_un] [] σ Q := by
  refine P_aw_op (L' := [.ref (w.2.2 0), P_un]) (st' := [.ref (w.2.2 0)]) P_i142_0 rfl (show P_aw _ _ _ 1 [.ref (w.2.2 0), P_un] [.ref (w.2.2 0)] _ _ from ?_)
  refine P_aw_getR P_i142_1 (hw.2.1 0 (by decide)) (hw.s rfl) rfl rfl (show P_aw _ _ _ 4 [.ref (w.2.2 0), P_un] [.ref (w.2.2 29)] _ _ from ?_)
  refine P_aw_call P_i142_4 rfl rfl (fun _ => rfl) rfl rfl rfl rfl (y2 := 91) (as := [.ref (w.2.2 29)]) (r0 := []) (P_inv_v (hw.2.1 29 (by decide)) (hw.s rfl) rfl rfl) (Nat.le_of_ble_eq_true rfl) (by decide) rfl (Nat.le_of_ble_eq_true rfl) (show P_aw _ _ _ 0 [.ref (w.2.2 29)] [] _ _ from ?_)
  refine P_aw_op (L' := [.ref (w.2.2 29)]) (st' := [.ref (w.2.2 29)]) P_i91_0 rfl (show P_aw _ _ _ 1 [.ref (w.2.2 29)] [.ref (w.2.2 29)] _ _ from ?_)
  refine P_aw_getv P_i91_1 (hw.2.1 29 (by decide)) (hw.s rfl) rfl rfl (hln) (show P_aw _ _ _ 4 [.ref (w.2.2 29)] [P_z ln] _ _ from ?_)
  refine P_aw_end P_i91_4 rfl rfl (fun _ => rfl) rfl ?_
  show P_aw _ _ _ 7 [.ref (w.2.2 0), P_un] [P_z ln] _ _
  refine P_aw_op (L' := [.ref (w.2.2 0), P_z ln]) (st' := []) P_i142_7 rfl (show P_aw _ _ _ 8 [.ref (w.2.2 0), P_z ln] [] _ _ from ?_)
  refine P_aw_op (L' := [.ref (w.2.2 0), P_z ln]) (st' := [.ref (w.2.2 0)]) P_i142_8 rfl (show P_aw _ _ _ 9 [.ref (w.2.2 0), P_z ln] [.ref (w.2.2 0)] _ _ from ?_)
  refine P_aw_getR P_i142_9 (hw.2.1 0 (by decide)) (hw.s rfl) rfl rfl (show P_aw _ _ _ 12 [.ref (w.2.2 0), P_z ln] [.ref (w.2.2 29)] _ _ from ?_)
  refine P_aw_call P_i142_12 rfl rfl (fun _ => rfl) rfl rfl rfl rfl (y2 := 95) (as := [.ref (w.2.2 29)]) (r0 := []) (P_inv_v (hw.2.1 29 (by decide)) (hw.s rfl) rfl rfl) (Nat.le_of_ble_eq_true rfl) (by decide) rfl (Nat.le_of_ble_eq_true rfl) (show P_aw _ _ _ 0 [.ref (w.2.2 29)] [] _ _ from ?_)
  refine P_aw_op (L' := [.ref (w.2.2 29)]) (st' := [.ref (w.2.2 29)]) P_i95_0 rfl (show P_aw _ _ _ 1 [.ref (w.2.2 29)] [.ref (w.2.2 29)] _ _ from ?_)
  refine P_aw_op (L' := [.ref (w.2.2 29)]) (st' := [P_z 0, .ref (w.2.2 29)]) P_i95_1 rfl (show P_aw _ _ _ 2 [.ref (w.2.2 29)] [P_z 0, .ref (w.2.2 29)] _ _ from ?_)
  refine P_aw_put P_i95_2 (hw.2.1 29 (by decide)) (hw.s rfl) rfl rfl rfl (show P_aw _ _ _ 5 [.ref (w.2.2 29)] [] _ _ from ?_)
  refine P_aw_op (L' := [.ref (w.2.2 29)]) (st' := [.ref (w.2.2 29)]) P_i95_5 rfl (show P_aw _ _ _ 6 [.ref (w.2.2 29)] [.ref (w.2.2 29)] _ _ from ?_)
  refine P_aw_call P_i95_6 rfl rfl (fun _ => rfl) rfl rfl rfl rfl (y2 := 96) (as := [.ref (w.2.2 29)]) (r0 := []) (P_inv_v (hw.2.1 29 (by decide)) (hw.s rfl) rfl rfl) (Nat.le_of_ble_eq_true rfl) (by decide) rfl (Nat.le_of_ble_eq_true rfl) (show P_aw _ _ _ 0 [.ref (w.2.2 29)] [] _ _ from ?_)
  refine P_aw_op (L' := [.ref (w.2.2 29)]) (st' := [.ref (w.2.2 29)]) P_i96_0 rfl (show P_aw _ _ _ 1 [.ref (w.2.2 29)] [.ref (w.2.2 29)] _ _ from ?_)
  refine P_aw_op (L' := [.ref (w.2.2 29)]) (st' := [P_z 0, .ref (w.2.2 29)]) P_i96_1 rfl (show P_aw _ _ _ 2 [.ref (w.2.2 29)] [P_z 0, .ref (w.2.2 29)] _ _ from ?_)
  refine P_aw_put P_i96_2 (hw.2.1 29 (by decide)) (hw.s rfl) rfl rfl rfl (show P_aw _ _ _ 5 [.ref (w.2.2 29)] [] _ _ from ?_)
  refine P_aw_op (L' := [.ref (w.2.2 29)]) (st' := [.ref (w.2.2 29)]) P_i96_5 rfl (show P_aw _ _ _ 6 [.ref (w.2.2 29)] [.ref (w.2.2 29)] _ _ from ?_)
  refine P_aw_op (L' := [.ref (w.2.2 29)]) (st' := [P_z (-1), .ref (w.2.2 29)]) P_i96_6 rfl (show P_aw _ _ _ 7 [.ref (w.2.2 29)] [P_z (-1), .ref (w.2.2 29)] _ _ from ?_)
  refine P_aw_put P_i96_7 (hw.2.1 29 (by decide)) (hw.s rfl) rfl rfl rfl (show P_aw _ _ _ 10 [.ref (w.2.2 29)] [] _ _ from ?_)
  refine P_aw_end P_i96_10 rfl rfl (fun _ => rfl) rfl ?_
  show P_aw _ _ _ 9 [.ref (w.2.2 29)] [] _ _
  refine P_aw_end P_i95_9 rfl rfl (fun _ => rfl) rfl ?_
  show P_aw _ _ _ 15 [.ref (w.2.2 0), P_z ln] [] _ _
  refine P_aw_op (L' := [.ref (w.2.2 0), P_z ln]) (st' := [.ref (w.2.2 0)]) P_i142_15 rfl (show P_aw _ _ _ 16 [.ref (w.2.2 0), P_z ln] [.ref (w.2.2 0)] _ _ from ?_)
  refine P_aw_call P_i142_16 rfl rfl (fun _ => rfl) rfl rfl rfl rfl (y2 := 169) (as := [.ref (w.2.2 0)]) (r0 := []) (P_inv_v (hw.2.1 0 (by decide)) (hw.s rfl) rfl rfl) (Nat.le_of_ble_eq_true rfl) (by decide) rfl (Nat.le_of_ble_eq_true rfl) (show P_aw _ _ _ 0 [.ref (w.2.2 0)] [] _ _ from ?_)
  refine P_aw_op (L' := [.ref (w.2.2 0)]) (st' := [.ref (w.2.2 0)]) P_i169_0 rfl (show P_aw _ _ _ 1 [.ref (w.2.2 0)] [.ref (w.2.2 0)] _ _ from ?_)
  refine P_aw_getR P_i169_1 (hw.2.1 0 (by decide)) (hw.s rfl) rfl rfl (show P_aw _ _ _ 4 [.ref (w.2.2 0)] [.ref (w.2.2 44)] _ _ from ?_)
  refine P_aw_call P_i169_4 rfl rfl (fun _ => rfl) rfl rfl rfl rfl (y2 := 85) (as := [.ref (w.2.2 44)]) (r0 := []) (P_inv_v hw.2.2 (hw.s rfl) rfl rfl) (Nat.le_of_ble_eq_true rfl) (by decide) rfl (Nat.le_of_ble_eq_true rfl) (show P_aw _ _ _ 0 [.ref (w.2.2 44)] [] _ _ from ?_)
  refine P_aw_op (L' := [.ref (w.2.2 44)]) (st' := [.ref (w.2.2 44)]) P_i85_0 rfl (show P_aw _ _ _ 1 [.ref (w.2.2 44)] [.ref (w.2.2 44)] _ _ from ?_)
  refine P_aw_op (L' := [.ref (w.2.2 44)]) (st' := [P_z 0, .ref (w.2.2 44)]) P_i85_1 rfl (show P_aw _ _ _ 2 [.ref (w.2.2 44)] [P_z 0, .ref (w.2.2 44)] _ _ from ?_)
  refine P_aw_put P_i85_2 hw.2.2 (hw.s rfl) rfl rfl rfl (show P_aw _ _ _ 5 [.ref (w.2.2 44)] [] _ _ from ?_)
  refine P_aw_op (L' := [.ref (w.2.2 44)]) (st' := [.ref (w.2.2 44)]) P_i85_5 rfl (show P_aw _ _ _ 6 [.ref (w.2.2 44)] [.ref (w.2.2 44)] _ _ from ?_)
  refine P_aw_op (L' := [.ref (w.2.2 44)]) (st' := [P_z 0, .ref (w.2.2 44)]) P_i85_6 rfl (show P_aw _ _ _ 7 [.ref (w.2.2 44)] [P_z 0, .ref (w.2.2 44)] _ _ from ?_)
  refine P_aw_put P_i85_7 hw.2.2 (hw.s rfl) rfl rfl rfl (show P_aw _ _ _ 10 [.ref (w.2.2 44)] [] _ _ from ?_)
  refine P_aw_op (L' := [.ref (w.2.2 44)]) (st' := [.ref (w.2.2 44)]) P_i85_10 rfl (show P_aw _ _ _ 11 [.ref (w.2.2 44)] [.ref (w.2.2 44)] _ _ from ?_)
  refine P_aw_op (L' := [.ref (w.2.2 44)]) (st' := [P_z 0, .ref (w.2.2 44)]) P_i85_11 rfl (show P_aw _ _ _ 12 [.ref (w.2.2 44)] [P_z 0, .ref (w.2.2 44)] _ _ from ?_)
  refine P_aw_put P_i85_12 hw.2.2 (hw.s rfl) rfl rfl rfl (show P_aw _ _ _ 15 [.ref (w.2.2 44)] [] _ _ from ?_)
  refine P_aw_op (L' := [.ref (w.2.2 44)]) (st' := [.ref (w.2.2 44)]) P_i85_15 rfl (show P_aw _ _ _ 16 [.ref (w.2.2 44)] [.ref (w.2.2 44)] _ _ from ?_)
  refine P_aw_op (L' := [.ref (w.2.2 44)]) (st' := [P_z 0, .ref (w.2.2 44)]) P_i85_16 rfl (show P_aw _ _ _ 17 [.ref (w.2.2 44)] [P_z 0, .ref (w.2.2 44)] _ _ from ?_)
  refine P_aw_put P_i85_17 hw.2.2 (hw.s rfl) rfl rfl rfl (show P_aw _ _ _ 20 [.ref (w.2.2 44)] [] _ _ from ?_)
  refine P_aw_end P_i85_20 rfl rfl (fun _ => rfl) rfl ?_
  show P_aw _ _ _ 7 [.ref (w.2.2 0)] [] _ _
  refine P_aw_op (L' := [.ref (w.2.2 0)]) (st' := [.ref (w.2.2 0)]) P_i169_7 rfl (show P_aw _ _ _ 8 [.ref (w.2.2 0)] [.ref (w.2.2 0)] _ _ from ?_)
  refine P_aw_getR P_i169_8 (hw.2.1 0 (by decide)) (hw.s rfl) rfl rfl (show P_aw _ _ _ 11 [.ref (w.2.2 0)] [.ref (w.2.2 31)] _ _ from ?_)
  refine P_aw_call P_i169_11 rfl rfl (fun _ => rfl) rfl rfl rfl rfl (y2 := 2) (as := [.ref (w.2.2 31)]) (r0 := []) (P_inv_v (hw.2.1 31 (by decide)) (hw.s rfl) rfl rfl) (Nat.le_of_ble_eq_true rfl) (by decide) rfl (Nat.le_of_ble_eq_true rfl) (show P_aw _ _ _ 0 [.ref (w.2.2 31)] [] _ _ from ?_)
  refine P_aw_op (L' := [.ref (w.2.2 31)]) (st' := [.ref (w.2.2 31)]) P_i2_0 rfl (show P_aw _ _ _ 1 [.ref (w.2.2 31)] [.ref (w.2.2 31)] _ _ from ?_)
  refine P_aw_op (L' := [.ref (w.2.2 31)]) (st' := [P_z 0, .ref (w.2.2 31)]) P_i2_1 rfl (show P_aw _ _ _ 2 [.ref (w.2.2 31)] [P_z 0, .ref (w.2.2 31)] _ _ from ?_)
  refine P_aw_put P_i2_2 (hw.2.1 31 (by decide)) (hw.s rfl) rfl rfl rfl (show P_aw _ _ _ 5 [.ref (w.2.2 31)] [] _ _ from ?_)
  refine P_aw_end P_i2_5 rfl rfl (fun _ => rfl) rfl ?_
  show P_aw _ _ _ 14 [.ref (w.2.2 0)] [] _ _
  refine P_aw_end P_i169_14 rfl rfl (fun _ => rfl) rfl ?_
  show P_aw _ _ _ 19 [.ref (w.2.2 0), P_z ln] [] _ _
  refine P_aw_op (L' := [.ref (w.2.2 0), P_z ln]) (st' := [P_z ln]) P_i142_19 rfl (show P_aw _ _ _ 20 [.ref (w.2.2 0), P_z ln] [P_z ln] _ _ from ?_)
  refine P_aw_end P_i142_20 rfl rfl (fun _ => rfl) rfl ?_
  exact q
