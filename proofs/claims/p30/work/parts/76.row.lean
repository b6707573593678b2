/-! the class, written by wip/c1.py: 76.row -/
theorem A_add_ne {σ : P_A} {k a' b' : Nat} {rw cl a b e : Int} {g : Int → Int} (h : a' ≠ k ∧ a' ≠ k + 1 ∧ a' ≠ k + 2) : P_cv (P_w3 σ k rw a b e) k cl g a' b' = σ a' b' := by
  rw [P_cv_ne (by omega)]
  unfold P_w3
  rw [P_u2_ne (by omega), P_u2_ne (by omega), P_u2_ne (by omega), P_u2_ne (by omega)]
theorem A_add_at {σ : P_A} {k : Nat} {rw cl a b e : Int} {g : Int → Int} : P_cv (P_w3 σ k rw a b e) k cl g k 3 = rw + 1 := (P_cv_ne (by omega)).trans P_u2_at
theorem A_rem_ne {σ : P_A} {k a' b' : Nat} {rw cl p : Int} {g : Int → Int} (h : a' ≠ k ∧ a' ≠ k + 1 ∧ a' ≠ k + 2) : P_cv (A_rm σ k rw p) k cl g a' b' = σ a' b' := by
  rw [P_cv_ne (by omega)]
  unfold A_rm
  rw [P_u2_ne (by omega), P_sf_ne (by omega)]
theorem A_rem_at {σ : P_A} {k : Nat} {rw cl p : Int} {g : Int → Int} : P_cv (A_rm σ k rw p) k cl g k 3 = rw - 1 := (P_cv_ne (by omega)).trans P_u2_at
theorem s_row {w : P_Lw} (hw : P_Cw w) {d : Nat} {Q : P_R → P_A → Prop} {σ : P_A} {k : Nat} (hT : P_isT w k) {rw cl : Int} {V : Int → Int → Int} (hr : σ k 3 = rw) (hc : σ k 0 = cl) (hf : ∀ c j, 0 ≤ c → c < cl → 0 ≤ j → j < rw → σ (k + 1) ((j * 3) + c).toNat = V c j) (hg : ∀ c j, 0 ≤ c → c < cl → 0 ≤ j → j < rw → -2147483648 ≤ V c j ∧ V c j ≤ 2147483647) (ht2 : 0 ≤ rw ∧ rw ≤ 14 ∧ 0 ≤ cl ∧ cl ≤ 3) {V' : Int → Int → Int} {a b e t sz : Int} (hsz : σ 1 2 = sz) (ht : 0 ≤ t ∧ t < sz ∧ sz ≤ 5) (hk : σ 2 t.toNat = ((k : Nat) : Int)) (hk50 : 50 ≤ k) (hV : ∀ c j, V' c j = if j = rw then (if c = 0 then a else if c = 1 then b else e) else V c j) (hg' : ∀ c j, 0 ≤ c → c < cl → 0 ≤ j → j < rw + 1 → -2147483648 ≤ V' c j ∧ V' c j ≤ 2147483647) (hr13 : rw ≤ 13) (hab : (-999 ≤ a ∧ a ≤ 999) ∧ (-999 ≤ b ∧ b ≤ 999) ∧ (-999 ≤ e ∧ e ≤ 999)) (q : Q (.inl (some (P_z (rw + 1)))) (A_oth (P_cv (P_w3 σ k rw a b e) k cl (fun c => P_dv (V' c) (rw + 1).toNat 0 0)))) : P_aw w (d + 6) 139 0 [.ref (w.2.2 0), P_z t, P_z a, P_z b, P_z e, P_un, P_un] [] σ Q := by
  refine P_aw_op (L' := [.ref (w.2.2 0), P_z t, P_z a, P_z b, P_z e, P_un, P_un]) (st' := [.ref (w.2.2 0)]) P_i139_0 rfl (show P_aw _ _ _ 1 [.ref (w.2.2 0), P_z t, P_z a, P_z b, P_z e, P_un, P_un] [.ref (w.2.2 0)] _ _ from ?_)
  refine P_aw_getR P_i139_1 (hw.2.1 0 (by decide)) (hw.s rfl) rfl rfl (show P_aw _ _ _ 4 [.ref (w.2.2 0), P_z t, P_z a, P_z b, P_z e, P_un, P_un] [.ref (w.2.2 1)] _ _ from ?_)
  refine P_aw_op (L' := [.ref (w.2.2 0), P_z t, P_z a, P_z b, P_z e, P_un, P_un]) (st' := [P_z t, .ref (w.2.2 1)]) P_i139_4 rfl (show P_aw _ _ _ 5 [.ref (w.2.2 0), P_z t, P_z a, P_z b, P_z e, P_un, P_un] [P_z t, .ref (w.2.2 1)] _ _ from ?_)
  refine P_aw_call P_i139_5 rfl rfl (fun _ => rfl) rfl rfl rfl rfl (y2 := 115) (as := [.ref (w.2.2 1), P_z t]) (r0 := []) (P_inv_v (hw.2.1 1 (by decide)) (hw.s rfl) rfl rfl) (Nat.le_of_ble_eq_true rfl) (by decide) rfl (Nat.le_of_ble_eq_true rfl) (show P_aw _ _ _ 0 [.ref (w.2.2 1), P_z t] [] _ _ from ?_)
  refine P_aw_op (L' := [.ref (w.2.2 1), P_z t]) (st' := [P_z t]) P_i115_0 rfl (show P_aw _ _ _ 1 [.ref (w.2.2 1), P_z t] [P_z t] _ _ from ?_)
  refine P_aw_izf P_i115_1 ⟨by omega, by omega⟩ (P_ci_ltf (by omega)) (show P_aw _ _ _ 4 [.ref (w.2.2 1), P_z t] [] _ _ from ?_)
  refine P_aw_op (L' := [.ref (w.2.2 1), P_z t]) (st' := [P_z t]) P_i115_4 rfl (show P_aw _ _ _ 5 [.ref (w.2.2 1), P_z t] [P_z t] _ _ from ?_)
  refine P_aw_op (L' := [.ref (w.2.2 1), P_z t]) (st' := [.ref (w.2.2 1), P_z t]) P_i115_5 rfl (show P_aw _ _ _ 6 [.ref (w.2.2 1), P_z t] [.ref (w.2.2 1), P_z t] _ _ from ?_)
  refine P_aw_getv P_i115_6 (hw.2.1 1 (by decide)) (hw.s rfl) rfl rfl (hsz) (show P_aw _ _ _ 9 [.ref (w.2.2 1), P_z t] [P_z sz, P_z t] _ _ from ?_)
  refine P_aw_icf P_i115_9 ⟨by omega, by omega⟩ ⟨by omega, by omega⟩ (P_ci_gef (by omega)) (show P_aw _ _ _ 12 [.ref (w.2.2 1), P_z t] [] _ _ from ?_)
  refine P_aw_op (L' := [.ref (w.2.2 1), P_z t]) (st' := [P_z 1]) P_i115_12 rfl (show P_aw _ _ _ 13 [.ref (w.2.2 1), P_z t] [P_z 1] _ _ from ?_)
  refine P_aw_goto P_i115_13 (show P_aw _ _ _ 17 [.ref (w.2.2 1), P_z t] [P_z 1] _ _ from ?_)
  refine P_aw_end P_i115_17 rfl rfl (fun _ => rfl) rfl ?_
  show P_aw _ _ _ 8 [.ref (w.2.2 0), P_z t, P_z a, P_z b, P_z e, P_un, P_un] [P_z 1] _ _
  refine P_aw_izt P_i139_8 ⟨by decide, by decide⟩ (P_ci_net (by omega)) (show P_aw _ _ _ 21 [.ref (w.2.2 0), P_z t, P_z a, P_z b, P_z e, P_un, P_un] [] _ _ from ?_)
  refine P_aw_op (L' := [.ref (w.2.2 0), P_z t, P_z a, P_z b, P_z e, P_un, P_un]) (st' := [.ref (w.2.2 0)]) P_i139_21 rfl (show P_aw _ _ _ 22 [.ref (w.2.2 0), P_z t, P_z a, P_z b, P_z e, P_un, P_un] [.ref (w.2.2 0)] _ _ from ?_)
  refine P_aw_getR P_i139_22 (hw.2.1 0 (by decide)) (hw.s rfl) rfl rfl (show P_aw _ _ _ 25 [.ref (w.2.2 0), P_z t, P_z a, P_z b, P_z e, P_un, P_un] [.ref (w.2.2 1)] _ _ from ?_)
  refine P_aw_op (L' := [.ref (w.2.2 0), P_z t, P_z a, P_z b, P_z e, P_un, P_un]) (st' := [P_z t, .ref (w.2.2 1)]) P_i139_25 rfl (show P_aw _ _ _ 26 [.ref (w.2.2 0), P_z t, P_z a, P_z b, P_z e, P_un, P_un] [P_z t, .ref (w.2.2 1)] _ _ from ?_)
  refine P_aw_call P_i139_26 rfl rfl (fun _ => rfl) rfl rfl rfl rfl (y2 := 116) (as := [.ref (w.2.2 1), P_z t]) (r0 := []) (P_inv_v (hw.2.1 1 (by decide)) (hw.s rfl) rfl rfl) (Nat.le_of_ble_eq_true rfl) (by decide) rfl (Nat.le_of_ble_eq_true rfl) (show P_aw _ _ _ 0 [.ref (w.2.2 1), P_z t, P_un] [] _ _ from ?_)
  refine P_aw_op (L' := [.ref (w.2.2 1), P_z t, P_un]) (st' := [P_z t]) P_i116_0 rfl (show P_aw _ _ _ 1 [.ref (w.2.2 1), P_z t, P_un] [P_z t] _ _ from ?_)
  refine P_aw_izf P_i116_1 ⟨by omega, by omega⟩ (P_ci_ltf (by omega)) (show P_aw _ _ _ 4 [.ref (w.2.2 1), P_z t, P_un] [] _ _ from ?_)
  refine P_aw_op (L' := [.ref (w.2.2 1), P_z t, P_un]) (st' := [P_z t]) P_i116_4 rfl (show P_aw _ _ _ 5 [.ref (w.2.2 1), P_z t, P_un] [P_z t] _ _ from ?_)
  refine P_aw_op (L' := [.ref (w.2.2 1), P_z t, P_un]) (st' := [.ref (w.2.2 1), P_z t]) P_i116_5 rfl (show P_aw _ _ _ 6 [.ref (w.2.2 1), P_z t, P_un] [.ref (w.2.2 1), P_z t] _ _ from ?_)
  refine P_aw_getR P_i116_6 (hw.2.1 1 (by decide)) (hw.s rfl) rfl rfl (show P_aw _ _ _ 9 [.ref (w.2.2 1), P_z t, P_un] [.ref (w.2.2 2), P_z t] _ _ from ?_)
  refine P_aw_rlen P_i116_9 (hw.2.1 2 (by decide)) (hw.s rfl) (show P_aw _ _ _ 10 [.ref (w.2.2 1), P_z t, P_un] [P_z 5, P_z t] _ _ from ?_)
  refine P_aw_ict P_i116_10 ⟨by omega, by omega⟩ ⟨by decide, by decide⟩ (P_ci_ltt (by omega)) (show P_aw _ _ _ 18 [.ref (w.2.2 1), P_z t, P_un] [] _ _ from ?_)
  refine P_aw_op (L' := [.ref (w.2.2 1), P_z t, P_un]) (st' := [.ref (w.2.2 1)]) P_i116_18 rfl (show P_aw _ _ _ 19 [.ref (w.2.2 1), P_z t, P_un] [.ref (w.2.2 1)] _ _ from ?_)
  refine P_aw_getR P_i116_19 (hw.2.1 1 (by decide)) (hw.s rfl) rfl rfl (show P_aw _ _ _ 22 [.ref (w.2.2 1), P_z t, P_un] [.ref (w.2.2 2)] _ _ from ?_)
  refine P_aw_op (L' := [.ref (w.2.2 1), P_z t, P_un]) (st' := [P_z t, .ref (w.2.2 2)]) P_i116_22 rfl (show P_aw _ _ _ 23 [.ref (w.2.2 1), P_z t, P_un] [P_z t, .ref (w.2.2 2)] _ _ from ?_)
  refine P_aw_rldv P_i116_23 (hw.2.1 2 (by decide)) (hw.s rfl) (by decide) (by omega) (by omega) (by decide) (hk) (by omega) (show P_aw _ _ _ 24 [.ref (w.2.2 1), P_z t, P_un] [.ref (w.2.2 k)] _ _ from ?_)
  refine P_aw_op (L' := [.ref (w.2.2 1), P_z t, .ref (w.2.2 k)]) (st' := []) P_i116_24 rfl (show P_aw _ _ _ 25 [.ref (w.2.2 1), P_z t, .ref (w.2.2 k)] [] _ _ from ?_)
  refine P_aw_op (L' := [.ref (w.2.2 1), P_z t, .ref (w.2.2 k)]) (st' := [.ref (w.2.2 k)]) P_i116_25 rfl (show P_aw _ _ _ 26 [.ref (w.2.2 1), P_z t, .ref (w.2.2 k)] [.ref (w.2.2 k)] _ _ from ?_)
  refine P_aw_brt P_i116_26 rfl (show P_aw _ _ _ 36 [.ref (w.2.2 1), P_z t, .ref (w.2.2 k)] [] _ _ from ?_)
  refine P_aw_op (L' := [.ref (w.2.2 1), P_z t, .ref (w.2.2 k)]) (st' := [.ref (w.2.2 k)]) P_i116_36 rfl (show P_aw _ _ _ 37 [.ref (w.2.2 1), P_z t, .ref (w.2.2 k)] [.ref (w.2.2 k)] _ _ from ?_)
  refine P_aw_end P_i116_37 rfl rfl (fun _ => rfl) rfl ?_
  show P_aw _ _ _ 29 [.ref (w.2.2 0), P_z t, P_z a, P_z b, P_z e, P_un, P_un] [.ref (w.2.2 k)] _ _
  refine P_aw_op (L' := [.ref (w.2.2 0), P_z t, P_z a, P_z b, P_z e, .ref (w.2.2 k), P_un]) (st' := []) P_i139_29 rfl (show P_aw _ _ _ 31 [.ref (w.2.2 0), P_z t, P_z a, P_z b, P_z e, .ref (w.2.2 k), P_un] [] _ _ from ?_)
  refine P_aw_op (L' := [.ref (w.2.2 0), P_z t, P_z a, P_z b, P_z e, .ref (w.2.2 k), P_un]) (st' := [.ref (w.2.2 k)]) P_i139_31 rfl (show P_aw _ _ _ 33 [.ref (w.2.2 0), P_z t, P_z a, P_z b, P_z e, .ref (w.2.2 k), P_un] [.ref (w.2.2 k)] _ _ from ?_)
  refine P_aw_call P_i139_33 rfl rfl (fun _ => rfl) rfl rfl rfl rfl (y2 := 119) (as := [.ref (w.2.2 k)]) (r0 := []) (P_inv_v hT.1.2 hT.1.1 rfl rfl) (Nat.le_of_ble_eq_true rfl) (by decide) rfl (Nat.le_of_ble_eq_true rfl) (show P_aw _ _ _ 0 [.ref (w.2.2 k)] [] _ _ from ?_)
  refine P_aw_op (L' := [.ref (w.2.2 k)]) (st' := [.ref (w.2.2 k)]) P_i119_0 rfl (show P_aw _ _ _ 1 [.ref (w.2.2 k)] [.ref (w.2.2 k)] _ _ from ?_)
  refine P_aw_getv P_i119_1 hT.1.2 hT.1.1 rfl rfl (hc) (show P_aw _ _ _ 4 [.ref (w.2.2 k)] [P_z cl] _ _ from ?_)
  refine P_aw_end P_i119_4 rfl rfl (fun _ => rfl) rfl ?_
  show P_aw _ _ _ 36 [.ref (w.2.2 0), P_z t, P_z a, P_z b, P_z e, .ref (w.2.2 k), P_un] [P_z cl] _ _
  refine P_aw_op (L' := [.ref (w.2.2 0), P_z t, P_z a, P_z b, P_z e, .ref (w.2.2 k), P_z cl]) (st' := []) P_i139_36 rfl (show P_aw _ _ _ 38 [.ref (w.2.2 0), P_z t, P_z a, P_z b, P_z e, .ref (w.2.2 k), P_z cl] [] _ _ from ?_)
  refine P_aw_op (L' := [.ref (w.2.2 0), P_z t, P_z a, P_z b, P_z e, .ref (w.2.2 k), P_z cl]) (st' := [P_z a]) P_i139_38 rfl (show P_aw _ _ _ 39 [.ref (w.2.2 0), P_z t, P_z a, P_z b, P_z e, .ref (w.2.2 k), P_z cl] [P_z a] _ _ from ?_)
  refine P_aw_call P_i139_39 rfl rfl (fun _ => rfl) rfl rfl rfl rfl (y2 := 171) (as := [P_z a]) (r0 := []) (fun _ _ => rfl) (Nat.le_of_ble_eq_true rfl) (by decide) rfl (Nat.le_of_ble_eq_true rfl) (show P_aw _ _ _ 0 [P_z a] [] _ _ from ?_)
  refine P_aw_op (L' := [P_z a]) (st' := [P_z a]) P_i171_0 rfl (show P_aw _ _ _ 1 [P_z a] [P_z a] _ _ from ?_)
  refine P_aw_op (L' := [P_z a]) (st' := [P_z (-999), P_z a]) P_i171_1 (P_o_si (by decide)) (show P_aw _ _ _ 4 [P_z a] [P_z (-999), P_z a] _ _ from ?_)
  refine P_aw_icf P_i171_4 ⟨by omega, by omega⟩ ⟨by decide, by decide⟩ (P_ci_ltf (by omega)) (show P_aw _ _ _ 7 [P_z a] [] _ _ from ?_)
  refine P_aw_op (L' := [P_z a]) (st' := [P_z a]) P_i171_7 rfl (show P_aw _ _ _ 8 [P_z a] [P_z a] _ _ from ?_)
  refine P_aw_op (L' := [P_z a]) (st' := [P_z 999, P_z a]) P_i171_8 (P_o_si (by decide)) (show P_aw _ _ _ 11 [P_z a] [P_z 999, P_z a] _ _ from ?_)
  refine P_aw_icf P_i171_11 ⟨by omega, by omega⟩ ⟨by decide, by decide⟩ (P_ci_gtf (by omega)) (show P_aw _ _ _ 14 [P_z a] [] _ _ from ?_)
  refine P_aw_op (L' := [P_z a]) (st' := [P_z 1]) P_i171_14 rfl (show P_aw _ _ _ 15 [P_z a] [P_z 1] _ _ from ?_)
  refine P_aw_goto P_i171_15 (show P_aw _ _ _ 19 [P_z a] [P_z 1] _ _ from ?_)
  refine P_aw_end P_i171_19 rfl rfl (fun _ => rfl) rfl ?_
  show P_aw _ _ _ 42 [.ref (w.2.2 0), P_z t, P_z a, P_z b, P_z e, .ref (w.2.2 k), P_z cl] [P_z 1] _ _
  refine P_aw_izf P_i139_42 ⟨by decide, by decide⟩ (P_ci_eqf (by omega)) (show P_aw _ _ _ 45 [.ref (w.2.2 0), P_z t, P_z a, P_z b, P_z e, .ref (w.2.2 k), P_z cl] [] _ _ from ?_)
  refine P_aw_op (L' := [.ref (w.2.2 0), P_z t, P_z a, P_z b, P_z e, .ref (w.2.2 k), P_z cl]) (st' := [P_z cl]) P_i139_45 rfl (show P_aw _ _ _ 47 [.ref (w.2.2 0), P_z t, P_z a, P_z b, P_z e, .ref (w.2.2 k), P_z cl] [P_z cl] _ _ from ?_)
  refine P_aw_op (L' := [.ref (w.2.2 0), P_z t, P_z a, P_z b, P_z e, .ref (w.2.2 k), P_z cl]) (st' := [P_z 1, P_z cl]) P_i139_47 rfl (show P_aw _ _ _ 48 [.ref (w.2.2 0), P_z t, P_z a, P_z b, P_z e, .ref (w.2.2 k), P_z cl] [P_z 1, P_z cl] _ _ from ?_)
  rcases Int.lt_or_le 1 cl with hc1 | hc1
  · refine P_aw_icf P_i139_48 ⟨by omega, by omega⟩ ⟨by decide, by decide⟩ (P_ci_lef (by omega)) (show P_aw _ _ _ 51 [.ref (w.2.2 0), P_z t, P_z a, P_z b, P_z e, .ref (w.2.2 k), P_z cl] [] _ _ from ?_)
    refine P_aw_op (L' := [.ref (w.2.2 0), P_z t, P_z a, P_z b, P_z e, .ref (w.2.2 k), P_z cl]) (st' := [P_z b]) P_i139_51 rfl (show P_aw _ _ _ 52 [.ref (w.2.2 0), P_z t, P_z a, P_z b, P_z e, .ref (w.2.2 k), P_z cl] [P_z b] _ _ from ?_)
    refine P_aw_call P_i139_52 rfl rfl (fun _ => rfl) rfl rfl rfl rfl (y2 := 171) (as := [P_z b]) (r0 := []) (fun _ _ => rfl) (Nat.le_of_ble_eq_true rfl) (by decide) rfl (Nat.le_of_ble_eq_true rfl) (show P_aw _ _ _ 0 [P_z b] [] _ _ from ?_)
    refine P_aw_op (L' := [P_z b]) (st' := [P_z b]) P_i171_0 rfl (show P_aw _ _ _ 1 [P_z b] [P_z b] _ _ from ?_)
    refine P_aw_op (L' := [P_z b]) (st' := [P_z (-999), P_z b]) P_i171_1 (P_o_si (by decide)) (show P_aw _ _ _ 4 [P_z b] [P_z (-999), P_z b] _ _ from ?_)
    refine P_aw_icf P_i171_4 ⟨by omega, by omega⟩ ⟨by decide, by decide⟩ (P_ci_ltf (by omega)) (show P_aw _ _ _ 7 [P_z b] [] _ _ from ?_)
    refine P_aw_op (L' := [P_z b]) (st' := [P_z b]) P_i171_7 rfl (show P_aw _ _ _ 8 [P_z b] [P_z b] _ _ from ?_)
    refine P_aw_op (L' := [P_z b]) (st' := [P_z 999, P_z b]) P_i171_8 (P_o_si (by decide)) (show P_aw _ _ _ 11 [P_z b] [P_z 999, P_z b] _ _ from ?_)
    refine P_aw_icf P_i171_11 ⟨by omega, by omega⟩ ⟨by decide, by decide⟩ (P_ci_gtf (by omega)) (show P_aw _ _ _ 14 [P_z b] [] _ _ from ?_)
    refine P_aw_op (L' := [P_z b]) (st' := [P_z 1]) P_i171_14 rfl (show P_aw _ _ _ 15 [P_z b] [P_z 1] _ _ from ?_)
    refine P_aw_goto P_i171_15 (show P_aw _ _ _ 19 [P_z b] [P_z 1] _ _ from ?_)
    refine P_aw_end P_i171_19 rfl rfl (fun _ => rfl) rfl ?_
    show P_aw _ _ _ 55 [.ref (w.2.2 0), P_z t, P_z a, P_z b, P_z e, .ref (w.2.2 k), P_z cl] [P_z 1] _ _
    refine P_aw_izf P_i139_55 ⟨by decide, by decide⟩ (P_ci_eqf (by omega)) (show P_aw _ _ _ 58 [.ref (w.2.2 0), P_z t, P_z a, P_z b, P_z e, .ref (w.2.2 k), P_z cl] [] _ _ from ?_)
    refine P_aw_op (L' := [.ref (w.2.2 0), P_z t, P_z a, P_z b, P_z e, .ref (w.2.2 k), P_z cl]) (st' := [P_z cl]) P_i139_58 rfl (show P_aw _ _ _ 60 [.ref (w.2.2 0), P_z t, P_z a, P_z b, P_z e, .ref (w.2.2 k), P_z cl] [P_z cl] _ _ from ?_)
    refine P_aw_op (L' := [.ref (w.2.2 0), P_z t, P_z a, P_z b, P_z e, .ref (w.2.2 k), P_z cl]) (st' := [P_z 2, P_z cl]) P_i139_60 rfl (show P_aw _ _ _ 61 [.ref (w.2.2 0), P_z t, P_z a, P_z b, P_z e, .ref (w.2.2 k), P_z cl] [P_z 2, P_z cl] _ _ from ?_)
    rcases Int.lt_or_le 2 cl with hc2 | hc2
    · refine P_aw_icf P_i139_61 ⟨by omega, by omega⟩ ⟨by decide, by decide⟩ (P_ci_lef (by omega)) (show P_aw _ _ _ 64 [.ref (w.2.2 0), P_z t, P_z a, P_z b, P_z e, .ref (w.2.2 k), P_z cl] [] _ _ from ?_)
      refine P_aw_op (L' := [.ref (w.2.2 0), P_z t, P_z a, P_z b, P_z e, .ref (w.2.2 k), P_z cl]) (st' := [P_z e]) P_i139_64 rfl (show P_aw _ _ _ 66 [.ref (w.2.2 0), P_z t, P_z a, P_z b, P_z e, .ref (w.2.2 k), P_z cl] [P_z e] _ _ from ?_)
      refine P_aw_call P_i139_66 rfl rfl (fun _ => rfl) rfl rfl rfl rfl (y2 := 171) (as := [P_z e]) (r0 := []) (fun _ _ => rfl) (Nat.le_of_ble_eq_true rfl) (by decide) rfl (Nat.le_of_ble_eq_true rfl) (show P_aw _ _ _ 0 [P_z e] [] _ _ from ?_)
      refine P_aw_op (L' := [P_z e]) (st' := [P_z e]) P_i171_0 rfl (show P_aw _ _ _ 1 [P_z e] [P_z e] _ _ from ?_)
      refine P_aw_op (L' := [P_z e]) (st' := [P_z (-999), P_z e]) P_i171_1 (P_o_si (by decide)) (show P_aw _ _ _ 4 [P_z e] [P_z (-999), P_z e] _ _ from ?_)
      refine P_aw_icf P_i171_4 ⟨by omega, by omega⟩ ⟨by decide, by decide⟩ (P_ci_ltf (by omega)) (show P_aw _ _ _ 7 [P_z e] [] _ _ from ?_)
      refine P_aw_op (L' := [P_z e]) (st' := [P_z e]) P_i171_7 rfl (show P_aw _ _ _ 8 [P_z e] [P_z e] _ _ from ?_)
      refine P_aw_op (L' := [P_z e]) (st' := [P_z 999, P_z e]) P_i171_8 (P_o_si (by decide)) (show P_aw _ _ _ 11 [P_z e] [P_z 999, P_z e] _ _ from ?_)
      refine P_aw_icf P_i171_11 ⟨by omega, by omega⟩ ⟨by decide, by decide⟩ (P_ci_gtf (by omega)) (show P_aw _ _ _ 14 [P_z e] [] _ _ from ?_)
      refine P_aw_op (L' := [P_z e]) (st' := [P_z 1]) P_i171_14 rfl (show P_aw _ _ _ 15 [P_z e] [P_z 1] _ _ from ?_)
      refine P_aw_goto P_i171_15 (show P_aw _ _ _ 19 [P_z e] [P_z 1] _ _ from ?_)
      refine P_aw_end P_i171_19 rfl rfl (fun _ => rfl) rfl ?_
      show P_aw _ _ _ 69 [.ref (w.2.2 0), P_z t, P_z a, P_z b, P_z e, .ref (w.2.2 k), P_z cl] [P_z 1] _ _
      refine P_aw_izt P_i139_69 ⟨by decide, by decide⟩ (P_ci_net (by omega)) (show P_aw _ _ _ 82 [.ref (w.2.2 0), P_z t, P_z a, P_z b, P_z e, .ref (w.2.2 k), P_z cl] [] _ _ from ?_)
      refine P_aw_op (L' := [.ref (w.2.2 0), P_z t, P_z a, P_z b, P_z e, .ref (w.2.2 k), P_z cl]) (st' := [.ref (w.2.2 k)]) P_i139_82 rfl (show P_aw _ _ _ 84 [.ref (w.2.2 0), P_z t, P_z a, P_z b, P_z e, .ref (w.2.2 k), P_z cl] [.ref (w.2.2 k)] _ _ from ?_)
      refine P_aw_call P_i139_84 rfl rfl (fun _ => rfl) rfl rfl rfl rfl (y2 := 121) (as := [.ref (w.2.2 k)]) (r0 := []) (P_inv_v hT.1.2 hT.1.1 rfl rfl) (Nat.le_of_ble_eq_true rfl) (by decide) rfl (Nat.le_of_ble_eq_true rfl) (show P_aw _ _ _ 0 [.ref (w.2.2 k)] [] _ _ from ?_)
      refine P_aw_op (L' := [.ref (w.2.2 k)]) (st' := [.ref (w.2.2 k)]) P_i121_0 rfl (show P_aw _ _ _ 1 [.ref (w.2.2 k)] [.ref (w.2.2 k)] _ _ from ?_)
      refine P_aw_getv P_i121_1 hT.1.2 hT.1.1 rfl rfl (hr) (show P_aw _ _ _ 4 [.ref (w.2.2 k)] [P_z rw] _ _ from ?_)
      refine P_aw_op (L' := [.ref (w.2.2 k)]) (st' := [P_z 14, P_z rw]) P_i121_4 (P_o_bi (by decide)) (show P_aw _ _ _ 6 [.ref (w.2.2 k)] [P_z 14, P_z rw] _ _ from ?_)
      refine P_aw_ict P_i121_6 ⟨by omega, by omega⟩ ⟨by decide, by decide⟩ (P_ci_ltt (by omega)) (show P_aw _ _ _ 13 [.ref (w.2.2 k)] [] _ _ from ?_)
      refine P_aw_op (L' := [.ref (w.2.2 k)]) (st' := [P_z 0]) P_i121_13 rfl (show P_aw _ _ _ 14 [.ref (w.2.2 k)] [P_z 0] _ _ from ?_)
      refine P_aw_end P_i121_14 rfl rfl (fun _ => rfl) rfl ?_
      show P_aw _ _ _ 87 [.ref (w.2.2 0), P_z t, P_z a, P_z b, P_z e, .ref (w.2.2 k), P_z cl] [P_z 0] _ _
      refine P_aw_izt P_i139_87 ⟨by decide, by decide⟩ (P_ci_eqt (by omega)) (show P_aw _ _ _ 100 [.ref (w.2.2 0), P_z t, P_z a, P_z b, P_z e, .ref (w.2.2 k), P_z cl] [] _ _ from ?_)
      refine P_aw_op (L' := [.ref (w.2.2 0), P_z t, P_z a, P_z b, P_z e, .ref (w.2.2 k), P_z cl]) (st' := [.ref (w.2.2 k)]) P_i139_100 rfl (show P_aw _ _ _ 102 [.ref (w.2.2 0), P_z t, P_z a, P_z b, P_z e, .ref (w.2.2 k), P_z cl] [.ref (w.2.2 k)] _ _ from ?_)
      refine P_aw_op (L' := [.ref (w.2.2 0), P_z t, P_z a, P_z b, P_z e, .ref (w.2.2 k), P_z cl]) (st' := [P_z a, .ref (w.2.2 k)]) P_i139_102 rfl (show P_aw _ _ _ 103 [.ref (w.2.2 0), P_z t, P_z a, P_z b, P_z e, .ref (w.2.2 k), P_z cl] [P_z a, .ref (w.2.2 k)] _ _ from ?_)
      refine P_aw_op (L' := [.ref (w.2.2 0), P_z t, P_z a, P_z b, P_z e, .ref (w.2.2 k), P_z cl]) (st' := [P_z b, P_z a, .ref (w.2.2 k)]) P_i139_103 rfl (show P_aw _ _ _ 104 [.ref (w.2.2 0), P_z t, P_z a, P_z b, P_z e, .ref (w.2.2 k), P_z cl] [P_z b, P_z a, .ref (w.2.2 k)] _ _ from ?_)
      refine P_aw_op (L' := [.ref (w.2.2 0), P_z t, P_z a, P_z b, P_z e, .ref (w.2.2 k), P_z cl]) (st' := [P_z e, P_z b, P_z a, .ref (w.2.2 k)]) P_i139_104 rfl (show P_aw _ _ _ 106 [.ref (w.2.2 0), P_z t, P_z a, P_z b, P_z e, .ref (w.2.2 k), P_z cl] [P_z e, P_z b, P_z a, .ref (w.2.2 k)] _ _ from ?_)
      refine P_aw_call P_i139_106 rfl rfl (fun _ => rfl) rfl rfl rfl rfl (y2 := 123) (as := [.ref (w.2.2 k), P_z a, P_z b, P_z e]) (r0 := []) (P_inv_v hT.1.2 hT.1.1 rfl rfl) (Nat.le_of_ble_eq_true rfl) (by decide) rfl (Nat.le_of_ble_eq_true rfl) (s_add (V := V) (V' := V') hw hT hr hc hf hg ht2 hV hg' (by omega) ?_)
      show P_aw _ _ _ 109 [.ref (w.2.2 0), P_z t, P_z a, P_z b, P_z e, .ref (w.2.2 k), P_z cl] [] _ _
      refine P_aw_op (L' := [.ref (w.2.2 0), P_z t, P_z a, P_z b, P_z e, .ref (w.2.2 k), P_z cl]) (st' := [.ref (w.2.2 0)]) P_i139_109 rfl (show P_aw _ _ _ 110 [.ref (w.2.2 0), P_z t, P_z a, P_z b, P_z e, .ref (w.2.2 k), P_z cl] [.ref (w.2.2 0)] _ _ from ?_)
      refine P_aw_call P_i139_110 rfl rfl (fun _ => rfl) rfl rfl rfl rfl (y2 := 169) (as := [.ref (w.2.2 0)]) (r0 := []) (P_inv_v (hw.2.1 0 (by decide)) (hw.s rfl) rfl rfl) (Nat.le_of_ble_eq_true rfl) (by decide) rfl (Nat.le_of_ble_eq_true rfl) (show P_aw _ _ _ 0 [.ref (w.2.2 0)] [] _ _ from ?_)
      refine P_aw_op (L' := [.ref (w.2.2 0)]) (st' := [.ref (w.2.2 0)]) P_i169_0 rfl (show P_aw _ _ _ 1 [.ref (w.2.2 0)] [.ref (w.2.2 0)] _ _ from ?_)
      refine P_aw_getR P_i169_1 (hw.2.1 0 (by decide)) (hw.s rfl) rfl rfl (show P_aw _ _ _ 4 [.ref (w.2.2 0)] [.ref (w.2.2 44)] _ _ from ?_)
      refine P_aw_call P_i169_4 rfl rfl (fun _ => rfl) rfl rfl rfl rfl (y2 := 85) (as := [.ref (w.2.2 44)]) (r0 := []) (P_inv_v hw.2.2 (hw.s rfl) rfl rfl) (Nat.le_of_ble_eq_true rfl) (by decide) rfl (Nat.le_of_ble_eq_true rfl) (show P_aw _ _ _ 0 [.ref (w.2.2 44)] [] _ _ from ?_)
      refine P_aw_op (L' := [.ref (w.2.2 44)]) (st' := [.ref (w.2.2 44)]) P_i85_0 rfl (show P_aw _ _ _ 1 [.ref (w.2.2 44)] [.ref (w.2.2 44)] _ _ from ?_)
      refine P_aw_op (L' := [.ref (w.2.2 44)]) (st' := [P_z 0, .ref (w.2.2 44)]) P_i85_1 rfl (show P_aw _ _ _ 2 [.ref (w.2.2 44)] [P_z 0, .ref (w.2.2 44)] _ _ from ?_)
      refine P_aw_put P_i85_2 hw.2.2 (hw.s rfl) rfl rfl rfl (show P_aw _ _ _ 5 [.ref (w.2.2 44)] [] _ _ from ?_)
      refine P_aw_op (L' := [.ref (w.2.2 44)]) (st' := [.ref (w.2.2 44)]) P_i85_5 rfl (show P_aw _ _ _ 6 [.ref (w.2.2 44)] [.ref (w.2.2 44)] _ _ from ?_)
      refine P_aw_op (L' := [.ref (w.2.2 44)]) (st' := [P_z 0, .ref (w.2.2 44)]) P_i85_6 rfl (show P_aw _ _ _ 7 [.ref (w.2.2 44)] [P_z 0, .ref (w.2.2 44)] _ _ from ?_)
      refine P_aw_put P_i85_7 hw.2.2 (hw.s rfl) rfl rfl rfl (show P_aw _ _ _ 10 [.ref (w.2.2 44)] [] _ _ from ?_)
      refine P_aw_op (L' := [.ref (w.2.2 44)]) (st' := [.ref (w.2.2 44)]) P_i85_10 rfl (show P_aw _ _ _ 11 [.ref (w.2.2 44)] [.ref (w.2.2 44)] _ _ from ?_)
      refine P_aw_op (L' := [.ref (w.2.2 44)]) (st' := [P_z 0, .ref (w.2.2 44)]) P_i85_11 rfl (show P_aw _ _ _ 12 [.ref (w.2.2 44)] [P_z 0, .ref (w.2.2 44)] _ _ from ?_)
      refine P_aw_put P_i85_12 hw.2.2 (hw.s rfl) rfl rfl rfl (show P_aw _ _ _ 15 [.ref (w.2.2 44)] [] _ _ from ?_)
      refine P_aw_op (L' := [.ref (w.2.2 44)]) (st' := [.ref (w.2.2 44)]) P_i85_15 rfl (show P_aw _ _ _ 16 [.ref (w.2.2 44)] [.ref (w.2.2 44)] _ _ from ?_)
      refine P_aw_op (L' := [.ref (w.2.2 44)]) (st' := [P_z 0, .ref (w.2.2 44)]) P_i85_16 rfl (show P_aw _ _ _ 17 [.ref (w.2.2 44)] [P_z 0, .ref (w.2.2 44)] _ _ from ?_)
      refine P_aw_put P_i85_17 hw.2.2 (hw.s rfl) rfl rfl rfl (show P_aw _ _ _ 20 [.ref (w.2.2 44)] [] _ _ from ?_)
      refine P_aw_end P_i85_20 rfl rfl (fun _ => rfl) rfl ?_
      show P_aw _ _ _ 7 [.ref (w.2.2 0)] [] _ _
      refine P_aw_op (L' := [.ref (w.2.2 0)]) (st' := [.ref (w.2.2 0)]) P_i169_7 rfl (show P_aw _ _ _ 8 [.ref (w.2.2 0)] [.ref (w.2.2 0)] _ _ from ?_)
      refine P_aw_getR P_i169_8 (hw.2.1 0 (by decide)) (hw.s rfl) rfl rfl (show P_aw _ _ _ 11 [.ref (w.2.2 0)] [.ref (w.2.2 31)] _ _ from ?_)
      refine P_aw_call P_i169_11 rfl rfl (fun _ => rfl) rfl rfl rfl rfl (y2 := 2) (as := [.ref (w.2.2 31)]) (r0 := []) (P_inv_v (hw.2.1 31 (by decide)) (hw.s rfl) rfl rfl) (Nat.le_of_ble_eq_true rfl) (by decide) rfl (Nat.le_of_ble_eq_true rfl) (show P_aw _ _ _ 0 [.ref (w.2.2 31)] [] _ _ from ?_)
      refine P_aw_op (L' := [.ref (w.2.2 31)]) (st' := [.ref (w.2.2 31)]) P_i2_0 rfl (show P_aw _ _ _ 1 [.ref (w.2.2 31)] [.ref (w.2.2 31)] _ _ from ?_)
      refine P_aw_op (L' := [.ref (w.2.2 31)]) (st' := [P_z 0, .ref (w.2.2 31)]) P_i2_1 rfl (show P_aw _ _ _ 2 [.ref (w.2.2 31)] [P_z 0, .ref (w.2.2 31)] _ _ from ?_)
      refine P_aw_put P_i2_2 (hw.2.1 31 (by decide)) (hw.s rfl) rfl rfl rfl (show P_aw _ _ _ 5 [.ref (w.2.2 31)] [] _ _ from ?_)
      refine P_aw_end P_i2_5 rfl rfl (fun _ => rfl) rfl ?_
      show P_aw _ _ _ 14 [.ref (w.2.2 0)] [] _ _
      refine P_aw_end P_i169_14 rfl rfl (fun _ => rfl) rfl ?_
      show P_aw _ _ _ 113 [.ref (w.2.2 0), P_z t, P_z a, P_z b, P_z e, .ref (w.2.2 k), P_z cl] [] _ _
      refine P_aw_op (L' := [.ref (w.2.2 0), P_z t, P_z a, P_z b, P_z e, .ref (w.2.2 k), P_z cl]) (st' := [.ref (w.2.2 k)]) P_i139_113 rfl (show P_aw _ _ _ 115 [.ref (w.2.2 0), P_z t, P_z a, P_z b, P_z e, .ref (w.2.2 k), P_z cl] [.ref (w.2.2 k)] _ _ from ?_)
      refine P_aw_call P_i139_115 rfl rfl (fun _ => rfl) rfl rfl rfl rfl (y2 := 120) (as := [.ref (w.2.2 k)]) (r0 := []) (P_inv_v hT.1.2 hT.1.1 rfl rfl) (Nat.le_of_ble_eq_true rfl) (by decide) rfl (Nat.le_of_ble_eq_true rfl) (show P_aw _ _ _ 0 [.ref (w.2.2 k)] [] _ _ from ?_)
      refine P_aw_op (L' := [.ref (w.2.2 k)]) (st' := [.ref (w.2.2 k)]) P_i120_0 rfl (show P_aw _ _ _ 1 [.ref (w.2.2 k)] [.ref (w.2.2 k)] _ _ from ?_)
      refine P_aw_getv P_i120_1 hT.1.2 hT.1.1 rfl rfl ((P_u2_ne (by omega)).trans ((P_u2_ne (by omega)).trans ((P_u2_ne (by omega)).trans ((P_u2_ne (by omega)).trans ((P_u2_ne (by omega)).trans (A_add_at)))))) (show P_aw _ _ _ 4 [.ref (w.2.2 k)] [P_z (rw + 1)] _ _ from ?_)
      refine P_aw_end P_i120_4 rfl rfl (fun _ => rfl) rfl ?_
      show P_aw _ _ _ 118 [.ref (w.2.2 0), P_z t, P_z a, P_z b, P_z e, .ref (w.2.2 k), P_z cl] [P_z (rw + 1)] _ _
      refine P_aw_end P_i139_118 rfl rfl (fun _ => rfl) rfl ?_
      exact q
    · refine P_aw_ict P_i139_61 ⟨by omega, by omega⟩ ⟨by decide, by decide⟩ (P_ci_let (by omega)) (show P_aw _ _ _ 82 [.ref (w.2.2 0), P_z t, P_z a, P_z b, P_z e, .ref (w.2.2 k), P_z cl] [] _ _ from ?_)
      refine P_aw_op (L' := [.ref (w.2.2 0), P_z t, P_z a, P_z b, P_z e, .ref (w.2.2 k), P_z cl]) (st' := [.ref (w.2.2 k)]) P_i139_82 rfl (show P_aw _ _ _ 84 [.ref (w.2.2 0), P_z t, P_z a, P_z b, P_z e, .ref (w.2.2 k), P_z cl] [.ref (w.2.2 k)] _ _ from ?_)
      refine P_aw_call P_i139_84 rfl rfl (fun _ => rfl) rfl rfl rfl rfl (y2 := 121) (as := [.ref (w.2.2 k)]) (r0 := []) (P_inv_v hT.1.2 hT.1.1 rfl rfl) (Nat.le_of_ble_eq_true rfl) (by decide) rfl (Nat.le_of_ble_eq_true rfl) (show P_aw _ _ _ 0 [.ref (w.2.2 k)] [] _ _ from ?_)
      refine P_aw_op (L' := [.ref (w.2.2 k)]) (st' := [.ref (w.2.2 k)]) P_i121_0 rfl (show P_aw _ _ _ 1 [.ref (w.2.2 k)] [.ref (w.2.2 k)] _ _ from ?_)
      refine P_aw_getv P_i121_1 hT.1.2 hT.1.1 rfl rfl (hr) (show P_aw _ _ _ 4 [.ref (w.2.2 k)] [P_z rw] _ _ from ?_)
      refine P_aw_op (L' := [.ref (w.2.2 k)]) (st' := [P_z 14, P_z rw]) P_i121_4 (P_o_bi (by decide)) (show P_aw _ _ _ 6 [.ref (w.2.2 k)] [P_z 14, P_z rw] _ _ from ?_)
      refine P_aw_ict P_i121_6 ⟨by omega, by omega⟩ ⟨by decide, by decide⟩ (P_ci_ltt (by omega)) (show P_aw _ _ _ 13 [.ref (w.2.2 k)] [] _ _ from ?_)
      refine P_aw_op (L' := [.ref (w.2.2 k)]) (st' := [P_z 0]) P_i121_13 rfl (show P_aw _ _ _ 14 [.ref (w.2.2 k)] [P_z 0] _ _ from ?_)
      refine P_aw_end P_i121_14 rfl rfl (fun _ => rfl) rfl ?_
      show P_aw _ _ _ 87 [.ref (w.2.2 0), P_z t, P_z a, P_z b, P_z e, .ref (w.2.2 k), P_z cl] [P_z 0] _ _
      refine P_aw_izt P_i139_87 ⟨by decide, by decide⟩ (P_ci_eqt (by omega)) (show P_aw _ _ _ 100 [.ref (w.2.2 0), P_z t, P_z a, P_z b, P_z e, .ref (w.2.2 k), P_z cl] [] _ _ from ?_)
      refine P_aw_op (L' := [.ref (w.2.2 0), P_z t, P_z a, P_z b, P_z e, .ref (w.2.2 k), P_z cl]) (st' := [.ref (w.2.2 k)]) P_i139_100 rfl (show P_aw _ _ _ 102 [.ref (w.2.2 0), P_z t, P_z a, P_z b, P_z e, .ref (w.2.2 k), P_z cl] [.ref (w.2.2 k)] _ _ from ?_)
      refine P_aw_op (L' := [.ref (w.2.2 0), P_z t, P_z a, P_z b, P_z e, .ref (w.2.2 k), P_z cl]) (st' := [P_z a, .ref (w.2.2 k)]) P_i139_102 rfl (show P_aw _ _ _ 103 [.ref (w.2.2 0), P_z t, P_z a, P_z b, P_z e, .ref (w.2.2 k), P_z cl] [P_z a, .ref (w.2.2 k)] _ _ from ?_)
      refine P_aw_op (L' := [.ref (w.2.2 0), P_z t, P_z a, P_z b, P_z e, .ref (w.2.2 k), P_z cl]) (st' := [P_z b, P_z a, .ref (w.2.2 k)]) P_i139_103 rfl (show P_aw _ _ _ 104 [.ref (w.2.2 0), P_z t, P_z a, P_z b, P_z e, .ref (w.2.2 k), P_z cl] [P_z b, P_z a, .ref (w.2.2 k)] _ _ from ?_)
      refine P_aw_op (L' := [.ref (w.2.2 0), P_z t, P_z a, P_z b, P_z e, .ref (w.2.2 k), P_z cl]) (st' := [P_z e, P_z b, P_z a, .ref (w.2.2 k)]) P_i139_104 rfl (show P_aw _ _ _ 106 [.ref (w.2.2 0), P_z t, P_z a, P_z b, P_z e, .ref (w.2.2 k), P_z cl] [P_z e, P_z b, P_z a, .ref (w.2.2 k)] _ _ from ?_)
      refine P_aw_call P_i139_106 rfl rfl (fun _ => rfl) rfl rfl rfl rfl (y2 := 123) (as := [.ref (w.2.2 k), P_z a, P_z b, P_z e]) (r0 := []) (P_inv_v hT.1.2 hT.1.1 rfl rfl) (Nat.le_of_ble_eq_true rfl) (by decide) rfl (Nat.le_of_ble_eq_true rfl) (s_add (V := V) (V' := V') hw hT hr hc hf hg ht2 hV hg' (by omega) ?_)
      show P_aw _ _ _ 109 [.ref (w.2.2 0), P_z t, P_z a, P_z b, P_z e, .ref (w.2.2 k), P_z cl] [] _ _
      refine P_aw_op (L' := [.ref (w.2.2 0), P_z t, P_z a, P_z b, P_z e, .ref (w.2.2 k), P_z cl]) (st' := [.ref (w.2.2 0)]) P_i139_109 rfl (show P_aw _ _ _ 110 [.ref (w.2.2 0), P_z t, P_z a, P_z b, P_z e, .ref (w.2.2 k), P_z cl] [.ref (w.2.2 0)] _ _ from ?_)
      refine P_aw_call P_i139_110 rfl rfl (fun _ => rfl) rfl rfl rfl rfl (y2 := 169) (as := [.ref (w.2.2 0)]) (r0 := []) (P_inv_v (hw.2.1 0 (by decide)) (hw.s rfl) rfl rfl) (Nat.le_of_ble_eq_true rfl) (by decide) rfl (Nat.le_of_ble_eq_true rfl) (show P_aw _ _ _ 0 [.ref (w.2.2 0)] [] _ _ from ?_)
      refine P_aw_op (L' := [.ref (w.2.2 0)]) (st' := [.ref (w.2.2 0)]) P_i169_0 rfl (show P_aw _ _ _ 1 [.ref (w.2.2 0)] [.ref (w.2.2 0)] _ _ from ?_)
      refine P_aw_getR P_i169_1 (hw.2.1 0 (by decide)) (hw.s rfl) rfl rfl (show P_aw _ _ _ 4 [.ref (w.2.2 0)] [.ref (w.2.2 44)] _ _ from ?_)
      refine P_aw_call P_i169_4 rfl rfl (fun _ => rfl) rfl rfl rfl rfl (y2 := 85) (as := [.ref (w.2.2 44)]) (r0 := []) (P_inv_v hw.2.2 (hw.s rfl) rfl rfl) (Nat.le_of_ble_eq_true rfl) (by decide) rfl (Nat.le_of_ble_eq_true rfl) (show P_aw _ _ _ 0 [.ref (w.2.2 44)] [] _ _ from ?_)
      refine P_aw_op (L' := [.ref (w.2.2 44)]) (st' := [.ref (w.2.2 44)]) P_i85_0 rfl (show P_aw _ _ _ 1 [.ref (w.2.2 44)] [.ref (w.2.2 44)] _ _ from ?_)
      refine P_aw_op (L' := [.ref (w.2.2 44)]) (st' := [P_z 0, .ref (w.2.2 44)]) P_i85_1 rfl (show P_aw _ _ _ 2 [.ref (w.2.2 44)] [P_z 0, .ref (w.2.2 44)] _ _ from ?_)
      refine P_aw_put P_i85_2 hw.2.2 (hw.s rfl) rfl rfl rfl (show P_aw _ _ _ 5 [.ref (w.2.2 44)] [] _ _ from ?_)
      refine P_aw_op (L' := [.ref (w.2.2 44)]) (st' := [.ref (w.2.2 44)]) P_i85_5 rfl (show P_aw _ _ _ 6 [.ref (w.2.2 44)] [.ref (w.2.2 44)] _ _ from ?_)
      refine P_aw_op (L' := [.ref (w.2.2 44)]) (st' := [P_z 0, .ref (w.2.2 44)]) P_i85_6 rfl (show P_aw _ _ _ 7 [.ref (w.2.2 44)] [P_z 0, .ref (w.2.2 44)] _ _ from ?_)
      refine P_aw_put P_i85_7 hw.2.2 (hw.s rfl) rfl rfl rfl (show P_aw _ _ _ 10 [.ref (w.2.2 44)] [] _ _ from ?_)
      refine P_aw_op (L' := [.ref (w.2.2 44)]) (st' := [.ref (w.2.2 44)]) P_i85_10 rfl (show P_aw _ _ _ 11 [.ref (w.2.2 44)] [.ref (w.2.2 44)] _ _ from ?_)
      refine P_aw_op (L' := [.ref (w.2.2 44)]) (st' := [P_z 0, .ref (w.2.2 44)]) P_i85_11 rfl (show P_aw _ _ _ 12 [.ref (w.2.2 44)] [P_z 0, .ref (w.2.2 44)] _ _ from ?_)
      refine P_aw_put P_i85_12 hw.2.2 (hw.s rfl) rfl rfl rfl (show P_aw _ _ _ 15 [.ref (w.2.2 44)] [] _ _ from ?_)
      refine P_aw_op (L' := [.ref (w.2.2 44)]) (st' := [.ref (w.2.2 44)]) P_i85_15 rfl (show P_aw _ _ _ 16 [.ref (w.2.2 44)] [.ref (w.2.2 44)] _ _ from ?_)
      refine P_aw_op (L' := [.ref (w.2.2 44)]) (st' := [P_z 0, .ref (w.2.2 44)]) P_i85_16 rfl (show P_aw _ _ _ 17 [.ref (w.2.2 44)] [P_z 0, .ref (w.2.2 44)] _ _ from ?_)
      refine P_aw_put P_i85_17 hw.2.2 (hw.s rfl) rfl rfl rfl (show P_aw _ _ _ 20 [.ref (w.2.2 44)] [] _ _ from ?_)
      refine P_aw_end P_i85_20 rfl rfl (fun _ => rfl) rfl ?_
      show P_aw _ _ _ 7 [.ref (w.2.2 0)] [] _ _
      refine P_aw_op (L' := [.ref (w.2.2 0)]) (st' := [.ref (w.2.2 0)]) P_i169_7 rfl (show P_aw _ _ _ 8 [.ref (w.2.2 0)] [.ref (w.2.2 0)] _ _ from ?_)
      refine P_aw_getR P_i169_8 (hw.2.1 0 (by decide)) (hw.s rfl) rfl rfl (show P_aw _ _ _ 11 [.ref (w.2.2 0)] [.ref (w.2.2 31)] _ _ from ?_)
      refine P_aw_call P_i169_11 rfl rfl (fun _ => rfl) rfl rfl rfl rfl (y2 := 2) (as := [.ref (w.2.2 31)]) (r0 := []) (P_inv_v (hw.2.1 31 (by decide)) (hw.s rfl) rfl rfl) (Nat.le_of_ble_eq_true rfl) (by decide) rfl (Nat.le_of_ble_eq_true rfl) (show P_aw _ _ _ 0 [.ref (w.2.2 31)] [] _ _ from ?_)
      refine P_aw_op (L' := [.ref (w.2.2 31)]) (st' := [.ref (w.2.2 31)]) P_i2_0 rfl (show P_aw _ _ _ 1 [.ref (w.2.2 31)] [.ref (w.2.2 31)] _ _ from ?_)
      refine P_aw_op (L' := [.ref (w.2.2 31)]) (st' := [P_z 0, .ref (w.2.2 31)]) P_i2_1 rfl (show P_aw _ _ _ 2 [.ref (w.2.2 31)] [P_z 0, .ref (w.2.2 31)] _ _ from ?_)
      refine P_aw_put P_i2_2 (hw.2.1 31 (by decide)) (hw.s rfl) rfl rfl rfl (show P_aw _ _ _ 5 [.ref (w.2.2 31)] [] _ _ from ?_)
      refine P_aw_end P_i2_5 rfl rfl (fun _ => rfl) rfl ?_
      show P_aw _ _ _ 14 [.ref (w.2.2 0)] [] _ _
      refine P_aw_end P_i169_14 rfl rfl (fun _ => rfl) rfl ?_
      show P_aw _ _ _ 113 [.ref (w.2.2 0), P_z t, P_z a, P_z b, P_z e, .ref (w.2.2 k), P_z cl] [] _ _
      refine P_aw_op (L' := [.ref (w.2.2 0), P_z t, P_z a, P_z b, P_z e, .ref (w.2.2 k), P_z cl]) (st' := [.ref (w.2.2 k)]) P_i139_113 rfl (show P_aw _ _ _ 115 [.ref (w.2.2 0), P_z t, P_z a, P_z b, P_z e, .ref (w.2.2 k), P_z cl] [.ref (w.2.2 k)] _ _ from ?_)
      refine P_aw_call P_i139_115 rfl rfl (fun _ => rfl) rfl rfl rfl rfl (y2 := 120) (as := [.ref (w.2.2 k)]) (r0 := []) (P_inv_v hT.1.2 hT.1.1 rfl rfl) (Nat.le_of_ble_eq_true rfl) (by decide) rfl (Nat.le_of_ble_eq_true rfl) (show P_aw _ _ _ 0 [.ref (w.2.2 k)] [] _ _ from ?_)
      refine P_aw_op (L' := [.ref (w.2.2 k)]) (st' := [.ref (w.2.2 k)]) P_i120_0 rfl (show P_aw _ _ _ 1 [.ref (w.2.2 k)] [.ref (w.2.2 k)] _ _ from ?_)
      refine P_aw_getv P_i120_1 hT.1.2 hT.1.1 rfl rfl ((P_u2_ne (by omega)).trans ((P_u2_ne (by omega)).trans ((P_u2_ne (by omega)).trans ((P_u2_ne (by omega)).trans ((P_u2_ne (by omega)).trans (A_add_at)))))) (show P_aw _ _ _ 4 [.ref (w.2.2 k)] [P_z (rw + 1)] _ _ from ?_)
      refine P_aw_end P_i120_4 rfl rfl (fun _ => rfl) rfl ?_
      show P_aw _ _ _ 118 [.ref (w.2.2 0), P_z t, P_z a, P_z b, P_z e, .ref (w.2.2 k), P_z cl] [P_z (rw + 1)] _ _
      refine P_aw_end P_i139_118 rfl rfl (fun _ => rfl) rfl ?_
      exact q
  · refine P_aw_ict P_i139_48 ⟨by omega, by omega⟩ ⟨by decide, by decide⟩ (P_ci_let (by omega)) (show P_aw _ _ _ 58 [.ref (w.2.2 0), P_z t, P_z a, P_z b, P_z e, .ref (w.2.2 k), P_z cl] [] _ _ from ?_)
    refine P_aw_op (L' := [.ref (w.2.2 0), P_z t, P_z a, P_z b, P_z e, .ref (w.2.2 k), P_z cl]) (st' := [P_z cl]) P_i139_58 rfl (show P_aw _ _ _ 60 [.ref (w.2.2 0), P_z t, P_z a, P_z b, P_z e, .ref (w.2.2 k), P_z cl] [P_z cl] _ _ from ?_)
    refine P_aw_op (L' := [.ref (w.2.2 0), P_z t, P_z a, P_z b, P_z e, .ref (w.2.2 k), P_z cl]) (st' := [P_z 2, P_z cl]) P_i139_60 rfl (show P_aw _ _ _ 61 [.ref (w.2.2 0), P_z t, P_z a, P_z b, P_z e, .ref (w.2.2 k), P_z cl] [P_z 2, P_z cl] _ _ from ?_)
    refine P_aw_ict P_i139_61 ⟨by omega, by omega⟩ ⟨by decide, by decide⟩ (P_ci_let (by omega)) (show P_aw _ _ _ 82 [.ref (w.2.2 0), P_z t, P_z a, P_z b, P_z e, .ref (w.2.2 k), P_z cl] [] _ _ from ?_)
    refine P_aw_op (L' := [.ref (w.2.2 0), P_z t, P_z a, P_z b, P_z e, .ref (w.2.2 k), P_z cl]) (st' := [.ref (w.2.2 k)]) P_i139_82 rfl (show P_aw _ _ _ 84 [.ref (w.2.2 0), P_z t, P_z a, P_z b, P_z e, .ref (w.2.2 k), P_z cl] [.ref (w.2.2 k)] _ _ from ?_)
    refine P_aw_call P_i139_84 rfl rfl (fun _ => rfl) rfl rfl rfl rfl (y2 := 121) (as := [.ref (w.2.2 k)]) (r0 := []) (P_inv_v hT.1.2 hT.1.1 rfl rfl) (Nat.le_of_ble_eq_true rfl) (by decide) rfl (Nat.le_of_ble_eq_true rfl) (show P_aw _ _ _ 0 [.ref (w.2.2 k)] [] _ _ from ?_)
    refine P_aw_op (L' := [.ref (w.2.2 k)]) (st' := [.ref (w.2.2 k)]) P_i121_0 rfl (show P_aw _ _ _ 1 [.ref (w.2.2 k)] [.ref (w.2.2 k)] _ _ from ?_)
    refine P_aw_getv P_i121_1 hT.1.2 hT.1.1 rfl rfl (hr) (show P_aw _ _ _ 4 [.ref (w.2.2 k)] [P_z rw] _ _ from ?_)
    refine P_aw_op (L' := [.ref (w.2.2 k)]) (st' := [P_z 14, P_z rw]) P_i121_4 (P_o_bi (by decide)) (show P_aw _ _ _ 6 [.ref (w.2.2 k)] [P_z 14, P_z rw] _ _ from ?_)
    refine P_aw_ict P_i121_6 ⟨by omega, by omega⟩ ⟨by decide, by decide⟩ (P_ci_ltt (by omega)) (show P_aw _ _ _ 13 [.ref (w.2.2 k)] [] _ _ from ?_)
    refine P_aw_op (L' := [.ref (w.2.2 k)]) (st' := [P_z 0]) P_i121_13 rfl (show P_aw _ _ _ 14 [.ref (w.2.2 k)] [P_z 0] _ _ from ?_)
    refine P_aw_end P_i121_14 rfl rfl (fun _ => rfl) rfl ?_
    show P_aw _ _ _ 87 [.ref (w.2.2 0), P_z t, P_z a, P_z b, P_z e, .ref (w.2.2 k), P_z cl] [P_z 0] _ _
    refine P_aw_izt P_i139_87 ⟨by decide, by decide⟩ (P_ci_eqt (by omega)) (show P_aw _ _ _ 100 [.ref (w.2.2 0), P_z t, P_z a, P_z b, P_z e, .ref (w.2.2 k), P_z cl] [] _ _ from ?_)
    refine P_aw_op (L' := [.ref (w.2.2 0), P_z t, P_z a, P_z b, P_z e, .ref (w.2.2 k), P_z cl]) (st' := [.ref (w.2.2 k)]) P_i139_100 rfl (show P_aw _ _ _ 102 [.ref (w.2.2 0), P_z t, P_z a, P_z b, P_z e, .ref (w.2.2 k), P_z cl] [.ref (w.2.2 k)] _ _ from ?_)
    refine P_aw_op (L' := [.ref (w.2.2 0), P_z t, P_z a, P_z b, P_z e, .ref (w.2.2 k), P_z cl]) (st' := [P_z a, .ref (w.2.2 k)]) P_i139_102 rfl (show P_aw _ _ _ 103 [.ref (w.2.2 0), P_z t, P_z a, P_z b, P_z e, .ref (w.2.2 k), P_z cl] [P_z a, .ref (w.2.2 k)] _ _ from ?_)
    refine P_aw_op (L' := [.ref (w.2.2 0), P_z t, P_z a, P_z b, P_z e, .ref (w.2.2 k), P_z cl]) (st' := [P_z b, P_z a, .ref (w.2.2 k)]) P_i139_103 rfl (show P_aw _ _ _ 104 [.ref (w.2.2 0), P_z t, P_z a, P_z b, P_z e, .ref (w.2.2 k), P_z cl] [P_z b, P_z a, .ref (w.2.2 k)] _ _ from ?_)
    refine P_aw_op (L' := [.ref (w.2.2 0), P_z t, P_z a, P_z b, P_z e, .ref (w.2.2 k), P_z cl]) (st' := [P_z e, P_z b, P_z a, .ref (w.2.2 k)]) P_i139_104 rfl (show P_aw _ _ _ 106 [.ref (w.2.2 0), P_z t, P_z a, P_z b, P_z e, .ref (w.2.2 k), P_z cl] [P_z e, P_z b, P_z a, .ref (w.2.2 k)] _ _ from ?_)
    refine P_aw_call P_i139_106 rfl rfl (fun _ => rfl) rfl rfl rfl rfl (y2 := 123) (as := [.ref (w.2.2 k), P_z a, P_z b, P_z e]) (r0 := []) (P_inv_v hT.1.2 hT.1.1 rfl rfl) (Nat.le_of_ble_eq_true rfl) (by decide) rfl (Nat.le_of_ble_eq_true rfl) (s_add (V := V) (V' := V') hw hT hr hc hf hg ht2 hV hg' (by omega) ?_)
    show P_aw _ _ _ 109 [.ref (w.2.2 0), P_z t, P_z a, P_z b, P_z e, .ref (w.2.2 k), P_z cl] [] _ _
    refine P_aw_op (L' := [.ref (w.2.2 0), P_z t, P_z a, P_z b, P_z e, .ref (w.2.2 k), P_z cl]) (st' := [.ref (w.2.2 0)]) P_i139_109 rfl (show P_aw _ _ _ 110 [.ref (w.2.2 0), P_z t, P_z a, P_z b, P_z e, .ref (w.2.2 k), P_z cl] [.ref (w.2.2 0)] _ _ from ?_)
    refine P_aw_call P_i139_110 rfl rfl (fun _ => rfl) rfl rfl rfl rfl (y2 := 169) (as := [.ref (w.2.2 0)]) (r0 := []) (P_inv_v (hw.2.1 0 (by decide)) (hw.s rfl) rfl rfl) (Nat.le_of_ble_eq_true rfl) (by decide) rfl (Nat.le_of_ble_eq_true rfl) (show P_aw _ _ _ 0 [.ref (w.2.2 0)] [] _ _ from ?_)
    refine P_aw_op (L' := [.ref (w.2.2 0)]) (st' := [.ref (w.2.2 0)]) P_i169_0 rfl (show P_aw _ _ _ 1 [.ref (w.2.2 0)] [.ref (w.2.2 0)] _ _ from ?_)
    refine P_aw_getR P_i169_1 (hw.2.1 0 (by decide)) (hw.s rfl) rfl rfl (show P_aw _ _ _ 4 [.ref (w.2.2 0)] [.ref (w.2.2 44)] _ _ from ?_)
    refine P_aw_call P_i169_4 rfl rfl (fun _ => rfl) rfl rfl rfl rfl (y2 := 85) (as := [.ref (w.2.2 44)]) (r0 := []) (P_inv_v hw.2.2 (hw.s rfl) rfl rfl) (Nat.le_of_ble_eq_true rfl) (by decide) rfl (Nat.le_of_ble_eq_true rfl) (show P_aw _ _ _ 0 [.ref (w.2.2 44)] [] _ _ from ?_)
    refine P_aw_op (L' := [.ref (w.2.2 44)]) (st' := [.ref (w.2.2 44)]) P_i85_0 rfl (show P_aw _ _ _ 1 [.ref (w.2.2 44)] [.ref (w.2.2 44)] _ _ from ?_)
    refine P_aw_op (L' := [.ref (w.2.2 44)]) (st' := [P_z 0, .ref (w.2.2 44)]) P_i85_1 rfl (show P_aw _ _ _ 2 [.ref (w.2.2 44)] [P_z 0, .ref (w.2.2 44)] _ _ from ?_)
    refine P_aw_put P_i85_2 hw.2.2 (hw.s rfl) rfl rfl rfl (show P_aw _ _ _ 5 [.ref (w.2.2 44)] [] _ _ from ?_)
    refine P_aw_op (L' := [.ref (w.2.2 44)]) (st' := [.ref (w.2.2 44)]) P_i85_5 rfl (show P_aw _ _ _ 6 [.ref (w.2.2 44)] [.ref (w.2.2 44)] _ _ from ?_)
    refine P_aw_op (L' := [.ref (w.2.2 44)]) (st' := [P_z 0, .ref (w.2.2 44)]) P_i85_6 rfl (show P_aw _ _ _ 7 [.ref (w.2.2 44)] [P_z 0, .ref (w.2.2 44)] _ _ from ?_)
    refine P_aw_put P_i85_7 hw.2.2 (hw.s rfl) rfl rfl rfl (show P_aw _ _ _ 10 [.ref (w.2.2 44)] [] _ _ from ?_)
    refine P_aw_op (L' := [.ref (w.2.2 44)]) (st' := [.ref (w.2.2 44)]) P_i85_10 rfl (show P_aw _ _ _ 11 [.ref (w.2.2 44)] [.ref (w.2.2 44)] _ _ from ?_)
    refine P_aw_op (L' := [.ref (w.2.2 44)]) (st' := [P_z 0, .ref (w.2.2 44)]) P_i85_11 rfl (show P_aw _ _ _ 12 [.ref (w.2.2 44)] [P_z 0, .ref (w.2.2 44)] _ _ from ?_)
    refine P_aw_put P_i85_12 hw.2.2 (hw.s rfl) rfl rfl rfl (show P_aw _ _ _ 15 [.ref (w.2.2 44)] [] _ _ from ?_)
    refine P_aw_op (L' := [.ref (w.2.2 44)]) (st' := [.ref (w.2.2 44)]) P_i85_15 rfl (show P_aw _ _ _ 16 [.ref (w.2.2 44)] [.ref (w.2.2 44)] _ _ from ?_)
    refine P_aw_op (L' := [.ref (w.2.2 44)]) (st' := [P_z 0, .ref (w.2.2 44)]) P_i85_16 rfl (show P_aw _ _ _ 17 [.ref (w.2.2 44)] [P_z 0, .ref (w.2.2 44)] _ _ from ?_)
    refine P_aw_put P_i85_17 hw.2.2 (hw.s rfl) rfl rfl rfl (show P_aw _ _ _ 20 [.ref (w.2.2 44)] [] _ _ from ?_)
    refine P_aw_end P_i85_20 rfl rfl (fun _ => rfl) rfl ?_
    show P_aw _ _ _ 7 [.ref (w.2.2 0)] [] _ _
    refine P_aw_op (L' := [.ref (w.2.2 0)]) (st' := [.ref (w.2.2 0)]) P_i169_7 rfl (show P_aw _ _ _ 8 [.ref (w.2.2 0)] [.ref (w.2.2 0)] _ _ from ?_)
    refine P_aw_getR P_i169_8 (hw.2.1 0 (by decide)) (hw.s rfl) rfl rfl (show P_aw _ _ _ 11 [.ref (w.2.2 0)] [.ref (w.2.2 31)] _ _ from ?_)
    refine P_aw_call P_i169_11 rfl rfl (fun _ => rfl) rfl rfl rfl rfl (y2 := 2) (as := [.ref (w.2.2 31)]) (r0 := []) (P_inv_v (hw.2.1 31 (by decide)) (hw.s rfl) rfl rfl) (Nat.le_of_ble_eq_true rfl) (by decide) rfl (Nat.le_of_ble_eq_true rfl) (show P_aw _ _ _ 0 [.ref (w.2.2 31)] [] _ _ from ?_)
    refine P_aw_op (L' := [.ref (w.2.2 31)]) (st' := [.ref (w.2.2 31)]) P_i2_0 rfl (show P_aw _ _ _ 1 [.ref (w.2.2 31)] [.ref (w.2.2 31)] _ _ from ?_)
    refine P_aw_op (L' := [.ref (w.2.2 31)]) (st' := [P_z 0, .ref (w.2.2 31)]) P_i2_1 rfl (show P_aw _ _ _ 2 [.ref (w.2.2 31)] [P_z 0, .ref (w.2.2 31)] _ _ from ?_)
    refine P_aw_put P_i2_2 (hw.2.1 31 (by decide)) (hw.s rfl) rfl rfl rfl (show P_aw _ _ _ 5 [.ref (w.2.2 31)] [] _ _ from ?_)
    refine P_aw_end P_i2_5 rfl rfl (fun _ => rfl) rfl ?_
    show P_aw _ _ _ 14 [.ref (w.2.2 0)] [] _ _
    refine P_aw_end P_i169_14 rfl rfl (fun _ => rfl) rfl ?_
    show P_aw _ _ _ 113 [.ref (w.2.2 0), P_z t, P_z a, P_z b, P_z e, .ref (w.2.2 k), P_z cl] [] _ _
    refine P_aw_op (L' := [.ref (w.2.2 0), P_z t, P_z a, P_z b, P_z e, .ref (w.2.2 k), P_z cl]) (st' := [.ref (w.2.2 k)]) P_i139_113 rfl (show P_aw _ _ _ 115 [.ref (w.2.2 0), P_z t, P_z a, P_z b, P_z e, .ref (w.2.2 k), P_z cl] [.ref (w.2.2 k)] _ _ from ?_)
    refine P_aw_call P_i139_115 rfl rfl (fun _ => rfl) rfl rfl rfl rfl (y2 := 120) (as := [.ref (w.2.2 k)]) (r0 := []) (P_inv_v hT.1.2 hT.1.1 rfl rfl) (Nat.le_of_ble_eq_true rfl) (by decide) rfl (Nat.le_of_ble_eq_true rfl) (show P_aw _ _ _ 0 [.ref (w.2.2 k)] [] _ _ from ?_)
    refine P_aw_op (L' := [.ref (w.2.2 k)]) (st' := [.ref (w.2.2 k)]) P_i120_0 rfl (show P_aw _ _ _ 1 [.ref (w.2.2 k)] [.ref (w.2.2 k)] _ _ from ?_)
    refine P_aw_getv P_i120_1 hT.1.2 hT.1.1 rfl rfl ((P_u2_ne (by omega)).trans ((P_u2_ne (by omega)).trans ((P_u2_ne (by omega)).trans ((P_u2_ne (by omega)).trans ((P_u2_ne (by omega)).trans (A_add_at)))))) (show P_aw _ _ _ 4 [.ref (w.2.2 k)] [P_z (rw + 1)] _ _ from ?_)
    refine P_aw_end P_i120_4 rfl rfl (fun _ => rfl) rfl ?_
    show P_aw _ _ _ 118 [.ref (w.2.2 0), P_z t, P_z a, P_z b, P_z e, .ref (w.2.2 k), P_z cl] [P_z (rw + 1)] _ _
    refine P_aw_end P_i139_118 rfl rfl (fun _ => rfl) rfl ?_
    exact q

theorem s_drop {w : P_Lw} (hw : P_Cw w) {d : Nat} {Q : P_R → P_A → Prop} {σ : P_A} {k : Nat} (hT : P_isT w k) {rw cl : Int} {V : Int → Int → Int} (hr : σ k 3 = rw) (hc : σ k 0 = cl) (hf : ∀ c j, 0 ≤ c → c < cl → 0 ≤ j → j < rw → σ (k + 1) ((j * 3) + c).toNat = V c j) (hg : ∀ c j, 0 ≤ c → c < cl → 0 ≤ j → j < rw → -2147483648 ≤ V c j ∧ V c j ≤ 2147483647) (ht2 : 0 ≤ rw ∧ rw ≤ 14 ∧ 0 ≤ cl ∧ cl ≤ 3) {V' : Int → Int → Int} {p t sz : Int} (hsz : σ 1 2 = sz) (ht : 0 ≤ t ∧ t < sz ∧ sz ≤ 5) (hk : σ 2 t.toNat = ((k : Nat) : Int)) (hk50 : 50 ≤ k) (hV : ∀ c j, V' c j = if j < p then V c j else V c (j + 1)) (hg' : ∀ c j, 0 ≤ c → c < cl → 0 ≤ j → j < rw - 1 → -2147483648 ≤ V' c j ∧ V' c j ≤ 2147483647) (hp : 0 ≤ p ∧ p < rw) (q : Q (.inl (some (P_z (rw - 1)))) (A_oth (P_cv (A_rm σ k rw p) k cl (fun c => P_dv (V' c) (rw - 1).toNat 0 0)))) : P_aw w (d + 6) 140 0 [.ref (w.2.2 0), P_z t, P_z p, P_un] [] σ Q := by
  refine P_aw_op (L' := [.ref (w.2.2 0), P_z t, P_z p, P_un]) (st' := [.ref (w.2.2 0)]) P_i140_0 rfl (show P_aw _ _ _ 1 [.ref (w.2.2 0), P_z t, P_z p, P_un] [.ref (w.2.2 0)] _ _ from ?_)
  refine P_aw_getR P_i140_1 (hw.2.1 0 (by decide)) (hw.s rfl) rfl rfl (show P_aw _ _ _ 4 [.ref (w.2.2 0), P_z t, P_z p, P_un] [.ref (w.2.2 1)] _ _ from ?_)
  refine P_aw_op (L' := [.ref (w.2.2 0), P_z t, P_z p, P_un]) (st' := [P_z t, .ref (w.2.2 1)]) P_i140_4 rfl (show P_aw _ _ _ 5 [.ref (w.2.2 0), P_z t, P_z p, P_un] [P_z t, .ref (w.2.2 1)] _ _ from ?_)
  refine P_aw_call P_i140_5 rfl rfl (fun _ => rfl) rfl rfl rfl rfl (y2 := 115) (as := [.ref (w.2.2 1), P_z t]) (r0 := []) (P_inv_v (hw.2.1 1 (by decide)) (hw.s rfl) rfl rfl) (Nat.le_of_ble_eq_true rfl) (by decide) rfl (Nat.le_of_ble_eq_true rfl) (show P_aw _ _ _ 0 [.ref (w.2.2 1), P_z t] [] _ _ from ?_)
  refine P_aw_op (L' := [.ref (w.2.2 1), P_z t]) (st' := [P_z t]) P_i115_0 rfl (show P_aw _ _ _ 1 [.ref (w.2.2 1), P_z t] [P_z t] _ _ from ?_)
  refine P_aw_izf P_i115_1 ⟨by omega, by omega⟩ (P_ci_ltf (by omega)) (show P_aw _ _ _ 4 [.ref (w.2.2 1), P_z t] [] _ _ from ?_)
  refine P_aw_op (L' := [.ref (w.2.2 1), P_z t]) (st' := [P_z t]) P_i115_4 rfl (show P_aw _ _ _ 5 [.ref (w.2.2 1), P_z t] [P_z t] _ _ from ?_)
  refine P_aw_op (L' := [.ref (w.2.2 1), P_z t]) (st' := [.ref (w.2.2 1), P_z t]) P_i115_5 rfl (show P_aw _ _ _ 6 [.ref (w.2.2 1), P_z t] [.ref (w.2.2 1), P_z t] _ _ from ?_)
  refine P_aw_getv P_i115_6 (hw.2.1 1 (by decide)) (hw.s rfl) rfl rfl (hsz) (show P_aw _ _ _ 9 [.ref (w.2.2 1), P_z t] [P_z sz, P_z t] _ _ from ?_)
  refine P_aw_icf P_i115_9 ⟨by omega, by omega⟩ ⟨by omega, by omega⟩ (P_ci_gef (by omega)) (show P_aw _ _ _ 12 [.ref (w.2.2 1), P_z t] [] _ _ from ?_)
  refine P_aw_op (L' := [.ref (w.2.2 1), P_z t]) (st' := [P_z 1]) P_i115_12 rfl (show P_aw _ _ _ 13 [.ref (w.2.2 1), P_z t] [P_z 1] _ _ from ?_)
  refine P_aw_goto P_i115_13 (show P_aw _ _ _ 17 [.ref (w.2.2 1), P_z t] [P_z 1] _ _ from ?_)
  refine P_aw_end P_i115_17 rfl rfl (fun _ => rfl) rfl ?_
  show P_aw _ _ _ 8 [.ref (w.2.2 0), P_z t, P_z p, P_un] [P_z 1] _ _
  refine P_aw_izf P_i140_8 ⟨by decide, by decide⟩ (P_ci_eqf (by omega)) (show P_aw _ _ _ 11 [.ref (w.2.2 0), P_z t, P_z p, P_un] [] _ _ from ?_)
  refine P_aw_op (L' := [.ref (w.2.2 0), P_z t, P_z p, P_un]) (st' := [P_z p]) P_i140_11 rfl (show P_aw _ _ _ 12 [.ref (w.2.2 0), P_z t, P_z p, P_un] [P_z p] _ _ from ?_)
  refine P_aw_izf P_i140_12 ⟨by omega, by omega⟩ (P_ci_ltf (by omega)) (show P_aw _ _ _ 15 [.ref (w.2.2 0), P_z t, P_z p, P_un] [] _ _ from ?_)
  refine P_aw_op (L' := [.ref (w.2.2 0), P_z t, P_z p, P_un]) (st' := [P_z p]) P_i140_15 rfl (show P_aw _ _ _ 16 [.ref (w.2.2 0), P_z t, P_z p, P_un] [P_z p] _ _ from ?_)
  refine P_aw_op (L' := [.ref (w.2.2 0), P_z t, P_z p, P_un]) (st' := [.ref (w.2.2 0), P_z p]) P_i140_16 rfl (show P_aw _ _ _ 17 [.ref (w.2.2 0), P_z t, P_z p, P_un] [.ref (w.2.2 0), P_z p] _ _ from ?_)
  refine P_aw_getR P_i140_17 (hw.2.1 0 (by decide)) (hw.s rfl) rfl rfl (show P_aw _ _ _ 20 [.ref (w.2.2 0), P_z t, P_z p, P_un] [.ref (w.2.2 1), P_z p] _ _ from ?_)
  refine P_aw_op (L' := [.ref (w.2.2 0), P_z t, P_z p, P_un]) (st' := [P_z t, .ref (w.2.2 1), P_z p]) P_i140_20 rfl (show P_aw _ _ _ 21 [.ref (w.2.2 0), P_z t, P_z p, P_un] [P_z t, .ref (w.2.2 1), P_z p] _ _ from ?_)
  refine P_aw_call P_i140_21 rfl rfl (fun _ => rfl) rfl rfl rfl rfl (y2 := 116) (as := [.ref (w.2.2 1), P_z t]) (r0 := [P_z p]) (P_inv_v (hw.2.1 1 (by decide)) (hw.s rfl) rfl rfl) (Nat.le_of_ble_eq_true rfl) (by decide) rfl (Nat.le_of_ble_eq_true rfl) (show P_aw _ _ _ 0 [.ref (w.2.2 1), P_z t, P_un] [] _ _ from ?_)
  refine P_aw_op (L' := [.ref (w.2.2 1), P_z t, P_un]) (st' := [P_z t]) P_i116_0 rfl (show P_aw _ _ _ 1 [.ref (w.2.2 1), P_z t, P_un] [P_z t] _ _ from ?_)
  refine P_aw_izf P_i116_1 ⟨by omega, by omega⟩ (P_ci_ltf (by omega)) (show P_aw _ _ _ 4 [.ref (w.2.2 1), P_z t, P_un] [] _ _ from ?_)
  refine P_aw_op (L' := [.ref (w.2.2 1), P_z t, P_un]) (st' := [P_z t]) P_i116_4 rfl (show P_aw _ _ _ 5 [.ref (w.2.2 1), P_z t, P_un] [P_z t] _ _ from ?_)
  refine P_aw_op (L' := [.ref (w.2.2 1), P_z t, P_un]) (st' := [.ref (w.2.2 1), P_z t]) P_i116_5 rfl (show P_aw _ _ _ 6 [.ref (w.2.2 1), P_z t, P_un] [.ref (w.2.2 1), P_z t] _ _ from ?_)
  refine P_aw_getR P_i116_6 (hw.2.1 1 (by decide)) (hw.s rfl) rfl rfl (show P_aw _ _ _ 9 [.ref (w.2.2 1), P_z t, P_un] [.ref (w.2.2 2), P_z t] _ _ from ?_)
  refine P_aw_rlen P_i116_9 (hw.2.1 2 (by decide)) (hw.s rfl) (show P_aw _ _ _ 10 [.ref (w.2.2 1), P_z t, P_un] [P_z 5, P_z t] _ _ from ?_)
  refine P_aw_ict P_i116_10 ⟨by omega, by omega⟩ ⟨by decide, by decide⟩ (P_ci_ltt (by omega)) (show P_aw _ _ _ 18 [.ref (w.2.2 1), P_z t, P_un] [] _ _ from ?_)
  refine P_aw_op (L' := [.ref (w.2.2 1), P_z t, P_un]) (st' := [.ref (w.2.2 1)]) P_i116_18 rfl (show P_aw _ _ _ 19 [.ref (w.2.2 1), P_z t, P_un] [.ref (w.2.2 1)] _ _ from ?_)
  refine P_aw_getR P_i116_19 (hw.2.1 1 (by decide)) (hw.s rfl) rfl rfl (show P_aw _ _ _ 22 [.ref (w.2.2 1), P_z t, P_un] [.ref (w.2.2 2)] _ _ from ?_)
  refine P_aw_op (L' := [.ref (w.2.2 1), P_z t, P_un]) (st' := [P_z t, .ref (w.2.2 2)]) P_i116_22 rfl (show P_aw _ _ _ 23 [.ref (w.2.2 1), P_z t, P_un] [P_z t, .ref (w.2.2 2)] _ _ from ?_)
  refine P_aw_rldv P_i116_23 (hw.2.1 2 (by decide)) (hw.s rfl) (by decide) (by omega) (by omega) (by decide) (hk) (by omega) (show P_aw _ _ _ 24 [.ref (w.2.2 1), P_z t, P_un] [.ref (w.2.2 k)] _ _ from ?_)
  refine P_aw_op (L' := [.ref (w.2.2 1), P_z t, .ref (w.2.2 k)]) (st' := []) P_i116_24 rfl (show P_aw _ _ _ 25 [.ref (w.2.2 1), P_z t, .ref (w.2.2 k)] [] _ _ from ?_)
  refine P_aw_op (L' := [.ref (w.2.2 1), P_z t, .ref (w.2.2 k)]) (st' := [.ref (w.2.2 k)]) P_i116_25 rfl (show P_aw _ _ _ 26 [.ref (w.2.2 1), P_z t, .ref (w.2.2 k)] [.ref (w.2.2 k)] _ _ from ?_)
  refine P_aw_brt P_i116_26 rfl (show P_aw _ _ _ 36 [.ref (w.2.2 1), P_z t, .ref (w.2.2 k)] [] _ _ from ?_)
  refine P_aw_op (L' := [.ref (w.2.2 1), P_z t, .ref (w.2.2 k)]) (st' := [.ref (w.2.2 k)]) P_i116_36 rfl (show P_aw _ _ _ 37 [.ref (w.2.2 1), P_z t, .ref (w.2.2 k)] [.ref (w.2.2 k)] _ _ from ?_)
  refine P_aw_end P_i116_37 rfl rfl (fun _ => rfl) rfl ?_
  show P_aw _ _ _ 24 [.ref (w.2.2 0), P_z t, P_z p, P_un] [.ref (w.2.2 k), P_z p] _ _
  refine P_aw_call P_i140_24 rfl rfl (fun _ => rfl) rfl rfl rfl rfl (y2 := 120) (as := [.ref (w.2.2 k)]) (r0 := [P_z p]) (P_inv_v hT.1.2 hT.1.1 rfl rfl) (Nat.le_of_ble_eq_true rfl) (by decide) rfl (Nat.le_of_ble_eq_true rfl) (show P_aw _ _ _ 0 [.ref (w.2.2 k)] [] _ _ from ?_)
  refine P_aw_op (L' := [.ref (w.2.2 k)]) (st' := [.ref (w.2.2 k)]) P_i120_0 rfl (show P_aw _ _ _ 1 [.ref (w.2.2 k)] [.ref (w.2.2 k)] _ _ from ?_)
  refine P_aw_getv P_i120_1 hT.1.2 hT.1.1 rfl rfl (hr) (show P_aw _ _ _ 4 [.ref (w.2.2 k)] [P_z rw] _ _ from ?_)
  refine P_aw_end P_i120_4 rfl rfl (fun _ => rfl) rfl ?_
  show P_aw _ _ _ 27 [.ref (w.2.2 0), P_z t, P_z p, P_un] [P_z rw, P_z p] _ _
  refine P_aw_ict P_i140_27 ⟨by omega, by omega⟩ ⟨by omega, by omega⟩ (P_ci_ltt (by omega)) (show P_aw _ _ _ 40 [.ref (w.2.2 0), P_z t, P_z p, P_un] [] _ _ from ?_)
  refine P_aw_op (L' := [.ref (w.2.2 0), P_z t, P_z p, P_un]) (st' := [.ref (w.2.2 0)]) P_i140_40 rfl (show P_aw _ _ _ 41 [.ref (w.2.2 0), P_z t, P_z p, P_un] [.ref (w.2.2 0)] _ _ from ?_)
  refine P_aw_getR P_i140_41 (hw.2.1 0 (by decide)) (hw.s rfl) rfl rfl (show P_aw _ _ _ 44 [.ref (w.2.2 0), P_z t, P_z p, P_un] [.ref (w.2.2 1)] _ _ from ?_)
  refine P_aw_op (L' := [.ref (w.2.2 0), P_z t, P_z p, P_un]) (st' := [P_z t, .ref (w.2.2 1)]) P_i140_44 rfl (show P_aw _ _ _ 45 [.ref (w.2.2 0), P_z t, P_z p, P_un] [P_z t, .ref (w.2.2 1)] _ _ from ?_)
  refine P_aw_call P_i140_45 rfl rfl (fun _ => rfl) rfl rfl rfl rfl (y2 := 116) (as := [.ref (w.2.2 1), P_z t]) (r0 := []) (P_inv_v (hw.2.1 1 (by decide)) (hw.s rfl) rfl rfl) (Nat.le_of_ble_eq_true rfl) (by decide) rfl (Nat.le_of_ble_eq_true rfl) (show P_aw _ _ _ 0 [.ref (w.2.2 1), P_z t, P_un] [] _ _ from ?_)
  refine P_aw_op (L' := [.ref (w.2.2 1), P_z t, P_un]) (st' := [P_z t]) P_i116_0 rfl (show P_aw _ _ _ 1 [.ref (w.2.2 1), P_z t, P_un] [P_z t] _ _ from ?_)
  refine P_aw_izf P_i116_1 ⟨by omega, by omega⟩ (P_ci_ltf (by omega)) (show P_aw _ _ _ 4 [.ref (w.2.2 1), P_z t, P_un] [] _ _ from ?_)
  refine P_aw_op (L' := [.ref (w.2.2 1), P_z t, P_un]) (st' := [P_z t]) P_i116_4 rfl (show P_aw _ _ _ 5 [.ref (w.2.2 1), P_z t, P_un] [P_z t] _ _ from ?_)
  refine P_aw_op (L' := [.ref (w.2.2 1), P_z t, P_un]) (st' := [.ref (w.2.2 1), P_z t]) P_i116_5 rfl (show P_aw _ _ _ 6 [.ref (w.2.2 1), P_z t, P_un] [.ref (w.2.2 1), P_z t] _ _ from ?_)
  refine P_aw_getR P_i116_6 (hw.2.1 1 (by decide)) (hw.s rfl) rfl rfl (show P_aw _ _ _ 9 [.ref (w.2.2 1), P_z t, P_un] [.ref (w.2.2 2), P_z t] _ _ from ?_)
  refine P_aw_rlen P_i116_9 (hw.2.1 2 (by decide)) (hw.s rfl) (show P_aw _ _ _ 10 [.ref (w.2.2 1), P_z t, P_un] [P_z 5, P_z t] _ _ from ?_)
  refine P_aw_ict P_i116_10 ⟨by omega, by omega⟩ ⟨by decide, by decide⟩ (P_ci_ltt (by omega)) (show P_aw _ _ _ 18 [.ref (w.2.2 1), P_z t, P_un] [] _ _ from ?_)
  refine P_aw_op (L' := [.ref (w.2.2 1), P_z t, P_un]) (st' := [.ref (w.2.2 1)]) P_i116_18 rfl (show P_aw _ _ _ 19 [.ref (w.2.2 1), P_z t, P_un] [.ref (w.2.2 1)] _ _ from ?_)
  refine P_aw_getR P_i116_19 (hw.2.1 1 (by decide)) (hw.s rfl) rfl rfl (show P_aw _ _ _ 22 [.ref (w.2.2 1), P_z t, P_un] [.ref (w.2.2 2)] _ _ from ?_)
  refine P_aw_op (L' := [.ref (w.2.2 1), P_z t, P_un]) (st' := [P_z t, .ref (w.2.2 2)]) P_i116_22 rfl (show P_aw _ _ _ 23 [.ref (w.2.2 1), P_z t, P_un] [P_z t, .ref (w.2.2 2)] _ _ from ?_)
  refine P_aw_rldv P_i116_23 (hw.2.1 2 (by decide)) (hw.s rfl) (by decide) (by omega) (by omega) (by decide) (hk) (by omega) (show P_aw _ _ _ 24 [.ref (w.2.2 1), P_z t, P_un] [.ref (w.2.2 k)] _ _ from ?_)
  refine P_aw_op (L' := [.ref (w.2.2 1), P_z t, .ref (w.2.2 k)]) (st' := []) P_i116_24 rfl (show P_aw _ _ _ 25 [.ref (w.2.2 1), P_z t, .ref (w.2.2 k)] [] _ _ from ?_)
  refine P_aw_op (L' := [.ref (w.2.2 1), P_z t, .ref (w.2.2 k)]) (st' := [.ref (w.2.2 k)]) P_i116_25 rfl (show P_aw _ _ _ 26 [.ref (w.2.2 1), P_z t, .ref (w.2.2 k)] [.ref (w.2.2 k)] _ _ from ?_)
  refine P_aw_brt P_i116_26 rfl (show P_aw _ _ _ 36 [.ref (w.2.2 1), P_z t, .ref (w.2.2 k)] [] _ _ from ?_)
  refine P_aw_op (L' := [.ref (w.2.2 1), P_z t, .ref (w.2.2 k)]) (st' := [.ref (w.2.2 k)]) P_i116_36 rfl (show P_aw _ _ _ 37 [.ref (w.2.2 1), P_z t, .ref (w.2.2 k)] [.ref (w.2.2 k)] _ _ from ?_)
  refine P_aw_end P_i116_37 rfl rfl (fun _ => rfl) rfl ?_
  show P_aw _ _ _ 48 [.ref (w.2.2 0), P_z t, P_z p, P_un] [.ref (w.2.2 k)] _ _
  refine P_aw_op (L' := [.ref (w.2.2 0), P_z t, P_z p, .ref (w.2.2 k)]) (st' := []) P_i140_48 rfl (show P_aw _ _ _ 49 [.ref (w.2.2 0), P_z t, P_z p, .ref (w.2.2 k)] [] _ _ from ?_)
  refine P_aw_op (L' := [.ref (w.2.2 0), P_z t, P_z p, .ref (w.2.2 k)]) (st' := [.ref (w.2.2 k)]) P_i140_49 rfl (show P_aw _ _ _ 50 [.ref (w.2.2 0), P_z t, P_z p, .ref (w.2.2 k)] [.ref (w.2.2 k)] _ _ from ?_)
  refine P_aw_op (L' := [.ref (w.2.2 0), P_z t, P_z p, .ref (w.2.2 k)]) (st' := [P_z p, .ref (w.2.2 k)]) P_i140_50 rfl (show P_aw _ _ _ 51 [.ref (w.2.2 0), P_z t, P_z p, .ref (w.2.2 k)] [P_z p, .ref (w.2.2 k)] _ _ from ?_)
  refine P_aw_call P_i140_51 rfl rfl (fun _ => rfl) rfl rfl rfl rfl (y2 := 124) (as := [.ref (w.2.2 k), P_z p]) (r0 := []) (P_inv_v hT.1.2 hT.1.1 rfl rfl) (Nat.le_of_ble_eq_true rfl) (by decide) rfl (Nat.le_of_ble_eq_true rfl) (s_rm (V := V) (V' := V') hw hT hr hc hf hg ht2 hV hg' hp ?_)
  show P_aw _ _ _ 54 [.ref (w.2.2 0), P_z t, P_z p, .ref (w.2.2 k)] [] _ _
  refine P_aw_op (L' := [.ref (w.2.2 0), P_z t, P_z p, .ref (w.2.2 k)]) (st' := [.ref (w.2.2 0)]) P_i140_54 rfl (show P_aw _ _ _ 55 [.ref (w.2.2 0), P_z t, P_z p, .ref (w.2.2 k)] [.ref (w.2.2 0)] _ _ from ?_)
  refine P_aw_call P_i140_55 rfl rfl (fun _ => rfl) rfl rfl rfl rfl (y2 := 169) (as := [.ref (w.2.2 0)]) (r0 := []) (P_inv_v (hw.2.1 0 (by decide)) (hw.s rfl) rfl rfl) (Nat.le_of_ble_eq_true rfl) (by decide) rfl (Nat.le_of_ble_eq_true rfl) (show P_aw _ _ _ 0 [.ref (w.2.2 0)] [] _ _ from ?_)
  refine P_aw_op (L' := [.ref (w.2.2 0)]) (st' := [.ref (w.2.2 0)]) P_i169_0 rfl (show P_aw _ _ _ 1 [.ref (w.2.2 0)] [.ref (w.2.2 0)] _ _ from ?_)
  refine P_aw_getR P_i169_1 (hw.2.1 0 (by decide)) (hw.s rfl) rfl rfl (show P_aw _ _ _ 4 [.ref (w.2.2 0)] [.ref (w.2.2 44)] _ _ from ?_)
  refine P_aw_call P_i169_4 rfl rfl (fun _ => rfl) rfl rfl rfl rfl (y2 := 85) (as := [.ref (w.2.2 44)]) (r0 := []) (P_inv_v hw.2.2 (hw.s rfl) rfl rfl) (Nat.le_of_ble_eq_true rfl) (by decide) rfl (Nat.le_of_ble_eq_true rfl) (show P_aw _ _ _ 0 [.ref (w.2.2 44)] [] _ _ from ?_)
  refine P_aw_op (L' := [.ref (w.2.2 44)]) (st' := [.ref (w.2.2 44)]) P_i85_0 rfl (show P_aw _ _ _ 1 [.ref (w.2.2 44)] [.ref (w.2.2 44)] _ _ from ?_)
  refine P_aw_op (L' := [.ref (w.2.2 44)]) (st' := [P_z 0, .ref (w.2.2 44)]) P_i85_1 rfl (show P_aw _ _ _ 2 [.ref (w.2.2 44)] [P_z 0, .ref (w.2.2 44)] _ _ from ?_)
  refine P_aw_put P_i85_2 hw.2.2 (hw.s rfl) rfl rfl rfl (show P_aw _ _ _ 5 [.ref (w.2.2 44)] [] _ _ from ?_)
  refine P_aw_op (L' := [.ref (w.2.2 44)]) (st' := [.ref (w.2.2 44)]) P_i85_5 rfl (show P_aw _ _ _ 6 [.ref (w.2.2 44)] [.ref (w.2.2 44)] _ _ from ?_)
  refine P_aw_op (L' := [.ref (w.2.2 44)]) (st' := [P_z 0, .ref (w.2.2 44)]) P_i85_6 rfl (show P_aw _ _ _ 7 [.ref (w.2.2 44)] [P_z 0, .ref (w.2.2 44)] _ _ from ?_)
  refine P_aw_put P_i85_7 hw.2.2 (hw.s rfl) rfl rfl rfl (show P_aw _ _ _ 10 [.ref (w.2.2 44)] [] _ _ from ?_)
  refine P_aw_op (L' := [.ref (w.2.2 44)]) (st' := [.ref (w.2.2 44)]) P_i85_10 rfl (show P_aw _ _ _ 11 [.ref (w.2.2 44)] [.ref (w.2.2 44)] _ _ from ?_)
  refine P_aw_op (L' := [.ref (w.2.2 44)]) (st' := [P_z 0, .ref (w.2.2 44)]) P_i85_11 rfl (show P_aw _ _ _ 12 [.ref (w.2.2 44)] [P_z 0, .ref (w.2.2 44)] _ _ from ?_)
  refine P_aw_put P_i85_12 hw.2.2 (hw.s rfl) rfl rfl rfl (show P_aw _ _ _ 15 [.ref (w.2.2 44)] [] _ _ from ?_)
  refine P_aw_op (L' := [.ref (w.2.2 44)]) (st' := [.ref (w.2.2 44)]) P_i85_15 rfl (show P_aw _ _ _ 16 [.ref (w.2.2 44)] [.ref (w.2.2 44)] _ _ from ?_)
  refine P_aw_op (L' := [.ref (w.2.2 44)]) (st' := [P_z 0, .ref (w.2.2 44)]) P_i85_16 rfl (show P_aw _ _ _ 17 [.ref (w.2.2 44)] [P_z 0, .ref (w.2.2 44)] _ _ from ?_)
  refine P_aw_put P_i85_17 hw.2.2 (hw.s rfl) rfl rfl rfl (show P_aw _ _ _ 20 [.ref (w.2.2 44)] [] _ _ from ?_)
  refine P_aw_end P_i85_20 rfl rfl (fun _ => rfl) rfl ?_
  show P_aw _ _ _ 7 [.ref (w.2.2 0)] [] _ _
  refine P_aw_op (L' := [.ref (w.2.2 0)]) (st' := [.ref (w.2.2 0)]) P_i169_7 rfl (show P_aw _ _ _ 8 [.ref (w.2.2 0)] [.ref (w.2.2 0)] _ _ from ?_)
  refine P_aw_getR P_i169_8 (hw.2.1 0 (by decide)) (hw.s rfl) rfl rfl (show P_aw _ _ _ 11 [.ref (w.2.2 0)] [.ref (w.2.2 31)] _ _ from ?_)
  refine P_aw_call P_i169_11 rfl rfl (fun _ => rfl) rfl rfl rfl rfl (y2 := 2) (as := [.ref (w.2.2 31)]) (r0 := []) (P_inv_v (hw.2.1 31 (by decide)) (hw.s rfl) rfl rfl) (Nat.le_of_ble_eq_true rfl) (by decide) rfl (Nat.le_of_ble_eq_true rfl) (show P_aw _ _ _ 0 [.ref (w.2.2 31)] [] _ _ from ?_)
  refine P_aw_op (L' := [.ref (w.2.2 31)]) (st' := [.ref (w.2.2 31)]) P_i2_0 rfl (show P_aw _ _ _ 1 [.ref (w.2.2 31)] [.ref (w.2.2 31)] _ _ from ?_)
  refine P_aw_op (L' := [.ref (w.2.2 31)]) (st' := [P_z 0, .ref (w.2.2 31)]) P_i2_1 rfl (show P_aw _ _ _ 2 [.ref (w.2.2 31)] [P_z 0, .ref (w.2.2 31)] _ _ from ?_)
  refine P_aw_put P_i2_2 (hw.2.1 31 (by decide)) (hw.s rfl) rfl rfl rfl (show P_aw _ _ _ 5 [.ref (w.2.2 31)] [] _ _ from ?_)
  refine P_aw_end P_i2_5 rfl rfl (fun _ => rfl) rfl ?_
  show P_aw _ _ _ 14 [.ref (w.2.2 0)] [] _ _
  refine P_aw_end P_i169_14 rfl rfl (fun _ => rfl) rfl ?_
  show P_aw _ _ _ 58 [.ref (w.2.2 0), P_z t, P_z p, .ref (w.2.2 k)] [] _ _
  refine P_aw_op (L' := [.ref (w.2.2 0), P_z t, P_z p, .ref (w.2.2 k)]) (st' := [.ref (w.2.2 k)]) P_i140_58 rfl (show P_aw _ _ _ 59 [.ref (w.2.2 0), P_z t, P_z p, .ref (w.2.2 k)] [.ref (w.2.2 k)] _ _ from ?_)
  refine P_aw_call P_i140_59 rfl rfl (fun _ => rfl) rfl rfl rfl rfl (y2 := 120) (as := [.ref (w.2.2 k)]) (r0 := []) (P_inv_v hT.1.2 hT.1.1 rfl rfl) (Nat.le_of_ble_eq_true rfl) (by decide) rfl (Nat.le_of_ble_eq_true rfl) (show P_aw _ _ _ 0 [.ref (w.2.2 k)] [] _ _ from ?_)
  refine P_aw_op (L' := [.ref (w.2.2 k)]) (st' := [.ref (w.2.2 k)]) P_i120_0 rfl (show P_aw _ _ _ 1 [.ref (w.2.2 k)] [.ref (w.2.2 k)] _ _ from ?_)
  refine P_aw_getv P_i120_1 hT.1.2 hT.1.1 rfl rfl ((P_u2_ne (by omega)).trans ((P_u2_ne (by omega)).trans ((P_u2_ne (by omega)).trans ((P_u2_ne (by omega)).trans ((P_u2_ne (by omega)).trans (A_rem_at)))))) (show P_aw _ _ _ 4 [.ref (w.2.2 k)] [P_z (rw - 1)] _ _ from ?_)
  refine P_aw_end P_i120_4 rfl rfl (fun _ => rfl) rfl ?_
  show P_aw _ _ _ 62 [.ref (w.2.2 0), P_z t, P_z p, .ref (w.2.2 k)] [P_z (rw - 1)] _ _
  refine P_aw_end P_i140_62 rfl rfl (fun _ => rfl) rfl ?_
  exact q
