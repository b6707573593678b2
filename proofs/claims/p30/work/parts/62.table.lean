/-! the class: Table, written by wip/c1.py -/
/-- the first row from i on, before r, that has the same value as r; r if there is none -/
def P_fa (f : Int → Int) (r : Int) : Nat → Int → Int
  | 0, _ => r
  | n + 1, i => if i < r then if f i = f r then i else P_fa f r n (i + 1) else r
theorem s_fal {w : P_Lw} (hw : P_Cw w) {d : Nat} {σ : P_A} {Q : P_R → P_A → Prop} {k : Nat} (hT : P_isT w k) (hV : ∀ j, -2147483648 ≤ σ (k + 1) j ∧ σ (k + 1) j ≤ 2147483647) {r c : Int} (h1 : 0 ≤ r) (h2 : r < σ k 3) (h3 : σ k 3 ≤ 14) (h4 : 0 ≤ c) (h5 : c < σ k 0) (h6 : σ k 0 ≤ 3) : ∀ (n : Nat) (i : Int), 0 ≤ i → r ≤ i + n → Q (.inl (some (P_z (P_fa (fun (j : Int) => σ (k + 1) ((j * 3) + c).toNat) r n i)))) σ → P_aw w (d + 2) 127 10 [.ref (w.2.2 k), P_z r, P_z c, P_z (σ (k + 1) ((r * 3) + c).toNat), P_z i] [] σ Q := by
  have hs0 := hV ((r * 3) + c).toNat
  intro n
  induction n with
  | zero =>
    intro i h7 h8 q
    refine P_aw_op (L' := [.ref (w.2.2 k), P_z r, P_z c, P_z (σ (k + 1) ((r * 3) + c).toNat), P_z i]) (st' := [P_z i]) P_i127_10 rfl (show P_aw _ _ _ 12 [.ref (w.2.2 k), P_z r, P_z c, P_z (σ (k + 1) ((r * 3) + c).toNat), P_z i] [P_z i] _ _ from ?_)
    refine P_aw_op (L' := [.ref (w.2.2 k), P_z r, P_z c, P_z (σ (k + 1) ((r * 3) + c).toNat), P_z i]) (st' := [P_z r, P_z i]) P_i127_12 rfl (show P_aw _ _ _ 13 [.ref (w.2.2 k), P_z r, P_z c, P_z (σ (k + 1) ((r * 3) + c).toNat), P_z i] [P_z r, P_z i] _ _ from ?_)
    refine P_aw_ict P_i127_13 ⟨by omega, by omega⟩ ⟨by omega, by omega⟩ (P_ci_get (by omega)) (show P_aw _ _ _ 45 [.ref (w.2.2 k), P_z r, P_z c, P_z (σ (k + 1) ((r * 3) + c).toNat), P_z i] [] _ _ from ?_)
    refine P_aw_op (L' := [.ref (w.2.2 k), P_z r, P_z c, P_z (σ (k + 1) ((r * 3) + c).toNat), P_z i]) (st' := [P_z r]) P_i127_45 rfl (show P_aw _ _ _ 46 [.ref (w.2.2 k), P_z r, P_z c, P_z (σ (k + 1) ((r * 3) + c).toNat), P_z i] [P_z r] _ _ from ?_)
    refine P_aw_end P_i127_46 rfl rfl (fun _ => rfl) rfl ?_
    exact q
  | succ n ih =>
    intro i h7 h8 q
    refine P_aw_op (L' := [.ref (w.2.2 k), P_z r, P_z c, P_z (σ (k + 1) ((r * 3) + c).toNat), P_z i]) (st' := [P_z i]) P_i127_10 rfl (show P_aw _ _ _ 12 [.ref (w.2.2 k), P_z r, P_z c, P_z (σ (k + 1) ((r * 3) + c).toNat), P_z i] [P_z i] _ _ from ?_)
    refine P_aw_op (L' := [.ref (w.2.2 k), P_z r, P_z c, P_z (σ (k + 1) ((r * 3) + c).toNat), P_z i]) (st' := [P_z r, P_z i]) P_i127_12 rfl (show P_aw _ _ _ 13 [.ref (w.2.2 k), P_z r, P_z c, P_z (σ (k + 1) ((r * 3) + c).toNat), P_z i] [P_z r, P_z i] _ _ from ?_)
    rcases Int.lt_or_le i r with hc1 | hc1
    · refine P_aw_icf P_i127_13 ⟨by omega, by omega⟩ ⟨by omega, by omega⟩ (P_ci_gef (by omega)) (show P_aw _ _ _ 16 [.ref (w.2.2 k), P_z r, P_z c, P_z (σ (k + 1) ((r * 3) + c).toNat), P_z i] [] _ _ from ?_)
      refine P_aw_op (L' := [.ref (w.2.2 k), P_z r, P_z c, P_z (σ (k + 1) ((r * 3) + c).toNat), P_z i]) (st' := [P_z i]) P_i127_16 rfl (show P_aw _ _ _ 18 [.ref (w.2.2 k), P_z r, P_z c, P_z (σ (k + 1) ((r * 3) + c).toNat), P_z i] [P_z i] _ _ from ?_)
      refine P_aw_op (L' := [.ref (w.2.2 k), P_z r, P_z c, P_z (σ (k + 1) ((r * 3) + c).toNat), P_z i]) (st' := [.ref (w.2.2 k), P_z i]) P_i127_18 rfl (show P_aw _ _ _ 19 [.ref (w.2.2 k), P_z r, P_z c, P_z (σ (k + 1) ((r * 3) + c).toNat), P_z i] [.ref (w.2.2 k), P_z i] _ _ from ?_)
      refine P_aw_get P_i127_19 hT.1.2 hT.1.1 rfl rfl (show P_aw _ _ _ 22 [.ref (w.2.2 k), P_z r, P_z c, P_z (σ (k + 1) ((r * 3) + c).toNat), P_z i] [P_z (σ k 3), P_z i] _ _ from ?_)
      refine P_aw_icf P_i127_22 ⟨by omega, by omega⟩ ⟨by omega, by omega⟩ (P_ci_gef (by omega)) (show P_aw _ _ _ 25 [.ref (w.2.2 k), P_z r, P_z c, P_z (σ (k + 1) ((r * 3) + c).toNat), P_z i] [] _ _ from ?_)
      refine P_aw_op (L' := [.ref (w.2.2 k), P_z r, P_z c, P_z (σ (k + 1) ((r * 3) + c).toNat), P_z i]) (st' := [.ref (w.2.2 k)]) P_i127_25 rfl (show P_aw _ _ _ 26 [.ref (w.2.2 k), P_z r, P_z c, P_z (σ (k + 1) ((r * 3) + c).toNat), P_z i] [.ref (w.2.2 k)] _ _ from ?_)
      refine P_aw_op (L' := [.ref (w.2.2 k), P_z r, P_z c, P_z (σ (k + 1) ((r * 3) + c).toNat), P_z i]) (st' := [P_z i, .ref (w.2.2 k)]) P_i127_26 rfl (show P_aw _ _ _ 28 [.ref (w.2.2 k), P_z r, P_z c, P_z (σ (k + 1) ((r * 3) + c).toNat), P_z i] [P_z i, .ref (w.2.2 k)] _ _ from ?_)
      refine P_aw_op (L' := [.ref (w.2.2 k), P_z r, P_z c, P_z (σ (k + 1) ((r * 3) + c).toNat), P_z i]) (st' := [P_z c, P_z i, .ref (w.2.2 k)]) P_i127_28 rfl (show P_aw _ _ _ 29 [.ref (w.2.2 k), P_z r, P_z c, P_z (σ (k + 1) ((r * 3) + c).toNat), P_z i] [P_z c, P_z i, .ref (w.2.2 k)] _ _ from ?_)
      refine P_aw_call P_i127_29 rfl rfl (fun _ => rfl) rfl rfl rfl rfl (y2 := 122) (as := [.ref (w.2.2 k), P_z i, P_z c]) (r0 := []) (P_inv_v hT.1.2 hT.1.1 rfl rfl) (Nat.le_of_ble_eq_true rfl) (by decide) rfl (Nat.le_of_ble_eq_true rfl) (show P_aw _ _ _ 0 [.ref (w.2.2 k), P_z i, P_z c, P_un] [] _ _ from ?_)
      refine P_aw_op (L' := [.ref (w.2.2 k), P_z i, P_z c, P_un]) (st' := [P_z i]) P_i122_0 rfl (show P_aw _ _ _ 1 [.ref (w.2.2 k), P_z i, P_z c, P_un] [P_z i] _ _ from ?_)
      refine P_aw_izf P_i122_1 ⟨by omega, by omega⟩ (P_ci_ltf (by omega)) (show P_aw _ _ _ 4 [.ref (w.2.2 k), P_z i, P_z c, P_un] [] _ _ from ?_)
      refine P_aw_op (L' := [.ref (w.2.2 k), P_z i, P_z c, P_un]) (st' := [P_z i]) P_i122_4 rfl (show P_aw _ _ _ 5 [.ref (w.2.2 k), P_z i, P_z c, P_un] [P_z i] _ _ from ?_)
      refine P_aw_op (L' := [.ref (w.2.2 k), P_z i, P_z c, P_un]) (st' := [.ref (w.2.2 k), P_z i]) P_i122_5 rfl (show P_aw _ _ _ 6 [.ref (w.2.2 k), P_z i, P_z c, P_un] [.ref (w.2.2 k), P_z i] _ _ from ?_)
      refine P_aw_get P_i122_6 hT.1.2 hT.1.1 rfl rfl (show P_aw _ _ _ 9 [.ref (w.2.2 k), P_z i, P_z c, P_un] [P_z (σ k 3), P_z i] _ _ from ?_)
      refine P_aw_icf P_i122_9 ⟨by omega, by omega⟩ ⟨by omega, by omega⟩ (P_ci_gef (by omega)) (show P_aw _ _ _ 12 [.ref (w.2.2 k), P_z i, P_z c, P_un] [] _ _ from ?_)
      refine P_aw_op (L' := [.ref (w.2.2 k), P_z i, P_z c, P_un]) (st' := [P_z c]) P_i122_12 rfl (show P_aw _ _ _ 13 [.ref (w.2.2 k), P_z i, P_z c, P_un] [P_z c] _ _ from ?_)
      refine P_aw_izf P_i122_13 ⟨by omega, by omega⟩ (P_ci_ltf (by omega)) (show P_aw _ _ _ 16 [.ref (w.2.2 k), P_z i, P_z c, P_un] [] _ _ from ?_)
      refine P_aw_op (L' := [.ref (w.2.2 k), P_z i, P_z c, P_un]) (st' := [P_z c]) P_i122_16 rfl (show P_aw _ _ _ 17 [.ref (w.2.2 k), P_z i, P_z c, P_un] [P_z c] _ _ from ?_)
      refine P_aw_op (L' := [.ref (w.2.2 k), P_z i, P_z c, P_un]) (st' := [.ref (w.2.2 k), P_z c]) P_i122_17 rfl (show P_aw _ _ _ 18 [.ref (w.2.2 k), P_z i, P_z c, P_un] [.ref (w.2.2 k), P_z c] _ _ from ?_)
      refine P_aw_get P_i122_18 hT.1.2 hT.1.1 rfl rfl (show P_aw _ _ _ 21 [.ref (w.2.2 k), P_z i, P_z c, P_un] [P_z (σ k 0), P_z c] _ _ from ?_)
      refine P_aw_ict P_i122_21 ⟨by omega, by omega⟩ ⟨by omega, by omega⟩ (P_ci_ltt (by omega)) (show P_aw _ _ _ 26 [.ref (w.2.2 k), P_z i, P_z c, P_un] [] _ _ from ?_)
      refine P_aw_op (L' := [.ref (w.2.2 k), P_z i, P_z c, P_un]) (st' := [P_z i]) P_i122_26 rfl (show P_aw _ _ _ 27 [.ref (w.2.2 k), P_z i, P_z c, P_un] [P_z i] _ _ from ?_)
      refine P_aw_op (L' := [.ref (w.2.2 k), P_z i, P_z c, P_un]) (st' := [P_z 3, P_z i]) P_i122_27 rfl (show P_aw _ _ _ 28 [.ref (w.2.2 k), P_z i, P_z c, P_un] [P_z 3, P_z i] _ _ from ?_)
      refine P_aw_op (L' := [.ref (w.2.2 k), P_z i, P_z c, P_un]) (st' := [P_z (i * 3)]) P_i122_28 P_o_imul (show P_aw _ _ _ 29 [.ref (w.2.2 k), P_z i, P_z c, P_un] [P_z (i * 3)] _ _ from ?_)
      refine P_aw_op (L' := [.ref (w.2.2 k), P_z i, P_z c, P_un]) (st' := [P_z c, P_z (i * 3)]) P_i122_29 rfl (show P_aw _ _ _ 30 [.ref (w.2.2 k), P_z i, P_z c, P_un] [P_z c, P_z (i * 3)] _ _ from ?_)
      refine P_aw_op (L' := [.ref (w.2.2 k), P_z i, P_z c, P_un]) (st' := [P_z ((i * 3) + c)]) P_i122_30 P_o_iadd (show P_aw _ _ _ 31 [.ref (w.2.2 k), P_z i, P_z c, P_un] [P_z ((i * 3) + c)] _ _ from ?_)
      refine P_aw_op (L' := [.ref (w.2.2 k), P_z i, P_z c, P_z ((i * 3) + c)]) (st' := []) P_i122_31 rfl (show P_aw _ _ _ 32 [.ref (w.2.2 k), P_z i, P_z c, P_z ((i * 3) + c)] [] _ _ from ?_)
      refine P_aw_op (L' := [.ref (w.2.2 k), P_z i, P_z c, P_z ((i * 3) + c)]) (st' := [P_z ((i * 3) + c)]) P_i122_32 rfl (show P_aw _ _ _ 33 [.ref (w.2.2 k), P_z i, P_z c, P_z ((i * 3) + c)] [P_z ((i * 3) + c)] _ _ from ?_)
      refine P_aw_izf P_i122_33 ⟨by omega, by omega⟩ (P_ci_ltf (by omega)) (show P_aw _ _ _ 36 [.ref (w.2.2 k), P_z i, P_z c, P_z ((i * 3) + c)] [] _ _ from ?_)
      refine P_aw_op (L' := [.ref (w.2.2 k), P_z i, P_z c, P_z ((i * 3) + c)]) (st' := [P_z ((i * 3) + c)]) P_i122_36 rfl (show P_aw _ _ _ 37 [.ref (w.2.2 k), P_z i, P_z c, P_z ((i * 3) + c)] [P_z ((i * 3) + c)] _ _ from ?_)
      refine P_aw_op (L' := [.ref (w.2.2 k), P_z i, P_z c, P_z ((i * 3) + c)]) (st' := [.ref (w.2.2 k), P_z ((i * 3) + c)]) P_i122_37 rfl (show P_aw _ _ _ 38 [.ref (w.2.2 k), P_z i, P_z c, P_z ((i * 3) + c)] [.ref (w.2.2 k), P_z ((i * 3) + c)] _ _ from ?_)
      refine P_aw_getR P_i122_38 hT.1.2 hT.1.1 rfl rfl (show P_aw _ _ _ 41 [.ref (w.2.2 k), P_z i, P_z c, P_z ((i * 3) + c)] [.ref (w.2.2 (k + 1)), P_z ((i * 3) + c)] _ _ from ?_)
      refine P_aw_alen P_i122_41 hT.2.1.2 hT.2.1.1 (show P_aw _ _ _ 42 [.ref (w.2.2 k), P_z i, P_z c, P_z ((i * 3) + c)] [P_z 42, P_z ((i * 3) + c)] _ _ from ?_)
      refine P_aw_icf P_i122_42 ⟨by omega, by omega⟩ ⟨by decide, by decide⟩ (P_ci_gef (by omega)) (show P_aw _ _ _ 45 [.ref (w.2.2 k), P_z i, P_z c, P_z ((i * 3) + c)] [] _ _ from ?_)
      refine P_aw_op (L' := [.ref (w.2.2 k), P_z i, P_z c, P_z ((i * 3) + c)]) (st' := [.ref (w.2.2 k)]) P_i122_45 rfl (show P_aw _ _ _ 46 [.ref (w.2.2 k), P_z i, P_z c, P_z ((i * 3) + c)] [.ref (w.2.2 k)] _ _ from ?_)
      refine P_aw_getR P_i122_46 hT.1.2 hT.1.1 rfl rfl (show P_aw _ _ _ 49 [.ref (w.2.2 k), P_z i, P_z c, P_z ((i * 3) + c)] [.ref (w.2.2 (k + 1))] _ _ from ?_)
      refine P_aw_op (L' := [.ref (w.2.2 k), P_z i, P_z c, P_z ((i * 3) + c)]) (st' := [P_z ((i * 3) + c), .ref (w.2.2 (k + 1))]) P_i122_49 rfl (show P_aw _ _ _ 50 [.ref (w.2.2 k), P_z i, P_z c, P_z ((i * 3) + c)] [P_z ((i * 3) + c), .ref (w.2.2 (k + 1))] _ _ from ?_)
      have hg2 := hV ((i * 3) + c).toNat
      refine P_aw_ald P_i122_50 hT.2.1.2 hT.2.1.1 (by omega) (by omega) (by decide) (show P_aw _ _ _ 51 [.ref (w.2.2 k), P_z i, P_z c, P_z ((i * 3) + c)] [P_z (σ (k + 1) ((i * 3) + c).toNat)] _ _ from ?_)
      refine P_aw_goto P_i122_51 (show P_aw _ _ _ 55 [.ref (w.2.2 k), P_z i, P_z c, P_z ((i * 3) + c)] [P_z (σ (k + 1) ((i * 3) + c).toNat)] _ _ from ?_)
      refine P_aw_end P_i122_55 rfl rfl (fun _ => rfl) rfl ?_
      show P_aw _ _ _ 32 [.ref (w.2.2 k), P_z r, P_z c, P_z (σ (k + 1) ((r * 3) + c).toNat), P_z i] [P_z (σ (k + 1) ((i * 3) + c).toNat)] _ _
      refine P_aw_op (L' := [.ref (w.2.2 k), P_z r, P_z c, P_z (σ (k + 1) ((r * 3) + c).toNat), P_z i]) (st' := [P_z (σ (k + 1) ((r * 3) + c).toNat), P_z (σ (k + 1) ((i * 3) + c).toNat)]) P_i127_32 rfl (show P_aw _ _ _ 33 [.ref (w.2.2 k), P_z r, P_z c, P_z (σ (k + 1) ((r * 3) + c).toNat), P_z i] [P_z (σ (k + 1) ((r * 3) + c).toNat), P_z (σ (k + 1) ((i * 3) + c).toNat)] _ _ from ?_)
      by_cases hc3 : (σ (k + 1) ((i * 3) + c).toNat) = (σ (k + 1) ((r * 3) + c).toNat)
      · refine P_aw_icf P_i127_33 ⟨by omega, by omega⟩ ⟨by omega, by omega⟩ (P_ci_nef (by omega)) (show P_aw _ _ _ 36 [.ref (w.2.2 k), P_z r, P_z c, P_z (σ (k + 1) ((r * 3) + c).toNat), P_z i] [] _ _ from ?_)
        refine P_aw_op (L' := [.ref (w.2.2 k), P_z r, P_z c, P_z (σ (k + 1) ((r * 3) + c).toNat), P_z i]) (st' := [P_z i]) P_i127_36 rfl (show P_aw _ _ _ 38 [.ref (w.2.2 k), P_z r, P_z c, P_z (σ (k + 1) ((r * 3) + c).toNat), P_z i] [P_z i] _ _ from ?_)
        refine P_aw_end P_i127_38 rfl rfl (fun _ => rfl) rfl ?_
        exact P_qz (by simp only [P_fa]; (repeat' split) <;> first | rfl | omega | (exfalso; omega) | (exfalso; simp_all; done)) rfl q
      · refine P_aw_ict P_i127_33 ⟨by omega, by omega⟩ ⟨by omega, by omega⟩ (P_ci_net (by omega)) (show P_aw _ _ _ 39 [.ref (w.2.2 k), P_z r, P_z c, P_z (σ (k + 1) ((r * 3) + c).toNat), P_z i] [] _ _ from ?_)
        refine P_aw_op (L' := [.ref (w.2.2 k), P_z r, P_z c, P_z (σ (k + 1) ((r * 3) + c).toNat), P_z (i + 1)]) (st' := []) P_i127_39 (P_o_iinc rfl) (show P_aw _ _ _ 42 [.ref (w.2.2 k), P_z r, P_z c, P_z (σ (k + 1) ((r * 3) + c).toNat), P_z (i + 1)] [] _ _ from ?_)
        refine P_aw_goto P_i127_42 (show P_aw _ _ _ 10 [.ref (w.2.2 k), P_z r, P_z c, P_z (σ (k + 1) ((r * 3) + c).toNat), P_z (i + 1)] [] _ _ from ?_)
        exact ih (i + 1) (by omega) (by omega) (P_qz (by simp only [P_fa]; (repeat' split) <;> first | rfl | omega | (exfalso; omega) | (exfalso; simp_all; done)) rfl q)
    · refine P_aw_ict P_i127_13 ⟨by omega, by omega⟩ ⟨by omega, by omega⟩ (P_ci_get (by omega)) (show P_aw _ _ _ 45 [.ref (w.2.2 k), P_z r, P_z c, P_z (σ (k + 1) ((r * 3) + c).toNat), P_z i] [] _ _ from ?_)
      refine P_aw_op (L' := [.ref (w.2.2 k), P_z r, P_z c, P_z (σ (k + 1) ((r * 3) + c).toNat), P_z i]) (st' := [P_z r]) P_i127_45 rfl (show P_aw _ _ _ 46 [.ref (w.2.2 k), P_z r, P_z c, P_z (σ (k + 1) ((r * 3) + c).toNat), P_z i] [P_z r] _ _ from ?_)
      refine P_aw_end P_i127_46 rfl rfl (fun _ => rfl) rfl ?_
      exact P_qz (by simp only [P_fa]; (repeat' split) <;> first | rfl | omega | (exfalso; omega) | (exfalso; simp_all; done)) rfl q

